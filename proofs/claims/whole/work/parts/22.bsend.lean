/-! BROADCASTS SEND -/
section BS
variable {X : xPar} {sb L : Nat} {xs : Nat → Int32} {tI tE mi nb dyn c0 s0 mo me e i a : Nat} {q : Nat → List sMg} {β : sB} {w : xW} {P : Option Value → xW → Prop}
theorem s_Bc_proposalOf (hX : xS X sb L xs tI tE mi) {mm : Int32} {g : Nat → Bool} (hmm : mm = nI (cMk g)) (hR : rBc X nb me e i a β w) (h : P (some (.int (nI (cGv g (fun s => cUn (β.2 (16 + s))))))) w) : xE (xGG X) 2 m_Bc_proposalOf 0 [(0, .ref a), (1, .int mm)] [] w P := by
  subst hmm
  obtain ⟨g1, g2, ⟨f, g3, g3b⟩, g4, g5⟩ := hR
  have fe : ∀ s, s < 4 → f s = nI (cUn (β.2 (16 + s))) := fun s hs => (g3b s hs).trans (nI_cUn _).symm
  have rs : ∀ j, (List.range (j + 1)).filter g = (List.range j).filter g ++ (if g j = true then [j] else []) := fun j => by
    rw [List.range_succ, List.filter_append]
    by_cases z : g j = true
    · simp [z]
    · simp [z]
  have loop : ∀ (n j : Nat) (cc ll : Int32), cc = nI j → j + n = 4 → (((List.range j).filter g = [] ∧ ll = -1) ∨ ∃ k, (List.range j).filter g = [k] ∧ ll = nI k ∧ k < j) → xE (xGG X) 2 m_Bc_proposalOf 4 [(0, .ref a), (1, .int (nI (cMk g))), (2, .int ll), (3, .int cc)] [] w P := by
    intro n
    induction n with
    | zero =>
      intro j cc ll hcc hj hst
      have hj4 : j = 4 := by omega
      subst hj4 hcc
      have e0 : cGv g (fun s => cUn (β.2 (16 + s))) = 0 := by
        unfold cGv
        rcases hst with ⟨z, -⟩ | ⟨k, z, -⟩ <;> rw [z]
      refine x_iload_n 5 rfl d_Bc_proposalOf_4 rfl ?_
      refine x_iconst 6 rfl d_Bc_proposalOf_5 4 (by decide) ?_
      refine x_icmp_ge 49 9 rfl d_Bc_proposalOf_6 (by decide) (fun hc => ?_) (fun hc => absurd (by decide) hc)
      refine x_iconst 50 rfl d_Bc_proposalOf_49 0 (by decide) ?_
      refine x_iret d_Bc_proposalOf_50 rfl ?_
      rw [e0] at h
      exact h
    | succ n ih =>
      intro j cc ll hcc hj hst
      subst hcc
      have hj4 : j < 4 := by omega
      refine x_iload_n 5 rfl d_Bc_proposalOf_4 rfl ?_
      refine x_iconst 6 rfl d_Bc_proposalOf_5 4 (by decide) ?_
      refine x_icmp_ge 49 9 rfl d_Bc_proposalOf_6 (by decide) (fun hc => absurd hc (nI_ge (a := j) (b := 4) (by omega) (by decide))) (fun hc => ?_)
      refine x_iload_n 10 rfl d_Bc_proposalOf_9 rfl ?_
      refine x_iload_n 11 rfl d_Bc_proposalOf_10 rfl ?_
      refine x_ishr 12 rfl d_Bc_proposalOf_11 ?_
      refine x_iconst 13 rfl d_Bc_proposalOf_12 1 (by decide) ?_
      refine x_iand 14 rfl d_Bc_proposalOf_13 ?_
      refine x_iconst 15 rfl d_Bc_proposalOf_14 1 (by decide) ?_
      rw [bM1 g hj4]
      refine x_icmp_ne 43 18 rfl d_Bc_proposalOf_15 (by decide) (fun hc => ?_) (fun hc => ?_)
      · have hgj : ¬ g j = true := fun z => hc (by rw [z]; rfl)
        refine x_iinc 46 rfl d_Bc_proposalOf_43 rfl 1 (by decide) (by decide) ?_
        refine x_goto d_Bc_proposalOf_46 4 (by decide) ?_
        refine xE.fit (ih (j + 1) _ _ (nI_succ j).symm (by omega) ?_) rfl
        rw [rs j, if_neg hgj, List.append_nil]
        rcases hst with z | ⟨k, z1, z2, z3⟩
        · exact Or.inl z
        · exact Or.inr ⟨k, z1, z2, by omega⟩
      · have hgj : g j = true := (nB_1 _).mp hc
        refine x_iload_n 19 rfl d_Bc_proposalOf_18 rfl ?_
        refine x_iconst 20 rfl d_Bc_proposalOf_19 (-1) (by decide) ?_
        rcases hst with ⟨z1, rfl⟩ | ⟨k, z1, rfl, z3⟩
        · refine x_icmp_eq 41 23 rfl d_Bc_proposalOf_20 (by decide) (fun hc => ?_) (fun hc => absurd rfl hc)
          refine x_iload_n 42 rfl d_Bc_proposalOf_41 rfl ?_
          refine x_istore_n 43 rfl d_Bc_proposalOf_42 (by decide) ?_
          refine x_iinc 46 rfl d_Bc_proposalOf_43 rfl 1 (by decide) (by decide) ?_
          refine x_goto d_Bc_proposalOf_46 4 (by decide) ?_
          refine xE.fit (ih (j + 1) _ _ (nI_succ j).symm (by omega) (Or.inr ⟨j, ?_, rfl, by omega⟩)) rfl
          rw [rs j, if_pos hgj, z1]; rfl
        · refine x_icmp_eq 41 23 rfl d_Bc_proposalOf_20 (by decide) (fun hc => absurd hc ((by decide +kernel : ∀ s, s < 4 → ¬ nI s = -1) k (by omega))) (fun hc => ?_)
          refine x_iload_n 24 rfl d_Bc_proposalOf_23 rfl ?_
          refine x_aload_n 25 rfl d_Bc_proposalOf_24 rfl ?_
          refine x_get 28 rfl f_Bc_18 d_Bc_proposalOf_25 g1 rfl ?_
          refine x_iload_n 29 rfl d_Bc_proposalOf_28 rfl ?_
          refine x_iald 30 rfl d_Bc_proposalOf_29 g3 (t0 := 0) rfl (vp_in_nI (by omega) (by decide)) ?_
          refine x_iload_n 31 rfl d_Bc_proposalOf_30 rfl ?_
          refine x_aload_n 32 rfl d_Bc_proposalOf_31 rfl ?_
          refine x_get 35 rfl f_Bc_18 d_Bc_proposalOf_32 g1 rfl ?_
          refine x_iload_n 36 rfl d_Bc_proposalOf_35 rfl ?_
          rw [nI_clamp (by omega), fe k (by omega)]
          refine x_iald 37 rfl d_Bc_proposalOf_36 g3 (t0 := 0) rfl (vp_in_nI (by omega) (by decide)) ?_
          rw [nI_clamp (by omega), fe j hj4]
          refine y_call 40 rfl [_, _, _, _] _ rfl d_Bc_proposalOf_37 c_Bc_126 rfl (Nat.le_of_ble_eq_true rfl) (Nat.le_of_ble_eq_true rfl) (Nat.le_of_ble_eq_true rfl) (s_Co_proposalWith hX rfl rfl rfl rfl (by omega) hj4 (by omega) (g5 k (by omega)) (g5 j hj4) ?_)
          refine x_iret d_Bc_proposalOf_40 rfl ?_
          have hfil : ∃ t, (List.range 4).filter g = k :: j :: t := by
            have h5 : (List.range (j + 1)).filter g = [k, j] := by rw [rs j, if_pos hgj, z1]; rfl
            have h6 : List.range 4 = List.range (j + 1) ++ (List.range 4).drop (j + 1) := by
              rcases lt4 hj4 with rfl | rfl | rfl | rfl <;> rfl
            rw [h6, List.filter_append, h5]
            exact ⟨_, rfl⟩
          obtain ⟨t, ht⟩ := hfil
          have e0 : cGv g (fun s => cUn (β.2 (16 + s))) = cSv k (cUn (β.2 (16 + k))) j (cUn (β.2 (16 + j))) := by
            unfold cGv
            rw [ht]
          rw [e0] at h
          exact h
  refine x_iconst 1 rfl d_Bc_proposalOf_0 (-1) (by decide) ?_
  refine x_istore_n 2 rfl d_Bc_proposalOf_1 (by decide) ?_
  refine x_iconst 3 rfl d_Bc_proposalOf_2 0 (by decide) ?_
  refine x_istore_n 4 rfl d_Bc_proposalOf_3 (by decide) ?_
  exact xE.fit (loop 4 0 0 (-1) rfl rfl (Or.inl ⟨rfl, rfl⟩)) rfl
theorem s_Bc_sendReady (hX : xS X sb L xs tI tE mi) {root : Int32} (hmo : mo < 90000) (hN : rNt X tE nb dyn c0 s0 mo q w) (hR : rBc X nb me e i a β w) (ha : nb + 10 ≤ a) (had : a + 6 ≤ dyn) (h : ∀ w', rNt X tE nb dyn c0 s0 (mo + 1) (qAll q (me, e, i, 2, root, 0)) w' → rBc X nb me e i a (va_up β.1 2 true, β.2) w' → frS X nb dyn a (a + 6) w w' → P none w') : xE (xGG X) 8 m_Bc_sendReady 0 [(0, .ref a), (1, .int root)] [] w P := by
  have g1 := hR.1
  have hql := hN.2.2.2.2.2.2.2
  have hb := hN.2.2.2.2.2.2.1
  have hdw := hN.2.2.1
  refine x_aload_n 1 rfl d_Bc_sendReady_0 rfl ?_
  refine x_iconst 2 rfl d_Bc_sendReady_1 1 (by decide) ?_
  refine x_put 5 rfl p_Bc_98 (fun h => nomatch h) d_Bc_sendReady_2 g1 rfl rfl (Nat.le_of_ble_eq_true rfl) ?_
  generalize hw1 : xset w a _ = w1
  have f1 : fr w w1 a (a + 6) := by rw [← hw1]; exact (fr.rf w a (a + 6)).set _ (by omega) (by omega)
  have hN1 := hN.own f1 hR.cells ha had
  have hR1 : rBc X nb me e i a (va_up β.1 2 true, β.2) w1 := by
    refine hR.obj ?_ (fun x hx => by rw [← hw1, xset_ne _ _ hx]) (fun s hs => by simp only [va_up]; rw [if_neg (by omega)]) (fun s hs => rfl)
    rw [← hw1, xset_at]; rfl
  have k1 := hR1.1
  refine x_aload_n 6 rfl d_Bc_sendReady_5 rfl ?_
  refine x_get 9 rfl f_Bc_29 d_Bc_sendReady_6 k1 rfl ?_
  refine x_new 12 rfl d_Bc_sendReady_9 (ci := 3) (ty := t_Ms) (fs := [.int 0, .int 0, .int 0, .int 0, .int 0, .int 0]) rfl l_Ms t_Ms_ok q_Bc_43 i_Ms z_Ms (by decide) ?_
  have k1' : (xnew w1 6 (.inr (3, [.int 0, .int 0, .int 0, .int 0, .int 0, .int 0]))).2.2 a = some (.inr (1, fBc nb me e i a (va_up β.1 2 true, β.2))) := by rw [xnew_ne _ _ _ (by have := f1.1; omega)]; exact k1
  refine x_dup 13 rfl d_Bc_sendReady_12 rfl ?_
  refine x_aload_n 14 rfl d_Bc_sendReady_13 rfl ?_
  refine x_get 17 rfl f_Bc_33 d_Bc_sendReady_14 k1' rfl ?_
  refine x_aload_n 18 rfl d_Bc_sendReady_17 rfl ?_
  refine x_get 21 rfl f_Bc_36 d_Bc_sendReady_18 k1' rfl ?_
  refine x_aload_n 22 rfl d_Bc_sendReady_21 rfl ?_
  refine x_get 25 rfl f_Bc_39 d_Bc_sendReady_22 k1' rfl ?_
  refine x_iconst 26 rfl d_Bc_sendReady_25 2 (by decide) ?_
  refine x_iload_n 27 rfl d_Bc_sendReady_26 rfl ?_
  refine x_iconst 28 rfl d_Bc_sendReady_27 0 (by decide) ?_
  refine y_callI 31 rfl [_, _, _, _, _, _] _ rfl d_Bc_sendReady_28 c_Bc_90 rfl (Nat.le_of_ble_eq_true rfl) (Nat.le_of_ble_eq_true rfl) (Nat.le_of_ble_eq_true rfl) (s_Ms_init (mg := (me, e, i, 2, root, 0)) rfl (xnew_at _ _ _) rfl (fun w2 j1 j2 j3 j4 => ?_))
  have j5 : ∀ x, x ≠ w1.1 → w2.2.2 x = w1.2.2 x := fun x hx => by rw [j4 x hx, xnew_ne _ _ _ hx]
  have hN2 := hN1.msg j1 j2 j5
  obtain ⟨ed, cap, -, -, -, hk4, -, -⟩ := hql
  refine y_callV 34 rfl [_] _ rfl d_Bc_sendReady_31 hN2.2.2.2.1 rfl c_Bc_93 rfl (Nat.le_of_ble_eq_true rfl) (Nat.le_of_ble_eq_true rfl) (Nat.le_of_ble_eq_true rfl) (s_Nt_sendToAll hX (by omega) hN2 j3 (fun j hj => by have := hk4 j hj; omega) (fun w3 m1 m2 => ?_))
  refine x_vret d_Bc_sendReady_34 rfl ?_
  have fin : ∀ x, X.2.1 ≤ x → x < dyn → (∀ j, j < 4 → x ≠ nb + 3 + 2 * j) → w3.2.2 x = w1.2.2 x := fun x x1 x2 x3 => (m2.1 x x1 x2 x3).trans (j5 x (by have := f1.1; omega))
  refine h w3 m1 (hR1.kept (fun x x1 x2 => fin x (by omega) (by omega) (fun j hj => by omega))) ⟨fun x x1 x2 x3 x4 => (fin x x1 x2 x4).trans (f1.2.2 x x3), fun m fs hm => ?_⟩
  have hm1 := (fr.S (X := X) nb dyn f1 hR.cells).2 m fs hm
  exact m2.2 m fs (by rw [j5 m (by have := hN1.1 _ _ hm1; omega)]; exact hm1)
theorem s_Bc_sendEchoIfDue (hX : xS X sb L xs tI tE mi) (hmo : mo < 90000) (hN : rNt X tE nb dyn c0 s0 mo q w) (hR : rBc X nb me e i a β w) (ha : nb + 10 ≤ a) (had : a + 6 ≤ dyn) (h : ∀ w', (if (β.1 0 && !β.1 1) = true then rNt X tE nb dyn c0 s0 (mo + 1) (qAll q (me, e, i, 1, β.2 0, β.2 1)) w' ∧ rBc X nb me e i a (va_up β.1 1 true, β.2) w' else rNt X tE nb dyn c0 s0 mo q w' ∧ rBc X nb me e i a β w') → frS X nb dyn a (a + 6) w w' → P none w') : xE (xGG X) 8 m_Bc_sendEchoIfDue 0 [(0, .ref a)] [] w P := by
  have g1 := hR.1
  have hql := hN.2.2.2.2.2.2.2
  have hb := hN.2.2.2.2.2.2.1
  have hdw := hN.2.2.1
  refine x_aload_n 1 rfl d_Bc_sendEchoIfDue_0 rfl ?_
  refine x_get 4 rfl f_Bc_68 d_Bc_sendEchoIfDue_1 g1 rfl ?_
  refine x_if_eq 54 7 rfl d_Bc_sendEchoIfDue_4 (by decide) (fun hc => ?_) (fun hc => ?_)
  · refine x_vret d_Bc_sendEchoIfDue_54 rfl ?_
    exact h w (by rw [if_neg (by rw [(nB_0 _).mp hc]; simp)]; exact ⟨hN, hR⟩) (frS.rf _ _ _ _ _ _)
  refine x_aload_n 8 rfl d_Bc_sendEchoIfDue_7 rfl ?_
  refine x_get 11 rfl f_Bc_87 d_Bc_sendEchoIfDue_8 g1 rfl ?_
  refine x_if_ne 54 14 rfl d_Bc_sendEchoIfDue_11 (by decide) (fun hc2 => ?_) (fun hc2 => ?_)
  · refine x_vret d_Bc_sendEchoIfDue_54 rfl ?_
    exact h w (by rw [if_neg (by rw [nB_ne hc2]; simp)]; exact ⟨hN, hR⟩) (frS.rf _ _ _ _ _ _)
  refine x_aload_n 15 rfl d_Bc_sendEchoIfDue_14 rfl ?_
  refine x_iconst 16 rfl d_Bc_sendEchoIfDue_15 1 (by decide) ?_
  refine x_put 19 rfl p_Bc_87 (fun h => nomatch h) d_Bc_sendEchoIfDue_16 g1 rfl rfl (Nat.le_of_ble_eq_true rfl) ?_
  generalize hw1 : xset w a _ = w1
  have f1 : fr w w1 a (a + 6) := by rw [← hw1]; exact (fr.rf w a (a + 6)).set _ (by omega) (by omega)
  have hN1 := hN.own f1 hR.cells ha had
  have hR1 : rBc X nb me e i a (va_up β.1 1 true, β.2) w1 := by
    refine hR.obj ?_ (fun x hx => by rw [← hw1, xset_ne _ _ hx]) (fun s hs => by simp only [va_up]; rw [if_neg (by omega)]) (fun s hs => rfl)
    rw [← hw1, xset_at]; rfl
  have k1 := hR1.1
  refine x_aload_n 20 rfl d_Bc_sendEchoIfDue_19 rfl ?_
  refine x_get 23 rfl f_Bc_29 d_Bc_sendEchoIfDue_20 k1 rfl ?_
  refine x_new 26 rfl d_Bc_sendEchoIfDue_23 (ci := 3) (ty := t_Ms) (fs := [.int 0, .int 0, .int 0, .int 0, .int 0, .int 0]) rfl l_Ms t_Ms_ok q_Bc_43 i_Ms z_Ms (by decide) ?_
  have k1' : (xnew w1 6 (.inr (3, [.int 0, .int 0, .int 0, .int 0, .int 0, .int 0]))).2.2 a = some (.inr (1, fBc nb me e i a (va_up β.1 1 true, β.2))) := by rw [xnew_ne _ _ _ (by have := f1.1; omega)]; exact k1
  refine x_dup 27 rfl d_Bc_sendEchoIfDue_26 rfl ?_
  refine x_aload_n 28 rfl d_Bc_sendEchoIfDue_27 rfl ?_
  refine x_get 31 rfl f_Bc_33 d_Bc_sendEchoIfDue_28 k1' rfl ?_
  refine x_aload_n 32 rfl d_Bc_sendEchoIfDue_31 rfl ?_
  refine x_get 35 rfl f_Bc_36 d_Bc_sendEchoIfDue_32 k1' rfl ?_
  refine x_aload_n 36 rfl d_Bc_sendEchoIfDue_35 rfl ?_
  refine x_get 39 rfl f_Bc_39 d_Bc_sendEchoIfDue_36 k1' rfl ?_
  refine x_iconst 40 rfl d_Bc_sendEchoIfDue_39 1 (by decide) ?_
  refine x_aload_n 41 rfl d_Bc_sendEchoIfDue_40 rfl ?_
  refine x_get 44 rfl f_Bc_81 d_Bc_sendEchoIfDue_41 k1' rfl ?_
  refine x_aload_n 45 rfl d_Bc_sendEchoIfDue_44 rfl ?_
  refine x_get 48 rfl f_Bc_84 d_Bc_sendEchoIfDue_45 k1' rfl ?_
  refine y_callI 51 rfl [_, _, _, _, _, _] _ rfl d_Bc_sendEchoIfDue_48 c_Bc_90 rfl (Nat.le_of_ble_eq_true rfl) (Nat.le_of_ble_eq_true rfl) (Nat.le_of_ble_eq_true rfl) (s_Ms_init (mg := (me, e, i, 1, β.2 0, β.2 1)) rfl (xnew_at _ _ _) rfl (fun w2 j1 j2 j3 j4 => ?_))
  have j5 : ∀ x, x ≠ w1.1 → w2.2.2 x = w1.2.2 x := fun x hx => by rw [j4 x hx, xnew_ne _ _ _ hx]
  have hN2 := hN1.msg j1 j2 j5
  obtain ⟨ed, cap, -, -, -, hk4, -, -⟩ := hql
  refine y_callV 54 rfl [_] _ rfl d_Bc_sendEchoIfDue_51 hN2.2.2.2.1 rfl c_Bc_93 rfl (Nat.le_of_ble_eq_true rfl) (Nat.le_of_ble_eq_true rfl) (Nat.le_of_ble_eq_true rfl) (s_Nt_sendToAll hX (by omega) hN2 j3 (fun j hj => by have := hk4 j hj; omega) (fun w3 m1 m2 => ?_))
  refine x_vret d_Bc_sendEchoIfDue_54 rfl ?_
  have fin : ∀ x, X.2.1 ≤ x → x < dyn → (∀ j, j < 4 → x ≠ nb + 3 + 2 * j) → w3.2.2 x = w1.2.2 x := fun x x1 x2 x3 => (m2.1 x x1 x2 x3).trans (j5 x (by have := f1.1; omega))
  refine h w3 (by rw [if_pos (by rw [nB_ne hc, (nB_0 _).mp hc2]; rfl)]; exact ⟨m1, hR1.kept (fun x x1 x2 => fin x (by omega) (by omega) (fun j hj => by omega))⟩) ⟨fun x x1 x2 x3 x4 => (fin x x1 x2 x4).trans (f1.2.2 x x3), fun m fs hm => ?_⟩
  have hm1 := (fr.S (X := X) nb dyn f1 hR.cells).2 m fs hm
  exact m2.2 m fs (by rw [j5 m (by have := hN1.1 _ _ hm1; omega)]; exact hm1)
/-- what 'ready if due' sends -/
def oR (X : xPar) (tE nb dyn c0 s0 mo me e i a : Nat) (q : Nat → List sMg) (β : sB) (o : Option Int32) (w' : xW) : Prop := match o with
  | some root => rNt X tE nb dyn c0 s0 (mo + 1) (qAll q (me, e, i, 2, root, 0)) w' ∧ rBc X nb me e i a (va_up β.1 2 true, β.2) w'
  | none => rNt X tE nb dyn c0 s0 mo q w' ∧ rBc X nb me e i a β w'
theorem s_Bc_ready2 (hX : xS X sb L xs tI tE mi) (hmo : mo < 90000) (hN : rNt X tE nb dyn c0 s0 mo q w) (hR : rBc X nb me e i a β w) (ha : nb + 10 ≤ a) (had : a + 6 ≤ dyn) (h : ∀ w', oR X tE nb dyn c0 s0 mo me e i a q β (bRd2 β) w' → frS X nb dyn a (a + 6) w w' → P none w') : xE (xGG X) 9 m_Bc_sendReadyIfDue 57 [(0, .ref a)] [] w P := by
  have hR0 := hR
  obtain ⟨g1, g2, g3, g4, g5⟩ := hR
  refine x_aload_n 58 rfl d_Bc_sendReadyIfDue_57 rfl ?_
  refine x_get 61 rfl f_Bc_22 d_Bc_sendReadyIfDue_58 g1 rfl ?_
  refine x_iconst 62 rfl d_Bc_sendReadyIfDue_61 2 (by decide) ?_
  refine y_callV 65 rfl [_] _ rfl d_Bc_sendReadyIfDue_62 g4.1 rfl c_Bc_101 rfl (Nat.le_of_ble_eq_true rfl) (Nat.le_of_ble_eq_true rfl) (Nat.le_of_ble_eq_true rfl) (s_Rt_leastOfShared (n := 2) rfl (by decide) g4 ?_)
  refine x_istore_n 66 rfl d_Bc_sendReadyIfDue_65 (by decide) ?_
  refine x_iload_n 67 rfl d_Bc_sendReadyIfDue_66 rfl ?_
  refine x_iconst 68 rfl d_Bc_sendReadyIfDue_67 (-1) (by decide) ?_
  refine x_icmp_eq 84 71 rfl d_Bc_sendReadyIfDue_68 (by decide) (fun hc => ?_) (fun hc => ?_)
  · refine x_vret d_Bc_sendReadyIfDue_84 rfl ?_
    have h5 := (iO_ne (fun s hs => cFs_lt hs)).mp hc
    have h6 : bRd2 β = none := by rw [bRd2, h5]; rfl
    exact h w (by rw [h6]; exact ⟨hN, hR0⟩) (frS.rf _ _ _ _ _ _)
  · cases h5 : cFs (fun s => β.1 (16 + s)) (fun s => β.2 (24 + s)) 2 with
    | none => rw [h5] at hc; exact absurd rfl hc
    | some s =>
      have hs4 := cFs_lt h5
      have h6 : bRd2 β = some (β.2 (24 + s)) := by rw [bRd2, h5]; rfl
      obtain ⟨f, g6, g7⟩ := g4.2
      refine x_aload_n 72 rfl d_Bc_sendReadyIfDue_71 rfl ?_
      refine x_aload_n 73 rfl d_Bc_sendReadyIfDue_72 rfl ?_
      refine x_get 76 rfl f_Bc_22 d_Bc_sendReadyIfDue_73 g1 rfl ?_
      refine x_get 79 rfl f_Bc_105 d_Bc_sendReadyIfDue_76 g4.1 rfl ?_
      refine x_iload_n 80 rfl d_Bc_sendReadyIfDue_79 rfl ?_
      refine x_iald 81 rfl d_Bc_sendReadyIfDue_80 g6 (t0 := 0) rfl (vp_in_nI hs4 (by decide)) ?_
      rw [show f (iO (some s)).toNatClampNeg = β.2 (24 + s) by show f (nI s).toNatClampNeg = _; rw [nI_clamp (by omega)]; exact g7 s hs4]
      refine y_callV 84 rfl [_] _ rfl d_Bc_sendReadyIfDue_81 g1 rfl c_Bc_117 rfl (Nat.le_of_ble_eq_true rfl) (Nat.le_of_ble_eq_true rfl) (Nat.le_of_ble_eq_true rfl) (s_Bc_sendReady hX hmo hN hR0 ha had (fun w' h7 h8 h9 => ?_))
      refine x_vret d_Bc_sendReadyIfDue_84 rfl ?_
      exact h w' (by rw [h6]; exact ⟨h7, h8⟩) h9
theorem bReady_n {β : sB} (h : cFs (fun s => β.1 (8 + s)) (fun s => β.2 (8 + s)) 3 = none) : bReady β = bRd2 β := by rw [bReady, h]
theorem bReady_f {β : sB} {s : Nat} (h : cFs (fun s => β.1 (8 + s)) (fun s => β.2 (8 + s)) 3 = some s) (h2 : ¬ bMk β (β.2 (8 + s)) = true) : bReady β = bRd2 β := by rw [bReady, h]; simp [h2]
theorem bReady_t {β : sB} {s : Nat} (h : cFs (fun s => β.1 (8 + s)) (fun s => β.2 (8 + s)) 3 = some s) (h2 : bMk β (β.2 (8 + s)) = true) : bReady β = some (β.2 (8 + s)) := by rw [bReady, h]; simp only [h2, if_true]
theorem bMk_iff {β : sB} {root : Int32} : bMk β root = true ↔ cRoot (bGvR β root % 256) (bGvR β root / 256) = root := by unfold bMk; exact decide_eq_true_iff
theorem s_Bc_sendReadyIfDue (hX : xS X sb L xs tI tE mi) (hmo : mo < 90000) (hN : rNt X tE nb dyn c0 s0 mo q w) (hR : rBc X nb me e i a β w) (ha : nb + 10 ≤ a) (had : a + 6 ≤ dyn) (h : ∀ w', oR X tE nb dyn c0 s0 mo me e i a q β (if β.1 2 = true then none else bReady β) w' → frS X nb dyn a (a + 6) w w' → P none w') : xE (xGG X) 9 m_Bc_sendReadyIfDue 0 [(0, .ref a)] [] w P := by
  have hR0 := hR
  obtain ⟨g1, g2, g3, g4, g5⟩ := hR
  refine x_aload_n 1 rfl d_Bc_sendReadyIfDue_0 rfl ?_
  refine x_get 4 rfl f_Bc_98 d_Bc_sendReadyIfDue_1 g1 rfl ?_
  refine x_if_eq 8 7 rfl d_Bc_sendReadyIfDue_4 (by decide) (fun hc => ?_) (fun hc => ?_)
  rotate_left
  · refine x_vret d_Bc_sendReadyIfDue_7 rfl ?_
    exact h w (by rw [if_pos (nB_ne hc)]; exact ⟨hN, hR0⟩) (frS.rf _ _ _ _ _ _)
  have hs0 : ¬ β.1 2 = true := by rw [(nB_0 _).mp hc]; decide
  rw [if_neg hs0] at h
  refine x_aload_n 9 rfl d_Bc_sendReadyIfDue_8 rfl ?_
  refine x_get 12 rfl f_Bc_12 d_Bc_sendReadyIfDue_9 g1 rfl ?_
  refine x_iconst 13 rfl d_Bc_sendReadyIfDue_12 3 (by decide) ?_
  refine y_callV 16 rfl [_] _ rfl d_Bc_sendReadyIfDue_13 g2.1 rfl c_Bc_101 rfl (Nat.le_of_ble_eq_true rfl) (Nat.le_of_ble_eq_true rfl) (Nat.le_of_ble_eq_true rfl) (s_Rt_leastOfShared (n := 3) rfl (by decide) g2 ?_)
  refine x_istore_n 17 rfl d_Bc_sendReadyIfDue_16 (by decide) ?_
  refine x_iload_n 18 rfl d_Bc_sendReadyIfDue_17 rfl ?_
  refine x_iconst 19 rfl d_Bc_sendReadyIfDue_18 (-1) (by decide) ?_
  refine x_icmp_eq 57 22 rfl d_Bc_sendReadyIfDue_19 (by decide) (fun hc => ?_) (fun hc => ?_)
  · have h5 := (iO_ne (fun s hs => cFs_lt hs)).mp hc
    rw [bReady_n h5] at h
    exact xE.fit (s_Bc_ready2 hX hmo hN hR0 ha had h) rfl
  · cases h5 : cFs (fun s => β.1 (8 + s)) (fun s => β.2 (8 + s)) 3 with
    | none => rw [h5] at hc; exact absurd rfl hc
    | some s =>
      have hs4 := cFs_lt h5
      obtain ⟨f, g6, g7⟩ := g2.2
      refine x_aload_n 23 rfl d_Bc_sendReadyIfDue_22 rfl ?_
      refine x_get 26 rfl f_Bc_12 d_Bc_sendReadyIfDue_23 g1 rfl ?_
      refine x_get 29 rfl f_Bc_105 d_Bc_sendReadyIfDue_26 g2.1 rfl ?_
      refine x_iload_n 30 rfl d_Bc_sendReadyIfDue_29 rfl ?_
      refine x_iald 31 rfl d_Bc_sendReadyIfDue_30 g6 (t0 := 0) rfl (vp_in_nI hs4 (by decide)) ?_
      rw [show f (iO (some s)).toNatClampNeg = β.2 (8 + s) by show f (nI s).toNatClampNeg = _; rw [nI_clamp (by omega)]; exact g7 s hs4]
      have hgl : bGvR β (β.2 (8 + s)) < 65536 := bGvR_lt g5
      refine x_istore_n 32 rfl d_Bc_sendReadyIfDue_31 (by decide) ?_
      refine x_aload_n 33 rfl d_Bc_sendReadyIfDue_32 rfl ?_
      refine x_aload_n 34 rfl d_Bc_sendReadyIfDue_33 rfl ?_
      refine x_get 37 rfl f_Bc_12 d_Bc_sendReadyIfDue_34 g1 rfl ?_
      refine x_iload_n 38 rfl d_Bc_sendReadyIfDue_37 rfl ?_
      refine y_callV 41 rfl [_] _ rfl d_Bc_sendReadyIfDue_38 g2.1 rfl c_Bc_108 rfl (Nat.le_of_ble_eq_true rfl) (Nat.le_of_ble_eq_true rfl) (Nat.le_of_ble_eq_true rfl) (s_Rt_sendersOf g2 ?_)
      refine y_callV 44 rfl [_] _ rfl d_Bc_sendReadyIfDue_41 g1 rfl c_Bc_111 rfl (Nat.le_of_ble_eq_true rfl) (Nat.le_of_ble_eq_true rfl) (Nat.le_of_ble_eq_true rfl) (s_Bc_proposalOf hX rfl hR0 ?_)
      rw [show cGv (fun s_1 => β.1 (8 + s_1) && decide (β.2 (8 + s_1) = β.2 (8 + s))) (fun s => cUn (β.2 (16 + s))) = bGvR β (β.2 (8 + s)) from rfl]
      generalize hgv : bGvR β (β.2 (8 + s)) = gv at hgl ⊢
      refine y_call 47 rfl [_] _ rfl d_Bc_sendReadyIfDue_44 c_Bc_114 rfl (Nat.le_of_ble_eq_true rfl) (Nat.le_of_ble_eq_true rfl) (Nat.le_of_ble_eq_true rfl) (s_Co_rootOf rfl hgl ?_)
      refine x_iload_n 48 rfl d_Bc_sendReadyIfDue_47 rfl ?_
      refine x_icmp_ne 57 51 rfl d_Bc_sendReadyIfDue_48 (by decide) (fun hc2 => ?_) (fun hc2 => ?_)
      · have h6 : ¬ bMk β (β.2 (8 + s)) = true := fun z => hc2 (by have := bMk_iff.mp z; rw [hgv] at this; exact this)
        rw [bReady_f h5 h6] at h
        exact xE.fit (s_Bc_ready2 hX hmo hN hR0 ha had h) rfl
      · have h6 : bMk β (β.2 (8 + s)) = true := bMk_iff.mpr (by rw [hgv]; exact hc2)
        rw [bReady_t h5 h6] at h
        refine x_aload_n 52 rfl d_Bc_sendReadyIfDue_51 rfl ?_
        refine x_iload_n 53 rfl d_Bc_sendReadyIfDue_52 rfl ?_
        refine y_callV 56 rfl [_] _ rfl d_Bc_sendReadyIfDue_53 g1 rfl c_Bc_117 rfl (Nat.le_of_ble_eq_true rfl) (Nat.le_of_ble_eq_true rfl) (Nat.le_of_ble_eq_true rfl) (s_Bc_sendReady hX hmo hN hR0 ha had (fun w' h7 h8 h9 => ?_))
        refine x_vret d_Bc_sendReadyIfDue_56 rfl ?_
        exact h w' ⟨h7, h8⟩ h9
set_option maxRecDepth 100000 in
/-- the proposal as the class holds it -/
theorem s_Bc_takeProposalIfDue (hX : xS X sb L xs tI tE mi) (hR : rBc X nb me e i a β w) (h : ∀ w', rBc X nb me e i a (match (if β.2 2 = -1 then bProp β else none) with
      | some n => (β.1, va_up β.2 2 (nI n))
      | none => β) w' → fr w w' a (a + 6) → P none w') : xE (xGG X) 3 m_Bc_takeProposalIfDue 0 [(0, .ref a)] [] w P := by
  have hR0 := hR
  obtain ⟨g1, g2, g3, g4, g5⟩ := hR
  refine x_aload_n 1 rfl d_Bc_takeProposalIfDue_0 rfl ?_
  refine x_get 4 rfl f_Bc_25 d_Bc_takeProposalIfDue_1 g1 rfl ?_
  refine x_iconst 5 rfl d_Bc_takeProposalIfDue_4 (-1) (by decide) ?_
  refine x_icmp_eq 9 8 rfl d_Bc_takeProposalIfDue_5 (by decide) (fun hc => ?_) (fun hc => ?_)
  rotate_left
  · refine x_vret d_Bc_takeProposalIfDue_8 rfl ?_
    exact h w (by rw [if_neg hc]; exact hR0) (fr.rf _ _ _)
  rw [if_pos hc] at h
  have same : bProp β = none → P none w := fun z => h w (by rw [z]; exact hR0) (fr.rf _ _ _)
  refine x_aload_n 10 rfl d_Bc_takeProposalIfDue_9 rfl ?_
  refine x_get 13 rfl f_Bc_22 d_Bc_takeProposalIfDue_10 g1 rfl ?_
  refine x_iconst 14 rfl d_Bc_takeProposalIfDue_13 3 (by decide) ?_
  refine y_callV 17 rfl [_] _ rfl d_Bc_takeProposalIfDue_14 g4.1 rfl c_Bc_101 rfl (Nat.le_of_ble_eq_true rfl) (Nat.le_of_ble_eq_true rfl) (Nat.le_of_ble_eq_true rfl) (s_Rt_leastOfShared (n := 3) rfl (by decide) g4 ?_)
  refine x_istore_n 18 rfl d_Bc_takeProposalIfDue_17 (by decide) ?_
  refine x_iload_n 19 rfl d_Bc_takeProposalIfDue_18 rfl ?_
  refine x_iconst 20 rfl d_Bc_takeProposalIfDue_19 (-1) (by decide) ?_
  refine x_icmp_ne 24 23 rfl d_Bc_takeProposalIfDue_20 (by decide) (fun hc => ?_) (fun hc => ?_)
  rotate_left
  · refine x_vret d_Bc_takeProposalIfDue_23 rfl ?_
    have h5 := (iO_ne (fun s hs => cFs_lt hs)).mp hc
    exact same (by rw [bProp, h5])
  cases h5 : cFs (fun s => β.1 (16 + s)) (fun s => β.2 (24 + s)) 3 with
  | none => rw [h5] at hc; exact absurd rfl hc
  | some s =>
    have hs4 := cFs_lt h5
    obtain ⟨f, g6, g7⟩ := g4.2
    refine x_aload_n 25 rfl d_Bc_takeProposalIfDue_24 rfl ?_
    refine x_get 28 rfl f_Bc_22 d_Bc_takeProposalIfDue_25 g1 rfl ?_
    refine x_get 31 rfl f_Bc_105 d_Bc_takeProposalIfDue_28 g4.1 rfl ?_
    refine x_iload_n 32 rfl d_Bc_takeProposalIfDue_31 rfl ?_
    refine x_iald 33 rfl d_Bc_takeProposalIfDue_32 g6 (t0 := 0) rfl (vp_in_nI hs4 (by decide)) ?_
    rw [show f (iO (some s)).toNatClampNeg = β.2 (24 + s) by show f (nI s).toNatClampNeg = _; rw [nI_clamp (by omega)]; exact g7 s hs4]
    refine x_istore_n 34 rfl d_Bc_takeProposalIfDue_33 (by decide) ?_
    refine x_aload_n 35 rfl d_Bc_takeProposalIfDue_34 rfl ?_
    refine x_get 38 rfl f_Bc_12 d_Bc_takeProposalIfDue_35 g1 rfl ?_
    refine x_iload_n 39 rfl d_Bc_takeProposalIfDue_38 rfl ?_
    refine y_callV 42 rfl [_] _ rfl d_Bc_takeProposalIfDue_39 g2.1 rfl c_Bc_108 rfl (Nat.le_of_ble_eq_true rfl) (Nat.le_of_ble_eq_true rfl) (Nat.le_of_ble_eq_true rfl) (s_Rt_sendersOf g2 ?_)
    refine x_istore_n 43 rfl d_Bc_takeProposalIfDue_42 (by decide) ?_
    refine x_iload_n 44 rfl d_Bc_takeProposalIfDue_43 rfl ?_
    refine y_call 47 rfl [_] _ rfl d_Bc_takeProposalIfDue_44 c_Bc_121 rfl (Nat.le_of_ble_eq_true rfl) (Nat.le_of_ble_eq_true rfl) (Nat.le_of_ble_eq_true rfl) (s_It_bitCount rfl (cMk_lt _) ?_)
    refine x_iconst 48 rfl d_Bc_takeProposalIfDue_47 2 (by decide) ?_
    have hle := cPop_le (cMk (fun s_1 => β.1 (8 + s_1) && decide (β.2 (8 + s_1) = β.2 (24 + s))))
    refine x_icmp_lt 77 51 rfl d_Bc_takeProposalIfDue_48 (by decide) (fun hc2 => ?_) (fun hc2 => ?_)
    · refine x_vret d_Bc_takeProposalIfDue_77 rfl ?_
      have h6 := (nI_ltI (b := 2) (by omega) (by decide)).mp hc2
      refine same ?_
      rw [bProp, h5]
      exact if_neg (Nat.not_le.mpr h6)
    · have h6 : 2 ≤ cCt (fun s => β.1 (8 + s)) (fun s => β.2 (8 + s)) (β.2 (24 + s)) := by
        by_cases z : 2 ≤ cCt (fun s => β.1 (8 + s)) (fun s => β.2 (8 + s)) (β.2 (24 + s))
        · exact z
        · exact absurd (nI_lt (b := 2) (Nat.not_le.mp z) (by decide)) hc2
      have hpr : bProp β = some (if bMk β (β.2 (24 + s)) = true then bGvR β (β.2 (24 + s)) else 0) := by
        rw [bProp, h5]
        exact if_pos h6
      rw [hpr] at h
      clear hpr same
      have hgl : bGvR β (β.2 (24 + s)) < 65536 := bGvR_lt g5
      refine x_aload_n 52 rfl d_Bc_takeProposalIfDue_51 rfl ?_
      refine x_iload_n 53 rfl d_Bc_takeProposalIfDue_52 rfl ?_
      refine y_callV 56 rfl [_] _ rfl d_Bc_takeProposalIfDue_53 g1 rfl c_Bc_111 rfl (Nat.le_of_ble_eq_true rfl) (Nat.le_of_ble_eq_true rfl) (Nat.le_of_ble_eq_true rfl) (s_Bc_proposalOf hX rfl hR0 ?_)
      rw [show cGv (fun s_1 => β.1 (8 + s_1) && decide (β.2 (8 + s_1) = β.2 (24 + s))) (fun s => cUn (β.2 (16 + s))) = bGvR β (β.2 (24 + s)) from rfl]
      have hmk := bMk_iff (β := β) (root := β.2 (24 + s))
      generalize hgv : bGvR β (β.2 (24 + s)) = gv at hgl hmk h ⊢
      refine x_istore 58 rfl d_Bc_takeProposalIfDue_56 (by decide) ?_
      refine x_aload_n 59 rfl d_Bc_takeProposalIfDue_58 rfl ?_
      refine x_iload 61 rfl d_Bc_takeProposalIfDue_59 rfl ?_
      refine y_call 64 rfl [_] _ rfl d_Bc_takeProposalIfDue_61 c_Bc_114 rfl (Nat.le_of_ble_eq_true rfl) (Nat.le_of_ble_eq_true rfl) (Nat.le_of_ble_eq_true rfl) (s_Co_rootOf rfl hgl ?_)
      refine x_iload_n 65 rfl d_Bc_takeProposalIfDue_64 rfl ?_
      refine x_icmp_ne 73 68 rfl d_Bc_takeProposalIfDue_65 (by decide) (fun hc3 => ?_) (fun hc3 => ?_)
      · have h7 : ¬ bMk β (β.2 (24 + s)) = true := by
          rw [hmk]
          exact hc3
        refine x_iconst 74 rfl d_Bc_takeProposalIfDue_73 0 (by decide) ?_
        refine x_put 77 rfl p_Bc_25 (fun h => nomatch h) d_Bc_takeProposalIfDue_74 g1 rfl rfl (Nat.le_of_ble_eq_true rfl) ?_
        refine x_vret d_Bc_takeProposalIfDue_77 rfl ?_
        rw [if_neg h7] at h
        refine h _ (hR0.obj ?_ (fun x hx => xset_ne _ _ hx) (fun s _ => rfl) (fun s hs => by simp only [va_up]; rw [if_neg (by omega)])) ((fr.rf w a (a + 6)).set _ (by omega) (by omega))
        rw [xset_at]; rfl
      · have h7 : bMk β (β.2 (24 + s)) = true := by
          rw [hmk]
          exact hc3
        refine x_iload 70 rfl d_Bc_takeProposalIfDue_68 rfl ?_
        refine x_goto d_Bc_takeProposalIfDue_70 74 (by decide) ?_
        refine x_put 77 rfl p_Bc_25 (fun h => nomatch h) d_Bc_takeProposalIfDue_74 g1 rfl rfl (Nat.le_of_ble_eq_true rfl) ?_
        refine x_vret d_Bc_takeProposalIfDue_77 rfl ?_
        rw [if_pos h7] at h
        refine h _ (hR0.obj ?_ (fun x hx => xset_ne _ _ hx) (fun s _ => rfl) (fun s hs => by simp only [va_up]; rw [if_neg (by omega)])) ((fr.rf w a (a + 6)).set _ (by omega) (by omega))
        rw [xset_at]; rfl
theorem s_Bc_progress (hR : rBc X nb me e i a β w) (h : P (some (.int ((if β.1 1 = true then 1 else 0) + (if β.1 2 = true then 2 else 0) + (if β.2 2 = -1 then 0 else 4)))) w) : xE (xGG X) 0 m_Bc_progress 0 [(0, .ref a)] [] w P := by
  have g1 := hR.1
  refine x_aload_n 1 rfl d_Bc_progress_0 rfl ?_
  refine x_get 4 rfl f_Bc_87 d_Bc_progress_1 g1 rfl ?_
  refine x_if_eq 11 7 rfl d_Bc_progress_4 (by decide) (fun hc4 => ?_) (fun hc4 => ?_)
  · refine x_iconst 12 rfl d_Bc_progress_11 0 (by decide) ?_
    refine x_aload_n 13 rfl d_Bc_progress_12 rfl ?_
    refine x_get 16 rfl f_Bc_98 d_Bc_progress_13 g1 rfl ?_
    refine x_if_eq 23 19 rfl d_Bc_progress_16 (by decide) (fun hc16 => ?_) (fun hc16 => ?_)
    · refine x_iconst 24 rfl d_Bc_progress_23 0 (by decide) ?_
      refine x_iadd 25 rfl d_Bc_progress_24 ?_
      refine x_aload_n 26 rfl d_Bc_progress_25 rfl ?_
      refine x_get 29 rfl f_Bc_25 d_Bc_progress_26 g1 rfl ?_
      refine x_iconst 30 rfl d_Bc_progress_29 (-1) (by decide) ?_
      refine x_icmp_eq 37 33 rfl d_Bc_progress_30 (by decide) (fun hc30 => ?_) (fun hc30 => ?_)
      · refine x_iconst 38 rfl d_Bc_progress_37 0 (by decide) ?_
        refine x_iadd 39 rfl d_Bc_progress_38 ?_
        refine x_iret d_Bc_progress_39 rfl ?_
        (first | simpa [nB_0, *] using h | (simp [nB_0] at *; simp_all))
      · refine x_iconst 34 rfl d_Bc_progress_33 4 (by decide) ?_
        refine x_goto d_Bc_progress_34 38 (by decide) ?_
        refine x_iadd 39 rfl d_Bc_progress_38 ?_
        refine x_iret d_Bc_progress_39 rfl ?_
        (first | simpa [nB_0, *] using h | (simp [nB_0] at *; simp_all))
    · refine x_iconst 20 rfl d_Bc_progress_19 2 (by decide) ?_
      refine x_goto d_Bc_progress_20 24 (by decide) ?_
      refine x_iadd 25 rfl d_Bc_progress_24 ?_
      refine x_aload_n 26 rfl d_Bc_progress_25 rfl ?_
      refine x_get 29 rfl f_Bc_25 d_Bc_progress_26 g1 rfl ?_
      refine x_iconst 30 rfl d_Bc_progress_29 (-1) (by decide) ?_
      refine x_icmp_eq 37 33 rfl d_Bc_progress_30 (by decide) (fun hc30 => ?_) (fun hc30 => ?_)
      · refine x_iconst 38 rfl d_Bc_progress_37 0 (by decide) ?_
        refine x_iadd 39 rfl d_Bc_progress_38 ?_
        refine x_iret d_Bc_progress_39 rfl ?_
        (first | simpa [nB_0, *] using h | (simp [nB_0] at *; simp_all))
      · refine x_iconst 34 rfl d_Bc_progress_33 4 (by decide) ?_
        refine x_goto d_Bc_progress_34 38 (by decide) ?_
        refine x_iadd 39 rfl d_Bc_progress_38 ?_
        refine x_iret d_Bc_progress_39 rfl ?_
        (first | simpa [nB_0, *] using h | (simp [nB_0] at *; simp_all))
  · refine x_iconst 8 rfl d_Bc_progress_7 1 (by decide) ?_
    refine x_goto d_Bc_progress_8 12 (by decide) ?_
    refine x_aload_n 13 rfl d_Bc_progress_12 rfl ?_
    refine x_get 16 rfl f_Bc_98 d_Bc_progress_13 g1 rfl ?_
    refine x_if_eq 23 19 rfl d_Bc_progress_16 (by decide) (fun hc16 => ?_) (fun hc16 => ?_)
    · refine x_iconst 24 rfl d_Bc_progress_23 0 (by decide) ?_
      refine x_iadd 25 rfl d_Bc_progress_24 ?_
      refine x_aload_n 26 rfl d_Bc_progress_25 rfl ?_
      refine x_get 29 rfl f_Bc_25 d_Bc_progress_26 g1 rfl ?_
      refine x_iconst 30 rfl d_Bc_progress_29 (-1) (by decide) ?_
      refine x_icmp_eq 37 33 rfl d_Bc_progress_30 (by decide) (fun hc30 => ?_) (fun hc30 => ?_)
      · refine x_iconst 38 rfl d_Bc_progress_37 0 (by decide) ?_
        refine x_iadd 39 rfl d_Bc_progress_38 ?_
        refine x_iret d_Bc_progress_39 rfl ?_
        (first | simpa [nB_0, *] using h | (simp [nB_0] at *; simp_all))
      · refine x_iconst 34 rfl d_Bc_progress_33 4 (by decide) ?_
        refine x_goto d_Bc_progress_34 38 (by decide) ?_
        refine x_iadd 39 rfl d_Bc_progress_38 ?_
        refine x_iret d_Bc_progress_39 rfl ?_
        (first | simpa [nB_0, *] using h | (simp [nB_0] at *; simp_all))
    · refine x_iconst 20 rfl d_Bc_progress_19 2 (by decide) ?_
      refine x_goto d_Bc_progress_20 24 (by decide) ?_
      refine x_iadd 25 rfl d_Bc_progress_24 ?_
      refine x_aload_n 26 rfl d_Bc_progress_25 rfl ?_
      refine x_get 29 rfl f_Bc_25 d_Bc_progress_26 g1 rfl ?_
      refine x_iconst 30 rfl d_Bc_progress_29 (-1) (by decide) ?_
      refine x_icmp_eq 37 33 rfl d_Bc_progress_30 (by decide) (fun hc30 => ?_) (fun hc30 => ?_)
      · refine x_iconst 38 rfl d_Bc_progress_37 0 (by decide) ?_
        refine x_iadd 39 rfl d_Bc_progress_38 ?_
        refine x_iret d_Bc_progress_39 rfl ?_
        (first | simpa [nB_0, *] using h | (simp [nB_0] at *; simp_all))
      · refine x_iconst 34 rfl d_Bc_progress_33 4 (by decide) ?_
        refine x_goto d_Bc_progress_34 38 (by decide) ?_
        refine x_iadd 39 rfl d_Bc_progress_38 ?_
        refine x_iret d_Bc_progress_39 rfl ?_
        (first | simpa [nB_0, *] using h | (simp [nB_0] at *; simp_all))
end BS
