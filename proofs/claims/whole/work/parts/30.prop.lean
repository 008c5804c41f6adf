/-! A NODE PROPOSES -/
/-- what a node gets of a post: of a proposal its part -/
def vw (n : Nat) (m : sMg) : sMg := if m.2.2.2.1 = 0 then (m.1, m.2.1, m.2.2.1, 0, cRoot (cUn m.2.2.2.2.1) (cUn m.2.2.2.2.2), nI (cWn (cUn m.2.2.2.2.1) (cUn m.2.2.2.2.2) n)) else m
def qV (q : Nat → List sMg) (ms : List sMg) : Nat → List sMg := fun i => q i ++ ms.map (vw i)
theorem qV_nil (q : Nat → List sMg) : qV q [] = q := by funext i; simp [qV]
theorem qV_app (q : Nat → List sMg) (a b : List sMg) : qV (qV q a) b = qV q (a ++ b) := by funext i; simp [qV, List.append_assoc]
theorem qV_Ms (q : Nat → List sMg) (ms : List sMg) (h : ∀ m, m ∈ ms → m.2.2.2.1 ≠ 0) : qV q ms = qMs q ms := by
  funext i
  unfold qV qMs
  congr 1
  induction ms with
  | nil => rfl
  | cons m ms ih =>
    rw [List.map_cons, ih (fun z hz => h z (List.mem_cons_of_mem _ hz))]
    congr 1
    unfold vw
    rw [if_neg (h m List.mem_cons_self)]
theorem getD_0 {l : List Int32} {j : Nat} (h : l.length ≤ j) : l.getD j 0 = 0 := by
  rw [List.getD_eq_getElem?_getD, List.getElem?_eq_none h]; rfl
theorem itmT : ∀ n, n < 13 → ∀ j, j < 2 → j < n → 0 ≤ nI j ∧ nI j ≤ nI n - 1 := by decide +kernel
section PR
variable {X : xPar} {sb L : Nat} {xs : Nat → Int32} {tI tE mi nb dyn c0 s0 mo n e i a : Nat} {t : Int32} {q : Nat → List sMg} {ν : sN} {w : xW} {P : Option Value → xW → Prop}
theorem s_Rw_item {kk : Int32} {j b : Nat} {l : List Int32} (hkk : kk = nI j) (hj : j < 2) (hR : rRw X w b 12 l) (h : P (some (.int (l.getD j 0))) w) : xE (xGG X) 1 m_Rw_itemOr 0 [(0, .ref b), (1, .int kk), (2, .int 0)] [] w P := by
  refine s_Rw_itemOr hR ?_
  subst hkk
  rw [nI_clamp (by omega)]
  have hl := hR.2.1
  by_cases z : j < l.length
  · rw [if_pos (itmT l.length (by omega) j hj z)]; exact h
  · have : l.getD j 0 = 0 := getD_0 (by omega)
    rw [this] at h ⊢
    split <;> exact h
/-- the post of a proposal -/
def nPr (n : Nat) (ν : sN) : sMg := (n, ν.1 - 1, n, 0, ν.2.2.1.getD 0 0, ν.2.2.1.getD 1 0)
theorem getD_lt {l : List Int32} (h : ∀ x, x ∈ l → cUn x < 256) (j : Nat) : cUn (l.getD j 0) < 256 := by
  by_cases z : j < l.length
  · rw [List.getD_eq_getElem?_getD, List.getElem?_eq_getElem z]
    exact h _ (List.getElem_mem z)
  · rw [getD_0 (by omega)]; decide
theorem s_Nd_propose (hX : xS X sb L xs tI tE mi) (hn : n < 4) (hep : ν.1 = e + 1) (he : e < 4) (hq : ∀ x, x ∈ ν.2.2.1 → cUn x < 256) (hmo : mo + 4 < 90000) (ha : nb + 10 ≤ a) (had : a + 151 ≤ dyn) (hN : rNt X tE nb dyn c0 s0 mo q w) (hR : rNd X nb n t a ν w) (h : ∀ w', rNt X tE nb dyn c0 s0 (mo + 4) (qV q [nPr n ν]) w' → rNd X nb n t a ν w' → frN X nb dyn w w' → P none w') : xE (xGG X) 8 m_Nd_propose 0 [(0, .ref a)] [] w P := by
  have g1 := hR.1
  have hQ := hR.2.1
  have hbn := hN.2.2.2.2.2.2.1
  have hp := getD_lt hq 0
  have hq1 := getD_lt hq 1
  generalize hpe : ν.2.2.1.getD 0 0 = p at hp
  generalize hqe : ν.2.2.1.getD 1 0 = p2 at hq1
  have hm : (cUn p + 256 * cUn p2) % 256 = cUn p := by omega
  have hd : (cUn p + 256 * cUn p2) / 256 = cUn p2 := by omega
  have hP : nPr n ν = (n, e, n, 0, p, p2) := by unfold nPr; rw [hep, hpe, hqe]; rfl
  have loop : ∀ (m j : Nat) (cc : Int32) (w1 : xW), cc = nI j → j + m = 4 → rNt X tE nb dyn c0 s0 (mo + j) (fun i => if i < j then q i ++ [vw i (n, e, n, 0, p, p2)] else q i) w1 → frN X nb dyn w w1 → xE (xGG X) 8 m_Nd_propose 29 [(0, .ref a), (1, .int (nI (cUn p + 256 * cUn p2))), (2, .int (cRoot (cUn p) (cUn p2))), (3, .int cc)] [] w1 P := by
    intro m
    induction m with
    | zero =>
      intro j cc w1 hcc hm4 hN1 hf
      have hj : j = 4 := by omega
      subst hj hcc
      refine x_iload_n 30 rfl d_Nd_propose_29 rfl ?_
      refine x_iconst 31 rfl d_Nd_propose_30 4 (by decide) ?_
      refine x_icmp_ge 78 34 rfl d_Nd_propose_31 (by decide) (fun hc => ?_) (fun hc => absurd (by decide) hc)
      refine x_vret d_Nd_propose_78 rfl ?_
      refine h w1 (hN1.congr (fun i hi => ?_)) (hR.kept (fun x h1 h2 => hf.1 x (by omega) (by omega) (fun i hi => by omega))) hf
      rw [if_pos hi, hP]
      rfl
    | succ m ih =>
      intro j cc w1 hcc hm4 hN1 hf
      subst hcc
      have hj : j < 4 := by omega
      have hR1 := hR.kept (w' := w1) (fun x h1 h2 => hf.1 x (by omega) (by omega) (fun i hi => by omega))
      have k1 := hR1.1
      have hdw := hN1.2.2.1
      refine x_iload_n 30 rfl d_Nd_propose_29 rfl ?_
      refine x_iconst 31 rfl d_Nd_propose_30 4 (by decide) ?_
      refine x_icmp_ge 78 34 rfl d_Nd_propose_31 (by decide) (fun hc => absurd hc (nI_ge (a := j) (b := 4) hj (by decide))) (fun hc => ?_)
      refine x_iload_n 35 rfl d_Nd_propose_34 rfl ?_
      refine x_iload_n 36 rfl d_Nd_propose_35 rfl ?_
      refine y_call 39 rfl [_, _] _ rfl d_Nd_propose_36 c_Nd_101 rfl (Nat.le_of_ble_eq_true rfl) (Nat.le_of_ble_eq_true rfl) (Nat.le_of_ble_eq_true rfl) (s_Co_witnessOf rfl rfl (by omega) hj ?_)
      rw [hm, hd]
      refine x_istore 41 rfl d_Nd_propose_39 (by decide) ?_
      refine x_aload_n 42 rfl d_Nd_propose_41 rfl ?_
      refine x_get 45 rfl f_Nd_42 d_Nd_propose_42 k1 rfl ?_
      refine x_iload_n 46 rfl d_Nd_propose_45 rfl ?_
      refine x_new 49 rfl d_Nd_propose_46 (ci := 3) (ty := t_Ms) (fs := [.int 0, .int 0, .int 0, .int 0, .int 0, .int 0]) rfl l_Ms t_Ms_ok q_Nd_75 i_Ms z_Ms (by decide) ?_
      have k1' : (xnew w1 6 (.inr (3, [.int 0, .int 0, .int 0, .int 0, .int 0, .int 0]))).2.2 a = some (.inr (5, fNd nb n a ν)) := by rw [xnew_ne _ _ _ (by omega)]; exact k1
      refine x_dup 50 rfl d_Nd_propose_49 rfl ?_
      refine x_aload_n 51 rfl d_Nd_propose_50 rfl ?_
      refine x_get 54 rfl f_Nd_39 d_Nd_propose_51 k1' rfl ?_
      refine x_aload_n 55 rfl d_Nd_propose_54 rfl ?_
      refine x_get 58 rfl f_Nd_35 d_Nd_propose_55 k1' rfl ?_
      refine x_aload_n 59 rfl d_Nd_propose_58 rfl ?_
      refine x_get 62 rfl f_Nd_39 d_Nd_propose_59 k1' rfl ?_
      refine x_iconst 63 rfl d_Nd_propose_62 0 (by decide) ?_
      refine x_iload_n 64 rfl d_Nd_propose_63 rfl ?_
      refine x_iload 66 rfl d_Nd_propose_64 rfl ?_
      rw [hep]
      refine y_callI 69 rfl [_, _, _, _, _, _] _ rfl d_Nd_propose_66 c_Nd_104 rfl (Nat.le_of_ble_eq_true rfl) (Nat.le_of_ble_eq_true rfl) (Nat.le_of_ble_eq_true rfl) (s_Ms_init (mg := (n, e, n, 0, cRoot (cUn p) (cUn p2), nI (cWn (cUn p) (cUn p2) j))) rfl (xnew_at _ _ _) rfl (fun w2 j1 j2 j3 j4 => ?_))
      have j5 : ∀ x, x ≠ w1.1 → w2.2.2 x = w1.2.2 x := fun x hx => by rw [j4 x hx, xnew_ne _ _ _ hx]
      have hN2 := hN1.msg j1 j2 j5
      obtain ⟨ed, cap, -, -, -, hk4, -, -⟩ := hN1.2.2.2.2.2.2.2
      refine y_callV 72 rfl [_, _] _ rfl d_Nd_propose_69 hN2.2.2.2.1 rfl c_Nd_107 rfl (Nat.le_of_ble_eq_true rfl) (Nat.le_of_ble_eq_true rfl) (Nat.le_of_ble_eq_true rfl) (s_Nt_sendToOne hX rfl hj (by omega) hN2 j3 (by have := (hk4 j hj).1; exact Nat.lt_succ_of_le this) (fun w3 m1 m2 => ?_))
      refine x_iinc 75 rfl d_Nd_propose_72 rfl 1 (by decide) (by decide) ?_
      refine x_goto d_Nd_propose_75 29 (by decide) ?_
      refine xE.fit (ih (j + 1) _ w3 (nI_succ j).symm (by omega) (m1.congr (fun i hi => ?_)) (hf.tr ⟨fun x x1 x2 x3 => (m2.1 x x1 x2 x3).trans (j5 x (by omega)), fun ms fs hms => m2.2 ms fs (by rw [j5 ms (by have := (hN1.1 _ _ hms).2; omega)]; exact hms)⟩)) rfl
      by_cases z : i = j
      · subst z
        rw [va_up_self, if_neg (by omega), if_pos (by omega)]
        rfl
      · rw [va_up_ne _ _ z]
        by_cases z2 : i < j
        · rw [if_pos z2, if_pos (by omega)]
        · rw [if_neg z2, if_neg (by omega)]
  refine x_aload_n 1 rfl d_Nd_propose_0 rfl ?_
  refine x_get 4 rfl f_Nd_14 d_Nd_propose_1 g1 rfl ?_
  refine x_iconst 5 rfl d_Nd_propose_4 0 (by decide) ?_
  refine x_iconst 6 rfl d_Nd_propose_5 0 (by decide) ?_
  refine y_callV 9 rfl [_, _] _ rfl d_Nd_propose_6 hQ.1 rfl c_Nd_88 rfl (Nat.le_of_ble_eq_true rfl) (Nat.le_of_ble_eq_true rfl) (Nat.le_of_ble_eq_true rfl) (s_Rw_item (j := 0) rfl (by decide) hQ ?_)
  refine x_aload_n 10 rfl d_Nd_propose_9 rfl ?_
  refine x_get 13 rfl f_Nd_14 d_Nd_propose_10 g1 rfl ?_
  refine x_iconst 14 rfl d_Nd_propose_13 1 (by decide) ?_
  refine x_iconst 15 rfl d_Nd_propose_14 0 (by decide) ?_
  refine y_callV 18 rfl [_, _] _ rfl d_Nd_propose_15 hQ.1 rfl c_Nd_88 rfl (Nat.le_of_ble_eq_true rfl) (Nat.le_of_ble_eq_true rfl) (Nat.le_of_ble_eq_true rfl) (s_Rw_item (j := 1) rfl (by decide) hQ ?_)
  rw [hpe, hqe]
  refine y_call 21 rfl [_, _] _ rfl d_Nd_propose_18 c_Nd_92 rfl (Nat.le_of_ble_eq_true rfl) (Nat.le_of_ble_eq_true rfl) (Nat.le_of_ble_eq_true rfl) (s_Co_proposal (p := cUn p) (q := cUn p2) (nI_cUn _).symm (nI_cUn _).symm ?_)
  refine x_istore_n 22 rfl d_Nd_propose_21 (by decide) ?_
  refine x_iload_n 23 rfl d_Nd_propose_22 rfl ?_
  refine y_call 26 rfl [_] _ rfl d_Nd_propose_23 c_Nd_97 rfl (Nat.le_of_ble_eq_true rfl) (Nat.le_of_ble_eq_true rfl) (Nat.le_of_ble_eq_true rfl) (s_Co_rootOf rfl (by omega) ?_)
  rw [hm, hd]
  refine x_istore_n 27 rfl d_Nd_propose_26 (by decide) ?_
  refine x_iconst 28 rfl d_Nd_propose_27 0 (by decide) ?_
  refine x_istore_n 29 rfl d_Nd_propose_28 (by decide) ?_
  exact xE.fit (loop 4 0 0 w rfl rfl (hN.congr (fun i hi => by simp)) (frN.rf _ _ _ _)) rfl
end PR
