/-! THE LEDGER: RUN, DELIVER, BETRAY, SPEAK -/
theorem dl_lt {k : Int32} {len : Nat} (hl : len < 2 ^ 31) (h : 0 ≤ k ∧ k ≤ nI len - 1) : cUn k < len := by
  cases len with
  | zero =>
    have h1 := h.1
    have h2 := h.2
    rw [show nI 0 - 1 = -1 from rfl] at h2
    exact absurd (Int32.le_trans h1 h2) (by decide)
  | succ l =>
    have h2 := h.2
    rw [← nI_1, Int32.add_sub_cancel] at h2
    have := cUn_le (c := l) (by omega) h.1 h2
    omega
theorem lTk_inv {σ : sL} {mo n k : Nat} {t : Int32} {m : sMg} (hn : n < 4) (hI : lInv σ mo) (hm : (σ.2.2 n)[k]? = some m) : lInv (lTk t n k m σ) (mo + 4 * (nTk n t (σ.2.1 n) m).2.length) ∧ mo + 4 * (nTk n t (σ.2.1 n) m).2.length + 4 * lPot (lTk t n k m σ) ≤ mo + 4 * lPot σ := by
  obtain ⟨h1, h2, h3⟩ := hI
  have hok := (h1 n hn).2 m (List.mem_of_getElem? hm)
  have g1 := nTk_ok (t := t) hn hok (h1 n hn).1
  have p1 := nTk_pot (t := t) hn hok (h1 n hn).1
  have p2 := lNd_pot (σ := σ) (ν := (nTk n t (σ.2.1 n) m).1) (q := qV (va_up σ.2.2 n ((σ.2.2 n).eraseIdx k)) (nTk n t (σ.2.1 n) m).2) hn
  have e1 : mo + 4 * (nTk n t (σ.2.1 n) m).2.length + 4 * lPot (lTk t n k m σ) ≤ mo + 4 * lPot σ := by
    unfold lTk
    omega
  refine ⟨⟨lNd_ok h1 g1.1 (fun j hj => qV_ok (fun m' hm' => ?_) g1.2.1), by omega, h3⟩, e1⟩
  by_cases z : j = n
  · rw [z, va_up_self] at hm'
    exact (h1 n hn).2 m' (List.mem_of_mem_eraseIdx hm')
  · rw [va_up_ne _ _ z] at hm'
    exact (h1 j hj).2 m' hm'
section LD2
variable {X : xPar} {sb L : Nat} {xs : Nat → Int32} {tI tE mi b dyn c0 s0 mo n : Nat} {t : Int32} {σ : sL} {w : xW} {P : Option Value → xW → Prop}
theorem rNt.len {nb : Nat} {q : Nat → List sMg} (h : rNt X tE nb dyn c0 s0 mo q w) {j : Nat} (hj : j < 4) : (q j).length ≤ mo := by
  obtain ⟨ed, cap, -, -, -, hk4, -, -⟩ := h.2.2.2.2.2.2.2
  exact (hk4 j hj).1
theorem s_El_run (hX : xS X sb L xs tI tE mi) {nn x : Int32} (hL : rLd X tE b dyn c0 s0 mo t σ w) (hI : lInv σ mo) (h : ∀ w' mo', mo' + 4 * lPot (lRun t σ nn x).1 ≤ mo + 4 * lPot σ → rLd X tE b dyn c0 s0 mo' t (lRun t σ nn x).1 w' → frS X (b + 1) dyn b (b + 616) w w' → P (some (.int (lRun t σ nn x).2)) w') : xE (xGG X) 13 m_El_run 0 [(0, .ref b), (1, .int nn), (2, .int x)] [] w P := by
  have no : ¬ (lNode nn && decide (0 ≤ x ∧ x ≤ 60)) = true → P (some (.int (-1))) w := by
    intro z
    rw [lRun, if_neg z] at h
    exact h w mo (Nat.le_refl _) hL (frS.rf _ _ _ _ _ _)
  refine x_iload_n 1 rfl d_El_run_0 rfl ?_
  refine y_call 4 rfl [_] _ rfl d_El_run_1 c_El_30 rfl (Nat.le_of_ble_eq_true rfl) (Nat.le_of_ble_eq_true rfl) (Nat.le_of_ble_eq_true rfl) (s_El_isNode ?_)
  refine x_if_eq 17 7 rfl d_El_run_4 (by decide) (fun hc => ?_) (fun hc => ?_)
  · refine x_iconst 18 rfl d_El_run_17 (-1) (by decide) ?_
    refine x_iret d_El_run_18 rfl ?_
    exact no (by unfold lNode; rw [(nB_0 _).mp hc]; simp)
  have y1 : lNode nn = true := nB_ne hc
  have hn := lNode_lt y1
  refine x_iload_n 8 rfl d_El_run_7 rfl ?_
  refine x_iconst 9 rfl d_El_run_8 0 (by decide) ?_
  refine x_bipush 11 rfl d_El_run_9 60 (by decide) ?_
  refine y_call 14 rfl [_, _, _] _ rfl d_El_run_11 c_El_34 rfl (Nat.le_of_ble_eq_true rfl) (Nat.le_of_ble_eq_true rfl) (Nat.le_of_ble_eq_true rfl) (s_El_isIn ?_)
  refine x_if_ne 19 17 rfl d_El_run_14 (by decide) (fun hc => ?_) (fun hc => ?_)
  rotate_left
  · refine x_iconst 18 rfl d_El_run_17 (-1) (by decide) ?_
    refine x_iret d_El_run_18 rfl ?_
    exact no (by rw [(nB_0 _).mp hc]; simp)
  have y2 := nB_ne hc
  rw [lRun, if_pos (by rw [y1, y2]; rfl)] at h
  have hx := of_decide_eq_true y2
  have hx60 : cUn x ≤ 60 := cUn_le (c := 60) (by decide) hx.1 hx.2
  have ex : x = nI (cUn x) := (nI_cUn x).symm
  have e1 : nn = nI (cUn nn) := (nI_cUn nn).symm
  generalize cUn x = xn at ex hx60 h
  generalize cUn nn = n at e1 hn h
  subst ex e1
  have loop : ∀ (f k : Nat) (cc : Int32) (σ : sL) (mo : Nat) (w1 : xW), cc = nI k → k + f = xn → lInv σ mo → rLd X tE b dyn c0 s0 mo t σ w1 → (∀ w' mo', mo' + 4 * lPot (lRn t n f σ).1 ≤ mo + 4 * lPot σ → rLd X tE b dyn c0 s0 mo' t (lRn t n f σ).1 w' → frS X (b + 1) dyn b (b + 616) w1 w' → P (some (.int (nI (k + (lRn t n f σ).2)))) w') → xE (xGG X) 13 m_El_run 21 [(0, .ref b), (1, .int (nI n)), (2, .int (nI xn)), (3, .int cc)] [] w1 P := by
    intro f
    induction f with
    | zero =>
      intro k cc σ mo w1 hcc hk hI hL h
      have hk2 : xn = k := by omega
      subst hcc hk2
      refine x_iload_n 22 rfl d_El_run_21 rfl ?_
      refine x_iload_n 23 rfl d_El_run_22 rfl ?_
      refine x_icmp_ge 61 26 rfl d_El_run_23 (by decide) (fun hc => ?_) (fun hc => absurd (nI_le (Nat.le_refl _) (by omega)) hc)
      refine x_iload_n 62 rfl d_El_run_61 rfl ?_
      refine x_iret d_El_run_62 rfl ?_
      exact h w1 mo (Nat.le_refl _) hL (frS.rf _ _ _ _ _ _)
    | succ f ih =>
      intro k cc σ mo w1 hcc hk hI hL h
      subst hcc
      have hL0 := hL
      obtain ⟨h1, h2, g1, ⟨fa, g5, g6⟩, h6, h7⟩ := hL
      have hlen := h7.len hn
      have hmo := hI.2.1
      refine x_iload_n 22 rfl d_El_run_21 rfl ?_
      refine x_iload_n 23 rfl d_El_run_22 rfl ?_
      refine x_icmp_ge 61 26 rfl d_El_run_23 (by decide) (fun hc => absurd hc (nI_ge (by omega) (by omega))) (fun hc => ?_)
      have g4 := h7.2.2.2.1
      refine x_aload_n 27 rfl d_El_run_26 rfl ?_
      refine x_get 30 rfl f_El_17 d_El_run_27 g1 rfl ?_
      refine x_iload_n 31 rfl d_El_run_30 rfl ?_
      refine y_callV 34 rfl [_] _ rfl d_El_run_31 g4 rfl c_El_45 rfl (Nat.le_of_ble_eq_true rfl) (Nat.le_of_ble_eq_true rfl) (Nat.le_of_ble_eq_true rfl) (s_Nt_countFor rfl hn h7 ?_)
      refine x_if_le 61 37 rfl d_El_run_34 (by decide) (fun hc => ?_) (fun hc => ?_)
      · have z0 := (nIle0 (by omega)).mp hc
        have z1 : (σ.2.2 n)[0]? = none := List.getElem?_eq_none (by omega)
        rw [lRn, z1] at h
        refine x_iload_n 62 rfl d_El_run_61 rfl ?_
        refine x_iret d_El_run_62 rfl ?_
        exact h w1 mo (Nat.le_refl _) hL0 (frS.rf _ _ _ _ _ _)
      have z0 : 0 < (σ.2.2 n).length := by
        by_cases z : (σ.2.2 n).length = 0
        · exact absurd ((nIle0 (by omega)).mpr z) hc
        · omega
      obtain ⟨m, hm⟩ : ∃ m, (σ.2.2 n)[0]? = some m := ⟨_, List.getElem?_eq_getElem z0⟩
      rw [lRn, hm] at h
      have hok := (hI.1 n hn).2 m (List.mem_of_getElem? hm)
      have hG := (hI.1 n hn).1
      obtain ⟨hI2, hp2⟩ := lTk_inv (t := t) hn hI hm
      refine x_aload_n 38 rfl d_El_run_37 rfl ?_
      refine x_get 41 rfl f_El_23 d_El_run_38 g1 rfl ?_
      refine x_iload_n 42 rfl d_El_run_41 rfl ?_
      refine x_aald 43 rfl d_El_run_42 g5 (t0 := 3) rfl (vp_in_nI hn (by decide)) (by rw [nI_clamp (by omega)]; exact g6 _ hn) ?_
      refine x_aload_n 44 rfl d_El_run_43 rfl ?_
      refine x_get 47 rfl f_El_17 d_El_run_44 g1 rfl ?_
      refine x_iload_n 48 rfl d_El_run_47 rfl ?_
      refine x_iconst 49 rfl d_El_run_48 0 (by decide) ?_
      refine y_callV 52 rfl [_, _] _ rfl d_El_run_49 g4 rfl c_El_49 rfl (Nat.le_of_ble_eq_true rfl) (Nat.le_of_ble_eq_true rfl) (Nat.le_of_ble_eq_true rfl) (s_Nt_remove hX rfl (k := 0) rfl hn (by omega) h7 hm (fun w2 ma k1 k2 k3 k4 => ?_))
      have hL2 := hL0.net k3 k1
      have hR2 := hL2.2.2.2.2.1 n hn
      have g7 := hR2.1
      refine y_callV 55 rfl [_] _ rfl d_El_run_52 g7 rfl c_El_53 rfl (Nat.le_of_ble_eq_true rfl) (Nat.le_of_ble_eq_true rfl) (Nat.le_of_ble_eq_true rfl) (s_Nd_take hX hn hG.1 hG.2.1 hok (by omega) (by omega) (by omega) k1 hR2 k2 (fun w3 k5 k6 => ?_))
      have hL3 : rLd X tE b dyn c0 s0 _ t (lTk t n 0 m σ) w3 := hL2.upd hn (k6.wide (by omega) (by omega)) k5.1 k5.2
      refine x_iinc 58 rfl d_El_run_55 rfl 1 (by decide) (by decide) ?_
      refine x_goto d_El_run_58 21 (by decide) ?_
      rw [nI_1]
      refine xE.fit (ih (k + 1) _ (lTk t n 0 m σ) _ w3 rfl (by omega) hI2 hL3 (fun w4 mo4 q1 q2 q3 => ?_)) rfl
      have := h w4 mo4 (by dsimp only; omega) q2 (((k3.S b (b + 616)).tr (k6.wide (by omega) (by omega))).tr q3)
      dsimp only at this
      rw [show k + ((lRn t n f (lTk t n 0 m σ)).2 + 1) = k + 1 + (lRn t n f (lTk t n 0 m σ)).2 from by omega] at this
      exact this
  refine x_iconst 20 rfl d_El_run_19 0 (by decide) ?_
  refine x_istore_n 21 rfl d_El_run_20 (by decide) ?_
  refine xE.fit (loop xn 0 0 σ mo w rfl (by omega) hI hL (fun w' mo' q1 q2 q3 => ?_)) rfl
  rw [Nat.zero_add]
  exact h w' mo' q1 q2 q3
theorem s_El_deliver (hX : xS X sb L xs tI tE mi) {nn kk : Int32} (hL : rLd X tE b dyn c0 s0 mo t σ w) (hI : lInv σ mo) (h : ∀ w' mo', mo' + 4 * lPot (lDel t σ nn kk).1 ≤ mo + 4 * lPot σ → rLd X tE b dyn c0 s0 mo' t (lDel t σ nn kk).1 w' → frS X (b + 1) dyn b (b + 616) w w' → P (some (.int (lDel t σ nn kk).2)) w') : xE (xGG X) 13 m_El_deliver 0 [(0, .ref b), (1, .int nn), (2, .int kk)] [] w P := by
  have hL0 := hL
  obtain ⟨h1, h2, g1, ⟨fa, g5, g6⟩, h6, h7⟩ := hL
  have g4 := h7.2.2.2.1
  have no : ¬ (lNode nn && decide (0 ≤ kk ∧ kk ≤ nI (σ.2.2 (cUn nn)).length - 1)) = true → P (some (.int (-1))) w := by
    intro z
    rw [lDel, if_neg z] at h
    exact h w mo (Nat.le_refl _) hL0 (frS.rf _ _ _ _ _ _)
  refine x_iload_n 1 rfl d_El_deliver_0 rfl ?_
  refine y_call 4 rfl [_] _ rfl d_El_deliver_1 c_El_30 rfl (Nat.le_of_ble_eq_true rfl) (Nat.le_of_ble_eq_true rfl) (Nat.le_of_ble_eq_true rfl) (s_El_isNode ?_)
  refine x_if_eq 25 7 rfl d_El_deliver_4 (by decide) (fun hc => ?_) (fun hc => ?_)
  · refine x_iconst 26 rfl d_El_deliver_25 (-1) (by decide) ?_
    refine x_iret d_El_deliver_26 rfl ?_
    exact no (by unfold lNode; rw [(nB_0 _).mp hc]; simp)
  have y1 : lNode nn = true := nB_ne hc
  have hn := lNode_lt y1
  have e1 : nn = nI (cUn nn) := (nI_cUn nn).symm
  have hlen := h7.len hn
  have hmo := hI.2.1
  refine x_iload_n 8 rfl d_El_deliver_7 rfl ?_
  refine x_iconst 9 rfl d_El_deliver_8 0 (by decide) ?_
  refine x_aload_n 10 rfl d_El_deliver_9 rfl ?_
  refine x_get 13 rfl f_El_17 d_El_deliver_10 g1 rfl ?_
  refine x_iload_n 14 rfl d_El_deliver_13 rfl ?_
  refine y_callV 17 rfl [_] _ rfl d_El_deliver_14 g4 rfl c_El_45 rfl (Nat.le_of_ble_eq_true rfl) (Nat.le_of_ble_eq_true rfl) (Nat.le_of_ble_eq_true rfl) (s_Nt_countFor e1 hn h7 ?_)
  refine x_iconst 18 rfl d_El_deliver_17 1 (by decide) ?_
  refine x_isub 19 rfl d_El_deliver_18 ?_
  refine y_call 22 rfl [_, _, _] _ rfl d_El_deliver_19 c_El_34 rfl (Nat.le_of_ble_eq_true rfl) (Nat.le_of_ble_eq_true rfl) (Nat.le_of_ble_eq_true rfl) (s_El_isIn ?_)
  refine x_if_ne 27 25 rfl d_El_deliver_22 (by decide) (fun hc => ?_) (fun hc => ?_)
  rotate_left
  · refine x_iconst 26 rfl d_El_deliver_25 (-1) (by decide) ?_
    refine x_iret d_El_deliver_26 rfl ?_
    exact no (by rw [(nB_0 _).mp hc]; simp)
  have y2 := nB_ne hc
  have hk := dl_lt (by omega) (of_decide_eq_true y2)
  obtain ⟨m, hm⟩ : ∃ m, (σ.2.2 (cUn nn))[cUn kk]? = some m := ⟨_, List.getElem?_eq_getElem hk⟩
  rw [lDel, if_pos (by rw [y1, y2]; rfl), hm] at h
  have hok := (hI.1 _ hn).2 m (List.mem_of_getElem? hm)
  have hG := (hI.1 _ hn).1
  obtain ⟨hI2, hp2⟩ := lTk_inv (t := t) hn hI hm
  refine x_aload_n 28 rfl d_El_deliver_27 rfl ?_
  refine x_get 31 rfl f_El_17 d_El_deliver_28 g1 rfl ?_
  refine x_iload_n 32 rfl d_El_deliver_31 rfl ?_
  refine x_iload_n 33 rfl d_El_deliver_32 rfl ?_
  refine y_callV 36 rfl [_, _] _ rfl d_El_deliver_33 g4 rfl c_El_49 rfl (Nat.le_of_ble_eq_true rfl) (Nat.le_of_ble_eq_true rfl) (Nat.le_of_ble_eq_true rfl) (s_Nt_remove hX e1 (k := cUn kk) (nI_cUn kk).symm hn (by omega) h7 hm (fun w2 ma k1 k2 k3 k4 => ?_))
  have hL2 := hL0.net k3 k1
  obtain ⟨-, -, g1', ⟨fa', g5', g6'⟩, -, -⟩ := hL2
  have hL2 := hL0.net k3 k1
  have hR2 := hL2.2.2.2.2.1 _ hn
  have g7 := hR2.1
  refine x_astore_n 37 rfl d_El_deliver_36 (by decide) ?_
  refine x_aload_n 38 rfl d_El_deliver_37 rfl ?_
  refine x_get 41 rfl f_El_23 d_El_deliver_38 g1' rfl ?_
  refine x_iload_n 42 rfl d_El_deliver_41 rfl ?_
  refine x_aald 43 rfl d_El_deliver_42 g5' (t0 := 3) rfl (by rw [e1]; exact vp_in_nI hn (by decide)) (by rw [e1, nI_clamp (by omega)]; exact g6' _ hn) ?_
  refine x_aload_n 44 rfl d_El_deliver_43 rfl ?_
  refine y_callV 47 rfl [_] _ rfl d_El_deliver_44 g7 rfl c_El_53 rfl (Nat.le_of_ble_eq_true rfl) (Nat.le_of_ble_eq_true rfl) (Nat.le_of_ble_eq_true rfl) (s_Nd_take hX hn hG.1 hG.2.1 hok (by omega) (by omega) (by omega) k1 hR2 k2 (fun w3 k5 k6 => ?_))
  have hL3 : rLd X tE b dyn c0 s0 _ t (lTk t (cUn nn) (cUn kk) m σ) w3 := hL2.upd hn (k6.wide (by omega) (by omega)) k5.1 k5.2
  have g8 := k6.2 ma _ k2
  refine x_aload_n 48 rfl d_El_deliver_47 rfl ?_
  refine x_get 51 rfl f_El_57 d_El_deliver_48 g8 rfl ?_
  refine x_iret d_El_deliver_51 rfl ?_
  exact h w3 _ hp2 hL3 ((k3.S b (b + 616)).tr (k6.wide (by omega) (by omega)))
end LD2
