/-! A NODE STARTS AND TAKES -/
def mOk (m : sMg) : Prop := m.1 < 4 ∧ m.2.1 < 4 ∧ m.2.2.1 < 4 ∧ m.2.2.2.1 < 5 ∧ (3 ≤ m.2.2.2.1 → cUn m.2.2.2.2.1 < 6 ∧ cUn m.2.2.2.2.2 < 2)
def nKp (n : Nat) (ν : sN) (m : sMg) : sN := if 3 ≤ m.2.2.2.1 then nUp ν (4 * m.2.1 + m.2.2.1) (nB' ν m.2.1 m.2.2.1) (aKeep (nA' ν m.2.1 m.2.2.1) m.1 m.2.2.2.1 (cUn m.2.2.2.2.1) (cUn m.2.2.2.2.2)) else nUp ν (4 * m.2.1 + m.2.2.1) (bKeep n m.2.2.1 (nB' ν m.2.1 m.2.2.1) m) (nA' ν m.2.1 m.2.2.1)
def nTk (n : Nat) (t : Int32) (ν : sN) (m : sMg) : sN × List sMg := if ν.2.1 = true ∨ m.2.1 + 1 < ν.1 then (ν, []) else if ν.1 = m.2.1 + 1 then nGw n t 20 m.2.1 m.2.2.1 m.2.2.1 (nKp n ν m) else (nKp n ν m, [])
def nBg (ν : sN) : sN := (1, ν.2)
def nSt (n : Nat) (t : Int32) (ν : sN) : sN × List sMg := if ν.1 ≠ 0 ∨ ν.2.1 = true then (ν, []) else ((nGw n t 20 0 0 3 (nBg ν)).1, [nPr n (nBg ν)] ++ (nGw n t 20 0 0 3 (nBg ν)).2)
theorem iDle : ∀ p, p < 6 → ∀ e, e < 4 → (iD p ≤ nI e ↔ p ≤ e + 1) := by decide +kernel
theorem iDeq : ∀ p, p < 6 → ∀ e, e < 4 → (nI e = iD p ↔ p = e + 1) := by decide +kernel
theorem iDm1 : ∀ p, p < 6 → (iD p = -1 ↔ p = 0) := by decide +kernel
section TK
variable {X : xPar} {sb L : Nat} {xs : Nat → Int32} {tI tE mi nb dyn c0 s0 mo n e i a : Nat} {t : Int32} {q : Nat → List sMg} {ν : sN} {w : xW} {P : Option Value → xW → Prop}
theorem s_Nd_start (hX : xS X sb L xs tI tE mi) (hn : n < 4) (h5 : ν.1 ≤ 5) (hk : nQk ν (ν.1 - 1)) (hmo : mo + 16000 < 90000) (ha : nb + 10 ≤ a) (had : a + 151 ≤ dyn) (hN : rNt X tE nb dyn c0 s0 mo q w) (hR : rNd X nb n t a ν w) (h : ∀ w', oN X tE nb dyn c0 s0 mo n t a q (nSt n t ν) w' → frS X nb dyn a (a + 151) w w' → P (some (.int (nB (!decide (ν.1 ≠ 0 ∨ ν.2.1 = true))))) w') : xE (xGG X) 12 m_Nd_start 0 [(0, .ref a)] [] w P := by
  have g1 := hR.1
  have no : (ν.1 ≠ 0 ∨ ν.2.1 = true) → P (some (.int 0)) w := by
    intro z
    rw [nSt, if_pos z, decide_eq_true z] at h
    exact h w ⟨by rw [qV_nil]; exact hN, hR⟩ (frS.rf _ _ _ _ _ _)
  refine x_aload_n 1 rfl d_Nd_start_0 rfl ?_
  refine x_get 4 rfl f_Nd_35 d_Nd_start_1 g1 rfl ?_
  refine x_iconst 5 rfl d_Nd_start_4 (-1) (by decide) ?_
  refine x_icmp_ne 15 8 rfl d_Nd_start_5 (by decide) (fun hc => ?_) (fun hc => ?_)
  · refine x_iconst 16 rfl d_Nd_start_15 0 (by decide) ?_
    refine x_zret d_Nd_start_16 rfl (by decide) ?_
    exact no (Or.inl (fun z => hc ((iDm1 _ (by omega)).mpr z)))
  have z0 := (iDm1 _ (by omega)).mp hc
  refine x_aload_n 9 rfl d_Nd_start_8 rfl ?_
  refine x_get 12 rfl f_Nd_63 d_Nd_start_9 g1 rfl ?_
  refine x_if_eq 17 15 rfl d_Nd_start_12 (by decide) (fun hc => ?_) (fun hc => ?_)
  rotate_left
  · refine x_iconst 16 rfl d_Nd_start_15 0 (by decide) ?_
    refine x_zret d_Nd_start_16 rfl (by decide) ?_
    exact no (Or.inr (nB_ne hc))
  have zt := (nB_0 _).mp hc
  have zz : ¬ (ν.1 ≠ 0 ∨ ν.2.1 = true) := by
    intro z
    rcases z with z | z
    · exact z z0
    · rw [zt] at z; cases z
  rw [nSt, if_neg zz, decide_eq_false zz] at h
  have hbn := hN.2.2.2.2.2.2.1
  refine x_aload_n 18 rfl d_Nd_start_17 rfl ?_
  refine x_iconst 19 rfl d_Nd_start_18 0 (by decide) ?_
  refine x_put 22 rfl p_Nd_35 (fun h => nomatch h) d_Nd_start_19 g1 rfl rfl (Nat.le_of_ble_eq_true rfl) ?_
  generalize hw1 : xset w a _ = w1
  have f1 : fr w w1 a (a + 1) := by rw [← hw1]; exact (fr.rf w a (a + 1)).set _ (by omega) (by omega)
  have hc1 : ∀ x, a ≤ x → x < a + 1 → ∃ z, w.2.2 x = some z ∧ ∀ fs, z ≠ .inr (3, fs) := fun x x1 x2 => hR.cells x x1 (by omega)
  have hN1 := hN.own f1 hc1 (by omega) (by omega)
  have hR1 : rNd X nb n t a (nBg ν) w1 := hR.rows (fun x x1 x2 => f1.2.2 x (by omega)) (by rw [← hw1, xset_at]; rfl) (hR.2.1.kept (f1.2.2 _ (by omega)) (f1.2.2 _ (by omega))) (hR.2.2.1.kept (f1.2.2 _ (by omega)) (f1.2.2 _ (by omega))) rfl
  have hk1 : nQk (nBg ν) 0 := ⟨hk.1, by have := hk.2; show ν.2.2.2.1.length ≤ 8 * 0; rw [z0] at this; exact this⟩
  have g2 := hR1.1
  refine x_aload_n 23 rfl d_Nd_start_22 rfl ?_
  refine y_callV 26 rfl [] _ rfl d_Nd_start_23 g2 rfl c_Nd_67 rfl (Nat.le_of_ble_eq_true rfl) (Nat.le_of_ble_eq_true rfl) (Nat.le_of_ble_eq_true rfl) (s_Nd_propose hX hn (e := 0) rfl (by decide) hk1.1 (by omega) ha had hN1 hR1 (fun w2 hN2 hR2 f2 => ?_))
  have g3 := hR2.1
  refine x_aload_n 27 rfl d_Nd_start_26 rfl ?_
  refine x_iconst 28 rfl d_Nd_start_27 0 (by decide) ?_
  refine x_iconst 29 rfl d_Nd_start_28 3 (by decide) ?_
  refine y_callV 32 rfl [_, _] _ rfl d_Nd_start_29 g3 rfl c_Nd_70 rfl (Nat.le_of_ble_eq_true rfl) (Nat.le_of_ble_eq_true rfl) (Nat.le_of_ble_eq_true rfl) (s_Nd_goOnWith hX (nx := 0) (en := 3) rfl rfl (by decide) (by decide) hn (e := 0) rfl (by decide) hk1 (by omega) ha had hN2 hR2 (fun w3 k3 f3 => ?_))
  refine x_iconst 33 rfl d_Nd_start_32 1 (by decide) ?_
  refine x_zret d_Nd_start_33 rfl (by decide) ?_
  exact h w3 k3.app ((((fr.S (X := X) nb dyn f1 hc1).wide (by omega) (by omega)).tr (f2.S a (a + 151))).tr f3)
theorem nKp_keep (n : Nat) (ν : sN) (m : sMg) : (nKp n ν m).1 = ν.1 ∧ (nKp n ν m).2.1 = ν.2.1 ∧ (nKp n ν m).2.2.1 = ν.2.2.1 ∧ (nKp n ν m).2.2.2.1 = ν.2.2.2.1 := by
  unfold nKp
  split <;> exact ⟨rfl, rfl, rfl, rfl⟩
theorem s_Nd_take (hX : xS X sb L xs tI tE mi) {m : Nat} {mg : sMg} (hn : n < 4) (h5 : ν.1 ≤ 5) (hk : nQk ν (ν.1 - 1)) (hok : mOk mg) (hmo : mo + 15000 < 90000) (ha : nb + 10 ≤ a) (had : a + 151 ≤ dyn) (hN : rNt X tE nb dyn c0 s0 mo q w) (hR : rNd X nb n t a ν w) (hm : w.2.2 m = some (.inr (3, fMs mg))) (h : ∀ w', oN X tE nb dyn c0 s0 mo n t a q (nTk n t ν mg) w' → frS X nb dyn a (a + 151) w w' → P none w') : xE (xGG X) 12 m_Nd_take 0 [(0, .ref a), (1, .ref m)] [] w P := by
  obtain ⟨o1, o2, o3, o4, o5⟩ := hok
  have g1 := hR.1
  have hbn := hN.2.2.2.2.2.2.1
  have no : (ν.2.1 = true ∨ mg.2.1 + 1 < ν.1) → P none w := by
    intro z
    rw [nTk, if_pos z] at h
    exact h w ⟨by rw [qV_nil]; exact hN, hR⟩ (frS.rf _ _ _ _ _ _)
  refine x_aload_n 1 rfl d_Nd_take_0 rfl ?_
  refine x_get 4 rfl f_Nd_63 d_Nd_take_1 g1 rfl ?_
  refine x_if_ne 18 7 rfl d_Nd_take_4 (by decide) (fun hc => ?_) (fun hc => ?_)
  · refine x_vret d_Nd_take_18 rfl ?_
    exact no (Or.inl (nB_ne hc))
  have zt := (nB_0 _).mp hc
  refine x_aload_n 8 rfl d_Nd_take_7 rfl ?_
  refine x_get 11 rfl f_Nd_74 d_Nd_take_8 hm rfl ?_
  refine x_aload_n 12 rfl d_Nd_take_11 rfl ?_
  refine x_get 15 rfl f_Nd_35 d_Nd_take_12 g1 rfl ?_
  refine x_icmp_ge 19 18 rfl d_Nd_take_15 (by decide) (fun hc => ?_) (fun hc => ?_)
  rotate_left
  · refine x_vret d_Nd_take_18 rfl ?_
    exact no (Or.inr (by
      by_cases z : mg.2.1 + 1 < ν.1
      · exact z
      · exact absurd ((iDle _ (by omega) _ o2).mpr (by omega)) hc))
  have z1 := (iDle _ (by omega) _ o2).mp hc
  have zz : ¬ (ν.2.1 = true ∨ mg.2.1 + 1 < ν.1) := by
    intro z
    rcases z with z | z
    · rw [zt] at z; cases z
    · omega
  rw [nTk, if_neg zz] at h
  obtain ⟨c1, c2, c3, c4⟩ := nKp_keep n ν mg
  -- behind the keeping
  have fin : ∀ (w1 : xW) (lc : List (Nat × Value)), xlk lc 0 = some (.ref a) → xlk lc 1 = some (.ref m) → rNt X tE nb dyn c0 s0 mo q w1 → rNd X nb n t a (nKp n ν mg) w1 → w1.2.2 m = some (.inr (3, fMs mg)) → frS X nb dyn a (a + 151) w w1 → xE (xGG X) 12 m_Nd_take 62 lc [] w1 P := by
    intro w1 lc l0 l1 hN1 hR1 hm1 f1
    refine xE.fit (lc' := [(0, .ref a), (1, .ref m)]) ?_ (by simp only [List.map_cons, List.map_nil, l0, l1])
    have g2 := hR1.1
    refine x_aload_n 63 rfl d_Nd_take_62 rfl ?_
    refine x_get 66 rfl f_Nd_74 d_Nd_take_63 hm1 rfl ?_
    refine x_aload_n 67 rfl d_Nd_take_66 rfl ?_
    refine x_get 70 rfl f_Nd_35 d_Nd_take_67 g2 rfl ?_
    rw [c1]
    refine x_icmp_ne 85 73 rfl d_Nd_take_70 (by decide) (fun hc => ?_) (fun hc => ?_)
    · have z2 : ¬ ν.1 = mg.2.1 + 1 := fun z => hc ((iDeq _ (by omega) _ o2).mpr z)
      rw [if_neg z2] at h
      refine x_vret d_Nd_take_85 rfl ?_
      exact h w1 ⟨by rw [qV_nil]; exact hN1, hR1⟩ f1
    · have z2 := (iDeq _ (by omega) _ o2).mp hc
      rw [if_pos z2] at h
      refine x_aload_n 74 rfl d_Nd_take_73 rfl ?_
      refine x_aload_n 75 rfl d_Nd_take_74 rfl ?_
      refine x_get 78 rfl f_Nd_77 d_Nd_take_75 hm1 rfl ?_
      refine x_aload_n 79 rfl d_Nd_take_78 rfl ?_
      refine x_get 82 rfl f_Nd_77 d_Nd_take_79 hm1 rfl ?_
      refine y_callV 85 rfl [_, _] _ rfl d_Nd_take_82 g2 rfl c_Nd_70 rfl (Nat.le_of_ble_eq_true rfl) (Nat.le_of_ble_eq_true rfl) (Nat.le_of_ble_eq_true rfl) (s_Nd_goOnWith hX rfl rfl o3 o3 hn (c1.trans z2) o2 (by
        unfold nQk
        rw [c3, c4]
        have e9 : ν.1 - 1 = mg.2.1 := by omega
        rw [e9] at hk
        exact hk) (by omega) ha had hN1 hR1 (fun w3 k3 f3 => ?_))
      refine x_vret d_Nd_take_85 rfl ?_
      exact h w3 k3 (f1.tr f3)
  refine x_aload_n 20 rfl d_Nd_take_19 rfl ?_
  refine x_get 23 rfl f_Nd_74 d_Nd_take_20 hm rfl ?_
  refine x_iconst 24 rfl d_Nd_take_23 4 (by decide) ?_
  refine x_imul 25 rfl d_Nd_take_24 ?_
  refine x_aload_n 26 rfl d_Nd_take_25 rfl ?_
  refine x_get 29 rfl f_Nd_77 d_Nd_take_26 hm rfl ?_
  refine x_iadd 30 rfl d_Nd_take_29 ?_
  rw [iE4' _ o2 _ o3]
  have hb := hR.bc o2 o3
  have hA := hR.ag o2 o3
  obtain ⟨fb, b1, b2⟩ := hR.2.2.2.1
  obtain ⟨fa, a1, a2⟩ := hR.2.2.2.2.1
  refine x_istore_n 31 rfl d_Nd_take_30 (by decide) ?_
  refine x_aload_n 32 rfl d_Nd_take_31 rfl ?_
  refine x_get 35 rfl f_Nd_80 d_Nd_take_32 hm rfl ?_
  refine x_iconst 36 rfl d_Nd_take_35 3 (by decide) ?_
  refine x_icmp_lt 52 39 rfl d_Nd_take_36 (by decide) (fun hc => ?_) (fun hc => ?_)
  · have hk3 := (nI_ltI (b := 3) (by omega) (by decide)).mp hc
    refine x_aload_n 53 rfl d_Nd_take_52 rfl ?_
    refine x_get 56 rfl f_Nd_25 d_Nd_take_53 g1 rfl ?_
    refine x_iload_n 57 rfl d_Nd_take_56 rfl ?_
    refine x_aald 58 rfl d_Nd_take_57 b1 (t0 := 4) rfl (vp_in_nI (by omega) (by decide)) (by rw [nI_clamp (by omega)]; exact b2 _ (by omega)) ?_
    have g2 := hb.1
    refine x_aload_n 59 rfl d_Nd_take_58 rfl ?_
    refine y_callV 62 rfl [_] _ rfl d_Nd_take_59 g2 rfl c_Nd_87 rfl (Nat.le_of_ble_eq_true rfl) (Nat.le_of_ble_eq_true rfl) (Nat.le_of_ble_eq_true rfl) (s_Bc_keep hn o3 o1 hk3 hb hm (fun w1 k1 f1 => ?_))
    refine fin w1 _ rfl rfl (hN.own f1 hb.cells (by omega) (by omega)) ?_ ((fr.S (X := X) nb dyn f1 hb.cells).2 m _ hm) ((fr.S (X := X) nb dyn f1 hb.cells).wide (by omega) (by omega))
    unfold nKp
    rw [if_neg (by omega)]
    refine hR.inst (by omega) (fun x x1 x2 x3 => f1.2.2 x (by omega)) ?_ ?_
    · rw [show (4 * mg.2.1 + mg.2.2.1) / 4 = mg.2.1 from by omega, show (4 * mg.2.1 + mg.2.2.1) % 4 = mg.2.2.1 from by omega]
      exact k1
    · rw [show (4 * mg.2.1 + mg.2.2.1) / 4 = mg.2.1 from by omega, show (4 * mg.2.1 + mg.2.2.1) % 4 = mg.2.2.1 from by omega]
      exact hA.kept (fun x x1 x2 => f1.2.2 x (by omega))
  · have hk3 : 3 ≤ mg.2.2.2.1 := by
      by_cases z : 3 ≤ mg.2.2.2.1
      · exact z
      · exact absurd (nI_lt (b := 3) (by omega) (by decide)) hc
    refine x_aload_n 40 rfl d_Nd_take_39 rfl ?_
    refine x_get 43 rfl f_Nd_31 d_Nd_take_40 g1 rfl ?_
    refine x_iload_n 44 rfl d_Nd_take_43 rfl ?_
    refine x_aald 45 rfl d_Nd_take_44 a1 (t0 := 5) rfl (vp_in_nI (by omega) (by decide)) (by rw [nI_clamp (by omega)]; exact a2 _ (by omega)) ?_
    have g2 := hA.1
    refine x_aload_n 46 rfl d_Nd_take_45 rfl ?_
    refine y_callV 49 rfl [_] _ rfl d_Nd_take_46 g2 rfl c_Nd_83 rfl (Nat.le_of_ble_eq_true rfl) (Nat.le_of_ble_eq_true rfl) (Nat.le_of_ble_eq_true rfl) (s_Ag_keep o1 (by omega) (nI_cUn _).symm (nI_cUn _).symm (o5 hk3).1 (o5 hk3).2 hA hm (fun w1 k1 f1 => ?_))
    refine x_goto d_Nd_take_49 62 (by decide) ?_
    refine fin w1 _ rfl rfl (hN.own f1 hA.cells (by omega) (by omega)) ?_ ((fr.S (X := X) nb dyn f1 hA.cells).2 m _ hm) ((fr.S (X := X) nb dyn f1 hA.cells).wide (by omega) (by omega))
    unfold nKp
    rw [if_pos hk3]
    refine hR.inst (by omega) (fun x x1 x2 x3 => f1.2.2 x (by omega)) ?_ ?_
    · rw [show (4 * mg.2.1 + mg.2.2.1) / 4 = mg.2.1 from by omega, show (4 * mg.2.1 + mg.2.2.1) % 4 = mg.2.2.1 from by omega]
      exact hb.kept (fun x x1 x2 => f1.2.2 x (by omega))
    · rw [show (4 * mg.2.1 + mg.2.2.1) / 4 = mg.2.1 from by omega, show (4 * mg.2.1 + mg.2.2.1) % 4 = mg.2.2.1 from by omega]
      exact k1
end TK
