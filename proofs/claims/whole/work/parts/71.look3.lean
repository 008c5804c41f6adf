/-! THE REFERENCE: LOOK -/
section LO
variable {X : xPar} {m0 : Nat} {t : Int32} {n e : Nat} {s : sS} {M0 : Nat → Nat → Int32} {lg : List sPo} {ν : sN} {w0 w : xW} {P : Option Value → xW → Prop}
def l1 (ν : sN) (e k : Nat) : Bool := decide ((nA' ν e k).2 2 = 2)
def l2 (ν : sN) (e k : Nat) : Bool := decide ((nA' ν e k).2 2 ≠ 0)
def l3 (ν : sN) (e k : Nat) : Bool := decide ((nA' ν e k).2 2 ≠ 2) || decide ((nB' ν e k).2 2 ≠ -1)
theorem nRf_c : nRf ν e = if 3 ≤ cN (l1 ν e) 4 then (List.range' 0 4).find? (fun i => !(nA' ν e i).1 0) else none := by
  rw [cN_len]; rfl
theorem nMay_c : nMay ν e = (decide (cN (l2 ν e) 4 = 4) && aN (l3 ν e) 4) := (may_iff (l2 ν e) (l3 ν e))
theorem cN_s (g : Nat → Bool) (j : Nat) : cN g (j + 1) = cN g j + cond (g j) 1 0 := rfl
theorem s_Mo_look {nn : Int32} (q1 : nn = nI n) (hn : n < 4) (he : e < 4) (hep : ν.1 = e + 1) (hl : lg.length < 1700) (hm : mN X m0 t n s M0 lg ν w0 w)
    (h1 : ∀ j w', nRf ν e = some j → mN X m0 t n (s.1, s.2.1, s.2.2.1, s.2.2.2.1, nI j, s.2.2.2.2.2) M0 lg (nGive ν e j) w0 w' → P none w')
    (h2 : nRf ν e = none → nMay ν e = false → P none w)
    (h3 : ∀ w', nRf ν e = none → nMay ν e = true → e = 3 → mN X m0 t n (s.1, s.2.1, s.2.2.1, s.2.2.2.1, -1, 4) M0 lg (nCm ν e) w0 w' → P none w')
    (h4 : ∀ w', nRf ν e = none → nMay ν e = true → e < 3 → mN X m0 t n (s.1, s.2.1, s.2.2.1, s.2.2.2.1, -1, 0) M0 (lg ++ [(nPr n (nCm ν e), 0)]) (nCm ν e) w0 w' → P none w') : xE (xGG X) 3 m_Mo_look 0 [(0, .ref m0), (1, .int nn)] [] w P := by
  subst q1
  have hm0 := hm
  obtain ⟨gv, g, M, hR, hg, hN, hF, hw, hI⟩ := hm
  have g1 := hR.1
  have g22 := hR.a22
  have g23 := hR.a23
  have g28 := hR.a28
  have hD := hN.2.2.2.1 e hep he
  have ok : ∀ j, j < 4 → (nA' ν e j).2 2 < 3 := fun j hj => (hI.1 (4 * e + j) (by omega)).1.2.2.1
  have hq : ∀ j, j < 4 → (nB' ν e j).2 2 = -1 ∨ 0 ≤ (nB' ν e j).2 2 := by
    intro j hj
    rcases (hI.1 (4 * e + j) (by omega)).2.2.2 with z | z
    · exact Or.inl z
    · right
      have := nI_nn z
      rw [nI_cUn] at this
      exact this
  have cA := cN_le (l1 ν e)
  have cB := cN_le (l2 ν e)
  -- commit or not
  have tail : nRf ν e = none → ∀ lc, xlk lc 0 = some (.ref m0) → xlk lc 1 = some (.int (nI n)) → xlk lc 3 = some (.int (nI (cN (l2 ν e) 4))) → xlk lc 4 = some (.int (nB (aN (l3 ν e) 4))) → xE (xGG X) 3 m_Mo_look 163 lc [] w P := by
    intro hr lc l0 l1' l3' l4
    refine xE.fit (lc' := [(0, .ref m0), (1, .int (nI n)), (3, .int (nI (cN (l2 ν e) 4))), (4, .int (nB (aN (l3 ν e) 4)))]) ?_ (by simp only [List.map_cons, List.map_nil, l0, l1', l3', l4])
    have hB := cB 4
    refine x_iload_n 164 rfl d_Mo_look_163 rfl ?_
    refine x_iconst 165 rfl d_Mo_look_164 4 (by decide) ?_
    refine x_icmp_ne 178 168 rfl d_Mo_look_165 (by decide) (fun hc => ?_) (fun hc => ?_)
    · refine x_vret d_Mo_look_178 rfl ?_
      exact h2 hr (by rw [nMay_c, decide_eq_false (fun z => hc (by rw [z]; rfl))]; rfl)
    have y : cN (l2 ν e) 4 = 4 := (nI_eq (a := cN (l2 ν e) 4) (b := 4) (by omega) (by decide)).mp hc
    refine x_iload 170 rfl d_Mo_look_168 rfl ?_
    refine x_if_eq 178 173 rfl d_Mo_look_170 (by decide) (fun hc => ?_) (fun hc => ?_)
    · refine x_vret d_Mo_look_178 rfl ?_
      exact h2 hr (by rw [nMay_c, (nB_0 _).mp hc, Bool.and_false])
    have hM : nMay ν e = true := by rw [nMay_c, nB_ne hc, decide_eq_true y]; rfl
    refine x_aload_n 174 rfl d_Mo_look_173 rfl ?_
    refine x_iload_n 175 rfl d_Mo_look_174 rfl ?_
    refine y_callV 178 rfl [_] _ rfl d_Mo_look_175 g1 rfl c_Mo_239 rfl (Nat.le_of_ble_eq_true rfl) (Nat.le_of_ble_eq_true rfl) (Nat.le_of_ble_eq_true rfl) (s_Mo_commit rfl hn he hep hl hm0 (fun w' a1 a2 => ?_) (fun w' a1 a2 => ?_))
    · refine x_vret d_Mo_look_178 rfl ?_
      exact h3 w' hr hM a1 a2
    · refine x_vret d_Mo_look_178 rfl ?_
      exact h4 w' hr hM a1 a2
  -- who gets the input 0
  have loop2 : ∀ (m j : Nat) (cc : Int32), cc = nI j → j + m = 4 → (∀ k, k < j → (nA' ν e k).1 0 = true) → xE (xGG X) 3 m_Mo_look 101 [(0, .ref m0), (1, .int (nI n)), (2, .int (nI (cN (l1 ν e) 4))), (3, .int (nI (cN (l2 ν e) 4))), (4, .int (nB (aN (l3 ν e) 4))), (5, .int cc)] [] w P := by
    have hA := cA 4
    intro m
    induction m with
    | zero =>
      intro j cc hcc hj hk
      have hj4 : j = 4 := by omega
      subst hj4 hcc
      refine x_iload 103 rfl d_Mo_look_101 rfl ?_
      refine x_iconst 104 rfl d_Mo_look_103 4 (by decide) ?_
      refine x_icmp_ge 163 107 rfl d_Mo_look_104 (by decide) (fun hc => ?_) (fun hc => absurd (by decide) hc)
      refine tail ?_ _ rfl rfl rfl rfl
      rw [nRf_c]
      split
      · exact fnd_nn (fun k hk4 => by rw [hk k hk4]; rfl)
      · rfl
    | succ m ih =>
      intro j cc hcc hj hk
      subst hcc
      have hj4 : j < 4 := by omega
      refine x_iload 103 rfl d_Mo_look_101 rfl ?_
      refine x_iconst 104 rfl d_Mo_look_103 4 (by decide) ?_
      refine x_icmp_ge 163 107 rfl d_Mo_look_104 (by decide) (fun hc => absurd hc (nI_ge (a := j) (b := 4) (by omega) (by decide))) (fun hc => ?_)
      refine x_iload_n 108 rfl d_Mo_look_107 rfl ?_
      refine x_iconst 109 rfl d_Mo_look_108 3 (by decide) ?_
      refine x_icmp_lt 163 112 rfl d_Mo_look_109 (by decide) (fun hc => ?_) (fun hc => ?_)
      · have z : cN (l1 ν e) 4 < 3 := (nI_ltI (b := 3) (by omega) (by decide)).mp hc
        refine tail ?_ _ rfl rfl rfl rfl
        rw [nRf_c, if_neg (by omega)]
      have z : 3 ≤ cN (l1 ν e) 4 := by
        by_cases z : cN (l1 ν e) 4 < 3
        · exact absurd ((nI_ltI (b := 3) (by omega) (by decide)).mpr z) hc
        · omega
      refine x_aload_n 113 rfl d_Mo_look_112 rfl ?_
      refine x_get 116 rfl f_Mo_80 d_Mo_look_113 g1 rfl ?_
      refine x_iconst 117 rfl d_Mo_look_116 4 (by decide) ?_
      refine x_iload_n 118 rfl d_Mo_look_117 rfl ?_
      refine x_imul 119 rfl d_Mo_look_118 ?_
      refine x_iload 121 rfl d_Mo_look_119 rfl ?_
      refine x_iadd 122 rfl d_Mo_look_121 ?_
      rw [i4]
      refine x_zald 123 rfl d_Mo_look_122 g23 (t0 := 1) rfl (vp_in_nI (by omega) (by decide)) ?_
      rw [nI_clamp (by omega), (hD j hj4).c23]
      refine x_if_ne 157 126 rfl d_Mo_look_123 (by decide) (fun hc => ?_) (fun hc => ?_)
      · refine x_iinc 160 rfl d_Mo_look_157 rfl 1 (by decide) (by decide) ?_
        refine x_goto d_Mo_look_160 101 (by decide) ?_
        rw [nI_1]
        refine xE.fit (ih (j + 1) _ rfl (by omega) (fun k hk2 => ?_)) rfl
        by_cases y : k = j
        · rw [y]; exact nB_ne hc
        · exact hk k (by omega)
      have y := (nB_0 _).mp hc
      have hr : nRf ν e = some j := by
        rw [nRf_c, if_pos z]
        exact fnd_at hj4 (fun k hk2 => by rw [hk k hk2]; rfl) (by rw [y]; rfl)
      have hp0 : pRel M (16 * n + 4 * e + j) (nB' ν e j) (nA' ν e j) := by
        have := hN.2.2.1 (4 * e + j) (by omega)
        rw [← Nat.add_assoc] at this
        exact this
      have hd0 := hD j hj4
      refine x_aload_n 127 rfl d_Mo_look_126 rfl ?_
      refine x_get 130 rfl f_Mo_80 d_Mo_look_127 g1 rfl ?_
      refine x_iconst 131 rfl d_Mo_look_130 4 (by decide) ?_
      refine x_iload_n 132 rfl d_Mo_look_131 rfl ?_
      refine x_imul 133 rfl d_Mo_look_132 ?_
      refine x_iload 135 rfl d_Mo_look_133 rfl ?_
      refine x_iadd 136 rfl d_Mo_look_135 ?_
      rw [i4]
      refine x_iconst 137 rfl d_Mo_look_136 1 (by decide) ?_
      refine x_zast 138 rfl d_Mo_look_137 g23 (t0 := 1) rfl (vp_in_nI (by omega) (by decide)) z1 ?_
      rw [nI_clamp (by omega)]
      have I1 : mI X m0 t n e j s M lg (nB' ν e j) (va_up (nA' ν e j).1 0 true, (nA' ν e j).2) (g j) w _ := mI_put hR hg hp0 hd0 (iFr.rf _ _ _) (fr.rf _ _ _) (j0 := 23) (x := 1) (by decide) (by decide) (by show nB (va_up (nA' ν e j).1 0 true 0) = 1; rw [va_up_self]; rfl) (fun j' k1 k2 k3 => by
        rcases dc k1 k2 with rfl | rfl | rfl | rfl | rfl | rfl | rfl | rfl
        · rfl
        · exact absurd rfl k3
        · rfl
        · rfl
        · rfl
        · rfl
        · rfl
        · show nB (va_up (nA' ν e j).1 0 true 1) = nB ((nA' ν e j).1 1); rw [va_up_ne _ _ (by decide)]) (pV_lo (fun k hk => by dsimp only; rw [va_up_ne _ _ (by omega)]) (fun k hk => rfl))
      generalize hw2 : xset w (m0 + 1 + 23) _ = w2
      have I1 : mI X m0 t n e j s M lg (nB' ν e j) (va_up (nA' ν e j).1 0 true, (nA' ν e j).2) (g j) w w2 := by rw [← hw2]; exact I1
      obtain ⟨gv1, M1, hR1, hg1, hp1, hd1, hf1, hw1⟩ := I1
      have k1 := hR1.1
      have k24 := hR1.a24
      refine x_aload_n 139 rfl d_Mo_look_138 rfl ?_
      refine x_get 142 rfl f_Mo_83 d_Mo_look_139 k1 rfl ?_
      refine x_iconst 143 rfl d_Mo_look_142 4 (by decide) ?_
      refine x_iload_n 144 rfl d_Mo_look_143 rfl ?_
      refine x_imul 145 rfl d_Mo_look_144 ?_
      refine x_iload 147 rfl d_Mo_look_145 rfl ?_
      refine x_iadd 148 rfl d_Mo_look_147 ?_
      rw [i4]
      refine x_iconst 149 rfl d_Mo_look_148 0 (by decide) ?_
      refine x_iast 150 rfl d_Mo_look_149 k24 (t0 := 0) rfl (vp_in_nI (by omega) (by decide)) ?_
      rw [nI_clamp (by omega)]
      have I2 : mI X m0 t n e j s M lg (nB' ν e j) (va_up (nA' ν e j).1 0 true, va_up (nA' ν e j).2 1 0) (g j) w _ := mI_put hR1 hg1 hp1 hd1 hf1 hw1 (j0 := 24) (x := 0) (by decide) (by decide) (by show nI (va_up (nA' ν e j).2 1 0 1) = 0; rw [va_up_self]; rfl) (fun j' k1 k2 k3 => d_es (α := (va_up (nA' ν e j).1 0 true, (nA' ν e j).2)) k1 k2 k3) (pV_lo (α := (va_up (nA' ν e j).1 0 true, (nA' ν e j).2)) (fun k hk => rfl) (fun k hk => by dsimp only; rw [va_up_ne _ _ (by omega)]))
      generalize hw3 : xset w2 (m0 + 1 + 24) _ = w3
      have I2 : mI X m0 t n e j s M lg (nB' ν e j) (va_up (nA' ν e j).1 0 true, va_up (nA' ν e j).2 1 0) (g j) w w3 := by rw [← hw3]; exact I2
      obtain ⟨gv2, M2, hR2, hg2, hp2, hd2, hf2, hw2⟩ := I2
      have k1 := hR2.1
      refine x_aload_n 151 rfl d_Mo_look_150 rfl ?_
      refine x_iload 153 rfl d_Mo_look_151 rfl ?_
      refine x_put 156 rfl p_Mo_165 (fun h => nomatch h) d_Mo_look_153 k1 rfl rfl (Nat.le_of_ble_eq_true rfl) ?_
      refine x_vret d_Mo_look_156 rfl ?_
      have hG : aIn (nA' ν e j) 0 = (va_up (nA' ν e j).1 0 true, va_up (nA' ν e j).2 1 0) := by unfold aIn; rw [y, if_neg (by decide)]
      have R3 : rMo X m0 t (s.1, s.2.1, nI lg.length, gv2, nI j, s.2.2.2.2.2) M2 _ := hR2.fld
      refine h1 j _ hr ⟨gv2, va_up g j (g j), M2, R3, hg2, ?_, hF.tr (iFr.N (k := 4 * e + j) (by omega) hj4 (by rw [← Nat.add_assoc]; exact hf2)), (hw.tr hw2).set _ (by omega) (by omega), nGive_inv he hj4 hep hI⟩
      unfold nGive
      rw [hG]
      exact hN.inst he hj4 hep hp2 hd2 (hN.2.2.2.2 j) hf2
  -- counting
  have loop : ∀ (m j : Nat) (cc : Int32), cc = nI (4 * n + j) → j + m = 4 → xE (xGG X) 3 m_Mo_look 12 [(0, .ref m0), (1, .int (nI n)), (2, .int (nI (cN (l1 ν e) j))), (3, .int (nI (cN (l2 ν e) j))), (4, .int (nB (aN (l3 ν e) j))), (5, .int cc)] [] w P := by
    intro m
    induction m with
    | zero =>
      intro j cc hcc hj
      have hj4 : j = 4 := by omega
      subst hj4 hcc
      refine x_iload 14 rfl d_Mo_look_12 rfl ?_
      refine x_iconst 15 rfl d_Mo_look_14 4 (by decide) ?_
      refine x_iload_n 16 rfl d_Mo_look_15 rfl ?_
      refine x_imul 17 rfl d_Mo_look_16 ?_
      refine x_iconst 18 rfl d_Mo_look_17 4 (by decide) ?_
      refine x_iadd 19 rfl d_Mo_look_18 ?_
      rw [show (4 : Int32) * nI n + 4 = nI (4 * n + 4) from i4 n 4]
      refine x_icmp_ge 98 22 rfl d_Mo_look_19 (by decide) (fun hc => ?_) (fun hc => absurd (nI_le (by omega) (by omega)) hc)
      refine x_iconst 99 rfl d_Mo_look_98 0 (by decide) ?_
      refine x_istore 101 rfl d_Mo_look_99 (by decide) ?_
      exact xE.fit (loop2 4 0 0 rfl (by omega) (fun k hk => absurd hk (by omega))) rfl
    | succ m ih =>
      intro j cc hcc hj
      subst hcc
      have hj4 : j < 4 := by omega
      have d22 := (hD j hj4).c22
      have d28 := (hD j hj4).c28
      have o := ok j hj4
      have C90 : ∀ (b : Bool) (lc : List (Nat × Value)), b = aN (l3 ν e) (j + 1) → xlk lc 0 = some (.ref m0) → xlk lc 1 = some (.int (nI n)) → xlk lc 2 = some (.int (nI (cN (l1 ν e) (j + 1)))) → xlk lc 3 = some (.int (nI (cN (l2 ν e) (j + 1)))) → xlk lc 5 = some (.int (nI (4 * n + j))) → xE (xGG X) 3 m_Mo_look 90 lc [.int (nB b)] w P := by
        intro b lc hb a0 a1 a2 a3 a5
        refine xE.fit (lc' := [(0, .ref m0), (1, .int (nI n)), (2, .int (nI (cN (l1 ν e) (j + 1)))), (3, .int (nI (cN (l2 ν e) (j + 1)))), (5, .int (nI (4 * n + j)))]) ?_ (by simp only [List.map_cons, List.map_nil, a0, a1, a2, a3, a5])
        refine x_istore 92 rfl d_Mo_look_90 (by decide) ?_
        refine x_iinc 95 rfl d_Mo_look_92 rfl 1 (by decide) (by decide) ?_
        refine x_goto d_Mo_look_95 12 (by decide) ?_
        rw [nI_1, hb]
        exact xE.fit (ih (j + 1) _ rfl (by omega)) rfl
      have C58 : ∀ (c : Nat) (lc : List (Nat × Value)), c = cN (l2 ν e) (j + 1) → xlk lc 0 = some (.ref m0) → xlk lc 1 = some (.int (nI n)) → xlk lc 2 = some (.int (nI (cN (l1 ν e) (j + 1)))) → xlk lc 4 = some (.int (nB (aN (l3 ν e) j))) → xlk lc 5 = some (.int (nI (4 * n + j))) → xE (xGG X) 3 m_Mo_look 58 lc [.int (nI c)] w P := by
        intro c lc hcc a0 a1 a2 a4 a5
        subst hcc
        refine xE.fit (lc' := [(0, .ref m0), (1, .int (nI n)), (2, .int (nI (cN (l1 ν e) (j + 1)))), (4, .int (nB (aN (l3 ν e) j))), (5, .int (nI (4 * n + j)))]) ?_ (by simp only [List.map_cons, List.map_nil, a0, a1, a2, a4, a5])
        refine x_istore_n 59 rfl d_Mo_look_58 (by decide) ?_
        refine x_iload 61 rfl d_Mo_look_59 rfl ?_
        refine x_if_eq 89 64 rfl d_Mo_look_61 (by decide) (fun hc => ?_) (fun hc => ?_)
        · refine x_iconst 90 rfl d_Mo_look_89 0 (by decide) ?_
          exact C90 false _ (by show false = (aN (l3 ν e) j && l3 ν e j); rw [(nB_0 _).mp hc]; rfl) rfl rfl rfl rfl rfl
        have y := nB_ne hc
        refine x_aload_n 65 rfl d_Mo_look_64 rfl ?_
        refine x_get 68 rfl f_Mo_95 d_Mo_look_65 g1 rfl ?_
        refine x_iload 70 rfl d_Mo_look_68 rfl ?_
        refine x_iald 71 rfl d_Mo_look_70 g28 (t0 := 0) rfl (vp_in_nI (by omega) (by decide)) ?_
        refine x_iconst 72 rfl d_Mo_look_71 1 (by decide) ?_
        rw [nI_clamp (by omega), d28]
        refine x_icmp_ne 85 75 rfl d_Mo_look_72 (by decide) (fun hc => ?_) (fun hc => ?_)
        · have z : ¬ (nA' ν e j).2 2 = 2 := fun z => hc ((iD_ne _ o 1 (by decide)).mpr z)
          refine x_iconst 86 rfl d_Mo_look_85 1 (by decide) ?_
          refine x_goto d_Mo_look_86 90 (by decide) ?_
          exact C90 true _ (by show true = (aN (l3 ν e) j && l3 ν e j); rw [y]; unfold l3; rw [decide_eq_true z]; rfl) rfl rfl rfl rfl rfl
        have z : (nA' ν e j).2 2 = 2 := (iD_ne _ o 1 (by decide)).mp hc
        refine x_aload_n 76 rfl d_Mo_look_75 rfl ?_
        refine x_get 79 rfl f_Mo_77 d_Mo_look_76 g1 rfl ?_
        refine x_iload 81 rfl d_Mo_look_79 rfl ?_
        refine x_iald 82 rfl d_Mo_look_81 g22 (t0 := 0) rfl (vp_in_nI (by omega) (by decide)) ?_
        rw [nI_clamp (by omega), d22]
        refine x_if_lt 89 85 rfl d_Mo_look_82 (by decide) (fun hc => ?_) (fun hc => ?_)
        · have z2 := (neg_1 (hq j hj4)).mp hc
          refine x_iconst 90 rfl d_Mo_look_89 0 (by decide) ?_
          exact C90 false _ (by show false = (aN (l3 ν e) j && l3 ν e j); rw [y]; unfold l3; rw [z, z2]; rfl) rfl rfl rfl rfl rfl
        · have z2 : ¬ (nB' ν e j).2 2 = -1 := fun q => hc ((neg_1 (hq j hj4)).mpr q)
          refine x_iconst 86 rfl d_Mo_look_85 1 (by decide) ?_
          refine x_goto d_Mo_look_86 90 (by decide) ?_
          exact C90 true _ (by show true = (aN (l3 ν e) j && l3 ν e j); rw [y]; unfold l3; rw [decide_eq_true z2, Bool.or_true]; rfl) rfl rfl rfl rfl rfl
      have C40 : ∀ (c : Nat) (lc : List (Nat × Value)), c = cN (l1 ν e) (j + 1) → xlk lc 0 = some (.ref m0) → xlk lc 1 = some (.int (nI n)) → xlk lc 3 = some (.int (nI (cN (l2 ν e) j))) → xlk lc 4 = some (.int (nB (aN (l3 ν e) j))) → xlk lc 5 = some (.int (nI (4 * n + j))) → xE (xGG X) 3 m_Mo_look 40 lc [.int (nI c)] w P := by
        intro c lc hcc a0 a1 a3 a4 a5
        subst hcc
        refine xE.fit (lc' := [(0, .ref m0), (1, .int (nI n)), (3, .int (nI (cN (l2 ν e) j))), (4, .int (nB (aN (l3 ν e) j))), (5, .int (nI (4 * n + j)))]) ?_ (by simp only [List.map_cons, List.map_nil, a0, a1, a3, a4, a5])
        refine x_istore_n 41 rfl d_Mo_look_40 (by decide) ?_
        refine x_aload_n 42 rfl d_Mo_look_41 rfl ?_
        refine x_get 45 rfl f_Mo_95 d_Mo_look_42 g1 rfl ?_
        refine x_iload 47 rfl d_Mo_look_45 rfl ?_
        refine x_iald 48 rfl d_Mo_look_47 g28 (t0 := 0) rfl (vp_in_nI (by omega) (by decide)) ?_
        rw [nI_clamp (by omega), d28]
        refine x_if_lt 57 51 rfl d_Mo_look_48 (by decide) (fun hc => ?_) (fun hc => ?_)
        · have z := (iD_neg _ o).mp hc
          refine x_iload_n 58 rfl d_Mo_look_57 rfl ?_
          exact C58 _ _ (by rw [cN_s]; unfold l2; rw [z]; rfl) rfl rfl rfl rfl rfl
        · have z : ¬ (nA' ν e j).2 2 = 0 := fun q => hc ((iD_neg _ o).mpr q)
          refine x_iload_n 52 rfl d_Mo_look_51 rfl ?_
          refine x_iconst 53 rfl d_Mo_look_52 1 (by decide) ?_
          refine x_iadd 54 rfl d_Mo_look_53 ?_
          refine x_goto d_Mo_look_54 58 (by decide) ?_
          rw [nI_1]
          exact C58 _ _ (by rw [cN_s]; unfold l2; rw [decide_eq_true z]; rfl) rfl rfl rfl rfl rfl
      refine x_iload 14 rfl d_Mo_look_12 rfl ?_
      refine x_iconst 15 rfl d_Mo_look_14 4 (by decide) ?_
      refine x_iload_n 16 rfl d_Mo_look_15 rfl ?_
      refine x_imul 17 rfl d_Mo_look_16 ?_
      refine x_iconst 18 rfl d_Mo_look_17 4 (by decide) ?_
      refine x_iadd 19 rfl d_Mo_look_18 ?_
      rw [show (4 : Int32) * nI n + 4 = nI (4 * n + 4) from i4 n 4]
      refine x_icmp_ge 98 22 rfl d_Mo_look_19 (by decide) (fun hc => absurd hc (nI_ge (by omega) (by omega))) (fun hc => ?_)
      refine x_aload_n 23 rfl d_Mo_look_22 rfl ?_
      refine x_get 26 rfl f_Mo_95 d_Mo_look_23 g1 rfl ?_
      refine x_iload 28 rfl d_Mo_look_26 rfl ?_
      refine x_iald 29 rfl d_Mo_look_28 g28 (t0 := 0) rfl (vp_in_nI (by omega) (by decide)) ?_
      refine x_iconst 30 rfl d_Mo_look_29 1 (by decide) ?_
      rw [nI_clamp (by omega), d28]
      refine x_icmp_ne 39 33 rfl d_Mo_look_30 (by decide) (fun hc => ?_) (fun hc => ?_)
      · have z : ¬ (nA' ν e j).2 2 = 2 := fun z => hc ((iD_ne _ o 1 (by decide)).mpr z)
        refine x_iload_n 40 rfl d_Mo_look_39 rfl ?_
        exact C40 _ _ (by rw [cN_s]; unfold l1; rw [decide_eq_false z]; rfl) rfl rfl rfl rfl rfl
      · have z : (nA' ν e j).2 2 = 2 := (iD_ne _ o 1 (by decide)).mp hc
        refine x_iload_n 34 rfl d_Mo_look_33 rfl ?_
        refine x_iconst 35 rfl d_Mo_look_34 1 (by decide) ?_
        refine x_iadd 36 rfl d_Mo_look_35 ?_
        refine x_goto d_Mo_look_36 40 (by decide) ?_
        rw [nI_1]
        exact C40 _ _ (by rw [cN_s]; unfold l1; rw [decide_eq_true z]; rfl) rfl rfl rfl rfl rfl
  refine x_iconst 1 rfl d_Mo_look_0 0 (by decide) ?_
  refine x_istore_n 2 rfl d_Mo_look_1 (by decide) ?_
  refine x_iconst 3 rfl d_Mo_look_2 0 (by decide) ?_
  refine x_istore_n 4 rfl d_Mo_look_3 (by decide) ?_
  refine x_iconst 5 rfl d_Mo_look_4 1 (by decide) ?_
  refine x_istore 7 rfl d_Mo_look_5 (by decide) ?_
  refine x_iconst 8 rfl d_Mo_look_7 4 (by decide) ?_
  refine x_iload_n 9 rfl d_Mo_look_8 rfl ?_
  refine x_imul 10 rfl d_Mo_look_9 ?_
  refine x_istore 12 rfl d_Mo_look_10 (by decide) ?_
  rw [i4']
  exact xE.fit (loop 4 0 _ rfl (by omega)) rfl
end LO
