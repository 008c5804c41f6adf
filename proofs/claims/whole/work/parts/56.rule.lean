/-! THE REFERENCE: A RULE -/
def rS5 (n e i : Nat) (t : Int32) (β : sB) (α : sA) (gf : Nat) : Option ((sB × sA × Nat) × List sMg) := if (α.1 0 && !α.1 1) = true then (aStep n e i t α gf).map (fun y => ((β, y.1.1, y.1.2), y.2)) else none
def rS4 (n e i : Nat) (t : Int32) (β : sB) (α : sA) (gf : Nat) : Option ((sB × sA × Nat) × List sMg) := if ¬ β.2 2 = -1 ∧ ¬ α.1 0 = true then some ((β, (va_up α.1 0 true, va_up α.2 1 1), gf), []) else rS5 n e i t β α gf
def rS3 (n e i : Nat) (t : Int32) (β : sB) (α : sA) (gf : Nat) : Option ((sB × sA × Nat) × List sMg) := match (if β.2 2 = -1 then mProp β else none) with
  | some v => some (((β.1, va_up β.2 2 (nI v)), α, gf), [])
  | none => rS4 n e i t β α gf
def rS2 (n e i : Nat) (t : Int32) (β : sB) (α : sA) (gf : Nat) : Option ((sB × sA × Nat) × List sMg) := match (if β.1 2 = true then none else mReady β) with
  | some root => some (((va_up β.1 2 true, β.2), α, gf), [(n, e, i, 2, root, 0)])
  | none => rS3 n e i t β α gf
/-- one rule -/
def rStep (n e i : Nat) (t : Int32) (β : sB) (α : sA) (gf : Nat) : Option ((sB × sA × Nat) × List sMg) := if (β.1 0 && !β.1 1) = true then some (((va_up β.1 1 true, β.2), α, gf), [(n, e, i, 1, β.2 0, β.2 1)]) else rS2 n e i t β α gf
section RU
variable {X : xPar} {m0 : Nat} {t : Int32} {n e i : Nat} {s : sS} {M0 : Nat → Nat → Int32} {lg : List sPo} {β : sB} {α : sA} {gf : Nat} {w0 w : xW} {P : Option Value → xW → Prop}
theorem neg_1 {x : Int32} (h : x = -1 ∨ 0 ≤ x) : (x < 0 ↔ x = -1) := by
  rcases h with h | h
  · rw [h]; decide
  · constructor
    · intro z; exact absurd h (by rw [Int32.not_le]; exact z)
    · intro z; rw [z] at h; exact absurd h (by decide)
theorem s_Mo_rule {nn ii : Int32} (q1 : nn = nI n) (q3 : ii = nI i) (hn : n < 4) (he : e < 4) (hi : i < 4) (hgf : gf < 2) (ok : aOk α) (hb : ∀ k, k < 4 → cUn (β.2 (16 + k)) < 256) (hq : β.2 2 = -1 ∨ 0 ≤ β.2 2) (hM0 : M0 3 n = nI e) (hl : lg.length < 1700) (hI : mI X m0 t n e i s M0 lg β α gf w0 w) (h1 : ∀ y ms w', rStep n e i t β α gf = some (y, ms) → mI X m0 t n e i s M0 (lg ++ ms.map (fun m => (m, 0))) y.1 y.2.1 y.2.2 w0 w' → P (some (.int 1)) w') (h0 : ∀ w', rStep n e i t β α gf = none → mI X m0 t n e i s M0 lg β α gf w0 w' → P (some (.int 0)) w') : xE (xGG X) 5 m_Mo_rule 0 [(0, .ref m0), (1, .int nn), (2, .int ii)] [] w P := by
  subst q1 q3
  -- agree
  have S164 : rStep n e i t β α gf = rS5 n e i t β α gf → ∀ w1, mI X m0 t n e i s M0 lg β α gf w0 w1 → xE (xGG X) 5 m_Mo_rule 164 [(0, .ref m0), (1, .int (nI n)), (2, .int (nI i)), (3, .int (nI e)), (4, .int (nI (16 * n + 4 * e + i))), (5, .int (nI (4 * n + i)))] [] w1 P := by
    intro hS w1 hI1
    have hI0 := hI1
    obtain ⟨gv, M, hR, hg, hp, hd, hf, hw⟩ := hI1
    have g1 := hR.1
    have g23 := hR.a23
    have g29 := hR.a29
    have no : (α.1 0 && !α.1 1) = false → P (some (.int 0)) w1 := by
      intro z
      refine h0 w1 ?_ hI0
      rw [hS, rS5, z, if_neg (by decide)]
    refine x_aload_n 165 rfl d_Mo_rule_164 rfl ?_
    refine x_get 168 rfl f_Mo_80 d_Mo_rule_165 g1 rfl ?_
    refine x_iload 170 rfl d_Mo_rule_168 rfl ?_
    refine x_zald 171 rfl d_Mo_rule_170 g23 (t0 := 1) rfl (vp_in_nI (by omega) (by decide)) ?_
    rw [nI_clamp (by omega), hd.c23]
    refine x_if_eq 202 174 rfl d_Mo_rule_171 (by decide) (fun hc => ?_) (fun hc => ?_)
    · refine x_iconst 203 rfl d_Mo_rule_202 0 (by decide) ?_
      refine x_zret d_Mo_rule_203 rfl (by decide) ?_
      exact no (by rw [(nB_0 _).mp hc]; rfl)
    have y1 := nB_ne hc
    refine x_aload_n 175 rfl d_Mo_rule_174 rfl ?_
    refine x_get 178 rfl f_Mo_98 d_Mo_rule_175 g1 rfl ?_
    refine x_iload 180 rfl d_Mo_rule_178 rfl ?_
    refine x_zald 181 rfl d_Mo_rule_180 g29 (t0 := 1) rfl (vp_in_nI (by omega) (by decide)) ?_
    rw [nI_clamp (by omega), hd.c29]
    refine x_if_ne 202 184 rfl d_Mo_rule_181 (by decide) (fun hc => ?_) (fun hc => ?_)
    · refine x_iconst 203 rfl d_Mo_rule_202 0 (by decide) ?_
      refine x_zret d_Mo_rule_203 rfl (by decide) ?_
      exact no (by rw [nB_ne hc]; simp)
    have y2 := (nB_0 _).mp hc
    have hS5 : rStep n e i t β α gf = (aStep n e i t α gf).map (fun y => ((β, y.1.1, y.1.2), y.2)) := by rw [hS, rS5, y1, y2]; rfl
    refine x_aload_n 185 rfl d_Mo_rule_184 rfl ?_
    refine x_iload_n 186 rfl d_Mo_rule_185 rfl ?_
    refine x_iload_n 187 rfl d_Mo_rule_186 rfl ?_
    refine x_iload_n 188 rfl d_Mo_rule_187 rfl ?_
    refine x_iload 190 rfl d_Mo_rule_188 rfl ?_
    refine x_iload 192 rfl d_Mo_rule_190 rfl ?_
    refine y_callV 195 rfl [_, _, _, _, _] _ rfl d_Mo_rule_192 g1 rfl c_Mo_209 rfl (Nat.le_of_ble_eq_true rfl) (Nat.le_of_ble_eq_true rfl) (Nat.le_of_ble_eq_true rfl) (s_Mo_agree rfl rfl rfl rfl rfl hn he hi hgf ok hl hI0 (fun y ms w2 k1 k2 => ?_) (fun k1 => ?_))
    · refine x_if_eq 202 198 rfl d_Mo_rule_195 (by decide) (fun hc => absurd hc (by decide)) (fun hc => ?_)
      refine x_iconst 199 rfl d_Mo_rule_198 1 (by decide) ?_
      refine x_goto d_Mo_rule_199 203 (by decide) ?_
      refine x_zret d_Mo_rule_203 rfl (by decide) ?_
      exact h1 (β, y.1, y.2) ms w2 (by rw [hS5, k1]; rfl) k2
    · refine x_if_eq 202 198 rfl d_Mo_rule_195 (by decide) (fun hc => ?_) (fun hc => absurd rfl hc)
      refine x_iconst 203 rfl d_Mo_rule_202 0 (by decide) ?_
      refine x_zret d_Mo_rule_203 rfl (by decide) ?_
      exact h0 w1 (by rw [hS5, k1]; rfl) hI0
  -- the input 1
  have S126 : rStep n e i t β α gf = rS4 n e i t β α gf → ∀ w1, mI X m0 t n e i s M0 lg β α gf w0 w1 → xE (xGG X) 5 m_Mo_rule 126 [(0, .ref m0), (1, .int (nI n)), (2, .int (nI i)), (3, .int (nI e)), (4, .int (nI (16 * n + 4 * e + i))), (5, .int (nI (4 * n + i)))] [] w1 P := by
    intro hS w1 hI1
    have hI0 := hI1
    obtain ⟨gv, M, hR, hg, hp, hd, hf, hw⟩ := hI1
    have g1 := hR.1
    have g22 := hR.a22
    have g23 := hR.a23
    refine x_aload_n 127 rfl d_Mo_rule_126 rfl ?_
    refine x_get 130 rfl f_Mo_77 d_Mo_rule_127 g1 rfl ?_
    refine x_iload 132 rfl d_Mo_rule_130 rfl ?_
    refine x_iald 133 rfl d_Mo_rule_132 g22 (t0 := 0) rfl (vp_in_nI (by omega) (by decide)) ?_
    rw [nI_clamp (by omega), hd.c22]
    refine x_if_lt 164 136 rfl d_Mo_rule_133 (by decide) (fun hc => ?_) (fun hc => ?_)
    · have z := (neg_1 hq).mp hc
      exact S164 (by rw [hS, rS4, if_neg (fun y => y.1 z)]) w1 hI0
    have z : ¬ β.2 2 = -1 := fun z => hc ((neg_1 hq).mpr z)
    refine x_aload_n 137 rfl d_Mo_rule_136 rfl ?_
    refine x_get 140 rfl f_Mo_80 d_Mo_rule_137 g1 rfl ?_
    refine x_iload 142 rfl d_Mo_rule_140 rfl ?_
    refine x_zald 143 rfl d_Mo_rule_142 g23 (t0 := 1) rfl (vp_in_nI (by omega) (by decide)) ?_
    rw [nI_clamp (by omega), hd.c23]
    refine x_if_ne 164 146 rfl d_Mo_rule_143 (by decide) (fun hc => ?_) (fun hc => ?_)
    · exact S164 (by rw [hS, rS4, if_neg (fun y => y.2 (nB_ne hc))]) w1 hI0
    have y2 := (nB_0 _).mp hc
    refine x_aload_n 147 rfl d_Mo_rule_146 rfl ?_
    refine x_get 150 rfl f_Mo_80 d_Mo_rule_147 g1 rfl ?_
    refine x_iload 152 rfl d_Mo_rule_150 rfl ?_
    refine x_iconst 153 rfl d_Mo_rule_152 1 (by decide) ?_
    refine x_zast 154 rfl d_Mo_rule_153 g23 (t0 := 1) rfl (vp_in_nI (by omega) (by decide)) z1 ?_
    rw [nI_clamp (by omega)]
    have I1 : mI X m0 t n e i s M0 lg β (va_up α.1 0 true, α.2) gf w0 _ := mI_put hR hg hp hd hf hw (j0 := 23) (x := 1) (by decide) (by decide) (by show nB (va_up α.1 0 true 0) = 1; rw [va_up_self]; rfl) (fun j k1 k2 k3 => by
      rcases dc k1 k2 with rfl | rfl | rfl | rfl | rfl | rfl | rfl | rfl
      · rfl
      · exact absurd rfl k3
      · rfl
      · rfl
      · rfl
      · rfl
      · rfl
      · show nB (va_up α.1 0 true 1) = nB (α.1 1); rw [va_up_ne _ _ (by decide)]) (pV_lo (fun k hk => by dsimp only; rw [va_up_ne _ _ (by omega)]) (fun k hk => rfl))
    generalize hw2 : xset w1 (m0 + 1 + 23) _ = w2
    have I1 : mI X m0 t n e i s M0 lg β (va_up α.1 0 true, α.2) gf w0 w2 := by rw [← hw2]; exact I1
    obtain ⟨gv1, M1, hR1, hg1, hp1, hd1, hf1, hw1⟩ := I1
    have k1 := hR1.1
    have k24 := hR1.a24
    refine x_aload_n 155 rfl d_Mo_rule_154 rfl ?_
    refine x_get 158 rfl f_Mo_83 d_Mo_rule_155 k1 rfl ?_
    refine x_iload 160 rfl d_Mo_rule_158 rfl ?_
    refine x_iconst 161 rfl d_Mo_rule_160 1 (by decide) ?_
    refine x_iast 162 rfl d_Mo_rule_161 k24 (t0 := 0) rfl (vp_in_nI (by omega) (by decide)) ?_
    refine x_iconst 163 rfl d_Mo_rule_162 1 (by decide) ?_
    refine x_zret d_Mo_rule_163 rfl (by decide) ?_
    rw [nI_clamp (by omega)]
    refine h1 (β, (va_up α.1 0 true, va_up α.2 1 1), gf) [] _ (by rw [hS, rS4, if_pos ⟨z, by rw [y2]; decide⟩]) ?_
    rw [List.map_nil, List.append_nil]
    exact mI_put hR1 hg1 hp1 hd1 hf1 hw1 (j0 := 24) (x := 1) (by decide) (by decide) (by show nI (va_up α.2 1 1 1) = 1; rw [va_up_self]; rfl) (fun j k1 k2 k3 => d_es (α := (va_up α.1 0 true, α.2)) k1 k2 k3) (pV_lo (α := (va_up α.1 0 true, α.2)) (fun k hk => rfl) (fun k hk => by dsimp only; rw [va_up_ne _ _ (by omega)]))
  -- the proposal
  have S103 : rStep n e i t β α gf = rS3 n e i t β α gf → ∀ w1, mI X m0 t n e i s M0 lg β α gf w0 w1 → xE (xGG X) 5 m_Mo_rule 103 [(0, .ref m0), (1, .int (nI n)), (2, .int (nI i)), (3, .int (nI e)), (4, .int (nI (16 * n + 4 * e + i))), (5, .int (nI (4 * n + i)))] [] w1 P := by
    intro hS w1 hI1
    have hI0 := hI1
    obtain ⟨gv, M, hR, hg, hp, hd, hf, hw⟩ := hI1
    have g1 := hR.1
    have g22 := hR.a22
    refine x_aload_n 104 rfl d_Mo_rule_103 rfl ?_
    refine x_get 107 rfl f_Mo_77 d_Mo_rule_104 g1 rfl ?_
    refine x_iload 109 rfl d_Mo_rule_107 rfl ?_
    refine x_iald 110 rfl d_Mo_rule_109 g22 (t0 := 0) rfl (vp_in_nI (by omega) (by decide)) ?_
    rw [nI_clamp (by omega), hd.c22]
    refine x_if_ge 126 113 rfl d_Mo_rule_110 (by decide) (fun hc => ?_) (fun hc => ?_)
    · have z : ¬ β.2 2 = -1 := fun z => by rw [z] at hc; exact absurd hc (by decide)
      exact S126 (by rw [hS, rS3, if_neg z]) w1 hI0
    have z : β.2 2 = -1 := by
      rcases hq with z | z
      · exact z
      · exact absurd z hc
    rw [rS3, if_pos z] at hS
    refine x_aload_n 114 rfl d_Mo_rule_113 rfl ?_
    refine x_iload 116 rfl d_Mo_rule_114 rfl ?_
    refine x_iload 118 rfl d_Mo_rule_116 rfl ?_
    refine y_callV 121 rfl [_, _] _ rfl d_Mo_rule_118 g1 rfl c_Mo_206 rfl (Nat.le_of_ble_eq_true rfl) (Nat.le_of_ble_eq_true rfl) (Nat.le_of_ble_eq_true rfl) (s_Mo_proposal rfl rfl hn he hi hb hI0 (fun v w2 k1 k2 => ?_) (fun k1 => ?_))
    · refine x_if_eq 126 124 rfl d_Mo_rule_121 (by decide) (fun hc => absurd hc (by decide)) (fun hc => ?_)
      refine x_iconst 125 rfl d_Mo_rule_124 1 (by decide) ?_
      refine x_zret d_Mo_rule_125 rfl (by decide) ?_
      exact h1 ((β.1, va_up β.2 2 (nI v)), α, gf) [] w2 (by rw [hS, k1]) (by rw [List.map_nil, List.append_nil]; exact k2)
    · refine x_if_eq 126 124 rfl d_Mo_rule_121 (by decide) (fun hc => ?_) (fun hc => absurd rfl hc)
      exact S126 (by rw [hS, k1]) w1 hI0
  -- ready
  have S79 : rStep n e i t β α gf = rS2 n e i t β α gf → xE (xGG X) 5 m_Mo_rule 79 [(0, .ref m0), (1, .int (nI n)), (2, .int (nI i)), (3, .int (nI e)), (4, .int (nI (16 * n + 4 * e + i))), (5, .int (nI (4 * n + i)))] [] w P := by
    intro hS
    have hI0 := hI
    obtain ⟨gv, M, hR, hg, hp, hd, hf, hw⟩ := hI
    have g1 := hR.1
    have g19 := hR.a19
    refine x_aload_n 80 rfl d_Mo_rule_79 rfl ?_
    refine x_get 83 rfl f_Mo_68 d_Mo_rule_80 g1 rfl ?_
    refine x_iload 85 rfl d_Mo_rule_83 rfl ?_
    refine x_zald 86 rfl d_Mo_rule_85 g19 (t0 := 1) rfl (vp_in_nI (by omega) (by decide)) ?_
    rw [nI_clamp (by omega), hp.c19]
    refine x_if_ne 103 89 rfl d_Mo_rule_86 (by decide) (fun hc => ?_) (fun hc => ?_)
    · exact S103 (by rw [hS, rS2, if_pos (nB_ne hc)]) w hI0
    have y1 := (nB_0 _).mp hc
    rw [rS2, if_neg (by rw [y1]; decide)] at hS
    refine x_aload_n 90 rfl d_Mo_rule_89 rfl ?_
    refine x_iload_n 91 rfl d_Mo_rule_90 rfl ?_
    refine x_iload_n 92 rfl d_Mo_rule_91 rfl ?_
    refine x_iload_n 93 rfl d_Mo_rule_92 rfl ?_
    refine x_iload 95 rfl d_Mo_rule_93 rfl ?_
    refine y_callV 98 rfl [_, _, _, _] _ rfl d_Mo_rule_95 g1 rfl c_Mo_202 rfl (Nat.le_of_ble_eq_true rfl) (Nat.le_of_ble_eq_true rfl) (Nat.le_of_ble_eq_true rfl) (s_Mo_ready rfl rfl rfl rfl hn he hi hb hl hI0 (fun root w2 k1 k2 => ?_) (fun w2 k1 k2 => ?_))
    · refine x_if_eq 103 101 rfl d_Mo_rule_98 (by decide) (fun hc => absurd hc (by decide)) (fun hc => ?_)
      refine x_iconst 102 rfl d_Mo_rule_101 1 (by decide) ?_
      refine x_zret d_Mo_rule_102 rfl (by decide) ?_
      exact h1 ((va_up β.1 2 true, β.2), α, gf) [(n, e, i, 2, root, 0)] w2 (by rw [hS, k1]) k2
    · refine x_if_eq 103 101 rfl d_Mo_rule_98 (by decide) (fun hc => ?_) (fun hc => absurd rfl hc)
      exact S103 (by rw [hS, k1]) w2 k2
  have hI0 := hI
  obtain ⟨gv, M, hR, hg, hp, hd, hf, hw⟩ := hI
  have g1 := hR.1
  have g3 := hR.a3
  have g8 := hR.a8
  have g9 := hR.a9
  have g10 := hR.a10
  have g18 := hR.a18
  have e3 : M 3 n = nI e := (hf 3 n (by decide) (fun z => absurd z (by decide)) (fun z => absurd z (by decide))).trans hM0
  refine x_aload_n 1 rfl d_Mo_rule_0 rfl ?_
  refine x_get 4 rfl f_Mo_19 d_Mo_rule_1 g1 rfl ?_
  refine x_iload_n 5 rfl d_Mo_rule_4 rfl ?_
  refine x_iald 6 rfl d_Mo_rule_5 g3 (t0 := 0) rfl (vp_in_nI (by omega) (by decide)) ?_
  rw [nI_clamp (by omega), e3]
  refine x_istore_n 7 rfl d_Mo_rule_6 (by decide) ?_
  refine x_bipush 9 rfl d_Mo_rule_7 16 (by decide) ?_
  refine x_iload_n 10 rfl d_Mo_rule_9 rfl ?_
  refine x_imul 11 rfl d_Mo_rule_10 ?_
  refine x_iconst 12 rfl d_Mo_rule_11 4 (by decide) ?_
  refine x_iload_n 13 rfl d_Mo_rule_12 rfl ?_
  refine x_imul 14 rfl d_Mo_rule_13 ?_
  refine x_iadd 15 rfl d_Mo_rule_14 ?_
  refine x_iload_n 16 rfl d_Mo_rule_15 rfl ?_
  refine x_iadd 17 rfl d_Mo_rule_16 ?_
  rw [show (16 : Int32) = nI 16 from rfl, show (4 : Int32) = nI 4 from rfl, pk_mul, pk_mul, nI_add, nI_add]
  refine x_istore 19 rfl d_Mo_rule_17 (by decide) ?_
  refine x_iconst 20 rfl d_Mo_rule_19 4 (by decide) ?_
  refine x_iload_n 21 rfl d_Mo_rule_20 rfl ?_
  refine x_imul 22 rfl d_Mo_rule_21 ?_
  refine x_iload_n 23 rfl d_Mo_rule_22 rfl ?_
  refine x_iadd 24 rfl d_Mo_rule_23 ?_
  rw [i4]
  refine x_istore 26 rfl d_Mo_rule_24 (by decide) ?_
  refine x_aload_n 27 rfl d_Mo_rule_26 rfl ?_
  refine x_get 30 rfl f_Mo_34 d_Mo_rule_27 g1 rfl ?_
  refine x_iload 32 rfl d_Mo_rule_30 rfl ?_
  refine x_zald 33 rfl d_Mo_rule_32 g8 (t0 := 1) rfl (vp_in_nI (by omega) (by decide)) ?_
  rw [nI_clamp (by omega), hp.c8]
  refine x_if_eq 79 36 rfl d_Mo_rule_33 (by decide) (fun hc => ?_) (fun hc => ?_)
  · exact xE.fit (S79 (by rw [rStep, (nB_0 _).mp hc]; rfl)) rfl
  have y1 := nB_ne hc
  refine x_aload_n 37 rfl d_Mo_rule_36 rfl ?_
  refine x_get 40 rfl f_Mo_65 d_Mo_rule_37 g1 rfl ?_
  refine x_iload 42 rfl d_Mo_rule_40 rfl ?_
  refine x_zald 43 rfl d_Mo_rule_42 g18 (t0 := 1) rfl (vp_in_nI (by omega) (by decide)) ?_
  rw [nI_clamp (by omega), hp.c18]
  refine x_if_ne 79 46 rfl d_Mo_rule_43 (by decide) (fun hc => ?_) (fun hc => ?_)
  · exact xE.fit (S79 (by rw [rStep, nB_ne hc, if_neg (by simp)])) rfl
  have y2 := (nB_0 _).mp hc
  have hS : rStep n e i t β α gf = some (((va_up β.1 1 true, β.2), α, gf), [(n, e, i, 1, β.2 0, β.2 1)]) := by rw [rStep, if_pos (by rw [y1, y2]; rfl)]
  refine x_aload_n 47 rfl d_Mo_rule_46 rfl ?_
  refine x_get 50 rfl f_Mo_65 d_Mo_rule_47 g1 rfl ?_
  refine x_iload 52 rfl d_Mo_rule_50 rfl ?_
  refine x_iconst 53 rfl d_Mo_rule_52 1 (by decide) ?_
  refine x_zast 54 rfl d_Mo_rule_53 g18 (t0 := 1) rfl (vp_in_nI (by omega) (by decide)) z1 ?_
  rw [nI_clamp (by omega)]
  have R1 := hR.put (j := 18) (i := 16 * n + 4 * e + i) (x := 1) (by decide)
  generalize hw2 : xset w (m0 + 1 + 18) _ = w2
  have R1 : rMo X m0 t (s.1, s.2.1, nI lg.length, gv, s.2.2.2.2) (va_up M 18 (upd (M 18) (16 * n + 4 * e + i) 1)) w2 := by rw [← hw2]; exact R1
  have f1 : fr w0 w2 m0 (m0 + 31) := by rw [← hw2]; exact hw.set _ (by omega) (by omega)
  have k1 := R1.1
  have k9 := R1.a9
  have k10 := R1.a10
  have hp1 : pRel (va_up M 18 (upd (M 18) (16 * n + 4 * e + i) 1)) (16 * n + 4 * e + i) (va_up β.1 1 true, β.2) α := by
    refine hp.up ?_ (fun j idx h1 h2 h3 h4 => pv18 h1 h2 (fun z => ?_))
    · show nB (va_up β.1 1 true 1) = 1
      rw [va_up_self]; rfl
    · subst z
      have h3' : idx / 1 = 16 * n + 4 * e + i := h3
      exact h4 rfl (by omega)
  have hd1 : dRel (va_up M 18 (upd (M 18) (16 * n + 4 * e + i) 1)) (4 * n + i) (va_up β.1 1 true, β.2) α gf := hd.oth (by decide) (fun j h1 h2 => dVal_c (β := β) (β' := (va_up β.1 1 true, β.2)) (α := α) (α' := α) rfl rfl rfl (fun k hk => rfl) h1 h2)
  refine x_aload_n 55 rfl d_Mo_rule_54 rfl ?_
  refine x_iload_n 56 rfl d_Mo_rule_55 rfl ?_
  refine x_iload_n 57 rfl d_Mo_rule_56 rfl ?_
  refine x_iload_n 58 rfl d_Mo_rule_57 rfl ?_
  refine x_iconst 59 rfl d_Mo_rule_58 1 (by decide) ?_
  refine x_aload_n 60 rfl d_Mo_rule_59 rfl ?_
  refine x_get 63 rfl f_Mo_38 d_Mo_rule_60 k1 rfl ?_
  refine x_iload 65 rfl d_Mo_rule_63 rfl ?_
  refine x_iald 66 rfl d_Mo_rule_65 k9 (t0 := 0) rfl (vp_in_nI (by omega) (by decide)) ?_
  rw [nI_clamp (by omega), hp1.c9]
  refine x_aload_n 67 rfl d_Mo_rule_66 rfl ?_
  refine x_get 70 rfl f_Mo_41 d_Mo_rule_67 k1 rfl ?_
  refine x_iload 72 rfl d_Mo_rule_70 rfl ?_
  refine x_iald 73 rfl d_Mo_rule_72 k10 (t0 := 0) rfl (vp_in_nI (by omega) (by decide)) ?_
  rw [nI_clamp (by omega), hp1.c10]
  refine x_iconst 74 rfl d_Mo_rule_73 0 (by decide) ?_
  refine y_callV 77 rfl [_, _, _, _, _, _, _] _ rfl d_Mo_rule_74 k1 rfl c_Mo_189 rfl (Nat.le_of_ble_eq_true rfl) (Nat.le_of_ble_eq_true rfl) (Nat.le_of_ble_eq_true rfl) (s_post_mI (m := (n, e, i, 1, β.2 0, β.2 1)) rfl rfl rfl rfl rfl rfl ⟨hn, he, hi, by dsimp only; omega, fun z => by dsimp only at z; omega⟩ R1 (hg.up (by decide)) hp1 hd1 (hf.upP (by decide) (by decide) (Nat.div_one _)) f1 hl (fun w' k1 => ?_))
  refine x_iconst 78 rfl d_Mo_rule_77 1 (by decide) ?_
  refine x_zret d_Mo_rule_78 rfl (by decide) ?_
  exact h1 _ _ w' hS k1
end RU
