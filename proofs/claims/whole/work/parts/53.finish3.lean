/-! THE REFERENCE: FINISH, WHOLE -/
theorem va_same {f : Nat → Nat} {v : Nat} : va_up (va_up f 1 v) 2 (f 2) = va_up f 1 v := by
  funext x
  by_cases z : x = 2
  · subst z; rw [va_up_self, va_up_ne _ _ (by decide)]
  · rw [va_up_ne _ _ z]
section FI3
variable {X : xPar} {m0 : Nat} {t : Int32} {n e i : Nat} {s : sS} {M0 : Nat → Nat → Int32} {lg : List sPo} {β : sB} {α : sA} {gf : Nat} {w0 w : xW} {P : Option Value → xW → Prop}
/-- behind the counting -/
theorem s_finish_mid (hn : n < 4) (he : e < 4) (hi : i < 4) (ok : aOk α) (hI : mI X m0 t n e i s M0 lg β α gf w0 w) (h1 : 3 ≤ aGs α 0 + aGs α 1 → ∀ w', mI X m0 t n e i s M0 lg β (aFin t e i α) (aFg t e i α gf) w0 w' → P (some (.int 1)) w') (h0 : aGs α 0 + aGs α 1 < 3 → P (some (.int 0)) w) : ∀ lc, xlk lc 0 = some (.ref m0) → xlk lc 1 = some (.int (nI e)) → xlk lc 2 = some (.int (nI i)) → xlk lc 4 = some (.int (nI (4 * n + i))) → xlk lc 5 = some (.int (nI (aGs α 0))) → xlk lc 6 = some (.int (nI (aGs α 1))) → xE (xGG X) 1 m_Mo_finish 95 lc [] w P := by
  intro lc l0 l1 l2 l4 l5 l6
  refine xE.fit (lc' := [(0, .ref m0), (1, .int (nI e)), (2, .int (nI i)), (4, .int (nI (4 * n + i))), (5, .int (nI (aGs α 0))), (6, .int (nI (aGs α 1)))]) ?_ (by simp only [List.map_cons, List.map_nil, l0, l1, l2, l4, l5, l6])
  have hI0 := hI
  obtain ⟨gv, M, hR, hg, hp, hd, hf, hw⟩ := hI
  have g1 := hR.1
  have g25 := hR.a25
  have g28 := hR.a28
  have hcl := cCoin_lt t e i (α.2 0)
  have hr := ok.1
  have h3 := ok.2.2.1
  have hg0 := aGs_le α 0
  have hg1 := aGs_le α 1
  refine x_iload 97 rfl d_Mo_finish_95 rfl ?_
  refine x_iload 99 rfl d_Mo_finish_97 rfl ?_
  refine x_iadd 100 rfl d_Mo_finish_99 ?_
  refine x_iconst 101 rfl d_Mo_finish_100 3 (by decide) ?_
  rw [nI_add]
  refine x_icmp_ge 106 104 rfl d_Mo_finish_101 (by decide) (fun hc => ?_) (fun hc => ?_)
  rotate_left
  · have z : aGs α 0 + aGs α 1 < 3 := by
      by_cases z : aGs α 0 + aGs α 1 < 3
      · exact z
      · exact absurd (nI_le (a := 3) (by omega) (by omega)) hc
    refine x_iconst 105 rfl d_Mo_finish_104 0 (by decide) ?_
    refine x_zret d_Mo_finish_105 rfl (by decide) ?_
    exact h0 z
  have z3 : 3 ≤ aGs α 0 + aGs α 1 := (nI_leI (a := 3) (by decide) (by omega)).mp hc
  have h1 := h1 z3
  refine x_aload_n 107 rfl d_Mo_finish_106 rfl ?_
  refine x_get 110 rfl f_Mo_86 d_Mo_finish_107 g1 rfl ?_
  refine x_iload 112 rfl d_Mo_finish_110 rfl ?_
  refine x_iald 113 rfl d_Mo_finish_112 g25 (t0 := 0) rfl (vp_in_nI (by omega) (by decide)) ?_
  rw [nI_clamp (by omega), hd.c25]
  refine x_istore 115 rfl d_Mo_finish_113 (by decide) ?_
  refine x_aload_n 116 rfl d_Mo_finish_115 rfl ?_
  refine x_iload_n 117 rfl d_Mo_finish_116 rfl ?_
  refine x_iload_n 118 rfl d_Mo_finish_117 rfl ?_
  refine x_iload 120 rfl d_Mo_finish_118 rfl ?_
  refine y_callV 123 rfl [_, _, _] _ rfl d_Mo_finish_120 g1 rfl c_Mo_140 rfl (Nat.le_of_ble_eq_true rfl) (Nat.le_of_ble_eq_true rfl) (Nat.le_of_ble_eq_true rfl) (s_Mo_coinOf rfl rfl rfl he hi hr hR ?_)
  refine x_istore 125 rfl d_Mo_finish_123 (by decide) ?_
  refine x_aload_n 126 rfl d_Mo_finish_125 rfl ?_
  refine x_get 129 rfl f_Mo_95 d_Mo_finish_126 g1 rfl ?_
  refine x_iload 131 rfl d_Mo_finish_129 rfl ?_
  refine x_iald 132 rfl d_Mo_finish_131 g28 (t0 := 0) rfl (vp_in_nI (by omega) (by decide)) ?_
  rw [nI_clamp (by omega), hd.c28]
  -- behind the look at what was decided
  have mid : ∀ lc, xlk lc 0 = some (.ref m0) → xlk lc 4 = some (.int (nI (4 * n + i))) → xlk lc 5 = some (.int (nI (aGs α 0))) → xlk lc 6 = some (.int (nI (aGs α 1))) → xlk lc 7 = some (.int (nI (α.2 0))) → xlk lc 8 = some (.int (nI (cCoin t e i (α.2 0)))) → xlk lc 9 = some (.int (nB (decide (α.2 2 ≠ 0)))) → xE (xGG X) 1 m_Mo_finish 142 lc [] w P := by
    intro lc l0 l4 l5 l6 l7 l8 l9
    refine xE.fit (lc' := [(0, .ref m0), (4, .int (nI (4 * n + i))), (5, .int (nI (aGs α 0))), (6, .int (nI (aGs α 1))), (7, .int (nI (α.2 0))), (8, .int (nI (cCoin t e i (α.2 0)))), (9, .int (nB (decide (α.2 2 ≠ 0))))]) ?_ (by simp only [List.map_cons, List.map_nil, l0, l4, l5, l6, l7, l8, l9])
    have g24 := hR.a24
    -- one bit alone
    have one : ¬ (0 < aGs α 0 ∧ 0 < aGs α 1) → ∀ lc, xlk lc 0 = some (.ref m0) → xlk lc 4 = some (.int (nI (4 * n + i))) → xlk lc 6 = some (.int (nI (aGs α 1))) → xlk lc 7 = some (.int (nI (α.2 0))) → xlk lc 8 = some (.int (nI (cCoin t e i (α.2 0)))) → xlk lc 9 = some (.int (nB (decide (α.2 2 ≠ 0)))) → xE (xGG X) 1 m_Mo_finish 152 lc [] w P := by
      intro ng lc l0 l4 l6 l7 l8 l9
      refine xE.fit (lc' := [(0, .ref m0), (4, .int (nI (4 * n + i))), (6, .int (nI (aGs α 1))), (7, .int (nI (α.2 0))), (8, .int (nI (cCoin t e i (α.2 0)))), (9, .int (nB (decide (α.2 2 ≠ 0))))]) ?_ (by simp only [List.map_cons, List.map_nil, l0, l4, l6, l7, l8, l9])
      have wr : ∀ (v : Nat) (lc : List (Nat × Value)), v = aEs t e i α → v < 2 → xlk lc 0 = some (.ref m0) → xlk lc 4 = some (.int (nI (4 * n + i))) → xlk lc 7 = some (.int (nI (α.2 0))) → xlk lc 8 = some (.int (nI (cCoin t e i (α.2 0)))) → xlk lc 9 = some (.int (nB (decide (α.2 2 ≠ 0)))) → xE (xGG X) 1 m_Mo_finish 168 lc [.int (nI v), .int (nI (4 * n + i)), .ref (m0 + 1 + 24)] w P := by
        intro v lc hv hv2 l0 l4 l7 l8 l9
        refine xE.fit (lc' := [(0, .ref m0), (4, .int (nI (4 * n + i))), (7, .int (nI (α.2 0))), (8, .int (nI (cCoin t e i (α.2 0)))), (9, .int (nB (decide (α.2 2 ≠ 0))))]) ?_ (by simp only [List.map_cons, List.map_nil, l0, l4, l7, l8, l9])
        refine x_iast 169 rfl d_Mo_finish_168 g24 (t0 := 0) rfl (vp_in_nI (by omega) (by decide)) ?_
        rw [nI_clamp (by omega)]
        have I1 : mI X m0 t n e i s M0 lg β (α.1, va_up α.2 1 v) gf w0 _ := mI_put hR hg hp hd hf hw (j0 := 24) (x := nI v) (by decide) (by decide) (by show nI (va_up α.2 1 v 1) = _; rw [va_up_self]) (fun j k1 k2 k3 => d_es k1 k2 k3) (pV_lo (fun k hk => rfl) (fun k hk => by dsimp only; rw [va_up_ne _ _ (by omega)]))
        generalize hw1 : xset w (m0 + 1 + 24) _ = w1
        have I1 : mI X m0 t n e i s M0 lg β (α.1, va_up α.2 1 v) gf w0 w1 := by rw [← hw1]; exact I1
        have I10 := I1
        obtain ⟨gv1, M1, hR1, hg1, hp1, hd1, hf1, hw1⟩ := I1
        have k1 := hR1.1
        have k24 := hR1.a24
        have k28 := hR1.a28
        have keep : aDe t e i α = α.2 2 → ∀ lc, xlk lc 0 = some (.ref m0) → xlk lc 4 = some (.int (nI (4 * n + i))) → xlk lc 7 = some (.int (nI (α.2 0))) → xlk lc 8 = some (.int (nI (cCoin t e i (α.2 0)))) → xlk lc 9 = some (.int (nB (decide (α.2 2 ≠ 0)))) → xE (xGG X) 1 m_Mo_finish 207 lc [] w1 P := by
          intro hde lc l0 l4 l7 l8 l9
          exact s_finish_tail (α2 := (α.1, va_up α.2 1 v)) hn he hi ok rfl (by dsimp only; rw [hde, va_same, hv]) I10 h1 lc l0 l4 l7 l8 l9
        refine x_iload 171 rfl d_Mo_finish_169 rfl ?_
        refine x_aload_n 172 rfl d_Mo_finish_171 rfl ?_
        refine x_get 175 rfl f_Mo_83 d_Mo_finish_172 k1 rfl ?_
        refine x_iload 177 rfl d_Mo_finish_175 rfl ?_
        refine x_iald 178 rfl d_Mo_finish_177 k24 (t0 := 0) rfl (vp_in_nI (by omega) (by decide)) ?_
        rw [nI_clamp (by omega), hd1.c24]
        dsimp only
        rw [va_up_self]
        refine x_icmp_ne 207 181 rfl d_Mo_finish_178 (by decide) (fun hc => ?_) (fun hc => ?_)
        · exact keep (by unfold aDe; rw [if_neg (fun y => hc (by rw [hv, y.2.1]))]) _ rfl rfl rfl rfl rfl
        have yc : v = cCoin t e i (α.2 0) := ((nI_eq (by omega) (by omega)).mp hc).symm
        refine x_iload 183 rfl d_Mo_finish_181 rfl ?_
        refine x_if_ne 207 186 rfl d_Mo_finish_183 (by decide) (fun hc => ?_) (fun hc => ?_)
        · have y2 := of_decide_eq_true (nB_ne hc)
          exact keep (by unfold aDe; rw [if_neg (fun y => y2 y.2.2)]) _ rfl rfl rfl rfl rfl
        have y2 : α.2 2 = 0 := by
          have := of_decide_eq_false ((nB_0 _).mp hc)
          omega
        have hde : aDe t e i α = cCoin t e i (α.2 0) + 1 := by
          unfold aDe
          rw [if_pos ⟨ng, by rw [← hv]; exact yc, y2⟩]
        refine x_aload_n 187 rfl d_Mo_finish_186 rfl ?_
        refine x_get 190 rfl f_Mo_95 d_Mo_finish_187 k1 rfl ?_
        refine x_iload 192 rfl d_Mo_finish_190 rfl ?_
        refine x_iload 194 rfl d_Mo_finish_192 rfl ?_
        refine x_iast 195 rfl d_Mo_finish_194 k28 (t0 := 0) rfl (vp_in_nI (by omega) (by decide)) ?_
        refine x_goto d_Mo_finish_195 207 (by decide) ?_
        rw [nI_clamp (by omega)]
        have I2 : mI X m0 t n e i s M0 lg β (α.1, va_up (va_up α.2 1 v) 2 (cCoin t e i (α.2 0) + 1)) gf w0 _ := mI_put hR1 hg1 hp1 hd1 hf1 hw1 (j0 := 28) (x := nI (cCoin t e i (α.2 0))) (by decide) (by decide) (by show iD (va_up (va_up α.2 1 v) 2 (cCoin t e i (α.2 0) + 1) 2) = _; rw [va_up_self]; rfl) (fun j k1 k2 k3 => d_de (α := (α.1, va_up α.2 1 v)) k1 k2 k3) (pV_lo (α := (α.1, va_up α.2 1 v)) (fun k hk => rfl) (fun k hk => by dsimp only; rw [va_up_ne _ _ (by omega)]))
        exact s_finish_tail (α2 := (α.1, va_up (va_up α.2 1 v) 2 (cCoin t e i (α.2 0) + 1))) hn he hi ok rfl (by dsimp only; rw [hde, hv]) I2 h1 _ rfl rfl rfl rfl rfl
      refine x_aload_n 153 rfl d_Mo_finish_152 rfl ?_
      refine x_get 156 rfl f_Mo_83 d_Mo_finish_153 g1 rfl ?_
      refine x_iload 158 rfl d_Mo_finish_156 rfl ?_
      refine x_iload 160 rfl d_Mo_finish_158 rfl ?_
      refine x_if_le 167 163 rfl d_Mo_finish_160 (by decide) (fun hc => ?_) (fun hc => ?_)
      · have y := (nIle0 (by omega)).mp hc
        refine x_iconst 168 rfl d_Mo_finish_167 0 (by decide) ?_
        exact wr 0 _ (by unfold aEs; rw [if_neg ng, if_neg (by omega)]) (by decide) rfl rfl rfl rfl rfl
      · have y : 0 < aGs α 1 := by
          by_cases y : aGs α 1 = 0
          · exact absurd ((nIle0 (by omega)).mpr y) hc
          · omega
        refine x_iconst 164 rfl d_Mo_finish_163 1 (by decide) ?_
        refine x_goto d_Mo_finish_164 168 (by decide) ?_
        exact wr 1 _ (by unfold aEs; rw [if_neg ng, if_pos y]) (by decide) rfl rfl rfl rfl rfl
    refine x_iload 144 rfl d_Mo_finish_142 rfl ?_
    refine x_if_eq 152 147 rfl d_Mo_finish_144 (by decide) (fun hc => ?_) (fun hc => ?_)
    · have y : aGs α 0 = 0 := (nI_eq (b := 0) (by omega) (by decide)).mp hc
      exact one (by omega) _ rfl rfl rfl rfl rfl rfl
    have y0 : 0 < aGs α 0 := by
      by_cases y : aGs α 0 = 0
      · exact absurd (by rw [y]; rfl) hc
      · omega
    refine x_iload 149 rfl d_Mo_finish_147 rfl ?_
    refine x_if_ne 198 152 rfl d_Mo_finish_149 (by decide) (fun hc => ?_) (fun hc => ?_)
    rotate_left
    · have y : aGs α 1 = 0 := (nI_eq (b := 0) (by omega) (by decide)).mp hc
      exact one (by omega) _ rfl rfl rfl rfl rfl rfl
    have y1 : 0 < aGs α 1 := by
      by_cases y : aGs α 1 = 0
      · exact absurd (by rw [y]; rfl) hc
      · omega
    refine x_aload_n 199 rfl d_Mo_finish_198 rfl ?_
    refine x_get 202 rfl f_Mo_83 d_Mo_finish_199 g1 rfl ?_
    refine x_iload 204 rfl d_Mo_finish_202 rfl ?_
    refine x_iload 206 rfl d_Mo_finish_204 rfl ?_
    refine x_iast 207 rfl d_Mo_finish_206 g24 (t0 := 0) rfl (vp_in_nI (by omega) (by decide)) ?_
    rw [nI_clamp (by omega)]
    have I1 : mI X m0 t n e i s M0 lg β (α.1, va_up α.2 1 (cCoin t e i (α.2 0))) gf w0 _ := mI_put hR hg hp hd hf hw (j0 := 24) (x := nI (cCoin t e i (α.2 0))) (by decide) (by decide) (by show nI (va_up α.2 1 (cCoin t e i (α.2 0)) 1) = _; rw [va_up_self]) (fun j k1 k2 k3 => d_es k1 k2 k3) (pV_lo (fun k hk => rfl) (fun k hk => by dsimp only; rw [va_up_ne _ _ (by omega)]))
    exact s_finish_tail (α2 := (α.1, va_up α.2 1 (cCoin t e i (α.2 0)))) hn he hi ok rfl (by
      dsimp only
      have ees : aEs t e i α = cCoin t e i (α.2 0) := by unfold aEs; rw [if_pos ⟨y0, y1⟩]
      have ede : aDe t e i α = α.2 2 := by unfold aDe; rw [if_neg (fun y => y.1 ⟨y0, y1⟩)]
      rw [ees, ede, va_same]) I1 h1 _ rfl rfl rfl rfl rfl
  refine x_if_lt 139 135 rfl d_Mo_finish_132 (by decide) (fun hc => ?_) (fun hc => ?_)
  · have y := (iD_neg _ h3).mp hc
    refine x_iconst 140 rfl d_Mo_finish_139 0 (by decide) ?_
    refine x_istore 142 rfl d_Mo_finish_140 (by decide) ?_
    exact mid _ rfl rfl rfl rfl rfl rfl (by rw [decide_eq_false (by omega)]; rfl)
  · have y : α.2 2 ≠ 0 := fun y => hc ((iD_neg _ h3).mpr y)
    refine x_iconst 136 rfl d_Mo_finish_135 1 (by decide) ?_
    refine x_goto d_Mo_finish_136 140 (by decide) ?_
    refine x_istore 142 rfl d_Mo_finish_140 (by decide) ?_
    exact mid _ rfl rfl rfl rfl rfl rfl (by rw [decide_eq_true y]; rfl)
end FI3
