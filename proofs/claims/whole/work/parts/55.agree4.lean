/-! THE REFERENCE: AGREE -/
def aStep (n e i : Nat) (t : Int32) (α : sA) (gf : Nat) : Option ((sA × Nat) × List sMg) :=
  if ¬ aSent α (α.2 1) = true then some ((aVote α (α.2 1), gf), [(n, e, i, 3, nI (α.2 0), nI (α.2 1))])
  else if ¬ aSent α 0 = true ∧ 2 ≤ aV α 0 then some ((aVote α 0, gf), [(n, e, i, 3, nI (α.2 0), nI 0)])
  else if ¬ aSent α 1 = true ∧ 2 ≤ aV α 1 then some ((aVote α 1, gf), [(n, e, i, 3, nI (α.2 0), nI 1)])
  else if ¬ aGd α 0 = true ∧ 3 ≤ aV α 0 then some ((aSetG α 0, if α.2 3 = 0 then 0 else gf), [])
  else if ¬ aGd α 1 = true ∧ 3 ≤ aV α 1 then some ((aSetG α 1, if α.2 3 = 0 then 1 else gf), [])
  else if ¬ α.2 3 = 0 ∧ ¬ α.1 (8 + α.2 0) = true then some (((va_up α.1 (8 + α.2 0) true, α.2), gf), [(n, e, i, 4, nI (α.2 0), nI gf)])
  else if 3 ≤ aGs α 0 + aGs α 1 then some ((aFin t e i α, aFg t e i α gf), []) else none
section AGR
variable {X : xPar} {m0 : Nat} {t : Int32} {n e i : Nat} {s : sS} {M0 : Nat → Nat → Int32} {lg : List sPo} {β : sB} {α : sA} {gf : Nat} {w0 w : xW} {P : Option Value → xW → Prop}
theorem aSent_nb (ok : aOk α) {bit : Nat} (hb : bit < 2) : nI (α.2 (8 + α.2 0)) >>> (nI bit &&& 31) &&& 1 = nB (aSent α bit) := by
  rw [nb2 _ (ok.2.2.2.2.1 _ ok.1) bit hb]
  unfold aSent
  by_cases z : α.2 (8 + α.2 0) / 2 ^ bit % 2 = 1
  · rw [z, decide_eq_true rfl]; rfl
  · rw [decide_eq_false z, show α.2 (8 + α.2 0) / 2 ^ bit % 2 = 0 from by omega]; rfl
theorem aGd_nb (ok : aOk α) {bit : Nat} (hb : bit < 2) : nI (α.2 3) >>> (nI bit &&& 31) &&& 1 = nB (aGd α bit) := by
  rw [nb2 _ ok.2.2.2.1 bit hb]
  unfold aGd
  by_cases z : α.2 3 / 2 ^ bit % 2 = 1
  · rw [z, decide_eq_true rfl]; rfl
  · rw [decide_eq_false z, show α.2 3 / 2 ^ bit % 2 = 0 from by omega]; rfl
theorem s_Mo_agree {nn ee ii aa xx : Int32} (q1 : nn = nI n) (q2 : ee = nI e) (q3 : ii = nI i) (q4 : aa = nI (16 * n + 4 * e + i)) (q5 : xx = nI (4 * n + i)) (hn : n < 4) (he : e < 4) (hi : i < 4) (hgf : gf < 2) (ok : aOk α) (hl : lg.length < 1700) (hI : mI X m0 t n e i s M0 lg β α gf w0 w) (h1 : ∀ y ms w', aStep n e i t α gf = some (y, ms) → mI X m0 t n e i s M0 (lg ++ ms.map (fun m => (m, 0))) β y.1 y.2 w0 w' → P (some (.int 1)) w') (h0 : aStep n e i t α gf = none → P (some (.int 0)) w) : xE (xGG X) 2 m_Mo_agree 0 [(0, .ref m0), (1, .int nn), (2, .int ee), (3, .int ii), (4, .int aa), (5, .int xx)] [] w P := by
  subst q1 q2 q3 q4 q5
  have hI0 := hI
  obtain ⟨gv, M, hR, hg, hp, hd, hf, hw⟩ := hI
  have g1 := hR.1
  have g20 := hR.a20
  have g21 := hR.a21
  have g24 := hR.a24
  have g25 := hR.a25
  have g26 := hR.a26
  have g27 := hR.a27
  have hr := ok.1
  have h2 := ok.2.1
  have hg4 := ok.2.2.2.1
  have hle : ∀ bit, aV α bit ≤ 4 := fun bit => cPop_le _
  have vv : ∀ k, k < 4 → M 16 (24 * (16 * n + 4 * e + i) + 4 * α.2 0 + k) = nI (cV2 (aVs α (α.2 0) 0 k) (aVs α (α.2 0) 1 k)) := fun k hk => hp.c16 hr hk
  -- sure and finish
  have L6 : aStep n e i t α gf = (if ¬ α.2 3 = 0 ∧ ¬ α.1 (8 + α.2 0) = true then some (((va_up α.1 (8 + α.2 0) true, α.2), gf), [(n, e, i, 4, nI (α.2 0), nI gf)]) else if 3 ≤ aGs α 0 + aGs α 1 then some ((aFin t e i α, aFg t e i α gf), []) else none) → xE (xGG X) 2 m_Mo_agree 215 [(0, .ref m0), (1, .int (nI n)), (2, .int (nI e)), (3, .int (nI i)), (4, .int (nI (16 * n + 4 * e + i))), (5, .int (nI (4 * n + i))), (6, .int (nI (α.2 0))), (7, .int (nI (24 * (16 * n + 4 * e + i) + 4 * α.2 0)))] [] w P := by
    intro hS
    have F : aStep n e i t α gf = (if 3 ≤ aGs α 0 + aGs α 1 then some ((aFin t e i α, aFg t e i α gf), []) else none) → ∀ lc, xlk lc 0 = some (.ref m0) → xlk lc 2 = some (.int (nI e)) → xlk lc 3 = some (.int (nI i)) → xlk lc 5 = some (.int (nI (4 * n + i))) → xlk lc 7 = some (.int (nI (24 * (16 * n + 4 * e + i) + 4 * α.2 0))) → xE (xGG X) 2 m_Mo_agree 275 lc [] w P := by
      intro hS lc l0 l2 l3 l5 l7
      refine xE.fit (lc' := [(0, .ref m0), (2, .int (nI e)), (3, .int (nI i)), (5, .int (nI (4 * n + i))), (7, .int (nI (24 * (16 * n + 4 * e + i) + 4 * α.2 0)))]) ?_ (by simp only [List.map_cons, List.map_nil, l0, l2, l3, l5, l7])
      refine x_aload_n 276 rfl d_Mo_agree_275 rfl ?_
      refine x_iload_n 277 rfl d_Mo_agree_276 rfl ?_
      refine x_iload_n 278 rfl d_Mo_agree_277 rfl ?_
      refine x_iload 280 rfl d_Mo_agree_278 rfl ?_
      refine x_iload 282 rfl d_Mo_agree_280 rfl ?_
      refine y_callV 285 rfl [_, _, _, _] _ rfl d_Mo_agree_282 g1 rfl c_Mo_236 rfl (Nat.le_of_ble_eq_true rfl) (Nat.le_of_ble_eq_true rfl) (Nat.le_of_ble_eq_true rfl) (s_Mo_finish rfl rfl rfl rfl hn he hi ok hI0 (fun z w' k1 => ?_) (fun z => ?_))
      · refine x_zret d_Mo_agree_285 rfl (by decide) ?_
        exact h1 (aFin t e i α, aFg t e i α gf) [] w' (by rw [hS, if_pos z]) (by rw [List.map_nil, List.append_nil]; exact k1)
      · refine x_zret d_Mo_agree_285 rfl (by decide) ?_
        exact h0 (by rw [hS, if_neg (by omega)])
    refine x_aload_n 216 rfl d_Mo_agree_215 rfl ?_
    refine x_get 219 rfl f_Mo_89 d_Mo_agree_216 g1 rfl ?_
    refine x_iload 221 rfl d_Mo_agree_219 rfl ?_
    refine x_iald 222 rfl d_Mo_agree_221 g26 (t0 := 0) rfl (vp_in_nI (by omega) (by decide)) ?_
    rw [nI_clamp (by omega), hd.c26]
    refine x_if_eq 275 225 rfl d_Mo_agree_222 (by decide) (fun hc => ?_) (fun hc => ?_)
    · have z : α.2 3 = 0 := (nI_eq (b := 0) (by omega) (by decide)).mp hc
      exact F (by rw [hS, if_neg (fun y => y.1 z)]) _ rfl rfl rfl rfl rfl
    have z : ¬ α.2 3 = 0 := fun z => hc (by rw [z]; rfl)
    refine x_aload_n 226 rfl d_Mo_agree_225 rfl ?_
    refine x_get 229 rfl f_Mo_74 d_Mo_agree_226 g1 rfl ?_
    refine x_bipush 231 rfl d_Mo_agree_229 6 (by decide) ?_
    refine x_iload 233 rfl d_Mo_agree_231 rfl ?_
    refine x_imul 234 rfl d_Mo_agree_233 ?_
    refine x_iload 236 rfl d_Mo_agree_234 rfl ?_
    refine x_iadd 237 rfl d_Mo_agree_236 ?_
    rw [i6]
    refine x_zald 238 rfl d_Mo_agree_237 g21 (t0 := 1) rfl (vp_in_nI (by omega) (by decide)) ?_
    rw [nI_clamp (by omega), hp.c21 hr]
    refine x_if_ne 275 241 rfl d_Mo_agree_238 (by decide) (fun hc => ?_) (fun hc => ?_)
    · exact F (by rw [hS, if_neg (fun y => y.2 (nB_ne hc))]) _ rfl rfl rfl rfl rfl
    have zs := (nB_0 _).mp hc
    rw [if_pos ⟨z, by rw [zs]; decide⟩] at hS
    refine x_aload_n 242 rfl d_Mo_agree_241 rfl ?_
    refine x_get 245 rfl f_Mo_74 d_Mo_agree_242 g1 rfl ?_
    refine x_bipush 247 rfl d_Mo_agree_245 6 (by decide) ?_
    refine x_iload 249 rfl d_Mo_agree_247 rfl ?_
    refine x_imul 250 rfl d_Mo_agree_249 ?_
    refine x_iload 252 rfl d_Mo_agree_250 rfl ?_
    refine x_iadd 253 rfl d_Mo_agree_252 ?_
    rw [i6]
    refine x_iconst 254 rfl d_Mo_agree_253 1 (by decide) ?_
    refine x_zast 255 rfl d_Mo_agree_254 g21 (t0 := 1) rfl (vp_in_nI (by omega) (by decide)) z1 ?_
    rw [nI_clamp (by omega)]
    have R1 := hR.put (j := 21) (i := 6 * (16 * n + 4 * e + i) + α.2 0) (x := 1) (by decide)
    generalize hw1 : xset w (m0 + 1 + 21) _ = w1
    have R1 : rMo X m0 t (s.1, s.2.1, nI lg.length, gv, s.2.2.2.2) (va_up M 21 (upd (M 21) (6 * (16 * n + 4 * e + i) + α.2 0) 1)) w1 := by rw [← hw1]; exact R1
    have f1 : fr w0 w1 m0 (m0 + 31) := by rw [← hw1]; exact hw.set _ (by omega) (by omega)
    have k1 := R1.1
    have k27 := R1.a27
    have D6 := d6 (a := 16 * n + 4 * e + i) hr
    have hp1 : pRel (va_up M 21 (upd (M 21) (6 * (16 * n + 4 * e + i) + α.2 0) 1)) (16 * n + 4 * e + i) β (va_up α.1 (8 + α.2 0) true, α.2) := by
      refine hp.up ?_ (fun j idx h1 h2 h3 h4 => pv21 h1 h2 hr (fun z => ?_))
      · show nB (va_up α.1 (8 + α.2 0) true (8 + (6 * (16 * n + 4 * e + i) + α.2 0) % 6)) = _
        rw [D6.2, va_up_self]; rfl
      · subst z
        have h3' : idx / 6 = 16 * n + 4 * e + i := h3
        have h4' := h4 rfl
        intro z2
        exact h4' (by omega)
    have hd1 : dRel (va_up M 21 (upd (M 21) (6 * (16 * n + 4 * e + i) + α.2 0) 1)) (4 * n + i) β (va_up α.1 (8 + α.2 0) true, α.2) gf := hd.oth (by decide) (fun j h1 h2 => dVal_c (β := β) (β' := β) (α := α) (α' := (va_up α.1 (8 + α.2 0) true, α.2)) rfl (by dsimp only; rw [va_up_ne _ _ (by omega)]) (by dsimp only; rw [va_up_ne _ _ (by omega)]) (fun k hk => rfl) h1 h2)
    refine x_aload_n 256 rfl d_Mo_agree_255 rfl ?_
    refine x_iload_n 257 rfl d_Mo_agree_256 rfl ?_
    refine x_iload_n 258 rfl d_Mo_agree_257 rfl ?_
    refine x_iload_n 259 rfl d_Mo_agree_258 rfl ?_
    refine x_iconst 260 rfl d_Mo_agree_259 4 (by decide) ?_
    refine x_iload 262 rfl d_Mo_agree_260 rfl ?_
    refine x_aload_n 263 rfl d_Mo_agree_262 rfl ?_
    refine x_get 266 rfl f_Mo_92 d_Mo_agree_263 k1 rfl ?_
    refine x_iload 268 rfl d_Mo_agree_266 rfl ?_
    refine x_iald 269 rfl d_Mo_agree_268 k27 (t0 := 0) rfl (vp_in_nI (by omega) (by decide)) ?_
    rw [nI_clamp (by omega), hd1.c27]
    refine x_iconst 270 rfl d_Mo_agree_269 0 (by decide) ?_
    refine y_callV 273 rfl [_, _, _, _, _, _, _] _ rfl d_Mo_agree_270 k1 rfl c_Mo_189 rfl (Nat.le_of_ble_eq_true rfl) (Nat.le_of_ble_eq_true rfl) (Nat.le_of_ble_eq_true rfl) (s_post_mI (m := (n, e, i, 4, nI (α.2 0), nI gf)) rfl rfl rfl rfl rfl rfl (mOk_v hn he hi (by omega) hr hgf) R1 (hg.up (by decide)) hp1 hd1 (hf.upP (by decide) (by decide) D6.1) f1 hl (fun w' k1 => ?_))
    refine x_iconst 274 rfl d_Mo_agree_273 1 (by decide) ?_
    refine x_zret d_Mo_agree_274 rfl (by decide) ?_
    exact h1 _ _ w' hS k1
  -- a bit becomes good
  have G : ∀ bit, bit < 2 → (¬ aGd α bit = true ∧ 3 ≤ aV α bit → aStep n e i t α gf = some ((aSetG α bit, if α.2 3 = 0 then bit else gf), [])) → (¬ (¬ aGd α bit = true ∧ 3 ≤ aV α bit) → xE (xGG X) 2 m_Mo_agree 126 [(0, .ref m0), (1, .int (nI n)), (2, .int (nI e)), (3, .int (nI i)), (4, .int (nI (16 * n + 4 * e + i))), (5, .int (nI (4 * n + i))), (6, .int (nI (α.2 0))), (7, .int (nI (24 * (16 * n + 4 * e + i) + 4 * α.2 0))), (9, .int (nI (bit + 1)))] [] w P) → xE (xGG X) 2 m_Mo_agree 126 [(0, .ref m0), (1, .int (nI n)), (2, .int (nI e)), (3, .int (nI i)), (4, .int (nI (16 * n + 4 * e + i))), (5, .int (nI (4 * n + i))), (6, .int (nI (α.2 0))), (7, .int (nI (24 * (16 * n + 4 * e + i) + 4 * α.2 0))), (9, .int (nI bit))] [] w P := by
    intro bit hb hy hnx
    have hle := hle bit
    have skip : ¬ (¬ aGd α bit = true ∧ 3 ≤ aV α bit) → xE (xGG X) 2 m_Mo_agree 209 [(0, .ref m0), (1, .int (nI n)), (2, .int (nI e)), (3, .int (nI i)), (4, .int (nI (16 * n + 4 * e + i))), (5, .int (nI (4 * n + i))), (6, .int (nI (α.2 0))), (7, .int (nI (24 * (16 * n + 4 * e + i) + 4 * α.2 0))), (9, .int (nI bit))] [] w P := by
      intro z
      refine x_iinc 212 rfl d_Mo_agree_209 rfl 1 (by decide) (by decide) ?_
      refine x_goto d_Mo_agree_212 126 (by decide) ?_
      rw [nI_1]
      exact xE.fit (hnx z) rfl
    refine x_iload 128 rfl d_Mo_agree_126 rfl ?_
    refine x_iconst 129 rfl d_Mo_agree_128 2 (by decide) ?_
    refine x_icmp_ge 215 132 rfl d_Mo_agree_129 (by decide) (fun hc => absurd hc (nI_ge (a := bit) (b := 2) hb (by decide))) (fun hc => ?_)
    refine x_aload_n 133 rfl d_Mo_agree_132 rfl ?_
    refine x_get 136 rfl f_Mo_89 d_Mo_agree_133 g1 rfl ?_
    refine x_iload 138 rfl d_Mo_agree_136 rfl ?_
    refine x_iald 139 rfl d_Mo_agree_138 g26 (t0 := 0) rfl (vp_in_nI (by omega) (by decide)) ?_
    rw [nI_clamp (by omega), hd.c26]
    refine x_iload 141 rfl d_Mo_agree_139 rfl ?_
    refine x_ishr 142 rfl d_Mo_agree_141 ?_
    refine x_iconst 143 rfl d_Mo_agree_142 1 (by decide) ?_
    refine x_iand 144 rfl d_Mo_agree_143 ?_
    rw [aGd_nb ok hb]
    refine x_if_ne 209 147 rfl d_Mo_agree_144 (by decide) (fun hc => ?_) (fun hc => ?_)
    · exact skip (fun y => y.1 (nB_ne hc))
    have zg := (nB_0 _).mp hc
    refine x_aload_n 148 rfl d_Mo_agree_147 rfl ?_
    refine x_iload 150 rfl d_Mo_agree_148 rfl ?_
    refine x_iload 152 rfl d_Mo_agree_150 rfl ?_
    refine y_callV 155 rfl [_, _] _ rfl d_Mo_agree_152 g1 rfl c_Mo_233 rfl (Nat.le_of_ble_eq_true rfl) (Nat.le_of_ble_eq_true rfl) (Nat.le_of_ble_eq_true rfl) (s_Mo_voters (v := fun b k => aVs α (α.2 0) b k) rfl rfl (by omega) hb hR vv ?_)
    refine x_iconst 156 rfl d_Mo_agree_155 3 (by decide) ?_
    refine x_icmp_lt 209 159 rfl d_Mo_agree_156 (by decide) (fun hc => ?_) (fun hc => ?_)
    · have y3 : aV α bit < 3 := (nI_ltI (b := 3) (by show aV α bit < _; omega) (by decide)).mp hc
      exact skip (fun y => by omega)
    have y3 : 3 ≤ aV α bit := by
      by_cases y : 3 ≤ aV α bit
      · exact y
      · exact absurd (nI_lt (a := aV α bit) (b := 3) (by omega) (by decide)) hc
    have hS := hy ⟨by rw [zg]; decide, y3⟩
    have hz : ¬ α.2 3 / 2 ^ bit % 2 = 1 := of_decide_eq_false zg
    have wr : ∀ (v : Nat) (lc : List (Nat × Value)), v = (if α.2 3 = 0 then bit else gf) → xlk lc 0 = some (.ref m0) → xlk lc 5 = some (.int (nI (4 * n + i))) → xlk lc 9 = some (.int (nI bit)) → xE (xGG X) 2 m_Mo_agree 187 lc [.int (nI v), .int (nI (4 * n + i)), .ref (m0 + 1 + 27)] w P := by
      intro v lc hv l0 l5 l9
      refine xE.fit (lc' := [(0, .ref m0), (5, .int (nI (4 * n + i))), (9, .int (nI bit))]) ?_ (by simp only [List.map_cons, List.map_nil, l0, l5, l9])
      refine x_iast 188 rfl d_Mo_agree_187 g27 (t0 := 0) rfl (vp_in_nI (by omega) (by decide)) ?_
      rw [nI_clamp (by omega)]
      have I1 : mI X m0 t n e i s M0 lg β α v w0 _ := mI_put hR hg hp hd hf hw (j0 := 27) (x := nI v) (by decide) (by decide) rfl (fun j k1 k2 k3 => d_gf rfl (fun k hk => rfl) k1 k2 k3) (pV_lo (fun k hk => rfl) (fun k hk => rfl))
      generalize hw1 : xset w (m0 + 1 + 27) _ = w1
      have I1 : mI X m0 t n e i s M0 lg β α v w0 w1 := by rw [← hw1]; exact I1
      obtain ⟨gv1, M1, hR1, hg1, hp1, hd1, hf1, hw1⟩ := I1
      have k1 := hR1.1
      have k26 := hR1.a26
      refine x_aload_n 189 rfl d_Mo_agree_188 rfl ?_
      refine x_get 192 rfl f_Mo_89 d_Mo_agree_189 k1 rfl ?_
      refine x_iload 194 rfl d_Mo_agree_192 rfl ?_
      refine x_aload_n 195 rfl d_Mo_agree_194 rfl ?_
      refine x_get 198 rfl f_Mo_89 d_Mo_agree_195 k1 rfl ?_
      refine x_iload 200 rfl d_Mo_agree_198 rfl ?_
      refine x_iald 201 rfl d_Mo_agree_200 k26 (t0 := 0) rfl (vp_in_nI (by omega) (by decide)) ?_
      rw [nI_clamp (by omega), hd1.c26]
      refine x_iconst 202 rfl d_Mo_agree_201 1 (by decide) ?_
      refine x_iload 204 rfl d_Mo_agree_202 rfl ?_
      refine x_ishl 205 rfl d_Mo_agree_204 ?_
      refine x_ior 206 rfl d_Mo_agree_205 ?_
      rw [no2 _ hg4 bit hb]
      refine x_iast 207 rfl d_Mo_agree_206 k26 (t0 := 0) rfl (vp_in_nI (by omega) (by decide)) ?_
      refine x_iconst 208 rfl d_Mo_agree_207 1 (by decide) ?_
      refine x_zret d_Mo_agree_208 rfl (by decide) ?_
      rw [nI_clamp (by omega)]
      refine h1 _ [] _ hS ?_
      rw [List.map_nil, List.append_nil, ← hv]
      exact mI_put hR1 hg1 hp1 hd1 hf1 hw1 (j0 := 26) (by decide) (by decide) (by show nI (va_up α.2 3 (if α.2 3 / 2 ^ bit % 2 = 1 then α.2 3 else α.2 3 + 2 ^ bit) 3) = _; rw [va_up_self]) (fun j k1 k2 k3 => d_gd k1 k2 k3) (pV_lo (fun k hk => rfl) (fun k hk => by unfold aSetG; dsimp only; rw [va_up_ne _ _ (by omega)]))
    refine x_aload_n 160 rfl d_Mo_agree_159 rfl ?_
    refine x_get 163 rfl f_Mo_92 d_Mo_agree_160 g1 rfl ?_
    refine x_iload 165 rfl d_Mo_agree_163 rfl ?_
    refine x_aload_n 166 rfl d_Mo_agree_165 rfl ?_
    refine x_get 169 rfl f_Mo_89 d_Mo_agree_166 g1 rfl ?_
    refine x_iload 171 rfl d_Mo_agree_169 rfl ?_
    refine x_iald 172 rfl d_Mo_agree_171 g26 (t0 := 0) rfl (vp_in_nI (by omega) (by decide)) ?_
    rw [nI_clamp (by omega), hd.c26]
    refine x_if_ne 180 175 rfl d_Mo_agree_172 (by decide) (fun hc => ?_) (fun hc => ?_)
    · have z : ¬ α.2 3 = 0 := fun z => hc (by rw [z]; rfl)
      refine x_aload_n 181 rfl d_Mo_agree_180 rfl ?_
      refine x_get 184 rfl f_Mo_92 d_Mo_agree_181 g1 rfl ?_
      refine x_iload 186 rfl d_Mo_agree_184 rfl ?_
      refine x_iald 187 rfl d_Mo_agree_186 g27 (t0 := 0) rfl (vp_in_nI (by omega) (by decide)) ?_
      rw [nI_clamp (by omega), hd.c27]
      exact wr gf _ (by rw [if_neg z]) rfl rfl rfl
    · have z : α.2 3 = 0 := (nI_eq (b := 0) (by omega) (by decide)).mp hc
      refine x_iload 177 rfl d_Mo_agree_175 rfl ?_
      refine x_goto d_Mo_agree_177 187 (by decide) ?_
      exact wr bit _ (by rw [if_pos z]) rfl rfl rfl
  -- a vote for a bit that two have voted for
  have V : ∀ bit, bit < 2 → (¬ aSent α bit = true ∧ 2 ≤ aV α bit → aStep n e i t α gf = some ((aVote α bit, gf), [(n, e, i, 3, nI (α.2 0), nI bit)])) → (¬ (¬ aSent α bit = true ∧ 2 ≤ aV α bit) → xE (xGG X) 2 m_Mo_agree 74 [(0, .ref m0), (1, .int (nI n)), (2, .int (nI e)), (3, .int (nI i)), (4, .int (nI (16 * n + 4 * e + i))), (5, .int (nI (4 * n + i))), (6, .int (nI (α.2 0))), (7, .int (nI (24 * (16 * n + 4 * e + i) + 4 * α.2 0))), (8, .int (nI (α.2 (8 + α.2 0)))), (9, .int (nI (bit + 1)))] [] w P) → xE (xGG X) 2 m_Mo_agree 74 [(0, .ref m0), (1, .int (nI n)), (2, .int (nI e)), (3, .int (nI i)), (4, .int (nI (16 * n + 4 * e + i))), (5, .int (nI (4 * n + i))), (6, .int (nI (α.2 0))), (7, .int (nI (24 * (16 * n + 4 * e + i) + 4 * α.2 0))), (8, .int (nI (α.2 (8 + α.2 0)))), (9, .int (nI bit))] [] w P := by
    intro bit hb hy hnx
    have hle := hle bit
    have skip : ¬ (¬ aSent α bit = true ∧ 2 ≤ aV α bit) → xE (xGG X) 2 m_Mo_agree 117 [(0, .ref m0), (1, .int (nI n)), (2, .int (nI e)), (3, .int (nI i)), (4, .int (nI (16 * n + 4 * e + i))), (5, .int (nI (4 * n + i))), (6, .int (nI (α.2 0))), (7, .int (nI (24 * (16 * n + 4 * e + i) + 4 * α.2 0))), (8, .int (nI (α.2 (8 + α.2 0)))), (9, .int (nI bit))] [] w P := by
      intro z
      refine x_iinc 120 rfl d_Mo_agree_117 rfl 1 (by decide) (by decide) ?_
      refine x_goto d_Mo_agree_120 74 (by decide) ?_
      rw [nI_1]
      exact xE.fit (hnx z) rfl
    refine x_iload 76 rfl d_Mo_agree_74 rfl ?_
    refine x_iconst 77 rfl d_Mo_agree_76 2 (by decide) ?_
    refine x_icmp_ge 123 80 rfl d_Mo_agree_77 (by decide) (fun hc => absurd hc (nI_ge (a := bit) (b := 2) hb (by decide))) (fun hc => ?_)
    refine x_iload 82 rfl d_Mo_agree_80 rfl ?_
    refine x_iload 84 rfl d_Mo_agree_82 rfl ?_
    refine x_ishr 85 rfl d_Mo_agree_84 ?_
    refine x_iconst 86 rfl d_Mo_agree_85 1 (by decide) ?_
    refine x_iand 87 rfl d_Mo_agree_86 ?_
    rw [aSent_nb ok hb]
    refine x_if_ne 117 90 rfl d_Mo_agree_87 (by decide) (fun hc => ?_) (fun hc => ?_)
    · exact skip (fun y => y.1 (nB_ne hc))
    have zg := (nB_0 _).mp hc
    refine x_aload_n 91 rfl d_Mo_agree_90 rfl ?_
    refine x_iload 93 rfl d_Mo_agree_91 rfl ?_
    refine x_iload 95 rfl d_Mo_agree_93 rfl ?_
    refine y_callV 98 rfl [_, _] _ rfl d_Mo_agree_95 g1 rfl c_Mo_233 rfl (Nat.le_of_ble_eq_true rfl) (Nat.le_of_ble_eq_true rfl) (Nat.le_of_ble_eq_true rfl) (s_Mo_voters (v := fun b k => aVs α (α.2 0) b k) rfl rfl (by omega) hb hR vv ?_)
    refine x_iconst 99 rfl d_Mo_agree_98 2 (by decide) ?_
    refine x_icmp_lt 117 102 rfl d_Mo_agree_99 (by decide) (fun hc => ?_) (fun hc => ?_)
    · have y3 : aV α bit < 2 := (nI_ltI (b := 2) (by show aV α bit < _; omega) (by decide)).mp hc
      exact skip (fun y => by omega)
    have y3 : 2 ≤ aV α bit := by
      by_cases y : 2 ≤ aV α bit
      · exact y
      · exact absurd (nI_lt (a := aV α bit) (b := 2) (by omega) (by decide)) hc
    have hns : ¬ aSent α bit = true := by rw [zg]; decide
    refine x_aload_n 103 rfl d_Mo_agree_102 rfl ?_
    refine x_iload_n 104 rfl d_Mo_agree_103 rfl ?_
    refine x_iload_n 105 rfl d_Mo_agree_104 rfl ?_
    refine x_iload_n 106 rfl d_Mo_agree_105 rfl ?_
    refine x_iload 108 rfl d_Mo_agree_106 rfl ?_
    refine x_iload 110 rfl d_Mo_agree_108 rfl ?_
    refine x_iload 112 rfl d_Mo_agree_110 rfl ?_
    refine y_callV 115 rfl [_, _, _, _, _, _] _ rfl d_Mo_agree_112 g1 rfl c_Mo_229 rfl (Nat.le_of_ble_eq_true rfl) (Nat.le_of_ble_eq_true rfl) (Nat.le_of_ble_eq_true rfl) (s_Mo_vote rfl rfl rfl rfl rfl rfl hn he hi hb ok hns hl hI0 (fun w' k1 => ?_))
    refine x_iconst 116 rfl d_Mo_agree_115 1 (by decide) ?_
    refine x_zret d_Mo_agree_116 rfl (by decide) ?_
    exact h1 _ _ w' (hy ⟨hns, y3⟩) k1
  refine x_aload_n 1 rfl d_Mo_agree_0 rfl ?_
  refine x_get 4 rfl f_Mo_86 d_Mo_agree_1 g1 rfl ?_
  refine x_iload 6 rfl d_Mo_agree_4 rfl ?_
  refine x_iald 7 rfl d_Mo_agree_6 g25 (t0 := 0) rfl (vp_in_nI (by omega) (by decide)) ?_
  rw [nI_clamp (by omega), hd.c25]
  refine x_istore 9 rfl d_Mo_agree_7 (by decide) ?_
  refine x_bipush 11 rfl d_Mo_agree_9 24 (by decide) ?_
  refine x_iload 13 rfl d_Mo_agree_11 rfl ?_
  refine x_imul 14 rfl d_Mo_agree_13 ?_
  refine x_iconst 15 rfl d_Mo_agree_14 4 (by decide) ?_
  refine x_iload 17 rfl d_Mo_agree_15 rfl ?_
  refine x_imul 18 rfl d_Mo_agree_17 ?_
  refine x_iadd 19 rfl d_Mo_agree_18 ?_
  rw [show (24 : Int32) = nI 24 from rfl, show (4 : Int32) = nI 4 from rfl, pk_mul, pk_mul, nI_add]
  refine x_istore 21 rfl d_Mo_agree_19 (by decide) ?_
  refine x_aload_n 22 rfl d_Mo_agree_21 rfl ?_
  refine x_get 25 rfl f_Mo_71 d_Mo_agree_22 g1 rfl ?_
  refine x_bipush 27 rfl d_Mo_agree_25 6 (by decide) ?_
  refine x_iload 29 rfl d_Mo_agree_27 rfl ?_
  refine x_imul 30 rfl d_Mo_agree_29 ?_
  refine x_iload 32 rfl d_Mo_agree_30 rfl ?_
  refine x_iadd 33 rfl d_Mo_agree_32 ?_
  rw [i6]
  refine x_iald 34 rfl d_Mo_agree_33 g20 (t0 := 0) rfl (vp_in_nI (by omega) (by decide)) ?_
  rw [nI_clamp (by omega), hp.c20 hr]
  refine x_istore 36 rfl d_Mo_agree_34 (by decide) ?_
  refine x_iload 38 rfl d_Mo_agree_36 rfl ?_
  refine x_aload_n 39 rfl d_Mo_agree_38 rfl ?_
  refine x_get 42 rfl f_Mo_83 d_Mo_agree_39 g1 rfl ?_
  refine x_iload 44 rfl d_Mo_agree_42 rfl ?_
  refine x_iald 45 rfl d_Mo_agree_44 g24 (t0 := 0) rfl (vp_in_nI (by omega) (by decide)) ?_
  rw [nI_clamp (by omega), hd.c24]
  refine x_ishr 46 rfl d_Mo_agree_45 ?_
  refine x_iconst 47 rfl d_Mo_agree_46 1 (by decide) ?_
  refine x_iand 48 rfl d_Mo_agree_47 ?_
  rw [aSent_nb ok h2]
  refine x_if_ne 71 51 rfl d_Mo_agree_48 (by decide) (fun hc => ?_) (fun hc => ?_)
  rotate_left
  · have zg := (nB_0 _).mp hc
    have hns : ¬ aSent α (α.2 1) = true := by rw [zg]; decide
    refine x_aload_n 52 rfl d_Mo_agree_51 rfl ?_
    refine x_iload_n 53 rfl d_Mo_agree_52 rfl ?_
    refine x_iload_n 54 rfl d_Mo_agree_53 rfl ?_
    refine x_iload_n 55 rfl d_Mo_agree_54 rfl ?_
    refine x_iload 57 rfl d_Mo_agree_55 rfl ?_
    refine x_iload 59 rfl d_Mo_agree_57 rfl ?_
    refine x_aload_n 60 rfl d_Mo_agree_59 rfl ?_
    refine x_get 63 rfl f_Mo_83 d_Mo_agree_60 g1 rfl ?_
    refine x_iload 65 rfl d_Mo_agree_63 rfl ?_
    refine x_iald 66 rfl d_Mo_agree_65 g24 (t0 := 0) rfl (vp_in_nI (by omega) (by decide)) ?_
    rw [nI_clamp (by omega), hd.c24]
    refine y_callV 69 rfl [_, _, _, _, _, _] _ rfl d_Mo_agree_66 g1 rfl c_Mo_229 rfl (Nat.le_of_ble_eq_true rfl) (Nat.le_of_ble_eq_true rfl) (Nat.le_of_ble_eq_true rfl) (s_Mo_vote rfl rfl rfl rfl rfl rfl hn he hi h2 ok hns hl hI0 (fun w' k1 => ?_))
    refine x_iconst 70 rfl d_Mo_agree_69 1 (by decide) ?_
    refine x_zret d_Mo_agree_70 rfl (by decide) ?_
    exact h1 (aVote α (α.2 1), gf) [(n, e, i, 3, nI (α.2 0), nI (α.2 1))] w' (by unfold aStep; rw [if_pos hns]) k1
  have zs := nB_ne hc
  have c1 : ¬ ¬ aSent α (α.2 1) = true := fun y => y zs
  refine x_iconst 72 rfl d_Mo_agree_71 0 (by decide) ?_
  refine x_istore 74 rfl d_Mo_agree_72 (by decide) ?_
  refine xE.fit (V 0 (by decide) (fun y => by unfold aStep; rw [if_neg c1, if_pos y]) (fun c2 => V 1 (by decide) (fun y => by unfold aStep; rw [if_neg c1, if_neg c2, if_pos y]) (fun c3 => ?_))) rfl
  refine x_iload 76 rfl d_Mo_agree_74 rfl ?_
  refine x_iconst 77 rfl d_Mo_agree_76 2 (by decide) ?_
  refine x_icmp_ge 123 80 rfl d_Mo_agree_77 (by decide) (fun hc => ?_) (fun hc => absurd (by decide) hc)
  refine x_iconst 124 rfl d_Mo_agree_123 0 (by decide) ?_
  refine x_istore 126 rfl d_Mo_agree_124 (by decide) ?_
  refine xE.fit (G 0 (by decide) (fun y => by unfold aStep; rw [if_neg c1, if_neg c2, if_neg c3, if_pos y]) (fun c4 => G 1 (by decide) (fun y => by unfold aStep; rw [if_neg c1, if_neg c2, if_neg c3, if_neg c4, if_pos y]) (fun c5 => ?_))) rfl
  refine x_iload 128 rfl d_Mo_agree_126 rfl ?_
  refine x_iconst 129 rfl d_Mo_agree_128 2 (by decide) ?_
  refine x_icmp_ge 215 132 rfl d_Mo_agree_129 (by decide) (fun hc => ?_) (fun hc => absurd (by decide) hc)
  exact xE.fit (L6 (by unfold aStep; rw [if_neg c1, if_neg c2, if_neg c3, if_neg c4, if_neg c5])) rfl
end AGR
