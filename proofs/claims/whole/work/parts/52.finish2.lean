/-! THE REFERENCE: FINISH, ITS WALK -/
section FI2
variable {X : xPar} {m0 : Nat} {t : Int32} {n e i : Nat} {s : sS} {M0 : Nat → Nat → Int32} {lg : List sPo} {β : sB} {α : sA} {gf : Nat} {w0 w : xW} {P : Option Value → xW → Prop}
def aFg (t : Int32) (e i : Nat) (α : sA) (gf : Nat) : Nat := if α.2 2 = cCoin t e i (α.2 0) + 1 ∨ α.2 0 = 5 then gf else 0
/-- behind estimate and decision -/
theorem s_finish_tail (hn : n < 4) (he : e < 4) (hi : i < 4) (ok : aOk α) {α2 : sA} (e1 : α2.1 = α.1) (e2 : α2.2 = va_up (va_up α.2 1 (aEs t e i α)) 2 (aDe t e i α)) (hI : mI X m0 t n e i s M0 lg β α2 gf w0 w) (h : ∀ w', mI X m0 t n e i s M0 lg β (aFin t e i α) (aFg t e i α gf) w0 w' → P (some (.int 1)) w') : ∀ lc, xlk lc 0 = some (.ref m0) → xlk lc 4 = some (.int (nI (4 * n + i))) → xlk lc 7 = some (.int (nI (α.2 0))) → xlk lc 8 = some (.int (nI (cCoin t e i (α.2 0)))) → xlk lc 9 = some (.int (nB (decide (α.2 2 ≠ 0)))) → xE (xGG X) 1 m_Mo_finish 207 lc [] w P := by
  intro lc l0 l4 l7 l8 l9
  refine xE.fit (lc' := [(0, .ref m0), (4, .int (nI (4 * n + i))), (7, .int (nI (α.2 0))), (8, .int (nI (cCoin t e i (α.2 0)))), (9, .int (nB (decide (α.2 2 ≠ 0))))]) ?_ (by simp only [List.map_cons, List.map_nil, l0, l4, l7, l8, l9])
  obtain ⟨gv, M, hR, hg, hp, hd, hf, hw⟩ := hI
  have g1 := hR.1
  have hcl := cCoin_lt t e i (α.2 0)
  have hr := ok.1
  have h3 := ok.2.2.1
  have dn : (α.2 2 = cCoin t e i (α.2 0) + 1 ∨ α.2 0 = 5) → ∀ lc, xlk lc 0 = some (.ref m0) → xlk lc 4 = some (.int (nI (4 * n + i))) → xE (xGG X) 1 m_Mo_finish 230 lc [] w P := by
    intro z lc l0 l4
    refine xE.fit (lc' := [(0, .ref m0), (4, .int (nI (4 * n + i)))]) ?_ (by simp only [List.map_cons, List.map_nil, l0, l4])
    have g29 := hR.a29
    refine x_aload_n 231 rfl d_Mo_finish_230 rfl ?_
    refine x_get 234 rfl f_Mo_98 d_Mo_finish_231 g1 rfl ?_
    refine x_iload 236 rfl d_Mo_finish_234 rfl ?_
    refine x_iconst 237 rfl d_Mo_finish_236 1 (by decide) ?_
    refine x_zast 238 rfl d_Mo_finish_237 g29 (t0 := 1) rfl (vp_in_nI (by omega) (by decide)) z1 ?_
    refine x_goto d_Mo_finish_238 268 (by decide) ?_
    refine x_iconst 269 rfl d_Mo_finish_268 1 (by decide) ?_
    refine x_zret d_Mo_finish_269 rfl (by decide) ?_
    rw [nI_clamp (by omega)]
    unfold aFin aFg at h
    rw [if_pos z, if_pos z, ← e1, ← e2] at h
    exact h _ (mI_put hR hg hp hd hf hw (j0 := 29) (by decide) (by decide) (by show nB (va_up α2.1 1 true 1) = 1; rw [va_up_self]; rfl) (fun j k1 k2 k3 => d_dn k1 k2 k3) (pV_lo (fun k hk => by dsimp only; rw [va_up_ne _ _ (by omega)]) (fun k hk => rfl)))
  have nx : ¬ (α.2 2 = cCoin t e i (α.2 0) + 1 ∨ α.2 0 = 5) → ∀ lc, xlk lc 0 = some (.ref m0) → xlk lc 4 = some (.int (nI (4 * n + i))) → xE (xGG X) 1 m_Mo_finish 241 lc [] w P := by
    intro z lc l0 l4
    refine xE.fit (lc' := [(0, .ref m0), (4, .int (nI (4 * n + i)))]) ?_ (by simp only [List.map_cons, List.map_nil, l0, l4])
    have e0 : α2.2 0 = α.2 0 := by rw [e2, va_up_ne _ _ (by decide), va_up_ne _ _ (by decide)]
    have g25 := hR.a25
    refine x_aload_n 242 rfl d_Mo_finish_241 rfl ?_
    refine x_get 245 rfl f_Mo_86 d_Mo_finish_242 g1 rfl ?_
    refine x_iload 247 rfl d_Mo_finish_245 rfl ?_
    refine x_dup2 248 rfl d_Mo_finish_247 rfl rfl ?_
    refine x_iald 249 rfl d_Mo_finish_248 g25 (t0 := 0) rfl (vp_in_nI (by omega) (by decide)) ?_
    refine x_iconst 250 rfl d_Mo_finish_249 1 (by decide) ?_
    refine x_iadd 251 rfl d_Mo_finish_250 ?_
    rw [nI_clamp (by omega), hd.c25, nI_1]
    refine x_iast 252 rfl d_Mo_finish_251 g25 (t0 := 0) rfl (vp_in_nI (by omega) (by decide)) ?_
    rw [nI_clamp (by omega)]
    have I1 : mI X m0 t n e i s M0 lg β (α2.1, va_up α2.2 0 (α2.2 0 + 1)) gf w0 _ := mI_put hR hg hp hd hf hw (j0 := 25) (x := nI (α2.2 0 + 1)) (by decide) (by decide) (by show nI (va_up α2.2 0 (α2.2 0 + 1) 0) = _; rw [va_up_self]) (fun j k1 k2 k3 => d_rd k1 k2 k3) (pV_lo (fun k hk => rfl) (fun k hk => by dsimp only; rw [va_up_ne _ _ (by omega)]))
    generalize hw1 : xset w (m0 + 1 + 25) _ = w1
    have I1 : mI X m0 t n e i s M0 lg β (α2.1, va_up α2.2 0 (α2.2 0 + 1)) gf w0 w1 := by rw [← hw1]; exact I1
    obtain ⟨gv1, M1, hR1, hg1, hp1, hd1, hf1, hw1⟩ := I1
    have k1 := hR1.1
    have g26 := hR1.a26
    refine x_aload_n 253 rfl d_Mo_finish_252 rfl ?_
    refine x_get 256 rfl f_Mo_89 d_Mo_finish_253 k1 rfl ?_
    refine x_iload 258 rfl d_Mo_finish_256 rfl ?_
    refine x_iconst 259 rfl d_Mo_finish_258 0 (by decide) ?_
    refine x_iast 260 rfl d_Mo_finish_259 g26 (t0 := 0) rfl (vp_in_nI (by omega) (by decide)) ?_
    rw [nI_clamp (by omega)]
    have I2 : mI X m0 t n e i s M0 lg β (α2.1, va_up (va_up α2.2 0 (α2.2 0 + 1)) 3 0) gf w0 _ := mI_put hR1 hg1 hp1 hd1 hf1 hw1 (j0 := 26) (x := 0) (by decide) (by decide) (by show nI (va_up (va_up α2.2 0 (α2.2 0 + 1)) 3 0 3) = 0; rw [va_up_self]; rfl) (fun j k1 k2 k3 => d_gd (α := (α2.1, va_up α2.2 0 (α2.2 0 + 1))) k1 k2 k3) (pV_lo (α := (α2.1, va_up α2.2 0 (α2.2 0 + 1))) (fun k hk => rfl) (fun k hk => by dsimp only; rw [va_up_ne _ _ (by omega)]))
    generalize hw2 : xset w1 (m0 + 1 + 26) _ = w2
    have I2 : mI X m0 t n e i s M0 lg β (α2.1, va_up (va_up α2.2 0 (α2.2 0 + 1)) 3 0) gf w0 w2 := by rw [← hw2]; exact I2
    obtain ⟨gv2, M2, hR2, hg2, hp2, hd2, hf2, hw2⟩ := I2
    have k2 := hR2.1
    have g27 := hR2.a27
    refine x_aload_n 261 rfl d_Mo_finish_260 rfl ?_
    refine x_get 264 rfl f_Mo_92 d_Mo_finish_261 k2 rfl ?_
    refine x_iload 266 rfl d_Mo_finish_264 rfl ?_
    refine x_iconst 267 rfl d_Mo_finish_266 0 (by decide) ?_
    refine x_iast 268 rfl d_Mo_finish_267 g27 (t0 := 0) rfl (vp_in_nI (by omega) (by decide)) ?_
    refine x_iconst 269 rfl d_Mo_finish_268 1 (by decide) ?_
    refine x_zret d_Mo_finish_269 rfl (by decide) ?_
    rw [nI_clamp (by omega)]
    unfold aFin aFg at h
    rw [if_neg z, if_neg z, ← e1, ← e2, ← e0] at h
    exact h _ (mI_put hR2 hg2 hp2 hd2 hf2 hw2 (j0 := 27) (x := 0) (by decide) (by decide) rfl (fun j k1 k2 k3 => d_gf (α := (α2.1, va_up (va_up α2.2 0 (α2.2 0 + 1)) 3 0)) rfl (fun k hk => by dsimp only; rw [va_up_ne _ _ (by omega)]) k1 k2 k3) (pV_lo (α := (α2.1, va_up (va_up α2.2 0 (α2.2 0 + 1)) 3 0)) (fun k hk => rfl) (fun k hk => by dsimp only; rw [va_up_ne _ _ (by omega)])))
  -- the round alone
  have rd : ¬ α.2 2 = cCoin t e i (α.2 0) + 1 → xE (xGG X) 1 m_Mo_finish 224 [(0, .ref m0), (4, .int (nI (4 * n + i))), (7, .int (nI (α.2 0))), (8, .int (nI (cCoin t e i (α.2 0)))), (9, .int (nB (decide (α.2 2 ≠ 0))))] [] w P := by
    intro z
    refine x_iload 226 rfl d_Mo_finish_224 rfl ?_
    refine x_iconst 227 rfl d_Mo_finish_226 5 (by decide) ?_
    refine x_icmp_ne 241 230 rfl d_Mo_finish_227 (by decide) (fun hc => ?_) (fun hc => ?_)
    · exact nx (fun y => by rcases y with y | y; exact z y; exact hc (by rw [y]; rfl)) _ rfl rfl
    · exact dn (Or.inr ((nI_eq (b := 5) (by omega) (by decide)).mp hc)) _ rfl rfl
  refine x_iload 209 rfl d_Mo_finish_207 rfl ?_
  refine x_if_eq 224 212 rfl d_Mo_finish_209 (by decide) (fun hc => ?_) (fun hc => ?_)
  · have z := of_decide_eq_false ((nB_0 _).mp hc)
    exact rd (fun y => z (by omega))
  have z := of_decide_eq_true (nB_ne hc)
  have ede : aDe t e i α = α.2 2 := by
    unfold aDe
    rw [if_neg (fun y => z y.2.2)]
  have e3 : α2.2 2 = α.2 2 := by rw [e2, va_up_self, ede]
  have g28 := hR.a28
  refine x_aload_n 213 rfl d_Mo_finish_212 rfl ?_
  refine x_get 216 rfl f_Mo_95 d_Mo_finish_213 g1 rfl ?_
  refine x_iload 218 rfl d_Mo_finish_216 rfl ?_
  refine x_iald 219 rfl d_Mo_finish_218 g28 (t0 := 0) rfl (vp_in_nI (by omega) (by decide)) ?_
  refine x_iload 221 rfl d_Mo_finish_219 rfl ?_
  rw [nI_clamp (by omega), hd.c28, e3]
  refine x_icmp_eq 230 224 rfl d_Mo_finish_221 (by decide) (fun hc => ?_) (fun hc => ?_)
  · exact dn (Or.inl ((iD_c _ h3 _ hcl z).mp hc)) _ rfl rfl
  · exact rd (fun y => hc ((iD_c _ h3 _ hcl z).mpr y))
end FI2
