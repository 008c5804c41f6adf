/-! THE REFERENCE: VOTES AND POSTS OF AN INSTANCE -/
theorem dVal_c {β β' : sB} {α α' : sA} {gf : Nat} (hb : β'.2 2 = β.2 2) (h1 : α'.1 0 = α.1 0) (h2 : α'.1 1 = α.1 1) (h3 : ∀ k, k < 4 → α'.2 k = α.2 k) {j : Nat} (k1 : 22 ≤ j) (k2 : j < 30) : dVal β' α' gf j = dVal β α gf j := by
  rcases dc k1 k2 with rfl | rfl | rfl | rfl | rfl | rfl | rfl | rfl
  · exact hb
  · show nB (α'.1 0) = nB (α.1 0); rw [h1]
  · show nI (α'.2 1) = nI (α.2 1); rw [h3 1 (by decide)]
  · show nI (α'.2 0) = nI (α.2 0); rw [h3 0 (by decide)]
  · show nI (α'.2 3) = nI (α.2 3); rw [h3 3 (by decide)]
  · rfl
  · show iD (α'.2 2) = iD (α.2 2); rw [h3 2 (by decide)]
  · show nB (α'.1 1) = nB (α.1 1); rw [h2]
theorem i6 (a c : Nat) : (6 : Int32) * nI a + nI c = nI (6 * a + c) := by rw [show (6 : Int32) = nI 6 from rfl, pk_mul, nI_add]
section VT
variable {X : xPar} {m0 : Nat} {t : Int32} {n e i : Nat} {s : sS} {M0 M M' : Nat → Nat → Int32} {lg : List sPo} {β : sB} {α : sA} {gf : Nat} {w0 w : xW} {P : Option Value → xW → Prop}
theorem pRel.cg {a : Nat} (h : pRel M a β α) (e : ∀ j, 3 ≤ j → M' j = M j) : pRel M' a β α := fun j idx h1 h2 h3 => by rw [e j (by omega)]; exact h j idx h1 h2 h3
theorem dRel.cg {x : Nat} (h : dRel M x β α gf) (e : ∀ j, 3 ≤ j → M' j = M j) : dRel M' x β α gf := fun j h1 h2 => by rw [e j (by omega)]; exact h j h1 h2
theorem iFr.cg {a x : Nat} (h : iFr M0 M a x) (e : ∀ j, 3 ≤ j → M' j = M j) : iFr M0 M' a x := fun j idx h1 h2 h3 => by rw [e j h1]; exact h j idx h1 h2 h3
/-- a post of the instance, as one of the reference's states -/
theorem s_post_mI {gv : Int32} {v1 v2 v3 v4 a b : Int32} {m : sMg} (e1 : v1 = nI m.1) (e2 : v2 = nI m.2.1) (e3 : v3 = nI m.2.2.1) (e4 : v4 = nI m.2.2.2.1) (e5 : a = m.2.2.2.2.1) (e6 : b = m.2.2.2.2.2) (hm : mOk m) (hR : rMo X m0 t (s.1, s.2.1, nI lg.length, gv, s.2.2.2.2) M w) (hg : gRel lg M) (hp : pRel M (16 * n + 4 * e + i) β α) (hd : dRel M (4 * n + i) β α gf) (hf : iFr M0 M (16 * n + 4 * e + i) (4 * n + i)) (hw : fr w0 w m0 (m0 + 31)) (hl : lg.length < 1700) (h : ∀ w', mI X m0 t n e i s M0 (lg ++ [(m, 0)]) β α gf w0 w' → P none w') : xE (xGG X) 0 m_Mo_post 0 [(0, .ref m0), (1, .int v1), (2, .int v2), (3, .int v3), (4, .int v4), (5, .int a), (6, .int b), (7, .int 0)] [] w P := by
  refine s_Mo_post (p := (m, 0)) e1 e2 e3 e4 e5 e6 rfl ⟨hm, by show 0 < 32; omega⟩ hg rfl hl hR (fun w' M' k1 k2 k3 k4 => ?_)
  refine h w' ⟨gv, M', ?_, k2, hp.cg k3, hd.cg k3, hf.cg k3, hw.tr k4⟩
  rw [List.length_append, List.length_singleton]
  exact k1
theorem s_Mo_vote {nn ee ii aa rr bb : Int32} {bit : Nat} (q1 : nn = nI n) (q2 : ee = nI e) (q3 : ii = nI i) (q4 : aa = nI (16 * n + 4 * e + i)) (q5 : rr = nI (α.2 0)) (q6 : bb = nI bit) (hn : n < 4) (he : e < 4) (hi : i < 4) (hb : bit < 2) (ok : aOk α) (hns : ¬ aSent α bit = true) (hl : lg.length < 1700) (hI : mI X m0 t n e i s M0 lg β α gf w0 w) (h : ∀ w', mI X m0 t n e i s M0 (lg ++ [((n, e, i, 3, nI (α.2 0), nI bit), 0)]) β (aVote α bit) gf w0 w' → P none w') : xE (xGG X) 1 m_Mo_vote 0 [(0, .ref m0), (1, .int nn), (2, .int ee), (3, .int ii), (4, .int aa), (5, .int rr), (6, .int bb)] [] w P := by
  subst q1 q2 q3 q4 q5 q6
  obtain ⟨gv, M, hR, hg, hp, hd, hf, hw⟩ := hI
  have g1 := hR.1
  have g20 := hR.a20
  have hr := ok.1
  have hv := ok.2.2.2.2.1 _ hr
  have hz : ¬ α.2 (8 + α.2 0) / 2 ^ bit % 2 = 1 := fun z => hns (decide_eq_true z)
  refine x_aload_n 1 rfl d_Mo_vote_0 rfl ?_
  refine x_get 4 rfl f_Mo_71 d_Mo_vote_1 g1 rfl ?_
  refine x_bipush 6 rfl d_Mo_vote_4 6 (by decide) ?_
  refine x_iload 8 rfl d_Mo_vote_6 rfl ?_
  refine x_imul 9 rfl d_Mo_vote_8 ?_
  refine x_iload 11 rfl d_Mo_vote_9 rfl ?_
  refine x_iadd 12 rfl d_Mo_vote_11 ?_
  refine x_aload_n 13 rfl d_Mo_vote_12 rfl ?_
  refine x_get 16 rfl f_Mo_71 d_Mo_vote_13 g1 rfl ?_
  refine x_bipush 18 rfl d_Mo_vote_16 6 (by decide) ?_
  refine x_iload 20 rfl d_Mo_vote_18 rfl ?_
  refine x_imul 21 rfl d_Mo_vote_20 ?_
  refine x_iload 23 rfl d_Mo_vote_21 rfl ?_
  refine x_iadd 24 rfl d_Mo_vote_23 ?_
  rw [i6]
  refine x_iald 25 rfl d_Mo_vote_24 g20 (t0 := 0) rfl (vp_in_nI (by omega) (by decide)) ?_
  rw [nI_clamp (by omega), hp.c20 hr]
  refine x_iconst 26 rfl d_Mo_vote_25 1 (by decide) ?_
  refine x_iload 28 rfl d_Mo_vote_26 rfl ?_
  refine x_ishl 29 rfl d_Mo_vote_28 ?_
  refine x_ior 30 rfl d_Mo_vote_29 ?_
  rw [no2 _ hv bit hb, if_neg hz]
  refine x_iast 31 rfl d_Mo_vote_30 g20 (t0 := 0) rfl (vp_in_nI (by omega) (by decide)) ?_
  rw [nI_clamp (by omega)]
  have R1 := hR.put (j := 20) (i := 6 * (16 * n + 4 * e + i) + α.2 0) (x := nI (α.2 (8 + α.2 0) + 2 ^ bit)) (by decide)
  generalize hw1 : xset w (m0 + 1 + 20) _ = w1
  have R1 : rMo X m0 t (s.1, s.2.1, nI lg.length, gv, s.2.2.2.2) (va_up M 20 (upd (M 20) (6 * (16 * n + 4 * e + i) + α.2 0) (nI (α.2 (8 + α.2 0) + 2 ^ bit)))) w1 := by rw [← hw1]; exact R1
  have f1 : fr w0 w1 m0 (m0 + 31) := by rw [← hw1]; exact hw.set _ (by omega) (by omega)
  have g2 := R1.1
  have D6 := d6 (a := 16 * n + 4 * e + i) hr
  have hp1 : pRel (va_up M 20 (upd (M 20) (6 * (16 * n + 4 * e + i) + α.2 0) (nI (α.2 (8 + α.2 0) + 2 ^ bit)))) (16 * n + 4 * e + i) β (aVote α bit) := by
    refine hp.up ?_ (fun j idx h1 h2 h3 h4 => pv20 h1 h2 hr (fun z => ?_))
    · show nI (va_up α.2 (8 + α.2 0) (α.2 (8 + α.2 0) + 2 ^ bit) (8 + (6 * (16 * n + 4 * e + i) + α.2 0) % 6)) = _
      rw [D6.2, va_up_self]
    · subst z
      have h3' : idx / 6 = 16 * n + 4 * e + i := h3
      have h4' := h4 rfl
      intro z2
      exact h4' (by omega)
  have hd1 : dRel (va_up M 20 (upd (M 20) (6 * (16 * n + 4 * e + i) + α.2 0) (nI (α.2 (8 + α.2 0) + 2 ^ bit)))) (4 * n + i) β (aVote α bit) gf := hd.oth (by decide) (fun j h1 h2 => dVal_c (β := β) (β' := β) (α := α) (α' := aVote α bit) rfl rfl rfl (fun k hk => by unfold aVote; dsimp only; rw [va_up_ne _ _ (by omega)]) h1 h2)
  refine x_aload_n 32 rfl d_Mo_vote_31 rfl ?_
  refine x_iload_n 33 rfl d_Mo_vote_32 rfl ?_
  refine x_iload_n 34 rfl d_Mo_vote_33 rfl ?_
  refine x_iload_n 35 rfl d_Mo_vote_34 rfl ?_
  refine x_iconst 36 rfl d_Mo_vote_35 3 (by decide) ?_
  refine x_iload 38 rfl d_Mo_vote_36 rfl ?_
  refine x_iload 40 rfl d_Mo_vote_38 rfl ?_
  refine x_iconst 41 rfl d_Mo_vote_40 0 (by decide) ?_
  refine y_callV 44 rfl [_, _, _, _, _, _, _] _ rfl d_Mo_vote_41 g2 rfl c_Mo_189 rfl (Nat.le_of_ble_eq_true rfl) (Nat.le_of_ble_eq_true rfl) (Nat.le_of_ble_eq_true rfl) (s_post_mI (m := (n, e, i, 3, nI (α.2 0), nI bit)) rfl rfl rfl rfl rfl rfl (mOk_v hn he hi (by omega) hr hb) R1 (hg.up (by decide)) hp1 hd1 (hf.upP (by decide) (by decide) D6.1) f1 hl (fun w' k1 => ?_))
  refine x_vret d_Mo_vote_44 rfl ?_
  exact h w' k1
end VT
