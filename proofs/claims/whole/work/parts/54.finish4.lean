/-! THE REFERENCE: FINISH -/
section FI4
variable {X : xPar} {m0 : Nat} {t : Int32} {n e i : Nat} {s : sS} {M0 : Nat → Nat → Int32} {lg : List sPo} {β : sB} {α : sA} {gf : Nat} {w0 w : xW} {P : Option Value → xW → Prop}
theorem s_Mo_finish {ee ii cc xx : Int32} (q1 : ee = nI e) (q2 : ii = nI i) (q3 : cc = nI (24 * (16 * n + 4 * e + i) + 4 * α.2 0)) (q4 : xx = nI (4 * n + i)) (hn : n < 4) (he : e < 4) (hi : i < 4) (ok : aOk α) (hI : mI X m0 t n e i s M0 lg β α gf w0 w) (h1 : 3 ≤ aGs α 0 + aGs α 1 → ∀ w', mI X m0 t n e i s M0 lg β (aFin t e i α) (aFg t e i α gf) w0 w' → P (some (.int 1)) w') (h0 : aGs α 0 + aGs α 1 < 3 → P (some (.int 0)) w) : xE (xGG X) 1 m_Mo_finish 0 [(0, .ref m0), (1, .int ee), (2, .int ii), (3, .int cc), (4, .int xx)] [] w P := by
  subst q1 q2 q3 q4
  have hI0 := hI
  obtain ⟨gv, M, hR, hg, hp, hd, hf, hw⟩ := hI
  have g1 := hR.1
  have g17 := hR.a17
  have g26 := hR.a26
  have hr := ok.1
  have hgd := ok.2.2.2.1
  have loop : ∀ (m j : Nat) (cc : Int32), cc = nI j → j + m = 4 → xE (xGG X) 1 m_Mo_finish 9 [(0, .ref m0), (1, .int (nI e)), (2, .int (nI i)), (3, .int (nI (24 * (16 * n + 4 * e + i) + 4 * α.2 0))), (4, .int (nI (4 * n + i))), (5, .int (nI (cN (fun k => aSs α (α.2 0) 0 k && aGd α 0) j))), (6, .int (nI (cN (fun k => aSs α (α.2 0) 1 k && aGd α 1) j))), (7, .int cc)] [] w P := by
    intro m
    induction m with
    | zero =>
      intro j cc hcc hj
      have hj4 : j = 4 := by omega
      subst hj4 hcc
      rw [aGs_cN, aGs_cN]
      refine x_iload 11 rfl d_Mo_finish_9 rfl ?_
      refine x_iconst 12 rfl d_Mo_finish_11 4 (by decide) ?_
      refine x_icmp_ge 95 15 rfl d_Mo_finish_12 (by decide) (fun hc => ?_) (fun hc => absurd (by decide) hc)
      exact s_finish_mid hn he hi ok hI0 h1 h0 _ rfl rfl rfl rfl rfl rfl
    | succ m ih =>
      intro j cc hcc hj
      subst hcc
      have hj4 : j < 4 := by omega
      have hv := ok.2.2.2.2.2.1 (α.2 0) j hr hj4
      have ih' := ih (j + 1) _ rfl (by omega)
      rw [cN, cN] at ih'
      generalize cN (fun k => aSs α (α.2 0) 0 k && aGd α 0) j = c0 at ih' ⊢
      generalize cN (fun k => aSs α (α.2 0) 1 k && aGd α 1) j = c1 at ih' ⊢
      have eb0 : aSs α (α.2 0) 0 j = decide (α.2 (32 + 4 * α.2 0 + j) = 1) := rfl
      have eb1 : aSs α (α.2 0) 1 j = decide (α.2 (32 + 4 * α.2 0 + j) = 2) := rfl
      -- the second half of a turn
      have snd : ∀ (z : Nat) (lc : List (Nat × Value)), z = c0 + cond (aSs α (α.2 0) 0 j && aGd α 0) 1 0 → xlk lc 0 = some (.ref m0) → xlk lc 1 = some (.int (nI e)) → xlk lc 2 = some (.int (nI i)) → xlk lc 3 = some (.int (nI (24 * (16 * n + 4 * e + i) + 4 * α.2 0))) → xlk lc 4 = some (.int (nI (4 * n + i))) → xlk lc 6 = some (.int (nI c1)) → xlk lc 7 = some (.int (nI j)) → xE (xGG X) 1 m_Mo_finish 50 lc [.int (nI z)] w P := by
        intro z lc hz l0 l1 l2 l3 l4 l6 l7
        rw [← hz] at ih'
        refine xE.fit (lc' := [(0, .ref m0), (1, .int (nI e)), (2, .int (nI i)), (3, .int (nI (24 * (16 * n + 4 * e + i) + 4 * α.2 0))), (4, .int (nI (4 * n + i))), (6, .int (nI c1)), (7, .int (nI j))]) ?_ (by simp only [List.map_cons, List.map_nil, l0, l1, l2, l3, l4, l6, l7])
        have no : (aSs α (α.2 0) 1 j && aGd α 1) = false → ∀ lc, xlk lc 0 = some (.ref m0) → xlk lc 1 = some (.int (nI e)) → xlk lc 2 = some (.int (nI i)) → xlk lc 3 = some (.int (nI (24 * (16 * n + 4 * e + i) + 4 * α.2 0))) → xlk lc 4 = some (.int (nI (4 * n + i))) → xlk lc 5 = some (.int (nI z)) → xlk lc 6 = some (.int (nI c1)) → xlk lc 7 = some (.int (nI j)) → xE (xGG X) 1 m_Mo_finish 85 lc [] w P := by
          intro y lc l0 l1 l2 l3 l4 l5 l6 l7
          refine xE.fit (lc' := [(0, .ref m0), (1, .int (nI e)), (2, .int (nI i)), (3, .int (nI (24 * (16 * n + 4 * e + i) + 4 * α.2 0))), (4, .int (nI (4 * n + i))), (5, .int (nI z)), (6, .int (nI c1)), (7, .int (nI j))]) ?_ (by simp only [List.map_cons, List.map_nil, l0, l1, l2, l3, l4, l5, l6, l7])
          rw [y] at ih'
          refine x_iload 87 rfl d_Mo_finish_85 rfl ?_
          refine x_istore 89 rfl d_Mo_finish_87 (by decide) ?_
          refine x_iinc 92 rfl d_Mo_finish_89 rfl 1 (by decide) (by decide) ?_
          refine x_goto d_Mo_finish_92 9 (by decide) ?_
          rw [nI_1]
          exact xE.fit ih' rfl
        refine x_istore 52 rfl d_Mo_finish_50 (by decide) ?_
        refine x_aload_n 53 rfl d_Mo_finish_52 rfl ?_
        refine x_get 56 rfl f_Mo_62 d_Mo_finish_53 g1 rfl ?_
        refine x_iload_n 57 rfl d_Mo_finish_56 rfl ?_
        refine x_iload 59 rfl d_Mo_finish_57 rfl ?_
        refine x_iadd 60 rfl d_Mo_finish_59 ?_
        rw [nI_add]
        refine x_iald 61 rfl d_Mo_finish_60 g17 (t0 := 0) rfl (vp_in_nI (by omega) (by decide)) ?_
        refine x_iconst 62 rfl d_Mo_finish_61 2 (by decide) ?_
        rw [nI_clamp (by omega), hp.c17 hr hj4]
        refine x_icmp_ne 85 65 rfl d_Mo_finish_62 (by decide) (fun hc => ?_) (fun hc => ?_)
        · exact no (by rw [eb1, decide_eq_false (fun y => hc ((nI_3 _ hv 2 (by decide)).mpr y))]; rfl) _ rfl rfl rfl rfl rfl rfl rfl rfl
        have y1 := (nI_3 _ hv 2 (by decide)).mp hc
        refine x_aload_n 66 rfl d_Mo_finish_65 rfl ?_
        refine x_get 69 rfl f_Mo_89 d_Mo_finish_66 g1 rfl ?_
        refine x_iload 71 rfl d_Mo_finish_69 rfl ?_
        refine x_iald 72 rfl d_Mo_finish_71 g26 (t0 := 0) rfl (vp_in_nI (by omega) (by decide)) ?_
        refine x_iconst 73 rfl d_Mo_finish_72 2 (by decide) ?_
        rw [nI_clamp (by omega), hd.c26]
        refine x_iand 74 rfl d_Mo_finish_73 ?_
        refine x_iconst 75 rfl d_Mo_finish_74 2 (by decide) ?_
        refine x_icmp_ne 85 78 rfl d_Mo_finish_75 (by decide) (fun hc => ?_) (fun hc => ?_)
        · exact no (by unfold aGd; rw [decide_eq_false (fun y => hc ((gd2 _ hgd).mpr y)), Bool.and_false]) _ rfl rfl rfl rfl rfl rfl rfl rfl
        have y2 := (gd2 _ hgd).mp hc
        rw [show (aSs α (α.2 0) 1 j && aGd α 1) = true from by rw [eb1, decide_eq_true y1]; unfold aGd; rw [decide_eq_true y2]; rfl] at ih'
        refine x_iload 80 rfl d_Mo_finish_78 rfl ?_
        refine x_iconst 81 rfl d_Mo_finish_80 1 (by decide) ?_
        refine x_iadd 82 rfl d_Mo_finish_81 ?_
        refine x_goto d_Mo_finish_82 87 (by decide) ?_
        refine x_istore 89 rfl d_Mo_finish_87 (by decide) ?_
        refine x_iinc 92 rfl d_Mo_finish_89 rfl 1 (by decide) (by decide) ?_
        refine x_goto d_Mo_finish_92 9 (by decide) ?_
        rw [nI_1, nI_1]
        exact xE.fit ih' rfl
      have no : (aSs α (α.2 0) 0 j && aGd α 0) = false → ∀ lc, xlk lc 0 = some (.ref m0) → xlk lc 1 = some (.int (nI e)) → xlk lc 2 = some (.int (nI i)) → xlk lc 3 = some (.int (nI (24 * (16 * n + 4 * e + i) + 4 * α.2 0))) → xlk lc 4 = some (.int (nI (4 * n + i))) → xlk lc 5 = some (.int (nI c0)) → xlk lc 6 = some (.int (nI c1)) → xlk lc 7 = some (.int (nI j)) → xE (xGG X) 1 m_Mo_finish 48 lc [] w P := by
        intro y lc l0 l1 l2 l3 l4 l5 l6 l7
        refine xE.fit (lc' := [(0, .ref m0), (1, .int (nI e)), (2, .int (nI i)), (3, .int (nI (24 * (16 * n + 4 * e + i) + 4 * α.2 0))), (4, .int (nI (4 * n + i))), (5, .int (nI c0)), (6, .int (nI c1)), (7, .int (nI j))]) ?_ (by simp only [List.map_cons, List.map_nil, l0, l1, l2, l3, l4, l5, l6, l7])
        refine x_iload 50 rfl d_Mo_finish_48 rfl ?_
        exact snd c0 _ (by rw [y]; rfl) rfl rfl rfl rfl rfl rfl rfl
      refine x_iload 11 rfl d_Mo_finish_9 rfl ?_
      refine x_iconst 12 rfl d_Mo_finish_11 4 (by decide) ?_
      refine x_icmp_ge 95 15 rfl d_Mo_finish_12 (by decide) (fun hc => absurd hc (nI_ge (a := j) (b := 4) hj4 (by decide))) (fun hc => ?_)
      refine x_aload_n 16 rfl d_Mo_finish_15 rfl ?_
      refine x_get 19 rfl f_Mo_62 d_Mo_finish_16 g1 rfl ?_
      refine x_iload_n 20 rfl d_Mo_finish_19 rfl ?_
      refine x_iload 22 rfl d_Mo_finish_20 rfl ?_
      refine x_iadd 23 rfl d_Mo_finish_22 ?_
      rw [nI_add]
      refine x_iald 24 rfl d_Mo_finish_23 g17 (t0 := 0) rfl (vp_in_nI (by omega) (by decide)) ?_
      refine x_iconst 25 rfl d_Mo_finish_24 1 (by decide) ?_
      rw [nI_clamp (by omega), hp.c17 hr hj4]
      refine x_icmp_ne 48 28 rfl d_Mo_finish_25 (by decide) (fun hc => ?_) (fun hc => ?_)
      · exact no (by rw [eb0, decide_eq_false (fun y => hc ((nI_3 _ hv 1 (by decide)).mpr y))]; rfl) _ rfl rfl rfl rfl rfl rfl rfl rfl
      have y1 := (nI_3 _ hv 1 (by decide)).mp hc
      refine x_aload_n 29 rfl d_Mo_finish_28 rfl ?_
      refine x_get 32 rfl f_Mo_89 d_Mo_finish_29 g1 rfl ?_
      refine x_iload 34 rfl d_Mo_finish_32 rfl ?_
      refine x_iald 35 rfl d_Mo_finish_34 g26 (t0 := 0) rfl (vp_in_nI (by omega) (by decide)) ?_
      refine x_iconst 36 rfl d_Mo_finish_35 1 (by decide) ?_
      rw [nI_clamp (by omega), hd.c26]
      refine x_iand 37 rfl d_Mo_finish_36 ?_
      refine x_iconst 38 rfl d_Mo_finish_37 1 (by decide) ?_
      refine x_icmp_ne 48 41 rfl d_Mo_finish_38 (by decide) (fun hc => ?_) (fun hc => ?_)
      · exact no (by unfold aGd; rw [decide_eq_false (fun y => hc ((gd1 _ hgd).mpr y)), Bool.and_false]) _ rfl rfl rfl rfl rfl rfl rfl rfl
      have y2 := (gd1 _ hgd).mp hc
      refine x_iload 43 rfl d_Mo_finish_41 rfl ?_
      refine x_iconst 44 rfl d_Mo_finish_43 1 (by decide) ?_
      refine x_iadd 45 rfl d_Mo_finish_44 ?_
      refine x_goto d_Mo_finish_45 50 (by decide) ?_
      rw [nI_1]
      exact snd (c0 + 1) _ (by rw [show (aSs α (α.2 0) 0 j && aGd α 0) = true from by rw [eb0, decide_eq_true y1]; unfold aGd; rw [decide_eq_true y2]; rfl]; rfl) rfl rfl rfl rfl rfl rfl rfl
  refine x_iconst 1 rfl d_Mo_finish_0 0 (by decide) ?_
  refine x_istore 3 rfl d_Mo_finish_1 (by decide) ?_
  refine x_iconst 4 rfl d_Mo_finish_3 0 (by decide) ?_
  refine x_istore 6 rfl d_Mo_finish_4 (by decide) ?_
  refine x_iconst 7 rfl d_Mo_finish_6 0 (by decide) ?_
  refine x_istore 9 rfl d_Mo_finish_7 (by decide) ?_
  exact xE.fit (loop 4 0 0 rfl rfl) rfl
end FI4
