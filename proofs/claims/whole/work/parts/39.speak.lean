/-! THE LEDGER: SPEAK -/
theorem lSpk_ok {σ : sL} {mo : Nat} {nn ee ii kk aa bb : Int32} (hI : lInv σ mo) : lInv (lSpk σ nn ee ii kk aa bb).1 (mo + (if (lSpk σ nn ee ii kk aa bb).2 = true then 1 else 0)) ∧ mo + (if (lSpk σ nn ee ii kk aa bb).2 = true then 1 else 0) + 4 * lPot (lSpk σ nn ee ii kk aa bb).1 ≤ mo + 4 * lPot σ := by
  unfold lSpk
  split
  · rename_i z
    simp only [Bool.and_eq_true, decide_eq_true_iff] at z
    obtain ⟨⟨⟨z1, z2⟩, ⟨⟨z3, z4⟩, z5⟩, z6⟩, z7⟩ := z
    obtain ⟨h1, h2, h3⟩ := hI
    have e1 : lPot (σ.1 + 1, σ.2.1, va_up σ.2.2 (cUn nn) (σ.2.2 (cUn nn) ++ [(3, cUn ee, cUn ii, cUn kk, aa, bb)])) + 1 = lPot σ := by
      unfold lPot
      dsimp only
      omega
    dsimp only
    rw [if_pos rfl]
    refine ⟨⟨fun j hj => ⟨(h1 j hj).1, ?_⟩, by omega, by dsimp only; omega⟩, by omega⟩
    intro m hm
    have hm : m ∈ va_up σ.2.2 (cUn nn) (σ.2.2 (cUn nn) ++ [(3, cUn ee, cUn ii, cUn kk, aa, bb)]) j := hm
    by_cases zj : j = cUn nn
    · rw [zj, va_up_self] at hm
      rcases List.mem_append.mp hm with y | y
      · exact (h1 _ (lNode_lt z3)).2 m y
      · rw [List.mem_singleton.mp y]
        have hk : cUn kk ≤ 4 := cUn_le (c := 4) (by decide) z6.1 z6.2
        refine ⟨by dsimp only; omega, lNode_lt z4, lNode_lt z5, by dsimp only; omega, fun y3 => ?_⟩
        dsimp only at y3 ⊢
        unfold lFit at z7
        rw [Bool.or_eq_true, Bool.and_eq_true, decide_eq_true_iff, decide_eq_true_iff, decide_eq_true_iff] at z7
        rcases z7 with z7 | z7
        · rw [← nI_cUn kk] at z7
          have := (nI_ltI (b := 3) (by omega) (by decide)).mp z7
          omega
        · have q1 := cUn_le (c := 5) (by decide) z7.1.1 z7.1.2
          have q2 := cUn_le (c := 1) (by decide) z7.2.1 z7.2.2
          omega
    · rw [va_up_ne _ _ zj] at hm
      exact (h1 j hj).2 m hm
  · dsimp only
    rw [if_neg (by decide)]
    exact ⟨hI, Nat.le_refl _⟩
section LD4
variable {X : xPar} {sb L : Nat} {xs : Nat → Int32} {tI tE mi b dyn c0 s0 mo n : Nat} {t : Int32} {σ : sL} {w : xW} {P : Option Value → xW → Prop}
theorem rLd.spk {w' : xW} (hL : rLd X tE b dyn c0 s0 mo t σ w) (hf : fr w w' b (b + 1)) (h0 : w'.2.2 b = some (.inr (8, [.int t, .ref (b + 1), .ref (b + 11), .int (nI (σ.1 + 1))]))) : rLd X tE b dyn c0 s0 mo t (σ.1 + 1, σ.2) w' ∧ frS X (b + 1) dyn b (b + 616) w w' := by
  obtain ⟨h1, h2, h3, ⟨f, h4, h5⟩, h6, h7⟩ := hL
  have hms : ∀ m fs, w.2.2 m = some (.inr (3, fs)) → w'.2.2 m = some (.inr (3, fs)) := by
    intro m fs hm
    by_cases z : m = b
    · rw [z, h3] at hm
      injection hm with hm
      injection hm with hm
      injection hm with hm hm2
      exact absurd hm (by decide)
    · rw [hf.2.2 m (by omega)]; exact hm
  refine ⟨⟨h1, h2, h0, ⟨f, (hf.2.2 _ (by omega)).trans h4, h5⟩, fun j hj => ?_, ?_⟩, fun x x1 x2 x3 x4 => hf.2.2 x (by omega), hms⟩
  · exact (h6 j hj).kept (fun x x1 x2 => hf.2.2 x (by omega))
  · refine h7.kept hf.1 hf.2.1 (fun x hx => ?_) (fun x x1 x2 => hf.2.2 x (by omega)) (fun x x1 => hf.2.2 x (by omega)) hms
    by_cases z : x = b
    · rw [z, h3] at hx; cases hx
    · rw [hf.2.2 x (by omega)]; exact hx
theorem s_El_speak (hX : xS X sb L xs tI tE mi) {nn ee ii kk aa bb : Int32} (hL : rLd X tE b dyn c0 s0 mo t σ w) (hI : lInv σ mo) (h : ∀ w', rLd X tE b dyn c0 s0 (mo + (if (lSpk σ nn ee ii kk aa bb).2 = true then 1 else 0)) t (lSpk σ nn ee ii kk aa bb).1 w' → frS X (b + 1) dyn b (b + 616) w w' → P (some (.int (nB (lSpk σ nn ee ii kk aa bb).2))) w') : xE (xGG X) 8 m_El_speak 0 [(0, .ref b), (1, .int nn), (2, .int ee), (3, .int ii), (4, .int kk), (5, .int aa), (6, .int bb)] [] w P := by
  have hL0 := hL
  obtain ⟨h1, h2, g1, ⟨f, g5, g6⟩, h6, h7⟩ := hL
  have hR := h6 3 (by decide)
  have g2 := hR.1
  have hmo := hI.2.1
  have hsp := hI.2.2
  have no : ¬ ((σ.2.1 3).2.1 && decide (σ.1 < 300) && (lNode nn && lNode ee && lNode ii && decide (0 ≤ kk ∧ kk ≤ 4)) && lFit kk aa bb) = true → P (some (.int 0)) w := by
    intro z
    rw [lSpk, if_neg z] at h
    dsimp only at h
    rw [if_neg (by decide)] at h
    exact h w hL0 (frS.rf _ _ _ _ _ _)
  refine x_aload_n 1 rfl d_El_speak_0 rfl ?_
  refine x_get 4 rfl f_El_23 d_El_speak_1 g1 rfl ?_
  refine x_iconst 5 rfl d_El_speak_4 3 (by decide) ?_
  refine x_aald 6 rfl d_El_speak_5 g5 (t0 := 3) rfl (vp_in_nI (n := 3) (by decide) (by decide)) (g6 3 (by decide)) ?_
  refine x_get 9 rfl f_El_62 d_El_speak_6 g2 rfl ?_
  refine x_if_eq 22 12 rfl d_El_speak_9 (by decide) (fun hc => ?_) (fun hc => ?_)
  · refine x_iconst 23 rfl d_El_speak_22 0 (by decide) ?_
    refine x_zret d_El_speak_23 rfl (by decide) ?_
    exact no (by rw [(nB_0 _).mp hc]; simp)
  have y1 := nB_ne hc
  refine x_aload_n 13 rfl d_El_speak_12 rfl ?_
  refine x_get 16 rfl f_El_66 d_El_speak_13 g1 rfl ?_
  refine x_sipush 19 rfl d_El_speak_16 300 (by decide) ?_
  refine x_icmp_lt 24 22 rfl d_El_speak_19 (by decide) (fun hc => ?_) (fun hc => ?_)
  rotate_left
  · refine x_iconst 23 rfl d_El_speak_22 0 (by decide) ?_
    refine x_zret d_El_speak_23 rfl (by decide) ?_
    refine no (fun z => hc ?_)
    simp only [Bool.and_eq_true, decide_eq_true_iff] at z
    exact nI_lt (b := 300) z.1.1.2 (by decide)
  have y2 := (nI_ltI (b := 300) (by omega) (by decide)).mp hc
  refine x_iload_n 25 rfl d_El_speak_24 rfl ?_
  refine y_call 28 rfl [_] _ rfl d_El_speak_25 c_El_30 rfl (Nat.le_of_ble_eq_true rfl) (Nat.le_of_ble_eq_true rfl) (Nat.le_of_ble_eq_true rfl) (s_El_isNode ?_)
  refine x_if_eq 55 31 rfl d_El_speak_28 (by decide) (fun hc => ?_) (fun hc => ?_)
  · refine x_iconst 56 rfl d_El_speak_55 0 (by decide) ?_
    refine x_zret d_El_speak_56 rfl (by decide) ?_
    refine no (fun z => ?_)
    simp only [Bool.and_eq_true, decide_eq_true_iff] at z
    have q1 : lNode nn = false := (nB_0 _).mp hc
    rw [z.1.2.1.1.1] at q1
    cases q1
  have y3 : lNode nn = true := nB_ne hc
  refine x_iload_n 32 rfl d_El_speak_31 rfl ?_
  refine y_call 35 rfl [_] _ rfl d_El_speak_32 c_El_69 rfl (Nat.le_of_ble_eq_true rfl) (Nat.le_of_ble_eq_true rfl) (Nat.le_of_ble_eq_true rfl) (s_El_isEpoch ?_)
  refine x_if_eq 55 38 rfl d_El_speak_35 (by decide) (fun hc => ?_) (fun hc => ?_)
  · refine x_iconst 56 rfl d_El_speak_55 0 (by decide) ?_
    refine x_zret d_El_speak_56 rfl (by decide) ?_
    refine no (fun z => ?_)
    simp only [Bool.and_eq_true, decide_eq_true_iff] at z
    have q1 : lNode ee = false := (nB_0 _).mp hc
    rw [z.1.2.1.1.2] at q1
    cases q1
  have y4 : lNode ee = true := nB_ne hc
  refine x_iload_n 39 rfl d_El_speak_38 rfl ?_
  refine y_call 42 rfl [_] _ rfl d_El_speak_39 c_El_30 rfl (Nat.le_of_ble_eq_true rfl) (Nat.le_of_ble_eq_true rfl) (Nat.le_of_ble_eq_true rfl) (s_El_isNode ?_)
  refine x_if_eq 55 45 rfl d_El_speak_42 (by decide) (fun hc => ?_) (fun hc => ?_)
  · refine x_iconst 56 rfl d_El_speak_55 0 (by decide) ?_
    refine x_zret d_El_speak_56 rfl (by decide) ?_
    refine no (fun z => ?_)
    simp only [Bool.and_eq_true, decide_eq_true_iff] at z
    have q1 : lNode ii = false := (nB_0 _).mp hc
    rw [z.1.2.1.2] at q1
    cases q1
  have y5 : lNode ii = true := nB_ne hc
  refine x_iload 47 rfl d_El_speak_45 rfl ?_
  refine x_iconst 48 rfl d_El_speak_47 0 (by decide) ?_
  refine x_iconst 49 rfl d_El_speak_48 4 (by decide) ?_
  refine y_call 52 rfl [_, _, _] _ rfl d_El_speak_49 c_El_34 rfl (Nat.le_of_ble_eq_true rfl) (Nat.le_of_ble_eq_true rfl) (Nat.le_of_ble_eq_true rfl) (s_El_isIn ?_)
  refine x_if_ne 57 55 rfl d_El_speak_52 (by decide) (fun hc => ?_) (fun hc => ?_)
  rotate_left
  · refine x_iconst 56 rfl d_El_speak_55 0 (by decide) ?_
    refine x_zret d_El_speak_56 rfl (by decide) ?_
    refine no (fun z => ?_)
    simp only [Bool.and_eq_true] at z
    have q1 := (nB_0 _).mp hc
    rw [z.1.2.2] at q1
    cases q1
  have y6 := nB_ne hc
  -- it is sent
  have send : ∀ lc, xlk lc 0 = some (.ref b) → xlk lc 1 = some (.int nn) → xlk lc 2 = some (.int ee) → xlk lc 3 = some (.int ii) → xlk lc 4 = some (.int kk) → xlk lc 5 = some (.int aa) → xlk lc 6 = some (.int bb) → lFit kk aa bb = true → xE (xGG X) 8 m_El_speak 83 lc [] w P := by
    intro lc l0 l1 l2 l3 l4 l5 l6 y7
    refine xE.fit (lc' := [(0, .ref b), (1, .int nn), (2, .int ee), (3, .int ii), (4, .int kk), (5, .int aa), (6, .int bb)]) ?_ (by simp only [List.map_cons, List.map_nil, l0, l1, l2, l3, l4, l5, l6])
    have hn := lNode_lt y3
    have yy : ((σ.2.1 3).2.1 && decide (σ.1 < 300) && (lNode nn && lNode ee && lNode ii && decide (0 ≤ kk ∧ kk ≤ 4)) && lFit kk aa bb) = true := by rw [y1, decide_eq_true y2, y3, y4, y5, y6, y7]; rfl
    rw [lSpk, if_pos yy] at h
    dsimp only at h
    rw [if_pos rfl] at h
    refine x_aload_n 84 rfl d_El_speak_83 rfl ?_
    refine x_dup 85 rfl d_El_speak_84 rfl ?_
    refine x_get 88 rfl f_El_66 d_El_speak_85 g1 rfl ?_
    refine x_iconst 89 rfl d_El_speak_88 1 (by decide) ?_
    refine x_iadd 90 rfl d_El_speak_89 ?_
    refine x_put 93 rfl p_El_66 (fun h => nomatch h) d_El_speak_90 g1 rfl rfl (Nat.le_of_ble_eq_true rfl) ?_
    generalize hw1 : xset w _ _ = w1
    have f1 : fr w w1 b (b + 1) := by rw [← hw1]; exact (fr.rf w _ _).set _ (by omega) (by omega)
    obtain ⟨hL1, F1⟩ := hL0.spk f1 (by rw [← hw1, xset_at, ← nI_1]; rfl)
    have k1 := hL1.2.2.1
    have hN1 := hL1.2.2.2.2.2
    have hdw := hN1.2.2.1
    refine x_aload_n 94 rfl d_El_speak_93 rfl ?_
    refine x_get 97 rfl f_El_17 d_El_speak_94 k1 rfl ?_
    refine x_iload_n 98 rfl d_El_speak_97 rfl ?_
    refine x_new 101 rfl d_El_speak_98 (ci := 3) (ty := t_Ms) (fs := [.int 0, .int 0, .int 0, .int 0, .int 0, .int 0]) rfl l_Ms t_Ms_ok q_El_58 i_Ms z_Ms (by decide) ?_
    refine x_dup 102 rfl d_El_speak_101 rfl ?_
    refine x_iconst 103 rfl d_El_speak_102 3 (by decide) ?_
    refine x_iload_n 104 rfl d_El_speak_103 rfl ?_
    refine x_iload_n 105 rfl d_El_speak_104 rfl ?_
    refine x_iload 107 rfl d_El_speak_105 rfl ?_
    refine x_iload 109 rfl d_El_speak_107 rfl ?_
    refine x_iload 111 rfl d_El_speak_109 rfl ?_
    refine y_callI 114 rfl [_, _, _, _, _, _] _ rfl d_El_speak_111 c_El_75 rfl (Nat.le_of_ble_eq_true rfl) (Nat.le_of_ble_eq_true rfl) (Nat.le_of_ble_eq_true rfl) (s_Ms_init (mg := (3, cUn ee, cUn ii, cUn kk, aa, bb)) rfl (xnew_at _ _ _) (by unfold fMs; dsimp only; rw [nI_cUn, nI_cUn, nI_cUn]; rfl) (fun w2 j1 j2 j3 j4 => ?_))
    have j5 : ∀ x, x ≠ w1.1 → w2.2.2 x = w1.2.2 x := fun x hx => by rw [j4 x hx, xnew_ne _ _ _ hx]
    have hN2 := hN1.msg j1 j2 j5
    have hlen := hN1.len hn
    refine y_callV 117 rfl [_, _] _ rfl d_El_speak_114 hN2.2.2.2.1 rfl c_El_78 rfl (Nat.le_of_ble_eq_true rfl) (Nat.le_of_ble_eq_true rfl) (Nat.le_of_ble_eq_true rfl) (s_Nt_sendToOne hX (nI_cUn nn).symm hn (by omega) hN2 j3 (Nat.lt_succ_of_le hlen) (fun w3 m1 m2 => ?_))
    have f3 : frN X (b + 1) dyn w1 w3 := ⟨fun x x1 x2 x3 => (m2.1 x x1 x2 x3).trans (j5 x (by omega)), fun ms fs hms => m2.2 ms fs (by rw [j5 ms (by have := (hN1.1 _ _ hms).2; omega)]; exact hms)⟩
    refine x_iconst 118 rfl d_El_speak_117 1 (by decide) ?_
    refine x_zret d_El_speak_118 rfl (by decide) ?_
    exact h w3 (hL1.net f3 m1) (F1.tr (f3.S b (b + 616)))
  have bad : lFit kk aa bb = false → P (some (.int 0)) w := by
    intro z0
    refine no (fun z => ?_)
    rw [z0, Bool.and_false] at z
    cases z
  refine x_iload 59 rfl d_El_speak_57 rfl ?_
  refine x_iconst 60 rfl d_El_speak_59 3 (by decide) ?_
  refine x_icmp_lt 83 63 rfl d_El_speak_60 (by decide) (fun hc => ?_) (fun hc => ?_)
  · exact send _ rfl rfl rfl rfl rfl rfl rfl (by unfold lFit; rw [decide_eq_true hc]; rfl)
  have y7 : decide (kk < 3) = false := decide_eq_false hc
  refine x_iload 65 rfl d_El_speak_63 rfl ?_
  refine y_call 68 rfl [_] _ rfl d_El_speak_65 c_El_72 rfl (Nat.le_of_ble_eq_true rfl) (Nat.le_of_ble_eq_true rfl) (Nat.le_of_ble_eq_true rfl) (s_El_isRound ?_)
  refine x_if_eq 81 71 rfl d_El_speak_68 (by decide) (fun hc => ?_) (fun hc => ?_)
  · refine x_iconst 82 rfl d_El_speak_81 0 (by decide) ?_
    refine x_zret d_El_speak_82 rfl (by decide) ?_
    exact bad (by unfold lFit; rw [y7, (nB_0 _).mp hc]; rfl)
  have y8 := nB_ne hc
  refine x_iload 73 rfl d_El_speak_71 rfl ?_
  refine x_iconst 74 rfl d_El_speak_73 0 (by decide) ?_
  refine x_iconst 75 rfl d_El_speak_74 1 (by decide) ?_
  refine y_call 78 rfl [_, _, _] _ rfl d_El_speak_75 c_El_34 rfl (Nat.le_of_ble_eq_true rfl) (Nat.le_of_ble_eq_true rfl) (Nat.le_of_ble_eq_true rfl) (s_El_isIn ?_)
  refine x_if_ne 83 81 rfl d_El_speak_78 (by decide) (fun hc => ?_) (fun hc => ?_)
  rotate_left
  · refine x_iconst 82 rfl d_El_speak_81 0 (by decide) ?_
    refine x_zret d_El_speak_82 rfl (by decide) ?_
    exact bad (by unfold lFit; rw [y7, y8, (nB_0 _).mp hc]; rfl)
  exact send _ rfl rfl rfl rfl rfl rfl rfl (by unfold lFit; rw [y7, y8, nB_ne hc]; rfl)
end LD4
