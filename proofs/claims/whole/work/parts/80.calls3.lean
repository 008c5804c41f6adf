/-! THE REFERENCE: BEGIN, SUBMIT, BETRAY -/
section CB
variable {X : xPar} {m0 : Nat} {t : Int32} {σ : sL} {w : xW} {P : Option Value → xW → Prop}
theorem s_Mo_begin {nn : Int32} (hm : mG X m0 t σ w) (h : ∀ w', mG X m0 t (lBeg t σ nn).1 w' → fr w w' m0 (m0 + 31) → P (some (.int (nB (lBeg t σ nn).2))) w') : xE (xGG X) 7 m_Mo_begin 0 [(0, .ref m0), (1, .int nn)] [] w P := by
  have hm0 := hm
  obtain ⟨s, lg, M, hR, hG⟩ := hm
  have g1 := hR.1
  have g3 := hR.a3
  refine x_iload_n 1 rfl d_Mo_begin_0 rfl ?_
  refine y_call 4 rfl [_] _ rfl d_Mo_begin_1 c_Mo_136 rfl (Nat.le_of_ble_eq_true rfl) (Nat.le_of_ble_eq_true rfl) (Nat.le_of_ble_eq_true rfl) (s_Mo_isNode ?_)
  refine x_if_eq 28 7 rfl d_Mo_begin_4 (by decide) (fun hc => ?_) (fun hc => ?_)
  · refine x_iconst 29 rfl d_Mo_begin_28 0 (by decide) ?_
    refine x_zret d_Mo_begin_29 rfl (by decide) ?_
    unfold lBeg at h
    rw [if_neg (by unfold lNode; rw [(nB_0 _).mp hc]; decide)] at h
    exact h w hm0 (fr.rf _ _ _)
  have y1 : lNode nn = true := nB_ne hc
  unfold lBeg at h
  rw [if_pos y1] at h
  have hn := lNode_lt y1
  have e1 : nn = nI (cUn nn) := (nI_cUn nn).symm
  generalize cUn nn = n at e1 hn h
  subst e1
  obtain ⟨g, hN⟩ := hG.2.1 n hn
  have hI := hG.2.2.1 n hn
  have hT := hG.2.2.2.2.1 n hn
  have hp := nPot_le (σ := σ) hn
  have hl := hG.2.2.2.2.2.2.2.1
  have h5 := hI.2.2.2.1
  have no : ((σ.2.1 n).1 ≠ 0 ∨ (σ.2.1 n).2.1 = true) → P (some (.int 0)) w := by
    intro z
    have e2 : nSt n t (σ.2.1 n) = (σ.2.1 n, []) := by unfold nSt; rw [if_pos z]
    rw [e2, decide_eq_true z] at h
    exact h w ⟨s, lg, M, hR, hG.same hn (fun k hk => by rw [qV_nil]) rfl rfl⟩ (fr.rf _ _ _)
  refine x_aload_n 8 rfl d_Mo_begin_7 rfl ?_
  refine x_get 11 rfl f_Mo_19 d_Mo_begin_8 g1 rfl ?_
  refine x_iload_n 12 rfl d_Mo_begin_11 rfl ?_
  refine x_iald 13 rfl d_Mo_begin_12 g3 (t0 := 0) rfl (vp_in_nI (by omega) (by decide)) ?_
  rw [nI_clamp (by omega), hN.1]
  refine x_if_ge 28 16 rfl d_Mo_begin_13 (by decide) (fun hc => ?_) (fun hc => ?_)
  · refine x_iconst 29 rfl d_Mo_begin_28 0 (by decide) ?_
    refine x_zret d_Mo_begin_29 rfl (by decide) ?_
    refine no (Or.inl (fun z => ?_))
    rw [z] at hc
    exact absurd hc (by decide)
  have z0 : (σ.2.1 n).1 = 0 := by
    by_cases z : (σ.2.1 n).1 = 0
    · exact z
    · exact absurd ((by decide +kernel : ∀ p, p < 6 → ¬ p = 0 → (0 : Int32) ≤ iD p) _ (by omega) z) hc
  have go : (σ.2.1 n).2.1 = false → xE (xGG X) 7 m_Mo_begin 30 [(0, .ref m0), (1, .int (nI n))] [] w P := by
    intro nt
    have nz : ¬ ((σ.2.1 n).1 ≠ 0 ∨ (σ.2.1 n).2.1 = true) := by
      intro z
      rcases z with z | z
      · exact z z0
      · rw [nt] at z; cases z
    have e2 : nSt n t (σ.2.1 n) = ((nGw n t 20 0 0 3 (nBg (σ.2.1 n))).1, [nPr n (nBg (σ.2.1 n))] ++ (nGw n t 20 0 0 3 (nBg (σ.2.1 n))).2) := by unfold nSt; rw [if_neg nz]
    have hb := nSt_pot (t := t) hn hI.2.2.2
    have hB := nSt_B (n := n) (t := t) hI.2.2.2
    have hTr := nSt_tr (n := n) (t := t) (ν := σ.2.1 n)
    rw [e2] at h hb hB hTr
    have hpb : nPot (nBg (σ.2.1 n)) + 1 = nPot (σ.2.1 n) := by
      unfold nPot nBg
      dsimp only
      rw [z0]
    refine x_aload_n 31 rfl d_Mo_begin_30 rfl ?_
    refine x_iload_n 32 rfl d_Mo_begin_31 rfl ?_
    refine x_iconst 33 rfl d_Mo_begin_32 0 (by decide) ?_
    refine y_callV 36 rfl [_, _] _ rfl d_Mo_begin_33 g1 rfl c_Mo_193 rfl (Nat.le_of_ble_eq_true rfl) (Nat.le_of_ble_eq_true rfl) (Nat.le_of_ble_eq_true rfl) (s_Mo_enter (s := s) (ν := nBg (σ.2.1 n)) (e := 0) rfl rfl hn (by omega) rfl hR hG.1 hN.2.1 hN.2.2.1 (nBg_inv z0 hI) (fun _ i hi => hI.2.1 (4 * 0 + i) (by omega) (by omega)) (by omega) (fun w2 a1 a2 => absurd a1 (by decide)) (fun w2 a1 a2 => ?_))
    obtain ⟨gv2, g2, M2, R2, G2, N2, F2, f2, I2⟩ := id a2
    have k1 := R2.1
    refine x_aload_n 37 rfl d_Mo_begin_36 rfl ?_
    refine x_iload_n 38 rfl d_Mo_begin_37 rfl ?_
    refine y_callV 41 rfl [_] _ rfl d_Mo_begin_38 k1 rfl c_Mo_171 rfl (Nat.le_of_ble_eq_true rfl) (Nat.le_of_ble_eq_true rfl) (Nat.le_of_ble_eq_true rfl) (s_settle_all (s := (s.1, s.2.1, s.2.2.1, s.2.2.2.1, -1, 0)) (e := 0) rfl hn (by decide) rfl (by rw [List.length_append, List.length_singleton]; omega) rfl a2 (fun w3 u c a3 => ?_))
    obtain ⟨gv3, g3, M3, R3, G3, N3, F3, f3, I3⟩ := a3
    have e4 : lg ++ [(nPr n (nBg (σ.2.1 n)), 0)] ++ pMs (nGw n t 20 0 0 3 (nBg (σ.2.1 n))).2 = lg ++ ([nPr n (nBg (σ.2.1 n))] ++ (nGw n t 20 0 0 3 (nBg (σ.2.1 n))).2).map (fun m => ((m, 0) : sPo)) := by
      rw [List.append_assoc]; rfl
    rw [e4] at R3 G3
    refine x_iconst 42 rfl d_Mo_begin_41 1 (by decide) ?_
    refine x_zret d_Mo_begin_42 rfl (by decide) ?_
    rw [decide_eq_false nz] at h
    refine h w3 ⟨(s.1, s.2.1, 0, gv3, u, c), _, M3, R3, hG.node hn G3 N3 F3 I3 (fun k hk => ?_) hTr rfl rfl ?_ (mem_new hG.2.2.2.2.2.2.2.2 hB)⟩ f3
    · unfold qV
      rw [gQ_app, gQ_new, hG.2.2.2.1 k hk]
    · rw [List.length_append, List.length_map]
      dsimp only at hb ⊢
      omega
  refine x_iload_n 17 rfl d_Mo_begin_16 rfl ?_
  refine x_iconst 18 rfl d_Mo_begin_17 3 (by decide) ?_
  refine x_icmp_ne 30 21 rfl d_Mo_begin_18 (by decide) (fun hc => ?_) (fun hc => ?_)
  · have z : ¬ n = 3 := fun z => hc (by rw [z]; rfl)
    exact xE.fit (go (by rw [hT, decide_eq_false z]; rfl)) rfl
  have z : n = 3 := (nI_eq (a := n) (b := 3) (by omega) (by decide)).mp hc
  refine x_aload_n 22 rfl d_Mo_begin_21 rfl ?_
  refine x_get 25 rfl f_Mo_153 d_Mo_begin_22 g1 rfl ?_
  refine x_if_eq 30 28 rfl d_Mo_begin_25 (by decide) (fun hc => ?_) (fun hc => ?_)
  · exact xE.fit (go (by rw [hT, (nB_0 _).mp hc, Bool.and_false])) rfl
  · refine x_iconst 29 rfl d_Mo_begin_28 0 (by decide) ?_
    refine x_zret d_Mo_begin_29 rfl (by decide) ?_
    exact no (Or.inr (by rw [hT, decide_eq_true z, nB_ne hc]; rfl))
theorem s_Mo_betray (hm : mG X m0 t σ w) (h : ∀ w', mG X m0 t (lBet σ).1 w' → fr w w' m0 (m0 + 31) → P (some (.int (nB (lBet σ).2))) w') : xE (xGG X) 0 m_Mo_betray 0 [(0, .ref m0)] [] w P := by
  obtain ⟨s, lg, M, hR, hG⟩ := hm
  have g1 := hR.1
  have hT := hG.2.2.2.2.1 3 (by decide)
  rw [show decide (3 = 3) = true from rfl, Bool.true_and] at hT
  refine x_aload_n 1 rfl d_Mo_betray_0 rfl ?_
  refine x_get 4 rfl f_Mo_153 d_Mo_betray_1 g1 rfl ?_
  refine x_istore_n 5 rfl d_Mo_betray_4 (by decide) ?_
  refine x_aload_n 6 rfl d_Mo_betray_5 rfl ?_
  refine x_iconst 7 rfl d_Mo_betray_6 1 (by decide) ?_
  refine x_put 10 rfl p_Mo_153 (fun h => nomatch h) d_Mo_betray_7 g1 rfl rfl (Nat.le_of_ble_eq_true rfl) ?_
  have R1 : rMo X m0 t (true, s.2.1, nI lg.length, s.2.2.2) M _ := hR.fld
  generalize hw1 : xset w m0 _ = w1
  replace R1 : rMo X m0 t (true, s.2.1, nI lg.length, s.2.2.2) M w1 := by rw [← hw1]; exact R1
  have f1 : fr w w1 m0 (m0 + 31) := by rw [← hw1]; exact (fr.rf w _ _).set _ (by omega) (by omega)
  unfold lBet at h
  refine x_iload_n 11 rfl d_Mo_betray_10 rfl ?_
  refine x_if_ne 18 14 rfl d_Mo_betray_11 (by decide) (fun hc => ?_) (fun hc => ?_)
  · have z := nB_ne hc
    rw [if_pos (by rw [hT]; exact z)] at h
    refine x_iconst 19 rfl d_Mo_betray_18 0 (by decide) ?_
    refine x_zret d_Mo_betray_19 rfl (by decide) ?_
    rw [← z] at R1
    exact h w1 ⟨s, lg, M, R1, hG⟩ f1
  · have z := (nB_0 _).mp hc
    rw [if_neg (by rw [hT, z]; decide)] at h
    refine x_iconst 15 rfl d_Mo_betray_14 1 (by decide) ?_
    refine x_goto d_Mo_betray_15 19 (by decide) ?_
    refine x_zret d_Mo_betray_19 rfl (by decide) ?_
    refine h w1 ⟨(true, s.2.1, s.2.2.1, s.2.2.2), lg, M, R1, ?_⟩ f1
    obtain ⟨a1, a2, a3, a4, a5, a6, a7, a8, a9⟩ := hG
    have hp := lNd_pot (σ := σ) (n := 3) (ν := ((σ.2.1 3).1, true, (σ.2.1 3).2.2)) (q := σ.2.2) (by decide)
    have hp2 : nPot ((σ.2.1 3).1, true, (σ.2.1 3).2.2) = nPot (σ.2.1 3) := rfl
    refine ⟨a1, fun k hk => ?_, fun k hk => ?_, a4, fun k hk => ?_, a6, a7, by dsimp only; omega, a9⟩
    · show ∃ g, nRel M k (va_up σ.2.1 3 ((σ.2.1 3).1, true, (σ.2.1 3).2.2) k) g
      by_cases y : k = 3
      · rw [y, va_up_self]; exact a2 3 (by decide)
      · rw [va_up_ne _ _ y]; exact a2 k hk
    · show nInv (va_up σ.2.1 3 ((σ.2.1 3).1, true, (σ.2.1 3).2.2) k)
      by_cases y : k = 3
      · rw [y, va_up_self]; exact a3 3 (by decide)
      · rw [va_up_ne _ _ y]; exact a3 k hk
    · show (va_up σ.2.1 3 ((σ.2.1 3).1, true, (σ.2.1 3).2.2) k).2.1 = _
      by_cases y : k = 3
      · rw [y, va_up_self]; rfl
      · rw [va_up_ne _ _ y, a5 k hk, decide_eq_false y]; rfl
theorem s_Mo_submit {nn x : Int32} (hm : mG X m0 t σ w) (h : ∀ w', mG X m0 t (lSub σ nn x).1 w' → fr w w' m0 (m0 + 31) → P (some (.int (nB (lSub σ nn x).2))) w') : xE (xGG X) 1 m_Mo_submit 0 [(0, .ref m0), (1, .int nn), (2, .int x)] [] w P := by
  have hm0 := hm
  obtain ⟨s, lg, M, hR, hG⟩ := hm
  have g1 := hR.1
  have g4 := hR.a4
  have g5 := hR.a5
  have no : ¬ (lNode nn && decide (1 ≤ x ∧ x ≤ 255)) = true → P (some (.int 0)) w := by
    intro z
    unfold lSub at h
    rw [if_neg z] at h
    exact h w hm0 (fr.rf _ _ _)
  refine x_iload_n 1 rfl d_Mo_submit_0 rfl ?_
  refine y_call 4 rfl [_] _ rfl d_Mo_submit_1 c_Mo_136 rfl (Nat.le_of_ble_eq_true rfl) (Nat.le_of_ble_eq_true rfl) (Nat.le_of_ble_eq_true rfl) (s_Mo_isNode ?_)
  refine x_if_eq 39 7 rfl d_Mo_submit_4 (by decide) (fun hc => ?_) (fun hc => ?_)
  · refine x_iconst 40 rfl d_Mo_submit_39 0 (by decide) ?_
    refine x_zret d_Mo_submit_40 rfl (by decide) ?_
    exact no (by unfold lNode; rw [(nB_0 _).mp hc]; simp)
  have y1 : lNode nn = true := nB_ne hc
  refine x_iload_n 8 rfl d_Mo_submit_7 rfl ?_
  refine x_iconst 9 rfl d_Mo_submit_8 1 (by decide) ?_
  refine x_icmp_lt 39 12 rfl d_Mo_submit_9 (by decide) (fun hc => ?_) (fun hc => ?_)
  · refine x_iconst 40 rfl d_Mo_submit_39 0 (by decide) ?_
    refine x_zret d_Mo_submit_40 rfl (by decide) ?_
    exact no (by rw [decide_eq_false (fun z => absurd z.1 (by rw [Int32.not_le]; exact hc))]; simp)
  have y2 : 1 ≤ x := Int32.not_lt.mp hc
  refine x_iload_n 13 rfl d_Mo_submit_12 rfl ?_
  refine x_sipush 16 rfl d_Mo_submit_13 255 (by decide) ?_
  refine x_icmp_gt 39 19 rfl d_Mo_submit_16 (by decide) (fun hc => ?_) (fun hc => ?_)
  · refine x_iconst 40 rfl d_Mo_submit_39 0 (by decide) ?_
    refine x_zret d_Mo_submit_40 rfl (by decide) ?_
    exact no (by rw [decide_eq_false (fun z => absurd z.2 (by rw [Int32.not_le]; exact hc))]; simp)
  have y3 : x ≤ 255 := Int32.not_lt.mp hc
  have hx : cUn x ≤ 255 := cUn_le (c := 255) (by decide) (Int32.le_trans (by decide) y2) y3
  unfold lSub at h
  rw [if_pos (by rw [y1, decide_eq_true ⟨y2, y3⟩]; rfl)] at h
  have hn := lNode_lt y1
  have e1 : nn = nI (cUn nn) := (nI_cUn nn).symm
  generalize cUn nn = n at e1 hn h
  subst e1
  obtain ⟨g, hN⟩ := hG.2.1 n hn
  have hI := hG.2.2.1 n hn
  have hq := hN.2.1
  have hql := hI.2.2.1
  have hll := hI.2.2.2.2.1.2
  have h5 := hI.2.2.2.1
  have no : nNo (σ.2.1 n) x = true → P (some (.int 0)) w := by
    intro z
    have e2 : nSub (σ.2.1 n) x = σ.2.1 n := by unfold nSub; rw [z, if_pos rfl]
    rw [e2, z] at h
    exact h w ⟨s, lg, M, hR, hG.same hn (fun k hk => rfl) rfl rfl⟩ (fr.rf _ _ _)
  refine x_aload_n 20 rfl d_Mo_submit_19 rfl ?_
  refine x_get 23 rfl f_Mo_22 d_Mo_submit_20 g1 rfl ?_
  refine x_iload_n 24 rfl d_Mo_submit_23 rfl ?_
  refine x_iald 25 rfl d_Mo_submit_24 g4 (t0 := 0) rfl (vp_in_nI (by omega) (by decide)) ?_
  rw [nI_clamp (by omega), hq.1]
  refine x_bipush 27 rfl d_Mo_submit_25 12 (by decide) ?_
  refine x_icmp_eq 39 30 rfl d_Mo_submit_27 (by decide) (fun hc => ?_) (fun hc => ?_)
  · have z : (σ.2.1 n).2.2.1.length = 12 := (nI_eq (b := 12) (by omega) (by decide)).mp hc
    refine x_iconst 40 rfl d_Mo_submit_39 0 (by decide) ?_
    refine x_zret d_Mo_submit_40 rfl (by decide) ?_
    exact no (by unfold nNo; rw [decide_eq_true z]; rfl)
  have z12 : ¬ (σ.2.1 n).2.2.1.length = 12 := fun z => hc (by rw [z]; rfl)
  refine x_aload_n 31 rfl d_Mo_submit_30 rfl ?_
  refine x_iload_n 32 rfl d_Mo_submit_31 rfl ?_
  refine x_iload_n 33 rfl d_Mo_submit_32 rfl ?_
  refine y_callV 36 rfl [_, _] _ rfl d_Mo_submit_33 g1 rfl c_Mo_143 rfl (Nat.le_of_ble_eq_true rfl) (Nat.le_of_ble_eq_true rfl) (Nat.le_of_ble_eq_true rfl) (s_Mo_isBooked rfl hn hR hq (by omega) ?_)
  refine x_if_eq 41 39 rfl d_Mo_submit_36 (by decide) (fun hc => ?_) (fun hc => ?_)
  rotate_left
  · refine x_iconst 40 rfl d_Mo_submit_39 0 (by decide) ?_
    refine x_zret d_Mo_submit_40 rfl (by decide) ?_
    exact no (by unfold nNo; rw [nB_ne hc, Bool.or_true])
  have zb := of_decide_eq_false ((nB_0 _).mp hc)
  have loop : ∀ (m j : Nat) (cc : Int32), cc = nI j → j + m = (σ.2.1 n).2.2.1.length → (∀ k, k < j → (σ.2.1 n).2.2.1.getD k 0 ≠ x) → xE (xGG X) 1 m_Mo_submit 43 [(0, .ref m0), (1, .int (nI n)), (2, .int x), (3, .int cc)] [] w P := by
    intro m
    induction m with
    | zero =>
      intro j cc hcc hj hk
      subst hcc
      refine x_iload_n 44 rfl d_Mo_submit_43 rfl ?_
      refine x_aload_n 45 rfl d_Mo_submit_44 rfl ?_
      refine x_get 48 rfl f_Mo_22 d_Mo_submit_45 g1 rfl ?_
      refine x_iload_n 49 rfl d_Mo_submit_48 rfl ?_
      refine x_iald 50 rfl d_Mo_submit_49 g4 (t0 := 0) rfl (vp_in_nI (by omega) (by decide)) ?_
      rw [nI_clamp (by omega), hq.1]
      refine x_icmp_ge 76 53 rfl d_Mo_submit_50 (by decide) (fun hc => ?_) (fun hc => absurd (nI_le (by omega) (by omega)) hc)
      have zq : ¬ x ∈ (σ.2.1 n).2.2.1 := by
        intro z
        obtain ⟨k, k1, k2⟩ := gD_mem.mp z
        exact hk k (by omega) k2
      have hno : nNo (σ.2.1 n) x = false := by unfold nNo; rw [decide_eq_false z12, decide_eq_false zq, decide_eq_false zb]; rfl
      have e2 : nSub (σ.2.1 n) x = ((σ.2.1 n).1, (σ.2.1 n).2.1, (σ.2.1 n).2.2.1 ++ [x], (σ.2.1 n).2.2.2) := by unfold nSub; rw [hno, if_neg (by decide)]
      rw [e2, hno] at h
      generalize hν : σ.2.1 n = ν at *
      refine x_aload_n 77 rfl d_Mo_submit_76 rfl ?_
      refine x_get 80 rfl f_Mo_25 d_Mo_submit_77 g1 rfl ?_
      refine x_bipush 82 rfl d_Mo_submit_80 12 (by decide) ?_
      refine x_iload_n 83 rfl d_Mo_submit_82 rfl ?_
      refine x_imul 84 rfl d_Mo_submit_83 ?_
      refine x_aload_n 85 rfl d_Mo_submit_84 rfl ?_
      refine x_get 88 rfl f_Mo_22 d_Mo_submit_85 g1 rfl ?_
      refine x_iload_n 89 rfl d_Mo_submit_88 rfl ?_
      refine x_iald 90 rfl d_Mo_submit_89 g4 (t0 := 0) rfl (vp_in_nI (by omega) (by decide)) ?_
      rw [nI_clamp (by omega), hq.1]
      refine x_iadd 91 rfl d_Mo_submit_90 ?_
      rw [i12]
      refine x_iload_n 92 rfl d_Mo_submit_91 rfl ?_
      refine x_iast 93 rfl d_Mo_submit_92 g5 (t0 := 0) rfl (vp_in_nI (by omega) (by decide)) ?_
      rw [nI_clamp (by omega)]
      have R1 := hR.put (j := 5) (i := 12 * n + ν.2.2.1.length) (x := x) (by decide)
      generalize hw1 : xset w (m0 + 1 + 5) _ = w1
      replace R1 : rMo X m0 t (s.1, s.2.1, nI lg.length, s.2.2.2) (va_up M 5 (upd (M 5) (12 * n + ν.2.2.1.length) x)) w1 := by rw [← hw1]; exact R1
      have f1 : fr w w1 m0 (m0 + 31) := by rw [← hw1]; exact (fr.rf w _ _).set _ (by omega) (by omega)
      have F1 : nFr M (va_up M 5 (upd (M 5) (12 * n + ν.2.2.1.length) x)) n := (nFr.rf M n).up (by show (12 * n + ν.2.2.1.length) / 12 = n; omega)
      have m1 : ∀ j, j ≠ 5 → va_up M 5 (upd (M 5) (12 * n + ν.2.2.1.length) x) j = M j := fun j hj => va_up_ne _ _ hj
      have m5 : va_up M 5 (upd (M 5) (12 * n + ν.2.2.1.length) x) 5 = upd (M 5) (12 * n + ν.2.2.1.length) x := va_up_self _ _ _
      generalize va_up M 5 (upd (M 5) (12 * n + ν.2.2.1.length) x) = M1 at R1 F1 m1 m5
      have k1 := R1.1
      have k4 := R1.a4
      refine x_aload_n 94 rfl d_Mo_submit_93 rfl ?_
      refine x_get 97 rfl f_Mo_22 d_Mo_submit_94 k1 rfl ?_
      refine x_iload_n 98 rfl d_Mo_submit_97 rfl ?_
      refine x_dup2 99 rfl d_Mo_submit_98 rfl rfl ?_
      refine x_iald 100 rfl d_Mo_submit_99 k4 (t0 := 0) rfl (vp_in_nI (by omega) (by decide)) ?_
      rw [nI_clamp (by omega), m1 4 (by decide), hq.1]
      refine x_iconst 101 rfl d_Mo_submit_100 1 (by decide) ?_
      refine x_iadd 102 rfl d_Mo_submit_101 ?_
      rw [nI_1]
      refine x_iast 103 rfl d_Mo_submit_102 k4 (t0 := 0) rfl (vp_in_nI (by omega) (by decide)) ?_
      refine x_iconst 104 rfl d_Mo_submit_103 1 (by decide) ?_
      refine x_zret d_Mo_submit_104 rfl (by decide) ?_
      rw [nI_clamp (by omega)]
      have R2 := R1.put (j := 4) (i := n) (x := nI (ν.2.2.1.length + 1)) (by decide)
      have F2 : nFr M (va_up M1 4 (upd (M1 4) n (nI (ν.2.2.1.length + 1)))) n := F1.up (Nat.div_one n)
      have m2 : ∀ j, j ≠ 4 → va_up M1 4 (upd (M1 4) n (nI (ν.2.2.1.length + 1))) j = M1 j := fun j hj => va_up_ne _ _ hj
      have m4 : va_up M1 4 (upd (M1 4) n (nI (ν.2.2.1.length + 1))) 4 n = nI (ν.2.2.1.length + 1) := by rw [va_up_self, upd_at]
      generalize va_up M1 4 (upd (M1 4) n (nI (ν.2.2.1.length + 1))) = M2 at R2 F2 m2 m4
      refine h _ ⟨s, lg, M2, R2, hG.node (g := g) hn ⟨hG.1.1, fun j p hj => by rw [m2 0 (by decide), m1 0 (by decide), m2 1 (by decide), m1 1 (by decide), m2 2 (by decide), m1 2 (by decide)]; exact hG.1.2 j p hj⟩ ⟨?_, ⟨?_, ?_, ?_, ?_⟩, ?_, ?_, hN.2.2.2.2⟩ F2 ⟨hI.1, hI.2.1, ?_, hI.2.2.2.1, ⟨?_, hI.2.2.2.2.1.2⟩, hI.2.2.2.2.2⟩ hG.2.2.2.1 (by rw [hν]) rfl rfl (by rw [hν]; exact Nat.le_refl _) hG.2.2.2.2.2.2.2.2⟩ (f1.set _ (by omega) (by omega))
      · rw [m2 3 (by decide), m1 3 (by decide)]; exact hN.1
      · rw [m4]
        show _ = nI (ν.2.2.1 ++ [x]).length
        rw [List.length_append, List.length_singleton]
      · show ∀ k, k < (ν.2.2.1 ++ [x]).length → M2 5 (12 * n + k) = (ν.2.2.1 ++ [x]).getD k 0
        rw [m2 5 (by decide), m5, List.length_append, List.length_singleton]
        intro k hk
        by_cases zz : k = ν.2.2.1.length
        · rw [zz, upd_at, gD_one]
        · rw [upd_ne _ _ (by omega), gD_app (by omega)]; exact hq.2.1 k (by omega)
      · rw [m2 6 (by decide), m1 6 (by decide)]; exact hq.2.2.1
      · rw [m2 7 (by decide), m1 7 (by decide)]; exact hq.2.2.2
      · exact fun k hk => (hN.2.2.1 k hk).oth2 (fun j a b => by rw [m2 j (by omega), m1 j (by omega)])
      · intro e he he4 i hi j a b
        rw [m2 j (by omega), m1 j (by omega)]
        exact hN.2.2.2.1 e he he4 i hi j a b
      · show (ν.2.2.1 ++ [x]).length ≤ 12
        rw [List.length_append, List.length_singleton]; omega
      · intro y hy
        rcases List.mem_append.mp hy with z | z
        · exact hI.2.2.2.2.1.1 y z
        · rw [List.mem_singleton.mp z]; omega
    | succ m ih =>
      intro j cc hcc hj hk
      subst hcc
      refine x_iload_n 44 rfl d_Mo_submit_43 rfl ?_
      refine x_aload_n 45 rfl d_Mo_submit_44 rfl ?_
      refine x_get 48 rfl f_Mo_22 d_Mo_submit_45 g1 rfl ?_
      refine x_iload_n 49 rfl d_Mo_submit_48 rfl ?_
      refine x_iald 50 rfl d_Mo_submit_49 g4 (t0 := 0) rfl (vp_in_nI (by omega) (by decide)) ?_
      rw [nI_clamp (by omega), hq.1]
      refine x_icmp_ge 76 53 rfl d_Mo_submit_50 (by decide) (fun hc => absurd hc (nI_ge (by omega) (by omega))) (fun hc => ?_)
      refine x_aload_n 54 rfl d_Mo_submit_53 rfl ?_
      refine x_get 57 rfl f_Mo_25 d_Mo_submit_54 g1 rfl ?_
      refine x_bipush 59 rfl d_Mo_submit_57 12 (by decide) ?_
      refine x_iload_n 60 rfl d_Mo_submit_59 rfl ?_
      refine x_imul 61 rfl d_Mo_submit_60 ?_
      refine x_iload_n 62 rfl d_Mo_submit_61 rfl ?_
      refine x_iadd 63 rfl d_Mo_submit_62 ?_
      rw [i12]
      refine x_iald 64 rfl d_Mo_submit_63 g5 (t0 := 0) rfl (vp_in_nI (by omega) (by decide)) ?_
      refine x_iload_n 65 rfl d_Mo_submit_64 rfl ?_
      rw [nI_clamp (by omega), hq.2.1 j (by omega)]
      refine x_icmp_ne 70 68 rfl d_Mo_submit_65 (by decide) (fun hc => ?_) (fun hc => ?_)
      · refine x_iinc 73 rfl d_Mo_submit_70 rfl 1 (by decide) (by decide) ?_
        refine x_goto d_Mo_submit_73 43 (by decide) ?_
        rw [nI_1]
        refine xE.fit (ih (j + 1) _ rfl (by omega) (fun k hk2 => ?_)) rfl
        by_cases z : k = j
        · rw [z]; exact hc
        · exact hk k (by omega)
      · refine x_iconst 69 rfl d_Mo_submit_68 0 (by decide) ?_
        refine x_zret d_Mo_submit_69 rfl (by decide) ?_
        exact no (by unfold nNo; rw [decide_eq_true (gD_mem.mpr ⟨j, by omega, hc⟩), Bool.or_true]; rfl)
  refine x_iconst 42 rfl d_Mo_submit_41 0 (by decide) ?_
  refine x_istore_n 43 rfl d_Mo_submit_42 (by decide) ?_
  exact xE.fit (loop (σ.2.1 n).2.2.1.length 0 0 rfl (by omega) (fun k hk => absurd hk (by omega))) rfl
end CB
