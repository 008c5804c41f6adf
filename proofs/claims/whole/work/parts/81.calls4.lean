/-! THE REFERENCE: SPEAK, AND WHAT IS ASKED -/
section CC
variable {X : xPar} {m0 : Nat} {t : Int32} {σ : sL} {w : xW} {P : Option Value → xW → Prop}
theorem spk_v : ∀ n, n < 4 → ((15 : Int32) ^^^ ((1 : Int32) <<< (nI n &&& 31))) ||| 16 = nI ((15 ^^^ 2 ^ n) ||| 16) := by decide +kernel
theorem b01 {b : Int32} : (b = 0 ∨ b = 1) ↔ (0 ≤ b ∧ b ≤ 1) := by
  constructor
  · intro z
    rcases z with z | z <;> subst z <;> decide
  · intro z
    have := cUn_le (c := 1) (by decide) z.1 z.2
    rw [← nI_cUn b]
    have h2 : cUn b = 0 ∨ cUn b = 1 := by omega
    rcases h2 with y | y <;> rw [y]
    · exact Or.inl rfl
    · exact Or.inr rfl
theorem s_Mo_speak {nn ee ii kk aa bb : Int32} (hm : mG X m0 t σ w) (h : ∀ w', mG X m0 t (lSpk σ nn ee ii kk aa bb).1 w' → fr w w' m0 (m0 + 31) → P (some (.int (nB (lSpk σ nn ee ii kk aa bb).2))) w') : xE (xGG X) 1 m_Mo_speak 0 [(0, .ref m0), (1, .int nn), (2, .int ee), (3, .int ii), (4, .int kk), (5, .int aa), (6, .int bb)] [] w P := by
  have hm0 := hm
  obtain ⟨s, lg, M, hR, hG⟩ := hm
  have g1 := hR.1
  have hT := hG.2.2.2.2.1 3 (by decide)
  rw [show decide (3 = 3) = true from rfl, Bool.true_and] at hT
  have hsp := hG.2.2.2.2.2.1
  have hs3 := hG.2.2.2.2.2.2.1
  have hlen := hG.2.2.2.2.2.2.2.1
  have no : ((σ.2.1 3).2.1 && decide (σ.1 < 300) && (lNode nn && lNode ee && lNode ii && decide (0 ≤ kk ∧ kk ≤ 4)) && lFit kk aa bb) = false → P (some (.int 0)) w := by
    intro z
    unfold lSpk at h
    rw [z, if_neg (by decide)] at h
    exact h w hm0 (fr.rf _ _ _)
  have C72 : ∀ (b c : Bool) (lc : List (Nat × Value)), b = (lNode nn && lNode ee && lNode ii && decide (0 ≤ kk ∧ kk ≤ 4)) → c = lFit kk aa bb → xlk lc 0 = some (.ref m0) → xlk lc 1 = some (.int nn) → xlk lc 2 = some (.int ee) → xlk lc 3 = some (.int ii) → xlk lc 4 = some (.int kk) → xlk lc 5 = some (.int aa) → xlk lc 6 = some (.int bb) → xlk lc 7 = some (.int (nB b)) → xE (xGG X) 1 m_Mo_speak 72 lc [.int (nB c)] w P := by
    intro b c lc hb hc' l0 l1 l2 l3 l4 l5 l6 l7
    refine xE.fit (lc' := [(0, .ref m0), (1, .int nn), (2, .int ee), (3, .int ii), (4, .int kk), (5, .int aa), (6, .int bb), (7, .int (nB b))]) ?_ (by simp only [List.map_cons, List.map_nil, l0, l1, l2, l3, l4, l5, l6, l7])
    refine x_istore 74 rfl d_Mo_speak_72 (by decide) ?_
    refine x_aload_n 75 rfl d_Mo_speak_74 rfl ?_
    refine x_get 78 rfl f_Mo_153 d_Mo_speak_75 g1 rfl ?_
    refine x_if_eq 101 81 rfl d_Mo_speak_78 (by decide) (fun hc => ?_) (fun hc => ?_)
    · refine x_iconst 102 rfl d_Mo_speak_101 0 (by decide) ?_
      refine x_zret d_Mo_speak_102 rfl (by decide) ?_
      exact no (by rw [hT, (nB_0 _).mp hc]; rfl)
    have y1 := nB_ne hc
    refine x_iload 83 rfl d_Mo_speak_81 rfl ?_
    refine x_if_eq 101 86 rfl d_Mo_speak_83 (by decide) (fun hc => ?_) (fun hc => ?_)
    · refine x_iconst 102 rfl d_Mo_speak_101 0 (by decide) ?_
      refine x_zret d_Mo_speak_102 rfl (by decide) ?_
      exact no (by rw [← hb, (nB_0 _).mp hc, Bool.and_false, Bool.false_and])
    have y2 := nB_ne hc
    refine x_iload 88 rfl d_Mo_speak_86 rfl ?_
    refine x_if_eq 101 91 rfl d_Mo_speak_88 (by decide) (fun hc => ?_) (fun hc => ?_)
    · refine x_iconst 102 rfl d_Mo_speak_101 0 (by decide) ?_
      refine x_zret d_Mo_speak_102 rfl (by decide) ?_
      exact no (by rw [← hc', (nB_0 _).mp hc, Bool.and_false])
    have y3 := nB_ne hc
    refine x_aload_n 92 rfl d_Mo_speak_91 rfl ?_
    refine x_get 95 rfl f_Mo_186 d_Mo_speak_92 g1 rfl ?_
    refine x_sipush 98 rfl d_Mo_speak_95 300 (by decide) ?_
    rw [hsp]
    refine x_icmp_ne 103 101 rfl d_Mo_speak_98 (by decide) (fun hc => ?_) (fun hc => ?_)
    rotate_left
    · refine x_iconst 102 rfl d_Mo_speak_101 0 (by decide) ?_
      refine x_zret d_Mo_speak_102 rfl (by decide) ?_
      have z : σ.1 = 300 := (nI_eq (a := σ.1) (b := 300) (by omega) (by decide)).mp hc
      exact no (by rw [decide_eq_false (by omega), Bool.and_false, Bool.false_and, Bool.false_and])
    have z : σ.1 < 300 := by
      by_cases z : σ.1 = 300
      · exact absurd (by rw [z]; rfl) hc
      · omega
    have hall : ((σ.2.1 3).2.1 && decide (σ.1 < 300) && (lNode nn && lNode ee && lNode ii && decide (0 ≤ kk ∧ kk ≤ 4)) && lFit kk aa bb) = true := by rw [hT, y1, decide_eq_true z, ← hb, y2, ← hc', y3]; rfl
    have hL : lInv σ 0 → mOk (3, cUn ee, cUn ii, cUn kk, aa, bb) := by
      intro hI
      have := (lSpk_ok (nn := nn) (ee := ee) (ii := ii) (kk := kk) (aa := aa) (bb := bb) hI).1.1 (cUn nn) (lNode_lt (by rw [y2, eq_comm, Bool.and_eq_true, Bool.and_eq_true, Bool.and_eq_true] at hb; exact hb.1.1.1))
      have := this.2 (3, cUn ee, cUn ii, cUn kk, aa, bb) (by
        unfold lSpk
        rw [if_pos hall]
        dsimp only
        rw [va_up_self]
        exact List.mem_append_right _ (List.mem_singleton.mpr rfl))
      exact this
    have hmk : mOk (3, cUn ee, cUn ii, cUn kk, aa, bb) := by
      refine hL ⟨fun n hn => ⟨(hG.2.2.1 n hn).2.2.2, fun m hm => ?_⟩, by omega, hs3⟩
      rw [hG.2.2.2.1 n hn] at hm
      unfold gQ at hm
      obtain ⟨p, k1, k2⟩ := List.mem_map.mp hm
      obtain ⟨j, hj⟩ := List.mem_iff_getElem?.mp (List.mem_filter.mp k1).1
      have ok := (hG.1.2 j p hj).1.1
      rw [← k2]
      unfold pV
      split
      · exact ok
      · exact mOk_vw ok
    have hn : cUn nn < 4 := lNode_lt (by rw [y2, eq_comm, Bool.and_eq_true, Bool.and_eq_true, Bool.and_eq_true] at hb; exact hb.1.1.1)
    unfold lSpk at h
    rw [if_pos hall] at h
    have e1 : nn = nI (cUn nn) := (nI_cUn nn).symm
    generalize cUn nn = n at hn h e1
    subst e1
    refine x_aload_n 104 rfl d_Mo_speak_103 rfl ?_
    refine x_dup 105 rfl d_Mo_speak_104 rfl ?_
    refine x_get 108 rfl f_Mo_186 d_Mo_speak_105 g1 rfl ?_
    refine x_iconst 109 rfl d_Mo_speak_108 1 (by decide) ?_
    refine x_iadd 110 rfl d_Mo_speak_109 ?_
    refine x_put 113 rfl p_Mo_186 (fun h => nomatch h) d_Mo_speak_110 g1 rfl rfl (Nat.le_of_ble_eq_true rfl) ?_
    rw [hsp, nI_1]
    have R1 : rMo X m0 t (s.1, nI (σ.1 + 1), nI lg.length, s.2.2.2) M _ := hR.fld
    generalize hw1 : xset w m0 _ = w1
    replace R1 : rMo X m0 t (s.1, nI (σ.1 + 1), nI lg.length, s.2.2.2) M w1 := by rw [← hw1]; exact R1
    have f1 : fr w w1 m0 (m0 + 31) := by rw [← hw1]; exact (fr.rf w _ _).set _ (by omega) (by omega)
    have k1 := R1.1
    refine x_aload_n 114 rfl d_Mo_speak_113 rfl ?_
    refine x_iconst 115 rfl d_Mo_speak_114 3 (by decide) ?_
    refine x_iload_n 116 rfl d_Mo_speak_115 rfl ?_
    refine x_iload_n 117 rfl d_Mo_speak_116 rfl ?_
    refine x_iload 119 rfl d_Mo_speak_117 rfl ?_
    refine x_iload 121 rfl d_Mo_speak_119 rfl ?_
    refine x_iload 123 rfl d_Mo_speak_121 rfl ?_
    refine x_bipush 125 rfl d_Mo_speak_123 15 (by decide) ?_
    refine x_iconst 126 rfl d_Mo_speak_125 1 (by decide) ?_
    refine x_iload_n 127 rfl d_Mo_speak_126 rfl ?_
    refine x_ishl 128 rfl d_Mo_speak_127 ?_
    refine x_ixor 129 rfl d_Mo_speak_128 ?_
    refine x_bipush 131 rfl d_Mo_speak_129 16 (by decide) ?_
    refine x_ior 132 rfl d_Mo_speak_131 ?_
    rw [spk_v n hn]
    refine y_callV 135 rfl [_, _, _, _, _, _, _] _ rfl d_Mo_speak_132 k1 rfl c_Mo_189 rfl (Nat.le_of_ble_eq_true rfl) (Nat.le_of_ble_eq_true rfl) (Nat.le_of_ble_eq_true rfl) (s_Mo_post (p := ((3, cUn ee, cUn ii, cUn kk, aa, bb), (15 ^^^ 2 ^ n) ||| 16)) rfl (nI_cUn _).symm (nI_cUn _).symm (nI_cUn _).symm rfl rfl rfl ⟨hmk, (spk_bits n hn).1⟩ hG.1 rfl (by omega) R1 (fun w2 M2 a1 a2 a3 a4 => ?_))
    refine x_iconst 136 rfl d_Mo_speak_135 1 (by decide) ?_
    refine x_zret d_Mo_speak_136 rfl (by decide) ?_
    have hp : lPot (σ.1 + 1, σ.2.1, va_up σ.2.2 n (σ.2.2 n ++ [(3, cUn ee, cUn ii, cUn kk, aa, bb)])) + 1 = lPot σ := by
      unfold lPot
      dsimp only
      omega
    refine h w2 ⟨(s.1, nI (σ.1 + 1), s.2.2.1, s.2.2.2), lg ++ [((3, cUn ee, cUn ii, cUn kk, aa, bb), (15 ^^^ 2 ^ n) ||| 16)], M2, by rw [List.length_append, List.length_singleton]; exact a1, a2, fun k hk => ?_, hG.2.2.1, fun k hk => ?_, hG.2.2.2.2.1, rfl, by dsimp only; omega, by rw [List.length_append, List.length_singleton]; dsimp only; omega, fun p hp => ?_⟩ (f1.tr a4)
    · obtain ⟨g, hN⟩ := hG.2.1 k hk
      exact ⟨g, hN.cg a3⟩
    · rw [gQ_spk hn hk]
      show va_up σ.2.2 n (σ.2.2 n ++ [(3, cUn ee, cUn ii, cUn kk, aa, bb)]) k = _
      by_cases y : k = n
      · rw [y, va_up_self, if_pos rfl, hG.2.2.2.1 n hn]
      · rw [va_up_ne _ _ y, if_neg y, List.append_nil]; exact hG.2.2.2.1 k hk
    · rcases List.mem_append.mp hp with y | y
      · exact hG.2.2.2.2.2.2.2.2 p y
      · rw [List.mem_singleton.mp y]; exact Or.inl (spk_bits n hn).2
  have C37 : ∀ (b : Bool) (lc : List (Nat × Value)), b = (lNode nn && lNode ee && lNode ii && decide (0 ≤ kk ∧ kk ≤ 4)) → xlk lc 0 = some (.ref m0) → xlk lc 1 = some (.int nn) → xlk lc 2 = some (.int ee) → xlk lc 3 = some (.int ii) → xlk lc 4 = some (.int kk) → xlk lc 5 = some (.int aa) → xlk lc 6 = some (.int bb) → xE (xGG X) 1 m_Mo_speak 37 lc [.int (nB b)] w P := by
    intro b lc hb l0 l1 l2 l3 l4 l5 l6
    refine xE.fit (lc' := [(0, .ref m0), (1, .int nn), (2, .int ee), (3, .int ii), (4, .int kk), (5, .int aa), (6, .int bb)]) ?_ (by simp only [List.map_cons, List.map_nil, l0, l1, l2, l3, l4, l5, l6])
    have T : lFit kk aa bb = true → ∀ lc, xlk lc 0 = some (.ref m0) → xlk lc 1 = some (.int nn) → xlk lc 2 = some (.int ee) → xlk lc 3 = some (.int ii) → xlk lc 4 = some (.int kk) → xlk lc 5 = some (.int aa) → xlk lc 6 = some (.int bb) → xlk lc 7 = some (.int (nB b)) → xE (xGG X) 1 m_Mo_speak 67 lc [] w P := by
      intro z lc l0 l1 l2 l3 l4 l5 l6 l7
      refine xE.fit (lc' := [(0, .ref m0), (1, .int nn), (2, .int ee), (3, .int ii), (4, .int kk), (5, .int aa), (6, .int bb), (7, .int (nB b))]) ?_ (by simp only [List.map_cons, List.map_nil, l0, l1, l2, l3, l4, l5, l6, l7])
      refine x_iconst 68 rfl d_Mo_speak_67 1 (by decide) ?_
      refine x_goto d_Mo_speak_68 72 (by decide) ?_
      exact C72 b true _ hb z.symm rfl rfl rfl rfl rfl rfl rfl rfl
    have Fa : lFit kk aa bb = false → ∀ lc, xlk lc 0 = some (.ref m0) → xlk lc 1 = some (.int nn) → xlk lc 2 = some (.int ee) → xlk lc 3 = some (.int ii) → xlk lc 4 = some (.int kk) → xlk lc 5 = some (.int aa) → xlk lc 6 = some (.int bb) → xlk lc 7 = some (.int (nB b)) → xE (xGG X) 1 m_Mo_speak 71 lc [] w P := by
      intro z lc l0 l1 l2 l3 l4 l5 l6 l7
      refine xE.fit (lc' := [(0, .ref m0), (1, .int nn), (2, .int ee), (3, .int ii), (4, .int kk), (5, .int aa), (6, .int bb), (7, .int (nB b))]) ?_ (by simp only [List.map_cons, List.map_nil, l0, l1, l2, l3, l4, l5, l6, l7])
      refine x_iconst 72 rfl d_Mo_speak_71 0 (by decide) ?_
      exact C72 b false _ hb z.symm rfl rfl rfl rfl rfl rfl rfl rfl
    refine x_istore 39 rfl d_Mo_speak_37 (by decide) ?_
    refine x_iload 41 rfl d_Mo_speak_39 rfl ?_
    refine x_iconst 42 rfl d_Mo_speak_41 3 (by decide) ?_
    refine x_icmp_lt 67 45 rfl d_Mo_speak_42 (by decide) (fun hc => ?_) (fun hc => ?_)
    · exact T (by unfold lFit; rw [decide_eq_true hc]; rfl) _ rfl rfl rfl rfl rfl rfl rfl rfl
    have y0 := hc
    refine x_iload 47 rfl d_Mo_speak_45 rfl ?_
    refine x_if_lt 71 50 rfl d_Mo_speak_47 (by decide) (fun hc => ?_) (fun hc => ?_)
    · exact Fa (by unfold lFit; rw [decide_eq_false y0, decide_eq_false (fun z => absurd z.1 (by rw [Int32.not_le]; exact hc))]; rfl) _ rfl rfl rfl rfl rfl rfl rfl rfl
    have y1 : 0 ≤ aa := Int32.not_lt.mp hc
    refine x_iload 52 rfl d_Mo_speak_50 rfl ?_
    refine x_iconst 53 rfl d_Mo_speak_52 5 (by decide) ?_
    refine x_icmp_gt 71 56 rfl d_Mo_speak_53 (by decide) (fun hc => ?_) (fun hc => ?_)
    · exact Fa (by unfold lFit; rw [decide_eq_false y0, decide_eq_false (fun z => absurd z.2 (by rw [Int32.not_le]; exact hc))]; rfl) _ rfl rfl rfl rfl rfl rfl rfl rfl
    have y2 : aa ≤ 5 := Int32.not_lt.mp hc
    refine x_iload 58 rfl d_Mo_speak_56 rfl ?_
    refine x_if_eq 67 61 rfl d_Mo_speak_58 (by decide) (fun hc => ?_) (fun hc => ?_)
    · exact T (by unfold lFit; rw [decide_eq_true (p := 0 ≤ aa ∧ aa ≤ 5) ⟨y1, y2⟩, decide_eq_true (p := 0 ≤ bb ∧ bb ≤ 1) (b01.mp (Or.inl hc)), Bool.and_true, Bool.or_true]) _ rfl rfl rfl rfl rfl rfl rfl rfl
    have y3 := hc
    refine x_iload 63 rfl d_Mo_speak_61 rfl ?_
    refine x_iconst 64 rfl d_Mo_speak_63 1 (by decide) ?_
    refine x_icmp_ne 71 67 rfl d_Mo_speak_64 (by decide) (fun hc => ?_) (fun hc => ?_)
    · refine Fa ?_ _ rfl rfl rfl rfl rfl rfl rfl rfl
      unfold lFit
      rw [decide_eq_false y0, decide_eq_false (fun z : 0 ≤ bb ∧ bb ≤ 1 => ?_), Bool.and_false]
      · rfl
      · rcases b01.mpr z with q | q
        · exact y3 q
        · exact hc q
    · exact T (by unfold lFit; rw [decide_eq_true (p := 0 ≤ aa ∧ aa ≤ 5) ⟨y1, y2⟩, decide_eq_true (p := 0 ≤ bb ∧ bb ≤ 1) (b01.mp (Or.inr hc)), Bool.and_true, Bool.or_true]) _ rfl rfl rfl rfl rfl rfl rfl rfl
  have N36 : (lNode nn && lNode ee && lNode ii && decide (0 ≤ kk ∧ kk ≤ 4)) = false → xE (xGG X) 1 m_Mo_speak 36 [(0, .ref m0), (1, .int nn), (2, .int ee), (3, .int ii), (4, .int kk), (5, .int aa), (6, .int bb)] [] w P := by
    intro z
    refine x_iconst 37 rfl d_Mo_speak_36 0 (by decide) ?_
    exact C37 false _ z.symm rfl rfl rfl rfl rfl rfl rfl
  refine x_iload_n 1 rfl d_Mo_speak_0 rfl ?_
  refine y_call 4 rfl [_] _ rfl d_Mo_speak_1 c_Mo_136 rfl (Nat.le_of_ble_eq_true rfl) (Nat.le_of_ble_eq_true rfl) (Nat.le_of_ble_eq_true rfl) (s_Mo_isNode ?_)
  refine x_if_eq 36 7 rfl d_Mo_speak_4 (by decide) (fun hc => ?_) (fun hc => ?_)
  · exact xE.fit (N36 (by unfold lNode; rw [(nB_0 _).mp hc]; rfl)) rfl
  have y1 : lNode nn = true := nB_ne hc
  refine x_iload_n 8 rfl d_Mo_speak_7 rfl ?_
  refine y_call 11 rfl [_] _ rfl d_Mo_speak_8 c_Mo_136 rfl (Nat.le_of_ble_eq_true rfl) (Nat.le_of_ble_eq_true rfl) (Nat.le_of_ble_eq_true rfl) (s_Mo_isNode ?_)
  refine x_if_eq 36 14 rfl d_Mo_speak_11 (by decide) (fun hc => ?_) (fun hc => ?_)
  · exact xE.fit (N36 (by rw [y1]; unfold lNode; rw [(nB_0 _).mp hc]; rfl)) rfl
  have y2 : lNode ee = true := nB_ne hc
  refine x_iload_n 15 rfl d_Mo_speak_14 rfl ?_
  refine y_call 18 rfl [_] _ rfl d_Mo_speak_15 c_Mo_136 rfl (Nat.le_of_ble_eq_true rfl) (Nat.le_of_ble_eq_true rfl) (Nat.le_of_ble_eq_true rfl) (s_Mo_isNode ?_)
  refine x_if_eq 36 21 rfl d_Mo_speak_18 (by decide) (fun hc => ?_) (fun hc => ?_)
  · exact xE.fit (N36 (by rw [y1, y2]; unfold lNode; rw [(nB_0 _).mp hc]; rfl)) rfl
  have y3 : lNode ii = true := nB_ne hc
  refine x_iload 23 rfl d_Mo_speak_21 rfl ?_
  refine x_if_lt 36 26 rfl d_Mo_speak_23 (by decide) (fun hc => ?_) (fun hc => ?_)
  · exact xE.fit (N36 (by rw [decide_eq_false (fun z => absurd z.1 (by rw [Int32.not_le]; exact hc)), Bool.and_false])) rfl
  have y4 : 0 ≤ kk := Int32.not_lt.mp hc
  refine x_iload 28 rfl d_Mo_speak_26 rfl ?_
  refine x_iconst 29 rfl d_Mo_speak_28 4 (by decide) ?_
  refine x_icmp_gt 36 32 rfl d_Mo_speak_29 (by decide) (fun hc => ?_) (fun hc => ?_)
  · exact xE.fit (N36 (by rw [decide_eq_false (fun z => absurd z.2 (by rw [Int32.not_le]; exact hc)), Bool.and_false])) rfl
  have y5 : kk ≤ 4 := Int32.not_lt.mp hc
  refine x_iconst 33 rfl d_Mo_speak_32 1 (by decide) ?_
  refine x_goto d_Mo_speak_33 37 (by decide) ?_
  exact C37 true _ (by rw [y1, y2, y3, decide_eq_true ⟨y4, y5⟩]; rfl) rfl rfl rfl rfl rfl rfl rfl
theorem s_Mo_epoch {nn : Int32} (hm : mG X m0 t σ w) (h : P (some (.int (if lNode nn = true then iD (σ.2.1 (cUn nn)).1 else -1))) w) : xE (xGG X) 1 m_Mo_epoch 0 [(0, .ref m0), (1, .int nn)] [] w P := by
  obtain ⟨s, lg, M, hR, hG⟩ := hm
  have g1 := hR.1
  have g3 := hR.a3
  refine x_iload_n 1 rfl d_Mo_epoch_0 rfl ?_
  refine y_call 4 rfl [_] _ rfl d_Mo_epoch_1 c_Mo_136 rfl (Nat.le_of_ble_eq_true rfl) (Nat.le_of_ble_eq_true rfl) (Nat.le_of_ble_eq_true rfl) (s_Mo_isNode ?_)
  refine x_if_eq 16 7 rfl d_Mo_epoch_4 (by decide) (fun hc => ?_) (fun hc => ?_)
  · refine x_iconst 17 rfl d_Mo_epoch_16 (-1) (by decide) ?_
    refine x_iret d_Mo_epoch_17 rfl ?_
    rw [if_neg (by unfold lNode; rw [(nB_0 _).mp hc]; decide)] at h
    exact h
  have y1 : lNode nn = true := nB_ne hc
  rw [if_pos y1] at h
  have hn := lNode_lt y1
  have e1 : nn = nI (cUn nn) := (nI_cUn nn).symm
  generalize cUn nn = n at e1 hn h
  subst e1
  obtain ⟨g, hN⟩ := hG.2.1 n hn
  refine x_aload_n 8 rfl d_Mo_epoch_7 rfl ?_
  refine x_get 11 rfl f_Mo_19 d_Mo_epoch_8 g1 rfl ?_
  refine x_iload_n 12 rfl d_Mo_epoch_11 rfl ?_
  refine x_iald 13 rfl d_Mo_epoch_12 g3 (t0 := 0) rfl (vp_in_nI (by omega) (by decide)) ?_
  rw [nI_clamp (by omega), hN.1]
  refine x_goto d_Mo_epoch_13 17 (by decide) ?_
  refine x_iret d_Mo_epoch_17 rfl ?_
  exact h
theorem k_m1 {k : Int32} (h1 : ¬ k < -1) (h2 : k < 0) : k = -1 := by
  apply Int32.toInt_inj.mp
  rw [Int32.lt_iff_toInt_lt] at h1 h2
  rw [show (-1 : Int32).toInt = -1 from rfl] at *
  rw [show (0 : Int32).toInt = 0 from rfl] at h2
  omega
theorem lAns_no {l : List Int32} {k : Int32} (hl : l.length < 2 ^ 31) (h : k < -1 ∨ ¬ k < nI l.length) : lAns l k = -1 := by
  unfold lAns
  rcases h with h | h
  · rw [if_neg (fun z => by rw [z] at h; exact absurd h (by decide)), if_neg (fun z => absurd (Int32.lt_of_lt_of_le h (by decide : (-1 : Int32) ≤ 0)) (by rw [Int32.not_lt]; exact z.1))]
  · rw [if_neg, if_neg]
    · intro z
      have := dl_lt hl z
      apply h
      rw [← nI_cUn k]
      exact (nI_ltI (by omega) hl).mpr this
    · intro z
      apply h
      rw [z, Int32.lt_iff_toInt_lt, toInt_nI hl]
      rw [show (-1 : Int32).toInt = -1 from rfl]
      omega
theorem lAns_at {l : List Int32} {k : Int32} (hl : l.length < 2 ^ 31) (h0 : ¬ k < 0) (h : k < nI l.length) : ∃ u, k = nI u ∧ u < l.length ∧ lAns l k = l.getD u 0 := by
  have h1 : 0 ≤ k := Int32.not_lt.mp h0
  refine ⟨cUn k, (nI_cUn k).symm, ?_, ?_⟩
  · have e1 := h
    rw [Int32.lt_iff_toInt_lt, toInt_nI hl, toInt_c] at e1
    rw [Int32.le_iff_toInt_le, show (0 : Int32).toInt = 0 from rfl, toInt_c k] at h1
    have := cUn_lt k
    split at e1 <;> split at h1 <;> omega
  · have hu : cUn k < l.length := by
      have e1 := h
      rw [Int32.lt_iff_toInt_lt, toInt_nI hl, toInt_c] at e1
      rw [Int32.le_iff_toInt_le, show (0 : Int32).toInt = 0 from rfl, toInt_c k] at h1
      have := cUn_lt k
      split at e1 <;> split at h1 <;> omega
    have e2 : k = nI (cUn k) := (nI_cUn k).symm
    generalize cUn k = u at e2 hu
    subst e2
    unfold lAns
    rw [if_neg (fun z => by rw [z] at h1; exact absurd h1 (by decide)), if_pos, nI_clamp (by omega)]
    refine ⟨h1, ?_⟩
    rw [nI_p1 (by omega)]
    exact nI_le (by omega) (by omega)
theorem s_Mo_ledger {nn k : Int32} (hm : mG X m0 t σ w) (h : P (some (.int (if lNode nn = true then lAns (σ.2.1 (cUn nn)).2.2.2.1 k else -1))) w) : xE (xGG X) 1 m_Mo_ledger 0 [(0, .ref m0), (1, .int nn), (2, .int k)] [] w P := by
  obtain ⟨s, lg, M, hR, hG⟩ := hm
  have g1 := hR.1
  have g6 := hR.a6
  have g7 := hR.a7
  refine x_iload_n 1 rfl d_Mo_ledger_0 rfl ?_
  refine y_call 4 rfl [_] _ rfl d_Mo_ledger_1 c_Mo_136 rfl (Nat.le_of_ble_eq_true rfl) (Nat.le_of_ble_eq_true rfl) (Nat.le_of_ble_eq_true rfl) (s_Mo_isNode ?_)
  refine x_if_eq 22 7 rfl d_Mo_ledger_4 (by decide) (fun hc => ?_) (fun hc => ?_)
  · refine x_iconst 23 rfl d_Mo_ledger_22 (-1) (by decide) ?_
    refine x_iret d_Mo_ledger_23 rfl ?_
    rw [if_neg (by unfold lNode; rw [(nB_0 _).mp hc]; decide)] at h
    exact h
  have y1 : lNode nn = true := nB_ne hc
  rw [if_pos y1] at h
  have hn := lNode_lt y1
  have e1 : nn = nI (cUn nn) := (nI_cUn nn).symm
  generalize cUn nn = n at e1 hn h
  subst e1
  obtain ⟨g, hN⟩ := hG.2.1 n hn
  have hI := hG.2.2.1 n hn
  have hll := hI.2.2.2.2.1.2
  have h5 := hI.2.2.2.1
  have hq := hN.2.1
  generalize (σ.2.1 n).2.2.2.1 = l at h hll hq
  refine x_iload_n 8 rfl d_Mo_ledger_7 rfl ?_
  refine x_iconst 9 rfl d_Mo_ledger_8 (-1) (by decide) ?_
  refine x_icmp_lt 22 12 rfl d_Mo_ledger_9 (by decide) (fun hc => ?_) (fun hc => ?_)
  · refine x_iconst 23 rfl d_Mo_ledger_22 (-1) (by decide) ?_
    refine x_iret d_Mo_ledger_23 rfl ?_
    rw [lAns_no (by omega) (Or.inl hc)] at h
    exact h
  have z1 := hc
  refine x_iload_n 13 rfl d_Mo_ledger_12 rfl ?_
  refine x_aload_n 14 rfl d_Mo_ledger_13 rfl ?_
  refine x_get 17 rfl f_Mo_28 d_Mo_ledger_14 g1 rfl ?_
  refine x_iload_n 18 rfl d_Mo_ledger_17 rfl ?_
  refine x_iald 19 rfl d_Mo_ledger_18 g6 (t0 := 0) rfl (vp_in_nI (by omega) (by decide)) ?_
  rw [nI_clamp (by omega), hq.2.2.1]
  refine x_icmp_lt 24 22 rfl d_Mo_ledger_19 (by decide) (fun hc => ?_) (fun hc => ?_)
  rotate_left
  · refine x_iconst 23 rfl d_Mo_ledger_22 (-1) (by decide) ?_
    refine x_iret d_Mo_ledger_23 rfl ?_
    rw [lAns_no (by omega) (Or.inr hc)] at h
    exact h
  have z2 := hc
  refine x_iload_n 25 rfl d_Mo_ledger_24 rfl ?_
  refine x_if_ge 37 28 rfl d_Mo_ledger_25 (by decide) (fun hc => ?_) (fun hc => ?_)
  · obtain ⟨u, u1, u2, u3⟩ := lAns_at (by omega) (Int32.not_lt.mpr hc) z2
    rw [u3] at h
    subst u1
    refine x_aload_n 38 rfl d_Mo_ledger_37 rfl ?_
    refine x_get 41 rfl f_Mo_31 d_Mo_ledger_38 g1 rfl ?_
    refine x_bipush 43 rfl d_Mo_ledger_41 40 (by decide) ?_
    refine x_iload_n 44 rfl d_Mo_ledger_43 rfl ?_
    refine x_imul 45 rfl d_Mo_ledger_44 ?_
    refine x_iload_n 46 rfl d_Mo_ledger_45 rfl ?_
    refine x_iadd 47 rfl d_Mo_ledger_46 ?_
    rw [i40]
    refine x_iald 48 rfl d_Mo_ledger_47 g7 (t0 := 0) rfl (vp_in_nI (by omega) (by decide)) ?_
    refine x_iret d_Mo_ledger_48 rfl ?_
    rw [nI_clamp (by omega), hq.2.2.2 u u2]
    exact h
  · have z3 := k_m1 z1 (Int32.not_le.mp hc)
    subst z3
    refine x_aload_n 29 rfl d_Mo_ledger_28 rfl ?_
    refine x_get 32 rfl f_Mo_28 d_Mo_ledger_29 g1 rfl ?_
    refine x_iload_n 33 rfl d_Mo_ledger_32 rfl ?_
    refine x_iald 34 rfl d_Mo_ledger_33 g6 (t0 := 0) rfl (vp_in_nI (by omega) (by decide)) ?_
    rw [nI_clamp (by omega), hq.2.2.1]
    refine x_goto d_Mo_ledger_34 48 (by decide) ?_
    refine x_iret d_Mo_ledger_48 rfl ?_
    exact h
theorem s_Mo_queue {nn k : Int32} (hm : mG X m0 t σ w) (h : P (some (.int (if lNode nn = true then lAns (σ.2.1 (cUn nn)).2.2.1 k else -1))) w) : xE (xGG X) 1 m_Mo_queue 0 [(0, .ref m0), (1, .int nn), (2, .int k)] [] w P := by
  obtain ⟨s, lg, M, hR, hG⟩ := hm
  have g1 := hR.1
  have g4 := hR.a4
  have g5 := hR.a5
  refine x_iload_n 1 rfl d_Mo_queue_0 rfl ?_
  refine y_call 4 rfl [_] _ rfl d_Mo_queue_1 c_Mo_136 rfl (Nat.le_of_ble_eq_true rfl) (Nat.le_of_ble_eq_true rfl) (Nat.le_of_ble_eq_true rfl) (s_Mo_isNode ?_)
  refine x_if_eq 22 7 rfl d_Mo_queue_4 (by decide) (fun hc => ?_) (fun hc => ?_)
  · refine x_iconst 23 rfl d_Mo_queue_22 (-1) (by decide) ?_
    refine x_iret d_Mo_queue_23 rfl ?_
    rw [if_neg (by unfold lNode; rw [(nB_0 _).mp hc]; decide)] at h
    exact h
  have y1 : lNode nn = true := nB_ne hc
  rw [if_pos y1] at h
  have hn := lNode_lt y1
  have e1 : nn = nI (cUn nn) := (nI_cUn nn).symm
  generalize cUn nn = n at e1 hn h
  subst e1
  obtain ⟨g, hN⟩ := hG.2.1 n hn
  have hql := (hG.2.2.1 n hn).2.2.1
  have hq := hN.2.1
  generalize (σ.2.1 n).2.2.1 = l at h hql hq
  refine x_iload_n 8 rfl d_Mo_queue_7 rfl ?_
  refine x_iconst 9 rfl d_Mo_queue_8 (-1) (by decide) ?_
  refine x_icmp_lt 22 12 rfl d_Mo_queue_9 (by decide) (fun hc => ?_) (fun hc => ?_)
  · refine x_iconst 23 rfl d_Mo_queue_22 (-1) (by decide) ?_
    refine x_iret d_Mo_queue_23 rfl ?_
    rw [lAns_no (by omega) (Or.inl hc)] at h
    exact h
  have z1 := hc
  refine x_iload_n 13 rfl d_Mo_queue_12 rfl ?_
  refine x_aload_n 14 rfl d_Mo_queue_13 rfl ?_
  refine x_get 17 rfl f_Mo_22 d_Mo_queue_14 g1 rfl ?_
  refine x_iload_n 18 rfl d_Mo_queue_17 rfl ?_
  refine x_iald 19 rfl d_Mo_queue_18 g4 (t0 := 0) rfl (vp_in_nI (by omega) (by decide)) ?_
  rw [nI_clamp (by omega), hq.1]
  refine x_icmp_lt 24 22 rfl d_Mo_queue_19 (by decide) (fun hc => ?_) (fun hc => ?_)
  rotate_left
  · refine x_iconst 23 rfl d_Mo_queue_22 (-1) (by decide) ?_
    refine x_iret d_Mo_queue_23 rfl ?_
    rw [lAns_no (by omega) (Or.inr hc)] at h
    exact h
  have z2 := hc
  refine x_iload_n 25 rfl d_Mo_queue_24 rfl ?_
  refine x_if_ge 37 28 rfl d_Mo_queue_25 (by decide) (fun hc => ?_) (fun hc => ?_)
  · obtain ⟨u, u1, u2, u3⟩ := lAns_at (by omega) (Int32.not_lt.mpr hc) z2
    rw [u3] at h
    subst u1
    refine x_aload_n 38 rfl d_Mo_queue_37 rfl ?_
    refine x_get 41 rfl f_Mo_25 d_Mo_queue_38 g1 rfl ?_
    refine x_bipush 43 rfl d_Mo_queue_41 12 (by decide) ?_
    refine x_iload_n 44 rfl d_Mo_queue_43 rfl ?_
    refine x_imul 45 rfl d_Mo_queue_44 ?_
    refine x_iload_n 46 rfl d_Mo_queue_45 rfl ?_
    refine x_iadd 47 rfl d_Mo_queue_46 ?_
    rw [i12]
    refine x_iald 48 rfl d_Mo_queue_47 g5 (t0 := 0) rfl (vp_in_nI (by omega) (by decide)) ?_
    refine x_iret d_Mo_queue_48 rfl ?_
    rw [nI_clamp (by omega), hq.2.1 u u2]
    exact h
  · have z3 := k_m1 z1 (Int32.not_le.mp hc)
    subst z3
    refine x_aload_n 29 rfl d_Mo_queue_28 rfl ?_
    refine x_get 32 rfl f_Mo_22 d_Mo_queue_29 g1 rfl ?_
    refine x_iload_n 33 rfl d_Mo_queue_32 rfl ?_
    refine x_iald 34 rfl d_Mo_queue_33 g4 (t0 := 0) rfl (vp_in_nI (by omega) (by decide)) ?_
    rw [nI_clamp (by omega), hq.1]
    refine x_goto d_Mo_queue_34 48 (by decide) ?_
    refine x_iret d_Mo_queue_48 rfl ?_
    exact h
theorem s_Mo_waiting' {nn : Int32} (hm : mG X m0 t σ w) (h : P (some (.int (if lNode nn = true then nI (σ.2.2 (cUn nn)).length else -1))) w) : xE (xGG X) 1 m_Mo_waiting 0 [(0, .ref m0), (1, .int nn)] [] w P := by
  obtain ⟨s, lg, M, hR, hG⟩ := hm
  refine s_Mo_waiting hG.1 rfl hR ?_
  by_cases z : lNode nn = true
  · rw [if_pos z] at h ⊢
    rw [hG.2.2.2.1 _ (lNode_lt z)] at h
    exact h
  · rw [if_neg z] at h ⊢
    exact h
theorem s_Mo_coin' {ee ii rr : Int32} (hm : mG X m0 t σ w) (h : P (some (.int (lCoin t ee ii rr))) w) : xE (xGG X) 1 m_Mo_coin 0 [(0, .ref m0), (1, .int ee), (2, .int ii), (3, .int rr)] [] w P := by
  obtain ⟨s, lg, M, hR, -⟩ := hm
  exact s_Mo_coin hR h
end CC
