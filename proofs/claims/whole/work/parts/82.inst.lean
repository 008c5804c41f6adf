/-! THE REFERENCE: INSTANCE -/
section CI
variable {X : xPar} {m0 : Nat} {t : Int32} {σ : sL} {w : xW} {P : Option Value → xW → Prop}
theorem s_Mo_instance {nn ii what : Int32} (hm : mG X m0 t σ w) (h : P (some (.int (lIns σ nn ii what))) w) : xE (xGG X) 1 m_Mo_instance 0 [(0, .ref m0), (1, .int nn), (2, .int ii), (3, .int what)] [] w P := by
  obtain ⟨s, lg, M, hR, hG⟩ := hm
  have g1 := hR.1
  have g3 := hR.a3
  have no : lIns σ nn ii what = -1 → P (some (.int (-1))) w := fun z => by rw [z] at h; exact h
  refine x_iload_n 1 rfl d_Mo_instance_0 rfl ?_
  refine y_call 4 rfl [_] _ rfl d_Mo_instance_1 c_Mo_136 rfl (Nat.le_of_ble_eq_true rfl) (Nat.le_of_ble_eq_true rfl) (Nat.le_of_ble_eq_true rfl) (s_Mo_isNode ?_)
  refine x_if_eq 43 7 rfl d_Mo_instance_4 (by decide) (fun hc => ?_) (fun hc => ?_)
  · refine x_iconst 44 rfl d_Mo_instance_43 (-1) (by decide) ?_
    refine x_iret d_Mo_instance_44 rfl ?_
    exact no (by unfold lIns lNode; rw [(nB_0 _).mp hc]; rfl)
  have y1 : lNode nn = true := nB_ne hc
  refine x_iload_n 8 rfl d_Mo_instance_7 rfl ?_
  refine y_call 11 rfl [_] _ rfl d_Mo_instance_8 c_Mo_136 rfl (Nat.le_of_ble_eq_true rfl) (Nat.le_of_ble_eq_true rfl) (Nat.le_of_ble_eq_true rfl) (s_Mo_isNode ?_)
  refine x_if_eq 43 14 rfl d_Mo_instance_11 (by decide) (fun hc => ?_) (fun hc => ?_)
  · refine x_iconst 44 rfl d_Mo_instance_43 (-1) (by decide) ?_
    refine x_iret d_Mo_instance_44 rfl ?_
    exact no (by unfold lIns; rw [y1]; unfold lNode; rw [(nB_0 _).mp hc]; rfl)
  have y2 : lNode ii = true := nB_ne hc
  have out : (what < 0 ∨ 6 < what) → lIns σ nn ii what = -1 := by
    intro z
    have ne : ∀ c : Int32, 0 ≤ c → c ≤ 6 → what ≠ c := by
      intro c c1 c2 e
      subst e
      rcases z with z | z
      · exact absurd z (by rw [Int32.not_lt]; exact c1)
      · exact absurd z (by rw [Int32.not_lt]; exact c2)
    unfold lIns
    split
    · unfold lIn1
      rw [if_neg (ne 0 (by decide) (by decide)), if_neg (ne 1 (by decide) (by decide)), if_neg (ne 2 (by decide) (by decide)), if_neg (ne 3 (by decide) (by decide)), if_neg (ne 4 (by decide) (by decide)), if_neg (ne 5 (by decide) (by decide)), if_neg (ne 6 (by decide) (by decide))]
    · rfl
  refine x_iload_n 15 rfl d_Mo_instance_14 rfl ?_
  refine x_if_lt 43 18 rfl d_Mo_instance_15 (by decide) (fun hc => ?_) (fun hc => ?_)
  · refine x_iconst 44 rfl d_Mo_instance_43 (-1) (by decide) ?_
    refine x_iret d_Mo_instance_44 rfl ?_
    exact no (out (Or.inl hc))
  have y3 : 0 ≤ what := Int32.not_lt.mp hc
  refine x_iload_n 19 rfl d_Mo_instance_18 rfl ?_
  refine x_bipush 21 rfl d_Mo_instance_19 6 (by decide) ?_
  refine x_icmp_gt 43 24 rfl d_Mo_instance_21 (by decide) (fun hc => ?_) (fun hc => ?_)
  · refine x_iconst 44 rfl d_Mo_instance_43 (-1) (by decide) ?_
    refine x_iret d_Mo_instance_44 rfl ?_
    exact no (out (Or.inr hc))
  have y4 : what ≤ 6 := Int32.not_lt.mp hc
  have hn := lNode_lt y1
  have hi := lNode_lt y2
  have hE : lIns σ nn ii what = if (decide (1 ≤ (σ.2.1 (cUn nn)).1 ∧ (σ.2.1 (cUn nn)).1 ≤ 4)) = true then lIn1 (nB' (σ.2.1 (cUn nn)) ((σ.2.1 (cUn nn)).1 - 1) (cUn ii)) (nA' (σ.2.1 (cUn nn)) ((σ.2.1 (cUn nn)).1 - 1) (cUn ii)) what else -1 := by
    unfold lIns
    rw [y1, y2]
    rfl
  rw [hE] at h no
  have e1 : nn = nI (cUn nn) := (nI_cUn nn).symm
  have e2 : ii = nI (cUn ii) := (nI_cUn ii).symm
  clear out hE y1 y2
  generalize cUn nn = n at e1 hn h no
  generalize cUn ii = i at e2 hi h no
  subst e1 e2
  obtain ⟨g, hN⟩ := hG.2.1 n hn
  have hI := hG.2.2.1 n hn
  have h5 := hI.2.2.2.1
  have hep := iDep (σ.2.1 n).1 (by omega)
  refine x_aload_n 25 rfl d_Mo_instance_24 rfl ?_
  refine x_get 28 rfl f_Mo_19 d_Mo_instance_25 g1 rfl ?_
  refine x_iload_n 29 rfl d_Mo_instance_28 rfl ?_
  refine x_iald 30 rfl d_Mo_instance_29 g3 (t0 := 0) rfl (vp_in_nI (by omega) (by decide)) ?_
  rw [nI_clamp (by omega), hN.1]
  refine x_if_lt 43 33 rfl d_Mo_instance_30 (by decide) (fun hc => ?_) (fun hc => ?_)
  · refine x_iconst 44 rfl d_Mo_instance_43 (-1) (by decide) ?_
    refine x_iret d_Mo_instance_44 rfl ?_
    exact no (if_neg (fun z => absurd (hep.mpr (of_decide_eq_true z)).1 (by rw [Int32.not_le]; exact hc)))
  have z0 := hc
  refine x_aload_n 34 rfl d_Mo_instance_33 rfl ?_
  refine x_get 37 rfl f_Mo_19 d_Mo_instance_34 g1 rfl ?_
  refine x_iload_n 38 rfl d_Mo_instance_37 rfl ?_
  refine x_iald 39 rfl d_Mo_instance_38 g3 (t0 := 0) rfl (vp_in_nI (by omega) (by decide)) ?_
  refine x_iconst 40 rfl d_Mo_instance_39 3 (by decide) ?_
  rw [nI_clamp (by omega), hN.1]
  refine x_icmp_le 45 43 rfl d_Mo_instance_40 (by decide) (fun hc => ?_) (fun hc => ?_)
  rotate_left
  · refine x_iconst 44 rfl d_Mo_instance_43 (-1) (by decide) ?_
    refine x_iret d_Mo_instance_44 rfl ?_
    exact no (if_neg (fun z => hc (hep.mpr (of_decide_eq_true z)).2))
  have hin := hep.mp ⟨Int32.not_lt.mp z0, hc⟩
  rw [if_pos (decide_eq_true hin)] at h
  obtain ⟨e, he⟩ : ∃ e, (σ.2.1 n).1 = e + 1 := ⟨(σ.2.1 n).1 - 1, by omega⟩
  have he4 : e < 4 := by omega
  have E3 : M 3 n = nI e := by rw [hN.1, he, nI_ep]
  rw [he, Nat.add_sub_cancel] at h
  have hd := hN.2.2.2.1 e he he4 i hi
  have hp := hN.2.2.1 (4 * e + i) (by omega)
  have hI' := hI.1 (4 * e + i) (by omega)
  have hβ : nB' (σ.2.1 n) e i = (σ.2.1 n).2.2.2.2.1 (4 * e + i) := rfl
  have hα : nA' (σ.2.1 n) e i = (σ.2.1 n).2.2.2.2.2 (4 * e + i) := rfl
  rw [hβ, hα] at hd h
  rw [← Nat.add_assoc] at hp
  generalize (σ.2.1 n).2.2.2.2.1 (4 * e + i) = β at hd hp hI' h
  generalize (σ.2.1 n).2.2.2.2.2 (4 * e + i) = α at hd hp hI' h
  have hq : β.2 2 = -1 ∨ 0 ≤ β.2 2 := by
    rcases hI'.2.2.2 with z | z
    · exact Or.inl z
    · right
      have := nI_nn z
      rw [nI_cUn] at this
      exact this
  refine x_bipush 47 rfl d_Mo_instance_45 16 (by decide) ?_
  refine x_iload_n 48 rfl d_Mo_instance_47 rfl ?_
  refine x_imul 49 rfl d_Mo_instance_48 ?_
  refine x_iconst 50 rfl d_Mo_instance_49 4 (by decide) ?_
  refine x_aload_n 51 rfl d_Mo_instance_50 rfl ?_
  refine x_get 54 rfl f_Mo_19 d_Mo_instance_51 g1 rfl ?_
  refine x_iload_n 55 rfl d_Mo_instance_54 rfl ?_
  refine x_iald 56 rfl d_Mo_instance_55 g3 (t0 := 0) rfl (vp_in_nI (by omega) (by decide)) ?_
  rw [nI_clamp (by omega), E3]
  refine x_imul 57 rfl d_Mo_instance_56 ?_
  refine x_iadd 58 rfl d_Mo_instance_57 ?_
  refine x_iload_n 59 rfl d_Mo_instance_58 rfl ?_
  refine x_iadd 60 rfl d_Mo_instance_59 ?_
  rw [i16]
  refine x_istore 62 rfl d_Mo_instance_60 (by decide) ?_
  refine x_iconst 63 rfl d_Mo_instance_62 4 (by decide) ?_
  refine x_iload_n 64 rfl d_Mo_instance_63 rfl ?_
  refine x_imul 65 rfl d_Mo_instance_64 ?_
  refine x_iload_n 66 rfl d_Mo_instance_65 rfl ?_
  refine x_iadd 67 rfl d_Mo_instance_66 ?_
  rw [i4]
  have hw : what = nI (cUn what) := (nI_cUn what).symm
  have hw6 : cUn what ≤ 6 := cUn_le (c := 6) (by decide) y3 y4
  generalize cUn what = u at hw hw6
  subst hw
  have g18 := hR.a18
  have g19 := hR.a19
  have g22 := hR.a22
  have g23 := hR.a23
  have g24 := hR.a24
  have g25 := hR.a25
  have g26 := hR.a26
  have g28 := hR.a28
  have g29 := hR.a29
  refine x_istore 69 rfl d_Mo_instance_67 (by decide) ?_
  refine x_iload_n 70 rfl d_Mo_instance_69 rfl ?_
  have hu : u = 0 ∨ u = 1 ∨ u = 2 ∨ u = 3 ∨ u = 4 ∨ u = 5 ∨ u = 6 := by omega
  rcases hu with z | z | z | z | z | z | z <;> subst z
  · refine x_if_ne 121 73 rfl d_Mo_instance_70 (by decide) (fun hc => absurd rfl hc) (fun hc => ?_)
    have h : P (some (.int ((if β.1 1 = true then 1 else 0) + (if β.1 2 = true then 2 else 0) + (if β.2 2 = -1 then 0 else 4)))) w := h
    have C103 : ∀ (x y : Int32) (lc : List (Nat × Value)), x + y = (if β.1 1 = true then 1 else 0) + (if β.1 2 = true then 2 else 0) → xlk lc 0 = some (.ref m0) → xlk lc 5 = some (.int (nI (4 * n + i))) → xE (xGG X) 1 m_Mo_instance 103 lc [.int y, .int x] w P := by
      intro x y lc hxy l0 l5
      refine xE.fit (lc' := [(0, .ref m0), (5, .int (nI (4 * n + i)))]) ?_ (by simp only [List.map_cons, List.map_nil, l0, l5])
      refine x_iadd 104 rfl d_Mo_instance_103 ?_
      refine x_aload_n 105 rfl d_Mo_instance_104 rfl ?_
      refine x_get 108 rfl f_Mo_77 d_Mo_instance_105 g1 rfl ?_
      refine x_iload 110 rfl d_Mo_instance_108 rfl ?_
      refine x_iald 111 rfl d_Mo_instance_110 g22 (t0 := 0) rfl (vp_in_nI (by omega) (by decide)) ?_
      rw [nI_clamp (by omega), hd.c22, hxy]
      refine x_if_lt 118 114 rfl d_Mo_instance_111 (by decide) (fun hc => ?_) (fun hc => ?_)
      · refine x_iconst 119 rfl d_Mo_instance_118 0 (by decide) ?_
        refine x_iadd 120 rfl d_Mo_instance_119 ?_
        refine x_iret d_Mo_instance_120 rfl ?_
        rw [if_pos ((neg_1 hq).mp hc)] at h
        exact h
      · refine x_iconst 115 rfl d_Mo_instance_114 4 (by decide) ?_
        refine x_goto d_Mo_instance_115 119 (by decide) ?_
        refine x_iadd 120 rfl d_Mo_instance_119 ?_
        refine x_iret d_Mo_instance_120 rfl ?_
        rw [if_neg (fun z => hc ((neg_1 hq).mpr z))] at h
        exact h
    have C88 : ∀ (x : Int32) (lc : List (Nat × Value)), x = (if β.1 1 = true then 1 else 0) → xlk lc 0 = some (.ref m0) → xlk lc 4 = some (.int (nI (16 * n + 4 * e + i))) → xlk lc 5 = some (.int (nI (4 * n + i))) → xE (xGG X) 1 m_Mo_instance 88 lc [.int x] w P := by
      intro x lc hx l0 l4 l5
      refine xE.fit (lc' := [(0, .ref m0), (4, .int (nI (16 * n + 4 * e + i))), (5, .int (nI (4 * n + i)))]) ?_ (by simp only [List.map_cons, List.map_nil, l0, l4, l5])
      refine x_aload_n 89 rfl d_Mo_instance_88 rfl ?_
      refine x_get 92 rfl f_Mo_68 d_Mo_instance_89 g1 rfl ?_
      refine x_iload 94 rfl d_Mo_instance_92 rfl ?_
      refine x_zald 95 rfl d_Mo_instance_94 g19 (t0 := 1) rfl (vp_in_nI (by omega) (by decide)) ?_
      rw [nI_clamp (by omega), hp.c19]
      refine x_if_eq 102 98 rfl d_Mo_instance_95 (by decide) (fun hc => ?_) (fun hc => ?_)
      · refine x_iconst 103 rfl d_Mo_instance_102 0 (by decide) ?_
        exact C103 _ _ _ (by rw [hx, if_neg (c := β.1 2 = true) (by rw [(nB_0 _).mp hc]; decide)]) rfl rfl
      · refine x_iconst 99 rfl d_Mo_instance_98 2 (by decide) ?_
        refine x_goto d_Mo_instance_99 103 (by decide) ?_
        exact C103 _ _ _ (by rw [hx, if_pos (c := β.1 2 = true) (nB_ne hc)]) rfl rfl
    refine x_aload_n 74 rfl d_Mo_instance_73 rfl ?_
    refine x_get 77 rfl f_Mo_65 d_Mo_instance_74 g1 rfl ?_
    refine x_iload 79 rfl d_Mo_instance_77 rfl ?_
    refine x_zald 80 rfl d_Mo_instance_79 g18 (t0 := 1) rfl (vp_in_nI (by omega) (by decide)) ?_
    rw [nI_clamp (by omega), hp.c18]
    refine x_if_eq 87 83 rfl d_Mo_instance_80 (by decide) (fun hc => ?_) (fun hc => ?_)
    · refine x_iconst 88 rfl d_Mo_instance_87 0 (by decide) ?_
      exact C88 _ _ (by rw [if_neg (by rw [(nB_0 _).mp hc]; decide)]) rfl rfl rfl
    · refine x_iconst 84 rfl d_Mo_instance_83 1 (by decide) ?_
      refine x_goto d_Mo_instance_84 88 (by decide) ?_
      exact C88 _ _ (by rw [if_pos (nB_ne hc)]) rfl rfl rfl
  · refine x_if_ne 121 73 rfl d_Mo_instance_70 (by decide) (fun hc => ?_) (fun hc => absurd hc (by decide))
    have h : P (some (.int (β.2 2))) w := h
    refine x_iload_n 122 rfl d_Mo_instance_121 rfl ?_
    refine x_iconst 123 rfl d_Mo_instance_122 2 (by decide) ?_
    refine x_icmp_eq 131 126 rfl d_Mo_instance_123 (by decide) (fun hc => absurd hc (by decide)) (fun hc => ?_)
    refine x_iload_n 127 rfl d_Mo_instance_126 rfl ?_
    refine x_iconst 128 rfl d_Mo_instance_127 3 (by decide) ?_
    refine x_icmp_ne 168 131 rfl d_Mo_instance_128 (by decide) (fun hc => ?_) (fun hc => absurd hc (by decide))
    refine x_iload_n 169 rfl d_Mo_instance_168 rfl ?_
    refine x_iconst 170 rfl d_Mo_instance_169 1 (by decide) ?_
    refine x_icmp_ne 183 173 rfl d_Mo_instance_170 (by decide) (fun hc => absurd rfl hc) (fun hc => ?_)
    refine x_aload_n 174 rfl d_Mo_instance_173 rfl ?_
    refine x_get 177 rfl f_Mo_77 d_Mo_instance_174 g1 rfl ?_
    refine x_iload 179 rfl d_Mo_instance_177 rfl ?_
    refine x_iald 180 rfl d_Mo_instance_179 g22 (t0 := 0) rfl (vp_in_nI (by omega) (by decide)) ?_
    rw [nI_clamp (by omega), hd.c22]
    refine x_goto d_Mo_instance_180 228 (by decide) ?_
    refine x_iret d_Mo_instance_228 rfl ?_
    exact h
  · refine x_if_ne 121 73 rfl d_Mo_instance_70 (by decide) (fun hc => ?_) (fun hc => absurd hc (by decide))
    have h : P (some (.int (iR (α.1 0) (α.2 0)))) w := h
    refine x_iload_n 122 rfl d_Mo_instance_121 rfl ?_
    refine x_iconst 123 rfl d_Mo_instance_122 2 (by decide) ?_
    refine x_icmp_eq 131 126 rfl d_Mo_instance_123 (by decide) (fun hc => ?_) (fun hc => absurd rfl hc)
    refine x_aload_n 132 rfl d_Mo_instance_131 rfl ?_
    refine x_get 135 rfl f_Mo_80 d_Mo_instance_132 g1 rfl ?_
    refine x_iload 137 rfl d_Mo_instance_135 rfl ?_
    refine x_zald 138 rfl d_Mo_instance_137 g23 (t0 := 1) rfl (vp_in_nI (by omega) (by decide)) ?_
    rw [nI_clamp (by omega), hd.c23]
    refine x_if_ne 145 141 rfl d_Mo_instance_138 (by decide) (fun hc => ?_) (fun hc => ?_)
    · refine x_iload_n 146 rfl d_Mo_instance_145 rfl ?_
      refine x_iconst 147 rfl d_Mo_instance_146 2 (by decide) ?_
      refine x_icmp_ne 160 150 rfl d_Mo_instance_147 (by decide) (fun hc => absurd rfl hc) (fun hc => ?_)
      refine x_aload_n 151 rfl d_Mo_instance_150 rfl ?_
      refine x_get 154 rfl f_Mo_86 d_Mo_instance_151 g1 rfl ?_
      refine x_iload 156 rfl d_Mo_instance_154 rfl ?_
      refine x_iald 157 rfl d_Mo_instance_156 g25 (t0 := 0) rfl (vp_in_nI (by omega) (by decide)) ?_
      rw [nI_clamp (by omega), hd.c25]
      refine x_goto d_Mo_instance_157 167 (by decide) ?_
      refine x_iret d_Mo_instance_167 rfl ?_
      unfold iR at h
      rename_i q
      rw [if_pos (nB_ne q)] at h
      exact h
    · refine x_iconst 142 rfl d_Mo_instance_141 (-1) (by decide) ?_
      refine x_goto d_Mo_instance_142 167 (by decide) ?_
      refine x_iret d_Mo_instance_167 rfl ?_
      unfold iR at h
      rw [if_neg (by rw [(nB_0 _).mp hc]; decide)] at h
      exact h
  · refine x_if_ne 121 73 rfl d_Mo_instance_70 (by decide) (fun hc => ?_) (fun hc => absurd hc (by decide))
    have h : P (some (.int (iR (α.1 0) (α.2 1)))) w := h
    refine x_iload_n 122 rfl d_Mo_instance_121 rfl ?_
    refine x_iconst 123 rfl d_Mo_instance_122 2 (by decide) ?_
    refine x_icmp_eq 131 126 rfl d_Mo_instance_123 (by decide) (fun hc => absurd hc (by decide)) (fun hc => ?_)
    refine x_iload_n 127 rfl d_Mo_instance_126 rfl ?_
    refine x_iconst 128 rfl d_Mo_instance_127 3 (by decide) ?_
    refine x_icmp_ne 168 131 rfl d_Mo_instance_128 (by decide) (fun hc => absurd rfl hc) (fun hc => ?_)
    refine x_aload_n 132 rfl d_Mo_instance_131 rfl ?_
    refine x_get 135 rfl f_Mo_80 d_Mo_instance_132 g1 rfl ?_
    refine x_iload 137 rfl d_Mo_instance_135 rfl ?_
    refine x_zald 138 rfl d_Mo_instance_137 g23 (t0 := 1) rfl (vp_in_nI (by omega) (by decide)) ?_
    rw [nI_clamp (by omega), hd.c23]
    refine x_if_ne 145 141 rfl d_Mo_instance_138 (by decide) (fun hc => ?_) (fun hc => ?_)
    · have q := hc
      refine x_iload_n 146 rfl d_Mo_instance_145 rfl ?_
      refine x_iconst 147 rfl d_Mo_instance_146 2 (by decide) ?_
      refine x_icmp_ne 160 150 rfl d_Mo_instance_147 (by decide) (fun hc => ?_) (fun hc => absurd hc (by decide))
      refine x_aload_n 161 rfl d_Mo_instance_160 rfl ?_
      refine x_get 164 rfl f_Mo_83 d_Mo_instance_161 g1 rfl ?_
      refine x_iload 166 rfl d_Mo_instance_164 rfl ?_
      refine x_iald 167 rfl d_Mo_instance_166 g24 (t0 := 0) rfl (vp_in_nI (by omega) (by decide)) ?_
      rw [nI_clamp (by omega), hd.c24]
      refine x_iret d_Mo_instance_167 rfl ?_
      unfold iR at h
      rw [if_pos (nB_ne q)] at h
      exact h
    · refine x_iconst 142 rfl d_Mo_instance_141 (-1) (by decide) ?_
      refine x_goto d_Mo_instance_142 167 (by decide) ?_
      refine x_iret d_Mo_instance_167 rfl ?_
      unfold iR at h
      rw [if_neg (by rw [(nB_0 _).mp hc]; decide)] at h
      exact h
  · refine x_if_ne 121 73 rfl d_Mo_instance_70 (by decide) (fun hc => ?_) (fun hc => absurd hc (by decide))
    have h : P (some (.int (iD (α.2 2)))) w := h
    refine x_iload_n 122 rfl d_Mo_instance_121 rfl ?_
    refine x_iconst 123 rfl d_Mo_instance_122 2 (by decide) ?_
    refine x_icmp_eq 131 126 rfl d_Mo_instance_123 (by decide) (fun hc => absurd hc (by decide)) (fun hc => ?_)
    refine x_iload_n 127 rfl d_Mo_instance_126 rfl ?_
    refine x_iconst 128 rfl d_Mo_instance_127 3 (by decide) ?_
    refine x_icmp_ne 168 131 rfl d_Mo_instance_128 (by decide) (fun hc => ?_) (fun hc => absurd hc (by decide))
    refine x_iload_n 169 rfl d_Mo_instance_168 rfl ?_
    refine x_iconst 170 rfl d_Mo_instance_169 1 (by decide) ?_
    refine x_icmp_ne 183 173 rfl d_Mo_instance_170 (by decide) (fun hc => ?_) (fun hc => absurd hc (by decide))
    refine x_iload_n 184 rfl d_Mo_instance_183 rfl ?_
    refine x_iconst 185 rfl d_Mo_instance_184 4 (by decide) ?_
    refine x_icmp_ne 198 188 rfl d_Mo_instance_185 (by decide) (fun hc => absurd rfl hc) (fun hc => ?_)
    refine x_aload_n 189 rfl d_Mo_instance_188 rfl ?_
    refine x_get 192 rfl f_Mo_95 d_Mo_instance_189 g1 rfl ?_
    refine x_iload 194 rfl d_Mo_instance_192 rfl ?_
    refine x_iald 195 rfl d_Mo_instance_194 g28 (t0 := 0) rfl (vp_in_nI (by omega) (by decide)) ?_
    rw [nI_clamp (by omega), hd.c28]
    refine x_goto d_Mo_instance_195 228 (by decide) ?_
    refine x_iret d_Mo_instance_228 rfl ?_
    exact h
  · refine x_if_ne 121 73 rfl d_Mo_instance_70 (by decide) (fun hc => ?_) (fun hc => absurd hc (by decide))
    have h : P (some (.int (nB (α.1 1)))) w := h
    refine x_iload_n 122 rfl d_Mo_instance_121 rfl ?_
    refine x_iconst 123 rfl d_Mo_instance_122 2 (by decide) ?_
    refine x_icmp_eq 131 126 rfl d_Mo_instance_123 (by decide) (fun hc => absurd hc (by decide)) (fun hc => ?_)
    refine x_iload_n 127 rfl d_Mo_instance_126 rfl ?_
    refine x_iconst 128 rfl d_Mo_instance_127 3 (by decide) ?_
    refine x_icmp_ne 168 131 rfl d_Mo_instance_128 (by decide) (fun hc => ?_) (fun hc => absurd hc (by decide))
    refine x_iload_n 169 rfl d_Mo_instance_168 rfl ?_
    refine x_iconst 170 rfl d_Mo_instance_169 1 (by decide) ?_
    refine x_icmp_ne 183 173 rfl d_Mo_instance_170 (by decide) (fun hc => ?_) (fun hc => absurd hc (by decide))
    refine x_iload_n 184 rfl d_Mo_instance_183 rfl ?_
    refine x_iconst 185 rfl d_Mo_instance_184 4 (by decide) ?_
    refine x_icmp_ne 198 188 rfl d_Mo_instance_185 (by decide) (fun hc => ?_) (fun hc => absurd hc (by decide))
    refine x_iload_n 199 rfl d_Mo_instance_198 rfl ?_
    refine x_iconst 200 rfl d_Mo_instance_199 5 (by decide) ?_
    refine x_icmp_ne 221 203 rfl d_Mo_instance_200 (by decide) (fun hc => absurd rfl hc) (fun hc => ?_)
    refine x_aload_n 204 rfl d_Mo_instance_203 rfl ?_
    refine x_get 207 rfl f_Mo_98 d_Mo_instance_204 g1 rfl ?_
    refine x_iload 209 rfl d_Mo_instance_207 rfl ?_
    refine x_zald 210 rfl d_Mo_instance_209 g29 (t0 := 1) rfl (vp_in_nI (by omega) (by decide)) ?_
    rw [nI_clamp (by omega), hd.c29]
    refine x_if_eq 217 213 rfl d_Mo_instance_210 (by decide) (fun hc => ?_) (fun hc => ?_)
    · refine x_iconst 218 rfl d_Mo_instance_217 0 (by decide) ?_
      refine x_goto d_Mo_instance_218 228 (by decide) ?_
      refine x_iret d_Mo_instance_228 rfl ?_
      rw [(nB_0 _).mp hc] at h
      exact h
    · refine x_iconst 214 rfl d_Mo_instance_213 1 (by decide) ?_
      refine x_goto d_Mo_instance_214 228 (by decide) ?_
      refine x_iret d_Mo_instance_228 rfl ?_
      rw [nB_ne hc] at h
      exact h
  · refine x_if_ne 121 73 rfl d_Mo_instance_70 (by decide) (fun hc => ?_) (fun hc => absurd hc (by decide))
    have h : P (some (.int (nI (α.2 3)))) w := h
    refine x_iload_n 122 rfl d_Mo_instance_121 rfl ?_
    refine x_iconst 123 rfl d_Mo_instance_122 2 (by decide) ?_
    refine x_icmp_eq 131 126 rfl d_Mo_instance_123 (by decide) (fun hc => absurd hc (by decide)) (fun hc => ?_)
    refine x_iload_n 127 rfl d_Mo_instance_126 rfl ?_
    refine x_iconst 128 rfl d_Mo_instance_127 3 (by decide) ?_
    refine x_icmp_ne 168 131 rfl d_Mo_instance_128 (by decide) (fun hc => ?_) (fun hc => absurd hc (by decide))
    refine x_iload_n 169 rfl d_Mo_instance_168 rfl ?_
    refine x_iconst 170 rfl d_Mo_instance_169 1 (by decide) ?_
    refine x_icmp_ne 183 173 rfl d_Mo_instance_170 (by decide) (fun hc => ?_) (fun hc => absurd hc (by decide))
    refine x_iload_n 184 rfl d_Mo_instance_183 rfl ?_
    refine x_iconst 185 rfl d_Mo_instance_184 4 (by decide) ?_
    refine x_icmp_ne 198 188 rfl d_Mo_instance_185 (by decide) (fun hc => ?_) (fun hc => absurd hc (by decide))
    refine x_iload_n 199 rfl d_Mo_instance_198 rfl ?_
    refine x_iconst 200 rfl d_Mo_instance_199 5 (by decide) ?_
    refine x_icmp_ne 221 203 rfl d_Mo_instance_200 (by decide) (fun hc => ?_) (fun hc => absurd hc (by decide))
    refine x_aload_n 222 rfl d_Mo_instance_221 rfl ?_
    refine x_get 225 rfl f_Mo_89 d_Mo_instance_222 g1 rfl ?_
    refine x_iload 227 rfl d_Mo_instance_225 rfl ?_
    refine x_iald 228 rfl d_Mo_instance_227 g26 (t0 := 0) rfl (vp_in_nI (by omega) (by decide)) ?_
    refine x_iret d_Mo_instance_228 rfl ?_
    rw [nI_clamp (by omega), hd.c26]
    exact h
end CI
