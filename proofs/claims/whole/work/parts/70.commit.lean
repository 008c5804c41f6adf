/-! THE REFERENCE: COMMIT -/
def eN (g : Nat → Bool) : Nat → Bool
  | 0 => false
  | n + 1 => eN g n || g n
theorem any_4 : ∀ a b c d : Bool, (a || (b || (c || (d || false)))) = ((((false || a) || b) || c) || d) := by decide
theorem any_iff (p : Nat → Bool) : (List.range 4).any p = eN p 4 := any_4 (p 0) (p 1) (p 2) (p 3)
/-- ledger and queue, behind the transactions up to k -/
def cR (ν : sN) (e k : Nat) : List Int32 × List Int32 := (List.range' 1 k).foldl (nC1 ν e) (ν.2.2.2.1, ν.2.2.1)
theorem cR_s (ν : sN) (e k : Nat) : cR ν e (k + 1) = nC1 ν e (cR ν e k) (k + 1) := by
  unfold cR
  rw [List.range'_concat, List.foldl_append]
  show nC1 ν e _ (1 + 1 * k) = nC1 ν e _ (k + 1)
  rw [show 1 + 1 * k = k + 1 from by omega]
theorem cR_len {ν : sN} {e k : Nat} (hk : k ≤ 255) (h : nQk ν e) : (cR ν e k).1.length ≤ 8 * e + 8 ∧ (cR ν e k).2.length ≤ ν.2.2.1.length := by
  refine ⟨?_, nC_len ν e _ _⟩
  have h1 := (nC_fold ν e (List.range' 1 k) (ν.2.2.2.1, ν.2.2.1)).1
  have h2 := nAcc_8 ν e 1 k
  have h4 := h.2
  unfold cR
  dsimp only at h1
  omega
theorem nFr.b {M0 M M' : Nat → Nat → Int32} {n : Nat} (h : nFr M0 M n) (h2 : nFr M M' n) : nFr M0 M' n := h.tr h2
section CM
variable {X : xPar} {m0 : Nat} {t : Int32} {n e : Nat} {s : sS} {M0 : Nat → Nat → Int32} {lg : List sPo} {ν : sN} {w0 w : xW} {P : Option Value → xW → Prop}
theorem mN.b {M1 : Nat → Nat → Int32} {w1 : xW} (h : mN X m0 t n s M1 lg ν w1 w) (hF : nFr M0 M1 n) (hw : fr w0 w1 m0 (m0 + 31)) : mN X m0 t n s M0 lg ν w0 w := by
  obtain ⟨gv, g, M, a, b, c, d, f, k⟩ := h
  exact ⟨gv, g, M, a, b, c, hF.tr d, hw.tr f, k⟩
theorem s_Mo_commit {nn : Int32} (q1 : nn = nI n) (hn : n < 4) (he : e < 4) (hep : ν.1 = e + 1) (hl : lg.length < 1700) (hm : mN X m0 t n s M0 lg ν w0 w)
    (h3 : ∀ w', e = 3 → mN X m0 t n (s.1, s.2.1, s.2.2.1, s.2.2.2.1, -1, 4) M0 lg (nCm ν e) w0 w' → P none w')
    (h4 : ∀ w', e < 3 → mN X m0 t n (s.1, s.2.1, s.2.2.1, s.2.2.2.1, -1, 0) M0 (lg ++ [(nPr n (nCm ν e), 0)]) (nCm ν e) w0 w' → P none w') : xE (xGG X) 2 m_Mo_commit 0 [(0, .ref m0), (1, .int nn)] [] w P := by
  subst q1
  obtain ⟨gv, g, M, hR, hg, hN, hF, hw, hI⟩ := hm
  have hQ : nQk ν e := by
    have := hI.2.2.2.2.1
    rw [show ν.1 - 1 = e from by omega] at this
    exact this
  have hlen := hI.2.2.1
  have loop : ∀ (m k : Nat) (cc : Int32) (M' : Nat → Nat → Int32) (w' : xW), cc = nI (k + 1) → k + m = 255 → rMo X m0 t (s.1, s.2.1, nI lg.length, gv, s.2.2.2.2) M' w' → qRel M' n (cR ν e k).2 (cR ν e k).1 → (∀ j, (j < 4 ∨ 8 ≤ j) → M' j = M j) → nFr M M' n → fr w w' m0 (m0 + 31) → xE (xGG X) 2 m_Mo_commit 2 [(0, .ref m0), (1, .int (nI n)), (2, .int cc)] [] w' P := by
    intro m
    induction m with
    | zero =>
      intro k cc M' w' hcc hk R' hq' e' F' f'
      have hk : k = 255 := by omega
      subst hk hcc
      have c1 := R'.1
      have c3 := R'.a3
      refine x_iload_n 3 rfl d_Mo_commit_2 rfl ?_
      refine x_sipush 6 rfl d_Mo_commit_3 255 (by decide) ?_
      refine x_icmp_gt 134 9 rfl d_Mo_commit_6 (by decide) (fun hc => ?_) (fun hc => absurd (by decide) hc)
      refine x_aload_n 135 rfl d_Mo_commit_134 rfl ?_
      refine x_iload_n 136 rfl d_Mo_commit_135 rfl ?_
      refine x_aload_n 137 rfl d_Mo_commit_136 rfl ?_
      refine x_get 140 rfl f_Mo_19 d_Mo_commit_137 c1 rfl ?_
      refine x_iload_n 141 rfl d_Mo_commit_140 rfl ?_
      refine x_iald 142 rfl d_Mo_commit_141 c3 (t0 := 0) rfl (vp_in_nI (by omega) (by decide)) ?_
      rw [nI_clamp (by omega), e' 3 (by decide), hN.1, hep, nI_ep]
      refine x_iconst 143 rfl d_Mo_commit_142 1 (by decide) ?_
      refine x_iadd 144 rfl d_Mo_commit_143 ?_
      rw [nI_1]
      refine y_callV 147 rfl [_, _] _ rfl d_Mo_commit_144 c1 rfl c_Mo_193 rfl (Nat.le_of_ble_eq_true rfl) (Nat.le_of_ble_eq_true rfl) (Nat.le_of_ble_eq_true rfl) (s_Mo_enter (s := s) (ν := nCm ν e) (e := e + 1) rfl rfl hn (by omega) (by show ν.1 + 1 = e + 1 + 1; omega) R' ⟨hg.1, fun j p hj => by rw [e' 0 (by decide), e' 1 (by decide), e' 2 (by decide)]; exact hg.2 j p hj⟩ hq' (fun k hk => (hN.2.2.1 k hk).oth2 (fun j a b => e' j (by omega))) (nCm_inv he hep hI) (fun z i hi => hI.2.1 (4 * (e + 1) + i) (by omega) (by omega)) hl (fun w2 z1 z2 => ?_) (fun w2 z1 z2 => ?_))
      · refine x_vret d_Mo_commit_147 rfl ?_
        exact h3 w2 (by omega) (z2.b (hF.tr F') (hw.tr f'))
      · refine x_vret d_Mo_commit_147 rfl ?_
        exact h4 w2 (by omega) (z2.b (hF.tr F') (hw.tr f'))
    | succ m ih =>
      intro k cc M' w' hcc hk R' hq' e' F' f'
      subst hcc
      have c1 := R'.1
      have c22 := R'.a22
      have c28 := R'.a28
      have c6 := R'.a6
      have c7 := R'.a7
      obtain ⟨len1, len2⟩ := cR_len (k := k) (by omega) hQ
      have hs := cR_s ν e k
      have next : ∀ (M2 : Nat → Nat → Int32) (w2 : xW) (lc : List (Nat × Value)), xlk lc 0 = some (.ref m0) → xlk lc 1 = some (.int (nI n)) → xlk lc 2 = some (.int (nI (k + 1))) → rMo X m0 t (s.1, s.2.1, nI lg.length, gv, s.2.2.2.2) M2 w2 → qRel M2 n (cR ν e (k + 1)).2 (cR ν e (k + 1)).1 → (∀ j, (j < 4 ∨ 8 ≤ j) → M2 j = M j) → nFr M M2 n → fr w w2 m0 (m0 + 31) → xE (xGG X) 2 m_Mo_commit 128 lc [] w2 P := by
        intro M2 w2 lc l0 l1 l2 a1 a2 a3 a4 a5
        refine xE.fit (lc' := [(0, .ref m0), (1, .int (nI n)), (2, .int (nI (k + 1)))]) ?_ (by simp only [List.map_cons, List.map_nil, l0, l1, l2])
        refine x_iinc 131 rfl d_Mo_commit_128 rfl 1 (by decide) (by decide) ?_
        refine x_goto d_Mo_commit_131 2 (by decide) ?_
        rw [nI_1]
        exact xE.fit (ih (k + 1) _ M2 w2 rfl (by omega) a1 a2 a3 a4 a5) rfl
      have inner : ∀ (m j : Nat) (c2 : Int32), c2 = nI (4 * n + j) → j + m = 4 → xE (xGG X) 2 m_Mo_commit 16 [(0, .ref m0), (1, .int (nI n)), (2, .int (nI (k + 1))), (3, .int (nB (eN (nA1 ν e (k + 1)) j))), (4, .int c2)] [] w' P := by
        intro m
        induction m with
        | zero =>
          intro j c2 hc2 hj
          have hj4 : j = 4 := by omega
          subst hj4 hc2
          refine x_iload 18 rfl d_Mo_commit_16 rfl ?_
          refine x_iconst 19 rfl d_Mo_commit_18 4 (by decide) ?_
          refine x_iload_n 20 rfl d_Mo_commit_19 rfl ?_
          refine x_imul 21 rfl d_Mo_commit_20 ?_
          refine x_iconst 22 rfl d_Mo_commit_21 4 (by decide) ?_
          refine x_iadd 23 rfl d_Mo_commit_22 ?_
          rw [show (4 : Int32) * nI n + 4 = nI (4 * n + 4) from i4 n 4]
          refine x_icmp_ge 82 26 rfl d_Mo_commit_23 (by decide) (fun hc => ?_) (fun hc => absurd (nI_le (by omega) (by omega)) hc)
          refine x_iload_n 83 rfl d_Mo_commit_82 rfl ?_
          rw [← any_iff]
          show xE (xGG X) 2 m_Mo_commit 83 _ [.int (nB (nAcc ν e (k + 1)))] w' P
          refine x_if_eq 128 86 rfl d_Mo_commit_83 (by decide) (fun hc => ?_) (fun hc => ?_)
          · have z := (nB_0 _).mp hc
            have e1 : cR ν e (k + 1) = cR ν e k := by rw [hs]; unfold nC1; rw [z]; rfl
            exact next M' w' _ rfl rfl rfl R' (by rw [e1]; exact hq') e' F' f'
          have z := nB_ne hc
          refine x_aload_n 87 rfl d_Mo_commit_86 rfl ?_
          refine x_iload_n 88 rfl d_Mo_commit_87 rfl ?_
          refine x_iload_n 89 rfl d_Mo_commit_88 rfl ?_
          refine y_callV 92 rfl [_, _] _ rfl d_Mo_commit_89 c1 rfl c_Mo_143 rfl (Nat.le_of_ble_eq_true rfl) (Nat.le_of_ble_eq_true rfl) (Nat.le_of_ble_eq_true rfl) (s_Mo_isBooked rfl hn R' hq' (by omega) ?_)
          refine x_if_ne 128 95 rfl d_Mo_commit_92 (by decide) (fun hc => ?_) (fun hc => ?_)
          · have y := nB_ne hc
            have e1 : cR ν e (k + 1) = cR ν e k := by rw [hs]; unfold nC1; rw [y, if_neg (by simp)]
            exact next M' w' _ rfl rfl rfl R' (by rw [e1]; exact hq') e' F' f'
          have y := (nB_0 _).mp hc
          have e1 : cR ν e (k + 1) = ((cR ν e k).1 ++ [nI (k + 1)], (cR ν e k).2.filter (fun x => decide (x ≠ nI (k + 1)))) := by rw [hs]; unfold nC1; rw [z, y]; rfl
          generalize cR ν e k = r at len1 len2 hs hq' y e1
          refine x_aload_n 96 rfl d_Mo_commit_95 rfl ?_
          refine x_get 99 rfl f_Mo_31 d_Mo_commit_96 c1 rfl ?_
          refine x_bipush 101 rfl d_Mo_commit_99 40 (by decide) ?_
          refine x_iload_n 102 rfl d_Mo_commit_101 rfl ?_
          refine x_imul 103 rfl d_Mo_commit_102 ?_
          refine x_aload_n 104 rfl d_Mo_commit_103 rfl ?_
          refine x_get 107 rfl f_Mo_28 d_Mo_commit_104 c1 rfl ?_
          refine x_iload_n 108 rfl d_Mo_commit_107 rfl ?_
          refine x_iald 109 rfl d_Mo_commit_108 c6 (t0 := 0) rfl (vp_in_nI (by omega) (by decide)) ?_
          rw [nI_clamp (by omega), hq'.2.2.1]
          refine x_iadd 110 rfl d_Mo_commit_109 ?_
          rw [i40]
          refine x_iload_n 111 rfl d_Mo_commit_110 rfl ?_
          refine x_iast 112 rfl d_Mo_commit_111 c7 (t0 := 0) rfl (vp_in_nI (by omega) (by decide)) ?_
          rw [nI_clamp (by omega)]
          have R2 := R'.put (j := 7) (i := 40 * n + r.1.length) (x := nI (k + 1)) (by decide)
          generalize hw2 : xset w' (m0 + 1 + 7) _ = w2
          have R2 : rMo X m0 t (s.1, s.2.1, nI lg.length, gv, s.2.2.2.2) (va_up M' 7 (upd (M' 7) (40 * n + r.1.length) (nI (k + 1)))) w2 := by rw [← hw2]; exact R2
          have f2 : fr w w2 m0 (m0 + 31) := by rw [← hw2]; exact f'.set _ (by omega) (by omega)
          have F2 : nFr M (va_up M' 7 (upd (M' 7) (40 * n + r.1.length) (nI (k + 1)))) n := F'.up (by show (40 * n + r.1.length) / 40 = n; omega)
          generalize hM2 : va_up M' 7 (upd (M' 7) (40 * n + r.1.length) (nI (k + 1))) = M2 at R2 F2
          have m2 : ∀ j, j ≠ 7 → M2 j = M' j := fun j hj => by rw [← hM2, va_up_ne _ _ hj]
          have m7 : M2 7 = upd (M' 7) (40 * n + r.1.length) (nI (k + 1)) := by rw [← hM2, va_up_self]
          have d1 := R2.1
          have d6 := R2.a6
          refine x_aload_n 113 rfl d_Mo_commit_112 rfl ?_
          refine x_get 116 rfl f_Mo_28 d_Mo_commit_113 d1 rfl ?_
          refine x_iload_n 117 rfl d_Mo_commit_116 rfl ?_
          refine x_dup2 118 rfl d_Mo_commit_117 rfl rfl ?_
          refine x_iald 119 rfl d_Mo_commit_118 d6 (t0 := 0) rfl (vp_in_nI (by omega) (by decide)) ?_
          rw [nI_clamp (by omega), m2 6 (by decide), hq'.2.2.1]
          refine x_iconst 120 rfl d_Mo_commit_119 1 (by decide) ?_
          refine x_iadd 121 rfl d_Mo_commit_120 ?_
          rw [nI_1]
          refine x_iast 122 rfl d_Mo_commit_121 d6 (t0 := 0) rfl (vp_in_nI (by omega) (by decide)) ?_
          rw [nI_clamp (by omega)]
          have R3 := R2.put (j := 6) (i := n) (x := nI (r.1.length + 1)) (by decide)
          generalize hw3 : xset w2 (m0 + 1 + 6) _ = w3
          have R3 : rMo X m0 t (s.1, s.2.1, nI lg.length, gv, s.2.2.2.2) (va_up M2 6 (upd (M2 6) n (nI (r.1.length + 1)))) w3 := by rw [← hw3]; exact R3
          have f3 : fr w w3 m0 (m0 + 31) := by rw [← hw3]; exact f2.set _ (by omega) (by omega)
          have F3 : nFr M (va_up M2 6 (upd (M2 6) n (nI (r.1.length + 1)))) n := F2.up (Nat.div_one n)
          generalize hM3 : va_up M2 6 (upd (M2 6) n (nI (r.1.length + 1))) = M3 at R3 F3
          have m3 : ∀ j, j ≠ 6 → M3 j = M2 j := fun j hj => by rw [← hM3, va_up_ne _ _ hj]
          have q3 : qRel M3 n r.2 (r.1 ++ [nI (k + 1)]) := by
            refine ⟨?_, ?_, ?_, ?_⟩
            · rw [m3 4 (by decide), m2 4 (by decide)]; exact hq'.1
            · rw [m3 5 (by decide), m2 5 (by decide)]; exact hq'.2.1
            · rw [← hM3, va_up_self, upd_at, List.length_append, List.length_singleton]
            · rw [m3 7 (by decide), m7, List.length_append, List.length_singleton]
              intro j hj
              by_cases zz : j = r.1.length
              · rw [zz, upd_at, gD_one]
              · rw [upd_ne _ _ (by omega), gD_app (by omega)]; exact hq'.2.2.2 j (by omega)
          have d1 := R3.1
          refine x_aload_n 123 rfl d_Mo_commit_122 rfl ?_
          refine x_iload_n 124 rfl d_Mo_commit_123 rfl ?_
          refine x_iload_n 125 rfl d_Mo_commit_124 rfl ?_
          refine y_callV 128 rfl [_, _] _ rfl d_Mo_commit_125 d1 rfl c_Mo_242 rfl (Nat.le_of_ble_eq_true rfl) (Nat.le_of_ble_eq_true rfl) (Nat.le_of_ble_eq_true rfl) (s_Mo_unqueue (x := nI (k + 1)) rfl hn R3 q3 (by omega) (fun w4 M4 a1 a2 a3 a4 a5 => ?_))
          exact next M4 w4 _ rfl rfl rfl a1 (by rw [e1]; exact a2) (fun j hj => by rw [a3 j (by omega) (by omega), m3 j (by omega), m2 j (by omega)]; exact e' j hj) (F3.tr a4) (f3.tr a5)
        | succ m ih2 =>
          intro j c2 hc2 hj
          subst hc2
          have hj4 : j < 4 := by omega
          have hD := hN.2.2.2.1 e hep he j hj4
          have hb := (hI.1 (4 * e + j) (by omega)).2.2.2
          have ok := (hI.1 (4 * e + j) (by omega)).1
          have C75 : ∀ (b : Bool) (lc : List (Nat × Value)), b = eN (nA1 ν e (k + 1)) (j + 1) → xlk lc 0 = some (.ref m0) → xlk lc 1 = some (.int (nI n)) → xlk lc 2 = some (.int (nI (k + 1))) → xlk lc 4 = some (.int (nI (4 * n + j))) → xE (xGG X) 2 m_Mo_commit 75 lc [.int (nB b)] w' P := by
            intro b lc hb l0 l1 l2 l4
            refine xE.fit (lc' := [(0, .ref m0), (1, .int (nI n)), (2, .int (nI (k + 1))), (4, .int (nI (4 * n + j)))]) ?_ (by simp only [List.map_cons, List.map_nil, l0, l1, l2, l4])
            refine x_istore_n 76 rfl d_Mo_commit_75 (by decide) ?_
            refine x_iinc 79 rfl d_Mo_commit_76 rfl 1 (by decide) (by decide) ?_
            refine x_goto d_Mo_commit_79 16 (by decide) ?_
            rw [nI_1, hb]
            exact xE.fit (ih2 (j + 1) _ rfl (by omega)) rfl
          have T : (eN (nA1 ν e (k + 1)) j || nA1 ν e (k + 1) j) = true → ∀ lc, xlk lc 0 = some (.ref m0) → xlk lc 1 = some (.int (nI n)) → xlk lc 2 = some (.int (nI (k + 1))) → xlk lc 4 = some (.int (nI (4 * n + j))) → xE (xGG X) 2 m_Mo_commit 70 lc [] w' P := by
            intro z lc l0 l1 l2 l4
            refine xE.fit (lc' := [(0, .ref m0), (1, .int (nI n)), (2, .int (nI (k + 1))), (4, .int (nI (4 * n + j)))]) ?_ (by simp only [List.map_cons, List.map_nil, l0, l1, l2, l4])
            refine x_iconst 71 rfl d_Mo_commit_70 1 (by decide) ?_
            refine x_goto d_Mo_commit_71 75 (by decide) ?_
            exact C75 true _ z.symm rfl rfl rfl rfl
          have Fa : (eN (nA1 ν e (k + 1)) j || nA1 ν e (k + 1) j) = false → ∀ lc, xlk lc 0 = some (.ref m0) → xlk lc 1 = some (.int (nI n)) → xlk lc 2 = some (.int (nI (k + 1))) → xlk lc 4 = some (.int (nI (4 * n + j))) → xE (xGG X) 2 m_Mo_commit 74 lc [] w' P := by
            intro z lc l0 l1 l2 l4
            refine xE.fit (lc' := [(0, .ref m0), (1, .int (nI n)), (2, .int (nI (k + 1))), (4, .int (nI (4 * n + j)))]) ?_ (by simp only [List.map_cons, List.map_nil, l0, l1, l2, l4])
            refine x_iconst 75 rfl d_Mo_commit_74 0 (by decide) ?_
            exact C75 false _ z.symm rfl rfl rfl rfl
          refine x_iload 18 rfl d_Mo_commit_16 rfl ?_
          refine x_iconst 19 rfl d_Mo_commit_18 4 (by decide) ?_
          refine x_iload_n 20 rfl d_Mo_commit_19 rfl ?_
          refine x_imul 21 rfl d_Mo_commit_20 ?_
          refine x_iconst 22 rfl d_Mo_commit_21 4 (by decide) ?_
          refine x_iadd 23 rfl d_Mo_commit_22 ?_
          rw [show (4 : Int32) * nI n + 4 = nI (4 * n + 4) from i4 n 4]
          refine x_icmp_ge 82 26 rfl d_Mo_commit_23 (by decide) (fun hc => absurd hc (nI_ge (by omega) (by omega))) (fun hc => ?_)
          refine x_iload_n 27 rfl d_Mo_commit_26 rfl ?_
          refine x_if_ne 70 30 rfl d_Mo_commit_27 (by decide) (fun hc => ?_) (fun hc => ?_)
          · exact T (by rw [nB_ne hc]; rfl) _ rfl rfl rfl rfl
          have z0 := (nB_0 _).mp hc
          refine x_aload_n 31 rfl d_Mo_commit_30 rfl ?_
          refine x_get 34 rfl f_Mo_95 d_Mo_commit_31 c1 rfl ?_
          refine x_iload 36 rfl d_Mo_commit_34 rfl ?_
          refine x_iald 37 rfl d_Mo_commit_36 c28 (t0 := 0) rfl (vp_in_nI (by omega) (by decide)) ?_
          refine x_iconst 38 rfl d_Mo_commit_37 1 (by decide) ?_
          rw [nI_clamp (by omega), e' 28 (by decide), hD.c28]
          refine x_icmp_ne 74 41 rfl d_Mo_commit_38 (by decide) (fun hc => ?_) (fun hc => ?_)
          · have z1 : ¬ (nA' ν e j).2 2 = 2 := fun z => hc ((iD_ne _ ok.2.2.1 1 (by decide)).mpr z)
            exact Fa (by rw [z0]; unfold nA1; rw [decide_eq_false z1, Bool.and_false]; rfl) _ rfl rfl rfl rfl
          have z1 : (nA' ν e j).2 2 = 2 := (iD_ne _ ok.2.2.1 1 (by decide)).mp hc
          have hv := acc_v (tt := k + 1) (by omega) hb
          refine x_aload_n 42 rfl d_Mo_commit_41 rfl ?_
          refine x_get 45 rfl f_Mo_77 d_Mo_commit_42 c1 rfl ?_
          refine x_iload 47 rfl d_Mo_commit_45 rfl ?_
          refine x_iald 48 rfl d_Mo_commit_47 c22 (t0 := 0) rfl (vp_in_nI (by omega) (by decide)) ?_
          refine x_sipush 51 rfl d_Mo_commit_48 255 (by decide) ?_
          refine x_iand 52 rfl d_Mo_commit_51 ?_
          refine x_iload_n 53 rfl d_Mo_commit_52 rfl ?_
          rw [nI_clamp (by omega), e' 22 (by decide), hD.c22]
          have yes : ((nB' ν e j).2 2 &&& 255 = nI (k + 1) ∨ (nB' ν e j).2 2 >>> ((8 : Int32) &&& 31) = nI (k + 1)) → nA1 ν e (k + 1) j = true := by
            intro z
            unfold nA1
            rw [Bool.and_eq_true, Bool.or_eq_true, decide_eq_true_iff, decide_eq_true_iff, decide_eq_true_iff]
            exact ⟨hv.mp z, z1⟩
          refine x_icmp_eq 70 56 rfl d_Mo_commit_53 (by decide) (fun hc => ?_) (fun hc => ?_)
          · exact T (by rw [yes (Or.inl hc), Bool.or_true]) _ rfl rfl rfl rfl
          have n1 := hc
          refine x_aload_n 57 rfl d_Mo_commit_56 rfl ?_
          refine x_get 60 rfl f_Mo_77 d_Mo_commit_57 c1 rfl ?_
          refine x_iload 62 rfl d_Mo_commit_60 rfl ?_
          refine x_iald 63 rfl d_Mo_commit_62 c22 (t0 := 0) rfl (vp_in_nI (by omega) (by decide)) ?_
          refine x_bipush 65 rfl d_Mo_commit_63 8 (by decide) ?_
          refine x_ishr 66 rfl d_Mo_commit_65 ?_
          refine x_iload_n 67 rfl d_Mo_commit_66 rfl ?_
          rw [nI_clamp (by omega), e' 22 (by decide), hD.c22]
          refine x_icmp_ne 74 70 rfl d_Mo_commit_67 (by decide) (fun hc => ?_) (fun hc => ?_)
          · refine Fa ?_ _ rfl rfl rfl rfl
            rw [z0, Bool.false_or]
            cases hh : nA1 ν e (k + 1) j
            · rfl
            · unfold nA1 at hh
              rw [Bool.and_eq_true, Bool.or_eq_true, decide_eq_true_iff, decide_eq_true_iff, decide_eq_true_iff] at hh
              rcases hv.mpr hh.1 with z | z
              · exact absurd z n1
              · exact absurd z hc
          · exact T (by rw [yes (Or.inr hc), Bool.or_true]) _ rfl rfl rfl rfl
      refine x_iload_n 3 rfl d_Mo_commit_2 rfl ?_
      refine x_sipush 6 rfl d_Mo_commit_3 255 (by decide) ?_
      refine x_icmp_gt 134 9 rfl d_Mo_commit_6 (by decide) (fun hc => absurd hc (by rw [Int32.not_lt]; exact nI_le (a := k + 1) (b := 255) (by omega) (by decide))) (fun hc => ?_)
      refine x_iconst 10 rfl d_Mo_commit_9 0 (by decide) ?_
      refine x_istore_n 11 rfl d_Mo_commit_10 (by decide) ?_
      refine x_iconst 12 rfl d_Mo_commit_11 4 (by decide) ?_
      refine x_iload_n 13 rfl d_Mo_commit_12 rfl ?_
      refine x_imul 14 rfl d_Mo_commit_13 ?_
      refine x_istore 16 rfl d_Mo_commit_14 (by decide) ?_
      rw [i4']
      exact xE.fit (inner 4 0 _ rfl (by omega)) rfl
  refine x_iconst 1 rfl d_Mo_commit_0 1 (by decide) ?_
  refine x_istore_n 2 rfl d_Mo_commit_1 (by decide) ?_
  exact xE.fit (loop 255 0 1 M w rfl (by omega) hR hN.2.1 (fun _ _ => rfl) (nFr.rf _ _) (fr.rf _ _ _)) rfl
end CM
