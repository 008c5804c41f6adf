/-! THE REFERENCE: ENTER -/
section EN
variable {X : xPar} {m0 : Nat} {t : Int32} {n e : Nat} {s : sS} {M : Nat → Nat → Int32} {lg : List sPo} {ν : sN} {w : xW} {P : Option Value → xW → Prop}
theorem pRel.oth2 {M M' : Nat → Nat → Int32} {a : Nat} {β : sB} {α : sA} (h : pRel M a β α) (e : ∀ j, 8 ≤ j → j < 22 → M' j = M j) : pRel M' a β α := fun j idx h1 h2 h3 => by rw [e j h1 h2]; exact h j idx h1 h2 h3
theorem nPs.c {M M' : Nat → Nat → Int32} {n : Nat} {ν : sN} (h : nPs M n ν) (e : ∀ j, 8 ≤ j → j < 22 → M' j = M j) : nPs M' n ν := fun k hk => (h k hk).oth2 e
/-- the cells of the epoch, as enter leaves them -/
def eVal (j : Nat) : Int32 := match j with
  | 22 => -1
  | 28 => -1
  | _ => 0
theorem eVal_d {β : sB} {α : sA} (h : nFs β α) {j : Nat} (h1 : 22 ≤ j) (h2 : j < 30) : dVal β α 0 j = eVal j := by
  obtain ⟨k1, k2, k3, k4, k5, k6, k7⟩ := h
  rcases dc h1 h2 with rfl | rfl | rfl | rfl | rfl | rfl | rfl | rfl
  · exact k1
  · show nB (α.1 0) = 0; rw [k2]; rfl
  · show nI (α.2 1) = 0; rw [k5]; rfl
  · show nI (α.2 0) = 0; rw [k4]; rfl
  · show nI (α.2 3) = 0; rw [k7]; rfl
  · rfl
  · show iD (α.2 2) = -1; rw [k6]; rfl
  · show nB (α.1 1) = 0; rw [k3]; rfl
theorem gD_none {q : List Int32} {k : Nat} (h : q.length ≤ k) : q.getD k 0 = 0 := by
  rw [List.getD_eq_getElem?_getD, List.getElem?_eq_none h]; rfl
theorem s_Mo_enter {nn ee gv : Int32} (q1 : nn = nI n) (q2 : ee = nI e) (hn : n < 4) (he : e < 5) (hep : ν.1 = e + 1) (hR : rMo X m0 t (s.1, s.2.1, nI lg.length, gv, s.2.2.2.2) M w) (hg : gRel lg M) (hq : qRel M n ν.2.2.1 ν.2.2.2.1) (hp : nPs M n ν) (hI : nInv ν) (hfs : e < 4 → ∀ i, i < 4 → nFs (nB' ν e i) (nA' ν e i)) (hl : lg.length < 1700)
    (h3 : ∀ w', e = 4 → mN X m0 t n (s.1, s.2.1, s.2.2.1, s.2.2.2.1, -1, 4) M lg ν w w' → P none w')
    (h4 : ∀ w', e < 4 → mN X m0 t n (s.1, s.2.1, s.2.2.1, s.2.2.2.1, -1, 0) M (lg ++ [(nPr n ν, 0)]) ν w w' → P none w') : xE (xGG X) 1 m_Mo_enter 0 [(0, .ref m0), (1, .int nn), (2, .int ee)] [] w P := by
  subst q1 q2
  have g1 := hR.1
  have g3 := hR.a3
  refine x_aload_n 1 rfl d_Mo_enter_0 rfl ?_
  refine x_get 4 rfl f_Mo_19 d_Mo_enter_1 g1 rfl ?_
  refine x_iload_n 5 rfl d_Mo_enter_4 rfl ?_
  refine x_iload_n 6 rfl d_Mo_enter_5 rfl ?_
  refine x_iast 7 rfl d_Mo_enter_6 g3 (t0 := 0) rfl (vp_in_nI (by omega) (by decide)) ?_
  rw [nI_clamp (by omega)]
  have R1 := hR.put (j := 3) (i := n) (x := nI e) (by decide)
  have F1 : nFr M (va_up M 3 (upd (M 3) n (nI e))) n := (nFr.rf M n).up (Nat.div_one n)
  have m3 : va_up M 3 (upd (M 3) n (nI e)) 3 n = iD ν.1 := by rw [va_up_self, upd_at, hep, nI_ep]
  have q3 : ∀ j, 4 ≤ j → va_up M 3 (upd (M 3) n (nI e)) j = M j := fun j hj => va_up_ne _ _ (by omega)
  have G1 : gRel lg (va_up M 3 (upd (M 3) n (nI e))) := hg.up (by decide)
  generalize hw1 : xset w (m0 + 1 + 3) _ = w1
  have R1 : rMo X m0 t (s.1, s.2.1, nI lg.length, gv, s.2.2.2.2) (va_up M 3 (upd (M 3) n (nI e))) w1 := by rw [← hw1]; exact R1
  have f1 : fr w w1 m0 (m0 + 31) := by rw [← hw1]; exact (fr.rf w _ _).set _ (by omega) (by omega)
  generalize va_up M 3 (upd (M 3) n (nI e)) = M1 at R1 F1 m3 q3 G1
  have k1 := R1.1
  refine x_aload_n 8 rfl d_Mo_enter_7 rfl ?_
  refine x_iconst 9 rfl d_Mo_enter_8 (-1) (by decide) ?_
  refine x_put 12 rfl p_Mo_165 (fun h => nomatch h) d_Mo_enter_9 k1 rfl rfl (Nat.le_of_ble_eq_true rfl) ?_
  have R2 : rMo X m0 t (s.1, s.2.1, nI lg.length, gv, -1, s.2.2.2.2.2) M1 _ := R1.fld
  generalize hw2 : xset w1 m0 _ = w2
  have R2 : rMo X m0 t (s.1, s.2.1, nI lg.length, gv, -1, s.2.2.2.2.2) M1 w2 := by rw [← hw2]; exact R2
  have f2 : fr w w2 m0 (m0 + 31) := by rw [← hw2]; exact f1.set _ (by omega) (by omega)
  have k2 := R2.1
  refine x_aload_n 13 rfl d_Mo_enter_12 rfl ?_
  refine x_iconst 14 rfl d_Mo_enter_13 4 (by decide) ?_
  refine x_put 17 rfl p_Mo_168 (fun h => nomatch h) d_Mo_enter_14 k2 rfl rfl (Nat.le_of_ble_eq_true rfl) ?_
  have R3 : rMo X m0 t (s.1, s.2.1, nI lg.length, gv, -1, 4) M1 _ := R2.fld
  generalize hw3 : xset w2 m0 _ = w3
  have R3 : rMo X m0 t (s.1, s.2.1, nI lg.length, gv, -1, 4) M1 w3 := by rw [← hw3]; exact R3
  have f3 : fr w w3 m0 (m0 + 31) := by rw [← hw3]; exact f2.set _ (by omega) (by omega)
  refine x_iload_n 18 rfl d_Mo_enter_17 rfl ?_
  refine x_iconst 19 rfl d_Mo_enter_18 3 (by decide) ?_
  refine x_icmp_le 23 22 rfl d_Mo_enter_19 (by decide) (fun hc => ?_) (fun hc => ?_)
  rotate_left
  · have z : e = 4 := by
      by_cases z : e ≤ 3
      · exact absurd (nI_le (a := e) (b := 3) z (by decide)) hc
      · omega
    refine x_vret d_Mo_enter_22 rfl ?_
    refine h3 w3 z ⟨gv, fun _ => 0, M1, R3, G1, ⟨m3, hq.c (fun j a _ => q3 j a), hp.c (fun j a _ => q3 j (by omega)), fun e' k1 k2 => by omega, fun _ => by show 0 < 2; decide⟩, F1, f3, hI⟩
  have he4 : e < 4 := by
    have := (nI_leI (a := e) (b := 3) (by omega) (by decide)).mp hc
    omega
  have hfs := hfs he4
  have k3 := R3.1
  -- the cells of the epoch
  have tail : ∀ (M' : Nat → Nat → Int32) (w' : xW), rMo X m0 t (s.1, s.2.1, nI lg.length, gv, -1, 4) M' w' → (∀ j, j < 22 → M' j = M1 j) → (∀ j i, 22 ≤ j → j < 30 → i < 4 → M' j (4 * n + i) = eVal j) → nFr M M' n → fr w w' m0 (m0 + 31) → xE (xGG X) 1 m_Mo_enter 98 [(0, .ref m0), (1, .int (nI n)), (2, .int (nI e))] [] w' P := by
    intro M' w' R' q' d' F' f'
    have k1 := R'.1
    have k4 := R'.a4
    have k5 := R'.a5
    have hq' : qRel M' n ν.2.2.1 ν.2.2.2.1 := (hq.c (fun j a _ => q3 j a)).c (fun j a b => q' j (by omega))
    have hN' : nRel M' n ν (fun _ => 0) := ⟨by rw [q' 3 (by decide)]; exact m3, hq', (hp.c (fun j a _ => q3 j (by omega))).c (fun j a b => q' j b), fun e' z1 z2 i hi j a b => by
      have z3 : e' = e := by omega
      subst z3
      rw [d' j i a b hi, eVal_d (hfs i hi) a b], fun _ => by show 0 < 2; decide⟩
    have G' : gRel lg M' := ⟨G1.1, fun j p hj => by rw [q' 0 (by decide), q' 1 (by decide), q' 2 (by decide)]; exact G1.2 j p hj⟩
    have hlen := hI.2.2.1
    have tail2 : xE (xGG X) 1 m_Mo_enter 148 [(0, .ref m0), (1, .int (nI n)), (2, .int (nI e)), (3, .int (ν.2.2.1.getD 0 0)), (4, .int (ν.2.2.1.getD 1 0))] [] w' P := by
      refine x_aload_n 149 rfl d_Mo_enter_148 rfl ?_
      refine x_iload_n 150 rfl d_Mo_enter_149 rfl ?_
      refine x_iload_n 151 rfl d_Mo_enter_150 rfl ?_
      refine x_iload_n 152 rfl d_Mo_enter_151 rfl ?_
      refine x_iconst 153 rfl d_Mo_enter_152 0 (by decide) ?_
      refine x_iload_n 154 rfl d_Mo_enter_153 rfl ?_
      refine x_iload 156 rfl d_Mo_enter_154 rfl ?_
      refine x_iconst 157 rfl d_Mo_enter_156 0 (by decide) ?_
      refine y_callV 160 rfl [_, _, _, _, _, _, _] _ rfl d_Mo_enter_157 k1 rfl c_Mo_189 rfl (Nat.le_of_ble_eq_true rfl) (Nat.le_of_ble_eq_true rfl) (Nat.le_of_ble_eq_true rfl) (s_Mo_post (p := (nPr n ν, 0)) rfl (by show nI e = nI (ν.1 - 1); rw [hep]; rfl) rfl rfl rfl rfl rfl ⟨mOk_pr hn (by omega), by show 0 < 32; decide⟩ G' rfl hl R' (fun w2 M2 a1 a2 a3 a4 => ?_))
      have b1 := a1.1
      refine x_aload_n 161 rfl d_Mo_enter_160 rfl ?_
      refine x_iconst 162 rfl d_Mo_enter_161 0 (by decide) ?_
      refine x_put 165 rfl p_Mo_168 (fun h => nomatch h) d_Mo_enter_162 b1 rfl rfl (Nat.le_of_ble_eq_true rfl) ?_
      refine x_vret d_Mo_enter_165 rfl ?_
      have R5 : rMo X m0 t (s.1, s.2.1, nI (lg.length + 1), gv, -1, 0) M2 _ := a1.fld
      refine h4 _ he4 ⟨gv, fun _ => 0, M2, by rw [List.length_append, List.length_singleton]; exact R5, a2, ⟨?_, hN'.2.1.c (fun j a _ => a3 j (by omega)), hN'.2.2.1.c (fun j a _ => a3 j (by omega)), fun e' z1 z2 i hi => (hN'.2.2.2.1 e' z1 z2 i hi).cg a3, hN'.2.2.2.2⟩, F'.cg a3, (f'.tr a4).set _ (by omega) (by omega), hI⟩
      rw [a3 3 (by decide)]; exact hN'.1
    have tail1 : ∀ lc, xlk lc 0 = some (.ref m0) → xlk lc 1 = some (.int (nI n)) → xlk lc 2 = some (.int (nI e)) → xlk lc 3 = some (.int (ν.2.2.1.getD 0 0)) → xE (xGG X) 1 m_Mo_enter 121 lc [] w' P := by
      intro lc l0 l1 l2 l3
      refine xE.fit (lc' := [(0, .ref m0), (1, .int (nI n)), (2, .int (nI e)), (3, .int (ν.2.2.1.getD 0 0))]) ?_ (by simp only [List.map_cons, List.map_nil, l0, l1, l2, l3])
      refine x_aload_n 122 rfl d_Mo_enter_121 rfl ?_
      refine x_get 125 rfl f_Mo_22 d_Mo_enter_122 k1 rfl ?_
      refine x_iload_n 126 rfl d_Mo_enter_125 rfl ?_
      refine x_iald 127 rfl d_Mo_enter_126 k4 (t0 := 0) rfl (vp_in_nI (by omega) (by decide)) ?_
      refine x_iconst 128 rfl d_Mo_enter_127 1 (by decide) ?_
      rw [nI_clamp (by omega), hq'.1]
      refine x_icmp_le 145 131 rfl d_Mo_enter_128 (by decide) (fun hc => ?_) (fun hc => ?_)
      · have z : ν.2.2.1.length ≤ 1 := (nI_leI (b := 1) (by omega) (by decide)).mp hc
        have e1 := gD_none z
        rw [e1] at tail2
        refine x_iconst 146 rfl d_Mo_enter_145 0 (by decide) ?_
        refine x_istore 148 rfl d_Mo_enter_146 (by decide) ?_
        exact xE.fit tail2 rfl
      · have z : 1 < ν.2.2.1.length := by
          by_cases z : ν.2.2.1.length ≤ 1
          · exact absurd (nI_le (b := 1) z (by decide)) hc
          · omega
        refine x_aload_n 132 rfl d_Mo_enter_131 rfl ?_
        refine x_get 135 rfl f_Mo_25 d_Mo_enter_132 k1 rfl ?_
        refine x_bipush 137 rfl d_Mo_enter_135 12 (by decide) ?_
        refine x_iload_n 138 rfl d_Mo_enter_137 rfl ?_
        refine x_imul 139 rfl d_Mo_enter_138 ?_
        refine x_iconst 140 rfl d_Mo_enter_139 1 (by decide) ?_
        refine x_iadd 141 rfl d_Mo_enter_140 ?_
        rw [show (12 : Int32) * nI n + 1 = nI (12 * n + 1) from i12 n 1]
        refine x_iald 142 rfl d_Mo_enter_141 k5 (t0 := 0) rfl (vp_in_nI (by omega) (by decide)) ?_
        rw [nI_clamp (by omega), hq'.2.1 1 z]
        refine x_goto d_Mo_enter_142 146 (by decide) ?_
        refine x_istore 148 rfl d_Mo_enter_146 (by decide) ?_
        exact xE.fit tail2 rfl
    refine x_aload_n 99 rfl d_Mo_enter_98 rfl ?_
    refine x_get 102 rfl f_Mo_22 d_Mo_enter_99 k1 rfl ?_
    refine x_iload_n 103 rfl d_Mo_enter_102 rfl ?_
    refine x_iald 104 rfl d_Mo_enter_103 k4 (t0 := 0) rfl (vp_in_nI (by omega) (by decide)) ?_
    rw [nI_clamp (by omega), hq'.1]
    refine x_if_le 119 107 rfl d_Mo_enter_104 (by decide) (fun hc => ?_) (fun hc => ?_)
    · have z : ν.2.2.1.length = 0 := (nIle0 (by omega)).mp hc
      have e1 : ν.2.2.1.getD 0 0 = 0 := gD_none (by omega)
      rw [e1] at tail1
      refine x_iconst 120 rfl d_Mo_enter_119 0 (by decide) ?_
      refine x_istore_n 121 rfl d_Mo_enter_120 (by decide) ?_
      exact tail1 _ rfl rfl rfl rfl
    · have z : 0 < ν.2.2.1.length := by
        by_cases z : ν.2.2.1.length = 0
        · exact absurd ((nIle0 (by omega)).mpr z) hc
        · omega
      refine x_aload_n 108 rfl d_Mo_enter_107 rfl ?_
      refine x_get 111 rfl f_Mo_25 d_Mo_enter_108 k1 rfl ?_
      refine x_bipush 113 rfl d_Mo_enter_111 12 (by decide) ?_
      refine x_iload_n 114 rfl d_Mo_enter_113 rfl ?_
      refine x_imul 115 rfl d_Mo_enter_114 ?_
      rw [i12']
      refine x_iald 116 rfl d_Mo_enter_115 k5 (t0 := 0) rfl (vp_in_nI (by omega) (by decide)) ?_
      have e1 := hq'.2.1 0 z
      rw [Nat.add_zero] at e1
      rw [nI_clamp (by omega), e1]
      refine x_goto d_Mo_enter_116 120 (by decide) ?_
      refine x_istore_n 121 rfl d_Mo_enter_120 (by decide) ?_
      exact tail1 _ rfl rfl rfl rfl
  have loop : ∀ (m j : Nat) (cc : Int32) (M' : Nat → Nat → Int32) (w' : xW), cc = nI (4 * n + j) → j + m = 4 → rMo X m0 t (s.1, s.2.1, nI lg.length, gv, -1, 4) M' w' → (∀ j, j < 22 → M' j = M1 j) → (∀ k i, 22 ≤ k → k < 30 → i < j → M' k (4 * n + i) = eVal k) → nFr M M' n → fr w w' m0 (m0 + 31) → xE (xGG X) 1 m_Mo_enter 27 [(0, .ref m0), (1, .int (nI n)), (2, .int (nI e)), (3, .int cc)] [] w' P := by
    intro m
    induction m with
    | zero =>
      intro j cc M' w' hcc hj R' q' d' F' f'
      have hj4 : j = 4 := by omega
      subst hj4 hcc
      refine x_iload_n 28 rfl d_Mo_enter_27 rfl ?_
      refine x_iconst 29 rfl d_Mo_enter_28 4 (by decide) ?_
      refine x_iload_n 30 rfl d_Mo_enter_29 rfl ?_
      refine x_imul 31 rfl d_Mo_enter_30 ?_
      refine x_iconst 32 rfl d_Mo_enter_31 4 (by decide) ?_
      refine x_iadd 33 rfl d_Mo_enter_32 ?_
      rw [show (4 : Int32) * nI n + 4 = nI (4 * n + 4) from i4 n 4]
      refine x_icmp_ge 98 36 rfl d_Mo_enter_33 (by decide) (fun hc => ?_) (fun hc => absurd (nI_le (by omega) (by omega)) hc)
      exact xE.fit (tail M' w' R' q' d' F' f') rfl
    | succ m ih =>
      intro j cc M' w' hcc hj R' q' d' F' f'
      subst hcc
      refine x_iload_n 28 rfl d_Mo_enter_27 rfl ?_
      refine x_iconst 29 rfl d_Mo_enter_28 4 (by decide) ?_
      refine x_iload_n 30 rfl d_Mo_enter_29 rfl ?_
      refine x_imul 31 rfl d_Mo_enter_30 ?_
      refine x_iconst 32 rfl d_Mo_enter_31 4 (by decide) ?_
      refine x_iadd 33 rfl d_Mo_enter_32 ?_
      rw [show (4 : Int32) * nI n + 4 = nI (4 * n + 4) from i4 n 4]
      refine x_icmp_ge 98 36 rfl d_Mo_enter_33 (by decide) (fun hc => absurd hc (nI_ge (by omega) (by omega))) (fun hc => ?_)
      -- a row of writes
      have one : ∀ (p r jj : Nat) (x : Int32) (M2 : Nat → Nat → Int32) (w2 : xW), rMo X m0 t (s.1, s.2.1, nI lg.length, gv, -1, 4) M2 w2 → fr w w2 m0 (m0 + 31) → nFr M M2 n → 22 ≤ jj → jj < 30 → rMo X m0 t (s.1, s.2.1, nI lg.length, gv, -1, 4) (va_up M2 jj (upd (M2 jj) (4 * n + j) x)) (xset w2 (m0 + 1 + jj) (.inl (X.2.2.2.1 (mT jj), mS jj, .inl (upd (M2 jj) (4 * n + j) x)))) ∧ fr w (xset w2 (m0 + 1 + jj) (.inl (X.2.2.2.1 (mT jj), mS jj, .inl (upd (M2 jj) (4 * n + j) x)))) m0 (m0 + 31) ∧ nFr M (va_up M2 jj (upd (M2 jj) (4 * n + j) x)) n := by
        intro p r jj x M2 w2 a1 a2 a3 a4 a5
        exact ⟨a1.put a5, a2.set _ (by omega) (by omega), a3.up (by rw [nD_4 a4 a5]; omega)⟩
      have c1 := R'.1
      have c2 := R'.a22
      refine x_aload_n 37 rfl d_Mo_enter_36 rfl ?_
      refine x_get 40 rfl f_Mo_77 d_Mo_enter_37 c1 rfl ?_
      refine x_iload_n 41 rfl d_Mo_enter_40 rfl ?_
      refine x_iconst 42 rfl d_Mo_enter_41 (-1) (by decide) ?_
      refine x_iast 43 rfl d_Mo_enter_42 c2 (t0 := 0) rfl (vp_in_nI (by omega) (by decide)) ?_
      rw [nI_clamp (by omega)]
      obtain ⟨R2, f2, F2⟩ := one 0 0 22 (-1) M' w' R' f' F' (by decide) (by decide)
      generalize hw2 : xset w' (m0 + 1 + 22) _ = w2
      replace R2 : rMo X m0 t (s.1, s.2.1, nI lg.length, gv, -1, 4) (va_up M' 22 (upd (M' 22) (4 * n + j) (-1))) w2 := by rw [← hw2]; exact R2
      replace f2 : fr w w2 m0 (m0 + 31) := by rw [← hw2]; exact f2
      generalize hM2 : va_up M' 22 (upd (M' 22) (4 * n + j) (-1)) = M2 at R2 F2
      have c1 := R2.1
      have c2 := R2.a23
      refine x_aload_n 44 rfl d_Mo_enter_43 rfl ?_
      refine x_get 47 rfl f_Mo_80 d_Mo_enter_44 c1 rfl ?_
      refine x_iload_n 48 rfl d_Mo_enter_47 rfl ?_
      refine x_iconst 49 rfl d_Mo_enter_48 0 (by decide) ?_
      refine x_zast 50 rfl d_Mo_enter_49 c2 (t0 := 1) rfl (vp_in_nI (by omega) (by decide)) z0 ?_
      rw [nI_clamp (by omega)]
      obtain ⟨R3, f3, F3⟩ := one 0 0 23 0 M2 w2 R2 f2 F2 (by decide) (by decide)
      generalize hw3 : xset w2 (m0 + 1 + 23) _ = w3
      replace R3 : rMo X m0 t (s.1, s.2.1, nI lg.length, gv, -1, 4) (va_up M2 23 (upd (M2 23) (4 * n + j) 0)) w3 := by rw [← hw3]; exact R3
      replace f3 : fr w w3 m0 (m0 + 31) := by rw [← hw3]; exact f3
      generalize hM3 : va_up M2 23 (upd (M2 23) (4 * n + j) 0) = M3 at R3 F3
      have c1 := R3.1
      have c2 := R3.a24
      refine x_aload_n 51 rfl d_Mo_enter_50 rfl ?_
      refine x_get 54 rfl f_Mo_83 d_Mo_enter_51 c1 rfl ?_
      refine x_iload_n 55 rfl d_Mo_enter_54 rfl ?_
      refine x_iconst 56 rfl d_Mo_enter_55 0 (by decide) ?_
      refine x_iast 57 rfl d_Mo_enter_56 c2 (t0 := 0) rfl (vp_in_nI (by omega) (by decide)) ?_
      rw [nI_clamp (by omega)]
      obtain ⟨R4, f4, F4⟩ := one 0 0 24 0 M3 w3 R3 f3 F3 (by decide) (by decide)
      generalize hw4 : xset w3 (m0 + 1 + 24) _ = w4
      replace R4 : rMo X m0 t (s.1, s.2.1, nI lg.length, gv, -1, 4) (va_up M3 24 (upd (M3 24) (4 * n + j) 0)) w4 := by rw [← hw4]; exact R4
      replace f4 : fr w w4 m0 (m0 + 31) := by rw [← hw4]; exact f4
      generalize hM4 : va_up M3 24 (upd (M3 24) (4 * n + j) 0) = M4 at R4 F4
      have c1 := R4.1
      have c2 := R4.a25
      refine x_aload_n 58 rfl d_Mo_enter_57 rfl ?_
      refine x_get 61 rfl f_Mo_86 d_Mo_enter_58 c1 rfl ?_
      refine x_iload_n 62 rfl d_Mo_enter_61 rfl ?_
      refine x_iconst 63 rfl d_Mo_enter_62 0 (by decide) ?_
      refine x_iast 64 rfl d_Mo_enter_63 c2 (t0 := 0) rfl (vp_in_nI (by omega) (by decide)) ?_
      rw [nI_clamp (by omega)]
      obtain ⟨R5, f5, F5⟩ := one 0 0 25 0 M4 w4 R4 f4 F4 (by decide) (by decide)
      generalize hw5 : xset w4 (m0 + 1 + 25) _ = w5
      replace R5 : rMo X m0 t (s.1, s.2.1, nI lg.length, gv, -1, 4) (va_up M4 25 (upd (M4 25) (4 * n + j) 0)) w5 := by rw [← hw5]; exact R5
      replace f5 : fr w w5 m0 (m0 + 31) := by rw [← hw5]; exact f5
      generalize hM5 : va_up M4 25 (upd (M4 25) (4 * n + j) 0) = M5 at R5 F5
      have c1 := R5.1
      have c2 := R5.a26
      refine x_aload_n 65 rfl d_Mo_enter_64 rfl ?_
      refine x_get 68 rfl f_Mo_89 d_Mo_enter_65 c1 rfl ?_
      refine x_iload_n 69 rfl d_Mo_enter_68 rfl ?_
      refine x_iconst 70 rfl d_Mo_enter_69 0 (by decide) ?_
      refine x_iast 71 rfl d_Mo_enter_70 c2 (t0 := 0) rfl (vp_in_nI (by omega) (by decide)) ?_
      rw [nI_clamp (by omega)]
      obtain ⟨R6, f6, F6⟩ := one 0 0 26 0 M5 w5 R5 f5 F5 (by decide) (by decide)
      generalize hw6 : xset w5 (m0 + 1 + 26) _ = w6
      replace R6 : rMo X m0 t (s.1, s.2.1, nI lg.length, gv, -1, 4) (va_up M5 26 (upd (M5 26) (4 * n + j) 0)) w6 := by rw [← hw6]; exact R6
      replace f6 : fr w w6 m0 (m0 + 31) := by rw [← hw6]; exact f6
      generalize hM6 : va_up M5 26 (upd (M5 26) (4 * n + j) 0) = M6 at R6 F6
      have c1 := R6.1
      have c2 := R6.a27
      refine x_aload_n 72 rfl d_Mo_enter_71 rfl ?_
      refine x_get 75 rfl f_Mo_92 d_Mo_enter_72 c1 rfl ?_
      refine x_iload_n 76 rfl d_Mo_enter_75 rfl ?_
      refine x_iconst 77 rfl d_Mo_enter_76 0 (by decide) ?_
      refine x_iast 78 rfl d_Mo_enter_77 c2 (t0 := 0) rfl (vp_in_nI (by omega) (by decide)) ?_
      rw [nI_clamp (by omega)]
      obtain ⟨R7, f7, F7⟩ := one 0 0 27 0 M6 w6 R6 f6 F6 (by decide) (by decide)
      generalize hw7 : xset w6 (m0 + 1 + 27) _ = w7
      replace R7 : rMo X m0 t (s.1, s.2.1, nI lg.length, gv, -1, 4) (va_up M6 27 (upd (M6 27) (4 * n + j) 0)) w7 := by rw [← hw7]; exact R7
      replace f7 : fr w w7 m0 (m0 + 31) := by rw [← hw7]; exact f7
      generalize hM7 : va_up M6 27 (upd (M6 27) (4 * n + j) 0) = M7 at R7 F7
      have c1 := R7.1
      have c2 := R7.a28
      refine x_aload_n 79 rfl d_Mo_enter_78 rfl ?_
      refine x_get 82 rfl f_Mo_95 d_Mo_enter_79 c1 rfl ?_
      refine x_iload_n 83 rfl d_Mo_enter_82 rfl ?_
      refine x_iconst 84 rfl d_Mo_enter_83 (-1) (by decide) ?_
      refine x_iast 85 rfl d_Mo_enter_84 c2 (t0 := 0) rfl (vp_in_nI (by omega) (by decide)) ?_
      rw [nI_clamp (by omega)]
      obtain ⟨R8, f8, F8⟩ := one 0 0 28 (-1) M7 w7 R7 f7 F7 (by decide) (by decide)
      generalize hw8 : xset w7 (m0 + 1 + 28) _ = w8
      replace R8 : rMo X m0 t (s.1, s.2.1, nI lg.length, gv, -1, 4) (va_up M7 28 (upd (M7 28) (4 * n + j) (-1))) w8 := by rw [← hw8]; exact R8
      replace f8 : fr w w8 m0 (m0 + 31) := by rw [← hw8]; exact f8
      generalize hM8 : va_up M7 28 (upd (M7 28) (4 * n + j) (-1)) = M8 at R8 F8
      have c1 := R8.1
      have c2 := R8.a29
      refine x_aload_n 86 rfl d_Mo_enter_85 rfl ?_
      refine x_get 89 rfl f_Mo_98 d_Mo_enter_86 c1 rfl ?_
      refine x_iload_n 90 rfl d_Mo_enter_89 rfl ?_
      refine x_iconst 91 rfl d_Mo_enter_90 0 (by decide) ?_
      refine x_zast 92 rfl d_Mo_enter_91 c2 (t0 := 1) rfl (vp_in_nI (by omega) (by decide)) z0 ?_
      rw [nI_clamp (by omega)]
      obtain ⟨R9, f9, F9⟩ := one 0 0 29 0 M8 w8 R8 f8 F8 (by decide) (by decide)
      generalize hw9 : xset w8 (m0 + 1 + 29) _ = w9
      replace R9 : rMo X m0 t (s.1, s.2.1, nI lg.length, gv, -1, 4) (va_up M8 29 (upd (M8 29) (4 * n + j) 0)) w9 := by rw [← hw9]; exact R9
      replace f9 : fr w w9 m0 (m0 + 31) := by rw [← hw9]; exact f9
      generalize hM9 : va_up M8 29 (upd (M8 29) (4 * n + j) 0) = M9 at R9 F9
      refine x_iinc 95 rfl d_Mo_enter_92 rfl 1 (by decide) (by decide) ?_
      refine x_goto d_Mo_enter_95 27 (by decide) ?_
      rw [nI_1]
      refine xE.fit (ih (j + 1) _ M9 w9 rfl (by omega) R9 (fun k hk => ?_) (fun k i a b c => ?_) F9 f9) rfl
      · rw [← hM9, va_up_ne _ _ (by omega), ← hM8, va_up_ne _ _ (by omega), ← hM7, va_up_ne _ _ (by omega), ← hM6, va_up_ne _ _ (by omega), ← hM5, va_up_ne _ _ (by omega), ← hM4, va_up_ne _ _ (by omega), ← hM3, va_up_ne _ _ (by omega), ← hM2, va_up_ne _ _ (by omega)]
        exact q' k hk
      · have old : i ≠ j → M' k (4 * n + i) = eVal k := fun z => d' k i a b (by omega)
        have up : ∀ (N : Nat → Nat → Int32) (jj : Nat) (x : Int32), (i ≠ j → N k (4 * n + i) = eVal k) → (jj = k → x = eVal k) → (i ≠ j → va_up N jj (upd (N jj) (4 * n + j) x) k (4 * n + i) = eVal k) ∧ (jj = k → i = j → va_up N jj (upd (N jj) (4 * n + j) x) k (4 * n + i) = eVal k) ∧ (jj ≠ k → va_up N jj (upd (N jj) (4 * n + j) x) k (4 * n + i) = N k (4 * n + i)) := by
          intro N jj x h1 h2
          refine ⟨fun z => ?_, fun z y => ?_, fun z => ?_⟩
          · by_cases zz : k = jj
            · subst zz; rw [va_up_self, upd_ne _ _ (by omega)]; exact h1 z
            · rw [va_up_ne _ _ zz]; exact h1 z
          · subst z y; rw [va_up_self, upd_at]; exact h2 rfl
          · rw [va_up_ne _ _ (Ne.symm z)]
        have u2 := up M' 22 (-1) old (fun z => by rw [← z]; rfl)
        rw [hM2] at u2
        have u3 := up M2 23 0 u2.1 (fun z => by rw [← z]; rfl)
        rw [hM3] at u3
        have u4 := up M3 24 0 u3.1 (fun z => by rw [← z]; rfl)
        rw [hM4] at u4
        have u5 := up M4 25 0 u4.1 (fun z => by rw [← z]; rfl)
        rw [hM5] at u5
        have u6 := up M5 26 0 u5.1 (fun z => by rw [← z]; rfl)
        rw [hM6] at u6
        have u7 := up M6 27 0 u6.1 (fun z => by rw [← z]; rfl)
        rw [hM7] at u7
        have u8 := up M7 28 (-1) u7.1 (fun z => by rw [← z]; rfl)
        rw [hM8] at u8
        have u9 := up M8 29 0 u8.1 (fun z => by rw [← z]; rfl)
        rw [hM9] at u9
        by_cases zi : i = j
        · rcases dc a b with z | z | z | z | z | z | z | z
          · rw [u9.2.2 (by omega), u8.2.2 (by omega), u7.2.2 (by omega), u6.2.2 (by omega), u5.2.2 (by omega), u4.2.2 (by omega), u3.2.2 (by omega)]; exact u2.2.1 z.symm zi
          · rw [u9.2.2 (by omega), u8.2.2 (by omega), u7.2.2 (by omega), u6.2.2 (by omega), u5.2.2 (by omega), u4.2.2 (by omega)]; exact u3.2.1 z.symm zi
          · rw [u9.2.2 (by omega), u8.2.2 (by omega), u7.2.2 (by omega), u6.2.2 (by omega), u5.2.2 (by omega)]; exact u4.2.1 z.symm zi
          · rw [u9.2.2 (by omega), u8.2.2 (by omega), u7.2.2 (by omega), u6.2.2 (by omega)]; exact u5.2.1 z.symm zi
          · rw [u9.2.2 (by omega), u8.2.2 (by omega), u7.2.2 (by omega)]; exact u6.2.1 z.symm zi
          · rw [u9.2.2 (by omega), u8.2.2 (by omega)]; exact u7.2.1 z.symm zi
          · rw [u9.2.2 (by omega)]; exact u8.2.1 z.symm zi
          · exact u9.2.1 z.symm zi
        · exact u9.1 zi
  refine x_iconst 24 rfl d_Mo_enter_23 4 (by decide) ?_
  refine x_iload_n 25 rfl d_Mo_enter_24 rfl ?_
  refine x_imul 26 rfl d_Mo_enter_25 ?_
  refine x_istore_n 27 rfl d_Mo_enter_26 (by decide) ?_
  rw [i4']
  exact xE.fit (loop 4 0 _ M1 w3 rfl (by omega) R3 (fun _ _ => rfl) (fun _ _ _ _ z => absurd z (by omega)) F1 f3) rfl
end EN
