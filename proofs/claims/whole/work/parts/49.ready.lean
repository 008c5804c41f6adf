/-! THE REFERENCE: READY -/
theorem fnd {p : Nat → Bool} {j : Nat} (hj : j < 4) (h : ∀ k, k < j → p k = false) (hp : p j = true) : (List.range 4).find? p = some j := by
  rw [show List.range 4 = [0, 1, 2, 3] from rfl]
  rcases lt4 hj with rfl | rfl | rfl | rfl
  · simp [List.find?, hp]
  · simp [List.find?, h 0 (by decide), hp]
  · simp [List.find?, h 0 (by decide), h 1 (by decide), hp]
  · simp [List.find?, h 0 (by decide), h 1 (by decide), h 2 (by decide), hp]
theorem fndN {p : Nat → Bool} (h : ∀ k, k < 4 → p k = false) : (List.range 4).find? p = none := by
  rw [show List.range 4 = [0, 1, 2, 3] from rfl]
  simp [List.find?, h 0 (by decide), h 1 (by decide), h 2 (by decide), h 3 (by decide)]
def bE3 (β : sB) (k : Nat) : Bool := β.1 (8 + k) && decide (3 ≤ cCt (fun s => β.1 (8 + s)) (fun s => β.2 (8 + s)) (β.2 (8 + k))) && bMk β (β.2 (8 + k))
/-- as the reference looks for it -/
def mReady (β : sB) : Option Int32 := match (List.range 4).find? (bE3 β) with
  | some k => some (β.2 (8 + k))
  | none => bRd2 β
theorem cCt_le (g : Nat → Bool) (r : Nat → Int32) (x : Int32) : cCt g r x ≤ 4 := cPop_le _
section RY
variable {X : xPar} {m0 : Nat} {t : Int32} {n e i : Nat} {s : sS} {M0 : Nat → Nat → Int32} {lg : List sPo} {β : sB} {α : sA} {gf : Nat} {w0 w : xW} {P : Option Value → xW → Prop}
theorem s_Mo_ready {nn ee ii aa : Int32} (q1 : nn = nI n) (q2 : ee = nI e) (q3 : ii = nI i) (q4 : aa = nI (16 * n + 4 * e + i)) (hn : n < 4) (he : e < 4) (hi : i < 4) (hb : ∀ k, k < 4 → cUn (β.2 (16 + k)) < 256) (hl : lg.length < 1700) (hI : mI X m0 t n e i s M0 lg β α gf w0 w) (h1 : ∀ root w', mReady β = some root → mI X m0 t n e i s M0 (lg ++ [((n, e, i, 2, root, 0), 0)]) (va_up β.1 2 true, β.2) α gf w0 w' → P (some (.int 1)) w') (h0 : ∀ w', mReady β = none → mI X m0 t n e i s M0 lg β α gf w0 w' → P (some (.int 0)) w') : xE (xGG X) 4 m_Mo_ready 0 [(0, .ref m0), (1, .int nn), (2, .int ee), (3, .int ii), (4, .int aa)] [] w P := by
  subst q1 q2 q3 q4
  have send61 : ∀ (root : Int32) (w1 : xW) (lc : List (Nat × Value)), mI X m0 t n e i s M0 lg β α gf w0 w1 → mReady β = some root → xlk lc 0 = some (.ref m0) → xlk lc 1 = some (.int (nI n)) → xlk lc 2 = some (.int (nI e)) → xlk lc 3 = some (.int (nI i)) → xlk lc 4 = some (.int (nI (16 * n + 4 * e + i))) → xlk lc 6 = some (.int root) → xE (xGG X) 4 m_Mo_ready 61 lc [] w1 P := by
    intro root w1 lc hI hroot l0 l1 l2 l3 l4 l6
    refine xE.fit (lc' := [(0, .ref m0), (1, .int (nI n)), (2, .int (nI e)), (3, .int (nI i)), (4, .int (nI (16 * n + 4 * e + i))), (6, .int root)]) ?_ (by simp only [List.map_cons, List.map_nil, l0, l1, l2, l3, l4, l6])
    obtain ⟨gv, M, hR, hg, hp, hd, hf, hw⟩ := hI
    have g1 := hR.1
    have g19 := hR.a19
    refine x_aload_n 62 rfl d_Mo_ready_61 rfl ?_
    refine x_get 65 rfl f_Mo_68 d_Mo_ready_62 g1 rfl ?_
    refine x_iload 67 rfl d_Mo_ready_65 rfl ?_
    refine x_iconst 68 rfl d_Mo_ready_67 1 (by decide) ?_
    refine x_zast 69 rfl d_Mo_ready_68 g19 (t0 := 1) rfl (vp_in_nI (by omega) (by decide)) z1 ?_
    rw [nI_clamp (by omega)]
    have R1 := hR.put (j := 19) (i := 16 * n + 4 * e + i) (x := 1) (by decide)
    generalize hw2 : xset w1 (m0 + 1 + 19) _ = w2
    have R1 : rMo X m0 t (s.1, s.2.1, nI lg.length, gv, s.2.2.2.2) (va_up M 19 (upd (M 19) (16 * n + 4 * e + i) 1)) w2 := by rw [← hw2]; exact R1
    have f1 : fr w0 w2 m0 (m0 + 31) := by rw [← hw2]; exact hw.set _ (by omega) (by omega)
    have g2 := R1.1
    have hp1 : pRel (va_up M 19 (upd (M 19) (16 * n + 4 * e + i) 1)) (16 * n + 4 * e + i) (va_up β.1 2 true, β.2) α := by
      refine hp.up ?_ (fun j idx h1 h2 h3 h4 => pv19 h1 h2 (fun z => ?_))
      · show nB (va_up β.1 2 true 2) = 1
        rw [va_up_self]; rfl
      · subst z
        have h3' : idx / 1 = 16 * n + 4 * e + i := h3
        exact h4 rfl (by omega)
    have hd1 : dRel (va_up M 19 (upd (M 19) (16 * n + 4 * e + i) 1)) (4 * n + i) (va_up β.1 2 true, β.2) α gf := hd.oth (by decide) (fun j h1 h2 => dVal_c (β := β) (β' := (va_up β.1 2 true, β.2)) (α := α) (α' := α) rfl rfl rfl (fun k hk => rfl) h1 h2)
    refine x_aload_n 70 rfl d_Mo_ready_69 rfl ?_
    refine x_iload_n 71 rfl d_Mo_ready_70 rfl ?_
    refine x_iload_n 72 rfl d_Mo_ready_71 rfl ?_
    refine x_iload_n 73 rfl d_Mo_ready_72 rfl ?_
    refine x_iconst 74 rfl d_Mo_ready_73 2 (by decide) ?_
    refine x_iload 76 rfl d_Mo_ready_74 rfl ?_
    refine x_iconst 77 rfl d_Mo_ready_76 0 (by decide) ?_
    refine x_iconst 78 rfl d_Mo_ready_77 0 (by decide) ?_
    refine y_callV 81 rfl [_, _, _, _, _, _, _] _ rfl d_Mo_ready_78 g2 rfl c_Mo_189 rfl (Nat.le_of_ble_eq_true rfl) (Nat.le_of_ble_eq_true rfl) (Nat.le_of_ble_eq_true rfl) (s_post_mI (m := (n, e, i, 2, root, 0)) rfl rfl rfl rfl rfl rfl ⟨hn, he, hi, by dsimp only; omega, fun z => by dsimp only at z; omega⟩ R1 (hg.up (by decide)) hp1 hd1 (hf.upP (by decide) (by decide) (Nat.div_one _)) f1 hl (fun w' k1 => ?_))
    refine x_iconst 82 rfl d_Mo_ready_81 1 (by decide) ?_
    refine x_zret d_Mo_ready_82 rfl (by decide) ?_
    exact h1 root w' hroot k1
  have send139 : ∀ (root : Int32) (w1 : xW) (lc : List (Nat × Value)), mI X m0 t n e i s M0 lg β α gf w0 w1 → mReady β = some root → xlk lc 0 = some (.ref m0) → xlk lc 1 = some (.int (nI n)) → xlk lc 2 = some (.int (nI e)) → xlk lc 3 = some (.int (nI i)) → xlk lc 4 = some (.int (nI (16 * n + 4 * e + i))) → xlk lc 6 = some (.int root) → xE (xGG X) 4 m_Mo_ready 139 lc [] w1 P := by
    intro root w1 lc hI hroot l0 l1 l2 l3 l4 l6
    refine xE.fit (lc' := [(0, .ref m0), (1, .int (nI n)), (2, .int (nI e)), (3, .int (nI i)), (4, .int (nI (16 * n + 4 * e + i))), (6, .int root)]) ?_ (by simp only [List.map_cons, List.map_nil, l0, l1, l2, l3, l4, l6])
    obtain ⟨gv, M, hR, hg, hp, hd, hf, hw⟩ := hI
    have g1 := hR.1
    have g19 := hR.a19
    refine x_aload_n 140 rfl d_Mo_ready_139 rfl ?_
    refine x_get 143 rfl f_Mo_68 d_Mo_ready_140 g1 rfl ?_
    refine x_iload 145 rfl d_Mo_ready_143 rfl ?_
    refine x_iconst 146 rfl d_Mo_ready_145 1 (by decide) ?_
    refine x_zast 147 rfl d_Mo_ready_146 g19 (t0 := 1) rfl (vp_in_nI (by omega) (by decide)) z1 ?_
    rw [nI_clamp (by omega)]
    have R1 := hR.put (j := 19) (i := 16 * n + 4 * e + i) (x := 1) (by decide)
    generalize hw2 : xset w1 (m0 + 1 + 19) _ = w2
    have R1 : rMo X m0 t (s.1, s.2.1, nI lg.length, gv, s.2.2.2.2) (va_up M 19 (upd (M 19) (16 * n + 4 * e + i) 1)) w2 := by rw [← hw2]; exact R1
    have f1 : fr w0 w2 m0 (m0 + 31) := by rw [← hw2]; exact hw.set _ (by omega) (by omega)
    have g2 := R1.1
    have hp1 : pRel (va_up M 19 (upd (M 19) (16 * n + 4 * e + i) 1)) (16 * n + 4 * e + i) (va_up β.1 2 true, β.2) α := by
      refine hp.up ?_ (fun j idx h1 h2 h3 h4 => pv19 h1 h2 (fun z => ?_))
      · show nB (va_up β.1 2 true 2) = 1
        rw [va_up_self]; rfl
      · subst z
        have h3' : idx / 1 = 16 * n + 4 * e + i := h3
        exact h4 rfl (by omega)
    have hd1 : dRel (va_up M 19 (upd (M 19) (16 * n + 4 * e + i) 1)) (4 * n + i) (va_up β.1 2 true, β.2) α gf := hd.oth (by decide) (fun j h1 h2 => dVal_c (β := β) (β' := (va_up β.1 2 true, β.2)) (α := α) (α' := α) rfl rfl rfl (fun k hk => rfl) h1 h2)
    refine x_aload_n 148 rfl d_Mo_ready_147 rfl ?_
    refine x_iload_n 149 rfl d_Mo_ready_148 rfl ?_
    refine x_iload_n 150 rfl d_Mo_ready_149 rfl ?_
    refine x_iload_n 151 rfl d_Mo_ready_150 rfl ?_
    refine x_iconst 152 rfl d_Mo_ready_151 2 (by decide) ?_
    refine x_iload 154 rfl d_Mo_ready_152 rfl ?_
    refine x_iconst 155 rfl d_Mo_ready_154 0 (by decide) ?_
    refine x_iconst 156 rfl d_Mo_ready_155 0 (by decide) ?_
    refine y_callV 159 rfl [_, _, _, _, _, _, _] _ rfl d_Mo_ready_156 g2 rfl c_Mo_189 rfl (Nat.le_of_ble_eq_true rfl) (Nat.le_of_ble_eq_true rfl) (Nat.le_of_ble_eq_true rfl) (s_post_mI (m := (n, e, i, 2, root, 0)) rfl rfl rfl rfl rfl rfl ⟨hn, he, hi, by dsimp only; omega, fun z => by dsimp only at z; omega⟩ R1 (hg.up (by decide)) hp1 hd1 (hf.upP (by decide) (by decide) (Nat.div_one _)) f1 hl (fun w' k1 => ?_))
    refine x_iconst 160 rfl d_Mo_ready_159 1 (by decide) ?_
    refine x_zret d_Mo_ready_160 rfl (by decide) ?_
    exact h1 root w' hroot k1
  have loop2 : (∀ k, k < 4 → bE3 β k = false) → ∀ (m j : Nat) (cc : Int32) (w1 : xW), cc = nI j → j + m = 4 → mI X m0 t n e i s M0 lg β α gf w0 w1 → (∀ k, k < j → (β.1 (16 + k) && decide (2 ≤ cCt (fun s => β.1 (16 + s)) (fun s => β.2 (24 + s)) (β.2 (24 + k)))) = false) → xE (xGG X) 4 m_Mo_ready 92 [(0, .ref m0), (1, .int (nI n)), (2, .int (nI e)), (3, .int (nI i)), (4, .int (nI (16 * n + 4 * e + i))), (5, .int cc)] [] w1 P := by
    intro hE m
    have eM : mReady β = bRd2 β := by
      unfold mReady
      rw [fndN hE]
    induction m with
    | zero =>
      intro j cc w1 hcc hj hI hk
      have hj4 : j = 4 := by omega
      subst hj4 hcc
      refine x_iload 94 rfl d_Mo_ready_92 rfl ?_
      refine x_iconst 95 rfl d_Mo_ready_94 4 (by decide) ?_
      refine x_icmp_ge 167 98 rfl d_Mo_ready_95 (by decide) (fun hc => ?_) (fun hc => absurd (by decide) hc)
      refine x_iconst 168 rfl d_Mo_ready_167 0 (by decide) ?_
      refine x_zret d_Mo_ready_168 rfl (by decide) ?_
      refine h0 w1 ?_ hI
      rw [eM]
      unfold bRd2 cFs
      rw [fndN hk]
      rfl
    | succ m ih =>
      intro j cc w1 hcc hj hI hk
      subst hcc
      have hj4 : j < 4 := by omega
      have hI0 := hI
      obtain ⟨gv, M, hR, hg, hp, hd, hf, hw⟩ := hI
      have g1 := hR.1
      have g14 := hR.a14
      have g15 := hR.a15
      have hle := cCt_le (fun s => β.1 (16 + s)) (fun s => β.2 (24 + s)) (β.2 (24 + j))
      have skip : (β.1 (16 + j) && decide (2 ≤ cCt (fun s => β.1 (16 + s)) (fun s => β.2 (24 + s)) (β.2 (24 + j)))) = false → ∀ lc, xlk lc 0 = some (.ref m0) → xlk lc 1 = some (.int (nI n)) → xlk lc 2 = some (.int (nI e)) → xlk lc 3 = some (.int (nI i)) → xlk lc 4 = some (.int (nI (16 * n + 4 * e + i))) → xlk lc 5 = some (.int (nI j)) → xE (xGG X) 4 m_Mo_ready 161 lc [] w1 P := by
        intro z lc l0 l1 l2 l3 l4 l5
        refine xE.fit (lc' := [(0, .ref m0), (1, .int (nI n)), (2, .int (nI e)), (3, .int (nI i)), (4, .int (nI (16 * n + 4 * e + i))), (5, .int (nI j))]) ?_ (by simp only [List.map_cons, List.map_nil, l0, l1, l2, l3, l4, l5])
        refine x_iinc 164 rfl d_Mo_ready_161 rfl 1 (by decide) (by decide) ?_
        refine x_goto d_Mo_ready_164 92 (by decide) ?_
        rw [nI_1]
        refine xE.fit (ih (j + 1) _ w1 rfl (by omega) hI0 (fun k hk2 => ?_)) rfl
        by_cases zz : k = j
        · subst zz; exact z
        · exact hk k (by omega)
      refine x_iload 94 rfl d_Mo_ready_92 rfl ?_
      refine x_iconst 95 rfl d_Mo_ready_94 4 (by decide) ?_
      refine x_icmp_ge 167 98 rfl d_Mo_ready_95 (by decide) (fun hc => absurd hc (nI_ge (a := j) (b := 4) hj4 (by decide))) (fun hc => ?_)
      refine x_aload_n 99 rfl d_Mo_ready_98 rfl ?_
      refine x_get 102 rfl f_Mo_56 d_Mo_ready_99 g1 rfl ?_
      refine x_iconst 103 rfl d_Mo_ready_102 4 (by decide) ?_
      refine x_iload 105 rfl d_Mo_ready_103 rfl ?_
      refine x_imul 106 rfl d_Mo_ready_105 ?_
      refine x_iload 108 rfl d_Mo_ready_106 rfl ?_
      refine x_iadd 109 rfl d_Mo_ready_108 ?_
      rw [i4]
      refine x_iald 110 rfl d_Mo_ready_109 g15 (t0 := 0) rfl (vp_in_nI (by omega) (by decide)) ?_
      rw [nI_clamp (by omega), hp.c15 hj4]
      refine x_istore 112 rfl d_Mo_ready_110 (by decide) ?_
      refine x_aload_n 113 rfl d_Mo_ready_112 rfl ?_
      refine x_get 116 rfl f_Mo_53 d_Mo_ready_113 g1 rfl ?_
      refine x_iconst 117 rfl d_Mo_ready_116 4 (by decide) ?_
      refine x_iload 119 rfl d_Mo_ready_117 rfl ?_
      refine x_imul 120 rfl d_Mo_ready_119 ?_
      refine x_iload 122 rfl d_Mo_ready_120 rfl ?_
      refine x_iadd 123 rfl d_Mo_ready_122 ?_
      rw [i4]
      refine x_zald 124 rfl d_Mo_ready_123 g14 (t0 := 1) rfl (vp_in_nI (by omega) (by decide)) ?_
      rw [nI_clamp (by omega), hp.c14 hj4]
      refine x_if_eq 161 127 rfl d_Mo_ready_124 (by decide) (fun hc => ?_) (fun hc => ?_)
      · exact skip (by rw [(nB_0 _).mp hc]; rfl) _ rfl rfl rfl rfl rfl rfl
      have y1 := nB_ne hc
      refine x_aload_n 128 rfl d_Mo_ready_127 rfl ?_
      refine x_iload 130 rfl d_Mo_ready_128 rfl ?_
      refine x_iload 132 rfl d_Mo_ready_130 rfl ?_
      refine y_callV 135 rfl [_, _] _ rfl d_Mo_ready_132 g1 rfl c_Mo_226 rfl (Nat.le_of_ble_eq_true rfl) (Nat.le_of_ble_eq_true rfl) (Nat.le_of_ble_eq_true rfl) (s_Mo_readies (g := fun s => β.1 (16 + s)) (r := fun s => β.2 (24 + s)) rfl (by omega) hR (fun k hk => hp.c14 hk) (fun k hk => hp.c15 hk) ?_)
      refine x_iconst 136 rfl d_Mo_ready_135 2 (by decide) ?_
      refine x_icmp_lt 161 139 rfl d_Mo_ready_136 (by decide) (fun hc => ?_) (fun hc => ?_)
      · have z := (nI_ltI (b := 2) (by omega) (by decide)).mp hc
        exact skip (by rw [decide_eq_false (by omega), Bool.and_false]) _ rfl rfl rfl rfl rfl rfl
      · have z : 2 ≤ cCt (fun s => β.1 (16 + s)) (fun s => β.2 (24 + s)) (β.2 (24 + j)) := by
          by_cases z : 2 ≤ cCt (fun s => β.1 (16 + s)) (fun s => β.2 (24 + s)) (β.2 (24 + j))
          · exact z
          · exact absurd (nI_lt (b := 2) (by omega) (by decide)) hc
        refine send139 (β.2 (24 + j)) w1 _ hI0 ?_ rfl rfl rfl rfl rfl rfl
        rw [eM]
        unfold bRd2 cFs
        rw [fnd hj4 hk (by rw [y1, decide_eq_true z]; rfl)]
        rfl
  have loop1 : ∀ (m j : Nat) (cc : Int32) (w1 : xW), cc = nI j → j + m = 4 → mI X m0 t n e i s M0 lg β α gf w0 w1 → (∀ k, k < j → bE3 β k = false) → xE (xGG X) 4 m_Mo_ready 3 [(0, .ref m0), (1, .int (nI n)), (2, .int (nI e)), (3, .int (nI i)), (4, .int (nI (16 * n + 4 * e + i))), (5, .int cc)] [] w1 P := by
    intro m
    induction m with
    | zero =>
      intro j cc w1 hcc hj hI hk
      have hj4 : j = 4 := by omega
      subst hj4 hcc
      refine x_iload 5 rfl d_Mo_ready_3 rfl ?_
      refine x_iconst 6 rfl d_Mo_ready_5 4 (by decide) ?_
      refine x_icmp_ge 89 9 rfl d_Mo_ready_6 (by decide) (fun hc => ?_) (fun hc => absurd (by decide) hc)
      refine x_iconst 90 rfl d_Mo_ready_89 0 (by decide) ?_
      refine x_istore 92 rfl d_Mo_ready_90 (by decide) ?_
      exact xE.fit (loop2 hk 4 0 0 w1 rfl rfl hI (fun k hk2 => absurd hk2 (by omega))) rfl
    | succ m ih =>
      intro j cc w1 hcc hj hI hk
      subst hcc
      have hj4 : j < 4 := by omega
      have hI0 := hI
      obtain ⟨gv, M, hR, hg, hp, hd, hf, hw⟩ := hI
      have g1 := hR.1
      have g11 := hR.a11
      have g12 := hR.a12
      have hle := cCt_le (fun s => β.1 (8 + s)) (fun s => β.2 (8 + s)) (β.2 (8 + j))
      have skip : bE3 β j = false → ∀ w2 lc, mI X m0 t n e i s M0 lg β α gf w0 w2 → xlk lc 0 = some (.ref m0) → xlk lc 1 = some (.int (nI n)) → xlk lc 2 = some (.int (nI e)) → xlk lc 3 = some (.int (nI i)) → xlk lc 4 = some (.int (nI (16 * n + 4 * e + i))) → xlk lc 5 = some (.int (nI j)) → xE (xGG X) 4 m_Mo_ready 83 lc [] w2 P := by
        intro z w2 lc hI2 l0 l1 l2 l3 l4 l5
        refine xE.fit (lc' := [(0, .ref m0), (1, .int (nI n)), (2, .int (nI e)), (3, .int (nI i)), (4, .int (nI (16 * n + 4 * e + i))), (5, .int (nI j))]) ?_ (by simp only [List.map_cons, List.map_nil, l0, l1, l2, l3, l4, l5])
        refine x_iinc 86 rfl d_Mo_ready_83 rfl 1 (by decide) (by decide) ?_
        refine x_goto d_Mo_ready_86 3 (by decide) ?_
        rw [nI_1]
        refine xE.fit (ih (j + 1) _ w2 rfl (by omega) hI2 (fun k hk2 => ?_)) rfl
        by_cases zz : k = j
        · subst zz; exact z
        · exact hk k (by omega)
      refine x_iload 5 rfl d_Mo_ready_3 rfl ?_
      refine x_iconst 6 rfl d_Mo_ready_5 4 (by decide) ?_
      refine x_icmp_ge 89 9 rfl d_Mo_ready_6 (by decide) (fun hc => absurd hc (nI_ge (a := j) (b := 4) hj4 (by decide))) (fun hc => ?_)
      refine x_aload_n 10 rfl d_Mo_ready_9 rfl ?_
      refine x_get 13 rfl f_Mo_47 d_Mo_ready_10 g1 rfl ?_
      refine x_iconst 14 rfl d_Mo_ready_13 4 (by decide) ?_
      refine x_iload 16 rfl d_Mo_ready_14 rfl ?_
      refine x_imul 17 rfl d_Mo_ready_16 ?_
      refine x_iload 19 rfl d_Mo_ready_17 rfl ?_
      refine x_iadd 20 rfl d_Mo_ready_19 ?_
      rw [i4]
      refine x_iald 21 rfl d_Mo_ready_20 g12 (t0 := 0) rfl (vp_in_nI (by omega) (by decide)) ?_
      rw [nI_clamp (by omega), hp.c12 hj4]
      refine x_istore 23 rfl d_Mo_ready_21 (by decide) ?_
      refine x_aload_n 24 rfl d_Mo_ready_23 rfl ?_
      refine x_get 27 rfl f_Mo_44 d_Mo_ready_24 g1 rfl ?_
      refine x_iconst 28 rfl d_Mo_ready_27 4 (by decide) ?_
      refine x_iload 30 rfl d_Mo_ready_28 rfl ?_
      refine x_imul 31 rfl d_Mo_ready_30 ?_
      refine x_iload 33 rfl d_Mo_ready_31 rfl ?_
      refine x_iadd 34 rfl d_Mo_ready_33 ?_
      rw [i4]
      refine x_zald 35 rfl d_Mo_ready_34 g11 (t0 := 1) rfl (vp_in_nI (by omega) (by decide)) ?_
      rw [nI_clamp (by omega), hp.c11 hj4]
      refine x_if_eq 83 38 rfl d_Mo_ready_35 (by decide) (fun hc => ?_) (fun hc => ?_)
      · exact skip (by unfold bE3; rw [(nB_0 _).mp hc]; rfl) w1 _ hI0 rfl rfl rfl rfl rfl rfl
      have y1 := nB_ne hc
      refine x_aload_n 39 rfl d_Mo_ready_38 rfl ?_
      refine x_iload 41 rfl d_Mo_ready_39 rfl ?_
      refine x_iload 43 rfl d_Mo_ready_41 rfl ?_
      refine y_callV 46 rfl [_, _] _ rfl d_Mo_ready_43 g1 rfl c_Mo_220 rfl (Nat.le_of_ble_eq_true rfl) (Nat.le_of_ble_eq_true rfl) (Nat.le_of_ble_eq_true rfl) (s_Mo_echoes (g := fun s => β.1 (8 + s)) (r := fun s => β.2 (8 + s)) rfl (by omega) hR (fun k hk => hp.c11 hk) (fun k hk => hp.c12 hk) ?_)
      refine x_iconst 47 rfl d_Mo_ready_46 3 (by decide) ?_
      refine x_icmp_lt 83 50 rfl d_Mo_ready_47 (by decide) (fun hc => ?_) (fun hc => ?_)
      · have z := (nI_ltI (b := 3) (by omega) (by decide)).mp hc
        exact skip (by unfold bE3; rw [decide_eq_false (by omega), Bool.and_false]; rfl) w1 _ hI0 rfl rfl rfl rfl rfl rfl
      have z : 3 ≤ cCt (fun s => β.1 (8 + s)) (fun s => β.2 (8 + s)) (β.2 (8 + j)) := by
        by_cases z : 3 ≤ cCt (fun s => β.1 (8 + s)) (fun s => β.2 (8 + s)) (β.2 (8 + j))
        · exact z
        · exact absurd (nI_lt (b := 3) (by omega) (by decide)) hc
      refine x_aload_n 51 rfl d_Mo_ready_50 rfl ?_
      refine x_iload 53 rfl d_Mo_ready_51 rfl ?_
      refine x_iload 55 rfl d_Mo_ready_53 rfl ?_
      refine y_callV 58 rfl [_, _] _ rfl d_Mo_ready_55 g1 rfl c_Mo_223 rfl (Nat.le_of_ble_eq_true rfl) (Nat.le_of_ble_eq_true rfl) (Nat.le_of_ble_eq_true rfl) (s_Mo_makes (g := fun s => β.1 (8 + s)) (r := fun s => β.2 (8 + s)) (eb := fun s => cUn (β.2 (16 + s))) rfl (by omega) hR (fun k hk => hp.c11 hk) (fun k hk => hp.c12 hk) (fun k hk => (hp.c13 hk).trans (nI_cUn _).symm) hb (by omega) (fun R2 => ?_))
      have hI2 : mI X m0 t n e i s M0 lg β α gf w0 (xset w1 m0 (.inr (9, fMo m0 t (s.1, s.2.1, nI lg.length, nI (cGv (fun k => β.1 (8 + k) && decide (β.2 (8 + k) = β.2 (8 + j))) (fun s => cUn (β.2 (16 + s)))), s.2.2.2.2)))) := ⟨_, M, R2, hg, hp, hd, hf, hw.set _ (by omega) (by omega)⟩
      have eb : decide (cRoot (cGv (fun k => β.1 (8 + k) && decide (β.2 (8 + k) = β.2 (8 + j))) (fun s => cUn (β.2 (16 + s))) % 256) (cGv (fun k => β.1 (8 + k) && decide (β.2 (8 + k) = β.2 (8 + j))) (fun s => cUn (β.2 (16 + s))) / 256) = β.2 (8 + j)) = bMk β (β.2 (8 + j)) := rfl
      dsimp only at hI2 eb ⊢
      rw [eb]
      generalize xset w1 m0 _ = w2 at hI2 ⊢
      refine x_if_eq 83 61 rfl d_Mo_ready_58 (by decide) (fun hc => ?_) (fun hc => ?_)
      · exact skip (by unfold bE3; rw [(nB_0 _).mp hc, Bool.and_false]) w2 _ hI2 rfl rfl rfl rfl rfl rfl
      · refine send61 (β.2 (8 + j)) w2 _ hI2 ?_ rfl rfl rfl rfl rfl rfl
        unfold mReady
        rw [fnd hj4 hk (by unfold bE3; rw [y1, decide_eq_true z, nB_ne hc]; rfl)]
  refine x_iconst 1 rfl d_Mo_ready_0 0 (by decide) ?_
  refine x_istore 3 rfl d_Mo_ready_1 (by decide) ?_
  exact xE.fit (loop1 4 0 0 w rfl rfl hI (fun k hk => absurd hk (by omega))) rfl
end RY
