/-! THE REFERENCE: VALUE AND ANSWER -/
section PV
variable {β : sB} {α : sA} {j idx c : Nat}
theorem pv_b1 {b : Bool} (h1 : 8 ≤ j) (h2 : j < 22) (a8 : j = 8 → c ≠ 0) (a11 : j = 11 → c ≠ 8 + idx % 4) (a14 : j = 14 → c ≠ 16 + idx % 4) (a18 : j = 18 → c ≠ 1) (a19 : j = 19 → c ≠ 2) : pVal (va_up β.1 c b, β.2) α j idx = pVal β α j idx := by
  rcases jc h1 h2 with rfl | rfl | rfl | rfl | rfl | rfl | rfl | rfl | rfl | rfl | rfl | rfl | rfl | rfl
  · show nB (va_up β.1 c b 0) = nB (β.1 0); rw [va_up_ne _ _ (Ne.symm (a8 rfl))]
  · rfl
  · rfl
  · show nB (va_up β.1 c b _) = nB (β.1 _); rw [va_up_ne _ _ (Ne.symm (a11 rfl))]
  · rfl
  · rfl
  · show nB (va_up β.1 c b _) = nB (β.1 _); rw [va_up_ne _ _ (Ne.symm (a14 rfl))]
  · rfl
  · rfl
  · rfl
  · show nB (va_up β.1 c b 1) = nB (β.1 1); rw [va_up_ne _ _ (Ne.symm (a18 rfl))]
  · show nB (va_up β.1 c b 2) = nB (β.1 2); rw [va_up_ne _ _ (Ne.symm (a19 rfl))]
  · rfl
  · rfl
theorem pv_b2 {x : Int32} (h1 : 8 ≤ j) (h2 : j < 22) (a9 : j = 9 → c ≠ 0) (a10 : j = 10 → c ≠ 1) (a12 : j = 12 → c ≠ 8 + idx % 4) (a13 : j = 13 → c ≠ 16 + idx % 4) (a15 : j = 15 → c ≠ 24 + idx % 4) : pVal (β.1, va_up β.2 c x) α j idx = pVal β α j idx := by
  rcases jc h1 h2 with rfl | rfl | rfl | rfl | rfl | rfl | rfl | rfl | rfl | rfl | rfl | rfl | rfl | rfl
  · rfl
  · show va_up β.2 c x 0 = β.2 0; rw [va_up_ne _ _ (Ne.symm (a9 rfl))]
  · show va_up β.2 c x 1 = β.2 1; rw [va_up_ne _ _ (Ne.symm (a10 rfl))]
  · rfl
  · show va_up β.2 c x _ = β.2 _; rw [va_up_ne _ _ (Ne.symm (a12 rfl))]
  · show va_up β.2 c x _ = β.2 _; rw [va_up_ne _ _ (Ne.symm (a13 rfl))]
  · rfl
  · show va_up β.2 c x _ = β.2 _; rw [va_up_ne _ _ (Ne.symm (a15 rfl))]
  · rfl
  · rfl
  · rfl
  · rfl
  · rfl
  · rfl
theorem pv_a1 {b : Bool} (h1 : 8 ≤ j) (h2 : j < 22) (a16 : j = 16 → c ≠ 32 + 8 * (idx % 24 / 4) + 2 * (idx % 4) ∧ c ≠ 32 + 8 * (idx % 24 / 4) + 2 * (idx % 4) + 1) (a21 : j = 21 → c ≠ 8 + idx % 6) : pVal β (va_up α.1 c b, α.2) j idx = pVal β α j idx := by
  rcases jc h1 h2 with rfl | rfl | rfl | rfl | rfl | rfl | rfl | rfl | rfl | rfl | rfl | rfl | rfl | rfl
  · rfl
  · rfl
  · rfl
  · rfl
  · rfl
  · rfl
  · rfl
  · rfl
  · have := a16 rfl
    show nI (cV2 (va_up α.1 c b _) (va_up α.1 c b _)) = nI (cV2 (α.1 _) (α.1 _)); rw [va_up_ne _ _ (Ne.symm this.1), va_up_ne _ _ (Ne.symm this.2)]
  · rfl
  · rfl
  · rfl
  · rfl
  · show nB (va_up α.1 c b _) = nB (α.1 _); rw [va_up_ne _ _ (Ne.symm (a21 rfl))]
theorem pv_a2 {v : Nat} (h1 : 8 ≤ j) (h2 : j < 22) (a17 : j = 17 → c ≠ 32 + 4 * (idx % 24 / 4) + idx % 4) (a20 : j = 20 → c ≠ 8 + idx % 6) : pVal β (α.1, va_up α.2 c v) j idx = pVal β α j idx := by
  rcases jc h1 h2 with rfl | rfl | rfl | rfl | rfl | rfl | rfl | rfl | rfl | rfl | rfl | rfl | rfl | rfl
  · rfl
  · rfl
  · rfl
  · rfl
  · rfl
  · rfl
  · rfl
  · rfl
  · rfl
  · show nI (va_up α.2 c v _) = nI (α.2 _); rw [va_up_ne _ _ (Ne.symm (a17 rfl))]
  · rfl
  · rfl
  · show nI (va_up α.2 c v _) = nI (α.2 _); rw [va_up_ne _ _ (Ne.symm (a20 rfl))]
  · rfl
end PV
section RC
variable {X : xPar} {m0 : Nat} {t : Int32} {n a j i : Nat} {s : sS} {M : Nat → Nat → Int32} {lg : List sPo} {p : sPo} {β : sB} {α : sA} {w : xW} {P : Option Value → xW → Prop}
theorem pV_0 (h0 : p.1.2.2.2.1 = 0) (ht : ¬ p.2 / 16 % 2 = 1) : pV n p = (p.1.1, p.1.2.1, p.1.2.2.1, 0, cRoot (cUn p.1.2.2.2.2.1) (cUn p.1.2.2.2.2.2), nI (cWn (cUn p.1.2.2.2.2.1) (cUn p.1.2.2.2.2.2) n)) := by
  unfold pV vw
  rw [if_neg ht, if_pos h0]
theorem pV_t (ht : p.2 / 16 % 2 = 1) : pV n p = p.1 := by unfold pV; rw [if_pos ht]
theorem pV_k (h0 : ¬ p.1.2.2.2.1 = 0) : pV n p = p.1 := by
  unfold pV vw
  rw [if_neg h0]
  split <;> rfl
theorem s_Mo_value {aa nn oo tt jj : Int32} (q1 : aa = nI a) (q2 : nn = nI n) (q3 : oo = nB (decide (p.1.1 = i))) (q4 : tt = nB (decide (p.2 / 16 % 2 = 1))) (q5 : jj = nI j) (hn : n < 4) (ha : a < 64) (h0 : p.1.2.2.2.1 = 0) (hB : p.2 / 16 % 2 = 1 ∨ mB p.1) (hj : lg[j]? = some p) (hg : gRel lg M) (hR : rMo X m0 t s M w) (hp : pRel M a β α) (h : ∀ w' M', rMo X m0 t s M' w' → pRel M' a (bKv n i β (pV n p)) α → pFr M M' a → fr w w' m0 (m0 + 31) → P none w') : xE (xGG X) 3 m_Mo_value 0 [(0, .ref m0), (1, .int aa), (2, .int nn), (3, .int oo), (4, .int tt), (5, .int jj)] [] w P := by
  subst q1 q2 q3 q4 q5
  have g1 := hR.1
  have b1 := hR.a1
  have b2 := hR.a2
  have b8 := hR.a8
  obtain ⟨-, -, m1, m2⟩ := hg.2 j p hj
  have hlt : j < lg.length := (List.getElem?_eq_some_iff.mp hj).1
  have hl := hg.1
  have e1 : (pV n p).1 = p.1.1 := by
    by_cases ht : p.2 / 16 % 2 = 1
    · rw [pV_t ht]
    · rw [pV_0 h0 ht]
  have no : (!β.1 0 && decide ((pV n p).1 = i) && cRight (pV n p).2.2.2.2.1 (cUn (pV n p).2.2.2.2.2) n) = false → P none w := by
    intro z
    have e2 : bKv n i β (pV n p) = β := by unfold bKv; rw [z, if_neg (by decide)]
    exact h w M hR (by rw [e2]; exact hp) (pFr.rf _ _) (fr.rf _ _ _)
  have fin : ∀ lc, xlk lc 0 = some (.ref m0) → xlk lc 1 = some (.int (nI a)) → xlk lc 2 = some (.int (nI n)) → xlk lc 3 = some (.int (nB (decide (p.1.1 = i)))) → xlk lc 6 = some (.int (pV n p).2.2.2.2.1) → xE (xGG X) 3 m_Mo_value 67 lc [.int (pV n p).2.2.2.2.2] w P := by
    intro lc l0 l1 l2 l3 l6
    refine xE.fit (lc' := [(0, .ref m0), (1, .int (nI a)), (2, .int (nI n)), (3, .int (nB (decide (p.1.1 = i)))), (6, .int (pV n p).2.2.2.2.1)]) ?_ (by simp only [List.map_cons, List.map_nil, l0, l1, l2, l3, l6])
    refine x_istore 69 rfl d_Mo_value_67 (by decide) ?_
    refine x_iload_n 70 rfl d_Mo_value_69 rfl ?_
    refine x_if_eq 116 73 rfl d_Mo_value_70 (by decide) (fun hc => ?_) (fun hc => ?_)
    · refine x_vret d_Mo_value_116 rfl ?_
      exact no (by rw [e1, (nB_0 _).mp hc, Bool.and_false, Bool.false_and])
    have y1 := nB_ne hc
    refine x_aload_n 74 rfl d_Mo_value_73 rfl ?_
    refine x_get 77 rfl f_Mo_34 d_Mo_value_74 g1 rfl ?_
    refine x_iload_n 78 rfl d_Mo_value_77 rfl ?_
    refine x_zald 79 rfl d_Mo_value_78 b8 (t0 := 1) rfl (vp_in_nI (by omega) (by decide)) ?_
    rw [nI_clamp (by omega), hp.c8]
    refine x_if_ne 116 82 rfl d_Mo_value_79 (by decide) (fun hc => ?_) (fun hc => ?_)
    · refine x_vret d_Mo_value_116 rfl ?_
      exact no (by rw [nB_ne hc]; rfl)
    have y2 := (nB_0 _).mp hc
    refine x_iload 84 rfl d_Mo_value_82 rfl ?_
    refine x_iload 86 rfl d_Mo_value_84 rfl ?_
    refine x_iload_n 87 rfl d_Mo_value_86 rfl ?_
    refine y_call 90 rfl [_, _, _] _ rfl d_Mo_value_87 c_Mo_178 rfl (Nat.le_of_ble_eq_true rfl) (Nat.le_of_ble_eq_true rfl) (Nat.le_of_ble_eq_true rfl) (s_Mo_right (k := n) (u := cUn (pV n p).2.2.2.2.2) rfl (nI_cUn _).symm hn (cUn_lt _) ?_)
    refine x_if_eq 116 93 rfl d_Mo_value_90 (by decide) (fun hc => ?_) (fun hc => ?_)
    · refine x_vret d_Mo_value_116 rfl ?_
      exact no (by rw [(nB_0 _).mp hc, Bool.and_false])
    have y3 := nB_ne hc
    have e2 : bKv n i β (pV n p) = (va_up β.1 0 true, va_up (va_up β.2 0 (pV n p).2.2.2.2.1) 1 (pV n p).2.2.2.2.2) := by unfold bKv; rw [e1, y1, y2, y3, if_pos (by decide)]
    rw [e2] at h
    generalize (pV n p).2.2.2.2.1 = rt at h
    generalize (pV n p).2.2.2.2.2 = wt at h
    refine x_aload_n 94 rfl d_Mo_value_93 rfl ?_
    refine x_get 97 rfl f_Mo_34 d_Mo_value_94 g1 rfl ?_
    refine x_iload_n 98 rfl d_Mo_value_97 rfl ?_
    refine x_iconst 99 rfl d_Mo_value_98 1 (by decide) ?_
    refine x_zast 100 rfl d_Mo_value_99 b8 (t0 := 1) rfl (vp_in_nI (by omega) (by decide)) z1 ?_
    rw [nI_clamp (by omega)]
    have R1 := hR.put (j := 8) (i := a) (x := 1) (by decide)
    generalize hw1 : xset w (m0 + 1 + 8) _ = w1
    replace R1 : rMo X m0 t s (va_up M 8 (upd (M 8) a 1)) w1 := by rw [← hw1]; exact R1
    have f1 : fr w w1 m0 (m0 + 31) := by rw [← hw1]; exact (fr.rf w _ _).set _ (by omega) (by omega)
    have p1 : pRel (va_up M 8 (upd (M 8) a 1)) a (va_up β.1 0 true, β.2) α := hp.up (by show nB (va_up β.1 0 true 0) = 1; rw [va_up_self]; rfl) (fun j idx h1 h2 h3 h4 => pv_b1 h1 h2 (fun z => by subst z; have h3' : idx / 1 = a := h3; have := h4 rfl; omega) (fun _ => by omega) (fun _ => by omega) (fun _ => by omega) (fun _ => by omega))
    have F1 : pFr M (va_up M 8 (upd (M 8) a 1)) a := (pFr.rf M a).up (by decide) (by decide) (Nat.div_one a)
    generalize va_up M 8 (upd (M 8) a 1) = M1 at R1 p1 F1
    have k1 := R1.1
    have k9 := R1.a9
    refine x_aload_n 101 rfl d_Mo_value_100 rfl ?_
    refine x_get 104 rfl f_Mo_38 d_Mo_value_101 k1 rfl ?_
    refine x_iload_n 105 rfl d_Mo_value_104 rfl ?_
    refine x_iload 107 rfl d_Mo_value_105 rfl ?_
    refine x_iast 108 rfl d_Mo_value_107 k9 (t0 := 0) rfl (vp_in_nI (by omega) (by decide)) ?_
    rw [nI_clamp (by omega)]
    have R2 := R1.put (j := 9) (i := a) (x := rt) (by decide)
    generalize hw2 : xset w1 (m0 + 1 + 9) _ = w2
    replace R2 : rMo X m0 t s (va_up M1 9 (upd (M1 9) a rt)) w2 := by rw [← hw2]; exact R2
    have f2 : fr w w2 m0 (m0 + 31) := by rw [← hw2]; exact f1.set _ (by omega) (by omega)
    have p2 : pRel (va_up M1 9 (upd (M1 9) a rt)) a (va_up β.1 0 true, va_up β.2 0 rt) α := p1.up (by show va_up β.2 0 rt 0 = rt; rw [va_up_self]) (fun j idx h1 h2 h3 h4 => pv_b2 (β := (va_up β.1 0 true, β.2)) h1 h2 (fun z => by subst z; have h3' : idx / 1 = a := h3; have := h4 rfl; omega) (fun _ => by omega) (fun _ => by omega) (fun _ => by omega) (fun _ => by omega))
    have F2 : pFr M (va_up M1 9 (upd (M1 9) a rt)) a := F1.up (by decide) (by decide) (Nat.div_one a)
    generalize va_up M1 9 (upd (M1 9) a rt) = M2 at R2 p2 F2
    have k1 := R2.1
    have k10 := R2.a10
    refine x_aload_n 109 rfl d_Mo_value_108 rfl ?_
    refine x_get 112 rfl f_Mo_41 d_Mo_value_109 k1 rfl ?_
    refine x_iload_n 113 rfl d_Mo_value_112 rfl ?_
    refine x_iload 115 rfl d_Mo_value_113 rfl ?_
    refine x_iast 116 rfl d_Mo_value_115 k10 (t0 := 0) rfl (vp_in_nI (by omega) (by decide)) ?_
    refine x_vret d_Mo_value_116 rfl ?_
    rw [nI_clamp (by omega)]
    have R3 := R2.put (j := 10) (i := a) (x := wt) (by decide)
    refine h _ _ R3 (p2.up (by show va_up (va_up β.2 0 rt) 1 wt 1 = wt; rw [va_up_self]) (fun j idx h1 h2 h3 h4 => pv_b2 (β := (va_up β.1 0 true, va_up β.2 0 rt)) h1 h2 (fun _ => by omega) (fun z => by subst z; have h3' : idx / 1 = a := h3; have := h4 rfl; omega) (fun _ => by omega) (fun _ => by omega) (fun _ => by omega))) (F2.up (by decide) (by decide) (Nat.div_one a)) (f2.set _ (by omega) (by omega))
  by_cases ht : p.2 / 16 % 2 = 1
  · rw [decide_eq_true ht]
    have e3 : (pV n p).2.2.2.2.1 = p.1.2.2.2.2.1 := by rw [pV_t ht]
    have e4 : (pV n p).2.2.2.2.2 = p.1.2.2.2.2.2 := by rw [pV_t ht]
    rw [e3, e4] at fin
    refine x_iload 2 rfl d_Mo_value_0 rfl ?_
    refine x_if_eq 15 5 rfl d_Mo_value_2 (by decide) (fun hc => absurd hc (by decide)) (fun hc => ?_)
    refine x_aload_n 6 rfl d_Mo_value_5 rfl ?_
    refine x_get 9 rfl f_Mo_13 d_Mo_value_6 g1 rfl ?_
    refine x_iload 11 rfl d_Mo_value_9 rfl ?_
    refine x_iald 12 rfl d_Mo_value_11 b1 (t0 := 0) rfl (vp_in_nI (by omega) (by decide)) ?_
    rw [nI_clamp (by omega), m1]
    refine x_goto d_Mo_value_12 32 (by decide) ?_
    refine x_istore 34 rfl d_Mo_value_32 (by decide) ?_
    refine x_iload 36 rfl d_Mo_value_34 rfl ?_
    refine x_if_eq 49 39 rfl d_Mo_value_36 (by decide) (fun hc => absurd hc (by decide)) (fun hc => ?_)
    refine x_aload_n 40 rfl d_Mo_value_39 rfl ?_
    refine x_get 43 rfl f_Mo_16 d_Mo_value_40 g1 rfl ?_
    refine x_iload 45 rfl d_Mo_value_43 rfl ?_
    refine x_iald 46 rfl d_Mo_value_45 b2 (t0 := 0) rfl (vp_in_nI (by omega) (by decide)) ?_
    rw [nI_clamp (by omega), m2]
    refine x_goto d_Mo_value_46 67 (by decide) ?_
    exact fin _ rfl rfl rfl rfl rfl
  · rw [decide_eq_false ht]
    have e3 : (pV n p).2.2.2.2.1 = cRoot (cUn p.1.2.2.2.2.1) (cUn p.1.2.2.2.2.2) := by rw [pV_0 h0 ht]
    have e4 : (pV n p).2.2.2.2.2 = nI (cWn (cUn p.1.2.2.2.2.1) (cUn p.1.2.2.2.2.2) n) := by rw [pV_0 h0 ht]
    rw [e3, e4] at fin
    have hB2 : cUn p.1.2.2.2.2.1 < 256 ∧ cUn p.1.2.2.2.2.2 < 256 := by
      rcases hB with z | z
      · exact absurd z ht
      · exact z h0
    refine x_iload 2 rfl d_Mo_value_0 rfl ?_
    refine x_if_eq 15 5 rfl d_Mo_value_2 (by decide) (fun hc => ?_) (fun hc => absurd rfl hc)
    refine x_aload_n 16 rfl d_Mo_value_15 rfl ?_
    refine x_get 19 rfl f_Mo_13 d_Mo_value_16 g1 rfl ?_
    refine x_iload 21 rfl d_Mo_value_19 rfl ?_
    refine x_iald 22 rfl d_Mo_value_21 b1 (t0 := 0) rfl (vp_in_nI (by omega) (by decide)) ?_
    rw [nI_clamp (by omega), m1]
    refine x_aload_n 23 rfl d_Mo_value_22 rfl ?_
    refine x_get 26 rfl f_Mo_16 d_Mo_value_23 g1 rfl ?_
    refine x_iload 28 rfl d_Mo_value_26 rfl ?_
    refine x_iald 29 rfl d_Mo_value_28 b2 (t0 := 0) rfl (vp_in_nI (by omega) (by decide)) ?_
    rw [nI_clamp (by omega), m2]
    refine y_call 32 rfl [_, _] _ rfl d_Mo_value_29 c_Mo_133 rfl (Nat.le_of_ble_eq_true rfl) (Nat.le_of_ble_eq_true rfl) (Nat.le_of_ble_eq_true rfl) (s_Mo_rootOfProposal (nI_cUn _).symm (nI_cUn _).symm hB2.1 hB2.2 ?_)
    refine x_istore 34 rfl d_Mo_value_32 (by decide) ?_
    refine x_iload 36 rfl d_Mo_value_34 rfl ?_
    refine x_if_eq 49 39 rfl d_Mo_value_36 (by decide) (fun hc => ?_) (fun hc => absurd rfl hc)
    refine x_aload_n 50 rfl d_Mo_value_49 rfl ?_
    refine x_get 53 rfl f_Mo_13 d_Mo_value_50 g1 rfl ?_
    refine x_iload 55 rfl d_Mo_value_53 rfl ?_
    refine x_iald 56 rfl d_Mo_value_55 b1 (t0 := 0) rfl (vp_in_nI (by omega) (by decide)) ?_
    rw [nI_clamp (by omega), m1]
    refine x_aload_n 57 rfl d_Mo_value_56 rfl ?_
    refine x_get 60 rfl f_Mo_16 d_Mo_value_57 g1 rfl ?_
    refine x_iload 62 rfl d_Mo_value_60 rfl ?_
    refine x_iald 63 rfl d_Mo_value_62 b2 (t0 := 0) rfl (vp_in_nI (by omega) (by decide)) ?_
    rw [nI_clamp (by omega), m2]
    refine x_iload_n 64 rfl d_Mo_value_63 rfl ?_
    refine y_call 67 rfl [_, _, _] _ rfl d_Mo_value_64 c_Mo_175 rfl (Nat.le_of_ble_eq_true rfl) (Nat.le_of_ble_eq_true rfl) (Nat.le_of_ble_eq_true rfl) (s_Mo_witness (k := n) (nI_cUn _).symm (nI_cUn _).symm rfl hB2.1 hB2.2 hn ?_)
    exact fin _ rfl rfl rfl rfl rfl
theorem s_Mo_answer {aa kk dd jj : Int32} (q1 : aa = nI (4 * a + p.1.1)) (q2 : kk = nI p.1.1) (q3 : dd = nI p.1.2.2.2.1) (q5 : jj = nI j) (ha : a < 64) (hs : p.1.1 < 4) (h0 : p.1.2.2.2.1 = 1 ∨ p.1.2.2.2.1 = 2) (hj : lg[j]? = some p) (hg : gRel lg M) (hR : rMo X m0 t s M w) (hp : pRel M a β α) (h : ∀ w' M', rMo X m0 t s M' w' → pRel M' a (if p.1.2.2.2.1 = 1 then bKe β p.1 else bKr β p.1) α → pFr M M' a → fr w w' m0 (m0 + 31) → P none w') : xE (xGG X) 2 m_Mo_answer 0 [(0, .ref m0), (1, .int aa), (2, .int kk), (3, .int dd), (4, .int jj)] [] w P := by
  subst q1 q2 q3 q5
  have g1 := hR.1
  have b1 := hR.a1
  have b2 := hR.a2
  have b11 := hR.a11
  have b14 := hR.a14
  obtain ⟨-, -, m1, m2⟩ := hg.2 j p hj
  have hlt : j < lg.length := (List.getElem?_eq_some_iff.mp hj).1
  have hl := hg.1
  have D4 := d4 (a := a) hs
  rcases h0 with h0 | h0
  · rw [if_pos h0] at h
    rw [h0]
    have out : ∀ w' lc, xlk lc 3 = some (.int (nI 1)) → P none w' → xE (xGG X) 2 m_Mo_answer 72 lc [] w' P := by
      intro w' lc l3 hh
      refine xE.fit (lc' := [(3, .int (nI 1))]) ?_ (by simp only [List.map_cons, List.map_nil, l3])
      refine x_iload_n 73 rfl d_Mo_answer_72 rfl ?_
      refine x_iconst 74 rfl d_Mo_answer_73 2 (by decide) ?_
      refine x_icmp_ne 106 77 rfl d_Mo_answer_74 (by decide) (fun hc => ?_) (fun hc => absurd hc (by decide))
      refine x_vret d_Mo_answer_106 rfl ?_
      exact hh
    have no : (!β.1 (8 + p.1.1) && cRight p.1.2.2.2.2.1 (cUn p.1.2.2.2.2.2) p.1.1) = false → P none w := by
      intro z
      have e2 : bKe β p.1 = β := by unfold bKe; rw [z, if_neg (by decide)]
      exact h w M hR (by rw [e2]; exact hp) (pFr.rf _ _) (fr.rf _ _ _)
    refine x_iload_n 1 rfl d_Mo_answer_0 rfl ?_
    refine x_iconst 2 rfl d_Mo_answer_1 1 (by decide) ?_
    refine x_icmp_ne 72 5 rfl d_Mo_answer_2 (by decide) (fun hc => absurd rfl hc) (fun hc => ?_)
    refine x_aload_n 6 rfl d_Mo_answer_5 rfl ?_
    refine x_get 9 rfl f_Mo_44 d_Mo_answer_6 g1 rfl ?_
    refine x_iload_n 10 rfl d_Mo_answer_9 rfl ?_
    refine x_zald 11 rfl d_Mo_answer_10 b11 (t0 := 1) rfl (vp_in_nI (by omega) (by decide)) ?_
    rw [nI_clamp (by omega), hp.c11 hs]
    refine x_if_ne 72 14 rfl d_Mo_answer_11 (by decide) (fun hc => ?_) (fun hc => ?_)
    · exact out _ _ rfl (no (by rw [nB_ne hc]; rfl))
    have y1 := (nB_0 _).mp hc
    refine x_aload_n 15 rfl d_Mo_answer_14 rfl ?_
    refine x_get 18 rfl f_Mo_13 d_Mo_answer_15 g1 rfl ?_
    refine x_iload 20 rfl d_Mo_answer_18 rfl ?_
    refine x_iald 21 rfl d_Mo_answer_20 b1 (t0 := 0) rfl (vp_in_nI (by omega) (by decide)) ?_
    rw [nI_clamp (by omega), m1]
    refine x_aload_n 22 rfl d_Mo_answer_21 rfl ?_
    refine x_get 25 rfl f_Mo_16 d_Mo_answer_22 g1 rfl ?_
    refine x_iload 27 rfl d_Mo_answer_25 rfl ?_
    refine x_iald 28 rfl d_Mo_answer_27 b2 (t0 := 0) rfl (vp_in_nI (by omega) (by decide)) ?_
    rw [nI_clamp (by omega), m2]
    refine x_iload_n 29 rfl d_Mo_answer_28 rfl ?_
    refine y_call 32 rfl [_, _, _] _ rfl d_Mo_answer_29 c_Mo_178 rfl (Nat.le_of_ble_eq_true rfl) (Nat.le_of_ble_eq_true rfl) (Nat.le_of_ble_eq_true rfl) (s_Mo_right (k := p.1.1) (u := cUn p.1.2.2.2.2.2) rfl (nI_cUn _).symm hs (cUn_lt _) ?_)
    refine x_if_eq 72 35 rfl d_Mo_answer_32 (by decide) (fun hc => ?_) (fun hc => ?_)
    · exact out _ _ rfl (no (by rw [(nB_0 _).mp hc, Bool.and_false]))
    have y2 := nB_ne hc
    have e2 : bKe β p.1 = (va_up β.1 (8 + p.1.1) true, va_up (va_up β.2 (8 + p.1.1) p.1.2.2.2.2.1) (16 + p.1.1) (nI (cUn p.1.2.2.2.2.2 % 256))) := by unfold bKe; rw [y1, y2, if_pos (by decide)]
    rw [e2] at h
    refine x_aload_n 36 rfl d_Mo_answer_35 rfl ?_
    refine x_get 39 rfl f_Mo_44 d_Mo_answer_36 g1 rfl ?_
    refine x_iload_n 40 rfl d_Mo_answer_39 rfl ?_
    refine x_iconst 41 rfl d_Mo_answer_40 1 (by decide) ?_
    refine x_zast 42 rfl d_Mo_answer_41 b11 (t0 := 1) rfl (vp_in_nI (by omega) (by decide)) z1 ?_
    rw [nI_clamp (by omega)]
    have R1 := hR.put (j := 11) (i := 4 * a + p.1.1) (x := 1) (by decide)
    generalize hw1 : xset w (m0 + 1 + 11) _ = w1
    replace R1 : rMo X m0 t s (va_up M 11 (upd (M 11) (4 * a + p.1.1) 1)) w1 := by rw [← hw1]; exact R1
    have f1 : fr w w1 m0 (m0 + 31) := by rw [← hw1]; exact (fr.rf w _ _).set _ (by omega) (by omega)
    have p1 : pRel (va_up M 11 (upd (M 11) (4 * a + p.1.1) 1)) a (va_up β.1 (8 + p.1.1) true, β.2) α := hp.up (by show nB (va_up β.1 (8 + p.1.1) true (8 + (4 * a + p.1.1) % 4)) = 1; rw [D4.2, va_up_self]; rfl) (fun j idx h1 h2 h3 h4 => pv_b1 h1 h2 (fun _ => by omega) (fun z => by subst z; have h3' : idx / 4 = a := h3; have := h4 rfl; omega) (fun _ => by omega) (fun _ => by omega) (fun _ => by omega))
    have F1 : pFr M (va_up M 11 (upd (M 11) (4 * a + p.1.1) 1)) a := (pFr.rf M a).up (by decide) (by decide) D4.1
    have q1 : ∀ j, j < 8 → va_up M 11 (upd (M 11) (4 * a + p.1.1) 1) j = M j := fun j hj => va_up_ne _ _ (by omega)
    generalize va_up M 11 (upd (M 11) (4 * a + p.1.1) 1) = M1 at R1 p1 F1 q1
    have k1 := R1.1
    have c1 := R1.a1
    have k12 := R1.a12
    refine x_aload_n 43 rfl d_Mo_answer_42 rfl ?_
    refine x_get 46 rfl f_Mo_47 d_Mo_answer_43 k1 rfl ?_
    refine x_iload_n 47 rfl d_Mo_answer_46 rfl ?_
    refine x_aload_n 48 rfl d_Mo_answer_47 rfl ?_
    refine x_get 51 rfl f_Mo_13 d_Mo_answer_48 k1 rfl ?_
    refine x_iload 53 rfl d_Mo_answer_51 rfl ?_
    refine x_iald 54 rfl d_Mo_answer_53 c1 (t0 := 0) rfl (vp_in_nI (by omega) (by decide)) ?_
    rw [nI_clamp (by omega), q1 1 (by decide), m1]
    refine x_iast 55 rfl d_Mo_answer_54 k12 (t0 := 0) rfl (vp_in_nI (by omega) (by decide)) ?_
    rw [nI_clamp (by omega)]
    have R2 := R1.put (j := 12) (i := 4 * a + p.1.1) (x := p.1.2.2.2.2.1) (by decide)
    generalize hw2 : xset w1 (m0 + 1 + 12) _ = w2
    replace R2 : rMo X m0 t s (va_up M1 12 (upd (M1 12) (4 * a + p.1.1) p.1.2.2.2.2.1)) w2 := by rw [← hw2]; exact R2
    have f2 : fr w w2 m0 (m0 + 31) := by rw [← hw2]; exact f1.set _ (by omega) (by omega)
    have p2 : pRel (va_up M1 12 (upd (M1 12) (4 * a + p.1.1) p.1.2.2.2.2.1)) a (va_up β.1 (8 + p.1.1) true, va_up β.2 (8 + p.1.1) p.1.2.2.2.2.1) α := p1.up (by show va_up β.2 (8 + p.1.1) p.1.2.2.2.2.1 (8 + (4 * a + p.1.1) % 4) = _; rw [D4.2, va_up_self]) (fun j idx h1 h2 h3 h4 => pv_b2 (β := (va_up β.1 (8 + p.1.1) true, β.2)) h1 h2 (fun _ => by omega) (fun _ => by omega) (fun z => by subst z; have h3' : idx / 4 = a := h3; have := h4 rfl; omega) (fun _ => by omega) (fun _ => by omega))
    have F2 : pFr M (va_up M1 12 (upd (M1 12) (4 * a + p.1.1) p.1.2.2.2.2.1)) a := F1.up (by decide) (by decide) D4.1
    have q2 : ∀ j, j < 8 → va_up M1 12 (upd (M1 12) (4 * a + p.1.1) p.1.2.2.2.2.1) j = M j := fun j hj => by rw [va_up_ne _ _ (by omega)]; exact q1 j hj
    generalize va_up M1 12 (upd (M1 12) (4 * a + p.1.1) p.1.2.2.2.2.1) = M2 at R2 p2 F2 q2
    have k1 := R2.1
    have c2 := R2.a2
    have k13 := R2.a13
    refine x_aload_n 56 rfl d_Mo_answer_55 rfl ?_
    refine x_get 59 rfl f_Mo_50 d_Mo_answer_56 k1 rfl ?_
    refine x_iload_n 60 rfl d_Mo_answer_59 rfl ?_
    refine x_aload_n 61 rfl d_Mo_answer_60 rfl ?_
    refine x_get 64 rfl f_Mo_16 d_Mo_answer_61 k1 rfl ?_
    refine x_iload 66 rfl d_Mo_answer_64 rfl ?_
    refine x_iald 67 rfl d_Mo_answer_66 c2 (t0 := 0) rfl (vp_in_nI (by omega) (by decide)) ?_
    rw [nI_clamp (by omega), q2 2 (by decide), m2]
    refine x_sipush 70 rfl d_Mo_answer_67 255 (by decide) ?_
    refine x_iand 71 rfl d_Mo_answer_70 ?_
    rw [iV8]
    refine x_iast 72 rfl d_Mo_answer_71 k13 (t0 := 0) rfl (vp_in_nI (by omega) (by decide)) ?_
    rw [nI_clamp (by omega)]
    have R3 := R2.put (j := 13) (i := 4 * a + p.1.1) (x := nI (cUn p.1.2.2.2.2.2 % 256)) (by decide)
    refine out _ _ rfl (h _ _ R3 (p2.up (by show va_up (va_up β.2 (8 + p.1.1) p.1.2.2.2.2.1) (16 + p.1.1) (nI (cUn p.1.2.2.2.2.2 % 256)) (16 + (4 * a + p.1.1) % 4) = _; rw [D4.2, va_up_self]) (fun j idx h1 h2 h3 h4 => pv_b2 (β := (va_up β.1 (8 + p.1.1) true, va_up β.2 (8 + p.1.1) p.1.2.2.2.2.1)) h1 h2 (fun _ => by omega) (fun _ => by omega) (fun _ => by omega) (fun z => by subst z; have h3' : idx / 4 = a := h3; have := h4 rfl; omega) (fun _ => by omega))) (F2.up (by decide) (by decide) D4.1) (f2.set _ (by omega) (by omega)))
  · rw [if_neg (by omega)] at h
    rw [h0]
    refine x_iload_n 1 rfl d_Mo_answer_0 rfl ?_
    refine x_iconst 2 rfl d_Mo_answer_1 1 (by decide) ?_
    refine x_icmp_ne 72 5 rfl d_Mo_answer_2 (by decide) (fun hc => ?_) (fun hc => absurd hc (by decide))
    refine x_iload_n 73 rfl d_Mo_answer_72 rfl ?_
    refine x_iconst 74 rfl d_Mo_answer_73 2 (by decide) ?_
    refine x_icmp_ne 106 77 rfl d_Mo_answer_74 (by decide) (fun hc => absurd rfl hc) (fun hc => ?_)
    refine x_aload_n 78 rfl d_Mo_answer_77 rfl ?_
    refine x_get 81 rfl f_Mo_53 d_Mo_answer_78 g1 rfl ?_
    refine x_iload_n 82 rfl d_Mo_answer_81 rfl ?_
    refine x_zald 83 rfl d_Mo_answer_82 b14 (t0 := 1) rfl (vp_in_nI (by omega) (by decide)) ?_
    rw [nI_clamp (by omega), hp.c14 hs]
    refine x_if_ne 106 86 rfl d_Mo_answer_83 (by decide) (fun hc => ?_) (fun hc => ?_)
    · refine x_vret d_Mo_answer_106 rfl ?_
      have e2 : bKr β p.1 = β := by unfold bKr; rw [nB_ne hc, if_neg (by decide)]
      exact h w M hR (by rw [e2]; exact hp) (pFr.rf _ _) (fr.rf _ _ _)
    have y1 := (nB_0 _).mp hc
    have e2 : bKr β p.1 = (va_up β.1 (16 + p.1.1) true, va_up β.2 (24 + p.1.1) p.1.2.2.2.2.1) := by unfold bKr; rw [y1, if_pos (by decide)]
    rw [e2] at h
    refine x_aload_n 87 rfl d_Mo_answer_86 rfl ?_
    refine x_get 90 rfl f_Mo_53 d_Mo_answer_87 g1 rfl ?_
    refine x_iload_n 91 rfl d_Mo_answer_90 rfl ?_
    refine x_iconst 92 rfl d_Mo_answer_91 1 (by decide) ?_
    refine x_zast 93 rfl d_Mo_answer_92 b14 (t0 := 1) rfl (vp_in_nI (by omega) (by decide)) z1 ?_
    rw [nI_clamp (by omega)]
    have R1 := hR.put (j := 14) (i := 4 * a + p.1.1) (x := 1) (by decide)
    generalize hw1 : xset w (m0 + 1 + 14) _ = w1
    replace R1 : rMo X m0 t s (va_up M 14 (upd (M 14) (4 * a + p.1.1) 1)) w1 := by rw [← hw1]; exact R1
    have f1 : fr w w1 m0 (m0 + 31) := by rw [← hw1]; exact (fr.rf w _ _).set _ (by omega) (by omega)
    have p1 : pRel (va_up M 14 (upd (M 14) (4 * a + p.1.1) 1)) a (va_up β.1 (16 + p.1.1) true, β.2) α := hp.up (by show nB (va_up β.1 (16 + p.1.1) true (16 + (4 * a + p.1.1) % 4)) = 1; rw [D4.2, va_up_self]; rfl) (fun j idx h1 h2 h3 h4 => pv_b1 h1 h2 (fun _ => by omega) (fun _ => by omega) (fun z => by subst z; have h3' : idx / 4 = a := h3; have := h4 rfl; omega) (fun _ => by omega) (fun _ => by omega))
    have F1 : pFr M (va_up M 14 (upd (M 14) (4 * a + p.1.1) 1)) a := (pFr.rf M a).up (by decide) (by decide) D4.1
    have q1 : ∀ j, j < 8 → va_up M 14 (upd (M 14) (4 * a + p.1.1) 1) j = M j := fun j hj => va_up_ne _ _ (by omega)
    generalize va_up M 14 (upd (M 14) (4 * a + p.1.1) 1) = M1 at R1 p1 F1 q1
    have k1 := R1.1
    have c1 := R1.a1
    have k15 := R1.a15
    refine x_aload_n 94 rfl d_Mo_answer_93 rfl ?_
    refine x_get 97 rfl f_Mo_56 d_Mo_answer_94 k1 rfl ?_
    refine x_iload_n 98 rfl d_Mo_answer_97 rfl ?_
    refine x_aload_n 99 rfl d_Mo_answer_98 rfl ?_
    refine x_get 102 rfl f_Mo_13 d_Mo_answer_99 k1 rfl ?_
    refine x_iload 104 rfl d_Mo_answer_102 rfl ?_
    refine x_iald 105 rfl d_Mo_answer_104 c1 (t0 := 0) rfl (vp_in_nI (by omega) (by decide)) ?_
    rw [nI_clamp (by omega), q1 1 (by decide), m1]
    refine x_iast 106 rfl d_Mo_answer_105 k15 (t0 := 0) rfl (vp_in_nI (by omega) (by decide)) ?_
    refine x_vret d_Mo_answer_106 rfl ?_
    rw [nI_clamp (by omega)]
    have R2 := R1.put (j := 15) (i := 4 * a + p.1.1) (x := p.1.2.2.2.2.1) (by decide)
    exact h _ _ R2 (p1.up (by show va_up β.2 (24 + p.1.1) p.1.2.2.2.2.1 (24 + (4 * a + p.1.1) % 4) = _; rw [D4.2, va_up_self]) (fun j idx h1 h2 h3 h4 => pv_b2 (β := (va_up β.1 (16 + p.1.1) true, β.2)) h1 h2 (fun _ => by omega) (fun _ => by omega) (fun _ => by omega) (fun _ => by omega) (fun z => by subst z; have h3' : idx / 4 = a := h3; have := h4 rfl; omega))) (F1.up (by decide) (by decide) D4.1) (f1.set _ (by omega) (by omega))
end RC
