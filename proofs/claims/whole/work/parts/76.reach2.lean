/-! THE REFERENCE: REACH, WHOLE -/
section RE2
variable {X : xPar} {m0 : Nat} {t : Int32} {n j : Nat} {s : sS} {M0 : Nat → Nat → Int32} {lg : List sPo} {p : sPo} {ν : sN} {w0 w : xW} {P : Option Value → xW → Prop}
theorem hF {H : Nat} (h : H < 16384) : nI H &&& 3 = nI (H % 4) ∧ nI H >>> ((2 : Int32) &&& 31) &&& 3 = nI (H / 4 % 4) ∧ nI H >>> ((4 : Int32) &&& 31) &&& 3 = nI (H / 16 % 4) ∧ nI H >>> ((6 : Int32) &&& 31) &&& 7 = nI (H / 64 % 8) ∧ nI H >>> ((13 : Int32) &&& 31) &&& 1 = nI (H / 8192 % 2) := by
  refine ⟨pk_andN (by omega) 2 (by decide), ?_, ?_, ?_, ?_⟩
  · rw [pk_shrN (by omega) _ 2 (by decide)]; exact pk_andN (by omega) 2 (by decide)
  · rw [pk_shrN (by omega) _ 4 (by decide)]; exact pk_andN (by omega) 2 (by decide)
  · rw [pk_shrN (by omega) _ 6 (by decide)]; exact pk_andN (by omega) 3 (by decide)
  · rw [pk_shrN (by omega) _ 13 (by decide)]; exact i1 (by omega)
theorem s_Mo_reach {nn jj : Int32} (q1 : nn = nI n) (q2 : jj = nI j) (hn : n < 4) (hj : lg[j]? = some p) (hpw : pW n p = true) (hB : p.2 / 16 % 2 = 1 ∨ mB p.1) (hT : ν.2.1 = (decide (n = 3) && s.1)) (hl : lg.length + nPot ν < 1700) (hm : mN X m0 t n s M0 lg ν w0 w)
    (h : ∀ w' u c, mN X m0 t n (s.1, s.2.1, s.2.2.1, s.2.2.2.1, u, c) M0 (lg.set j (p.1, p.2 + 2 ^ n) ++ pMs (nTk n t ν (pV n p)).2) (nTk n t ν (pV n p)).1 w0 w' → P none w') : xE (xGG X) 7 m_Mo_reach 0 [(0, .ref m0), (1, .int nn), (2, .int jj)] [] w P := by
  subst q1 q2
  obtain ⟨gv, g, M, hR, hg, hNr, hF0, hw, hI⟩ := hm
  have g1 := hR.1
  have b0 := hR.a0
  obtain ⟨hok, m0', m1, m2⟩ := hg.2 j p hj
  have hlt : j < lg.length := (List.getElem?_eq_some_iff.mp hj).1
  have hlg := hg.1
  have hok' := pOk_set hok hn hpw
  have hHl := hN_lt hok'
  have hob := or_bit _ hok.2 n hn (of_decide_eq_true hpw)
  obtain ⟨v1, v2, v3, v4⟩ := pV_f (n := n) (p := p)
  obtain ⟨⟨o1, o2, o3, o4, o5⟩, o6⟩ := hok
  have hp5 := hI.2.2.2.1
  refine x_aload_n 1 rfl d_Mo_reach_0 rfl ?_
  refine x_get 4 rfl f_Mo_7 d_Mo_reach_1 g1 rfl ?_
  refine x_iload_n 5 rfl d_Mo_reach_4 rfl ?_
  refine x_aload_n 6 rfl d_Mo_reach_5 rfl ?_
  refine x_get 9 rfl f_Mo_7 d_Mo_reach_6 g1 rfl ?_
  refine x_iload_n 10 rfl d_Mo_reach_9 rfl ?_
  refine x_iald 11 rfl d_Mo_reach_10 b0 (t0 := 0) rfl (vp_in_nI (by omega) (by decide)) ?_
  rw [nI_clamp (by omega), m0']
  refine x_iconst 12 rfl d_Mo_reach_11 1 (by decide) ?_
  refine x_bipush 14 rfl d_Mo_reach_12 9 (by decide) ?_
  refine x_iload_n 15 rfl d_Mo_reach_14 rfl ?_
  refine x_iadd 16 rfl d_Mo_reach_15 ?_
  refine x_ishl 17 rfl d_Mo_reach_16 ?_
  refine x_ior 18 rfl d_Mo_reach_17 ?_
  rw [hN_set ⟨⟨o1, o2, o3, o4, o5⟩, o6⟩ hn hpw]
  refine x_iast 19 rfl d_Mo_reach_18 b0 (t0 := 0) rfl (vp_in_nI (by omega) (by decide)) ?_
  rw [nI_clamp (by omega)]
  have R1 := hR.put (j := 0) (i := j) (x := nI (hN (p.1, p.2 + 2 ^ n))) (by decide)
  have G1 := hg.set hj hn hpw
  generalize hw1 : xset w (m0 + 1 + 0) _ = w1
  replace R1 : rMo X m0 t (s.1, s.2.1, nI lg.length, gv, s.2.2.2.2) (va_up M 0 (upd (M 0) j (nI (hN (p.1, p.2 + 2 ^ n))))) w1 := by rw [← hw1]; exact R1
  have f1 : fr w0 w1 m0 (m0 + 31) := by rw [← hw1]; exact hw.set _ (by omega) (by omega)
  have c0 : va_up M 0 (upd (M 0) j (nI (hN (p.1, p.2 + 2 ^ n)))) 0 j = nI (hN (p.1, p.2 + 2 ^ n)) := by rw [va_up_self, upd_at]
  have e1 : ∀ k, 3 ≤ k → va_up M 0 (upd (M 0) j (nI (hN (p.1, p.2 + 2 ^ n)))) k = M k := fun k hk => va_up_ne _ _ (by omega)
  have e1' : ∀ k, 1 ≤ k → va_up M 0 (upd (M 0) j (nI (hN (p.1, p.2 + 2 ^ n)))) k = M k := fun k hk => va_up_ne _ _ (by omega)
  generalize va_up M 0 (upd (M 0) j (nI (hN (p.1, p.2 + 2 ^ n)))) = M1 at R1 G1 c0 e1 e1'
  have hN1 : nRel M1 n ν g := hNr.cg e1
  have F1 : nFr M0 M1 n := hF0.cg e1
  have j' : (lg.set j (p.1, p.2 + 2 ^ n))[j]? = some (p.1, p.2 + 2 ^ n) := List.getElem?_set_self hlt
  have len' : (lg.set j (p.1, p.2 + 2 ^ n)).length = lg.length := List.length_set
  rw [← len'] at R1
  have hH : hN (p.1, p.2 + 2 ^ n) = p.1.1 + 4 * p.1.2.1 + 16 * p.1.2.2.1 + 64 * p.1.2.2.2.1 + 512 * (p.2 + 2 ^ n) := rfl
  generalize hN (p.1, p.2 + 2 ^ n) = H at c0 hH hHl
  obtain ⟨x1, x2, x3, x4, x5⟩ := hF hHl
  rw [show H % 4 = p.1.1 from by omega] at x1
  rw [show H / 4 % 4 = p.1.2.1 from by omega] at x2
  rw [show H / 16 % 4 = p.1.2.2.1 from by omega] at x3
  rw [show H / 64 % 8 = p.1.2.2.2.1 from by omega] at x4
  rw [show H / 8192 % 2 = p.2 / 16 % 2 from by rw [← hob.2.2.1]; omega] at x5
  have k1 := R1.1
  have k0 := R1.a0
  have k3 := R1.a3
  refine x_aload_n 20 rfl d_Mo_reach_19 rfl ?_
  refine x_get 23 rfl f_Mo_7 d_Mo_reach_20 k1 rfl ?_
  refine x_iload_n 24 rfl d_Mo_reach_23 rfl ?_
  refine x_iald 25 rfl d_Mo_reach_24 k0 (t0 := 0) rfl (vp_in_nI (by omega) (by decide)) ?_
  refine x_iconst 26 rfl d_Mo_reach_25 3 (by decide) ?_
  refine x_iand 27 rfl d_Mo_reach_26 ?_
  refine x_istore_n 28 rfl d_Mo_reach_27 (by decide) ?_
  refine x_aload_n 29 rfl d_Mo_reach_28 rfl ?_
  refine x_get 32 rfl f_Mo_7 d_Mo_reach_29 k1 rfl ?_
  refine x_iload_n 33 rfl d_Mo_reach_32 rfl ?_
  refine x_iald 34 rfl d_Mo_reach_33 k0 (t0 := 0) rfl (vp_in_nI (by omega) (by decide)) ?_
  refine x_iconst 35 rfl d_Mo_reach_34 2 (by decide) ?_
  refine x_ishr 36 rfl d_Mo_reach_35 ?_
  refine x_iconst 37 rfl d_Mo_reach_36 3 (by decide) ?_
  refine x_iand 38 rfl d_Mo_reach_37 ?_
  refine x_istore 40 rfl d_Mo_reach_38 (by decide) ?_
  refine x_aload_n 41 rfl d_Mo_reach_40 rfl ?_
  refine x_get 44 rfl f_Mo_7 d_Mo_reach_41 k1 rfl ?_
  refine x_iload_n 45 rfl d_Mo_reach_44 rfl ?_
  refine x_iald 46 rfl d_Mo_reach_45 k0 (t0 := 0) rfl (vp_in_nI (by omega) (by decide)) ?_
  refine x_iconst 47 rfl d_Mo_reach_46 4 (by decide) ?_
  refine x_ishr 48 rfl d_Mo_reach_47 ?_
  refine x_iconst 49 rfl d_Mo_reach_48 3 (by decide) ?_
  refine x_iand 50 rfl d_Mo_reach_49 ?_
  refine x_istore 52 rfl d_Mo_reach_50 (by decide) ?_
  refine x_aload_n 53 rfl d_Mo_reach_52 rfl ?_
  refine x_get 56 rfl f_Mo_7 d_Mo_reach_53 k1 rfl ?_
  refine x_iload_n 57 rfl d_Mo_reach_56 rfl ?_
  refine x_iald 58 rfl d_Mo_reach_57 k0 (t0 := 0) rfl (vp_in_nI (by omega) (by decide)) ?_
  refine x_bipush 60 rfl d_Mo_reach_58 6 (by decide) ?_
  refine x_ishr 61 rfl d_Mo_reach_60 ?_
  refine x_bipush 63 rfl d_Mo_reach_61 7 (by decide) ?_
  refine x_iand 64 rfl d_Mo_reach_63 ?_
  refine x_istore 66 rfl d_Mo_reach_64 (by decide) ?_
  rw [nI_clamp (by omega), c0, x1, x2, x3, x4]
  -- it is not for this node, or of an epoch that is over
  have ret : (ν.2.1 = true ∨ (pV n p).2.1 + 1 < ν.1) → ∀ lc, xE (xGG X) 7 m_Mo_reach 89 lc [] w1 P := by
    intro z lc
    refine x_vret d_Mo_reach_89 rfl ?_
    have e3 : nTk n t ν (pV n p) = (ν, []) := by unfold nTk; rw [if_pos z]
    refine h w1 s.2.2.2.2.1 s.2.2.2.2.2 ?_
    rw [e3, pMs_nil]
    exact ⟨gv, g, M1, R1, G1, hN1, F1, f1, hI⟩
  have E3 : M1 3 n = iD ν.1 := hN1.1
  have S78 : ν.2.1 = false → xE (xGG X) 7 m_Mo_reach 78 [(0, .ref m0), (1, .int (nI n)), (2, .int (nI j)), (3, .int (nI p.1.1)), (4, .int (nI p.1.2.1)), (5, .int (nI p.1.2.2.1)), (6, .int (nI p.1.2.2.2.1))] [] w1 P := by
    intro ntr
    refine x_iload 80 rfl d_Mo_reach_78 rfl ?_
    refine x_aload_n 81 rfl d_Mo_reach_80 rfl ?_
    refine x_get 84 rfl f_Mo_19 d_Mo_reach_81 k1 rfl ?_
    refine x_iload_n 85 rfl d_Mo_reach_84 rfl ?_
    refine x_iald 86 rfl d_Mo_reach_85 k3 (t0 := 0) rfl (vp_in_nI (by omega) (by decide)) ?_
    rw [nI_clamp (by omega), E3]
    refine x_icmp_ge 90 89 rfl d_Mo_reach_86 (by decide) (fun hc => ?_) (fun hc => ?_)
    rotate_left
    · refine ret (Or.inr ?_) _
      rw [v2]
      by_cases z : ν.1 ≤ p.1.2.1 + 1
      · exact absurd ((iDle _ (by omega) _ o2).mpr z) hc
      · omega
    have hge : ν.1 ≤ p.1.2.1 + 1 := (iDle _ (by omega) _ o2).mp hc
    have eT : nTk n t ν (pV n p) = if ν.1 = p.1.2.1 + 1 then nGw n t 20 p.1.2.1 p.1.2.2.1 p.1.2.2.1 (nKp n ν (pV n p)) else (nKp n ν (pV n p), []) := by
      unfold nTk
      rw [if_neg (by rw [ntr, v2]; intro z; rcases z with z | z; cases z; omega), v2, v3]
    have mk : mOk (pV n p) := by
      unfold pV
      split
      · exact ⟨o1, o2, o3, o4, o5⟩
      · exact mOk_vw ⟨o1, o2, o3, o4, o5⟩
    obtain ⟨c1, c2, c3, c4⟩ := nKp_keep n ν (pV n p)
    have kpot := nKp_pot (n := n) (ν := ν) mk
    have kinv := nKp_inv (n := n) mk hI
    -- behind the keeping
    have C276 : ∀ w2 lc, xlk lc 0 = some (.ref m0) → xlk lc 1 = some (.int (nI n)) → xlk lc 4 = some (.int (nI p.1.2.1)) → xlk lc 5 = some (.int (nI p.1.2.2.1)) → mN X m0 t n s M0 (lg.set j (p.1, p.2 + 2 ^ n)) (nKp n ν (pV n p)) w0 w2 → xE (xGG X) 7 m_Mo_reach 276 lc [] w2 P := by
      intro w2 lc l0 l1 l4 l5 hm2
      refine xE.fit (lc' := [(0, .ref m0), (1, .int (nI n)), (4, .int (nI p.1.2.1)), (5, .int (nI p.1.2.2.1))]) ?_ (by simp only [List.map_cons, List.map_nil, l0, l1, l4, l5])
      have hm3 := hm2
      obtain ⟨gv2, g2, M2, R2, G2, N2, F2, f2, I2⟩ := hm2
      have a1 := R2.1
      have a3 := R2.a3
      have E32 : M2 3 n = iD ν.1 := by rw [N2.1, c1]
      refine x_iload 278 rfl d_Mo_reach_276 rfl ?_
      refine x_aload_n 279 rfl d_Mo_reach_278 rfl ?_
      refine x_get 282 rfl f_Mo_19 d_Mo_reach_279 a1 rfl ?_
      refine x_iload_n 283 rfl d_Mo_reach_282 rfl ?_
      refine x_iald 284 rfl d_Mo_reach_283 a3 (t0 := 0) rfl (vp_in_nI (by omega) (by decide)) ?_
      rw [nI_clamp (by omega), E32]
      refine x_icmp_ne 303 287 rfl d_Mo_reach_284 (by decide) (fun hc => ?_) (fun hc => ?_)
      · have z : ¬ ν.1 = p.1.2.1 + 1 := fun z => hc ((iDeq _ (by omega) _ o2).mpr z)
        rw [eT, if_neg z] at h
        refine x_vret d_Mo_reach_303 rfl ?_
        refine h w2 s.2.2.2.2.1 s.2.2.2.2.2 ?_
        rw [pMs_nil]
        exact hm3
      have z : ν.1 = p.1.2.1 + 1 := (iDeq _ (by omega) _ o2).mp hc
      rw [eT, if_pos z] at h
      refine x_aload_n 288 rfl d_Mo_reach_287 rfl ?_
      refine x_iload 290 rfl d_Mo_reach_288 rfl ?_
      refine x_put 293 rfl p_Mo_165 (fun h => nomatch h) d_Mo_reach_290 a1 rfl rfl (Nat.le_of_ble_eq_true rfl) ?_
      have R3 : rMo X m0 t (s.1, s.2.1, nI (lg.set j (p.1, p.2 + 2 ^ n)).length, gv2, nI p.1.2.2.1, s.2.2.2.2.2) M2 _ := R2.fld
      generalize hw3 : xset w2 m0 _ = w3
      replace R3 : rMo X m0 t (s.1, s.2.1, nI (lg.set j (p.1, p.2 + 2 ^ n)).length, gv2, nI p.1.2.2.1, s.2.2.2.2.2) M2 w3 := by rw [← hw3]; exact R3
      have f3 : fr w0 w3 m0 (m0 + 31) := by rw [← hw3]; exact f2.set _ (by omega) (by omega)
      have a1 := R3.1
      refine x_aload_n 294 rfl d_Mo_reach_293 rfl ?_
      refine x_iconst 295 rfl d_Mo_reach_294 4 (by decide) ?_
      refine x_put 298 rfl p_Mo_168 (fun h => nomatch h) d_Mo_reach_295 a1 rfl rfl (Nat.le_of_ble_eq_true rfl) ?_
      have R4 : rMo X m0 t (s.1, s.2.1, nI (lg.set j (p.1, p.2 + 2 ^ n)).length, gv2, nI p.1.2.2.1, 4) M2 _ := R3.fld
      generalize hw4 : xset w3 m0 _ = w4
      replace R4 : rMo X m0 t (s.1, s.2.1, nI (lg.set j (p.1, p.2 + 2 ^ n)).length, gv2, nI p.1.2.2.1, 4) M2 w4 := by rw [← hw4]; exact R4
      have f4 : fr w0 w4 m0 (m0 + 31) := by rw [← hw4]; exact f3.set _ (by omega) (by omega)
      have a1 := R4.1
      refine x_aload_n 299 rfl d_Mo_reach_298 rfl ?_
      refine x_iload_n 300 rfl d_Mo_reach_299 rfl ?_
      refine y_callV 303 rfl [_] _ rfl d_Mo_reach_300 a1 rfl c_Mo_171 rfl (Nat.le_of_ble_eq_true rfl) (Nat.le_of_ble_eq_true rfl) (Nat.le_of_ble_eq_true rfl) (s_settle_at (s := (s.1, s.2.1, s.2.2.1, s.2.2.2.1, nI p.1.2.2.1, 4)) rfl hn o2 o3 (c1.trans z) (by rw [len', kpot]; exact hl) rfl ⟨gv2, g2, M2, R4, G2, N2, F2, f4, I2⟩ (fun w5 u c m5 => ?_))
      refine x_vret d_Mo_reach_303 rfl ?_
      exact h w5 u c m5
    have hp0 := hN1.2.2.1 (4 * p.1.2.1 + p.1.2.2.1) (by omega)
    -- what is kept
    have C110 : ∀ lc, xlk lc 0 = some (.ref m0) → xlk lc 1 = some (.int (nI n)) → xlk lc 2 = some (.int (nI j)) → xlk lc 3 = some (.int (nI p.1.1)) → xlk lc 4 = some (.int (nI p.1.2.1)) → xlk lc 5 = some (.int (nI p.1.2.2.1)) → xlk lc 6 = some (.int (nI p.1.2.2.2.1)) → xE (xGG X) 7 m_Mo_reach 110 lc [.int (nB (decide (p.2 / 16 % 2 = 1)))] w1 P := by
      intro lc l0 l1 l2 l3 l4 l5 l6
      refine xE.fit (lc' := [(0, .ref m0), (1, .int (nI n)), (2, .int (nI j)), (3, .int (nI p.1.1)), (4, .int (nI p.1.2.1)), (5, .int (nI p.1.2.2.1)), (6, .int (nI p.1.2.2.2.1))]) ?_ (by simp only [List.map_cons, List.map_nil, l0, l1, l2, l3, l4, l5, l6])
      have keepB : ∀ (β' : sB) (w2 : xW) (M2 : Nat → Nat → Int32), ¬ 3 ≤ p.1.2.2.2.1 → bKeep n p.1.2.2.1 (ν.2.2.2.2.1 (4 * p.1.2.1 + p.1.2.2.1)) (pV n p) = β' → rMo X m0 t (s.1, s.2.1, nI (lg.set j (p.1, p.2 + 2 ^ n)).length, gv, s.2.2.2.2) M2 w2 → pRel M2 (16 * n + (4 * p.1.2.1 + p.1.2.2.1)) β' (ν.2.2.2.2.2 (4 * p.1.2.1 + p.1.2.2.1)) → pFr M1 M2 (16 * n + (4 * p.1.2.1 + p.1.2.2.1)) → fr w1 w2 m0 (m0 + 31) → mN X m0 t n s M0 (lg.set j (p.1, p.2 + 2 ^ n)) (nKp n ν (pV n p)) w0 w2 := by
        intro β' w2 M2 hk hβ a1 a2 a3 a4
        have e2 : ∀ k, k < 8 → M2 k = M1 k := fun k hk => funext (fun idx => a3 k idx (fun q => by omega))
        refine ⟨gv, g, M2, a1, ⟨G1.1, fun k q hq => by rw [e2 0 (by decide), e2 1 (by decide), e2 2 (by decide)]; exact G1.2 k q hq⟩, ?_, F1.tr (pFr.N (by omega) a3), f1.tr a4, kinv⟩
        have e5 : nKp n ν (pV n p) = nUp ν (4 * p.1.2.1 + p.1.2.2.1) β' (ν.2.2.2.2.2 (4 * p.1.2.1 + p.1.2.2.1)) := by
          unfold nKp
          rw [v2, v3, v4, if_neg hk, ← hβ]
          rfl
        rw [e5]
        refine hN1.keep (by omega) a3 a2 (fun gf k b1 b2 => dVal_c ?_ rfl rfl (fun _ _ => rfl) b1 b2)
        rw [← hβ]
        exact bKeep_2 (by rw [v1]; exact o1)
      refine x_istore 112 rfl d_Mo_reach_110 (by decide) ?_
      refine x_bipush 114 rfl d_Mo_reach_112 16 (by decide) ?_
      refine x_iload_n 115 rfl d_Mo_reach_114 rfl ?_
      refine x_imul 116 rfl d_Mo_reach_115 ?_
      refine x_iconst 117 rfl d_Mo_reach_116 4 (by decide) ?_
      refine x_iload 119 rfl d_Mo_reach_117 rfl ?_
      refine x_imul 120 rfl d_Mo_reach_119 ?_
      refine x_iadd 121 rfl d_Mo_reach_120 ?_
      refine x_iload 123 rfl d_Mo_reach_121 rfl ?_
      refine x_iadd 124 rfl d_Mo_reach_123 ?_
      rw [i16]
      refine x_istore 126 rfl d_Mo_reach_124 (by decide) ?_
      refine x_iload 128 rfl d_Mo_reach_126 rfl ?_
      refine x_if_ne 155 131 rfl d_Mo_reach_128 (by decide) (fun hc => ?_) (fun hc => ?_)
      rotate_left
      · have z0 : p.1.2.2.2.1 = 0 := (nI_0' (by omega)).mp hc
        have val : ∀ (oo : Int32) (lc : List (Nat × Value)), oo = nB (decide (p.1.1 = p.1.2.2.1)) → xlk lc 0 = some (.ref m0) → xlk lc 1 = some (.int (nI n)) → xlk lc 2 = some (.int (nI j)) → xlk lc 4 = some (.int (nI p.1.2.1)) → xlk lc 5 = some (.int (nI p.1.2.2.1)) → xlk lc 7 = some (.int (nB (decide (p.2 / 16 % 2 = 1)))) → xE (xGG X) 7 m_Mo_reach 146 lc [.int oo, .int (nI n), .int (nI (16 * n + 4 * p.1.2.1 + p.1.2.2.1)), .ref m0] w1 P := by
          intro oo lc hoo l0 l1 l2 l4 l5 l7
          refine xE.fit (lc' := [(0, .ref m0), (1, .int (nI n)), (2, .int (nI j)), (4, .int (nI p.1.2.1)), (5, .int (nI p.1.2.2.1)), (7, .int (nB (decide (p.2 / 16 % 2 = 1))))]) ?_ (by simp only [List.map_cons, List.map_nil, l0, l1, l2, l4, l5, l7])
          refine x_iload 148 rfl d_Mo_reach_146 rfl ?_
          refine x_iload_n 149 rfl d_Mo_reach_148 rfl ?_
          have ev : pV n (p.1, p.2 + 2 ^ n) = pV n p := by
            unfold pV
            dsimp only
            rw [hob.2.2.1]
          refine y_callV 152 rfl [_, _, _, _, _] _ rfl d_Mo_reach_149 k1 rfl c_Mo_157 rfl (Nat.le_of_ble_eq_true rfl) (Nat.le_of_ble_eq_true rfl) (Nat.le_of_ble_eq_true rfl) (s_Mo_value (p := (p.1, p.2 + 2 ^ n)) (i := p.1.2.2.1) (a := 16 * n + (4 * p.1.2.1 + p.1.2.2.1)) (by rw [Nat.add_assoc]) rfl hoo (by dsimp only; rw [hob.2.2.1]) rfl hn (by omega) z0 (by dsimp only; rw [hob.2.2.1]; exact hB) j' G1 R1 hp0 (fun w2 M2 a1 a2 a3 a4 => ?_))
          refine x_goto d_Mo_reach_152 276 (by decide) ?_
          refine C276 w2 _ rfl rfl rfl rfl (keepB _ w2 M2 (by omega) ?_ a1 a2 a3 a4)
          rw [ev]
          unfold bKeep
          rw [v4, if_pos z0]
        refine x_aload_n 132 rfl d_Mo_reach_131 rfl ?_
        refine x_iload 134 rfl d_Mo_reach_132 rfl ?_
        refine x_iload_n 135 rfl d_Mo_reach_134 rfl ?_
        refine x_iload_n 136 rfl d_Mo_reach_135 rfl ?_
        refine x_iload 138 rfl d_Mo_reach_136 rfl ?_
        refine x_icmp_ne 145 141 rfl d_Mo_reach_138 (by decide) (fun hc => ?_) (fun hc => ?_)
        · refine x_iconst 146 rfl d_Mo_reach_145 0 (by decide) ?_
          exact val _ _ (by rw [decide_eq_false (fun z => hc (by rw [z]))]; rfl) rfl rfl rfl rfl rfl rfl
        · refine x_iconst 142 rfl d_Mo_reach_141 1 (by decide) ?_
          refine x_goto d_Mo_reach_142 146 (by decide) ?_
          exact val _ _ (by rw [decide_eq_true ((nI_eq (by omega) (by omega)).mp hc)]; rfl) rfl rfl rfl rfl rfl rfl
      have z0 : ¬ p.1.2.2.2.1 = 0 := fun z => hc (by rw [z]; rfl)
      have ep : pV n p = p.1 := pV_k z0
      refine x_iload 157 rfl d_Mo_reach_155 rfl ?_
      refine x_iconst 158 rfl d_Mo_reach_157 3 (by decide) ?_
      refine x_icmp_ge 178 161 rfl d_Mo_reach_158 (by decide) (fun hc => ?_) (fun hc => ?_)
      · have z3 : 3 ≤ p.1.2.2.2.1 := (nI_leI (a := 3) (b := p.1.2.2.2.1) (by decide) (by omega)).mp hc
        obtain ⟨hr, hb⟩ := o5 z3
        refine s_reach_votes (s := (s.1, s.2.1, nI (lg.set j (p.1, p.2 + 2 ^ n)).length, gv, s.2.2.2.2)) (a := 16 * n + (4 * p.1.2.1 + p.1.2.2.1)) (r := cUn p.1.2.2.2.2.1) (bit := cUn p.1.2.2.2.2.2) (sd := p.1.1) (kd := p.1.2.2.2.1) hn (by omega) hr hb o1 (by omega) (by omega) (by rw [e1' 1 (by decide), m1, nI_cUn]) (by rw [e1' 2 (by decide), m2, nI_cUn]) (hI.1 _ (by omega)).1 R1 hp0 (fun w2 M2 lc l0 l1 l4 l5 a1 a2 a3 a4 => ?_) _ rfl rfl rfl rfl rfl rfl rfl (by rw [← Nat.add_assoc]; rfl)
        have e2 : ∀ k, k < 8 → M2 k = M1 k := fun k hk => funext (fun idx => a3 k idx (fun q => by omega))
        have e5 : nKp n ν (pV n p) = nUp ν (4 * p.1.2.1 + p.1.2.2.1) (ν.2.2.2.2.1 (4 * p.1.2.1 + p.1.2.2.1)) (aKeep (ν.2.2.2.2.2 (4 * p.1.2.1 + p.1.2.2.1)) p.1.1 p.1.2.2.2.1 (cUn p.1.2.2.2.2.1) (cUn p.1.2.2.2.2.2)) := by
          rw [ep]
          unfold nKp
          rw [if_pos z3]
          rfl
        refine C276 w2 lc l0 l1 l4 l5 ⟨gv, g, M2, a1, ⟨G1.1, fun k q hq => by rw [e2 0 (by decide), e2 1 (by decide), e2 2 (by decide)]; exact G1.2 k q hq⟩, ?_, F1.tr (pFr.N (by omega) a3), f1.tr a4, kinv⟩
        rw [e5]
        exact hN1.keep (by omega) a3 a2 (fun gf k b1 b2 => dVal_c rfl (aKeep_lo.1 0 (by decide)) (aKeep_lo.1 1 (by decide)) (fun q hq => aKeep_lo.2 q (by omega)) b1 b2)
      · have z3 : ¬ 3 ≤ p.1.2.2.2.1 := fun z => hc (nI_le (a := 3) (b := p.1.2.2.2.1) z (by omega))
        refine x_aload_n 162 rfl d_Mo_reach_161 rfl ?_
        refine x_iconst 163 rfl d_Mo_reach_162 4 (by decide) ?_
        refine x_iload 165 rfl d_Mo_reach_163 rfl ?_
        refine x_imul 166 rfl d_Mo_reach_165 ?_
        refine x_iload_n 167 rfl d_Mo_reach_166 rfl ?_
        refine x_iadd 168 rfl d_Mo_reach_167 ?_
        rw [i4]
        refine x_iload_n 169 rfl d_Mo_reach_168 rfl ?_
        refine x_iload 171 rfl d_Mo_reach_169 rfl ?_
        refine x_iload_n 172 rfl d_Mo_reach_171 rfl ?_
        refine y_callV 175 rfl [_, _, _, _] _ rfl d_Mo_reach_172 k1 rfl c_Mo_161 rfl (Nat.le_of_ble_eq_true rfl) (Nat.le_of_ble_eq_true rfl) (Nat.le_of_ble_eq_true rfl) (s_Mo_answer (p := (p.1, p.2 + 2 ^ n)) (a := 16 * n + (4 * p.1.2.1 + p.1.2.2.1)) (by rw [← Nat.add_assoc]) rfl rfl rfl (by omega) o1 (by dsimp only; omega) j' G1 R1 hp0 (fun w2 M2 a1 a2 a3 a4 => ?_))
        refine x_goto d_Mo_reach_175 276 (by decide) ?_
        refine C276 w2 _ rfl rfl rfl rfl (keepB _ w2 M2 z3 ?_ a1 a2 a3 a4)
        rw [ep]
        unfold bKeep
        rw [if_neg z0]
    refine x_aload_n 91 rfl d_Mo_reach_90 rfl ?_
    refine x_get 94 rfl f_Mo_7 d_Mo_reach_91 k1 rfl ?_
    refine x_iload_n 95 rfl d_Mo_reach_94 rfl ?_
    refine x_iald 96 rfl d_Mo_reach_95 k0 (t0 := 0) rfl (vp_in_nI (by omega) (by decide)) ?_
    rw [nI_clamp (by omega), c0]
    refine x_bipush 98 rfl d_Mo_reach_96 13 (by decide) ?_
    refine x_ishr 99 rfl d_Mo_reach_98 ?_
    refine x_iconst 100 rfl d_Mo_reach_99 1 (by decide) ?_
    refine x_iand 101 rfl d_Mo_reach_100 ?_
    refine x_iconst 102 rfl d_Mo_reach_101 1 (by decide) ?_
    rw [x5]
    refine x_icmp_ne 109 105 rfl d_Mo_reach_102 (by decide) (fun hc => ?_) (fun hc => ?_)
    · have z : ¬ p.2 / 16 % 2 = 1 := fun z => hc (by rw [z]; rfl)
      rw [decide_eq_false z] at C110
      refine x_iconst 110 rfl d_Mo_reach_109 0 (by decide) ?_
      exact C110 _ rfl rfl rfl rfl rfl rfl rfl
    · have z : p.2 / 16 % 2 = 1 := (nI_eq (a := p.2 / 16 % 2) (b := 1) (by omega) (by decide)).mp hc
      rw [decide_eq_true z] at C110
      refine x_iconst 106 rfl d_Mo_reach_105 1 (by decide) ?_
      refine x_goto d_Mo_reach_106 110 (by decide) ?_
      exact C110 _ rfl rfl rfl rfl rfl rfl rfl
  refine x_iload_n 67 rfl d_Mo_reach_66 rfl ?_
  refine x_iconst 68 rfl d_Mo_reach_67 3 (by decide) ?_
  refine x_icmp_ne 78 71 rfl d_Mo_reach_68 (by decide) (fun hc => ?_) (fun hc => ?_)
  · have z : ¬ n = 3 := fun z => hc (by rw [z]; rfl)
    exact xE.fit (S78 (by rw [hT, decide_eq_false z]; rfl)) rfl
  have z : n = 3 := (nI_eq (a := n) (b := 3) (by omega) (by decide)).mp hc
  refine x_aload_n 72 rfl d_Mo_reach_71 rfl ?_
  refine x_get 75 rfl f_Mo_153 d_Mo_reach_72 k1 rfl ?_
  refine x_if_ne 89 78 rfl d_Mo_reach_75 (by decide) (fun hc => ?_) (fun hc => ?_)
  · exact ret (Or.inl (by rw [hT, decide_eq_true z, nB_ne hc]; rfl)) _
  · exact xE.fit (S78 (by rw [hT, (nB_0 _).mp hc, Bool.and_false])) rfl
end RE2
