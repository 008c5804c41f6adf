/-! THE REFERENCE: THE LOG -/
abbrev sPo : Type := sMg × Nat
def hN (p : sPo) : Nat := p.1.1 + 4 * p.1.2.1 + 16 * p.1.2.2.1 + 64 * p.1.2.2.2.1 + 512 * p.2
def pOk (p : sPo) : Prop := mOk p.1 ∧ p.2 < 32
def pW (n : Nat) (p : sPo) : Bool := decide (p.2 / 2 ^ n % 2 = 0)
def pV (n : Nat) (p : sPo) : sMg := if p.2 / 16 % 2 = 1 then p.1 else vw n p.1
/-- what waits for a node -/
def gQ (lg : List sPo) (n : Nat) : List sMg := (lg.filter (pW n)).map (pV n)
def gRel (lg : List sPo) (M : Nat → Nat → Int32) : Prop := lg.length ≤ 1700 ∧ ∀ j p, lg[j]? = some p → pOk p ∧ M 0 j = nI (hN p) ∧ M 1 j = p.1.2.2.2.2.1 ∧ M 2 j = p.1.2.2.2.2.2
theorem hN_lt {p : sPo} (h : pOk p) : hN p < 16384 := by
  obtain ⟨⟨h1, h2, h3, h4, -⟩, h5⟩ := h
  unfold hN
  omega
theorem nIo (a b : Nat) : nI a ||| nI b = nI (a ||| b) := by
  apply Int32.toBitVec_inj.mp
  rw [Int32.toBitVec_or]
  show BitVec.ofNat 32 a ||| BitVec.ofNat 32 b = BitVec.ofNat 32 (a ||| b)
  rw [BitVec.ofNat_or]
theorem iOr {a b k : Nat} (ha : a < 2 ^ k) : nI a ||| nI (b * 2 ^ k) = nI (a + b * 2 ^ k) := by
  rw [nIo, Nat.or_comm, Nat.mul_comm b, ← Nat.two_pow_add_eq_or_of_lt ha b, Nat.add_comm]
theorem pW_n {n : Nat} {p : sPo} (h : pOk p) (hn : n < 4) : nI (hN p) >>> ((9 + nI n) &&& 31) &&& 1 = nB (!pW n p) := by
  have hl := hN_lt h
  obtain ⟨⟨h1, h2, h3, h4, -⟩, h5⟩ := h
  rw [show (9 : Int32) = nI 9 from rfl, nI_add, pk_shrN (by omega) _ (9 + n) (s_l _ (by omega)), i1 (Nat.lt_of_le_of_lt (Nat.div_le_self _ _) (by omega))]
  have e1 : hN p / 2 ^ (9 + n) = p.2 / 2 ^ n := by
    rw [Nat.pow_add, ← Nat.div_div_eq_div_mul]
    congr 1
    unfold hN
    rw [show (2 : Nat) ^ 9 = 512 from rfl]
    omega
  rw [e1]
  unfold pW
  by_cases z : p.2 / 2 ^ n % 2 = 0
  · rw [z, decide_eq_true rfl]; rfl
  · rw [decide_eq_false z, show p.2 / 2 ^ n % 2 = 1 from by omega]; rfl
section LG
variable {X : xPar} {m0 : Nat} {t : Int32} {s : sS} {M : Nat → Nat → Int32} {w : xW} {P : Option Value → xW → Prop}
theorem upd_at (f : Nat → Int32) (i : Nat) (x : Int32) : upd f i x i = x := by unfold upd; rw [if_pos rfl]
theorem upd_ne (f : Nat → Int32) {i j : Nat} (x : Int32) (h : j ≠ i) : upd f i x j = f j := by unfold upd; rw [if_neg h]
/-- only the reference's cells -/
theorem s_Mo_post {v1 v2 v3 v4 v7 a b : Int32} {p : sPo} {lg : List sPo} (e1 : v1 = nI p.1.1) (e2 : v2 = nI p.1.2.1) (e3 : v3 = nI p.1.2.2.1) (e4 : v4 = nI p.1.2.2.2.1) (e5 : a = p.1.2.2.2.2.1) (e6 : b = p.1.2.2.2.2.2) (e7 : v7 = nI p.2) (hp : pOk p) (hg : gRel lg M) (hs : s.2.2.1 = nI lg.length) (hl : lg.length < 1700) (hR : rMo X m0 t s M w) (h : ∀ w' M', rMo X m0 t (s.1, s.2.1, nI (lg.length + 1), s.2.2.2) M' w' → gRel (lg ++ [p]) M' → (∀ j, 3 ≤ j → M' j = M j) → fr w w' m0 (m0 + 31) → P none w') : xE (xGG X) 0 m_Mo_post 0 [(0, .ref m0), (1, .int v1), (2, .int v2), (3, .int v3), (4, .int v4), (5, .int a), (6, .int b), (7, .int v7)] [] w P := by
  subst e1 e2 e3 e4 e7
  have g1 := hR.1
  have hp0 := hp
  obtain ⟨⟨h1, h2, h3, h4, -⟩, h5⟩ := hp
  have g0 := hR.a0
  refine x_aload_n 1 rfl d_Mo_post_0 rfl ?_
  refine x_get 4 rfl f_Mo_7 d_Mo_post_1 g1 rfl ?_
  refine x_aload_n 5 rfl d_Mo_post_4 rfl ?_
  refine x_get 8 rfl f_Mo_147 d_Mo_post_5 g1 rfl ?_
  refine x_iload_n 9 rfl d_Mo_post_8 rfl ?_
  refine x_iload_n 10 rfl d_Mo_post_9 rfl ?_
  refine x_iconst 11 rfl d_Mo_post_10 2 (by decide) ?_
  refine x_ishl 12 rfl d_Mo_post_11 ?_
  refine x_ior 13 rfl d_Mo_post_12 ?_
  refine x_iload_n 14 rfl d_Mo_post_13 rfl ?_
  refine x_iconst 15 rfl d_Mo_post_14 4 (by decide) ?_
  refine x_ishl 16 rfl d_Mo_post_15 ?_
  refine x_ior 17 rfl d_Mo_post_16 ?_
  refine x_iload 19 rfl d_Mo_post_17 rfl ?_
  refine x_bipush 21 rfl d_Mo_post_19 6 (by decide) ?_
  refine x_ishl 22 rfl d_Mo_post_21 ?_
  refine x_ior 23 rfl d_Mo_post_22 ?_
  refine x_iload 25 rfl d_Mo_post_23 rfl ?_
  refine x_bipush 27 rfl d_Mo_post_25 9 (by decide) ?_
  refine x_ishl 28 rfl d_Mo_post_27 ?_
  refine x_ior 29 rfl d_Mo_post_28 ?_
  rw [hs]
  rw [pk_shlN (n := p.1.2.1) _ 2 (by decide) (by omega), iOr (k := 2) (by omega), pk_shlN (n := p.1.2.2.1) _ 4 (by decide) (by omega), iOr (k := 4) (by omega), pk_shlN (n := p.1.2.2.2.1) _ 6 (by decide) (by omega), iOr (k := 6) (by omega), pk_shlN (n := p.2) _ 9 (by decide) (by omega), iOr (k := 9) (by omega)]
  rw [show p.1.1 + p.1.2.1 * 2 ^ 2 + p.1.2.2.1 * 2 ^ 4 + p.1.2.2.2.1 * 2 ^ 6 + p.2 * 2 ^ 9 = hN p from by unfold hN; omega]
  refine x_iast 30 rfl d_Mo_post_29 g0 (t0 := 0) rfl (vp_in_nI hl (by decide)) ?_
  rw [nI_clamp (by omega)]
  have R1 := hR.put (j := 0) (i := lg.length) (x := nI (hN p)) (by decide)
  generalize hw1 : xset w (m0 + 1 + 0) _ = w1
  have R1 : rMo X m0 t s (va_up M 0 (upd (M 0) lg.length (nI (hN p)))) w1 := by rw [← hw1]; exact R1
  have f1 : fr w w1 m0 (m0 + 31) := by rw [← hw1]; exact (fr.rf w _ _).set _ (by omega) (by omega)
  have k1 := R1.1
  have k2 := R1.a1
  refine x_aload_n 31 rfl d_Mo_post_30 rfl ?_
  refine x_get 34 rfl f_Mo_13 d_Mo_post_31 k1 rfl ?_
  refine x_aload_n 35 rfl d_Mo_post_34 rfl ?_
  refine x_get 38 rfl f_Mo_147 d_Mo_post_35 k1 rfl ?_
  refine x_iload 40 rfl d_Mo_post_38 rfl ?_
  rw [hs]
  refine x_iast 41 rfl d_Mo_post_40 k2 (t0 := 0) rfl (vp_in_nI hl (by decide)) ?_
  rw [nI_clamp (by omega)]
  have R2 := R1.put (j := 1) (i := lg.length) (x := a) (by decide)
  generalize hw2 : xset w1 (m0 + 1 + 1) _ = w2
  have R2 : rMo X m0 t s (va_up (va_up M 0 (upd (M 0) lg.length (nI (hN p)))) 1 (upd (va_up M 0 (upd (M 0) lg.length (nI (hN p))) 1) lg.length a)) w2 := by rw [← hw2]; exact R2
  have f2 : fr w w2 m0 (m0 + 31) := by rw [← hw2]; exact f1.set _ (by omega) (by omega)
  have k3 := R2.1
  have k4 := R2.a2
  refine x_aload_n 42 rfl d_Mo_post_41 rfl ?_
  refine x_get 45 rfl f_Mo_16 d_Mo_post_42 k3 rfl ?_
  refine x_aload_n 46 rfl d_Mo_post_45 rfl ?_
  refine x_get 49 rfl f_Mo_147 d_Mo_post_46 k3 rfl ?_
  refine x_iload 51 rfl d_Mo_post_49 rfl ?_
  rw [hs]
  refine x_iast 52 rfl d_Mo_post_51 k4 (t0 := 0) rfl (vp_in_nI hl (by decide)) ?_
  rw [nI_clamp (by omega)]
  have R3 := R2.put (j := 2) (i := lg.length) (x := b) (by decide)
  generalize hM3 : va_up (va_up (va_up M 0 (upd (M 0) lg.length (nI (hN p)))) 1 (upd (va_up M 0 (upd (M 0) lg.length (nI (hN p))) 1) lg.length a)) 2 _ = M3 at R3
  generalize hw3 : xset w2 (m0 + 1 + 2) _ = w3
  have R3 : rMo X m0 t s M3 w3 := by rw [← hw3]; exact R3
  have f3 : fr w w3 m0 (m0 + 31) := by rw [← hw3]; exact f2.set _ (by omega) (by omega)
  have q0 : M3 0 = upd (M 0) lg.length (nI (hN p)) := by rw [← hM3, va_up_ne _ _ (by decide), va_up_ne _ _ (by decide), va_up_self]
  have q1 : M3 1 = upd (M 1) lg.length a := by rw [← hM3, va_up_ne _ _ (by decide), va_up_self, va_up_ne _ _ (by decide)]
  have q2 : M3 2 = upd (M 2) lg.length b := by rw [← hM3, va_up_self, va_up_ne _ _ (by decide), va_up_ne _ _ (by decide)]
  have q3 : ∀ j, 3 ≤ j → M3 j = M j := fun j hj => by rw [← hM3, va_up_ne _ _ (by omega), va_up_ne _ _ (by omega), va_up_ne _ _ (by omega)]
  have k5 := R3.1
  refine x_aload_n 53 rfl d_Mo_post_52 rfl ?_
  refine x_dup 54 rfl d_Mo_post_53 rfl ?_
  refine x_get 57 rfl f_Mo_147 d_Mo_post_54 k5 rfl ?_
  refine x_iconst 58 rfl d_Mo_post_57 1 (by decide) ?_
  refine x_iadd 59 rfl d_Mo_post_58 ?_
  refine x_put 62 rfl p_Mo_147 (fun h => nomatch h) d_Mo_post_59 k5 rfl rfl (Nat.le_of_ble_eq_true rfl) ?_
  refine x_vret d_Mo_post_62 rfl ?_
  rw [hs, nI_1]
  refine h _ M3 (R3.fld (s' := (s.1, s.2.1, nI (lg.length + 1), s.2.2.2))) ⟨by rw [List.length_append, List.length_singleton]; omega, fun j pj hj => ?_⟩ q3 (f3.set _ (by omega) (by omega))
  rw [q0, q1, q2]
  by_cases z : j = lg.length
  · subst z
    rw [List.getElem?_append_right (Nat.le_refl _), Nat.sub_self] at hj
    injection hj with hj
    subst hj
    rw [upd_at, upd_at, upd_at]
    exact ⟨hp0, rfl, e5, e6⟩
  · have hlt : j < lg.length := by
      have := (List.getElem?_eq_some_iff.mp hj).1
      rw [List.length_append, List.length_singleton] at this
      omega
    rw [List.getElem?_append_left hlt] at hj
    rw [upd_ne _ _ z, upd_ne _ _ z, upd_ne _ _ z]
    exact hg.2 j pj hj
theorem s_Mo_waits {jj nn : Int32} {j n : Nat} {p : sPo} {lg : List sPo} (hjj : jj = nI j) (hnn : nn = nI n) (hn : n < 4) (hj : lg[j]? = some p) (hg : gRel lg M) (hR : rMo X m0 t s M w) (h : P (some (.int (nB (pW n p)))) w) : xE (xGG X) 0 m_Mo_waits 0 [(0, .ref m0), (1, .int jj), (2, .int nn)] [] w P := by
  subst hjj hnn
  have g1 := hR.1
  have g0 := hR.a0
  obtain ⟨k1, k2, -, -⟩ := hg.2 j p hj
  have hlt : j < lg.length := (List.getElem?_eq_some_iff.mp hj).1
  have hl := hg.1
  refine x_aload_n 1 rfl d_Mo_waits_0 rfl ?_
  refine x_get 4 rfl f_Mo_7 d_Mo_waits_1 g1 rfl ?_
  refine x_iload_n 5 rfl d_Mo_waits_4 rfl ?_
  refine x_iald 6 rfl d_Mo_waits_5 g0 (t0 := 0) rfl (vp_in_nI (by omega) (by decide)) ?_
  rw [nI_clamp (by omega), k2]
  refine x_bipush 8 rfl d_Mo_waits_6 9 (by decide) ?_
  refine x_iload_n 9 rfl d_Mo_waits_8 rfl ?_
  refine x_iadd 10 rfl d_Mo_waits_9 ?_
  refine x_ishr 11 rfl d_Mo_waits_10 ?_
  refine x_iconst 12 rfl d_Mo_waits_11 1 (by decide) ?_
  refine x_iand 13 rfl d_Mo_waits_12 ?_
  rw [pW_n k1 hn]
  refine x_if_ne 20 16 rfl d_Mo_waits_13 (by decide) (fun hc => ?_) (fun hc => ?_)
  · refine x_iconst 21 rfl d_Mo_waits_20 0 (by decide) ?_
    refine x_zret d_Mo_waits_21 rfl (by decide) ?_
    have := nB_ne hc
    rw [Bool.not_eq_true'] at this
    rw [this] at h
    exact h
  · refine x_iconst 17 rfl d_Mo_waits_16 1 (by decide) ?_
    refine x_goto d_Mo_waits_17 21 (by decide) ?_
    refine x_zret d_Mo_waits_21 rfl (by decide) ?_
    have := (nB_0 _).mp hc
    rw [Bool.not_eq_false'] at this
    rw [this] at h
    exact h
theorem s_Mo_waiting {nn : Int32} {lg : List sPo} (hg : gRel lg M) (hs : s.2.2.1 = nI lg.length) (hR : rMo X m0 t s M w) (h : P (some (.int (if lNode nn = true then nI (gQ lg (cUn nn)).length else -1))) w) : xE (xGG X) 1 m_Mo_waiting 0 [(0, .ref m0), (1, .int nn)] [] w P := by
  have g1 := hR.1
  have hl := hg.1
  refine x_iload_n 1 rfl d_Mo_waiting_0 rfl ?_
  refine y_call 4 rfl [_] _ rfl d_Mo_waiting_1 c_Mo_136 rfl (Nat.le_of_ble_eq_true rfl) (Nat.le_of_ble_eq_true rfl) (Nat.le_of_ble_eq_true rfl) (s_Mo_isNode ?_)
  refine x_if_ne 9 7 rfl d_Mo_waiting_4 (by decide) (fun hc => ?_) (fun hc => ?_)
  rotate_left
  · refine x_iconst 8 rfl d_Mo_waiting_7 (-1) (by decide) ?_
    refine x_iret d_Mo_waiting_8 rfl ?_
    rw [if_neg (by unfold lNode; rw [(nB_0 _).mp hc]; decide)] at h
    exact h
  have y1 : lNode nn = true := nB_ne hc
  have hn := lNode_lt y1
  rw [if_pos y1] at h
  have e1 : nn = nI (cUn nn) := (nI_cUn nn).symm
  generalize cUn nn = n at e1 hn h
  subst e1
  have loop : ∀ (m j : Nat) (cc : Int32), cc = nI j → j + m = lg.length → xE (xGG X) 1 m_Mo_waiting 13 [(0, .ref m0), (1, .int (nI n)), (2, .int (nI ((lg.take j).filter (pW n)).length)), (3, .int cc)] [] w P := by
    intro m
    induction m with
    | zero =>
      intro j cc hcc hj
      subst hcc
      refine x_iload_n 14 rfl d_Mo_waiting_13 rfl ?_
      refine x_aload_n 15 rfl d_Mo_waiting_14 rfl ?_
      refine x_get 18 rfl f_Mo_147 d_Mo_waiting_15 g1 rfl ?_
      rw [hs]
      refine x_icmp_ge 44 21 rfl d_Mo_waiting_18 (by decide) (fun hc => ?_) (fun hc => absurd (nI_le (by omega) (by omega)) hc)
      refine x_iload_n 45 rfl d_Mo_waiting_44 rfl ?_
      refine x_iret d_Mo_waiting_45 rfl ?_
      rw [List.take_of_length_le (by omega)]
      unfold gQ at h
      rw [List.length_map] at h
      exact h
    | succ m ih =>
      intro j cc hcc hj
      subst hcc
      have hlt : j < lg.length := by omega
      obtain ⟨p, hp⟩ : ∃ p, lg[j]? = some p := ⟨_, List.getElem?_eq_getElem hlt⟩
      have ih' := ih (j + 1) _ rfl (by omega)
      rw [List.take_succ, hp, List.filter_append, List.length_append] at ih'
      generalize ((lg.take j).filter (pW n)).length = c at ih' ⊢
      refine x_iload_n 14 rfl d_Mo_waiting_13 rfl ?_
      refine x_aload_n 15 rfl d_Mo_waiting_14 rfl ?_
      refine x_get 18 rfl f_Mo_147 d_Mo_waiting_15 g1 rfl ?_
      rw [hs]
      refine x_icmp_ge 44 21 rfl d_Mo_waiting_18 (by decide) (fun hc => absurd hc (nI_ge (by omega) (by omega))) (fun hc => ?_)
      refine x_aload_n 22 rfl d_Mo_waiting_21 rfl ?_
      refine x_iload_n 23 rfl d_Mo_waiting_22 rfl ?_
      refine x_iload_n 24 rfl d_Mo_waiting_23 rfl ?_
      refine y_callV 27 rfl [_, _] _ rfl d_Mo_waiting_24 g1 rfl c_Mo_150 rfl (Nat.le_of_ble_eq_true rfl) (Nat.le_of_ble_eq_true rfl) (Nat.le_of_ble_eq_true rfl) (s_Mo_waits rfl rfl hn hp hg hR ?_)
      refine x_if_eq 36 30 rfl d_Mo_waiting_27 (by decide) (fun hc => ?_) (fun hc => ?_)
      · have z := (nB_0 _).mp hc
        refine x_iload_n 37 rfl d_Mo_waiting_36 rfl ?_
        refine x_istore_n 38 rfl d_Mo_waiting_37 (by decide) ?_
        refine x_iinc 41 rfl d_Mo_waiting_38 rfl 1 (by decide) (by decide) ?_
        refine x_goto d_Mo_waiting_41 13 (by decide) ?_
        rw [show (List.filter (pW n) (some p).toList).length = 0 from by simp [z]] at ih'
        rw [nI_1]
        exact xE.fit ih' rfl
      · have z := nB_ne hc
        refine x_iload_n 31 rfl d_Mo_waiting_30 rfl ?_
        refine x_iconst 32 rfl d_Mo_waiting_31 1 (by decide) ?_
        refine x_iadd 33 rfl d_Mo_waiting_32 ?_
        refine x_goto d_Mo_waiting_33 37 (by decide) ?_
        refine x_istore_n 38 rfl d_Mo_waiting_37 (by decide) ?_
        refine x_iinc 41 rfl d_Mo_waiting_38 rfl 1 (by decide) (by decide) ?_
        refine x_goto d_Mo_waiting_41 13 (by decide) ?_
        rw [show (List.filter (pW n) (some p).toList).length = 1 from by simp [z]] at ih'
        rw [nI_1, nI_1]
        exact xE.fit ih' rfl
  refine x_iconst 10 rfl d_Mo_waiting_9 0 (by decide) ?_
  refine x_istore_n 11 rfl d_Mo_waiting_10 (by decide) ?_
  refine x_iconst 12 rfl d_Mo_waiting_11 0 (by decide) ?_
  refine x_istore_n 13 rfl d_Mo_waiting_12 (by decide) ?_
  exact xE.fit (loop lg.length 0 0 rfl (by omega)) rfl
end LG
