/-! THE REFERENCE: ITS CELLS -/
def mT (j : Nat) : Nat := [0, 0, 0, 0, 0, 0, 0, 0, 1, 0, 0, 1, 0, 0, 1, 0, 0, 0, 1, 1, 0, 1, 0, 1, 0, 0, 0, 0, 0, 1].getD j 0
def mS (j : Nat) : Nat := [1700, 1700, 1700, 4, 4, 48, 4, 160, 64, 64, 64, 256, 256, 256, 256, 256, 1536, 1536, 64, 64, 384, 384, 16, 16, 16, 16, 16, 16, 16, 16].getD j 0
/-- traitor, spoken, messages, gave, urgent, cursor -/
abbrev sS : Type := Bool × Int32 × Int32 × Int32 × Int32 × Int32
def fMo (m0 : Nat) (t : Int32) (s : sS) : List Value := [.int t, .int (nB s.1), .int s.2.1, .int s.2.2.1, .ref (m0 + 1 + 0), .ref (m0 + 1 + 1), .ref (m0 + 1 + 2), .ref (m0 + 1 + 3), .ref (m0 + 1 + 4), .ref (m0 + 1 + 5), .ref (m0 + 1 + 6), .ref (m0 + 1 + 7), .ref (m0 + 1 + 8), .ref (m0 + 1 + 9), .ref (m0 + 1 + 10), .ref (m0 + 1 + 11), .ref (m0 + 1 + 12), .ref (m0 + 1 + 13), .ref (m0 + 1 + 14), .ref (m0 + 1 + 15), .ref (m0 + 1 + 16), .ref (m0 + 1 + 17), .ref (m0 + 1 + 18), .ref (m0 + 1 + 19), .ref (m0 + 1 + 20), .ref (m0 + 1 + 21), .ref (m0 + 1 + 22), .ref (m0 + 1 + 23), .ref (m0 + 1 + 24), .ref (m0 + 1 + 25), .ref (m0 + 1 + 26), .ref (m0 + 1 + 27), .ref (m0 + 1 + 28), .ref (m0 + 1 + 29), .int s.2.2.2.1, .int s.2.2.2.2.1, .int s.2.2.2.2.2]
/-- the reference at m0: its fields s, its arrays M -/
def rMo (X : xPar) (m0 : Nat) (t : Int32) (s : sS) (M : Nat → Nat → Int32) (w : xW) : Prop := w.2.2 m0 = some (.inr (9, fMo m0 t s)) ∧ ∀ j, j < 30 → w.2.2 (m0 + 1 + j) = some (.inl (X.2.2.2.1 (mT j), mS j, .inl (M j)))
section MO
variable {X : xPar} {m0 : Nat} {t : Int32} {s : sS} {M : Nat → Nat → Int32} {w : xW} {P : Option Value → xW → Prop}
theorem rMo.a0 (h : rMo X m0 t s M w) : w.2.2 (m0 + 1 + 0) = some (.inl (X.2.2.2.1 0, 1700, .inl (M 0))) := h.2 0 (by decide)
theorem rMo.a1 (h : rMo X m0 t s M w) : w.2.2 (m0 + 1 + 1) = some (.inl (X.2.2.2.1 0, 1700, .inl (M 1))) := h.2 1 (by decide)
theorem rMo.a2 (h : rMo X m0 t s M w) : w.2.2 (m0 + 1 + 2) = some (.inl (X.2.2.2.1 0, 1700, .inl (M 2))) := h.2 2 (by decide)
theorem rMo.a3 (h : rMo X m0 t s M w) : w.2.2 (m0 + 1 + 3) = some (.inl (X.2.2.2.1 0, 4, .inl (M 3))) := h.2 3 (by decide)
theorem rMo.a4 (h : rMo X m0 t s M w) : w.2.2 (m0 + 1 + 4) = some (.inl (X.2.2.2.1 0, 4, .inl (M 4))) := h.2 4 (by decide)
theorem rMo.a5 (h : rMo X m0 t s M w) : w.2.2 (m0 + 1 + 5) = some (.inl (X.2.2.2.1 0, 48, .inl (M 5))) := h.2 5 (by decide)
theorem rMo.a6 (h : rMo X m0 t s M w) : w.2.2 (m0 + 1 + 6) = some (.inl (X.2.2.2.1 0, 4, .inl (M 6))) := h.2 6 (by decide)
theorem rMo.a7 (h : rMo X m0 t s M w) : w.2.2 (m0 + 1 + 7) = some (.inl (X.2.2.2.1 0, 160, .inl (M 7))) := h.2 7 (by decide)
theorem rMo.a8 (h : rMo X m0 t s M w) : w.2.2 (m0 + 1 + 8) = some (.inl (X.2.2.2.1 1, 64, .inl (M 8))) := h.2 8 (by decide)
theorem rMo.a9 (h : rMo X m0 t s M w) : w.2.2 (m0 + 1 + 9) = some (.inl (X.2.2.2.1 0, 64, .inl (M 9))) := h.2 9 (by decide)
theorem rMo.a10 (h : rMo X m0 t s M w) : w.2.2 (m0 + 1 + 10) = some (.inl (X.2.2.2.1 0, 64, .inl (M 10))) := h.2 10 (by decide)
theorem rMo.a11 (h : rMo X m0 t s M w) : w.2.2 (m0 + 1 + 11) = some (.inl (X.2.2.2.1 1, 256, .inl (M 11))) := h.2 11 (by decide)
theorem rMo.a12 (h : rMo X m0 t s M w) : w.2.2 (m0 + 1 + 12) = some (.inl (X.2.2.2.1 0, 256, .inl (M 12))) := h.2 12 (by decide)
theorem rMo.a13 (h : rMo X m0 t s M w) : w.2.2 (m0 + 1 + 13) = some (.inl (X.2.2.2.1 0, 256, .inl (M 13))) := h.2 13 (by decide)
theorem rMo.a14 (h : rMo X m0 t s M w) : w.2.2 (m0 + 1 + 14) = some (.inl (X.2.2.2.1 1, 256, .inl (M 14))) := h.2 14 (by decide)
theorem rMo.a15 (h : rMo X m0 t s M w) : w.2.2 (m0 + 1 + 15) = some (.inl (X.2.2.2.1 0, 256, .inl (M 15))) := h.2 15 (by decide)
theorem rMo.a16 (h : rMo X m0 t s M w) : w.2.2 (m0 + 1 + 16) = some (.inl (X.2.2.2.1 0, 1536, .inl (M 16))) := h.2 16 (by decide)
theorem rMo.a17 (h : rMo X m0 t s M w) : w.2.2 (m0 + 1 + 17) = some (.inl (X.2.2.2.1 0, 1536, .inl (M 17))) := h.2 17 (by decide)
theorem rMo.a18 (h : rMo X m0 t s M w) : w.2.2 (m0 + 1 + 18) = some (.inl (X.2.2.2.1 1, 64, .inl (M 18))) := h.2 18 (by decide)
theorem rMo.a19 (h : rMo X m0 t s M w) : w.2.2 (m0 + 1 + 19) = some (.inl (X.2.2.2.1 1, 64, .inl (M 19))) := h.2 19 (by decide)
theorem rMo.a20 (h : rMo X m0 t s M w) : w.2.2 (m0 + 1 + 20) = some (.inl (X.2.2.2.1 0, 384, .inl (M 20))) := h.2 20 (by decide)
theorem rMo.a21 (h : rMo X m0 t s M w) : w.2.2 (m0 + 1 + 21) = some (.inl (X.2.2.2.1 1, 384, .inl (M 21))) := h.2 21 (by decide)
theorem rMo.a22 (h : rMo X m0 t s M w) : w.2.2 (m0 + 1 + 22) = some (.inl (X.2.2.2.1 0, 16, .inl (M 22))) := h.2 22 (by decide)
theorem rMo.a23 (h : rMo X m0 t s M w) : w.2.2 (m0 + 1 + 23) = some (.inl (X.2.2.2.1 1, 16, .inl (M 23))) := h.2 23 (by decide)
theorem rMo.a24 (h : rMo X m0 t s M w) : w.2.2 (m0 + 1 + 24) = some (.inl (X.2.2.2.1 0, 16, .inl (M 24))) := h.2 24 (by decide)
theorem rMo.a25 (h : rMo X m0 t s M w) : w.2.2 (m0 + 1 + 25) = some (.inl (X.2.2.2.1 0, 16, .inl (M 25))) := h.2 25 (by decide)
theorem rMo.a26 (h : rMo X m0 t s M w) : w.2.2 (m0 + 1 + 26) = some (.inl (X.2.2.2.1 0, 16, .inl (M 26))) := h.2 26 (by decide)
theorem rMo.a27 (h : rMo X m0 t s M w) : w.2.2 (m0 + 1 + 27) = some (.inl (X.2.2.2.1 0, 16, .inl (M 27))) := h.2 27 (by decide)
theorem rMo.a28 (h : rMo X m0 t s M w) : w.2.2 (m0 + 1 + 28) = some (.inl (X.2.2.2.1 0, 16, .inl (M 28))) := h.2 28 (by decide)
theorem rMo.a29 (h : rMo X m0 t s M w) : w.2.2 (m0 + 1 + 29) = some (.inl (X.2.2.2.1 1, 16, .inl (M 29))) := h.2 29 (by decide)
theorem rMo.put {j i : Nat} {x : Int32} (h : rMo X m0 t s M w) (hj : j < 30) : rMo X m0 t s (va_up M j (upd (M j) i x)) (xset w (m0 + 1 + j) (.inl (X.2.2.2.1 (mT j), mS j, .inl (upd (M j) i x)))) := by
  refine ⟨(xset_ne _ _ (by omega)).trans h.1, fun k hk => ?_⟩
  by_cases z : k = j
  · subst z; rw [xset_at, va_up_self]
  · rw [xset_ne _ _ (by omega), va_up_ne _ _ z]; exact h.2 k hk
theorem rMo.fld {s' : sS} (h : rMo X m0 t s M w) : rMo X m0 t s' M (xset w m0 (.inr (9, fMo m0 t s'))) := ⟨xset_at _ _ _, fun k hk => (xset_ne _ _ (by omega)).trans (h.2 k hk)⟩
def cN (g : Nat → Bool) : Nat → Nat
  | 0 => 0
  | n + 1 => cN g n + cond (g n) 1 0
theorem cN_le (g : Nat → Bool) : ∀ n, cN g n ≤ n := by
  intro n
  induction n with
  | zero => exact Nat.le_refl _
  | succ n ih =>
    show cN g n + cond (g n) 1 0 ≤ n + 1
    cases g n <;> simp <;> omega
theorem cN_4 (g : Nat → Bool) : cN g 4 = cPop (cMk g) := by
  unfold cMk cPop
  show 0 + cond (g 0) 1 0 + cond (g 1) 1 0 + cond (g 2) 1 0 + cond (g 3) 1 0 = _
  cases g 0 <;> cases g 1 <;> cases g 2 <;> cases g 3 <;> rfl
theorem i4 (a c : Nat) : (4 : Int32) * nI a + nI c = nI (4 * a + c) := by rw [show (4 : Int32) = nI 4 from rfl, pk_mul, nI_add]
theorem s_Mo_coinOf {ee ii rr : Int32} {e i r : Nat} (hee : ee = nI e) (hii : ii = nI i) (hrr : rr = nI r) (he : e < 4) (hi : i < 4) (hr : r < 6) (hR : rMo X m0 t s M w) (h : P (some (.int (nI (cCoin t e i r)))) w) : xE (xGG X) 0 m_Mo_coinOf 0 [(0, .ref m0), (1, .int ee), (2, .int ii), (3, .int rr)] [] w P := by
  subst hee hii hrr
  have g1 := hR.1
  refine x_aload_n 1 rfl d_Mo_coinOf_0 rfl ?_
  refine x_get 4 rfl f_Mo_102 d_Mo_coinOf_1 g1 rfl ?_
  refine x_iload_n 5 rfl d_Mo_coinOf_4 rfl ?_
  refine x_bipush 7 rfl d_Mo_coinOf_5 24 (by decide) ?_
  refine x_imul 8 rfl d_Mo_coinOf_7 ?_
  refine x_iload_n 9 rfl d_Mo_coinOf_8 rfl ?_
  refine x_bipush 11 rfl d_Mo_coinOf_9 6 (by decide) ?_
  refine x_imul 12 rfl d_Mo_coinOf_11 ?_
  refine x_iadd 13 rfl d_Mo_coinOf_12 ?_
  refine x_iload_n 14 rfl d_Mo_coinOf_13 rfl ?_
  refine x_iadd 15 rfl d_Mo_coinOf_14 ?_
  refine x_bipush 17 rfl d_Mo_coinOf_15 31 (by decide) ?_
  refine x_irem 18 rfl d_Mo_coinOf_17 (by decide) ?_
  refine x_ishr 19 rfl d_Mo_coinOf_18 ?_
  refine x_iconst 20 rfl d_Mo_coinOf_19 1 (by decide) ?_
  refine x_iand 21 rfl d_Mo_coinOf_20 ?_
  refine x_iret d_Mo_coinOf_21 rfl ?_
  rw [show (24 : Int32) = nI 24 from rfl, show (6 : Int32) = nI 6 from rfl, pk_mul, pk_mul, nI_add, nI_add, show e * 24 + i * 6 + r = 24 * e + 6 * i + r by omega, iNn he hi hr, b_bit _ _ (by omega), iCoin]
  exact h
theorem s_Mo_coin {ee ii rr : Int32} (hR : rMo X m0 t s M w) (h : P (some (.int (lCoin t ee ii rr))) w) : xE (xGG X) 1 m_Mo_coin 0 [(0, .ref m0), (1, .int ee), (2, .int ii), (3, .int rr)] [] w P := by
  have g1 := hR.1
  have no : ¬ (lNode ee && lNode ii && decide (0 ≤ rr ∧ rr ≤ 5)) = true → P (some (.int (-1))) w := by
    intro z
    rw [lCoin, if_neg z] at h
    exact h
  refine x_iload_n 1 rfl d_Mo_coin_0 rfl ?_
  refine y_call 4 rfl [_] _ rfl d_Mo_coin_1 c_Mo_136 rfl (Nat.le_of_ble_eq_true rfl) (Nat.le_of_ble_eq_true rfl) (Nat.le_of_ble_eq_true rfl) (s_Mo_isNode ?_)
  refine x_if_eq 23 7 rfl d_Mo_coin_4 (by decide) (fun hc => ?_) (fun hc => ?_)
  · refine x_iconst 24 rfl d_Mo_coin_23 (-1) (by decide) ?_
    refine x_iret d_Mo_coin_24 rfl ?_
    exact no (by unfold lNode; rw [(nB_0 _).mp hc]; simp)
  have y1 : lNode ee = true := nB_ne hc
  refine x_iload_n 8 rfl d_Mo_coin_7 rfl ?_
  refine y_call 11 rfl [_] _ rfl d_Mo_coin_8 c_Mo_136 rfl (Nat.le_of_ble_eq_true rfl) (Nat.le_of_ble_eq_true rfl) (Nat.le_of_ble_eq_true rfl) (s_Mo_isNode ?_)
  refine x_if_eq 23 14 rfl d_Mo_coin_11 (by decide) (fun hc => ?_) (fun hc => ?_)
  · refine x_iconst 24 rfl d_Mo_coin_23 (-1) (by decide) ?_
    refine x_iret d_Mo_coin_24 rfl ?_
    exact no (by rw [y1]; unfold lNode; rw [(nB_0 _).mp hc]; simp)
  have y2 : lNode ii = true := nB_ne hc
  refine x_iload_n 15 rfl d_Mo_coin_14 rfl ?_
  refine x_if_lt 23 18 rfl d_Mo_coin_15 (by decide) (fun hc => ?_) (fun hc => ?_)
  · refine x_iconst 24 rfl d_Mo_coin_23 (-1) (by decide) ?_
    refine x_iret d_Mo_coin_24 rfl ?_
    exact no (by rw [decide_eq_false (fun z => absurd z.1 (by rw [Int32.not_le]; exact hc))]; simp)
  have y3 : 0 ≤ rr := Int32.not_lt.mp hc
  refine x_iload_n 19 rfl d_Mo_coin_18 rfl ?_
  refine x_iconst 20 rfl d_Mo_coin_19 5 (by decide) ?_
  refine x_icmp_le 25 23 rfl d_Mo_coin_20 (by decide) (fun hc => ?_) (fun hc => ?_)
  rotate_left
  · refine x_iconst 24 rfl d_Mo_coin_23 (-1) (by decide) ?_
    refine x_iret d_Mo_coin_24 rfl ?_
    exact no (by rw [decide_eq_false (fun z => hc z.2)]; simp)
  have hr : cUn rr ≤ 5 := cUn_le (c := 5) (by decide) y3 hc
  rw [lCoin, if_pos (by rw [y1, y2, decide_eq_true ⟨y3, hc⟩]; rfl)] at h
  refine x_aload_n 26 rfl d_Mo_coin_25 rfl ?_
  refine x_iload_n 27 rfl d_Mo_coin_26 rfl ?_
  refine x_iload_n 28 rfl d_Mo_coin_27 rfl ?_
  refine x_iload_n 29 rfl d_Mo_coin_28 rfl ?_
  refine y_callV 32 rfl [_, _, _] _ rfl d_Mo_coin_29 g1 rfl c_Mo_140 rfl (Nat.le_of_ble_eq_true rfl) (Nat.le_of_ble_eq_true rfl) (Nat.le_of_ble_eq_true rfl) (s_Mo_coinOf (nI_cUn ee).symm (nI_cUn ii).symm (nI_cUn rr).symm (lNode_lt y1) (lNode_lt y2) (by omega) hR ?_)
  refine x_iret d_Mo_coin_32 rfl ?_
  exact h
theorem s_Mo_root {x y : Int32} (h : P (some (.int (cRoot (cUn x % 256) (cUn y % 256)))) w) : xE (xGG X) 3 m_Mo_root 0 [(0, .ref m0), (1, .int x), (2, .int y)] [] w P := by
  refine x_iload_n 1 rfl d_Mo_root_0 rfl ?_
  refine x_sipush 4 rfl d_Mo_root_1 255 (by decide) ?_
  refine x_iand 5 rfl d_Mo_root_4 ?_
  refine x_iload_n 6 rfl d_Mo_root_5 rfl ?_
  refine x_sipush 9 rfl d_Mo_root_6 255 (by decide) ?_
  refine x_iand 10 rfl d_Mo_root_9 ?_
  rw [iV8, iV8]
  refine y_call 13 rfl [_, _] _ rfl d_Mo_root_10 c_Mo_133 rfl (Nat.le_of_ble_eq_true rfl) (Nat.le_of_ble_eq_true rfl) (Nat.le_of_ble_eq_true rfl) (s_Mo_rootOfProposal rfl rfl (by omega) (by omega) ?_)
  refine x_iret d_Mo_root_13 rfl ?_
  exact h
theorem s_Mo_echoes {aa root : Int32} {a : Nat} {g : Nat → Bool} {r : Nat → Int32} (haa : aa = nI a) (ha : a < 64) (hR : rMo X m0 t s M w) (hg : ∀ k, k < 4 → M 11 (4 * a + k) = nB (g k)) (hr : ∀ k, k < 4 → M 12 (4 * a + k) = r k) (h : P (some (.int (nI (cCt g r root)))) w) : xE (xGG X) 0 m_Mo_echoes 0 [(0, .ref m0), (1, .int aa), (2, .int root)] [] w P := by
  subst haa
  have g1 := hR.1
  have g11 := hR.a11
  have g12 := hR.a12
  have loop : ∀ (n j : Nat) (cc : Int32), cc = nI j → j + n = 4 → xE (xGG X) 0 m_Mo_echoes 5 [(0, .ref m0), (1, .int (nI a)), (2, .int root), (3, .int (nI (cN (fun k => g k && decide (r k = root)) j))), (4, .int cc)] [] w P := by
    intro n
    induction n with
    | zero =>
      intro j cc hcc hj
      have hj4 : j = 4 := by omega
      subst hj4 hcc
      refine x_iload 7 rfl d_Mo_echoes_5 rfl ?_
      refine x_iconst 8 rfl d_Mo_echoes_7 4 (by decide) ?_
      refine x_icmp_ge 54 11 rfl d_Mo_echoes_8 (by decide) (fun hc => ?_) (fun hc => absurd (by decide) hc)
      refine x_iload_n 55 rfl d_Mo_echoes_54 rfl ?_
      refine x_iret d_Mo_echoes_55 rfl ?_
      rw [cN_4]
      exact h
    | succ n ih =>
      intro j cc hcc hj
      subst hcc
      have hj4 : j < 4 := by omega
      have ih' := ih (j + 1) _ rfl (by omega)
      rw [cN] at ih'
      generalize cN (fun k => g k && decide (r k = root)) j = c at ih' ⊢
      refine x_iload 7 rfl d_Mo_echoes_5 rfl ?_
      refine x_iconst 8 rfl d_Mo_echoes_7 4 (by decide) ?_
      refine x_icmp_ge 54 11 rfl d_Mo_echoes_8 (by decide) (fun hc => absurd hc (nI_ge (a := j) (b := 4) hj4 (by decide))) (fun hc => ?_)
      refine x_aload_n 12 rfl d_Mo_echoes_11 rfl ?_
      refine x_get 15 rfl f_Mo_44 d_Mo_echoes_12 g1 rfl ?_
      refine x_iconst 16 rfl d_Mo_echoes_15 4 (by decide) ?_
      refine x_iload_n 17 rfl d_Mo_echoes_16 rfl ?_
      refine x_imul 18 rfl d_Mo_echoes_17 ?_
      refine x_iload 20 rfl d_Mo_echoes_18 rfl ?_
      refine x_iadd 21 rfl d_Mo_echoes_20 ?_
      rw [i4]
      refine x_zald 22 rfl d_Mo_echoes_21 g11 (t0 := 1) rfl (vp_in_nI (by omega) (by decide)) ?_
      rw [nI_clamp (by omega), hg j hj4]
      have skip : (g j && decide (r j = root)) = false → ∀ lc, xlk lc 0 = some (.ref m0) → xlk lc 1 = some (.int (nI a)) → xlk lc 2 = some (.int root) → xlk lc 3 = some (.int (nI c)) → xlk lc 4 = some (.int (nI j)) → xE (xGG X) 0 m_Mo_echoes 46 lc [] w P := by
        intro z lc l0 l1 l2 l3 l4
        refine xE.fit (lc' := [(0, .ref m0), (1, .int (nI a)), (2, .int root), (3, .int (nI c)), (4, .int (nI j))]) ?_ (by simp only [List.map_cons, List.map_nil, l0, l1, l2, l3, l4])
        rw [z] at ih'
        refine x_iload_n 47 rfl d_Mo_echoes_46 rfl ?_
        refine x_istore_n 48 rfl d_Mo_echoes_47 (by decide) ?_
        refine x_iinc 51 rfl d_Mo_echoes_48 rfl 1 (by decide) (by decide) ?_
        refine x_goto d_Mo_echoes_51 5 (by decide) ?_
        rw [nI_1]
        exact xE.fit ih' rfl
      refine x_if_eq 46 25 rfl d_Mo_echoes_22 (by decide) (fun hc => ?_) (fun hc => ?_)
      · exact skip (by rw [(nB_0 _).mp hc]; rfl) _ rfl rfl rfl rfl rfl
      have y1 := nB_ne hc
      refine x_aload_n 26 rfl d_Mo_echoes_25 rfl ?_
      refine x_get 29 rfl f_Mo_47 d_Mo_echoes_26 g1 rfl ?_
      refine x_iconst 30 rfl d_Mo_echoes_29 4 (by decide) ?_
      refine x_iload_n 31 rfl d_Mo_echoes_30 rfl ?_
      refine x_imul 32 rfl d_Mo_echoes_31 ?_
      refine x_iload 34 rfl d_Mo_echoes_32 rfl ?_
      refine x_iadd 35 rfl d_Mo_echoes_34 ?_
      rw [i4]
      refine x_iald 36 rfl d_Mo_echoes_35 g12 (t0 := 0) rfl (vp_in_nI (by omega) (by decide)) ?_
      refine x_iload_n 37 rfl d_Mo_echoes_36 rfl ?_
      rw [nI_clamp (by omega), hr j hj4]
      refine x_icmp_ne 46 40 rfl d_Mo_echoes_37 (by decide) (fun hc => ?_) (fun hc => ?_)
      · exact skip (by rw [decide_eq_false hc, Bool.and_false]) _ rfl rfl rfl rfl rfl
      rw [y1, decide_eq_true hc] at ih'
      refine x_iload_n 41 rfl d_Mo_echoes_40 rfl ?_
      refine x_iconst 42 rfl d_Mo_echoes_41 1 (by decide) ?_
      refine x_iadd 43 rfl d_Mo_echoes_42 ?_
      refine x_goto d_Mo_echoes_43 47 (by decide) ?_
      refine x_istore_n 48 rfl d_Mo_echoes_47 (by decide) ?_
      refine x_iinc 51 rfl d_Mo_echoes_48 rfl 1 (by decide) (by decide) ?_
      refine x_goto d_Mo_echoes_51 5 (by decide) ?_
      rw [nI_1, nI_1]
      exact xE.fit ih' rfl
  refine x_iconst 1 rfl d_Mo_echoes_0 0 (by decide) ?_
  refine x_istore_n 2 rfl d_Mo_echoes_1 (by decide) ?_
  refine x_iconst 3 rfl d_Mo_echoes_2 0 (by decide) ?_
  refine x_istore 5 rfl d_Mo_echoes_3 (by decide) ?_
  exact xE.fit (loop 4 0 0 rfl rfl) rfl
theorem s_Mo_readies {aa root : Int32} {a : Nat} {g : Nat → Bool} {r : Nat → Int32} (haa : aa = nI a) (ha : a < 64) (hR : rMo X m0 t s M w) (hg : ∀ k, k < 4 → M 14 (4 * a + k) = nB (g k)) (hr : ∀ k, k < 4 → M 15 (4 * a + k) = r k) (h : P (some (.int (nI (cCt g r root)))) w) : xE (xGG X) 0 m_Mo_readies 0 [(0, .ref m0), (1, .int aa), (2, .int root)] [] w P := by
  subst haa
  have g1 := hR.1
  have g14 := hR.a14
  have g15 := hR.a15
  have loop : ∀ (n j : Nat) (cc : Int32), cc = nI j → j + n = 4 → xE (xGG X) 0 m_Mo_readies 5 [(0, .ref m0), (1, .int (nI a)), (2, .int root), (3, .int (nI (cN (fun k => g k && decide (r k = root)) j))), (4, .int cc)] [] w P := by
    intro n
    induction n with
    | zero =>
      intro j cc hcc hj
      have hj4 : j = 4 := by omega
      subst hj4 hcc
      refine x_iload 7 rfl d_Mo_readies_5 rfl ?_
      refine x_iconst 8 rfl d_Mo_readies_7 4 (by decide) ?_
      refine x_icmp_ge 54 11 rfl d_Mo_readies_8 (by decide) (fun hc => ?_) (fun hc => absurd (by decide) hc)
      refine x_iload_n 55 rfl d_Mo_readies_54 rfl ?_
      refine x_iret d_Mo_readies_55 rfl ?_
      rw [cN_4]
      exact h
    | succ n ih =>
      intro j cc hcc hj
      subst hcc
      have hj4 : j < 4 := by omega
      have ih' := ih (j + 1) _ rfl (by omega)
      rw [cN] at ih'
      generalize cN (fun k => g k && decide (r k = root)) j = c at ih' ⊢
      refine x_iload 7 rfl d_Mo_readies_5 rfl ?_
      refine x_iconst 8 rfl d_Mo_readies_7 4 (by decide) ?_
      refine x_icmp_ge 54 11 rfl d_Mo_readies_8 (by decide) (fun hc => absurd hc (nI_ge (a := j) (b := 4) hj4 (by decide))) (fun hc => ?_)
      refine x_aload_n 12 rfl d_Mo_readies_11 rfl ?_
      refine x_get 15 rfl f_Mo_53 d_Mo_readies_12 g1 rfl ?_
      refine x_iconst 16 rfl d_Mo_readies_15 4 (by decide) ?_
      refine x_iload_n 17 rfl d_Mo_readies_16 rfl ?_
      refine x_imul 18 rfl d_Mo_readies_17 ?_
      refine x_iload 20 rfl d_Mo_readies_18 rfl ?_
      refine x_iadd 21 rfl d_Mo_readies_20 ?_
      rw [i4]
      refine x_zald 22 rfl d_Mo_readies_21 g14 (t0 := 1) rfl (vp_in_nI (by omega) (by decide)) ?_
      rw [nI_clamp (by omega), hg j hj4]
      have skip : (g j && decide (r j = root)) = false → ∀ lc, xlk lc 0 = some (.ref m0) → xlk lc 1 = some (.int (nI a)) → xlk lc 2 = some (.int root) → xlk lc 3 = some (.int (nI c)) → xlk lc 4 = some (.int (nI j)) → xE (xGG X) 0 m_Mo_readies 46 lc [] w P := by
        intro z lc l0 l1 l2 l3 l4
        refine xE.fit (lc' := [(0, .ref m0), (1, .int (nI a)), (2, .int root), (3, .int (nI c)), (4, .int (nI j))]) ?_ (by simp only [List.map_cons, List.map_nil, l0, l1, l2, l3, l4])
        rw [z] at ih'
        refine x_iload_n 47 rfl d_Mo_readies_46 rfl ?_
        refine x_istore_n 48 rfl d_Mo_readies_47 (by decide) ?_
        refine x_iinc 51 rfl d_Mo_readies_48 rfl 1 (by decide) (by decide) ?_
        refine x_goto d_Mo_readies_51 5 (by decide) ?_
        rw [nI_1]
        exact xE.fit ih' rfl
      refine x_if_eq 46 25 rfl d_Mo_readies_22 (by decide) (fun hc => ?_) (fun hc => ?_)
      · exact skip (by rw [(nB_0 _).mp hc]; rfl) _ rfl rfl rfl rfl rfl
      have y1 := nB_ne hc
      refine x_aload_n 26 rfl d_Mo_readies_25 rfl ?_
      refine x_get 29 rfl f_Mo_56 d_Mo_readies_26 g1 rfl ?_
      refine x_iconst 30 rfl d_Mo_readies_29 4 (by decide) ?_
      refine x_iload_n 31 rfl d_Mo_readies_30 rfl ?_
      refine x_imul 32 rfl d_Mo_readies_31 ?_
      refine x_iload 34 rfl d_Mo_readies_32 rfl ?_
      refine x_iadd 35 rfl d_Mo_readies_34 ?_
      rw [i4]
      refine x_iald 36 rfl d_Mo_readies_35 g15 (t0 := 0) rfl (vp_in_nI (by omega) (by decide)) ?_
      refine x_iload_n 37 rfl d_Mo_readies_36 rfl ?_
      rw [nI_clamp (by omega), hr j hj4]
      refine x_icmp_ne 46 40 rfl d_Mo_readies_37 (by decide) (fun hc => ?_) (fun hc => ?_)
      · exact skip (by rw [decide_eq_false hc, Bool.and_false]) _ rfl rfl rfl rfl rfl
      rw [y1, decide_eq_true hc] at ih'
      refine x_iload_n 41 rfl d_Mo_readies_40 rfl ?_
      refine x_iconst 42 rfl d_Mo_readies_41 1 (by decide) ?_
      refine x_iadd 43 rfl d_Mo_readies_42 ?_
      refine x_goto d_Mo_readies_43 47 (by decide) ?_
      refine x_istore_n 48 rfl d_Mo_readies_47 (by decide) ?_
      refine x_iinc 51 rfl d_Mo_readies_48 rfl 1 (by decide) (by decide) ?_
      refine x_goto d_Mo_readies_51 5 (by decide) ?_
      rw [nI_1, nI_1]
      exact xE.fit ih' rfl
  refine x_iconst 1 rfl d_Mo_readies_0 0 (by decide) ?_
  refine x_istore_n 2 rfl d_Mo_readies_1 (by decide) ?_
  refine x_iconst 3 rfl d_Mo_readies_2 0 (by decide) ?_
  refine x_istore 5 rfl d_Mo_readies_3 (by decide) ?_
  exact xE.fit (loop 4 0 0 rfl rfl) rfl
end MO
