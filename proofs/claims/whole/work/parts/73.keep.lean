/-! THE REFERENCE: WHAT IS KEPT OF A MESSAGE -/
/-- nothing but the cells that last of one instance has changed -/
def pFr (M M' : Nat → Nat → Int32) (a : Nat) : Prop := ∀ j idx, (8 ≤ j → j < 22 → idx / mD j ≠ a) → M' j idx = M j idx
theorem pFr.rf (M : Nat → Nat → Int32) (a : Nat) : pFr M M a := fun _ _ _ => rfl
theorem pFr.up {M M' : Nat → Nat → Int32} {a j0 i0 : Nat} {x : Int32} (h : pFr M M' a) (h1 : 8 ≤ j0) (h2 : j0 < 22) (h3 : i0 / mD j0 = a) : pFr M (va_up M' j0 (upd (M' j0) i0 x)) a := by
  intro j idx k1
  by_cases z : j = j0
  · subst z
    rw [va_up_self, upd_ne _ _ (fun e => k1 h1 h2 (by rw [e]; exact h3))]; exact h j idx k1
  · rw [va_up_ne _ _ z]; exact h j idx k1
section KP
variable {M M' : Nat → Nat → Int32} {n k : Nat} {ν : sN} {g : Nat → Nat} {β : sB} {α : sA}
theorem pFr.N (hk : k < 16) (h : pFr M M' (16 * n + k)) : nFr M M' n := by
  intro j idx h1 h2 h3
  refine h j idx (fun k1 k2 z => h3 ?_)
  rw [mD_nD j k1 k2, ← Nat.div_div_eq_div_mul, z]; omega
theorem nRel.keep (hk : k < 16) (h : nRel M n ν g) (hf : pFr M M' (16 * n + k)) (hp : pRel M' (16 * n + k) β α) (hd : ∀ gf j, 22 ≤ j → j < 30 → dVal β α gf j = dVal (ν.2.2.2.2.1 k) (ν.2.2.2.2.2 k) gf j) : nRel M' n (nUp ν k β α) g := by
  obtain ⟨h1, h2, h3, h4, h5⟩ := h
  have lo : ∀ j, (j < 8 ∨ 22 ≤ j) → M' j = M j := fun j hj => funext (fun idx => hf j idx (fun k3 => by omega))
  refine ⟨by rw [lo 3 (by omega)]; exact h1, h2.c (fun j k1 k2 => lo j (by omega)), fun k' hk' => ?_, fun e he' he4 i hi => ?_, h5⟩
  · by_cases z : k' = k
    · subst z
      rw [nUp_b, nUp_a]; exact hp
    · rw [nUp_bo z, nUp_ao z]
      intro j idx k1 k2 k3
      rw [hf j idx (fun _ _ => by omega)]
      exact h3 k' hk' j idx k1 k2 k3
  · intro j k1 k2
    rw [lo j (by omega), h4 e he' he4 i hi j k1 k2]
    unfold nB' nA'
    by_cases z : 4 * e + i = k
    · rw [z, nUp_b, nUp_a, hd _ j k1 k2]
    · rw [nUp_bo z, nUp_ao z]
theorem bKeep_2 {me i : Nat} {m : sMg} (hm : m.1 < 4) : (bKeep me i β m).2 2 = β.2 2 := by
  unfold bKeep bKv bKe bKr
  split
  · split
    · dsimp only; rw [va_up_ne _ _ (by decide), va_up_ne _ _ (by decide)]
    · rfl
  · split
    · split
      · dsimp only; rw [va_up_ne _ _ (by omega), va_up_ne _ _ (by omega)]
      · rfl
    · split
      · dsimp only; rw [va_up_ne _ _ (by omega)]
      · rfl
theorem bKeep_ok {me i : Nat} {m : sMg} (hm : m.1 < 4) (h : bOk β) : bOk (bKeep me i β m) := by
  refine ⟨fun s hs => ?_, by rw [bKeep_2 hm]; exact h.2⟩
  have h1 := h.1 s hs
  unfold bKeep bKv bKe bKr
  split
  · split
    · dsimp only; rw [va_up_ne _ _ (by omega), va_up_ne _ _ (by omega)]; exact h1
    · exact h1
  · split
    · split
      · dsimp only
        by_cases z : s = m.1
        · rw [z, va_up_self, cUn_nI (by omega)]; omega
        · rw [va_up_ne _ _ (by omega), va_up_ne _ _ (by omega)]; exact h1
      · exact h1
    · split
      · dsimp only; rw [va_up_ne _ _ (by omega)]; exact h1
      · exact h1
theorem aKeep_lo {s kd r bit : Nat} : (∀ k, k < 32 → (aKeep α s kd r bit).1 k = α.1 k) ∧ (∀ k, k < 32 → (aKeep α s kd r bit).2 k = α.2 k) := by
  unfold aKeep
  split
  · exact ⟨fun k hk => by dsimp only; rw [va_up_ne _ _ (by omega)], fun k hk => rfl⟩
  · split
    · exact ⟨fun k hk => rfl, fun k hk => by dsimp only; rw [va_up_ne _ _ (by omega)]⟩
    · exact ⟨fun k hk => rfl, fun k hk => rfl⟩
theorem aKeep_G {s kd r bit : Nat} (ok : aOk α) (h : iG α) : iG (aKeep α s kd r bit) := by
  have h0 := ok.1
  unfold iG
  rw [(aKeep_lo).2 3 (by decide), (aKeep_lo).2 0 (by decide), (aKeep_lo).1 _ (by omega)]
  exact h
theorem aKeep_F {s kd r bit : Nat} (h : nFs β α) : nFs β (aKeep α s kd r bit) := by
  unfold nFs
  rw [(aKeep_lo).2 3 (by decide), (aKeep_lo).2 0 (by decide), (aKeep_lo).2 1 (by decide), (aKeep_lo).2 2 (by decide), (aKeep_lo).1 0 (by decide), (aKeep_lo).1 1 (by decide)]
  exact h
theorem nKp_inv {m : sMg} (hm : mOk m) (h : nInv ν) : nInv (nKp n ν m) := by
  obtain ⟨o1, o2, o3, o4, o5⟩ := hm
  have k := h.1 (4 * m.2.1 + m.2.2.1) (by omega)
  unfold nKp
  split
  · rename_i z
    exact h.up (aKeep_ok (o5 z).2 (o5 z).1 o1 k.1) (aKeep_G k.1 k.2.1) k.2.2 (fun q => aKeep_F (h.2.1 _ (by omega) q))
  · refine h.up k.1 k.2.1 (bKeep_ok o1 k.2.2) (fun q => ?_)
    have := h.2.1 _ (by omega) q
    unfold nFs
    rw [bKeep_2 o1]
    exact this
end KP
/-- a proposal that is posted is of bytes -/
def mB (m : sMg) : Prop := m.2.2.2.1 = 0 → cUn m.2.2.2.2.1 < 256 ∧ cUn m.2.2.2.2.2 < 256
def mBs (ms : List sMg) : Prop := ∀ m, m ∈ ms → mB m
theorem mBs.nil : mBs [] := fun m hm => by cases hm
theorem mBs.app {a b : List sMg} (h : mBs a) (h2 : mBs b) : mBs (a ++ b) := fun m hm => by
  rcases List.mem_append.mp hm with z | z
  · exact h m z
  · exact h2 m z
theorem mNz.B {ms : List sMg} (h : mNz ms) : mBs ms := fun m hm z => absurd z (h m hm)
section MB
variable {n : Nat} {t : Int32} {ν : sN}
theorem nLk_B {e : Nat} : ∀ (f i : Nat) (ν : sN), mBs (nLk n t e f i ν).2 := by
  intro f
  induction f with
  | zero => intro i ν; exact mBs.nil
  | succ f ih =>
    intro i ν
    have h1 : mBs (nOne n t e i ν).2 := (iM_nz).1.B
    rw [nLk]
    split
    · exact h1
    · exact h1.app (ih _ _)
theorem gDB {l : List Int32} (h : ∀ x, x ∈ l → cUn x < 256) (j : Nat) : cUn (l.getD j 0) < 256 := by
  rw [List.getD_eq_getElem?_getD]
  cases z : l[j]? with
  | none => decide
  | some x => exact h x (List.mem_of_getElem? z)
theorem nPr_B (h : ∀ x, x ∈ ν.2.2.1 → cUn x < 256) : mBs [nPr n ν] := by
  intro m hm _
  rw [List.mem_singleton.mp hm]
  exact ⟨gDB h 0, gDB h 1⟩
theorem nGw_B : ∀ (f e nx en : Nat) (ν : sN), nQk ν e → mBs (nGw n t f e nx en ν).2 := by
  intro f
  induction f with
  | zero => intro e nx en ν _; exact mBs.nil
  | succ f ih =>
    intro e nx en ν hq
    have h1 := nLk_B (n := n) (t := t) (e := e) 5 nx ν
    have h2 := hq.lk (n := n) (t := t) (f := 5) (i := nx)
    rw [nGw]
    split
    · split
      · split
        · exact h1
        · exact (h1.app (nPr_B h2.cm.1)).app (ih _ _ _ _ h2.cm)
      · exact h1.app (ih _ _ _ _ h2)
    · exact mBs.nil
theorem nTk_B {m : sMg} (h : nGood ν) : mBs (nTk n t ν m).2 := by
  unfold nTk
  split
  · exact mBs.nil
  · split
    · rename_i z
      refine nGw_B _ _ _ _ _ ?_
      obtain ⟨-, -, c3, c4⟩ := nKp_keep n ν m
      have := h.2.1
      rw [z] at this
      unfold nQk
      rw [c3, c4]
      exact this
    · exact mBs.nil
theorem nSt_B (h : nGood ν) : mBs (nSt n t ν).2 := by
  unfold nSt
  split
  · exact mBs.nil
  · rename_i z
    have z0 : ν.1 = 0 := by
      by_cases z0 : ν.1 = 0
      · exact z0
      · exact absurd (Or.inl z0) z
    have hq := h.2.1
    rw [z0] at hq
    exact (nPr_B (ν := nBg ν) hq.1).app (nGw_B 20 0 0 3 (nBg ν) hq)
end MB
/-! a message that has reached a node -/
theorem or_hi {r v u : Nat} (hr : r < 512) : (r + 512 * v) ||| (512 * u) = r + 512 * (v ||| u) := by
  apply Nat.eq_of_testBit_eq
  intro i
  rw [show r + 512 * v = 2 ^ 9 * v + r from by omega, show 512 * u = 2 ^ 9 * u + 0 from by omega, show r + 512 * (v ||| u) = 2 ^ 9 * (v ||| u) + r from by omega, Nat.testBit_or, Nat.testBit_two_pow_mul_add _ hr, Nat.testBit_two_pow_mul_add _ (by decide : 0 < 2 ^ 9), Nat.testBit_two_pow_mul_add _ hr]
  split
  · rw [Nat.zero_testBit, Bool.or_false]
  · rw [Nat.testBit_or]
theorem or_bit : ∀ v, v < 32 → ∀ n, n < 4 → v / 2 ^ n % 2 = 0 → v ||| 2 ^ n = v + 2 ^ n ∧ v + 2 ^ n < 32 ∧ (v + 2 ^ n) / 16 % 2 = v / 16 % 2 ∧ (v + 2 ^ n) / 2 ^ n % 2 = 1 := by decide +kernel
theorem or_oth' : ∀ v, v < 32 → ∀ n, n < 4 → ∀ k, k < 4 → (decide (v / 2 ^ n % 2 ≠ 0) || decide (k = n) || decide ((v + 2 ^ n) / 2 ^ k % 2 = v / 2 ^ k % 2)) = true := by decide +kernel
theorem or_oth {v n k : Nat} (hv : v < 32) (hn : n < 4) (hk : k < 4) (h : v / 2 ^ n % 2 = 0) (h2 : k ≠ n) : (v + 2 ^ n) / 2 ^ k % 2 = v / 2 ^ k % 2 := by
  have := or_oth' v hv n hn k hk
  rw [decide_eq_false (fun z : v / 2 ^ n % 2 ≠ 0 => z h), decide_eq_false h2, Bool.false_or, Bool.false_or] at this
  exact of_decide_eq_true this
