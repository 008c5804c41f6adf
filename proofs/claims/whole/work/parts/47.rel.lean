/-! THE REFERENCE: AN INSTANCE'S CELLS -/
/-- cells that last: of the instance at idx / mD j -/
def mD (j : Nat) : Nat := [1, 1, 1, 1, 1, 1, 1, 1, 1, 1, 1, 4, 4, 4, 4, 4, 24, 24, 1, 1, 6, 6].getD j 1
def pVal (β : sB) (α : sA) (j idx : Nat) : Int32 := match j with
  | 8 => nB (β.1 0)
  | 9 => β.2 0
  | 10 => β.2 1
  | 11 => nB (β.1 (8 + idx % 4))
  | 12 => β.2 (8 + idx % 4)
  | 13 => β.2 (16 + idx % 4)
  | 14 => nB (β.1 (16 + idx % 4))
  | 15 => β.2 (24 + idx % 4)
  | 16 => nI (cV2 (α.1 (32 + 8 * (idx % 24 / 4) + 2 * (idx % 4))) (α.1 (32 + 8 * (idx % 24 / 4) + 2 * (idx % 4) + 1)))
  | 17 => nI (α.2 (32 + 4 * (idx % 24 / 4) + idx % 4))
  | 18 => nB (β.1 1)
  | 19 => nB (β.1 2)
  | 20 => nI (α.2 (8 + idx % 6))
  | 21 => nB (α.1 (8 + idx % 6))
  | _ => 0
def dVal (β : sB) (α : sA) (gf j : Nat) : Int32 := match j with
  | 22 => β.2 2
  | 23 => nB (α.1 0)
  | 24 => nI (α.2 1)
  | 25 => nI (α.2 0)
  | 26 => nI (α.2 3)
  | 27 => nI gf
  | 28 => iD (α.2 2)
  | 29 => nB (α.1 1)
  | _ => 0
def pRel (M : Nat → Nat → Int32) (a : Nat) (β : sB) (α : sA) : Prop := ∀ j idx, 8 ≤ j → j < 22 → idx / mD j = a → M j idx = pVal β α j idx
def dRel (M : Nat → Nat → Int32) (x : Nat) (β : sB) (α : sA) (gf : Nat) : Prop := ∀ j, 22 ≤ j → j < 30 → M j x = dVal β α gf j
/-- nothing but the log and the cells of one instance has changed -/
def iFr (M M' : Nat → Nat → Int32) (a x : Nat) : Prop := ∀ j idx, 3 ≤ j → (8 ≤ j → j < 22 → idx / mD j ≠ a) → (22 ≤ j → idx ≠ x) → M' j idx = M j idx
theorem iFr.rf (M : Nat → Nat → Int32) (a x : Nat) : iFr M M a x := fun _ _ _ _ _ => rfl
theorem iFr.tr {M M' M'' : Nat → Nat → Int32} {a x : Nat} (h : iFr M M' a x) (h2 : iFr M' M'' a x) : iFr M M'' a x := fun j idx h3 h4 h5 => (h2 j idx h3 h4 h5).trans (h j idx h3 h4 h5)
theorem jc {j : Nat} (h1 : 8 ≤ j) (h2 : j < 22) : j = 8 ∨ j = 9 ∨ j = 10 ∨ j = 11 ∨ j = 12 ∨ j = 13 ∨ j = 14 ∨ j = 15 ∨ j = 16 ∨ j = 17 ∨ j = 18 ∨ j = 19 ∨ j = 20 ∨ j = 21 := by omega
theorem dc {j : Nat} (h1 : 22 ≤ j) (h2 : j < 30) : j = 22 ∨ j = 23 ∨ j = 24 ∨ j = 25 ∨ j = 26 ∨ j = 27 ∨ j = 28 ∨ j = 29 := by omega
theorem pVal_c {β β' : sB} {α α' : sA} (hb1 : ∀ k, β'.1 k = β.1 k) (hb2 : ∀ k, k ≠ 2 → β'.2 k = β.2 k) (ha1 : ∀ k, 8 ≤ k → α'.1 k = α.1 k) (ha2 : ∀ k, 8 ≤ k → α'.2 k = α.2 k) {j idx : Nat} (h1 : 8 ≤ j) (h2 : j < 22) : pVal β' α' j idx = pVal β α j idx := by
  rcases jc h1 h2 with rfl | rfl | rfl | rfl | rfl | rfl | rfl | rfl | rfl | rfl | rfl | rfl | rfl | rfl
  · show nB (β'.1 0) = nB (β.1 0); rw [hb1]
  · show β'.2 0 = β.2 0; rw [hb2 _ (by decide)]
  · show β'.2 1 = β.2 1; rw [hb2 _ (by decide)]
  · show nB (β'.1 _) = nB (β.1 _); rw [hb1]
  · show β'.2 _ = β.2 _; rw [hb2 _ (by omega)]
  · show β'.2 _ = β.2 _; rw [hb2 _ (by omega)]
  · show nB (β'.1 _) = nB (β.1 _); rw [hb1]
  · show β'.2 _ = β.2 _; rw [hb2 _ (by omega)]
  · show nI (cV2 (α'.1 _) (α'.1 _)) = nI (cV2 (α.1 _) (α.1 _)); rw [ha1 _ (by omega), ha1 _ (by omega)]
  · show nI (α'.2 _) = nI (α.2 _); rw [ha2 _ (by omega)]
  · show nB (β'.1 1) = nB (β.1 1); rw [hb1]
  · show nB (β'.1 2) = nB (β.1 2); rw [hb1]
  · show nI (α'.2 _) = nI (α.2 _); rw [ha2 _ (by omega)]
  · show nB (α'.1 _) = nB (α.1 _); rw [ha1 _ (by omega)]
/-- one cell that lasts is written -/
theorem pRel.up {M : Nat → Nat → Int32} {a j0 i0 : Nat} {x : Int32} {β β' : sB} {α α' : sA} (h : pRel M a β α) (hx : pVal β' α' j0 i0 = x) (hc : ∀ j idx, 8 ≤ j → j < 22 → idx / mD j = a → (j = j0 → idx ≠ i0) → pVal β' α' j idx = pVal β α j idx) : pRel (va_up M j0 (upd (M j0) i0 x)) a β' α' := by
  intro j idx h1 h2 h3
  by_cases z : j = j0
  · subst z
    rw [va_up_self]
    by_cases z2 : idx = i0
    · subst z2; rw [upd_at, hx]
    · rw [upd_ne _ _ z2, hc j idx h1 h2 h3 (fun _ => z2)]; exact h j idx h1 h2 h3
  · rw [va_up_ne _ _ z, hc j idx h1 h2 h3 (fun y => absurd y z)]; exact h j idx h1 h2 h3
theorem pRel.oth {M : Nat → Nat → Int32} {a j0 i0 : Nat} {x : Int32} {β β' : sB} {α α' : sA} (h : pRel M a β α) (hj : 22 ≤ j0) (hc : ∀ j idx, 8 ≤ j → j < 22 → pVal β' α' j idx = pVal β α j idx) : pRel (va_up M j0 (upd (M j0) i0 x)) a β' α' := by
  intro j idx h1 h2 h3
  rw [va_up_ne _ _ (by omega), hc j idx h1 h2]; exact h j idx h1 h2 h3
theorem dRel.oth {M : Nat → Nat → Int32} {y j0 i0 : Nat} {x : Int32} {β β' : sB} {α α' : sA} {gf : Nat} (h : dRel M y β α gf) (hj : j0 < 22) (hc : ∀ j, 22 ≤ j → j < 30 → dVal β' α' gf j = dVal β α gf j) : dRel (va_up M j0 (upd (M j0) i0 x)) y β' α' gf := by
  intro j h1 h2
  rw [va_up_ne _ _ (by omega), hc j h1 h2]; exact h j h1 h2
theorem dRel.up {M : Nat → Nat → Int32} {y j0 : Nat} {x : Int32} {β β' : sB} {α α' : sA} {gf gf' : Nat} (h : dRel M y β α gf) (hx : dVal β' α' gf' j0 = x) (hc : ∀ j, 22 ≤ j → j < 30 → j ≠ j0 → dVal β' α' gf' j = dVal β α gf j) : dRel (va_up M j0 (upd (M j0) y x)) y β' α' gf' := by
  intro j h1 h2
  by_cases z : j = j0
  · subst z; rw [va_up_self, upd_at, hx]
  · rw [va_up_ne _ _ z, hc j h1 h2 z]; exact h j h1 h2
theorem iFr.upP {M M' : Nat → Nat → Int32} {a y j0 i0 : Nat} {x : Int32} (h : iFr M M' a y) (h1 : 8 ≤ j0) (h2 : j0 < 22) (h3 : i0 / mD j0 = a) : iFr M (va_up M' j0 (upd (M' j0) i0 x)) a y := by
  intro j idx k1 k2 k3
  by_cases z : j = j0
  · subst z
    rw [va_up_self, upd_ne _ _ (fun e => k2 h1 h2 (by rw [e]; exact h3))]; exact h j idx k1 k2 k3
  · rw [va_up_ne _ _ z]; exact h j idx k1 k2 k3
theorem iFr.upD {M M' : Nat → Nat → Int32} {a y j0 : Nat} {x : Int32} (h : iFr M M' a y) (h1 : 22 ≤ j0) : iFr M (va_up M' j0 (upd (M' j0) y x)) a y := by
  intro j idx k1 k2 k3
  by_cases z : j = j0
  · subst z
    rw [va_up_self, upd_ne _ _ (k3 h1)]; exact h j idx k1 k2 k3
  · rw [va_up_ne _ _ z]; exact h j idx k1 k2 k3
theorem gRel.up {M : Nat → Nat → Int32} {lg : List sPo} {j0 : Nat} {f : Nat → Int32} (h : gRel lg M) (hj : 3 ≤ j0) : gRel lg (va_up M j0 f) := by
  refine ⟨h.1, fun j p hp => ?_⟩
  rw [va_up_ne _ _ (by omega), va_up_ne _ _ (by omega), va_up_ne _ _ (by omega)]
  exact h.2 j p hp
/-- the reference, seen from one instance of the epoch that node n is in -/
def mI (X : xPar) (m0 : Nat) (t : Int32) (n e i : Nat) (s : sS) (M0 : Nat → Nat → Int32) (lg : List sPo) (β : sB) (α : sA) (gf : Nat) (w0 w : xW) : Prop :=
  ∃ gv M, rMo X m0 t (s.1, s.2.1, nI lg.length, gv, s.2.2.2.2) M w ∧ gRel lg M ∧ pRel M (16 * n + 4 * e + i) β α ∧ dRel M (4 * n + i) β α gf ∧ iFr M0 M (16 * n + 4 * e + i) (4 * n + i) ∧ fr w0 w m0 (m0 + 31)
section RL
variable {M : Nat → Nat → Int32} {a : Nat} {β : sB} {α : sA} {gf : Nat}
theorem pRel.c8 (h : pRel M a β α) : M 8 a = nB (β.1 0) := h 8 a (by decide) (by decide) (Nat.div_one a)
theorem pRel.c9 (h : pRel M a β α) : M 9 a = β.2 0 := h 9 a (by decide) (by decide) (Nat.div_one a)
theorem pRel.c10 (h : pRel M a β α) : M 10 a = β.2 1 := h 10 a (by decide) (by decide) (Nat.div_one a)
theorem pRel.c18 (h : pRel M a β α) : M 18 a = nB (β.1 1) := h 18 a (by decide) (by decide) (Nat.div_one a)
theorem pRel.c19 (h : pRel M a β α) : M 19 a = nB (β.1 2) := h 19 a (by decide) (by decide) (Nat.div_one a)
theorem d4 {k : Nat} (hk : k < 4) : (4 * a + k) / 4 = a ∧ (4 * a + k) % 4 = k := by omega
theorem pRel.c11 (h : pRel M a β α) {k : Nat} (hk : k < 4) : M 11 (4 * a + k) = nB (β.1 (8 + k)) := by
  have := h 11 (4 * a + k) (by decide) (by decide) (d4 hk).1
  rw [this]; show nB (β.1 (8 + (4 * a + k) % 4)) = _; rw [(d4 hk).2]
theorem pRel.c12 (h : pRel M a β α) {k : Nat} (hk : k < 4) : M 12 (4 * a + k) = β.2 (8 + k) := by
  have := h 12 (4 * a + k) (by decide) (by decide) (d4 hk).1
  rw [this]; show β.2 (8 + (4 * a + k) % 4) = _; rw [(d4 hk).2]
theorem pRel.c13 (h : pRel M a β α) {k : Nat} (hk : k < 4) : M 13 (4 * a + k) = β.2 (16 + k) := by
  have := h 13 (4 * a + k) (by decide) (by decide) (d4 hk).1
  rw [this]; show β.2 (16 + (4 * a + k) % 4) = _; rw [(d4 hk).2]
theorem pRel.c14 (h : pRel M a β α) {k : Nat} (hk : k < 4) : M 14 (4 * a + k) = nB (β.1 (16 + k)) := by
  have := h 14 (4 * a + k) (by decide) (by decide) (d4 hk).1
  rw [this]; show nB (β.1 (16 + (4 * a + k) % 4)) = _; rw [(d4 hk).2]
theorem pRel.c15 (h : pRel M a β α) {k : Nat} (hk : k < 4) : M 15 (4 * a + k) = β.2 (24 + k) := by
  have := h 15 (4 * a + k) (by decide) (by decide) (d4 hk).1
  rw [this]; show β.2 (24 + (4 * a + k) % 4) = _; rw [(d4 hk).2]
theorem d24 {r k : Nat} (hr : r < 6) (hk : k < 4) : (24 * a + 4 * r + k) / 24 = a ∧ (24 * a + 4 * r + k) % 24 / 4 = r ∧ (24 * a + 4 * r + k) % 4 = k := by omega
theorem pRel.c16 (h : pRel M a β α) {r k : Nat} (hr : r < 6) (hk : k < 4) : M 16 (24 * a + 4 * r + k) = nI (cV2 (aVs α r 0 k) (aVs α r 1 k)) := by
  have := h 16 (24 * a + 4 * r + k) (by decide) (by decide) (d24 hr hk).1
  rw [this]
  show nI (cV2 (α.1 (32 + 8 * ((24 * a + 4 * r + k) % 24 / 4) + 2 * ((24 * a + 4 * r + k) % 4))) (α.1 (32 + 8 * ((24 * a + 4 * r + k) % 24 / 4) + 2 * ((24 * a + 4 * r + k) % 4) + 1))) = _
  rw [(d24 hr hk).2.1, (d24 hr hk).2.2]; rfl
theorem pRel.c17 (h : pRel M a β α) {r k : Nat} (hr : r < 6) (hk : k < 4) : M 17 (24 * a + 4 * r + k) = nI (α.2 (32 + 4 * r + k)) := by
  have := h 17 (24 * a + 4 * r + k) (by decide) (by decide) (d24 hr hk).1
  rw [this]
  show nI (α.2 (32 + 4 * ((24 * a + 4 * r + k) % 24 / 4) + (24 * a + 4 * r + k) % 4)) = _
  rw [(d24 hr hk).2.1, (d24 hr hk).2.2]
theorem d6 {r : Nat} (hr : r < 6) : (6 * a + r) / 6 = a ∧ (6 * a + r) % 6 = r := by omega
theorem pRel.c20 (h : pRel M a β α) {r : Nat} (hr : r < 6) : M 20 (6 * a + r) = nI (α.2 (8 + r)) := by
  have := h 20 (6 * a + r) (by decide) (by decide) (d6 hr).1
  rw [this]; show nI (α.2 (8 + (6 * a + r) % 6)) = _; rw [(d6 hr).2]
theorem pRel.c21 (h : pRel M a β α) {r : Nat} (hr : r < 6) : M 21 (6 * a + r) = nB (α.1 (8 + r)) := by
  have := h 21 (6 * a + r) (by decide) (by decide) (d6 hr).1
  rw [this]; show nB (α.1 (8 + (6 * a + r) % 6)) = _; rw [(d6 hr).2]
/-- the four kinds of cells that a rule writes and that last -/
theorem pv18 {j idx : Nat} (h1 : 8 ≤ j) (h2 : j < 22) (h3 : j ≠ 18) : pVal (va_up β.1 1 true, β.2) α j idx = pVal β α j idx := by
  rcases jc h1 h2 with rfl | rfl | rfl | rfl | rfl | rfl | rfl | rfl | rfl | rfl | rfl | rfl | rfl | rfl
  · show nB (va_up β.1 1 true 0) = nB (β.1 0); rw [va_up_ne _ _ (by omega)]
  · rfl
  · rfl
  · show nB (va_up β.1 1 true _) = nB (β.1 _); rw [va_up_ne _ _ (by omega)]
  · rfl
  · rfl
  · show nB (va_up β.1 1 true _) = nB (β.1 _); rw [va_up_ne _ _ (by omega)]
  · rfl
  · rfl
  · rfl
  · exact absurd rfl h3
  · show nB (va_up β.1 1 true 2) = nB (β.1 2); rw [va_up_ne _ _ (by omega)]
  · rfl
  · rfl
theorem pv19 {j idx : Nat} (h1 : 8 ≤ j) (h2 : j < 22) (h3 : j ≠ 19) : pVal (va_up β.1 2 true, β.2) α j idx = pVal β α j idx := by
  rcases jc h1 h2 with rfl | rfl | rfl | rfl | rfl | rfl | rfl | rfl | rfl | rfl | rfl | rfl | rfl | rfl
  · show nB (va_up β.1 2 true 0) = nB (β.1 0); rw [va_up_ne _ _ (by omega)]
  · rfl
  · rfl
  · show nB (va_up β.1 2 true _) = nB (β.1 _); rw [va_up_ne _ _ (by omega)]
  · rfl
  · rfl
  · show nB (va_up β.1 2 true _) = nB (β.1 _); rw [va_up_ne _ _ (by omega)]
  · rfl
  · rfl
  · rfl
  · show nB (va_up β.1 2 true 1) = nB (β.1 1); rw [va_up_ne _ _ (by omega)]
  · exact absurd rfl h3
  · rfl
  · rfl
theorem pv20 {j idx r v : Nat} (h1 : 8 ≤ j) (h2 : j < 22) (hr : r < 6) (h3 : j = 20 → idx % 6 ≠ r) : pVal β (α.1, va_up α.2 (8 + r) v) j idx = pVal β α j idx := by
  rcases jc h1 h2 with rfl | rfl | rfl | rfl | rfl | rfl | rfl | rfl | rfl | rfl | rfl | rfl | rfl | rfl
  · rfl
  · rfl
  · rfl
  · rfl
  · rfl
  · rfl
  · rfl
  · rfl
  · rfl
  · show nI (va_up α.2 (8 + r) v _) = nI (α.2 _); rw [va_up_ne _ _ (by omega)]
  · rfl
  · rfl
  · have h4 := h3 rfl; show nI (va_up α.2 (8 + r) v (8 + idx % 6)) = nI (α.2 (8 + idx % 6)); rw [va_up_ne _ _ (by omega)]
  · rfl
theorem pv21 {j idx r : Nat} (h1 : 8 ≤ j) (h2 : j < 22) (hr : r < 6) (h3 : j = 21 → idx % 6 ≠ r) : pVal β (va_up α.1 (8 + r) true, α.2) j idx = pVal β α j idx := by
  rcases jc h1 h2 with rfl | rfl | rfl | rfl | rfl | rfl | rfl | rfl | rfl | rfl | rfl | rfl | rfl | rfl
  · rfl
  · rfl
  · rfl
  · rfl
  · rfl
  · rfl
  · rfl
  · rfl
  · show nI (cV2 (va_up α.1 (8 + r) true _) (va_up α.1 (8 + r) true _)) = nI (cV2 (α.1 _) (α.1 _)); rw [va_up_ne _ _ (by omega), va_up_ne _ _ (by omega)]
  · rfl
  · rfl
  · rfl
  · rfl
  · have h4 := h3 rfl; show nB (va_up α.1 (8 + r) true (8 + idx % 6)) = nB (α.1 (8 + idx % 6)); rw [va_up_ne _ _ (by omega)]
end RL
