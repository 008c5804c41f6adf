/-! THE REFERENCE: FINISH -/
theorem gd1 : ∀ g, g < 4 → (nI g &&& 1 = 1 ↔ g / 2 ^ 0 % 2 = 1) := by decide +kernel
theorem gd2 : ∀ g, g < 4 → (nI g &&& 2 = 2 ↔ g / 2 ^ 1 % 2 = 1) := by decide +kernel
theorem nI_3 : ∀ v, v < 3 → ∀ c, c < 3 → (nI v = nI c ↔ v = c) := by decide +kernel
theorem iD_neg : ∀ v, v < 3 → (iD v < 0 ↔ v = 0) := by decide +kernel
theorem iD_c : ∀ v, v < 3 → ∀ c, c < 2 → ¬ v = 0 → (iD v = nI c ↔ v = c + 1) := by decide +kernel
theorem aGs_cN (α : sA) (bit : Nat) : cN (fun k => aSs α (α.2 0) bit k && aGd α bit) 4 = aGs α bit := by
  rw [cN_4]
  unfold aGs
  by_cases z : aGd α bit = true
  · rw [if_pos z, z]
    congr 2
    funext k
    rw [Bool.and_true]
  · rw [if_neg z]
    have z' : aGd α bit = false := by
      cases h : aGd α bit
      · rfl
      · exact absurd h z
    rw [z', cMk_congr (h := fun _ => false) (fun k hk => by rw [Bool.and_false])]
    rfl
section FI
variable {X : xPar} {m0 : Nat} {t : Int32} {n e i : Nat} {s : sS} {M0 M : Nat → Nat → Int32} {lg : List sPo} {β : sB} {α : sA} {gf : Nat} {w0 w : xW} {P : Option Value → xW → Prop}
/-- a cell of the epoch is written -/
theorem mI_put {gv x : Int32} {j0 : Nat} {β' : sB} {α' : sA} {gf' : Nat} (hR : rMo X m0 t (s.1, s.2.1, nI lg.length, gv, s.2.2.2.2) M w) (hg : gRel lg M) (hp : pRel M (16 * n + 4 * e + i) β α) (hd : dRel M (4 * n + i) β α gf) (hf : iFr M0 M (16 * n + 4 * e + i) (4 * n + i)) (hw : fr w0 w m0 (m0 + 31)) (h1 : 22 ≤ j0) (h2 : j0 < 30) (hx : dVal β' α' gf' j0 = x) (hc : ∀ j, 22 ≤ j → j < 30 → j ≠ j0 → dVal β' α' gf' j = dVal β α gf j) (hv : ∀ j idx, 8 ≤ j → j < 22 → pVal β' α' j idx = pVal β α j idx) : mI X m0 t n e i s M0 lg β' α' gf' w0 (xset w (m0 + 1 + j0) (.inl (X.2.2.2.1 (mT j0), mS j0, .inl (upd (M j0) (4 * n + i) x)))) :=
  ⟨gv, _, hR.put h2, hg.up (by omega), hp.oth h1 hv, hd.up hx hc, hf.upD h1, hw.set _ (by omega) (by omega)⟩
theorem pV_lo {α' : sA} (h1 : ∀ k, 8 ≤ k → α'.1 k = α.1 k) (h2 : ∀ k, 8 ≤ k → α'.2 k = α.2 k) : ∀ j idx, 8 ≤ j → j < 22 → pVal β α' j idx = pVal β α j idx := fun _ _ k1 k2 => pVal_c (fun _ => rfl) (fun _ _ => rfl) h1 h2 k1 k2
theorem dRel.c22 {x : Nat} (h : dRel M x β α gf) : M 22 x = β.2 2 := h 22 (by decide) (by decide)
theorem dRel.c23 {x : Nat} (h : dRel M x β α gf) : M 23 x = nB (α.1 0) := h 23 (by decide) (by decide)
theorem dRel.c24 {x : Nat} (h : dRel M x β α gf) : M 24 x = nI (α.2 1) := h 24 (by decide) (by decide)
theorem dRel.c25 {x : Nat} (h : dRel M x β α gf) : M 25 x = nI (α.2 0) := h 25 (by decide) (by decide)
theorem dRel.c26 {x : Nat} (h : dRel M x β α gf) : M 26 x = nI (α.2 3) := h 26 (by decide) (by decide)
theorem dRel.c27 {x : Nat} (h : dRel M x β α gf) : M 27 x = nI gf := h 27 (by decide) (by decide)
theorem dRel.c28 {x : Nat} (h : dRel M x β α gf) : M 28 x = iD (α.2 2) := h 28 (by decide) (by decide)
theorem dRel.c29 {x : Nat} (h : dRel M x β α gf) : M 29 x = nB (α.1 1) := h 29 (by decide) (by decide)
/-- estimate -/
theorem d_es {v j : Nat} (k1 : 22 ≤ j) (k2 : j < 30) (k3 : j ≠ 24) : dVal β (α.1, va_up α.2 1 v) gf j = dVal β α gf j := by
  rcases dc k1 k2 with rfl | rfl | rfl | rfl | rfl | rfl | rfl | rfl
  · rfl
  · rfl
  · exact absurd rfl k3
  · show nI (va_up α.2 1 v 0) = nI (α.2 0); rw [va_up_ne _ _ (by decide)]
  · show nI (va_up α.2 1 v 3) = nI (α.2 3); rw [va_up_ne _ _ (by decide)]
  · rfl
  · show iD (va_up α.2 1 v 2) = iD (α.2 2); rw [va_up_ne _ _ (by decide)]
  · rfl
theorem d_de {v j : Nat} (k1 : 22 ≤ j) (k2 : j < 30) (k3 : j ≠ 28) : dVal β (α.1, va_up α.2 2 v) gf j = dVal β α gf j := by
  rcases dc k1 k2 with rfl | rfl | rfl | rfl | rfl | rfl | rfl | rfl
  · rfl
  · rfl
  · show nI (va_up α.2 2 v 1) = nI (α.2 1); rw [va_up_ne _ _ (by decide)]
  · show nI (va_up α.2 2 v 0) = nI (α.2 0); rw [va_up_ne _ _ (by decide)]
  · show nI (va_up α.2 2 v 3) = nI (α.2 3); rw [va_up_ne _ _ (by decide)]
  · rfl
  · exact absurd rfl k3
  · rfl
theorem d_dn {j : Nat} (k1 : 22 ≤ j) (k2 : j < 30) (k3 : j ≠ 29) : dVal β (va_up α.1 1 true, α.2) gf j = dVal β α gf j := by
  rcases dc k1 k2 with rfl | rfl | rfl | rfl | rfl | rfl | rfl | rfl
  · rfl
  · show nB (va_up α.1 1 true 0) = nB (α.1 0); rw [va_up_ne _ _ (by decide)]
  · rfl
  · rfl
  · rfl
  · rfl
  · rfl
  · exact absurd rfl k3
theorem d_rd {v j : Nat} (k1 : 22 ≤ j) (k2 : j < 30) (k3 : j ≠ 25) : dVal β (α.1, va_up α.2 0 v) gf j = dVal β α gf j := by
  rcases dc k1 k2 with rfl | rfl | rfl | rfl | rfl | rfl | rfl | rfl
  · rfl
  · rfl
  · show nI (va_up α.2 0 v 1) = nI (α.2 1); rw [va_up_ne _ _ (by decide)]
  · exact absurd rfl k3
  · show nI (va_up α.2 0 v 3) = nI (α.2 3); rw [va_up_ne _ _ (by decide)]
  · rfl
  · show iD (va_up α.2 0 v 2) = iD (α.2 2); rw [va_up_ne _ _ (by decide)]
  · rfl
theorem d_gd {v j : Nat} (k1 : 22 ≤ j) (k2 : j < 30) (k3 : j ≠ 26) : dVal β (α.1, va_up α.2 3 v) gf j = dVal β α gf j := by
  rcases dc k1 k2 with rfl | rfl | rfl | rfl | rfl | rfl | rfl | rfl
  · rfl
  · rfl
  · show nI (va_up α.2 3 v 1) = nI (α.2 1); rw [va_up_ne _ _ (by decide)]
  · show nI (va_up α.2 3 v 0) = nI (α.2 0); rw [va_up_ne _ _ (by decide)]
  · exact absurd rfl k3
  · rfl
  · show iD (va_up α.2 3 v 2) = iD (α.2 2); rw [va_up_ne _ _ (by decide)]
  · rfl
theorem d_gf {α' : sA} {v j : Nat} (h0 : α'.1 = α.1) (h1 : ∀ k, k < 4 → α'.2 k = α.2 k) (k1 : 22 ≤ j) (k2 : j < 30) (k3 : j ≠ 27) : dVal β α' v j = dVal β α gf j := by
  rcases dc k1 k2 with rfl | rfl | rfl | rfl | rfl | rfl | rfl | rfl
  · rfl
  · show nB (α'.1 0) = nB (α.1 0); rw [h0]
  · show nI (α'.2 1) = nI (α.2 1); rw [h1 1 (by decide)]
  · show nI (α'.2 0) = nI (α.2 0); rw [h1 0 (by decide)]
  · show nI (α'.2 3) = nI (α.2 3); rw [h1 3 (by decide)]
  · exact absurd rfl k3
  · show iD (α'.2 2) = iD (α.2 2); rw [h1 2 (by decide)]
  · show nB (α'.1 1) = nB (α.1 1); rw [h0]
end FI
