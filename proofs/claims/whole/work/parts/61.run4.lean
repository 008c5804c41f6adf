/-! RUNS OF RULES: GOOD BITS -/
section RT4
variable {n e i : Nat} {t : Int32} {β : sB} {α : sA} {gf : Nat}
theorem aSetG_same {bit : Nat} (h : aGd α bit = true) : aSetG α bit = α := by
  unfold aSetG
  rw [if_pos (of_decide_eq_true h)]
  have : va_up α.2 3 (α.2 3) = α.2 := by
    funext x
    by_cases z : x = 3
    · rw [z, va_up_self]
    · rw [va_up_ne _ _ z]
  rw [this]
theorem aSetG_k {bit : Nat} : (aSetG α bit).1 = α.1 ∧ ∀ k, k ≠ 3 → (aSetG α bit).2 k = α.2 k := ⟨rfl, fun k hk => by unfold aSetG; dsimp only; rw [va_up_ne _ _ hk]⟩
theorem aV_setG {bit c : Nat} : aV (aSetG α bit) c = aV α c := by
  unfold aV aVs
  rw [aSetG_k.2 0 (by decide)]
  rfl
theorem aSent_setG {bit c : Nat} : aSent (aSetG α bit) c = aSent α c := by
  unfold aSent
  rw [aSetG_k.2 0 (by decide), aSetG_k.2 (8 + α.2 0) (by omega)]
theorem aGd_up : ∀ v, v < 4 → ∀ b, b < 2 → ∀ c, c < 2 → ((if v / 2 ^ b % 2 = 1 then v else v + 2 ^ b) / 2 ^ c % 2 = 1 ↔ (c = b ∨ v / 2 ^ c % 2 = 1)) := by
  intro v hv b hb c hc
  rcases lt4 hv with rfl | rfl | rfl | rfl <;> rcases lt2 hb with rfl | rfl <;> rcases lt2 hc with rfl | rfl <;> decide
theorem aGd_setG {bit c : Nat} (ok : aOk α) (hb : bit < 2) (hc : c < 2) : aGd (aSetG α bit) c = true ↔ (c = bit ∨ aGd α c = true) := by
  unfold aGd
  rw [decide_eq_true_iff, decide_eq_true_iff, show (aSetG α bit).2 3 = (if α.2 3 / 2 ^ bit % 2 = 1 then α.2 3 else α.2 3 + 2 ^ bit) from by unfold aSetG; dsimp only; rw [va_up_self]]
  exact aGd_up _ ok.2.2.2.1 bit hb c hc
theorem g0 : ∀ v, v < 4 → ∀ b, b < 2 → ¬ (if v / 2 ^ b % 2 = 1 then v else v + 2 ^ b) = 0 := by
  intro v hv b hb
  rcases lt4 hv with rfl | rfl | rfl | rfl <;> rcases lt2 hb with rfl | rfl <;> decide
/-- no vote is due -/
def oV (α : sA) : Prop := aSent α (α.2 1) = true ∧ ¬ (¬ aSent α 0 = true ∧ 2 ≤ aV α 0) ∧ ¬ (¬ aSent α 1 = true ∧ 2 ≤ aV α 1)
theorem oV.setG {bit : Nat} (h : oV α) : oV (aSetG α bit) := by
  unfold oV
  rw [aSetG_k.2 1 (by decide), aSent_setG, aSent_setG, aSent_setG, aV_setG, aV_setG]
  exact h
/-- the first bit becomes good, if it may -/
theorem run_g0 (h : oE β) (hy : oY β) (hp : oP β) (hin : α.1 0 = true) (hdn : α.1 1 = false) (hv : oV α) : ∃ k, k ≤ 1 ∧ rTo n e i t k (β, α, gf) [] (β, (if 3 ≤ aV α 0 then aSetG α 0 else α), (if α.2 3 = 0 ∧ 3 ≤ aV α 0 then 0 else gf)) := by
  by_cases z : 3 ≤ aV α 0
  · rw [if_pos z]
    by_cases y : aGd α 0 = true
    · have : ¬ α.2 3 = 0 := fun q => by unfold aGd at y; rw [q] at y; exact absurd (of_decide_eq_true y) (by decide)
      rw [aSetG_same y, if_neg (fun q => this q.1)]
      exact ⟨0, by omega, rTo.nil _⟩
    · refine ⟨1, Nat.le_refl _, rTo_a (y := (aSetG α 0, if α.2 3 = 0 ∧ 3 ≤ aV α 0 then 0 else gf)) h hy hp (oI_of hin) hin hdn ?_⟩
      unfold aStep
      rw [if_neg (fun q => q hv.1), if_neg hv.2.1, if_neg hv.2.2, if_pos ⟨y, z⟩]
      congr 3
      by_cases q : α.2 3 = 0
      · rw [if_pos q, if_pos ⟨q, z⟩]
      · rw [if_neg q, if_neg (fun r => q r.1)]
  · rw [if_neg z, if_neg (fun q => z q.2)]
    exact ⟨0, by omega, rTo.nil _⟩
end RT4
