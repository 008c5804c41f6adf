/-! RUNS OF RULES: INPUT AND VOTES -/
section RT2
variable {n e i : Nat} {t : Int32}
/-- no input 1 is due -/
def oI (β : sB) (α : sA) : Prop := ¬ (¬ β.2 2 = -1 ∧ ¬ α.1 0 = true)
theorem rStep_4 {β : sB} {α : sA} {gf : Nat} (h : oE β) (hy : oY β) (hp : oP β) : rStep n e i t β α gf = rS4 n e i t β α gf := by
  rw [rStep, if_neg (by rw [h]; decide), rS2, mReady_b, hy]
  dsimp only
  rw [rS3, mProp_b, hp]
theorem rStep_5 {β : sB} {α : sA} {gf : Nat} (h : oE β) (hy : oY β) (hp : oP β) (hi : oI β α) : rStep n e i t β α gf = rS5 n e i t β α gf := by
  rw [rStep_4 h hy hp, rS4, if_neg hi]
theorem run_input (β : sB) (α : sA) (gf : Nat) (h : oE β) (hy : oY β) (hp : oP β) : ∃ k, k ≤ 1 ∧ rTo n e i t k (β, α, gf) [] (β, (if β.2 2 = -1 then α else aIn α 1), gf) ∧ oI β (if β.2 2 = -1 then α else aIn α 1) := by
  by_cases z : β.2 2 = -1
  · rw [if_pos z]
    exact ⟨0, by omega, rTo.nil _, fun y => y.1 z⟩
  · rw [if_neg z]
    unfold aIn
    by_cases y : α.1 0 = true
    · rw [if_pos y]
      exact ⟨0, by omega, rTo.nil _, fun q => q.2 y⟩
    · rw [if_neg y]
      refine ⟨1, Nat.le_refl _, rTo.one ?_, fun q => q.2 (by dsimp only; rw [va_up_self])⟩
      dsimp only
      rw [rStep_4 h hy hp, rS4, if_pos ⟨z, y⟩]
/-- an agreement's step, as a rule -/
theorem rTo_a {β : sB} {α : sA} {gf : Nat} {y : sA × Nat} {ms : List sMg} (h : oE β) (hy : oY β) (hp : oP β) (hi : oI β α) (hin : α.1 0 = true) (hdn : α.1 1 = false) (hs : aStep n e i t α gf = some (y, ms)) : rTo n e i t 1 (β, α, gf) ms (β, y.1, y.2) := by
  refine rTo.one ?_
  dsimp only
  rw [rStep_5 h hy hp hi, rS5, hin, hdn, hs]
  rfl
theorem oI_of {β : sB} {α : sA} (h : α.1 0 = true) : oI β α := fun q => q.2 h
theorem aSent_up : ∀ v, v < 4 → ∀ b, b < 2 → ∀ c, c < 2 → ¬ v / 2 ^ b % 2 = 1 → ((v + 2 ^ b) / 2 ^ c % 2 = 1 ↔ (c = b ∨ v / 2 ^ c % 2 = 1)) := by
  intro v hv b hb c hc
  rcases lt4 hv with rfl | rfl | rfl | rfl <;> rcases lt2 hb with rfl | rfl <;> rcases lt2 hc with rfl | rfl <;> decide
/-- what a vote leaves -/
theorem aVote_k {α : sA} {bit : Nat} : (aVote α bit).1 = α.1 ∧ (∀ k, k ≠ 8 + α.2 0 → (aVote α bit).2 k = α.2 k) := ⟨rfl, fun k hk => va_up_ne _ _ hk⟩
theorem aV_vote {α : sA} {bit c : Nat} : aV (aVote α bit) c = aV α c := by
  unfold aV aVs
  rw [show (aVote α bit).2 0 = α.2 0 from aVote_k.2 0 (by omega)]
  rfl
theorem aSent_vote {α : sA} {bit c : Nat} (ok : aOk α) (hb : bit < 2) (hc : c < 2) (hs : ¬ aSent α bit = true) : aSent (aVote α bit) c = true ↔ (c = bit ∨ aSent α c = true) := by
  unfold aSent
  rw [decide_eq_true_iff, decide_eq_true_iff, show (aVote α bit).2 0 = α.2 0 from aVote_k.2 0 (by omega)]
  have e1 : (aVote α bit).2 (8 + α.2 0) = α.2 (8 + α.2 0) + 2 ^ bit := va_up_self _ _ _
  rw [e1]
  exact aSent_up _ (ok.2.2.2.2.1 _ ok.1) bit hb c hc (fun y => hs (decide_eq_true y))
end RT2
