/-! RUNS OF RULES: VOTES -/
section RT3
variable {n e i : Nat} {t : Int32} {β : sB} {α : sA} {gf : Nat}
theorem run_vE (h : oE β) (hy : oY β) (hp : oP β) (hin : α.1 0 = true) (hdn : α.1 1 = false) (ok : aOk α) : ∃ k, k ≤ 1 ∧ rTo n e i t k (β, α, gf) (aCv n e i α (α.2 1)).2 (β, (aCv n e i α (α.2 1)).1, gf) ∧ aSent (aCv n e i α (α.2 1)).1 (α.2 1) = true := by
  unfold aCv
  by_cases z : aSent α (α.2 1) = true
  · rw [if_pos z]
    exact ⟨0, by omega, rTo.nil _, z⟩
  · rw [if_neg z]
    refine ⟨1, Nat.le_refl _, rTo_a (y := (aVote α (α.2 1), gf)) h hy hp (oI_of hin) hin hdn ?_, (aSent_vote ok ok.2.1 ok.2.1 z).mpr (Or.inl rfl)⟩
    unfold aStep
    rw [if_pos z]
theorem run_v0 (h : oE β) (hy : oY β) (hp : oP β) (hin : α.1 0 = true) (hdn : α.1 1 = false) (ok : aOk α) (c1 : aSent α (α.2 1) = true) : ∃ k, k ≤ 1 ∧ rTo n e i t k (β, α, gf) (aVt n e i α 0).2 (β, (aVt n e i α 0).1, gf) ∧ aSent (aVt n e i α 0).1 ((aVt n e i α 0).1.2 1) = true ∧ ¬ (¬ aSent (aVt n e i α 0).1 0 = true ∧ 2 ≤ aV (aVt n e i α 0).1 0) := by
  unfold aVt aCv
  by_cases z : 2 ≤ aV α 0
  · rw [if_pos z]
    by_cases y : aSent α 0 = true
    · rw [if_pos y]
      exact ⟨0, by omega, rTo.nil _, c1, fun q => q.1 y⟩
    · rw [if_neg y]
      refine ⟨1, Nat.le_refl _, rTo_a (y := (aVote α 0, gf)) h hy hp (oI_of hin) hin hdn ?_, ?_, fun q => q.1 ((aSent_vote ok (by decide) (by decide) y).mpr (Or.inl rfl))⟩
      · unfold aStep
        rw [if_neg (fun q => q c1), if_pos ⟨y, z⟩]
      · dsimp only
        rw [show (aVote α 0).2 1 = α.2 1 from aVote_k.2 1 (by omega)]
        exact (aSent_vote ok (by decide) ok.2.1 y).mpr (Or.inr c1)
  · rw [if_neg z]
    exact ⟨0, by omega, rTo.nil _, c1, fun q => z q.2⟩
theorem run_v1 (h : oE β) (hy : oY β) (hp : oP β) (hin : α.1 0 = true) (hdn : α.1 1 = false) (ok : aOk α) (c1 : aSent α (α.2 1) = true) (c2 : ¬ (¬ aSent α 0 = true ∧ 2 ≤ aV α 0)) : ∃ k, k ≤ 1 ∧ rTo n e i t k (β, α, gf) (aVt n e i α 1).2 (β, (aVt n e i α 1).1, gf) ∧ aSent (aVt n e i α 1).1 ((aVt n e i α 1).1.2 1) = true ∧ ¬ (¬ aSent (aVt n e i α 1).1 0 = true ∧ 2 ≤ aV (aVt n e i α 1).1 0) ∧ ¬ (¬ aSent (aVt n e i α 1).1 1 = true ∧ 2 ≤ aV (aVt n e i α 1).1 1) := by
  unfold aVt aCv
  by_cases z : 2 ≤ aV α 1
  · rw [if_pos z]
    by_cases y : aSent α 1 = true
    · rw [if_pos y]
      exact ⟨0, by omega, rTo.nil _, c1, c2, fun q => q.1 y⟩
    · rw [if_neg y]
      refine ⟨1, Nat.le_refl _, rTo_a (y := (aVote α 1, gf)) h hy hp (oI_of hin) hin hdn ?_, ?_, fun q => c2 ⟨fun r => q.1 ((aSent_vote ok (by decide) (by decide) y).mpr (Or.inr r)), by have := q.2; dsimp only at this; rw [aV_vote] at this; exact this⟩, fun q => q.1 ((aSent_vote ok (by decide) (by decide) y).mpr (Or.inl rfl))⟩
      · unfold aStep
        rw [if_neg (fun q => q c1), if_neg c2, if_pos ⟨y, z⟩]
      · dsimp only
        rw [show (aVote α 1).2 1 = α.2 1 from aVote_k.2 1 (by omega)]
        exact (aSent_vote ok (by decide) ok.2.1 y).mpr (Or.inr c1)
  · rw [if_neg z]
    exact ⟨0, by omega, rTo.nil _, c1, c2, fun q => z q.2⟩
end RT3
