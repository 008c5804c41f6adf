/-! RUNS OF RULES: THE SECOND BIT, SURE -/
section RT5
variable {n e i : Nat} {t : Int32} {β : sB} {α : sA} {gf : Nat}
theorem run_g1 (h : oE β) (hy : oY β) (hp : oP β) (hin : α.1 0 = true) (hdn : α.1 1 = false) (hv : oV α) (c4 : ¬ (¬ aGd α 0 = true ∧ 3 ≤ aV α 0)) : ∃ k, k ≤ 1 ∧ rTo n e i t k (β, α, gf) [] (β, (if 3 ≤ aV α 1 then aSetG α 1 else α), (if α.2 3 = 0 ∧ 3 ≤ aV α 1 then 1 else gf)) := by
  by_cases z : 3 ≤ aV α 1
  · rw [if_pos z]
    by_cases y : aGd α 1 = true
    · have : ¬ α.2 3 = 0 := fun q => by unfold aGd at y; rw [q] at y; exact absurd (of_decide_eq_true y) (by decide)
      rw [aSetG_same y, if_neg (fun q => this q.1)]
      exact ⟨0, by omega, rTo.nil _⟩
    · refine ⟨1, Nat.le_refl _, rTo_a (y := (aSetG α 1, if α.2 3 = 0 ∧ 3 ≤ aV α 1 then 1 else gf)) h hy hp (oI_of hin) hin hdn ?_⟩
      unfold aStep
      rw [if_neg (fun q => q hv.1), if_neg hv.2.1, if_neg hv.2.2, if_neg c4, if_pos ⟨y, z⟩]
      congr 3
      by_cases q : α.2 3 = 0
      · rw [if_pos q, if_pos ⟨q, z⟩]
      · rw [if_neg q, if_neg (fun r => q r.1)]
  · rw [if_neg z, if_neg (fun q => z q.2)]
    exact ⟨0, by omega, rTo.nil _⟩
/-- SURE is sent, if it is due -/
theorem run_su (h : oE β) (hy : oY β) (hp : oP β) (hin : α.1 0 = true) (hdn : α.1 1 = false) (hv : oV α) (c4 : ¬ (¬ aGd α 0 = true ∧ 3 ≤ aV α 0)) (c5 : ¬ (¬ aGd α 1 = true ∧ 3 ≤ aV α 1)) : ∃ k, k ≤ 1 ∧ rTo n e i t k (β, α, gf) (if ¬ α.2 3 = 0 ∧ ¬ α.1 (8 + α.2 0) = true then [(n, e, i, 4, nI (α.2 0), nI gf)] else []) (β, (if ¬ α.2 3 = 0 ∧ ¬ α.1 (8 + α.2 0) = true then (va_up α.1 (8 + α.2 0) true, α.2) else α), gf) := by
  by_cases z : ¬ α.2 3 = 0 ∧ ¬ α.1 (8 + α.2 0) = true
  · rw [if_pos z, if_pos z]
    refine ⟨1, Nat.le_refl _, rTo_a (y := ((va_up α.1 (8 + α.2 0) true, α.2), gf)) h hy hp (oI_of hin) hin hdn ?_⟩
    unfold aStep
    rw [if_neg (fun q => q hv.1), if_neg hv.2.1, if_neg hv.2.2, if_neg c4, if_neg c5, if_pos z]
  · rw [if_neg z, if_neg z]
    exact ⟨0, by omega, rTo.nil _⟩
/-- the round is finished, if it may -/
theorem run_fi (h : oE β) (hy : oY β) (hp : oP β) (hin : α.1 0 = true) (hdn : α.1 1 = false) (hv : oV α) (c4 : ¬ (¬ aGd α 0 = true ∧ 3 ≤ aV α 0)) (c5 : ¬ (¬ aGd α 1 = true ∧ 3 ≤ aV α 1)) (c6 : ¬ (¬ α.2 3 = 0 ∧ ¬ α.1 (8 + α.2 0) = true)) : (3 ≤ aGs α 0 + aGs α 1 → rTo n e i t 1 (β, α, gf) [] (β, aFin t e i α, aFg t e i α gf)) ∧ (aGs α 0 + aGs α 1 < 3 → rStep n e i t β α gf = none) := by
  have e1 : aStep n e i t α gf = (if 3 ≤ aGs α 0 + aGs α 1 then some ((aFin t e i α, aFg t e i α gf), []) else none) := by
    unfold aStep
    rw [if_neg (fun q => q hv.1), if_neg hv.2.1, if_neg hv.2.2, if_neg c4, if_neg c5, if_neg c6]
  refine ⟨fun z => rTo_a (y := (aFin t e i α, aFg t e i α gf)) h hy hp (oI_of hin) hin hdn (by rw [e1, if_pos z]), fun z => ?_⟩
  have e2 : aStep n e i t α gf = none := by rw [e1]; exact if_neg (by omega)
  rw [rStep_5 h hy hp (oI_of hin), rS5, hin, hdn, e2]
  all_goals rfl
end RT5
