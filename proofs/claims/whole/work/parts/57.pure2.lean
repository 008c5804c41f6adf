/-! THE REFERENCE LOOKS AS THE CLASS DOES -/
theorem cc4 : ∀ a b c d a' b' c' d' : Bool, (a && a') = false → (b && b') = false → (c && c') = false → (d && d') = false → cPop (cM4 a b c d) + cPop (cM4 a' b' c' d') ≤ 4 := by decide +kernel
/-- two roots cannot both have more than two of four -/
theorem cCt_two {g : Nat → Bool} {r : Nat → Int32} {x y : Int32} (h : x ≠ y) : cCt g r x + cCt g r y ≤ 4 := by
  unfold cCt
  rw [show ∀ f : Nat → Bool, cMk f = cM4 (f 0) (f 1) (f 2) (f 3) from fun f => rfl, show ∀ f : Nat → Bool, cMk f = cM4 (f 0) (f 1) (f 2) (f 3) from fun f => rfl]
  have k : ∀ s, ((g s && decide (r s = x)) && (g s && decide (r s = y))) = false := by
    intro s
    by_cases z : r s = x
    · rw [decide_eq_false (fun z2 : r s = y => h (z.symm.trans z2)), Bool.and_false, Bool.and_false]
    · rw [decide_eq_false z, Bool.and_false, Bool.false_and]
  exact cc4 _ _ _ _ _ _ _ _ (k 0) (k 1) (k 2) (k 3)
theorem fnd_some {p : Nat → Bool} {j : Nat} (h : (List.range 4).find? p = some j) : j < 4 ∧ p j = true := ⟨List.mem_range.mp (List.mem_of_find?_eq_some h), List.find?_some h⟩
theorem fnd_no {p : Nat → Bool} (h : (List.range 4).find? p = none) : ∀ k, k < 4 → p k = false := by
  intro k hk
  have := List.find?_eq_none.mp h k (List.mem_range.mpr hk)
  cases z : p k
  · rfl
  · exact absurd z this
theorem mReady_b (β : sB) : mReady β = bReady β := by
  unfold mReady bReady
  cases h : cFs (fun s => β.1 (8 + s)) (fun s => β.2 (8 + s)) 3 with
  | none =>
    have k := fnd_no h
    rw [fndN (fun j hj => by unfold bE3; rw [k j hj, Bool.false_and])]
  | some a =>
    obtain ⟨ha, hp⟩ := fnd_some h
    rw [Bool.and_eq_true, decide_eq_true_iff] at hp
    dsimp only at hp
    -- every other root with three is the same
    have same : ∀ j, j < 4 → (β.1 (8 + j) && decide (3 ≤ cCt (fun s => β.1 (8 + s)) (fun s => β.2 (8 + s)) (β.2 (8 + j)))) = true → β.2 (8 + j) = β.2 (8 + a) := by
      intro j hj hh
      rw [Bool.and_eq_true, decide_eq_true_iff] at hh
      by_cases z : β.2 (8 + j) = β.2 (8 + a)
      · exact z
      · have := cCt_two (g := fun s => β.1 (8 + s)) (r := fun s => β.2 (8 + s)) z
        have := hh.2
        have := hp.2
        omega
    by_cases z : bMk β (β.2 (8 + a)) = true
    · have : ∃ j, (List.range 4).find? (bE3 β) = some j := by
        cases hh : (List.range 4).find? (bE3 β) with
        | some j => exact ⟨j, rfl⟩
        | none =>
          have := fnd_no hh a ha
          unfold bE3 at this
          rw [hp.1, decide_eq_true hp.2, z] at this
          cases this
      obtain ⟨j, hj⟩ := this
      obtain ⟨j4, hj2⟩ := fnd_some hj
      unfold bE3 at hj2
      rw [Bool.and_eq_true] at hj2
      rw [hj]
      dsimp only
      rw [if_pos z, same j j4 hj2.1]
    · dsimp only
      rw [if_neg z, fndN (fun j hj => ?_)]
      unfold bE3
      by_cases y : (β.1 (8 + j) && decide (3 ≤ cCt (fun s => β.1 (8 + s)) (fun s => β.2 (8 + s)) (β.2 (8 + j)))) = true
      · rw [same j hj y]
        cases hb : bMk β (β.2 (8 + a))
        · rw [Bool.and_false]
        · exact absurd hb z
      · cases hy : (β.1 (8 + j) && decide (3 ≤ cCt (fun s => β.1 (8 + s)) (fun s => β.2 (8 + s)) (β.2 (8 + j))))
        · rw [Bool.false_and]
        · exact absurd hy y
theorem mProp_b (β : sB) : mProp β = bProp β := by
  unfold mProp bProp
  cases h : cFs (fun s => β.1 (16 + s)) (fun s => β.2 (24 + s)) 3 with
  | none =>
    have k := fnd_no h
    rw [fndN (fun j hj => by unfold bP3; rw [k j hj, Bool.false_and])]
  | some a =>
    obtain ⟨ha, hp⟩ := fnd_some h
    rw [Bool.and_eq_true, decide_eq_true_iff] at hp
    dsimp only at hp
    have same : ∀ j, j < 4 → (β.1 (16 + j) && decide (3 ≤ cCt (fun s => β.1 (16 + s)) (fun s => β.2 (24 + s)) (β.2 (24 + j)))) = true → β.2 (24 + j) = β.2 (24 + a) := by
      intro j hj hh
      rw [Bool.and_eq_true, decide_eq_true_iff] at hh
      by_cases z : β.2 (24 + j) = β.2 (24 + a)
      · exact z
      · have := cCt_two (g := fun s => β.1 (16 + s)) (r := fun s => β.2 (24 + s)) z
        have := hh.2
        have := hp.2
        omega
    by_cases z : 2 ≤ cCt (fun s => β.1 (8 + s)) (fun s => β.2 (8 + s)) (β.2 (24 + a))
    · have : ∃ j, (List.range 4).find? (bP3 β) = some j := by
        cases hh : (List.range 4).find? (bP3 β) with
        | some j => exact ⟨j, rfl⟩
        | none =>
          have := fnd_no hh a ha
          unfold bP3 at this
          rw [hp.1, decide_eq_true hp.2, decide_eq_true z] at this
          cases this
      obtain ⟨j, hj⟩ := this
      obtain ⟨j4, hj2⟩ := fnd_some hj
      unfold bP3 at hj2
      rw [Bool.and_eq_true] at hj2
      rw [hj]
      dsimp only
      rw [if_pos z, same j j4 hj2.1]
    · dsimp only
      rw [if_neg z, fndN (fun j hj => ?_)]
      unfold bP3
      by_cases y : (β.1 (16 + j) && decide (3 ≤ cCt (fun s => β.1 (16 + s)) (fun s => β.2 (24 + s)) (β.2 (24 + j)))) = true
      · rw [same j hj y, decide_eq_false z, Bool.and_false]
      · cases hy : (β.1 (16 + j) && decide (3 ≤ cCt (fun s => β.1 (16 + s)) (fun s => β.2 (24 + s)) (β.2 (24 + j))))
        · rw [Bool.false_and]
        · exact absurd hy y
