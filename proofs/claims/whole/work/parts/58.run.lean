/-! RUNS OF RULES -/
/-- k rules, one after the other -/
def rTo (n e i : Nat) (t : Int32) : Nat → (sB × sA × Nat) → List sMg → (sB × sA × Nat) → Prop
  | 0, a, ms, b => a = b ∧ ms = []
  | k + 1, a, ms, b => ∃ y m1 m2, rStep n e i t a.1 a.2.1 a.2.2 = some (y, m1) ∧ rTo n e i t k y m2 b ∧ ms = m1 ++ m2
section RT
variable {n e i : Nat} {t : Int32}
theorem rTo.app {b c : sB × sA × Nat} {l : Nat} {ms' : List sMg} (h2 : rTo n e i t l b ms' c) : ∀ (k : Nat) (a : sB × sA × Nat) (ms : List sMg), rTo n e i t k a ms b → rTo n e i t (k + l) a (ms ++ ms') c := by
  intro k
  induction k with
  | zero =>
    intro a ms h
    obtain ⟨h3, h4⟩ := h
    rw [h3, h4, Nat.zero_add, List.nil_append]; exact h2
  | succ k ih =>
    intro a ms h
    obtain ⟨y, m1, m2, h3, h4, h5⟩ := h
    rw [show k + 1 + l = (k + l) + 1 from by omega]
    exact ⟨y, m1, m2 ++ ms', h3, ih y m2 h4, by rw [h5, List.append_assoc]⟩
theorem rTo.one {a y : sB × sA × Nat} {ms : List sMg} (h : rStep n e i t a.1 a.2.1 a.2.2 = some (y, ms)) : rTo n e i t 1 a ms y := ⟨y, ms, [], h, ⟨rfl, rfl⟩, (List.append_nil _).symm⟩
theorem rTo.nil (a : sB × sA × Nat) : rTo n e i t 0 a [] a := ⟨rfl, rfl⟩
/-- no echo, no ready, no proposal is due -/
def oE (β : sB) : Prop := (β.1 0 && !β.1 1) = false
def oY (β : sB) : Prop := (if β.1 2 = true then none else bReady β) = none
def oP (β : sB) : Prop := (if β.2 2 = -1 then bProp β else none) = none
theorem run_echo (β : sB) (α : sA) (gf : Nat) : ∃ k, k ≤ 1 ∧ rTo n e i t k (β, α, gf) (bEc n e i β).2 ((bEc n e i β).1, α, gf) ∧ oE (bEc n e i β).1 := by
  unfold bEc oE
  by_cases z : (β.1 0 && !β.1 1) = true
  · rw [if_pos z]
    refine ⟨1, Nat.le_refl _, rTo.one ?_, ?_⟩
    · dsimp only
      rw [rStep, if_pos z]
    · dsimp only
      rw [va_up_self, Bool.not_true, Bool.and_false]
  · rw [if_neg z]
    refine ⟨0, by omega, rTo.nil _, ?_⟩
    cases h : (β.1 0 && !β.1 1)
    · rfl
    · exact absurd h z
theorem run_ready (β : sB) (α : sA) (gf : Nat) (h : oE β) : ∃ k, k ≤ 1 ∧ rTo n e i t k (β, α, gf) (bRy n e i β).2 ((bRy n e i β).1, α, gf) ∧ oE (bRy n e i β).1 ∧ oY (bRy n e i β).1 := by
  unfold bRy
  cases z : (if β.1 2 = true then none else bReady β) with
  | none => exact ⟨0, by omega, rTo.nil _, h, z⟩
  | some root =>
    refine ⟨1, Nat.le_refl _, rTo.one ?_, ?_, ?_⟩
    · dsimp only
      rw [rStep, if_neg (by rw [h]; decide), rS2, mReady_b, z]
    · unfold oE
      dsimp only
      rw [va_up_ne _ _ (by decide), va_up_ne _ _ (by decide)]
      exact h
    · unfold oY
      dsimp only
      rw [if_pos (va_up_self _ _ _)]
theorem bReady_p (β : sB) (x : Int32) : bReady (β.1, va_up β.2 2 x) = bReady β := by
  have e1 : ∀ c, 3 ≤ c → (fun s => va_up β.2 2 x (c + s)) = (fun s => β.2 (c + s)) := fun c hc => funext (fun s => va_up_ne _ _ (by omega))
  have e2 : ∀ c s, 3 ≤ c → va_up β.2 2 x (c + s) = β.2 (c + s) := fun c s hc => va_up_ne _ _ (by omega)
  unfold bReady bRd2 bMk bGvR
  dsimp only
  simp only [e2 8 _ (by decide), e2 16 _ (by decide), e2 24 _ (by decide)]
theorem run_prop (β : sB) (α : sA) (gf : Nat) (h : oE β) (hy : oY β) (hb : ∀ k, k < 4 → cUn (β.2 (16 + k)) < 256) : ∃ k, k ≤ 1 ∧ rTo n e i t k (β, α, gf) [] (bTk β, α, gf) ∧ oE (bTk β) ∧ oY (bTk β) ∧ oP (bTk β) := by
  unfold bTk
  cases z : (if β.2 2 = -1 then bProp β else none) with
  | none => exact ⟨0, by omega, rTo.nil _, h, hy, z⟩
  | some v =>
    have hv : v < 65536 := by
      split at z
      · unfold bProp at z
        split at z
        · split at z
          · injection z with z
            rw [← z]
            split
            · exact bGvR_lt hb
            · omega
          · cases z
        · cases z
      · cases z
    refine ⟨1, Nat.le_refl _, rTo.one ?_, h, ?_, ?_⟩
    · dsimp only
      rw [rStep, if_neg (by rw [h]; decide), rS2, mReady_b, hy]
      dsimp only
      rw [rS3, mProp_b, z]
    · unfold oY at hy ⊢
      rw [bReady_p]
      exact hy
    · unfold oP
      dsimp only
      rw [if_neg]
      rw [va_up_self]
      intro y
      have := congrArg cUn y
      rw [cUn_nI (by omega), show cUn (-1) = 4294967295 from rfl] at this
      omega
end RT
