/-! RUNS OF RULES: TO THE END -/
section RT7
variable {n e i : Nat} {t : Int32} {β : sB} {α : sA} {gf : Nat}
theorem aTurn_0 : (aTurn n e i α).1.2 0 = α.2 0 := by
  unfold aTurn aSeq
  dsimp only
  rw [(aGt_in).2.1, (aGt_in).2.1, (aVt_in).2.1, (aVt_in).2.1, (aCv_in).2.1]
theorem aCg_d {bit : Nat} : (aCg n e i α bit).1.1 1 = α.1 1 := by
  unfold aCg
  split
  · rw [aSetG_k.1]
  · dsimp only; rw [va_up_ne _ _ (by omega)]
theorem aGt_d {bit : Nat} : (aGt n e i α bit).1.1 1 = α.1 1 := by
  unfold aGt
  split
  · exact aCg_d
  · rfl
theorem aTurn_d : (aTurn n e i α).1.1 1 = α.1 1 := by
  unfold aTurn aSeq
  dsimp only
  rw [aGt_d, aGt_d, aVt_in.1, aVt_in.1, aCv_in.1]
theorem oG.iG {α : sA} (h : oG α) : iG α := by
  by_cases z : α.2 3 = 0
  · exact Or.inl z
  · by_cases y : α.1 (8 + α.2 0) = true
    · exact Or.inr y
    · exact absurd ⟨z, y⟩ h.2.2.2
theorem rNo (h : oE β) (hy : oY β) (hp : oP β) (hi : oI β α) (hz : (α.1 0 && !α.1 1) = false) : rStep n e i t β α gf = none := by
  rw [rStep_5 h hy hp hi, rS5, hz]
  rfl
theorem aGo_no (f : Nat) (h : (α.1 0 && !α.1 1) = false) : aGo n e i t f α = (α, []) := by
  cases f with
  | zero => rfl
  | succ f => rw [aGo, h]; rfl
theorem run_go (hn : n < 4) (he : e < 4) (hi : i < 4) (h : oE β) (hy : oY β) (hp : oP β) : ∀ (f : Nat) (α : sA) (gf : Nat), α.1 0 = true → α.1 1 = false → 6 ≤ α.2 0 + f → aOk α → iG α → gf < 2 → ∃ k gf', k ≤ 7 * f ∧ gf' < 2 ∧ rTo n e i t k (β, α, gf) (aGo n e i t f α).2 (β, (aGo n e i t f α).1, gf') ∧ rStep n e i t β (aGo n e i t f α).1 gf' = none ∧ iG (aGo n e i t f α).1 := by
  intro f
  induction f with
  | zero =>
    intro α gf hin hdn hf ok hG hgf
    exact absurd ok.1 (by omega)
  | succ f ih =>
    intro α gf hin hdn hf ok hG hgf
    obtain ⟨k1, gf1, hk1, hgf1, r1, c1⟩ := run_turn (t := t) hn he hi h hy hp hin hdn ok hG hgf
    have o1 := (aTurn_ok hn he hi ok).1
    have i1 : (aTurn n e i α).1.1 0 = true := by rw [aTurn_in.1]; exact hin
    have d1 : (aTurn n e i α).1.1 1 = false := by rw [aTurn_d]; exact hdn
    have z1 : (aTurn n e i α).1.2 0 = α.2 0 := aTurn_0
    rw [aGo, hin, hdn]
    rw [if_pos (by decide)]
    generalize aTurn n e i α = y at r1 c1 o1 i1 d1 z1 ⊢
    have hF := run_fi (n := n) (e := e) (i := i) (t := t) (gf := gf1) h hy hp i1 d1 c1.1 c1.2.1 c1.2.2.1 c1.2.2.2
    by_cases q : aGs y.1 0 + aGs y.1 1 < 3
    · rw [if_pos q]
      exact ⟨k1, gf1, by omega, hgf1, r1, hF.2 q, c1.iG⟩
    · rw [if_neg q]
      have r2 := (hF.1 (by omega)).app _ _ _ r1
      rw [List.append_nil] at r2
      unfold aSeq
      dsimp only
      have o2 := aFin_ok (t := t) (e := e) (i := i) o1 i1
      have i2 : (aFin t e i y.1).1 0 = true := by rw [aFin_in]; exact i1
      by_cases z : y.1.2 2 = cCoin t e i (y.1.2 0) + 1 ∨ y.1.2 0 = 5
      · have d2 : (aFin t e i y.1).1 1 = true := by unfold aFin; rw [if_pos z]; dsimp only; rw [va_up_self]
        have e2 : aFg t e i y.1 gf1 = gf1 := by unfold aFg; rw [if_pos z]
        have g2 : iG (aFin t e i y.1) := by
          unfold aFin
          rw [if_pos z]
          unfold iG
          dsimp only
          rw [va_up_ne (k := 2) (j := 3) _ _ (by decide), va_up_ne (k := 1) (j := 3) _ _ (by decide), va_up_ne (k := 2) (j := 0) _ _ (by decide), va_up_ne (k := 1) (j := 0) _ _ (by decide), va_up_ne _ _ (by omega)]
          exact c1.iG
        rw [e2] at r2
        rw [aGo_no f (by rw [d2]; simp), List.append_nil]
        exact ⟨k1 + 1, gf1, by omega, hgf1, r2, rNo h hy hp (oI_of i2) (by rw [d2]; simp), g2⟩
      · have d2 : (aFin t e i y.1).1 1 = false := by unfold aFin; rw [if_neg z]; exact d1
        have e2 : aFg t e i y.1 gf1 = 0 := by unfold aFg; rw [if_neg z]
        have z2 : (aFin t e i y.1).2 0 = α.2 0 + 1 := by
          unfold aFin
          rw [if_neg z]
          dsimp only
          rw [va_up_ne _ _ (by decide), va_up_ne _ _ (by decide), va_up_self, z1]
        have g2 : iG (aFin t e i y.1) := by
          left
          unfold aFin
          rw [if_neg z]
          dsimp only
          rw [va_up_ne _ _ (by decide), va_up_self]
        rw [e2] at r2
        obtain ⟨k3, gf3, hk3, hgf3, r3, s3, g3⟩ := ih (aFin t e i y.1) 0 i2 d2 (by rw [z2]; omega) o2 g2 (by decide)
        exact ⟨k1 + 1 + k3, gf3, by omega, hgf3, r3.app _ _ _ r2, s3, g3⟩
theorem bEc_2 : (bEc n e i β).1.2 = β.2 := by unfold bEc; split <;> rfl
theorem bRy_2 : (bRy n e i β).1.2 = β.2 := by unfold bRy; split <;> rfl
theorem iG_in {bit : Nat} (h : iG α) : iG (aIn α bit) := by
  unfold aIn
  split
  · exact h
  · unfold iG
    dsimp only
    rw [va_up_ne (k := 1) (j := 3) _ _ (by decide), va_up_ne (k := 1) (j := 0) _ _ (by decide), va_up_ne _ _ (by omega)]
    exact h
/-- the rules of one instance, run to their end, do what the class does -/
theorem run_all (hn : n < 4) (he : e < 4) (hi : i < 4) (ok : aOk α) (hG : iG α) (hgf : gf < 2) (hb : ∀ k, k < 4 → cUn (β.2 (16 + k)) < 256) : ∃ k gf', k ≤ 46 ∧ gf' < 2 ∧ rTo n e i t k (β, α, gf) (iM n e i t β α) (iB n e i β, (iA n e i t β α).1, gf') ∧ rStep n e i t (iB n e i β) (iA n e i t β α).1 gf' = none ∧ iG (iA n e i t β α).1 := by
  obtain ⟨k1, hk1, r1, c1⟩ := run_echo (n := n) (e := e) (i := i) (t := t) β α gf
  have e1 := bEc_2 (n := n) (e := e) (i := i) (β := β)
  unfold iM iA iB
  generalize bEc n e i β = y1 at r1 c1 e1 ⊢
  obtain ⟨k2, hk2, r2, c2, d2⟩ := run_ready (n := n) (e := e) (i := i) (t := t) y1.1 α gf c1
  have e2 := bRy_2 (n := n) (e := e) (i := i) (β := y1.1)
  generalize bRy n e i y1.1 = y2 at r2 c2 d2 e2 ⊢
  obtain ⟨k3, hk3, r3, c3, d3, f3⟩ := run_prop (n := n) (e := e) (i := i) (t := t) y2.1 α gf c2 d2 (by rw [e2, e1]; exact hb)
  generalize bTk y2.1 = y3 at r3 c3 d3 f3 ⊢
  obtain ⟨k4, hk4, r4, c4⟩ := run_input (n := n) (e := e) (i := i) (t := t) y3 α gf c3 d3 f3
  have o4 : aOk (if y3.2 2 = -1 then α else aIn α 1) := by
    split
    · exact ok
    · exact aIn_ok (by decide) ok
  have g4 : iG (if y3.2 2 = -1 then α else aIn α 1) := by
    split
    · exact hG
    · exact iG_in hG
  generalize (if y3.2 2 = -1 then α else aIn α 1) = α4 at r4 c4 o4 g4 ⊢
  have r := r4.app _ _ _ (r3.app _ _ _ (r2.app _ _ _ r1))
  rw [List.append_nil, List.append_nil] at r
  by_cases z : (α4.1 0 && !α4.1 1) = true
  · rw [Bool.and_eq_true, Bool.not_eq_true'] at z
    obtain ⟨k5, gf5, hk5, hgf5, r5, s5, g5⟩ := run_go (t := t) hn he hi c3 d3 f3 6 α4 gf z.1 z.2 (by omega) o4 g4 hgf
    exact ⟨k1 + k2 + k3 + k4 + k5, gf5, by omega, hgf5, r5.app _ _ _ r, s5, g5⟩
  · have z : (α4.1 0 && !α4.1 1) = false := by
      cases q : (α4.1 0 && !α4.1 1)
      · rfl
      · exact absurd q z
    rw [aGo_no 6 z, List.append_nil]
    exact ⟨k1 + k2 + k3 + k4, gf, by omega, hgf, r, rNo c3 d3 f3 c4 z, g4⟩
/-- what every rule keeps -/
def rInv (a : sB × sA × Nat) : Prop := a.2.2 < 2 ∧ aOk a.2.1 ∧ (∀ k, k < 4 → cUn (a.1.2 (16 + k)) < 256) ∧ (a.1.2 2 = -1 ∨ 0 ≤ a.1.2 2)
theorem bProp_lt {v : Nat} (hb : ∀ k, k < 4 → cUn (β.2 (16 + k)) < 256) (z : bProp β = some v) : v < 65536 := by
  unfold bProp at z
  split at z
  · split at z
    · injection z with z
      rw [← z]
      split
      · exact bGvR_lt hb
      · omega
    · cases z
  · cases z
theorem nI_nn : ∀ {v : Nat}, v < 65536 → (0 : Int32) ≤ nI v := by
  intro v hv
  rw [Int32.le_iff_toInt_le]
  show (0 : Int32).toInt ≤ (nI v).toBitVec.toInt
  rw [BitVec.toInt_eq_toNat_cond, pk_tn (by omega), if_pos (by omega)]
  exact Int.natCast_nonneg v
theorem aStep_ok {y : sA × Nat} {ms : List sMg} (hin : α.1 0 = true) (hs : aStep n e i t α gf = some (y, ms)) (hgf : gf < 2) (ok : aOk α) : y.2 < 2 ∧ aOk y.1 := by
  unfold aStep at hs
  split at hs
  · rename_i z
    injection hs with hs; injection hs with hs _; rw [← hs]; exact ⟨hgf, ok.vote ok.2.1 z⟩
  split at hs
  · rename_i z
    injection hs with hs; injection hs with hs _; rw [← hs]; exact ⟨hgf, ok.vote (by decide) z.1⟩
  split at hs
  · rename_i z
    injection hs with hs; injection hs with hs _; rw [← hs]; exact ⟨hgf, ok.vote (by decide) z.1⟩
  split at hs
  · injection hs with hs; injection hs with hs _; rw [← hs]; exact ⟨by dsimp only; split <;> omega, ok.good (by decide)⟩
  split at hs
  · injection hs with hs; injection hs with hs _; rw [← hs]; exact ⟨by dsimp only; split <;> omega, ok.good (by decide)⟩
  split at hs
  · injection hs with hs; injection hs with hs _; rw [← hs]; exact ⟨hgf, ok.sure⟩
  split at hs
  · injection hs with hs; injection hs with hs _; rw [← hs]; exact ⟨by unfold aFg; dsimp only; split <;> omega, aFin_ok ok hin⟩
  · cases hs
theorem rStep_inv {a y : sB × sA × Nat} {ms : List sMg} (hI : rInv a) (h : rStep n e i t a.1 a.2.1 a.2.2 = some (y, ms)) : rInv y := by
  obtain ⟨β, α, gf⟩ := a
  obtain ⟨h1, h2, h3, h4⟩ := hI
  dsimp only at h1 h2 h3 h4 h
  unfold rStep at h
  split at h
  · injection h with h; injection h with h _; rw [← h]; exact ⟨h1, h2, h3, h4⟩
  unfold rS2 at h
  split at h
  · injection h with h; injection h with h _; rw [← h]; exact ⟨h1, h2, h3, h4⟩
  unfold rS3 at h
  split at h
  · rename_i v z
    injection h with h; injection h with h _; rw [← h]
    have hv : v < 65536 := by
      split at z
      · rw [mProp_b] at z; exact bProp_lt h3 z
      · cases z
    refine ⟨h1, h2, fun k hk => ?_, Or.inr ?_⟩
    · show cUn (va_up β.2 2 (nI v) (16 + k)) < 256
      rw [va_up_ne _ _ (by omega)]; exact h3 k hk
    · show 0 ≤ va_up β.2 2 (nI v) 2
      rw [va_up_self]; exact nI_nn hv
  unfold rS4 at h
  split at h
  · rename_i z
    injection h with h; injection h with h _; rw [← h]
    have := aIn_ok (bit := 1) (by decide) h2
    unfold aIn at this
    rw [if_neg z.2] at this
    exact ⟨h1, this, h3, h4⟩
  unfold rS5 at h
  split at h
  · rename_i z
    rw [Bool.and_eq_true] at z
    cases hs : aStep n e i t α gf with
    | none => rw [hs] at h; cases h
    | some u =>
      rw [hs] at h
      injection h with h; injection h with h _; rw [← h]
      have := aStep_ok (y := u.1) (ms := u.2) z.1 hs h1 h2
      exact ⟨this.1, this.2, h3, h4⟩
  · cases h
end RT7
