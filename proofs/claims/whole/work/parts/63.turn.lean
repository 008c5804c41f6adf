/-! RUNS OF RULES: A TURN -/
/-- once a bit is good, SURE has been sent -/
def iG (α : sA) : Prop := α.2 3 = 0 ∨ α.1 (8 + α.2 0) = true
/-- nothing is due but to finish -/
def oG (α : sA) : Prop := oV α ∧ ¬ (¬ aGd α 0 = true ∧ 3 ≤ aV α 0) ∧ ¬ (¬ aGd α 1 = true ∧ 3 ≤ aV α 1) ∧ ¬ (¬ α.2 3 = 0 ∧ ¬ α.1 (8 + α.2 0) = true)
section RT6
variable {n e i : Nat} {t : Int32} {β : sB} {α : sA} {gf : Nat}
def aSu (α : sA) : sA := (va_up α.1 (8 + α.2 0) true, α.2)
theorem aV_su (ok : α.2 0 < 6) {c : Nat} : aV (aSu α) c = aV α c := by
  unfold aV
  congr 2
  funext s
  unfold aVs aSu
  dsimp only
  rw [va_up_ne _ _ (by omega)]
theorem oV_su (ok : α.2 0 < 6) (h : oV α) : oV (aSu α) := by
  unfold oV
  rw [aV_su ok, aV_su ok]
  exact h
theorem aSu_g {bit : Nat} (α : sA) : aSetG (aSu α) bit = aSu (aSetG α bit) := by
  unfold aSetG aSu
  dsimp only
  rw [va_up_ne _ _ (by decide)]
/-- a bit is good, if it may be -/
def oB (α : sA) (b : Nat) : Prop := ¬ (¬ aGd α b = true ∧ 3 ≤ aV α b)
theorem oB_g {b : Nat} (ok : aOk α) (hb : b < 2) : oB (if 3 ≤ aV α b then aSetG α b else α) b := by
  unfold oB
  by_cases z : 3 ≤ aV α b
  · rw [if_pos z]
    exact fun q => q.1 ((aGd_setG ok hb hb).mpr (Or.inl rfl))
  · rw [if_neg z]
    exact fun q => z q.2
theorem oB_k {b c : Nat} (ok : aOk α) (hb : b < 2) (hc : c < 2) (h : oB α b) : oB (if 3 ≤ aV α c then aSetG α c else α) b := by
  by_cases z : 3 ≤ aV α c
  · rw [if_pos z]
    unfold oB
    rw [aV_setG]
    exact fun q => h ⟨fun y => q.1 ((aGd_setG ok hc hb).mpr (Or.inr y)), q.2⟩
  · rw [if_neg z]
    exact h
theorem oB_su {b : Nat} (ok : α.2 0 < 6) (h : oB α b) : oB (aSu α) b := by
  unfold oB
  rw [aV_su ok]
  exact h
theorem oV_g {c : Nat} (h : oV α) : oV (if 3 ≤ aV α c then aSetG α c else α) := by
  split
  · exact h.setG
  · exact h
theorem ok_g {c : Nat} (ok : aOk α) (hc : c < 2) : aOk (if 3 ≤ aV α c then aSetG α c else α) := by
  split
  · exact ok.good hc
  · exact ok
theorem g_1 {c : Nat} : (if 3 ≤ aV α c then aSetG α c else α).1 = α.1 := by
  split
  · exact aSetG_k.1
  · rfl
theorem g_0 {c : Nat} : (if 3 ≤ aV α c then aSetG α c else α).2 0 = α.2 0 := by
  split
  · exact aSetG_k.2 0 (by decide)
  · rfl
theorem setG_ne {b : Nat} (ok : aOk α) (hb : b < 2) : ¬ (aSetG α b).2 3 = 0 := by
  have : (aSetG α b).2 3 = (if α.2 3 / 2 ^ b % 2 = 1 then α.2 3 else α.2 3 + 2 ^ b) := by unfold aSetG; dsimp only; rw [va_up_self]
  rw [this]
  exact g0 _ ok.2.2.2.1 b hb
/-- what the class does when SURE is due -/
theorem aCg_no {b : Nat} (h : ¬ α.1 (8 + α.2 0) = true) : aCg n e i α b = (aSu (aSetG α b), [(n, e, i, 4, nI (α.2 0), nI b)]) := by
  unfold aCg
  rw [if_neg h]
  unfold aSu
  rw [aSetG_k.2 0 (by decide), aSetG_k.1]
theorem aCg_ys {b : Nat} (h : α.1 (8 + α.2 0) = true) : aCg n e i α b = (aSetG α b, []) := by
  unfold aCg
  rw [if_pos h]
theorem aGt_ys {b : Nat} (h : α.1 (8 + α.2 0) = true) : aGt n e i α b = ((if 3 ≤ aV α b then aSetG α b else α), []) := by
  unfold aGt
  rw [aCg_ys h]
  split <;> rfl
theorem run_good (h : oE β) (hy : oY β) (hp : oP β) (hin : α.1 0 = true) (hdn : α.1 1 = false) (ok : aOk α) (hv : oV α) (hG : iG α) (hgf : gf < 2) : ∃ k gf', k ≤ 3 ∧ gf' < 2 ∧ rTo n e i t k (β, α, gf) ((aGt n e i α 0).2 ++ (aGt n e i (aGt n e i α 0).1 1).2) (β, (aGt n e i (aGt n e i α 0).1 1).1, gf') ∧ oG (aGt n e i (aGt n e i α 0).1 1).1 := by
  obtain ⟨k1, hk1, r1⟩ := run_g0 (n := n) (e := e) (i := i) (t := t) (gf := gf) h hy hp hin hdn hv
  have b1 := oB_g ok (b := 0) (by decide)
  have v1 := oV_g (c := 0) hv
  have o1 := ok_g ok (c := 0) (by decide)
  have e1 := g_1 (α := α) (c := 0)
  have z1 := g_0 (α := α) (c := 0)
  generalize hα1 : (if 3 ≤ aV α 0 then aSetG α 0 else α) = α1 at r1 b1 v1 o1 e1 z1
  generalize hg1 : (if α.2 3 = 0 ∧ 3 ≤ aV α 0 then 0 else gf) = gf1 at r1
  have hgf1 : gf1 < 2 := by rw [← hg1]; split <;> omega
  obtain ⟨k2, hk2, r2⟩ := run_g1 (n := n) (e := e) (i := i) (t := t) (gf := gf1) h hy hp (by rw [e1]; exact hin) (by rw [e1]; exact hdn) v1 b1
  have b2 := oB_g o1 (b := 1) (by decide)
  have b2' := oB_k o1 (b := 0) (c := 1) (by decide) (by decide) b1
  have v2 := oV_g (c := 1) v1
  have o2 := ok_g o1 (c := 1) (by decide)
  have e2 := g_1 (α := α1) (c := 1)
  have z2 := g_0 (α := α1) (c := 1)
  generalize hα2 : (if 3 ≤ aV α1 1 then aSetG α1 1 else α1) = α2 at r2 b2 b2' v2 o2 e2 z2
  generalize hg2 : (if α1.2 3 = 0 ∧ 3 ≤ aV α1 1 then 1 else gf1) = gf2 at r2
  have hgf2 : gf2 < 2 := by rw [← hg2]; split <;> omega
  have r12 := r2.app _ _ _ r1
  rw [List.nil_append] at r12
  by_cases S : α.1 (8 + α.2 0) = true
  · have S1 : α1.1 (8 + α1.2 0) = true := by rw [e1, z1]; exact S
    rw [aGt_ys S, hα1]
    dsimp only
    rw [aGt_ys S1, hα2]
    exact ⟨k1 + k2, gf2, by omega, hgf2, r12, v2, b2', b2, fun q => q.2 (by rw [e2, z2]; exact S1)⟩
  · have hz : α.2 3 = 0 := by
      rcases hG with y | y
      · exact y
      · exact absurd y S
    obtain ⟨k3, hk3, r3⟩ := run_su (n := n) (e := e) (i := i) (t := t) (gf := gf2) h hy hp (by rw [e2, e1]; exact hin) (by rw [e2, e1]; exact hdn) v2 b2' b2
    have S2 : ¬ α2.1 (8 + α2.2 0) = true := by rw [e2, z2, e1, z1]; exact S
    have r123 := r3.app _ _ _ r12
    rw [List.nil_append] at r123
    by_cases y0 : 3 ≤ aV α 0
    · rw [if_pos y0] at hα1
      have n1 : ¬ α1.2 3 = 0 := by rw [← hα1]; exact setG_ne ok (by decide)
      have n2 : ¬ α2.2 3 = 0 := by
        rw [← hα2]
        split
        · exact setG_ne o1 (by decide)
        · exact n1
      have g2 : gf2 = 0 := by rw [← hg2, if_neg (fun q => n1 q.1), ← hg1, if_pos ⟨hz, y0⟩]
      rw [if_pos ⟨n2, S2⟩, if_pos ⟨n2, S2⟩, g2, z2, z1] at r123
      have c1 : aGt n e i α 0 = (aSu α1, [(n, e, i, 4, nI (α.2 0), nI 0)]) := by
        unfold aGt
        rw [if_pos y0, aCg_no S, hα1]
      rw [c1]
      dsimp only
      have c2 : aGt n e i (aSu α1) 1 = (aSu α2, []) := by
        rw [aGt_ys (by unfold aSu; dsimp only; rw [va_up_self]), aV_su o1.1, aSu_g, ← hα2]
        split <;> rfl
      rw [c2]
      refine ⟨k1 + k2 + k3, 0, by omega, by decide, ?_, oV_su o2.1 v2, oB_su o2.1 b2', oB_su o2.1 b2, fun q => q.2 (by unfold aSu; dsimp only; rw [va_up_self])⟩
      have : aSu α2 = (va_up α2.1 (8 + α.2 0) true, α2.2) := by unfold aSu; rw [z2, z1]
      rw [this]
      exact r123
    · rw [if_neg y0] at hα1
      have c1 : aGt n e i α 0 = (α, []) := by unfold aGt; rw [if_neg y0]
      rw [c1]
      dsimp only
      rw [List.nil_append]
      subst hα1
      by_cases y1 : 3 ≤ aV α 1
      · rw [if_pos y1] at hα2
        have n2 : ¬ α2.2 3 = 0 := by rw [← hα2]; exact setG_ne ok (by decide)
        have g2 : gf2 = 1 := by rw [← hg2, if_pos ⟨hz, y1⟩]
        rw [if_pos ⟨n2, S2⟩, if_pos ⟨n2, S2⟩, g2, z2] at r123
        have c2 : aGt n e i α 1 = (aSu α2, [(n, e, i, 4, nI (α.2 0), nI 1)]) := by
          unfold aGt
          rw [if_pos y1, aCg_no S, hα2]
        rw [c2]
        refine ⟨k1 + k2 + k3, 1, by omega, by decide, ?_, oV_su o2.1 v2, oB_su o2.1 b2', oB_su o2.1 b2, fun q => q.2 (by unfold aSu; dsimp only; rw [va_up_self])⟩
        have : aSu α2 = (va_up α2.1 (8 + α.2 0) true, α2.2) := by unfold aSu; rw [z2]
        rw [this]
        exact r123
      · rw [if_neg y1] at hα2
        have c2 : aGt n e i α 1 = (α, []) := by unfold aGt; rw [if_neg y1]
        rw [c2]
        subst hα2
        exact ⟨k1 + k2, gf2, by omega, hgf2, r12, v2, b2', b2, fun q => q.1 hz⟩
theorem aCv_2 {bit k : Nat} (hk : k < 8) : (aCv n e i α bit).1.2 k = α.2 k := by
  unfold aCv
  split
  · rfl
  · exact aVote_k.2 k (by omega)
theorem aVt_2 {bit k : Nat} (hk : k < 8) : (aVt n e i α bit).1.2 k = α.2 k := by
  unfold aVt
  split
  · exact aCv_2 hk
  · rfl
theorem iG_c {α' : sA} (h1 : α'.1 = α.1) (h2 : ∀ k, k < 8 → α'.2 k = α.2 k) (h : iG α) : iG α' := by
  unfold iG
  rw [h1, h2 0 (by decide), h2 3 (by decide)]
  exact h
theorem run_turn (hn : n < 4) (he : e < 4) (hi : i < 4) (h : oE β) (hy : oY β) (hp : oP β) (hin : α.1 0 = true) (hdn : α.1 1 = false) (ok : aOk α) (hG : iG α) (hgf : gf < 2) : ∃ k gf', k ≤ 6 ∧ gf' < 2 ∧ rTo n e i t k (β, α, gf) (aTurn n e i α).2 (β, (aTurn n e i α).1, gf') ∧ oG (aTurn n e i α).1 := by
  obtain ⟨k1, hk1, r1, c1⟩ := run_vE (n := n) (e := e) (i := i) (t := t) (gf := gf) h hy hp hin hdn ok
  have o1 := (aCv_ok hn he hi ok.2.1 ok).1
  have a1 := (aCv_in (me := n) (e := e) (i := i) (α := α) (bit := α.2 1)).1
  have q1 : ∀ k, k < 8 → (aCv n e i α (α.2 1)).1.2 k = α.2 k := fun k hk => aCv_2 hk
  unfold aTurn aSeq
  dsimp only
  generalize aCv n e i α (α.2 1) = y1 at r1 c1 o1 a1 q1 ⊢
  have c1 : aSent y1.1 (y1.1.2 1) = true := by rw [q1 1 (by decide)]; exact c1
  obtain ⟨k2, hk2, r2, c2⟩ := run_v0 (n := n) (e := e) (i := i) (t := t) (gf := gf) h hy hp (by rw [a1]; exact hin) (by rw [a1]; exact hdn) o1 c1
  have o2 := (aVt_ok hn he hi (bit := 0) (by decide) o1).1
  have a2 := (aVt_in (me := n) (e := e) (i := i) (α := y1.1) (bit := 0)).1
  have q2 : ∀ k, k < 8 → (aVt n e i y1.1 0).1.2 k = y1.1.2 k := fun k hk => aVt_2 hk
  generalize aVt n e i y1.1 0 = y2 at r2 c2 o2 a2 q2 ⊢
  obtain ⟨k3, hk3, r3, c3⟩ := run_v1 (n := n) (e := e) (i := i) (t := t) (gf := gf) h hy hp (by rw [a2, a1]; exact hin) (by rw [a2, a1]; exact hdn) o2 c2.1 c2.2
  have o3 := (aVt_ok hn he hi (bit := 1) (by decide) o2).1
  have a3 := (aVt_in (me := n) (e := e) (i := i) (α := y2.1) (bit := 1)).1
  have q3 : ∀ k, k < 8 → (aVt n e i y2.1 1).1.2 k = y2.1.2 k := fun k hk => aVt_2 hk
  generalize aVt n e i y2.1 1 = y3 at r3 c3 o3 a3 q3 ⊢
  obtain ⟨k4, gf', hk4, hgf', r4, c4⟩ := run_good (n := n) (e := e) (i := i) (t := t) h hy hp (by rw [a3, a2, a1]; exact hin) (by rw [a3, a2, a1]; exact hdn) o3 c3 (iG_c a3 q3 (iG_c a2 q2 (iG_c a1 q1 hG))) hgf
  have r := r4.app _ _ _ (r3.app _ _ _ (r2.app _ _ _ r1))
  refine ⟨k1 + k2 + k3 + k4, gf', by omega, hgf', ?_, c4⟩
  rw [List.append_assoc]
  exact r
end RT6
