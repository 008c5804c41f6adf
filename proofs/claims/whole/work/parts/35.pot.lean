/-! HOW MANY POSTS ARE LEFT -/
def sumN (f : Nat → Nat) : Nat → Nat
  | 0 => 0
  | n + 1 => sumN f n + f n
theorem sumN_c {f g : Nat → Nat} : ∀ {n : Nat}, (∀ k, k < n → f k = g k) → sumN f n = sumN g n := by
  intro n
  induction n with
  | zero => intro _; rfl
  | succ n ih =>
    intro h
    show sumN f n + f n = sumN g n + g n
    rw [ih (fun k hk => h k (by omega)), h n (by omega)]
theorem sumN_1 {f g : Nat → Nat} {k0 : Nat} : ∀ {n : Nat}, k0 < n → (∀ k, k < n → k ≠ k0 → f k = g k) → sumN g n + f k0 = sumN f n + g k0 := by
  intro n
  induction n with
  | zero => intro h; omega
  | succ n ih =>
    intro h1 h2
    show sumN g n + g n + f k0 = sumN f n + f n + g k0
    by_cases z : k0 = n
    · subst z
      rw [sumN_c (f := f) (g := g) (fun k hk => h2 k (by omega) (by omega))]
      omega
    · have := ih (by omega) (fun k hk hk2 => h2 k (by omega) hk2)
      have := h2 n (by omega) (fun z2 => z z2.symm)
      omega
def uN (b : Bool) : Nat := cond b 0 1
theorem uN_t : uN true = 0 := rfl
theorem uN_f {b : Bool} (h : ¬ b = true) : uN b = 1 := by cases b; rfl; exact absurd rfl h
def rPot (α : sA) (r : Nat) : Nat := (2 - (α.2 (8 + r) % 2 + α.2 (8 + r) / 2 % 2)) + uN (α.1 (8 + r))
def aPot (α : sA) : Nat := sumN (rPot α) 6
def bPot (β : sB) : Nat := uN (β.1 1) + uN (β.1 2)
def nPot (ν : sN) : Nat := sumN (fun k => bPot (ν.2.2.2.2.1 k) + aPot (ν.2.2.2.2.2 k)) 16 + (4 - ν.1)
theorem aPot_c {α α' : sA} (h1 : ∀ r, r < 6 → α'.1 (8 + r) = α.1 (8 + r)) (h2 : ∀ r, r < 6 → α'.2 (8 + r) = α.2 (8 + r)) : aPot α' = aPot α := sumN_c (fun r hr => by unfold rPot; rw [h1 r hr, h2 r hr])
theorem vt_pot : ∀ v, v < 4 → ∀ b, b < 2 → ¬ v / 2 ^ b % 2 = 1 → 1 + (2 - ((v + 2 ^ b) % 2 + (v + 2 ^ b) / 2 % 2)) = 2 - (v % 2 + v / 2 % 2) := by decide
section PT
variable {me e i : Nat} {t : Int32} {α : sA} {bit : Nat}
theorem aCv_pot (hb : bit < 2) (ok : aOk α) : (aCv me e i α bit).2.length + aPot (aCv me e i α bit).1 ≤ aPot α := by
  unfold aCv
  split
  · show 0 + aPot α ≤ aPot α
    omega
  · rename_i z
    have z' : ¬ α.2 (8 + α.2 0) / 2 ^ bit % 2 = 1 := fun y => z (by unfold aSent; exact decide_eq_true y)
    have h1 := sumN_1 (f := rPot α) (g := rPot (aVote α bit)) (k0 := α.2 0) (n := 6) ok.1 (fun k hk hk2 => by
      unfold rPot aVote
      dsimp only
      rw [va_up_ne _ _ (by omega)])
    have h2 := vt_pot _ (ok.2.2.2.2.1 _ ok.1) bit hb z'
    have h3 : rPot (aVote α bit) (α.2 0) + 1 = rPot α (α.2 0) := by
      unfold rPot aVote
      dsimp only
      rw [va_up_self]
      omega
    show 1 + sumN (rPot (aVote α bit)) 6 ≤ sumN (rPot α) 6
    omega
theorem aVt_pot (hb : bit < 2) (ok : aOk α) : (aVt me e i α bit).2.length + aPot (aVt me e i α bit).1 ≤ aPot α := by
  unfold aVt
  split
  · exact aCv_pot hb ok
  · show 0 + aPot α ≤ aPot α
    omega
theorem aSetG_pot : aPot (aSetG α bit) = aPot α := aPot_c (fun r hr => rfl) (fun r hr => by unfold aSetG; dsimp only; rw [va_up_ne _ _ (by omega)])
theorem aCg_pot (ok : aOk α) : (aCg me e i α bit).2.length + aPot (aCg me e i α bit).1 ≤ aPot α := by
  unfold aCg
  split
  · show 0 + aPot (aSetG α bit) ≤ aPot α
    rw [aSetG_pot]; omega
  · rename_i z
    have e0 : ∀ r, r < 6 → (aSetG α bit).2 (8 + r) = α.2 (8 + r) := fun r hr => by unfold aSetG; dsimp only; rw [va_up_ne _ _ (by omega)]
    have h1 := sumN_1 (f := rPot α) (g := rPot (va_up α.1 (8 + α.2 0) true, (aSetG α bit).2)) (k0 := α.2 0) (n := 6) ok.1 (fun k hk hk2 => by
      unfold rPot
      dsimp only
      rw [va_up_ne _ _ (by omega), e0 k hk])
    have h3 : rPot (va_up α.1 (8 + α.2 0) true, (aSetG α bit).2) (α.2 0) + 1 = rPot α (α.2 0) := by
      unfold rPot
      dsimp only
      rw [va_up_self, e0 _ ok.1, uN_t, uN_f z]
    show 1 + sumN (rPot (va_up α.1 (8 + α.2 0) true, (aSetG α bit).2)) 6 ≤ sumN (rPot α) 6
    omega
theorem aGt_pot (ok : aOk α) : (aGt me e i α bit).2.length + aPot (aGt me e i α bit).1 ≤ aPot α := by
  unfold aGt
  split
  · exact aCg_pot ok
  · show 0 + aPot α ≤ aPot α
    omega
theorem aTurn_pot (hm : me < 4) (he : e < 4) (hi : i < 4) (ok : aOk α) : (aTurn me e i α).2.length + aPot (aTurn me e i α).1 ≤ aPot α := by
  unfold aTurn aSeq
  dsimp only
  have h1 := aCv_ok hm he hi ok.2.1 ok
  have h2 := aVt_ok hm he hi (bit := 0) (by decide) h1.1
  have h3 := aVt_ok hm he hi (bit := 1) (by decide) h2.1
  have h4 := aGt_ok hm he hi (bit := 0) (by decide) h3.1
  have p1 := aCv_pot (me := me) (e := e) (i := i) ok.2.1 ok
  have p2 := aVt_pot (me := me) (e := e) (i := i) (bit := 0) (by decide) h1.1
  have p3 := aVt_pot (me := me) (e := e) (i := i) (bit := 1) (by decide) h2.1
  have p4 := aGt_pot (me := me) (e := e) (i := i) (bit := 0) h3.1
  have p5 := aGt_pot (me := me) (e := e) (i := i) (bit := 1) h4.1
  rw [List.length_append, List.length_append, List.length_append, List.length_append]
  omega
theorem aFin_pot : aPot (aFin t e i α) = aPot α := by
  unfold aFin
  split
  · exact aPot_c (fun r hr => by dsimp only; rw [va_up_ne _ _ (by omega)]) (fun r hr => by dsimp only; rw [va_up_ne _ _ (by omega), va_up_ne _ _ (by omega)])
  · exact aPot_c (fun r hr => rfl) (fun r hr => by dsimp only; rw [va_up_ne _ _ (by omega), va_up_ne _ _ (by omega), va_up_ne _ _ (by omega), va_up_ne _ _ (by omega), va_up_ne _ _ (by omega)])
theorem aGo_pot (hm : me < 4) (he : e < 4) (hi : i < 4) : ∀ (f : Nat) (α : sA), aOk α → (aGo me e i t f α).2.length + aPot (aGo me e i t f α).1 ≤ aPot α := by
  intro f
  induction f with
  | zero =>
    intro α ok
    show 0 + aPot α ≤ aPot α
    omega
  | succ f ih =>
    intro α ok
    have h1 := aTurn_ok hm he hi ok
    have p1 := aTurn_pot hm he hi ok
    rw [aGo]
    split
    · rename_i z
      rw [Bool.and_eq_true] at z
      split
      · exact p1
      · have hin : (aTurn me e i α).1.1 0 = true := by rw [(aTurn_in (me := me) (e := e) (i := i) (α := α)).1]; exact z.1
        have h3 := ih _ (aFin_ok (t := t) (e := e) (i := i) h1.1 hin)
        rw [aFin_pot] at h3
        unfold aSeq
        dsimp only
        rw [List.length_append]
        omega
    · show 0 + aPot α ≤ aPot α
      omega
theorem aIn_pot : aPot (aIn α bit) = aPot α := by
  unfold aIn
  split
  · rfl
  · exact aPot_c (fun r hr => by dsimp only; rw [va_up_ne _ _ (by omega)]) (fun r hr => by dsimp only; rw [va_up_ne _ _ (by omega)])
theorem aKeep_pot {s kd r : Nat} : aPot (aKeep α s kd r bit) = aPot α := by
  unfold aKeep
  split
  · exact aPot_c (fun r hr => by dsimp only; rw [va_up_ne _ _ (by omega)]) (fun r hr => rfl)
  · split
    · exact aPot_c (fun r hr => rfl) (fun r hr => by dsimp only; rw [va_up_ne _ _ (by omega)])
    · rfl
end PT
theorem bEc_pot {n e i : Nat} {β : sB} : (bEc n e i β).2.length + bPot (bEc n e i β).1 ≤ bPot β := by
  unfold bEc
  split
  · rename_i z
    rw [Bool.and_eq_true, Bool.not_eq_true'] at z
    unfold bPot
    dsimp only
    rw [va_up_self, va_up_ne _ _ (by decide), z.2, List.length_singleton]
    show 1 + (0 + _) ≤ 1 + _
    omega
  · show 0 + bPot β ≤ bPot β
    omega
theorem bRy_pot {n e i : Nat} {β : sB} : (bRy n e i β).2.length + bPot (bRy n e i β).1 ≤ bPot β := by
  unfold bRy
  by_cases z : β.1 2 = true
  · rw [if_pos z]
    show 0 + bPot β ≤ bPot β
    omega
  · rw [if_neg z]
    split
    · unfold bPot
      dsimp only
      rw [va_up_self, va_up_ne _ _ (by decide), uN_f z, uN_t, List.length_singleton]
      omega
    · show 0 + bPot β ≤ bPot β
      omega
theorem bTk_pot {β : sB} : bPot (bTk β) = bPot β := by
  unfold bTk
  split <;> rfl
theorem bKeep_pot {n i : Nat} {β : sB} {m : sMg} : bPot (bKeep n i β m) = bPot β := by
  unfold bKeep bKv bKe bKr
  split
  · split
    · unfold bPot; dsimp only; rw [va_up_ne _ _ (by decide), va_up_ne _ _ (by decide)]
    · rfl
  · split
    · split
      · unfold bPot; dsimp only; rw [va_up_ne _ _ (by omega), va_up_ne _ _ (by omega)]
      · rfl
    · split
      · unfold bPot; dsimp only; rw [va_up_ne _ _ (by omega), va_up_ne _ _ (by omega)]
      · rfl
theorem iM_pot {n e i : Nat} {t : Int32} {β : sB} {α : sA} (hn : n < 4) (he : e < 4) (hi : i < 4) (ok : aOk α) : (iM n e i t β α).length + (bPot (iB n e i β) + aPot (iA n e i t β α).1) ≤ bPot β + aPot α := by
  have p1 := bEc_pot (n := n) (e := e) (i := i) (β := β)
  have p2 := bRy_pot (n := n) (e := e) (i := i) (β := (bEc n e i β).1)
  have p3 := aGo_pot (t := t) hn he hi 6 (if (iB n e i β).2 2 = -1 then α else aIn α 1) (by split; exact ok; exact aIn_ok (by decide) ok)
  have p4 : aPot (if (iB n e i β).2 2 = -1 then α else aIn α 1) = aPot α := by split; rfl; exact aIn_pot
  unfold iM iA
  rw [show bPot (iB n e i β) = bPot (bRy n e i (bEc n e i β).1).1 from bTk_pot, List.length_append, List.length_append]
  omega
theorem nUp_pot {ν : sN} {k : Nat} {β : sB} {α : sA} (hk : k < 16) : nPot (nUp ν k β α) + (bPot (ν.2.2.2.2.1 k) + aPot (ν.2.2.2.2.2 k)) = nPot ν + (bPot β + aPot α) := by
  have h1 := sumN_1 (f := fun k => bPot (ν.2.2.2.2.1 k) + aPot (ν.2.2.2.2.2 k)) (g := fun j => bPot ((nUp ν k β α).2.2.2.2.1 j) + aPot ((nUp ν k β α).2.2.2.2.2 j)) (k0 := k) (n := 16) hk (fun j hj hj2 => by
    show _ = bPot (va_up ν.2.2.2.2.1 k β j) + aPot (va_up ν.2.2.2.2.2 k α j)
    rw [va_up_ne _ _ hj2, va_up_ne _ _ hj2])
  have e1 : bPot ((nUp ν k β α).2.2.2.2.1 k) + aPot ((nUp ν k β α).2.2.2.2.2 k) = bPot β + aPot α := by
    show bPot (va_up ν.2.2.2.2.1 k β k) + aPot (va_up ν.2.2.2.2.2 k α k) = _
    rw [va_up_self, va_up_self]
  rw [e1] at h1
  unfold nPot
  rw [show (nUp ν k β α).1 = ν.1 from rfl]
  omega
section PT2
variable {n e i : Nat} {t : Int32} {ν : sN}
theorem nOne_pot (hn : n < 4) (he : e < 4) (hi : i < 4) (h : ∀ k, k < 16 → aOk (ν.2.2.2.2.2 k)) : (nOne n t e i ν).2.length + nPot (nOne n t e i ν).1 ≤ nPot ν := by
  have p1 := iM_pot (t := t) (β := nB' ν e i) hn he hi (h (4 * e + i) (by omega))
  have p2 := nUp_pot (ν := ν) (k := 4 * e + i) (β := iB n e i (nB' ν e i)) (α := (iA n e i t (nB' ν e i) (nA' ν e i)).1) (by omega)
  have p1' : (iM n e i t (nB' ν e i) (nA' ν e i)).length + (bPot (iB n e i (nB' ν e i)) + aPot (iA n e i t (nB' ν e i) (nA' ν e i)).1) ≤ bPot (ν.2.2.2.2.1 (4 * e + i)) + aPot (ν.2.2.2.2.2 (4 * e + i)) := p1
  unfold nOne
  dsimp only
  omega
theorem nGive_pot {j : Nat} (he : e < 4) (hj : j < 4) : nPot (nGive ν e j) = nPot ν := by
  have p2 := nUp_pot (ν := ν) (k := 4 * e + j) (β := nB' ν e j) (α := aIn (nA' ν e j) 0) (by omega)
  rw [aIn_pot] at p2
  unfold nGive
  unfold nB' nA' at p2 ⊢
  omega
theorem nLk_pot (hn : n < 4) (he : e < 4) : ∀ (f i : Nat) (ν : sN), i < 4 → (∀ k, k < 16 → aOk (ν.2.2.2.2.2 k)) → (nLk n t e f i ν).2.length + nPot (nLk n t e f i ν).1 ≤ nPot ν := by
  intro f
  induction f with
  | zero =>
    intro i ν _ h
    show 0 + nPot ν ≤ nPot ν
    omega
  | succ f ih =>
    intro i ν hi h
    have h1 := iM_ok (t := t) hn he hi (β := nB' ν e i) (h (4 * e + i) (by omega))
    have h2 : ∀ k, k < 16 → aOk ((nOne n t e i ν).1.2.2.2.2.2 k) := nUp_ok h h1.1
    have p1 := nOne_pot (t := t) hn he hi h
    rw [nLk]
    split
    · exact p1
    · rename_i j hj
      have hj4 := nRf_lt hj
      have h3 := ih j (nGive (nOne n t e i ν).1 e j) hj4 (nUp_ok h2 (aIn_ok (by decide) (h2 _ (by omega))))
      rw [nGive_pot he hj4] at h3
      dsimp only
      rw [List.length_append]
      omega
theorem nCm_pot (h1 : ν.1 = e + 1) : nPot (nCm ν e) + (if e < 3 then 1 else 0) ≤ nPot ν := by
  unfold nPot
  rw [show (nCm ν e).1 = e + 2 from by show ν.1 + 1 = e + 2; rw [h1], h1, show (nCm ν e).2.2.2.2 = ν.2.2.2.2 from rfl]
  split <;> omega
theorem nGw_pot (hn : n < 4) : ∀ (f e nx en : Nat) (ν : sN), nx < 5 → en < 4 → ν.1 = e + 1 → e < 4 → (∀ k, k < 16 → aOk (ν.2.2.2.2.2 k)) → (nGw n t f e nx en ν).2.length + nPot (nGw n t f e nx en ν).1 ≤ nPot ν := by
  intro f
  induction f with
  | zero =>
    intro e nx en ν _ _ h1 he h3
    show 0 + nPot ν ≤ nPot ν
    omega
  | succ f ih =>
    intro e nx en ν hnx hen h1 he h3
    rw [nGw]
    split
    · rename_i z
      have k1 := nLk_ok (t := t) hn he 5 nx ν (by omega) h3
      have k2 := nLk_keep (n := n) (t := t) (e := e) 5 nx ν
      have p1 := nLk_pot (t := t) hn he 5 nx ν (by omega) h3
      generalize nLk n t e 5 nx ν = y at k1 k2 p1
      have p2 := nCm_pot (ν := y.1) (e := e) (k2.1.trans h1)
      split
      · split
        · dsimp only
          omega
        · rename_i z3
          have k4 := ih (e + 1) 0 3 (nCm y.1 e) (by omega) (by omega) (by show y.1.1 + 1 = e + 1 + 1; rw [k2.1, h1]) (by omega) k1.1
          rw [if_pos (by omega)] at p2
          dsimp only
          rw [List.length_append, List.length_append, List.length_singleton]
          omega
      · have k4 := ih e (nx + 1) en y.1 (by omega) hen (k2.1.trans h1) he k1.1
        dsimp only
        rw [List.length_append]
        omega
    · show 0 + nPot ν ≤ nPot ν
      omega
theorem nKp_pot {m : sMg} (hm : mOk m) : nPot (nKp n ν m) = nPot ν := by
  obtain ⟨o1, o2, o3, o4, o5⟩ := hm
  unfold nKp
  split
  · have p2 := nUp_pot (ν := ν) (k := 4 * m.2.1 + m.2.2.1) (β := nB' ν m.2.1 m.2.2.1) (α := aKeep (nA' ν m.2.1 m.2.2.1) m.1 m.2.2.2.1 (cUn m.2.2.2.2.1) (cUn m.2.2.2.2.2)) (by omega)
    rw [aKeep_pot] at p2
    unfold nB' nA' at p2 ⊢
    omega
  · have p2 := nUp_pot (ν := ν) (k := 4 * m.2.1 + m.2.2.1) (β := bKeep n m.2.2.1 (nB' ν m.2.1 m.2.2.1) m) (α := nA' ν m.2.1 m.2.2.1) (by omega)
    rw [bKeep_pot] at p2
    unfold nB' nA' at p2 ⊢
    omega
theorem nTk_pot (hn : n < 4) {m : sMg} (hm : mOk m) (h : nGood ν) : (nTk n t ν m).2.length + nPot (nTk n t ν m).1 ≤ nPot ν := by
  obtain ⟨h1, h2, h3⟩ := h
  have hm0 := hm
  obtain ⟨o1, o2, o3, o4, o5⟩ := hm
  obtain ⟨c1, c2, c3, c4⟩ := nKp_keep n ν m
  have h4 : ∀ k, k < 16 → aOk ((nKp n ν m).2.2.2.2.2 k) := by
    unfold nKp
    split
    · rename_i z
      exact nUp_ok h3 (aKeep_ok (o5 z).2 (o5 z).1 o1 (h3 _ (by omega)))
    · exact nUp_ok h3 (h3 _ (by omega))
  have p0 := nKp_pot (n := n) (ν := ν) hm0
  unfold nTk
  split
  · show 0 + nPot ν ≤ nPot ν
    omega
  · split
    · rename_i z
      have := nGw_pot (t := t) hn 20 m.2.1 m.2.2.1 m.2.2.1 (nKp n ν m) (by omega) o3 (c1.trans z) o2 h4
      omega
    · show 0 + nPot (nKp n ν m) ≤ nPot ν
      omega
theorem nSt_pot (hn : n < 4) (h : nGood ν) : (nSt n t ν).2.length + nPot (nSt n t ν).1 ≤ nPot ν := by
  unfold nSt
  split
  · show 0 + nPot ν ≤ nPot ν
    omega
  · rename_i z
    have z0 : ν.1 = 0 := by
      by_cases z0 : ν.1 = 0
      · exact z0
      · exact absurd (Or.inl z0) z
    have := nGw_pot (t := t) hn 20 0 0 3 (nBg ν) (by omega) (by omega) rfl (by omega) h.2.2
    have e1 : nPot (nBg ν) + 1 = nPot ν := by
      unfold nPot
      rw [show (nBg ν).1 = 1 from rfl, show (nBg ν).2 = ν.2 from rfl, z0]
    dsimp only
    rw [List.length_append, List.length_singleton]
    omega
end PT2
