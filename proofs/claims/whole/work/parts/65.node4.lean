/-! THE REFERENCE: A NODE -/
def nD (j : Nat) : Nat := [1700, 1700, 1700, 1, 1, 12, 1, 40, 16, 16, 16, 64, 64, 64, 64, 64, 384, 384, 16, 16, 96, 96, 4, 4, 4, 4, 4, 4, 4, 4].getD j 1
/-- nothing but the log and the cells of one node has changed -/
def nFr (M M' : Nat → Nat → Int32) (n : Nat) : Prop := ∀ j idx, 3 ≤ j → j < 30 → idx / nD j ≠ n → M' j idx = M j idx
theorem nFr.rf (M : Nat → Nat → Int32) (n : Nat) : nFr M M n := fun _ _ _ _ _ => rfl
theorem nFr.tr {M M' M'' : Nat → Nat → Int32} {n : Nat} (h : nFr M M' n) (h2 : nFr M' M'' n) : nFr M M'' n := fun j idx h3 h4 h5 => (h2 j idx h3 h4 h5).trans (h j idx h3 h4 h5)
theorem nFr.cg {M M' M'' : Nat → Nat → Int32} {n : Nat} (h : nFr M M' n) (e : ∀ j, 3 ≤ j → M'' j = M' j) : nFr M M'' n := fun j idx h3 h4 h5 => by rw [e j h3]; exact h j idx h3 h4 h5
theorem nFr.up {M M' : Nat → Nat → Int32} {n j0 i0 : Nat} {x : Int32} (h : nFr M M' n) (h1 : i0 / nD j0 = n) : nFr M (va_up M' j0 (upd (M' j0) i0 x)) n := by
  intro j idx k1 k2 k3
  by_cases z : j = j0
  · subst z
    rw [va_up_self, upd_ne _ _ (fun e => k3 (by rw [e]; exact h1))]; exact h j idx k1 k2 k3
  · rw [va_up_ne _ _ z]; exact h j idx k1 k2 k3
/-- queue and ledger -/
def qRel (M : Nat → Nat → Int32) (n : Nat) (q l : List Int32) : Prop := M 4 n = nI q.length ∧ (∀ k, k < q.length → M 5 (12 * n + k) = q.getD k 0) ∧ M 6 n = nI l.length ∧ ∀ k, k < l.length → M 7 (40 * n + k) = l.getD k 0
theorem qRel.c {M M' : Nat → Nat → Int32} {n : Nat} {q l : List Int32} (h : qRel M n q l) (e : ∀ j, 4 ≤ j → j < 8 → M' j = M j) : qRel M' n q l := by
  unfold qRel
  rw [e 4 (by decide) (by decide), e 5 (by decide) (by decide), e 6 (by decide) (by decide), e 7 (by decide) (by decide)]
  exact h
def nPs (M : Nat → Nat → Int32) (n : Nat) (ν : sN) : Prop := ∀ k, k < 16 → pRel M (16 * n + k) (ν.2.2.2.2.1 k) (ν.2.2.2.2.2 k)
def nDs (M : Nat → Nat → Int32) (n : Nat) (ν : sN) (g : Nat → Nat) : Prop := ∀ e, ν.1 = e + 1 → e < 4 → ∀ i, i < 4 → dRel M (4 * n + i) (nB' ν e i) (nA' ν e i) (g i)
def nRel (M : Nat → Nat → Int32) (n : Nat) (ν : sN) (g : Nat → Nat) : Prop := M 3 n = iD ν.1 ∧ qRel M n ν.2.2.1 ν.2.2.2.1 ∧ nPs M n ν ∧ nDs M n ν g ∧ ∀ i, g i < 2
/-- an instance of an epoch that is not entered -/
def nFs (β : sB) (α : sA) : Prop := β.2 2 = -1 ∧ α.1 0 = false ∧ α.1 1 = false ∧ α.2 0 = 0 ∧ α.2 1 = 0 ∧ α.2 2 = 0 ∧ α.2 3 = 0
def bOk (β : sB) : Prop := (∀ s, s < 4 → cUn (β.2 (16 + s)) < 256) ∧ (β.2 2 = -1 ∨ cUn (β.2 2) < 65536)
def nInv (ν : sN) : Prop := (∀ k, k < 16 → aOk (ν.2.2.2.2.2 k) ∧ iG (ν.2.2.2.2.2 k) ∧ bOk (ν.2.2.2.2.1 k)) ∧ (∀ k, k < 16 → ν.1 ≤ k / 4 → nFs (ν.2.2.2.2.1 k) (ν.2.2.2.2.2 k)) ∧ ν.2.2.1.length ≤ 12 ∧ nGood ν
theorem mD_nD : ∀ j, 8 ≤ j → j < 22 → nD j = mD j * 16 := by
  intro j h1 h2
  rcases jc h1 h2 with rfl | rfl | rfl | rfl | rfl | rfl | rfl | rfl | rfl | rfl | rfl | rfl | rfl | rfl <;> rfl
theorem nD_4 {j : Nat} (h1 : 22 ≤ j) (h2 : j < 30) : nD j = 4 := by
  rcases dc h1 h2 with rfl | rfl | rfl | rfl | rfl | rfl | rfl | rfl <;> rfl
theorem iFr.N {M M' : Nat → Nat → Int32} {n k i : Nat} (hk : k < 16) (hi : i < 4) (hf : iFr M M' (16 * n + k) (4 * n + i)) : nFr M M' n := by
  intro j idx h1 h2 h3
  refine hf j idx h1 (fun k1 k2 z => h3 ?_) (fun k1 z => h3 ?_)
  · rw [mD_nD j k1 k2, ← Nat.div_div_eq_div_mul, z]; omega
  · rw [nD_4 k1 h2, z]; omega
section NR
variable {M M' : Nat → Nat → Int32} {n e i : Nat} {ν : sN} {g : Nat → Nat} {β : sB} {α : sA} {gf : Nat}
theorem nUp_b {k : Nat} : (nUp ν k β α).2.2.2.2.1 k = β := va_up_self _ _ _
theorem nUp_a {k : Nat} : (nUp ν k β α).2.2.2.2.2 k = α := va_up_self _ _ _
theorem nUp_bo {k j : Nat} (h : j ≠ k) : (nUp ν k β α).2.2.2.2.1 j = ν.2.2.2.2.1 j := va_up_ne _ _ h
theorem nUp_ao {k j : Nat} (h : j ≠ k) : (nUp ν k β α).2.2.2.2.2 j = ν.2.2.2.2.2 j := va_up_ne _ _ h
/-- one instance of the node's epoch has changed -/
theorem nRel.inst (he : e < 4) (hi : i < 4) (hep : ν.1 = e + 1) (h : nRel M n ν g) (hp : pRel M' (16 * n + 4 * e + i) β α) (hd : dRel M' (4 * n + i) β α gf) (hgf : gf < 2) (hf : iFr M M' (16 * n + 4 * e + i) (4 * n + i)) : nRel M' n (nUp ν (4 * e + i) β α) (va_up g i gf) := by
  obtain ⟨h1, h2, h3, h4, h5⟩ := h
  have lo : ∀ j, 3 ≤ j → j < 8 → ∀ idx, M' j idx = M j idx := fun j k1 k2 idx => hf j idx k1 (fun k3 => by omega) (fun k3 => by omega)
  refine ⟨(lo 3 (by decide) (by decide) n).trans h1, h2.c (fun j k1 k2 => funext (lo j (by omega) k2)), fun k hk => ?_, fun e' he' he4 i' hi' => ?_, fun j => ?_⟩
  · by_cases z : k = 4 * e + i
    · subst z
      rw [nUp_b, nUp_a, ← Nat.add_assoc]; exact hp
    · rw [nUp_bo z, nUp_ao z]
      intro j idx k1 k2 k3
      rw [hf j idx (by omega) (fun _ _ => by omega) (fun _ => by omega)]
      exact h3 k hk j idx k1 k2 k3
  · have e1 : e' = e := by have : (nUp ν (4 * e + i) β α).1 = ν.1 := rfl; omega
    subst e1
    unfold nB' nA'
    by_cases z : i' = i
    · subst z
      rw [nUp_b, nUp_a, va_up_self]; exact hd
    · rw [nUp_bo (by omega), nUp_ao (by omega), va_up_ne _ _ z]
      intro j k1 k2
      rw [hf j _ (by omega) (fun _ _ => by omega) (fun _ => by omega)]
      exact h4 e' hep he i' hi' j k1 k2
  · by_cases z : j = i
    · rw [z, va_up_self]; exact hgf
    · rw [va_up_ne _ _ z]; exact h5 j
theorem nGood.up {k : Nat} (h : nGood ν) (ok : aOk α) : nGood (nUp ν k β α) := ⟨h.1, h.2.1, nUp_ok h.2.2 ok⟩
theorem nInv.up {k : Nat} (h : nInv ν) (ok : aOk α) (hG : iG α) (hb : bOk β) (hk : ν.1 ≤ k / 4 → nFs β α) : nInv (nUp ν k β α) := by
  obtain ⟨h1, h2, h3, h4⟩ := h
  refine ⟨fun j hj => ?_, fun j hj hn => ?_, h3, h4.up ok⟩
  · by_cases z : j = k
    · subst z; rw [nUp_b, nUp_a]; exact ⟨ok, hG, hb⟩
    · rw [nUp_bo z, nUp_ao z]; exact h1 j hj
  · by_cases z : j = k
    · subst z; rw [nUp_b, nUp_a]; exact hk hn
    · rw [nUp_bo z, nUp_ao z]; exact h2 j hj hn
theorem iB_ok (h : bOk β) : bOk (iB n e i β) := by
  unfold iB
  have e2 : (bRy n e i (bEc n e i β).1).1.2 = β.2 := by rw [bRy_2, bEc_2]
  have hb : bOk (bRy n e i (bEc n e i β).1).1 := by unfold bOk; rw [e2]; exact h
  generalize (bRy n e i (bEc n e i β).1).1 = β1 at hb ⊢
  unfold bTk
  split
  · rename_i v z
    have hv : v < 65536 := by
      split at z
      · exact bProp_lt hb.1 z
      · cases z
    refine ⟨fun s hs => ?_, Or.inr ?_⟩
    · dsimp only; rw [va_up_ne _ _ (by omega)]; exact hb.1 s hs
    · dsimp only; rw [va_up_self, cUn_nI (by omega)]; exact hv
  · exact hb
theorem nOne_inv {t : Int32} (hn : n < 4) (he : e < 4) (hi : i < 4) (hep : ν.1 = e + 1) (h : nInv ν) (hG : iG (iA n e i t (nB' ν e i) (nA' ν e i)).1) : nInv (nOne n t e i ν).1 := by
  have k := h.1 (4 * e + i) (by omega)
  exact h.up (iM_ok hn he hi k.1).1 hG (iB_ok k.2.2) (fun z => by omega)
theorem nGive_inv {j : Nat} (he : e < 4) (hj : j < 4) (hep : ν.1 = e + 1) (h : nInv ν) : nInv (nGive ν e j) := by
  have k := h.1 (4 * e + j) (by omega)
  exact h.up (aIn_ok (by decide) k.1) (iG_in k.2.1) k.2.2 (fun z => by omega)
theorem nC_len (ν : sN) (e : Nat) : ∀ (l : List Nat) (r : List Int32 × List Int32), (l.foldl (nC1 ν e) r).2.length ≤ r.2.length := by
  intro l
  induction l with
  | nil => intro r; exact Nat.le_refl _
  | cons a l ih =>
    intro r
    refine Nat.le_trans (ih _) ?_
    unfold nC1
    split
    · exact List.length_filter_le _ _
    · exact Nat.le_refl _
theorem nCm_inv (he : e < 4) (hep : ν.1 = e + 1) (h : nInv ν) : nInv (nCm ν e) := by
  obtain ⟨h1, h2, h3, h4⟩ := h
  refine ⟨h1, fun k hk hn => h2 k hk ?_, Nat.le_trans (nC_len ν e _ _) h3, ?_, ?_, h4.2.2⟩
  · have : ν.1 + 1 ≤ k / 4 := hn
    omega
  · show ν.1 + 1 ≤ 5
    omega
  · have e1 : (nCm ν e).1 - 1 = e + 1 := by show ν.1 + 1 - 1 = e + 1; omega
    rw [e1]
    have := h4.2.1
    rw [show ν.1 - 1 = e from by omega] at this
    exact this.cm
theorem nBg_inv (hep : ν.1 = 0) (h : nInv ν) : nInv (nBg ν) := by
  obtain ⟨h1, h2, h3, h4⟩ := h
  refine ⟨h1, fun k hk hn => h2 k hk ?_, h3, ?_, ?_, h4.2.2⟩
  · omega
  · show 1 ≤ 5; decide
  · have := h4.2.1
    rw [hep] at this
    exact this
/-- the rules of an instance, and the log -/
theorem iM_len {t : Int32} (hn : n < 4) (he : e < 4) (hi : i < 4) (h : nInv ν) : (nOne n t e i ν).2.length + nPot (nOne n t e i ν).1 ≤ nPot ν := nOne_pot hn he hi (fun k hk => (h.1 k hk).1)
end NR
