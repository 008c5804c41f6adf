/-! BOTH SIDES: FURTHER -/
section ST2
variable {n : Nat} {t : Int32} {ν : sN} {σ : sL} {lg : List sPo}
theorem nGw_tr : ∀ (f e nx en : Nat) (ν : sN), (nGw n t f e nx en ν).1.2.1 = ν.2.1 := by
  intro f
  induction f with
  | zero => intro e nx en ν; rfl
  | succ f ih =>
    intro e nx en ν
    have hk := (nLk_keep (n := n) (t := t) (e := e) 5 nx ν).2.1
    rw [nGw]
    split
    · split
      · split
        · exact hk
        · dsimp only; rw [ih]; exact hk
      · dsimp only; rw [ih]; exact hk
    · rfl
theorem nTk_tr {m : sMg} : (nTk n t ν m).1.2.1 = ν.2.1 := by
  have hk := (nKp_keep n ν m).2.1
  unfold nTk
  split
  · rfl
  · split
    · rw [nGw_tr]; exact hk
    · exact hk
theorem nSt_tr : (nSt n t ν).1.2.1 = ν.2.1 := by
  unfold nSt
  split
  · rfl
  · dsimp only; rw [nGw_tr]; rfl
theorem nPot_le (hn : n < 4) : nPot (σ.2.1 n) ≤ lPot σ := by
  unfold lPot
  show _ ≤ 0 + nPot (σ.2.1 0) + nPot (σ.2.1 1) + nPot (σ.2.1 2) + nPot (σ.2.1 3) + (300 - σ.1)
  rcases lt4 hn with rfl | rfl | rfl | rfl <;> omega
theorem gAt_0 {j : Nat} (h : ∀ k p, k < j → lg[k]? = some p → pW n p = false) : gAt lg n j = 0 := by
  unfold gAt
  rw [List.length_eq_zero_iff, List.filter_eq_nil_iff]
  intro p hp
  obtain ⟨k, hk⟩ := List.mem_iff_getElem?.mp hp
  rw [List.getElem?_take] at hk
  split at hk
  · rename_i z
    rw [h k p z hk]; decide
  · cases hk
theorem gQ_nil (h : ∀ k p, k < lg.length → lg[k]? = some p → pW n p = false) : gQ lg n = [] := by
  have := gAt_0 h
  unfold gAt at this
  rw [List.take_length] at this
  unfold gQ
  rw [List.length_eq_zero_iff.mp this]
  rfl
theorem gAt_len : gAt lg n lg.length = (gQ lg n).length := by
  unfold gAt gQ
  rw [List.take_length, List.length_map]
theorem gAt_s {j : Nat} {p : sPo} (hj : lg[j]? = some p) : gAt lg n (j + 1) = gAt lg n j + (if pW n p = true then 1 else 0) := by
  unfold gAt
  rw [List.take_succ, hj, List.filter_append, List.length_append]
  cases z : pW n p
  · rw [if_neg (by decide)]; simp [z]
  · rw [if_pos rfl]; simp [z]
theorem set_j {j : Nat} {p q : sPo} {ms : List sPo} (hj : lg[j]? = some p) : (lg.set j q ++ ms)[j]? = some q := by
  have h1 := (List.getElem?_eq_some_iff.mp hj).1
  rw [List.getElem?_append_left (by rw [List.length_set]; exact h1), List.getElem?_set_self h1]
theorem set_o {j k : Nat} {p q r : sPo} {ms : List sPo} (hj : lg[j]? = some p) (hk : k < j) (h : (lg.set j q ++ ms)[k]? = some r) : lg[k]? = some r := by
  have h1 := (List.getElem?_eq_some_iff.mp hj).1
  rw [List.getElem?_append_left (by rw [List.length_set]; omega), List.getElem?_set_ne (by omega)] at h
  exact h
theorem pW_set {p : sPo} (hp : p.2 < 32) (hn : n < 4) (hw : pW n p = true) : pW n (p.1, p.2 + 2 ^ n) = false := by
  unfold pW
  dsimp only
  rw [decide_eq_false]
  rw [(or_bit _ hp n hn (of_decide_eq_true hw)).2.2.2]
  decide
theorem lRn_0 (h : σ.2.2 n = []) (k : Nat) : lRn t n k σ = (σ, 0) := by
  cases k with
  | zero => rfl
  | succ k => rw [lRn, h]; rfl
theorem lRn_s {m : sMg} {k : Nat} (h : (σ.2.2 n)[0]? = some m) (hk : 0 < k) : lRn t n k σ = ((lRn t n (k - 1) (lTk t n 0 m σ)).1, (lRn t n (k - 1) (lTk t n 0 m σ)).2 + 1) := by
  obtain ⟨k', rfl⟩ : ∃ k', k = k' + 1 := ⟨k - 1, by omega⟩
  rw [lRn, h]
  rfl
end ST2
/-- nothing has happened, in another's words -/
theorem gRL.same {σ : sL} {s s' : sS} {lg : List sPo} {M : Nat → Nat → Int32} {n : Nat} {q : Nat → List sMg} (h : gRL σ s lg M) (hn : n < 4) (hq : ∀ k, k < 4 → q k = σ.2.2 k) (h1 : s'.1 = s.1) (h2 : s'.2.1 = s.2.1) : gRL (lNd σ n (σ.2.1 n) q) s' lg M := by
  obtain ⟨g, hg⟩ := h.2.1 n hn
  exact h.node hn h.1 hg (nFr.rf _ _) (h.2.2.1 n hn) (fun k hk => (hq k hk).trans (h.2.2.2.1 k hk)) rfl h1 h2 (Nat.le_refl _) h.2.2.2.2.2.2.2.2
theorem spk_bits : ∀ n, n < 4 → ((15 ^^^ 2 ^ n) ||| 16 < 32 ∧ ((15 ^^^ 2 ^ n) ||| 16) / 16 % 2 = 1) := by decide +kernel
theorem spk_bit : ∀ n, n < 4 → ∀ k, k < 4 → decide (((15 ^^^ 2 ^ n) ||| 16) / 2 ^ k % 2 = 0) = decide (k = n) := by decide +kernel
theorem gQ_spk {lg : List sPo} {n k : Nat} {m : sMg} (hn : n < 4) (hk : k < 4) : gQ (lg ++ [(m, (15 ^^^ 2 ^ n) ||| 16)]) k = gQ lg k ++ (if k = n then [m] else []) := by
  rw [gQ_app]
  congr 1
  unfold gQ
  have e1 : pW k (m, (15 ^^^ 2 ^ n) ||| 16) = decide (k = n) := spk_bit n hn k hk
  rw [List.filter_cons, e1]
  by_cases z : k = n
  · rw [if_pos z, decide_eq_true z, if_pos rfl, List.filter_nil, List.map_cons, List.map_nil]
    congr 1
    unfold pV
    rw [if_pos (spk_bits n hn).2]
  · rw [if_neg z, decide_eq_false z, if_neg (by decide), List.filter_nil]
    rfl
