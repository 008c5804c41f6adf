/-! BOTH SIDES: WHAT WAITS -/
theorem gQ_app (a b : List sPo) (n : Nat) : gQ (a ++ b) n = gQ a n ++ gQ b n := by
  unfold gQ
  rw [List.filter_append, List.map_append]
theorem pV_new (m : sMg) (n : Nat) : pV n (m, 0) = vw n m := by
  unfold pV
  rw [if_neg (by show ¬ 0 / 16 % 2 = 1; decide)]
theorem pW_new (m : sMg) (n : Nat) : pW n (m, 0) = true := by
  unfold pW
  rw [decide_eq_true_iff]
  show 0 / 2 ^ n % 2 = 0
  rw [Nat.zero_div]
theorem gQ_new (ms : List sMg) (n : Nat) : gQ (ms.map (fun m => ((m, 0) : sPo))) n = ms.map (vw n) := by
  unfold gQ
  rw [List.filter_eq_self.mpr (fun p hp => ?_), List.map_map]
  · congr 1
    funext m
    exact pV_new m n
  · obtain ⟨m, -, h⟩ := List.mem_map.mp hp
    rw [← h]
    exact pW_new m n
/-- where the message of the log lies among those that wait -/
def gAt (lg : List sPo) (n j : Nat) : Nat := ((lg.take j).filter (pW n)).length
theorem spl {lg : List sPo} {j : Nat} {p : sPo} (hj : lg[j]? = some p) : lg = lg.take j ++ p :: lg.drop (j + 1) := by
  obtain ⟨h1, h2⟩ := List.getElem?_eq_some_iff.mp hj
  rw [← h2, ← List.drop_eq_getElem_cons h1, List.take_append_drop]
theorem spl_set {lg : List sPo} {j : Nat} {p q : sPo} (hj : lg[j]? = some p) : lg.set j q = lg.take j ++ q :: lg.drop (j + 1) := by
  obtain ⟨h1, h2⟩ := List.getElem?_eq_some_iff.mp hj
  rw [List.set_eq_take_append_cons_drop, if_pos h1]
theorem gQ_oth {lg : List sPo} {n n' j : Nat} {p : sPo} (hj : lg[j]? = some p) (hp : p.2 < 32) (hn : n < 4) (hn' : n' < 4) (hw : pW n p = true) (hne : n' ≠ n) : gQ (lg.set j (p.1, p.2 + 2 ^ n)) n' = gQ lg n' := by
  have hb := of_decide_eq_true hw
  have e1 : pW n' (p.1, p.2 + 2 ^ n) = pW n' p := by
    unfold pW
    dsimp only
    rw [or_oth hp hn hn' hb hne]
  have e2 : pV n' (p.1, p.2 + 2 ^ n) = pV n' p := by
    unfold pV
    dsimp only
    rw [(or_bit _ hp n hn hb).2.2.1]
  rw [spl_set hj]
  conv => rhs; rw [spl hj]
  unfold gQ
  rw [List.filter_append, List.filter_append, List.filter_cons, List.filter_cons, e1]
  split
  · rw [List.map_append, List.map_append, List.map_cons, List.map_cons, e2]
  · rfl
theorem gQ_own {lg : List sPo} {n j : Nat} {p : sPo} (hj : lg[j]? = some p) (hp : p.2 < 32) (hn : n < 4) (hw : pW n p = true) : gQ (lg.set j (p.1, p.2 + 2 ^ n)) n = (gQ lg n).eraseIdx (gAt lg n j) ∧ (gQ lg n)[gAt lg n j]? = some (pV n p) := by
  have hb := of_decide_eq_true hw
  have e1 : pW n (p.1, p.2 + 2 ^ n) = false := by
    unfold pW
    dsimp only
    rw [decide_eq_false]
    rw [(or_bit _ hp n hn hb).2.2.2]
    decide
  have hl : gQ lg n = ((lg.take j).filter (pW n)).map (pV n) ++ pV n p :: ((lg.drop (j + 1)).filter (pW n)).map (pV n) := by
    conv => lhs; rw [spl hj]
    unfold gQ
    rw [List.filter_append, List.filter_cons, hw, if_pos rfl, List.map_append, List.map_cons]
  have hlen : gAt lg n j = (((lg.take j).filter (pW n)).map (pV n)).length := by
    rw [List.length_map]; rfl
  rw [hl, hlen]
  refine ⟨?_, ?_⟩
  · rw [List.eraseIdx_append_of_length_le (Nat.le_refl _), Nat.sub_self, List.eraseIdx_cons_zero, spl_set hj]
    unfold gQ
    rw [List.filter_append, List.filter_cons, e1, if_neg (by decide), List.map_append]
  · rw [List.getElem?_append_right (Nat.le_refl _), Nat.sub_self]; rfl
/-! BOTH SIDES: THE WHOLE STATE -/
def gRL (σ : sL) (s : sS) (lg : List sPo) (M : Nat → Nat → Int32) : Prop :=
  gRel lg M ∧ (∀ n, n < 4 → ∃ g, nRel M n (σ.2.1 n) g) ∧ (∀ n, n < 4 → nInv (σ.2.1 n)) ∧ (∀ n, n < 4 → σ.2.2 n = gQ lg n) ∧ (∀ n, n < 4 → (σ.2.1 n).2.1 = (decide (n = 3) && s.1)) ∧ s.2.1 = nI σ.1 ∧ σ.1 ≤ 300 ∧ lg.length + lPot σ ≤ 1596 ∧ ∀ p, p ∈ lg → p.2 / 16 % 2 = 1 ∨ mB p.1
theorem nRel.oth {M M' : Nat → Nat → Int32} {n k : Nat} {ν : sN} {g : Nat → Nat} (h : nRel M k ν g) (hI : nInv ν) (hk : k < 4) (hne : k ≠ n) (hf : nFr M M' n) : nRel M' k ν g := by
  have b1 := hI.2.2.1
  have b2 := hI.2.2.2.2.1.2
  have b3 := hI.2.2.2.1
  obtain ⟨h1, ⟨q1, q2, q3, q4⟩, h3, h4, h5⟩ := h
  refine ⟨?_, ⟨?_, fun j hj => ?_, ?_, fun j hj => ?_⟩, fun k' hk' j idx a b c => ?_, fun e he he4 i hi j a b => ?_, h5⟩
  · rw [hf 3 k (by decide) (by decide) (by show k / 1 ≠ n; omega)]; exact h1
  · rw [hf 4 k (by decide) (by decide) (by show k / 1 ≠ n; omega)]; exact q1
  · rw [hf 5 _ (by decide) (by decide) (by show (12 * k + j) / 12 ≠ n; omega)]; exact q2 j hj
  · rw [hf 6 k (by decide) (by decide) (by show k / 1 ≠ n; omega)]; exact q3
  · rw [hf 7 _ (by decide) (by decide) (by show (40 * k + j) / 40 ≠ n; omega)]; exact q4 j hj
  · rw [hf j idx (by omega) (by omega) (by rw [mD_nD j a b, ← Nat.div_div_eq_div_mul, c]; omega)]; exact h3 k' hk' j idx a b c
  · rw [hf j _ (by omega) b (by rw [nD_4 a b]; omega)]; exact h4 e he he4 i hi j a b
/-- one node has changed, and the log -/
theorem gRL.node {σ : sL} {s s' : sS} {lg lg' : List sPo} {M M' : Nat → Nat → Int32} {n : Nat} {ν : sN} {g : Nat → Nat} {q : Nat → List sMg} (h : gRL σ s lg M) (hn : n < 4) (hg : gRel lg' M') (hN : nRel M' n ν g) (hF : nFr M M' n) (hI : nInv ν) (hq : ∀ k, k < 4 → q k = gQ lg' k) (hT : ν.2.1 = (σ.2.1 n).2.1) (h1 : s'.1 = s.1) (h2 : s'.2.1 = s.2.1) (hl : lg'.length + nPot ν ≤ lg.length + nPot (σ.2.1 n)) (hB : ∀ p, p ∈ lg' → p.2 / 16 % 2 = 1 ∨ mB p.1) : gRL (lNd σ n ν q) s' lg' M' := by
  obtain ⟨a1, a2, a3, a4, a5, a6, a7, a8, a9⟩ := h
  have hp := lNd_pot (σ := σ) (ν := ν) (q := q) hn
  refine ⟨hg, fun k hk => ?_, fun k hk => ?_, fun k hk => hq k hk, fun k hk => ?_, by rw [h2]; exact a6, a7, by omega, hB⟩
  · show ∃ g, nRel M' k (va_up σ.2.1 n ν k) g
    by_cases z : k = n
    · rw [z, va_up_self]; exact ⟨g, hN⟩
    · rw [va_up_ne _ _ z]
      obtain ⟨g', hg'⟩ := a2 k hk
      exact ⟨g', hg'.oth (a3 k hk) hk z hF⟩
  · show nInv (va_up σ.2.1 n ν k)
    by_cases z : k = n
    · rw [z, va_up_self]; exact hI
    · rw [va_up_ne _ _ z]; exact a3 k hk
  · show (va_up σ.2.1 n ν k).2.1 = _
    by_cases z : k = n
    · rw [z, va_up_self, hT, h1]; exact a5 n hn
    · rw [va_up_ne _ _ z, h1]; exact a5 k hk
theorem mem_new {lg : List sPo} {ms : List sMg} (h : ∀ p, p ∈ lg → p.2 / 16 % 2 = 1 ∨ mB p.1) (h2 : mBs ms) : ∀ p, p ∈ lg ++ ms.map (fun m => ((m, 0) : sPo)) → p.2 / 16 % 2 = 1 ∨ mB p.1 := by
  intro p hp
  rcases List.mem_append.mp hp with z | z
  · exact h p z
  · obtain ⟨m, k1, k2⟩ := List.mem_map.mp z
    rw [← k2]
    exact Or.inr (h2 m k1)
theorem mem_set {lg : List sPo} {j n : Nat} {p : sPo} (h : ∀ p, p ∈ lg → p.2 / 16 % 2 = 1 ∨ mB p.1) (hj : lg[j]? = some p) (hp : p.2 < 32) (hn : n < 4) (hw : pW n p = true) : ∀ q, q ∈ lg.set j (p.1, p.2 + 2 ^ n) → q.2 / 16 % 2 = 1 ∨ mB q.1 := by
  intro q hq
  rcases List.mem_or_eq_of_mem_set hq with z | z
  · exact h q z
  · rw [z]
    dsimp only
    rw [(or_bit _ hp n hn (of_decide_eq_true hw)).2.2.1]
    exact h p (List.mem_of_getElem? hj)
/-- a message reaches a node, on both sides -/
theorem gRL.take {σ : sL} {s s' : sS} {lg : List sPo} {M M' : Nat → Nat → Int32} {n j : Nat} {t : Int32} {p : sPo} {g : Nat → Nat} (h : gRL σ s lg M) (hn : n < 4) (hj : lg[j]? = some p) (hw : pW n p = true) (hg : gRel (lg.set j (p.1, p.2 + 2 ^ n) ++ (nTk n t (σ.2.1 n) (pV n p)).2.map (fun m => ((m, 0) : sPo))) M') (hN : nRel M' n (nTk n t (σ.2.1 n) (pV n p)).1 g) (hF : nFr M M' n) (hI : nInv (nTk n t (σ.2.1 n) (pV n p)).1) (hT : (nTk n t (σ.2.1 n) (pV n p)).1.2.1 = (σ.2.1 n).2.1) (h1 : s'.1 = s.1) (h2 : s'.2.1 = s.2.1) : gRL (lTk t n (gAt lg n j) (pV n p) σ) s' (lg.set j (p.1, p.2 + 2 ^ n) ++ (nTk n t (σ.2.1 n) (pV n p)).2.map (fun m => ((m, 0) : sPo))) M' := by
  have ok := (h.1.2 j p hj).1
  have good := (h.2.2.1 n hn).2.2.2
  have mk : mOk (pV n p) := by
    unfold pV
    split
    · exact ok.1
    · exact mOk_vw ok.1
  have hpot := nTk_pot (t := t) hn mk good
  refine h.node hn hg hN hF hI (fun k hk => ?_) hT h1 h2 ?_ (mem_new (mem_set h.2.2.2.2.2.2.2.2 hj ok.2 hn hw) (nTk_B good))
  · unfold qV
    rw [gQ_app, gQ_new]
    congr 1
    by_cases z : k = n
    · subst z
      rw [va_up_self, (gQ_own hj ok.2 hn hw).1, h.2.2.2.1 k hk]
    · rw [va_up_ne _ _ z, gQ_oth hj ok.2 hn hk hw z]
      exact h.2.2.2.1 k hk
  · rw [List.length_append, List.length_set, List.length_map]
    omega
