/-! AGREEMENTS: flags 0 has input, 1 done, 8 + r sure sent in round r, 32 + 8 r + 2 s + bit vote of s; numbers 0 round, 1 estimate, 2 decided (0 none, bit + 1), 3 good bits, 4 the first good one, 8 + r bits voted, 32 + 4 r + s sure of s (0 none, bit + 1) -/
abbrev sA : Type := (Nat → Bool) × (Nat → Nat)
def iD (n : Nat) : Int32 := if n = 0 then -1 else nI (n - 1)
def iR (b : Bool) (n : Nat) : Int32 := if b = true then nI n else -1
def fAg (nb me e i : Nat) (t : Int32) (a : Nat) (α : sA) : List Value := [.ref nb, .int (nI me), .int (nI e), .int (nI i), .int t, .ref (a + 1), .ref (a + 2), .int (iR (α.1 0) (α.2 0)), .int (iR (α.1 0) (α.2 1)), .int (iD (α.2 2)), .int (nB (α.1 1)), .int (nI (α.2 3)), .int (nI (α.2 (8 + α.2 0))), .int (nB (α.1 (8 + α.2 0)))]
def aOk (α : sA) : Prop := α.2 0 < 6 ∧ α.2 1 < 2 ∧ α.2 2 < 3 ∧ α.2 3 < 4 ∧ (∀ r, r < 6 → α.2 (8 + r) < 4) ∧ (∀ r s, r < 6 → s < 4 → α.2 (32 + 4 * r + s) < 3) ∧ (∀ r, α.2 0 < r → r < 6 → α.2 (8 + r) = 0 ∧ α.1 (8 + r) = false) ∧ (α.1 0 = false → α.2 0 = 0)
def aVs (α : sA) (r bit : Nat) : Nat → Bool := fun s => α.1 (32 + 8 * r + 2 * s + bit)
def aSs (α : sA) (r bit : Nat) : Nat → Bool := fun s => decide (α.2 (32 + 4 * r + s) = bit + 1)
theorem aSs_eq {α α' : sA} {r bit s : Nat} (h : α.2 (32 + 4 * r + s) = bit + 1 ↔ α'.2 (32 + 4 * r + s) = bit + 1) : aSs α r bit s = aSs α' r bit s := decide_eq_decide.mpr h
/-- the arrays of votes and sures -/
def rVs (X : xPar) (w : xW) (a : Nat) (α : sA) : Prop := ∃ f : Nat → Int32, w.2.2 a = some (.inl (X.2.2.2.1 0, 12, .inl f)) ∧ ∀ r bit, r < 6 → bit < 2 → f (2 * r + bit) = nI (cMk (aVs α r bit))
def rSs (X : xPar) (w : xW) (a : Nat) (α : sA) : Prop := ∃ f : Nat → Int32, w.2.2 a = some (.inl (X.2.2.2.1 0, 12, .inl f)) ∧ ∀ r bit, r < 6 → bit < 2 → f (2 * r + bit) = nI (cMk (aSs α r bit))
def rAg (X : xPar) (nb me e i : Nat) (t : Int32) (a : Nat) (α : sA) (w : xW) : Prop := w.2.2 a = some (.inr (0, fAg nb me e i t a α)) ∧ rVs X w (a + 1) α ∧ rSs X w (a + 2) α ∧ aOk α
theorem rAg.kept {X : xPar} {nb me e i a : Nat} {t : Int32} {α : sA} {w w' : xW} (h : rAg X nb me e i t a α w) (hk : ∀ x, a ≤ x → x < a + 3 → w'.2.2 x = w.2.2 x) : rAg X nb me e i t a α w' := by
  obtain ⟨h1, ⟨f, h2, h3⟩, ⟨g, h4, h5⟩, h6⟩ := h
  exact ⟨(hk a (by omega) (by omega)).trans h1, ⟨f, (hk _ (by omega) (by omega)).trans h2, h3⟩, ⟨g, (hk _ (by omega) (by omega)).trans h4, h5⟩, h6⟩
theorem rAg.cells {X : xPar} {nb me e i a : Nat} {t : Int32} {α : sA} {w : xW} (h : rAg X nb me e i t a α w) : ∀ x, a ≤ x → x < a + 3 → ∃ z, w.2.2 x = some z ∧ ∀ fs, z ≠ .inr (3, fs) := by
  obtain ⟨h1, ⟨f, h2, h3⟩, ⟨g, h4, h5⟩, h6⟩ := h
  intro x h5 h6
  rcases (show x = a ∨ x = a + 1 ∨ x = a + 2 by omega) with rfl | rfl | rfl
  · exact ⟨_, h1, fun fs z => by cases z⟩
  · exact ⟨_, h2, fun fs z => by cases z⟩
  · exact ⟨_, h4, fun fs z => by cases z⟩
/-- the object alone is written -/
theorem rAg.obj {X : xPar} {nb me e i a : Nat} {t : Int32} {α α' : sA} {w w' : xW} (h : rAg X nb me e i t a α w) (h1 : w'.2.2 a = some (.inr (0, fAg nb me e i t a α'))) (hk : ∀ x, x ≠ a → w'.2.2 x = w.2.2 x) (e1 : ∀ s, 32 ≤ s → α.1 s = α'.1 s) (e2 : ∀ s, 32 ≤ s → α.2 s = α'.2 s) (hok : aOk α') : rAg X nb me e i t a α' w' := by
  obtain ⟨-, ⟨f, h2, h3⟩, ⟨g, h4, h5⟩, -⟩ := h
  refine ⟨h1, ⟨f, (hk _ (by omega)).trans h2, fun r bit hr hb => (h3 r bit hr hb).trans ?_⟩, ⟨g, (hk _ (by omega)).trans h4, fun r bit hr hb => (h5 r bit hr hb).trans ?_⟩, hok⟩
  · congr 1; exact cMk_congr (fun s hs => e1 _ (by omega))
  · congr 1; exact cMk_congr (fun s hs => aSs_eq (by rw [e2 _ (by omega)]))
def qMs (q : Nat → List sMg) (ms : List sMg) : Nat → List sMg := fun i => q i ++ ms
theorem qMs_nil (q : Nat → List sMg) : qMs q [] = q := by funext i; simp [qMs]
theorem qMs_app (q : Nat → List sMg) (a b : List sMg) : qMs (qMs q a) b = qMs q (a ++ b) := by funext i; simp [qMs, List.append_assoc]
/-- how many voted, in this round -/
def aV (α : sA) (bit : Nat) : Nat := cPop (cMk (aVs α (α.2 0) bit))
def aSent (α : sA) (bit : Nat) : Bool := decide (α.2 (8 + α.2 0) / 2 ^ bit % 2 = 1)
def aVote (α : sA) (bit : Nat) : sA := (α.1, va_up α.2 (8 + α.2 0) (α.2 (8 + α.2 0) + 2 ^ bit))
def aGd (α : sA) (bit : Nat) : Bool := decide (α.2 3 / 2 ^ bit % 2 = 1)
def aSetG (α : sA) (bit : Nat) : sA := (α.1, va_up α.2 3 (if α.2 3 / 2 ^ bit % 2 = 1 then α.2 3 else α.2 3 + 2 ^ bit))
def aGs (α : sA) (bit : Nat) : Nat := if aGd α bit = true then cPop (cMk (aSs α (α.2 0) bit)) else 0
/-- the class's steps: what becomes of the agreement, what is sent -/
def aCv (me e i : Nat) (α : sA) (bit : Nat) : sA × List sMg := if aSent α bit = true then (α, []) else (aVote α bit, [(me, e, i, 3, nI (α.2 0), nI bit)])
def aCg (me e i : Nat) (α : sA) (bit : Nat) : sA × List sMg := if α.1 (8 + α.2 0) = true then (aSetG α bit, []) else ((va_up α.1 (8 + α.2 0) true, (aSetG α bit).2), [(me, e, i, 4, nI (α.2 0), nI bit)])
def aEs (t : Int32) (e i : Nat) (α : sA) : Nat := if 0 < aGs α 0 ∧ 0 < aGs α 1 then cCoin t e i (α.2 0) else if 0 < aGs α 1 then 1 else 0
def aDe (t : Int32) (e i : Nat) (α : sA) : Nat := if ¬ (0 < aGs α 0 ∧ 0 < aGs α 1) ∧ aEs t e i α = cCoin t e i (α.2 0) ∧ α.2 2 = 0 then cCoin t e i (α.2 0) + 1 else α.2 2
def aFin (t : Int32) (e i : Nat) (α : sA) : sA := if α.2 2 = cCoin t e i (α.2 0) + 1 ∨ α.2 0 = 5 then (va_up α.1 1 true, va_up (va_up α.2 1 (aEs t e i α)) 2 (aDe t e i α)) else (α.1, va_up (va_up (va_up (va_up (va_up α.2 1 (aEs t e i α)) 2 (aDe t e i α)) 0 (α.2 0 + 1)) 3 0) 4 0)
theorem nb2 : ∀ n, n < 4 → ∀ b, b < 2 → nI n >>> (nI b &&& 31) &&& 1 = nI (n / 2 ^ b % 2) := by decide +kernel
theorem no2 : ∀ n, n < 4 → ∀ b, b < 2 → nI n ||| ((1 : Int32) <<< (nI b &&& 31)) = nI (if n / 2 ^ b % 2 = 1 then n else n + 2 ^ b) := by decide +kernel
theorem nlt2 : ∀ n, n < 4 → ∀ b, b < 2 → (if n / 2 ^ b % 2 = 1 then n else n + 2 ^ b) < 4 := by decide +kernel
theorem lt2 {b : Nat} (h : b < 2) : b = 0 ∨ b = 1 := by omega
theorem cM4_two : ∀ a b c d a' b' c' d' : Bool, ∀ s, s < 4 → ((nI (cM4 a b c d) ||| nI (cM4 a' b' c' d')) &&& ((1 : Int32) <<< (nI s &&& 31)) = 0 ↔ ([a, b, c, d].getD s false || [a', b', c', d'].getD s false) = false) := by decide +kernel
theorem bM3 (h g : Nat → Bool) {s : Nat} (hs : s < 4) : (nI (cMk h) ||| nI (cMk g)) &&& ((1 : Int32) <<< (nI s &&& 31)) = 0 ↔ (h s || g s) = false := by
  rw [cMk_4, cMk_4, cM4_two _ _ _ _ _ _ _ _ s hs, h4 h hs, h4 g hs]
def aKeep (α : sA) (s kd r bit : Nat) : sA := if kd = 3 then (va_up α.1 (32 + 8 * r + 2 * s + bit) true, α.2) else if α.2 (32 + 4 * r + s) = 0 then (α.1, va_up α.2 (32 + 4 * r + s) (bit + 1)) else α
section AG
variable {X : xPar} {sb L : Nat} {xs : Nat → Int32} {tI tE mi nb dyn c0 s0 mo me e i a : Nat} {t : Int32} {q : Nat → List sMg} {α : sA} {w : xW} {P : Option Value → xW → Prop}
theorem s_Ag_hasInput (hR : rAg X nb me e i t a α w) (h : P (some (.int (nB (α.1 0)))) w) : xE (xGG X) 0 m_Ag_hasInput 0 [(0, .ref a)] [] w P := by
  have g1 := hR.1
  have hr := hR.2.2.2.1
  refine x_aload_n 1 rfl d_Ag_hasInput_0 rfl ?_
  refine x_get 4 rfl f_Ag_18 d_Ag_hasInput_1 g1 rfl ?_
  refine x_iconst 5 rfl d_Ag_hasInput_4 (-1) (by decide) ?_
  cases hb : α.1 0 with
  | true =>
    rw [hb] at h
    refine x_icmp_eq 12 8 rfl d_Ag_hasInput_5 (by decide) (fun hc => absurd hc ((by decide +kernel : ∀ n, n < 6 → ¬ iR true n = -1) _ hr)) (fun hc => ?_)
    refine x_iconst 9 rfl d_Ag_hasInput_8 1 (by decide) ?_
    refine x_goto d_Ag_hasInput_9 13 (by decide) ?_
    refine x_zret d_Ag_hasInput_13 rfl (by decide) ?_
    exact h
  | false =>
    rw [hb] at h
    refine x_icmp_eq 12 8 rfl d_Ag_hasInput_5 (by decide) (fun hc => ?_) (fun hc => absurd rfl hc)
    refine x_iconst 13 rfl d_Ag_hasInput_12 0 (by decide) ?_
    refine x_zret d_Ag_hasInput_13 rfl (by decide) ?_
    exact h
theorem s_Ag_giveInput {bb : Int32} {bit : Nat} (hbb : bb = nI bit) (hb : bit < 2) (hR : rAg X nb me e i t a α w) (h : ∀ w', rAg X nb me e i t a (if α.1 0 = true then α else (va_up α.1 0 true, va_up α.2 1 bit)) w' → fr w w' a (a + 3) → P none w') : xE (xGG X) 1 m_Ag_giveInput 0 [(0, .ref a), (1, .int bb)] [] w P := by
  subst hbb
  have g1 := hR.1
  refine x_aload_n 1 rfl d_Ag_giveInput_0 rfl ?_
  refine y_callV 4 rfl [] _ rfl d_Ag_giveInput_1 g1 rfl c_Ag_58 rfl (Nat.le_of_ble_eq_true rfl) (Nat.le_of_ble_eq_true rfl) (Nat.le_of_ble_eq_true rfl) (s_Ag_hasInput hR ?_)
  refine x_if_ne 17 7 rfl d_Ag_giveInput_4 (by decide) (fun hc => ?_) (fun hc => ?_)
  · refine x_vret d_Ag_giveInput_17 rfl ?_
    exact h w (by rw [if_pos (nB_ne hc)]; exact hR) (fr.rf _ _ _)
  · have hb0 := (nB_0 _).mp hc
    obtain ⟨o1, o2, o3, o4, o5, o6, o7, o8⟩ := hR.2.2.2
    have hr0 := o8 hb0
    refine x_aload_n 8 rfl d_Ag_giveInput_7 rfl ?_
    refine x_iconst 9 rfl d_Ag_giveInput_8 0 (by decide) ?_
    refine x_put 12 rfl p_Ag_18 (fun h => nomatch h) d_Ag_giveInput_9 g1 rfl rfl (Nat.le_of_ble_eq_true rfl) ?_
    refine x_aload_n 13 rfl d_Ag_giveInput_12 rfl ?_
    refine x_iload_n 14 rfl d_Ag_giveInput_13 rfl ?_
    refine x_put 17 rfl p_Ag_22 (fun h => nomatch h) d_Ag_giveInput_14 (xset_at _ _ _) rfl rfl (Nat.le_of_ble_eq_true rfl) ?_
    refine x_vret d_Ag_giveInput_17 rfl ?_
    refine h _ ?_ (((fr.rf w a (a + 3)).set _ (by omega) (by omega)).set _ (by omega) (by omega))
    rw [if_neg (by rw [hb0]; decide)]
    have ok : aOk (va_up α.1 0 true, va_up α.2 1 bit) := by
      refine ⟨?_, ?_, ?_, ?_, fun r hr => ?_, fun r s hr hs => ?_, fun r hr hr6 => ?_, fun z => ?_⟩
      · simp only [va_up]; rw [if_neg (by decide)]; exact o1
      · simp only [va_up, if_true]; exact hb
      · simp only [va_up]; rw [if_neg (by decide)]; exact o3
      · simp only [va_up]; rw [if_neg (by decide)]; exact o4
      · simp only [va_up]; rw [if_neg (by omega)]; exact o5 r hr
      · simp only [va_up]; rw [if_neg (by omega)]; exact o6 r s hr hs
      · simp only [va_up] at hr ⊢; rw [if_neg (by decide)] at hr; rw [if_neg (by omega), if_neg (by omega)]; exact o7 r hr hr6
      · simp [va_up] at z
    refine hR.obj ?_ (fun x hx => by rw [xset_ne _ _ hx, xset_ne _ _ hx]) (fun s hs => by simp only [va_up]; rw [if_neg (by omega)]) (fun s hs => by simp only [va_up]; rw [if_neg (by omega)]) ok
    rw [xset_at]
    simp only [fAg, va_up, List.set_cons_succ, List.set_cons_zero, if_true, if_neg (show ¬ (0 : Nat) = 1 by decide), if_neg (show ¬ (2 : Nat) = 1 by decide), if_neg (show ¬ (3 : Nat) = 1 by decide), if_neg (show ¬ (1 : Nat) = 0 by decide), hr0, iR, if_neg (show ¬ 8 + 0 = 1 by decide), if_neg (show ¬ 8 + 0 = 0 by decide)]
    rfl
theorem s_Ag_voters {bb : Int32} {bit : Nat} (hbb : bb = nI bit) (hb : bit < 2) (hin : α.1 0 = true) (hR : rAg X nb me e i t a α w) (h : P (some (.int (nI (aV α bit)))) w) : xE (xGG X) 1 m_Ag_voters 0 [(0, .ref a), (1, .int bb)] [] w P := by
  subst hbb
  obtain ⟨g1, ⟨f, g2, g3⟩, -, ok⟩ := hR
  have hr := ok.1
  have e1 : (2 : Int32) * iR (α.1 0) (α.2 0) + nI bit = nI (2 * α.2 0 + bit) := by
    rw [hin]
    show (2 : Int32) * nI (α.2 0) + nI bit = _
    rw [show (2 : Int32) = nI 2 from rfl, pk_mul, nI_add]
  refine x_aload_n 1 rfl d_Ag_voters_0 rfl ?_
  refine x_get 4 rfl f_Ag_9 d_Ag_voters_1 g1 rfl ?_
  refine x_iconst 5 rfl d_Ag_voters_4 2 (by decide) ?_
  refine x_aload_n 6 rfl d_Ag_voters_5 rfl ?_
  refine x_get 9 rfl f_Ag_18 d_Ag_voters_6 g1 rfl ?_
  refine x_imul 10 rfl d_Ag_voters_9 ?_
  refine x_iload_n 11 rfl d_Ag_voters_10 rfl ?_
  refine x_iadd 12 rfl d_Ag_voters_11 ?_
  rw [e1]
  refine x_iald 13 rfl d_Ag_voters_12 g2 (t0 := 0) rfl (vp_in_nI (by omega) (by decide)) ?_
  rw [nI_clamp (by omega), g3 _ _ hr hb]
  refine y_call 16 rfl [_] _ rfl d_Ag_voters_13 c_Ag_83 rfl (Nat.le_of_ble_eq_true rfl) (Nat.le_of_ble_eq_true rfl) (Nat.le_of_ble_eq_true rfl) (s_It_bitCount rfl (cMk_lt _) ?_)
  refine x_iret d_Ag_voters_16 rfl ?_
  exact h
theorem s_Ag_goodSures {bb : Int32} {bit : Nat} (hbb : bb = nI bit) (hb : bit < 2) (hin : α.1 0 = true) (hR : rAg X nb me e i t a α w) (h : P (some (.int (nI (aGs α bit)))) w) : xE (xGG X) 1 m_Ag_goodSures 0 [(0, .ref a), (1, .int bb)] [] w P := by
  subst hbb
  obtain ⟨g1, -, ⟨f, g2, g3⟩, ok⟩ := hR
  have hr := ok.1
  have hg := ok.2.2.2.1
  have e1 : (2 : Int32) * iR (α.1 0) (α.2 0) + nI bit = nI (2 * α.2 0 + bit) := by
    rw [hin]
    show (2 : Int32) * nI (α.2 0) + nI bit = _
    rw [show (2 : Int32) = nI 2 from rfl, pk_mul, nI_add]
  refine x_aload_n 1 rfl d_Ag_goodSures_0 rfl ?_
  refine x_get 4 rfl f_Ag_100 d_Ag_goodSures_1 g1 rfl ?_
  refine x_iload_n 5 rfl d_Ag_goodSures_4 rfl ?_
  refine x_ishr 6 rfl d_Ag_goodSures_5 ?_
  refine x_iconst 7 rfl d_Ag_goodSures_6 1 (by decide) ?_
  refine x_iand 8 rfl d_Ag_goodSures_7 ?_
  rw [nb2 _ hg _ hb]
  refine x_if_ne 15 11 rfl d_Ag_goodSures_8 (by decide) (fun hc => ?_) (fun hc => ?_)
  · have h5 : aGd α bit = true := by
      unfold aGd
      rw [decide_eq_true_iff]
      by_cases z : α.2 3 / 2 ^ bit % 2 = 0
      · exact absurd (by rw [z]; rfl) hc
      · omega
    rw [aGs, if_pos h5] at h
    refine x_aload_n 16 rfl d_Ag_goodSures_15 rfl ?_
    refine x_get 19 rfl f_Ag_15 d_Ag_goodSures_16 g1 rfl ?_
    refine x_iconst 20 rfl d_Ag_goodSures_19 2 (by decide) ?_
    refine x_aload_n 21 rfl d_Ag_goodSures_20 rfl ?_
    refine x_get 24 rfl f_Ag_18 d_Ag_goodSures_21 g1 rfl ?_
    refine x_imul 25 rfl d_Ag_goodSures_24 ?_
    refine x_iload_n 26 rfl d_Ag_goodSures_25 rfl ?_
    refine x_iadd 27 rfl d_Ag_goodSures_26 ?_
    rw [e1]
    refine x_iald 28 rfl d_Ag_goodSures_27 g2 (t0 := 0) rfl (vp_in_nI (by omega) (by decide)) ?_
    rw [nI_clamp (by omega), g3 _ _ hr hb]
    refine y_call 31 rfl [_] _ rfl d_Ag_goodSures_28 c_Ag_83 rfl (Nat.le_of_ble_eq_true rfl) (Nat.le_of_ble_eq_true rfl) (Nat.le_of_ble_eq_true rfl) (s_It_bitCount rfl (cMk_lt _) ?_)
    refine x_iret d_Ag_goodSures_31 rfl ?_
    exact h
  · have h5 : ¬ aGd α bit = true := by
      unfold aGd
      rw [decide_eq_true_iff]
      intro z
      rw [z] at hc
      exact absurd hc (by decide)
    rw [aGs, if_neg h5] at h
    refine x_iconst 12 rfl d_Ag_goodSures_11 0 (by decide) ?_
    refine x_goto d_Ag_goodSures_12 31 (by decide) ?_
    refine x_iret d_Ag_goodSures_31 rfl ?_
    exact h
theorem s_Ag_keep {m : Nat} {mg : sMg} {r bit : Nat} (hs : mg.1 < 4) (hkd : mg.2.2.2.1 = 3 ∨ mg.2.2.2.1 = 4) (har : mg.2.2.2.2.1 = nI r) (hbr : mg.2.2.2.2.2 = nI bit) (hr : r < 6) (hb : bit < 2) (hR : rAg X nb me e i t a α w) (hm : w.2.2 m = some (.inr (3, fMs mg))) (h : ∀ w', rAg X nb me e i t a (aKeep α mg.1 mg.2.2.2.1 r bit) w' → fr w w' a (a + 3) → P none w') : xE (xGG X) 0 m_Ag_keep 0 [(0, .ref a), (1, .ref m)] [] w P := by
  have hR0 := hR
  obtain ⟨g1, ⟨f, g2, g3⟩, ⟨g, g4, g5⟩, ok⟩ := hR
  have e1 : (2 : Int32) * nI r + nI bit = nI (2 * r + bit) := by rw [show (2 : Int32) = nI 2 from rfl, pk_mul, nI_add]
  have e2 : (2 : Int32) * nI r = nI (2 * r + 0) := by rw [show (2 : Int32) = nI 2 from rfl, pk_mul]; rfl
  have e3 : (2 : Int32) * nI r + 1 = nI (2 * r + 1) := by rw [show (2 : Int32) = nI 2 from rfl, pk_mul, nI_1]
  have hmf : fMs mg = [.int (nI mg.1), .int (nI mg.2.1), .int (nI mg.2.2.1), .int (nI mg.2.2.2.1), .int (nI r), .int (nI bit)] := by unfold fMs; rw [har, hbr]
  rw [hmf] at hm
  refine x_iconst 1 rfl d_Ag_keep_0 2 (by decide) ?_
  refine x_aload_n 2 rfl d_Ag_keep_1 rfl ?_
  refine x_get 5 rfl f_Ag_44 d_Ag_keep_2 hm rfl ?_
  refine x_imul 6 rfl d_Ag_keep_5 ?_
  refine x_aload_n 7 rfl d_Ag_keep_6 rfl ?_
  refine x_get 10 rfl f_Ag_49 d_Ag_keep_7 hm rfl ?_
  refine x_iadd 11 rfl d_Ag_keep_10 ?_
  rw [e1]
  refine x_istore_n 12 rfl d_Ag_keep_11 (by decide) ?_
  refine x_iconst 13 rfl d_Ag_keep_12 1 (by decide) ?_
  refine x_aload_n 14 rfl d_Ag_keep_13 rfl ?_
  refine x_get 17 rfl f_Ag_52 d_Ag_keep_14 hm rfl ?_
  refine x_ishl 18 rfl d_Ag_keep_17 ?_
  refine x_istore_n 19 rfl d_Ag_keep_18 (by decide) ?_
  refine x_aload_n 20 rfl d_Ag_keep_19 rfl ?_
  refine x_get 23 rfl f_Ag_55 d_Ag_keep_20 hm rfl ?_
  refine x_iconst 24 rfl d_Ag_keep_23 3 (by decide) ?_
  refine x_icmp_ne 40 27 rfl d_Ag_keep_24 (by decide) (fun hc => ?_) (fun hc => ?_)
  · have hk4 : mg.2.2.2.1 = 4 := by
      rcases hkd with z | z
      · exact absurd (by rw [z]; rfl) hc
      · exact z
    refine x_aload_n 41 rfl d_Ag_keep_40 rfl ?_
    refine x_get 44 rfl f_Ag_15 d_Ag_keep_41 g1 rfl ?_
    refine x_iconst 45 rfl d_Ag_keep_44 2 (by decide) ?_
    refine x_aload_n 46 rfl d_Ag_keep_45 rfl ?_
    refine x_get 49 rfl f_Ag_44 d_Ag_keep_46 hm rfl ?_
    refine x_imul 50 rfl d_Ag_keep_49 ?_
    rw [e2]
    refine x_iald 51 rfl d_Ag_keep_50 g4 (t0 := 0) rfl (vp_in_nI (by omega) (by decide)) ?_
    rw [nI_clamp (by omega), g5 r 0 hr (by decide)]
    refine x_aload_n 52 rfl d_Ag_keep_51 rfl ?_
    refine x_get 55 rfl f_Ag_15 d_Ag_keep_52 g1 rfl ?_
    refine x_iconst 56 rfl d_Ag_keep_55 2 (by decide) ?_
    refine x_aload_n 57 rfl d_Ag_keep_56 rfl ?_
    refine x_get 60 rfl f_Ag_44 d_Ag_keep_57 hm rfl ?_
    refine x_imul 61 rfl d_Ag_keep_60 ?_
    refine x_iconst 62 rfl d_Ag_keep_61 1 (by decide) ?_
    refine x_iadd 63 rfl d_Ag_keep_62 ?_
    rw [e3]
    refine x_iald 64 rfl d_Ag_keep_63 g4 (t0 := 0) rfl (vp_in_nI (by omega) (by decide)) ?_
    rw [nI_clamp (by omega), g5 r 1 hr (by decide)]
    refine x_ior 65 rfl d_Ag_keep_64 ?_
    refine x_iload_n 66 rfl d_Ag_keep_65 rfl ?_
    refine x_iand 67 rfl d_Ag_keep_66 ?_
    have hsu := ok.2.2.2.2.2.1 r mg.1 hr hs
    refine x_if_ne 80 70 rfl d_Ag_keep_67 (by decide) (fun hc2 => ?_) (fun hc2 => ?_)
    · refine x_vret d_Ag_keep_80 rfl ?_
      refine h w ?_ (fr.rf _ _ _)
      have hne : ¬ α.2 (32 + 4 * r + mg.1) = 0 := fun z => hc2 ((bM3 _ _ hs).mpr (by simp [aSs, z]))
      rw [aKeep, if_neg (by omega), if_neg hne]
      exact hR0
    · have h0 := (bM3 _ _ hs).mp hc2
      have hz : α.2 (32 + 4 * r + mg.1) = 0 := by
        simp [aSs] at h0
        omega
      refine x_aload_n 71 rfl d_Ag_keep_70 rfl ?_
      refine x_get 74 rfl f_Ag_15 d_Ag_keep_71 g1 rfl ?_
      refine x_iload_n 75 rfl d_Ag_keep_74 rfl ?_
      refine x_dup2 76 rfl d_Ag_keep_75 rfl rfl ?_
      refine x_iald 77 rfl d_Ag_keep_76 g4 (t0 := 0) rfl (vp_in_nI (by omega) (by decide)) ?_
      rw [nI_clamp (by omega), g5 r bit hr hb]
      refine x_iload_n 78 rfl d_Ag_keep_77 rfl ?_
      refine x_ior 79 rfl d_Ag_keep_78 ?_
      rw [bM2 _ hs]
      refine x_iast 80 rfl d_Ag_keep_79 g4 (t0 := 0) rfl (vp_in_nI (by omega) (by decide)) ?_
      rw [nI_clamp (by omega)]
      refine x_vret d_Ag_keep_80 rfl ?_
      refine h _ ?_ ((fr.rf w a (a + 3)).set _ (by omega) (by omega))
      rw [aKeep, if_neg (by omega), if_pos hz]
      obtain ⟨o1, o2, o3, o4, o5, o6, o7, o8⟩ := ok
      have ev : ∀ x, x < 32 → va_up α.2 (32 + 4 * r + mg.1) (bit + 1) x = α.2 x := fun x hx => va_up_ne _ _ (by omega)
      refine ⟨?_, ⟨f, by rw [xset_ne _ _ (by omega)]; exact g2, g3⟩, ⟨_, xset_at _ _ _, fun r2 b2 hr2 hb2 => ?_⟩, ⟨?_, ?_, ?_, ?_, fun r2 hr2 => ?_, fun r2 s2 hr2 hs2 => ?_, fun r2 h1 h2 => ?_, fun z => ?_⟩⟩
      · rw [xset_ne _ _ (by omega), g1]
        simp only [fAg, ev 0 (by decide), ev 1 (by decide), ev 2 (by decide), ev 3 (by decide), ev (8 + α.2 0) (by omega)]
      · simp only [upd]
        by_cases z : 2 * r2 + b2 = 2 * r + bit
        · have z1 : r2 = r := by omega
          have z2 : b2 = bit := by omega
          subst z1 z2
          rw [if_pos rfl]
          congr 1
          refine cMk_congr (fun s hs2 => ?_)
          by_cases y : s = mg.1
          · subst y; rw [va_up_self]; exact (decide_eq_true (by show va_up α.2 _ _ _ = _; rw [va_up_self])).symm
          · rw [va_up_ne _ _ y]; exact aSs_eq (by show _ ↔ va_up α.2 _ _ _ = _; rw [va_up_ne _ _ (by omega)])
        · rw [if_neg z, g5 r2 b2 hr2 hb2]
          congr 1
          refine cMk_congr (fun s hs2 => ?_)
          by_cases y : 32 + 4 * r2 + s = 32 + 4 * r + mg.1
          · refine aSs_eq ⟨fun h => ?_, fun h => ?_⟩
            · rw [y, hz] at h; omega
            · have h' : va_up α.2 (32 + 4 * r + mg.1) (bit + 1) (32 + 4 * r2 + s) = b2 + 1 := h
              rw [y, va_up_self] at h'; omega
          · exact aSs_eq (by show _ ↔ va_up α.2 _ _ _ = _; rw [va_up_ne _ _ y])
      · show va_up _ _ _ _ < _; rw [ev 0 (by decide)]; exact o1
      · show va_up _ _ _ _ < _; rw [ev 1 (by decide)]; exact o2
      · show va_up _ _ _ _ < _; rw [ev 2 (by decide)]; exact o3
      · show va_up _ _ _ _ < _; rw [ev 3 (by decide)]; exact o4
      · show va_up _ _ _ _ < _; rw [ev (8 + r2) (by omega)]; exact o5 r2 hr2
      · show va_up _ _ _ _ < _
        simp only [va_up]
        split
        · omega
        · exact o6 r2 s2 hr2 hs2
      · have h1' : α.2 0 < r2 := by rw [← ev 0 (by decide)]; exact h1
        refine ⟨?_, (o7 r2 h1' h2).2⟩
        show va_up _ _ _ _ = _
        rw [ev (8 + r2) (by omega)]; exact (o7 r2 h1' h2).1
      · show va_up _ _ _ _ = _; rw [ev 0 (by decide)]; exact o8 z
  · have hk3 : mg.2.2.2.1 = 3 := (nI_eq (by omega) (by decide)).mp hc
    refine x_aload_n 28 rfl d_Ag_keep_27 rfl ?_
    refine x_get 31 rfl f_Ag_9 d_Ag_keep_28 g1 rfl ?_
    refine x_iload_n 32 rfl d_Ag_keep_31 rfl ?_
    refine x_dup2 33 rfl d_Ag_keep_32 rfl rfl ?_
    refine x_iald 34 rfl d_Ag_keep_33 g2 (t0 := 0) rfl (vp_in_nI (by omega) (by decide)) ?_
    rw [nI_clamp (by omega), g3 r bit hr hb]
    refine x_iload_n 35 rfl d_Ag_keep_34 rfl ?_
    refine x_ior 36 rfl d_Ag_keep_35 ?_
    rw [bM2 _ hs]
    refine x_iast 37 rfl d_Ag_keep_36 g2 (t0 := 0) rfl (vp_in_nI (by omega) (by decide)) ?_
    rw [nI_clamp (by omega)]
    refine x_goto d_Ag_keep_37 80 (by decide) ?_
    refine x_vret d_Ag_keep_80 rfl ?_
    refine h _ ?_ ((fr.rf w a (a + 3)).set _ (by omega) (by omega))
    rw [aKeep, if_pos hk3]
    obtain ⟨o1, o2, o3, o4, o5, o6, o7, o8⟩ := ok
    have ev : ∀ x, x < 32 → va_up α.1 (32 + 8 * r + 2 * mg.1 + bit) true x = α.1 x := fun x hx => va_up_ne _ _ (by omega)
    refine ⟨?_, ⟨_, xset_at _ _ _, fun r2 b2 hr2 hb2 => ?_⟩, ⟨g, by rw [xset_ne _ _ (by omega)]; exact g4, g5⟩, ⟨o1, o2, o3, o4, o5, o6, fun r2 h1 h2 => ⟨(o7 r2 h1 h2).1, by show va_up _ _ _ _ = _; rw [ev (8 + r2) (by omega)]; exact (o7 r2 h1 h2).2⟩, fun z => o8 (by rw [← ev 0 (by decide)]; exact z)⟩⟩
    · rw [xset_ne _ _ (by omega), g1]
      simp only [fAg, ev 0 (by decide), ev 1 (by decide), ev (8 + α.2 0) (by omega)]
    · simp only [upd]
      by_cases z : 2 * r2 + b2 = 2 * r + bit
      · have z1 : r2 = r := by omega
        have z2 : b2 = bit := by omega
        subst z1 z2
        rw [if_pos rfl]
        congr 1
        refine cMk_congr (fun s hs2 => ?_)
        unfold aVs
        simp only [va_up]
        by_cases y : s = mg.1
        · subst y; simp
        · rw [if_neg y, if_neg (by omega)]
      · rw [if_neg z, g3 r2 b2 hr2 hb2]
        congr 1
        refine cMk_congr (fun s hs2 => ?_)
        unfold aVs
        simp only [va_up]
        rw [if_neg (by omega)]
end AG
