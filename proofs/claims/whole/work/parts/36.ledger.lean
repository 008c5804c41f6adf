/-! THE LEDGER -/
/-- spoken, the nodes, what waits -/
abbrev sL : Type := Nat × (Nat → sN) × (Nat → List sMg)
def rLd (X : xPar) (tE b dyn c0 s0 mo : Nat) (t : Int32) (σ : sL) (w : xW) : Prop :=
  X.2.1 ≤ b ∧ b + 616 ≤ dyn ∧ w.2.2 b = some (.inr (8, [.int t, .ref (b + 1), .ref (b + 11), .int (nI σ.1)])) ∧
  (∃ f : Nat → Option Nat, w.2.2 (b + 11) = some (.inl (X.2.2.2.1 3, 4, .inr (.inr (.inr (.inr f))))) ∧ ∀ n, n < 4 → f n = some (b + 12 + 151 * n)) ∧
  (∀ n, n < 4 → rNd X (b + 1) n t (b + 12 + 151 * n) (σ.2.1 n) w) ∧ rNt X tE (b + 1) dyn c0 s0 mo σ.2.2 w
def lOk (σ : sL) : Prop := ∀ n, n < 4 → nGood (σ.2.1 n) ∧ ∀ m, m ∈ σ.2.2 n → mOk m
def lPot (σ : sL) : Nat := sumN (fun n => nPot (σ.2.1 n)) 4 + (300 - σ.1)
def lInv (σ : sL) (mo : Nat) : Prop := lOk σ ∧ mo + 4 * lPot σ ≤ 8000 ∧ σ.1 ≤ 300
def lNd (σ : sL) (n : Nat) (ν : sN) (q : Nat → List sMg) : sL := (σ.1, va_up σ.2.1 n ν, q)
theorem lNd_pot {σ : sL} {n : Nat} {ν : sN} {q : Nat → List sMg} (hn : n < 4) : lPot (lNd σ n ν q) + nPot (σ.2.1 n) = lPot σ + nPot ν := by
  have h1 := sumN_1 (f := fun k => nPot (σ.2.1 k)) (g := fun k => nPot (va_up σ.2.1 n ν k)) (k0 := n) (n := 4) hn (fun j hj hj2 => by rw [va_up_ne _ _ hj2])
  rw [va_up_self] at h1
  unfold lPot lNd
  dsimp only
  omega
theorem lNd_ok {σ : sL} {n : Nat} {ν : sN} {q : Nat → List sMg} (h : lOk σ) (hν : nGood ν) (hq : ∀ j, j < 4 → ∀ m, m ∈ q j → mOk m) : lOk (lNd σ n ν q) := by
  intro j hj
  refine ⟨?_, hq j hj⟩
  show nGood (va_up σ.2.1 n ν j)
  by_cases z : j = n
  · rw [z, va_up_self]; exact hν
  · rw [va_up_ne _ _ z]; exact (h j hj).1
def lNode (x : Int32) : Bool := decide (0 ≤ x ∧ x ≤ 3)
theorem cUn_le {x : Int32} {c : Nat} (hc : c < 2 ^ 31) (h0 : 0 ≤ x) (h : x ≤ nI c) : cUn x ≤ c := by
  have h3 : ∀ x : Int32, x.toInt = if 2 * cUn x < 2 ^ 32 then (cUn x : Int) else (cUn x : Int) - 2 ^ 32 := fun x => BitVec.toInt_eq_toNat_cond _
  rw [Int32.le_iff_toInt_le, h3, h3, cUn_nI (by omega)] at h
  rw [Int32.le_iff_toInt_le, h3 x] at h0
  have h4 := cUn_lt x
  rw [show (0 : Int32).toInt = 0 from rfl] at h0
  split at h0 <;> split at h <;> split at h <;> omega
theorem lNode_lt {x : Int32} (h : lNode x = true) : cUn x < 4 := by
  have := of_decide_eq_true h
  have := cUn_le (c := 3) (by decide) this.1 this.2
  omega
def lSub (σ : sL) (nn x : Int32) : sL × Bool := if (lNode nn && decide (1 ≤ x ∧ x ≤ 255)) = true then (lNd σ (cUn nn) (nSub (σ.2.1 (cUn nn)) x) σ.2.2, !nNo (σ.2.1 (cUn nn)) x) else (σ, false)
def lBeg (t : Int32) (σ : sL) (nn : Int32) : sL × Bool := if lNode nn = true then (lNd σ (cUn nn) (nSt (cUn nn) t (σ.2.1 (cUn nn))).1 (qV σ.2.2 (nSt (cUn nn) t (σ.2.1 (cUn nn))).2), !decide ((σ.2.1 (cUn nn)).1 ≠ 0 ∨ (σ.2.1 (cUn nn)).2.1 = true)) else (σ, false)
/-- message k of node n reaches it -/
def lTk (t : Int32) (n k : Nat) (m : sMg) (σ : sL) : sL := lNd σ n (nTk n t (σ.2.1 n) m).1 (qV (va_up σ.2.2 n ((σ.2.2 n).eraseIdx k)) (nTk n t (σ.2.1 n) m).2)
def lRn (t : Int32) (n : Nat) : Nat → sL → sL × Nat
  | 0, σ => (σ, 0)
  | f + 1, σ => match (σ.2.2 n)[0]? with
    | none => (σ, 0)
    | some m => ((lRn t n f (lTk t n 0 m σ)).1, (lRn t n f (lTk t n 0 m σ)).2 + 1)
def lRun (t : Int32) (σ : sL) (nn x : Int32) : sL × Int32 := if (lNode nn && decide (0 ≤ x ∧ x ≤ 60)) = true then ((lRn t (cUn nn) (cUn x) σ).1, nI (lRn t (cUn nn) (cUn x) σ).2) else (σ, -1)
def lDel (t : Int32) (σ : sL) (nn k : Int32) : sL × Int32 := if (lNode nn && decide (0 ≤ k ∧ k ≤ nI (σ.2.2 (cUn nn)).length - 1)) = true then (match (σ.2.2 (cUn nn))[cUn k]? with
    | none => (σ, -1)
    | some m => (lTk t (cUn nn) (cUn k) m σ, nI m.2.2.2.1)) else (σ, -1)
def lBet (σ : sL) : sL × Bool := if (σ.2.1 3).2.1 = true then (σ, false) else (lNd σ 3 ((σ.2.1 3).1, true, (σ.2.1 3).2.2) σ.2.2, true)
def lFit (kk aa bb : Int32) : Bool := decide (kk < 3) || (decide (0 ≤ aa ∧ aa ≤ 5) && decide (0 ≤ bb ∧ bb ≤ 1))
def lSpk (σ : sL) (nn ee ii kk aa bb : Int32) : sL × Bool := if ((σ.2.1 3).2.1 && decide (σ.1 < 300) && (lNode nn && lNode ee && lNode ii && decide (0 ≤ kk ∧ kk ≤ 4)) && lFit kk aa bb) = true then ((σ.1 + 1, σ.2.1, va_up σ.2.2 (cUn nn) (σ.2.2 (cUn nn) ++ [(3, cUn ee, cUn ii, cUn kk, aa, bb)])), true) else (σ, false)
section LD
variable {X : xPar} {sb L : Nat} {xs : Nat → Int32} {tI tE mi b dyn c0 s0 mo n : Nat} {t : Int32} {σ : sL} {w : xW} {P : Option Value → xW → Prop}
theorem rLd.upd {w' : xW} {mo' : Nat} {ν : sN} {q : Nat → List sMg} (hL : rLd X tE b dyn c0 s0 mo t σ w) (hn : n < 4) (hf : frS X (b + 1) dyn (b + 12 + 151 * n) (b + 163 + 151 * n) w w') (hN : rNt X tE (b + 1) dyn c0 s0 mo' q w') (hR : rNd X (b + 1) n t (b + 12 + 151 * n) ν w') : rLd X tE b dyn c0 s0 mo' t (lNd σ n ν q) w' := by
  obtain ⟨h1, h2, h3, ⟨f, h4, h5⟩, h6, h7⟩ := hL
  refine ⟨h1, h2, (hf.1 _ (by omega) (by omega) (by omega) (fun i hi => by omega)).trans h3, ⟨f, (hf.1 _ (by omega) (by omega) (by omega) (fun i hi => by omega)).trans h4, h5⟩, fun j hj => ?_, hN⟩
  show rNd X (b + 1) j t (b + 12 + 151 * j) (va_up σ.2.1 n ν j) w'
  by_cases z : j = n
  · subst z; rw [va_up_self]; exact hR
  · rw [va_up_ne _ _ z]
    exact (h6 j hj).kept (fun x x1 x2 => hf.1 x (by omega) (by omega) (by omega) (fun i hi => by omega))
theorem rLd.net {w' : xW} {mo' : Nat} {q : Nat → List sMg} (hL : rLd X tE b dyn c0 s0 mo t σ w) (hf : frN X (b + 1) dyn w w') (hN : rNt X tE (b + 1) dyn c0 s0 mo' q w') : rLd X tE b dyn c0 s0 mo' t (σ.1, σ.2.1, q) w' := by
  obtain ⟨h1, h2, h3, ⟨f, h4, h5⟩, h6, h7⟩ := hL
  refine ⟨h1, h2, (hf.1 _ (by omega) (by omega) (fun i hi => by omega)).trans h3, ⟨f, (hf.1 _ (by omega) (by omega) (fun i hi => by omega)).trans h4, h5⟩, fun j hj => ?_, hN⟩
  exact (h6 j hj).kept (fun x x1 x2 => hf.1 x (by omega) (by omega) (fun i hi => by omega))
theorem s_El_submit {nn x : Int32} (hL : rLd X tE b dyn c0 s0 mo t σ w) (h : ∀ w', rLd X tE b dyn c0 s0 mo t (lSub σ nn x).1 w' → frS X (b + 1) dyn b (b + 616) w w' → P (some (.int (nB (lSub σ nn x).2))) w') : xE (xGG X) 3 m_El_submit 0 [(0, .ref b), (1, .int nn), (2, .int x)] [] w P := by
  have hL0 := hL
  obtain ⟨h1, h2, g1, ⟨f, g5, g6⟩, h6, h7⟩ := hL
  have no : ¬ (lNode nn && decide (1 ≤ x ∧ x ≤ 255)) = true → P (some (.int 0)) w := by
    intro z
    rw [lSub, if_neg z] at h
    exact h w hL0 (frS.rf _ _ _ _ _ _)
  refine x_iload_n 1 rfl d_El_submit_0 rfl ?_
  refine y_call 4 rfl [_] _ rfl d_El_submit_1 c_El_30 rfl (Nat.le_of_ble_eq_true rfl) (Nat.le_of_ble_eq_true rfl) (Nat.le_of_ble_eq_true rfl) (s_El_isNode ?_)
  refine x_if_eq 35 7 rfl d_El_submit_4 (by decide) (fun hc => ?_) (fun hc => ?_)
  · refine x_iconst 36 rfl d_El_submit_35 0 (by decide) ?_
    refine x_zret d_El_submit_36 rfl (by decide) ?_
    exact no (by unfold lNode; rw [(nB_0 _).mp hc]; simp)
  have y1 : lNode nn = true := nB_ne hc
  have hn := lNode_lt y1
  refine x_iload_n 8 rfl d_El_submit_7 rfl ?_
  refine x_iconst 9 rfl d_El_submit_8 1 (by decide) ?_
  refine x_sipush 12 rfl d_El_submit_9 255 (by decide) ?_
  refine y_call 15 rfl [_, _, _] _ rfl d_El_submit_12 c_El_34 rfl (Nat.le_of_ble_eq_true rfl) (Nat.le_of_ble_eq_true rfl) (Nat.le_of_ble_eq_true rfl) (s_El_isIn ?_)
  refine x_if_eq 35 18 rfl d_El_submit_15 (by decide) (fun hc => ?_) (fun hc => ?_)
  · refine x_iconst 36 rfl d_El_submit_35 0 (by decide) ?_
    refine x_zret d_El_submit_36 rfl (by decide) ?_
    exact no (by rw [(nB_0 _).mp hc]; simp)
  have y2 := nB_ne hc
  rw [lSub, if_pos (by rw [y1, y2]; rfl)] at h
  have e1 : nn = nI (cUn nn) := (nI_cUn nn).symm
  have hR := h6 _ hn
  have g2 := hR.1
  refine x_aload_n 19 rfl d_El_submit_18 rfl ?_
  refine x_get 22 rfl f_El_23 d_El_submit_19 g1 rfl ?_
  refine x_iload_n 23 rfl d_El_submit_22 rfl ?_
  refine x_aald 24 rfl d_El_submit_23 g5 (t0 := 3) rfl (by rw [e1]; exact vp_in_nI hn (by decide)) (by rw [e1, nI_clamp (by omega)]; exact g6 _ hn) ?_
  refine x_iload_n 25 rfl d_El_submit_24 rfl ?_
  refine y_callV 28 rfl [_] _ rfl d_El_submit_25 g2 rfl c_El_38 rfl (Nat.le_of_ble_eq_true rfl) (Nat.le_of_ble_eq_true rfl) (Nat.le_of_ble_eq_true rfl) (s_Nd_accept hR (fun w' k1 k2 => ?_))
  have hc5 : ∀ x, b + 12 + 151 * cUn nn ≤ x → x < b + 12 + 151 * cUn nn + 5 → ∃ z, w.2.2 x = some z ∧ ∀ fs, z ≠ .inr (3, fs) := fun x x1 x2 => hR.cells x x1 (by omega)
  have hf := fr.S (X := X) (b + 1) dyn k2 hc5
  have fin := h w' (hL0.upd hn (hf.wide (by omega) (by omega)) (h7.own k2 hc5 (by omega) (by omega)) k1) (hf.wide (by omega) (by omega))
  refine x_if_eq 35 31 rfl d_El_submit_28 (by decide) (fun hc => ?_) (fun hc => ?_)
  · refine x_iconst 36 rfl d_El_submit_35 0 (by decide) ?_
    refine x_zret d_El_submit_36 rfl (by decide) ?_
    rw [(nB_0 _).mp hc] at fin
    exact fin
  · refine x_iconst 32 rfl d_El_submit_31 1 (by decide) ?_
    refine x_goto d_El_submit_32 36 (by decide) ?_
    refine x_zret d_El_submit_36 rfl (by decide) ?_
    rw [nB_ne hc] at fin
    exact fin
theorem s_El_begin (hX : xS X sb L xs tI tE mi) {nn : Int32} (hL : rLd X tE b dyn c0 s0 mo t σ w) (hI : lInv σ mo) (h : ∀ w' mo', mo' + 4 * lPot (lBeg t σ nn).1 ≤ mo + 4 * lPot σ → rLd X tE b dyn c0 s0 mo' t (lBeg t σ nn).1 w' → frS X (b + 1) dyn b (b + 616) w w' → P (some (.int (nB (lBeg t σ nn).2))) w') : xE (xGG X) 13 m_El_begin 0 [(0, .ref b), (1, .int nn)] [] w P := by
  have hL0 := hL
  obtain ⟨h1, h2, g1, ⟨f, g5, g6⟩, h6, h7⟩ := hL
  refine x_iload_n 1 rfl d_El_begin_0 rfl ?_
  refine y_call 4 rfl [_] _ rfl d_El_begin_1 c_El_30 rfl (Nat.le_of_ble_eq_true rfl) (Nat.le_of_ble_eq_true rfl) (Nat.le_of_ble_eq_true rfl) (s_El_isNode ?_)
  refine x_if_eq 23 7 rfl d_El_begin_4 (by decide) (fun hc => ?_) (fun hc => ?_)
  · refine x_iconst 24 rfl d_El_begin_23 0 (by decide) ?_
    refine x_zret d_El_begin_24 rfl (by decide) ?_
    rw [lBeg, if_neg (by unfold lNode; rw [(nB_0 _).mp hc]; decide)] at h
    exact h w mo (Nat.le_refl _) hL0 (frS.rf _ _ _ _ _ _)
  have y1 : lNode nn = true := nB_ne hc
  have hn := lNode_lt y1
  rw [lBeg, if_pos y1] at h
  have e1 : nn = nI (cUn nn) := (nI_cUn nn).symm
  have hR := h6 _ hn
  have g2 := hR.1
  have hG := (hI.1 _ hn).1
  have hmo := hI.2.1
  have hp := nSt_pot (t := t) hn hG
  refine x_aload_n 8 rfl d_El_begin_7 rfl ?_
  refine x_get 11 rfl f_El_23 d_El_begin_8 g1 rfl ?_
  refine x_iload_n 12 rfl d_El_begin_11 rfl ?_
  refine x_aald 13 rfl d_El_begin_12 g5 (t0 := 3) rfl (by rw [e1]; exact vp_in_nI hn (by decide)) (by rw [e1, nI_clamp (by omega)]; exact g6 _ hn) ?_
  refine y_callV 16 rfl [] _ rfl d_El_begin_13 g2 rfl c_El_41 rfl (Nat.le_of_ble_eq_true rfl) (Nat.le_of_ble_eq_true rfl) (Nat.le_of_ble_eq_true rfl) (s_Nd_start hX hn hG.1 hG.2.1 (by omega) (by omega) (by omega) h7 hR (fun w' k1 k2 => ?_))
  have fin := h w' _ (by have := lNd_pot (σ := σ) (ν := (nSt (cUn nn) t (σ.2.1 (cUn nn))).1) (q := qV σ.2.2 (nSt (cUn nn) t (σ.2.1 (cUn nn))).2) hn; dsimp only; omega) (hL0.upd hn (k2.wide (by omega) (by omega)) k1.1 k1.2) (k2.wide (by omega) (by omega))
  refine x_if_eq 23 19 rfl d_El_begin_16 (by decide) (fun hc => ?_) (fun hc => ?_)
  · refine x_iconst 24 rfl d_El_begin_23 0 (by decide) ?_
    refine x_zret d_El_begin_24 rfl (by decide) ?_
    rw [(nB_0 _).mp hc] at fin
    exact fin
  · refine x_iconst 20 rfl d_El_begin_19 1 (by decide) ?_
    refine x_goto d_El_begin_20 24 (by decide) ?_
    refine x_zret d_El_begin_24 rfl (by decide) ?_
    rw [nB_ne hc] at fin
    exact fin
end LD
