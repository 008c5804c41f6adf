/-! A NODE GOES ON WITH AN INSTANCE -/
def bEc (n e i : Nat) (β : sB) : sB × List sMg := if (β.1 0 && !β.1 1) = true then ((va_up β.1 1 true, β.2), [(n, e, i, 1, β.2 0, β.2 1)]) else (β, [])
def bRy (n e i : Nat) (β : sB) : sB × List sMg := match (if β.1 2 = true then none else bReady β) with
  | some root => ((va_up β.1 2 true, β.2), [(n, e, i, 2, root, 0)])
  | none => (β, [])
def bTk (β : sB) : sB := match (if β.2 2 = -1 then bProp β else none) with
  | some n => (β.1, va_up β.2 2 (nI n))
  | none => β
def aIn (α : sA) (bit : Nat) : sA := if α.1 0 = true then α else (va_up α.1 0 true, va_up α.2 1 bit)
def iB (n e i : Nat) (β : sB) : sB := bTk (bRy n e i (bEc n e i β).1).1
def iA (n e i : Nat) (t : Int32) (β : sB) (α : sA) : sA × List sMg := aGo n e i t 6 (if (iB n e i β).2 2 = -1 then α else aIn α 1)
def iM (n e i : Nat) (t : Int32) (β : sB) (α : sA) : List sMg := (bEc n e i β).2 ++ (bRy n e i (bEc n e i β).1).2 ++ (iA n e i t β α).2
def nOne (n : Nat) (t : Int32) (e i : Nat) (ν : sN) : sN × List sMg := (nUp ν (4 * e + i) (iB n e i (nB' ν e i)) (iA n e i t (nB' ν e i) (nA' ν e i)).1, iM n e i t (nB' ν e i) (nA' ν e i))
def nGive (ν : sN) (e j : Nat) : sN := nUp ν (4 * e + j) (nB' ν e j) (aIn (nA' ν e j) 0)
def nLk (n : Nat) (t : Int32) (e : Nat) : Nat → Nat → sN → sN × List sMg
  | 0, _, ν => (ν, [])
  | f + 1, i, ν => match nRf (nOne n t e i ν).1 e with
    | none => nOne n t e i ν
    | some j => ((nLk n t e f j (nGive (nOne n t e i ν).1 e j)).1, (nOne n t e i ν).2 ++ (nLk n t e f j (nGive (nOne n t e i ν).1 e j)).2)
def mNz (ms : List sMg) : Prop := ∀ m, m ∈ ms → m.2.2.2.1 ≠ 0
theorem mNz.nil : mNz [] := fun m hm => by cases hm
theorem mNz.one {m : sMg} (h : m.2.2.2.1 ≠ 0) : mNz [m] := fun x hx => by rw [List.mem_singleton.mp hx]; exact h
theorem mNz.app {a b : List sMg} (h : mNz a) (h2 : mNz b) : mNz (a ++ b) := fun m hm => by
  rcases List.mem_append.mp hm with z | z
  · exact h m z
  · exact h2 m z
theorem aCv_nz {me e i : Nat} {α : sA} {bit : Nat} : mNz (aCv me e i α bit).2 := by
  unfold aCv
  split
  · exact mNz.nil
  · exact mNz.one (by dsimp only; omega)
theorem aVt_nz {me e i : Nat} {α : sA} {bit : Nat} : mNz (aVt me e i α bit).2 := by
  unfold aVt
  split
  · exact aCv_nz
  · exact mNz.nil
theorem aCg_nz {me e i : Nat} {α : sA} {bit : Nat} : mNz (aCg me e i α bit).2 := by
  unfold aCg
  split
  · exact mNz.nil
  · exact mNz.one (by dsimp only; omega)
theorem aGt_nz {me e i : Nat} {α : sA} {bit : Nat} : mNz (aGt me e i α bit).2 := by
  unfold aGt
  split
  · exact aCg_nz
  · exact mNz.nil
theorem aTurn_nz {me e i : Nat} {α : sA} : mNz (aTurn me e i α).2 := by
  unfold aTurn aSeq
  dsimp only
  exact (((aCv_nz.app aVt_nz).app aVt_nz).app aGt_nz).app aGt_nz
theorem aGo_nz {me e i : Nat} {t : Int32} : ∀ (f : Nat) (α : sA), mNz (aGo me e i t f α).2 ∧ (aGo me e i t f α).2.length ≤ 5 * f := by
  intro f
  induction f with
  | zero => intro α; exact ⟨mNz.nil, Nat.le_refl _⟩
  | succ f ih =>
    intro α
    have h1 := aTurn_in (me := me) (e := e) (i := i) (α := α)
    have h2 := aTurn_nz (me := me) (e := e) (i := i) (α := α)
    rw [aGo]
    split
    · split
      · exact ⟨h2, by omega⟩
      · have h3 := ih (aFin t e i (aTurn me e i α).1)
        unfold aSeq
        dsimp only
        exact ⟨h2.app h3.1, by rw [List.length_append]; omega⟩
    · exact ⟨mNz.nil, Nat.zero_le _⟩
theorem bEc_nz {n e i : Nat} {β : sB} : mNz (bEc n e i β).2 ∧ (bEc n e i β).2.length ≤ 1 := by
  unfold bEc
  split
  · exact ⟨mNz.one (by dsimp only; omega), Nat.le_refl _⟩
  · exact ⟨mNz.nil, Nat.zero_le _⟩
theorem bRy_nz {n e i : Nat} {β : sB} : mNz (bRy n e i β).2 ∧ (bRy n e i β).2.length ≤ 1 := by
  unfold bRy
  split
  · exact ⟨mNz.one (by dsimp only; omega), Nat.le_refl _⟩
  · exact ⟨mNz.nil, Nat.zero_le _⟩
theorem iM_nz {n e i : Nat} {t : Int32} {β : sB} {α : sA} : mNz (iM n e i t β α) ∧ (iM n e i t β α).length ≤ 32 := by
  have h1 := bEc_nz (n := n) (e := e) (i := i) (β := β)
  have h2 := bRy_nz (n := n) (e := e) (i := i) (β := (bEc n e i β).1)
  have h3 := aGo_nz (me := n) (e := e) (i := i) (t := t) 6 (if (iB n e i β).2 2 = -1 then α else aIn α 1)
  refine ⟨(h1.1.app h2.1).app h3.1, ?_⟩
  unfold iM iA
  rw [List.length_append, List.length_append]
  omega
theorem rNt.mono {X : xPar} {tE nb dyn c0 s0 mo mo' : Nat} {q : Nat → List sMg} {w : xW} (h : rNt X tE nb dyn c0 s0 mo q w) (hm : mo ≤ mo') : rNt X tE nb dyn c0 s0 mo' q w := by
  obtain ⟨g1, g2, g3, g4, g5, g7, g8, ed, cap, k1, k2, k3, k4, k5, k6⟩ := h
  exact ⟨g1, g2, g3, g4, g5, g7, g8, ed, cap, k1, k2, k3, fun i hi => by have := k4 i hi; omega, by omega, by omega⟩
/-- what a node's going on leaves -/
def oN (X : xPar) (tE nb dyn c0 s0 mo n : Nat) (t : Int32) (a : Nat) (q : Nat → List sMg) (y : sN × List sMg) (w' : xW) : Prop := rNt X tE nb dyn c0 s0 (mo + 4 * y.2.length) (qV q y.2) w' ∧ rNd X nb n t a y.1 w'
section LK
variable {X : xPar} {sb L : Nat} {xs : Nat → Int32} {tI tE mi nb dyn c0 s0 mo n e i a : Nat} {t : Int32} {q : Nat → List sMg} {ν : sN} {w : xW} {P : Option Value → xW → Prop}
theorem s_Nd_one (hX : xS X sb L xs tI tE mi) {cc ii : Int32} (hii : ii = nI i) (hi : i < 4) (hep : ν.1 = e + 1) (he : e < 4) (hmo : mo + 50 < 90000) (ha : nb + 10 ≤ a) (had : a + 151 ≤ dyn) (hN : rNt X tE nb dyn c0 s0 mo q w) (hR : rNd X nb n t a ν w) (h : ∀ w', oN X tE nb dyn c0 s0 mo n t a q (nOne n t e i ν) w' → frS X nb dyn a (a + 151) w w' → xE (xGG X) 10 m_Nd_goOnAndLook 63 [(0, .ref a), (3, .int cc)] [] w' P) : xE (xGG X) 10 m_Nd_goOnAndLook 14 [(0, .ref a), (2, .int ii), (3, .int cc)] [] w P := by
  subst hii
  have g1 := hR.1
  have hB := hR.bc he hi
  have hA := hR.ag he hi
  have hbn := hN.2.2.2.2.2.2.1
  have n1 := bEc_nz (n := n) (e := e) (i := i) (β := nB' ν e i)
  have n2 := bRy_nz (n := n) (e := e) (i := i) (β := (bEc n e i (nB' ν e i)).1)
  have n4 := iM_nz (n := n) (e := e) (i := i) (t := t) (β := nB' ν e i) (α := nA' ν e i)
  -- the agreement goes on
  have fin : ∀ (α1 : sA) (w4 : xW) (lc : List (Nat × Value)), rNt X tE nb dyn c0 s0 (mo + (bEc n e i (nB' ν e i)).2.length + (bRy n e i (bEc n e i (nB' ν e i)).1).2.length) (qMs (qMs q (bEc n e i (nB' ν e i)).2) (bRy n e i (bEc n e i (nB' ν e i)).1).2) w4 → rBc X nb n e i (a + 7 + 9 * (4 * e + i)) (iB n e i (nB' ν e i)) w4 → rAg X nb n e i t (a + 13 + 9 * (4 * e + i)) α1 w4 → frS X nb dyn (a + 7 + 9 * (4 * e + i)) (a + 16 + 9 * (4 * e + i)) w w4 → α1 = (if (iB n e i (nB' ν e i)).2 2 = -1 then nA' ν e i else aIn (nA' ν e i) 1) → xlk lc 0 = some (.ref a) → xlk lc 3 = some (.int cc) → xlk lc 5 = some (.ref (a + 13 + 9 * (4 * e + i))) → xE (xGG X) 10 m_Nd_goOnAndLook 58 lc [] w4 P := by
    intro α1 w4 lc hN4 hB4 hA4 f4 hα l0 l3 l5
    refine xE.fit (lc' := [(0, .ref a), (3, .int cc), (5, .ref (a + 13 + 9 * (4 * e + i)))]) ?_ (by simp only [List.map_cons, List.map_nil, l0, l3, l5])
    have k4 := hA4.1
    refine x_aload 60 rfl d_Nd_goOnAndLook_58 rfl ?_
    refine y_callV 63 rfl [] _ rfl d_Nd_goOnAndLook_60 k4 rfl c_Nd_144 rfl (Nat.le_of_ble_eq_true rfl) (Nat.le_of_ble_eq_true rfl) (Nat.le_of_ble_eq_true rfl) (s_Ag_goOn hX he hi (by omega) hN4 hA4 (by omega) (by omega) (fun w5 k5 f5 => ?_))
    rw [hα] at k5
    have k5 : oA X tE nb dyn c0 s0 _ n e i _ t _ (iA n e i t (nB' ν e i) (nA' ν e i)) w5 := k5
    refine xE.fit (h w5 ⟨?_, ?_⟩ ?_) rfl
    · refine rNt.mono (mo := mo + (iM n e i t (nB' ν e i) (nA' ν e i)).length) ?_ (by show _ ≤ mo + 4 * (iM n e i t (nB' ν e i) (nA' ν e i)).length; omega)
      show rNt X tE nb dyn c0 s0 _ (qV q (iM n e i t (nB' ν e i) (nA' ν e i))) w5
      rw [qV_Ms _ _ n4.1]
      unfold iM
      rw [← qMs_app, ← qMs_app, List.length_append, List.length_append, ← Nat.add_assoc, ← Nat.add_assoc]
      exact k5.1
    · refine hR.inst (k := 4 * e + i) (by omega) (fun x x1 x2 x3 => ?_) ?_ ?_
      · exact (f5.1 x (by omega) (by omega) (by omega) (fun j hj => by omega)).trans (f4.1 x (by omega) (by omega) (by omega) (fun j hj => by omega))
      · rw [show (4 * e + i) / 4 = e from by omega, show (4 * e + i) % 4 = i from by omega]
        exact hB4.kept (fun x x1 x2 => f5.1 x (by omega) (by omega) (by omega) (fun j hj => by omega))
      · rw [show (4 * e + i) / 4 = e from by omega, show (4 * e + i) % 4 = i from by omega]
        exact k5.2
    · exact (f4.wide (by omega) (by omega)).tr (f5.wide (by omega) (by omega))
  have kA : ∀ w', frS X nb dyn (a + 7 + 9 * (4 * e + i)) (a + 7 + 9 * (4 * e + i) + 6) w w' → rAg X nb n e i t (a + 13 + 9 * (4 * e + i)) (nA' ν e i) w' := fun w' f => hA.kept (fun x x1 x2 => f.1 x (by omega) (by omega) (by omega) (fun j hj => by omega))
  have g2 := hB.1
  refine x_aload_n 15 rfl d_Nd_goOnAndLook_14 rfl ?_
  refine x_iload_n 16 rfl d_Nd_goOnAndLook_15 rfl ?_
  refine y_callV 19 rfl [_] _ rfl d_Nd_goOnAndLook_16 g1 rfl c_Nd_122 rfl (Nat.le_of_ble_eq_true rfl) (Nat.le_of_ble_eq_true rfl) (Nat.le_of_ble_eq_true rfl) (s_Nd_broadcastOf rfl hi hep he hR ?_)
  refine x_astore 21 rfl d_Nd_goOnAndLook_19 (by decide) ?_
  refine x_aload_n 22 rfl d_Nd_goOnAndLook_21 rfl ?_
  refine x_iload_n 23 rfl d_Nd_goOnAndLook_22 rfl ?_
  refine y_callV 26 rfl [_] _ rfl d_Nd_goOnAndLook_23 g1 rfl c_Nd_126 rfl (Nat.le_of_ble_eq_true rfl) (Nat.le_of_ble_eq_true rfl) (Nat.le_of_ble_eq_true rfl) (s_Nd_agreementOf rfl hi hep he hR ?_)
  refine x_astore 28 rfl d_Nd_goOnAndLook_26 (by decide) ?_
  refine x_aload 30 rfl d_Nd_goOnAndLook_28 rfl ?_
  refine y_callV 33 rfl [] _ rfl d_Nd_goOnAndLook_30 g2 rfl c_Nd_130 rfl (Nat.le_of_ble_eq_true rfl) (Nat.le_of_ble_eq_true rfl) (Nat.le_of_ble_eq_true rfl) (s_Bc_sendEchoIfDue hX (by omega) hN hB (by omega) (by omega) (fun w1 k1 f1 => ?_))
  have k1 : rNt X tE nb dyn c0 s0 (mo + (bEc n e i (nB' ν e i)).2.length) (qMs q (bEc n e i (nB' ν e i)).2) w1 ∧ rBc X nb n e i (a + 7 + 9 * (4 * e + i)) (bEc n e i (nB' ν e i)).1 w1 := by
    unfold bEc
    split at k1
    · rename_i z
      rw [if_pos z]; exact k1
    · rename_i z
      rw [if_neg z]; exact ⟨by rw [qMs_nil]; exact k1.1, k1.2⟩
  obtain ⟨hN1, hB1⟩ := k1
  have g3 := hB1.1
  refine x_aload 35 rfl d_Nd_goOnAndLook_33 rfl ?_
  refine y_callV 38 rfl [] _ rfl d_Nd_goOnAndLook_35 g3 rfl c_Nd_133 rfl (Nat.le_of_ble_eq_true rfl) (Nat.le_of_ble_eq_true rfl) (Nat.le_of_ble_eq_true rfl) (s_Bc_sendReadyIfDue hX (by omega) hN1 hB1 (by omega) (by omega) (fun w2 k2 f2 => ?_))
  have k2 : rNt X tE nb dyn c0 s0 (mo + (bEc n e i (nB' ν e i)).2.length + (bRy n e i (bEc n e i (nB' ν e i)).1).2.length) (qMs (qMs q (bEc n e i (nB' ν e i)).2) (bRy n e i (bEc n e i (nB' ν e i)).1).2) w2 ∧ rBc X nb n e i (a + 7 + 9 * (4 * e + i)) (bRy n e i (bEc n e i (nB' ν e i)).1).1 w2 := by
    unfold bRy
    generalize (if (bEc n e i (nB' ν e i)).1.1 2 = true then none else bReady (bEc n e i (nB' ν e i)).1) = o at k2
    cases o with
    | none => exact ⟨by rw [qMs_nil]; exact k2.1, k2.2⟩
    | some r => exact k2
  obtain ⟨hN2, hB2⟩ := k2
  have g4 := hB2.1
  refine x_aload 40 rfl d_Nd_goOnAndLook_38 rfl ?_
  refine y_callV 43 rfl [] _ rfl d_Nd_goOnAndLook_40 g4 rfl c_Nd_136 rfl (Nat.le_of_ble_eq_true rfl) (Nat.le_of_ble_eq_true rfl) (Nat.le_of_ble_eq_true rfl) (s_Bc_takeProposalIfDue hX hB2 (fun w3 k3 f3 => ?_))
  have hB3 : rBc X nb n e i (a + 7 + 9 * (4 * e + i)) (iB n e i (nB' ν e i)) w3 := k3
  have hN3 := hN2.own f3 hB2.cells (by omega) (by omega)
  have F3 := (f1.tr f2).tr (fr.S nb dyn f3 hB2.cells)
  have hA3 := kA w3 F3
  have g5 := hB3.1
  have F3' := F3.wide (lo' := a + 7 + 9 * (4 * e + i)) (hi' := a + 16 + 9 * (4 * e + i)) (by omega) (by omega)
  refine x_aload 45 rfl d_Nd_goOnAndLook_43 rfl ?_
  refine x_get 48 rfl f_Nd_139 d_Nd_goOnAndLook_45 g5 rfl ?_
  refine x_iconst 49 rfl d_Nd_goOnAndLook_48 (-1) (by decide) ?_
  refine x_icmp_eq 58 52 rfl d_Nd_goOnAndLook_49 (by decide) (fun hc => ?_) (fun hc => ?_)
  · exact fin _ w3 _ hN3 hB3 hA3 F3' (by rw [if_pos hc]) rfl rfl rfl
  · have g6 := hA3.1
    refine x_aload 54 rfl d_Nd_goOnAndLook_52 rfl ?_
    refine x_iconst 55 rfl d_Nd_goOnAndLook_54 1 (by decide) ?_
    refine y_callV 58 rfl [_] _ rfl d_Nd_goOnAndLook_55 g6 rfl c_Nd_141 rfl (Nat.le_of_ble_eq_true rfl) (Nat.le_of_ble_eq_true rfl) (Nat.le_of_ble_eq_true rfl) (s_Ag_giveInput (bit := 1) rfl (by decide) hA3 (fun w4 k4 f4 => ?_))
    refine fin _ w4 _ (hN3.own f4 hA3.cells (by omega) (by omega)) (hB3.kept (fun x x1 x2 => f4.2.2 x (by omega))) k4 (F3'.tr ((fr.S nb dyn f4 hA3.cells).wide (by omega) (by omega))) (by rw [if_neg hc]; rfl) rfl rfl rfl
end LK
