/-! THE REFERENCE: SETTLE -/
/-- how many instances have no input -/
def uIn (ν : sN) (e : Nat) : Nat := cN (fun k => !(nA' ν e k).1 0) 4
theorem cN_mono {g h : Nat → Bool} : ∀ n, (∀ k, k < n → g k = true → h k = true) → cN g n ≤ cN h n := by
  intro n
  induction n with
  | zero => intro _; exact Nat.le_refl _
  | succ n ih =>
    intro H
    have h1 := ih (fun k hk => H k (by omega))
    have h2 := H n (by omega)
    show cN g n + cond (g n) 1 0 ≤ cN h n + cond (h n) 1 0
    cases hg : g n
    · cases h n <;> simp <;> omega
    · rw [h2 hg]; simp; omega
theorem cN_lt {g h : Nat → Bool} {j : Nat} : ∀ n, j < n → (∀ k, k < n → g k = true → h k = true) → g j = false → h j = true → cN g n < cN h n := by
  intro n
  induction n with
  | zero => intro hj; exact absurd hj (by omega)
  | succ n ih =>
    intro hj H h1 h2
    show cN g n + cond (g n) 1 0 < cN h n + cond (h n) 1 0
    by_cases z : j = n
    · subst z
      have := cN_mono j (fun k hk => H k (by omega))
      rw [h1, h2]; simp; omega
    · have h3 := ih (by omega) (fun k hk => H k (by omega)) h1 h2
      have h4 := H n (by omega)
      cases hg : g n
      · cases h n <;> simp <;> omega
      · rw [h4 hg]; simp; omega
section UI
variable {n e i : Nat} {t : Int32} {ν : sN}
theorem aGo_0 : ∀ (f : Nat) (α : sA), (aGo n e i t f α).1.1 0 = α.1 0 := by
  intro f
  induction f with
  | zero => intro α; rfl
  | succ f ih =>
    intro α
    rw [aGo]
    split
    · split
      · exact aTurn_in.1
      · unfold aSeq
        dsimp only
        rw [ih, aFin_in, aTurn_in.1]
    · rfl
theorem iA_0 {β : sB} {α : sA} (h : α.1 0 = true) : (iA n e i t β α).1.1 0 = true := by
  unfold iA
  rw [aGo_0]
  split
  · exact h
  · unfold aIn; rw [if_pos h]; exact h
theorem nUp_nA {j : Nat} {β : sB} {α : sA} (h : j = i) : nA' (nUp ν (4 * e + i) β α) e j = α := by
  subst h; exact nUp_a
theorem nUp_nA' {j : Nat} {β : sB} {α : sA} (h : j ≠ i) : nA' (nUp ν (4 * e + i) β α) e j = nA' ν e j := nUp_ao (by omega)
theorem uIn_one : uIn (nOne n t e i ν).1 e ≤ uIn ν e := by
  refine cN_mono 4 (fun k _ => ?_)
  show (!(nA' (nUp ν (4 * e + i) (iB n e i (nB' ν e i)) (iA n e i t (nB' ν e i) (nA' ν e i)).1) e k).1 0) = true → _
  by_cases z : k = i
  · rw [nUp_nA z]
    intro y
    cases hh : (nA' ν e k).1 0
    · rfl
    · rw [z] at hh
      rw [iA_0 hh] at y; cases y
  · rw [nUp_nA' z]; exact id
theorem uIn_give {j : Nat} (hj : j < 4) (h : (nA' ν e j).1 0 = false) : uIn (nGive ν e j) e < uIn ν e := by
  refine cN_lt (j := j) 4 hj (fun k _ => ?_) ?_ (by rw [h]; rfl)
  · show (!(nA' (nUp ν (4 * e + j) (nB' ν e j) (aIn (nA' ν e j) 0)) e k).1 0) = true → _
    by_cases z : k = j
    · subst z; intro _; rw [h]; rfl
    · rw [nUp_nA' z]; exact id
  · show (!(nA' (nUp ν (4 * e + j) (nB' ν e j) (aIn (nA' ν e j) 0)) e j).1 0) = false
    rw [nUp_nA rfl]
    unfold aIn
    rw [h, if_neg (by decide)]
    rfl
theorem nRf_in {j : Nat} (h : nRf ν e = some j) : (nA' ν e j).1 0 = false := by
  unfold nRf at h
  split at h
  · have := List.find?_some h
    cases hh : (nA' ν e j).1 0
    · rfl
    · rw [hh] at this; cases this
  · cases h
theorem uIn_le : uIn ν e ≤ 4 := cN_le _ _
end UI
section SE2
variable {X : xPar} {m0 : Nat} {t : Int32} {n e i : Nat} {s : sS} {M0 : Nat → Nat → Int32} {lg : List sPo} {ν : sN} {w0 w : xW} {P : Option Value → xW → Prop}
/-- from one instance on, to the end of those that get the input 0 -/
theorem s_set_lk (hn : n < 4) (he : e < 4) {c : Int32} : ∀ (f i : Nat) (ν : sN) (lg : List sPo) (w : xW) (u : Int32), i < 4 → uIn ν e < f → ν.1 = e + 1 → lg.length + nPot ν < 1700 → mN X m0 t n (s.1, s.2.1, s.2.2.1, s.2.2.2.1, u, c) M0 lg ν w0 w →
    (∀ w', nMay (nLk n t e f i ν).1 e = false → mN X m0 t n (s.1, s.2.1, s.2.2.1, s.2.2.2.1, -1, c) M0 (lg ++ pMs (nLk n t e f i ν).2) (nLk n t e f i ν).1 w0 w' → xE (xGG X) 6 m_Mo_settle 0 [(0, .ref m0), (1, .int (nI n))] [] w' P) →
    (∀ w', nMay (nLk n t e f i ν).1 e = true → e = 3 → mN X m0 t n (s.1, s.2.1, s.2.2.1, s.2.2.2.1, -1, 4) M0 (lg ++ pMs (nLk n t e f i ν).2) (nCm (nLk n t e f i ν).1 e) w0 w' → xE (xGG X) 6 m_Mo_settle 0 [(0, .ref m0), (1, .int (nI n))] [] w' P) →
    (∀ w', nMay (nLk n t e f i ν).1 e = true → e < 3 → mN X m0 t n (s.1, s.2.1, s.2.2.1, s.2.2.2.1, -1, 0) M0 (lg ++ pMs ((nLk n t e f i ν).2 ++ [nPr n (nCm (nLk n t e f i ν).1 e)])) (nCm (nLk n t e f i ν).1 e) w0 w' → xE (xGG X) 6 m_Mo_settle 0 [(0, .ref m0), (1, .int (nI n))] [] w' P) →
    xE (xGG X) 6 m_Mo_settle 49 [(0, .ref m0), (1, .int (nI n)), (2, .int (nI i))] [] w P := by
  intro f
  induction f with
  | zero => intro i ν lg w u _ hu; exact absurd hu (by omega)
  | succ f ih =>
    intro i ν lg w u hi hu hep hl hm h2 h3 h4
    obtain ⟨gv, g, M, hR, hg, hN, hF, hw, hI⟩ := hm
    have g1 := hR.1
    have hpot := nOne_pot (t := t) hn he hi (fun k hk => (hI.1 k hk).1)
    have hu1 := uIn_one (n := n) (e := e) (i := i) (t := t) (ν := ν)
    have hL : nLk n t e (f + 1) i ν = match nRf (nOne n t e i ν).1 e with
      | none => nOne n t e i ν
      | some j => ((nLk n t e f j (nGive (nOne n t e i ν).1 e j)).1, (nOne n t e i ν).2 ++ (nLk n t e f j (nGive (nOne n t e i ν).1 e j)).2) := rfl
    have ep1 : (nOne n t e i ν).1.1 = e + 1 := hep
    rw [hL] at h2 h3 h4
    refine x_aload_n 50 rfl d_Mo_settle_49 rfl ?_
    refine x_iconst 51 rfl d_Mo_settle_50 (-1) (by decide) ?_
    refine x_put 54 rfl p_Mo_165 (fun h => nomatch h) d_Mo_settle_51 g1 rfl rfl (Nat.le_of_ble_eq_true rfl) ?_
    refine x_iconst 55 rfl d_Mo_settle_54 0 (by decide) ?_
    refine x_istore_n 56 rfl d_Mo_settle_55 (by decide) ?_
    have R1 : rMo X m0 t (s.1, s.2.1, nI lg.length, gv, -1, c) M _ := hR.fld
    generalize hw1 : xset w m0 _ = w1
    replace R1 : rMo X m0 t (s.1, s.2.1, nI lg.length, gv, -1, c) M w1 := by rw [← hw1]; exact R1
    have f1 : fr w0 w1 m0 (m0 + 31) := by rw [← hw1]; exact hw.set _ (by omega) (by omega)
    refine xE.fit (s_set_one (s := (s.1, s.2.1, s.2.2.1, s.2.2.2.1, -1, c)) hn he hi hep hl ⟨gv, g, M, R1, hg, hN, hF, f1, hI⟩ (fun w2 m2 => ?_)) rfl
    generalize hy : nOne n t e i ν = y at m2 hpot hu1 h2 h3 h4 ep1
    have g2 : ∃ s', w2.2.2 m0 = some (.inr (9, fMo m0 t s')) := by
      obtain ⟨gv, g, M, hR, -⟩ := m2
      exact ⟨_, hR.1⟩
    obtain ⟨s', g2⟩ := g2
    have len2 : (lg ++ pMs y.2).length = lg.length + y.2.length := by rw [List.length_append, pMs_len]
    refine x_aload_n 79 rfl d_Mo_settle_78 rfl ?_
    refine x_iload_n 80 rfl d_Mo_settle_79 rfl ?_
    refine y_callV 83 rfl [_] _ rfl d_Mo_settle_80 g2 rfl c_Mo_199 rfl (Nat.le_of_ble_eq_true rfl) (Nat.le_of_ble_eq_true rfl) (Nat.le_of_ble_eq_true rfl) (s_Mo_look rfl hn he ep1 (by omega) m2 (fun j w3 a1 a2 => ?_) (fun a1 a2 => ?_) (fun w3 a1 a2 a3 a4 => ?_) (fun w3 a1 a2 a3 a4 => ?_))
    · rw [a1] at h2 h3 h4
      dsimp only at h2 h3 h4
      have hj := nRf_lt a1
      have a2' := a2
      obtain ⟨gv3, g3, M3, hR3, hg3, hN3, hF3, hw3, hI3⟩ := a2
      have k1 := hR3.1
      have k3 := hR3.a3
      have e3 : M3 3 n = nI e := by rw [hN3.1]; show iD y.1.1 = nI e; rw [ep1, nI_ep]
      have hgp := nGive_pot (ν := y.1) he hj
      have hgu := uIn_give hj (nRf_in a1)
      refine x_goto d_Mo_settle_83 0 (by decide) ?_
      refine x_aload_n 1 rfl d_Mo_settle_0 rfl ?_
      refine x_get 4 rfl f_Mo_19 d_Mo_settle_1 k1 rfl ?_
      refine x_iload_n 5 rfl d_Mo_settle_4 rfl ?_
      refine x_iald 6 rfl d_Mo_settle_5 k3 (t0 := 0) rfl (vp_in_nI (by omega) (by decide)) ?_
      refine x_iconst 7 rfl d_Mo_settle_6 4 (by decide) ?_
      rw [nI_clamp (by omega), e3]
      refine x_icmp_ge 86 10 rfl d_Mo_settle_7 (by decide) (fun hc => absurd hc (nI_ge (a := e) (b := 4) (by omega) (by decide))) (fun hc => ?_)
      refine x_aload_n 11 rfl d_Mo_settle_10 rfl ?_
      refine x_get 14 rfl f_Mo_165 d_Mo_settle_11 k1 rfl ?_
      refine x_if_ge 25 17 rfl d_Mo_settle_14 (by decide) (fun hc => ?_) (fun hc => absurd (nI_le (a := 0) (b := j) (by omega) (by omega)) hc)
      refine x_aload_n 26 rfl d_Mo_settle_25 rfl ?_
      refine x_get 29 rfl f_Mo_165 d_Mo_settle_26 k1 rfl ?_
      refine x_istore_n 30 rfl d_Mo_settle_29 (by decide) ?_
      refine x_iload_n 31 rfl d_Mo_settle_30 rfl ?_
      refine x_if_ge 49 34 rfl d_Mo_settle_31 (by decide) (fun hc => ?_) (fun hc => absurd (nI_le (a := 0) (b := j) (by omega) (by omega)) hc)
      have assoc : ∀ z : List sMg, lg ++ pMs (y.2 ++ z) = lg ++ pMs y.2 ++ pMs z := fun z => by rw [pMs_app, List.append_assoc]
      refine xE.fit (ih j (nGive y.1 e j) (lg ++ pMs y.2) w3 (nI j) hj (by omega) ep1 (by omega) a2' (fun w4 b1 b2 => h2 w4 b1 ?_) (fun w4 b1 b2 b3 => h3 w4 b1 b2 ?_) (fun w4 b1 b2 b3 => h4 w4 b1 b2 ?_)) rfl
      · rw [assoc]; exact b2
      · rw [assoc]; exact b3
      · rw [List.append_assoc, assoc]; exact b3
    · rw [a1] at h2
      refine x_goto d_Mo_settle_83 0 (by decide) ?_
      exact xE.fit (h2 w2 a2 m2) rfl
    · rw [a1] at h3
      refine x_goto d_Mo_settle_83 0 (by decide) ?_
      exact xE.fit (h3 w3 a2 a3 a4) rfl
    · rw [a1] at h4
      refine x_goto d_Mo_settle_83 0 (by decide) ?_
      refine xE.fit (h4 w3 a2 a3 ?_) rfl
      rw [pMs_app, ← List.append_assoc]
      exact a4
theorem nGw_no {f e nx en : Nat} {ν : sN} (h : en < nx) : nGw n t f e nx en ν = (ν, []) := by
  cases f with
  | zero => rfl
  | succ f => rw [nGw, if_neg (by omega)]
theorem nLk_uIn {e nx : Nat} {ν : sN} : uIn ν e < 5 := by have := uIn_le (ν := ν) (e := e); omega
theorem nGw_s {f e nx en : Nat} {ν : sN} (h : nx ≤ en) : nGw n t (f + 1) e nx en ν = (if nMay (nLk n t e 5 nx ν).1 e = true then (if e = 3 then (nCm (nLk n t e 5 nx ν).1 e, (nLk n t e 5 nx ν).2) else ((nGw n t f (e + 1) 0 3 (nCm (nLk n t e 5 nx ν).1 e)).1, ((nLk n t e 5 nx ν).2 ++ [nPr n (nCm (nLk n t e 5 nx ν).1 e)]) ++ (nGw n t f (e + 1) 0 3 (nCm (nLk n t e 5 nx ν).1 e)).2)) else ((nGw n t f e (nx + 1) en (nLk n t e 5 nx ν).1).1, (nLk n t e 5 nx ν).2 ++ (nGw n t f e (nx + 1) en (nLk n t e 5 nx ν).1).2)) := by
  rw [nGw, if_pos h]
/-- the reference settles, from one instance of the row on -/
theorem s_set_go (hn : n < 4) : ∀ (f e nx : Nat) (ν : sN) (lg : List sPo) (w : xW), e < 4 → nx ≤ 4 → 4 * (3 - e) + (4 - nx) < f → ν.1 = e + 1 → lg.length + nPot ν < 1700 → mN X m0 t n (s.1, s.2.1, s.2.2.1, s.2.2.2.1, -1, nI nx) M0 lg ν w0 w →
    (∀ w' u c, mN X m0 t n (s.1, s.2.1, s.2.2.1, s.2.2.2.1, u, c) M0 (lg ++ pMs (nGw n t f e nx 3 ν).2) (nGw n t f e nx 3 ν).1 w0 w' → P none w') →
    xE (xGG X) 6 m_Mo_settle 0 [(0, .ref m0), (1, .int (nI n))] [] w P := by
  intro f
  induction f with
  | zero => intro e nx ν lg w _ _ hf; exact absurd hf (by omega)
  | succ f ih =>
    intro e nx ν lg w he hnx hf hep hl hm h
    have hm0 := hm
    obtain ⟨gv, g, M, hR, hg, hN, hF, hw, hI⟩ := hm
    have k1 := hR.1
    have k3 := hR.a3
    have e3 : M 3 n = nI e := by rw [hN.1, hep, nI_ep]
    refine x_aload_n 1 rfl d_Mo_settle_0 rfl ?_
    refine x_get 4 rfl f_Mo_19 d_Mo_settle_1 k1 rfl ?_
    refine x_iload_n 5 rfl d_Mo_settle_4 rfl ?_
    refine x_iald 6 rfl d_Mo_settle_5 k3 (t0 := 0) rfl (vp_in_nI (by omega) (by decide)) ?_
    refine x_iconst 7 rfl d_Mo_settle_6 4 (by decide) ?_
    rw [nI_clamp (by omega), e3]
    refine x_icmp_ge 86 10 rfl d_Mo_settle_7 (by decide) (fun hc => absurd hc (nI_ge (a := e) (b := 4) (by omega) (by decide))) (fun hc => ?_)
    refine x_aload_n 11 rfl d_Mo_settle_10 rfl ?_
    refine x_get 14 rfl f_Mo_165 d_Mo_settle_11 k1 rfl ?_
    refine x_if_ge 25 17 rfl d_Mo_settle_14 (by decide) (fun hc => absurd (show (0 : Int32) ≤ -1 from hc) (by decide)) (fun hc => ?_)
    refine x_aload_n 18 rfl d_Mo_settle_17 rfl ?_
    refine x_get 21 rfl f_Mo_168 d_Mo_settle_18 k1 rfl ?_
    refine x_iconst 22 rfl d_Mo_settle_21 4 (by decide) ?_
    refine x_icmp_ge 86 25 rfl d_Mo_settle_22 (by decide) (fun hc => ?_) (fun hc => ?_)
    · have z : nx = 4 := by
        by_cases z : nx < 4
        · exact absurd hc (nI_ge (a := nx) (b := 4) z (by decide))
        · omega
      refine x_vret d_Mo_settle_86 rfl ?_
      rw [nGw_no (by omega)] at h
      exact h w _ _ (by rw [pMs_nil]; exact hm0)
    have z : nx < 4 := by
      by_cases z : nx < 4
      · exact z
      · exact absurd (nI_le (a := 4) (b := nx) (by omega) (by omega)) hc
    rw [nGw_s (by omega)] at h
    refine x_aload_n 26 rfl d_Mo_settle_25 rfl ?_
    refine x_get 29 rfl f_Mo_165 d_Mo_settle_26 k1 rfl ?_
    refine x_istore_n 30 rfl d_Mo_settle_29 (by decide) ?_
    refine x_iload_n 31 rfl d_Mo_settle_30 rfl ?_
    refine x_if_ge 49 34 rfl d_Mo_settle_31 (by decide) (fun hc => absurd (show (0 : Int32) ≤ -1 from hc) (by decide)) (fun hc => ?_)
    refine x_aload_n 35 rfl d_Mo_settle_34 rfl ?_
    refine x_get 38 rfl f_Mo_168 d_Mo_settle_35 k1 rfl ?_
    refine x_istore_n 39 rfl d_Mo_settle_38 (by decide) ?_
    refine x_aload_n 40 rfl d_Mo_settle_39 rfl ?_
    refine x_dup 41 rfl d_Mo_settle_40 rfl ?_
    refine x_get 44 rfl f_Mo_168 d_Mo_settle_41 k1 rfl ?_
    refine x_iconst 45 rfl d_Mo_settle_44 1 (by decide) ?_
    refine x_iadd 46 rfl d_Mo_settle_45 ?_
    refine x_put 49 rfl p_Mo_168 (fun h => nomatch h) d_Mo_settle_46 k1 rfl rfl (Nat.le_of_ble_eq_true rfl) ?_
    rw [nI_1]
    have R1 : rMo X m0 t (s.1, s.2.1, nI lg.length, gv, -1, nI (nx + 1)) M _ := hR.fld
    generalize hw1 : xset w m0 _ = w1
    replace R1 : rMo X m0 t (s.1, s.2.1, nI lg.length, gv, -1, nI (nx + 1)) M w1 := by rw [← hw1]; exact R1
    have f1 : fr w0 w1 m0 (m0 + 31) := by rw [← hw1]; exact hw.set _ (by omega) (by omega)
    have hk := nLk_keep (n := n) (t := t) (e := e) 5 nx ν
    have hp := nLk_pot (t := t) hn he 5 nx ν z (fun k hk => (hI.1 k hk).1)
    refine xE.fit (s_set_lk (s := s) (c := nI (nx + 1)) hn he 5 nx ν lg w1 (-1) z (by have := uIn_le (ν := ν) (e := e); omega) hep hl ⟨gv, g, M, R1, hg, hN, hF, f1, hI⟩ (fun w2 b1 b2 => ?_) (fun w2 b1 b2 b3 => ?_) (fun w2 b1 b2 b3 => ?_)) rfl
    all_goals generalize nLk n t e 5 nx ν = y at *
    · rw [b1, if_neg (by decide)] at h
      refine ih e (nx + 1) y.1 (lg ++ pMs y.2) w2 he (by omega) (by omega) (hk.1.trans hep) (by rw [List.length_append, pMs_len]; omega) b2 (fun w3 u c b3 => h w3 u c ?_)
      rw [pMs_app, ← List.append_assoc]
      exact b3
    · rw [b1, if_pos rfl, if_pos b2] at h
      obtain ⟨gv', g', M', hR', hg', hN', -⟩ := id b3
      have k1 := hR'.1
      have k3 := hR'.a3
      have e3 : M' 3 n = nI 4 := by rw [hN'.1]; show iD (y.1.1 + 1) = nI 4; rw [hk.1, hep, b2]; rfl
      refine x_aload_n 1 rfl d_Mo_settle_0 rfl ?_
      refine x_get 4 rfl f_Mo_19 d_Mo_settle_1 k1 rfl ?_
      refine x_iload_n 5 rfl d_Mo_settle_4 rfl ?_
      refine x_iald 6 rfl d_Mo_settle_5 k3 (t0 := 0) rfl (vp_in_nI (by omega) (by decide)) ?_
      refine x_iconst 7 rfl d_Mo_settle_6 4 (by decide) ?_
      rw [nI_clamp (by omega), e3]
      refine x_icmp_ge 86 10 rfl d_Mo_settle_7 (by decide) (fun hc => ?_) (fun hc => absurd (by decide) hc)
      refine x_vret d_Mo_settle_86 rfl ?_
      exact h w2 _ _ b3
    · rw [b1, if_pos rfl, if_neg (by omega)] at h
      have hcp := nCm_pot (ν := y.1) (e := e) (hk.1.trans hep)
      rw [if_pos b2] at hcp
      refine ih (e + 1) 0 (nCm y.1 e) (lg ++ pMs (y.2 ++ [nPr n (nCm y.1 e)])) w2 (by omega) (by omega) (by omega) (by show y.1.1 + 1 = e + 1 + 1; rw [hk.1, hep]) (by rw [List.length_append, pMs_len, List.length_append, List.length_singleton]; omega) b3 (fun w3 u c b4 => h w3 u c ?_)
      rw [pMs_app, ← List.append_assoc]
      exact b4
/-- settle, of all instances -/
theorem s_settle_all {nn : Int32} (q1 : nn = nI n) (hn : n < 4) (he : e < 4) (hep : ν.1 = e + 1) (hl : lg.length + nPot ν < 1700) (hu : s.2.2.2.2 = (-1, 0)) (hm : mN X m0 t n s M0 lg ν w0 w) (h : ∀ w' u c, mN X m0 t n (s.1, s.2.1, s.2.2.1, s.2.2.2.1, u, c) M0 (lg ++ pMs (nGw n t 20 e 0 3 ν).2) (nGw n t 20 e 0 3 ν).1 w0 w' → P none w') : xE (xGG X) 6 m_Mo_settle 0 [(0, .ref m0), (1, .int nn)] [] w P := by
  subst q1
  refine s_set_go (s := s) hn 20 e 0 ν lg w he (by omega) (by omega) hep hl ?_ h
  unfold mN at hm ⊢
  rw [hu] at hm
  exact hm
/-- settle, of one instance -/
theorem s_settle_at {nn : Int32} (q1 : nn = nI n) (hn : n < 4) (he : e < 4) (hi : i < 4) (hep : ν.1 = e + 1) (hl : lg.length + nPot ν < 1700) (hu : s.2.2.2.2 = (nI i, 4)) (hm : mN X m0 t n s M0 lg ν w0 w) (h : ∀ w' u c, mN X m0 t n (s.1, s.2.1, s.2.2.1, s.2.2.2.1, u, c) M0 (lg ++ pMs (nGw n t 20 e i i ν).2) (nGw n t 20 e i i ν).1 w0 w' → P none w') : xE (xGG X) 6 m_Mo_settle 0 [(0, .ref m0), (1, .int nn)] [] w P := by
  subst q1
  have hm1 : mN X m0 t n (s.1, s.2.1, s.2.2.1, s.2.2.2.1, nI i, 4) M0 lg ν w0 w := by
    unfold mN at hm ⊢
    rw [hu] at hm
    exact hm
  have hm0 := hm1
  obtain ⟨gv, g, M, hR, hg, hN, hF, hw, hI⟩ := hm1
  have k1 := hR.1
  have k3 := hR.a3
  have e3 : M 3 n = nI e := by rw [hN.1, hep, nI_ep]
  rw [nGw_s (Nat.le_refl _)] at h
  refine x_aload_n 1 rfl d_Mo_settle_0 rfl ?_
  refine x_get 4 rfl f_Mo_19 d_Mo_settle_1 k1 rfl ?_
  refine x_iload_n 5 rfl d_Mo_settle_4 rfl ?_
  refine x_iald 6 rfl d_Mo_settle_5 k3 (t0 := 0) rfl (vp_in_nI (by omega) (by decide)) ?_
  refine x_iconst 7 rfl d_Mo_settle_6 4 (by decide) ?_
  rw [nI_clamp (by omega), e3]
  refine x_icmp_ge 86 10 rfl d_Mo_settle_7 (by decide) (fun hc => absurd hc (nI_ge (a := e) (b := 4) (by omega) (by decide))) (fun hc => ?_)
  refine x_aload_n 11 rfl d_Mo_settle_10 rfl ?_
  refine x_get 14 rfl f_Mo_165 d_Mo_settle_11 k1 rfl ?_
  refine x_if_ge 25 17 rfl d_Mo_settle_14 (by decide) (fun hc => ?_) (fun hc => absurd (nI_le (a := 0) (b := i) (by omega) (by omega)) hc)
  refine x_aload_n 26 rfl d_Mo_settle_25 rfl ?_
  refine x_get 29 rfl f_Mo_165 d_Mo_settle_26 k1 rfl ?_
  refine x_istore_n 30 rfl d_Mo_settle_29 (by decide) ?_
  refine x_iload_n 31 rfl d_Mo_settle_30 rfl ?_
  refine x_if_ge 49 34 rfl d_Mo_settle_31 (by decide) (fun hc => ?_) (fun hc => absurd (nI_le (a := 0) (b := i) (by omega) (by omega)) hc)
  have hk := nLk_keep (n := n) (t := t) (e := e) 5 i ν
  have hp := nLk_pot (t := t) hn he 5 i ν hi (fun k hk => (hI.1 k hk).1)
  refine xE.fit (s_set_lk (s := s) (c := 4) hn he 5 i ν lg w (nI i) hi (by have := uIn_le (ν := ν) (e := e); omega) hep hl hm0 (fun w2 b1 b2 => ?_) (fun w2 b1 b2 b3 => ?_) (fun w2 b1 b2 b3 => ?_)) rfl
  all_goals generalize nLk n t e 5 i ν = y at *
  · rw [b1, if_neg (by decide), nGw_no (by omega)] at h
    refine s_set_go (s := s) hn 20 e 4 y.1 (lg ++ pMs y.2) w2 he (by omega) (by omega) (hk.1.trans hep) (by rw [List.length_append, pMs_len]; omega) b2 (fun w3 u c b3 => h w3 u c ?_)
    rw [nGw_no (by omega), pMs_nil] at b3
    rw [List.append_nil]
    exact b3
  · rw [b1, if_pos rfl, if_pos b2] at h
    obtain ⟨gv', g', M', hR', hg', hN', -⟩ := id b3
    have k1 := hR'.1
    have k3 := hR'.a3
    have e3 : M' 3 n = nI 4 := by rw [hN'.1]; show iD (y.1.1 + 1) = nI 4; rw [hk.1, hep, b2]; rfl
    refine x_aload_n 1 rfl d_Mo_settle_0 rfl ?_
    refine x_get 4 rfl f_Mo_19 d_Mo_settle_1 k1 rfl ?_
    refine x_iload_n 5 rfl d_Mo_settle_4 rfl ?_
    refine x_iald 6 rfl d_Mo_settle_5 k3 (t0 := 0) rfl (vp_in_nI (by omega) (by decide)) ?_
    refine x_iconst 7 rfl d_Mo_settle_6 4 (by decide) ?_
    rw [nI_clamp (by omega), e3]
    refine x_icmp_ge 86 10 rfl d_Mo_settle_7 (by decide) (fun hc => ?_) (fun hc => absurd (by decide) hc)
    refine x_vret d_Mo_settle_86 rfl ?_
    exact h w2 _ _ b3
  · rw [b1, if_pos rfl, if_neg (by omega)] at h
    have hcp := nCm_pot (ν := y.1) (e := e) (hk.1.trans hep)
    rw [if_pos b2] at hcp
    refine s_set_go (s := s) hn 19 (e + 1) 0 (nCm y.1 e) (lg ++ pMs (y.2 ++ [nPr n (nCm y.1 e)])) w2 (by omega) (by omega) (by omega) (by show y.1.1 + 1 = e + 1 + 1; rw [hk.1, hep]) (by rw [List.length_append, pMs_len, List.length_append, List.length_singleton]; omega) b3 (fun w3 u c b4 => h w3 u c ?_)
    rw [pMs_app, ← List.append_assoc]
    exact b4
end SE2
