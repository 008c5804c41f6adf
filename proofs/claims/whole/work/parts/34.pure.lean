/-! WHAT IS SENT IS A MESSAGE -/
theorem cUn_nI {n : Nat} (h : n < 2 ^ 32) : cUn (nI n) = n := pk_tn h
def mOks (ms : List sMg) : Prop := ∀ m, m ∈ ms → mOk m
theorem mOks.nil : mOks [] := fun m hm => by cases hm
theorem mOks.one {m : sMg} (h : mOk m) : mOks [m] := fun x hx => by rw [List.mem_singleton.mp hx]; exact h
theorem mOks.app {a b : List sMg} (h : mOks a) (h2 : mOks b) : mOks (a ++ b) := fun m hm => by
  rcases List.mem_append.mp hm with z | z
  · exact h m z
  · exact h2 m z
section PU
variable {me e i : Nat} {t : Int32} {α : sA} {bit : Nat}
theorem mOk_v (hm : me < 4) (he : e < 4) (hi : i < 4) {k r : Nat} (hk : k < 5) (hr : r < 6) (hb : bit < 2) : mOk (me, e, i, k, nI r, nI bit) := ⟨hm, he, hi, hk, fun _ => by dsimp only; rw [cUn_nI (by omega), cUn_nI (by omega)]; exact ⟨hr, hb⟩⟩
theorem aCv_ok (hm : me < 4) (he : e < 4) (hi : i < 4) (hb : bit < 2) (ok : aOk α) : aOk (aCv me e i α bit).1 ∧ mOks (aCv me e i α bit).2 := by
  unfold aCv
  split
  · exact ⟨ok, mOks.nil⟩
  · rename_i z
    exact ⟨ok.vote hb z, mOks.one (mOk_v hm he hi (by omega) ok.1 hb)⟩
theorem aVt_ok (hm : me < 4) (he : e < 4) (hi : i < 4) (hb : bit < 2) (ok : aOk α) : aOk (aVt me e i α bit).1 ∧ mOks (aVt me e i α bit).2 := by
  unfold aVt
  split
  · exact aCv_ok hm he hi hb ok
  · exact ⟨ok, mOks.nil⟩
theorem aCg_ok (hm : me < 4) (he : e < 4) (hi : i < 4) (hb : bit < 2) (ok : aOk α) : aOk (aCg me e i α bit).1 ∧ mOks (aCg me e i α bit).2 := by
  unfold aCg
  split
  · exact ⟨ok.good hb, mOks.nil⟩
  · have e0 : (aSetG α bit).2 0 = α.2 0 := by unfold aSetG; dsimp only; rw [va_up_ne _ _ (by decide)]
    have := (ok.good hb).sure
    rw [e0] at this
    exact ⟨this, mOks.one (mOk_v hm he hi (by omega) ok.1 hb)⟩
theorem aGt_ok (hm : me < 4) (he : e < 4) (hi : i < 4) (hb : bit < 2) (ok : aOk α) : aOk (aGt me e i α bit).1 ∧ mOks (aGt me e i α bit).2 := by
  unfold aGt
  split
  · exact aCg_ok hm he hi hb ok
  · exact ⟨ok, mOks.nil⟩
theorem aTurn_ok (hm : me < 4) (he : e < 4) (hi : i < 4) (ok : aOk α) : aOk (aTurn me e i α).1 ∧ mOks (aTurn me e i α).2 := by
  unfold aTurn aSeq
  dsimp only
  have h1 := aCv_ok hm he hi ok.2.1 ok
  have h2 := aVt_ok hm he hi (bit := 0) (by decide) h1.1
  have h3 := aVt_ok hm he hi (bit := 1) (by decide) h2.1
  have h4 := aGt_ok hm he hi (bit := 0) (by decide) h3.1
  have h5 := aGt_ok hm he hi (bit := 1) (by decide) h4.1
  exact ⟨h5.1, (((h1.2.app h2.2).app h3.2).app h4.2).app h5.2⟩
theorem aEs_lt : aEs t e i α < 2 := by
  unfold aEs
  split
  · exact cCoin_lt _ _ _ _
  · split <;> omega
theorem aDe_lt (ok : aOk α) : aDe t e i α < 3 := by
  unfold aDe
  have := cCoin_lt t e i (α.2 0)
  split
  · omega
  · exact ok.2.2.1
theorem aFin_ok (ok : aOk α) (hin : α.1 0 = true) : aOk (aFin t e i α) := by
  unfold aFin
  have h1 := (ok.es (aEs_lt (t := t) (e := e) (i := i) (α := α))).de (aDe_lt (t := t) (e := e) (i := i) ok)
  dsimp only at h1
  split
  · exact h1.dn
  · rename_i z
    have e0 : (va_up (va_up α.2 1 (aEs t e i α)) 2 (aDe t e i α)) 0 = α.2 0 := by rw [va_up_ne _ _ (by decide), va_up_ne _ _ (by decide)]
    have h5 : α.2 0 < 5 := by
      have := ok.1
      by_cases z5 : α.2 0 = 5
      · exact absurd (Or.inr z5) z
      · omega
    have := h1.next (by dsimp only; rw [e0]; exact h5) hin
    dsimp only at this
    rw [e0] at this
    exact this
theorem aGo_ok (hm : me < 4) (he : e < 4) (hi : i < 4) : ∀ (f : Nat) (α : sA), aOk α → aOk (aGo me e i t f α).1 ∧ mOks (aGo me e i t f α).2 := by
  intro f
  induction f with
  | zero => intro α ok; exact ⟨ok, mOks.nil⟩
  | succ f ih =>
    intro α ok
    have h1 := aTurn_ok hm he hi ok
    rw [aGo]
    split
    · rename_i z
      rw [Bool.and_eq_true] at z
      split
      · exact h1
      · have hin : (aTurn me e i α).1.1 0 = true := by rw [(aTurn_in (me := me) (e := e) (i := i) (α := α)).1]; exact z.1
        have h3 := ih _ (aFin_ok (t := t) (e := e) (i := i) h1.1 hin)
        unfold aSeq
        dsimp only
        exact ⟨h3.1, h1.2.app h3.2⟩
    · exact ⟨ok, mOks.nil⟩
theorem aIn_ok (hb : bit < 2) (ok : aOk α) : aOk (aIn α bit) := by
  unfold aIn
  split
  · exact ok
  · rename_i z
    have h0 : α.2 0 = 0 := ok.2.2.2.2.2.2.2 (by cases h : α.1 0; rfl; exact absurd h z)
    obtain ⟨o1, o2, o3, o4, o5, o6, o7, o8⟩ := ok
    refine ⟨by dsimp only; rw [va_up_ne _ _ (by decide)]; exact o1, by dsimp only; rw [va_up_self]; exact hb, by dsimp only; rw [va_up_ne _ _ (by decide)]; exact o3, by dsimp only; rw [va_up_ne _ _ (by decide)]; exact o4, fun r hr => by dsimp only; rw [va_up_ne _ _ (by omega)]; exact o5 r hr, fun r s hr hs => by dsimp only; rw [va_up_ne _ _ (by omega)]; exact o6 r s hr hs, fun r h1 h2 => ?_, fun z => by dsimp only at z; rw [va_up_self] at z; cases z⟩
    dsimp only at h1 ⊢
    rw [va_up_ne _ _ (by decide)] at h1
    rw [va_up_ne _ _ (by omega), va_up_ne _ _ (by omega)]
    exact o7 r h1 h2
theorem aKeep_ok {s kd r : Nat} (hb : bit < 2) (hr : r < 6) (hs : s < 4) (ok : aOk α) : aOk (aKeep α s kd r bit) := by
  unfold aKeep
  obtain ⟨o1, o2, o3, o4, o5, o6, o7, o8⟩ := ok
  split
  · refine ⟨o1, o2, o3, o4, o5, o6, fun r' h1 h2 => ?_, fun z => o8 (by dsimp only at z; rw [va_up_ne _ _ (by omega)] at z; exact z)⟩
    dsimp only
    rw [va_up_ne _ _ (by omega)]
    exact o7 r' h1 h2
  · split
    · refine ⟨by dsimp only; rw [va_up_ne _ _ (by omega)]; exact o1, by dsimp only; rw [va_up_ne _ _ (by omega)]; exact o2, by dsimp only; rw [va_up_ne _ _ (by omega)]; exact o3, by dsimp only; rw [va_up_ne _ _ (by omega)]; exact o4, fun r' hr' => by dsimp only; rw [va_up_ne _ _ (by omega)]; exact o5 r' hr', fun r' s' hr' hs' => ?_, fun r' h1 h2 => ?_, fun z => by dsimp only; rw [va_up_ne _ _ (by omega)]; exact o8 z⟩
      · dsimp only
        by_cases z : 32 + 4 * r' + s' = 32 + 4 * r + s
        · rw [z, va_up_self]; omega
        · rw [va_up_ne _ _ z]; exact o6 r' s' hr' hs'
      · dsimp only at h1 ⊢
        rw [va_up_ne _ _ (by omega)] at h1
        rw [va_up_ne _ _ (by omega)]
        exact o7 r' h1 h2
    · exact ⟨o1, o2, o3, o4, o5, o6, o7, o8⟩
end PU
/-- what holds of a node between two calls -/
def nGood (ν : sN) : Prop := ν.1 ≤ 5 ∧ nQk ν (ν.1 - 1) ∧ ∀ k, k < 16 → aOk (ν.2.2.2.2.2 k)
theorem nUp_ok {ν : sN} {k : Nat} {β : sB} {α : sA} (h : ∀ k, k < 16 → aOk (ν.2.2.2.2.2 k)) (ok : aOk α) : ∀ j, j < 16 → aOk ((nUp ν k β α).2.2.2.2.2 j) := by
  intro j hj
  show aOk (va_up ν.2.2.2.2.2 k α j)
  by_cases z : j = k
  · rw [z, va_up_self]; exact ok
  · rw [va_up_ne _ _ z]; exact h j hj
section PU2
variable {n e i : Nat} {t : Int32} {ν : sN}
theorem iM_ok (hn : n < 4) (he : e < 4) (hi : i < 4) {β : sB} {α : sA} (ok : aOk α) : aOk (iA n e i t β α).1 ∧ mOks (iM n e i t β α) := by
  have h3 := aGo_ok (t := t) hn he hi 6 (if (iB n e i β).2 2 = -1 then α else aIn α 1) (by split; exact ok; exact aIn_ok (by decide) ok)
  refine ⟨h3.1, (mOks.app ?_ ?_).app h3.2⟩
  · unfold bEc
    split
    · exact mOks.one ⟨hn, he, hi, by dsimp only; omega, fun z => by dsimp only at z; omega⟩
    · exact mOks.nil
  · unfold bRy
    split
    · exact mOks.one ⟨hn, he, hi, by dsimp only; omega, fun z => by dsimp only at z; omega⟩
    · exact mOks.nil
theorem nLk_ok (hn : n < 4) (he : e < 4) : ∀ (f i : Nat) (ν : sN), i < 4 → (∀ k, k < 16 → aOk (ν.2.2.2.2.2 k)) → (∀ k, k < 16 → aOk ((nLk n t e f i ν).1.2.2.2.2.2 k)) ∧ mOks (nLk n t e f i ν).2 := by
  intro f
  induction f with
  | zero => intro i ν _ h; exact ⟨h, mOks.nil⟩
  | succ f ih =>
    intro i ν hi h
    have h1 := iM_ok (t := t) hn he hi (β := nB' ν e i) (h (4 * e + i) (by omega))
    have h2 : ∀ k, k < 16 → aOk ((nOne n t e i ν).1.2.2.2.2.2 k) := nUp_ok h h1.1
    have h2' : mOks (nOne n t e i ν).2 := h1.2
    rw [nLk]
    split
    · exact ⟨h2, h2'⟩
    · rename_i j hj
      have hj4 := nRf_lt hj
      have h3 := ih j (nGive (nOne n t e i ν).1 e j) hj4 (nUp_ok h2 (aIn_ok (by decide) (h2 _ (by omega))))
      exact ⟨h3.1, h2'.app h3.2⟩
theorem mOk_pr (hn : n < 4) (h1 : ν.1 - 1 < 4) : mOk (nPr n ν) := ⟨hn, h1, hn, by show 0 < 5; omega, fun z => by have : 3 ≤ 0 := z; omega⟩
theorem nGw_ok (hn : n < 4) : ∀ (f e nx en : Nat) (ν : sN), nx < 5 → en < 4 → ν.1 = e + 1 → e < 4 → nQk ν e → (∀ k, k < 16 → aOk (ν.2.2.2.2.2 k)) → nGood (nGw n t f e nx en ν).1 ∧ mOks (nGw n t f e nx en ν).2 ∧ (nGw n t f e nx en ν).2.length ≤ 161 * f := by
  intro f
  induction f with
  | zero =>
    intro e nx en ν _ _ h1 he h2 h3
    exact ⟨⟨by show ν.1 ≤ 5; omega, by show nQk ν (ν.1 - 1); rw [h1]; exact h2, h3⟩, mOks.nil, Nat.le_refl _⟩
  | succ f ih =>
    intro e nx en ν hnx hen h1 he h2 h3
    rw [nGw]
    split
    · rename_i z
      have k1 := nLk_ok (t := t) hn he 5 nx ν (by omega) h3
      have k2 := nLk_keep (n := n) (t := t) (e := e) 5 nx ν
      have k3 := h2.lk (n := n) (t := t) (f := 5) (i := nx)
      generalize nLk n t e 5 nx ν = y at k1 k2 k3
      split
      · split
        · rename_i z3
          refine ⟨⟨?_, ?_, k1.1⟩, k1.2, ?_⟩
          · show y.1.1 + 1 ≤ 5
            have := k2.1; omega
          · have := k3.cm
            have e1 : (nCm y.1 e).1 - 1 = e + 1 := by show y.1.1 + 1 - 1 = e + 1; rw [k2.1, h1]; rfl
            dsimp only
            rw [e1]; exact this
          · have := k2.2.2.2.2; dsimp only; omega
        · rename_i z3
          have k4 := ih (e + 1) 0 3 (nCm y.1 e) (by omega) (by omega) (by show y.1.1 + 1 = e + 1 + 1; rw [k2.1, h1]) (by omega) k3.cm k1.1
          refine ⟨k4.1, (k1.2.app (mOks.one (mOk_pr hn (by show y.1.1 + 1 - 1 < 4; rw [k2.1, h1]; omega)))).app k4.2.1, ?_⟩
          dsimp only
          rw [List.length_append, List.length_append, List.length_singleton]
          have := k2.2.2.2.2; have := k4.2.2; omega
      · have k4 := ih e (nx + 1) en y.1 (by omega) hen (k2.1.trans h1) he k3 k1.1
        refine ⟨k4.1, k1.2.app k4.2.1, ?_⟩
        dsimp only
        rw [List.length_append]
        have := k2.2.2.2.2; have := k4.2.2; omega
    · exact ⟨⟨by show ν.1 ≤ 5; omega, by show nQk ν (ν.1 - 1); rw [h1]; exact h2, h3⟩, mOks.nil, Nat.zero_le _⟩
theorem nTk_ok (hn : n < 4) {m : sMg} (hm : mOk m) (h : nGood ν) : nGood (nTk n t ν m).1 ∧ mOks (nTk n t ν m).2 ∧ (nTk n t ν m).2.length ≤ 3220 := by
  obtain ⟨h1, h2, h3⟩ := h
  obtain ⟨o1, o2, o3, o4, o5⟩ := hm
  obtain ⟨c1, c2, c3, c4⟩ := nKp_keep n ν m
  have h4 : ∀ k, k < 16 → aOk ((nKp n ν m).2.2.2.2.2 k) := by
    unfold nKp
    split
    · rename_i z
      exact nUp_ok h3 (aKeep_ok (o5 z).2 (o5 z).1 o1 (h3 _ (by omega)))
    · exact nUp_ok h3 (h3 _ (by omega))
  have h5 : ∀ e, nQk ν e → nQk (nKp n ν m) e := fun e z => by unfold nQk; rw [c3, c4]; exact z
  unfold nTk
  split
  · exact ⟨⟨h1, h2, h3⟩, mOks.nil, Nat.zero_le _⟩
  · split
    · rename_i z
      exact nGw_ok hn 20 m.2.1 m.2.2.1 m.2.2.1 (nKp n ν m) (by omega) o3 (c1.trans z) o2 (h5 _ (by rw [show ν.1 - 1 = m.2.1 from by omega] at h2; exact h2)) h4
    · exact ⟨⟨by rw [c1]; exact h1, by rw [c1]; exact h5 _ h2, h4⟩, mOks.nil, Nat.zero_le _⟩
theorem nSt_ok (hn : n < 4) (h : nGood ν) : nGood (nSt n t ν).1 ∧ mOks (nSt n t ν).2 ∧ (nSt n t ν).2.length ≤ 3221 := by
  unfold nSt
  split
  · exact ⟨h, mOks.nil, Nat.zero_le _⟩
  · rename_i z
    have z0 : ν.1 = 0 := by
      by_cases z0 : ν.1 = 0
      · exact z0
      · exact absurd (Or.inl z0) z
    obtain ⟨h1, h2, h3⟩ := h
    rw [z0] at h2
    have := nGw_ok (t := t) hn 20 0 0 3 (nBg ν) (by omega) (by omega) rfl (by omega) h2 h3
    refine ⟨this.1, (mOks.one (mOk_pr hn (by show 1 - 1 < 4; omega))).app this.2.1, ?_⟩
    dsimp only
    rw [List.length_append, List.length_singleton]
    have := this.2.2
    omega
end PU2
theorem mOk_vw {n : Nat} {m : sMg} (h : mOk m) : mOk (vw n m) := by
  unfold vw
  split
  · exact ⟨h.1, h.2.1, h.2.2.1, by dsimp only; omega, fun z => by dsimp only at z; omega⟩
  · exact h
theorem qV_ok {q : Nat → List sMg} {ms : List sMg} {j : Nat} (h : ∀ m, m ∈ q j → mOk m) (h2 : mOks ms) : ∀ m, m ∈ qV q ms j → mOk m := by
  intro m hm
  rcases List.mem_append.mp hm with z | z
  · exact h m z
  · obtain ⟨m', k1, k2⟩ := List.mem_map.mp z
    rw [← k2]; exact mOk_vw (h2 m' k1)
