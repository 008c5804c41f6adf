/-! A NODE: COMMIT AND PROPOSE -/
theorem flen_or {A : Type} (l : List A) (p q : A → Bool) : (l.filter (fun x => p x || q x)).length ≤ (l.filter p).length + (l.filter q).length := by
  induction l with
  | nil => simp
  | cons x l ih =>
    rw [List.filter_cons, List.filter_cons, List.filter_cons]
    cases p x <;> cases q x <;> simp <;> omega
theorem flen_le {A : Type} (l : List A) (p q : A → Bool) (h : ∀ x, p x = true → q x = true) : (l.filter p).length ≤ (l.filter q).length := by
  induction l with
  | nil => simp
  | cons x l ih =>
    have := h x
    rw [List.filter_cons, List.filter_cons]
    cases h1 : p x <;> cases h2 : q x
    · simp; omega
    · simp; omega
    · rw [h1, h2] at this; exact absurd (this rfl) (by decide)
    · simp; omega
theorem flen_0 (v : Nat) : ∀ (m j : Nat), v < j → ((List.range' j m).filter (fun x => decide (v = x))).length = 0 := by
  intro m
  induction m with
  | zero => intro j _; rfl
  | succ m ih =>
    intro j hj
    rw [show List.range' j (m + 1) = j :: List.range' (j + 1) m from rfl, List.filter_cons, if_neg (by rw [decide_eq_true_iff]; omega)]
    exact ih (j + 1) (by omega)
theorem flen_1 (v : Nat) : ∀ (m j : Nat), ((List.range' j m).filter (fun x => decide (v = x))).length ≤ 1 := by
  intro m
  induction m with
  | zero => intro j; exact Nat.zero_le _
  | succ m ih =>
    intro j
    rw [show List.range' j (m + 1) = j :: List.range' (j + 1) m from rfl, List.filter_cons]
    by_cases z : v = j
    · rw [if_pos (by rw [decide_eq_true_iff]; exact z), List.length_cons, flen_0 v m (j + 1) (by omega)]; omega
    · rw [if_neg (by rw [decide_eq_true_iff]; exact z)]; exact ih (j + 1)
theorem nAcc_8 (ν : sN) (e j m : Nat) : ((List.range' j m).filter (nAcc ν e)).length ≤ 8 := by
  have h1 : ∀ i, ((List.range' j m).filter (fun x => nA1 ν e x i)).length ≤ 2 := by
    intro i
    refine Nat.le_trans (flen_le _ _ (fun x => decide (cUn ((nB' ν e i).2 2) % 256 = x) || decide (cUn ((nB' ν e i).2 2) / 256 % 256 = x)) (fun x hx => ?_)) ?_
    · unfold nA1 at hx
      rw [Bool.and_eq_true] at hx
      exact hx.1
    · refine Nat.le_trans (flen_or _ _ _) ?_
      have a1 := flen_1 (cUn ((nB' ν e i).2 2) % 256) m j
      have a2 := flen_1 (cUn ((nB' ν e i).2 2) / 256 % 256) m j
      omega
  have e1 : nAcc ν e = fun x => (nA1 ν e x 0 || nA1 ν e x 1) || (nA1 ν e x 2 || nA1 ν e x 3) := by
    funext x
    unfold nAcc
    rw [show List.range 4 = [0, 1, 2, 3] from rfl]
    simp only [List.any_cons, List.any_nil, Bool.or_false, Bool.or_assoc]
  rw [e1]
  refine Nat.le_trans (flen_or _ (fun x => nA1 ν e x 0 || nA1 ν e x 1) (fun x => nA1 ν e x 2 || nA1 ν e x 3)) ?_
  have b1 := flen_or (List.range' j m) (fun x => nA1 ν e x 0) (fun x => nA1 ν e x 1)
  have b2 := flen_or (List.range' j m) (fun x => nA1 ν e x 2) (fun x => nA1 ν e x 3)
  have := h1 0; have := h1 1; have := h1 2; have := h1 3
  omega
/-- a transaction is committed: ledger, queue -/
def nC1 (ν : sN) (e : Nat) (r : List Int32 × List Int32) (tt : Nat) : List Int32 × List Int32 := if (nAcc ν e tt && !decide (nI tt ∈ r.1)) = true then (r.1 ++ [nI tt], r.2.filter (fun x => decide (x ≠ nI tt))) else r
def nCs (ν : sN) (e : Nat) : List Int32 × List Int32 := (List.range' 1 255).foldl (nC1 ν e) (ν.2.2.2.1, ν.2.2.1)
def nCm (ν : sN) (e : Nat) : sN := (ν.1 + 1, ν.2.1, (nCs ν e).2, (nCs ν e).1, ν.2.2.2.2)
section ND3
variable {X : xPar} {sb L : Nat} {xs : Nat → Int32} {tI tE mi nb dyn c0 s0 mo n e i a : Nat} {t : Int32} {q : Nat → List sMg} {ν : sN} {w : xW} {P : Option Value → xW → Prop}
theorem iD1 : ∀ e, e < 5 → iD (e + 1) + 1 = iD (e + 2) := by decide +kernel
theorem s_Nd_commit (hep : ν.1 = e + 1) (he : e < 4) (hl : ν.2.2.2.1.length ≤ 24) (hR : rNd X nb n t a ν w) (h : ∀ w', rNd X nb n t a (nCm ν e) w' → fr w w' a (a + 5) → P none w') : xE (xGG X) 2 m_Nd_commit 0 [(0, .ref a)] [] w P := by
  have loop : ∀ (m j : Nat) (cc : Int32) (c qd : List Int32) (w1 : xW), cc = nI j → j + m = 256 → 1 ≤ j → c.length + ((List.range' j m).filter (nAcc ν e)).length ≤ 32 → fr w w1 a (a + 5) → rNd X nb n t a (ν.1, ν.2.1, qd, c, ν.2.2.2.2) w1 → (List.range' j m).foldl (nC1 ν e) (c, qd) = nCs ν e → xE (xGG X) 2 m_Nd_commit 2 [(0, .ref a), (1, .int cc)] [] w1 P := by
    intro m
    induction m with
    | zero =>
      intro j cc c qd w1 hcc hm hj1 hc32 hf hR1 hfo
      have hj : j = 256 := by omega
      subst hj hcc
      have g1 := hR1.1
      refine x_iload_n 3 rfl d_Nd_commit_2 rfl ?_
      refine x_sipush 6 rfl d_Nd_commit_3 255 (by decide) ?_
      refine x_icmp_gt 50 9 rfl d_Nd_commit_6 (by decide) (fun hc => ?_) (fun hc => absurd (by decide) hc)
      refine x_aload_n 51 rfl d_Nd_commit_50 rfl ?_
      refine x_dup 52 rfl d_Nd_commit_51 rfl ?_
      refine x_get 55 rfl f_Nd_35 d_Nd_commit_52 g1 rfl ?_
      refine x_iconst 56 rfl d_Nd_commit_55 1 (by decide) ?_
      refine x_iadd 57 rfl d_Nd_commit_56 ?_
      refine x_put 60 rfl p_Nd_35 (fun h => nomatch h) d_Nd_commit_57 g1 rfl rfl (Nat.le_of_ble_eq_true rfl) ?_
      refine x_vret d_Nd_commit_60 rfl ?_
      have e1 : (c, qd) = nCs ν e := hfo
      refine h _ (hR1.rows (fun x h1 h2 => xset_ne _ _ (by omega)) ?_ ?_ ?_ rfl) (hf.set _ (by omega) (by omega))
      · rw [xset_at]
        unfold fNd nCm
        dsimp only
        rw [hep, iD1 e (by omega)]
        rfl
      · have := hR1.2.1.kept (w' := xset w1 a (.inr (5, (fNd nb n a (ν.1, ν.2.1, qd, c, ν.2.2.2.2)).set 6 (.int (iD ν.1 + 1))))) (xset_ne _ _ (by omega)) (xset_ne _ _ (by omega))
        show rRw X _ (a + 1) 12 (nCs ν e).2
        rw [← e1]; exact this
      · have := hR1.2.2.1.kept (w' := xset w1 a (.inr (5, (fNd nb n a (ν.1, ν.2.1, qd, c, ν.2.2.2.2)).set 6 (.int (iD ν.1 + 1))))) (xset_ne _ _ (by omega)) (xset_ne _ _ (by omega))
        show rRw X _ (a + 3) 32 (nCs ν e).1
        rw [← e1]; exact this
    | succ m ih =>
      intro j cc c qd w1 hcc hm hj1 hc32 hf hR1 hfo
      subst hcc
      have g1 := hR1.1
      have hQ := hR1.2.1
      have hC := hR1.2.2.1
      rw [show List.range' j (m + 1) = j :: List.range' (j + 1) m from rfl, List.filter_cons] at hc32
      rw [show List.range' j (m + 1) = j :: List.range' (j + 1) m from rfl, List.foldl_cons] at hfo
      refine x_iload_n 3 rfl d_Nd_commit_2 rfl ?_
      refine x_sipush 6 rfl d_Nd_commit_3 255 (by decide) ?_
      refine x_icmp_gt 50 9 rfl d_Nd_commit_6 (by decide) (fun hc => absurd hc (by rw [Int32.not_lt]; exact nI_le (b := 255) (by omega) (by decide))) (fun hc => ?_)
      have same : ∀ w2, w2 = w1 → (nAcc ν e j && !decide (nI j ∈ c)) = false → xE (xGG X) 2 m_Nd_commit 44 [(0, .ref a), (1, .int (nI j))] [] w2 P := by
        intro w2 hw z
        subst hw
        refine x_iinc 47 rfl d_Nd_commit_44 rfl 1 (by decide) (by decide) ?_
        refine x_goto d_Nd_commit_47 2 (by decide) ?_
        rw [nI_1]
        refine xE.fit (ih (j + 1) _ c qd w2 rfl (by omega) (by omega) ?_ hf hR1 ?_) rfl
        · split at hc32
          · rw [List.length_cons] at hc32; omega
          · exact hc32
        · rw [← hfo]
          unfold nC1
          dsimp only
          rw [z, if_neg (by decide)]
      refine x_aload_n 10 rfl d_Nd_commit_9 rfl ?_
      refine x_iload_n 11 rfl d_Nd_commit_10 rfl ?_
      refine y_callV 14 rfl [_] _ rfl d_Nd_commit_11 g1 rfl c_Nd_157 rfl (Nat.le_of_ble_eq_true rfl) (Nat.le_of_ble_eq_true rfl) (Nat.le_of_ble_eq_true rfl) (s_Nd_isAccepted (ν := (ν.1, ν.2.1, qd, c, ν.2.2.2.2)) rfl (by omega) hep he hR1 ?_)
      have e0 : nAcc (ν.1, ν.2.1, qd, c, ν.2.2.2.2) e j = nAcc ν e j := rfl
      rw [e0]
      refine x_if_eq 44 17 rfl d_Nd_commit_14 (by decide) (fun hc => ?_) (fun hc => ?_)
      · exact same w1 rfl (by rw [(nB_0 _).mp hc]; rfl)
      have y1 := nB_ne hc
      refine x_aload_n 18 rfl d_Nd_commit_17 rfl ?_
      refine x_get 21 rfl f_Nd_20 d_Nd_commit_18 g1 rfl ?_
      refine x_iload_n 22 rfl d_Nd_commit_21 rfl ?_
      refine y_callV 25 rfl [_] _ rfl d_Nd_commit_22 hC.1 rfl c_Nd_56 rfl (Nat.le_of_ble_eq_true rfl) (Nat.le_of_ble_eq_true rfl) (Nat.le_of_ble_eq_true rfl) (s_Rw_has hC ?_)
      refine x_if_ne 44 28 rfl d_Nd_commit_25 (by decide) (fun hc => ?_) (fun hc => ?_)
      · exact same w1 rfl (by rw [nB_ne hc]; simp)
      have y2 := (nB_0 _).mp hc
      rw [if_pos y1, List.length_cons] at hc32
      refine x_aload_n 29 rfl d_Nd_commit_28 rfl ?_
      refine x_get 32 rfl f_Nd_20 d_Nd_commit_29 g1 rfl ?_
      refine x_iload_n 33 rfl d_Nd_commit_32 rfl ?_
      refine y_callV 36 rfl [_] _ rfl d_Nd_commit_33 hC.1 rfl c_Nd_60 rfl (Nat.le_of_ble_eq_true rfl) (Nat.le_of_ble_eq_true rfl) (Nat.le_of_ble_eq_true rfl) (s_Rw_append hC (by show c.length < 32; omega) (fun w2 k1 k2 => ?_))
      have g2 : w2.2.2 a = some (.inr (5, fNd nb n a (ν.1, ν.2.1, qd, c, ν.2.2.2.2))) := (k2.2.2 _ (by omega)).trans g1
      have hQ2 := hQ.kept (k2.2.2 _ (by omega)) (k2.2.2 _ (by omega))
      refine x_aload_n 37 rfl d_Nd_commit_36 rfl ?_
      refine x_get 40 rfl f_Nd_14 d_Nd_commit_37 g2 rfl ?_
      refine x_iload_n 41 rfl d_Nd_commit_40 rfl ?_
      refine y_callV 44 rfl [_] _ rfl d_Nd_commit_41 hQ2.1 rfl c_Nd_160 rfl (Nat.le_of_ble_eq_true rfl) (Nat.le_of_ble_eq_true rfl) (Nat.le_of_ble_eq_true rfl) (s_Rw_drop hQ2 (fun w3 k3 k4 => ?_))
      refine x_iinc 47 rfl d_Nd_commit_44 rfl 1 (by decide) (by decide) ?_
      refine x_goto d_Nd_commit_47 2 (by decide) ?_
      rw [nI_1]
      refine xE.fit (ih (j + 1) _ (c ++ [nI j]) (qd.filter (fun x => decide (x ≠ nI j))) w3 rfl (by omega) (by omega) ?_ ((hf.tr (k2.wide (by omega) (by omega))).tr (k4.wide (by omega) (by omega))) (hR1.rows (fun x h1 h2 => (k4.2.2 x (by omega)).trans (k2.2.2 x (by omega))) ((k4.2.2 _ (by omega)).trans g2) k3 (rRw.kept k1 (k4.2.2 _ (by omega)) (k4.2.2 _ (by omega))) rfl) ?_) rfl
      · rw [List.length_append, List.length_singleton]; omega
      · rw [← hfo]
        congr 1
        unfold nC1
        dsimp only
        rw [y1, show decide (nI j ∈ c) = false from y2]
        rfl
  have := nAcc_8 ν e 1 255
  refine x_iconst 1 rfl d_Nd_commit_0 1 (by decide) ?_
  refine x_istore_n 2 rfl d_Nd_commit_1 (by decide) ?_
  exact xE.fit (loop 255 1 1 ν.2.2.2.1 ν.2.2.1 w rfl rfl (by omega) (by omega) (fr.rf _ _ _) hR rfl) rfl
end ND3
