/-! WORLDS BY PARTS -/
theorem xset_1 (w : xW) (a : Nat) (e : va_E) : (xset w a e).1 = w.1 := rfl
theorem xset_2 (w : xW) (a : Nat) (e : va_E) : (xset w a e).2.1 = w.2.1 := rfl
theorem xset_at (w : xW) (a : Nat) (e : va_E) : (xset w a e).2.2 a = some e := va_up_self _ _ _
theorem xset_ne (w : xW) {a q : Nat} (e : va_E) (h : q ≠ a) : (xset w a e).2.2 q = w.2.2 q := va_up_ne _ _ h
theorem xnew_at (w : xW) (n : Nat) (e : va_E) : (xnew w n e).2.2 w.1 = some e := va_up_self _ _ _
theorem xnew_ne (w : xW) {q : Nat} (n : Nat) (e : va_E) (h : q ≠ w.1) : (xnew w n e).2.2 q = w.2.2 q := va_up_ne _ _ h
/-- nothing is made, and nothing is written but in [lo, hi) -/
def fr (w w' : xW) (lo hi : Nat) : Prop := w'.1 = w.1 ∧ w'.2.1 = w.2.1 ∧ ∀ q : Nat, (q < lo ∨ hi ≤ q) → w'.2.2 q = w.2.2 q
theorem fr.rf (w : xW) (lo hi : Nat) : fr w w lo hi := ⟨rfl, rfl, fun _ _ => rfl⟩
theorem fr.set {w w' : xW} {lo hi a : Nat} (h : fr w w' lo hi) (e : va_E) (h1 : lo ≤ a) (h2 : a < hi) : fr w (xset w' a e) lo hi :=
  ⟨h.1, h.2.1, fun q hq => by rw [xset_ne _ _ (by omega)]; exact h.2.2 q hq⟩
theorem fr.tr {w w' w'' : xW} {lo hi : Nat} (h : fr w w' lo hi) (h2 : fr w' w'' lo hi) : fr w w'' lo hi := ⟨h2.1.trans h.1, h2.2.1.trans h.2.1, fun q hq => (h2.2.2 q hq).trans (h.2.2 q hq)⟩
theorem fr.wide {w w' : xW} {lo hi lo' hi' : Nat} (h : fr w w' lo hi) (h1 : lo' ≤ lo) (h2 : hi ≤ hi') : fr w w' lo' hi' := ⟨h.1, h.2.1, fun q hq => h.2.2 q (by omega)⟩
/-- an int array of n places at a, that holds g there -/
def aI (X : xPar) (w : xW) (a n : Nat) (g : Nat → Int32) : Prop := ∃ f : Nat → Int32, w.2.2 a = some (.inl (X.2.2.2.1 0, n, .inl f)) ∧ ∀ j, j < n → f j = g j
/-- a row: its object at a, its array behind it, the list l of at most cap -/
def rRw (X : xPar) (w : xW) (a cap : Nat) (l : List Int32) : Prop := w.2.2 a = some (.inr (7, [.ref (a + 1), .int (nI l.length)])) ∧ l.length ≤ cap ∧ cap ≤ 64 ∧ ∃ f : Nat → Int32, w.2.2 (a + 1) = some (.inl (X.2.2.2.1 0, cap, .inl f)) ∧ ∀ j, j < l.length → l[j]? = some (f j)
theorem rRw.kept {X : xPar} {w w' : xW} {a cap : Nat} {l : List Int32} (h : rRw X w a cap l) (h0 : w'.2.2 a = w.2.2 a) (h1 : w'.2.2 (a + 1) = w.2.2 (a + 1)) : rRw X w' a cap l := by
  obtain ⟨g1, g2, g3, f, g4, g5⟩ := h
  exact ⟨h0.trans g1, g2, g3, f, h1.trans g4, g5⟩
section RW
variable {X : xPar} {w : xW} {P : Option Value → xW → Prop} {a cap : Nat} {l : List Int32}
theorem s_Rw_isFull (hR : rRw X w a cap l) (h : P (some (.int (nB (decide (l.length = cap))))) w) : xE (xGG X) 0 m_Rw_isFull 0 [(0, .ref a)] [] w P := by
  obtain ⟨g1, g2, g3, f, g4, g5⟩ := hR
  refine x_aload_n 1 rfl d_Rw_isFull_0 rfl ?_
  refine x_get 4 rfl f_Rw_15 d_Rw_isFull_1 g1 rfl ?_
  refine x_aload_n 5 rfl d_Rw_isFull_4 rfl ?_
  refine x_get 8 rfl f_Rw_9 d_Rw_isFull_5 g1 rfl ?_
  refine x_alen 9 rfl d_Rw_isFull_8 g4 (t0 := 0) rfl rfl ?_
  refine x_icmp_ne 16 12 rfl d_Rw_isFull_9 (by decide) (fun hc => ?_) (fun hc => ?_)
  · refine x_iconst 17 rfl d_Rw_isFull_16 0 (by decide) ?_
    refine x_zret d_Rw_isFull_17 rfl (by decide) ?_
    rw [show decide (l.length = cap) = false from decide_eq_false (fun z => hc (by rw [z]; rfl))] at h
    exact h
  · refine x_iconst 13 rfl d_Rw_isFull_12 1 (by decide) ?_
    refine x_goto d_Rw_isFull_13 17 (by decide) ?_
    refine x_zret d_Rw_isFull_17 rfl (by decide) ?_
    rw [show decide (l.length = cap) = true from decide_eq_true ((nI_eq (by omega) (by omega)).mp hc)] at h
    exact h
theorem s_Rw_has {t : Int32} (hR : rRw X w a cap l) (h : P (some (.int (nB (decide (t ∈ l))))) w) : xE (xGG X) 0 m_Rw_has 0 [(0, .ref a), (1, .int t)] [] w P := by
  obtain ⟨g1, g2, g3, f, g4, g5⟩ := hR
  have loop : ∀ (n i : Nat) (cc : Int32), cc = nI i → i + n = l.length → (∀ j, j < i → ¬ f j = t) → xE (xGG X) 0 m_Rw_has 2 [(0, .ref a), (1, .int t), (2, .int cc)] [] w P := by
    intro n
    induction n with
    | zero =>
      intro i cc hcc hi hj
      subst hcc
      refine x_iload_n 3 rfl d_Rw_has_2 rfl ?_
      refine x_aload_n 4 rfl d_Rw_has_3 rfl ?_
      refine x_get 7 rfl f_Rw_15 d_Rw_has_4 g1 rfl ?_
      refine x_icmp_ge 28 10 rfl d_Rw_has_7 (by decide) (fun hc => ?_) (fun hc => absurd (nI_le (by omega) (by omega)) hc)
      refine x_iconst 29 rfl d_Rw_has_28 0 (by decide) ?_
      refine x_zret d_Rw_has_29 rfl (by decide) ?_
      rw [show decide (t ∈ l) = false from decide_eq_false (fun z => ?_)] at h
      · exact h
      · obtain ⟨j, hj2, hj3⟩ := List.getElem_of_mem z
        have e := g5 j hj2
        rw [List.getElem?_eq_getElem hj2, hj3] at e
        exact hj j (by omega) (Option.some.inj e).symm
    | succ n ih =>
      intro i cc hcc hi hj
      subst hcc
      refine x_iload_n 3 rfl d_Rw_has_2 rfl ?_
      refine x_aload_n 4 rfl d_Rw_has_3 rfl ?_
      refine x_get 7 rfl f_Rw_15 d_Rw_has_4 g1 rfl ?_
      refine x_icmp_ge 28 10 rfl d_Rw_has_7 (by decide) (fun hc => absurd hc (nI_ge (by omega) (by omega))) (fun hc => ?_)
      refine x_aload_n 11 rfl d_Rw_has_10 rfl ?_
      refine x_get 14 rfl f_Rw_9 d_Rw_has_11 g1 rfl ?_
      refine x_iload_n 15 rfl d_Rw_has_14 rfl ?_
      refine x_iald 16 rfl d_Rw_has_15 g4 (t0 := 0) rfl (vp_in_nI (by omega) (by omega)) ?_
      refine x_iload_n 17 rfl d_Rw_has_16 rfl ?_
      rw [nI_clamp (by omega)]
      refine x_icmp_ne 22 20 rfl d_Rw_has_17 (by decide) (fun hc => ?_) (fun hc => ?_)
      · refine x_iinc 25 rfl d_Rw_has_22 rfl 1 (by decide) (by decide) ?_
        refine x_goto d_Rw_has_25 2 (by decide) ?_
        refine xE.fit (ih (i + 1) _ (nI_succ i).symm (by omega) (fun j hj2 => ?_)) rfl
        by_cases e : j = i
        · subst e; exact hc
        · exact hj j (by omega)
      · refine x_iconst 21 rfl d_Rw_has_20 1 (by decide) ?_
        refine x_zret d_Rw_has_21 rfl (by decide) ?_
        rw [show decide (t ∈ l) = true from decide_eq_true (by rw [← hc]; exact List.mem_of_getElem? (g5 i (by omega)))] at h
        exact h
  refine x_iconst 1 rfl d_Rw_has_0 0 (by decide) ?_
  refine x_istore_n 2 rfl d_Rw_has_1 (by decide) ?_
  exact xE.fit (loop l.length 0 0 rfl (Nat.zero_add _) (fun j hj => absurd hj (Nat.not_lt_zero j))) rfl
theorem s_Rw_append {t : Int32} (hR : rRw X w a cap l) (hl : l.length < cap) (h : ∀ w', rRw X w' a cap (l ++ [t]) → fr w w' a (a + 2) → P none w') : xE (xGG X) 1 m_Rw_append 0 [(0, .ref a), (1, .int t)] [] w P := by
  have hR0 := hR
  obtain ⟨g1, g2, g3, f, g4, g5⟩ := hR
  refine x_aload_n 1 rfl d_Rw_append_0 rfl ?_
  refine y_callV 4 rfl [] _ rfl d_Rw_append_1 g1 rfl c_Rw_19 rfl (Nat.le_of_ble_eq_true rfl) (Nat.le_of_ble_eq_true rfl) (Nat.le_of_ble_eq_true rfl) (s_Rw_isFull hR0 ?_)
  rw [show decide (l.length = cap) = false from decide_eq_false (by omega)]
  refine x_if_ne 27 7 rfl d_Rw_append_4 (by decide) (fun hc => absurd rfl hc) (fun hc => ?_)
  refine x_aload_n 8 rfl d_Rw_append_7 rfl ?_
  refine x_get 11 rfl f_Rw_9 d_Rw_append_8 g1 rfl ?_
  refine x_aload_n 12 rfl d_Rw_append_11 rfl ?_
  refine x_get 15 rfl f_Rw_15 d_Rw_append_12 g1 rfl ?_
  refine x_iload_n 16 rfl d_Rw_append_15 rfl ?_
  refine x_iast 17 rfl d_Rw_append_16 g4 (t0 := 0) rfl (vp_in_nI (by omega) (by omega)) ?_
  rw [nI_clamp (by omega)]
  have k1 : (xset w (a + 1) (.inl (X.2.2.2.1 0, cap, .inl (upd f l.length t)))).2.2 a = some (.inr (7, [.ref (a + 1), .int (nI l.length)])) := by rw [xset_ne _ _ (by omega)]; exact g1
  refine x_aload_n 18 rfl d_Rw_append_17 rfl ?_
  refine x_dup 19 rfl d_Rw_append_18 rfl ?_
  refine x_get 22 rfl f_Rw_15 d_Rw_append_19 k1 rfl ?_
  refine x_iconst 23 rfl d_Rw_append_22 1 (by decide) ?_
  refine x_iadd 24 rfl d_Rw_append_23 ?_
  refine x_put 27 rfl p_Rw_15 (fun _ => by first | rfl | contradiction) d_Rw_append_24 k1 rfl rfl (Nat.le_of_ble_eq_true rfl) ?_
  refine x_vret d_Rw_append_27 rfl ?_
  refine h _ ⟨?_, by simp; omega, g3, upd f l.length t, ?_, fun j hj => ?_⟩ (((fr.rf w a (a + 2)).set _ (by omega) (by omega)).set _ (by omega) (by omega))
  · rw [xset_at, List.length_append, List.length_singleton, nI_succ]; rfl
  · rw [xset_ne _ _ (by omega), xset_at]
  · by_cases e : j = l.length
    · subst e; simp [upd]
    · have hj2 : j < l.length := by simp at hj; omega
      rw [List.getElem?_append_left hj2, g5 j hj2]
      simp [upd, e]
theorem s_Rw_itemOr {k o : Int32} (hR : rRw X w a cap l) (h : P (some (.int (if 0 ≤ k ∧ k ≤ nI l.length - 1 then l.getD k.toNatClampNeg 0 else o))) w) : xE (xGG X) 1 m_Rw_itemOr 0 [(0, .ref a), (1, .int k), (2, .int o)] [] w P := by
  obtain ⟨g1, g2, g3, f, g4, g5⟩ := hR
  refine x_iload_n 1 rfl d_Rw_itemOr_0 rfl ?_
  refine x_iconst 2 rfl d_Rw_itemOr_1 0 (by decide) ?_
  refine x_aload_n 3 rfl d_Rw_itemOr_2 rfl ?_
  refine x_get 6 rfl f_Rw_15 d_Rw_itemOr_3 g1 rfl ?_
  refine x_iconst 7 rfl d_Rw_itemOr_6 1 (by decide) ?_
  refine x_isub 8 rfl d_Rw_itemOr_7 ?_
  refine y_call 11 rfl [_, _, _] _ rfl d_Rw_itemOr_8 c_Rw_23 rfl (Nat.le_of_ble_eq_true rfl) (Nat.le_of_ble_eq_true rfl) (Nat.le_of_ble_eq_true rfl) (s_El_isIn ?_)
  by_cases hk : 0 ≤ k ∧ k ≤ nI l.length - 1
  · rw [show decide (0 ≤ k ∧ k ≤ nI l.length - 1) = true from decide_eq_true hk]
    rw [if_pos hk] at h
    have hlen : 0 < l.length := by
      by_cases z : l.length = 0
      · rw [z] at hk
        exact absurd (Int32.le_trans hk.1 hk.2) (by decide)
      · omega
    obtain ⟨j, hj, rfl⟩ : ∃ j, j < l.length ∧ k = nI j := by
      have h2 := hk.2
      rw [show nI l.length - 1 = nI (l.length - 1) from (by have := pk_sub (a := l.length) (b := 1) (by omega); exact this)] at h2
      obtain ⟨j, hj, e⟩ := nI_of (Int32.not_lt.mpr hk.1)
      subst e
      exact ⟨j, by have := (nI_leI hj (by omega)).mp h2; omega, rfl⟩
    refine x_if_eq 23 14 rfl d_Rw_itemOr_11 (by decide) (fun hc => absurd hc (by decide)) (fun hc => ?_)
    refine x_aload_n 15 rfl d_Rw_itemOr_14 rfl ?_
    refine x_get 18 rfl f_Rw_9 d_Rw_itemOr_15 g1 rfl ?_
    refine x_iload_n 19 rfl d_Rw_itemOr_18 rfl ?_
    refine x_iald 20 rfl d_Rw_itemOr_19 g4 (t0 := 0) rfl (vp_in_nI (by omega) (by omega)) ?_
    refine x_goto d_Rw_itemOr_20 24 (by decide) ?_
    refine x_iret d_Rw_itemOr_24 rfl ?_
    rw [nI_clamp (by omega)] at h ⊢
    rw [List.getD_eq_getElem?_getD, g5 j hj] at h
    exact h
  · rw [show decide (0 ≤ k ∧ k ≤ nI l.length - 1) = false from decide_eq_false hk]
    rw [if_neg hk] at h
    refine x_if_eq 23 14 rfl d_Rw_itemOr_11 (by decide) (fun hc => ?_) (fun hc => absurd rfl hc)
    refine x_iload_n 24 rfl d_Rw_itemOr_23 rfl ?_
    refine x_iret d_Rw_itemOr_24 rfl ?_
    exact h
theorem s_Rw_answer {k : Int32} (hR : rRw X w a cap l) (h : P (some (.int (if k = -1 then nI l.length else if 0 ≤ k ∧ k ≤ nI l.length - 1 then l.getD k.toNatClampNeg 0 else -1))) w) : xE (xGG X) 2 m_Rw_answer 0 [(0, .ref a), (1, .int k)] [] w P := by
  have g1 := hR.1
  refine x_iload_n 1 rfl d_Rw_answer_0 rfl ?_
  refine x_iconst 2 rfl d_Rw_answer_1 (-1) (by decide) ?_
  refine x_icmp_ne 12 5 rfl d_Rw_answer_2 (by decide) (fun hc => ?_) (fun hc => ?_)
  · rw [if_neg hc] at h
    refine x_aload_n 13 rfl d_Rw_answer_12 rfl ?_
    refine x_iload_n 14 rfl d_Rw_answer_13 rfl ?_
    refine x_iconst 15 rfl d_Rw_answer_14 (-1) (by decide) ?_
    refine y_callV 18 rfl [_, _] _ rfl d_Rw_answer_15 g1 rfl c_Rw_27 rfl (Nat.le_of_ble_eq_true rfl) (Nat.le_of_ble_eq_true rfl) (Nat.le_of_ble_eq_true rfl) (s_Rw_itemOr hR ?_)
    refine x_iret d_Rw_answer_18 rfl ?_
    exact h
  · rw [if_pos hc] at h
    refine x_aload_n 6 rfl d_Rw_answer_5 rfl ?_
    refine x_get 9 rfl f_Rw_15 d_Rw_answer_6 g1 rfl ?_
    refine x_goto d_Rw_answer_9 18 (by decide) ?_
    refine x_iret d_Rw_answer_18 rfl ?_
    exact h
theorem s_Rw_drop {t : Int32} (hR : rRw X w a cap l) (h : ∀ w', rRw X w' a cap (l.filter (fun x => decide (x ≠ t))) → fr w w' a (a + 2) → P none w') : xE (xGG X) 0 m_Rw_drop 0 [(0, .ref a), (1, .int t)] [] w P := by
  obtain ⟨g1, g2, g3, f, g4, g5⟩ := hR
  have loop : ∀ (n i : Nat) (cc dd : Int32) (w1 : xW) (f1 : Nat → Int32), cc = nI i → dd = nI ((l.take i).filter (fun x => decide (x ≠ t))).length → i + n = l.length → fr w w1 a (a + 2) → w1.2.2 a = some (.inr (7, [.ref (a + 1), .int (nI l.length)])) → w1.2.2 (a + 1) = some (.inl (X.2.2.2.1 0, cap, .inl f1)) → (∀ j, j < ((l.take i).filter (fun x => decide (x ≠ t))).length → ((l.take i).filter (fun x => decide (x ≠ t)))[j]? = some (f1 j)) → (∀ j, i ≤ j → j < l.length → l[j]? = some (f1 j)) → xE (xGG X) 0 m_Rw_drop 4 [(0, .ref a), (1, .int t), (2, .int dd), (3, .int cc)] [] w1 P := by
    intro n
    induction n with
    | zero =>
      intro i cc dd w1 f1 hcc hdd hi hfr k1 k2 k3 k4
      subst hcc hdd
      have hil : i = l.length := by omega
      subst hil
      rw [List.take_length] at k3 ⊢
      refine x_iload_n 5 rfl d_Rw_drop_4 rfl ?_
      refine x_aload_n 6 rfl d_Rw_drop_5 rfl ?_
      refine x_get 9 rfl f_Rw_15 d_Rw_drop_6 k1 rfl ?_
      refine x_icmp_ge 43 12 rfl d_Rw_drop_9 (by decide) (fun hc => ?_) (fun hc => absurd (nI_le (by omega) (by omega)) hc)
      refine x_aload_n 44 rfl d_Rw_drop_43 rfl ?_
      refine x_iload_n 45 rfl d_Rw_drop_44 rfl ?_
      refine x_put 48 rfl p_Rw_15 (fun _ => by first | rfl | contradiction) d_Rw_drop_45 k1 rfl rfl (Nat.le_of_ble_eq_true rfl) ?_
      refine x_vret d_Rw_drop_48 rfl ?_
      refine h _ ⟨xset_at _ _ _, Nat.le_trans (List.length_filter_le _ _) g2, g3, f1, ?_, k3⟩ (hfr.set _ (by omega) (by omega))
      rw [xset_ne _ _ (by omega)]
      exact k2
    | succ n ih =>
      intro i cc dd w1 f1 hcc hdd hi hfr k1 k2 k3 k4
      subst hcc hdd
      have hil : i < l.length := by omega
      have hle : ((l.take i).filter (fun x => decide (x ≠ t))).length ≤ i := Nat.le_trans (List.length_filter_le _ _) (List.length_take_le _ _)
      have hx := k4 i (Nat.le_refl _) hil
      have hxe : l[i] = f1 i := by rw [List.getElem?_eq_getElem hil] at hx; exact Option.some.inj hx
      have ht : l.take (i + 1) = l.take i ++ [f1 i] := by rw [List.take_succ, hx]; rfl
      refine x_iload_n 5 rfl d_Rw_drop_4 rfl ?_
      refine x_aload_n 6 rfl d_Rw_drop_5 rfl ?_
      refine x_get 9 rfl f_Rw_15 d_Rw_drop_6 k1 rfl ?_
      refine x_icmp_ge 43 12 rfl d_Rw_drop_9 (by decide) (fun hc => absurd hc (nI_ge (by omega) (by omega))) (fun hc => ?_)
      refine x_aload_n 13 rfl d_Rw_drop_12 rfl ?_
      refine x_get 16 rfl f_Rw_9 d_Rw_drop_13 k1 rfl ?_
      refine x_iload_n 17 rfl d_Rw_drop_16 rfl ?_
      refine x_iald 18 rfl d_Rw_drop_17 k2 (t0 := 0) rfl (vp_in_nI (by omega) (by omega)) ?_
      refine x_iload_n 19 rfl d_Rw_drop_18 rfl ?_
      rw [nI_clamp (by omega)]
      refine x_icmp_eq 37 22 rfl d_Rw_drop_19 (by decide) (fun hc => ?_) (fun hc => ?_)
      · refine x_iinc 40 rfl d_Rw_drop_37 rfl 1 (by decide) (by decide) ?_
        refine x_goto d_Rw_drop_40 4 (by decide) ?_
        have hf : (l.take (i + 1)).filter (fun x => decide (x ≠ t)) = (l.take i).filter (fun x => decide (x ≠ t)) := by rw [ht, List.filter_append]; simp [hc]
        exact xE.fit (ih (i + 1) _ _ w1 f1 (nI_succ i).symm (by rw [hf]) (by omega) hfr k1 k2 (by rw [hf]; exact k3) (fun j h1 h2 => k4 j (by omega) h2)) rfl
      · refine x_aload_n 23 rfl d_Rw_drop_22 rfl ?_
        refine x_get 26 rfl f_Rw_9 d_Rw_drop_23 k1 rfl ?_
        refine x_iload_n 27 rfl d_Rw_drop_26 rfl ?_
        refine x_aload_n 28 rfl d_Rw_drop_27 rfl ?_
        refine x_get 31 rfl f_Rw_9 d_Rw_drop_28 k1 rfl ?_
        refine x_iload_n 32 rfl d_Rw_drop_31 rfl ?_
        refine x_iald 33 rfl d_Rw_drop_32 k2 (t0 := 0) rfl (vp_in_nI (by omega) (by omega)) ?_
        rw [nI_clamp (by omega)]
        refine x_iast 34 rfl d_Rw_drop_33 k2 (t0 := 0) rfl (vp_in_nI (by omega) (by omega)) ?_
        rw [nI_clamp (by omega)]
        have hf : (l.take (i + 1)).filter (fun x => decide (x ≠ t)) = (l.take i).filter (fun x => decide (x ≠ t)) ++ [f1 i] := by rw [ht, List.filter_append]; simp [hc]
        refine x_iinc 37 rfl d_Rw_drop_34 rfl 1 (by decide) (by decide) ?_
        refine x_iinc 40 rfl d_Rw_drop_37 rfl 1 (by decide) (by decide) ?_
        refine x_goto d_Rw_drop_40 4 (by decide) ?_
        refine xE.fit (ih (i + 1) _ _ _ (upd f1 ((l.take i).filter (fun x => decide (x ≠ t))).length (f1 i)) (nI_succ i).symm (by rw [hf, List.length_append, List.length_singleton, nI_succ]) (by omega) (hfr.set _ (by omega) (by omega)) (by rw [xset_ne _ _ (by omega)]; exact k1) (xset_at _ _ _) (fun j hj => ?_) (fun j h1 h2 => ?_)) rfl
        · rw [hf] at hj ⊢
          by_cases e : j = ((l.take i).filter (fun x => decide (x ≠ t))).length
          · subst e; simp [upd]
          · have hj2 : j < ((l.take i).filter (fun x => decide (x ≠ t))).length := by rw [List.length_append, List.length_singleton] at hj; omega
            rw [List.getElem?_append_left hj2, k3 j hj2]
            simp only [upd, if_neg e]
        · rw [k4 j (by omega) h2]
          simp only [upd]
          rw [if_neg (by omega)]
  refine x_iconst 1 rfl d_Rw_drop_0 0 (by decide) ?_
  refine x_istore_n 2 rfl d_Rw_drop_1 (by decide) ?_
  refine x_iconst 3 rfl d_Rw_drop_2 0 (by decide) ?_
  refine x_istore_n 4 rfl d_Rw_drop_3 (by decide) ?_
  exact xE.fit (loop l.length 0 0 0 w f rfl (by simp [nI]) (Nat.zero_add _) (fr.rf _ _ _) g1 g4 (fun j hj => by simp at hj) (fun j _ h2 => g5 j h2)) rfl
end RW
