/-! THE REFERENCE: ISBOOKED, UNQUEUE -/
section BK
variable {X : xPar} {m0 : Nat} {t : Int32} {n : Nat} {s : sS} {M : Nat → Nat → Int32} {q l : List Int32} {w : xW} {P : Option Value → xW → Prop}
theorem s_Mo_isBooked {nn x : Int32} (q1 : nn = nI n) (hn : n < 4) (hR : rMo X m0 t s M w) (hq : qRel M n q l) (hl : l.length ≤ 40) (h : P (some (.int (nB (decide (x ∈ l))))) w) : xE (xGG X) 0 m_Mo_isBooked 0 [(0, .ref m0), (1, .int nn), (2, .int x)] [] w P := by
  subst q1
  have g1 := hR.1
  have g6 := hR.a6
  have g7 := hR.a7
  have loop : ∀ (m j : Nat) (cc : Int32), cc = nI j → j + m = l.length → (∀ k, k < j → l.getD k 0 ≠ x) → xE (xGG X) 0 m_Mo_isBooked 2 [(0, .ref m0), (1, .int (nI n)), (2, .int x), (3, .int cc)] [] w P := by
    intro m
    induction m with
    | zero =>
      intro j cc hcc hj hk
      subst hcc
      refine x_iload_n 3 rfl d_Mo_isBooked_2 rfl ?_
      refine x_aload_n 4 rfl d_Mo_isBooked_3 rfl ?_
      refine x_get 7 rfl f_Mo_28 d_Mo_isBooked_4 g1 rfl ?_
      refine x_iload_n 8 rfl d_Mo_isBooked_7 rfl ?_
      refine x_iald 9 rfl d_Mo_isBooked_8 g6 (t0 := 0) rfl (vp_in_nI (by omega) (by decide)) ?_
      rw [nI_clamp (by omega), hq.2.2.1]
      refine x_icmp_ge 35 12 rfl d_Mo_isBooked_9 (by decide) (fun hc => ?_) (fun hc => absurd (nI_le (by omega) (by omega)) hc)
      refine x_iconst 36 rfl d_Mo_isBooked_35 0 (by decide) ?_
      refine x_zret d_Mo_isBooked_36 rfl (by decide) ?_
      rw [decide_eq_false] at h
      · exact h
      · intro z
        obtain ⟨k, k1, k2⟩ := gD_mem.mp z
        exact hk k (by omega) k2
    | succ m ih =>
      intro j cc hcc hj hk
      subst hcc
      refine x_iload_n 3 rfl d_Mo_isBooked_2 rfl ?_
      refine x_aload_n 4 rfl d_Mo_isBooked_3 rfl ?_
      refine x_get 7 rfl f_Mo_28 d_Mo_isBooked_4 g1 rfl ?_
      refine x_iload_n 8 rfl d_Mo_isBooked_7 rfl ?_
      refine x_iald 9 rfl d_Mo_isBooked_8 g6 (t0 := 0) rfl (vp_in_nI (by omega) (by decide)) ?_
      rw [nI_clamp (by omega), hq.2.2.1]
      refine x_icmp_ge 35 12 rfl d_Mo_isBooked_9 (by decide) (fun hc => absurd hc (nI_ge (by omega) (by omega))) (fun hc => ?_)
      refine x_aload_n 13 rfl d_Mo_isBooked_12 rfl ?_
      refine x_get 16 rfl f_Mo_31 d_Mo_isBooked_13 g1 rfl ?_
      refine x_bipush 18 rfl d_Mo_isBooked_16 40 (by decide) ?_
      refine x_iload_n 19 rfl d_Mo_isBooked_18 rfl ?_
      refine x_imul 20 rfl d_Mo_isBooked_19 ?_
      refine x_iload_n 21 rfl d_Mo_isBooked_20 rfl ?_
      refine x_iadd 22 rfl d_Mo_isBooked_21 ?_
      rw [i40]
      refine x_iald 23 rfl d_Mo_isBooked_22 g7 (t0 := 0) rfl (vp_in_nI (by omega) (by decide)) ?_
      refine x_iload_n 24 rfl d_Mo_isBooked_23 rfl ?_
      rw [nI_clamp (by omega), hq.2.2.2 j (by omega)]
      refine x_icmp_ne 29 27 rfl d_Mo_isBooked_24 (by decide) (fun hc => ?_) (fun hc => ?_)
      · refine x_iinc 32 rfl d_Mo_isBooked_29 rfl 1 (by decide) (by decide) ?_
        refine x_goto d_Mo_isBooked_32 2 (by decide) ?_
        rw [nI_1]
        refine xE.fit (ih (j + 1) _ rfl (by omega) (fun k hk2 => ?_)) rfl
        by_cases z : k = j
        · rw [z]; exact hc
        · exact hk k (by omega)
      · refine x_iconst 28 rfl d_Mo_isBooked_27 1 (by decide) ?_
        refine x_zret d_Mo_isBooked_28 rfl (by decide) ?_
        rw [decide_eq_true (gD_mem.mpr ⟨j, by omega, hc⟩)] at h
        exact h
  refine x_iconst 1 rfl d_Mo_isBooked_0 0 (by decide) ?_
  refine x_istore_n 2 rfl d_Mo_isBooked_1 (by decide) ?_
  exact xE.fit (loop l.length 0 0 rfl (by omega) (fun k hk => absurd hk (by omega))) rfl
theorem tk_f {x : Int32} {j : Nat} (hj : j < q.length) : ((q.take (j + 1)).filter (fun y => decide (y ≠ x))) = (q.take j).filter (fun y => decide (y ≠ x)) ++ (if q.getD j 0 = x then [] else [q.getD j 0]) := by
  rw [List.take_succ, gD hj, List.filter_append]
  congr 1
  generalize q.getD j 0 = y
  by_cases z : y = x
  · rw [if_pos z]; simp [z]
  · rw [if_neg z]; simp [z]
theorem gD_app {a b : List Int32} {k : Nat} (h : k < a.length) : (a ++ b).getD k 0 = a.getD k 0 := by
  rw [List.getD_eq_getElem?_getD, List.getD_eq_getElem?_getD, List.getElem?_append_left h]
theorem gD_one {a : List Int32} {y : Int32} : (a ++ [y]).getD a.length 0 = y := by
  rw [List.getD_eq_getElem?_getD, List.getElem?_append_right (Nat.le_refl _), Nat.sub_self]; rfl
theorem tk_len {x : Int32} {j : Nat} : ((q.take j).filter (fun y => decide (y ≠ x))).length ≤ j := Nat.le_trans (List.length_filter_le _ _) (by rw [List.length_take]; omega)
theorem s_Mo_unqueue {nn x : Int32} (q1 : nn = nI n) (hn : n < 4) (hR : rMo X m0 t s M w) (hq : qRel M n q l) (hl : q.length ≤ 12) (h : ∀ w' M', rMo X m0 t s M' w' → qRel M' n (q.filter (fun y => decide (y ≠ x))) l → (∀ j, j ≠ 4 → j ≠ 5 → M' j = M j) → nFr M M' n → fr w w' m0 (m0 + 31) → P none w') : xE (xGG X) 0 m_Mo_unqueue 0 [(0, .ref m0), (1, .int nn), (2, .int x)] [] w P := by
  subst q1
  have loop : ∀ (m j : Nat) (cc : Int32) (M' : Nat → Nat → Int32) (w' : xW), cc = nI j → j + m = q.length → rMo X m0 t s M' w' → (∀ j, j ≠ 5 → M' j = M j) → (∀ k, j ≤ k → k < q.length → M' 5 (12 * n + k) = q.getD k 0) → (∀ k, k < ((q.take j).filter (fun y => decide (y ≠ x))).length → M' 5 (12 * n + k) = ((q.take j).filter (fun y => decide (y ≠ x))).getD k 0) → nFr M M' n → fr w w' m0 (m0 + 31) → xE (xGG X) 0 m_Mo_unqueue 5 [(0, .ref m0), (1, .int (nI n)), (2, .int x), (3, .int (nI ((q.take j).filter (fun y => decide (y ≠ x))).length)), (4, .int cc)] [] w' P := by
    intro m
    induction m with
    | zero =>
      intro j cc M' w' hcc hj R' e5 k1 k2 hF hw
      subst hcc
      have g1 := R'.1
      have g4 := R'.a4
      have hj : j = q.length := by omega
      subst hj
      rw [List.take_length] at k2 ⊢
      have hfl : (q.filter (fun y => decide (y ≠ x))).length ≤ 12 := Nat.le_trans (List.length_filter_le _ _) hl
      refine x_iload 7 rfl d_Mo_unqueue_5 rfl ?_
      refine x_aload_n 8 rfl d_Mo_unqueue_7 rfl ?_
      refine x_get 11 rfl f_Mo_22 d_Mo_unqueue_8 g1 rfl ?_
      refine x_iload_n 12 rfl d_Mo_unqueue_11 rfl ?_
      refine x_iald 13 rfl d_Mo_unqueue_12 g4 (t0 := 0) rfl (vp_in_nI (by omega) (by decide)) ?_
      rw [nI_clamp (by omega), e5 4 (by decide), hq.1]
      refine x_icmp_ge 58 16 rfl d_Mo_unqueue_13 (by decide) (fun hc => ?_) (fun hc => absurd (nI_le (by omega) (by omega)) hc)
      refine x_aload_n 59 rfl d_Mo_unqueue_58 rfl ?_
      refine x_get 62 rfl f_Mo_22 d_Mo_unqueue_59 g1 rfl ?_
      refine x_iload_n 63 rfl d_Mo_unqueue_62 rfl ?_
      refine x_iload_n 64 rfl d_Mo_unqueue_63 rfl ?_
      refine x_iast 65 rfl d_Mo_unqueue_64 g4 (t0 := 0) rfl (vp_in_nI (by omega) (by decide)) ?_
      refine x_vret d_Mo_unqueue_65 rfl ?_
      rw [nI_clamp (by omega)]
      refine h _ _ (R'.put (j := 4) (i := n) (by decide)) ⟨?_, ?_, ?_, ?_⟩ ?_ (hF.up (Nat.div_one n)) (hw.set _ (by omega) (by omega))
      · rw [va_up_self, upd_at]
      · rw [va_up_ne _ _ (by decide)]; exact k2
      · rw [va_up_ne _ _ (by decide), e5 6 (by decide)]; exact hq.2.2.1
      · rw [va_up_ne _ _ (by decide), e5 7 (by decide)]; exact hq.2.2.2
      · intro j h4 h5
        rw [va_up_ne _ _ h4]; exact e5 j h5
    | succ m ih =>
      intro j cc M' w' hcc hj R' e5 k1 k2 hF hw
      subst hcc
      have g1 := R'.1
      have g4 := R'.a4
      have g5 := R'.a5
      have hlt : j < q.length := by omega
      have hf := tk_len (q := q) (x := x) (j := j)
      refine x_iload 7 rfl d_Mo_unqueue_5 rfl ?_
      refine x_aload_n 8 rfl d_Mo_unqueue_7 rfl ?_
      refine x_get 11 rfl f_Mo_22 d_Mo_unqueue_8 g1 rfl ?_
      refine x_iload_n 12 rfl d_Mo_unqueue_11 rfl ?_
      refine x_iald 13 rfl d_Mo_unqueue_12 g4 (t0 := 0) rfl (vp_in_nI (by omega) (by decide)) ?_
      rw [nI_clamp (by omega), e5 4 (by decide), hq.1]
      refine x_icmp_ge 58 16 rfl d_Mo_unqueue_13 (by decide) (fun hc => absurd hc (nI_ge (by omega) (by omega))) (fun hc => ?_)
      refine x_aload_n 17 rfl d_Mo_unqueue_16 rfl ?_
      refine x_get 20 rfl f_Mo_25 d_Mo_unqueue_17 g1 rfl ?_
      refine x_bipush 22 rfl d_Mo_unqueue_20 12 (by decide) ?_
      refine x_iload_n 23 rfl d_Mo_unqueue_22 rfl ?_
      refine x_imul 24 rfl d_Mo_unqueue_23 ?_
      refine x_iload 26 rfl d_Mo_unqueue_24 rfl ?_
      refine x_iadd 27 rfl d_Mo_unqueue_26 ?_
      rw [i12]
      refine x_iald 28 rfl d_Mo_unqueue_27 g5 (t0 := 0) rfl (vp_in_nI (by omega) (by decide)) ?_
      refine x_istore 30 rfl d_Mo_unqueue_28 (by decide) ?_
      refine x_iload 32 rfl d_Mo_unqueue_30 rfl ?_
      refine x_iload_n 33 rfl d_Mo_unqueue_32 rfl ?_
      rw [nI_clamp (by omega), k1 j (Nat.le_refl _) hlt]
      refine x_icmp_eq 52 36 rfl d_Mo_unqueue_33 (by decide) (fun hc => ?_) (fun hc => ?_)
      · have e1 := tk_f (x := x) hlt
        rw [if_pos hc, List.append_nil] at e1
        refine x_iinc 55 rfl d_Mo_unqueue_52 rfl 1 (by decide) (by decide) ?_
        refine x_goto d_Mo_unqueue_55 5 (by decide) ?_
        rw [nI_1]
        have := ih (j + 1) _ M' w' rfl (by omega) R' e5 (fun k h1 h2 => k1 k (by omega) h2) (by rw [e1]; exact k2) hF hw
        rw [e1] at this
        exact xE.fit this rfl
      · have e1 := tk_f (x := x) hlt
        rw [if_neg hc] at e1
        generalize hf0 : (q.take j).filter (fun y => decide (y ≠ x)) = f at e1 k2 hf ⊢
        refine x_aload_n 37 rfl d_Mo_unqueue_36 rfl ?_
        refine x_get 40 rfl f_Mo_25 d_Mo_unqueue_37 g1 rfl ?_
        refine x_bipush 42 rfl d_Mo_unqueue_40 12 (by decide) ?_
        refine x_iload_n 43 rfl d_Mo_unqueue_42 rfl ?_
        refine x_imul 44 rfl d_Mo_unqueue_43 ?_
        refine x_iload_n 45 rfl d_Mo_unqueue_44 rfl ?_
        refine x_iadd 46 rfl d_Mo_unqueue_45 ?_
        refine x_iload 48 rfl d_Mo_unqueue_46 rfl ?_
        rw [i12]
        refine x_iast 49 rfl d_Mo_unqueue_48 g5 (t0 := 0) rfl (vp_in_nI (by omega) (by decide)) ?_
        rw [nI_clamp (by omega)]
        have R2 := R'.put (j := 5) (i := 12 * n + f.length) (x := q.getD j 0) (by decide)
        generalize hw1 : xset w' (m0 + 1 + 5) _ = w1
        have R2 : rMo X m0 t s (va_up M' 5 (upd (M' 5) (12 * n + f.length) (q.getD j 0))) w1 := by rw [← hw1]; exact R2
        have f2 : fr w w1 m0 (m0 + 31) := by rw [← hw1]; exact hw.set _ (by omega) (by omega)
        refine x_iinc 52 rfl d_Mo_unqueue_49 rfl 1 (by decide) (by decide) ?_
        refine x_iinc 55 rfl d_Mo_unqueue_52 rfl 1 (by decide) (by decide) ?_
        refine x_goto d_Mo_unqueue_55 5 (by decide) ?_
        rw [nI_1, nI_1]
        have := ih (j + 1) _ (va_up M' 5 (upd (M' 5) (12 * n + f.length) (q.getD j 0))) w1 rfl (by omega) R2 (fun k hk => by rw [va_up_ne _ _ hk]; exact e5 k hk) (fun k h1 h2 => by rw [va_up_self, upd_ne _ _ (by omega)]; exact k1 k (by omega) h2) (by
          rw [e1]
          intro k hk
          rw [List.length_append, List.length_singleton] at hk
          rw [va_up_self]
          by_cases z : k = f.length
          · rw [z, upd_at, gD_one]
          · rw [upd_ne _ _ (by omega), gD_app (by omega)]; exact k2 k (by omega)) (hF.up (by show (12 * n + f.length) / 12 = n; omega)) f2
        rw [e1, List.length_append, List.length_singleton] at this
        exact xE.fit this rfl
  refine x_iconst 1 rfl d_Mo_unqueue_0 0 (by decide) ?_
  refine x_istore_n 2 rfl d_Mo_unqueue_1 (by decide) ?_
  refine x_iconst 3 rfl d_Mo_unqueue_2 0 (by decide) ?_
  refine x_istore 5 rfl d_Mo_unqueue_3 (by decide) ?_
  exact xE.fit (loop q.length 0 0 M w rfl (by omega) hR (fun _ _ => rfl) (fun k _ h2 => hq.2.1 k h2) (fun k hk => by rw [List.take_zero] at hk; exact absurd hk (by simp)) (nFr.rf _ _) (fr.rf _ _ _)) rfl
end BK
