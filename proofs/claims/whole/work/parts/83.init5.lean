/-! THE REFERENCE'S CONSTRUCTOR -/
def fJ (m0 j : Nat) : List Value := [.int 0, .int 0, .int 0, .int 0] ++ (List.range 30).map (fun k => bif Nat.ble (k + 1) j then Value.ref (m0 + 1 + k) else .null) ++ [.int 0, .int 0, .int 0]
def eA (k : Nat) : Nat → Int32 := match k with
  | 3 => upd (upd (upd (upd (fun _ => 0) 0 (-1)) 1 (-1)) 2 (-1)) 3 (-1)
  | _ => fun _ => 0
/-- j arrays are made -/
def iS (X : xPar) (m0 : Nat) (w0 : xW) (j sl : Nat) (w : xW) : Prop := w.1 = m0 + 1 + j ∧ w.2.1 = w0.2.1 + sl ∧ w.2.2 m0 = some (.inr (9, fJ m0 j)) ∧ (∀ k, k < j → w.2.2 (m0 + 1 + k) = some (.inl (X.2.2.2.1 (mT k), mS k, .inl (eA k)))) ∧ ∀ x, x < m0 ∨ m0 + 1 + j ≤ x → w.2.2 x = w0.2.2 x
section IM
variable {X : xPar} {m0 j sl : Nat} {s : Int32} {w0 w : xW} {P : Option Value → xW → Prop}
theorem iS.step {fs : List Value} {ee : va_E} (h : iS X m0 w0 j sl w) (hm : ee = .inl (X.2.2.2.1 (mT j), mS j, .inl (eA j))) (hf : fs = fJ m0 (j + 1)) : iS X m0 w0 (j + 1) (sl + mS j) (xset (xnew w (mS j) ee) m0 (.inr (9, fs))) := by
  obtain ⟨h1, h2, h3, h4, h5⟩ := h
  subst hm hf
  refine ⟨by show w.1 + 1 = _; omega, by show w.2.1 + mS j = _; omega, by rw [xset_at], fun k hk => ?_, fun x hx => ?_⟩
  · rw [xset_ne _ _ (by omega)]
    by_cases z : k = j
    · rw [z, ← h1, xnew_at]
    · rw [xnew_ne _ _ _ (by omega)]; exact h4 k (by omega)
  · rw [xset_ne _ _ (by omega), xnew_ne _ _ _ (by omega)]; exact h5 x (by omega)
theorem s_Mi_0 (S0 : iS X m0 w0 0 sl w) (h : ∀ w', iS X m0 w0 1 (sl + 1700) w' → xE (xGG X) 1 m_Mo_init 13 [(0, .ref m0), (1, .int s)] [] w' P) : xE (xGG X) 1 m_Mo_init 0 [(0, .ref m0), (1, .int s)] [] w P := by
  refine x_aload_n 1 rfl d_Mo_init_0 rfl ?_
  refine x_objInit 4 rfl d_Mo_init_1 o_Mo_1 o_inst o_code (Nat.le_of_ble_eq_true rfl) (by decide) ?_
  refine x_aload_n 5 rfl d_Mo_init_4 rfl ?_
  refine x_sipush 8 rfl d_Mo_init_5 1700 (by decide) ?_
  refine x_newa 10 rfl d_Mo_init_8 rfl v_int (t0 := 0) rfl (Or.inl rfl) (by decide) (N' := 1700) (by decide) (by decide) ?_
  have k := (xnew_ne w 1700 (.inl (X.2.2.2.1 0, 1700, .inl (fun _ => (0 : Int32)))) (show m0 ≠ w.1 by have := S0.1; omega)).trans S0.2.2.1
  refine x_put 13 rfl p_Mo_7 (fun _ => rfl) d_Mo_init_10 k rfl rfl (Nat.le_of_ble_eq_true rfl) ?_
  rw [show w.1 = m0 + 1 + 0 from S0.1]
  exact xE.fit (h _ (S0.step (fs := (fJ m0 0).set 4 (.ref (m0 + 1 + 0))) (ee := (.inl (X.2.2.2.1 0, 1700, .inl (fun _ => (0 : Int32))))) rfl rfl)) rfl
theorem s_Mi_1 (S0 : iS X m0 w0 1 sl w) (h : ∀ w', iS X m0 w0 2 (sl + 1700) w' → xE (xGG X) 1 m_Mo_init 22 [(0, .ref m0), (1, .int s)] [] w' P) : xE (xGG X) 1 m_Mo_init 13 [(0, .ref m0), (1, .int s)] [] w P := by
  refine x_aload_n 14 rfl d_Mo_init_13 rfl ?_
  refine x_sipush 17 rfl d_Mo_init_14 1700 (by decide) ?_
  refine x_newa 19 rfl d_Mo_init_17 rfl v_int (t0 := 0) rfl (Or.inl rfl) (by decide) (N' := 1700) (by decide) (by decide) ?_
  have k := (xnew_ne w 1700 (.inl (X.2.2.2.1 0, 1700, .inl (fun _ => (0 : Int32)))) (show m0 ≠ w.1 by have := S0.1; omega)).trans S0.2.2.1
  refine x_put 22 rfl p_Mo_13 (fun _ => rfl) d_Mo_init_19 k rfl rfl (Nat.le_of_ble_eq_true rfl) ?_
  rw [show w.1 = m0 + 1 + 1 from S0.1]
  exact xE.fit (h _ (S0.step (fs := (fJ m0 1).set 5 (.ref (m0 + 1 + 1))) (ee := (.inl (X.2.2.2.1 0, 1700, .inl (fun _ => (0 : Int32))))) rfl rfl)) rfl
theorem s_Mi_2 (S0 : iS X m0 w0 2 sl w) (h : ∀ w', iS X m0 w0 3 (sl + 1700) w' → xE (xGG X) 1 m_Mo_init 31 [(0, .ref m0), (1, .int s)] [] w' P) : xE (xGG X) 1 m_Mo_init 22 [(0, .ref m0), (1, .int s)] [] w P := by
  refine x_aload_n 23 rfl d_Mo_init_22 rfl ?_
  refine x_sipush 26 rfl d_Mo_init_23 1700 (by decide) ?_
  refine x_newa 28 rfl d_Mo_init_26 rfl v_int (t0 := 0) rfl (Or.inl rfl) (by decide) (N' := 1700) (by decide) (by decide) ?_
  have k := (xnew_ne w 1700 (.inl (X.2.2.2.1 0, 1700, .inl (fun _ => (0 : Int32)))) (show m0 ≠ w.1 by have := S0.1; omega)).trans S0.2.2.1
  refine x_put 31 rfl p_Mo_16 (fun _ => rfl) d_Mo_init_28 k rfl rfl (Nat.le_of_ble_eq_true rfl) ?_
  rw [show w.1 = m0 + 1 + 2 from S0.1]
  exact xE.fit (h _ (S0.step (fs := (fJ m0 2).set 6 (.ref (m0 + 1 + 2))) (ee := (.inl (X.2.2.2.1 0, 1700, .inl (fun _ => (0 : Int32))))) rfl rfl)) rfl
theorem s_Mi_3 (S0 : iS X m0 w0 3 sl w) (h : ∀ w', iS X m0 w0 4 (sl + 4) w' → xE (xGG X) 1 m_Mo_init 54 [(0, .ref m0), (1, .int s)] [] w' P) : xE (xGG X) 1 m_Mo_init 31 [(0, .ref m0), (1, .int s)] [] w P := by
  refine x_aload_n 32 rfl d_Mo_init_31 rfl ?_
  refine x_iconst 33 rfl d_Mo_init_32 4 (by decide) ?_
  refine x_newa 35 rfl d_Mo_init_33 rfl v_int (t0 := 0) rfl (Or.inl rfl) (by decide) (N' := 4) (by decide) (by decide) ?_
  refine x_dup 36 rfl d_Mo_init_35 rfl ?_
  refine x_iconst 37 rfl d_Mo_init_36 0 (by decide) ?_
  refine x_iconst 38 rfl d_Mo_init_37 (-1) (by decide) ?_
  refine x_iast 39 rfl d_Mo_init_38 (xnew_at _ _ _) (t0 := 0) rfl (vp_in_nI (n := 0) (N := 4) (by decide) (by decide)) ?_
  refine x_dup 40 rfl d_Mo_init_39 rfl ?_
  refine x_iconst 41 rfl d_Mo_init_40 1 (by decide) ?_
  refine x_iconst 42 rfl d_Mo_init_41 (-1) (by decide) ?_
  refine x_iast 43 rfl d_Mo_init_42 (xset_at _ _ _) (t0 := 0) rfl (vp_in_nI (n := 1) (N := 4) (by decide) (by decide)) ?_
  refine x_dup 44 rfl d_Mo_init_43 rfl ?_
  refine x_iconst 45 rfl d_Mo_init_44 2 (by decide) ?_
  refine x_iconst 46 rfl d_Mo_init_45 (-1) (by decide) ?_
  refine x_iast 47 rfl d_Mo_init_46 (xset_at _ _ _) (t0 := 0) rfl (vp_in_nI (n := 2) (N := 4) (by decide) (by decide)) ?_
  refine x_dup 48 rfl d_Mo_init_47 rfl ?_
  refine x_iconst 49 rfl d_Mo_init_48 3 (by decide) ?_
  refine x_iconst 50 rfl d_Mo_init_49 (-1) (by decide) ?_
  refine x_iast 51 rfl d_Mo_init_50 (xset_at _ _ _) (t0 := 0) rfl (vp_in_nI (n := 3) (N := 4) (by decide) (by decide)) ?_
  rw [show w.1 = m0 + 1 + 3 from S0.1]
  generalize hv : xset _ (m0 + 1 + 3) _ = v3
  have e3 : ∀ x, x ≠ m0 + 1 + 3 → v3.2.2 x = w.2.2 x := fun x hx => by rw [← hv, xset_ne _ _ hx, xset_ne _ _ hx, xset_ne _ _ hx, xset_ne _ _ hx, xnew_ne _ _ _ (by rw [S0.1]; exact hx)]
  have e4 : v3.2.2 (m0 + 1 + 3) = some (.inl (X.2.2.2.1 0, 4, .inl (eA 3))) := by rw [← hv, xset_at]; rfl
  have e5 : v3.1 = w.1 + 1 := by rw [← hv]; rfl
  have e6 : v3.2.1 = w.2.1 + 4 := by rw [← hv]; rfl
  have k3 := (e3 m0 (by omega)).trans S0.2.2.1
  refine x_put 54 rfl p_Mo_19 (fun _ => rfl) d_Mo_init_51 k3 rfl rfl (Nat.le_of_ble_eq_true rfl) ?_
  refine xE.fit (h _ ?_) rfl
  obtain ⟨q1, q2, q3, q4, q5⟩ := S0
  refine ⟨by show v3.1 = _; omega, by show v3.2.1 = _; omega, by rw [xset_at]; rfl, fun k hk => ?_, fun x hx => ?_⟩
  · rw [xset_ne _ _ (by omega)]
    by_cases z : k = 3
    · rw [z]; exact e4
    · rw [e3 _ (by omega)]; exact q4 k (by omega)
  · rw [xset_ne _ _ (by omega), e3 _ (by omega)]; exact q5 x (by omega)
theorem s_Mi_4 (S0 : iS X m0 w0 4 sl w) (h : ∀ w', iS X m0 w0 5 (sl + 4) w' → xE (xGG X) 1 m_Mo_init 61 [(0, .ref m0), (1, .int s)] [] w' P) : xE (xGG X) 1 m_Mo_init 54 [(0, .ref m0), (1, .int s)] [] w P := by
  refine x_aload_n 55 rfl d_Mo_init_54 rfl ?_
  refine x_iconst 56 rfl d_Mo_init_55 4 (by decide) ?_
  refine x_newa 58 rfl d_Mo_init_56 rfl v_int (t0 := 0) rfl (Or.inl rfl) (by decide) (N' := 4) (by decide) (by decide) ?_
  have k := (xnew_ne w 4 (.inl (X.2.2.2.1 0, 4, .inl (fun _ => (0 : Int32)))) (show m0 ≠ w.1 by have := S0.1; omega)).trans S0.2.2.1
  refine x_put 61 rfl p_Mo_22 (fun _ => rfl) d_Mo_init_58 k rfl rfl (Nat.le_of_ble_eq_true rfl) ?_
  rw [show w.1 = m0 + 1 + 4 from S0.1]
  exact xE.fit (h _ (S0.step (fs := (fJ m0 4).set 8 (.ref (m0 + 1 + 4))) (ee := (.inl (X.2.2.2.1 0, 4, .inl (fun _ => (0 : Int32))))) rfl rfl)) rfl
theorem s_Mi_5 (S0 : iS X m0 w0 5 sl w) (h : ∀ w', iS X m0 w0 6 (sl + 48) w' → xE (xGG X) 1 m_Mo_init 69 [(0, .ref m0), (1, .int s)] [] w' P) : xE (xGG X) 1 m_Mo_init 61 [(0, .ref m0), (1, .int s)] [] w P := by
  refine x_aload_n 62 rfl d_Mo_init_61 rfl ?_
  refine x_bipush 64 rfl d_Mo_init_62 48 (by decide) ?_
  refine x_newa 66 rfl d_Mo_init_64 rfl v_int (t0 := 0) rfl (Or.inl rfl) (by decide) (N' := 48) (by decide) (by decide) ?_
  have k := (xnew_ne w 48 (.inl (X.2.2.2.1 0, 48, .inl (fun _ => (0 : Int32)))) (show m0 ≠ w.1 by have := S0.1; omega)).trans S0.2.2.1
  refine x_put 69 rfl p_Mo_25 (fun _ => rfl) d_Mo_init_66 k rfl rfl (Nat.le_of_ble_eq_true rfl) ?_
  rw [show w.1 = m0 + 1 + 5 from S0.1]
  exact xE.fit (h _ (S0.step (fs := (fJ m0 5).set 9 (.ref (m0 + 1 + 5))) (ee := (.inl (X.2.2.2.1 0, 48, .inl (fun _ => (0 : Int32))))) rfl rfl)) rfl
theorem s_Mi_6 (S0 : iS X m0 w0 6 sl w) (h : ∀ w', iS X m0 w0 7 (sl + 4) w' → xE (xGG X) 1 m_Mo_init 76 [(0, .ref m0), (1, .int s)] [] w' P) : xE (xGG X) 1 m_Mo_init 69 [(0, .ref m0), (1, .int s)] [] w P := by
  refine x_aload_n 70 rfl d_Mo_init_69 rfl ?_
  refine x_iconst 71 rfl d_Mo_init_70 4 (by decide) ?_
  refine x_newa 73 rfl d_Mo_init_71 rfl v_int (t0 := 0) rfl (Or.inl rfl) (by decide) (N' := 4) (by decide) (by decide) ?_
  have k := (xnew_ne w 4 (.inl (X.2.2.2.1 0, 4, .inl (fun _ => (0 : Int32)))) (show m0 ≠ w.1 by have := S0.1; omega)).trans S0.2.2.1
  refine x_put 76 rfl p_Mo_28 (fun _ => rfl) d_Mo_init_73 k rfl rfl (Nat.le_of_ble_eq_true rfl) ?_
  rw [show w.1 = m0 + 1 + 6 from S0.1]
  exact xE.fit (h _ (S0.step (fs := (fJ m0 6).set 10 (.ref (m0 + 1 + 6))) (ee := (.inl (X.2.2.2.1 0, 4, .inl (fun _ => (0 : Int32))))) rfl rfl)) rfl
theorem s_Mi_7 (S0 : iS X m0 w0 7 sl w) (h : ∀ w', iS X m0 w0 8 (sl + 160) w' → xE (xGG X) 1 m_Mo_init 85 [(0, .ref m0), (1, .int s)] [] w' P) : xE (xGG X) 1 m_Mo_init 76 [(0, .ref m0), (1, .int s)] [] w P := by
  refine x_aload_n 77 rfl d_Mo_init_76 rfl ?_
  refine x_sipush 80 rfl d_Mo_init_77 160 (by decide) ?_
  refine x_newa 82 rfl d_Mo_init_80 rfl v_int (t0 := 0) rfl (Or.inl rfl) (by decide) (N' := 160) (by decide) (by decide) ?_
  have k := (xnew_ne w 160 (.inl (X.2.2.2.1 0, 160, .inl (fun _ => (0 : Int32)))) (show m0 ≠ w.1 by have := S0.1; omega)).trans S0.2.2.1
  refine x_put 85 rfl p_Mo_31 (fun _ => rfl) d_Mo_init_82 k rfl rfl (Nat.le_of_ble_eq_true rfl) ?_
  rw [show w.1 = m0 + 1 + 7 from S0.1]
  exact xE.fit (h _ (S0.step (fs := (fJ m0 7).set 11 (.ref (m0 + 1 + 7))) (ee := (.inl (X.2.2.2.1 0, 160, .inl (fun _ => (0 : Int32))))) rfl rfl)) rfl
theorem s_Mi_8 (S0 : iS X m0 w0 8 sl w) (h : ∀ w', iS X m0 w0 9 (sl + 64) w' → xE (xGG X) 1 m_Mo_init 93 [(0, .ref m0), (1, .int s)] [] w' P) : xE (xGG X) 1 m_Mo_init 85 [(0, .ref m0), (1, .int s)] [] w P := by
  refine x_aload_n 86 rfl d_Mo_init_85 rfl ?_
  refine x_bipush 88 rfl d_Mo_init_86 64 (by decide) ?_
  refine x_newa 90 rfl d_Mo_init_88 rfl v_bool (t0 := 1) rfl (Or.inr rfl) (by decide) (N' := 64) (by decide) (by decide) ?_
  have k := (xnew_ne w 64 (.inl (X.2.2.2.1 1, 64, .inl (fun _ => (0 : Int32)))) (show m0 ≠ w.1 by have := S0.1; omega)).trans S0.2.2.1
  refine x_put 93 rfl p_Mo_34 (fun _ => rfl) d_Mo_init_90 k rfl rfl (Nat.le_of_ble_eq_true rfl) ?_
  rw [show w.1 = m0 + 1 + 8 from S0.1]
  exact xE.fit (h _ (S0.step (fs := (fJ m0 8).set 12 (.ref (m0 + 1 + 8))) (ee := (.inl (X.2.2.2.1 1, 64, .inl (fun _ => (0 : Int32))))) rfl rfl)) rfl
theorem s_Mi_9 (S0 : iS X m0 w0 9 sl w) (h : ∀ w', iS X m0 w0 10 (sl + 64) w' → xE (xGG X) 1 m_Mo_init 101 [(0, .ref m0), (1, .int s)] [] w' P) : xE (xGG X) 1 m_Mo_init 93 [(0, .ref m0), (1, .int s)] [] w P := by
  refine x_aload_n 94 rfl d_Mo_init_93 rfl ?_
  refine x_bipush 96 rfl d_Mo_init_94 64 (by decide) ?_
  refine x_newa 98 rfl d_Mo_init_96 rfl v_int (t0 := 0) rfl (Or.inl rfl) (by decide) (N' := 64) (by decide) (by decide) ?_
  have k := (xnew_ne w 64 (.inl (X.2.2.2.1 0, 64, .inl (fun _ => (0 : Int32)))) (show m0 ≠ w.1 by have := S0.1; omega)).trans S0.2.2.1
  refine x_put 101 rfl p_Mo_38 (fun _ => rfl) d_Mo_init_98 k rfl rfl (Nat.le_of_ble_eq_true rfl) ?_
  rw [show w.1 = m0 + 1 + 9 from S0.1]
  exact xE.fit (h _ (S0.step (fs := (fJ m0 9).set 13 (.ref (m0 + 1 + 9))) (ee := (.inl (X.2.2.2.1 0, 64, .inl (fun _ => (0 : Int32))))) rfl rfl)) rfl
theorem s_Mi_10 (S0 : iS X m0 w0 10 sl w) (h : ∀ w', iS X m0 w0 11 (sl + 64) w' → xE (xGG X) 1 m_Mo_init 109 [(0, .ref m0), (1, .int s)] [] w' P) : xE (xGG X) 1 m_Mo_init 101 [(0, .ref m0), (1, .int s)] [] w P := by
  refine x_aload_n 102 rfl d_Mo_init_101 rfl ?_
  refine x_bipush 104 rfl d_Mo_init_102 64 (by decide) ?_
  refine x_newa 106 rfl d_Mo_init_104 rfl v_int (t0 := 0) rfl (Or.inl rfl) (by decide) (N' := 64) (by decide) (by decide) ?_
  have k := (xnew_ne w 64 (.inl (X.2.2.2.1 0, 64, .inl (fun _ => (0 : Int32)))) (show m0 ≠ w.1 by have := S0.1; omega)).trans S0.2.2.1
  refine x_put 109 rfl p_Mo_41 (fun _ => rfl) d_Mo_init_106 k rfl rfl (Nat.le_of_ble_eq_true rfl) ?_
  rw [show w.1 = m0 + 1 + 10 from S0.1]
  exact xE.fit (h _ (S0.step (fs := (fJ m0 10).set 14 (.ref (m0 + 1 + 10))) (ee := (.inl (X.2.2.2.1 0, 64, .inl (fun _ => (0 : Int32))))) rfl rfl)) rfl
theorem s_Mi_11 (S0 : iS X m0 w0 11 sl w) (h : ∀ w', iS X m0 w0 12 (sl + 256) w' → xE (xGG X) 1 m_Mo_init 118 [(0, .ref m0), (1, .int s)] [] w' P) : xE (xGG X) 1 m_Mo_init 109 [(0, .ref m0), (1, .int s)] [] w P := by
  refine x_aload_n 110 rfl d_Mo_init_109 rfl ?_
  refine x_sipush 113 rfl d_Mo_init_110 256 (by decide) ?_
  refine x_newa 115 rfl d_Mo_init_113 rfl v_bool (t0 := 1) rfl (Or.inr rfl) (by decide) (N' := 256) (by decide) (by decide) ?_
  have k := (xnew_ne w 256 (.inl (X.2.2.2.1 1, 256, .inl (fun _ => (0 : Int32)))) (show m0 ≠ w.1 by have := S0.1; omega)).trans S0.2.2.1
  refine x_put 118 rfl p_Mo_44 (fun _ => rfl) d_Mo_init_115 k rfl rfl (Nat.le_of_ble_eq_true rfl) ?_
  rw [show w.1 = m0 + 1 + 11 from S0.1]
  exact xE.fit (h _ (S0.step (fs := (fJ m0 11).set 15 (.ref (m0 + 1 + 11))) (ee := (.inl (X.2.2.2.1 1, 256, .inl (fun _ => (0 : Int32))))) rfl rfl)) rfl
theorem s_Mi_12 (S0 : iS X m0 w0 12 sl w) (h : ∀ w', iS X m0 w0 13 (sl + 256) w' → xE (xGG X) 1 m_Mo_init 127 [(0, .ref m0), (1, .int s)] [] w' P) : xE (xGG X) 1 m_Mo_init 118 [(0, .ref m0), (1, .int s)] [] w P := by
  refine x_aload_n 119 rfl d_Mo_init_118 rfl ?_
  refine x_sipush 122 rfl d_Mo_init_119 256 (by decide) ?_
  refine x_newa 124 rfl d_Mo_init_122 rfl v_int (t0 := 0) rfl (Or.inl rfl) (by decide) (N' := 256) (by decide) (by decide) ?_
  have k := (xnew_ne w 256 (.inl (X.2.2.2.1 0, 256, .inl (fun _ => (0 : Int32)))) (show m0 ≠ w.1 by have := S0.1; omega)).trans S0.2.2.1
  refine x_put 127 rfl p_Mo_47 (fun _ => rfl) d_Mo_init_124 k rfl rfl (Nat.le_of_ble_eq_true rfl) ?_
  rw [show w.1 = m0 + 1 + 12 from S0.1]
  exact xE.fit (h _ (S0.step (fs := (fJ m0 12).set 16 (.ref (m0 + 1 + 12))) (ee := (.inl (X.2.2.2.1 0, 256, .inl (fun _ => (0 : Int32))))) rfl rfl)) rfl
theorem s_Mi_13 (S0 : iS X m0 w0 13 sl w) (h : ∀ w', iS X m0 w0 14 (sl + 256) w' → xE (xGG X) 1 m_Mo_init 136 [(0, .ref m0), (1, .int s)] [] w' P) : xE (xGG X) 1 m_Mo_init 127 [(0, .ref m0), (1, .int s)] [] w P := by
  refine x_aload_n 128 rfl d_Mo_init_127 rfl ?_
  refine x_sipush 131 rfl d_Mo_init_128 256 (by decide) ?_
  refine x_newa 133 rfl d_Mo_init_131 rfl v_int (t0 := 0) rfl (Or.inl rfl) (by decide) (N' := 256) (by decide) (by decide) ?_
  have k := (xnew_ne w 256 (.inl (X.2.2.2.1 0, 256, .inl (fun _ => (0 : Int32)))) (show m0 ≠ w.1 by have := S0.1; omega)).trans S0.2.2.1
  refine x_put 136 rfl p_Mo_50 (fun _ => rfl) d_Mo_init_133 k rfl rfl (Nat.le_of_ble_eq_true rfl) ?_
  rw [show w.1 = m0 + 1 + 13 from S0.1]
  exact xE.fit (h _ (S0.step (fs := (fJ m0 13).set 17 (.ref (m0 + 1 + 13))) (ee := (.inl (X.2.2.2.1 0, 256, .inl (fun _ => (0 : Int32))))) rfl rfl)) rfl
theorem s_Mi_14 (S0 : iS X m0 w0 14 sl w) (h : ∀ w', iS X m0 w0 15 (sl + 256) w' → xE (xGG X) 1 m_Mo_init 145 [(0, .ref m0), (1, .int s)] [] w' P) : xE (xGG X) 1 m_Mo_init 136 [(0, .ref m0), (1, .int s)] [] w P := by
  refine x_aload_n 137 rfl d_Mo_init_136 rfl ?_
  refine x_sipush 140 rfl d_Mo_init_137 256 (by decide) ?_
  refine x_newa 142 rfl d_Mo_init_140 rfl v_bool (t0 := 1) rfl (Or.inr rfl) (by decide) (N' := 256) (by decide) (by decide) ?_
  have k := (xnew_ne w 256 (.inl (X.2.2.2.1 1, 256, .inl (fun _ => (0 : Int32)))) (show m0 ≠ w.1 by have := S0.1; omega)).trans S0.2.2.1
  refine x_put 145 rfl p_Mo_53 (fun _ => rfl) d_Mo_init_142 k rfl rfl (Nat.le_of_ble_eq_true rfl) ?_
  rw [show w.1 = m0 + 1 + 14 from S0.1]
  exact xE.fit (h _ (S0.step (fs := (fJ m0 14).set 18 (.ref (m0 + 1 + 14))) (ee := (.inl (X.2.2.2.1 1, 256, .inl (fun _ => (0 : Int32))))) rfl rfl)) rfl
theorem s_Mi_15 (S0 : iS X m0 w0 15 sl w) (h : ∀ w', iS X m0 w0 16 (sl + 256) w' → xE (xGG X) 1 m_Mo_init 154 [(0, .ref m0), (1, .int s)] [] w' P) : xE (xGG X) 1 m_Mo_init 145 [(0, .ref m0), (1, .int s)] [] w P := by
  refine x_aload_n 146 rfl d_Mo_init_145 rfl ?_
  refine x_sipush 149 rfl d_Mo_init_146 256 (by decide) ?_
  refine x_newa 151 rfl d_Mo_init_149 rfl v_int (t0 := 0) rfl (Or.inl rfl) (by decide) (N' := 256) (by decide) (by decide) ?_
  have k := (xnew_ne w 256 (.inl (X.2.2.2.1 0, 256, .inl (fun _ => (0 : Int32)))) (show m0 ≠ w.1 by have := S0.1; omega)).trans S0.2.2.1
  refine x_put 154 rfl p_Mo_56 (fun _ => rfl) d_Mo_init_151 k rfl rfl (Nat.le_of_ble_eq_true rfl) ?_
  rw [show w.1 = m0 + 1 + 15 from S0.1]
  exact xE.fit (h _ (S0.step (fs := (fJ m0 15).set 19 (.ref (m0 + 1 + 15))) (ee := (.inl (X.2.2.2.1 0, 256, .inl (fun _ => (0 : Int32))))) rfl rfl)) rfl
theorem s_Mi_16 (S0 : iS X m0 w0 16 sl w) (h : ∀ w', iS X m0 w0 17 (sl + 1536) w' → xE (xGG X) 1 m_Mo_init 163 [(0, .ref m0), (1, .int s)] [] w' P) : xE (xGG X) 1 m_Mo_init 154 [(0, .ref m0), (1, .int s)] [] w P := by
  refine x_aload_n 155 rfl d_Mo_init_154 rfl ?_
  refine x_sipush 158 rfl d_Mo_init_155 1536 (by decide) ?_
  refine x_newa 160 rfl d_Mo_init_158 rfl v_int (t0 := 0) rfl (Or.inl rfl) (by decide) (N' := 1536) (by decide) (by decide) ?_
  have k := (xnew_ne w 1536 (.inl (X.2.2.2.1 0, 1536, .inl (fun _ => (0 : Int32)))) (show m0 ≠ w.1 by have := S0.1; omega)).trans S0.2.2.1
  refine x_put 163 rfl p_Mo_59 (fun _ => rfl) d_Mo_init_160 k rfl rfl (Nat.le_of_ble_eq_true rfl) ?_
  rw [show w.1 = m0 + 1 + 16 from S0.1]
  exact xE.fit (h _ (S0.step (fs := (fJ m0 16).set 20 (.ref (m0 + 1 + 16))) (ee := (.inl (X.2.2.2.1 0, 1536, .inl (fun _ => (0 : Int32))))) rfl rfl)) rfl
theorem s_Mi_17 (S0 : iS X m0 w0 17 sl w) (h : ∀ w', iS X m0 w0 18 (sl + 1536) w' → xE (xGG X) 1 m_Mo_init 172 [(0, .ref m0), (1, .int s)] [] w' P) : xE (xGG X) 1 m_Mo_init 163 [(0, .ref m0), (1, .int s)] [] w P := by
  refine x_aload_n 164 rfl d_Mo_init_163 rfl ?_
  refine x_sipush 167 rfl d_Mo_init_164 1536 (by decide) ?_
  refine x_newa 169 rfl d_Mo_init_167 rfl v_int (t0 := 0) rfl (Or.inl rfl) (by decide) (N' := 1536) (by decide) (by decide) ?_
  have k := (xnew_ne w 1536 (.inl (X.2.2.2.1 0, 1536, .inl (fun _ => (0 : Int32)))) (show m0 ≠ w.1 by have := S0.1; omega)).trans S0.2.2.1
  refine x_put 172 rfl p_Mo_62 (fun _ => rfl) d_Mo_init_169 k rfl rfl (Nat.le_of_ble_eq_true rfl) ?_
  rw [show w.1 = m0 + 1 + 17 from S0.1]
  exact xE.fit (h _ (S0.step (fs := (fJ m0 17).set 21 (.ref (m0 + 1 + 17))) (ee := (.inl (X.2.2.2.1 0, 1536, .inl (fun _ => (0 : Int32))))) rfl rfl)) rfl
theorem s_Mi_18 (S0 : iS X m0 w0 18 sl w) (h : ∀ w', iS X m0 w0 19 (sl + 64) w' → xE (xGG X) 1 m_Mo_init 180 [(0, .ref m0), (1, .int s)] [] w' P) : xE (xGG X) 1 m_Mo_init 172 [(0, .ref m0), (1, .int s)] [] w P := by
  refine x_aload_n 173 rfl d_Mo_init_172 rfl ?_
  refine x_bipush 175 rfl d_Mo_init_173 64 (by decide) ?_
  refine x_newa 177 rfl d_Mo_init_175 rfl v_bool (t0 := 1) rfl (Or.inr rfl) (by decide) (N' := 64) (by decide) (by decide) ?_
  have k := (xnew_ne w 64 (.inl (X.2.2.2.1 1, 64, .inl (fun _ => (0 : Int32)))) (show m0 ≠ w.1 by have := S0.1; omega)).trans S0.2.2.1
  refine x_put 180 rfl p_Mo_65 (fun _ => rfl) d_Mo_init_177 k rfl rfl (Nat.le_of_ble_eq_true rfl) ?_
  rw [show w.1 = m0 + 1 + 18 from S0.1]
  exact xE.fit (h _ (S0.step (fs := (fJ m0 18).set 22 (.ref (m0 + 1 + 18))) (ee := (.inl (X.2.2.2.1 1, 64, .inl (fun _ => (0 : Int32))))) rfl rfl)) rfl
theorem s_Mi_19 (S0 : iS X m0 w0 19 sl w) (h : ∀ w', iS X m0 w0 20 (sl + 64) w' → xE (xGG X) 1 m_Mo_init 188 [(0, .ref m0), (1, .int s)] [] w' P) : xE (xGG X) 1 m_Mo_init 180 [(0, .ref m0), (1, .int s)] [] w P := by
  refine x_aload_n 181 rfl d_Mo_init_180 rfl ?_
  refine x_bipush 183 rfl d_Mo_init_181 64 (by decide) ?_
  refine x_newa 185 rfl d_Mo_init_183 rfl v_bool (t0 := 1) rfl (Or.inr rfl) (by decide) (N' := 64) (by decide) (by decide) ?_
  have k := (xnew_ne w 64 (.inl (X.2.2.2.1 1, 64, .inl (fun _ => (0 : Int32)))) (show m0 ≠ w.1 by have := S0.1; omega)).trans S0.2.2.1
  refine x_put 188 rfl p_Mo_68 (fun _ => rfl) d_Mo_init_185 k rfl rfl (Nat.le_of_ble_eq_true rfl) ?_
  rw [show w.1 = m0 + 1 + 19 from S0.1]
  exact xE.fit (h _ (S0.step (fs := (fJ m0 19).set 23 (.ref (m0 + 1 + 19))) (ee := (.inl (X.2.2.2.1 1, 64, .inl (fun _ => (0 : Int32))))) rfl rfl)) rfl
theorem s_Mi_20 (S0 : iS X m0 w0 20 sl w) (h : ∀ w', iS X m0 w0 21 (sl + 384) w' → xE (xGG X) 1 m_Mo_init 197 [(0, .ref m0), (1, .int s)] [] w' P) : xE (xGG X) 1 m_Mo_init 188 [(0, .ref m0), (1, .int s)] [] w P := by
  refine x_aload_n 189 rfl d_Mo_init_188 rfl ?_
  refine x_sipush 192 rfl d_Mo_init_189 384 (by decide) ?_
  refine x_newa 194 rfl d_Mo_init_192 rfl v_int (t0 := 0) rfl (Or.inl rfl) (by decide) (N' := 384) (by decide) (by decide) ?_
  have k := (xnew_ne w 384 (.inl (X.2.2.2.1 0, 384, .inl (fun _ => (0 : Int32)))) (show m0 ≠ w.1 by have := S0.1; omega)).trans S0.2.2.1
  refine x_put 197 rfl p_Mo_71 (fun _ => rfl) d_Mo_init_194 k rfl rfl (Nat.le_of_ble_eq_true rfl) ?_
  rw [show w.1 = m0 + 1 + 20 from S0.1]
  exact xE.fit (h _ (S0.step (fs := (fJ m0 20).set 24 (.ref (m0 + 1 + 20))) (ee := (.inl (X.2.2.2.1 0, 384, .inl (fun _ => (0 : Int32))))) rfl rfl)) rfl
theorem s_Mi_21 (S0 : iS X m0 w0 21 sl w) (h : ∀ w', iS X m0 w0 22 (sl + 384) w' → xE (xGG X) 1 m_Mo_init 206 [(0, .ref m0), (1, .int s)] [] w' P) : xE (xGG X) 1 m_Mo_init 197 [(0, .ref m0), (1, .int s)] [] w P := by
  refine x_aload_n 198 rfl d_Mo_init_197 rfl ?_
  refine x_sipush 201 rfl d_Mo_init_198 384 (by decide) ?_
  refine x_newa 203 rfl d_Mo_init_201 rfl v_bool (t0 := 1) rfl (Or.inr rfl) (by decide) (N' := 384) (by decide) (by decide) ?_
  have k := (xnew_ne w 384 (.inl (X.2.2.2.1 1, 384, .inl (fun _ => (0 : Int32)))) (show m0 ≠ w.1 by have := S0.1; omega)).trans S0.2.2.1
  refine x_put 206 rfl p_Mo_74 (fun _ => rfl) d_Mo_init_203 k rfl rfl (Nat.le_of_ble_eq_true rfl) ?_
  rw [show w.1 = m0 + 1 + 21 from S0.1]
  exact xE.fit (h _ (S0.step (fs := (fJ m0 21).set 25 (.ref (m0 + 1 + 21))) (ee := (.inl (X.2.2.2.1 1, 384, .inl (fun _ => (0 : Int32))))) rfl rfl)) rfl
theorem s_Mi_22 (S0 : iS X m0 w0 22 sl w) (h : ∀ w', iS X m0 w0 23 (sl + 16) w' → xE (xGG X) 1 m_Mo_init 214 [(0, .ref m0), (1, .int s)] [] w' P) : xE (xGG X) 1 m_Mo_init 206 [(0, .ref m0), (1, .int s)] [] w P := by
  refine x_aload_n 207 rfl d_Mo_init_206 rfl ?_
  refine x_bipush 209 rfl d_Mo_init_207 16 (by decide) ?_
  refine x_newa 211 rfl d_Mo_init_209 rfl v_int (t0 := 0) rfl (Or.inl rfl) (by decide) (N' := 16) (by decide) (by decide) ?_
  have k := (xnew_ne w 16 (.inl (X.2.2.2.1 0, 16, .inl (fun _ => (0 : Int32)))) (show m0 ≠ w.1 by have := S0.1; omega)).trans S0.2.2.1
  refine x_put 214 rfl p_Mo_77 (fun _ => rfl) d_Mo_init_211 k rfl rfl (Nat.le_of_ble_eq_true rfl) ?_
  rw [show w.1 = m0 + 1 + 22 from S0.1]
  exact xE.fit (h _ (S0.step (fs := (fJ m0 22).set 26 (.ref (m0 + 1 + 22))) (ee := (.inl (X.2.2.2.1 0, 16, .inl (fun _ => (0 : Int32))))) rfl rfl)) rfl
theorem s_Mi_23 (S0 : iS X m0 w0 23 sl w) (h : ∀ w', iS X m0 w0 24 (sl + 16) w' → xE (xGG X) 1 m_Mo_init 222 [(0, .ref m0), (1, .int s)] [] w' P) : xE (xGG X) 1 m_Mo_init 214 [(0, .ref m0), (1, .int s)] [] w P := by
  refine x_aload_n 215 rfl d_Mo_init_214 rfl ?_
  refine x_bipush 217 rfl d_Mo_init_215 16 (by decide) ?_
  refine x_newa 219 rfl d_Mo_init_217 rfl v_bool (t0 := 1) rfl (Or.inr rfl) (by decide) (N' := 16) (by decide) (by decide) ?_
  have k := (xnew_ne w 16 (.inl (X.2.2.2.1 1, 16, .inl (fun _ => (0 : Int32)))) (show m0 ≠ w.1 by have := S0.1; omega)).trans S0.2.2.1
  refine x_put 222 rfl p_Mo_80 (fun _ => rfl) d_Mo_init_219 k rfl rfl (Nat.le_of_ble_eq_true rfl) ?_
  rw [show w.1 = m0 + 1 + 23 from S0.1]
  exact xE.fit (h _ (S0.step (fs := (fJ m0 23).set 27 (.ref (m0 + 1 + 23))) (ee := (.inl (X.2.2.2.1 1, 16, .inl (fun _ => (0 : Int32))))) rfl rfl)) rfl
theorem s_Mi_24 (S0 : iS X m0 w0 24 sl w) (h : ∀ w', iS X m0 w0 25 (sl + 16) w' → xE (xGG X) 1 m_Mo_init 230 [(0, .ref m0), (1, .int s)] [] w' P) : xE (xGG X) 1 m_Mo_init 222 [(0, .ref m0), (1, .int s)] [] w P := by
  refine x_aload_n 223 rfl d_Mo_init_222 rfl ?_
  refine x_bipush 225 rfl d_Mo_init_223 16 (by decide) ?_
  refine x_newa 227 rfl d_Mo_init_225 rfl v_int (t0 := 0) rfl (Or.inl rfl) (by decide) (N' := 16) (by decide) (by decide) ?_
  have k := (xnew_ne w 16 (.inl (X.2.2.2.1 0, 16, .inl (fun _ => (0 : Int32)))) (show m0 ≠ w.1 by have := S0.1; omega)).trans S0.2.2.1
  refine x_put 230 rfl p_Mo_83 (fun _ => rfl) d_Mo_init_227 k rfl rfl (Nat.le_of_ble_eq_true rfl) ?_
  rw [show w.1 = m0 + 1 + 24 from S0.1]
  exact xE.fit (h _ (S0.step (fs := (fJ m0 24).set 28 (.ref (m0 + 1 + 24))) (ee := (.inl (X.2.2.2.1 0, 16, .inl (fun _ => (0 : Int32))))) rfl rfl)) rfl
theorem s_Mi_25 (S0 : iS X m0 w0 25 sl w) (h : ∀ w', iS X m0 w0 26 (sl + 16) w' → xE (xGG X) 1 m_Mo_init 238 [(0, .ref m0), (1, .int s)] [] w' P) : xE (xGG X) 1 m_Mo_init 230 [(0, .ref m0), (1, .int s)] [] w P := by
  refine x_aload_n 231 rfl d_Mo_init_230 rfl ?_
  refine x_bipush 233 rfl d_Mo_init_231 16 (by decide) ?_
  refine x_newa 235 rfl d_Mo_init_233 rfl v_int (t0 := 0) rfl (Or.inl rfl) (by decide) (N' := 16) (by decide) (by decide) ?_
  have k := (xnew_ne w 16 (.inl (X.2.2.2.1 0, 16, .inl (fun _ => (0 : Int32)))) (show m0 ≠ w.1 by have := S0.1; omega)).trans S0.2.2.1
  refine x_put 238 rfl p_Mo_86 (fun _ => rfl) d_Mo_init_235 k rfl rfl (Nat.le_of_ble_eq_true rfl) ?_
  rw [show w.1 = m0 + 1 + 25 from S0.1]
  exact xE.fit (h _ (S0.step (fs := (fJ m0 25).set 29 (.ref (m0 + 1 + 25))) (ee := (.inl (X.2.2.2.1 0, 16, .inl (fun _ => (0 : Int32))))) rfl rfl)) rfl
theorem s_Mi_26 (S0 : iS X m0 w0 26 sl w) (h : ∀ w', iS X m0 w0 27 (sl + 16) w' → xE (xGG X) 1 m_Mo_init 246 [(0, .ref m0), (1, .int s)] [] w' P) : xE (xGG X) 1 m_Mo_init 238 [(0, .ref m0), (1, .int s)] [] w P := by
  refine x_aload_n 239 rfl d_Mo_init_238 rfl ?_
  refine x_bipush 241 rfl d_Mo_init_239 16 (by decide) ?_
  refine x_newa 243 rfl d_Mo_init_241 rfl v_int (t0 := 0) rfl (Or.inl rfl) (by decide) (N' := 16) (by decide) (by decide) ?_
  have k := (xnew_ne w 16 (.inl (X.2.2.2.1 0, 16, .inl (fun _ => (0 : Int32)))) (show m0 ≠ w.1 by have := S0.1; omega)).trans S0.2.2.1
  refine x_put 246 rfl p_Mo_89 (fun _ => rfl) d_Mo_init_243 k rfl rfl (Nat.le_of_ble_eq_true rfl) ?_
  rw [show w.1 = m0 + 1 + 26 from S0.1]
  exact xE.fit (h _ (S0.step (fs := (fJ m0 26).set 30 (.ref (m0 + 1 + 26))) (ee := (.inl (X.2.2.2.1 0, 16, .inl (fun _ => (0 : Int32))))) rfl rfl)) rfl
theorem s_Mi_27 (S0 : iS X m0 w0 27 sl w) (h : ∀ w', iS X m0 w0 28 (sl + 16) w' → xE (xGG X) 1 m_Mo_init 254 [(0, .ref m0), (1, .int s)] [] w' P) : xE (xGG X) 1 m_Mo_init 246 [(0, .ref m0), (1, .int s)] [] w P := by
  refine x_aload_n 247 rfl d_Mo_init_246 rfl ?_
  refine x_bipush 249 rfl d_Mo_init_247 16 (by decide) ?_
  refine x_newa 251 rfl d_Mo_init_249 rfl v_int (t0 := 0) rfl (Or.inl rfl) (by decide) (N' := 16) (by decide) (by decide) ?_
  have k := (xnew_ne w 16 (.inl (X.2.2.2.1 0, 16, .inl (fun _ => (0 : Int32)))) (show m0 ≠ w.1 by have := S0.1; omega)).trans S0.2.2.1
  refine x_put 254 rfl p_Mo_92 (fun _ => rfl) d_Mo_init_251 k rfl rfl (Nat.le_of_ble_eq_true rfl) ?_
  rw [show w.1 = m0 + 1 + 27 from S0.1]
  exact xE.fit (h _ (S0.step (fs := (fJ m0 27).set 31 (.ref (m0 + 1 + 27))) (ee := (.inl (X.2.2.2.1 0, 16, .inl (fun _ => (0 : Int32))))) rfl rfl)) rfl
theorem s_Mi_28 (S0 : iS X m0 w0 28 sl w) (h : ∀ w', iS X m0 w0 29 (sl + 16) w' → xE (xGG X) 1 m_Mo_init 262 [(0, .ref m0), (1, .int s)] [] w' P) : xE (xGG X) 1 m_Mo_init 254 [(0, .ref m0), (1, .int s)] [] w P := by
  refine x_aload_n 255 rfl d_Mo_init_254 rfl ?_
  refine x_bipush 257 rfl d_Mo_init_255 16 (by decide) ?_
  refine x_newa 259 rfl d_Mo_init_257 rfl v_int (t0 := 0) rfl (Or.inl rfl) (by decide) (N' := 16) (by decide) (by decide) ?_
  have k := (xnew_ne w 16 (.inl (X.2.2.2.1 0, 16, .inl (fun _ => (0 : Int32)))) (show m0 ≠ w.1 by have := S0.1; omega)).trans S0.2.2.1
  refine x_put 262 rfl p_Mo_95 (fun _ => rfl) d_Mo_init_259 k rfl rfl (Nat.le_of_ble_eq_true rfl) ?_
  rw [show w.1 = m0 + 1 + 28 from S0.1]
  exact xE.fit (h _ (S0.step (fs := (fJ m0 28).set 32 (.ref (m0 + 1 + 28))) (ee := (.inl (X.2.2.2.1 0, 16, .inl (fun _ => (0 : Int32))))) rfl rfl)) rfl
theorem s_Mi_29 (S0 : iS X m0 w0 29 sl w) (h : ∀ w', iS X m0 w0 30 (sl + 16) w' → xE (xGG X) 1 m_Mo_init 270 [(0, .ref m0), (1, .int s)] [] w' P) : xE (xGG X) 1 m_Mo_init 262 [(0, .ref m0), (1, .int s)] [] w P := by
  refine x_aload_n 263 rfl d_Mo_init_262 rfl ?_
  refine x_bipush 265 rfl d_Mo_init_263 16 (by decide) ?_
  refine x_newa 267 rfl d_Mo_init_265 rfl v_bool (t0 := 1) rfl (Or.inr rfl) (by decide) (N' := 16) (by decide) (by decide) ?_
  have k := (xnew_ne w 16 (.inl (X.2.2.2.1 1, 16, .inl (fun _ => (0 : Int32)))) (show m0 ≠ w.1 by have := S0.1; omega)).trans S0.2.2.1
  refine x_put 270 rfl p_Mo_98 (fun _ => rfl) d_Mo_init_267 k rfl rfl (Nat.le_of_ble_eq_true rfl) ?_
  rw [show w.1 = m0 + 1 + 29 from S0.1]
  exact xE.fit (h _ (S0.step (fs := (fJ m0 29).set 33 (.ref (m0 + 1 + 29))) (ee := (.inl (X.2.2.2.1 1, 16, .inl (fun _ => (0 : Int32))))) rfl rfl)) rfl
theorem s_Mo_init (ha : w.2.2 m0 = some (.inr (9, fJ m0 0))) (h1 : w.1 = m0 + 1) (h : ∀ w', gw w w' m0 30 10888 → rMo X m0 (cSd s) (false, 0, 0, 0, 0, 0) eA w' → P none w') : xE (xGG X) 1 m_Mo_init 0 [(0, .ref m0), (1, .int s)] [] w P := by
  have S0 : iS X m0 w 0 0 w := ⟨h1, rfl, ha, fun k hk => absurd hk (by omega), fun _ _ => rfl⟩
  refine s_Mi_0 S0 (fun w1 S1 => ?_)
  refine s_Mi_1 S1 (fun w2 S2 => ?_)
  refine s_Mi_2 S2 (fun w3 S3 => ?_)
  refine s_Mi_3 S3 (fun w4 S4 => ?_)
  refine s_Mi_4 S4 (fun w5 S5 => ?_)
  refine s_Mi_5 S5 (fun w6 S6 => ?_)
  refine s_Mi_6 S6 (fun w7 S7 => ?_)
  refine s_Mi_7 S7 (fun w8 S8 => ?_)
  refine s_Mi_8 S8 (fun w9 S9 => ?_)
  refine s_Mi_9 S9 (fun w10 S10 => ?_)
  refine s_Mi_10 S10 (fun w11 S11 => ?_)
  refine s_Mi_11 S11 (fun w12 S12 => ?_)
  refine s_Mi_12 S12 (fun w13 S13 => ?_)
  refine s_Mi_13 S13 (fun w14 S14 => ?_)
  refine s_Mi_14 S14 (fun w15 S15 => ?_)
  refine s_Mi_15 S15 (fun w16 S16 => ?_)
  refine s_Mi_16 S16 (fun w17 S17 => ?_)
  refine s_Mi_17 S17 (fun w18 S18 => ?_)
  refine s_Mi_18 S18 (fun w19 S19 => ?_)
  refine s_Mi_19 S19 (fun w20 S20 => ?_)
  refine s_Mi_20 S20 (fun w21 S21 => ?_)
  refine s_Mi_21 S21 (fun w22 S22 => ?_)
  refine s_Mi_22 S22 (fun w23 S23 => ?_)
  refine s_Mi_23 S23 (fun w24 S24 => ?_)
  refine s_Mi_24 S24 (fun w25 S25 => ?_)
  refine s_Mi_25 S25 (fun w26 S26 => ?_)
  refine s_Mi_26 S26 (fun w27 S27 => ?_)
  refine s_Mi_27 S27 (fun w28 S28 => ?_)
  refine s_Mi_28 S28 (fun w29 S29 => ?_)
  refine s_Mi_29 S29 (fun w30 S30 => ?_)
  have k30 := S30.2.2.1
  refine x_iload_n 271 rfl d_Mo_init_270 rfl ?_
  refine x_ldc 273 rfl d_Mo_init_271 k_Mo_101 ?_
  refine x_imul 274 rfl d_Mo_init_273 ?_
  refine x_istore_n 275 rfl d_Mo_init_274 (by decide) ?_
  refine x_aload_n 276 rfl d_Mo_init_275 rfl ?_
  refine x_iload_n 277 rfl d_Mo_init_276 rfl ?_
  refine x_iload_n 278 rfl d_Mo_init_277 rfl ?_
  refine x_bipush 280 rfl d_Mo_init_278 15 (by decide) ?_
  refine x_iushr 281 rfl d_Mo_init_280 ?_
  refine x_ixor 282 rfl d_Mo_init_281 ?_
  refine x_put 285 rfl p_Mo_102 (fun _ => rfl) d_Mo_init_282 k30 rfl rfl (Nat.le_of_ble_eq_true rfl) ?_
  refine x_vret d_Mo_init_285 rfl ?_
  obtain ⟨q1, q2, q3, q4, q5⟩ := S30
  refine h _ ⟨by show w30.1 = _; omega, by show w30.2.1 = _; omega, fun x hx hx2 => ?_⟩ ⟨by rw [xset_at]; rfl, fun k hk => by rw [xset_ne _ _ (by omega)]; exact q4 k hk⟩
  rw [xset_ne _ _ hx]; exact q5 x (by omega)
end IM
