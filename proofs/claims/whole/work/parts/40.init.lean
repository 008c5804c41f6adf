/-! CONSTRUCTORS -/
/-- n cells and s slots more; of the older cells only a is written -/
def gw (w w' : xW) (a n s : Nat) : Prop := w'.1 = w.1 + n ∧ w'.2.1 = w.2.1 + s ∧ ∀ x, x ≠ a → (x < w.1 ∨ w.1 + n ≤ x) → w'.2.2 x = w.2.2 x
section IN
variable {X : xPar} {sb L : Nat} {xs : Nat → Int32} {tI tE mi a : Nat} {w : xW} {P : Option Value → xW → Prop}
theorem s_Rt_init (ha : w.2.2 a = some (.inr (6, [.null, .int 0]))) (h1 : w.1 = a + 1) (h : ∀ w', gw w w' a 1 4 → rRt X w' a (fun _ => false) (fun _ => 0) → P none w') : xE (xGG X) 1 m_Rt_init 0 [(0, .ref a)] [] w P := by
  refine x_aload_n 1 rfl d_Rt_init_0 rfl ?_
  refine x_objInit 4 rfl d_Rt_init_1 o_Rt_3 o_inst o_code (Nat.le_of_ble_eq_true rfl) (by decide) ?_
  refine x_aload_n 5 rfl d_Rt_init_4 rfl ?_
  refine x_iconst 6 rfl d_Rt_init_5 4 (by decide) ?_
  refine x_newa 8 rfl d_Rt_init_6 rfl v_int (t0 := 0) rfl (Or.inl rfl) (by decide) (N' := 4) (by decide) (by decide) ?_
  have k1 := (xnew_ne w 4 (.inl (X.2.2.2.1 0, 4, .inl (fun _ => (0 : Int32)))) (show a ≠ w.1 by omega)).trans ha
  refine x_put 11 rfl p_Rt_9 (fun _ => rfl) d_Rt_init_8 k1 rfl rfl (Nat.le_of_ble_eq_true rfl) ?_
  refine x_vret d_Rt_init_11 rfl ?_
  refine h _ ⟨rfl, rfl, fun x hx hx2 => ?_⟩ ⟨?_, fun _ => 0, ?_, fun j hj => rfl⟩
  · rw [xset_ne _ _ hx, xnew_ne _ _ _ (by omega)]
  · rw [xset_at, h1]; rfl
  · rw [xset_ne _ _ (by omega), ← h1, xnew_at]
theorem s_Rw_init {cc : Int32} {cap : Nat} (hcc : cc = nI cap) (hcap : cap ≤ 64) (ha : w.2.2 a = some (.inr (7, [.null, .int 0]))) (h1 : w.1 = a + 1) (h : ∀ w', gw w w' a 1 cap → rRw X w' a cap [] → P none w') : xE (xGG X) 1 m_Rw_init 0 [(0, .ref a), (1, .int cc)] [] w P := by
  subst hcc
  refine x_aload_n 1 rfl d_Rw_init_0 rfl ?_
  refine x_objInit 4 rfl d_Rw_init_1 o_Rw_3 o_inst o_code (Nat.le_of_ble_eq_true rfl) (by decide) ?_
  refine x_aload_n 5 rfl d_Rw_init_4 rfl ?_
  refine x_iload_n 6 rfl d_Rw_init_5 rfl ?_
  refine x_newa 8 rfl d_Rw_init_6 rfl v_int (t0 := 0) rfl (Or.inl rfl) (nI_pos (by omega)) (N' := cap) (nI_clamp (by omega)) (by omega) ?_
  have k1 := (xnew_ne w cap (.inl (X.2.2.2.1 0, cap, .inl (fun _ => (0 : Int32)))) (show a ≠ w.1 by omega)).trans ha
  refine x_put 11 rfl p_Rw_9 (fun _ => rfl) d_Rw_init_8 k1 rfl rfl (Nat.le_of_ble_eq_true rfl) ?_
  refine x_vret d_Rw_init_11 rfl ?_
  refine h _ ⟨rfl, rfl, fun x hx hx2 => ?_⟩ ⟨?_, Nat.zero_le _, hcap, fun _ => 0, ?_, fun j hj => absurd hj (Nat.not_lt_zero _)⟩
  · rw [xset_ne _ _ hx, xnew_ne _ _ _ (by omega)]
  · rw [xset_at, h1]; rfl
  · rw [xset_ne _ _ (by omega), ← h1, xnew_at]
theorem s_Ac_init (h : P none w) : xE (xGG X) 1 m_Ac_init 0 [(0, .ref a)] [] w P := by
  refine x_aload_n 1 rfl d_Ac_init_0 rfl ?_
  refine x_objInit 4 rfl d_Ac_init_1 o_Ac_1 o_inst o_code (Nat.le_of_ble_eq_true rfl) (by decide) ?_
  refine x_vret d_Ac_init_4 rfl ?_
  exact h
theorem s_Ab_init {fs : List Value} (hfs : fs = [.null, .int 0, .int 0]) (ha : w.2.2 a = some (.inr (10, fs))) (h : ∀ w', gw w w' a 0 0 → w'.2.2 a = some (.inr (10, [.null, .int 0, .int 0])) → P none w') : xE (xGG X) 2 m_Ab_init 0 [(0, .ref a)] [] w P := by
  subst hfs
  refine x_aload_n 1 rfl d_Ab_init_0 rfl ?_
  refine y_callI 4 rfl [] _ rfl d_Ab_init_1 c_Ab_1 rfl (Nat.le_of_ble_eq_true rfl) (Nat.le_of_ble_eq_true rfl) (Nat.le_of_ble_eq_true rfl) (s_Ac_init ?_)
  refine x_aload_n 5 rfl d_Ab_init_4 rfl ?_
  refine x_iconst 6 rfl d_Ab_init_5 0 (by decide) ?_
  refine x_put 9 rfl p_Ab_7 (fun h => nomatch h) d_Ab_init_6 ha rfl rfl (Nat.le_of_ble_eq_true rfl) ?_
  refine x_vret d_Ab_init_9 rfl ?_
  refine h _ ⟨rfl, rfl, fun x hx hx2 => by rw [xset_ne _ _ hx]⟩ (by rw [xset_at]; rfl)
theorem s_Al_init (hX : xS X sb L xs tI tE mi) (ha : w.2.2 a = some (.inr (10, [.null, .int 0, .int 0]))) (h : ∀ w', gw w w' a 0 0 → w'.2.2 a = some (.inr (10, [.ref tE, .int 0, .int 0])) → P none w') : xE (xGG X) 3 m_Al_init 0 [(0, .ref a)] [] w P := by
  refine x_aload_n 1 rfl d_Al_init_0 rfl ?_
  refine y_callI 4 rfl [] _ rfl d_Al_init_1 c_Al_1 rfl (Nat.le_of_ble_eq_true rfl) (Nat.le_of_ble_eq_true rfl) (Nat.le_of_ble_eq_true rfl) (s_Ab_init rfl ha (fun w1 k1 k2 => ?_))
  refine x_aload_n 5 rfl d_Al_init_4 rfl ?_
  refine x_gets 8 rfl d_Al_init_5 f_emp (fun U H z => (hX U H z).2.2.2.1) ?_
  refine x_put 11 rfl p_Al_9 (fun h => nomatch h) d_Al_init_8 k2 rfl rfl (Nat.le_of_ble_eq_true rfl) ?_
  refine x_vret d_Al_init_11 rfl ?_
  exact h _ ⟨k1.1, k1.2.1, fun x hx hx2 => by rw [xset_ne _ _ hx]; exact k1.2.2 x hx hx2⟩ (by rw [xset_at]; rfl)
theorem s_In_init (hX : xS X sb L xs tI tE mi) (ha : w.2.2 a = some (.inr (2, [.null]))) (h1 : w.1 = a + 1) (h : ∀ w', gw w w' a 1 3 → w'.2.2 a = some (.inr (2, [.ref (a + 1)])) → w'.2.2 (a + 1) = some (.inr (10, [.ref tE, .int 0, .int 0])) → P none w') : xE (xGG X) 4 m_In_init 0 [(0, .ref a)] [] w P := by
  refine x_aload_n 1 rfl d_In_init_0 rfl ?_
  refine x_objInit 4 rfl d_In_init_1 o_In_1 o_inst o_code (Nat.le_of_ble_eq_true rfl) (by decide) ?_
  refine x_aload_n 5 rfl d_In_init_4 rfl ?_
  refine x_new 8 rfl d_In_init_5 (ci := 10) (ty := t_Al) (fs := [.null, .int 0, .int 0]) rfl l_Al t_Al_ok q_In_7 i_Al z_Al (by decide) ?_
  refine x_dup 9 rfl d_In_init_8 rfl ?_
  refine y_callI 12 rfl [] _ rfl d_In_init_9 c_In_9 rfl (Nat.le_of_ble_eq_true rfl) (Nat.le_of_ble_eq_true rfl) (Nat.le_of_ble_eq_true rfl) (s_Al_init hX (xnew_at _ _ _) (fun w1 k1 k2 => ?_))
  have g1 : w1.2.2 a = some (.inr (2, [.null])) := by
    rw [k1.2.2 a (by omega) (Or.inl (by show a < w.1 + 1; omega)), xnew_ne _ _ _ (by omega)]; exact ha
  refine x_put 15 rfl p_In_10 (fun _ => rfl) d_In_init_12 g1 rfl rfl (Nat.le_of_ble_eq_true rfl) ?_
  refine x_vret d_In_init_15 rfl ?_
  refine h _ ⟨k1.1, k1.2.1, fun x hx hx2 => ?_⟩ (by rw [xset_at, h1]; rfl) (by rw [xset_ne _ _ (by omega), ← h1]; exact k2)
  rw [xset_ne _ _ hx, k1.2.2 x (by omega) (by show x < w.1 + 1 ∨ w.1 + 1 + 0 ≤ x; omega), xnew_ne _ _ _ (by omega)]
/-- a fresh network -/
def rN0 (X : xPar) (tE nb : Nat) (w : xW) : Prop := w.2.2 nb = some (.inr (4, [.ref (nb + 1)])) ∧
  (∃ f : Nat → Option Nat, w.2.2 (nb + 1) = some (.inl (X.2.2.2.1 2, 4, .inr (.inr (.inr (.inr f))))) ∧ ∀ i, i < 4 → f i = some (nb + 2 + 2 * i)) ∧
  (∀ i, i < 4 → w.2.2 (nb + 2 + 2 * i) = some (.inr (2, [.ref (nb + 3 + 2 * i)]))) ∧ ∀ i, i < 4 → w.2.2 (nb + 3 + 2 * i) = some (.inr (10, [.ref tE, .int 0, .int 0]))
theorem rN0.kept {nb : Nat} {w' : xW} (h : rN0 X tE nb w) (hk : ∀ x, nb ≤ x → x < nb + 10 → w'.2.2 x = w.2.2 x) : rN0 X tE nb w' := by
  obtain ⟨h1, ⟨f, h2, h3⟩, h4, h5⟩ := h
  exact ⟨(hk _ (by omega) (by omega)).trans h1, ⟨f, (hk _ (by omega) (by omega)).trans h2, h3⟩, fun i hi => (hk _ (by omega) (by omega)).trans (h4 i hi), fun i hi => (hk _ (by omega) (by omega)).trans (h5 i hi)⟩
theorem s_Nt_init (hX : xS X sb L xs tI tE mi) (ha : w.2.2 a = some (.inr (4, [.null]))) (h1 : w.1 = a + 1) (h : ∀ w', gw w w' a 9 20 → rN0 X tE a w' → P none w') : xE (xGG X) 5 m_Nt_init 0 [(0, .ref a)] [] w P := by
  have loop : ∀ (n j : Nat) (cc : Int32) (w1 : xW) (f : Nat → Option Nat), cc = nI j → j + n = 4 → w1.1 = a + 2 + 2 * j → w1.2.1 = w.2.1 + 4 + 4 * j → w1.2.2 a = some (.inr (4, [.ref (a + 1)])) → w1.2.2 (a + 1) = some (.inl (X.2.2.2.1 2, 4, .inr (.inr (.inr (.inr f))))) → (∀ i, i < j → f i = some (a + 2 + 2 * i)) → (∀ i, i < j → w1.2.2 (a + 2 + 2 * i) = some (.inr (2, [.ref (a + 3 + 2 * i)])) ∧ w1.2.2 (a + 3 + 2 * i) = some (.inr (10, [.ref tE, .int 0, .int 0]))) → (∀ x, x < a ∨ a + 2 + 2 * j ≤ x → w1.2.2 x = w.2.2 x) → xE (xGG X) 5 m_Nt_init 14 [(0, .ref a), (1, .int cc)] [] w1 P := by
    intro n
    induction n with
    | zero =>
      intro j cc w1 f hcc hj e1 e2 e3 e4 e5 e6 e7
      have hj4 : j = 4 := by omega
      subst hj4 hcc
      refine x_iload_n 15 rfl d_Nt_init_14 rfl ?_
      refine x_iconst 16 rfl d_Nt_init_15 4 (by decide) ?_
      refine x_icmp_ge 38 19 rfl d_Nt_init_16 (by decide) (fun hc => ?_) (fun hc => absurd (by decide) hc)
      refine x_vret d_Nt_init_38 rfl ?_
      refine h w1 ⟨by omega, by omega, fun x hx hx2 => e7 x (by omega)⟩ ⟨e3, ⟨f, e4, e5⟩, fun i hi => (e6 i hi).1, fun i hi => (e6 i hi).2⟩
    | succ n ih =>
      intro j cc w1 f hcc hj e1 e2 e3 e4 e5 e6 e7
      subst hcc
      have hj4 : j < 4 := by omega
      refine x_iload_n 15 rfl d_Nt_init_14 rfl ?_
      refine x_iconst 16 rfl d_Nt_init_15 4 (by decide) ?_
      refine x_icmp_ge 38 19 rfl d_Nt_init_16 (by decide) (fun hc => absurd hc (nI_ge (a := j) (b := 4) hj4 (by decide))) (fun hc => ?_)
      refine x_aload_n 20 rfl d_Nt_init_19 rfl ?_
      refine x_get 23 rfl f_Nt_11 d_Nt_init_20 e3 rfl ?_
      refine x_iload_n 24 rfl d_Nt_init_23 rfl ?_
      refine x_new 27 rfl d_Nt_init_24 (ci := 2) (ty := t_In) (fs := [.null]) rfl l_In t_In_ok q_Nt_9 i_In z_In (by decide) ?_
      refine x_dup 28 rfl d_Nt_init_27 rfl ?_
      refine y_callI 31 rfl [] _ rfl d_Nt_init_28 c_Nt_17 rfl (Nat.le_of_ble_eq_true rfl) (Nat.le_of_ble_eq_true rfl) (Nat.le_of_ble_eq_true rfl) (s_In_init hX (xnew_at _ _ _) rfl (fun w2 k1 k2 k3 => ?_))
      have kk : ∀ x, x ≠ w1.1 → (x < w1.1 ∨ w1.1 + 2 ≤ x) → w2.2.2 x = w1.2.2 x := fun x x1 x2 => by
        rw [k1.2.2 x x1 (by show x < w1.1 + 1 ∨ w1.1 + 1 + 1 ≤ x; omega), xnew_ne _ _ _ x1]
      have m1 : w2.1 = w1.1 + 2 := k1.1
      have m2 : w2.2.1 = w1.2.1 + 4 := k1.2.1
      have g4 := (kk (a + 1) (by omega) (by omega)).trans e4
      have g3 := (kk a (by omega) (by omega)).trans e3
      rw [e1] at k2 k3
      rw [show a + 2 + 2 * j + 1 = a + 3 + 2 * j from by omega] at k2 k3
      rw [show w1.1 = a + 2 + 2 * j from e1]
      refine x_aast 32 rfl d_Nt_init_31 g4 (t0 := 2) rfl k2 rfl (Or.inl rfl) (vp_in_nI hj4 (by decide)) ?_
      rw [nI_clamp (by omega)]
      refine x_iinc 35 rfl d_Nt_init_32 rfl 1 (by decide) (by decide) ?_
      refine x_goto d_Nt_init_35 14 (by decide) ?_
      rw [nI_1]
      refine xE.fit (ih (j + 1) _ _ (va_up f j (some (a + 2 + 2 * j))) rfl (by omega) (by show w2.1 = _; omega) (by show w2.2.1 = _; omega) (by rw [xset_ne _ _ (by omega)]; exact g3) (xset_at _ _ _) (fun i hi => ?_) (fun i hi => ?_) (fun x hx => ?_)) rfl
      · by_cases z : i = j
        · rw [z, va_up_self]
        · rw [va_up_ne _ _ z]; exact e5 i (by omega)
      · rw [xset_ne _ _ (by omega), xset_ne _ _ (by omega)]
        by_cases z : i = j
        · subst z; exact ⟨k2, k3⟩
        · rw [kk _ (by omega) (by omega), kk _ (by omega) (by omega)]; exact e6 i (by omega)
      · rw [xset_ne _ _ (by omega), kk x (by omega) (by omega)]; exact e7 x (by omega)
  refine x_aload_n 1 rfl d_Nt_init_0 rfl ?_
  refine x_objInit 4 rfl d_Nt_init_1 o_Nt_3 o_inst o_code (Nat.le_of_ble_eq_true rfl) (by decide) ?_
  refine x_aload_n 5 rfl d_Nt_init_4 rfl ?_
  refine x_iconst 6 rfl d_Nt_init_5 4 (by decide) ?_
  refine x_newq 9 rfl d_Nt_init_6 q_Nt_9 a_In (t0 := 2) (N' := 4) rfl (by decide) (by decide) (by decide) ?_
  have k1 := (xnew_ne w 4 (.inl (X.2.2.2.1 2, 4, .inr (.inr (.inr (.inr (fun _ => (none : Option Nat))))))) (show a ≠ w.1 by omega)).trans ha
  refine x_put 12 rfl p_Nt_11 (fun _ => rfl) d_Nt_init_9 k1 rfl rfl (Nat.le_of_ble_eq_true rfl) ?_
  refine x_iconst 13 rfl d_Nt_init_12 0 (by decide) ?_
  refine x_istore_n 14 rfl d_Nt_init_13 (by decide) ?_
  refine xE.fit (loop 4 0 0 _ (fun _ => none) rfl rfl (by show w.1 + 1 = _; omega) rfl (by rw [xset_at, h1]; rfl) (by rw [xset_ne _ _ (by omega), ← h1, xnew_at]) (fun i hi => absurd hi (by omega)) (fun i hi => absurd hi (by omega)) (fun x hx => ?_)) rfl
  rw [xset_ne _ _ (by omega), xnew_ne _ _ _ (by omega)]
end IN
