/-! THE LEDGER'S CONSTRUCTOR -/
def cSd (s : Int32) : Int32 := s * 668265263 ^^^ ((s * 668265263).toUInt32 >>> ((15 : Int32).toUInt32 &&& Int32.toUInt32 31)).toInt32
/-- a fresh ledger -/
def rL0 (X : xPar) (tE b : Nat) (t : Int32) (w : xW) : Prop := w.2.2 b = some (.inr (8, [.int t, .ref (b + 1), .ref (b + 11), .int 0])) ∧ rN0 X tE (b + 1) w ∧
  (∃ f : Nat → Option Nat, w.2.2 (b + 11) = some (.inl (X.2.2.2.1 3, 4, .inr (.inr (.inr (.inr f))))) ∧ ∀ n, n < 4 → f n = some (b + 12 + 151 * n)) ∧
  ∀ n, n < 4 → rNd X (b + 1) n t (b + 12 + 151 * n) n0 w
section IN4
variable {X : xPar} {sb L : Nat} {xs : Nat → Int32} {tI tE mi b : Nat} {s : Int32} {w : xW} {P : Option Value → xW → Prop}
theorem s_El_init (hX : xS X sb L xs tI tE mi) (ha : w.2.2 b = some (.inr (8, [.int 0, .null, .null, .int 0]))) (h1 : w.1 = b + 1) (h : ∀ w', gw w w' b 615 4665 → rL0 X tE b (cSd s) w' → P none w') : xE (xGG X) 6 m_El_init 0 [(0, .ref b), (1, .int s)] [] w P := by
  have loop : ∀ (m k : Nat) (cc : Int32) (w1 : xW) (f : Nat → Option Nat), cc = nI k → k + m = 4 → w1.1 = b + 12 + 151 * k → w1.2.1 = w.2.1 + 25 + 1160 * k → w1.2.2 b = some (.inr (8, [.int (cSd s), .ref (b + 1), .ref (b + 11), .int 0])) → rN0 X tE (b + 1) w1 → w1.2.2 (b + 11) = some (.inl (X.2.2.2.1 3, 4, .inr (.inr (.inr (.inr f))))) → (∀ j, j < k → f j = some (b + 12 + 151 * j)) → (∀ j, j < k → rNd X (b + 1) j (cSd s) (b + 12 + 151 * j) n0 w1) → (∀ x, x < b ∨ b + 12 + 151 * k ≤ x → w1.2.2 x = w.2.2 x) → xE (xGG X) 6 m_El_init 40 [(0, .ref b), (3, .int cc)] [] w1 P := by
    intro m
    induction m with
    | zero =>
      intro k cc w1 f hcc hk e1 e2 e3 e4 e5 e6 e7 e8
      have hk4 : k = 4 := by omega
      subst hk4 hcc
      refine x_iload_n 41 rfl d_El_init_40 rfl ?_
      refine x_iconst 42 rfl d_El_init_41 4 (by decide) ?_
      refine x_icmp_ge 73 45 rfl d_El_init_42 (by decide) (fun hc => ?_) (fun hc => absurd (by decide) hc)
      refine x_vret d_El_init_73 rfl ?_
      exact h w1 ⟨by omega, by omega, fun x hx hx2 => e8 x (by omega)⟩ ⟨e3, e4, ⟨f, e5, e6⟩, e7⟩
    | succ m ih =>
      intro k cc w1 f hcc hk e1 e2 e3 e4 e5 e6 e7 e8
      subst hcc
      have hk4 : k < 4 := by omega
      refine x_iload_n 41 rfl d_El_init_40 rfl ?_
      refine x_iconst 42 rfl d_El_init_41 4 (by decide) ?_
      refine x_icmp_ge 73 45 rfl d_El_init_42 (by decide) (fun hc => absurd hc (nI_ge (a := k) (b := 4) hk4 (by decide))) (fun hc => ?_)
      refine x_aload_n 46 rfl d_El_init_45 rfl ?_
      refine x_get 49 rfl f_El_23 d_El_init_46 e3 rfl ?_
      refine x_iload_n 50 rfl d_El_init_49 rfl ?_
      refine x_new 53 rfl d_El_init_50 (ci := 5) (ty := t_Nd) (fs := [.int 0, .null, .null, .null, .null, .null, .int 0, .int 0]) rfl l_Nd t_Nd_ok q_El_21 i_Nd z_Nd (by decide) ?_
      have e3' := (xnew_ne w1 8 (.inr (5, [.int 0, .null, .null, .null, .null, .null, .int 0, .int 0])) (show b ≠ w1.1 by omega)).trans e3
      refine x_dup 54 rfl d_El_init_53 rfl ?_
      refine x_iload_n 55 rfl d_El_init_54 rfl ?_
      refine x_aload_n 56 rfl d_El_init_55 rfl ?_
      refine x_get 59 rfl f_El_17 d_El_init_56 e3' rfl ?_
      refine x_aload_n 60 rfl d_El_init_59 rfl ?_
      refine x_get 63 rfl f_El_10 d_El_init_60 e3' rfl ?_
      refine y_callI 66 rfl [_, _, _] _ rfl d_El_init_63 c_El_27 rfl (Nat.le_of_ble_eq_true rfl) (Nat.le_of_ble_eq_true rfl) (Nat.le_of_ble_eq_true rfl) (s_Nd_init rfl (xnew_at _ _ _) rfl (fun w2 k1 k2 => ?_))
      have kk : ∀ x, x ≠ w1.1 → (x < w1.1 ∨ w1.1 + 151 ≤ x) → w2.2.2 x = w1.2.2 x := fun x x1 x2 => by
        rw [k1.2.2 x x1 (by show x < w1.1 + 1 ∨ w1.1 + 1 + 150 ≤ x; omega), xnew_ne _ _ _ x1]
      have m1 : w2.1 = w1.1 + 1 + 150 := k1.1
      have m2 : w2.2.1 = w1.2.1 + 8 + 1152 := k1.2.1
      rw [e1] at k2
      rw [show w1.1 = b + 12 + 151 * k from e1]
      have g5 := (kk (b + 11) (by omega) (by omega)).trans e5
      refine x_aast 67 rfl d_El_init_66 g5 (t0 := 3) rfl k2.1 rfl (Or.inl rfl) (vp_in_nI hk4 (by decide)) ?_
      rw [nI_clamp (by omega)]
      generalize hw3 : xset w2 (b + 11) _ = w3
      have s3 : ∀ x, x ≠ b + 11 → w3.2.2 x = w2.2.2 x := fun x hx => by rw [← hw3, xset_ne _ _ hx]
      have all : ∀ x, x ≠ b + 11 → (x < b + 12 + 151 * k ∨ b + 163 + 151 * k ≤ x) → w3.2.2 x = w1.2.2 x := fun x x1 x2 => (s3 x x1).trans (kk x (by omega) (by omega))
      have u1 : w3.1 = w2.1 := by rw [← hw3]; rfl
      have u2 : w3.2.1 = w2.2.1 := by rw [← hw3]; rfl
      have u3 : w3.2.1 = w.2.1 + 25 + 1160 * (k + 1) := by omega
      refine x_iinc 70 rfl d_El_init_67 rfl 1 (by decide) (by decide) ?_
      refine x_goto d_El_init_70 40 (by decide) ?_
      rw [nI_1]
      refine xE.fit (ih (k + 1) _ w3 (va_up f k (some (b + 12 + 151 * k))) rfl (by omega) (by omega) u3 ((all _ (by omega) (by omega)).trans e3) (e4.kept (fun x x1 x2 => all x (by omega) (by omega))) (by rw [← hw3, xset_at]) (fun j hj => ?_) (fun j hj => ?_) (fun x hx => (all x (by omega) (by omega)).trans (e8 x (by omega)))) rfl
      · by_cases z : j = k
        · rw [z, va_up_self]
        · rw [va_up_ne _ _ z]; exact e6 j (by omega)
      · by_cases z : j = k
        · subst z
          exact k2.kept (fun x x1 x2 => s3 x (by omega))
        · exact (e7 j (by omega)).kept (fun x x1 x2 => all x (by omega) (by omega))
  refine x_aload_n 1 rfl d_El_init_0 rfl ?_
  refine x_objInit 4 rfl d_El_init_1 o_El_3 o_inst o_code (Nat.le_of_ble_eq_true rfl) (by decide) ?_
  refine x_iload_n 5 rfl d_El_init_4 rfl ?_
  refine x_ldc 7 rfl d_El_init_5 k_El_9 ?_
  refine x_imul 8 rfl d_El_init_7 ?_
  refine x_istore_n 9 rfl d_El_init_8 (by decide) ?_
  refine x_aload_n 10 rfl d_El_init_9 rfl ?_
  refine x_iload_n 11 rfl d_El_init_10 rfl ?_
  refine x_iload_n 12 rfl d_El_init_11 rfl ?_
  refine x_bipush 14 rfl d_El_init_12 15 (by decide) ?_
  refine x_iushr 15 rfl d_El_init_14 ?_
  refine x_ixor 16 rfl d_El_init_15 ?_
  refine x_put 19 rfl p_El_10 (fun _ => rfl) d_El_init_16 ha rfl rfl (Nat.le_of_ble_eq_true rfl) ?_
  refine x_aload_n 20 rfl d_El_init_19 rfl ?_
  generalize hw1 : xset w b _ = w1
  have g1 : w1.2.2 b = some (.inr (8, [.int (cSd s), .null, .null, .int 0])) := by rw [← hw1, xset_at]; rfl
  have s1 : ∀ x, x ≠ b → w1.2.2 x = w.2.2 x := fun x hx => by rw [← hw1, xset_ne _ _ hx]
  have n1 : w1.1 = b + 1 := by rw [← hw1]; exact h1
  have n2 : w1.2.1 = w.2.1 := by rw [← hw1]; rfl
  refine x_new 23 rfl d_El_init_20 (ci := 4) (ty := t_Nt) (fs := [.null]) rfl l_Nt t_Nt_ok q_El_14 i_Nt z_Nt (by decide) ?_
  refine x_dup 24 rfl d_El_init_23 rfl ?_
  refine y_callI 27 rfl [] _ rfl d_El_init_24 c_El_16 rfl (Nat.le_of_ble_eq_true rfl) (Nat.le_of_ble_eq_true rfl) (Nat.le_of_ble_eq_true rfl) (s_Nt_init hX (xnew_at _ _ _) rfl (fun w2 k1 k2 => ?_))
  have kk : ∀ x, x ≠ w1.1 → (x < w1.1 ∨ w1.1 + 10 ≤ x) → w2.2.2 x = w1.2.2 x := fun x x1 x2 => by
    rw [k1.2.2 x x1 (by show x < w1.1 + 1 ∨ w1.1 + 1 + 9 ≤ x; omega), xnew_ne _ _ _ x1]
  have m1 : w2.1 = w1.1 + 1 + 9 := k1.1
  have m2 : w2.2.1 = w1.2.1 + 1 + 20 := k1.2.1
  have g2 := (kk b (by omega) (by omega)).trans g1
  refine x_put 30 rfl p_El_17 (fun _ => rfl) d_El_init_27 g2 rfl rfl (Nat.le_of_ble_eq_true rfl) ?_
  refine x_aload_n 31 rfl d_El_init_30 rfl ?_
  refine x_iconst 32 rfl d_El_init_31 4 (by decide) ?_
  rw [n1] at k2
  rw [show w1.1 = b + 1 from n1]
  generalize hw3 : xset w2 b _ = w3
  have s3 : ∀ x, x ≠ b → w3.2.2 x = w2.2.2 x := fun x hx => by rw [← hw3, xset_ne _ _ hx]
  have g3 : w3.2.2 b = some (.inr (8, [.int (cSd s), .ref (b + 1), .null, .int 0])) := by rw [← hw3, xset_at]; rfl
  have p1 : w3.1 = b + 11 := by rw [← hw3]; show w2.1 = _; omega
  have p2 : w3.2.1 = w.2.1 + 21 := by rw [← hw3]; show w2.2.1 = _; omega
  refine x_newq 35 rfl d_El_init_32 q_El_21 a_Nd (t0 := 3) (N' := 4) rfl (by decide) (by decide) (by decide) ?_
  have g4 := (xnew_ne w3 4 (.inl (X.2.2.2.1 3, 4, .inr (.inr (.inr (.inr (fun _ => (none : Option Nat))))))) (show b ≠ w3.1 by omega)).trans g3
  refine x_put 38 rfl p_El_23 (fun _ => rfl) d_El_init_35 g4 rfl rfl (Nat.le_of_ble_eq_true rfl) ?_
  refine x_iconst 39 rfl d_El_init_38 0 (by decide) ?_
  refine x_istore_n 40 rfl d_El_init_39 (by decide) ?_
  generalize hw5 : xset (xnew w3 4 _) b _ = w5
  have s5 : ∀ x, x ≠ b → x ≠ b + 11 → w5.2.2 x = w3.2.2 x := fun x hx hx2 => by rw [← hw5, xset_ne _ _ hx, xnew_ne _ _ _ (by omega)]
  refine xE.fit (loop 4 0 0 w5 (fun _ => none) rfl rfl (by rw [← hw5]; show w3.1 + 1 = _; omega) (by rw [← hw5]; show w3.2.1 + 4 = _; omega) (by rw [← hw5, xset_at, p1]; rfl) ((k2.kept (w' := w3) (fun x x1 x2 => s3 x (by omega))).kept (fun x x1 x2 => s5 x (by omega) (by omega))) (by rw [← hw5, xset_ne _ _ (by omega), ← p1, xnew_at]) (fun j hj => absurd hj (by omega)) (fun j hj => absurd hj (by omega)) (fun x hx => (((s5 x (by omega) (by omega)).trans (s3 x (by omega))).trans (kk x (by omega) (by omega))).trans (s1 x (by omega)))) rfl
end IN4
