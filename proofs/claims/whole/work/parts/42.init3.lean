/-! CONSTRUCTORS OF NODE AND LEDGER -/
theorem iDiv4 : ∀ k, k < 16 → nI k / 4 = nI (k / 4) ∧ nI k - nI k / 4 * 4 = nI (k % 4) := by decide +kernel
section IN3
variable {X : xPar} {sb L : Nat} {xs : Nat → Int32} {tI tE mi nb n a : Nat} {t : Int32} {w : xW} {P : Option Value → xW → Prop}
/-- the loop of a node's constructor -/
theorem s_Nd_init2 (h : ∀ w', w'.1 = a + 151 → w'.2.1 = w.2.1 + 1152 → rNd X nb n t a n0 w' → (∀ x, x < a ∨ a + 151 ≤ x → w'.2.2 x = w.2.2 x) → P none w') : ∀ (m k : Nat) (cc : Int32) (w1 : xW) (fb fa : Nat → Option Nat), cc = nI k → k + m = 16 → w1.1 = a + 7 + 9 * k → w1.2.1 = w.2.1 + 80 + 67 * k → w1.2.2 a = some (.inr (5, fNd nb n a n0)) → rRw X w1 (a + 1) 12 [] → rRw X w1 (a + 3) 32 [] → w1.2.2 (a + 5) = some (.inl (X.2.2.2.1 4, 16, .inr (.inr (.inr (.inr fb))))) → (∀ j, j < k → fb j = some (a + 7 + 9 * j)) → w1.2.2 (a + 6) = some (.inl (X.2.2.2.1 5, 16, .inr (.inr (.inr (.inr fa))))) → (∀ j, j < k → fa j = some (a + 13 + 9 * j)) → (∀ j, j < k → rBc X nb n (j / 4) (j % 4) (a + 7 + 9 * j) b0 w1) → (∀ j, j < k → rAg X nb n (j / 4) (j % 4) t (a + 13 + 9 * j) a0 w1) → (∀ x, x < a ∨ a + 7 + 9 * k ≤ x → w1.2.2 x = w.2.2 x) → xE (xGG X) 3 m_Nd_init 66 [(0, .ref a), (1, .int (nI n)), (2, .ref nb), (3, .int t), (4, .int cc)] [] w1 P := by
  intro m
  induction m with
  | zero =>
    intro k cc w1 fb fa hcc hk e1 e2 e3 e4 e5 e6 e7 e8 e9 e10 e11 e12
    have hk16 : k = 16 := by omega
    subst hk16 hcc
    refine x_iload 68 rfl d_Nd_init_66 rfl ?_
    refine x_bipush 70 rfl d_Nd_init_68 16 (by decide) ?_
    refine x_icmp_ge 128 73 rfl d_Nd_init_70 (by decide) (fun hc => ?_) (fun hc => absurd (by decide) hc)
    refine x_vret d_Nd_init_128 rfl ?_
    exact h w1 (by omega) (by omega) ⟨e3, e4, e5, ⟨fb, e6, e7⟩, ⟨fa, e8, e9⟩, e10, e11⟩ (fun x hx => e12 x (by omega))
  | succ m ih =>
    intro k cc w1 fb fa hcc hk e1 e2 e3 e4 e5 e6 e7 e8 e9 e10 e11 e12
    subst hcc
    have hk16 : k < 16 := by omega
    obtain ⟨v1, v2⟩ := iDiv4 k hk16
    refine x_iload 68 rfl d_Nd_init_66 rfl ?_
    refine x_bipush 70 rfl d_Nd_init_68 16 (by decide) ?_
    refine x_icmp_ge 128 73 rfl d_Nd_init_70 (by decide) (fun hc => absurd hc (nI_ge (a := k) (b := 16) hk16 (by decide))) (fun hc => ?_)
    refine x_aload_n 74 rfl d_Nd_init_73 rfl ?_
    refine x_get 77 rfl f_Nd_25 d_Nd_init_74 e3 rfl ?_
    refine x_iload 79 rfl d_Nd_init_77 rfl ?_
    refine x_new 82 rfl d_Nd_init_79 (ci := 1) (ty := t_Bc) (fs := [.null, .int 0, .int 0, .int 0, .int 0, .int 0, .int 0, .null, .null, .null, .int 0, .int 0, .int 0]) rfl l_Bc t_Bc_ok q_Nd_23 i_Bc z_Bc (by decide) ?_
    refine x_dup 83 rfl d_Nd_init_82 rfl ?_
    refine x_aload_n 84 rfl d_Nd_init_83 rfl ?_
    refine x_iload_n 85 rfl d_Nd_init_84 rfl ?_
    refine x_iload 87 rfl d_Nd_init_85 rfl ?_
    refine x_iconst 88 rfl d_Nd_init_87 4 (by decide) ?_
    refine x_idiv 89 rfl d_Nd_init_88 (by decide) ?_
    refine x_iload 91 rfl d_Nd_init_89 rfl ?_
    refine x_iconst 92 rfl d_Nd_init_91 4 (by decide) ?_
    refine x_irem 93 rfl d_Nd_init_92 (by decide) ?_
    refine y_callI 96 rfl [_, _, _, _] _ rfl d_Nd_init_93 c_Nd_46 rfl (Nat.le_of_ble_eq_true rfl) (Nat.le_of_ble_eq_true rfl) (Nat.le_of_ble_eq_true rfl) (s_Bc_init rfl v1 v2 (xnew_at _ _ _) rfl (fun w2 k1 k2 => ?_))
    have kk : ∀ x, x ≠ w1.1 → (x < w1.1 ∨ w1.1 + 6 ≤ x) → w2.2.2 x = w1.2.2 x := fun x x1 x2 => by
      rw [k1.2.2 x x1 (by show x < w1.1 + 1 ∨ w1.1 + 1 + 5 ≤ x; omega), xnew_ne _ _ _ x1]
    have m1 : w2.1 = w1.1 + 1 + 5 := k1.1
    have m2 : w2.2.1 = w1.2.1 + 13 + 16 := k1.2.1
    rw [e1] at k2
    rw [show w1.1 = a + 7 + 9 * k from e1]
    have g6 := (kk (a + 5) (by omega) (by omega)).trans e6
    refine x_aast 97 rfl d_Nd_init_96 g6 (t0 := 4) rfl k2.1 rfl (Or.inl rfl) (vp_in_nI hk16 (by decide)) ?_
    rw [nI_clamp (by omega)]
    generalize hw3 : xset w2 (a + 5) _ = w3
    have s3 : ∀ x, x ≠ a + 5 → w3.2.2 x = w2.2.2 x := fun x hx => by rw [← hw3, xset_ne _ _ hx]
    have s35 : w3.2.2 (a + 5) = some (.inl (X.2.2.2.1 4, 16, .inr (.inr (.inr (.inr (va_up fb k (some (a + 7 + 9 * k)))))))) := by rw [← hw3, xset_at]
    have n1 : w3.1 = a + 13 + 9 * k := by rw [← hw3]; show w2.1 = _; omega
    have n2 : w3.2.1 = w1.2.1 + 29 := by rw [← hw3]; show w2.2.1 = _; omega
    have g3 := ((s3 a (by omega)).trans (kk a (by omega) (by omega))).trans e3
    refine x_aload_n 98 rfl d_Nd_init_97 rfl ?_
    refine x_get 101 rfl f_Nd_31 d_Nd_init_98 g3 rfl ?_
    refine x_iload 103 rfl d_Nd_init_101 rfl ?_
    refine x_new 106 rfl d_Nd_init_103 (ci := 0) (ty := t_Ag) (fs := [.null, .int 0, .int 0, .int 0, .int 0, .null, .null, .int 0, .int 0, .int 0, .int 0, .int 0, .int 0, .int 0]) rfl l_Ag t_Ag_ok q_Nd_29 i_Ag z_Ag (by decide) ?_
    refine x_dup 107 rfl d_Nd_init_106 rfl ?_
    refine x_aload_n 108 rfl d_Nd_init_107 rfl ?_
    refine x_iload_n 109 rfl d_Nd_init_108 rfl ?_
    refine x_iload 111 rfl d_Nd_init_109 rfl ?_
    refine x_iconst 112 rfl d_Nd_init_111 4 (by decide) ?_
    refine x_idiv 113 rfl d_Nd_init_112 (by decide) ?_
    refine x_iload 115 rfl d_Nd_init_113 rfl ?_
    refine x_iconst 116 rfl d_Nd_init_115 4 (by decide) ?_
    refine x_irem 117 rfl d_Nd_init_116 (by decide) ?_
    refine x_iload_n 118 rfl d_Nd_init_117 rfl ?_
    refine y_callI 121 rfl [_, _, _, _, _] _ rfl d_Nd_init_118 c_Nd_49 rfl (Nat.le_of_ble_eq_true rfl) (Nat.le_of_ble_eq_true rfl) (Nat.le_of_ble_eq_true rfl) (s_Ag_init rfl v1 v2 (xnew_at _ _ _) rfl (fun w4 k3 k4 => ?_))
    have k3k : ∀ x, x ≠ w3.1 → (x < w3.1 ∨ w3.1 + 3 ≤ x) → w4.2.2 x = w3.2.2 x := fun x x1 x2 => by
      rw [k3.2.2 x x1 (by show x < w3.1 + 1 ∨ w3.1 + 1 + 2 ≤ x; omega), xnew_ne _ _ _ x1]
    have m3 : w4.1 = w3.1 + 1 + 2 := k3.1
    have m4 : w4.2.1 = w3.2.1 + 14 + 24 := k3.2.1
    rw [n1] at k4
    rw [show w3.1 = a + 13 + 9 * k from n1]
    have g8 := ((k3k (a + 6) (by omega) (by omega)).trans ((s3 _ (by omega)).trans (kk (a + 6) (by omega) (by omega)))).trans e8
    refine x_aast 122 rfl d_Nd_init_121 g8 (t0 := 5) rfl k4.1 rfl (Or.inl rfl) (vp_in_nI hk16 (by decide)) ?_
    rw [nI_clamp (by omega)]
    generalize hw5 : xset w4 (a + 6) _ = w5
    have s5 : ∀ x, x ≠ a + 6 → w5.2.2 x = w4.2.2 x := fun x hx => by rw [← hw5, xset_ne _ _ hx]
    have s56 : w5.2.2 (a + 6) = some (.inl (X.2.2.2.1 5, 16, .inr (.inr (.inr (.inr (va_up fa k (some (a + 13 + 9 * k)))))))) := by rw [← hw5, xset_at]
    have all : ∀ x, x ≠ a + 5 → x ≠ a + 6 → (x < a + 7 + 9 * k ∨ a + 16 + 9 * k ≤ x) → w5.2.2 x = w1.2.2 x := fun x x1 x2 x3 => (((s5 x x2).trans (k3k x (by omega) (by omega))).trans (s3 x x1)).trans (kk x (by omega) (by omega))
    refine x_iinc 125 rfl d_Nd_init_122 rfl 1 (by decide) (by decide) ?_
    refine x_goto d_Nd_init_125 66 (by decide) ?_
    rw [nI_1]
    refine xE.fit (ih (k + 1) _ w5 (va_up fb k (some (a + 7 + 9 * k))) (va_up fa k (some (a + 13 + 9 * k))) rfl (by omega) (by rw [← hw5]; show w4.1 = _; omega) (by rw [← hw5]; show w4.2.1 = _; omega) ((all a (by omega) (by omega) (by omega)).trans e3) (e4.kept (all _ (by omega) (by omega) (by omega)) (all _ (by omega) (by omega) (by omega))) (e5.kept (all _ (by omega) (by omega) (by omega)) (all _ (by omega) (by omega) (by omega))) (((s5 _ (by omega)).trans (k3k _ (by omega) (by omega))).trans s35) (fun j hj => ?_) s56 (fun j hj => ?_) (fun j hj => ?_) (fun j hj => ?_) (fun x hx => (all x (by omega) (by omega) (by omega)).trans (e12 x (by omega)))) rfl
    · by_cases z : j = k
      · rw [z, va_up_self]
      · rw [va_up_ne _ _ z]; exact e7 j (by omega)
    · by_cases z : j = k
      · rw [z, va_up_self]
      · rw [va_up_ne _ _ z]; exact e9 j (by omega)
    · by_cases z : j = k
      · subst z
        exact k2.kept (fun x x1 x2 => ((s5 x (by omega)).trans (k3k x (by omega) (by omega))).trans (s3 x (by omega)))
      · exact (e10 j (by omega)).kept (fun x x1 x2 => all x (by omega) (by omega) (by omega))
    · by_cases z : j = k
      · subst z
        exact k4.kept (fun x x1 x2 => s5 x (by omega))
      · exact (e11 j (by omega)).kept (fun x x1 x2 => all x (by omega) (by omega) (by omega))
theorem s_Nd_init {nn : Int32} (hnn : nn = nI n) (ha : w.2.2 a = some (.inr (5, [.int 0, .null, .null, .null, .null, .null, .int 0, .int 0]))) (h1 : w.1 = a + 1) (h : ∀ w', gw w w' a 150 1152 → rNd X nb n t a n0 w' → P none w') : xE (xGG X) 3 m_Nd_init 0 [(0, .ref a), (1, .int nn), (2, .ref nb), (3, .int t)] [] w P := by
  subst hnn
  refine x_aload_n 1 rfl d_Nd_init_0 rfl ?_
  refine x_objInit 4 rfl d_Nd_init_1 o_Nd_3 o_inst o_code (Nat.le_of_ble_eq_true rfl) (by decide) ?_
  refine x_aload_n 5 rfl d_Nd_init_4 rfl ?_
  refine x_new 8 rfl d_Nd_init_5 (ci := 7) (ty := t_Rw) (fs := [.null, .int 0]) rfl l_Rw t_Rw_ok q_Nd_9 i_Rw z_Rw (by decide) ?_
  refine x_dup 9 rfl d_Nd_init_8 rfl ?_
  refine x_bipush 11 rfl d_Nd_init_9 12 (by decide) ?_
  refine y_callI 14 rfl [_] _ rfl d_Nd_init_11 c_Nd_11 rfl (Nat.le_of_ble_eq_true rfl) (Nat.le_of_ble_eq_true rfl) (Nat.le_of_ble_eq_true rfl) (s_Rw_init (cap := 12) rfl (by decide) (xnew_at _ _ _) rfl (fun w2 k1 k2 => ?_))
  have kk : ∀ x, x ≠ w.1 → (x < w.1 ∨ w.1 + 2 ≤ x) → w2.2.2 x = w.2.2 x := fun x x1 x2 => by
    rw [k1.2.2 x x1 (by show x < w.1 + 1 ∨ w.1 + 1 + 1 ≤ x; omega), xnew_ne _ _ _ x1]
  have m1 : w2.1 = w.1 + 1 + 1 := k1.1
  have m2 : w2.2.1 = w.2.1 + 2 + 12 := k1.2.1
  have g3 := (kk a (by omega) (by omega)).trans ha
  refine x_put 17 rfl p_Nd_14 (fun _ => rfl) d_Nd_init_14 g3 rfl rfl (Nat.le_of_ble_eq_true rfl) ?_
  rw [h1] at k2
  rw [show w.1 = a + 1 from h1]
  generalize hw3 : xset w2 a _ = w3
  have s3 : ∀ x, x ≠ a → w3.2.2 x = w2.2.2 x := fun x hx => by rw [← hw3, xset_ne _ _ hx]
  have g3 : w3.2.2 a = some (.inr (5, [.int 0, .null, .ref (a + 1), .null, .null, .null, .int 0, .int 0])) := by rw [← hw3, xset_at]; rfl
  have n1 : w3.1 = a + 3 := by rw [← hw3]; show w2.1 = _; omega
  have n2 : w3.2.1 = w.2.1 + 14 := by rw [← hw3]; show w2.2.1 = _; omega
  have r1 := k2.kept (w' := w3) (s3 _ (by omega)) (s3 _ (by omega))
  have fA : ∀ x, x < a ∨ a + 3 ≤ x → w3.2.2 x = w.2.2 x := fun x hx => (s3 x (by omega)).trans (kk x (by omega) (by omega))
  clear kk k1 k2 s3 hw3 m1 m2
  refine x_aload_n 18 rfl d_Nd_init_17 rfl ?_
  refine x_new 21 rfl d_Nd_init_18 (ci := 7) (ty := t_Rw) (fs := [.null, .int 0]) rfl l_Rw t_Rw_ok q_Nd_9 i_Rw z_Rw (by decide) ?_
  refine x_dup 22 rfl d_Nd_init_21 rfl ?_
  refine x_bipush 24 rfl d_Nd_init_22 32 (by decide) ?_
  refine y_callI 27 rfl [_] _ rfl d_Nd_init_24 c_Nd_11 rfl (Nat.le_of_ble_eq_true rfl) (Nat.le_of_ble_eq_true rfl) (Nat.le_of_ble_eq_true rfl) (s_Rw_init (cap := 32) rfl (by decide) (xnew_at _ _ _) rfl (fun w4 k1 k2 => ?_))
  have kk : ∀ x, x ≠ w3.1 → (x < w3.1 ∨ w3.1 + 2 ≤ x) → w4.2.2 x = w3.2.2 x := fun x x1 x2 => by
    rw [k1.2.2 x x1 (by show x < w3.1 + 1 ∨ w3.1 + 1 + 1 ≤ x; omega), xnew_ne _ _ _ x1]
  have m1 : w4.1 = w3.1 + 1 + 1 := k1.1
  have m2 : w4.2.1 = w3.2.1 + 2 + 32 := k1.2.1
  have g4 := (kk a (by omega) (by omega)).trans g3
  refine x_put 30 rfl p_Nd_20 (fun _ => rfl) d_Nd_init_27 g4 rfl rfl (Nat.le_of_ble_eq_true rfl) ?_
  rw [n1] at k2
  rw [show w3.1 = a + 3 from n1]
  generalize hw5 : xset w4 a _ = w5
  have s5 : ∀ x, x ≠ a → w5.2.2 x = w4.2.2 x := fun x hx => by rw [← hw5, xset_ne _ _ hx]
  have g5 : w5.2.2 a = some (.inr (5, [.int 0, .null, .ref (a + 1), .ref (a + 3), .null, .null, .int 0, .int 0])) := by rw [← hw5, xset_at]; rfl
  have o1 : w5.1 = a + 5 := by rw [← hw5]; show w4.1 = _; omega
  have o2 : w5.2.1 = w.2.1 + 48 := by rw [← hw5]; show w4.2.1 = _; omega
  have r2 := k2.kept (w' := w5) (s5 _ (by omega)) (s5 _ (by omega))
  have r1 := r1.kept (w' := w5) ((s5 _ (by omega)).trans (kk _ (by omega) (by omega))) ((s5 _ (by omega)).trans (kk _ (by omega) (by omega)))
  have fB : ∀ x, x < a ∨ a + 5 ≤ x → w5.2.2 x = w.2.2 x := fun x hx => ((s5 x (by omega)).trans (kk x (by omega) (by omega))).trans (fA x (by omega))
  clear kk k1 k2 s5 hw5 m1 m2 fA g4
  refine x_aload_n 31 rfl d_Nd_init_30 rfl ?_
  refine x_bipush 33 rfl d_Nd_init_31 16 (by decide) ?_
  refine x_newq 36 rfl d_Nd_init_33 q_Nd_23 a_Bc (t0 := 4) (N' := 16) rfl (by decide) (by decide) (by decide) ?_
  have g6 := (xnew_ne w5 16 (.inl (X.2.2.2.1 4, 16, .inr (.inr (.inr (.inr (fun _ => (none : Option Nat))))))) (show a ≠ w5.1 by omega)).trans g5
  refine x_put 39 rfl p_Nd_25 (fun _ => rfl) d_Nd_init_36 g6 rfl rfl (Nat.le_of_ble_eq_true rfl) ?_
  refine x_aload_n 40 rfl d_Nd_init_39 rfl ?_
  refine x_bipush 42 rfl d_Nd_init_40 16 (by decide) ?_
  generalize hw7 : xset (xnew w5 16 _) a _ = w7
  have s7 : ∀ x, x ≠ a → x ≠ a + 5 → w7.2.2 x = w5.2.2 x := fun x hx hx2 => by rw [← hw7, xset_ne _ _ hx, xnew_ne _ _ _ (by omega)]
  have g7 : w7.2.2 a = some (.inr (5, [.int 0, .null, .ref (a + 1), .ref (a + 3), .ref (a + 5), .null, .int 0, .int 0])) := by rw [← hw7, xset_at, o1]; rfl
  have g75 : w7.2.2 (a + 5) = some (.inl (X.2.2.2.1 4, 16, .inr (.inr (.inr (.inr (fun _ => (none : Option Nat))))))) := by rw [← hw7, xset_ne _ _ (by omega), ← o1, xnew_at]
  have p1 : w7.1 = a + 6 := by rw [← hw7]; show w5.1 + 1 = _; omega
  have p2 : w7.2.1 = w.2.1 + 64 := by rw [← hw7]; show w5.2.1 + 16 = _; omega
  refine x_newq 45 rfl d_Nd_init_42 q_Nd_29 a_Ag (t0 := 5) (N' := 16) rfl (by decide) (by decide) (by decide) ?_
  have g8 := (xnew_ne w7 16 (.inl (X.2.2.2.1 5, 16, .inr (.inr (.inr (.inr (fun _ => (none : Option Nat))))))) (show a ≠ w7.1 by omega)).trans g7
  refine x_put 48 rfl p_Nd_31 (fun _ => rfl) d_Nd_init_45 g8 rfl rfl (Nat.le_of_ble_eq_true rfl) ?_
  refine x_aload_n 49 rfl d_Nd_init_48 rfl ?_
  refine x_iconst 50 rfl d_Nd_init_49 (-1) (by decide) ?_
  refine x_put 53 rfl p_Nd_35 (fun h => nomatch h) d_Nd_init_50 (xset_at _ _ _) rfl rfl (Nat.le_of_ble_eq_true rfl) ?_
  refine x_aload_n 54 rfl d_Nd_init_53 rfl ?_
  refine x_iload_n 55 rfl d_Nd_init_54 rfl ?_
  refine x_put 58 rfl p_Nd_39 (fun _ => rfl) d_Nd_init_55 (xset_at _ _ _) rfl rfl (Nat.le_of_ble_eq_true rfl) ?_
  refine x_aload_n 59 rfl d_Nd_init_58 rfl ?_
  refine x_aload_n 60 rfl d_Nd_init_59 rfl ?_
  refine x_put 63 rfl p_Nd_42 (fun _ => rfl) d_Nd_init_60 (xset_at _ _ _) rfl rfl (Nat.le_of_ble_eq_true rfl) ?_
  refine x_iconst 64 rfl d_Nd_init_63 0 (by decide) ?_
  refine x_istore 66 rfl d_Nd_init_64 (by decide) ?_
  simp only [xset2]
  generalize hw9 : xset (xnew w7 16 _) a _ = w9
  have s9 : ∀ x, x ≠ a → x ≠ a + 6 → w9.2.2 x = w7.2.2 x := fun x hx hx2 => by rw [← hw9, xset_ne _ _ hx, xnew_ne _ _ _ (by omega)]
  refine xE.fit (s_Nd_init2 (w := w) (fun w' z1 z2 z3 z4 => h w' ⟨by omega, by omega, fun x hx hx2 => z4 x (by omega)⟩ z3) 16 0 0 w9 (fun _ => none) (fun _ => none) rfl rfl (by rw [← hw9]; show w7.1 + 1 = _; omega) (by rw [← hw9]; show w7.2.1 + 16 = _; omega) (by rw [← hw9, xset_at, p1]; rfl) (r1.kept ((s9 _ (by omega) (by omega)).trans (s7 _ (by omega) (by omega))) ((s9 _ (by omega) (by omega)).trans (s7 _ (by omega) (by omega)))) (r2.kept ((s9 _ (by omega) (by omega)).trans (s7 _ (by omega) (by omega))) ((s9 _ (by omega) (by omega)).trans (s7 _ (by omega) (by omega)))) ((s9 _ (by omega) (by omega)).trans g75) (fun j hj => absurd hj (by omega)) (by rw [← hw9, xset_ne _ _ (by omega), ← p1, xnew_at]) (fun j hj => absurd hj (by omega)) (fun j hj => absurd hj (by omega)) (fun j hj => absurd hj (by omega)) (fun x hx => ((s9 _ (by omega) (by omega)).trans (s7 _ (by omega) (by omega))).trans (fB x (by omega)))) rfl
end IN3
