/-! CONSTRUCTORS OF A NODE -/
def b0 : sB := (fun _ => false, fun j => if j = 2 then -1 else 0)
def a0 : sA := (fun _ => false, fun _ => 0)
def n0 : sN := (0, false, [], [], fun _ => b0, fun _ => a0)
theorem a0_ok : aOk a0 := ⟨by decide, by decide, by decide, by decide, fun r hr => by show 0 < 4; omega, fun r s hr hs => by show 0 < 3; omega, fun r h1 h2 => ⟨rfl, rfl⟩, fun z => rfl⟩
theorem xset2 (w : xW) (a : Nat) (e e2 : va_E) : xset (xset w a e) a e2 = xset w a e2 := by
  unfold xset
  dsimp only
  congr 2
  funext x
  by_cases z : x = a
  · rw [z, va_up_self, va_up_self]
  · rw [va_up_ne _ _ z, va_up_ne _ _ z, va_up_ne _ _ z]
section IN2
variable {X : xPar} {sb L : Nat} {xs : Nat → Int32} {tI tE mi nb me e i a : Nat} {t : Int32} {w : xW} {P : Option Value → xW → Prop}
theorem s_Bc_init {m1 m2 m3 : Int32} (q1 : m1 = nI me) (q2 : m2 = nI e) (q3 : m3 = nI i) (ha : w.2.2 a = some (.inr (1, [.null, .int 0, .int 0, .int 0, .int 0, .int 0, .int 0, .null, .null, .null, .int 0, .int 0, .int 0]))) (h1 : w.1 = a + 1) (h : ∀ w', gw w w' a 5 16 → rBc X nb me e i a b0 w' → P none w') : xE (xGG X) 2 m_Bc_init 0 [(0, .ref a), (1, .ref nb), (2, .int m1), (3, .int m2), (4, .int m3)] [] w P := by
  subst q1 q2 q3
  have stC : ∀ wC : xW, wC.1 = a + 6 → wC.2.1 = w.2.1 + 16 → wC.2.2 a = some (.inr (1, [.null, .int 0, .int 0, .int 0, .int 0, .int 0, .int 0, .ref (a + 1), .ref (a + 3), .ref (a + 4), .int 0, .int 0, .int 0])) → rRt X wC (a + 1) (fun _ => false) (fun _ => 0) → aI X wC (a + 3) 4 (fun _ => 0) → rRt X wC (a + 4) (fun _ => false) (fun _ => 0) → (∀ x, x < a ∨ a + 6 ≤ x → wC.2.2 x = w.2.2 x) → xE (xGG X) 2 m_Bc_init 33 [(0, .ref a), (1, .ref nb), (2, .int (nI me)), (3, .int (nI e)), (4, .int (nI i))] [] wC P := by
    intro wC e1 e2 e3 e4 e5 e6 e7
    refine x_aload_n 34 rfl d_Bc_init_33 rfl ?_
    refine x_iconst 35 rfl d_Bc_init_34 (-1) (by decide) ?_
    refine x_put 38 rfl p_Bc_25 (fun h => nomatch h) d_Bc_init_35 e3 rfl rfl (Nat.le_of_ble_eq_true rfl) ?_
    refine x_aload_n 39 rfl d_Bc_init_38 rfl ?_
    refine x_aload_n 40 rfl d_Bc_init_39 rfl ?_
    refine x_put 43 rfl p_Bc_29 (fun _ => rfl) d_Bc_init_40 (xset_at _ _ _) rfl rfl (Nat.le_of_ble_eq_true rfl) ?_
    refine x_aload_n 44 rfl d_Bc_init_43 rfl ?_
    refine x_iload_n 45 rfl d_Bc_init_44 rfl ?_
    refine x_put 48 rfl p_Bc_33 (fun _ => rfl) d_Bc_init_45 (xset_at _ _ _) rfl rfl (Nat.le_of_ble_eq_true rfl) ?_
    refine x_aload_n 49 rfl d_Bc_init_48 rfl ?_
    refine x_iload_n 50 rfl d_Bc_init_49 rfl ?_
    refine x_put 53 rfl p_Bc_36 (fun _ => rfl) d_Bc_init_50 (xset_at _ _ _) rfl rfl (Nat.le_of_ble_eq_true rfl) ?_
    refine x_aload_n 54 rfl d_Bc_init_53 rfl ?_
    refine x_iload 56 rfl d_Bc_init_54 rfl ?_
    refine x_put 59 rfl p_Bc_39 (fun _ => rfl) d_Bc_init_56 (xset_at _ _ _) rfl rfl (Nat.le_of_ble_eq_true rfl) ?_
    refine x_vret d_Bc_init_59 rfl ?_
    simp only [xset2]
    generalize hw : xset wC a _ = w9
    have kk : ∀ x, x ≠ a → w9.2.2 x = wC.2.2 x := fun x hx => by rw [← hw, xset_ne _ _ hx]
    refine h _ ⟨by rw [← hw]; show wC.1 = _; omega, by rw [← hw]; show wC.2.1 = _; omega, fun x hx hx2 => ?_⟩ ⟨?_, ?_, ?_, ?_, fun s hs => ?_⟩
    · rw [kk x hx]; exact e7 x (by omega)
    · rw [← hw, xset_at]; rfl
    · rw [show (fun s => b0.2 (8 + s)) = (fun _ => 0) from funext (fun s => if_neg (by omega))]
      exact rRt.kept e4 (kk _ (by omega)) (kk _ (by omega))
    · obtain ⟨f, k1, k2⟩ := e5
      exact ⟨f, (kk _ (by omega)).trans k1, fun j hj => by rw [k2 j hj]; show 0 = (if 16 + j = 2 then -1 else 0); rw [if_neg (by omega)]⟩
    · rw [show (fun s => b0.2 (24 + s)) = (fun _ => 0) from funext (fun s => if_neg (by omega))]
      exact rRt.kept e6 (kk _ (by omega)) (kk _ (by omega))
    · show cUn (if 16 + s = 2 then -1 else 0) < 256
      rw [if_neg (by omega)]; decide
  have stB : ∀ wB : xW, wB.1 = a + 4 → wB.2.1 = w.2.1 + 10 → wB.2.2 a = some (.inr (1, [.null, .int 0, .int 0, .int 0, .int 0, .int 0, .int 0, .ref (a + 1), .ref (a + 3), .null, .int 0, .int 0, .int 0])) → rRt X wB (a + 1) (fun _ => false) (fun _ => 0) → aI X wB (a + 3) 4 (fun _ => 0) → (∀ x, x < a ∨ a + 4 ≤ x → wB.2.2 x = w.2.2 x) → xE (xGG X) 2 m_Bc_init 22 [(0, .ref a), (1, .ref nb), (2, .int (nI me)), (3, .int (nI e)), (4, .int (nI i))] [] wB P := by
    intro wB e1 e2 e3 e4 e5 e7
    refine x_aload_n 23 rfl d_Bc_init_22 rfl ?_
    refine x_new 26 rfl d_Bc_init_23 (ci := 6) (ty := t_Rt) (fs := [.null, .int 0]) rfl l_Rt t_Rt_ok q_Bc_9 i_Rt z_Rt (by decide) ?_
    refine x_dup 27 rfl d_Bc_init_26 rfl ?_
    refine y_callI 30 rfl [] _ rfl d_Bc_init_27 c_Bc_11 rfl (Nat.le_of_ble_eq_true rfl) (Nat.le_of_ble_eq_true rfl) (Nat.le_of_ble_eq_true rfl) (s_Rt_init (xnew_at _ _ _) rfl (fun w2 k1 k2 => ?_))
    have kk : ∀ x, x ≠ wB.1 → (x < wB.1 ∨ wB.1 + 2 ≤ x) → w2.2.2 x = wB.2.2 x := fun x x1 x2 => by
      rw [k1.2.2 x x1 (by show x < wB.1 + 1 ∨ wB.1 + 1 + 1 ≤ x; omega), xnew_ne _ _ _ x1]
    have m1 : w2.1 = wB.1 + 2 := k1.1
    have m2 : w2.2.1 = wB.2.1 + 2 + 4 := k1.2.1
    have g3 := (kk a (by omega) (by omega)).trans e3
    refine x_put 33 rfl p_Bc_22 (fun _ => rfl) d_Bc_init_30 g3 rfl rfl (Nat.le_of_ble_eq_true rfl) ?_
    rw [e1] at k2
    rw [show wB.1 = a + 4 from e1]
    have ks : ∀ x, x ≠ a → (xset w2 a (.inr (1, [.null, .int 0, .int 0, .int 0, .int 0, .int 0, .int 0, .ref (a + 1), .ref (a + 3), .ref (a + 4), .int 0, .int 0, .int 0]))).2.2 x = w2.2.2 x := fun x hx => xset_ne _ _ hx
    refine stC _ (by show w2.1 = _; omega) (by show w2.2.1 = _; omega) (xset_at _ _ _) (rRt.kept e4 ((ks _ (by omega)).trans (kk _ (by omega) (by omega))) ((ks _ (by omega)).trans (kk _ (by omega) (by omega)))) ?_ (rRt.kept k2 (ks _ (by omega)) (ks _ (by omega))) (fun x hx => ((ks _ (by omega)).trans (kk _ (by omega) (by omega))).trans (e7 x (by omega)))
    obtain ⟨f, z1, z2⟩ := e5
    exact ⟨f, ((ks _ (by omega)).trans (kk _ (by omega) (by omega))).trans z1, z2⟩
  have stA : ∀ wA : xW, wA.1 = a + 3 → wA.2.1 = w.2.1 + 6 → wA.2.2 a = some (.inr (1, [.null, .int 0, .int 0, .int 0, .int 0, .int 0, .int 0, .ref (a + 1), .null, .null, .int 0, .int 0, .int 0])) → rRt X wA (a + 1) (fun _ => false) (fun _ => 0) → (∀ x, x < a ∨ a + 3 ≤ x → wA.2.2 x = w.2.2 x) → xE (xGG X) 2 m_Bc_init 15 [(0, .ref a), (1, .ref nb), (2, .int (nI me)), (3, .int (nI e)), (4, .int (nI i))] [] wA P := by
    intro wA e1 e2 e3 e4 e7
    refine x_aload_n 16 rfl d_Bc_init_15 rfl ?_
    refine x_iconst 17 rfl d_Bc_init_16 4 (by decide) ?_
    refine x_newa 19 rfl d_Bc_init_17 rfl v_int (t0 := 0) rfl (Or.inl rfl) (by decide) (N' := 4) (by decide) (by decide) ?_
    have kn : ∀ x, x ≠ wA.1 → (xnew wA 4 (.inl (X.2.2.2.1 0, 4, .inl (fun _ => (0 : Int32))))).2.2 x = wA.2.2 x := fun x hx => xnew_ne _ _ _ hx
    have g3 := (kn a (by omega)).trans e3
    refine x_put 22 rfl p_Bc_18 (fun _ => rfl) d_Bc_init_19 g3 rfl rfl (Nat.le_of_ble_eq_true rfl) ?_
    rw [show Value.ref wA.1 = .ref (a + 3) from by rw [e1]]
    refine stB _ (by show wA.1 + 1 = _; omega) (by show wA.2.1 + 4 = _; omega) (by rw [xset_at]; rfl) (rRt.kept e4 (by rw [xset_ne _ _ (by omega)]; exact kn _ (by omega)) (by rw [xset_ne _ _ (by omega)]; exact kn _ (by omega))) ⟨fun _ => 0, by rw [xset_ne _ _ (by omega), ← e1, xnew_at], fun j hj => rfl⟩ (fun x hx => by rw [xset_ne _ _ (by omega), kn _ (by omega)]; exact e7 x (by omega))
  refine x_aload_n 1 rfl d_Bc_init_0 rfl ?_
  refine x_objInit 4 rfl d_Bc_init_1 o_Bc_3 o_inst o_code (Nat.le_of_ble_eq_true rfl) (by decide) ?_
  refine x_aload_n 5 rfl d_Bc_init_4 rfl ?_
  refine x_new 8 rfl d_Bc_init_5 (ci := 6) (ty := t_Rt) (fs := [.null, .int 0]) rfl l_Rt t_Rt_ok q_Bc_9 i_Rt z_Rt (by decide) ?_
  refine x_dup 9 rfl d_Bc_init_8 rfl ?_
  refine y_callI 12 rfl [] _ rfl d_Bc_init_9 c_Bc_11 rfl (Nat.le_of_ble_eq_true rfl) (Nat.le_of_ble_eq_true rfl) (Nat.le_of_ble_eq_true rfl) (s_Rt_init (xnew_at _ _ _) rfl (fun w2 k1 k2 => ?_))
  have kk : ∀ x, x ≠ w.1 → (x < w.1 ∨ w.1 + 2 ≤ x) → w2.2.2 x = w.2.2 x := fun x x1 x2 => by
    rw [k1.2.2 x x1 (by show x < w.1 + 1 ∨ w.1 + 1 + 1 ≤ x; omega), xnew_ne _ _ _ x1]
  have m1 : w2.1 = w.1 + 2 := k1.1
  have m2 : w2.2.1 = w.2.1 + 2 + 4 := k1.2.1
  have g3 := (kk a (by omega) (by omega)).trans ha
  refine x_put 15 rfl p_Bc_12 (fun _ => rfl) d_Bc_init_12 g3 rfl rfl (Nat.le_of_ble_eq_true rfl) ?_
  rw [h1] at k2
  rw [show w.1 = a + 1 from h1]
  refine stA _ (by show w2.1 = _; omega) (by show w2.2.1 = _; omega) (by rw [xset_at]; rfl) (rRt.kept k2 (xset_ne _ _ (by omega)) (xset_ne _ _ (by omega))) (fun x hx => by rw [xset_ne _ _ (by omega), kk _ (by omega) (by omega)])
theorem s_Ag_init {m1 m2 m3 : Int32} (q1 : m1 = nI me) (q2 : m2 = nI e) (q3 : m3 = nI i) (ha : w.2.2 a = some (.inr (0, [.null, .int 0, .int 0, .int 0, .int 0, .null, .null, .int 0, .int 0, .int 0, .int 0, .int 0, .int 0, .int 0]))) (h1 : w.1 = a + 1) (h : ∀ w', gw w w' a 2 24 → rAg X nb me e i t a a0 w' → P none w') : xE (xGG X) 1 m_Ag_init 0 [(0, .ref a), (1, .ref nb), (2, .int m1), (3, .int m2), (4, .int m3), (5, .int t)] [] w P := by
  subst q1 q2 q3
  have stB : ∀ wB : xW, wB.1 = a + 3 → wB.2.1 = w.2.1 + 24 → wB.2.2 a = some (.inr (0, [.null, .int 0, .int 0, .int 0, .int 0, .ref (a + 1), .ref (a + 2), .int 0, .int 0, .int 0, .int 0, .int 0, .int 0, .int 0])) → wB.2.2 (a + 1) = some (.inl (X.2.2.2.1 0, 12, .inl (fun _ => (0 : Int32)))) → wB.2.2 (a + 2) = some (.inl (X.2.2.2.1 0, 12, .inl (fun _ => (0 : Int32)))) → (∀ x, x < a ∨ a + 3 ≤ x → wB.2.2 x = w.2.2 x) → xE (xGG X) 1 m_Ag_init 20 [(0, .ref a), (1, .ref nb), (2, .int (nI me)), (3, .int (nI e)), (4, .int (nI i)), (5, .int t)] [] wB P := by
    intro wB e1 e2 e3 e4 e5 e7
    refine x_aload_n 21 rfl d_Ag_init_20 rfl ?_
    refine x_iconst 22 rfl d_Ag_init_21 (-1) (by decide) ?_
    refine x_put 25 rfl p_Ag_18 (fun h => nomatch h) d_Ag_init_22 e3 rfl rfl (Nat.le_of_ble_eq_true rfl) ?_
    refine x_aload_n 26 rfl d_Ag_init_25 rfl ?_
    refine x_iconst 27 rfl d_Ag_init_26 (-1) (by decide) ?_
    refine x_put 30 rfl p_Ag_22 (fun h => nomatch h) d_Ag_init_27 (xset_at _ _ _) rfl rfl (Nat.le_of_ble_eq_true rfl) ?_
    refine x_aload_n 31 rfl d_Ag_init_30 rfl ?_
    refine x_iconst 32 rfl d_Ag_init_31 (-1) (by decide) ?_
    refine x_put 35 rfl p_Ag_25 (fun h => nomatch h) d_Ag_init_32 (xset_at _ _ _) rfl rfl (Nat.le_of_ble_eq_true rfl) ?_
    refine x_aload_n 36 rfl d_Ag_init_35 rfl ?_
    refine x_aload_n 37 rfl d_Ag_init_36 rfl ?_
    refine x_put 40 rfl p_Ag_28 (fun _ => rfl) d_Ag_init_37 (xset_at _ _ _) rfl rfl (Nat.le_of_ble_eq_true rfl) ?_
    refine x_aload_n 41 rfl d_Ag_init_40 rfl ?_
    refine x_iload_n 42 rfl d_Ag_init_41 rfl ?_
    refine x_put 45 rfl p_Ag_32 (fun _ => rfl) d_Ag_init_42 (xset_at _ _ _) rfl rfl (Nat.le_of_ble_eq_true rfl) ?_
    refine x_aload_n 46 rfl d_Ag_init_45 rfl ?_
    refine x_iload_n 47 rfl d_Ag_init_46 rfl ?_
    refine x_put 50 rfl p_Ag_35 (fun _ => rfl) d_Ag_init_47 (xset_at _ _ _) rfl rfl (Nat.le_of_ble_eq_true rfl) ?_
    refine x_aload_n 51 rfl d_Ag_init_50 rfl ?_
    refine x_iload 53 rfl d_Ag_init_51 rfl ?_
    refine x_put 56 rfl p_Ag_38 (fun _ => rfl) d_Ag_init_53 (xset_at _ _ _) rfl rfl (Nat.le_of_ble_eq_true rfl) ?_
    refine x_aload_n 57 rfl d_Ag_init_56 rfl ?_
    refine x_iload 59 rfl d_Ag_init_57 rfl ?_
    refine x_put 62 rfl p_Ag_41 (fun _ => rfl) d_Ag_init_59 (xset_at _ _ _) rfl rfl (Nat.le_of_ble_eq_true rfl) ?_
    refine x_vret d_Ag_init_62 rfl ?_
    simp only [xset2]
    generalize hw : xset wB a _ = w9
    have kk : ∀ x, x ≠ a → w9.2.2 x = wB.2.2 x := fun x hx => by rw [← hw, xset_ne _ _ hx]
    refine h _ ⟨by rw [← hw]; show wB.1 = _; omega, by rw [← hw]; show wB.2.1 = _; omega, fun x hx hx2 => ?_⟩ ⟨?_, ⟨fun _ => 0, ?_, fun r bit hr hb => rfl⟩, ⟨fun _ => 0, ?_, fun r bit hr hb => ?_⟩, a0_ok⟩
    · rw [kk x hx]; exact e7 x (by omega)
    · rw [← hw, xset_at]; rfl
    · exact (kk _ (by omega)).trans e4
    · exact (kk _ (by omega)).trans e5
    · rw [show aSs a0 r bit = (fun _ => false) from funext (fun s => decide_eq_false (by show ¬ 0 = bit + 1; omega))]; rfl
  refine x_aload_n 1 rfl d_Ag_init_0 rfl ?_
  refine x_objInit 4 rfl d_Ag_init_1 o_Ag_3 o_inst o_code (Nat.le_of_ble_eq_true rfl) (by decide) ?_
  refine x_aload_n 5 rfl d_Ag_init_4 rfl ?_
  refine x_bipush 7 rfl d_Ag_init_5 12 (by decide) ?_
  refine x_newa 9 rfl d_Ag_init_7 rfl v_int (t0 := 0) rfl (Or.inl rfl) (by decide) (N' := 12) (by decide) (by decide) ?_
  have g1 := (xnew_ne w 12 (.inl (X.2.2.2.1 0, 12, .inl (fun _ => (0 : Int32)))) (show a ≠ w.1 by omega)).trans ha
  refine x_put 12 rfl p_Ag_9 (fun _ => rfl) d_Ag_init_9 g1 rfl rfl (Nat.le_of_ble_eq_true rfl) ?_
  refine x_aload_n 13 rfl d_Ag_init_12 rfl ?_
  refine x_bipush 15 rfl d_Ag_init_13 12 (by decide) ?_
  generalize hw1 : xset (xnew w 12 _) a _ = w1
  have f1 : w1.1 = a + 2 := by rw [← hw1]; show w.1 + 1 = _; omega
  have f2 : w1.2.1 = w.2.1 + 12 := by rw [← hw1]; rfl
  have f3 : w1.2.2 a = some (.inr (0, [.null, .int 0, .int 0, .int 0, .int 0, .ref (a + 1), .null, .int 0, .int 0, .int 0, .int 0, .int 0, .int 0, .int 0])) := by rw [← hw1, xset_at, h1]; rfl
  have f4 : w1.2.2 (a + 1) = some (.inl (X.2.2.2.1 0, 12, .inl (fun _ => (0 : Int32)))) := by rw [← hw1, xset_ne _ _ (by omega), ← h1, xnew_at]
  have f5 : ∀ x, x < a ∨ a + 2 ≤ x → w1.2.2 x = w.2.2 x := fun x hx => by rw [← hw1, xset_ne _ _ (by omega), xnew_ne _ _ _ (by omega)]
  refine x_newa 17 rfl d_Ag_init_15 rfl v_int (t0 := 0) rfl (Or.inl rfl) (by decide) (N' := 12) (by decide) (by decide) ?_
  have g2 := (xnew_ne w1 12 (.inl (X.2.2.2.1 0, 12, .inl (fun _ => (0 : Int32)))) (show a ≠ w1.1 by omega)).trans f3
  refine x_put 20 rfl p_Ag_15 (fun _ => rfl) d_Ag_init_17 g2 rfl rfl (Nat.le_of_ble_eq_true rfl) ?_
  refine stB _ (by show w1.1 + 1 = _; omega) (by show w1.2.1 + 12 = _; omega) (by rw [xset_at, f1]; rfl) (by rw [xset_ne _ _ (by omega), xnew_ne _ _ _ (by omega)]; exact f4) (by rw [xset_ne _ _ (by omega), ← f1, xnew_at]) (fun x hx => by rw [xset_ne _ _ (by omega), xnew_ne _ _ _ (by omega)]; exact f5 x (by omega))
end IN2
