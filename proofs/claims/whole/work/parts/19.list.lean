/-! ARRAYLIST -/
theorem f_emp {X : xPar} : Cond.fieldLink "java/util/ArrayList" 39 "java/util/ArrayList" "DEFAULTCAPACITY_EMPTY_ELEMENTDATA" "[Ljava/lang/Object;" ∈ xws (xGG X) := xi1 56 rfl rfl
section AL0
variable {X : xPar} {w : xW} {P : Option Value → xW → Prop}
theorem s_Ma_max {x y : Int32} (h : P (some (.int (if x < y then y else x))) w) : xE (xGG X) 0 m_Ma_max 0 [(0, .int x), (1, .int y)] [] w P := by
  refine x_iload_n 1 rfl d_Ma_max_0 rfl ?_
  refine x_iload_n 2 rfl d_Ma_max_1 rfl ?_
  refine x_icmp_lt 9 5 rfl d_Ma_max_2 (by decide) (fun hc2 => ?_) (fun hc2 => ?_)
  · refine x_iload_n 10 rfl d_Ma_max_9 rfl ?_
    refine x_iret d_Ma_max_10 rfl ?_
    (simpa [*] using h)
  · refine x_iload_n 6 rfl d_Ma_max_5 rfl ?_
    refine x_goto d_Ma_max_6 10 (by decide) ?_
    refine x_iret d_Ma_max_10 rfl ?_
    (simpa [*] using h)
theorem s_Ma_min {x y : Int32} (h : P (some (.int (if y < x then y else x))) w) : xE (xGG X) 0 m_Ma_min 0 [(0, .int x), (1, .int y)] [] w P := by
  refine x_iload_n 1 rfl d_Ma_min_0 rfl ?_
  refine x_iload_n 2 rfl d_Ma_min_1 rfl ?_
  refine x_icmp_gt 9 5 rfl d_Ma_min_2 (by decide) (fun hc2 => ?_) (fun hc2 => ?_)
  · refine x_iload_n 10 rfl d_Ma_min_9 rfl ?_
    refine x_iret d_Ma_min_10 rfl ?_
    (simpa [*] using h)
  · refine x_iload_n 6 rfl d_Ma_min_5 rfl ?_
    refine x_goto d_Ma_min_6 10 (by decide) ?_
    refine x_iret d_Ma_min_10 rfl ?_
    (simpa [*] using h)
theorem s_As_newLength {a b c : Int32} {n m g : Nat} (ha : a = nI n) (hb : b = nI m) (hc : c = nI g) (hn : n < 2 ^ 28) (hm : m < 2 ^ 28) (hg : g < 2 ^ 28) (h0 : 0 < n) (h : P (some (.int (nI (n + max m g)))) w) : xE (xGG X) 1 m_As_newLength 0 [(0, .int a), (1, .int b), (2, .int c)] [] w P := by
  subst ha hb hc
  have e : (if nI m < nI g then nI g else nI m) = nI (max m g) := by
    by_cases z : m < g
    · rw [if_pos (nI_lt z (by omega)), Nat.max_eq_right (by omega)]
    · rw [if_neg (nI_nlt (by omega) (by omega)), Nat.max_eq_left (by omega)]
  have hmx : max m g < 2 ^ 28 := Nat.max_lt.mpr ⟨hm, hg⟩
  refine x_iload_n 1 rfl d_As_newLength_0 rfl ?_
  refine x_iload_n 2 rfl d_As_newLength_1 rfl ?_
  refine x_iload_n 3 rfl d_As_newLength_2 rfl ?_
  refine y_call 6 rfl [_, _] _ rfl d_As_newLength_3 c_As_194 rfl (Nat.le_of_ble_eq_true rfl) (Nat.le_of_ble_eq_true rfl) (Nat.le_of_ble_eq_true rfl) (s_Ma_max ?_)
  rw [e]
  refine x_iadd 7 rfl d_As_newLength_6 ?_
  refine x_istore_n 8 rfl d_As_newLength_7 (by decide) ?_
  refine x_iconst 9 rfl d_As_newLength_8 0 (by decide) ?_
  refine x_iload_n 10 rfl d_As_newLength_9 rfl ?_
  rw [nI_add]
  refine x_icmp_ge 21 13 rfl d_As_newLength_10 (by decide) (fun hc => absurd hc (nI_ge (a := 0) (by omega) (by omega))) (fun hc => ?_)
  refine x_iload_n 14 rfl d_As_newLength_13 rfl ?_
  refine x_ldc 16 rfl d_As_newLength_14 k_As_200 ?_
  refine x_icmp_gt 21 19 rfl d_As_newLength_16 (by decide) (fun hc => absurd hc (nI_nlt (a := 2147483639) (by omega) (by decide))) (fun hc => ?_)
  refine x_iload_n 20 rfl d_As_newLength_19 rfl ?_
  refine x_iret d_As_newLength_20 rfl ?_
  exact h
theorem s_Pr_checkIndex {x y : Int32} (h0 : 0 ≤ x) (h1 : x < y) (h : P (some (.int x)) w) : xE (xGG X) 0 m_Pr_checkIndex 0 [(0, .int x), (1, .int y), (2, .null)] [] w P := by
  refine x_iload_n 1 rfl d_Pr_checkIndex_0 rfl ?_
  refine x_if_lt 9 4 rfl d_Pr_checkIndex_1 (by decide) (fun hc => absurd hc (Int32.not_lt.mpr h0)) (fun hc => ?_)
  refine x_iload_n 5 rfl d_Pr_checkIndex_4 rfl ?_
  refine x_iload_n 6 rfl d_Pr_checkIndex_5 rfl ?_
  refine x_icmp_lt 16 9 rfl d_Pr_checkIndex_6 (by decide) (fun hc => ?_) (fun hc => absurd h1 hc)
  refine x_iload_n 17 rfl d_Pr_checkIndex_16 rfl ?_
  refine x_iret d_Pr_checkIndex_17 rfl ?_
  exact h
theorem s_Os_checkIndex {x y : Int32} (h0 : 0 ≤ x) (h1 : x < y) (h : P (some (.int x)) w) : xE (xGG X) 1 m_Os_checkIndex 0 [(0, .int x), (1, .int y)] [] w P := by
  refine x_iload_n 1 rfl d_Os_checkIndex_0 rfl ?_
  refine x_iload_n 2 rfl d_Os_checkIndex_1 rfl ?_
  refine x_null 3 rfl d_Os_checkIndex_2 ?_
  refine y_call 6 rfl [_, _, _] _ rfl d_Os_checkIndex_3 c_Os_105 rfl (Nat.le_of_ble_eq_true rfl) (Nat.le_of_ble_eq_true rfl) (Nat.le_of_ble_eq_true rfl) (s_Pr_checkIndex h0 h1 ?_)
  refine x_iret d_Os_checkIndex_6 rfl ?_
  exact h
end AL0
/-- the elements are messages -/
def rEl (w : xW) (f : Nat → Option Nat) (as : List Nat) : Prop := ∀ j, j < as.length → ∃ (m : Nat) (fs : List Value), as[j]? = some m ∧ f j = some m ∧ w.2.2 m = some (.inr (3, fs))
/-- a list: its object at a; its array at ed, of cap places; the addresses of its elements -/
def rAl (X : xPar) (tE : Nat) (w : xW) (a ed cap : Nat) (as : List Nat) : Prop := (∃ mc : Int32, w.2.2 a = some (.inr (10, [.ref ed, .int (nI as.length), .int mc]))) ∧ as.length ≤ cap ∧ ((cap = 0 ∧ ed = tE) ∨ (2 ≤ cap ∧ ∃ f : Nat → Option Nat, w.2.2 ed = some (.inl (X.2.2.2.1 6, cap, .inr (.inr (.inr (.inr f))))) ∧ rEl w f as))
theorem rEl.kept {w w' : xW} {f : Nat → Option Nat} {as : List Nat} (h : rEl w f as) (hk : ∀ (m : Nat) (fs : List Value), w.2.2 m = some (.inr (3, fs)) → w'.2.2 m = some (.inr (3, fs))) : rEl w' f as := by
  intro j hj
  obtain ⟨m, fs, h1, h2, h3⟩ := h j hj
  exact ⟨m, fs, h1, h2, hk m fs h3⟩
section AL
variable {X : xPar} {sb L : Nat} {xs : Nat → Int32} {tI tE mi : Nat} {w : xW} {P : Option Value → xW → Prop}
theorem s_Ar_copyOf2 (hX : xS X sb L xs tI tE mi) {a n m : Nat} {nn : Int32} {f : Nat → Option Nat} {as : List Nat} (hnn : nn = nI m) (ha : w.2.2 a = some (.inl (X.2.2.2.1 6, n, .inr (.inr (.inr (.inr f)))))) (hel : rEl w f as) (hasn : as.length = n) (hlt : a < w.1) (hnm : n ≤ m) (hm : m < 2 ^ 26) (hwf : ∀ q e, w.2.2 q = some e → q < w.1) (h : P (some (.ref w.1)) (xset (xnew w m (.inl (X.2.2.2.1 6, m, .inr (.inr (.inr (.inr (fun _ => none))))))) w.1 (.inl (X.2.2.2.1 6, m, .inr (.inr (.inr (.inr (va_cpy f (fun _ => none) 0 0 n)))))))) : xE (xGG X) 1 m_Ar_copyOf2 0 [(0, .ref a), (1, .int nn), (2, .ref mi)] [] w P := by
  subst hnn
  refine x_aload_n 1 rfl d_Ar_copyOf2_0 rfl ?_
  refine x_ldcM 3 rfl d_Ar_copyOf2_1 q_Ar_110 (fun U H z => (hX U H z).2.2.2.2.2.1) ?_
  refine x_acmp_ne 13 6 rfl d_Ar_copyOf2_3 (by decide) (fun hc => absurd rfl hc) (fun hc => ?_)
  refine x_iload_n 7 rfl d_Ar_copyOf2_6 rfl ?_
  refine x_newq 10 rfl d_Ar_copyOf2_7 q_Ar_2 a_Ob (t0 := 6) rfl (nI_pos (by omega)) (nI_clamp (by omega)) (by omega) ?_
  have k1 : (xnew w m (.inl (X.2.2.2.1 6, m, .inr (.inr (.inr (.inr (fun _ => none))))))).2.2 a = some (.inl (X.2.2.2.1 6, n, .inr (.inr (.inr (.inr f))))) := by rw [xnew_ne _ _ _ (by omega)]; exact ha
  refine x_goto d_Ar_copyOf2_10 24 (by decide) ?_
  refine x_astore_n 25 rfl d_Ar_copyOf2_24 (by decide) ?_
  refine x_aload_n 26 rfl d_Ar_copyOf2_25 rfl ?_
  refine x_iconst 27 rfl d_Ar_copyOf2_26 0 (by decide) ?_
  refine x_aload_n 28 rfl d_Ar_copyOf2_27 rfl ?_
  refine x_iconst 29 rfl d_Ar_copyOf2_28 0 (by decide) ?_
  refine x_aload_n 30 rfl d_Ar_copyOf2_29 rfl ?_
  refine x_alen 31 rfl d_Ar_copyOf2_30 k1 (t0 := 6) rfl rfl ?_
  refine x_iload_n 32 rfl d_Ar_copyOf2_31 rfl ?_
  refine y_call 35 rfl [_, _] _ rfl d_Ar_copyOf2_32 c_Ar_304 rfl (Nat.le_of_ble_eq_true rfl) (Nat.le_of_ble_eq_true rfl) (Nat.le_of_ble_eq_true rfl) (s_Ma_min ?_)
  have e : (if nI m < Int32.ofNat n then nI m else Int32.ofNat n) = nI n := by
    show (if nI m < nI n then nI m else nI n) = nI n
    rw [if_neg (nI_nlt hnm (by omega))]
  rw [e]
  have en : (nI n).toNatClampNeg = n := nI_clamp (by omega)
  refine x_copyq 38 rfl d_Ar_copyOf2_35 (xi2 187 rfl rfl) (xi2 189 rfl rfl) (xi2 188 rfl rfl) z_Sy k1 (xnew_at _ _ _) (t0 := 6) (t1 := 6) rfl rfl (by decide) (by decide) (nI_pos (by omega)) (by rw [en, sb_cl0]; omega) (by rw [en, sb_cl0]; omega) (fun i hi y hy => ?_) (Nat.le_of_ble_eq_true rfl) (by decide) ?_
  · rw [en] at hi
    rw [sb_cl0, Nat.zero_add] at hy
    obtain ⟨mm, fs, q1, q2, q3⟩ := hel i (by omega)
    cases hy.symm.trans q2
    refine ⟨3, fs, _, ?_, rfl, b_Ms_Ob⟩
    rw [xnew_ne _ _ _ (by have := hwf _ _ q3; omega)]
    exact q3
  rw [en, sb_cl0]
  refine x_aload_n 39 rfl d_Ar_copyOf2_38 rfl ?_
  refine x_aret d_Ar_copyOf2_39 rfl (by first | exact Or.inl ⟨_, rfl⟩ | exact Or.inr ⟨_, rfl⟩) ?_
  exact h
theorem s_Ar_copyOf (hX : xS X sb L xs tI tE mi) {a n m : Nat} {nn : Int32} {f : Nat → Option Nat} {as : List Nat} (hnn : nn = nI m) (ha : w.2.2 a = some (.inl (X.2.2.2.1 6, n, .inr (.inr (.inr (.inr f)))))) (hel : rEl w f as) (hasn : as.length = n) (hlt : a < w.1) (hnm : n ≤ m) (hm : m < 2 ^ 26) (hwf : ∀ q e, w.2.2 q = some e → q < w.1) (h : P (some (.ref w.1)) (xset (xnew w m (.inl (X.2.2.2.1 6, m, .inr (.inr (.inr (.inr (fun _ => none))))))) w.1 (.inl (X.2.2.2.1 6, m, .inr (.inr (.inr (.inr (va_cpy f (fun _ => none) 0 0 n)))))))) : xE (xGG X) 2 m_Ar_copyOf 0 [(0, .ref a), (1, .int nn)] [] w P := by
  subst hnn
  refine x_aload_n 1 rfl d_Ar_copyOf_0 rfl ?_
  refine x_iload_n 2 rfl d_Ar_copyOf_1 rfl ?_
  refine x_aload_n 3 rfl d_Ar_copyOf_2 rfl ?_
  refine x_getC 6 rfl d_Ar_copyOf_3 (xi2 163 rfl rfl) (xi5 29 rfl rfl) (xi2 164 rfl rfl) (xi2 177 rfl rfl) (fun U H z => ⟨(hX U H z).2.2.2.2.2.1, (hX U H z).2.2.2.2.2.2.1⟩) ha (t0 := 6) rfl (Nat.le_of_ble_eq_true rfl) (by decide) ?_
  refine y_call 9 rfl [_, _, _] _ rfl d_Ar_copyOf_6 c_Ar_300 rfl (Nat.le_of_ble_eq_true rfl) (Nat.le_of_ble_eq_true rfl) (Nat.le_of_ble_eq_true rfl) (s_Ar_copyOf2 hX rfl ha hel hasn hlt hnm hm hwf ?_)
  refine x_aret d_Ar_copyOf_9 rfl (by first | exact Or.inl ⟨_, rfl⟩ | exact Or.inr ⟨_, rfl⟩) ?_
  exact h
/-- how many places a full list of n gets -/
def cGr (n : Nat) : Nat := if n = 0 then 10 else n + n / 2
theorem s_Al_grow2 (hX : xS X sb L xs tI tE mi) {a ed n : Nat} {nn : Int32} {as : List Nat} (hnn : nn = nI (n + 1)) (hR : rAl X tE w a ed n as) (hasn : as.length = n) (hn : n < 2 ^ 25) (hwf : ∀ q e, w.2.2 q = some e → q < w.1) (h : ∀ (w' : xW) (f : Nat → Option Nat), w'.1 = w.1 + 1 → w'.2.1 = w.2.1 + cGr n → (∃ mc, w'.2.2 a = some (.inr (10, [.ref w.1, .int (nI as.length), .int mc]))) → w'.2.2 w.1 = some (.inl (X.2.2.2.1 6, cGr n, .inr (.inr (.inr (.inr f))))) → rEl w' f as → (∀ q, q ≠ a → q ≠ w.1 → w'.2.2 q = w.2.2 q) → P (some (.ref w.1)) w') : xE (xGG X) 3 m_Al_grow2 0 [(0, .ref a), (1, .int nn)] [] w P := by
  subst hnn
  obtain ⟨⟨mc, g1⟩, g2, g3⟩ := hR
  have hal := hwf _ _ g1
  rcases g3 with ⟨rfl, rfl⟩ | ⟨hn2, f, g4, g5⟩
  · refine x_aload_n 1 rfl d_Al_grow2_0 rfl ?_
    refine x_get 4 rfl f_Al_9 d_Al_grow2_1 g1 rfl ?_
    refine x_lenT 5 rfl d_Al_grow2_4 (fun U H z => (hX U H z).2.2.2.2.1) ?_
    refine x_istore_n 6 rfl d_Al_grow2_5 (by decide) ?_
    refine x_iload_n 7 rfl d_Al_grow2_6 rfl ?_
    refine x_if_gt 20 10 rfl d_Al_grow2_7 (by decide) (fun hc => absurd hc (by decide)) (fun hc => ?_)
    refine x_aload_n 11 rfl d_Al_grow2_10 rfl ?_
    refine x_get 14 rfl f_Al_9 d_Al_grow2_11 g1 rfl ?_
    refine x_gets 17 rfl d_Al_grow2_14 f_emp (fun U H z => (hX U H z).2.2.2.1) ?_
    refine x_acmp_eq 45 20 rfl d_Al_grow2_17 (by decide) (fun hc => ?_) (fun hc => absurd rfl hc)
    refine x_aload_n 46 rfl d_Al_grow2_45 rfl ?_
    refine x_bipush 48 rfl d_Al_grow2_46 10 (by decide) ?_
    refine x_iload_n 49 rfl d_Al_grow2_48 rfl ?_
    refine y_call 52 rfl [_, _] _ rfl d_Al_grow2_49 c_Al_79 rfl (Nat.le_of_ble_eq_true rfl) (Nat.le_of_ble_eq_true rfl) (Nat.le_of_ble_eq_true rfl) (s_Ma_max ?_)
    refine x_newq 55 rfl d_Al_grow2_52 q_Al_7 a_Ob (t0 := 6) (N' := 10) rfl (by decide) (by decide) (by decide) ?_
    have k1 : (xnew w 10 (.inl (X.2.2.2.1 6, 10, .inr (.inr (.inr (.inr (fun _ => none))))))).2.2 a = some (.inr (10, [.ref ed, .int (nI as.length), .int mc])) := by rw [xnew_ne _ _ _ (by omega)]; exact g1
    refine x_dup_x1 56 rfl d_Al_grow2_55 rfl rfl ?_
    refine x_put 59 rfl p_Al_9 (fun _ => by first | rfl | contradiction) d_Al_grow2_56 k1 rfl rfl (Nat.le_of_ble_eq_true rfl) ?_
    refine x_aret d_Al_grow2_59 rfl (by first | exact Or.inl ⟨_, rfl⟩ | exact Or.inr ⟨_, rfl⟩) ?_
    refine h _ (fun _ => none) rfl rfl ⟨mc, xset_at _ _ _⟩ ?_ (fun j hj => by omega) (fun q h1 h2 => ?_)
    · rw [xset_ne _ _ (by omega), xnew_at]; rfl
    · rw [xset_ne _ _ h1, xnew_ne _ _ _ h2]
  · have hel := hwf _ _ g4
    have hne : a ≠ ed := fun z => by rw [z, g4] at g1; cases g1
    refine x_aload_n 1 rfl d_Al_grow2_0 rfl ?_
    refine x_get 4 rfl f_Al_9 d_Al_grow2_1 g1 rfl ?_
    refine x_alen 5 rfl d_Al_grow2_4 g4 (t0 := 6) rfl rfl ?_
    refine x_istore_n 6 rfl d_Al_grow2_5 (by decide) ?_
    refine x_iload_n 7 rfl d_Al_grow2_6 rfl ?_
    refine x_if_gt 20 10 rfl d_Al_grow2_7 (by decide) (fun hc => ?_) (fun hc => absurd (show nI 0 < nI n from nI_lt (by omega) (by omega)) hc)
    have e1 : nI (n + 1) - Int32.ofNat n = nI 1 := by
      have := pk_sub (a := n + 1) (b := n) (by omega)
      rw [Nat.add_sub_cancel_left] at this
      exact this
    have e2 : Int32.ofNat n >>> ((1 : Int32) &&& 31) = nI (n / 2) := by
      have := pk_shrN (n := n) (by omega) ((1 : Int32) &&& 31) 1 (by decide)
      rw [Nat.pow_one] at this
      exact this
    refine x_iload_n 21 rfl d_Al_grow2_20 rfl ?_
    refine x_iload_n 22 rfl d_Al_grow2_21 rfl ?_
    refine x_iload_n 23 rfl d_Al_grow2_22 rfl ?_
    refine x_isub 24 rfl d_Al_grow2_23 ?_
    refine x_iload_n 25 rfl d_Al_grow2_24 rfl ?_
    refine x_iconst 26 rfl d_Al_grow2_25 1 (by decide) ?_
    refine x_ishr 27 rfl d_Al_grow2_26 ?_
    rw [e1, e2]
    refine y_call 30 rfl [_, _, _] _ rfl d_Al_grow2_27 c_Al_73 rfl (Nat.le_of_ble_eq_true rfl) (Nat.le_of_ble_eq_true rfl) (Nat.le_of_ble_eq_true rfl) (s_As_newLength rfl rfl rfl (by omega) (by omega) (by omega) (by omega) ?_)
    rw [show n + max 1 (n / 2) = n + n / 2 by omega]
    refine x_istore_n 31 rfl d_Al_grow2_30 (by decide) ?_
    refine x_aload_n 32 rfl d_Al_grow2_31 rfl ?_
    refine x_aload_n 33 rfl d_Al_grow2_32 rfl ?_
    refine x_get 36 rfl f_Al_9 d_Al_grow2_33 g1 rfl ?_
    refine x_iload_n 37 rfl d_Al_grow2_36 rfl ?_
    refine y_call 40 rfl [_, _] _ rfl d_Al_grow2_37 c_Al_66 rfl (Nat.le_of_ble_eq_true rfl) (Nat.le_of_ble_eq_true rfl) (Nat.le_of_ble_eq_true rfl) (s_Ar_copyOf hX rfl g4 g5 hasn hel (by omega) (by omega) hwf ?_)
    have hcg : cGr n = n + n / 2 := if_neg (by omega)
    generalize hw2 : xset (xnew w (n + n / 2) (.inl (X.2.2.2.1 6, n + n / 2, .inr (.inr (.inr (.inr (fun _ => none))))))) w.1 (.inl (X.2.2.2.1 6, n + n / 2, .inr (.inr (.inr (.inr (va_cpy f (fun _ => none) 0 0 n)))))) = w2
    have q1 : w2.1 = w.1 + 1 := by rw [← hw2]; rfl
    have q2 : w2.2.1 = w.2.1 + (n + n / 2) := by rw [← hw2]; rfl
    have q3 : w2.2.2 w.1 = some (.inl (X.2.2.2.1 6, n + n / 2, .inr (.inr (.inr (.inr (va_cpy f (fun _ => none) 0 0 n)))))) := by rw [← hw2, xset_at]
    have q4 : ∀ q, q ≠ w.1 → w2.2.2 q = w.2.2 q := fun q hq => by rw [← hw2, xset_ne _ _ hq, xnew_ne _ _ _ hq]
    have k1 : w2.2.2 a = some (.inr (10, [.ref ed, .int (nI as.length), .int mc])) := by rw [q4 a (by omega)]; exact g1
    refine x_dup_x1 41 rfl d_Al_grow2_40 rfl rfl ?_
    refine x_put 44 rfl p_Al_9 (fun _ => by first | rfl | contradiction) d_Al_grow2_41 k1 rfl rfl (Nat.le_of_ble_eq_true rfl) ?_
    refine x_aret d_Al_grow2_44 rfl (by first | exact Or.inl ⟨_, rfl⟩ | exact Or.inr ⟨_, rfl⟩) ?_
    refine h _ (va_cpy f (fun _ => none) 0 0 n) (by rw [xset_1, q1]) (by rw [xset_2, q2, hcg]) ⟨mc, xset_at _ _ _⟩ (by rw [xset_ne _ _ (by omega), q3, hcg]) (fun j hj => ?_) (fun q h1 h2 => by rw [xset_ne _ _ h1, q4 q h2])
    obtain ⟨m, fs, r1, r2, r3⟩ := g5 j hj
    have hml := hwf _ _ r3
    refine ⟨m, fs, r1, (pk_cpy_in (by omega) (by omega)).trans (by simpa using r2), ?_⟩
    rw [xset_ne _ _ (fun z => by rw [z, g1] at r3; cases r3), q4 m (by omega)]
    exact r3
theorem s_Al_grow (hX : xS X sb L xs tI tE mi) {a ed n : Nat} {as : List Nat} (hR : rAl X tE w a ed n as) (hasn : as.length = n) (hn : n < 2 ^ 25) (hwf : ∀ q e, w.2.2 q = some e → q < w.1) (h : ∀ (w' : xW) (f : Nat → Option Nat), w'.1 = w.1 + 1 → w'.2.1 = w.2.1 + cGr n → (∃ mc, w'.2.2 a = some (.inr (10, [.ref w.1, .int (nI as.length), .int mc]))) → w'.2.2 w.1 = some (.inl (X.2.2.2.1 6, cGr n, .inr (.inr (.inr (.inr f))))) → rEl w' f as → (∀ q, q ≠ a → q ≠ w.1 → w'.2.2 q = w.2.2 q) → P (some (.ref w.1)) w') : xE (xGG X) 4 m_Al_grow 0 [(0, .ref a)] [] w P := by
  obtain ⟨mc, g1⟩ := hR.1
  refine x_aload_n 1 rfl d_Al_grow_0 rfl ?_
  refine x_aload_n 2 rfl d_Al_grow_1 rfl ?_
  refine x_get 5 rfl f_Al_48 d_Al_grow_2 g1 rfl ?_
  refine x_iconst 6 rfl d_Al_grow_5 1 (by decide) ?_
  refine x_iadd 7 rfl d_Al_grow_6 ?_
  rw [hasn, nI_1]
  refine y_callV 10 rfl [_] _ rfl d_Al_grow_7 g1 rfl c_Al_69 rfl (Nat.le_of_ble_eq_true rfl) (Nat.le_of_ble_eq_true rfl) (Nat.le_of_ble_eq_true rfl) (s_Al_grow2 hX rfl hR hasn hn hwf (fun w' f h1 h2 h3 h4 h5 h6 => ?_))
  refine x_aret d_Al_grow_10 rfl (by first | exact Or.inl ⟨_, rfl⟩ | exact Or.inr ⟨_, rfl⟩) ?_
  exact h w' f h1 h2 h3 h4 h5 h6
/-- what adding an element to a full list, or to one that has room, makes of the world -/
def rAdd (w w' : xW) (a ed cap n ed' cap' : Nat) : Prop := (∀ q, q ≠ a → q ≠ ed' → w'.2.2 q = w.2.2 q) ∧ ((w'.1 = w.1 ∧ w'.2.1 = w.2.1 ∧ ed' = ed ∧ cap' = cap ∧ n < cap) ∨ (w'.1 = w.1 + 1 ∧ w'.2.1 = w.2.1 + cap' ∧ ed' = w.1 ∧ n = cap ∧ cap' = cGr n)) ∧ ∀ q e, w'.2.2 q = some e → q < w'.1
theorem s_Al_add2 (hX : xS X sb L xs tI tE mi) {a ed cap m : Nat} {nn : Int32} {as : List Nat} {fs : List Value} (hR : rAl X tE w a ed cap as) (hnn : nn = nI as.length) (hn : as.length < 2 ^ 25) (hcap : cap < 2 ^ 26) (hm : w.2.2 m = some (.inr (3, fs))) (hwf : ∀ q e, w.2.2 q = some e → q < w.1) (h : ∀ (w' : xW) (ed' cap' : Nat), rAl X tE w' a ed' cap' (as ++ [m]) → rAdd w w' a ed cap as.length ed' cap' → P none w') : xE (xGG X) 5 m_Al_add2 0 [(0, .ref a), (1, .ref m), (2, .ref ed), (3, .int nn)] [] w P := by
  subst hnn
  have hR0 := hR
  obtain ⟨⟨mc, g1⟩, g2, g3⟩ := hR
  have hal := hwf _ _ g1
  have hml := hwf _ _ hm
  have fin : ∀ (w1 : xW) (ed1 cap1 : Nat) (mc1 : Int32) (f1 : Nat → Option Nat), w1.2.2 a = some (.inr (10, [.ref ed1, .int (nI as.length), .int mc1])) → w1.2.2 ed1 = some (.inl (X.2.2.2.1 6, cap1, .inr (.inr (.inr (.inr f1))))) → rEl w1 f1 as → as.length < cap1 → cap1 < 2 ^ 27 → w1.2.2 m = some (.inr (3, fs)) → (∀ q e, w1.2.2 q = some e → q < w1.1) → (∀ q, q ≠ a → q ≠ ed1 → w1.2.2 q = w.2.2 q) → ((w1.1 = w.1 ∧ w1.2.1 = w.2.1 ∧ ed1 = ed ∧ cap1 = cap ∧ as.length < cap) ∨ (w1.1 = w.1 + 1 ∧ w1.2.1 = w.2.1 + cap1 ∧ ed1 = w.1 ∧ as.length = cap ∧ cap1 = cGr as.length)) → 2 ≤ cap1 → xE (xGG X) 5 m_Al_add2 11 [(0, .ref a), (1, .ref m), (2, .ref ed1), (3, .int (nI as.length))] [] w1 P := by
    intro w1 ed1 cap1 mc1 f1 k1 k2 k3 k4 k5 k6 k7 k8 k9 k10
    have hne : a ≠ ed1 := fun z => by rw [z, k2] at k1; cases k1
    have hme : m ≠ ed1 := fun z => by rw [z, k2] at k6; cases k6
    have hma : m ≠ a := fun z => by rw [z, k1] at k6; cases k6
    refine x_aload_n 12 rfl d_Al_add2_11 rfl ?_
    refine x_iload_n 13 rfl d_Al_add2_12 rfl ?_
    refine x_aload_n 14 rfl d_Al_add2_13 rfl ?_
    refine x_aast 15 rfl d_Al_add2_14 k2 (t0 := 6) rfl k6 rfl (Or.inr b_Ms_Ob) (vp_in_nI k4 (by omega)) ?_
    rw [nI_clamp (by omega)]
    have k1' : (xset w1 ed1 (.inl (X.2.2.2.1 6, cap1, .inr (.inr (.inr (.inr (va_up f1 as.length (some m)))))))).2.2 a = some (.inr (10, [.ref ed1, .int (nI as.length), .int mc1])) := by rw [xset_ne _ _ hne]; exact k1
    refine x_aload_n 16 rfl d_Al_add2_15 rfl ?_
    refine x_iload_n 17 rfl d_Al_add2_16 rfl ?_
    refine x_iconst 18 rfl d_Al_add2_17 1 (by decide) ?_
    refine x_iadd 19 rfl d_Al_add2_18 ?_
    refine x_put 22 rfl p_Al_48 (fun _ => by first | rfl | contradiction) d_Al_add2_19 k1' rfl rfl (Nat.le_of_ble_eq_true rfl) ?_
    refine x_vret d_Al_add2_22 rfl ?_
    refine h _ ed1 cap1 ⟨⟨mc1, ?_⟩, by rw [List.length_append, List.length_singleton]; omega, Or.inr ⟨k10, va_up f1 as.length (some m), ?_, fun j hj => ?_⟩⟩ ⟨fun q h1 h2 => ?_, k9, fun q e hq => ?_⟩
    · rw [xset_at, List.length_append, List.length_singleton, nI_succ]; rfl
    · rw [xset_ne _ _ (Ne.symm hne), xset_at]
    · by_cases e : j = as.length
      · subst e
        refine ⟨m, fs, by simp, va_up_self _ _ _, ?_⟩
        rw [xset_ne _ _ hma, xset_ne _ _ hme]; exact k6
      · have hj2 : j < as.length := by rw [List.length_append, List.length_singleton] at hj; omega
        obtain ⟨m2, fs2, r1, r2, r3⟩ := k3 j hj2
        refine ⟨m2, fs2, by rw [List.getElem?_append_left hj2]; exact r1, by rw [va_up_ne _ _ e]; exact r2, ?_⟩
        rw [xset_ne _ _ (fun z => by rw [z, k1] at r3; cases r3), xset_ne _ _ (fun z => by rw [z, k2] at r3; cases r3)]
        exact r3
    · rw [xset_ne _ _ h1, xset_ne _ _ h2]
      exact k8 q h1 h2
    · by_cases e1 : q = a
      · subst e1; exact k7 _ _ k1
      · rw [xset_ne _ _ e1] at hq
        by_cases e2 : q = ed1
        · subst e2; exact k7 _ _ k2
        · rw [xset_ne _ _ e2] at hq
          exact k7 _ _ hq
  rcases g3 with ⟨hc0, he0⟩ | ⟨hn2, f, g4, g5⟩
  · have hl0 : as.length = cap := by omega
    have hed : ed < w.1 ∨ w.2.2 ed = none := by
      cases e : w.2.2 ed with
      | none => exact Or.inr rfl
      | some x => exact Or.inl (hwf _ _ e)
    refine x_iload_n 1 rfl d_Al_add2_0 rfl ?_
    refine x_aload_n 2 rfl d_Al_add2_1 rfl ?_
    rw [he0]
    refine x_lenT 3 rfl d_Al_add2_2 (fun U H z => (hX U H z).2.2.2.2.1) ?_
    refine x_icmp_ne 11 6 rfl d_Al_add2_3 (by decide) (fun hc => absurd (by rw [hl0, hc0]) hc) (fun hc => ?_)
    refine x_aload_n 7 rfl d_Al_add2_6 rfl ?_
    refine y_callV 10 rfl [] _ rfl d_Al_add2_7 g1 rfl c_Al_129 rfl (Nat.le_of_ble_eq_true rfl) (Nat.le_of_ble_eq_true rfl) (Nat.le_of_ble_eq_true rfl) (s_Al_grow hX hR0 hl0 (by omega) hwf (fun w' f h1 h2 h3 h4 h5 h6 => ?_))
    refine x_astore_n 11 rfl d_Al_add2_10 (by decide) ?_
    obtain ⟨mc3, h3⟩ := h3
    refine xE.fit (fin w' w.1 (cGr cap) mc3 f h3 h4 h5 ?_ ?_ ?_ ?_ (fun q q1 q2 => h6 q q1 q2) (Or.inr ⟨h1, h2, rfl, hl0, by rw [hl0]⟩) ?_) rfl
    · unfold cGr; split <;> omega
    · unfold cGr; split <;> omega
    · rw [h6 m (fun z => by rw [z, g1] at hm; cases hm) (by omega)]; exact hm
    · intro q e hq
      by_cases e1 : q = a
      · omega
      · by_cases e2 : q = w.1
        · omega
        · rw [h6 q e1 e2] at hq
          have := hwf _ _ hq
          omega
    · unfold cGr; split <;> omega
  · refine x_iload_n 1 rfl d_Al_add2_0 rfl ?_
    refine x_aload_n 2 rfl d_Al_add2_1 rfl ?_
    refine x_alen 3 rfl d_Al_add2_2 g4 (t0 := 6) rfl rfl ?_
    refine x_icmp_ne 11 6 rfl d_Al_add2_3 (by decide) (fun hc => ?_) (fun hc => ?_)
    · have hlt : as.length < cap := by
        by_cases z : as.length = cap
        · exact absurd (by rw [z]; rfl) hc
        · omega
      exact xE.fit (fin w ed cap mc f g1 g4 g5 hlt (by omega) hm hwf (fun _ _ _ => rfl) (Or.inl ⟨rfl, rfl, rfl, rfl, hlt⟩) hn2) rfl
    · have hl0 : as.length = cap := (nI_eq (by omega) (by omega)).mp hc
      refine x_aload_n 7 rfl d_Al_add2_6 rfl ?_
      refine y_callV 10 rfl [] _ rfl d_Al_add2_7 g1 rfl c_Al_129 rfl (Nat.le_of_ble_eq_true rfl) (Nat.le_of_ble_eq_true rfl) (Nat.le_of_ble_eq_true rfl) (s_Al_grow hX hR0 hl0 (by omega) hwf (fun w' f h1 h2 h3 h4 h5 h6 => ?_))
      refine x_astore_n 11 rfl d_Al_add2_10 (by decide) ?_
      obtain ⟨mc3, h3⟩ := h3
      refine xE.fit (fin w' w.1 (cGr cap) mc3 f h3 h4 h5 ?_ ?_ ?_ ?_ (fun q q1 q2 => h6 q q1 q2) (Or.inr ⟨h1, h2, rfl, hl0, by rw [hl0]⟩) ?_) rfl
      · unfold cGr; split <;> omega
      · unfold cGr; split <;> omega
      · rw [h6 m (fun z => by rw [z, g1] at hm; cases hm) (by omega)]; exact hm
      · intro q e hq
        by_cases e1 : q = a
        · omega
        · by_cases e2 : q = w.1
          · omega
          · rw [h6 q e1 e2] at hq
            have := hwf _ _ hq
            omega
      · unfold cGr; split <;> omega
theorem s_Al_add (hX : xS X sb L xs tI tE mi) {a ed cap m : Nat} {as : List Nat} {fs : List Value} (hR : rAl X tE w a ed cap as) (hn : as.length < 2 ^ 25) (hcap : cap < 2 ^ 26) (hm : w.2.2 m = some (.inr (3, fs))) (hwf : ∀ q e, w.2.2 q = some e → q < w.1) (h : ∀ (w' : xW) (ed' cap' : Nat), rAl X tE w' a ed' cap' (as ++ [m]) → rAdd w w' a ed cap as.length ed' cap' → P (some (.int 1)) w') : xE (xGG X) 6 m_Al_add 0 [(0, .ref a), (1, .ref m)] [] w P := by
  obtain ⟨⟨mc, g1⟩, g2, g3⟩ := hR
  have hma : m ≠ a := fun z => by rw [z, g1] at hm; cases hm
  refine x_aload_n 1 rfl d_Al_add_0 rfl ?_
  refine x_dup 2 rfl d_Al_add_1 rfl ?_
  refine x_get 5 rfl f_Al_63 d_Al_add_2 g1 rfl ?_
  refine x_iconst 6 rfl d_Al_add_5 1 (by decide) ?_
  refine x_iadd 7 rfl d_Al_add_6 ?_
  refine x_put 10 rfl p_Al_63 (fun _ => by first | rfl | contradiction) d_Al_add_7 g1 rfl rfl (Nat.le_of_ble_eq_true rfl) ?_
  generalize hw2 : xset w a _ = w2
  have q1 : w2.1 = w.1 := by rw [← hw2]; rfl
  have q2 : w2.2.1 = w.2.1 := by rw [← hw2]; rfl
  have k1 : w2.2.2 a = some (.inr (10, [.ref ed, .int (nI as.length), .int (mc + 1)])) := by rw [← hw2, xset_at]; rfl
  have q4 : ∀ q, q ≠ a → w2.2.2 q = w.2.2 q := fun q hq => by rw [← hw2, xset_ne _ _ hq]
  have hR2 : rAl X tE w2 a ed cap as := by
    refine ⟨⟨_, k1⟩, g2, ?_⟩
    rcases g3 with g3 | ⟨hn2, f, g4, g5⟩
    · exact Or.inl g3
    · refine Or.inr ⟨hn2, f, ?_, g5.kept (fun x fx hx => ?_)⟩
      · rw [q4 ed (fun z => by rw [z, g1] at g4; cases g4)]; exact g4
      · rw [q4 x (fun z => by rw [z, g1] at hx; cases hx)]; exact hx
  refine x_aload_n 11 rfl d_Al_add_10 rfl ?_
  refine x_aload_n 12 rfl d_Al_add_11 rfl ?_
  refine x_aload_n 13 rfl d_Al_add_12 rfl ?_
  refine x_get 16 rfl f_Al_9 d_Al_add_13 k1 rfl ?_
  refine x_aload_n 17 rfl d_Al_add_16 rfl ?_
  refine x_get 20 rfl f_Al_48 d_Al_add_17 k1 rfl ?_
  refine y_callV 23 rfl [_, _, _] _ rfl d_Al_add_20 k1 rfl c_Al_131 rfl (Nat.le_of_ble_eq_true rfl) (Nat.le_of_ble_eq_true rfl) (Nat.le_of_ble_eq_true rfl) (s_Al_add2 hX hR2 rfl hn hcap (by rw [q4 m hma]; exact hm) (fun q e hq => ?_) (fun w' ed' cap' h1 h2 => ?_))
  · rw [q1]
    by_cases e1 : q = a
    · subst e1; exact hwf _ _ g1
    · rw [q4 q e1] at hq; exact hwf _ _ hq
  refine x_iconst 24 rfl d_Al_add_23 1 (by decide) ?_
  refine x_zret d_Al_add_24 rfl (by decide) ?_
  refine h w' ed' cap' h1 ⟨fun q r1 r2 => (h2.1 q r1 r2).trans (q4 q r1), ?_, h2.2.2⟩
  rw [← q1, ← q2]
  exact h2.2.1
theorem s_Al_size {a ed cap : Nat} {as : List Nat} (hR : rAl X tE w a ed cap as) (h : P (some (.int (nI as.length))) w) : xE (xGG X) 0 m_Al_size 0 [(0, .ref a)] [] w P := by
  obtain ⟨mc, g1⟩ := hR.1
  refine x_aload_n 1 rfl d_Al_size_0 rfl ?_
  refine x_get 4 rfl f_Al_48 d_Al_size_1 g1 rfl ?_
  refine x_iret d_Al_size_4 rfl ?_
  exact h
theorem s_Al_fastRemove {a ed cap i : Nat} {ii : Int32} {as : List Nat} {f : Nat → Option Nat} {mc : Int32} (hii : ii = nI i) (g1 : w.2.2 a = some (.inr (10, [.ref ed, .int (nI as.length), .int mc]))) (hcap : as.length ≤ cap) (hc2 : cap < 2 ^ 26) (g4 : w.2.2 ed = some (.inl (X.2.2.2.1 6, cap, .inr (.inr (.inr (.inr f)))))) (g5 : rEl w f as) (hi : i < as.length) (h2 : 2 ≤ cap) (h : ∀ w', rAl X tE w' a ed cap (as.eraseIdx i) → w'.1 = w.1 → w'.2.1 = w.2.1 → (∀ q, q ≠ a → q ≠ ed → w'.2.2 q = w.2.2 q) → P none w') : xE (xGG X) 1 m_Al_fastRemove 0 [(0, .ref a), (1, .ref ed), (2, .int ii)] [] w P := by
  subst hii
  have hne : a ≠ ed := fun z => by rw [z, g4] at g1; cases g1
  have es : nI as.length - 1 = nI (as.length - 1) := by have := pk_sub (a := as.length) (b := 1) (by omega); exact this
  refine x_aload_n 1 rfl d_Al_fastRemove_0 rfl ?_
  refine x_dup 2 rfl d_Al_fastRemove_1 rfl ?_
  refine x_get 5 rfl f_Al_63 d_Al_fastRemove_2 g1 rfl ?_
  refine x_iconst 6 rfl d_Al_fastRemove_5 1 (by decide) ?_
  refine x_iadd 7 rfl d_Al_fastRemove_6 ?_
  refine x_put 10 rfl p_Al_63 (fun _ => by first | rfl | contradiction) d_Al_fastRemove_7 g1 rfl rfl (Nat.le_of_ble_eq_true rfl) ?_
  generalize hw2 : xset w a _ = w2
  have q1 : w2.1 = w.1 := by rw [← hw2]; rfl
  have q2 : w2.2.1 = w.2.1 := by rw [← hw2]; rfl
  have k1 : w2.2.2 a = some (.inr (10, [.ref ed, .int (nI as.length), .int (mc + 1)])) := by rw [← hw2, xset_at]; rfl
  have q4 : ∀ q, q ≠ a → w2.2.2 q = w.2.2 q := fun q hq => by rw [← hw2, xset_ne _ _ hq]
  have k4 : w2.2.2 ed = some (.inl (X.2.2.2.1 6, cap, .inr (.inr (.inr (.inr f))))) := by rw [q4 ed (Ne.symm hne)]; exact g4
  have fin : ∀ (w3 : xW) (f3 : Nat → Option Nat), w3.1 = w.1 → w3.2.1 = w.2.1 → w3.2.2 a = some (.inr (10, [.ref ed, .int (nI as.length), .int (mc + 1)])) → w3.2.2 ed = some (.inl (X.2.2.2.1 6, cap, .inr (.inr (.inr (.inr f3))))) → (∀ q, q ≠ a → q ≠ ed → w3.2.2 q = w.2.2 q) → (∀ j, j < as.length - 1 → f3 j = f (if j < i then j else j + 1)) → xE (xGG X) 1 m_Al_fastRemove 34 [(0, .ref a), (1, .ref ed), (2, .int (nI i)), (3, .int (nI (as.length - 1)))] [] w3 P := by
    intro w3 f3 r1 r2 r3 r4 r5 r6
    refine x_aload_n 35 rfl d_Al_fastRemove_34 rfl ?_
    refine x_aload_n 36 rfl d_Al_fastRemove_35 rfl ?_
    refine x_iload_n 37 rfl d_Al_fastRemove_36 rfl ?_
    refine x_dup_x1 38 rfl d_Al_fastRemove_37 rfl rfl ?_
    refine x_put 41 rfl p_Al_48 (fun _ => by first | rfl | contradiction) d_Al_fastRemove_38 r3 rfl rfl (Nat.le_of_ble_eq_true rfl) ?_
    refine x_null 42 rfl d_Al_fastRemove_41 ?_
    have r4' : (xset w3 a (.inr (10, List.set [.ref ed, .int (nI as.length), .int (mc + 1)] 1 (.int (nI (as.length - 1)))))).2.2 ed = some (.inl (X.2.2.2.1 6, cap, .inr (.inr (.inr (.inr f3))))) := by rw [xset_ne _ _ (Ne.symm hne)]; exact r4
    refine x_aastN 43 rfl d_Al_fastRemove_42 r4' (t0 := 6) rfl (vp_in_nI (by omega) (by omega)) ?_
    rw [nI_clamp (by omega)]
    refine x_vret d_Al_fastRemove_43 rfl ?_
    have hlen : (as.eraseIdx i).length = as.length - 1 := List.length_eraseIdx_of_lt hi
    refine h _ ⟨⟨mc + 1, ?_⟩, by omega, Or.inr ⟨h2, va_up f3 (as.length - 1) none, xset_at _ _ _, fun j hj => ?_⟩⟩ r1 r2 (fun q s1 s2 => ?_)
    · rw [xset_ne _ _ hne, xset_at, hlen]; rfl
    · rw [hlen] at hj
      have hlt : (if j < i then j else j + 1) < as.length := by split <;> omega
      obtain ⟨m, fs, t1, t2, t3⟩ := g5 _ hlt
      refine ⟨m, fs, ?_, ?_, ?_⟩
      · rw [List.getElem?_eraseIdx]
        split
        · rename_i z; rw [if_pos z] at t1; exact t1
        · rename_i z; rw [if_neg z] at t1; exact t1
      · rw [va_up_ne _ _ (by omega), r6 j hj]; exact t2
      · have n1 : m ≠ a := fun z => by rw [z, g1] at t3; cases t3
        have n2 : m ≠ ed := fun z => by rw [z, g4] at t3; cases t3
        rw [xset_ne _ _ n2, xset_ne _ _ n1, r5 m n1 n2]
        exact t3
    · rw [xset_ne _ _ s2, xset_ne _ _ s1]; exact r5 q s1 s2
  refine x_aload_n 11 rfl d_Al_fastRemove_10 rfl ?_
  refine x_get 14 rfl f_Al_48 d_Al_fastRemove_11 k1 rfl ?_
  refine x_iconst 15 rfl d_Al_fastRemove_14 1 (by decide) ?_
  refine x_isub 16 rfl d_Al_fastRemove_15 ?_
  rw [es]
  refine x_dup 17 rfl d_Al_fastRemove_16 rfl ?_
  refine x_istore_n 18 rfl d_Al_fastRemove_17 (by decide) ?_
  refine x_iload_n 19 rfl d_Al_fastRemove_18 rfl ?_
  refine x_icmp_le 34 22 rfl d_Al_fastRemove_19 (by decide) (fun hc => ?_) (fun hc => ?_)
  · have hle := (nI_leI (by omega) (by omega)).mp hc
    refine xE.fit (fin w2 f q1 q2 k1 k4 (fun q s1 _ => q4 q s1) (fun j hj => by rw [if_pos (by omega)])) rfl
  · have hlt : i < as.length - 1 := by
      by_cases z : i < as.length - 1
      · exact z
      · exact absurd (nI_le (by omega) (by omega)) hc
    have e3 : nI (as.length - 1) - nI i = nI (as.length - 1 - i) := pk_sub (by omega)
    refine x_aload_n 23 rfl d_Al_fastRemove_22 rfl ?_
    refine x_iload_n 24 rfl d_Al_fastRemove_23 rfl ?_
    refine x_iconst 25 rfl d_Al_fastRemove_24 1 (by decide) ?_
    refine x_iadd 26 rfl d_Al_fastRemove_25 ?_
    refine x_aload_n 27 rfl d_Al_fastRemove_26 rfl ?_
    refine x_iload_n 28 rfl d_Al_fastRemove_27 rfl ?_
    refine x_iload_n 29 rfl d_Al_fastRemove_28 rfl ?_
    refine x_iload_n 30 rfl d_Al_fastRemove_29 rfl ?_
    refine x_isub 31 rfl d_Al_fastRemove_30 ?_
    rw [nI_1, e3]
    have c1 : (nI (i + 1)).toNatClampNeg = i + 1 := nI_clamp (by omega)
    have c2 : (nI i).toNatClampNeg = i := nI_clamp (by omega)
    have c3 : (nI (as.length - 1 - i)).toNatClampNeg = as.length - 1 - i := nI_clamp (by omega)
    refine x_copyq 34 rfl d_Al_fastRemove_31 (xi3 115 rfl rfl) (xi2 189 rfl rfl) (xi2 188 rfl rfl) z_Sy k4 k4 (t0 := 6) (t1 := 6) rfl rfl (nI_pos (by omega)) (nI_pos (by omega)) (nI_pos (by omega)) (by rw [c1, c3]; omega) (by rw [c2, c3]; omega) (fun j hj y hy => ?_) (Nat.le_of_ble_eq_true rfl) (by decide) ?_
    · rw [c3] at hj
      rw [c1] at hy
      obtain ⟨m, fs, t1, t2, t3⟩ := g5 (i + 1 + j) (by omega)
      cases hy.symm.trans t2
      exact ⟨3, fs, _, by rw [q4 y (fun z => by rw [z, g1] at t3; cases t3)]; exact t3, rfl, b_Ms_Ob⟩
    · rw [c1, c2, c3]
      refine xE.fit (fin _ (va_cpy f f (i + 1) i (as.length - 1 - i)) q1 q2 (by rw [xset_ne _ _ hne]; exact k1) (xset_at _ _ _) (fun q s1 s2 => by rw [xset_ne _ _ s2]; exact q4 q s1) (fun j hj => ?_)) rfl
      by_cases z : j < i
      · rw [if_pos z, pk_cpy_out (Or.inl z)]
      · rw [if_neg z, pk_cpy_in (by omega) (by omega)]
        congr 1
        omega
theorem s_Al_remove (hX : xS X sb L xs tI tE mi) {a ed cap i m : Nat} {ii : Int32} {as : List Nat} (hii : ii = nI i) (hR : rAl X tE w a ed cap as) (hi : as[i]? = some m) (hc2 : cap < 2 ^ 26) (h : ∀ w', rAl X tE w' a ed cap (as.eraseIdx i) → w'.1 = w.1 → w'.2.1 = w.2.1 → (∀ q, q ≠ a → q ≠ ed → w'.2.2 q = w.2.2 q) → P (some (.ref m)) w') : xE (xGG X) 2 m_Al_remove 0 [(0, .ref a), (1, .int ii)] [] w P := by
  subst hii
  obtain ⟨⟨mc, g1⟩, g2, g3⟩ := hR
  have hlt : i < as.length := (List.getElem?_eq_some_iff.mp hi).1
  rcases g3 with ⟨hc0, -⟩ | ⟨hn2, f, g4, g5⟩
  · omega
  obtain ⟨m2, fs, t1, t2, t3⟩ := g5 i hlt
  cases hi.symm.trans t1
  refine x_iload_n 1 rfl d_Al_remove_0 rfl ?_
  refine x_aload_n 2 rfl d_Al_remove_1 rfl ?_
  refine x_get 5 rfl f_Al_48 d_Al_remove_2 g1 rfl ?_
  refine y_call 8 rfl [_, _] _ rfl d_Al_remove_5 c_Al_118 rfl (Nat.le_of_ble_eq_true rfl) (Nat.le_of_ble_eq_true rfl) (Nat.le_of_ble_eq_true rfl) (s_Os_checkIndex (nI_pos' (by omega)) (nI_lt hlt (by omega)) ?_)
  refine x_pop 9 rfl d_Al_remove_8 rfl ?_
  refine x_aload_n 10 rfl d_Al_remove_9 rfl ?_
  refine x_get 13 rfl f_Al_9 d_Al_remove_10 g1 rfl ?_
  refine x_astore_n 14 rfl d_Al_remove_13 (by decide) ?_
  refine x_aload_n 15 rfl d_Al_remove_14 rfl ?_
  refine x_iload_n 16 rfl d_Al_remove_15 rfl ?_
  refine x_aald 17 rfl d_Al_remove_16 g4 (t0 := 6) rfl (vp_in_nI (by omega) (by omega)) (by rw [nI_clamp (by omega)]; exact t2) ?_
  refine x_astore_n 18 rfl d_Al_remove_17 (by decide) ?_
  refine x_aload_n 19 rfl d_Al_remove_18 rfl ?_
  refine x_aload_n 20 rfl d_Al_remove_19 rfl ?_
  refine x_iload_n 21 rfl d_Al_remove_20 rfl ?_
  refine y_callV 24 rfl [_, _] _ rfl d_Al_remove_21 g1 rfl c_Al_144 rfl (Nat.le_of_ble_eq_true rfl) (Nat.le_of_ble_eq_true rfl) (Nat.le_of_ble_eq_true rfl) (s_Al_fastRemove (tE := tE) rfl g1 g2 hc2 g4 g5 hlt hn2 (fun w' h1 h2 h3 h4 => ?_))
  refine x_aload_n 25 rfl d_Al_remove_24 rfl ?_
  refine x_aret d_Al_remove_25 rfl (by first | exact Or.inl ⟨_, rfl⟩ | exact Or.inr ⟨_, rfl⟩) ?_
  exact h w' h1 h2 h3 h4
end AL
