/-! THE CODING OF THE CLASS -/
section CO
variable {X : xPar} {w : xW} {P : Option Value → xW → Prop}
theorem s_Co_leafOf {x kk : Int32} {a k : Nat} (hx : x = nI a) (hkk : kk = nI k) (ha : a < 256) (hk : k < 4) (h : P (some (.int (nI (cLf a k)))) w) : xE (xGG X) 0 m_Co_leafOf 0 [(0, .int kk), (1, .int x)] [] w P := by
  subst hx hkk
  refine x_iload_n 1 rfl d_Co_leafOf_0 rfl ?_
  refine x_sipush 4 rfl d_Co_leafOf_1 167 (by decide) ?_
  refine x_imul 5 rfl d_Co_leafOf_4 ?_
  refine x_bipush 7 rfl d_Co_leafOf_5 59 (by decide) ?_
  refine x_iload_n 8 rfl d_Co_leafOf_7 rfl ?_
  refine x_imul 9 rfl d_Co_leafOf_8 ?_
  refine x_iadd 10 rfl d_Co_leafOf_9 ?_
  refine x_sipush 13 rfl d_Co_leafOf_10 255 (by decide) ?_
  refine x_iand 14 rfl d_Co_leafOf_13 ?_
  refine x_iret d_Co_leafOf_14 rfl ?_
  rw [iLf ha hk]
  exact h
theorem s_Co_halfOf {xx yy : Int32} {x y : Nat} (hxx : xx = nI x) (hyy : yy = nI y) (hx : x < 256) (hy : y < 256) (h : P (some (.int (nI (cHf x y)))) w) : xE (xGG X) 0 m_Co_halfOf 0 [(0, .int xx), (1, .int yy)] [] w P := by
  subst hxx hyy
  refine x_sipush 3 rfl d_Co_halfOf_0 256 (by decide) ?_
  refine x_iload_n 4 rfl d_Co_halfOf_3 rfl ?_
  refine x_imul 5 rfl d_Co_halfOf_4 ?_
  refine x_iload_n 6 rfl d_Co_halfOf_5 rfl ?_
  refine x_iadd 7 rfl d_Co_halfOf_6 ?_
  refine x_ldc 9 rfl d_Co_halfOf_7 k_Co_7 ?_
  refine x_imul 10 rfl d_Co_halfOf_9 ?_
  refine x_sipush 13 rfl d_Co_halfOf_10 977 (by decide) ?_
  refine x_iadd 14 rfl d_Co_halfOf_13 ?_
  refine x_ldc 16 rfl d_Co_halfOf_14 k_Co_8 ?_
  refine x_iand 17 rfl d_Co_halfOf_16 ?_
  refine x_iret d_Co_halfOf_17 rfl ?_
  rw [iHf hx hy]
  exact h
theorem s_Co_topOf {xx yy : Int32} {x y : Nat} (hxx : xx = nI x) (hyy : yy = nI y) (h : P (some (.int (cRt x y))) w) : xE (xGG X) 0 m_Co_topOf 0 [(0, .int xx), (1, .int yy)] [] w P := by
  subst hxx hyy
  refine x_ldc 2 rfl d_Co_topOf_0 k_Co_9 ?_
  refine x_iload_n 3 rfl d_Co_topOf_2 rfl ?_
  refine x_imul 4 rfl d_Co_topOf_3 ?_
  refine x_iload_n 5 rfl d_Co_topOf_4 rfl ?_
  refine x_iadd 6 rfl d_Co_topOf_5 ?_
  refine x_ldc 8 rfl d_Co_topOf_6 k_Co_10 ?_
  refine x_imul 9 rfl d_Co_topOf_8 ?_
  refine x_bipush 11 rfl d_Co_topOf_9 7 (by decide) ?_
  refine x_iadd 12 rfl d_Co_topOf_11 ?_
  refine x_iret d_Co_topOf_12 rfl ?_
  rw [iRt]
  exact h
theorem s_Co_proposal {xx yy : Int32} {p q : Nat} (hxx : xx = nI p) (hyy : yy = nI q) (h : P (some (.int (nI (p + 256 * q)))) w) : xE (xGG X) 0 m_Co_proposal 0 [(0, .int xx), (1, .int yy)] [] w P := by
  subst hxx hyy
  refine x_iload_n 1 rfl d_Co_proposal_0 rfl ?_
  refine x_sipush 4 rfl d_Co_proposal_1 256 (by decide) ?_
  refine x_iload_n 5 rfl d_Co_proposal_4 rfl ?_
  refine x_imul 6 rfl d_Co_proposal_5 ?_
  refine x_iadd 7 rfl d_Co_proposal_6 ?_
  refine x_iret d_Co_proposal_7 rfl ?_
  rw [show (256 : Int32) = nI 256 from rfl, pk_mul, nI_add]
  exact h
theorem s_Co_product_loop {f x : Int32} : ∀ (n i : Nat) (s t c : Int32), c = nI i → i + n = 8 → P (some (.int (pIt f n i s t))) w → xE (xGG X) 0 m_Co_product 7 [(0, .int f), (1, .int x), (2, .int s), (3, .int t), (4, .int c)] [] w P := by
  intro n
  induction n with
  | zero =>
    intro i s t c hc0 hi h
    have hi8 : i = 8 := by omega
    subst hi8
    subst hc0
    refine x_iload 9 rfl d_Co_product_7 rfl ?_
    refine x_bipush 11 rfl d_Co_product_9 8 (by decide) ?_
    refine x_icmp_ge 57 14 rfl d_Co_product_11 (by decide) (fun hc => ?_) (fun hc => absurd (by decide) hc)
    refine x_iload_n 58 rfl d_Co_product_57 rfl ?_
    refine x_iret d_Co_product_58 rfl ?_
    exact h
  | succ n ih =>
    intro i s t c hc0 hi h
    subst hc0
    refine x_iload 9 rfl d_Co_product_7 rfl ?_
    refine x_bipush 11 rfl d_Co_product_9 8 (by decide) ?_
    refine x_icmp_ge 57 14 rfl d_Co_product_11 (by decide) (fun hc => absurd hc (nI_ge (a := i) (b := 8) (by omega) (by decide))) (fun hc => ?_)
    refine x_iload_n 15 rfl d_Co_product_14 rfl ?_
    refine x_iload 17 rfl d_Co_product_15 rfl ?_
    refine x_ishr 18 rfl d_Co_product_17 ?_
    refine x_iconst 19 rfl d_Co_product_18 1 (by decide) ?_
    refine x_iand 20 rfl d_Co_product_19 ?_
    refine x_iconst 21 rfl d_Co_product_20 1 (by decide) ?_
    refine x_icmp_ne 28 24 rfl d_Co_product_21 (by decide) (fun hc21 => ?_) (fun hc21 => ?_)
    · refine x_iload_n 29 rfl d_Co_product_28 rfl ?_
      refine x_bipush 31 rfl d_Co_product_29 127 (by decide) ?_
      refine x_icmp_le 47 34 rfl d_Co_product_31 (by decide) (fun hc31 => ?_) (fun hc31 => ?_)
      · refine x_iload_n 48 rfl d_Co_product_47 rfl ?_
        refine x_iconst 49 rfl d_Co_product_48 2 (by decide) ?_
        refine x_imul 50 rfl d_Co_product_49 ?_
        refine x_istore_n 51 rfl d_Co_product_50 (by decide) ?_
        refine x_iinc 54 rfl d_Co_product_51 rfl 1 (by decide) (by decide) ?_
        refine x_goto d_Co_product_54 7 (by decide) ?_
        (refine xE.fit (ih (i + 1) _ _ _ (nI_succ i).symm (by omega) ?_) rfl; simpa [pIt, hc21, hc31] using h)
      · refine x_iload_n 35 rfl d_Co_product_34 rfl ?_
        refine x_iconst 36 rfl d_Co_product_35 2 (by decide) ?_
        refine x_imul 37 rfl d_Co_product_36 ?_
        refine x_bipush 39 rfl d_Co_product_37 27 (by decide) ?_
        refine x_ixor 40 rfl d_Co_product_39 ?_
        refine x_sipush 43 rfl d_Co_product_40 255 (by decide) ?_
        refine x_iand 44 rfl d_Co_product_43 ?_
        refine x_goto d_Co_product_44 50 (by decide) ?_
        refine x_istore_n 51 rfl d_Co_product_50 (by decide) ?_
        refine x_iinc 54 rfl d_Co_product_51 rfl 1 (by decide) (by decide) ?_
        refine x_goto d_Co_product_54 7 (by decide) ?_
        (refine xE.fit (ih (i + 1) _ _ _ (nI_succ i).symm (by omega) ?_) rfl; simpa [pIt, hc21, hc31] using h)
    · refine x_iload_n 25 rfl d_Co_product_24 rfl ?_
      refine x_iload_n 26 rfl d_Co_product_25 rfl ?_
      refine x_ixor 27 rfl d_Co_product_26 ?_
      refine x_istore_n 28 rfl d_Co_product_27 (by decide) ?_
      refine x_iload_n 29 rfl d_Co_product_28 rfl ?_
      refine x_bipush 31 rfl d_Co_product_29 127 (by decide) ?_
      refine x_icmp_le 47 34 rfl d_Co_product_31 (by decide) (fun hc31 => ?_) (fun hc31 => ?_)
      · refine x_iload_n 48 rfl d_Co_product_47 rfl ?_
        refine x_iconst 49 rfl d_Co_product_48 2 (by decide) ?_
        refine x_imul 50 rfl d_Co_product_49 ?_
        refine x_istore_n 51 rfl d_Co_product_50 (by decide) ?_
        refine x_iinc 54 rfl d_Co_product_51 rfl 1 (by decide) (by decide) ?_
        refine x_goto d_Co_product_54 7 (by decide) ?_
        (refine xE.fit (ih (i + 1) _ _ _ (nI_succ i).symm (by omega) ?_) rfl; simpa [pIt, hc21, hc31] using h)
      · refine x_iload_n 35 rfl d_Co_product_34 rfl ?_
        refine x_iconst 36 rfl d_Co_product_35 2 (by decide) ?_
        refine x_imul 37 rfl d_Co_product_36 ?_
        refine x_bipush 39 rfl d_Co_product_37 27 (by decide) ?_
        refine x_ixor 40 rfl d_Co_product_39 ?_
        refine x_sipush 43 rfl d_Co_product_40 255 (by decide) ?_
        refine x_iand 44 rfl d_Co_product_43 ?_
        refine x_goto d_Co_product_44 50 (by decide) ?_
        refine x_istore_n 51 rfl d_Co_product_50 (by decide) ?_
        refine x_iinc 54 rfl d_Co_product_51 rfl 1 (by decide) (by decide) ?_
        refine x_goto d_Co_product_54 7 (by decide) ?_
        (refine xE.fit (ih (i + 1) _ _ _ (nI_succ i).symm (by omega) ?_) rfl; simpa [pIt, hc21, hc31] using h)
theorem s_Co_product {f x : Int32} (h : P (some (.int (pIt f 8 0 0 x))) w) : xE (xGG X) 0 m_Co_product 0 [(0, .int f), (1, .int x)] [] w P := by
  refine x_iconst 1 rfl d_Co_product_0 0 (by decide) ?_
  refine x_istore_n 2 rfl d_Co_product_1 (by decide) ?_
  refine x_iload_n 3 rfl d_Co_product_2 rfl ?_
  refine x_istore_n 4 rfl d_Co_product_3 (by decide) ?_
  refine x_iconst 5 rfl d_Co_product_4 0 (by decide) ?_
  refine x_istore 7 rfl d_Co_product_5 (by decide) ?_
  exact xE.fit (s_Co_product_loop (f := f) (x := x) 8 0 0 x 0 rfl rfl h) rfl
end CO
