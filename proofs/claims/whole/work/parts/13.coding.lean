/-! THE CODING OF THE CLASS, further -/
section CO2
variable {X : xPar} {w : xW} {P : Option Value → xW → Prop}
theorem s_Co_partOf {nn kk : Int32} {n k : Nat} (hnn : nn = nI n) (hkk : kk = nI k) (hn : n < 65536) (hk : k < 4) (h : P (some (.int (nI (cPt (n % 256) (n / 256) k)))) w) : xE (xGG X) 1 m_Co_partOf 0 [(0, .int nn), (1, .int kk)] [] w P := by
  subst hnn hkk
  refine x_iload_n 1 rfl d_Co_partOf_0 rfl ?_
  refine x_sipush 4 rfl d_Co_partOf_1 255 (by decide) ?_
  refine x_iand 5 rfl d_Co_partOf_4 ?_
  refine x_istore_n 6 rfl d_Co_partOf_5 (by decide) ?_
  refine x_iload_n 7 rfl d_Co_partOf_6 rfl ?_
  refine x_bipush 9 rfl d_Co_partOf_7 8 (by decide) ?_
  refine x_ishr 10 rfl d_Co_partOf_9 ?_
  refine x_sipush 13 rfl d_Co_partOf_10 255 (by decide) ?_
  refine x_iand 14 rfl d_Co_partOf_13 ?_
  refine x_istore_n 15 rfl d_Co_partOf_14 (by decide) ?_
  refine x_iload_n 16 rfl d_Co_partOf_15 rfl ?_
  refine x_iload_n 17 rfl d_Co_partOf_16 rfl ?_
  refine x_iload_n 18 rfl d_Co_partOf_17 rfl ?_
  refine x_iload_n 19 rfl d_Co_partOf_18 rfl ?_
  refine x_ixor 20 rfl d_Co_partOf_19 ?_
  refine y_call 23 rfl [_, _] _ rfl d_Co_partOf_20 c_Co_11 rfl (Nat.le_of_ble_eq_true rfl) (Nat.le_of_ble_eq_true rfl) (Nat.le_of_ble_eq_true rfl) (s_Co_product ?_)
  refine x_ixor 24 rfl d_Co_partOf_23 ?_
  refine x_iret d_Co_partOf_24 rfl ?_
  rw [iP hn, iQ hn, iPt (Nat.mod_lt _ (by decide)) (by omega) hk]
  exact h
theorem s_Co_rootOf {nn : Int32} {n : Nat} (hnn : nn = nI n) (hn : n < 65536) (h : P (some (.int (cRoot (n % 256) (n / 256)))) w) : xE (xGG X) 1 m_Co_rootOf 0 [(0, .int nn)] [] w P := by
  subst hnn
  have hp : n % 256 < 256 := Nat.mod_lt _ (by decide)
  have hq : n / 256 < 256 := by omega
  have e1 : (nI n &&& 255) ^^^ ((nI n &&& 255) ^^^ (nI n >>> ((8 : Int32) &&& 31) &&& 255)) = nI (cPt (n % 256) (n / 256) 1) := by
    rw [iP hn, iQ hn, nIx, nIx]; rfl
  have e2 : (nI n &&& 255) ^^^ pIt 2 8 0 0 ((nI n &&& 255) ^^^ (nI n >>> ((8 : Int32) &&& 31) &&& 255)) = nI (cPt (n % 256) (n / 256) 2) := by
    rw [iP hn, iQ hn]; exact iPt hp hq (by decide)
  have e3 : (nI n &&& 255) ^^^ pIt 3 8 0 0 ((nI n &&& 255) ^^^ (nI n >>> ((8 : Int32) &&& 31) &&& 255)) = nI (cPt (n % 256) (n / 256) 3) := by
    rw [iP hn, iQ hn]; exact iPt hp hq (by decide)
  have e0 : nI n &&& 255 = nI (cPt (n % 256) (n / 256) 0) := by rw [iP hn]; simp [cPt, cTm]
  refine x_iload_n 1 rfl d_Co_rootOf_0 rfl ?_
  refine x_sipush 4 rfl d_Co_rootOf_1 255 (by decide) ?_
  refine x_iand 5 rfl d_Co_rootOf_4 ?_
  refine x_istore_n 6 rfl d_Co_rootOf_5 (by decide) ?_
  refine x_iload_n 7 rfl d_Co_rootOf_6 rfl ?_
  refine x_iload_n 8 rfl d_Co_rootOf_7 rfl ?_
  refine x_bipush 10 rfl d_Co_rootOf_8 8 (by decide) ?_
  refine x_ishr 11 rfl d_Co_rootOf_10 ?_
  refine x_sipush 14 rfl d_Co_rootOf_11 255 (by decide) ?_
  refine x_iand 15 rfl d_Co_rootOf_14 ?_
  refine x_ixor 16 rfl d_Co_rootOf_15 ?_
  refine x_istore_n 17 rfl d_Co_rootOf_16 (by decide) ?_
  refine x_iconst 18 rfl d_Co_rootOf_17 0 (by decide) ?_
  refine x_iload_n 19 rfl d_Co_rootOf_18 rfl ?_
  refine y_call 22 rfl [_, _] _ rfl d_Co_rootOf_19 c_Co_17 rfl (Nat.le_of_ble_eq_true rfl) (Nat.le_of_ble_eq_true rfl) (Nat.le_of_ble_eq_true rfl) (s_Co_leafOf e0 (k := 0) rfl (cPt_lt hp hq (by decide)) (by decide) ?_)
  refine x_iconst 23 rfl d_Co_rootOf_22 1 (by decide) ?_
  refine x_iload_n 24 rfl d_Co_rootOf_23 rfl ?_
  refine x_iload_n 25 rfl d_Co_rootOf_24 rfl ?_
  refine x_ixor 26 rfl d_Co_rootOf_25 ?_
  refine y_call 29 rfl [_, _] _ rfl d_Co_rootOf_26 c_Co_17 rfl (Nat.le_of_ble_eq_true rfl) (Nat.le_of_ble_eq_true rfl) (Nat.le_of_ble_eq_true rfl) (s_Co_leafOf e1 (k := 1) rfl (cPt_lt hp hq (by decide)) (by decide) ?_)
  refine y_call 32 rfl [_, _] _ rfl d_Co_rootOf_29 c_Co_20 rfl (Nat.le_of_ble_eq_true rfl) (Nat.le_of_ble_eq_true rfl) (Nat.le_of_ble_eq_true rfl) (s_Co_halfOf rfl rfl (cLf_lt _ _) (cLf_lt _ _) ?_)
  refine x_istore_n 33 rfl d_Co_rootOf_32 (by decide) ?_
  refine x_iconst 34 rfl d_Co_rootOf_33 2 (by decide) ?_
  refine x_iload_n 35 rfl d_Co_rootOf_34 rfl ?_
  refine x_iconst 36 rfl d_Co_rootOf_35 2 (by decide) ?_
  refine x_iload_n 37 rfl d_Co_rootOf_36 rfl ?_
  refine y_call 40 rfl [_, _] _ rfl d_Co_rootOf_37 c_Co_11 rfl (Nat.le_of_ble_eq_true rfl) (Nat.le_of_ble_eq_true rfl) (Nat.le_of_ble_eq_true rfl) (s_Co_product ?_)
  refine x_ixor 41 rfl d_Co_rootOf_40 ?_
  refine y_call 44 rfl [_, _] _ rfl d_Co_rootOf_41 c_Co_17 rfl (Nat.le_of_ble_eq_true rfl) (Nat.le_of_ble_eq_true rfl) (Nat.le_of_ble_eq_true rfl) (s_Co_leafOf e2 (k := 2) rfl (cPt_lt hp hq (by decide)) (by decide) ?_)
  refine x_iconst 45 rfl d_Co_rootOf_44 3 (by decide) ?_
  refine x_iload_n 46 rfl d_Co_rootOf_45 rfl ?_
  refine x_iconst 47 rfl d_Co_rootOf_46 3 (by decide) ?_
  refine x_iload_n 48 rfl d_Co_rootOf_47 rfl ?_
  refine y_call 51 rfl [_, _] _ rfl d_Co_rootOf_48 c_Co_11 rfl (Nat.le_of_ble_eq_true rfl) (Nat.le_of_ble_eq_true rfl) (Nat.le_of_ble_eq_true rfl) (s_Co_product ?_)
  refine x_ixor 52 rfl d_Co_rootOf_51 ?_
  refine y_call 55 rfl [_, _] _ rfl d_Co_rootOf_52 c_Co_17 rfl (Nat.le_of_ble_eq_true rfl) (Nat.le_of_ble_eq_true rfl) (Nat.le_of_ble_eq_true rfl) (s_Co_leafOf e3 (k := 3) rfl (cPt_lt hp hq (by decide)) (by decide) ?_)
  refine y_call 58 rfl [_, _] _ rfl d_Co_rootOf_55 c_Co_20 rfl (Nat.le_of_ble_eq_true rfl) (Nat.le_of_ble_eq_true rfl) (Nat.le_of_ble_eq_true rfl) (s_Co_halfOf rfl rfl (cLf_lt _ _) (cLf_lt _ _) ?_)
  refine x_istore 60 rfl d_Co_rootOf_58 (by decide) ?_
  refine x_iload_n 61 rfl d_Co_rootOf_60 rfl ?_
  refine x_iload 63 rfl d_Co_rootOf_61 rfl ?_
  refine y_call 66 rfl [_, _] _ rfl d_Co_rootOf_63 c_Co_23 rfl (Nat.le_of_ble_eq_true rfl) (Nat.le_of_ble_eq_true rfl) (Nat.le_of_ble_eq_true rfl) (s_Co_topOf rfl rfl ?_)
  refine x_iret d_Co_rootOf_66 rfl ?_
  exact h
theorem s_Co_witnessOf {nn kk : Int32} {n k : Nat} (hnn : nn = nI n) (hkk : kk = nI k) (hn : n < 65536) (hk : k < 4) (h : P (some (.int (nI (cWn (n % 256) (n / 256) k)))) w) : xE (xGG X) 2 m_Co_witnessOf 0 [(0, .int nn), (1, .int kk)] [] w P := by
  subst hnn hkk
  have hp : n % 256 < 256 := Nat.mod_lt _ (by decide)
  have hq : n / 256 < 256 := by omega
  have hk1 := k1_lt k hk
  have fin : ∀ o : Nat, o = cOh (n % 256) (n / 256) k → nI (cPt (n % 256) (n / 256) k) + 256 * nI (cLf (cPt (n % 256) (n / 256) (k ^^^ 1)) (k ^^^ 1)) + 65536 * nI o = nI (cWn (n % 256) (n / 256) k) := by
    intro o ho
    rw [ho, show (256 : Int32) = nI 256 from rfl, show (65536 : Int32) = nI 65536 from rfl, pk_mul, pk_mul, nI_add, nI_add]
    rfl
  refine x_iload_n 1 rfl d_Co_witnessOf_0 rfl ?_
  refine x_iconst 2 rfl d_Co_witnessOf_1 1 (by decide) ?_
  refine x_ixor 3 rfl d_Co_witnessOf_2 ?_
  refine x_iload_n 4 rfl d_Co_witnessOf_3 rfl ?_
  refine x_iload_n 5 rfl d_Co_witnessOf_4 rfl ?_
  refine x_iconst 6 rfl d_Co_witnessOf_5 1 (by decide) ?_
  refine x_ixor 7 rfl d_Co_witnessOf_6 ?_
  refine y_call 10 rfl [_, _] _ rfl d_Co_witnessOf_7 c_Co_26 rfl (Nat.le_of_ble_eq_true rfl) (Nat.le_of_ble_eq_true rfl) (Nat.le_of_ble_eq_true rfl) (s_Co_partOf rfl (iK1 hk) hn hk1 ?_)
  refine y_call 13 rfl [_, _] _ rfl d_Co_witnessOf_10 c_Co_17 rfl (Nat.le_of_ble_eq_true rfl) (Nat.le_of_ble_eq_true rfl) (Nat.le_of_ble_eq_true rfl) (s_Co_leafOf rfl (iK1 hk) (cPt_lt hp hq hk1) hk1 ?_)
  refine x_istore_n 14 rfl d_Co_witnessOf_13 (by decide) ?_
  refine x_iload_n 15 rfl d_Co_witnessOf_14 rfl ?_
  refine x_iconst 16 rfl d_Co_witnessOf_15 2 (by decide) ?_
  refine x_icmp_ge 23 19 rfl d_Co_witnessOf_16 (by decide) (fun hc => ?_) (fun hc => ?_)
  · have h2 : 2 ≤ k := by
      by_cases z : 2 ≤ k
      · exact z
      · exact absurd hc (nI_ge (a := k) (b := 2) (by omega) (by decide))
    refine x_iconst 24 rfl d_Co_witnessOf_23 0 (by decide) ?_
    refine x_istore_n 25 rfl d_Co_witnessOf_24 (by decide) ?_
    refine x_iload_n 26 rfl d_Co_witnessOf_25 rfl ?_
    refine x_iload_n 27 rfl d_Co_witnessOf_26 rfl ?_
    refine x_iload_n 28 rfl d_Co_witnessOf_27 rfl ?_
    refine y_call 31 rfl [_, _] _ rfl d_Co_witnessOf_28 c_Co_26 rfl (Nat.le_of_ble_eq_true rfl) (Nat.le_of_ble_eq_true rfl) (Nat.le_of_ble_eq_true rfl) (s_Co_partOf (k := 0) rfl rfl hn (by decide) ?_)
    refine y_call 34 rfl [_, _] _ rfl d_Co_witnessOf_31 c_Co_17 rfl (Nat.le_of_ble_eq_true rfl) (Nat.le_of_ble_eq_true rfl) (Nat.le_of_ble_eq_true rfl) (s_Co_leafOf (k := 0) rfl rfl (cPt_lt hp hq (by decide)) (by decide) ?_)
    refine x_iload_n 35 rfl d_Co_witnessOf_34 rfl ?_
    refine x_iconst 36 rfl d_Co_witnessOf_35 1 (by decide) ?_
    refine x_iadd 37 rfl d_Co_witnessOf_36 ?_
    refine x_iload_n 38 rfl d_Co_witnessOf_37 rfl ?_
    refine x_iload_n 39 rfl d_Co_witnessOf_38 rfl ?_
    refine x_iconst 40 rfl d_Co_witnessOf_39 1 (by decide) ?_
    refine x_iadd 41 rfl d_Co_witnessOf_40 ?_
    refine y_call 44 rfl [_, _] _ rfl d_Co_witnessOf_41 c_Co_26 rfl (Nat.le_of_ble_eq_true rfl) (Nat.le_of_ble_eq_true rfl) (Nat.le_of_ble_eq_true rfl) (s_Co_partOf (k := 1) rfl rfl hn (by decide) ?_)
    refine y_call 47 rfl [_, _] _ rfl d_Co_witnessOf_44 c_Co_17 rfl (Nat.le_of_ble_eq_true rfl) (Nat.le_of_ble_eq_true rfl) (Nat.le_of_ble_eq_true rfl) (s_Co_leafOf (k := 1) rfl rfl (cPt_lt hp hq (by decide)) (by decide) ?_)
    refine y_call 50 rfl [_, _] _ rfl d_Co_witnessOf_47 c_Co_20 rfl (Nat.le_of_ble_eq_true rfl) (Nat.le_of_ble_eq_true rfl) (Nat.le_of_ble_eq_true rfl) (s_Co_halfOf rfl rfl (cLf_lt _ _) (cLf_lt _ _) ?_)
    refine x_istore 52 rfl d_Co_witnessOf_50 (by decide) ?_
    refine x_iload_n 53 rfl d_Co_witnessOf_52 rfl ?_
    refine x_iload_n 54 rfl d_Co_witnessOf_53 rfl ?_
    refine y_call 57 rfl [_, _] _ rfl d_Co_witnessOf_54 c_Co_26 rfl (Nat.le_of_ble_eq_true rfl) (Nat.le_of_ble_eq_true rfl) (Nat.le_of_ble_eq_true rfl) (s_Co_partOf rfl rfl hn hk ?_)
    refine x_sipush 60 rfl d_Co_witnessOf_57 256 (by decide) ?_
    refine x_iload_n 61 rfl d_Co_witnessOf_60 rfl ?_
    refine x_imul 62 rfl d_Co_witnessOf_61 ?_
    refine x_iadd 63 rfl d_Co_witnessOf_62 ?_
    refine x_ldc 65 rfl d_Co_witnessOf_63 k_Co_9 ?_
    refine x_iload 67 rfl d_Co_witnessOf_65 rfl ?_
    refine x_imul 68 rfl d_Co_witnessOf_67 ?_
    refine x_iadd 69 rfl d_Co_witnessOf_68 ?_
    refine x_iret d_Co_witnessOf_69 rfl ?_
    rw [fin _ (by simp only [cOh, if_neg (Nat.not_lt.mpr h2)])]
    exact h
  · have h2 : k < 2 := by
      by_cases z : k < 2
      · exact z
      · exact absurd (nI_le (a := 2) (b := k) (by omega) (by omega)) hc
    refine x_iconst 20 rfl d_Co_witnessOf_19 2 (by decide) ?_
    refine x_goto d_Co_witnessOf_20 24 (by decide) ?_
    refine x_istore_n 25 rfl d_Co_witnessOf_24 (by decide) ?_
    refine x_iload_n 26 rfl d_Co_witnessOf_25 rfl ?_
    refine x_iload_n 27 rfl d_Co_witnessOf_26 rfl ?_
    refine x_iload_n 28 rfl d_Co_witnessOf_27 rfl ?_
    refine y_call 31 rfl [_, _] _ rfl d_Co_witnessOf_28 c_Co_26 rfl (Nat.le_of_ble_eq_true rfl) (Nat.le_of_ble_eq_true rfl) (Nat.le_of_ble_eq_true rfl) (s_Co_partOf (k := 2) rfl rfl hn (by decide) ?_)
    refine y_call 34 rfl [_, _] _ rfl d_Co_witnessOf_31 c_Co_17 rfl (Nat.le_of_ble_eq_true rfl) (Nat.le_of_ble_eq_true rfl) (Nat.le_of_ble_eq_true rfl) (s_Co_leafOf (k := 2) rfl rfl (cPt_lt hp hq (by decide)) (by decide) ?_)
    refine x_iload_n 35 rfl d_Co_witnessOf_34 rfl ?_
    refine x_iconst 36 rfl d_Co_witnessOf_35 1 (by decide) ?_
    refine x_iadd 37 rfl d_Co_witnessOf_36 ?_
    refine x_iload_n 38 rfl d_Co_witnessOf_37 rfl ?_
    refine x_iload_n 39 rfl d_Co_witnessOf_38 rfl ?_
    refine x_iconst 40 rfl d_Co_witnessOf_39 1 (by decide) ?_
    refine x_iadd 41 rfl d_Co_witnessOf_40 ?_
    refine y_call 44 rfl [_, _] _ rfl d_Co_witnessOf_41 c_Co_26 rfl (Nat.le_of_ble_eq_true rfl) (Nat.le_of_ble_eq_true rfl) (Nat.le_of_ble_eq_true rfl) (s_Co_partOf (k := 3) rfl rfl hn (by decide) ?_)
    refine y_call 47 rfl [_, _] _ rfl d_Co_witnessOf_44 c_Co_17 rfl (Nat.le_of_ble_eq_true rfl) (Nat.le_of_ble_eq_true rfl) (Nat.le_of_ble_eq_true rfl) (s_Co_leafOf (k := 3) rfl rfl (cPt_lt hp hq (by decide)) (by decide) ?_)
    refine y_call 50 rfl [_, _] _ rfl d_Co_witnessOf_47 c_Co_20 rfl (Nat.le_of_ble_eq_true rfl) (Nat.le_of_ble_eq_true rfl) (Nat.le_of_ble_eq_true rfl) (s_Co_halfOf rfl rfl (cLf_lt _ _) (cLf_lt _ _) ?_)
    refine x_istore 52 rfl d_Co_witnessOf_50 (by decide) ?_
    refine x_iload_n 53 rfl d_Co_witnessOf_52 rfl ?_
    refine x_iload_n 54 rfl d_Co_witnessOf_53 rfl ?_
    refine y_call 57 rfl [_, _] _ rfl d_Co_witnessOf_54 c_Co_26 rfl (Nat.le_of_ble_eq_true rfl) (Nat.le_of_ble_eq_true rfl) (Nat.le_of_ble_eq_true rfl) (s_Co_partOf rfl rfl hn hk ?_)
    refine x_sipush 60 rfl d_Co_witnessOf_57 256 (by decide) ?_
    refine x_iload_n 61 rfl d_Co_witnessOf_60 rfl ?_
    refine x_imul 62 rfl d_Co_witnessOf_61 ?_
    refine x_iadd 63 rfl d_Co_witnessOf_62 ?_
    refine x_ldc 65 rfl d_Co_witnessOf_63 k_Co_9 ?_
    refine x_iload 67 rfl d_Co_witnessOf_65 rfl ?_
    refine x_imul 68 rfl d_Co_witnessOf_67 ?_
    refine x_iadd 69 rfl d_Co_witnessOf_68 ?_
    refine x_iret d_Co_witnessOf_69 rfl ?_
    rw [fin _ (by simp only [cOh, if_pos h2])]
    exact h
theorem s_Co_isRight {kk root ww : Int32} {k u : Nat} (hkk : kk = nI k) (hww : ww = nI u) (hk : k < 4) (hu : u < 2 ^ 32) (h : P (some (.int (nB (cRight root u k)))) w) : xE (xGG X) 1 m_Co_isRight 0 [(0, .int kk), (1, .int root), (2, .int ww)] [] w P := by
  subst hkk hww
  have e0 : nI u &&& 255 = nI (u % 256) := i255 hu
  refine x_iload_n 1 rfl d_Co_isRight_0 rfl ?_
  refine x_iload_n 2 rfl d_Co_isRight_1 rfl ?_
  refine x_sipush 5 rfl d_Co_isRight_2 255 (by decide) ?_
  refine x_iand 6 rfl d_Co_isRight_5 ?_
  refine y_call 9 rfl [_, _] _ rfl d_Co_isRight_6 c_Co_17 rfl (Nat.le_of_ble_eq_true rfl) (Nat.le_of_ble_eq_true rfl) (Nat.le_of_ble_eq_true rfl) (s_Co_leafOf e0 rfl (Nat.mod_lt _ (by decide)) hk ?_)
  refine x_istore_n 10 rfl d_Co_isRight_9 (by decide) ?_
  refine x_iload_n 11 rfl d_Co_isRight_10 rfl ?_
  refine x_bipush 13 rfl d_Co_isRight_11 8 (by decide) ?_
  refine x_iushr 14 rfl d_Co_isRight_13 ?_
  refine x_sipush 17 rfl d_Co_isRight_14 255 (by decide) ?_
  refine x_iand 18 rfl d_Co_isRight_17 ?_
  refine x_istore 20 rfl d_Co_isRight_18 (by decide) ?_
  refine x_iload_n 21 rfl d_Co_isRight_20 rfl ?_
  refine x_bipush 23 rfl d_Co_isRight_21 16 (by decide) ?_
  refine x_iushr 24 rfl d_Co_isRight_23 ?_
  refine x_istore 26 rfl d_Co_isRight_24 (by decide) ?_
  refine x_iload_n 27 rfl d_Co_isRight_26 rfl ?_
  refine x_iconst 28 rfl d_Co_isRight_27 1 (by decide) ?_
  refine x_iand 29 rfl d_Co_isRight_28 ?_
  rw [iU8 hu, iU16 hu, iKa k hk]
  have key : ∀ nr : Nat, nr = cNr u k → xE (xGG X) 1 m_Co_isRight 49 [(0, .int (nI k)), (1, .int root), (5, .int (nI (u / 65536))), (6, .int (nI nr))] [] w P := by
    intro nr hnr
    refine x_iload_n 50 rfl d_Co_isRight_49 rfl ?_
    refine x_iload_n 51 rfl d_Co_isRight_50 rfl ?_
    refine x_iconst 52 rfl d_Co_isRight_51 2 (by decide) ?_
    refine x_icmp_ge 65 55 rfl d_Co_isRight_52 (by decide) (fun hc => ?_) (fun hc => ?_)
    · have h2 : 2 ≤ k := by
        by_cases z : 2 ≤ k
        · exact z
        · exact absurd hc (nI_ge (a := k) (b := 2) (by omega) (by decide))
      refine x_iload 67 rfl d_Co_isRight_65 rfl ?_
      refine x_iload 69 rfl d_Co_isRight_67 rfl ?_
      refine y_call 72 rfl [_, _] _ rfl d_Co_isRight_69 c_Co_23 rfl (Nat.le_of_ble_eq_true rfl) (Nat.le_of_ble_eq_true rfl) (Nat.le_of_ble_eq_true rfl) (s_Co_topOf rfl rfl ?_)
      refine x_icmp_ne 79 75 rfl d_Co_isRight_72 (by decide) (fun hc => ?_) (fun hc => ?_)
      · refine x_iconst 80 rfl d_Co_isRight_79 0 (by decide) ?_
        refine x_zret d_Co_isRight_80 rfl (by decide) ?_
        have : cRight root u k = false := by simp [cRight, Nat.not_lt.mpr h2, ← hnr, hc]
        rw [this] at h
        exact h
      · refine x_iconst 76 rfl d_Co_isRight_75 1 (by decide) ?_
        refine x_goto d_Co_isRight_76 80 (by decide) ?_
        refine x_zret d_Co_isRight_80 rfl (by decide) ?_
        have : cRight root u k = true := by simp [cRight, Nat.not_lt.mpr h2, ← hnr, hc]
        rw [this] at h
        exact h
    · have h2 : k < 2 := by
        by_cases z : k < 2
        · exact z
        · exact absurd (nI_le (a := 2) (b := k) (by omega) (by omega)) hc
      refine x_iload 57 rfl d_Co_isRight_55 rfl ?_
      refine x_iload 59 rfl d_Co_isRight_57 rfl ?_
      refine y_call 62 rfl [_, _] _ rfl d_Co_isRight_59 c_Co_23 rfl (Nat.le_of_ble_eq_true rfl) (Nat.le_of_ble_eq_true rfl) (Nat.le_of_ble_eq_true rfl) (s_Co_topOf rfl rfl ?_)
      refine x_goto d_Co_isRight_62 72 (by decide) ?_
      refine x_icmp_ne 79 75 rfl d_Co_isRight_72 (by decide) (fun hc => ?_) (fun hc => ?_)
      · refine x_iconst 80 rfl d_Co_isRight_79 0 (by decide) ?_
        refine x_zret d_Co_isRight_80 rfl (by decide) ?_
        have : cRight root u k = false := by simp [cRight, h2, ← hnr, hc]
        rw [this] at h
        exact h
      · refine x_iconst 76 rfl d_Co_isRight_75 1 (by decide) ?_
        refine x_goto d_Co_isRight_76 80 (by decide) ?_
        refine x_zret d_Co_isRight_80 rfl (by decide) ?_
        have : cRight root u k = true := by simp [cRight, h2, ← hnr, hc]
        rw [this] at h
        exact h
  refine x_if_ne 41 32 rfl d_Co_isRight_29 (by decide) (fun hc => ?_) (fun hc => ?_)
  · have h2 : ¬ k % 2 = 0 := fun z => hc (by rw [z]; rfl)
    refine x_iload 43 rfl d_Co_isRight_41 rfl ?_
    refine x_iload_n 44 rfl d_Co_isRight_43 rfl ?_
    refine y_call 47 rfl [_, _] _ rfl d_Co_isRight_44 c_Co_20 rfl (Nat.le_of_ble_eq_true rfl) (Nat.le_of_ble_eq_true rfl) (Nat.le_of_ble_eq_true rfl) (s_Co_halfOf rfl rfl (Nat.mod_lt _ (by decide)) (cLf_lt _ _) ?_)
    refine x_istore 49 rfl d_Co_isRight_47 (by decide) ?_
    exact xE.fit (key _ (by simp only [cNr, if_neg h2])) rfl
  · have h2 : k % 2 = 0 := by
      by_cases z : k % 2 = 0
      · exact z
      · exact absurd hc (nI_ne0 (by omega) (by omega))
    refine x_iload_n 33 rfl d_Co_isRight_32 rfl ?_
    refine x_iload 35 rfl d_Co_isRight_33 rfl ?_
    refine y_call 38 rfl [_, _] _ rfl d_Co_isRight_35 c_Co_20 rfl (Nat.le_of_ble_eq_true rfl) (Nat.le_of_ble_eq_true rfl) (Nat.le_of_ble_eq_true rfl) (s_Co_halfOf rfl rfl (cLf_lt _ _) (Nat.mod_lt _ (by decide)) ?_)
    refine x_goto d_Co_isRight_38 47 (by decide) ?_
    refine x_istore 49 rfl d_Co_isRight_47 (by decide) ?_
    exact xE.fit (key _ (by simp only [cNr, if_pos h2])) rfl
end CO2
