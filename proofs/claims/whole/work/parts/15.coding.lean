/-! THE REST OF THE CLASS'S CODING, SMALL STATIC METHODS -/
theorem iInv {k l : Nat} (hk : k < 4) (hl : l < 4) : (nI k ^^^ nI l) &&& 3 = nI (k ^^^ l) := by
  rw [nIx]
  exact (by decide +kernel : ∀ k, k < 4 → ∀ l, l < 4 → nI (k ^^^ l) &&& 3 = nI (k ^^^ l)) k hk l hl
theorem kl_lt : ∀ k, k < 4 → ∀ l, l < 4 → k ≠ l → 0 < k ^^^ l ∧ k ^^^ l < 4 := by decide +kernel
theorem f_inv {X : xPar} : Cond.fieldLink "EpochLedger$Coding" 29 "EpochLedger$Coding" "INVERSES" "[I" ∈ xws (xGG X) := xi3 8 rfl rfl
def cPop (n : Nat) : Nat := n % 2 + n / 2 % 2 + n / 4 % 2 + n / 8 % 2
theorem cPop_le (n : Nat) : cPop n ≤ 4 := by unfold cPop; omega
section CO3
variable {X : xPar} {sb L : Nat} {xs : Nat → Int32} {tI tE mi : Nat} {w : xW} {P : Option Value → xW → Prop}
theorem s_Co_proposalWith (hX : xS X sb L xs tI tE mi) {kk xx ll yy : Int32} {k x l y : Nat} (hkk : kk = nI k) (hxx : xx = nI x) (hll : ll = nI l) (hyy : yy = nI y) (hk : k < 4) (hl : l < 4) (hne : k ≠ l) (hx : x < 256) (hy : y < 256) (h : P (some (.int (nI (cSv k x l y)))) w) : xE (xGG X) 1 m_Co_proposalWith 0 [(0, .int kk), (1, .int xx), (2, .int ll), (3, .int yy)] [] w P := by
  subst hkk hxx hll hyy
  obtain ⟨h1, h2⟩ := kl_lt k hk l hl hne
  have hdv := cDv_ok (k ^^^ l) h2 h1 (x ^^^ y) (x_lt hx hy)
  have e1 : pIt (nI (cIv (k ^^^ l))) 8 0 0 (nI (x ^^^ y)) = nI (cDv (k ^^^ l) (x ^^^ y)) := (nI_cUn _).symm
  refine x_gets 3 rfl d_Co_proposalWith_0 f_inv (fun U H z => (hX U H z).2.1) ?_
  refine x_iload_n 4 rfl d_Co_proposalWith_3 rfl ?_
  refine x_iload_n 5 rfl d_Co_proposalWith_4 rfl ?_
  refine x_ixor 6 rfl d_Co_proposalWith_5 ?_
  refine x_iconst 7 rfl d_Co_proposalWith_6 3 (by decide) ?_
  refine x_iand 8 rfl d_Co_proposalWith_7 ?_
  rw [iInv hk hl]
  refine x_iaT 9 rfl d_Co_proposalWith_8 (fun U H z => (hX U H z).2.2.1) (vp_in_nI h2 (by decide)) rfl ?_
  rw [nI_clamp (Nat.lt_trans h2 (by decide))]
  refine x_iload_n 10 rfl d_Co_proposalWith_9 rfl ?_
  refine x_iload_n 11 rfl d_Co_proposalWith_10 rfl ?_
  refine x_ixor 12 rfl d_Co_proposalWith_11 ?_
  rw [nIx]
  refine y_call 15 rfl [_, _] _ rfl d_Co_proposalWith_12 c_Co_11 rfl (Nat.le_of_ble_eq_true rfl) (Nat.le_of_ble_eq_true rfl) (Nat.le_of_ble_eq_true rfl) (s_Co_product ?_)
  refine x_istore 17 rfl d_Co_proposalWith_15 (by decide) ?_
  refine x_iload_n 18 rfl d_Co_proposalWith_17 rfl ?_
  refine x_iload_n 19 rfl d_Co_proposalWith_18 rfl ?_
  refine x_iload 21 rfl d_Co_proposalWith_19 rfl ?_
  rw [e1]
  refine y_call 24 rfl [_, _] _ rfl d_Co_proposalWith_21 c_Co_11 rfl (Nat.le_of_ble_eq_true rfl) (Nat.le_of_ble_eq_true rfl) (Nat.le_of_ble_eq_true rfl) (s_Co_product ?_)
  rw [iTm hk hdv.1]
  refine x_ixor 25 rfl d_Co_proposalWith_24 ?_
  refine x_istore 27 rfl d_Co_proposalWith_25 (by decide) ?_
  refine x_iload 29 rfl d_Co_proposalWith_27 rfl ?_
  refine x_iload 31 rfl d_Co_proposalWith_29 rfl ?_
  refine x_iload 33 rfl d_Co_proposalWith_31 rfl ?_
  refine x_ixor 34 rfl d_Co_proposalWith_33 ?_
  refine y_call 37 rfl [_, _] _ rfl d_Co_proposalWith_34 c_Co_33 rfl (Nat.le_of_ble_eq_true rfl) (Nat.le_of_ble_eq_true rfl) (Nat.le_of_ble_eq_true rfl) (s_Co_proposal (nIx _ _) (by rw [nIx, nIx]) ?_)
  refine x_iret d_Co_proposalWith_37 rfl ?_
  exact h
theorem s_It_bitCount {xx : Int32} {n : Nat} (hxx : xx = nI n) (hn : n < 16) (h : P (some (.int (nI (cPop n)))) w) : xE (xGG X) 0 m_It_bitCount 0 [(0, .int xx)] [] w P := by
  subst hxx
  refine x_iload_n 1 rfl d_It_bitCount_0 rfl ?_
  refine x_iload_n 2 rfl d_It_bitCount_1 rfl ?_
  refine x_iconst 3 rfl d_It_bitCount_2 1 (by decide) ?_
  refine x_iushr 4 rfl d_It_bitCount_3 ?_
  refine x_ldcw 7 rfl d_It_bitCount_4 k_It_265 ?_
  refine x_iand 8 rfl d_It_bitCount_7 ?_
  refine x_isub 9 rfl d_It_bitCount_8 ?_
  refine x_istore_n 10 rfl d_It_bitCount_9 (by decide) ?_
  refine x_iload_n 11 rfl d_It_bitCount_10 rfl ?_
  refine x_ldcw 14 rfl d_It_bitCount_11 k_It_266 ?_
  refine x_iand 15 rfl d_It_bitCount_14 ?_
  refine x_iload_n 16 rfl d_It_bitCount_15 rfl ?_
  refine x_iconst 17 rfl d_It_bitCount_16 2 (by decide) ?_
  refine x_iushr 18 rfl d_It_bitCount_17 ?_
  refine x_ldcw 21 rfl d_It_bitCount_18 k_It_266 ?_
  refine x_iand 22 rfl d_It_bitCount_21 ?_
  refine x_iadd 23 rfl d_It_bitCount_22 ?_
  refine x_istore_n 24 rfl d_It_bitCount_23 (by decide) ?_
  refine x_iload_n 25 rfl d_It_bitCount_24 rfl ?_
  refine x_iload_n 26 rfl d_It_bitCount_25 rfl ?_
  refine x_iconst 27 rfl d_It_bitCount_26 4 (by decide) ?_
  refine x_iushr 28 rfl d_It_bitCount_27 ?_
  refine x_iadd 29 rfl d_It_bitCount_28 ?_
  refine x_ldcw 32 rfl d_It_bitCount_29 k_It_267 ?_
  refine x_iand 33 rfl d_It_bitCount_32 ?_
  refine x_istore_n 34 rfl d_It_bitCount_33 (by decide) ?_
  refine x_iload_n 35 rfl d_It_bitCount_34 rfl ?_
  refine x_iload_n 36 rfl d_It_bitCount_35 rfl ?_
  refine x_bipush 38 rfl d_It_bitCount_36 8 (by decide) ?_
  refine x_iushr 39 rfl d_It_bitCount_38 ?_
  refine x_iadd 40 rfl d_It_bitCount_39 ?_
  refine x_istore_n 41 rfl d_It_bitCount_40 (by decide) ?_
  refine x_iload_n 42 rfl d_It_bitCount_41 rfl ?_
  refine x_iload_n 43 rfl d_It_bitCount_42 rfl ?_
  refine x_bipush 45 rfl d_It_bitCount_43 16 (by decide) ?_
  refine x_iushr 46 rfl d_It_bitCount_45 ?_
  refine x_iadd 47 rfl d_It_bitCount_46 ?_
  refine x_istore_n 48 rfl d_It_bitCount_47 (by decide) ?_
  refine x_iload_n 49 rfl d_It_bitCount_48 rfl ?_
  refine x_bipush 51 rfl d_It_bitCount_49 63 (by decide) ?_
  refine x_iand 52 rfl d_It_bitCount_51 ?_
  refine x_iret d_It_bitCount_52 rfl ?_
  have key : ∀ n, n < 16 → (fun x : Int32 => (fun x : Int32 => (fun x : Int32 => (fun x : Int32 => (fun x : Int32 => x &&& 63) (x + (x.toUInt32 >>> ((16 : Int32).toUInt32 &&& Int32.toUInt32 31)).toInt32)) (x + (x.toUInt32 >>> ((8 : Int32).toUInt32 &&& Int32.toUInt32 31)).toInt32)) ((x + (x.toUInt32 >>> ((4 : Int32).toUInt32 &&& Int32.toUInt32 31)).toInt32) &&& 252645135)) ((x &&& 858993459) + ((x.toUInt32 >>> ((2 : Int32).toUInt32 &&& Int32.toUInt32 31)).toInt32 &&& 858993459))) (nI n - (((nI n).toUInt32 >>> ((1 : Int32).toUInt32 &&& Int32.toUInt32 31)).toInt32 &&& 1431655765)) = nI (cPop n) := by decide +kernel
  have k2 := key n hn
  dsimp only at k2
  rw [k2]
  exact h
theorem s_El_isIn {x lo hi : Int32} (h : P (some (.int (nB (decide (lo ≤ x ∧ x ≤ hi))))) w) : xE (xGG X) 0 m_El_isIn 0 [(0, .int x), (1, .int lo), (2, .int hi)] [] w P := by
  refine x_iload_n 1 rfl d_El_isIn_0 rfl ?_
  refine x_iload_n 2 rfl d_El_isIn_1 rfl ?_
  refine x_icmp_lt 14 5 rfl d_El_isIn_2 (by decide) (fun hc => ?_) (fun hc => ?_)
  · refine x_iconst 15 rfl d_El_isIn_14 0 (by decide) ?_
    refine x_zret d_El_isIn_15 rfl (by decide) ?_
    rw [show decide (lo ≤ x ∧ x ≤ hi) = false from decide_eq_false (fun z => absurd z.1 (Int32.not_le.mpr hc))] at h
    exact h
  · refine x_iload_n 6 rfl d_El_isIn_5 rfl ?_
    refine x_iload_n 7 rfl d_El_isIn_6 rfl ?_
    refine x_icmp_gt 14 10 rfl d_El_isIn_7 (by decide) (fun hc2 => ?_) (fun hc2 => ?_)
    · refine x_iconst 15 rfl d_El_isIn_14 0 (by decide) ?_
      refine x_zret d_El_isIn_15 rfl (by decide) ?_
      rw [show decide (lo ≤ x ∧ x ≤ hi) = false from decide_eq_false (fun z => absurd z.2 (Int32.not_le.mpr hc2))] at h
      exact h
    · refine x_iconst 11 rfl d_El_isIn_10 1 (by decide) ?_
      refine x_goto d_El_isIn_11 15 (by decide) ?_
      refine x_zret d_El_isIn_15 rfl (by decide) ?_
      rw [show decide (lo ≤ x ∧ x ≤ hi) = true from decide_eq_true ⟨Int32.not_lt.mp hc, Int32.not_lt.mp hc2⟩] at h
      exact h
theorem s_El_isNode {x : Int32} (h : P (some (.int (nB (decide (0 ≤ x ∧ x ≤ 3))))) w) : xE (xGG X) 1 m_El_isNode 0 [(0, .int x)] [] w P := by
  refine x_iload_n 1 rfl d_El_isNode_0 rfl ?_
  refine x_iconst 2 rfl d_El_isNode_1 0 (by decide) ?_
  refine x_iconst 3 rfl d_El_isNode_2 3 (by decide) ?_
  refine y_call 6 rfl [_, _, _] _ rfl d_El_isNode_3 c_El_34 rfl (Nat.le_of_ble_eq_true rfl) (Nat.le_of_ble_eq_true rfl) (Nat.le_of_ble_eq_true rfl) (s_El_isIn ?_)
  refine x_zret d_El_isNode_6 rfl (nB_ok _) ?_
  exact h
theorem s_El_isEpoch {x : Int32} (h : P (some (.int (nB (decide (0 ≤ x ∧ x ≤ 3))))) w) : xE (xGG X) 1 m_El_isEpoch 0 [(0, .int x)] [] w P := by
  refine x_iload_n 1 rfl d_El_isEpoch_0 rfl ?_
  refine x_iconst 2 rfl d_El_isEpoch_1 0 (by decide) ?_
  refine x_iconst 3 rfl d_El_isEpoch_2 3 (by decide) ?_
  refine y_call 6 rfl [_, _, _] _ rfl d_El_isEpoch_3 c_El_34 rfl (Nat.le_of_ble_eq_true rfl) (Nat.le_of_ble_eq_true rfl) (Nat.le_of_ble_eq_true rfl) (s_El_isIn ?_)
  refine x_zret d_El_isEpoch_6 rfl (nB_ok _) ?_
  exact h
theorem s_El_isRound {x : Int32} (h : P (some (.int (nB (decide (0 ≤ x ∧ x ≤ 5))))) w) : xE (xGG X) 1 m_El_isRound 0 [(0, .int x)] [] w P := by
  refine x_iload_n 1 rfl d_El_isRound_0 rfl ?_
  refine x_iconst 2 rfl d_El_isRound_1 0 (by decide) ?_
  refine x_iconst 3 rfl d_El_isRound_2 5 (by decide) ?_
  refine y_call 6 rfl [_, _, _] _ rfl d_El_isRound_3 c_El_34 rfl (Nat.le_of_ble_eq_true rfl) (Nat.le_of_ble_eq_true rfl) (Nat.le_of_ble_eq_true rfl) (s_El_isIn ?_)
  refine x_zret d_El_isRound_6 rfl (nB_ok _) ?_
  exact h
theorem s_El_tossOf {t ee ii rr : Int32} {e i r : Nat} (hee : ee = nI e) (hii : ii = nI i) (hrr : rr = nI r) (he : e < 4) (hi : i < 4) (hr : r < 6) (h : P (some (.int (nI (cCoin t e i r)))) w) : xE (xGG X) 0 m_El_tossOf 0 [(0, .int t), (1, .int ee), (2, .int ii), (3, .int rr)] [] w P := by
  subst hee hii hrr
  refine x_iload_n 1 rfl d_El_tossOf_0 rfl ?_
  refine x_iload_n 2 rfl d_El_tossOf_1 rfl ?_
  refine x_iconst 3 rfl d_El_tossOf_2 4 (by decide) ?_
  refine x_imul 4 rfl d_El_tossOf_3 ?_
  refine x_bipush 6 rfl d_El_tossOf_4 6 (by decide) ?_
  refine x_imul 7 rfl d_El_tossOf_6 ?_
  refine x_iload_n 8 rfl d_El_tossOf_7 rfl ?_
  refine x_bipush 10 rfl d_El_tossOf_8 6 (by decide) ?_
  refine x_imul 11 rfl d_El_tossOf_10 ?_
  refine x_iadd 12 rfl d_El_tossOf_11 ?_
  refine x_iload_n 13 rfl d_El_tossOf_12 rfl ?_
  refine x_iadd 14 rfl d_El_tossOf_13 ?_
  refine x_bipush 16 rfl d_El_tossOf_14 31 (by decide) ?_
  refine x_irem 17 rfl d_El_tossOf_16 (by decide) ?_
  refine x_iushr 18 rfl d_El_tossOf_17 ?_
  refine x_iconst 19 rfl d_El_tossOf_18 1 (by decide) ?_
  refine x_iand 20 rfl d_El_tossOf_19 ?_
  refine x_iret d_El_tossOf_20 rfl ?_
  rw [show (4 : Int32) = nI 4 from rfl, show (6 : Int32) = nI 6 from rfl, pk_mul, pk_mul, pk_mul, nI_add, nI_add, show e * 4 * 6 + i * 6 + r = 24 * e + 6 * i + r by omega, iNn he hi hr, iCoin]
  exact h
end CO3
/-! THE REFERENCE'S CODING -/
section MC
variable {X : xPar} {w : xW} {P : Option Value → xW → Prop}
theorem s_Mo_isNode {x : Int32} (h : P (some (.int (nB (decide (0 ≤ x ∧ x ≤ 3))))) w) : xE (xGG X) 0 m_Mo_isNode 0 [(0, .int x)] [] w P := by
  refine x_iload_n 1 rfl d_Mo_isNode_0 rfl ?_
  refine x_if_lt 13 4 rfl d_Mo_isNode_1 (by decide) (fun hc => ?_) (fun hc => ?_)
  · refine x_iconst 14 rfl d_Mo_isNode_13 0 (by decide) ?_
    refine x_zret d_Mo_isNode_14 rfl (by decide) ?_
    rw [show decide (0 ≤ x ∧ x ≤ 3) = false from decide_eq_false (fun z => absurd z.1 (Int32.not_le.mpr hc))] at h
    exact h
  · refine x_iload_n 5 rfl d_Mo_isNode_4 rfl ?_
    refine x_iconst 6 rfl d_Mo_isNode_5 3 (by decide) ?_
    refine x_icmp_gt 13 9 rfl d_Mo_isNode_6 (by decide) (fun hc2 => ?_) (fun hc2 => ?_)
    · refine x_iconst 14 rfl d_Mo_isNode_13 0 (by decide) ?_
      refine x_zret d_Mo_isNode_14 rfl (by decide) ?_
      rw [show decide (0 ≤ x ∧ x ≤ 3) = false from decide_eq_false (fun z => absurd z.2 (Int32.not_le.mpr hc2))] at h
      exact h
    · refine x_iconst 10 rfl d_Mo_isNode_9 1 (by decide) ?_
      refine x_goto d_Mo_isNode_10 14 (by decide) ?_
      refine x_zret d_Mo_isNode_14 rfl (by decide) ?_
      rw [show decide (0 ≤ x ∧ x ≤ 3) = true from decide_eq_true ⟨Int32.not_lt.mp hc, Int32.not_lt.mp hc2⟩] at h
      exact h
def tI (k b : Int32) : Int32 := if k = 0 then 0 else if k = 1 then b else if k = 2 then (if b ≤ 127 then 2 * b else (2 * b ^^^ 27) &&& 255) else (if b ≤ 127 then 2 * b else (2 * b ^^^ 27) &&& 255) ^^^ b
theorem tI_ok : ∀ k, k < 4 → ∀ b, b < 256 → tI (nI k) (nI b) = nI (cTm k b) := by decide +kernel
theorem s_Mo_times {kk bb : Int32} {k b : Nat} (hkk : kk = nI k) (hbb : bb = nI b) (hk : k < 4) (hb : b < 256) (h : P (some (.int (nI (cTm k b)))) w) : xE (xGG X) 0 m_Mo_times 0 [(0, .int kk), (1, .int bb)] [] w P := by
  have ht := tI_ok k hk b hb
  rw [← hkk, ← hbb] at ht
  rw [← ht] at h
  clear ht hkk hbb
  refine x_iload_n 1 rfl d_Mo_times_0 rfl ?_
  refine x_bipush 3 rfl d_Mo_times_1 127 (by decide) ?_
  refine x_icmp_le 19 6 rfl d_Mo_times_3 (by decide) (fun hc3 => ?_) (fun hc3 => ?_)
  · refine x_iconst 20 rfl d_Mo_times_19 2 (by decide) ?_
    refine x_iload_n 21 rfl d_Mo_times_20 rfl ?_
    refine x_imul 22 rfl d_Mo_times_21 ?_
    refine x_istore_n 23 rfl d_Mo_times_22 (by decide) ?_
    refine x_iload_n 24 rfl d_Mo_times_23 rfl ?_
    refine x_if_ne 31 27 rfl d_Mo_times_24 (by decide) (fun hc24 => ?_) (fun hc24 => ?_)
    · refine x_iload_n 32 rfl d_Mo_times_31 rfl ?_
      refine x_iconst 33 rfl d_Mo_times_32 1 (by decide) ?_
      refine x_icmp_ne 40 36 rfl d_Mo_times_33 (by decide) (fun hc33 => ?_) (fun hc33 => ?_)
      · refine x_iload_n 41 rfl d_Mo_times_40 rfl ?_
        refine x_iconst 42 rfl d_Mo_times_41 2 (by decide) ?_
        refine x_icmp_ne 49 45 rfl d_Mo_times_42 (by decide) (fun hc42 => ?_) (fun hc42 => ?_)
        · refine x_iload_n 50 rfl d_Mo_times_49 rfl ?_
          refine x_iload_n 51 rfl d_Mo_times_50 rfl ?_
          refine x_ixor 52 rfl d_Mo_times_51 ?_
          refine x_iret d_Mo_times_52 rfl ?_
          (simpa [tI, *] using h)
        · refine x_iload_n 46 rfl d_Mo_times_45 rfl ?_
          refine x_goto d_Mo_times_46 52 (by decide) ?_
          refine x_iret d_Mo_times_52 rfl ?_
          (simpa [tI, *] using h)
      · refine x_iload_n 37 rfl d_Mo_times_36 rfl ?_
        refine x_goto d_Mo_times_37 52 (by decide) ?_
        refine x_iret d_Mo_times_52 rfl ?_
        (simpa [tI, *] using h)
    · refine x_iconst 28 rfl d_Mo_times_27 0 (by decide) ?_
      refine x_goto d_Mo_times_28 52 (by decide) ?_
      refine x_iret d_Mo_times_52 rfl ?_
      (simpa [tI, *] using h)
  · refine x_iconst 7 rfl d_Mo_times_6 2 (by decide) ?_
    refine x_iload_n 8 rfl d_Mo_times_7 rfl ?_
    refine x_imul 9 rfl d_Mo_times_8 ?_
    refine x_bipush 11 rfl d_Mo_times_9 27 (by decide) ?_
    refine x_ixor 12 rfl d_Mo_times_11 ?_
    refine x_sipush 15 rfl d_Mo_times_12 255 (by decide) ?_
    refine x_iand 16 rfl d_Mo_times_15 ?_
    refine x_goto d_Mo_times_16 22 (by decide) ?_
    refine x_istore_n 23 rfl d_Mo_times_22 (by decide) ?_
    refine x_iload_n 24 rfl d_Mo_times_23 rfl ?_
    refine x_if_ne 31 27 rfl d_Mo_times_24 (by decide) (fun hc24 => ?_) (fun hc24 => ?_)
    · refine x_iload_n 32 rfl d_Mo_times_31 rfl ?_
      refine x_iconst 33 rfl d_Mo_times_32 1 (by decide) ?_
      refine x_icmp_ne 40 36 rfl d_Mo_times_33 (by decide) (fun hc33 => ?_) (fun hc33 => ?_)
      · refine x_iload_n 41 rfl d_Mo_times_40 rfl ?_
        refine x_iconst 42 rfl d_Mo_times_41 2 (by decide) ?_
        refine x_icmp_ne 49 45 rfl d_Mo_times_42 (by decide) (fun hc42 => ?_) (fun hc42 => ?_)
        · refine x_iload_n 50 rfl d_Mo_times_49 rfl ?_
          refine x_iload_n 51 rfl d_Mo_times_50 rfl ?_
          refine x_ixor 52 rfl d_Mo_times_51 ?_
          refine x_iret d_Mo_times_52 rfl ?_
          (simpa [tI, *] using h)
        · refine x_iload_n 46 rfl d_Mo_times_45 rfl ?_
          refine x_goto d_Mo_times_46 52 (by decide) ?_
          refine x_iret d_Mo_times_52 rfl ?_
          (simpa [tI, *] using h)
      · refine x_iload_n 37 rfl d_Mo_times_36 rfl ?_
        refine x_goto d_Mo_times_37 52 (by decide) ?_
        refine x_iret d_Mo_times_52 rfl ?_
        (simpa [tI, *] using h)
    · refine x_iconst 28 rfl d_Mo_times_27 0 (by decide) ?_
      refine x_goto d_Mo_times_28 52 (by decide) ?_
      refine x_iret d_Mo_times_52 rfl ?_
      (simpa [tI, *] using h)
theorem s_Mo_partOf {pp qq kk : Int32} {p q k : Nat} (hpp : pp = nI p) (hqq : qq = nI q) (hkk : kk = nI k) (hp : p < 256) (hq : q < 256) (hk : k < 4) (h : P (some (.int (nI (cPt p q k)))) w) : xE (xGG X) 1 m_Mo_partOf 0 [(0, .int pp), (1, .int qq), (2, .int kk)] [] w P := by
  subst hpp hqq hkk
  refine x_iload_n 1 rfl d_Mo_partOf_0 rfl ?_
  refine x_iload_n 2 rfl d_Mo_partOf_1 rfl ?_
  refine x_iload_n 3 rfl d_Mo_partOf_2 rfl ?_
  refine x_iload_n 4 rfl d_Mo_partOf_3 rfl ?_
  refine x_ixor 5 rfl d_Mo_partOf_4 ?_
  refine y_call 8 rfl [_, _] _ rfl d_Mo_partOf_5 c_Mo_106 rfl (Nat.le_of_ble_eq_true rfl) (Nat.le_of_ble_eq_true rfl) (Nat.le_of_ble_eq_true rfl) (s_Mo_times rfl (nIx p q) hk (x_lt hp hq) ?_)
  refine x_ixor 9 rfl d_Mo_partOf_8 ?_
  refine x_iret d_Mo_partOf_9 rfl ?_
  rw [nIx]
  exact h
theorem s_Mo_leaf {xx kk : Int32} {x k : Nat} (hxx : xx = nI x) (hkk : kk = nI k) (hx : x < 256) (hk : k < 4) (h : P (some (.int (nI (cLf x k)))) w) : xE (xGG X) 0 m_Mo_leaf 0 [(0, .int xx), (1, .int kk)] [] w P := by
  subst hxx hkk
  refine x_iload_n 1 rfl d_Mo_leaf_0 rfl ?_
  refine x_sipush 4 rfl d_Mo_leaf_1 167 (by decide) ?_
  refine x_imul 5 rfl d_Mo_leaf_4 ?_
  refine x_bipush 7 rfl d_Mo_leaf_5 59 (by decide) ?_
  refine x_iload_n 8 rfl d_Mo_leaf_7 rfl ?_
  refine x_imul 9 rfl d_Mo_leaf_8 ?_
  refine x_iadd 10 rfl d_Mo_leaf_9 ?_
  refine x_sipush 13 rfl d_Mo_leaf_10 256 (by decide) ?_
  refine x_irem 14 rfl d_Mo_leaf_13 (by decide) ?_
  refine x_iret d_Mo_leaf_14 rfl ?_
  rw [show (167 : Int32) = nI 167 from rfl, show (59 : Int32) = nI 59 from rfl, show (256 : Int32) = nI 256 from rfl, pk_mul, pk_mul, nI_add, pk_rem (by omega) (by decide) (by decide)]
  exact h
theorem s_Mo_half {xx yy : Int32} {x y : Nat} (hxx : xx = nI x) (hyy : yy = nI y) (hx : x < 256) (hy : y < 256) (h : P (some (.int (nI (cHf x y)))) w) : xE (xGG X) 0 m_Mo_half 0 [(0, .int xx), (1, .int yy)] [] w P := by
  subst hxx hyy
  refine x_ldc2 3 rfl d_Mo_half_0 k_Mo_110 ?_
  refine x_iload_n 4 rfl d_Mo_half_3 rfl ?_
  refine x_i2l 5 rfl d_Mo_half_4 ?_
  refine x_lmul 6 rfl d_Mo_half_5 ?_
  refine x_iload_n 7 rfl d_Mo_half_6 rfl ?_
  refine x_i2l 8 rfl d_Mo_half_7 ?_
  refine x_ladd 9 rfl d_Mo_half_8 ?_
  refine x_ldc2 12 rfl d_Mo_half_9 k_Mo_112 ?_
  refine x_lmul 13 rfl d_Mo_half_12 ?_
  refine x_ldc2 16 rfl d_Mo_half_13 k_Mo_114 ?_
  refine x_ladd 17 rfl d_Mo_half_16 ?_
  refine x_ldc2 20 rfl d_Mo_half_17 k_Mo_116 ?_
  refine x_lrem 21 rfl d_Mo_half_20 (by decide) ?_
  refine x_l2i 22 rfl d_Mo_half_21 ?_
  refine x_iret d_Mo_half_22 rfl ?_
  rw [nI_l (by omega), nI_l (by omega), show (256 : Int64) = lN 256 from rfl, show (40503 : Int64) = lN 40503 from rfl, show (977 : Int64) = lN 977 from rfl, show (65536 : Int64) = lN 65536 from rfl, lN_mul, lN_add, lN_mul, lN_add, pk_lRem (by omega) (by decide) (by decide), lN_i]
  exact h
theorem s_Mo_rootOf {xx yy : Int32} {x y : Nat} (hxx : xx = nI x) (hyy : yy = nI y) (h : P (some (.int (cRt x y))) w) : xE (xGG X) 0 m_Mo_rootOf 0 [(0, .int xx), (1, .int yy)] [] w P := by
  subst hxx hyy
  refine x_ldc 2 rfl d_Mo_rootOf_0 k_Mo_118 ?_
  refine x_iload_n 3 rfl d_Mo_rootOf_2 rfl ?_
  refine x_imul 4 rfl d_Mo_rootOf_3 ?_
  refine x_iload_n 5 rfl d_Mo_rootOf_4 rfl ?_
  refine x_iadd 6 rfl d_Mo_rootOf_5 ?_
  refine x_ldc 8 rfl d_Mo_rootOf_6 k_Mo_119 ?_
  refine x_imul 9 rfl d_Mo_rootOf_8 ?_
  refine x_bipush 11 rfl d_Mo_rootOf_9 7 (by decide) ?_
  refine x_iadd 12 rfl d_Mo_rootOf_11 ?_
  refine x_iret d_Mo_rootOf_12 rfl ?_
  rw [iRt]
  exact h
theorem s_Mo_rootOfProposal {pp qq : Int32} {p q : Nat} (hpp : pp = nI p) (hqq : qq = nI q) (hp : p < 256) (hq : q < 256) (h : P (some (.int (cRoot p q))) w) : xE (xGG X) 2 m_Mo_rootOfProposal 0 [(0, .int pp), (1, .int qq)] [] w P := by
  subst hpp hqq
  refine x_iload_n 1 rfl d_Mo_rootOfProposal_0 rfl ?_
  refine x_iload_n 2 rfl d_Mo_rootOfProposal_1 rfl ?_
  refine x_iconst 3 rfl d_Mo_rootOfProposal_2 0 (by decide) ?_
  refine y_call 6 rfl [_, _, _] _ rfl d_Mo_rootOfProposal_3 c_Mo_120 rfl (Nat.le_of_ble_eq_true rfl) (Nat.le_of_ble_eq_true rfl) (Nat.le_of_ble_eq_true rfl) (s_Mo_partOf (k := 0) rfl rfl rfl hp hq (by decide) ?_)
  refine x_iconst 7 rfl d_Mo_rootOfProposal_6 0 (by decide) ?_
  refine y_call 10 rfl [_, _] _ rfl d_Mo_rootOfProposal_7 c_Mo_124 rfl (Nat.le_of_ble_eq_true rfl) (Nat.le_of_ble_eq_true rfl) (Nat.le_of_ble_eq_true rfl) (s_Mo_leaf (k := 0) rfl rfl (cPt_lt hp hq (by decide)) (by decide) ?_)
  refine x_iload_n 11 rfl d_Mo_rootOfProposal_10 rfl ?_
  refine x_iload_n 12 rfl d_Mo_rootOfProposal_11 rfl ?_
  refine x_iconst 13 rfl d_Mo_rootOfProposal_12 1 (by decide) ?_
  refine y_call 16 rfl [_, _, _] _ rfl d_Mo_rootOfProposal_13 c_Mo_120 rfl (Nat.le_of_ble_eq_true rfl) (Nat.le_of_ble_eq_true rfl) (Nat.le_of_ble_eq_true rfl) (s_Mo_partOf (k := 1) rfl rfl rfl hp hq (by decide) ?_)
  refine x_iconst 17 rfl d_Mo_rootOfProposal_16 1 (by decide) ?_
  refine y_call 20 rfl [_, _] _ rfl d_Mo_rootOfProposal_17 c_Mo_124 rfl (Nat.le_of_ble_eq_true rfl) (Nat.le_of_ble_eq_true rfl) (Nat.le_of_ble_eq_true rfl) (s_Mo_leaf (k := 1) rfl rfl (cPt_lt hp hq (by decide)) (by decide) ?_)
  refine y_call 23 rfl [_, _] _ rfl d_Mo_rootOfProposal_20 c_Mo_127 rfl (Nat.le_of_ble_eq_true rfl) (Nat.le_of_ble_eq_true rfl) (Nat.le_of_ble_eq_true rfl) (s_Mo_half rfl rfl (cLf_lt _ _) (cLf_lt _ _) ?_)
  refine x_istore_n 24 rfl d_Mo_rootOfProposal_23 (by decide) ?_
  refine x_iload_n 25 rfl d_Mo_rootOfProposal_24 rfl ?_
  refine x_iload_n 26 rfl d_Mo_rootOfProposal_25 rfl ?_
  refine x_iconst 27 rfl d_Mo_rootOfProposal_26 2 (by decide) ?_
  refine y_call 30 rfl [_, _, _] _ rfl d_Mo_rootOfProposal_27 c_Mo_120 rfl (Nat.le_of_ble_eq_true rfl) (Nat.le_of_ble_eq_true rfl) (Nat.le_of_ble_eq_true rfl) (s_Mo_partOf (k := 2) rfl rfl rfl hp hq (by decide) ?_)
  refine x_iconst 31 rfl d_Mo_rootOfProposal_30 2 (by decide) ?_
  refine y_call 34 rfl [_, _] _ rfl d_Mo_rootOfProposal_31 c_Mo_124 rfl (Nat.le_of_ble_eq_true rfl) (Nat.le_of_ble_eq_true rfl) (Nat.le_of_ble_eq_true rfl) (s_Mo_leaf (k := 2) rfl rfl (cPt_lt hp hq (by decide)) (by decide) ?_)
  refine x_iload_n 35 rfl d_Mo_rootOfProposal_34 rfl ?_
  refine x_iload_n 36 rfl d_Mo_rootOfProposal_35 rfl ?_
  refine x_iconst 37 rfl d_Mo_rootOfProposal_36 3 (by decide) ?_
  refine y_call 40 rfl [_, _, _] _ rfl d_Mo_rootOfProposal_37 c_Mo_120 rfl (Nat.le_of_ble_eq_true rfl) (Nat.le_of_ble_eq_true rfl) (Nat.le_of_ble_eq_true rfl) (s_Mo_partOf (k := 3) rfl rfl rfl hp hq (by decide) ?_)
  refine x_iconst 41 rfl d_Mo_rootOfProposal_40 3 (by decide) ?_
  refine y_call 44 rfl [_, _] _ rfl d_Mo_rootOfProposal_41 c_Mo_124 rfl (Nat.le_of_ble_eq_true rfl) (Nat.le_of_ble_eq_true rfl) (Nat.le_of_ble_eq_true rfl) (s_Mo_leaf (k := 3) rfl rfl (cPt_lt hp hq (by decide)) (by decide) ?_)
  refine y_call 47 rfl [_, _] _ rfl d_Mo_rootOfProposal_44 c_Mo_127 rfl (Nat.le_of_ble_eq_true rfl) (Nat.le_of_ble_eq_true rfl) (Nat.le_of_ble_eq_true rfl) (s_Mo_half rfl rfl (cLf_lt _ _) (cLf_lt _ _) ?_)
  refine x_istore_n 48 rfl d_Mo_rootOfProposal_47 (by decide) ?_
  refine x_iload_n 49 rfl d_Mo_rootOfProposal_48 rfl ?_
  refine x_iload_n 50 rfl d_Mo_rootOfProposal_49 rfl ?_
  refine y_call 53 rfl [_, _] _ rfl d_Mo_rootOfProposal_50 c_Mo_130 rfl (Nat.le_of_ble_eq_true rfl) (Nat.le_of_ble_eq_true rfl) (Nat.le_of_ble_eq_true rfl) (s_Mo_rootOf rfl rfl ?_)
  refine x_iret d_Mo_rootOfProposal_53 rfl ?_
  exact h
theorem s_Mo_witness {pp qq kk : Int32} {p q k : Nat} (hpp : pp = nI p) (hqq : qq = nI q) (hkk : kk = nI k) (hp : p < 256) (hq : q < 256) (hk : k < 4) (h : P (some (.int (nI (cWn p q k)))) w) : xE (xGG X) 2 m_Mo_witness 0 [(0, .int pp), (1, .int qq), (2, .int kk)] [] w P := by
  subst hpp hqq hkk
  have hk1 := k1_lt k hk
  have fin : ∀ o : Nat, o = cOh p q k → nI (cPt p q k) + 256 * nI (cLf (cPt p q (k ^^^ 1)) (k ^^^ 1)) + 65536 * nI o = nI (cWn p q k) := by
    intro o ho
    rw [ho, show (256 : Int32) = nI 256 from rfl, show (65536 : Int32) = nI 65536 from rfl, pk_mul, pk_mul, nI_add, nI_add]
    rfl
  refine x_iload_n 1 rfl d_Mo_witness_0 rfl ?_
  refine x_iconst 2 rfl d_Mo_witness_1 1 (by decide) ?_
  refine x_ixor 3 rfl d_Mo_witness_2 ?_
  refine x_istore_n 4 rfl d_Mo_witness_3 (by decide) ?_
  refine x_iload_n 5 rfl d_Mo_witness_4 rfl ?_
  refine x_iconst 6 rfl d_Mo_witness_5 2 (by decide) ?_
  refine x_icmp_ge 13 9 rfl d_Mo_witness_6 (by decide) (fun hc => ?_) (fun hc => ?_)
  · have h2 : 2 ≤ k := by
      by_cases z : 2 ≤ k
      · exact z
      · exact absurd hc (nI_ge (a := k) (b := 2) (by omega) (by decide))
    refine x_iconst 14 rfl d_Mo_witness_13 0 (by decide) ?_
    refine x_istore 16 rfl d_Mo_witness_14 (by decide) ?_
    refine x_iload_n 17 rfl d_Mo_witness_16 rfl ?_
    refine x_iload_n 18 rfl d_Mo_witness_17 rfl ?_
    refine x_iload 20 rfl d_Mo_witness_18 rfl ?_
    refine y_call 23 rfl [_, _, _] _ rfl d_Mo_witness_20 c_Mo_120 rfl (Nat.le_of_ble_eq_true rfl) (Nat.le_of_ble_eq_true rfl) (Nat.le_of_ble_eq_true rfl) (s_Mo_partOf (k := 0) rfl rfl rfl hp hq (by decide) ?_)
    refine x_iload 25 rfl d_Mo_witness_23 rfl ?_
    refine y_call 28 rfl [_, _] _ rfl d_Mo_witness_25 c_Mo_124 rfl (Nat.le_of_ble_eq_true rfl) (Nat.le_of_ble_eq_true rfl) (Nat.le_of_ble_eq_true rfl) (s_Mo_leaf (k := 0) rfl rfl (cPt_lt hp hq (by decide)) (by decide) ?_)
    refine x_iload_n 29 rfl d_Mo_witness_28 rfl ?_
    refine x_iload_n 30 rfl d_Mo_witness_29 rfl ?_
    refine x_iload 32 rfl d_Mo_witness_30 rfl ?_
    refine x_iconst 33 rfl d_Mo_witness_32 1 (by decide) ?_
    refine x_iadd 34 rfl d_Mo_witness_33 ?_
    refine y_call 37 rfl [_, _, _] _ rfl d_Mo_witness_34 c_Mo_120 rfl (Nat.le_of_ble_eq_true rfl) (Nat.le_of_ble_eq_true rfl) (Nat.le_of_ble_eq_true rfl) (s_Mo_partOf (k := 1) rfl rfl rfl hp hq (by decide) ?_)
    refine x_iload 39 rfl d_Mo_witness_37 rfl ?_
    refine x_iconst 40 rfl d_Mo_witness_39 1 (by decide) ?_
    refine x_iadd 41 rfl d_Mo_witness_40 ?_
    refine y_call 44 rfl [_, _] _ rfl d_Mo_witness_41 c_Mo_124 rfl (Nat.le_of_ble_eq_true rfl) (Nat.le_of_ble_eq_true rfl) (Nat.le_of_ble_eq_true rfl) (s_Mo_leaf (k := 1) rfl rfl (cPt_lt hp hq (by decide)) (by decide) ?_)
    refine y_call 47 rfl [_, _] _ rfl d_Mo_witness_44 c_Mo_127 rfl (Nat.le_of_ble_eq_true rfl) (Nat.le_of_ble_eq_true rfl) (Nat.le_of_ble_eq_true rfl) (s_Mo_half rfl rfl (cLf_lt _ _) (cLf_lt _ _) ?_)
    refine x_istore 49 rfl d_Mo_witness_47 (by decide) ?_
    refine x_iload_n 50 rfl d_Mo_witness_49 rfl ?_
    refine x_iload_n 51 rfl d_Mo_witness_50 rfl ?_
    refine x_iload_n 52 rfl d_Mo_witness_51 rfl ?_
    refine y_call 55 rfl [_, _, _] _ rfl d_Mo_witness_52 c_Mo_120 rfl (Nat.le_of_ble_eq_true rfl) (Nat.le_of_ble_eq_true rfl) (Nat.le_of_ble_eq_true rfl) (s_Mo_partOf rfl rfl rfl hp hq hk ?_)
    refine x_sipush 58 rfl d_Mo_witness_55 256 (by decide) ?_
    refine x_iload_n 59 rfl d_Mo_witness_58 rfl ?_
    refine x_iload_n 60 rfl d_Mo_witness_59 rfl ?_
    refine x_iload_n 61 rfl d_Mo_witness_60 rfl ?_
    refine y_call 64 rfl [_, _, _] _ rfl d_Mo_witness_61 c_Mo_120 rfl (Nat.le_of_ble_eq_true rfl) (Nat.le_of_ble_eq_true rfl) (Nat.le_of_ble_eq_true rfl) (s_Mo_partOf rfl rfl (iK1 hk) hp hq hk1 ?_)
    refine x_iload_n 65 rfl d_Mo_witness_64 rfl ?_
    refine y_call 68 rfl [_, _] _ rfl d_Mo_witness_65 c_Mo_124 rfl (Nat.le_of_ble_eq_true rfl) (Nat.le_of_ble_eq_true rfl) (Nat.le_of_ble_eq_true rfl) (s_Mo_leaf rfl (iK1 hk) (cPt_lt hp hq hk1) hk1 ?_)
    refine x_imul 69 rfl d_Mo_witness_68 ?_
    refine x_iadd 70 rfl d_Mo_witness_69 ?_
    refine x_ldc 72 rfl d_Mo_witness_70 k_Mo_118 ?_
    refine x_iload 74 rfl d_Mo_witness_72 rfl ?_
    refine x_imul 75 rfl d_Mo_witness_74 ?_
    refine x_iadd 76 rfl d_Mo_witness_75 ?_
    refine x_iret d_Mo_witness_76 rfl ?_
    rw [fin _ (by simp only [cOh, if_neg (Nat.not_lt.mpr h2)])]
    exact h
  · have h2 : k < 2 := by
      by_cases z : k < 2
      · exact z
      · exact absurd (nI_le (a := 2) (b := k) (by omega) (by omega)) hc
    refine x_iconst 10 rfl d_Mo_witness_9 2 (by decide) ?_
    refine x_goto d_Mo_witness_10 14 (by decide) ?_
    refine x_istore 16 rfl d_Mo_witness_14 (by decide) ?_
    refine x_iload_n 17 rfl d_Mo_witness_16 rfl ?_
    refine x_iload_n 18 rfl d_Mo_witness_17 rfl ?_
    refine x_iload 20 rfl d_Mo_witness_18 rfl ?_
    refine y_call 23 rfl [_, _, _] _ rfl d_Mo_witness_20 c_Mo_120 rfl (Nat.le_of_ble_eq_true rfl) (Nat.le_of_ble_eq_true rfl) (Nat.le_of_ble_eq_true rfl) (s_Mo_partOf (k := 2) rfl rfl rfl hp hq (by decide) ?_)
    refine x_iload 25 rfl d_Mo_witness_23 rfl ?_
    refine y_call 28 rfl [_, _] _ rfl d_Mo_witness_25 c_Mo_124 rfl (Nat.le_of_ble_eq_true rfl) (Nat.le_of_ble_eq_true rfl) (Nat.le_of_ble_eq_true rfl) (s_Mo_leaf (k := 2) rfl rfl (cPt_lt hp hq (by decide)) (by decide) ?_)
    refine x_iload_n 29 rfl d_Mo_witness_28 rfl ?_
    refine x_iload_n 30 rfl d_Mo_witness_29 rfl ?_
    refine x_iload 32 rfl d_Mo_witness_30 rfl ?_
    refine x_iconst 33 rfl d_Mo_witness_32 1 (by decide) ?_
    refine x_iadd 34 rfl d_Mo_witness_33 ?_
    refine y_call 37 rfl [_, _, _] _ rfl d_Mo_witness_34 c_Mo_120 rfl (Nat.le_of_ble_eq_true rfl) (Nat.le_of_ble_eq_true rfl) (Nat.le_of_ble_eq_true rfl) (s_Mo_partOf (k := 3) rfl rfl rfl hp hq (by decide) ?_)
    refine x_iload 39 rfl d_Mo_witness_37 rfl ?_
    refine x_iconst 40 rfl d_Mo_witness_39 1 (by decide) ?_
    refine x_iadd 41 rfl d_Mo_witness_40 ?_
    refine y_call 44 rfl [_, _] _ rfl d_Mo_witness_41 c_Mo_124 rfl (Nat.le_of_ble_eq_true rfl) (Nat.le_of_ble_eq_true rfl) (Nat.le_of_ble_eq_true rfl) (s_Mo_leaf (k := 3) rfl rfl (cPt_lt hp hq (by decide)) (by decide) ?_)
    refine y_call 47 rfl [_, _] _ rfl d_Mo_witness_44 c_Mo_127 rfl (Nat.le_of_ble_eq_true rfl) (Nat.le_of_ble_eq_true rfl) (Nat.le_of_ble_eq_true rfl) (s_Mo_half rfl rfl (cLf_lt _ _) (cLf_lt _ _) ?_)
    refine x_istore 49 rfl d_Mo_witness_47 (by decide) ?_
    refine x_iload_n 50 rfl d_Mo_witness_49 rfl ?_
    refine x_iload_n 51 rfl d_Mo_witness_50 rfl ?_
    refine x_iload_n 52 rfl d_Mo_witness_51 rfl ?_
    refine y_call 55 rfl [_, _, _] _ rfl d_Mo_witness_52 c_Mo_120 rfl (Nat.le_of_ble_eq_true rfl) (Nat.le_of_ble_eq_true rfl) (Nat.le_of_ble_eq_true rfl) (s_Mo_partOf rfl rfl rfl hp hq hk ?_)
    refine x_sipush 58 rfl d_Mo_witness_55 256 (by decide) ?_
    refine x_iload_n 59 rfl d_Mo_witness_58 rfl ?_
    refine x_iload_n 60 rfl d_Mo_witness_59 rfl ?_
    refine x_iload_n 61 rfl d_Mo_witness_60 rfl ?_
    refine y_call 64 rfl [_, _, _] _ rfl d_Mo_witness_61 c_Mo_120 rfl (Nat.le_of_ble_eq_true rfl) (Nat.le_of_ble_eq_true rfl) (Nat.le_of_ble_eq_true rfl) (s_Mo_partOf rfl rfl (iK1 hk) hp hq hk1 ?_)
    refine x_iload_n 65 rfl d_Mo_witness_64 rfl ?_
    refine y_call 68 rfl [_, _] _ rfl d_Mo_witness_65 c_Mo_124 rfl (Nat.le_of_ble_eq_true rfl) (Nat.le_of_ble_eq_true rfl) (Nat.le_of_ble_eq_true rfl) (s_Mo_leaf rfl (iK1 hk) (cPt_lt hp hq hk1) hk1 ?_)
    refine x_imul 69 rfl d_Mo_witness_68 ?_
    refine x_iadd 70 rfl d_Mo_witness_69 ?_
    refine x_ldc 72 rfl d_Mo_witness_70 k_Mo_118 ?_
    refine x_iload 74 rfl d_Mo_witness_72 rfl ?_
    refine x_imul 75 rfl d_Mo_witness_74 ?_
    refine x_iadd 76 rfl d_Mo_witness_75 ?_
    refine x_iret d_Mo_witness_76 rfl ?_
    rw [fin _ (by simp only [cOh, if_pos h2])]
    exact h
theorem s_Mo_right {kk root ww : Int32} {k u : Nat} (hkk : kk = nI k) (hww : ww = nI u) (hk : k < 4) (hu : u < 2 ^ 32) (h : P (some (.int (nB (cRight root u k)))) w) : xE (xGG X) 1 m_Mo_right 0 [(0, .int root), (1, .int ww), (2, .int kk)] [] w P := by
  subst hkk hww
  have e0 : nI u &&& 255 = nI (u % 256) := i255 hu
  have er : nI k - nI k / 2 * 2 = nI (k % 2) := pk_rem (d := 2) (by omega) (by decide) (by decide)
  refine x_iload_n 1 rfl d_Mo_right_0 rfl ?_
  refine x_sipush 4 rfl d_Mo_right_1 255 (by decide) ?_
  refine x_iand 5 rfl d_Mo_right_4 ?_
  refine x_iload_n 6 rfl d_Mo_right_5 rfl ?_
  refine y_call 9 rfl [_, _] _ rfl d_Mo_right_6 c_Mo_124 rfl (Nat.le_of_ble_eq_true rfl) (Nat.le_of_ble_eq_true rfl) (Nat.le_of_ble_eq_true rfl) (s_Mo_leaf e0 rfl (Nat.mod_lt _ (by decide)) hk ?_)
  refine x_istore_n 10 rfl d_Mo_right_9 (by decide) ?_
  refine x_iload_n 11 rfl d_Mo_right_10 rfl ?_
  refine x_bipush 13 rfl d_Mo_right_11 8 (by decide) ?_
  refine x_ishr 14 rfl d_Mo_right_13 ?_
  refine x_sipush 17 rfl d_Mo_right_14 255 (by decide) ?_
  refine x_iand 18 rfl d_Mo_right_17 ?_
  refine x_istore 20 rfl d_Mo_right_18 (by decide) ?_
  refine x_iload_n 21 rfl d_Mo_right_20 rfl ?_
  refine x_iconst 22 rfl d_Mo_right_21 2 (by decide) ?_
  refine x_irem 23 rfl d_Mo_right_22 (by decide) ?_
  rw [iS8 hu, er]
  have key : ∀ nr : Nat, nr = cNr u k → xE (xGG X) 1 m_Mo_right 43 [(0, .int root), (1, .int (nI u)), (2, .int (nI k)), (5, .int (nI nr))] [] w P := by
    intro nr hnr
    refine x_iload_n 44 rfl d_Mo_right_43 rfl ?_
    refine x_bipush 46 rfl d_Mo_right_44 16 (by decide) ?_
    refine x_iushr 47 rfl d_Mo_right_46 ?_
    refine x_istore 49 rfl d_Mo_right_47 (by decide) ?_
    refine x_iload_n 50 rfl d_Mo_right_49 rfl ?_
    refine x_iload_n 51 rfl d_Mo_right_50 rfl ?_
    refine x_iconst 52 rfl d_Mo_right_51 2 (by decide) ?_
    rw [iU16 hu]
    refine x_icmp_ge 65 55 rfl d_Mo_right_52 (by decide) (fun hc => ?_) (fun hc => ?_)
    · have h2 : 2 ≤ k := by
        by_cases z : 2 ≤ k
        · exact z
        · exact absurd hc (nI_ge (a := k) (b := 2) (by omega) (by decide))
      refine x_iload 67 rfl d_Mo_right_65 rfl ?_
      refine x_iload 69 rfl d_Mo_right_67 rfl ?_
      refine y_call 72 rfl [_, _] _ rfl d_Mo_right_69 c_Mo_130 rfl (Nat.le_of_ble_eq_true rfl) (Nat.le_of_ble_eq_true rfl) (Nat.le_of_ble_eq_true rfl) (s_Mo_rootOf rfl rfl ?_)
      refine x_icmp_ne 79 75 rfl d_Mo_right_72 (by decide) (fun hc => ?_) (fun hc => ?_)
      · refine x_iconst 80 rfl d_Mo_right_79 0 (by decide) ?_
        refine x_zret d_Mo_right_80 rfl (by decide) ?_
        have : cRight root u k = false := by simp [cRight, Nat.not_lt.mpr h2, ← hnr, hc]
        rw [this] at h
        exact h
      · refine x_iconst 76 rfl d_Mo_right_75 1 (by decide) ?_
        refine x_goto d_Mo_right_76 80 (by decide) ?_
        refine x_zret d_Mo_right_80 rfl (by decide) ?_
        have : cRight root u k = true := by simp [cRight, Nat.not_lt.mpr h2, ← hnr, hc]
        rw [this] at h
        exact h
    · have h2 : k < 2 := by
        by_cases z : k < 2
        · exact z
        · exact absurd (nI_le (a := 2) (b := k) (by omega) (by omega)) hc
      refine x_iload 57 rfl d_Mo_right_55 rfl ?_
      refine x_iload 59 rfl d_Mo_right_57 rfl ?_
      refine y_call 62 rfl [_, _] _ rfl d_Mo_right_59 c_Mo_130 rfl (Nat.le_of_ble_eq_true rfl) (Nat.le_of_ble_eq_true rfl) (Nat.le_of_ble_eq_true rfl) (s_Mo_rootOf rfl rfl ?_)
      refine x_goto d_Mo_right_62 72 (by decide) ?_
      refine x_icmp_ne 79 75 rfl d_Mo_right_72 (by decide) (fun hc => ?_) (fun hc => ?_)
      · refine x_iconst 80 rfl d_Mo_right_79 0 (by decide) ?_
        refine x_zret d_Mo_right_80 rfl (by decide) ?_
        have : cRight root u k = false := by simp [cRight, h2, ← hnr, hc]
        rw [this] at h
        exact h
      · refine x_iconst 76 rfl d_Mo_right_75 1 (by decide) ?_
        refine x_goto d_Mo_right_76 80 (by decide) ?_
        refine x_zret d_Mo_right_80 rfl (by decide) ?_
        have : cRight root u k = true := by simp [cRight, h2, ← hnr, hc]
        rw [this] at h
        exact h
  refine x_if_ne 35 26 rfl d_Mo_right_23 (by decide) (fun hc => ?_) (fun hc => ?_)
  · have h2 : ¬ k % 2 = 0 := fun z => hc (by rw [z]; rfl)
    refine x_iload 37 rfl d_Mo_right_35 rfl ?_
    refine x_iload_n 38 rfl d_Mo_right_37 rfl ?_
    refine y_call 41 rfl [_, _] _ rfl d_Mo_right_38 c_Mo_127 rfl (Nat.le_of_ble_eq_true rfl) (Nat.le_of_ble_eq_true rfl) (Nat.le_of_ble_eq_true rfl) (s_Mo_half rfl rfl (Nat.mod_lt _ (by decide)) (cLf_lt _ _) ?_)
    refine x_istore 43 rfl d_Mo_right_41 (by decide) ?_
    exact xE.fit (key _ (by simp only [cNr, if_neg h2])) rfl
  · have h2 : k % 2 = 0 := by
      by_cases z : k % 2 = 0
      · exact z
      · exact absurd hc (nI_ne0 (by omega) (by omega))
    refine x_iload_n 27 rfl d_Mo_right_26 rfl ?_
    refine x_iload 29 rfl d_Mo_right_27 rfl ?_
    refine y_call 32 rfl [_, _] _ rfl d_Mo_right_29 c_Mo_127 rfl (Nat.le_of_ble_eq_true rfl) (Nat.le_of_ble_eq_true rfl) (Nat.le_of_ble_eq_true rfl) (s_Mo_half rfl rfl (cLf_lt _ _) (Nat.mod_lt _ (by decide)) ?_)
    refine x_goto d_Mo_right_32 41 (by decide) ?_
    refine x_istore 43 rfl d_Mo_right_41 (by decide) ?_
    exact xE.fit (key _ (by simp only [cNr, if_pos h2])) rfl
theorem s_Mo_solve {kk xx ll yy : Int32} {k x l y : Nat} (hkk : kk = nI k) (hxx : xx = nI x) (hll : ll = nI l) (hyy : yy = nI y) (hk : k < 4) (hl : l < 4) (hne : k ≠ l) (hx : x < 256) (hy : y < 256) (h : P (some (.int (nI (cSv k x l y)))) w) : xE (xGG X) 1 m_Mo_solve 0 [(0, .int kk), (1, .int xx), (2, .int ll), (3, .int yy)] [] w P := by
  subst hkk hxx hll hyy
  obtain ⟨h1, h2⟩ := kl_lt k hk l hl hne
  have hxy := x_lt hx hy
  obtain ⟨g1, g2, -, -⟩ := cDv_ok (k ^^^ l) h2 h1 (x ^^^ y) hxy
  have key : xE (xGG X) 1 m_Mo_solve 31 [(0, .int (nI k)), (1, .int (nI x)), (2, .int (nI l)), (3, .int (nI y)), (4, .int (nI (cDv (k ^^^ l) (x ^^^ y))))] [] w P := by
    refine x_iload_n 32 rfl d_Mo_solve_31 rfl ?_
    refine x_iload_n 33 rfl d_Mo_solve_32 rfl ?_
    refine x_iload 35 rfl d_Mo_solve_33 rfl ?_
    refine y_call 38 rfl [_, _] _ rfl d_Mo_solve_35 c_Mo_106 rfl (Nat.le_of_ble_eq_true rfl) (Nat.le_of_ble_eq_true rfl) (Nat.le_of_ble_eq_true rfl) (s_Mo_times rfl rfl hk g1 ?_)
    refine x_ixor 39 rfl d_Mo_solve_38 ?_
    rw [nIx]
    refine x_istore 41 rfl d_Mo_solve_39 (by decide) ?_
    refine x_iload 43 rfl d_Mo_solve_41 rfl ?_
    refine x_sipush 46 rfl d_Mo_solve_43 256 (by decide) ?_
    refine x_iload 48 rfl d_Mo_solve_46 rfl ?_
    refine x_iload 50 rfl d_Mo_solve_48 rfl ?_
    refine x_ixor 51 rfl d_Mo_solve_50 ?_
    refine x_imul 52 rfl d_Mo_solve_51 ?_
    refine x_iadd 53 rfl d_Mo_solve_52 ?_
    refine x_iret d_Mo_solve_53 rfl ?_
    rw [nIx, show (256 : Int32) = nI 256 from rfl, pk_mul, nI_add]
    exact h
  have loop : ∀ (n c : Nat) (cc : Int32), cc = nI c → c + n = cDv (k ^^^ l) (x ^^^ y) → xE (xGG X) 1 m_Mo_solve 3 [(0, .int (nI k)), (1, .int (nI x)), (2, .int (nI l)), (3, .int (nI y)), (4, .int cc)] [] w P := by
    intro n
    induction n with
    | zero =>
      intro c cc hcc hcn
      subst hcc
      have hc0 : c = cDv (k ^^^ l) (x ^^^ y) := by omega
      subst hc0
      refine x_iload 5 rfl d_Mo_solve_3 rfl ?_
      refine x_sipush 8 rfl d_Mo_solve_5 255 (by decide) ?_
      refine x_icmp_ge 31 11 rfl d_Mo_solve_8 (by decide) (fun hc => xE.fit key rfl) (fun hc => ?_)
      refine x_iload_n 12 rfl d_Mo_solve_11 rfl ?_
      refine x_iload_n 13 rfl d_Mo_solve_12 rfl ?_
      refine x_ixor 14 rfl d_Mo_solve_13 ?_
      rw [nIx]
      refine x_iload 16 rfl d_Mo_solve_14 rfl ?_
      refine y_call 19 rfl [_, _] _ rfl d_Mo_solve_16 c_Mo_106 rfl (Nat.le_of_ble_eq_true rfl) (Nat.le_of_ble_eq_true rfl) (Nat.le_of_ble_eq_true rfl) (s_Mo_times rfl rfl h2 g1 ?_)
      refine x_iload_n 20 rfl d_Mo_solve_19 rfl ?_
      refine x_iload_n 21 rfl d_Mo_solve_20 rfl ?_
      refine x_ixor 22 rfl d_Mo_solve_21 ?_
      rw [g2, nIx]
      exact x_icmp_eq 31 25 rfl d_Mo_solve_22 (by decide) (fun hc => xE.fit key rfl) (fun hc => absurd rfl hc)
    | succ n ih =>
      intro c cc hcc hcn
      subst hcc
      have hc256 : c < 255 := by omega
      refine x_iload 5 rfl d_Mo_solve_3 rfl ?_
      refine x_sipush 8 rfl d_Mo_solve_5 255 (by decide) ?_
      refine x_icmp_ge 31 11 rfl d_Mo_solve_8 (by decide) (fun hc => absurd hc (nI_ge (a := c) (b := 255) (by omega) (by decide))) (fun hc => ?_)
      refine x_iload_n 12 rfl d_Mo_solve_11 rfl ?_
      refine x_iload_n 13 rfl d_Mo_solve_12 rfl ?_
      refine x_ixor 14 rfl d_Mo_solve_13 ?_
      rw [nIx]
      refine x_iload 16 rfl d_Mo_solve_14 rfl ?_
      refine y_call 19 rfl [_, _] _ rfl d_Mo_solve_16 c_Mo_106 rfl (Nat.le_of_ble_eq_true rfl) (Nat.le_of_ble_eq_true rfl) (Nat.le_of_ble_eq_true rfl) (s_Mo_times rfl rfl h2 (by omega) ?_)
      refine x_iload_n 20 rfl d_Mo_solve_19 rfl ?_
      refine x_iload_n 21 rfl d_Mo_solve_20 rfl ?_
      refine x_ixor 22 rfl d_Mo_solve_21 ?_
      rw [nIx]
      refine x_icmp_eq 31 25 rfl d_Mo_solve_22 (by decide) (fun hc => ?_) (fun hc => ?_)
      · have hb := cTm_lt (k ^^^ l) h2 c (by omega)
        have e := (nI_eq (by omega) (by omega)).mp hc
        have e2 := (cDv_ok (k ^^^ l) h2 h1 c (by omega)).2.2.1
        rw [e] at e2
        omega
      · refine x_iinc 28 rfl d_Mo_solve_25 rfl 1 (by decide) (by decide) ?_
        refine x_goto d_Mo_solve_28 3 (by decide) ?_
        exact xE.fit (ih (c + 1) _ (nI_succ c).symm (by omega)) rfl
  refine x_iconst 1 rfl d_Mo_solve_0 0 (by decide) ?_
  refine x_istore 3 rfl d_Mo_solve_1 (by decide) ?_
  exact xE.fit (loop _ 0 0 rfl (Nat.zero_add _)) rfl
end MC
