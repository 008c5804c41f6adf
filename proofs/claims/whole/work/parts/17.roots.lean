/-! SENDERS AS A MASK -/
def cMk (h : Nat → Bool) : Nat := (if h 0 then 1 else 0) + (if h 1 then 2 else 0) + (if h 2 then 4 else 0) + (if h 3 then 8 else 0)
def cM4 (a b c d : Bool) : Nat := (if a then 1 else 0) + (if b then 2 else 0) + (if c then 4 else 0) + (if d then 8 else 0)
theorem cMk_lt (h : Nat → Bool) : cMk h < 16 := by unfold cMk; split <;> split <;> split <;> split <;> omega
theorem cMk_4 (h : Nat → Bool) : cMk h = cM4 (h 0) (h 1) (h 2) (h 3) := rfl
theorem cM4_bit : ∀ a b c d : Bool, ∀ s, s < 4 → nI (cM4 a b c d) >>> (nI s &&& 31) &&& 1 = nB ([a, b, c, d].getD s false) := by decide +kernel
theorem cM4_set : ∀ a b c d : Bool, (nI (cM4 a b c d) ||| ((1 : Int32) <<< (nI 0 &&& 31)) = nI (cM4 true b c d)) ∧ (nI (cM4 a b c d) ||| ((1 : Int32) <<< (nI 1 &&& 31)) = nI (cM4 a true c d)) ∧ (nI (cM4 a b c d) ||| ((1 : Int32) <<< (nI 2 &&& 31)) = nI (cM4 a b true d)) ∧ (nI (cM4 a b c d) ||| ((1 : Int32) <<< (nI 3 &&& 31)) = nI (cM4 a b c true)) := by decide +kernel
theorem lt4 {s : Nat} (h : s < 4) : s = 0 ∨ s = 1 ∨ s = 2 ∨ s = 3 := by omega
theorem h4 (h : Nat → Bool) {s : Nat} (hs : s < 4) : [h 0, h 1, h 2, h 3].getD s false = h s := by
  rcases lt4 hs with rfl | rfl | rfl | rfl <;> rfl
theorem bM1 (h : Nat → Bool) {s : Nat} (hs : s < 4) : nI (cMk h) >>> (nI s &&& 31) &&& 1 = nB (h s) := by
  rw [cMk_4, cM4_bit _ _ _ _ s hs, h4 h hs]
theorem bM2 (h : Nat → Bool) {s : Nat} (hs : s < 4) : nI (cMk h) ||| ((1 : Int32) <<< (nI s &&& 31)) = nI (cMk (va_up h s true)) := by
  obtain ⟨z0, z1, z2, z3⟩ := cM4_set (h 0) (h 1) (h 2) (h 3)
  rcases lt4 hs with rfl | rfl | rfl | rfl
  · rw [cMk_4, z0]; rfl
  · rw [cMk_4, z1]; rfl
  · rw [cMk_4, z2]; rfl
  · rw [cMk_4, z3]; rfl
theorem cMk_congr {g h : Nat → Bool} (e : ∀ s, s < 4 → g s = h s) : cMk g = cMk h := by
  unfold cMk; rw [e 0 (by decide), e 1 (by decide), e 2 (by decide), e 3 (by decide)]
def cCt (h : Nat → Bool) (r : Nat → Int32) (root : Int32) : Nat := cPop (cMk (fun s => h s && decide (r s = root)))
/-- the least sender whose root came from n -/
def cFs (h : Nat → Bool) (r : Nat → Int32) (n : Nat) : Option Nat := (List.range 4).find? (fun i => h i && decide (n ≤ cCt h r (r i)))
def iO (o : Option Nat) : Int32 := match o with
  | none => -1
  | some i => nI i
def cGv (g : Nat → Bool) (eb : Nat → Nat) : Nat := match (List.range 4).filter g with
  | k :: l :: _ => cSv k (eb k) l (eb l)
  | _ => 0
theorem cSv_lt {k x l y : Nat} (hk : k < 4) (hl : l < 4) (hne : k ≠ l) (hx : x < 256) (hy : y < 256) : cSv k x l y < 65536 := by
  obtain ⟨h1, h2⟩ := kl_lt k hk l hl hne
  have hd := (cDv_ok (k ^^^ l) h2 h1 (x ^^^ y) (x_lt hx hy)).1
  have hp : cSvP k x l y < 256 := x_lt hx (cTm_lt k hk _ hd)
  have hq := x_lt hp hd
  unfold cSv
  omega
theorem nB_1 (b : Bool) : nB b = 1 ↔ b = true := by cases b <;> decide
theorem nB_0 (b : Bool) : nB b = 0 ↔ b = false := by cases b <;> decide
/-- the class's Roots: its object at a, its array behind it -/
def rRt (X : xPar) (w : xW) (a : Nat) (h : Nat → Bool) (r : Nat → Int32) : Prop := w.2.2 a = some (.inr (6, [.ref (a + 1), .int (nI (cMk h))])) ∧ aI X w (a + 1) 4 r
theorem aI.kept {X : xPar} {w w' : xW} {a n : Nat} {g : Nat → Int32} (h : aI X w a n g) (e : w'.2.2 a = w.2.2 a) : aI X w' a n g := by
  obtain ⟨f, h1, h2⟩ := h
  exact ⟨f, e.trans h1, h2⟩
theorem rRt.kept {X : xPar} {w w' : xW} {a : Nat} {h : Nat → Bool} {r : Nat → Int32} (hR : rRt X w a h r) (h0 : w'.2.2 a = w.2.2 a) (h1 : w'.2.2 (a + 1) = w.2.2 (a + 1)) : rRt X w' a h r := ⟨h0.trans hR.1, hR.2.kept h1⟩
theorem rRt.congr {X : xPar} {w : xW} {a : Nat} {h h' : Nat → Bool} {r r' : Nat → Int32} (hR : rRt X w a h r) (e : ∀ s, s < 4 → h s = h' s) (e2 : ∀ s, s < 4 → r s = r' s) : rRt X w a h' r' := by
  obtain ⟨h1, f, h2, h3⟩ := hR
  exact ⟨by rw [← cMk_congr e]; exact h1, f, h2, fun j hj => (h3 j hj).trans (e2 j hj)⟩
section RT
variable {X : xPar} {w : xW} {P : Option Value → xW → Prop} {a : Nat} {h : Nat → Bool} {r : Nat → Int32}
theorem s_Rt_isFrom {ss : Int32} {s : Nat} (hss : ss = nI s) (hs : s < 4) (hR : rRt X w a h r) (hP : P (some (.int (nB (h s)))) w) : xE (xGG X) 0 m_Rt_isFrom 0 [(0, .ref a), (1, .int ss)] [] w P := by
  subst hss
  have g1 := hR.1
  refine x_aload_n 1 rfl d_Rt_isFrom_0 rfl ?_
  refine x_get 4 rfl f_Rt_15 d_Rt_isFrom_1 g1 rfl ?_
  refine x_iload_n 5 rfl d_Rt_isFrom_4 rfl ?_
  refine x_ishr 6 rfl d_Rt_isFrom_5 ?_
  refine x_iconst 7 rfl d_Rt_isFrom_6 1 (by decide) ?_
  refine x_iand 8 rfl d_Rt_isFrom_7 ?_
  refine x_iconst 9 rfl d_Rt_isFrom_8 1 (by decide) ?_
  rw [bM1 h hs]
  refine x_icmp_ne 16 12 rfl d_Rt_isFrom_9 (by decide) (fun hc => ?_) (fun hc => ?_)
  · refine x_iconst 17 rfl d_Rt_isFrom_16 0 (by decide) ?_
    refine x_zret d_Rt_isFrom_17 rfl (by decide) ?_
    have : h s = false := by cases e : h s with
      | false => rfl
      | true => rw [e] at hc; exact absurd rfl hc
    rw [this] at hP
    exact hP
  · refine x_iconst 13 rfl d_Rt_isFrom_12 1 (by decide) ?_
    refine x_goto d_Rt_isFrom_13 17 (by decide) ?_
    refine x_zret d_Rt_isFrom_17 rfl (by decide) ?_
    rw [(nB_1 _).mp hc] at hP
    exact hP
theorem s_Rt_put {ss root : Int32} {s : Nat} (hss : ss = nI s) (hs : s < 4) (hR : rRt X w a h r) (hP : ∀ w', rRt X w' a (va_up h s true) (va_up r s root) → fr w w' a (a + 2) → P none w') : xE (xGG X) 0 m_Rt_put 0 [(0, .ref a), (1, .int ss), (2, .int root)] [] w P := by
  subst hss
  obtain ⟨g1, f, g2, g3⟩ := hR
  refine x_aload_n 1 rfl d_Rt_put_0 rfl ?_
  refine x_get 4 rfl f_Rt_9 d_Rt_put_1 g1 rfl ?_
  refine x_iload_n 5 rfl d_Rt_put_4 rfl ?_
  refine x_iload_n 6 rfl d_Rt_put_5 rfl ?_
  refine x_iast 7 rfl d_Rt_put_6 g2 (t0 := 0) rfl (vp_in_nI hs (by decide)) ?_
  rw [nI_clamp (by omega)]
  have k1 : (xset w (a + 1) (.inl (X.2.2.2.1 0, 4, .inl (upd f s root)))).2.2 a = some (.inr (6, [.ref (a + 1), .int (nI (cMk h))])) := by rw [xset_ne _ _ (by omega)]; exact g1
  refine x_aload_n 8 rfl d_Rt_put_7 rfl ?_
  refine x_dup 9 rfl d_Rt_put_8 rfl ?_
  refine x_get 12 rfl f_Rt_15 d_Rt_put_9 k1 rfl ?_
  refine x_iconst 13 rfl d_Rt_put_12 1 (by decide) ?_
  refine x_iload_n 14 rfl d_Rt_put_13 rfl ?_
  refine x_ishl 15 rfl d_Rt_put_14 ?_
  refine x_ior 16 rfl d_Rt_put_15 ?_
  rw [bM2 h hs]
  refine x_put 19 rfl p_Rt_15 (fun _ => by first | rfl | contradiction) d_Rt_put_16 k1 rfl rfl (Nat.le_of_ble_eq_true rfl) ?_
  refine x_vret d_Rt_put_19 rfl ?_
  refine hP _ ⟨xset_at _ _ _, upd f s root, ?_, fun j hj => ?_⟩ (((fr.rf w a (a + 2)).set _ (by omega) (by omega)).set _ (by omega) (by omega))
  · rw [xset_ne _ _ (by omega), xset_at]
  · simp only [upd, va_up]
    split
    · rfl
    · exact g3 j hj
theorem s_Rt_sendersOf {root : Int32} (hR : rRt X w a h r) (hP : P (some (.int (nI (cMk (fun s => h s && decide (r s = root)))))) w) : xE (xGG X) 1 m_Rt_sendersOf 0 [(0, .ref a), (1, .int root)] [] w P := by
  have hR0 := hR
  obtain ⟨g1, f, g2, g3⟩ := hR
  have loop : ∀ (n i : Nat) (cc ff : Int32), cc = nI i → i + n = 4 → ff = nI (cMk (fun s => decide (s < i) && (h s && decide (r s = root)))) → xE (xGG X) 1 m_Rt_sendersOf 4 [(0, .ref a), (1, .int root), (2, .int ff), (3, .int cc)] [] w P := by
    intro n
    induction n with
    | zero =>
      intro i cc ff hcc hi hff
      have hi4 : i = 4 := by omega
      subst hi4 hcc hff
      refine x_iload_n 5 rfl d_Rt_sendersOf_4 rfl ?_
      refine x_iconst 6 rfl d_Rt_sendersOf_5 4 (by decide) ?_
      refine x_icmp_ge 39 9 rfl d_Rt_sendersOf_6 (by decide) (fun hc => ?_) (fun hc => absurd (by decide) hc)
      refine x_iload_n 40 rfl d_Rt_sendersOf_39 rfl ?_
      refine x_iret d_Rt_sendersOf_40 rfl ?_
      rw [cMk_congr (h := fun s => h s && decide (r s = root)) (fun s hs => by simp [hs])]
      exact hP
    | succ n ih =>
      intro i cc ff hcc hi hff
      subst hcc
      have hi4 : i < 4 := by omega
      have skip : (h i && decide (r i = root)) = false → ff = nI (cMk (fun s => decide (s < i + 1) && (h s && decide (r s = root)))) := by
        intro e
        rw [hff, cMk_congr (fun s hs => ?_)]
        by_cases z : s = i
        · subst z; simp only [e, Bool.and_false]
        · rw [show decide (s < i + 1) = decide (s < i) by congr 1; exact propext ⟨fun _ => by omega, fun _ => by omega⟩]
      refine x_iload_n 5 rfl d_Rt_sendersOf_4 rfl ?_
      refine x_iconst 6 rfl d_Rt_sendersOf_5 4 (by decide) ?_
      refine x_icmp_ge 39 9 rfl d_Rt_sendersOf_6 (by decide) (fun hc => absurd hc (nI_ge (a := i) (b := 4) (by omega) (by decide))) (fun hc => ?_)
      refine x_aload_n 10 rfl d_Rt_sendersOf_9 rfl ?_
      refine x_iload_n 11 rfl d_Rt_sendersOf_10 rfl ?_
      refine y_callV 14 rfl [_] _ rfl d_Rt_sendersOf_11 g1 rfl c_Rt_19 rfl (Nat.le_of_ble_eq_true rfl) (Nat.le_of_ble_eq_true rfl) (Nat.le_of_ble_eq_true rfl) (s_Rt_isFrom rfl hi4 hR0 ?_)
      refine x_if_eq 33 17 rfl d_Rt_sendersOf_14 (by decide) (fun hc => ?_) (fun hc => ?_)
      · refine x_iinc 36 rfl d_Rt_sendersOf_33 rfl 1 (by decide) (by decide) ?_
        refine x_goto d_Rt_sendersOf_36 4 (by decide) ?_
        exact xE.fit (ih (i + 1) _ _ (nI_succ i).symm (by omega) (skip (by rw [(nB_0 _).mp hc]; rfl))) rfl
      · have hh : h i = true := by cases e : h i with
          | true => rfl
          | false => rw [e] at hc; exact absurd rfl hc
        refine x_aload_n 18 rfl d_Rt_sendersOf_17 rfl ?_
        refine x_get 21 rfl f_Rt_9 d_Rt_sendersOf_18 g1 rfl ?_
        refine x_iload_n 22 rfl d_Rt_sendersOf_21 rfl ?_
        refine x_iald 23 rfl d_Rt_sendersOf_22 g2 (t0 := 0) rfl (vp_in_nI hi4 (by decide)) ?_
        refine x_iload_n 24 rfl d_Rt_sendersOf_23 rfl ?_
        rw [nI_clamp (by omega), g3 i hi4]
        refine x_icmp_ne 33 27 rfl d_Rt_sendersOf_24 (by decide) (fun hc => ?_) (fun hc => ?_)
        · refine x_iinc 36 rfl d_Rt_sendersOf_33 rfl 1 (by decide) (by decide) ?_
          refine x_goto d_Rt_sendersOf_36 4 (by decide) ?_
          exact xE.fit (ih (i + 1) _ _ (nI_succ i).symm (by omega) (skip (by simp [hc]))) rfl
        · refine x_iload_n 28 rfl d_Rt_sendersOf_27 rfl ?_
          refine x_iconst 29 rfl d_Rt_sendersOf_28 1 (by decide) ?_
          refine x_iload_n 30 rfl d_Rt_sendersOf_29 rfl ?_
          refine x_ishl 31 rfl d_Rt_sendersOf_30 ?_
          refine x_ior 32 rfl d_Rt_sendersOf_31 ?_
          refine x_istore_n 33 rfl d_Rt_sendersOf_32 (by decide) ?_
          refine x_iinc 36 rfl d_Rt_sendersOf_33 rfl 1 (by decide) (by decide) ?_
          refine x_goto d_Rt_sendersOf_36 4 (by decide) ?_
          refine xE.fit (ih (i + 1) _ _ (nI_succ i).symm (by omega) ?_) rfl
          rw [hff, bM2 _ hi4, cMk_congr (fun s hs => ?_)]
          simp only [va_up]
          by_cases z : s = i
          · subst z; simp [hh, hc]
          · rw [if_neg z, show decide (s < i + 1) = decide (s < i) by congr 1; exact propext ⟨fun _ => by omega, fun _ => by omega⟩]
  refine x_iconst 1 rfl d_Rt_sendersOf_0 0 (by decide) ?_
  refine x_istore_n 2 rfl d_Rt_sendersOf_1 (by decide) ?_
  refine x_iconst 3 rfl d_Rt_sendersOf_2 0 (by decide) ?_
  refine x_istore_n 4 rfl d_Rt_sendersOf_3 (by decide) ?_
  exact xE.fit (loop 4 0 0 0 rfl rfl (by simp [cMk, nI])) rfl
theorem s_Rt_leastOfShared {nn : Int32} {n : Nat} (hnn : nn = nI n) (hn : n < 16) (hR : rRt X w a h r) (hP : P (some (.int (iO (cFs h r n)))) w) : xE (xGG X) 2 m_Rt_leastOfShared 0 [(0, .ref a), (1, .int nn)] [] w P := by
  subst hnn
  have hR0 := hR
  obtain ⟨g1, f, g2, g3⟩ := hR
  have loop : ∀ (m i : Nat) (cc : Int32), cc = nI i → i + m = 4 → (∀ j, j < i → (h j && decide (n ≤ cCt h r (r j))) = false) → xE (xGG X) 2 m_Rt_leastOfShared 2 [(0, .ref a), (1, .int (nI n)), (2, .int cc)] [] w P := by
    intro m
    induction m with
    | zero =>
      intro i cc hcc hi hj
      have hi4 : i = 4 := by omega
      subst hi4 hcc
      refine x_iload_n 3 rfl d_Rt_leastOfShared_2 rfl ?_
      refine x_iconst 4 rfl d_Rt_leastOfShared_3 4 (by decide) ?_
      refine x_icmp_ge 40 7 rfl d_Rt_leastOfShared_4 (by decide) (fun hc => ?_) (fun hc => absurd (by decide) hc)
      refine x_iconst 41 rfl d_Rt_leastOfShared_40 (-1) (by decide) ?_
      refine x_iret d_Rt_leastOfShared_41 rfl ?_
      have : cFs h r n = none := List.find?_eq_none.mpr (fun x hx => by rw [hj x (List.mem_range.mp hx)]; decide)
      rw [this] at hP
      exact hP
    | succ m ih =>
      intro i cc hcc hi hj
      subst hcc
      have hi4 : i < 4 := by omega
      have next : (h i && decide (n ≤ cCt h r (r i))) = false → ∀ j, j < i + 1 → (h j && decide (n ≤ cCt h r (r j))) = false := fun e j hj2 => by
        by_cases z : j = i
        · subst z; exact e
        · exact hj j (by omega)
      refine x_iload_n 3 rfl d_Rt_leastOfShared_2 rfl ?_
      refine x_iconst 4 rfl d_Rt_leastOfShared_3 4 (by decide) ?_
      refine x_icmp_ge 40 7 rfl d_Rt_leastOfShared_4 (by decide) (fun hc => absurd hc (nI_ge (a := i) (b := 4) (by omega) (by decide))) (fun hc => ?_)
      refine x_aload_n 8 rfl d_Rt_leastOfShared_7 rfl ?_
      refine x_iload_n 9 rfl d_Rt_leastOfShared_8 rfl ?_
      refine y_callV 12 rfl [_] _ rfl d_Rt_leastOfShared_9 g1 rfl c_Rt_19 rfl (Nat.le_of_ble_eq_true rfl) (Nat.le_of_ble_eq_true rfl) (Nat.le_of_ble_eq_true rfl) (s_Rt_isFrom rfl hi4 hR0 ?_)
      refine x_if_eq 34 15 rfl d_Rt_leastOfShared_12 (by decide) (fun hc => ?_) (fun hc => ?_)
      · refine x_iinc 37 rfl d_Rt_leastOfShared_34 rfl 1 (by decide) (by decide) ?_
        refine x_goto d_Rt_leastOfShared_37 2 (by decide) ?_
        exact xE.fit (ih (i + 1) _ (nI_succ i).symm (by omega) (next (by rw [(nB_0 _).mp hc]; rfl))) rfl
      · have hh : h i = true := by cases e : h i with
          | true => rfl
          | false => rw [e] at hc; exact absurd rfl hc
        refine x_aload_n 16 rfl d_Rt_leastOfShared_15 rfl ?_
        refine x_aload_n 17 rfl d_Rt_leastOfShared_16 rfl ?_
        refine x_get 20 rfl f_Rt_9 d_Rt_leastOfShared_17 g1 rfl ?_
        refine x_iload_n 21 rfl d_Rt_leastOfShared_20 rfl ?_
        refine x_iald 22 rfl d_Rt_leastOfShared_21 g2 (t0 := 0) rfl (vp_in_nI hi4 (by decide)) ?_
        rw [nI_clamp (by omega), g3 i hi4]
        refine y_callV 25 rfl [_] _ rfl d_Rt_leastOfShared_22 g1 rfl c_Rt_23 rfl (Nat.le_of_ble_eq_true rfl) (Nat.le_of_ble_eq_true rfl) (Nat.le_of_ble_eq_true rfl) (s_Rt_sendersOf hR0 ?_)
        refine y_call 28 rfl [_] _ rfl d_Rt_leastOfShared_25 c_Rt_27 rfl (Nat.le_of_ble_eq_true rfl) (Nat.le_of_ble_eq_true rfl) (Nat.le_of_ble_eq_true rfl) (s_It_bitCount rfl (cMk_lt _) ?_)
        refine x_iload_n 29 rfl d_Rt_leastOfShared_28 rfl ?_
        have hle := cPop_le (cMk (fun s => h s && decide (r s = r i)))
        refine x_icmp_lt 34 32 rfl d_Rt_leastOfShared_29 (by decide) (fun hc => ?_) (fun hc => ?_)
        · refine x_iinc 37 rfl d_Rt_leastOfShared_34 rfl 1 (by decide) (by decide) ?_
          refine x_goto d_Rt_leastOfShared_37 2 (by decide) ?_
          refine xE.fit (ih (i + 1) _ (nI_succ i).symm (by omega) (next ?_)) rfl
          have := (nI_ltI (by omega) (by omega)).mp hc
          rw [hh, Bool.true_and, decide_eq_false_iff_not]
          unfold cCt
          omega
        · refine x_iload_n 33 rfl d_Rt_leastOfShared_32 rfl ?_
          refine x_iret d_Rt_leastOfShared_33 rfl ?_
          have hge : n ≤ cCt h r (r i) := by
            by_cases z : n ≤ cCt h r (r i)
            · exact z
            · exact absurd (nI_lt (by unfold cCt at z; omega) (by omega)) hc
          have : cFs h r n = some i := by
            unfold cFs
            rw [List.find?_range_eq_some]
            exact ⟨by simp [hh, hge], List.mem_range.mpr hi4, fun j hj2 => by rw [hj j hj2]; decide⟩
          rw [this] at hP
          exact hP
  refine x_iconst 1 rfl d_Rt_leastOfShared_0 0 (by decide) ?_
  refine x_istore_n 2 rfl d_Rt_leastOfShared_1 (by decide) ?_
  exact xE.fit (loop 4 0 0 rfl rfl (fun j hj => absurd hj (Nat.not_lt_zero j))) rfl
end RT
