/-! A NODE -/
/-- epoch (0: idle, e + 1: in e, 5: over), traitor, queue, ledger, broadcasts, agreements -/
abbrev sN : Type := Nat × Bool × List Int32 × List Int32 × (Nat → sB) × (Nat → sA)
def nB' (ν : sN) (e i : Nat) : sB := ν.2.2.2.2.1 (4 * e + i)
def nA' (ν : sN) (e i : Nat) : sA := ν.2.2.2.2.2 (4 * e + i)
def fNd (nb n a : Nat) (ν : sN) : List Value := [.int (nI n), .ref nb, .ref (a + 1), .ref (a + 3), .ref (a + 5), .ref (a + 6), .int (iD ν.1), .int (nB ν.2.1)]
def nOk (ν : sN) : Prop := ν.1 ≤ 5 ∧ (∀ x, x ∈ ν.2.2.1 → cUn x < 256) ∧ ν.2.2.2.1.length ≤ 8 * (ν.1 - 1) ∧ ∀ k, k < 16 → (ν.2.2.2.2.1 k).2 2 = -1 ∨ cUn ((ν.2.2.2.2.1 k).2 2) < 65536
def rFs (X : xPar) (w : xW) (a c b : Nat) : Prop := ∃ f : Nat → Option Nat, w.2.2 a = some (.inl (X.2.2.2.1 c, 16, .inr (.inr (.inr (.inr f))))) ∧ ∀ k, k < 16 → f k = some (b + 9 * k)
def rNd (X : xPar) (nb n : Nat) (t : Int32) (a : Nat) (ν : sN) (w : xW) : Prop :=
  w.2.2 a = some (.inr (5, fNd nb n a ν)) ∧ rRw X w (a + 1) 12 ν.2.2.1 ∧ rRw X w (a + 3) 32 ν.2.2.2.1 ∧ rFs X w (a + 5) 4 (a + 7) ∧ rFs X w (a + 6) 5 (a + 13) ∧
  (∀ k, k < 16 → rBc X nb n (k / 4) (k % 4) (a + 7 + 9 * k) (ν.2.2.2.2.1 k) w) ∧ (∀ k, k < 16 → rAg X nb n (k / 4) (k % 4) t (a + 13 + 9 * k) (ν.2.2.2.2.2 k) w)
theorem iE4 : ∀ e, e < 4 → ∀ i, i < 4 → iD (e + 1) * 4 + nI i = nI (4 * e + i) := by decide +kernel
theorem iE4' : ∀ e, e < 4 → ∀ i, i < 4 → nI e * 4 + nI i = nI (4 * e + i) := by decide +kernel
theorem iDm : ∀ n, n < 5 → nI n + (-1) = iD n := by decide +kernel
theorem nIn0 : ∀ n, n < 5 → ¬ nI n < 0 := by decide +kernel
section ND
variable {X : xPar} {sb L : Nat} {xs : Nat → Int32} {tI tE mi nb dyn c0 s0 mo n e i a : Nat} {t : Int32} {q : Nat → List sMg} {ν : sN} {w : xW} {P : Option Value → xW → Prop}
theorem rNd.bc (hR : rNd X nb n t a ν w) (he : e < 4) (hi : i < 4) : rBc X nb n e i (a + 7 + 9 * (4 * e + i)) (nB' ν e i) w := by
  have := hR.2.2.2.2.2.1 (4 * e + i) (by omega)
  rw [show (4 * e + i) / 4 = e from by omega, show (4 * e + i) % 4 = i from by omega] at this
  exact this
theorem rNd.ag (hR : rNd X nb n t a ν w) (he : e < 4) (hi : i < 4) : rAg X nb n e i t (a + 13 + 9 * (4 * e + i)) (nA' ν e i) w := by
  have := hR.2.2.2.2.2.2 (4 * e + i) (by omega)
  rw [show (4 * e + i) / 4 = e from by omega, show (4 * e + i) % 4 = i from by omega] at this
  exact this
theorem s_Nd_broadcastOf {ii : Int32} (hii : ii = nI i) (hi : i < 4) (hep : ν.1 = e + 1) (he : e < 4) (hR : rNd X nb n t a ν w) (h : P (some (.ref (a + 7 + 9 * (4 * e + i)))) w) : xE (xGG X) 0 m_Nd_broadcastOf 0 [(0, .ref a), (1, .int ii)] [] w P := by
  subst hii
  have g1 := hR.1
  obtain ⟨f, g5, g6⟩ := hR.2.2.2.1
  refine x_aload_n 1 rfl d_Nd_broadcastOf_0 rfl ?_
  refine x_get 4 rfl f_Nd_25 d_Nd_broadcastOf_1 g1 rfl ?_
  refine x_aload_n 5 rfl d_Nd_broadcastOf_4 rfl ?_
  refine x_get 8 rfl f_Nd_35 d_Nd_broadcastOf_5 g1 rfl ?_
  refine x_iconst 9 rfl d_Nd_broadcastOf_8 4 (by decide) ?_
  refine x_imul 10 rfl d_Nd_broadcastOf_9 ?_
  refine x_iload_n 11 rfl d_Nd_broadcastOf_10 rfl ?_
  refine x_iadd 12 rfl d_Nd_broadcastOf_11 ?_
  rw [hep, iE4 e he i hi]
  refine x_aald 13 rfl d_Nd_broadcastOf_12 g5 (t0 := 4) rfl (vp_in_nI (by omega) (by decide)) (by rw [nI_clamp (by omega)]; exact g6 _ (by omega)) ?_
  refine x_aret d_Nd_broadcastOf_13 rfl (by first | exact Or.inl ⟨_, rfl⟩ | exact Or.inr ⟨_, rfl⟩) ?_
  exact h
theorem s_Nd_agreementOf {ii : Int32} (hii : ii = nI i) (hi : i < 4) (hep : ν.1 = e + 1) (he : e < 4) (hR : rNd X nb n t a ν w) (h : P (some (.ref (a + 13 + 9 * (4 * e + i)))) w) : xE (xGG X) 0 m_Nd_agreementOf 0 [(0, .ref a), (1, .int ii)] [] w P := by
  subst hii
  have g1 := hR.1
  obtain ⟨f, g5, g6⟩ := hR.2.2.2.2.1
  refine x_aload_n 1 rfl d_Nd_agreementOf_0 rfl ?_
  refine x_get 4 rfl f_Nd_31 d_Nd_agreementOf_1 g1 rfl ?_
  refine x_aload_n 5 rfl d_Nd_agreementOf_4 rfl ?_
  refine x_get 8 rfl f_Nd_35 d_Nd_agreementOf_5 g1 rfl ?_
  refine x_iconst 9 rfl d_Nd_agreementOf_8 4 (by decide) ?_
  refine x_imul 10 rfl d_Nd_agreementOf_9 ?_
  refine x_iload_n 11 rfl d_Nd_agreementOf_10 rfl ?_
  refine x_iadd 12 rfl d_Nd_agreementOf_11 ?_
  rw [hep, iE4 e he i hi]
  refine x_aald 13 rfl d_Nd_agreementOf_12 g5 (t0 := 5) rfl (vp_in_nI (by omega) (by decide)) (by rw [nI_clamp (by omega)]; exact g6 _ (by omega)) ?_
  refine x_aret d_Nd_agreementOf_13 rfl (by first | exact Or.inl ⟨_, rfl⟩ | exact Or.inr ⟨_, rfl⟩) ?_
  exact h
/-- the least without an input, if three are decided 1 -/
def nRf (ν : sN) (e : Nat) : Option Nat := if 3 ≤ ((List.range' 0 4).filter (fun i => decide ((nA' ν e i).2 2 = 2))).length then (List.range' 0 4).find? (fun i => !(nA' ν e i).1 0) else none
theorem r'len (p : Nat → Bool) (j m : Nat) : ((List.range' j m).filter p).length ≤ m := by
  have := List.length_filter_le p (List.range' j m)
  rw [List.length_range'] at this
  exact this
theorem s_Nd_instanceToRefuse (hep : ν.1 = e + 1) (he : e < 4) (hR : rNd X nb n t a ν w) (h : P (some (.int (iO (nRf ν e)))) w) : xE (xGG X) 1 m_Nd_instanceToRefuse 0 [(0, .ref a)] [] w P := by
  have g1 := hR.1
  have loop : ∀ (j m : Nat) (cc : Int32), cc = iD j → j + m = 4 → xE (xGG X) 1 m_Nd_instanceToRefuse 6 [(0, .ref a), (1, .int (nI ((List.range' j m).filter (fun i => decide ((nA' ν e i).2 2 = 2))).length)), (2, .int (iO ((List.range' j m).find? (fun i => !(nA' ν e i).1 0)))), (3, .int cc)] [] w P := by
    intro j
    induction j with
    | zero =>
      intro m cc hcc hm
      have hm4 : m = 4 := by omega
      subst hm4 hcc
      have hle := r'len (fun i => decide ((nA' ν e i).2 2 = 2)) 0 4
      unfold nRf at h
      generalize hcn : ((List.range' 0 4).filter (fun i => decide ((nA' ν e i).2 2 = 2))).length = cn at h hle ⊢
      generalize ho : (List.range' 0 4).find? (fun i => !(nA' ν e i).1 0) = o at h ⊢
      refine x_iload_n 7 rfl d_Nd_instanceToRefuse_6 rfl ?_
      refine x_if_lt 45 10 rfl d_Nd_instanceToRefuse_7 (by decide) (fun hc => ?_) (fun hc => absurd (by decide) hc)
      refine x_iload_n 46 rfl d_Nd_instanceToRefuse_45 rfl ?_
      refine x_iconst 47 rfl d_Nd_instanceToRefuse_46 3 (by decide) ?_
      refine x_icmp_lt 54 50 rfl d_Nd_instanceToRefuse_47 (by decide) (fun hc => ?_) (fun hc => ?_)
      · have h3 := (nI_ltI (b := 3) (by omega) (by decide)).mp hc
        refine x_iconst 55 rfl d_Nd_instanceToRefuse_54 (-1) (by decide) ?_
        refine x_iret d_Nd_instanceToRefuse_55 rfl ?_
        rw [if_neg (by omega)] at h
        exact h
      · have h3 : 3 ≤ cn := by
          by_cases z : 3 ≤ cn
          · exact z
          · exact absurd (nI_lt (b := 3) (by omega) (by decide)) hc
        refine x_iload_n 51 rfl d_Nd_instanceToRefuse_50 rfl ?_
        refine x_goto d_Nd_instanceToRefuse_51 55 (by decide) ?_
        refine x_iret d_Nd_instanceToRefuse_55 rfl ?_
        rw [if_pos h3] at h
        exact h
    | succ j ih =>
      intro m cc hcc hm
      subst hcc
      have hj : j < 4 := by omega
      have k1 := (hR.ag he hj)
      have k2 := k1.1
      have ih' := ih (m + 1) (iD j) rfl (by omega)
      have hl := r'len (fun i => decide ((nA' ν e i).2 2 = 2)) (j + 1) m
      have e1 : List.range' j (m + 1) = j :: List.range' (j + 1) m := rfl
      rw [e1, List.filter_cons, List.find?_cons] at ih'
      generalize hcn : (List.range' (j + 1) m).filter (fun i => decide ((nA' ν e i).2 2 = 2)) = cn at ih' hl ⊢
      generalize ho : (List.range' (j + 1) m).find? (fun i => !(nA' ν e i).1 0) = o at ih' ⊢
      rw [show iD (j + 1) = nI j from rfl]
      refine x_iload_n 7 rfl d_Nd_instanceToRefuse_6 rfl ?_
      refine x_if_lt 45 10 rfl d_Nd_instanceToRefuse_7 (by decide) (fun hc => absurd hc (nIn0 j (by omega))) (fun hc => ?_)
      refine x_aload_n 11 rfl d_Nd_instanceToRefuse_10 rfl ?_
      refine x_iload_n 12 rfl d_Nd_instanceToRefuse_11 rfl ?_
      refine y_callV 15 rfl [_] _ rfl d_Nd_instanceToRefuse_12 g1 rfl c_Nd_126 rfl (Nat.le_of_ble_eq_true rfl) (Nat.le_of_ble_eq_true rfl) (Nat.le_of_ble_eq_true rfl) (s_Nd_agreementOf rfl hj hep he hR ?_)
      refine x_astore 17 rfl d_Nd_instanceToRefuse_15 (by decide) ?_
      refine x_aload 19 rfl d_Nd_instanceToRefuse_17 rfl ?_
      refine x_get 22 rfl f_Nd_151 d_Nd_instanceToRefuse_19 k2 rfl ?_
      refine x_iconst 23 rfl d_Nd_instanceToRefuse_22 1 (by decide) ?_
      -- behind the count
      have tail : ∀ (c2 : List Nat), (c2 = if decide ((nA' ν e j).2 2 = 2) = true then j :: cn else cn) → xE (xGG X) 1 m_Nd_instanceToRefuse 29 [(0, .ref a), (1, .int (nI c2.length)), (2, .int (iO o)), (3, .int (nI j)), (4, .ref (a + 13 + 9 * (4 * e + j)))] [] w P := by
        intro c2 hc2
        rw [← hc2] at ih'
        refine x_aload 31 rfl d_Nd_instanceToRefuse_29 rfl ?_
        refine y_callV 34 rfl [] _ rfl d_Nd_instanceToRefuse_31 k2 rfl c_Nd_154 rfl (Nat.le_of_ble_eq_true rfl) (Nat.le_of_ble_eq_true rfl) (Nat.le_of_ble_eq_true rfl) (s_Ag_hasInput k1 ?_)
        refine x_if_ne 39 37 rfl d_Nd_instanceToRefuse_34 (by decide) (fun hc => ?_) (fun hc => ?_)
        · have hb := nB_ne hc
          refine x_iinc 42 rfl d_Nd_instanceToRefuse_39 rfl (-1) (by decide) (by decide) ?_
          refine x_goto d_Nd_instanceToRefuse_42 6 (by decide) ?_
          rw [hb] at ih'
          rw [iDm j (by omega)]
          exact xE.fit ih' rfl
        · have hb := (nB_0 _).mp hc
          refine x_iload_n 38 rfl d_Nd_instanceToRefuse_37 rfl ?_
          refine x_istore_n 39 rfl d_Nd_instanceToRefuse_38 (by decide) ?_
          refine x_iinc 42 rfl d_Nd_instanceToRefuse_39 rfl (-1) (by decide) (by decide) ?_
          refine x_goto d_Nd_instanceToRefuse_42 6 (by decide) ?_
          rw [hb] at ih'
          rw [iDm j (by omega)]
          exact xE.fit ih' rfl
      have hb3 := k1.2.2.2.2.2.1
      refine x_icmp_ne 29 26 rfl d_Nd_instanceToRefuse_23 (by decide) (fun hc => ?_) (fun hc => ?_)
      · have : ¬ (nA' ν e j).2 2 = 2 := fun z => hc ((iD_ne _ hb3 1 (by decide)).mpr z)
        exact xE.fit (tail cn (by rw [if_neg (by rw [decide_eq_true_iff]; exact this)])) rfl
      · have : (nA' ν e j).2 2 = 2 := (iD_ne _ hb3 1 (by decide)).mp hc
        refine x_iinc 29 rfl d_Nd_instanceToRefuse_26 rfl 1 (by decide) (by decide) ?_
        rw [nI_1]
        exact xE.fit (tail (j :: cn) (by rw [if_pos (by rw [decide_eq_true_iff]; exact this)])) rfl
  refine x_iconst 1 rfl d_Nd_instanceToRefuse_0 0 (by decide) ?_
  refine x_istore_n 2 rfl d_Nd_instanceToRefuse_1 (by decide) ?_
  refine x_iconst 3 rfl d_Nd_instanceToRefuse_2 (-1) (by decide) ?_
  refine x_istore_n 4 rfl d_Nd_instanceToRefuse_3 (by decide) ?_
  refine x_iconst 5 rfl d_Nd_instanceToRefuse_4 3 (by decide) ?_
  refine x_istore_n 6 rfl d_Nd_instanceToRefuse_5 (by decide) ?_
  exact xE.fit (loop 4 0 3 rfl rfl) rfl
def nMay (ν : sN) (e : Nat) : Bool := (List.range 4).all (fun i => decide ((nA' ν e i).2 2 ≠ 0) && (decide ((nA' ν e i).2 2 ≠ 2) || decide ((nB' ν e i).2 2 ≠ -1)))
theorem s_Nd_mayCommit (hep : ν.1 = e + 1) (he : e < 4) (hR : rNd X nb n t a ν w) (h : P (some (.int (nB (nMay ν e)))) w) : xE (xGG X) 1 m_Nd_mayCommit 0 [(0, .ref a)] [] w P := by
  have g1 := hR.1
  have loop : ∀ (m j : Nat) (cc : Int32), cc = nI j → j + m = 4 → (∀ k, k < j → (decide ((nA' ν e k).2 2 ≠ 0) && (decide ((nA' ν e k).2 2 ≠ 2) || decide ((nB' ν e k).2 2 ≠ -1))) = true) → xE (xGG X) 1 m_Nd_mayCommit 2 [(0, .ref a), (1, .int cc)] [] w P := by
    intro m
    induction m with
    | zero =>
      intro j cc hcc hm hk
      have hj : j = 4 := by omega
      subst hj hcc
      refine x_iload_n 3 rfl d_Nd_mayCommit_2 rfl ?_
      refine x_iconst 4 rfl d_Nd_mayCommit_3 4 (by decide) ?_
      refine x_icmp_ge 46 7 rfl d_Nd_mayCommit_4 (by decide) (fun hc => ?_) (fun hc => absurd (by decide) hc)
      refine x_iconst 47 rfl d_Nd_mayCommit_46 1 (by decide) ?_
      refine x_zret d_Nd_mayCommit_47 rfl (by decide) ?_
      rw [show nMay ν e = true from ?_] at h
      · exact h
      · unfold nMay
        rw [List.all_eq_true]
        exact fun k hk4 => hk k (List.mem_range.mp hk4)
    | succ m ih =>
      intro j cc hcc hm hk
      subst hcc
      have hj : j < 4 := by omega
      have k1 := hR.ag he hj
      have k2 := k1.1
      have k3 := (hR.bc he hj).1
      have hb3 := k1.2.2.2.2.2.1
      have no : ¬ (decide ((nA' ν e j).2 2 ≠ 0) && (decide ((nA' ν e j).2 2 ≠ 2) || decide ((nB' ν e j).2 2 ≠ -1))) = true → P (some (.int 0)) w := by
        intro z
        rw [show nMay ν e = false from ?_] at h
        · exact h
        · unfold nMay
          rw [List.all_eq_false]
          exact ⟨j, List.mem_range.mpr hj, z⟩
      have go : ∀ lc, xlk lc 0 = some (.ref a) → xlk lc 1 = some (.int (nI j)) → (decide ((nA' ν e j).2 2 ≠ 0) && (decide ((nA' ν e j).2 2 ≠ 2) || decide ((nB' ν e j).2 2 ≠ -1))) = true → xE (xGG X) 1 m_Nd_mayCommit 40 lc [] w P := by
        intro lc l0 l1 z
        refine xE.fit (lc' := [(0, .ref a), (1, .int (nI j))]) ?_ (by simp only [List.map_cons, List.map_nil, l0, l1])
        refine x_iinc 43 rfl d_Nd_mayCommit_40 rfl 1 (by decide) (by decide) ?_
        refine x_goto d_Nd_mayCommit_43 2 (by decide) ?_
        rw [nI_1]
        refine xE.fit (ih (j + 1) _ rfl (by omega) (fun k hk2 => ?_)) rfl
        by_cases zz : k = j
        · subst zz; exact z
        · exact hk k (by omega)
      refine x_iload_n 3 rfl d_Nd_mayCommit_2 rfl ?_
      refine x_iconst 4 rfl d_Nd_mayCommit_3 4 (by decide) ?_
      refine x_icmp_ge 46 7 rfl d_Nd_mayCommit_4 (by decide) (fun hc => absurd hc (nI_ge (a := j) (b := 4) hj (by decide))) (fun hc => ?_)
      refine x_aload_n 8 rfl d_Nd_mayCommit_7 rfl ?_
      refine x_iload_n 9 rfl d_Nd_mayCommit_8 rfl ?_
      refine y_callV 12 rfl [_] _ rfl d_Nd_mayCommit_9 g1 rfl c_Nd_126 rfl (Nat.le_of_ble_eq_true rfl) (Nat.le_of_ble_eq_true rfl) (Nat.le_of_ble_eq_true rfl) (s_Nd_agreementOf rfl hj hep he hR ?_)
      refine x_get 15 rfl f_Nd_151 d_Nd_mayCommit_12 k2 rfl ?_
      refine x_istore_n 16 rfl d_Nd_mayCommit_15 (by decide) ?_
      refine x_iload_n 17 rfl d_Nd_mayCommit_16 rfl ?_
      refine x_iconst 18 rfl d_Nd_mayCommit_17 (-1) (by decide) ?_
      refine x_icmp_eq 38 21 rfl d_Nd_mayCommit_18 (by decide) (fun hc => ?_) (fun hc => ?_)
      · have z := (iD_m1 _ hb3).mp hc
        refine x_iconst 39 rfl d_Nd_mayCommit_38 0 (by decide) ?_
        refine x_zret d_Nd_mayCommit_39 rfl (by decide) ?_
        exact no (by rw [z]; simp)
      have z0 : ¬ (nA' ν e j).2 2 = 0 := fun z => hc ((iD_m1 _ hb3).mpr z)
      refine x_iload_n 22 rfl d_Nd_mayCommit_21 rfl ?_
      refine x_iconst 23 rfl d_Nd_mayCommit_22 1 (by decide) ?_
      refine x_icmp_ne 40 26 rfl d_Nd_mayCommit_23 (by decide) (fun hc => ?_) (fun hc => ?_)
      · have : ¬ (nA' ν e j).2 2 = 2 := fun z => hc ((iD_ne _ hb3 1 (by decide)).mpr z)
        exact go _ rfl rfl (by simp [z0, this])
      have z2 : (nA' ν e j).2 2 = 2 := (iD_ne _ hb3 1 (by decide)).mp hc
      refine x_aload_n 27 rfl d_Nd_mayCommit_26 rfl ?_
      refine x_iload_n 28 rfl d_Nd_mayCommit_27 rfl ?_
      refine y_callV 31 rfl [_] _ rfl d_Nd_mayCommit_28 g1 rfl c_Nd_122 rfl (Nat.le_of_ble_eq_true rfl) (Nat.le_of_ble_eq_true rfl) (Nat.le_of_ble_eq_true rfl) (s_Nd_broadcastOf rfl hj hep he hR ?_)
      refine x_get 34 rfl f_Nd_139 d_Nd_mayCommit_31 k3 rfl ?_
      refine x_iconst 35 rfl d_Nd_mayCommit_34 (-1) (by decide) ?_
      refine x_icmp_ne 40 38 rfl d_Nd_mayCommit_35 (by decide) (fun hc => ?_) (fun hc => ?_)
      · exact go _ rfl rfl (by simp [z2, hc])
      · refine x_iconst 39 rfl d_Nd_mayCommit_38 0 (by decide) ?_
        refine x_zret d_Nd_mayCommit_39 rfl (by decide) ?_
        exact no (by rw [z2, hc]; simp)
  refine x_iconst 1 rfl d_Nd_mayCommit_0 0 (by decide) ?_
  refine x_istore_n 2 rfl d_Nd_mayCommit_1 (by decide) ?_
  exact xE.fit (loop 4 0 0 rfl rfl (fun k hk => absurd hk (by omega))) rfl
end ND
