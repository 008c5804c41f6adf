/-! AN AGREEMENT GOES ON -/
section AG4
variable {X : xPar} {sb L : Nat} {xs : Nat → Int32} {tI tE mi nb dyn c0 s0 mo me e i a : Nat} {t : Int32} {q : Nat → List sMg} {α : sA} {w : xW} {P : Option Value → xW → Prop}
theorem oA.step {y : sA × List sMg} {f : sA → sA × List sMg} {w' : xW} (h : oA X tE nb dyn c0 s0 (mo + y.2.length) me e i a t (qMs q y.2) (f y.1) w') : oA X tE nb dyn c0 s0 mo me e i a t q (aSeq y f) w' := by
  obtain ⟨h1, h2⟩ := h
  refine ⟨?_, h2⟩
  show rNt X tE nb dyn c0 s0 (mo + (y.2 ++ (f y.1).2).length) (qMs q (y.2 ++ (f y.1).2)) w'
  rw [List.length_append, ← Nat.add_assoc, ← qMs_app]
  exact h1
theorem oA.same {y : sA × List sMg} {w' : xW} (h : oA X tE nb dyn c0 s0 mo me e i a t q y w') : oA X tE nb dyn c0 s0 (mo + y.2.length) me e i a t (qMs q y.2) (y.1, []) w' := ⟨by rw [qMs_nil]; exact h.1, h.2⟩
theorem aCv_in {me e i : Nat} {α : sA} {bit : Nat} : (aCv me e i α bit).1.1 = α.1 ∧ (aCv me e i α bit).1.2 0 = α.2 0 ∧ (aCv me e i α bit).2.length ≤ 1 := by
  unfold aCv
  split
  · exact ⟨rfl, rfl, by simp⟩
  · exact ⟨rfl, va_up_ne _ _ (by omega), by simp⟩
theorem aVt_in {me e i : Nat} {α : sA} {bit : Nat} : (aVt me e i α bit).1.1 = α.1 ∧ (aVt me e i α bit).1.2 0 = α.2 0 ∧ (aVt me e i α bit).2.length ≤ 1 := by
  unfold aVt
  split
  · exact aCv_in
  · exact ⟨rfl, rfl, by simp⟩
theorem aCg_in {me e i : Nat} {α : sA} {bit : Nat} : (aCg me e i α bit).1.1 0 = α.1 0 ∧ (aCg me e i α bit).1.2 0 = α.2 0 ∧ (aCg me e i α bit).2.length ≤ 1 := by
  unfold aCg
  split
  · exact ⟨rfl, by unfold aSetG; dsimp only; rw [va_up_ne _ _ (by decide)], by simp⟩
  · exact ⟨by dsimp only; rw [va_up_ne _ _ (by omega)], by unfold aSetG; dsimp only; rw [va_up_ne _ _ (by decide)], by simp⟩
theorem aGt_in {me e i : Nat} {α : sA} {bit : Nat} : (aGt me e i α bit).1.1 0 = α.1 0 ∧ (aGt me e i α bit).1.2 0 = α.2 0 ∧ (aGt me e i α bit).2.length ≤ 1 := by
  unfold aGt
  split
  · exact aCg_in
  · exact ⟨rfl, rfl, by simp⟩
theorem aFin_in {t : Int32} {e i : Nat} {α : sA} : (aFin t e i α).1 0 = α.1 0 := by
  unfold aFin
  split
  · dsimp only; rw [va_up_ne _ _ (by decide)]
  · rfl
/-- the loop's turn over bit: vote if two have voted -/
theorem s_goOn_vote (hX : xS X sb L xs tI tE mi) {cc bb : Int32} {bit : Nat} (hbb : bb = nI bit) (hb : bit < 2) (hin : α.1 0 = true) (hmo : mo < 90000) (hN : rNt X tE nb dyn c0 s0 mo q w) (hR : rAg X nb me e i t a α w) (ha : nb + 10 ≤ a) (had : a + 3 ≤ dyn) (h : ∀ w', oA X tE nb dyn c0 s0 mo me e i a t q (aVt me e i α bit) w' → frS X nb dyn a (a + 3) w w' → xE (xGG X) 9 m_Ag_goOn 32 [(0, .ref a), (1, .int cc), (2, .int (nI (bit + 1)))] [] w' P) : xE (xGG X) 9 m_Ag_goOn 32 [(0, .ref a), (1, .int cc), (2, .int bb)] [] w P := by
  subst hbb
  have g1 := hR.1
  have hle : aV α bit ≤ 4 := cPop_le _
  refine x_iload_n 33 rfl d_Ag_goOn_32 rfl ?_
  refine x_iconst 34 rfl d_Ag_goOn_33 2 (by decide) ?_
  refine x_icmp_ge 57 37 rfl d_Ag_goOn_34 (by decide) (fun hc => absurd hc (nI_ge (a := bit) (b := 2) hb (by decide))) (fun hc => ?_)
  refine x_aload_n 38 rfl d_Ag_goOn_37 rfl ?_
  refine x_iload_n 39 rfl d_Ag_goOn_38 rfl ?_
  refine y_callV 42 rfl [_] _ rfl d_Ag_goOn_39 g1 rfl c_Ag_70 rfl (Nat.le_of_ble_eq_true rfl) (Nat.le_of_ble_eq_true rfl) (Nat.le_of_ble_eq_true rfl) (s_Ag_voters rfl hb hin hR ?_)
  refine x_iconst 43 rfl d_Ag_goOn_42 2 (by decide) ?_
  refine x_icmp_lt 51 46 rfl d_Ag_goOn_43 (by decide) (fun hc => ?_) (fun hc => ?_)
  · have h5 := (nI_ltI (b := 2) (by omega) (by decide)).mp hc
    refine x_iinc 54 rfl d_Ag_goOn_51 rfl 1 (by decide) (by decide) ?_
    refine x_goto d_Ag_goOn_54 32 (by decide) ?_
    rw [aVt, if_neg (by omega)] at h
    rw [nI_1]; exact xE.fit (h w ⟨by rw [qMs_nil]; exact hN, hR⟩ (frS.rf _ _ _ _ _ _)) rfl
  · have h5 : 2 ≤ aV α bit := by
      by_cases z : 2 ≤ aV α bit
      · exact z
      · exact absurd (nI_lt (b := 2) (by omega) (by decide)) hc
    rw [aVt, if_pos h5] at h
    refine x_aload_n 47 rfl d_Ag_goOn_46 rfl ?_
    refine x_iload_n 48 rfl d_Ag_goOn_47 rfl ?_
    refine y_callV 51 rfl [_] _ rfl d_Ag_goOn_48 g1 rfl c_Ag_66 rfl (Nat.le_of_ble_eq_true rfl) (Nat.le_of_ble_eq_true rfl) (Nat.le_of_ble_eq_true rfl) (s_Ag_sendVote hX rfl hb hin hmo hN hR ha had (fun w' k1 k2 => ?_))
    refine x_iinc 54 rfl d_Ag_goOn_51 rfl 1 (by decide) (by decide) ?_
    refine x_goto d_Ag_goOn_54 32 (by decide) ?_
    rw [nI_1]; exact xE.fit (h w' k1 k2) rfl
theorem s_goOn_good (hX : xS X sb L xs tI tE mi) {cc bb : Int32} {bit : Nat} (hbb : bb = nI bit) (hb : bit < 2) (hin : α.1 0 = true) (hmo : mo < 90000) (hN : rNt X tE nb dyn c0 s0 mo q w) (hR : rAg X nb me e i t a α w) (ha : nb + 10 ≤ a) (had : a + 3 ≤ dyn) (h : ∀ w', oA X tE nb dyn c0 s0 mo me e i a t q (aGt me e i α bit) w' → frS X nb dyn a (a + 3) w w' → xE (xGG X) 9 m_Ag_goOn 59 [(0, .ref a), (1, .int cc), (2, .int (nI (bit + 1)))] [] w' P) : xE (xGG X) 9 m_Ag_goOn 59 [(0, .ref a), (1, .int cc), (2, .int bb)] [] w P := by
  subst hbb
  have g1 := hR.1
  have hle : aV α bit ≤ 4 := cPop_le _
  refine x_iload_n 60 rfl d_Ag_goOn_59 rfl ?_
  refine x_iconst 61 rfl d_Ag_goOn_60 2 (by decide) ?_
  refine x_icmp_ge 84 64 rfl d_Ag_goOn_61 (by decide) (fun hc => absurd hc (nI_ge (a := bit) (b := 2) hb (by decide))) (fun hc => ?_)
  refine x_aload_n 65 rfl d_Ag_goOn_64 rfl ?_
  refine x_iload_n 66 rfl d_Ag_goOn_65 rfl ?_
  refine y_callV 69 rfl [_] _ rfl d_Ag_goOn_66 g1 rfl c_Ag_70 rfl (Nat.le_of_ble_eq_true rfl) (Nat.le_of_ble_eq_true rfl) (Nat.le_of_ble_eq_true rfl) (s_Ag_voters rfl hb hin hR ?_)
  refine x_iconst 70 rfl d_Ag_goOn_69 3 (by decide) ?_
  refine x_icmp_lt 78 73 rfl d_Ag_goOn_70 (by decide) (fun hc => ?_) (fun hc => ?_)
  · have h5 := (nI_ltI (b := 3) (by omega) (by decide)).mp hc
    refine x_iinc 81 rfl d_Ag_goOn_78 rfl 1 (by decide) (by decide) ?_
    refine x_goto d_Ag_goOn_81 59 (by decide) ?_
    rw [aGt, if_neg (by omega)] at h
    rw [nI_1]; exact xE.fit (h w ⟨by rw [qMs_nil]; exact hN, hR⟩ (frS.rf _ _ _ _ _ _)) rfl
  · have h5 : 3 ≤ aV α bit := by
      by_cases z : 3 ≤ aV α bit
      · exact z
      · exact absurd (nI_lt (b := 3) (by omega) (by decide)) hc
    rw [aGt, if_pos h5] at h
    refine x_aload_n 74 rfl d_Ag_goOn_73 rfl ?_
    refine x_iload_n 75 rfl d_Ag_goOn_74 rfl ?_
    refine y_callV 78 rfl [_] _ rfl d_Ag_goOn_75 g1 rfl c_Ag_74 rfl (Nat.le_of_ble_eq_true rfl) (Nat.le_of_ble_eq_true rfl) (Nat.le_of_ble_eq_true rfl) (s_Ag_makeGood hX rfl hb hin hmo hN hR ha had (fun w' k1 k2 => ?_))
    refine x_iinc 81 rfl d_Ag_goOn_78 rfl 1 (by decide) (by decide) ?_
    refine x_goto d_Ag_goOn_81 59 (by decide) ?_
    rw [nI_1]; exact xE.fit (h w' k1 k2) rfl
/-- a turn, up to the count of the sures -/
theorem s_goOn_turn (hX : xS X sb L xs tI tE mi) {cc : Int32} (hin : α.1 0 = true) (hmo : mo + 5 < 90000) (hN : rNt X tE nb dyn c0 s0 mo q w) (hR : rAg X nb me e i t a α w) (ha : nb + 10 ≤ a) (had : a + 3 ≤ dyn) (h : ∀ w', oA X tE nb dyn c0 s0 mo me e i a t q (aTurn me e i α) w' → frS X nb dyn a (a + 3) w w' → xE (xGG X) 9 m_Ag_goOn 84 [(0, .ref a), (1, .int cc)] [] w' P) : xE (xGG X) 9 m_Ag_goOn 22 [(0, .ref a), (1, .int cc)] [] w P := by
  have g1 := hR.1
  have hes : iR (α.1 0) (α.2 1) = nI (α.2 1) := by rw [hin]; rfl
  refine x_aload_n 23 rfl d_Ag_goOn_22 rfl ?_
  refine x_aload_n 24 rfl d_Ag_goOn_23 rfl ?_
  refine x_get 27 rfl f_Ag_22 d_Ag_goOn_24 g1 rfl ?_
  rw [hes]
  refine y_callV 30 rfl [_] _ rfl d_Ag_goOn_27 g1 rfl c_Ag_66 rfl (Nat.le_of_ble_eq_true rfl) (Nat.le_of_ble_eq_true rfl) (Nat.le_of_ble_eq_true rfl) (s_Ag_sendVote hX rfl hR.2.2.2.2.1 hin (by omega) hN hR ha had (fun w1 k1 f1 => ?_))
  refine x_iconst 31 rfl d_Ag_goOn_30 0 (by decide) ?_
  refine x_istore_n 32 rfl d_Ag_goOn_31 (by decide) ?_
  generalize hy1 : aCv me e i α (α.2 1) = y1 at k1
  have hb1 := aCv_in (me := me) (e := e) (i := i) (α := α) (bit := α.2 1)
  rw [hy1] at hb1
  have hi1 : y1.1.1 0 = true := by rw [hb1.1]; exact hin
  refine xE.fit (s_goOn_vote (cc := cc) hX (bit := 0) (bb := 0) rfl (by decide) hi1 (by omega) k1.1 k1.2 ha had (fun w2 k2 f2 => ?_)) rfl
  have k2 := k2.step (y := y1) (f := fun z => aVt me e i z 0)
  generalize hy2 : aSeq y1 (fun z => aVt me e i z 0) = y2 at k2
  have hb2 := aVt_in (me := me) (e := e) (i := i) (α := y1.1) (bit := 0)
  have hi2 : y2.1.1 0 = true := by rw [← hy2]; show (aVt me e i y1.1 0).1.1 0 = true; rw [hb2.1]; exact hi1
  have hl2 : y2.2.length ≤ 2 := by rw [← hy2]; show (y1.2 ++ (aVt me e i y1.1 0).2).length ≤ 2; rw [List.length_append]; omega
  refine s_goOn_vote (cc := cc) hX (bit := 1) rfl (by decide) hi2 (by omega) k2.1 k2.2 ha had (fun w3 k3 f3 => ?_)
  have k3 := k3.step (y := y2) (f := fun z => aVt me e i z 1)
  generalize hy3 : aSeq y2 (fun z => aVt me e i z 1) = y3 at k3
  have hb3 := aVt_in (me := me) (e := e) (i := i) (α := y2.1) (bit := 1)
  have hi3 : y3.1.1 0 = true := by rw [← hy3]; show (aVt me e i y2.1 1).1.1 0 = true; rw [hb3.1]; exact hi2
  have hl3 : y3.2.length ≤ 3 := by rw [← hy3]; show (y2.2 ++ (aVt me e i y2.1 1).2).length ≤ 3; rw [List.length_append]; omega
  refine x_iload_n 33 rfl d_Ag_goOn_32 rfl ?_
  refine x_iconst 34 rfl d_Ag_goOn_33 2 (by decide) ?_
  refine x_icmp_ge 57 37 rfl d_Ag_goOn_34 (by decide) (fun hc => ?_) (fun hc => absurd (by decide) hc)
  refine x_iconst 58 rfl d_Ag_goOn_57 0 (by decide) ?_
  refine x_istore_n 59 rfl d_Ag_goOn_58 (by decide) ?_
  refine xE.fit (s_goOn_good (cc := cc) hX (bit := 0) (bb := 0) rfl (by decide) hi3 (by omega) k3.1 k3.2 ha had (fun w4 k4 f4 => ?_)) rfl
  have k4 := k4.step (y := y3) (f := fun z => aGt me e i z 0)
  generalize hy4 : aSeq y3 (fun z => aGt me e i z 0) = y4 at k4
  have hb4 := aGt_in (me := me) (e := e) (i := i) (α := y3.1) (bit := 0)
  have hi4 : y4.1.1 0 = true := by rw [← hy4]; show (aGt me e i y3.1 0).1.1 0 = true; rw [hb4.1]; exact hi3
  have hl4 : y4.2.length ≤ 4 := by rw [← hy4]; show (y3.2 ++ (aGt me e i y3.1 0).2).length ≤ 4; rw [List.length_append]; omega
  refine s_goOn_good (cc := cc) hX (bit := 1) rfl (by decide) hi4 (by omega) k4.1 k4.2 ha had (fun w5 k5 f5 => ?_)
  have k5 := k5.step (y := y4) (f := fun z => aGt me e i z 1)
  refine x_iload_n 60 rfl d_Ag_goOn_59 rfl ?_
  refine x_iconst 61 rfl d_Ag_goOn_60 2 (by decide) ?_
  refine x_icmp_ge 84 64 rfl d_Ag_goOn_61 (by decide) (fun hc => ?_) (fun hc => absurd (by decide) hc)
  refine xE.fit (h w5 ?_ (f1.tr (f2.tr (f3.tr (f4.tr f5))))) rfl
  rw [← hy4, ← hy3, ← hy2, ← hy1] at k5
  exact k5
theorem aTurn_in {me e i : Nat} {α : sA} : (aTurn me e i α).1.1 0 = α.1 0 ∧ (aTurn me e i α).2.length ≤ 5 := by
  unfold aTurn aSeq
  dsimp only
  have h1 := aCv_in (me := me) (e := e) (i := i) (α := α) (bit := α.2 1)
  have h2 := aVt_in (me := me) (e := e) (i := i) (α := (aCv me e i α (α.2 1)).1) (bit := 0)
  have h3 := aVt_in (me := me) (e := e) (i := i) (α := (aVt me e i (aCv me e i α (α.2 1)).1 0).1) (bit := 1)
  have h4 := aGt_in (me := me) (e := e) (i := i) (α := (aVt me e i (aVt me e i (aCv me e i α (α.2 1)).1 0).1 1).1) (bit := 0)
  have h5 := aGt_in (me := me) (e := e) (i := i) (α := (aGt me e i (aVt me e i (aVt me e i (aCv me e i α (α.2 1)).1 0).1 1).1 0).1) (bit := 1)
  refine ⟨by rw [h5.1, h4.1, h3.1, h2.1, h1.1], ?_⟩
  simp only [List.length_append]
  omega
theorem s_Ag_goOn (hX : xS X sb L xs tI tE mi) (he : e < 4) (hi : i < 4) (hmo : mo + 40 < 90000) (hN : rNt X tE nb dyn c0 s0 mo q w) (hR : rAg X nb me e i t a α w) (ha : nb + 10 ≤ a) (had : a + 3 ≤ dyn) (h : ∀ w', oA X tE nb dyn c0 s0 mo me e i a t q (aGo me e i t 6 α) w' → frS X nb dyn a (a + 3) w w' → P none w') : xE (xGG X) 9 m_Ag_goOn 0 [(0, .ref a)] [] w P := by
  have loop : ∀ (n k : Nat) (cc : Int32) (α : sA) (mo : Nat) (q : Nat → List sMg) (w1 : xW), cc = nI k → k + n = 6 → mo + 5 * n + 5 < 90000 → rNt X tE nb dyn c0 s0 mo q w1 → rAg X nb me e i t a α w1 → (∀ w', oA X tE nb dyn c0 s0 mo me e i a t q (aGo me e i t n α) w' → frS X nb dyn a (a + 3) w1 w' → P none w') → xE (xGG X) 9 m_Ag_goOn 2 [(0, .ref a), (1, .int cc)] [] w1 P := by
    intro n
    induction n with
    | zero =>
      intro k cc α mo q w1 hcc hk hmo hN hR h
      have hk6 : k = 6 := by omega
      subst hk6 hcc
      refine x_iload_n 3 rfl d_Ag_goOn_2 rfl ?_
      refine x_bipush 5 rfl d_Ag_goOn_3 6 (by decide) ?_
      refine x_icmp_ge 110 8 rfl d_Ag_goOn_5 (by decide) (fun hc => ?_) (fun hc => absurd (by decide) hc)
      refine x_vret d_Ag_goOn_110 rfl ?_
      exact h w1 ⟨by rw [show (aGo me e i t 0 α).2 = [] from rfl, qMs_nil]; exact hN, hR⟩ (frS.rf _ _ _ _ _ _)
    | succ n ih =>
      intro k cc α mo q w1 hcc hk hmo hN hR h
      subst hcc
      have g1 := hR.1
      have stop : (α.1 0 && !α.1 1) = false → P none w1 := by
        intro z
        have e1 : aGo me e i t (n + 1) α = (α, []) := by rw [aGo, if_neg (by rw [z]; decide)]
        rw [e1] at h
        exact h w1 ⟨by rw [qMs_nil]; exact hN, hR⟩ (frS.rf _ _ _ _ _ _)
      refine x_iload_n 3 rfl d_Ag_goOn_2 rfl ?_
      refine x_bipush 5 rfl d_Ag_goOn_3 6 (by decide) ?_
      refine x_icmp_ge 110 8 rfl d_Ag_goOn_5 (by decide) (fun hc => absurd hc (nI_ge (a := k) (b := 6) (by omega) (by decide))) (fun hc => ?_)
      refine x_aload_n 9 rfl d_Ag_goOn_8 rfl ?_
      refine y_callV 12 rfl [] _ rfl d_Ag_goOn_9 g1 rfl c_Ag_58 rfl (Nat.le_of_ble_eq_true rfl) (Nat.le_of_ble_eq_true rfl) (Nat.le_of_ble_eq_true rfl) (s_Ag_hasInput hR ?_)
      refine x_if_eq 110 15 rfl d_Ag_goOn_12 (by decide) (fun hc => ?_) (fun hc => ?_)
      · refine x_vret d_Ag_goOn_110 rfl ?_
        exact stop (by rw [(nB_0 _).mp hc]; rfl)
      have hin := nB_ne hc
      refine x_aload_n 16 rfl d_Ag_goOn_15 rfl ?_
      refine x_get 19 rfl f_Ag_62 d_Ag_goOn_16 g1 rfl ?_
      refine x_if_ne 110 22 rfl d_Ag_goOn_19 (by decide) (fun hc2 => ?_) (fun hc2 => ?_)
      · refine x_vret d_Ag_goOn_110 rfl ?_
        exact stop (by rw [nB_ne hc2]; simp)
      have hdn := (nB_0 _).mp hc2
      have hgo : (α.1 0 && !α.1 1) = true := by rw [hin, hdn]; rfl
      have hti := aTurn_in (me := me) (e := e) (i := i) (α := α)
      refine s_goOn_turn hX hin (by omega) hN hR ha had (fun w2 k2 f2 => ?_)
      rw [aGo, if_pos hgo] at h
      generalize hy : aTurn me e i α = y at k2 h hti
      have hiny : y.1.1 0 = true := by rw [hti.1]; exact hin
      have hg0 := aGs_le y.1 0
      have hg1 := aGs_le y.1 1
      have g2 := k2.2.1
      refine x_aload_n 85 rfl d_Ag_goOn_84 rfl ?_
      refine x_iconst 86 rfl d_Ag_goOn_85 0 (by decide) ?_
      refine y_callV 89 rfl [_] _ rfl d_Ag_goOn_86 g2 rfl c_Ag_77 rfl (Nat.le_of_ble_eq_true rfl) (Nat.le_of_ble_eq_true rfl) (Nat.le_of_ble_eq_true rfl) (s_Ag_goodSures (bit := 0) rfl (by decide) hiny k2.2 ?_)
      refine x_aload_n 90 rfl d_Ag_goOn_89 rfl ?_
      refine x_iconst 91 rfl d_Ag_goOn_90 1 (by decide) ?_
      refine y_callV 94 rfl [_] _ rfl d_Ag_goOn_91 g2 rfl c_Ag_77 rfl (Nat.le_of_ble_eq_true rfl) (Nat.le_of_ble_eq_true rfl) (Nat.le_of_ble_eq_true rfl) (s_Ag_goodSures (bit := 1) rfl (by decide) hiny k2.2 ?_)
      refine x_iadd 95 rfl d_Ag_goOn_94 ?_
      refine x_iconst 96 rfl d_Ag_goOn_95 3 (by decide) ?_
      rw [nI_add]
      refine x_icmp_ge 100 99 rfl d_Ag_goOn_96 (by decide) (fun hc3 => ?_) (fun hc3 => ?_)
      · have h3 : ¬ aGs y.1 0 + aGs y.1 1 < 3 := fun z => absurd hc3 (nI_ge (b := 3) z (by decide))
        rw [if_neg h3] at h
        refine x_aload_n 101 rfl d_Ag_goOn_100 rfl ?_
        refine y_callV 104 rfl [] _ rfl d_Ag_goOn_101 g2 rfl c_Ag_80 rfl (Nat.le_of_ble_eq_true rfl) (Nat.le_of_ble_eq_true rfl) (Nat.le_of_ble_eq_true rfl) (s_Ag_finishRound he hi hiny k2.2 (fun w3 k3 f3 => ?_))
        refine x_iinc 107 rfl d_Ag_goOn_104 rfl 1 (by decide) (by decide) ?_
        refine x_goto d_Ag_goOn_107 2 (by decide) ?_
        refine xE.fit (ih (k + 1) _ (aFin t e i y.1) (mo + y.2.length) (qMs q y.2) w3 (nI_succ k).symm (by omega) (by omega) (k2.1.own f3 k2.2.cells ha had) k3 (fun w4 k4 f4 => ?_)) rfl
        exact h w4 (oA.step (y := (aFin t e i y.1, y.2)) k4) (f2.tr ((fr.S nb dyn f3 k2.2.cells).tr f4))
      · have h3 : aGs y.1 0 + aGs y.1 1 < 3 := by
          by_cases z : aGs y.1 0 + aGs y.1 1 < 3
          · exact z
          · exact absurd (nI_le (a := 3) (by omega) (by omega)) hc3
        rw [if_pos h3] at h
        refine x_vret d_Ag_goOn_99 rfl ?_
        exact h w2 k2 f2
  refine x_iconst 1 rfl d_Ag_goOn_0 0 (by decide) ?_
  refine x_istore_n 2 rfl d_Ag_goOn_1 (by decide) ?_
  exact xE.fit (loop 6 0 0 α mo q w rfl rfl (by omega) hN hR h) rfl
end AG4
