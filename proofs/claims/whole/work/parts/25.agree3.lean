/-! AGREEMENTS: ROUNDS -/
theorem nI0 {n : Nat} (h : n < 2 ^ 31) : (0 : Int32) < nI n ↔ 0 < n := nI_ltI (a := 0) (by decide) h
theorem nIle0 {n : Nat} (h : n < 2 ^ 31) : nI n ≤ 0 ↔ n = 0 := by
  have := nI_leI (a := n) (b := 0) h (by decide)
  rw [show nI 0 = 0 from rfl] at this
  rw [this]; omega
theorem aGs_le (α : sA) (bit : Nat) : aGs α bit ≤ 4 := by unfold aGs; split; exact cPop_le _; omega
theorem iD_ne : ∀ n, n < 3 → ∀ c, c < 2 → (iD n = nI c ↔ n = c + 1) := by decide +kernel
theorem iD_m1 : ∀ n, n < 3 → (iD n = -1 ↔ n = 0) := by decide +kernel
theorem aOk.next {α : sA} (ok : aOk α) (h5 : α.2 0 < 5) (hin : α.1 0 = true) : aOk (α.1, va_up (va_up (va_up α.2 0 (α.2 0 + 1)) 3 0) 4 0) := by
  obtain ⟨o1, o2, o3, o4, o5, o6, o7, o8⟩ := ok
  have ev : ∀ x, x ≠ 0 → x ≠ 3 → x ≠ 4 → va_up (va_up (va_up α.2 0 (α.2 0 + 1)) 3 0) 4 0 x = α.2 x := fun x h1 h2 h3 => by rw [va_up_ne _ _ h3, va_up_ne _ _ h2, va_up_ne _ _ h1]
  have e0 : va_up (va_up (va_up α.2 0 (α.2 0 + 1)) 3 0) 4 0 0 = α.2 0 + 1 := by rw [va_up_ne _ _ (by decide), va_up_ne _ _ (by decide), va_up_self]
  have e3 : va_up (va_up (va_up α.2 0 (α.2 0 + 1)) 3 0) 4 0 3 = 0 := by rw [va_up_ne _ _ (by decide), va_up_self]
  refine ⟨by dsimp only; rw [e0]; omega, by dsimp only; rw [ev 1 (by decide) (by decide) (by decide)]; exact o2, by dsimp only; rw [ev 2 (by decide) (by decide) (by decide)]; exact o3, by dsimp only; rw [e3]; decide, fun r hr => by dsimp only; rw [ev _ (by omega) (by omega) (by omega)]; exact o5 r hr, fun r s hr hs => by dsimp only; rw [ev _ (by omega) (by omega) (by omega)]; exact o6 r s hr hs, fun r h1 h2 => ?_, fun z => by rw [hin] at z; cases z⟩
  have h1' : α.2 0 + 1 < r := by rw [← e0]; exact h1
  refine ⟨?_, (o7 r (by omega) h2).2⟩
  dsimp only
  rw [ev _ (by omega) (by omega) (by omega)]; exact (o7 r (by omega) h2).1
section AG3
variable {X : xPar} {sb L : Nat} {xs : Nat → Int32} {tI tE mi nb dyn c0 s0 mo me e i a : Nat} {t : Int32} {q : Nat → List sMg} {α : sA} {w : xW} {P : Option Value → xW → Prop}
theorem s_Ag_enterNextRound (hin : α.1 0 = true) (h5 : α.2 0 < 5) (hR : rAg X nb me e i t a α w) (h : ∀ w', rAg X nb me e i t a (α.1, va_up (va_up (va_up α.2 0 (α.2 0 + 1)) 3 0) 4 0) w' → fr w w' a (a + 3) → P none w') : xE (xGG X) 0 m_Ag_enterNextRound 0 [(0, .ref a)] [] w P := by
  have g1 := hR.1
  have ok := hR.2.2.2
  refine x_aload_n 1 rfl d_Ag_enterNextRound_0 rfl ?_
  refine x_dup 2 rfl d_Ag_enterNextRound_1 rfl ?_
  refine x_get 5 rfl f_Ag_18 d_Ag_enterNextRound_2 g1 rfl ?_
  refine x_iconst 6 rfl d_Ag_enterNextRound_5 1 (by decide) ?_
  refine x_iadd 7 rfl d_Ag_enterNextRound_6 ?_
  refine x_put 10 rfl p_Ag_18 (fun h => nomatch h) d_Ag_enterNextRound_7 g1 rfl rfl (Nat.le_of_ble_eq_true rfl) ?_
  refine x_aload_n 11 rfl d_Ag_enterNextRound_10 rfl ?_
  refine x_iconst 12 rfl d_Ag_enterNextRound_11 0 (by decide) ?_
  refine x_put 15 rfl p_Ag_100 (fun h => nomatch h) d_Ag_enterNextRound_12 (xset_at _ _ _) rfl rfl (Nat.le_of_ble_eq_true rfl) ?_
  refine x_aload_n 16 rfl d_Ag_enterNextRound_15 rfl ?_
  refine x_iconst 17 rfl d_Ag_enterNextRound_16 0 (by decide) ?_
  refine x_put 20 rfl p_Ag_88 (fun h => nomatch h) d_Ag_enterNextRound_17 (xset_at _ _ _) rfl rfl (Nat.le_of_ble_eq_true rfl) ?_
  refine x_aload_n 21 rfl d_Ag_enterNextRound_20 rfl ?_
  refine x_iconst 22 rfl d_Ag_enterNextRound_21 0 (by decide) ?_
  refine x_put 25 rfl p_Ag_103 (fun h => nomatch h) d_Ag_enterNextRound_22 (xset_at _ _ _) rfl rfl (Nat.le_of_ble_eq_true rfl) ?_
  refine x_vret d_Ag_enterNextRound_25 rfl ?_
  refine h _ (hR.obj ?_ (fun x hx => by rw [xset_ne _ _ hx, xset_ne _ _ hx, xset_ne _ _ hx, xset_ne _ _ hx]) (fun s hs => rfl) (fun s hs => by dsimp only; rw [va_up_ne _ _ (by omega), va_up_ne _ _ (by omega), va_up_ne _ _ (by omega)]) (ok.next h5 hin)) (((((fr.rf w a (a + 3)).set _ (by omega) (by omega)).set _ (by omega) (by omega)).set _ (by omega) (by omega)).set _ (by omega) (by omega))
  have ev : ∀ x, x ≠ 0 → x ≠ 3 → x ≠ 4 → va_up (va_up (va_up α.2 0 (α.2 0 + 1)) 3 0) 4 0 x = α.2 x := fun x h1 h2 h3 => by rw [va_up_ne _ _ h3, va_up_ne _ _ h2, va_up_ne _ _ h1]
  have e0 : va_up (va_up (va_up α.2 0 (α.2 0 + 1)) 3 0) 4 0 0 = α.2 0 + 1 := by rw [va_up_ne _ _ (by decide), va_up_ne _ _ (by decide), va_up_self]
  have e3 : va_up (va_up (va_up α.2 0 (α.2 0 + 1)) 3 0) 4 0 3 = 0 := by rw [va_up_ne _ _ (by decide), va_up_self]
  have o7 := ok.2.2.2.2.2.2.1 (α.2 0 + 1) (by omega) (by omega)
  rw [xset_at]
  unfold fAg
  dsimp only
  rw [e0, e3, ev 1 (by decide) (by decide) (by decide), ev 2 (by decide) (by decide) (by decide), ev (8 + (α.2 0 + 1)) (by omega) (by omega) (by omega), o7.1, o7.2, hin]
  simp only [List.set_cons_succ, List.set_cons_zero, iR, if_true, nI_succ]
  rfl
theorem fAg_dn {nb me e i a : Nat} {t : Int32} {α : sA} : (fAg nb me e i t a α).set 10 (.int 1) = fAg nb me e i t a (va_up α.1 1 true, α.2) := by
  have ev : ∀ x, x ≠ 1 → va_up α.1 1 true x = α.1 x := fun x hx => va_up_ne _ _ hx
  unfold fAg
  dsimp only
  rw [ev 0 (by omega), ev (8 + α.2 0) (by omega), va_up_self]
  rfl
theorem aOk.dn {α : sA} (ok : aOk α) : aOk (va_up α.1 1 true, α.2) := by
  obtain ⟨o1, o2, o3, o4, o5, o6, o7, o8⟩ := ok
  refine ⟨o1, o2, o3, o4, o5, o6, fun r h1 h2 => ⟨(o7 r h1 h2).1, ?_⟩, fun z => o8 ?_⟩
  · dsimp only
    rw [va_up_ne _ _ (by omega)]; exact (o7 r h1 h2).2
  · have z' : va_up α.1 1 true 0 = false := z
    rw [va_up_ne _ _ (by decide)] at z'; exact z'
/-- the round's end, once estimate and decision stand -/
theorem s_Ag_fin2 (he : e < 4) (hi : i < 4) {α1 : sA} {w1 : xW} {cf : Bool} (hin : α.1 0 = true) (hok : aOk α) (hf : fr w w1 a (a + 3)) (hR : rAg X nb me e i t a α1 w1) (h1 : α1.1 = α.1) (h2 : α1.2 = va_up (va_up α.2 1 (aEs t e i α)) 2 (aDe t e i α)) (hcf : cf = decide (α.2 2 = cCoin t e i (α.2 0) + 1)) (h : ∀ w', rAg X nb me e i t a (aFin t e i α) w' → fr w w' a (a + 3) → P none w') : ∀ tt : Value, xE (xGG X) 1 m_Ag_finishRound 96 [(0, .ref a), (2, .int (nB cf))] [] w1 P := by
  intro _
  have g1 := hR.1
  have hin1 : α1.1 0 = true := by rw [h1]; exact hin
  have e0 : α1.2 0 = α.2 0 := by rw [h2, va_up_ne _ _ (by decide), va_up_ne _ _ (by decide)]
  have done : (α.2 2 = cCoin t e i (α.2 0) + 1 ∨ α.2 0 = 5) → xE (xGG X) 1 m_Ag_finishRound 108 [(0, .ref a), (2, .int (nB cf))] [] w1 P := by
    intro hd
    refine x_aload_n 109 rfl d_Ag_finishRound_108 rfl ?_
    refine x_iconst 110 rfl d_Ag_finishRound_109 1 (by decide) ?_
    refine x_put 113 rfl p_Ag_62 (fun h => nomatch h) d_Ag_finishRound_110 g1 rfl rfl (Nat.le_of_ble_eq_true rfl) ?_
    refine x_goto d_Ag_finishRound_113 120 (by decide) ?_
    refine x_vret d_Ag_finishRound_120 rfl ?_
    refine h _ ?_ (hf.set _ (by omega) (by omega))
    have := hR.put (α' := (va_up α1.1 1 true, α1.2)) fAg_dn (fun s hs => (va_up_ne _ _ (by omega)).symm) (fun s hs => rfl) hR.2.2.2.dn
    rw [aFin, if_pos hd, ← h1, ← h2]
    exact this
  refine x_iload_n 97 rfl d_Ag_finishRound_96 rfl ?_
  refine x_if_ne 108 100 rfl d_Ag_finishRound_97 (by decide) (fun hc => ?_) (fun hc => ?_)
  · have := nB_ne hc
    rw [hcf] at this
    exact done (Or.inl (of_decide_eq_true this))
  · have hcf0 := (nB_0 _).mp hc
    rw [hcf] at hcf0
    have hn1 := of_decide_eq_false hcf0
    refine x_aload_n 101 rfl d_Ag_finishRound_100 rfl ?_
    refine x_get 104 rfl f_Ag_18 d_Ag_finishRound_101 g1 rfl ?_
    refine x_iconst 105 rfl d_Ag_finishRound_104 5 (by decide) ?_
    rw [hin1, show iR true (α1.2 0) = nI (α1.2 0) from rfl, e0]
    refine x_icmp_ne 116 108 rfl d_Ag_finishRound_105 (by decide) (fun hc2 => ?_) (fun hc2 => ?_)
    · have h5 : ¬ α.2 0 = 5 := fun z => hc2 (by rw [z]; rfl)
      have hlt : α1.2 0 < 5 := by rw [e0]; have := hok.1; omega
      refine x_aload_n 117 rfl d_Ag_finishRound_116 rfl ?_
      refine y_callV 120 rfl [] _ rfl d_Ag_finishRound_117 g1 rfl c_Ag_110 rfl (Nat.le_of_ble_eq_true rfl) (Nat.le_of_ble_eq_true rfl) (Nat.le_of_ble_eq_true rfl) (s_Ag_enterNextRound hin1 hlt hR (fun w2 k1 k2 => ?_))
      refine x_vret d_Ag_finishRound_120 rfl ?_
      refine h w2 ?_ (hf.tr k2)
      rw [aFin, if_neg (by intro z; rcases z with z | z; exact hn1 z; exact h5 z)]
      rw [e0, h1, h2] at k1
      exact k1
    · exact done (Or.inr ((nI_eq (b := 5) (by have := hok.1; omega) (by decide)).mp hc2))
theorem s_Ag_finishRound (he : e < 4) (hi : i < 4) (hin : α.1 0 = true) (hR : rAg X nb me e i t a α w) (h : ∀ w', rAg X nb me e i t a (aFin t e i α) w' → fr w w' a (a + 3) → P none w') : xE (xGG X) 2 m_Ag_finishRound 0 [(0, .ref a)] [] w P := by
  have g1 := hR.1
  have ok := hR.2.2.2
  obtain ⟨o1, o2, o3, o4, o5, o6, o7, o8⟩ := ok
  have ok := hR.2.2.2
  have hcl := cCoin_lt t e i (α.2 0)
  have hg0 := aGs_le α 0
  have hg1 := aGs_le α 1
  have hrd : iR (α.1 0) (α.2 0) = nI (α.2 0) := by rw [hin]; rfl
  -- what comes behind 96
  have tail : ∀ (α1 : sA) (w1 : xW) (cf : Bool) (lc : List (Nat × Value)), fr w w1 a (a + 3) → rAg X nb me e i t a α1 w1 → α1.1 = α.1 → α1.2 = va_up (va_up α.2 1 (aEs t e i α)) 2 (aDe t e i α) → cf = decide (α.2 2 = cCoin t e i (α.2 0) + 1) → xlk lc 0 = some (.ref a) → xlk lc 2 = some (.int (nB cf)) → xE (xGG X) 2 m_Ag_finishRound 96 lc [] w1 P := by
    intro α1 w1 cf lc f1 r1 e1 e2 e3 l0 l2
    exact xE.fit ((s_Ag_fin2 he hi hin ok f1 r1 e1 e2 e3 h .null).mono (by decide) (fun _ _ z => z)) (by simp only [List.map_cons, List.map_nil, l0, l2])
  -- behind the choice of the estimate v, where the decision is looked at
  have dec : ∀ (v : Nat) (cf : Bool) (lc : List (Nat × Value)), ¬ (0 < aGs α 0 ∧ 0 < aGs α 1) → v = aEs t e i α → v < 2 → cf = decide (α.2 2 = cCoin t e i (α.2 0) + 1) → xlk lc 0 = some (.ref a) → xlk lc 1 = some (.int (nI (cCoin t e i (α.2 0)))) → xlk lc 2 = some (.int (nB cf)) → xE (xGG X) 2 m_Ag_finishRound 72 lc [.int (nI v), .ref a] w P := by
    intro v cf lc hng hv hv2 hcf l0 l1 l2
    refine xE.fit (lc' := [(0, .ref a), (1, .int (nI (cCoin t e i (α.2 0)))), (2, .int (nB cf))]) ?_ (by simp only [List.map_cons, List.map_nil, l0, l1, l2])
    have hR1 := hR.put (α' := (α.1, va_up α.2 1 v)) (fAg_es hin) (fun s hs => rfl) (fun s hs => (va_up_ne _ _ (by omega)).symm) (ok.es hv2)
    refine x_put 75 rfl p_Ag_22 (fun h => nomatch h) d_Ag_finishRound_72 g1 rfl rfl (Nat.le_of_ble_eq_true rfl) ?_
    generalize hw1 : xset w a _ = w1 at hR1 ⊢
    have f1 : fr w w1 a (a + 3) := by rw [← hw1]; exact (fr.rf w a (a + 3)).set _ (by omega) (by omega)
    have k1 := hR1.1
    have es1 : iR (α.1 0) (va_up α.2 1 v 1) = nI v := by rw [va_up_self, hin]; rfl
    have ed1 : va_up α.2 1 v 2 = α.2 2 := va_up_ne _ _ (by decide)
    have keepD : ¬ (aEs t e i α = cCoin t e i (α.2 0) ∧ α.2 2 = 0) → xE (xGG X) 2 m_Ag_finishRound 96 [(0, .ref a), (1, .int (nI (cCoin t e i (α.2 0)))), (2, .int (nB cf))] [] w1 P := by
      intro hz
      have hde : aDe t e i α = α.2 2 := if_neg (fun z => hz ⟨z.2.1, z.2.2⟩)
      have hR2 : rAg X nb me e i t a (α.1, va_up (va_up α.2 1 v) 2 (α.2 2)) w1 := by
        have : va_up (va_up α.2 1 v) 2 (α.2 2) = va_up α.2 1 v := by
          funext x
          by_cases z : x = 2
          · subst z; rw [va_up_self, ed1]
          · rw [va_up_ne _ _ z]
        rw [this]; exact hR1
      exact tail _ w1 cf _ f1 hR2 rfl (by dsimp only; rw [hde, hv]) hcf rfl rfl
    refine x_aload_n 76 rfl d_Ag_finishRound_75 rfl ?_
    refine x_get 79 rfl f_Ag_22 d_Ag_finishRound_76 k1 rfl ?_
    refine x_iload_n 80 rfl d_Ag_finishRound_79 rfl ?_
    rw [es1]
    refine x_icmp_ne 96 83 rfl d_Ag_finishRound_80 (by decide) (fun hc => ?_) (fun hc => ?_)
    · exact keepD (fun z => hc (by rw [hv, z.1]))
    · have hvc : v = cCoin t e i (α.2 0) := (nI_eq (by omega) (by omega)).mp hc
      refine x_aload_n 84 rfl d_Ag_finishRound_83 rfl ?_
      refine x_get 87 rfl f_Ag_25 d_Ag_finishRound_84 k1 rfl ?_
      refine x_iconst 88 rfl d_Ag_finishRound_87 (-1) (by decide) ?_
      rw [show (α.1, va_up α.2 1 v).2 2 = α.2 2 from ed1]
      refine x_icmp_ne 96 91 rfl d_Ag_finishRound_88 (by decide) (fun hc2 => ?_) (fun hc2 => ?_)
      · exact keepD (fun z => hc2 ((iD_m1 _ o3).mpr z.2))
      · have hd0 := (iD_m1 _ o3).mp hc2
        have hde : aDe t e i α = cCoin t e i (α.2 0) + 1 := if_pos ⟨hng, by rw [← hv]; exact hvc, hd0⟩
        refine x_aload_n 92 rfl d_Ag_finishRound_91 rfl ?_
        refine x_iload_n 93 rfl d_Ag_finishRound_92 rfl ?_
        refine x_put 96 rfl p_Ag_25 (fun h => nomatch h) d_Ag_finishRound_93 k1 rfl rfl (Nat.le_of_ble_eq_true rfl) ?_
        have hR2 := hR1.put (α' := (α.1, va_up (va_up α.2 1 v) 2 (cCoin t e i (α.2 0) + 1))) (fAg_de (α := (α.1, va_up α.2 1 v)) (v := cCoin t e i (α.2 0))) (fun s hs => rfl) (fun s hs => (va_up_ne _ _ (by omega)).symm) (hR1.2.2.2.de (by omega))
        exact tail _ _ cf _ (f1.set _ (by omega) (by omega)) hR2 rfl (by dsimp only; rw [hde, hv]) hcf rfl rfl
  -- behind the look at what was decided
  have mid : ∀ (cf : Bool) (lc : List (Nat × Value)), cf = decide (α.2 2 = cCoin t e i (α.2 0) + 1) → xlk lc 0 = some (.ref a) → xlk lc 1 = some (.int (nI (cCoin t e i (α.2 0)))) → xlk lc 2 = some (.int (nB cf)) → xE (xGG X) 2 m_Ag_finishRound 34 lc [] w P := by
    intro cf lc hcf l0 l1 l2
    refine xE.fit (lc' := [(0, .ref a), (1, .int (nI (cCoin t e i (α.2 0)))), (2, .int (nB cf))]) ?_ (by simp only [List.map_cons, List.map_nil, l0, l1, l2])
    have els : ¬ (0 < aGs α 0 ∧ 0 < aGs α 1) → xE (xGG X) 2 m_Ag_finishRound 58 [(0, .ref a), (1, .int (nI (cCoin t e i (α.2 0)))), (2, .int (nB cf))] [] w P := by
      intro hng
      refine x_aload_n 59 rfl d_Ag_finishRound_58 rfl ?_
      refine x_aload_n 60 rfl d_Ag_finishRound_59 rfl ?_
      refine x_iconst 61 rfl d_Ag_finishRound_60 1 (by decide) ?_
      refine y_callV 64 rfl [_] _ rfl d_Ag_finishRound_61 g1 rfl c_Ag_77 rfl (Nat.le_of_ble_eq_true rfl) (Nat.le_of_ble_eq_true rfl) (Nat.le_of_ble_eq_true rfl) (s_Ag_goodSures (bit := 1) rfl (by decide) hin hR ?_)
      refine x_if_le 71 67 rfl d_Ag_finishRound_64 (by decide) (fun hc => ?_) (fun hc => ?_)
      · have h0 := (nIle0 (by omega)).mp hc
        refine x_iconst 72 rfl d_Ag_finishRound_71 0 (by decide) ?_
        exact dec 0 cf _ hng (by rw [aEs, if_neg hng, if_neg (by omega)]) (by decide) hcf rfl rfl rfl
      · have h0 : 0 < aGs α 1 := by
          by_cases z : aGs α 1 = 0
          · exact absurd ((nIle0 (by omega)).mpr z) hc
          · omega
        refine x_iconst 68 rfl d_Ag_finishRound_67 1 (by decide) ?_
        refine x_goto d_Ag_finishRound_68 72 (by decide) ?_
        exact dec 1 cf _ hng (by rw [aEs, if_neg hng, if_pos h0]) (by decide) hcf rfl rfl rfl
    refine x_aload_n 35 rfl d_Ag_finishRound_34 rfl ?_
    refine x_iconst 36 rfl d_Ag_finishRound_35 0 (by decide) ?_
    refine y_callV 39 rfl [_] _ rfl d_Ag_finishRound_36 g1 rfl c_Ag_77 rfl (Nat.le_of_ble_eq_true rfl) (Nat.le_of_ble_eq_true rfl) (Nat.le_of_ble_eq_true rfl) (s_Ag_goodSures (bit := 0) rfl (by decide) hin hR ?_)
    refine x_if_le 58 42 rfl d_Ag_finishRound_39 (by decide) (fun hc => ?_) (fun hc => ?_)
    · have h0 := (nIle0 (by omega)).mp hc
      exact els (by omega)
    · have hp0 : 0 < aGs α 0 := by
        by_cases z : aGs α 0 = 0
        · exact absurd ((nIle0 (by omega)).mpr z) hc
        · omega
      refine x_aload_n 43 rfl d_Ag_finishRound_42 rfl ?_
      refine x_iconst 44 rfl d_Ag_finishRound_43 1 (by decide) ?_
      refine y_callV 47 rfl [_] _ rfl d_Ag_finishRound_44 g1 rfl c_Ag_77 rfl (Nat.le_of_ble_eq_true rfl) (Nat.le_of_ble_eq_true rfl) (Nat.le_of_ble_eq_true rfl) (s_Ag_goodSures (bit := 1) rfl (by decide) hin hR ?_)
      refine x_if_le 58 50 rfl d_Ag_finishRound_47 (by decide) (fun hc => ?_) (fun hc => ?_)
      · have h0 := (nIle0 (by omega)).mp hc
        exact els (by omega)
      · have hp1 : 0 < aGs α 1 := by
          by_cases z : aGs α 1 = 0
          · exact absurd ((nIle0 (by omega)).mpr z) hc
          · omega
        have hes : aEs t e i α = cCoin t e i (α.2 0) := if_pos ⟨hp0, hp1⟩
        have hde : aDe t e i α = α.2 2 := if_neg (fun z => z.1 ⟨hp0, hp1⟩)
        refine x_aload_n 51 rfl d_Ag_finishRound_50 rfl ?_
        refine x_iload_n 52 rfl d_Ag_finishRound_51 rfl ?_
        refine x_put 55 rfl p_Ag_22 (fun h => nomatch h) d_Ag_finishRound_52 g1 rfl rfl (Nat.le_of_ble_eq_true rfl) ?_
        refine x_goto d_Ag_finishRound_55 96 (by decide) ?_
        have hR1 := hR.put (α' := (α.1, va_up α.2 1 (cCoin t e i (α.2 0)))) (fAg_es hin) (fun s hs => rfl) (fun s hs => (va_up_ne _ _ (by omega)).symm) (ok.es (by omega))
        have ee : va_up (va_up α.2 1 (cCoin t e i (α.2 0))) 2 (α.2 2) = va_up α.2 1 (cCoin t e i (α.2 0)) := by
            funext x
            by_cases z : x = 2
            · subst z; rw [va_up_self, va_up_ne _ _ (by decide)]
            · rw [va_up_ne _ _ z]
        rw [← ee] at hR1
        exact tail _ _ cf _ ((fr.rf w a (a + 3)).set _ (by omega) (by omega)) hR1 rfl (by dsimp only; rw [hde, hes]) hcf rfl rfl
  refine x_aload_n 1 rfl d_Ag_finishRound_0 rfl ?_
  refine x_get 4 rfl f_Ag_41 d_Ag_finishRound_1 g1 rfl ?_
  refine x_aload_n 5 rfl d_Ag_finishRound_4 rfl ?_
  refine x_get 8 rfl f_Ag_35 d_Ag_finishRound_5 g1 rfl ?_
  refine x_aload_n 9 rfl d_Ag_finishRound_8 rfl ?_
  refine x_get 12 rfl f_Ag_38 d_Ag_finishRound_9 g1 rfl ?_
  refine x_aload_n 13 rfl d_Ag_finishRound_12 rfl ?_
  refine x_get 16 rfl f_Ag_18 d_Ag_finishRound_13 g1 rfl ?_
  rw [hrd]
  refine y_call 19 rfl [_, _, _, _] _ rfl d_Ag_finishRound_16 c_Ag_106 rfl (Nat.le_of_ble_eq_true rfl) (Nat.le_of_ble_eq_true rfl) (Nat.le_of_ble_eq_true rfl) (s_El_tossOf rfl rfl rfl he hi o1 ?_)
  refine x_istore_n 20 rfl d_Ag_finishRound_19 (by decide) ?_
  refine x_aload_n 21 rfl d_Ag_finishRound_20 rfl ?_
  refine x_get 24 rfl f_Ag_25 d_Ag_finishRound_21 g1 rfl ?_
  refine x_iload_n 25 rfl d_Ag_finishRound_24 rfl ?_
  refine x_icmp_ne 32 28 rfl d_Ag_finishRound_25 (by decide) (fun hc => ?_) (fun hc => ?_)
  · refine x_iconst 33 rfl d_Ag_finishRound_32 0 (by decide) ?_
    refine x_istore_n 34 rfl d_Ag_finishRound_33 (by decide) ?_
    exact mid false _ (decide_eq_false (fun z => hc ((iD_ne _ o3 _ hcl).mpr z))).symm rfl rfl rfl
  · refine x_iconst 29 rfl d_Ag_finishRound_28 1 (by decide) ?_
    refine x_goto d_Ag_finishRound_29 33 (by decide) ?_
    refine x_istore_n 34 rfl d_Ag_finishRound_33 (by decide) ?_
    exact mid true _ (decide_eq_true ((iD_ne _ o3 _ hcl).mp hc)).symm rfl rfl rfl
end AG3
