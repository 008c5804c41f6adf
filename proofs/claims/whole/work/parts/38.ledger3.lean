/-! THE LEDGER: THE REST -/
theorem toInt_c (x : Int32) : x.toInt = if 2 * cUn x < 2 ^ 32 then (cUn x : Int) else (cUn x : Int) - 2 ^ 32 := BitVec.toInt_eq_toNat_cond _
theorem toInt_nI {c : Nat} (hc : c < 2 ^ 31) : (nI c).toInt = (c : Int) := by
  rw [toInt_c, cUn_nI (by omega), if_pos (by omega)]
theorem sw_out {x : Int32} {c : Nat} (hc : c < 2 ^ 31) (h : ∀ j, j ≤ c → x ≠ nI j) : x.toInt < 0 ∨ (c : Int) < x.toInt := by
  by_cases h1 : x.toInt < 0
  · exact Or.inl h1
  · by_cases h2 : (c : Int) < x.toInt
    · exact Or.inr h2
    · have := cUn_le (x := x) hc (by rw [Int32.le_iff_toInt_le, show (0 : Int32).toInt = 0 from rfl]; omega) (by rw [Int32.le_iff_toInt_le, toInt_nI hc]; omega)
      exact absurd (nI_cUn x).symm (h _ this)
def lAns (l : List Int32) (k : Int32) : Int32 := if k = -1 then nI l.length else if 0 ≤ k ∧ k ≤ nI l.length - 1 then l.getD k.toNatClampNeg 0 else -1
def lIn1 (β : sB) (α : sA) (what : Int32) : Int32 := if what = 0 then (if β.1 1 = true then 1 else 0) + (if β.1 2 = true then 2 else 0) + (if β.2 2 = -1 then 0 else 4) else if what = 1 then β.2 2 else if what = 2 then iR (α.1 0) (α.2 0) else if what = 3 then iR (α.1 0) (α.2 1) else if what = 4 then iD (α.2 2) else if what = 5 then nB (α.1 1) else if what = 6 then nI (α.2 3) else -1
def lIns (σ : sL) (nn ii what : Int32) : Int32 := if (lNode nn && lNode ii && decide (1 ≤ (σ.2.1 (cUn nn)).1 ∧ (σ.2.1 (cUn nn)).1 ≤ 4)) = true then lIn1 (nB' (σ.2.1 (cUn nn)) ((σ.2.1 (cUn nn)).1 - 1) (cUn ii)) (nA' (σ.2.1 (cUn nn)) ((σ.2.1 (cUn nn)).1 - 1) (cUn ii)) what else -1
def lCoin (t : Int32) (ee ii rr : Int32) : Int32 := if (lNode ee && lNode ii && decide (0 ≤ rr ∧ rr ≤ 5)) = true then nI (cCoin t (cUn ee) (cUn ii) (cUn rr)) else -1
theorem iDep : ∀ p, p < 6 → ((0 ≤ iD p ∧ iD p ≤ 3) ↔ (1 ≤ p ∧ p ≤ 4)) := by decide +kernel
section LD3
variable {X : xPar} {sb L : Nat} {xs : Nat → Int32} {tI tE mi b dyn c0 s0 mo n : Nat} {t : Int32} {σ : sL} {w : xW} {P : Option Value → xW → Prop}
theorem s_El_epoch {nn : Int32} (hL : rLd X tE b dyn c0 s0 mo t σ w) (h : P (some (.int (if lNode nn = true then iD (σ.2.1 (cUn nn)).1 else -1))) w) : xE (xGG X) 2 m_El_epoch 0 [(0, .ref b), (1, .int nn)] [] w P := by
  obtain ⟨h1, h2, g1, ⟨f, g5, g6⟩, h6, h7⟩ := hL
  refine x_iload_n 1 rfl d_El_epoch_0 rfl ?_
  refine y_call 4 rfl [_] _ rfl d_El_epoch_1 c_El_30 rfl (Nat.le_of_ble_eq_true rfl) (Nat.le_of_ble_eq_true rfl) (Nat.le_of_ble_eq_true rfl) (s_El_isNode ?_)
  refine x_if_eq 19 7 rfl d_El_epoch_4 (by decide) (fun hc => ?_) (fun hc => ?_)
  · refine x_iconst 20 rfl d_El_epoch_19 (-1) (by decide) ?_
    refine x_iret d_El_epoch_20 rfl ?_
    rw [if_neg (by unfold lNode; rw [(nB_0 _).mp hc]; decide)] at h
    exact h
  have y1 : lNode nn = true := nB_ne hc
  have hn := lNode_lt y1
  rw [if_pos y1] at h
  have e1 : nn = nI (cUn nn) := (nI_cUn nn).symm
  have g2 := (h6 _ hn).1
  refine x_aload_n 8 rfl d_El_epoch_7 rfl ?_
  refine x_get 11 rfl f_El_23 d_El_epoch_8 g1 rfl ?_
  refine x_iload_n 12 rfl d_El_epoch_11 rfl ?_
  refine x_aald 13 rfl d_El_epoch_12 g5 (t0 := 3) rfl (by rw [e1]; exact vp_in_nI hn (by decide)) (by rw [e1, nI_clamp (by omega)]; exact g6 _ hn) ?_
  refine x_get 16 rfl f_El_82 d_El_epoch_13 g2 rfl ?_
  refine x_goto d_El_epoch_16 20 (by decide) ?_
  refine x_iret d_El_epoch_20 rfl ?_
  exact h
theorem s_El_ledger {nn k : Int32} (hL : rLd X tE b dyn c0 s0 mo t σ w) (h : P (some (.int (if lNode nn = true then lAns (σ.2.1 (cUn nn)).2.2.2.1 k else -1))) w) : xE (xGG X) 3 m_El_ledger 0 [(0, .ref b), (1, .int nn), (2, .int k)] [] w P := by
  obtain ⟨h1, h2, g1, ⟨f, g5, g6⟩, h6, h7⟩ := hL
  refine x_iload_n 1 rfl d_El_ledger_0 rfl ?_
  refine y_call 4 rfl [_] _ rfl d_El_ledger_1 c_El_30 rfl (Nat.le_of_ble_eq_true rfl) (Nat.le_of_ble_eq_true rfl) (Nat.le_of_ble_eq_true rfl) (s_El_isNode ?_)
  refine x_if_eq 23 7 rfl d_El_ledger_4 (by decide) (fun hc => ?_) (fun hc => ?_)
  · refine x_iconst 24 rfl d_El_ledger_23 (-1) (by decide) ?_
    refine x_iret d_El_ledger_24 rfl ?_
    rw [if_neg (by unfold lNode; rw [(nB_0 _).mp hc]; decide)] at h
    exact h
  have y1 : lNode nn = true := nB_ne hc
  have hn := lNode_lt y1
  rw [if_pos y1] at h
  have e1 : nn = nI (cUn nn) := (nI_cUn nn).symm
  have g2 := (h6 _ hn).1
  have hC := (h6 _ hn).2.2.1
  refine x_aload_n 8 rfl d_El_ledger_7 rfl ?_
  refine x_get 11 rfl f_El_23 d_El_ledger_8 g1 rfl ?_
  refine x_iload_n 12 rfl d_El_ledger_11 rfl ?_
  refine x_aald 13 rfl d_El_ledger_12 g5 (t0 := 3) rfl (by rw [e1]; exact vp_in_nI hn (by decide)) (by rw [e1, nI_clamp (by omega)]; exact g6 _ hn) ?_
  refine x_get 16 rfl f_El_85 d_El_ledger_13 g2 rfl ?_
  refine x_iload_n 17 rfl d_El_ledger_16 rfl ?_
  refine y_callV 20 rfl [_] _ rfl d_El_ledger_17 hC.1 rfl c_El_89 rfl (Nat.le_of_ble_eq_true rfl) (Nat.le_of_ble_eq_true rfl) (Nat.le_of_ble_eq_true rfl) (s_Rw_answer hC ?_)
  refine x_goto d_El_ledger_20 24 (by decide) ?_
  refine x_iret d_El_ledger_24 rfl ?_
  exact h
theorem s_El_queue {nn k : Int32} (hL : rLd X tE b dyn c0 s0 mo t σ w) (h : P (some (.int (if lNode nn = true then lAns (σ.2.1 (cUn nn)).2.2.1 k else -1))) w) : xE (xGG X) 3 m_El_queue 0 [(0, .ref b), (1, .int nn), (2, .int k)] [] w P := by
  obtain ⟨h1, h2, g1, ⟨f, g5, g6⟩, h6, h7⟩ := hL
  refine x_iload_n 1 rfl d_El_queue_0 rfl ?_
  refine y_call 4 rfl [_] _ rfl d_El_queue_1 c_El_30 rfl (Nat.le_of_ble_eq_true rfl) (Nat.le_of_ble_eq_true rfl) (Nat.le_of_ble_eq_true rfl) (s_El_isNode ?_)
  refine x_if_eq 23 7 rfl d_El_queue_4 (by decide) (fun hc => ?_) (fun hc => ?_)
  · refine x_iconst 24 rfl d_El_queue_23 (-1) (by decide) ?_
    refine x_iret d_El_queue_24 rfl ?_
    rw [if_neg (by unfold lNode; rw [(nB_0 _).mp hc]; decide)] at h
    exact h
  have y1 : lNode nn = true := nB_ne hc
  have hn := lNode_lt y1
  rw [if_pos y1] at h
  have e1 : nn = nI (cUn nn) := (nI_cUn nn).symm
  have g2 := (h6 _ hn).1
  have hC := (h6 _ hn).2.1
  refine x_aload_n 8 rfl d_El_queue_7 rfl ?_
  refine x_get 11 rfl f_El_23 d_El_queue_8 g1 rfl ?_
  refine x_iload_n 12 rfl d_El_queue_11 rfl ?_
  refine x_aald 13 rfl d_El_queue_12 g5 (t0 := 3) rfl (by rw [e1]; exact vp_in_nI hn (by decide)) (by rw [e1, nI_clamp (by omega)]; exact g6 _ hn) ?_
  refine x_get 16 rfl f_El_94 d_El_queue_13 g2 rfl ?_
  refine x_iload_n 17 rfl d_El_queue_16 rfl ?_
  refine y_callV 20 rfl [_] _ rfl d_El_queue_17 hC.1 rfl c_El_89 rfl (Nat.le_of_ble_eq_true rfl) (Nat.le_of_ble_eq_true rfl) (Nat.le_of_ble_eq_true rfl) (s_Rw_answer hC ?_)
  refine x_goto d_El_queue_20 24 (by decide) ?_
  refine x_iret d_El_queue_24 rfl ?_
  exact h
theorem s_El_waiting {nn : Int32} (hL : rLd X tE b dyn c0 s0 mo t σ w) (h : P (some (.int (if lNode nn = true then nI (σ.2.2 (cUn nn)).length else -1))) w) : xE (xGG X) 2 m_El_waiting 0 [(0, .ref b), (1, .int nn)] [] w P := by
  obtain ⟨h1, h2, g1, ⟨f, g5, g6⟩, h6, h7⟩ := hL
  refine x_iload_n 1 rfl d_El_waiting_0 rfl ?_
  refine y_call 4 rfl [_] _ rfl d_El_waiting_1 c_El_30 rfl (Nat.le_of_ble_eq_true rfl) (Nat.le_of_ble_eq_true rfl) (Nat.le_of_ble_eq_true rfl) (s_El_isNode ?_)
  refine x_if_eq 18 7 rfl d_El_waiting_4 (by decide) (fun hc => ?_) (fun hc => ?_)
  · refine x_iconst 19 rfl d_El_waiting_18 (-1) (by decide) ?_
    refine x_iret d_El_waiting_19 rfl ?_
    rw [if_neg (by unfold lNode; rw [(nB_0 _).mp hc]; decide)] at h
    exact h
  have y1 : lNode nn = true := nB_ne hc
  have hn := lNode_lt y1
  rw [if_pos y1] at h
  have e1 : nn = nI (cUn nn) := (nI_cUn nn).symm
  have g4 := h7.2.2.2.1
  refine x_aload_n 8 rfl d_El_waiting_7 rfl ?_
  refine x_get 11 rfl f_El_17 d_El_waiting_8 g1 rfl ?_
  refine x_iload_n 12 rfl d_El_waiting_11 rfl ?_
  refine y_callV 15 rfl [_] _ rfl d_El_waiting_12 g4 rfl c_El_45 rfl (Nat.le_of_ble_eq_true rfl) (Nat.le_of_ble_eq_true rfl) (Nat.le_of_ble_eq_true rfl) (s_Nt_countFor e1 hn h7 ?_)
  refine x_goto d_El_waiting_15 19 (by decide) ?_
  refine x_iret d_El_waiting_19 rfl ?_
  exact h
theorem s_El_coin {ee ii rr : Int32} (hL : rLd X tE b dyn c0 s0 mo t σ w) (h : P (some (.int (lCoin t ee ii rr))) w) : xE (xGG X) 2 m_El_coin 0 [(0, .ref b), (1, .int ee), (2, .int ii), (3, .int rr)] [] w P := by
  obtain ⟨h1, h2, g1, ⟨f, g5, g6⟩, h6, h7⟩ := hL
  have no : ¬ (lNode ee && lNode ii && decide (0 ≤ rr ∧ rr ≤ 5)) = true → P (some (.int (-1))) w := by
    intro z
    rw [lCoin, if_neg z] at h
    exact h
  refine x_iload_n 1 rfl d_El_coin_0 rfl ?_
  refine y_call 4 rfl [_] _ rfl d_El_coin_1 c_El_69 rfl (Nat.le_of_ble_eq_true rfl) (Nat.le_of_ble_eq_true rfl) (Nat.le_of_ble_eq_true rfl) (s_El_isEpoch ?_)
  refine x_if_eq 21 7 rfl d_El_coin_4 (by decide) (fun hc => ?_) (fun hc => ?_)
  · refine x_iconst 22 rfl d_El_coin_21 (-1) (by decide) ?_
    refine x_iret d_El_coin_22 rfl ?_
    exact no (by unfold lNode; rw [(nB_0 _).mp hc]; simp)
  have y1 : lNode ee = true := nB_ne hc
  refine x_iload_n 8 rfl d_El_coin_7 rfl ?_
  refine y_call 11 rfl [_] _ rfl d_El_coin_8 c_El_30 rfl (Nat.le_of_ble_eq_true rfl) (Nat.le_of_ble_eq_true rfl) (Nat.le_of_ble_eq_true rfl) (s_El_isNode ?_)
  refine x_if_eq 21 14 rfl d_El_coin_11 (by decide) (fun hc => ?_) (fun hc => ?_)
  · refine x_iconst 22 rfl d_El_coin_21 (-1) (by decide) ?_
    refine x_iret d_El_coin_22 rfl ?_
    exact no (by rw [y1]; unfold lNode; rw [(nB_0 _).mp hc]; simp)
  have y2 : lNode ii = true := nB_ne hc
  refine x_iload_n 15 rfl d_El_coin_14 rfl ?_
  refine y_call 18 rfl [_] _ rfl d_El_coin_15 c_El_72 rfl (Nat.le_of_ble_eq_true rfl) (Nat.le_of_ble_eq_true rfl) (Nat.le_of_ble_eq_true rfl) (s_El_isRound ?_)
  refine x_if_ne 23 21 rfl d_El_coin_18 (by decide) (fun hc => ?_) (fun hc => ?_)
  rotate_left
  · refine x_iconst 22 rfl d_El_coin_21 (-1) (by decide) ?_
    refine x_iret d_El_coin_22 rfl ?_
    exact no (by rw [(nB_0 _).mp hc]; simp)
  have y3 := nB_ne hc
  have hr : cUn rr ≤ 5 := cUn_le (c := 5) (by decide) (of_decide_eq_true y3).1 (of_decide_eq_true y3).2
  rw [lCoin, if_pos (by rw [y1, y2, y3]; rfl)] at h
  refine x_aload_n 24 rfl d_El_coin_23 rfl ?_
  refine x_get 27 rfl f_El_10 d_El_coin_24 g1 rfl ?_
  refine x_iload_n 28 rfl d_El_coin_27 rfl ?_
  refine x_iload_n 29 rfl d_El_coin_28 rfl ?_
  refine x_iload_n 30 rfl d_El_coin_29 rfl ?_
  refine y_call 33 rfl [_, _, _, _] _ rfl d_El_coin_30 c_El_131 rfl (Nat.le_of_ble_eq_true rfl) (Nat.le_of_ble_eq_true rfl) (Nat.le_of_ble_eq_true rfl) (s_El_tossOf (nI_cUn ee).symm (nI_cUn ii).symm (nI_cUn rr).symm (lNode_lt y1) (lNode_lt y2) (by omega) ?_)
  refine x_iret d_El_coin_33 rfl ?_
  exact h
theorem s_El_root {x y : Int32} (h : P (some (.int (cRoot (cUn x % 256) (cUn y % 256)))) w) : xE (xGG X) 2 m_El_root 0 [(0, .ref b), (1, .int x), (2, .int y)] [] w P := by
  refine x_iload_n 1 rfl d_El_root_0 rfl ?_
  refine x_sipush 4 rfl d_El_root_1 255 (by decide) ?_
  refine x_iand 5 rfl d_El_root_4 ?_
  refine x_iload_n 6 rfl d_El_root_5 rfl ?_
  refine x_sipush 9 rfl d_El_root_6 255 (by decide) ?_
  refine x_iand 10 rfl d_El_root_9 ?_
  rw [iV8, iV8]
  refine y_call 13 rfl [_, _] _ rfl d_El_root_10 c_El_135 rfl (Nat.le_of_ble_eq_true rfl) (Nat.le_of_ble_eq_true rfl) (Nat.le_of_ble_eq_true rfl) (s_Co_proposal rfl rfl ?_)
  refine y_call 16 rfl [_] _ rfl d_El_root_13 c_El_140 rfl (Nat.le_of_ble_eq_true rfl) (Nat.le_of_ble_eq_true rfl) (Nat.le_of_ble_eq_true rfl) (s_Co_rootOf rfl (by omega) ?_)
  rw [show (cUn x % 256 + 256 * (cUn y % 256)) % 256 = cUn x % 256 from by omega, show (cUn x % 256 + 256 * (cUn y % 256)) / 256 = cUn y % 256 from by omega]
  refine x_iret d_El_root_16 rfl ?_
  exact h
theorem s_El_betray (hL : rLd X tE b dyn c0 s0 mo t σ w) (h : ∀ w', rLd X tE b dyn c0 s0 mo t (lBet σ).1 w' → frS X (b + 1) dyn b (b + 616) w w' → P (some (.int (nB (lBet σ).2))) w') : xE (xGG X) 0 m_El_betray 0 [(0, .ref b)] [] w P := by
  have hL0 := hL
  obtain ⟨h1, h2, g1, ⟨f, g5, g6⟩, h6, h7⟩ := hL
  have hR := h6 3 (by decide)
  have g2 := hR.1
  refine x_aload_n 1 rfl d_El_betray_0 rfl ?_
  refine x_get 4 rfl f_El_23 d_El_betray_1 g1 rfl ?_
  refine x_iconst 5 rfl d_El_betray_4 3 (by decide) ?_
  refine x_aald 6 rfl d_El_betray_5 g5 (t0 := 3) rfl (vp_in_nI (n := 3) (by decide) (by decide)) (g6 3 (by decide)) ?_
  refine x_get 9 rfl f_El_62 d_El_betray_6 g2 rfl ?_
  refine x_if_eq 14 12 rfl d_El_betray_9 (by decide) (fun hc => ?_) (fun hc => ?_)
  rotate_left
  · refine x_iconst 13 rfl d_El_betray_12 0 (by decide) ?_
    refine x_zret d_El_betray_13 rfl (by decide) ?_
    rw [lBet, if_pos (nB_ne hc)] at h
    exact h w hL0 (frS.rf _ _ _ _ _ _)
  have z := (nB_0 _).mp hc
  rw [lBet, if_neg (by rw [z]; decide)] at h
  refine x_aload_n 15 rfl d_El_betray_14 rfl ?_
  refine x_get 18 rfl f_El_23 d_El_betray_15 g1 rfl ?_
  refine x_iconst 19 rfl d_El_betray_18 3 (by decide) ?_
  refine x_aald 20 rfl d_El_betray_19 g5 (t0 := 3) rfl (vp_in_nI (n := 3) (by decide) (by decide)) (g6 3 (by decide)) ?_
  refine x_iconst 21 rfl d_El_betray_20 1 (by decide) ?_
  refine x_put 24 rfl p_El_62 (fun h => nomatch h) d_El_betray_21 g2 rfl rfl (Nat.le_of_ble_eq_true rfl) ?_
  generalize hw1 : xset w _ _ = w1
  have f1 : fr w w1 (b + 12 + 151 * 3) (b + 12 + 151 * 3 + 1) := by rw [← hw1]; exact (fr.rf w _ _).set _ (by omega) (by omega)
  have hc5 : ∀ x, b + 12 + 151 * 3 ≤ x → x < b + 12 + 151 * 3 + 1 → ∃ z, w.2.2 x = some z ∧ ∀ fs, z ≠ .inr (3, fs) := fun x x1 x2 => hR.cells x x1 (by omega)
  have hR1 : rNd X (b + 1) 3 t (b + 12 + 151 * 3) ((σ.2.1 3).1, true, (σ.2.1 3).2.2) w1 := hR.rows (fun x x1 x2 => f1.2.2 x (by omega)) (by rw [← hw1, xset_at]; rfl) (hR.2.1.kept (f1.2.2 _ (by omega)) (f1.2.2 _ (by omega))) (hR.2.2.1.kept (f1.2.2 _ (by omega)) (f1.2.2 _ (by omega))) rfl
  have hf := fr.S (X := X) (b + 1) dyn f1 hc5
  refine x_iconst 25 rfl d_El_betray_24 1 (by decide) ?_
  refine x_zret d_El_betray_25 rfl (by decide) ?_
  exact h w1 (hL0.upd (by decide) (hf.wide (by omega) (by omega)) (h7.own f1 hc5 (by omega) (by omega)) hR1) (hf.wide (by omega) (by omega))
theorem s_El_instance {nn ii what : Int32} (hL : rLd X tE b dyn c0 s0 mo t σ w) (hp5 : ∀ n, n < 4 → (σ.2.1 n).1 ≤ 5) (h : P (some (.int (lIns σ nn ii what))) w) : xE (xGG X) 2 m_El_instance 0 [(0, .ref b), (1, .int nn), (2, .int ii), (3, .int what)] [] w P := by
  obtain ⟨h1, h2, g1, ⟨f, g5, g6⟩, h6, h7⟩ := hL
  have no : ¬ (lNode nn && lNode ii && decide (1 ≤ (σ.2.1 (cUn nn)).1 ∧ (σ.2.1 (cUn nn)).1 ≤ 4)) = true → P (some (.int (-1))) w := by
    intro z
    rw [lIns, if_neg z] at h
    exact h
  refine x_iload_n 1 rfl d_El_instance_0 rfl ?_
  refine y_call 4 rfl [_] _ rfl d_El_instance_1 c_El_30 rfl (Nat.le_of_ble_eq_true rfl) (Nat.le_of_ble_eq_true rfl) (Nat.le_of_ble_eq_true rfl) (s_El_isNode ?_)
  refine x_if_eq 29 7 rfl d_El_instance_4 (by decide) (fun hc => ?_) (fun hc => ?_)
  · refine x_iconst 30 rfl d_El_instance_29 (-1) (by decide) ?_
    refine x_iret d_El_instance_30 rfl ?_
    exact no (by unfold lNode; rw [(nB_0 _).mp hc]; simp)
  have y1 : lNode nn = true := nB_ne hc
  have hn := lNode_lt y1
  have e1 : nn = nI (cUn nn) := (nI_cUn nn).symm
  refine x_iload_n 8 rfl d_El_instance_7 rfl ?_
  refine y_call 11 rfl [_] _ rfl d_El_instance_8 c_El_30 rfl (Nat.le_of_ble_eq_true rfl) (Nat.le_of_ble_eq_true rfl) (Nat.le_of_ble_eq_true rfl) (s_El_isNode ?_)
  refine x_if_eq 29 14 rfl d_El_instance_11 (by decide) (fun hc => ?_) (fun hc => ?_)
  · refine x_iconst 30 rfl d_El_instance_29 (-1) (by decide) ?_
    refine x_iret d_El_instance_30 rfl ?_
    exact no (by rw [y1]; unfold lNode; rw [(nB_0 _).mp hc]; simp)
  have y2 : lNode ii = true := nB_ne hc
  have hi := lNode_lt y2
  have hR := h6 _ hn
  have g2 := hR.1
  have hp := hp5 _ hn
  refine x_aload_n 15 rfl d_El_instance_14 rfl ?_
  refine x_get 18 rfl f_El_23 d_El_instance_15 g1 rfl ?_
  refine x_iload_n 19 rfl d_El_instance_18 rfl ?_
  refine x_aald 20 rfl d_El_instance_19 g5 (t0 := 3) rfl (by rw [e1]; exact vp_in_nI hn (by decide)) (by rw [e1, nI_clamp (by omega)]; exact g6 _ hn) ?_
  refine x_get 23 rfl f_El_82 d_El_instance_20 g2 rfl ?_
  refine y_call 26 rfl [_] _ rfl d_El_instance_23 c_El_69 rfl (Nat.le_of_ble_eq_true rfl) (Nat.le_of_ble_eq_true rfl) (Nat.le_of_ble_eq_true rfl) (s_El_isEpoch ?_)
  refine x_if_ne 31 29 rfl d_El_instance_26 (by decide) (fun hc => ?_) (fun hc => ?_)
  rotate_left
  · refine x_iconst 30 rfl d_El_instance_29 (-1) (by decide) ?_
    refine x_iret d_El_instance_30 rfl ?_
    refine no (fun z => ?_)
    rw [Bool.and_eq_true] at z
    have z2 := (iDep _ (by omega)).mpr (of_decide_eq_true z.2)
    have z3 := (nB_0 _).mp hc
    rw [decide_eq_true z2] at z3
    cases z3
  have y3 := (iDep _ (by omega)).mp (of_decide_eq_true (nB_ne hc))
  rw [lIns, if_pos (by rw [y1, y2, decide_eq_true y3]; rfl)] at h
  obtain ⟨e, he⟩ : ∃ e, (σ.2.1 (cUn nn)).1 = e + 1 := ⟨(σ.2.1 (cUn nn)).1 - 1, by omega⟩
  have he4 : e < 4 := by omega
  rw [he, Nat.add_sub_cancel] at h
  have hb := hR.bc he4 hi
  have hA := hR.ag he4 hi
  have k1 := hb.1
  have k2 := hA.1
  refine x_aload_n 32 rfl d_El_instance_31 rfl ?_
  refine x_get 35 rfl f_El_23 d_El_instance_32 g1 rfl ?_
  refine x_iload_n 36 rfl d_El_instance_35 rfl ?_
  refine x_aald 37 rfl d_El_instance_36 g5 (t0 := 3) rfl (by rw [e1]; exact vp_in_nI hn (by decide)) (by rw [e1, nI_clamp (by omega)]; exact g6 _ hn) ?_
  refine x_iload_n 38 rfl d_El_instance_37 rfl ?_
  refine y_callV 41 rfl [_] _ rfl d_El_instance_38 g2 rfl c_El_97 rfl (Nat.le_of_ble_eq_true rfl) (Nat.le_of_ble_eq_true rfl) (Nat.le_of_ble_eq_true rfl) (s_Nd_broadcastOf (nI_cUn ii).symm hi he he4 hR ?_)
  refine x_astore 43 rfl d_El_instance_41 (by decide) ?_
  refine x_aload_n 44 rfl d_El_instance_43 rfl ?_
  refine x_get 47 rfl f_El_23 d_El_instance_44 g1 rfl ?_
  refine x_iload_n 48 rfl d_El_instance_47 rfl ?_
  refine x_aald 49 rfl d_El_instance_48 g5 (t0 := 3) rfl (by rw [e1]; exact vp_in_nI hn (by decide)) (by rw [e1, nI_clamp (by omega)]; exact g6 _ hn) ?_
  refine x_iload_n 50 rfl d_El_instance_49 rfl ?_
  refine y_callV 53 rfl [_] _ rfl d_El_instance_50 g2 rfl c_El_101 rfl (Nat.le_of_ble_eq_true rfl) (Nat.le_of_ble_eq_true rfl) (Nat.le_of_ble_eq_true rfl) (s_Nd_agreementOf (nI_cUn ii).symm hi he he4 hR ?_)
  refine x_astore 55 rfl d_El_instance_53 (by decide) ?_
  refine x_iload_n 56 rfl d_El_instance_55 rfl ?_
  unfold lIn1 at h
  by_cases z0 : what = 0
  · subst z0
    refine x_tableIn (off := 44) (tgt := 100) d_El_instance_56 (by decide) (by decide) rfl rfl ?_
    rw [if_pos rfl] at h
    refine x_aload 102 rfl d_El_instance_100 rfl ?_
    refine y_callV 105 rfl [] _ rfl d_El_instance_102 k1 rfl c_El_105 rfl (Nat.le_of_ble_eq_true rfl) (Nat.le_of_ble_eq_true rfl) (Nat.le_of_ble_eq_true rfl) (s_Bc_progress hb ?_)
    refine x_iret d_El_instance_105 rfl ?_
    exact h
  rw [if_neg z0] at h
  by_cases z1 : what = 1
  · subst z1
    refine x_tableIn (off := 50) (tgt := 106) d_El_instance_56 (by decide) (by decide) rfl rfl ?_
    rw [if_pos rfl] at h
    refine x_aload 108 rfl d_El_instance_106 rfl ?_
    refine x_get 111 rfl f_El_111 d_El_instance_108 k1 rfl ?_
    refine x_iret d_El_instance_111 rfl ?_
    exact h
  rw [if_neg z1] at h
  by_cases z2 : what = 2
  · subst z2
    refine x_tableIn (off := 56) (tgt := 112) d_El_instance_56 (by decide) (by decide) rfl rfl ?_
    rw [if_pos rfl] at h
    refine x_aload 114 rfl d_El_instance_112 rfl ?_
    refine x_get 117 rfl f_El_114 d_El_instance_114 k2 rfl ?_
    refine x_iret d_El_instance_117 rfl ?_
    exact h
  rw [if_neg z2] at h
  by_cases z3 : what = 3
  · subst z3
    refine x_tableIn (off := 62) (tgt := 118) d_El_instance_56 (by decide) (by decide) rfl rfl ?_
    rw [if_pos rfl] at h
    refine x_aload 120 rfl d_El_instance_118 rfl ?_
    refine x_get 123 rfl f_El_119 d_El_instance_120 k2 rfl ?_
    refine x_iret d_El_instance_123 rfl ?_
    exact h
  rw [if_neg z3] at h
  by_cases z4 : what = 4
  · subst z4
    refine x_tableIn (off := 68) (tgt := 124) d_El_instance_56 (by decide) (by decide) rfl rfl ?_
    rw [if_pos rfl] at h
    refine x_aload 126 rfl d_El_instance_124 rfl ?_
    refine x_get 129 rfl f_El_122 d_El_instance_126 k2 rfl ?_
    refine x_iret d_El_instance_129 rfl ?_
    exact h
  rw [if_neg z4] at h
  by_cases z5 : what = 5
  · subst z5
    refine x_tableIn (off := 74) (tgt := 130) d_El_instance_56 (by decide) (by decide) rfl rfl ?_
    rw [if_pos rfl] at h
    refine x_aload 132 rfl d_El_instance_130 rfl ?_
    refine x_get 135 rfl f_El_125 d_El_instance_132 k2 rfl ?_
    refine x_if_eq 142 138 rfl d_El_instance_135 (by decide) (fun hc => ?_) (fun hc => ?_)
    · refine x_iconst 143 rfl d_El_instance_142 0 (by decide) ?_
      refine x_iret d_El_instance_143 rfl ?_
      rw [(nB_0 _).mp hc] at h
      exact h
    · refine x_iconst 139 rfl d_El_instance_138 1 (by decide) ?_
      refine x_goto d_El_instance_139 143 (by decide) ?_
      refine x_iret d_El_instance_143 rfl ?_
      rw [nB_ne hc] at h
      exact h
  rw [if_neg z5] at h
  by_cases z6 : what = 6
  · subst z6
    refine x_tableIn (off := 88) (tgt := 144) d_El_instance_56 (by decide) (by decide) rfl rfl ?_
    rw [if_pos rfl] at h
    refine x_aload 146 rfl d_El_instance_144 rfl ?_
    refine x_get 149 rfl f_El_128 d_El_instance_146 k2 rfl ?_
    refine x_iret d_El_instance_149 rfl ?_
    exact h
  rw [if_neg z6] at h
  refine x_tableOut (tgt := 150) d_El_instance_56 (sw_out (c := 6) (by decide) (fun j hj => ?_)) rfl ?_
  · have : j = 0 ∨ j = 1 ∨ j = 2 ∨ j = 3 ∨ j = 4 ∨ j = 5 ∨ j = 6 := by omega
    rcases this with rfl | rfl | rfl | rfl | rfl | rfl | rfl
    · exact z0
    · exact z1
    · exact z2
    · exact z3
    · exact z4
    · exact z5
    · exact z6
  refine x_iconst 151 rfl d_El_instance_150 (-1) (by decide) ?_
  refine x_iret d_El_instance_151 rfl ?_
  exact h
end LD3
