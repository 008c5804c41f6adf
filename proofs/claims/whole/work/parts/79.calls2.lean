/-! THE REFERENCE: RUN AND DELIVER -/
theorem nI_m1 (n : Nat) : nI (n + 1) + -1 = nI n := by rw [← nI_1, Int32.add_assoc, show (1 : Int32) + -1 = 0 from by decide, Int32.add_zero]
theorem nI_p1 {n : Nat} (h : 0 < n) : nI n - 1 = nI (n - 1) := by
  obtain ⟨m, rfl⟩ : ∃ m, n = m + 1 := ⟨n - 1, by omega⟩
  rw [Int32.sub_eq_add_neg, nI_m1, Nat.add_sub_cancel]
theorem nI_p7 {n : Nat} (h : 7 ≤ n) : nI n - 7 = nI (n - 7) := by
  obtain ⟨m, rfl⟩ : ∃ m, n = m + 7 := ⟨n - 7, by omega⟩
  rw [Int32.sub_eq_add_neg, ← nI_add, Int32.add_assoc, show nI 7 + -7 = 0 from by decide, Int32.add_zero, Nat.add_sub_cancel]
/-- the reference holds the state σ -/
def mG (X : xPar) (m0 : Nat) (t : Int32) (σ : sL) (w : xW) : Prop := ∃ (s : sS) (lg : List sPo) (M : Nat → Nat → Int32), rMo X m0 t (s.1, s.2.1, nI lg.length, s.2.2.2) M w ∧ gRL σ s lg M
section CA
variable {X : xPar} {m0 : Nat} {t : Int32} {n j : Nat} {s : sS} {M : Nat → Nat → Int32} {lg : List sPo} {p : sPo} {σ : sL} {w : xW} {P : Option Value → xW → Prop}
theorem s_Mo_reach' {nn jj : Int32} (q1 : nn = nI n) (q2 : jj = nI j) (hn : n < 4) (hj : lg[j]? = some p) (hpw : pW n p = true) (hR : rMo X m0 t (s.1, s.2.1, nI lg.length, s.2.2.2) M w) (hG : gRL σ s lg M)
    (h : ∀ w' s' M', rMo X m0 t (s'.1, s'.2.1, nI (lg.set j (p.1, p.2 + 2 ^ n) ++ pMs (nTk n t (σ.2.1 n) (pV n p)).2).length, s'.2.2.2) M' w' → gRL (lTk t n (gAt lg n j) (pV n p) σ) s' (lg.set j (p.1, p.2 + 2 ^ n) ++ pMs (nTk n t (σ.2.1 n) (pV n p)).2) M' → fr w w' m0 (m0 + 31) → P none w') : xE (xGG X) 7 m_Mo_reach 0 [(0, .ref m0), (1, .int nn), (2, .int jj)] [] w P := by
  obtain ⟨g, hN⟩ := hG.2.1 n hn
  have hp := nPot_le (σ := σ) hn
  have hl := hG.2.2.2.2.2.2.2.1
  refine s_Mo_reach (s := s) (ν := σ.2.1 n) q1 q2 hn hj hpw (hG.2.2.2.2.2.2.2.2 p (List.mem_of_getElem? hj)) (hG.2.2.2.2.1 n hn) (by omega) ⟨s.2.2.2.1, g, M, hR, hG.1, hN, nFr.rf _ _, fr.rf _ _ _, hG.2.2.1 n hn⟩ (fun w' u c m' => ?_)
  obtain ⟨gv', g', M', a1, a2, a3, a4, a5, a6⟩ := m'
  exact h w' (s.1, s.2.1, 0, gv', u, c) M' a1 (hG.take hn hj hpw a2 a3 a4 a6 nTk_tr rfl rfl) a5
theorem s_Mo_run {nn x : Int32} (hm : mG X m0 t σ w) (h : ∀ w', mG X m0 t (lRun t σ nn x).1 w' → fr w w' m0 (m0 + 31) → P (some (.int (lRun t σ nn x).2)) w') : xE (xGG X) 8 m_Mo_run 0 [(0, .ref m0), (1, .int nn), (2, .int x)] [] w P := by
  have no : ¬ (lNode nn && decide (0 ≤ x ∧ x ≤ 60)) = true → P (some (.int (-1))) w := by
    intro z
    unfold lRun at h
    rw [if_neg z] at h
    exact h w hm (fr.rf _ _ _)
  refine x_iload_n 1 rfl d_Mo_run_0 rfl ?_
  refine y_call 4 rfl [_] _ rfl d_Mo_run_1 c_Mo_136 rfl (Nat.le_of_ble_eq_true rfl) (Nat.le_of_ble_eq_true rfl) (Nat.le_of_ble_eq_true rfl) (s_Mo_isNode ?_)
  refine x_if_eq 17 7 rfl d_Mo_run_4 (by decide) (fun hc => ?_) (fun hc => ?_)
  · refine x_iconst 18 rfl d_Mo_run_17 (-1) (by decide) ?_
    refine x_iret d_Mo_run_18 rfl ?_
    exact no (by unfold lNode; rw [(nB_0 _).mp hc]; simp)
  have y1 : lNode nn = true := nB_ne hc
  refine x_iload_n 8 rfl d_Mo_run_7 rfl ?_
  refine x_if_lt 17 11 rfl d_Mo_run_8 (by decide) (fun hc => ?_) (fun hc => ?_)
  · refine x_iconst 18 rfl d_Mo_run_17 (-1) (by decide) ?_
    refine x_iret d_Mo_run_18 rfl ?_
    exact no (by rw [decide_eq_false (fun z => absurd z.1 (by rw [Int32.not_le]; exact hc))]; simp)
  have y2 : 0 ≤ x := Int32.not_lt.mp hc
  refine x_iload_n 12 rfl d_Mo_run_11 rfl ?_
  refine x_bipush 14 rfl d_Mo_run_12 60 (by decide) ?_
  refine x_icmp_le 19 17 rfl d_Mo_run_14 (by decide) (fun hc => ?_) (fun hc => ?_)
  rotate_left
  · refine x_iconst 18 rfl d_Mo_run_17 (-1) (by decide) ?_
    refine x_iret d_Mo_run_18 rfl ?_
    exact no (by rw [decide_eq_false (fun z => hc z.2)]; simp)
  have hx : cUn x ≤ 60 := cUn_le (c := 60) (by decide) y2 hc
  unfold lRun at h
  rw [if_pos (by rw [y1, decide_eq_true ⟨y2, hc⟩]; rfl)] at h
  dsimp only at h
  have hn := lNode_lt y1
  have e1 : nn = nI (cUn nn) := (nI_cUn nn).symm
  have e2 : x = nI (cUn x) := (nI_cUn x).symm
  generalize cUn nn = n at e1 hn h
  generalize cUn x = k at e2 hx h
  subst e1 e2
  have loop : ∀ (f j d : Nat) (cj cd : Int32) (σ' : sL) (s : sS) (lg : List sPo) (M : Nat → Nat → Int32) (w' : xW), cj = nI j → cd = nI d → j + f = 1700 → j ≤ lg.length → rMo X m0 t (s.1, s.2.1, nI lg.length, s.2.2.2) M w' → gRL σ' s lg M → (∀ i p, i < j → lg[i]? = some p → pW n p = false) → d ≤ k → fr w w' m0 (m0 + 31) → (∀ w2, mG X m0 t (lRn t n (k - d) σ').1 w2 → fr w w2 m0 (m0 + 31) → P (some (.int (nI (d + (lRn t n (k - d) σ').2)))) w2) → xE (xGG X) 8 m_Mo_run 24 [(0, .ref m0), (1, .int (nI n)), (2, .int (nI k)), (3, .int cd), (4, .int cj)] [] w' P := by
    intro f
    induction f with
    | zero =>
      intro j d cj cd σ' s lg M w' _ _ hf hj hR hG
      have := hG.2.2.2.2.2.2.2.1
      exact absurd hj (by omega)
    | succ f ih =>
      intro j d cj cd σ' s lg M w' hcj hcd hf hj hR hG hno hd hw h
      subst hcj hcd
      have g1 := hR.1
      have hlen := hG.2.2.2.2.2.2.2.1
      refine x_iload 26 rfl d_Mo_run_24 rfl ?_
      refine x_aload_n 27 rfl d_Mo_run_26 rfl ?_
      refine x_get 30 rfl f_Mo_147 d_Mo_run_27 g1 rfl ?_
      refine x_icmp_ge 64 33 rfl d_Mo_run_30 (by decide) (fun hc => ?_) (fun hc => ?_)
      · have z : j = lg.length := by
          by_cases z : j < lg.length
          · exact absurd hc (nI_ge (a := j) (b := lg.length) z (by omega))
          · omega
        have e3 : lRn t n (k - d) σ' = (σ', 0) := lRn_0 (by rw [hG.2.2.2.1 n hn]; exact gQ_nil (fun i p hi => hno i p (by omega))) _
        rw [e3] at h
        refine x_iload_n 65 rfl d_Mo_run_64 rfl ?_
        refine x_iret d_Mo_run_65 rfl ?_
        exact h w' ⟨s, lg, M, hR, hG⟩ hw
      have hlt : j < lg.length := by
        by_cases z : j < lg.length
        · exact z
        · exact absurd (nI_le (a := lg.length) (b := j) (by omega) (by omega)) hc
      obtain ⟨p, hp⟩ : ∃ p, lg[j]? = some p := ⟨_, List.getElem?_eq_getElem hlt⟩
      refine x_iload_n 34 rfl d_Mo_run_33 rfl ?_
      refine x_iload_n 35 rfl d_Mo_run_34 rfl ?_
      refine x_icmp_ge 64 38 rfl d_Mo_run_35 (by decide) (fun hc => ?_) (fun hc => ?_)
      · have z : k - d = 0 := by
          by_cases z : d < k
          · exact absurd hc (nI_ge (a := d) (b := k) z (by omega))
          · omega
        rw [z] at h
        refine x_iload_n 65 rfl d_Mo_run_64 rfl ?_
        refine x_iret d_Mo_run_65 rfl ?_
        exact h w' ⟨s, lg, M, hR, hG⟩ hw
      have hdk : d < k := by
        by_cases z : d < k
        · exact z
        · exact absurd (nI_le (a := k) (b := d) (by omega) (by omega)) hc
      refine x_aload_n 39 rfl d_Mo_run_38 rfl ?_
      refine x_iload 41 rfl d_Mo_run_39 rfl ?_
      refine x_iload_n 42 rfl d_Mo_run_41 rfl ?_
      refine y_callV 45 rfl [_, _] _ rfl d_Mo_run_42 g1 rfl c_Mo_150 rfl (Nat.le_of_ble_eq_true rfl) (Nat.le_of_ble_eq_true rfl) (Nat.le_of_ble_eq_true rfl) (s_Mo_waits rfl rfl hn hp hG.1 hR ?_)
      refine x_if_eq 58 48 rfl d_Mo_run_45 (by decide) (fun hc => ?_) (fun hc => ?_)
      · have z := (nB_0 _).mp hc
        refine x_iinc 61 rfl d_Mo_run_58 rfl 1 (by decide) (by decide) ?_
        refine x_goto d_Mo_run_61 24 (by decide) ?_
        rw [nI_1]
        refine xE.fit (ih (j + 1) d _ _ σ' s lg M w' rfl rfl (by omega) (by omega) hR hG (fun i q hi hq => ?_) hd hw h) rfl
        by_cases y : i = j
        · rw [y, hp] at hq
          injection hq with hq
          rw [← hq]; exact z
        · exact hno i q (by omega) hq
      have z := nB_ne hc
      have ok := (hG.1.2 j p hp).1
      have at0 : gAt lg n j = 0 := gAt_0 hno
      have hq0 : (σ'.2.2 n)[0]? = some (pV n p) := by
        rw [hG.2.2.2.1 n hn]
        have := (gQ_own hp ok.2 hn z).2
        rw [at0] at this
        exact this
      rw [lRn_s hq0 (by omega)] at h
      refine x_aload_n 49 rfl d_Mo_run_48 rfl ?_
      refine x_iload_n 50 rfl d_Mo_run_49 rfl ?_
      refine x_iload 52 rfl d_Mo_run_50 rfl ?_
      refine y_callV 55 rfl [_, _] _ rfl d_Mo_run_52 g1 rfl c_Mo_182 rfl (Nat.le_of_ble_eq_true rfl) (Nat.le_of_ble_eq_true rfl) (Nat.le_of_ble_eq_true rfl) (s_Mo_reach' rfl rfl hn hp z hR hG (fun w2 s2 M2 a1 a2 a3 => ?_))
      rw [at0] at a2
      refine x_iinc 58 rfl d_Mo_run_55 rfl 1 (by decide) (by decide) ?_
      refine x_iinc 61 rfl d_Mo_run_58 rfl 1 (by decide) (by decide) ?_
      refine x_goto d_Mo_run_61 24 (by decide) ?_
      rw [nI_1, nI_1]
      refine xE.fit (ih (j + 1) (d + 1) _ _ _ s2 _ M2 w2 rfl rfl (by omega) (by rw [List.length_append, List.length_set]; omega) a1 a2 (fun i q hi hq => ?_) (by omega) (hw.tr a3) (fun w3 b1 b2 => ?_)) rfl
      · by_cases y : i = j
        · rw [y, set_j hp] at hq
          injection hq with hq
          rw [← hq]; exact pW_set ok.2 hn z
        · exact hno i q (by omega) (set_o hp (by omega) hq)
      · have := h w3
        rw [show k - d - 1 = k - (d + 1) from by omega] at this
        have := this b1 b2
        dsimp only at this
        rw [show d + 1 + (lRn t n (k - (d + 1)) (lTk t n 0 (pV n p) σ')).2 = d + ((lRn t n (k - (d + 1)) (lTk t n 0 (pV n p) σ')).2 + 1) from by omega]
        exact this
  obtain ⟨s, lg, M, hR, hG⟩ := hm
  refine x_iconst 20 rfl d_Mo_run_19 0 (by decide) ?_
  refine x_istore_n 21 rfl d_Mo_run_20 (by decide) ?_
  refine x_iconst 22 rfl d_Mo_run_21 0 (by decide) ?_
  refine x_istore 24 rfl d_Mo_run_22 (by decide) ?_
  refine xE.fit (loop 1700 0 0 0 0 σ s lg M w rfl rfl (by omega) (by omega) hR hG (fun i p hi => absurd hi (by omega)) (by omega) (fr.rf _ _ _) (fun w2 b1 b2 => ?_)) rfl
  rw [Nat.sub_zero] at b1 ⊢
  rw [Nat.zero_add]
  exact h w2 b1 b2
theorem s_Mo_deliver {nn kk : Int32} (hm : mG X m0 t σ w) (h : ∀ w', mG X m0 t (lDel t σ nn kk).1 w' → fr w w' m0 (m0 + 31) → P (some (.int (lDel t σ nn kk).2)) w') : xE (xGG X) 8 m_Mo_deliver 0 [(0, .ref m0), (1, .int nn), (2, .int kk)] [] w P := by
  have hm0 := hm
  obtain ⟨s, lg, M, hR, hG⟩ := hm
  have g1 := hR.1
  have hlen := hG.2.2.2.2.2.2.2.1
  have no : ¬ (lNode nn && decide (0 ≤ kk ∧ kk ≤ nI (σ.2.2 (cUn nn)).length - 1)) = true → ∀ lc, xE (xGG X) 8 m_Mo_deliver 69 lc [] w P := by
    intro z lc
    refine x_iconst 70 rfl d_Mo_deliver_69 (-1) (by decide) ?_
    refine x_iret d_Mo_deliver_70 rfl ?_
    unfold lDel at h
    rw [if_neg z] at h
    exact h w hm0 (fr.rf _ _ _)
  have gql : ∀ n, n < 4 → (gQ lg n).length ≤ lg.length := fun n _ => by
    unfold gQ; rw [List.length_map]; exact List.length_filter_le _ _
  have loop : ∀ (f j : Nat) (cj lf : Int32), cj = nI j → j + f = lg.length → (lNode nn = true → 0 ≤ kk → gAt lg (cUn nn) j ≤ cUn kk ∧ lf = nI (cUn kk - gAt lg (cUn nn) j)) → xE (xGG X) 8 m_Mo_deliver 5 [(0, .ref m0), (1, .int nn), (2, .int kk), (3, .int lf), (4, .int cj)] [] w P := by
    intro f
    induction f with
    | zero =>
      intro j cj lf hcj hf hin
      subst hcj
      refine x_iload 7 rfl d_Mo_deliver_5 rfl ?_
      refine x_aload_n 8 rfl d_Mo_deliver_7 rfl ?_
      refine x_get 11 rfl f_Mo_147 d_Mo_deliver_8 g1 rfl ?_
      refine x_icmp_ge 69 14 rfl d_Mo_deliver_11 (by decide) (fun hc => ?_) (fun hc => absurd (nI_le (by omega) (by omega)) hc)
      refine no (fun z => ?_) _
      rw [Bool.and_eq_true, decide_eq_true_iff] at z
      have hn := lNode_lt z.1
      have h1 := (hin z.1 z.2.1).1
      have h2 := gql (cUn nn) hn
      rw [show j = lg.length from by omega, gAt_len] at h1
      have h3 := dl_lt (len := (σ.2.2 (cUn nn)).length) (by rw [hG.2.2.2.1 _ hn]; omega) z.2
      rw [hG.2.2.2.1 _ hn] at h3
      omega
    | succ f ih =>
      intro j cj lf hcj hf hin
      subst hcj
      have hlt : j < lg.length := by omega
      obtain ⟨p, hp⟩ : ∃ p, lg[j]? = some p := ⟨_, List.getElem?_eq_getElem hlt⟩
      refine x_iload 7 rfl d_Mo_deliver_5 rfl ?_
      refine x_aload_n 8 rfl d_Mo_deliver_7 rfl ?_
      refine x_get 11 rfl f_Mo_147 d_Mo_deliver_8 g1 rfl ?_
      refine x_icmp_ge 69 14 rfl d_Mo_deliver_11 (by decide) (fun hc => absurd hc (nI_ge (by omega) (by omega))) (fun hc => ?_)
      refine x_iload_n 15 rfl d_Mo_deliver_14 rfl ?_
      refine y_call 18 rfl [_] _ rfl d_Mo_deliver_15 c_Mo_136 rfl (Nat.le_of_ble_eq_true rfl) (Nat.le_of_ble_eq_true rfl) (Nat.le_of_ble_eq_true rfl) (s_Mo_isNode ?_)
      refine x_if_eq 69 21 rfl d_Mo_deliver_18 (by decide) (fun hc => ?_) (fun hc => ?_)
      · exact no (by unfold lNode; rw [(nB_0 _).mp hc]; simp) _
      have y1 : lNode nn = true := nB_ne hc
      refine x_iload_n 22 rfl d_Mo_deliver_21 rfl ?_
      refine x_if_lt 69 25 rfl d_Mo_deliver_22 (by decide) (fun hc => ?_) (fun hc => ?_)
      · exact no (by rw [decide_eq_false (fun z => absurd z.1 (by rw [Int32.not_le]; exact hc))]; simp) _
      have y2 : 0 ≤ kk := Int32.not_lt.mp hc
      obtain ⟨h1, h2⟩ := hin y1 y2
      subst h2
      have hn := lNode_lt y1
      have e1 : nn = nI (cUn nn) := (nI_cUn nn).symm
      have hk31 : cUn kk < 2 ^ 31 := by
        rw [Int32.le_iff_toInt_le, toInt_c kk] at y2
        have h4 := cUn_lt kk
        rw [show (0 : Int32).toInt = 0 from rfl] at y2
        split at y2 <;> omega
      have ok := (hG.1.2 j p hp).1
      have hs := gAt_s (n := cUn nn) hp
      refine x_aload_n 26 rfl d_Mo_deliver_25 rfl ?_
      refine x_iload 28 rfl d_Mo_deliver_26 rfl ?_
      refine x_iload_n 29 rfl d_Mo_deliver_28 rfl ?_
      refine y_callV 32 rfl [_, _] _ rfl d_Mo_deliver_29 g1 rfl c_Mo_150 rfl (Nat.le_of_ble_eq_true rfl) (Nat.le_of_ble_eq_true rfl) (Nat.le_of_ble_eq_true rfl) (s_Mo_waits rfl e1 hn hp hG.1 hR ?_)
      refine x_if_eq 63 35 rfl d_Mo_deliver_32 (by decide) (fun hc => ?_) (fun hc => ?_)
      · have z := (nB_0 _).mp hc
        rw [z, if_neg (by decide), Nat.add_zero] at hs
        refine x_iinc 66 rfl d_Mo_deliver_63 rfl 1 (by decide) (by decide) ?_
        refine x_goto d_Mo_deliver_66 5 (by decide) ?_
        rw [nI_1]
        exact xE.fit (ih (j + 1) _ _ rfl (by omega) (fun _ _ => by rw [hs]; exact ⟨h1, rfl⟩)) rfl
      have z := nB_ne hc
      rw [z, if_pos rfl] at hs
      refine x_iload_n 36 rfl d_Mo_deliver_35 rfl ?_
      refine x_if_ne 60 39 rfl d_Mo_deliver_36 (by decide) (fun hc => ?_) (fun hc => ?_)
      · have hlt2 : gAt lg (cUn nn) j < cUn kk := by
          by_cases q : gAt lg (cUn nn) j = cUn kk
          · exact absurd (by rw [q, Nat.sub_self]; rfl) hc
          · omega
        refine x_iinc 63 rfl d_Mo_deliver_60 rfl (-1) (by decide) (by decide) ?_
        refine x_iinc 66 rfl d_Mo_deliver_63 rfl 1 (by decide) (by decide) ?_
        refine x_goto d_Mo_deliver_66 5 (by decide) ?_
        rw [nI_1]
        have e9 : nI (cUn kk - gAt lg (cUn nn) j) + -1 = nI (cUn kk - (gAt lg (cUn nn) j + 1)) := by
          rw [show cUn kk - gAt lg (cUn nn) j = (cUn kk - (gAt lg (cUn nn) j + 1)) + 1 from by omega, nI_m1]
        exact xE.fit (ih (j + 1) _ _ rfl (by omega) (fun _ _ => by rw [hs]; exact ⟨by omega, e9⟩)) rfl
      have hat : gAt lg (cUn nn) j = cUn kk := by
        have := (nI_0' (v := cUn kk - gAt lg (cUn nn) j) (by omega)).mp hc
        omega
      obtain ⟨o1, o2⟩ := gQ_own hp ok.2 hn z
      rw [hat] at o2
      have hln := (List.getElem?_eq_some_iff.mp o2).1
      have hgl := gql (cUn nn) hn
      have hD : lDel t σ nn kk = (lTk t (cUn nn) (cUn kk) (pV (cUn nn) p) σ, nI (pV (cUn nn) p).2.2.2.1) := by
        unfold lDel
        rw [if_pos, hG.2.2.2.1 _ hn, o2]
        rw [y1, Bool.true_and, decide_eq_true_iff, hG.2.2.2.1 _ hn]
        refine ⟨y2, ?_⟩
        rw [nI_p1 (by omega)]
        conv => lhs; rw [← nI_cUn kk]
        exact nI_le (by omega) (by omega)
      rw [hD] at h
      refine x_aload_n 40 rfl d_Mo_deliver_39 rfl ?_
      refine x_iload_n 41 rfl d_Mo_deliver_40 rfl ?_
      refine x_iload 43 rfl d_Mo_deliver_41 rfl ?_
      refine y_callV 46 rfl [_, _] _ rfl d_Mo_deliver_43 g1 rfl c_Mo_182 rfl (Nat.le_of_ble_eq_true rfl) (Nat.le_of_ble_eq_true rfl) (Nat.le_of_ble_eq_true rfl) (s_Mo_reach' e1 rfl hn hp z hR hG (fun w2 s2 M2 a1 a2 a3 => ?_))
      rw [hat] at a2
      have k1 := a1.1
      have k0 := a1.a0
      obtain ⟨b1, b2, -, -⟩ := a2.1.2 j _ (set_j hp)
      have bl := hN_lt b1
      refine x_aload_n 47 rfl d_Mo_deliver_46 rfl ?_
      refine x_get 50 rfl f_Mo_7 d_Mo_deliver_47 k1 rfl ?_
      refine x_iload 52 rfl d_Mo_deliver_50 rfl ?_
      refine x_iald 53 rfl d_Mo_deliver_52 k0 (t0 := 0) rfl (vp_in_nI (by omega) (by decide)) ?_
      rw [nI_clamp (by omega), b2]
      refine x_bipush 55 rfl d_Mo_deliver_53 6 (by decide) ?_
      refine x_ishr 56 rfl d_Mo_deliver_55 ?_
      refine x_bipush 58 rfl d_Mo_deliver_56 7 (by decide) ?_
      refine x_iand 59 rfl d_Mo_deliver_58 ?_
      refine x_iret d_Mo_deliver_59 rfl ?_
      rw [(hF bl).2.2.2.1]
      have hkd : hN (p.1, p.2 + 2 ^ cUn nn) / 64 % 8 = (pV (cUn nn) p).2.2.2.1 := by
        rw [(pV_f (n := cUn nn) (p := p)).2.2.2]
        obtain ⟨⟨o1, o2, o3, o4, -⟩, o6⟩ := ok
        unfold hN
        dsimp only
        omega
      rw [hkd]
      exact h w2 ⟨s2, _, M2, a1, a2⟩ a3
  refine x_iload_n 1 rfl d_Mo_deliver_0 rfl ?_
  refine x_istore_n 2 rfl d_Mo_deliver_1 (by decide) ?_
  refine x_iconst 3 rfl d_Mo_deliver_2 0 (by decide) ?_
  refine x_istore 5 rfl d_Mo_deliver_3 (by decide) ?_
  exact xE.fit (loop lg.length 0 0 kk rfl (by omega) (fun _ _ => ⟨Nat.zero_le _, by show kk = nI (cUn kk - gAt lg (cUn nn) 0); rw [show gAt lg (cUn nn) 0 = 0 from rfl, Nat.sub_zero, nI_cUn]⟩)) rfl
end CA
