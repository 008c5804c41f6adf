/-! A NODE: ROWS -/
section ND2
variable {X : xPar} {sb L : Nat} {xs : Nat → Int32} {tI tE mi nb dyn c0 s0 mo n e i a : Nat} {t : Int32} {q : Nat → List sMg} {ν : sN} {w : xW} {P : Option Value → xW → Prop}
theorem rRw.cells {cap b : Nat} {l : List Int32} (h : rRw X w b cap l) : ∀ x, b ≤ x → x < b + 2 → ∃ z, w.2.2 x = some z ∧ ∀ fs, z ≠ .inr (3, fs) := by
  intro x h1 h2
  obtain ⟨g1, -, -, f, g4, -⟩ := h
  by_cases z : x = b
  · subst z; exact ⟨_, g1, fun fs z => by cases z⟩
  · have : x = b + 1 := by omega
    subst this; exact ⟨_, g4, fun fs z => by cases z⟩
theorem rNd.cells (hR : rNd X nb n t a ν w) : ∀ x, a ≤ x → x < a + 151 → ∃ z, w.2.2 x = some z ∧ ∀ fs, z ≠ .inr (3, fs) := by
  intro x h1 h2
  obtain ⟨g1, g2, g3, ⟨f, g4, -⟩, ⟨f', g5, -⟩, g6, g7⟩ := hR
  by_cases z0 : x = a
  · subst z0; exact ⟨_, g1, fun fs z => by cases z⟩
  by_cases z1 : x < a + 3
  · exact g2.cells x (by omega) (by omega)
  by_cases z2 : x < a + 5
  · exact g3.cells x (by omega) (by omega)
  by_cases z3 : x = a + 5
  · subst z3; exact ⟨_, g4, fun fs z => by cases z⟩
  by_cases z4 : x = a + 6
  · subst z4; exact ⟨_, g5, fun fs z => by cases z⟩
  have hk : (x - a - 7) / 9 < 16 := by omega
  by_cases z5 : x < a + 13 + 9 * ((x - a - 7) / 9)
  · exact (g6 _ hk).cells x (by omega) (by omega)
  · exact (g7 _ hk).cells x (by omega) (by omega)
theorem rNd.kept {w' : xW} (hR : rNd X nb n t a ν w) (hk : ∀ x, a ≤ x → x < a + 151 → w'.2.2 x = w.2.2 x) : rNd X nb n t a ν w' := by
  obtain ⟨g1, g2, g3, ⟨f, g4, g4'⟩, ⟨f', g5, g5'⟩, g6, g7⟩ := hR
  exact ⟨(hk _ (by omega) (by omega)).trans g1, g2.kept (hk _ (by omega) (by omega)) (hk _ (by omega) (by omega)), g3.kept (hk _ (by omega) (by omega)) (hk _ (by omega) (by omega)), ⟨f, (hk _ (by omega) (by omega)).trans g4, g4'⟩, ⟨f', (hk _ (by omega) (by omega)).trans g5, g5'⟩, fun k hk4 => (g6 k hk4).kept (fun x h1 h2 => hk x (by omega) (by omega)), fun k hk4 => (g7 k hk4).kept (fun x h1 h2 => hk x (by omega) (by omega))⟩
theorem rNd.rows {w' : xW} {ν' : sN} (hR : rNd X nb n t a ν w) (hk : ∀ x, a + 5 ≤ x → x < a + 151 → w'.2.2 x = w.2.2 x) (h0 : w'.2.2 a = some (.inr (5, fNd nb n a ν'))) (h1 : rRw X w' (a + 1) 12 ν'.2.2.1) (h2 : rRw X w' (a + 3) 32 ν'.2.2.2.1) (h3 : ν'.2.2.2.2 = ν.2.2.2.2) : rNd X nb n t a ν' w' := by
  obtain ⟨g1, g2, g3, ⟨f, g4, g4'⟩, ⟨f', g5, g5'⟩, g6, g7⟩ := hR
  refine ⟨h0, h1, h2, ⟨f, (hk _ (by omega) (by omega)).trans g4, g4'⟩, ⟨f', (hk _ (by omega) (by omega)).trans g5, g5'⟩, fun k hk4 => ?_, fun k hk4 => ?_⟩
  · rw [h3]; exact (g6 k hk4).kept (fun x h1 h2 => hk x (by omega) (by omega))
  · rw [h3]; exact (g7 k hk4).kept (fun x h1 h2 => hk x (by omega) (by omega))
/-- an instance has gone on -/
def nUp (ν : sN) (k : Nat) (β : sB) (α : sA) : sN := (ν.1, ν.2.1, ν.2.2.1, ν.2.2.2.1, va_up ν.2.2.2.2.1 k β, va_up ν.2.2.2.2.2 k α)
theorem rNd.inst {w' : xW} {k : Nat} {β : sB} {α : sA} (hR : rNd X nb n t a ν w) (hk16 : k < 16) (hk : ∀ x, a ≤ x → x < a + 151 → (x < a + 7 + 9 * k ∨ a + 16 + 9 * k ≤ x) → w'.2.2 x = w.2.2 x) (hb : rBc X nb n (k / 4) (k % 4) (a + 7 + 9 * k) β w') (ha : rAg X nb n (k / 4) (k % 4) t (a + 13 + 9 * k) α w') : rNd X nb n t a (nUp ν k β α) w' := by
  obtain ⟨g1, g2, g3, ⟨f, g4, g4'⟩, ⟨f', g5, g5'⟩, g6, g7⟩ := hR
  refine ⟨(hk _ (by omega) (by omega) (by omega)).trans g1, g2.kept (hk _ (by omega) (by omega) (by omega)) (hk _ (by omega) (by omega) (by omega)), g3.kept (hk _ (by omega) (by omega) (by omega)) (hk _ (by omega) (by omega) (by omega)), ⟨f, (hk _ (by omega) (by omega) (by omega)).trans g4, g4'⟩, ⟨f', (hk _ (by omega) (by omega) (by omega)).trans g5, g5'⟩, fun j hj => ?_, fun j hj => ?_⟩
  · by_cases z : j = k
    · subst z
      show rBc X nb n (j / 4) (j % 4) (a + 7 + 9 * j) (va_up ν.2.2.2.2.1 j β j) w'
      rw [va_up_self]; exact hb
    · show rBc X nb n (j / 4) (j % 4) (a + 7 + 9 * j) (va_up ν.2.2.2.2.1 k β j) w'
      rw [va_up_ne _ _ z]; exact (g6 j hj).kept (fun x h1 h2 => hk x (by omega) (by omega) (by omega))
  · by_cases z : j = k
    · subst z
      show rAg X nb n (j / 4) (j % 4) t (a + 13 + 9 * j) (va_up ν.2.2.2.2.2 j α j) w'
      rw [va_up_self]; exact ha
    · show rAg X nb n (j / 4) (j % 4) t (a + 13 + 9 * j) (va_up ν.2.2.2.2.2 k α j) w'
      rw [va_up_ne _ _ z]; exact (g7 j hj).kept (fun x h1 h2 => hk x (by omega) (by omega) (by omega))
/-- why a transaction is refused -/
def nNo (ν : sN) (x : Int32) : Bool := decide (ν.2.2.1.length = 12) || decide (x ∈ ν.2.2.1) || decide (x ∈ ν.2.2.2.1)
def nSub (ν : sN) (x : Int32) : sN := if nNo ν x = true then ν else (ν.1, ν.2.1, ν.2.2.1 ++ [x], ν.2.2.2)
theorem s_Nd_accept {x : Int32} (hR : rNd X nb n t a ν w) (h : ∀ w', rNd X nb n t a (nSub ν x) w' → fr w w' a (a + 5) → P (some (.int (nB (!nNo ν x)))) w') : xE (xGG X) 2 m_Nd_accept 0 [(0, .ref a), (1, .int x)] [] w P := by
  have g1 := hR.1
  have hQ := hR.2.1
  have hC := hR.2.2.1
  have no : nNo ν x = true → P (some (.int 0)) w := by
    intro z
    unfold nSub at h
    rw [z, if_pos rfl] at h
    exact h w hR (fr.rf _ _ _)
  refine x_aload_n 1 rfl d_Nd_accept_0 rfl ?_
  refine x_get 4 rfl f_Nd_14 d_Nd_accept_1 g1 rfl ?_
  refine y_callV 7 rfl [] _ rfl d_Nd_accept_4 hQ.1 rfl c_Nd_52 rfl (Nat.le_of_ble_eq_true rfl) (Nat.le_of_ble_eq_true rfl) (Nat.le_of_ble_eq_true rfl) (s_Rw_isFull hQ ?_)
  refine x_if_ne 32 10 rfl d_Nd_accept_7 (by decide) (fun hc => ?_) (fun hc => ?_)
  · refine x_iconst 33 rfl d_Nd_accept_32 0 (by decide) ?_
    refine x_zret d_Nd_accept_33 rfl (by decide) ?_
    exact no (by unfold nNo; rw [nB_ne hc]; rfl)
  have z1 := (nB_0 _).mp hc
  refine x_aload_n 11 rfl d_Nd_accept_10 rfl ?_
  refine x_get 14 rfl f_Nd_14 d_Nd_accept_11 g1 rfl ?_
  refine x_iload_n 15 rfl d_Nd_accept_14 rfl ?_
  refine y_callV 18 rfl [_] _ rfl d_Nd_accept_15 hQ.1 rfl c_Nd_56 rfl (Nat.le_of_ble_eq_true rfl) (Nat.le_of_ble_eq_true rfl) (Nat.le_of_ble_eq_true rfl) (s_Rw_has hQ ?_)
  refine x_if_ne 32 21 rfl d_Nd_accept_18 (by decide) (fun hc => ?_) (fun hc => ?_)
  · refine x_iconst 33 rfl d_Nd_accept_32 0 (by decide) ?_
    refine x_zret d_Nd_accept_33 rfl (by decide) ?_
    exact no (by unfold nNo; rw [nB_ne hc]; simp)
  have z2 := (nB_0 _).mp hc
  refine x_aload_n 22 rfl d_Nd_accept_21 rfl ?_
  refine x_get 25 rfl f_Nd_20 d_Nd_accept_22 g1 rfl ?_
  refine x_iload_n 26 rfl d_Nd_accept_25 rfl ?_
  refine y_callV 29 rfl [_] _ rfl d_Nd_accept_26 hC.1 rfl c_Nd_56 rfl (Nat.le_of_ble_eq_true rfl) (Nat.le_of_ble_eq_true rfl) (Nat.le_of_ble_eq_true rfl) (s_Rw_has hC ?_)
  refine x_if_eq 34 32 rfl d_Nd_accept_29 (by decide) (fun hc => ?_) (fun hc => ?_)
  rotate_left
  · refine x_iconst 33 rfl d_Nd_accept_32 0 (by decide) ?_
    refine x_zret d_Nd_accept_33 rfl (by decide) ?_
    exact no (by unfold nNo; rw [nB_ne hc]; simp)
  have z3 := (nB_0 _).mp hc
  have zz : nNo ν x = false := by unfold nNo; rw [z1, z2, z3]; rfl
  unfold nSub at h
  rw [zz, if_neg (by decide)] at h
  have hl : ν.2.2.1.length < 12 := by have := hQ.2.1; have := of_decide_eq_false z1; omega
  refine x_aload_n 35 rfl d_Nd_accept_34 rfl ?_
  refine x_get 38 rfl f_Nd_14 d_Nd_accept_35 g1 rfl ?_
  refine x_iload_n 39 rfl d_Nd_accept_38 rfl ?_
  refine y_callV 42 rfl [_] _ rfl d_Nd_accept_39 hQ.1 rfl c_Nd_60 rfl (Nat.le_of_ble_eq_true rfl) (Nat.le_of_ble_eq_true rfl) (Nat.le_of_ble_eq_true rfl) (s_Rw_append hQ hl (fun w' k1 k2 => ?_))
  refine x_iconst 43 rfl d_Nd_accept_42 1 (by decide) ?_
  refine x_zret d_Nd_accept_43 rfl (by decide) ?_
  exact h w' (hR.rows (fun x h1 h2 => k2.2.2 x (by omega)) ((k2.2.2 _ (by omega)).trans g1) k1 (hC.kept (k2.2.2 _ (by omega)) (k2.2.2 _ (by omega))) rfl) (k2.wide (by omega) (by omega))
theorem iV8 (v : Int32) : v &&& 255 = nI (cUn v % 256) := by
  have := i255 (cUn_lt v)
  rw [nI_cUn] at this; exact this
theorem iVs (v : Int32) : v >>> ((8 : Int32) &&& 31) &&& 255 = nI (cUn v / 256 % 256) := by
  have := iS8 (cUn_lt v)
  rw [nI_cUn] at this; exact this
/-- a transaction is in an accepted proposal -/
def nA1 (ν : sN) (e tt i : Nat) : Bool := (decide (cUn ((nB' ν e i).2 2) % 256 = tt) || decide (cUn ((nB' ν e i).2 2) / 256 % 256 = tt)) && decide ((nA' ν e i).2 2 = 2)
def nAcc (ν : sN) (e tt : Nat) : Bool := (List.range 4).any (nA1 ν e tt)
theorem s_Nd_isAccepted {x : Int32} {tt : Nat} (hx : x = nI tt) (htt : tt < 256) (hep : ν.1 = e + 1) (he : e < 4) (hR : rNd X nb n t a ν w) (h : P (some (.int (nB (nAcc ν e tt)))) w) : xE (xGG X) 1 m_Nd_isAccepted 0 [(0, .ref a), (1, .int x)] [] w P := by
  subst hx
  have g1 := hR.1
  have loop : ∀ (m j : Nat) (cc : Int32), cc = nI j → j + m = 4 → (∀ k, k < j → nA1 ν e tt k = false) → xE (xGG X) 1 m_Nd_isAccepted 2 [(0, .ref a), (1, .int (nI tt)), (2, .int cc)] [] w P := by
    intro m
    induction m with
    | zero =>
      intro j cc hcc hm hk
      have hj : j = 4 := by omega
      subst hj hcc
      refine x_iload_n 3 rfl d_Nd_isAccepted_2 rfl ?_
      refine x_iconst 4 rfl d_Nd_isAccepted_3 4 (by decide) ?_
      refine x_icmp_ge 69 7 rfl d_Nd_isAccepted_4 (by decide) (fun hc => ?_) (fun hc => absurd (by decide) hc)
      refine x_iconst 70 rfl d_Nd_isAccepted_69 0 (by decide) ?_
      refine x_zret d_Nd_isAccepted_70 rfl (by decide) ?_
      rw [show nAcc ν e tt = false from ?_] at h
      · exact h
      · unfold nAcc
        rw [List.any_eq_false]
        exact fun k hk4 => by rw [hk k (List.mem_range.mp hk4)]; decide
    | succ m ih =>
      intro j cc hcc hm hk
      subst hcc
      have hj : j < 4 := by omega
      have k1 := hR.ag he hj
      have k2 := k1.1
      have k3 := (hR.bc he hj).1
      have hb3 := k1.2.2.2.2.2.1
      have go : ∀ lc, xlk lc 0 = some (.ref a) → xlk lc 1 = some (.int (nI tt)) → xlk lc 2 = some (.int (nI j)) → nA1 ν e tt j = false → xE (xGG X) 1 m_Nd_isAccepted 63 lc [] w P := by
        intro lc l0 l1 l2 z
        refine xE.fit (lc' := [(0, .ref a), (1, .int (nI tt)), (2, .int (nI j))]) ?_ (by simp only [List.map_cons, List.map_nil, l0, l1, l2])
        refine x_iinc 66 rfl d_Nd_isAccepted_63 rfl 1 (by decide) (by decide) ?_
        refine x_goto d_Nd_isAccepted_66 2 (by decide) ?_
        rw [nI_1]
        refine xE.fit (ih (j + 1) _ rfl (by omega) (fun k hk2 => ?_)) rfl
        by_cases zz : k = j
        · subst zz; exact z
        · exact hk k (by omega)
      have hit : ∀ lc, xlk lc 0 = some (.ref a) → xlk lc 1 = some (.int (nI tt)) → xlk lc 2 = some (.int (nI j)) → (decide (cUn ((nB' ν e j).2 2) % 256 = tt) || decide (cUn ((nB' ν e j).2 2) / 256 % 256 = tt)) = true → xE (xGG X) 1 m_Nd_isAccepted 37 lc [] w P := by
        intro lc l0 l1 l2 z
        refine xE.fit (lc' := [(0, .ref a), (1, .int (nI tt)), (2, .int (nI j))]) ?_ (by simp only [List.map_cons, List.map_nil, l0, l1, l2])
        refine x_iconst 38 rfl d_Nd_isAccepted_37 1 (by decide) ?_
        refine x_goto d_Nd_isAccepted_38 42 (by decide) ?_
        refine x_istore 44 rfl d_Nd_isAccepted_42 (by decide) ?_
        refine x_iload 46 rfl d_Nd_isAccepted_44 rfl ?_
        refine x_if_eq 63 49 rfl d_Nd_isAccepted_46 (by decide) (fun hc => absurd hc (by decide)) (fun hc => ?_)
        refine x_aload_n 50 rfl d_Nd_isAccepted_49 rfl ?_
        refine x_iload_n 51 rfl d_Nd_isAccepted_50 rfl ?_
        refine y_callV 54 rfl [_] _ rfl d_Nd_isAccepted_51 g1 rfl c_Nd_126 rfl (Nat.le_of_ble_eq_true rfl) (Nat.le_of_ble_eq_true rfl) (Nat.le_of_ble_eq_true rfl) (s_Nd_agreementOf rfl hj hep he hR ?_)
        refine x_get 57 rfl f_Nd_151 d_Nd_isAccepted_54 k2 rfl ?_
        refine x_iconst 58 rfl d_Nd_isAccepted_57 1 (by decide) ?_
        refine x_icmp_ne 63 61 rfl d_Nd_isAccepted_58 (by decide) (fun hc => ?_) (fun hc => ?_)
        · have : ¬ (nA' ν e j).2 2 = 2 := fun z => hc ((iD_ne _ hb3 1 (by decide)).mpr z)
          exact go _ rfl rfl rfl (by unfold nA1; rw [decide_eq_false this, Bool.and_false])
        · have : (nA' ν e j).2 2 = 2 := (iD_ne _ hb3 1 (by decide)).mp hc
          refine x_iconst 62 rfl d_Nd_isAccepted_61 1 (by decide) ?_
          refine x_zret d_Nd_isAccepted_62 rfl (by decide) ?_
          rw [show nAcc ν e tt = true from ?_] at h
          · exact h
          · unfold nAcc
            rw [List.any_eq_true]
            exact ⟨j, List.mem_range.mpr hj, by unfold nA1; rw [z, decide_eq_true this]; rfl⟩
      refine x_iload_n 3 rfl d_Nd_isAccepted_2 rfl ?_
      refine x_iconst 4 rfl d_Nd_isAccepted_3 4 (by decide) ?_
      refine x_icmp_ge 69 7 rfl d_Nd_isAccepted_4 (by decide) (fun hc => absurd hc (nI_ge (a := j) (b := 4) hj (by decide))) (fun hc => ?_)
      refine x_aload_n 8 rfl d_Nd_isAccepted_7 rfl ?_
      refine x_iload_n 9 rfl d_Nd_isAccepted_8 rfl ?_
      refine y_callV 12 rfl [_] _ rfl d_Nd_isAccepted_9 g1 rfl c_Nd_122 rfl (Nat.le_of_ble_eq_true rfl) (Nat.le_of_ble_eq_true rfl) (Nat.le_of_ble_eq_true rfl) (s_Nd_broadcastOf rfl hj hep he hR ?_)
      refine x_get 15 rfl f_Nd_139 d_Nd_isAccepted_12 k3 rfl ?_
      refine x_istore_n 16 rfl d_Nd_isAccepted_15 (by decide) ?_
      refine x_iload_n 17 rfl d_Nd_isAccepted_16 rfl ?_
      refine x_sipush 20 rfl d_Nd_isAccepted_17 255 (by decide) ?_
      refine x_iand 21 rfl d_Nd_isAccepted_20 ?_
      refine x_iload_n 22 rfl d_Nd_isAccepted_21 rfl ?_
      rw [iV8]
      refine x_icmp_eq 37 25 rfl d_Nd_isAccepted_22 (by decide) (fun hc => ?_) (fun hc => ?_)
      · exact hit _ rfl rfl rfl (by rw [decide_eq_true ((nI_eq (by omega) (by omega)).mp hc)]; rfl)
      have y1 : ¬ cUn ((nB' ν e j).2 2) % 256 = tt := fun z => hc (by rw [z])
      refine x_iload_n 26 rfl d_Nd_isAccepted_25 rfl ?_
      refine x_bipush 28 rfl d_Nd_isAccepted_26 8 (by decide) ?_
      refine x_ishr 29 rfl d_Nd_isAccepted_28 ?_
      refine x_sipush 32 rfl d_Nd_isAccepted_29 255 (by decide) ?_
      refine x_iand 33 rfl d_Nd_isAccepted_32 ?_
      refine x_iload_n 34 rfl d_Nd_isAccepted_33 rfl ?_
      rw [iVs]
      refine x_icmp_ne 41 37 rfl d_Nd_isAccepted_34 (by decide) (fun hc => ?_) (fun hc => ?_)
      · have y2 : ¬ cUn ((nB' ν e j).2 2) / 256 % 256 = tt := fun z => hc (by rw [z])
        refine x_iconst 42 rfl d_Nd_isAccepted_41 0 (by decide) ?_
        refine x_istore 44 rfl d_Nd_isAccepted_42 (by decide) ?_
        refine x_iload 46 rfl d_Nd_isAccepted_44 rfl ?_
        refine x_if_eq 63 49 rfl d_Nd_isAccepted_46 (by decide) (fun hc => ?_) (fun hc => absurd rfl hc)
        exact go _ rfl rfl rfl (by unfold nA1; rw [decide_eq_false y1, decide_eq_false y2]; rfl)
      · exact hit _ rfl rfl rfl (by rw [decide_eq_true ((nI_eq (by omega) (by omega)).mp hc)]; simp)
  refine x_iconst 1 rfl d_Nd_isAccepted_0 0 (by decide) ?_
  refine x_istore_n 2 rfl d_Nd_isAccepted_1 (by decide) ?_
  exact xE.fit (loop 4 0 0 rfl rfl (fun k hk => absurd hk (by omega))) rfl
end ND2
