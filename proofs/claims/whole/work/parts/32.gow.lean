/-! A NODE GOES ON -/
theorem nRf_lt {ν : sN} {e j : Nat} (h : nRf ν e = some j) : j < 4 := by
  unfold nRf at h
  split at h
  · have := List.mem_of_find?_eq_some h
    have := List.mem_range'_1.mp this
    omega
  · cases h
theorem nLk_keep {n : Nat} {t : Int32} {e : Nat} : ∀ (f i : Nat) (ν : sN), (nLk n t e f i ν).1.1 = ν.1 ∧ (nLk n t e f i ν).1.2.1 = ν.2.1 ∧ (nLk n t e f i ν).1.2.2.1 = ν.2.2.1 ∧ (nLk n t e f i ν).1.2.2.2.1 = ν.2.2.2.1 ∧ (nLk n t e f i ν).2.length ≤ 32 * f := by
  intro f
  induction f with
  | zero => intro i ν; exact ⟨rfl, rfl, rfl, rfl, Nat.le_refl _⟩
  | succ f ih =>
    intro i ν
    have h1 := iM_nz (n := n) (e := e) (i := i) (t := t) (β := nB' ν e i) (α := nA' ν e i)
    have h2 : (nOne n t e i ν).2.length ≤ 32 := h1.2
    rw [nLk]
    split
    · exact ⟨rfl, rfl, rfl, rfl, by omega⟩
    · rename_i j _
      obtain ⟨a1, a2, a3, a4, a5⟩ := ih j (nGive (nOne n t e i ν).1 e j)
      exact ⟨a1, a2, a3, a4, by dsimp only; rw [List.length_append]; omega⟩
section GW
variable {X : xPar} {sb L : Nat} {xs : Nat → Int32} {tI tE mi nb dyn c0 s0 mo n e i a : Nat} {t : Int32} {q : Nat → List sMg} {ν : sN} {w : xW} {P : Option Value → xW → Prop}
theorem oN.app {ms : List sMg} {y : sN × List sMg} {w' : xW} (h : oN X tE nb dyn c0 s0 (mo + 4 * ms.length) n t a (qV q ms) y w') : oN X tE nb dyn c0 s0 mo n t a q (y.1, ms ++ y.2) w' := by
  obtain ⟨h1, h2⟩ := h
  refine ⟨?_, h2⟩
  show rNt X tE nb dyn c0 s0 (mo + 4 * (ms ++ y.2).length) (qV q (ms ++ y.2)) w'
  rw [List.length_append, Nat.mul_add, ← Nat.add_assoc, ← qV_app]
  exact h1
theorem nIm1 : ∀ s, s < 4 → ¬ nI s = -1 := by decide +kernel
theorem s_Nd_goOnAndLook (hX : xS X sb L xs tI tE mi) {ii : Int32} (hii : ii = nI i) (hi : i < 4) (hep : ν.1 = e + 1) (he : e < 4) (hmo : mo + 700 < 90000) (ha : nb + 10 ≤ a) (had : a + 151 ≤ dyn) (hN : rNt X tE nb dyn c0 s0 mo q w) (hR : rNd X nb n t a ν w) (h : ∀ w', oN X tE nb dyn c0 s0 mo n t a q (nLk n t e 5 i ν) w' → frS X nb dyn a (a + 151) w w' → P none w') : xE (xGG X) 10 m_Nd_goOnAndLook 0 [(0, .ref a), (1, .int ii)] [] w P := by
  subst hii
  have loop : ∀ (f k : Nat) (cc : Int32) (i : Nat) (ν : sN) (mo : Nat) (q : Nat → List sMg) (w1 : xW), cc = nI k → k + f = 5 → i < 4 → ν.1 = e + 1 → mo + 128 * f + 50 < 90000 → rNt X tE nb dyn c0 s0 mo q w1 → rNd X nb n t a ν w1 → (∀ w', oN X tE nb dyn c0 s0 mo n t a q (nLk n t e f i ν) w' → frS X nb dyn a (a + 151) w1 w' → P none w') → xE (xGG X) 10 m_Nd_goOnAndLook 4 [(0, .ref a), (2, .int (nI i)), (3, .int cc)] [] w1 P := by
    intro f
    induction f with
    | zero =>
      intro k cc i ν mo q w1 hcc hk hi hep hmo hN hR h
      have hk5 : k = 5 := by omega
      subst hk5 hcc
      refine x_iload_n 5 rfl d_Nd_goOnAndLook_4 rfl ?_
      refine x_iconst 6 rfl d_Nd_goOnAndLook_5 4 (by decide) ?_
      refine x_icmp_gt 88 9 rfl d_Nd_goOnAndLook_6 (by decide) (fun hc => ?_) (fun hc => absurd (by decide) hc)
      refine x_vret d_Nd_goOnAndLook_88 rfl ?_
      exact h w1 ⟨by rw [show (nLk n t e 0 i ν).2 = [] from rfl, qV_nil]; exact hN, hR⟩ (frS.rf _ _ _ _ _ _)
    | succ f ih =>
      intro k cc i ν mo q w1 hcc hk hi hep hmo hN hR h
      subst hcc
      have hlen : (nOne n t e i ν).2.length ≤ 32 := (iM_nz (n := n) (e := e) (i := i) (t := t) (β := nB' ν e i) (α := nA' ν e i)).2
      refine x_iload_n 5 rfl d_Nd_goOnAndLook_4 rfl ?_
      refine x_iconst 6 rfl d_Nd_goOnAndLook_5 4 (by decide) ?_
      refine x_icmp_gt 88 9 rfl d_Nd_goOnAndLook_6 (by decide) (fun hc => absurd hc (by rw [Int32.not_lt]; exact nI_le (b := 4) (by omega) (by decide))) (fun hc => ?_)
      refine x_iload_n 10 rfl d_Nd_goOnAndLook_9 rfl ?_
      refine x_iconst 11 rfl d_Nd_goOnAndLook_10 (-1) (by decide) ?_
      refine x_icmp_eq 88 14 rfl d_Nd_goOnAndLook_11 (by decide) (fun hc => absurd hc (nIm1 i hi)) (fun hc => ?_)
      refine s_Nd_one hX rfl hi hep he (by omega) ha had hN hR (fun w2 k2 f2 => ?_)
      rw [nLk] at h
      have hep2 : (nOne n t e i ν).1.1 = e + 1 := hep
      generalize nOne n t e i ν = y at k2 h hlen hep2
      obtain ⟨hN2, hR2⟩ := k2
      have g2 := hR2.1
      refine x_aload_n 64 rfl d_Nd_goOnAndLook_63 rfl ?_
      refine y_callV 67 rfl [] _ rfl d_Nd_goOnAndLook_64 g2 rfl c_Nd_147 rfl (Nat.le_of_ble_eq_true rfl) (Nat.le_of_ble_eq_true rfl) (Nat.le_of_ble_eq_true rfl) (s_Nd_instanceToRefuse hep2 he hR2 ?_)
      refine x_istore_n 68 rfl d_Nd_goOnAndLook_67 (by decide) ?_
      refine x_iload_n 69 rfl d_Nd_goOnAndLook_68 rfl ?_
      refine x_iconst 70 rfl d_Nd_goOnAndLook_69 (-1) (by decide) ?_
      cases ho : nRf y.1 e with
      | none =>
        rw [ho] at h
        refine x_icmp_eq 82 73 rfl d_Nd_goOnAndLook_70 (by decide) (fun hc => ?_) (fun hc => absurd rfl hc)
        refine x_iinc 85 rfl d_Nd_goOnAndLook_82 rfl 1 (by decide) (by decide) ?_
        refine x_goto d_Nd_goOnAndLook_85 4 (by decide) ?_
        refine x_iload_n 5 rfl d_Nd_goOnAndLook_4 rfl ?_
        refine x_iconst 6 rfl d_Nd_goOnAndLook_5 4 (by decide) ?_
        refine x_icmp_gt 88 9 rfl d_Nd_goOnAndLook_6 (by decide) (fun hc => ?_) (fun hc => ?_)
        · refine x_vret d_Nd_goOnAndLook_88 rfl ?_
          exact h w2 ⟨hN2, hR2⟩ f2
        · refine x_iload_n 10 rfl d_Nd_goOnAndLook_9 rfl ?_
          refine x_iconst 11 rfl d_Nd_goOnAndLook_10 (-1) (by decide) ?_
          refine x_icmp_eq 88 14 rfl d_Nd_goOnAndLook_11 (by decide) (fun hc => ?_) (fun hc => absurd rfl hc)
          refine x_vret d_Nd_goOnAndLook_88 rfl ?_
          exact h w2 ⟨hN2, hR2⟩ f2
      | some j =>
        rw [ho] at h
        have hj := nRf_lt ho
        have hA2 := hR2.ag he hj
        have g3 := hA2.1
        rw [show iO (some j) = nI j from rfl]
        refine x_icmp_eq 82 73 rfl d_Nd_goOnAndLook_70 (by decide) (fun hc => absurd hc (nIm1 j hj)) (fun hc => ?_)
        refine x_aload_n 74 rfl d_Nd_goOnAndLook_73 rfl ?_
        refine x_iload_n 75 rfl d_Nd_goOnAndLook_74 rfl ?_
        refine y_callV 78 rfl [_] _ rfl d_Nd_goOnAndLook_75 g2 rfl c_Nd_126 rfl (Nat.le_of_ble_eq_true rfl) (Nat.le_of_ble_eq_true rfl) (Nat.le_of_ble_eq_true rfl) (s_Nd_agreementOf rfl hj hep2 he hR2 ?_)
        refine x_iconst 79 rfl d_Nd_goOnAndLook_78 0 (by decide) ?_
        refine y_callV 82 rfl [_] _ rfl d_Nd_goOnAndLook_79 g3 rfl c_Nd_141 rfl (Nat.le_of_ble_eq_true rfl) (Nat.le_of_ble_eq_true rfl) (Nat.le_of_ble_eq_true rfl) (s_Ag_giveInput (bit := 0) rfl (by decide) hA2 (fun w3 k3 f3 => ?_))
        have hbn := hN2.2.2.2.2.2.2.1
        have hN3 := hN2.own f3 hA2.cells (by omega) (by omega)
        have hR3 : rNd X nb n t a (nGive y.1 e j) w3 := by
          refine hR2.inst (k := 4 * e + j) (by omega) (fun x x1 x2 x3 => f3.2.2 x (by omega)) ?_ ?_
          · rw [show (4 * e + j) / 4 = e from by omega, show (4 * e + j) % 4 = j from by omega]
            exact (hR2.bc he hj).kept (fun x x1 x2 => f3.2.2 x (by omega))
          · rw [show (4 * e + j) / 4 = e from by omega, show (4 * e + j) % 4 = j from by omega]
            exact k3
        refine x_iinc 85 rfl d_Nd_goOnAndLook_82 rfl 1 (by decide) (by decide) ?_
        refine x_goto d_Nd_goOnAndLook_85 4 (by decide) ?_
        refine xE.fit (ih (k + 1) _ j (nGive y.1 e j) (mo + 4 * y.2.length) (qV q y.2) w3 (nI_succ k).symm (by omega) hj hep2 (by omega) hN3 hR3 (fun w4 k4 f4 => ?_)) rfl
        exact h w4 k4.app ((f2.tr ((fr.S nb dyn f3 hA2.cells).wide (by omega) (by omega))).tr f4)
  refine x_iload_n 1 rfl d_Nd_goOnAndLook_0 rfl ?_
  refine x_istore_n 2 rfl d_Nd_goOnAndLook_1 (by decide) ?_
  refine x_iconst 3 rfl d_Nd_goOnAndLook_2 0 (by decide) ?_
  refine x_istore_n 4 rfl d_Nd_goOnAndLook_3 (by decide) ?_
  exact xE.fit (loop 5 0 0 i ν mo q w rfl rfl hi hep (by omega) hN hR h) rfl
end GW
/-- from next to last, and all of each epoch that is entered -/
def nGw (n : Nat) (t : Int32) : Nat → Nat → Nat → Nat → sN → sN × List sMg
  | 0, _, _, _, ν => (ν, [])
  | f + 1, e, nx, en, ν => if nx ≤ en then (if nMay (nLk n t e 5 nx ν).1 e = true then (if e = 3 then (nCm (nLk n t e 5 nx ν).1 e, (nLk n t e 5 nx ν).2) else ((nGw n t f (e + 1) 0 3 (nCm (nLk n t e 5 nx ν).1 e)).1, ((nLk n t e 5 nx ν).2 ++ [nPr n (nCm (nLk n t e 5 nx ν).1 e)]) ++ (nGw n t f (e + 1) 0 3 (nCm (nLk n t e 5 nx ν).1 e)).2)) else ((nGw n t f e (nx + 1) en (nLk n t e 5 nx ν).1).1, (nLk n t e 5 nx ν).2 ++ (nGw n t f e (nx + 1) en (nLk n t e 5 nx ν).1).2)) else (ν, [])
def nQk (ν : sN) (e : Nat) : Prop := (∀ x, x ∈ ν.2.2.1 → cUn x < 256) ∧ ν.2.2.2.1.length ≤ 8 * e
theorem nC_fold (ν : sN) (e : Nat) : ∀ (l : List Nat) (r : List Int32 × List Int32), (l.foldl (nC1 ν e) r).1.length ≤ r.1.length + (l.filter (nAcc ν e)).length ∧ ∀ x, x ∈ (l.foldl (nC1 ν e) r).2 → x ∈ r.2 := by
  intro l
  induction l with
  | nil => intro r; exact ⟨Nat.le_add_right _ _, fun x hx => hx⟩
  | cons j l ih =>
    intro r
    rw [List.foldl_cons, List.filter_cons]
    obtain ⟨h1, h2⟩ := ih (nC1 ν e r j)
    have h3 : (nC1 ν e r j).1.length ≤ r.1.length + (if nAcc ν e j = true then 1 else 0) ∧ ∀ x, x ∈ (nC1 ν e r j).2 → x ∈ r.2 := by
      unfold nC1
      split
      · rename_i z
        rw [Bool.and_eq_true] at z
        refine ⟨by rw [if_pos z.1]; simp, fun x hx => (List.mem_filter.mp hx).1⟩
      · exact ⟨Nat.le_add_right _ _, fun x hx => hx⟩
    refine ⟨?_, fun x hx => h3.2 x (h2 x hx)⟩
    split <;> rename_i z
    · rw [if_pos z] at h3; rw [List.length_cons]; omega
    · rw [if_neg z] at h3; omega
theorem nQk.cm {ν : sN} {e : Nat} (h : nQk ν e) : nQk (nCm ν e) (e + 1) := by
  obtain ⟨h1, h2⟩ := nC_fold ν e (List.range' 1 255) (ν.2.2.2.1, ν.2.2.1)
  refine ⟨fun x hx => h.1 x (h2 x hx), ?_⟩
  have := nAcc_8 ν e 1 255
  have := h.2
  show (nCs ν e).1.length ≤ 8 * (e + 1)
  unfold nCs
  dsimp only at h1
  omega
theorem nQk.lk {n : Nat} {t : Int32} {e f i : Nat} {ν : sN} (h : nQk ν e) : nQk (nLk n t e f i ν).1 e := by
  obtain ⟨-, -, a3, a4, -⟩ := nLk_keep (n := n) (t := t) (e := e) f i ν
  unfold nQk
  rw [a3, a4]
  exact h
section GW2
variable {X : xPar} {sb L : Nat} {xs : Nat → Int32} {tI tE mi nb dyn c0 s0 mo n e i a : Nat} {t : Int32} {q : Nat → List sMg} {ν : sN} {w : xW} {P : Option Value → xW → Prop}
theorem iD4 : ∀ e, e < 4 → (iD (e + 2) = 4 ↔ e = 3) := by decide +kernel
theorem s_Nd_goOnWith (hX : xS X sb L xs tI tE mi) {ii jj : Int32} {nx en : Nat} (hii : ii = nI nx) (hjj : jj = nI en) (hnx : nx < 4) (hen : en < 4) (hn : n < 4) (hep : ν.1 = e + 1) (he : e < 4) (hk : nQk ν e) (hmo : mo + 15000 < 90000) (ha : nb + 10 ≤ a) (had : a + 151 ≤ dyn) (hN : rNt X tE nb dyn c0 s0 mo q w) (hR : rNd X nb n t a ν w) (h : ∀ w', oN X tE nb dyn c0 s0 mo n t a q (nGw n t 20 e nx en ν) w' → frS X nb dyn a (a + 151) w w' → P none w') : xE (xGG X) 11 m_Nd_goOnWith 0 [(0, .ref a), (1, .int ii), (2, .int jj)] [] w P := by
  subst hii hjj
  have loop : ∀ (f k : Nat) (cc : Int32) (e nx en : Nat) (ν : sN) (mo : Nat) (q : Nat → List sMg) (w1 : xW), cc = nI k → k + f = 20 → nx < 5 → en < 4 → ν.1 = e + 1 → e < 4 → nQk ν e → mo + 700 * f + 700 < 90000 → rNt X tE nb dyn c0 s0 mo q w1 → rNd X nb n t a ν w1 → (∀ w', oN X tE nb dyn c0 s0 mo n t a q (nGw n t f e nx en ν) w' → frS X nb dyn a (a + 151) w1 w' → P none w') → xE (xGG X) 11 m_Nd_goOnWith 8 [(0, .ref a), (3, .int (nI nx)), (4, .int (nI en)), (5, .int cc)] [] w1 P := by
    intro f
    induction f with
    | zero =>
      intro k cc e nx en ν mo q w1 hcc hk hnx hen hep he hqk hmo hN hR h
      have hk5 : k = 20 := by omega
      subst hk5 hcc
      refine x_iload 10 rfl d_Nd_goOnWith_8 rfl ?_
      refine x_bipush 12 rfl d_Nd_goOnWith_10 20 (by decide) ?_
      refine x_icmp_ge 64 15 rfl d_Nd_goOnWith_12 (by decide) (fun hc => ?_) (fun hc => absurd (by decide) hc)
      refine x_vret d_Nd_goOnWith_64 rfl ?_
      exact h w1 ⟨by rw [show (nGw n t 0 e nx en ν).2 = [] from rfl, qV_nil]; exact hN, hR⟩ (frS.rf _ _ _ _ _ _)
    | succ f ih =>
      intro k cc e nx en ν mo q w1 hcc hk hnx hen hep he hqk hmo hN hR h
      subst hcc
      rw [nGw] at h
      have g1 := hR.1
      have hbn := hN.2.2.2.2.2.2.1
      refine x_iload 10 rfl d_Nd_goOnWith_8 rfl ?_
      refine x_bipush 12 rfl d_Nd_goOnWith_10 20 (by decide) ?_
      refine x_icmp_ge 64 15 rfl d_Nd_goOnWith_12 (by decide) (fun hc => absurd hc (nI_ge (a := k) (b := 20) (by omega) (by decide))) (fun hc => ?_)
      refine x_iload_n 16 rfl d_Nd_goOnWith_15 rfl ?_
      refine x_iload 18 rfl d_Nd_goOnWith_16 rfl ?_
      refine x_icmp_gt 64 21 rfl d_Nd_goOnWith_18 (by decide) (fun hc => ?_) (fun hc => ?_)
      · have z : ¬ nx ≤ en := fun z => absurd hc (by rw [Int32.not_lt]; exact nI_le z (by omega))
        rw [if_neg z] at h
        refine x_vret d_Nd_goOnWith_64 rfl ?_
        exact h w1 ⟨by rw [qV_nil]; exact hN, hR⟩ (frS.rf _ _ _ _ _ _)
      have z : nx ≤ en := by
        by_cases z : nx ≤ en
        · exact z
        · exact absurd (nI_lt (a := en) (b := nx) (by omega) (by omega)) hc
      rw [if_pos z] at h
      refine x_aload_n 22 rfl d_Nd_goOnWith_21 rfl ?_
      refine x_iload_n 23 rfl d_Nd_goOnWith_22 rfl ?_
      refine y_callV 26 rfl [_] _ rfl d_Nd_goOnWith_23 g1 rfl c_Nd_113 rfl (Nat.le_of_ble_eq_true rfl) (Nat.le_of_ble_eq_true rfl) (Nat.le_of_ble_eq_true rfl) (s_Nd_goOnAndLook hX rfl (by omega) hep he (by omega) ha had hN hR (fun w2 k2 f2 => ?_))
      obtain ⟨b1, -, b3, b4, b5⟩ := nLk_keep (n := n) (t := t) (e := e) 5 nx ν
      have hqk2 := hqk.lk (n := n) (t := t) (f := 5) (i := nx)
      generalize nLk n t e 5 nx ν = y at k2 h b1 b3 b4 b5 hqk2
      obtain ⟨hN2, hR2⟩ := k2
      have hep2 : y.1.1 = e + 1 := b1.trans hep
      have g2 := hR2.1
      refine x_iinc 29 rfl d_Nd_goOnWith_26 rfl 1 (by decide) (by decide) ?_
      refine x_aload_n 30 rfl d_Nd_goOnWith_29 rfl ?_
      refine y_callV 33 rfl [] _ rfl d_Nd_goOnWith_30 g2 rfl c_Nd_116 rfl (Nat.le_of_ble_eq_true rfl) (Nat.le_of_ble_eq_true rfl) (Nat.le_of_ble_eq_true rfl) (s_Nd_mayCommit hep2 he hR2 ?_)
      refine x_if_eq 58 36 rfl d_Nd_goOnWith_33 (by decide) (fun hc => ?_) (fun hc => ?_)
      · rw [(nB_0 _).mp hc, if_neg (by decide)] at h
        refine x_iinc 61 rfl d_Nd_goOnWith_58 rfl 1 (by decide) (by decide) ?_
        refine x_goto d_Nd_goOnWith_61 8 (by decide) ?_
        rw [nI_1, nI_1]
        exact xE.fit (ih (k + 1) _ e (nx + 1) en y.1 (mo + 4 * y.2.length) (qV q y.2) w2 rfl (by omega) (by omega) hen hep2 he hqk2 (by omega) hN2 hR2 (fun w3 k3 f3 => h w3 k3.app (f2.tr f3))) rfl
      rw [nB_ne hc, if_pos rfl] at h
      refine x_aload_n 37 rfl d_Nd_goOnWith_36 rfl ?_
      refine y_callV 40 rfl [] _ rfl d_Nd_goOnWith_37 g2 rfl c_Nd_119 rfl (Nat.le_of_ble_eq_true rfl) (Nat.le_of_ble_eq_true rfl) (Nat.le_of_ble_eq_true rfl) (s_Nd_commit hep2 he (by have := hqk2.2; omega) hR2 (fun w3 hR3 f3 => ?_))
      have hc5 : ∀ x, a ≤ x → x < a + 5 → ∃ z, w2.2.2 x = some z ∧ ∀ fs, z ≠ .inr (3, fs) := fun x x1 x2 => hR2.cells x x1 (by omega)
      have hN3 := hN2.own f3 hc5 (by omega) (by omega)
      have F3 := f2.tr ((fr.S (X := X) nb dyn f3 hc5).wide (lo' := a) (hi' := a + 151) (by omega) (by omega))
      have g3 := hR3.1
      have hep3 : (nCm y.1 e).1 = e + 2 := by show y.1.1 + 1 = e + 2; omega
      have hqk3 := hqk2.cm
      generalize nCm y.1 e = ν3 at hR3 h g3 hep3 hqk3
      refine x_aload_n 41 rfl d_Nd_goOnWith_40 rfl ?_
      refine x_get 44 rfl f_Nd_35 d_Nd_goOnWith_41 g3 rfl ?_
      refine x_iconst 45 rfl d_Nd_goOnWith_44 4 (by decide) ?_
      rw [hep3]
      refine x_icmp_ne 49 48 rfl d_Nd_goOnWith_45 (by decide) (fun hc => ?_) (fun hc => ?_)
      · have z3 : ¬ e = 3 := fun z => hc ((iD4 e he).mpr z)
        rw [if_neg z3] at h
        refine x_aload_n 50 rfl d_Nd_goOnWith_49 rfl ?_
        refine y_callV 53 rfl [] _ rfl d_Nd_goOnWith_50 g3 rfl c_Nd_67 rfl (Nat.le_of_ble_eq_true rfl) (Nat.le_of_ble_eq_true rfl) (Nat.le_of_ble_eq_true rfl) (s_Nd_propose hX hn hep3 (by omega) hqk3.1 (by omega) ha had hN3 hR3 (fun w4 hN4 hR4 f4 => ?_))
        refine x_iconst 54 rfl d_Nd_goOnWith_53 0 (by decide) ?_
        refine x_istore_n 55 rfl d_Nd_goOnWith_54 (by decide) ?_
        refine x_iconst 56 rfl d_Nd_goOnWith_55 3 (by decide) ?_
        refine x_istore 58 rfl d_Nd_goOnWith_56 (by decide) ?_
        refine x_iinc 61 rfl d_Nd_goOnWith_58 rfl 1 (by decide) (by decide) ?_
        refine x_goto d_Nd_goOnWith_61 8 (by decide) ?_
        rw [nI_1, nI_1]
        refine xE.fit (ih (k + 1) _ (e + 1) 0 3 ν3 (mo + 4 * (y.2 ++ [nPr n ν3]).length) (qV q (y.2 ++ [nPr n ν3])) w4 rfl (by omega) (by omega) (by omega) hep3 (by omega) hqk3 (by rw [List.length_append, List.length_singleton]; omega) ?_ hR4 (fun w5 k5 f5 => h w5 k5.app ((F3.tr (f4.S a (a + 151))).tr f5))) rfl
        rw [← qV_app, List.length_append, List.length_singleton, Nat.mul_add, ← Nat.add_assoc]
        exact hN4
      · have z3 : e = 3 := (iD4 e he).mp hc
        rw [if_pos z3] at h
        refine x_vret d_Nd_goOnWith_48 rfl ?_
        exact h w3 ⟨hN3, hR3⟩ F3
  refine x_iload_n 1 rfl d_Nd_goOnWith_0 rfl ?_
  refine x_istore_n 2 rfl d_Nd_goOnWith_1 (by decide) ?_
  refine x_iload_n 3 rfl d_Nd_goOnWith_2 rfl ?_
  refine x_istore 5 rfl d_Nd_goOnWith_3 (by decide) ?_
  refine x_iconst 6 rfl d_Nd_goOnWith_5 0 (by decide) ?_
  refine x_istore 8 rfl d_Nd_goOnWith_6 (by decide) ?_
  exact xE.fit (loop 20 0 0 e nx en ν mo q w rfl rfl (by omega) hen hep he hk (by omega) hN hR h) rfl
end GW2
