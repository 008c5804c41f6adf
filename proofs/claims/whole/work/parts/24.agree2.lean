/-! AGREEMENTS GO ON -/
def aVt (me e i : Nat) (α : sA) (bit : Nat) : sA × List sMg := if 2 ≤ aV α bit then aCv me e i α bit else (α, [])
def aGt (me e i : Nat) (α : sA) (bit : Nat) : sA × List sMg := if 3 ≤ aV α bit then aCg me e i α bit else (α, [])
def aSeq (x : sA × List sMg) (f : sA → sA × List sMg) : sA × List sMg := ((f x.1).1, x.2 ++ (f x.1).2)
def aTurn (me e i : Nat) (α : sA) : sA × List sMg := aSeq (aSeq (aSeq (aSeq (aCv me e i α (α.2 1)) (fun z => aVt me e i z 0)) (fun z => aVt me e i z 1)) (fun z => aGt me e i z 0)) (fun z => aGt me e i z 1)
def aGo (me e i : Nat) (t : Int32) : Nat → sA → sA × List sMg
  | 0, α => (α, [])
  | n + 1, α => if (α.1 0 && !α.1 1) = true then (if aGs (aTurn me e i α).1 0 + aGs (aTurn me e i α).1 1 < 3 then aTurn me e i α else aSeq (aFin t e i (aTurn me e i α).1, (aTurn me e i α).2) (aGo me e i t n)) else (α, [])
theorem up0 {f : Nat → Nat} {k v j : Nat} (h : j ≠ k) : va_up f k v j = f j := va_up_ne _ _ h
theorem aOk.vote {α : sA} {bit : Nat} (ok : aOk α) (hb : bit < 2) (hs : ¬ aSent α bit = true) : aOk (aVote α bit) := by
  obtain ⟨o1, o2, o3, o4, o5, o6, o7, o8⟩ := ok
  have hn : ¬ α.2 (8 + α.2 0) / 2 ^ bit % 2 = 1 := fun z => hs (decide_eq_true z)
  have hl := nlt2 _ (o5 _ o1) bit hb
  rw [if_neg hn] at hl
  have ev : ∀ x, x ≠ 8 + α.2 0 → (aVote α bit).2 x = α.2 x := fun x hx => va_up_ne _ _ hx
  have e0 := ev 0 (by omega)
  refine ⟨by rw [e0]; exact o1, by rw [ev 1 (by omega)]; exact o2, by rw [ev 2 (by omega)]; exact o3, by rw [ev 3 (by omega)]; exact o4, fun r hr => ?_, fun r s hr hs => by rw [ev _ (by omega)]; exact o6 r s hr hs, fun r h1 h2 => ?_, fun z => by rw [e0]; exact o8 z⟩
  · by_cases z : r = α.2 0
    · subst z
      show va_up _ _ _ _ < 4
      rw [va_up_self]; exact hl
    · rw [ev _ (by omega)]; exact o5 r hr
  · rw [e0] at h1
    rw [ev _ (by omega)]; exact o7 r h1 h2
theorem fAg_vote {nb me e i a bit : Nat} {t : Int32} {α : sA} : (fAg nb me e i t a α).set 12 (.int (nI (α.2 (8 + α.2 0) + 2 ^ bit))) = fAg nb me e i t a (aVote α bit) := by
  have ev : ∀ x, x ≠ 8 + α.2 0 → (aVote α bit).2 x = α.2 x := fun x hx => va_up_ne _ _ hx
  have e8 : (aVote α bit).2 (8 + α.2 0) = α.2 (8 + α.2 0) + 2 ^ bit := va_up_self _ _ _
  unfold fAg
  rw [ev 0 (by omega), ev 1 (by omega), ev 2 (by omega), ev 3 (by omega), e8]
  rfl
theorem aOk.good {α : sA} {bit : Nat} (ok : aOk α) (hb : bit < 2) : aOk (aSetG α bit) := by
  obtain ⟨o1, o2, o3, o4, o5, o6, o7, o8⟩ := ok
  have ev : ∀ x, x ≠ 3 → (aSetG α bit).2 x = α.2 x := fun x hx => va_up_ne _ _ hx
  have e0 := ev 0 (by omega)
  refine ⟨by rw [e0]; exact o1, by rw [ev 1 (by omega)]; exact o2, by rw [ev 2 (by omega)]; exact o3, ?_, fun r hr => by rw [ev _ (by omega)]; exact o5 r hr, fun r s hr hs => by rw [ev _ (by omega)]; exact o6 r s hr hs, fun r h1 h2 => by rw [e0] at h1; rw [ev _ (by omega)]; exact o7 r h1 h2, fun z => by rw [e0]; exact o8 z⟩
  unfold aSetG
  dsimp only
  rw [va_up_self]
  exact nlt2 _ o4 bit hb
theorem fAg_good {nb me e i a bit : Nat} {t : Int32} {α : sA} : (fAg nb me e i t a α).set 11 (.int (nI (if α.2 3 / 2 ^ bit % 2 = 1 then α.2 3 else α.2 3 + 2 ^ bit))) = fAg nb me e i t a (aSetG α bit) := by
  have ev : ∀ x, x ≠ 3 → (aSetG α bit).2 x = α.2 x := fun x hx => va_up_ne _ _ hx
  have e3 : (aSetG α bit).2 3 = if α.2 3 / 2 ^ bit % 2 = 1 then α.2 3 else α.2 3 + 2 ^ bit := by unfold aSetG; dsimp only; rw [va_up_self]
  unfold fAg
  rw [ev 0 (by omega), ev 1 (by omega), ev 2 (by omega), ev (8 + α.2 0) (by omega), e3]
  rfl
theorem aOk.sure {α : sA} (ok : aOk α) : aOk (va_up α.1 (8 + α.2 0) true, α.2) := by
  obtain ⟨o1, o2, o3, o4, o5, o6, o7, o8⟩ := ok
  refine ⟨o1, o2, o3, o4, o5, o6, fun r h1 h2 => ⟨(o7 r h1 h2).1, ?_⟩, fun z => o8 ?_⟩
  · have h1' : α.2 0 < r := h1
    show va_up _ _ _ _ = _
    rw [va_up_ne _ _ (by omega)]; exact (o7 r h1 h2).2
  · have z' : va_up α.1 (8 + α.2 0) true 0 = false := z
    rw [va_up_ne _ _ (by omega)] at z'; exact z'
theorem fAg_sure {nb me e i a : Nat} {t : Int32} {α : sA} : (fAg nb me e i t a α).set 13 (.int 1) = fAg nb me e i t a (va_up α.1 (8 + α.2 0) true, α.2) := by
  have ev : ∀ x, x ≠ 8 + α.2 0 → va_up α.1 (8 + α.2 0) true x = α.1 x := fun x hx => va_up_ne _ _ hx
  unfold fAg
  dsimp only
  rw [ev 0 (by omega), ev 1 (by omega), va_up_self]
  rfl
theorem aOk.es {α : sA} {v : Nat} (ok : aOk α) (hv : v < 2) : aOk (α.1, va_up α.2 1 v) := by
  obtain ⟨o1, o2, o3, o4, o5, o6, o7, o8⟩ := ok
  have ev : ∀ x, x ≠ 1 → va_up α.2 1 v x = α.2 x := fun x hx => va_up_ne _ _ hx
  have e0 := ev 0 (by decide)
  refine ⟨by dsimp only; rw [e0]; exact o1, by dsimp only; rw [va_up_self]; exact hv, by dsimp only; rw [ev 2 (by decide)]; exact o3, by dsimp only; rw [ev 3 (by decide)]; exact o4, fun r hr => by dsimp only; rw [ev _ (by omega)]; exact o5 r hr, fun r s hr hs => by dsimp only; rw [ev _ (by omega)]; exact o6 r s hr hs, fun r h1 h2 => ?_, fun z => by dsimp only; rw [e0]; exact o8 z⟩
  have h1' : α.2 0 < r := by rw [← e0]; exact h1
  refine ⟨?_, (o7 r h1' h2).2⟩
  dsimp only
  rw [ev _ (by omega)]; exact (o7 r h1' h2).1
theorem aOk.de {α : sA} {v : Nat} (ok : aOk α) (hv : v < 3) : aOk (α.1, va_up α.2 2 v) := by
  obtain ⟨o1, o2, o3, o4, o5, o6, o7, o8⟩ := ok
  have ev : ∀ x, x ≠ 2 → va_up α.2 2 v x = α.2 x := fun x hx => va_up_ne _ _ hx
  have e0 := ev 0 (by decide)
  refine ⟨by dsimp only; rw [e0]; exact o1, by dsimp only; rw [ev 1 (by decide)]; exact o2, by dsimp only; rw [va_up_self]; exact hv, by dsimp only; rw [ev 3 (by decide)]; exact o4, fun r hr => by dsimp only; rw [ev _ (by omega)]; exact o5 r hr, fun r s hr hs => by dsimp only; rw [ev _ (by omega)]; exact o6 r s hr hs, fun r h1 h2 => ?_, fun z => by dsimp only; rw [e0]; exact o8 z⟩
  have h1' : α.2 0 < r := by rw [← e0]; exact h1
  refine ⟨?_, (o7 r h1' h2).2⟩
  dsimp only
  rw [ev _ (by omega)]; exact (o7 r h1' h2).1
theorem fAg_es {nb me e i a v : Nat} {t : Int32} {α : sA} (hin : α.1 0 = true) : (fAg nb me e i t a α).set 8 (.int (nI v)) = fAg nb me e i t a (α.1, va_up α.2 1 v) := by
  have ev : ∀ x, x ≠ 1 → va_up α.2 1 v x = α.2 x := fun x hx => va_up_ne _ _ hx
  unfold fAg
  dsimp only
  rw [ev 0 (by omega), ev 2 (by omega), ev 3 (by omega), ev (8 + α.2 0) (by omega), va_up_self, hin]
  rfl
theorem fAg_de {nb me e i a v : Nat} {t : Int32} {α : sA} : (fAg nb me e i t a α).set 9 (.int (nI v)) = fAg nb me e i t a (α.1, va_up α.2 2 (v + 1)) := by
  have ev : ∀ x, x ≠ 2 → va_up α.2 2 (v + 1) x = α.2 x := fun x hx => va_up_ne _ _ hx
  unfold fAg
  dsimp only
  rw [ev 0 (by omega), ev 1 (by omega), ev 3 (by omega), ev (8 + α.2 0) (by omega), va_up_self]
  rfl
/-- one put of the object -/
theorem rAg.put {X : xPar} {nb me e i a : Nat} {t : Int32} {α α' : sA} {w : xW} {fs : List Value} (h : rAg X nb me e i t a α w) (hf : fs = fAg nb me e i t a α') (e1 : ∀ s, 32 ≤ s → α.1 s = α'.1 s) (e2 : ∀ s, 32 ≤ s → α.2 s = α'.2 s) (hok : aOk α') : rAg X nb me e i t a α' (xset w a (.inr (0, fs))) := h.obj (by rw [xset_at, hf]) (fun x hx => xset_ne _ _ hx) e1 e2 hok
section AG2
variable {X : xPar} {sb L : Nat} {xs : Nat → Int32} {tI tE mi nb dyn c0 s0 mo me e i a : Nat} {t : Int32} {q : Nat → List sMg} {α : sA} {w : xW} {P : Option Value → xW → Prop}
/-- the world behind a step: so many messages more, the agreement so -/
def oA (X : xPar) (tE nb dyn c0 s0 mo me e i a : Nat) (t : Int32) (q : Nat → List sMg) (y : sA × List sMg) (w' : xW) : Prop := rNt X tE nb dyn c0 s0 (mo + y.2.length) (qMs q y.2) w' ∧ rAg X nb me e i t a y.1 w'
theorem s_Ag_sendVote (hX : xS X sb L xs tI tE mi) {bb : Int32} {bit : Nat} (hbb : bb = nI bit) (hb : bit < 2) (hin : α.1 0 = true) (hmo : mo < 90000) (hN : rNt X tE nb dyn c0 s0 mo q w) (hR : rAg X nb me e i t a α w) (ha : nb + 10 ≤ a) (had : a + 3 ≤ dyn) (h : ∀ w', oA X tE nb dyn c0 s0 mo me e i a t q (aCv me e i α bit) w' → frS X nb dyn a (a + 3) w w' → P none w') : xE (xGG X) 8 m_Ag_sendVote 0 [(0, .ref a), (1, .int bb)] [] w P := by
  subst hbb
  have g1 := hR.1
  have ok := hR.2.2.2
  have hql := hN.2.2.2.2.2.2.2
  have hbse := hN.2.2.2.2.2.2.1
  have hdw := hN.2.2.1
  have hsv := ok.2.2.2.2.1 _ ok.1
  refine x_aload_n 1 rfl d_Ag_sendVote_0 rfl ?_
  refine x_get 4 rfl f_Ag_88 d_Ag_sendVote_1 g1 rfl ?_
  refine x_iload_n 5 rfl d_Ag_sendVote_4 rfl ?_
  refine x_ishr 6 rfl d_Ag_sendVote_5 ?_
  refine x_iconst 7 rfl d_Ag_sendVote_6 1 (by decide) ?_
  refine x_iand 8 rfl d_Ag_sendVote_7 ?_
  rw [nb2 _ hsv _ hb]
  refine x_if_ne 55 11 rfl d_Ag_sendVote_8 (by decide) (fun hc => ?_) (fun hc => ?_)
  · refine x_vret d_Ag_sendVote_55 rfl ?_
    have h5 : aSent α bit = true := by
      refine decide_eq_true ?_
      by_cases z : α.2 (8 + α.2 0) / 2 ^ bit % 2 = 0
      · exact absurd (by rw [z]; rfl) hc
      · omega
    refine h w ?_ (frS.rf _ _ _ _ _ _)
    rw [aCv, if_pos h5]
    exact ⟨by rw [qMs_nil]; exact hN, hR⟩
  have hs : ¬ aSent α bit = true := by
    intro z
    have z' := of_decide_eq_true z
    rw [z'] at hc
    exact absurd hc (by decide)
  have hn : ¬ α.2 (8 + α.2 0) / 2 ^ bit % 2 = 1 := fun z => hs (decide_eq_true z)
  rw [aCv, if_neg hs] at h
  refine x_aload_n 12 rfl d_Ag_sendVote_11 rfl ?_
  refine x_dup 13 rfl d_Ag_sendVote_12 rfl ?_
  refine x_get 16 rfl f_Ag_88 d_Ag_sendVote_13 g1 rfl ?_
  refine x_iconst 17 rfl d_Ag_sendVote_16 1 (by decide) ?_
  refine x_iload_n 18 rfl d_Ag_sendVote_17 rfl ?_
  refine x_ishl 19 rfl d_Ag_sendVote_18 ?_
  refine x_ior 20 rfl d_Ag_sendVote_19 ?_
  rw [no2 _ hsv _ hb, if_neg hn]
  refine x_put 23 rfl p_Ag_88 (fun h => nomatch h) d_Ag_sendVote_20 g1 rfl rfl (Nat.le_of_ble_eq_true rfl) ?_
  have hR1 := hR.put (α' := aVote α bit) fAg_vote (fun s hs => rfl) (fun s hs => (va_up_ne _ _ (by have := ok.1; omega)).symm) (ok.vote hb hs)
  generalize hw1 : xset w a _ = w1 at hR1 ⊢
  have f1 : fr w w1 a (a + 3) := by rw [← hw1]; exact (fr.rf w a (a + 3)).set _ (by omega) (by omega)
  have hN1 := hN.own f1 hR.cells ha had
  have k1 := hR1.1
  have hrd : iR ((aVote α bit).1 0) ((aVote α bit).2 0) = nI (α.2 0) := by
    have e0 : (aVote α bit).2 0 = α.2 0 := va_up_ne _ _ (by omega)
    rw [e0]
    show iR (α.1 0) _ = _
    rw [hin]; rfl
  refine x_aload_n 24 rfl d_Ag_sendVote_23 rfl ?_
  refine x_get 27 rfl f_Ag_28 d_Ag_sendVote_24 k1 rfl ?_
  refine x_new 30 rfl d_Ag_sendVote_27 (ci := 3) (ty := t_Ms) (fs := [.int 0, .int 0, .int 0, .int 0, .int 0, .int 0]) rfl l_Ms t_Ms_ok q_Ag_45 i_Ms z_Ms (by decide) ?_
  have k1' : (xnew w1 6 (.inr (3, [.int 0, .int 0, .int 0, .int 0, .int 0, .int 0]))).2.2 a = some (.inr (0, fAg nb me e i t a (aVote α bit))) := by rw [xnew_ne _ _ _ (by have := f1.1; omega)]; exact k1
  refine x_dup 31 rfl d_Ag_sendVote_30 rfl ?_
  refine x_aload_n 32 rfl d_Ag_sendVote_31 rfl ?_
  refine x_get 35 rfl f_Ag_32 d_Ag_sendVote_32 k1' rfl ?_
  refine x_aload_n 36 rfl d_Ag_sendVote_35 rfl ?_
  refine x_get 39 rfl f_Ag_35 d_Ag_sendVote_36 k1' rfl ?_
  refine x_aload_n 40 rfl d_Ag_sendVote_39 rfl ?_
  refine x_get 43 rfl f_Ag_38 d_Ag_sendVote_40 k1' rfl ?_
  refine x_iconst 44 rfl d_Ag_sendVote_43 3 (by decide) ?_
  refine x_aload_n 45 rfl d_Ag_sendVote_44 rfl ?_
  refine x_get 48 rfl f_Ag_18 d_Ag_sendVote_45 k1' rfl ?_
  refine x_iload_n 49 rfl d_Ag_sendVote_48 rfl ?_
  rw [hrd]
  refine y_callI 52 rfl [_, _, _, _, _, _] _ rfl d_Ag_sendVote_49 c_Ag_91 rfl (Nat.le_of_ble_eq_true rfl) (Nat.le_of_ble_eq_true rfl) (Nat.le_of_ble_eq_true rfl) (s_Ms_init (mg := (me, e, i, 3, nI (α.2 0), nI bit)) rfl (xnew_at _ _ _) rfl (fun w2 j1 j2 j3 j4 => ?_))
  have j5 : ∀ x, x ≠ w1.1 → w2.2.2 x = w1.2.2 x := fun x hx => by rw [j4 x hx, xnew_ne _ _ _ hx]
  have hN2 := hN1.msg j1 j2 j5
  obtain ⟨ed, cap, -, -, -, hk4, -, -⟩ := hql
  refine y_callV 55 rfl [_] _ rfl d_Ag_sendVote_52 hN2.2.2.2.1 rfl c_Ag_94 rfl (Nat.le_of_ble_eq_true rfl) (Nat.le_of_ble_eq_true rfl) (Nat.le_of_ble_eq_true rfl) (s_Nt_sendToAll hX (by omega) hN2 j3 (fun j hj => by have := hk4 j hj; omega) (fun w3 m1 m2 => ?_))
  refine x_vret d_Ag_sendVote_55 rfl ?_
  have fin : ∀ x, X.2.1 ≤ x → x < dyn → (∀ j, j < 4 → x ≠ nb + 3 + 2 * j) → w3.2.2 x = w1.2.2 x := fun x x1 x2 x3 => (m2.1 x x1 x2 x3).trans (j5 x (by have := f1.1; omega))
  refine h w3 ⟨m1, hR1.kept (fun x x1 x2 => fin x (by omega) (by omega) (fun j hj => by omega))⟩ ⟨fun x x1 x2 x3 x4 => (fin x x1 x2 x4).trans (f1.2.2 x x3), fun m fs hm => ?_⟩
  have hm1 := (fr.S (X := X) nb dyn f1 hR.cells).2 m fs hm
  exact m2.2 m fs (by rw [j5 m (by have := hN1.1 _ _ hm1; omega)]; exact hm1)
theorem s_Ag_makeGood (hX : xS X sb L xs tI tE mi) {bb : Int32} {bit : Nat} (hbb : bb = nI bit) (hb : bit < 2) (hin : α.1 0 = true) (hmo : mo < 90000) (hN : rNt X tE nb dyn c0 s0 mo q w) (hR : rAg X nb me e i t a α w) (ha : nb + 10 ≤ a) (had : a + 3 ≤ dyn) (h : ∀ w', oA X tE nb dyn c0 s0 mo me e i a t q (aCg me e i α bit) w' → frS X nb dyn a (a + 3) w w' → P none w') : xE (xGG X) 8 m_Ag_makeGood 0 [(0, .ref a), (1, .int bb)] [] w P := by
  subst hbb
  have g1 := hR.1
  have ok := hR.2.2.2
  have hql := hN.2.2.2.2.2.2.2
  have hbse := hN.2.2.2.2.2.2.1
  have hdw := hN.2.2.1
  have hgd := ok.2.2.2.1
  refine x_aload_n 1 rfl d_Ag_makeGood_0 rfl ?_
  refine x_dup 2 rfl d_Ag_makeGood_1 rfl ?_
  refine x_get 5 rfl f_Ag_100 d_Ag_makeGood_2 g1 rfl ?_
  refine x_iconst 6 rfl d_Ag_makeGood_5 1 (by decide) ?_
  refine x_iload_n 7 rfl d_Ag_makeGood_6 rfl ?_
  refine x_ishl 8 rfl d_Ag_makeGood_7 ?_
  refine x_ior 9 rfl d_Ag_makeGood_8 ?_
  rw [no2 _ hgd _ hb]
  refine x_put 12 rfl p_Ag_100 (fun h => nomatch h) d_Ag_makeGood_9 g1 rfl rfl (Nat.le_of_ble_eq_true rfl) ?_
  have hR0 := hR.put (α' := aSetG α bit) fAg_good (fun s hs => rfl) (fun s hs => (va_up_ne _ _ (by omega)).symm) (ok.good hb)
  generalize hw0 : xset w a _ = w0 at hR0 ⊢
  have f0 : fr w w0 a (a + 3) := by rw [← hw0]; exact (fr.rf w a (a + 3)).set _ (by omega) (by omega)
  have hN0 := hN.own f0 hR.cells ha had
  have k0 := hR0.1
  have e00 : (aSetG α bit).2 0 = α.2 0 := by unfold aSetG; dsimp only; rw [va_up_ne _ _ (by decide)]
  have e01 : (aSetG α bit).1 = α.1 := rfl
  refine x_aload_n 13 rfl d_Ag_makeGood_12 rfl ?_
  refine x_get 16 rfl f_Ag_103 d_Ag_makeGood_13 k0 rfl ?_
  rw [e01, e00]
  refine x_if_ne 56 19 rfl d_Ag_makeGood_16 (by decide) (fun hc => ?_) (fun hc => ?_)
  · refine x_vret d_Ag_makeGood_56 rfl ?_
    refine h w0 ?_ (fr.S nb dyn f0 hR.cells)
    rw [aCg, if_pos (nB_ne hc)]
    exact ⟨by rw [qMs_nil]; exact hN0, hR0⟩
  have hns : ¬ α.1 (8 + α.2 0) = true := by rw [(nB_0 _).mp hc]; decide
  rw [aCg, if_neg hns] at h
  refine x_aload_n 20 rfl d_Ag_makeGood_19 rfl ?_
  refine x_iconst 21 rfl d_Ag_makeGood_20 1 (by decide) ?_
  refine x_put 24 rfl p_Ag_103 (fun h => nomatch h) d_Ag_makeGood_21 k0 rfl rfl (Nat.le_of_ble_eq_true rfl) ?_
  have hR1 := hR0.put (α' := (va_up α.1 (8 + α.2 0) true, (aSetG α bit).2)) (fs := (fAg nb me e i t a (aSetG α bit)).set 13 (.int 1)) (by rw [fAg_sure, e00, e01]) (fun s hs => (va_up_ne _ _ (by have := ok.1; omega)).symm) (fun s hs => rfl) (by have := (ok.good hb).sure; rw [e00, e01] at this; exact this)
  generalize hw1 : xset w0 a _ = w1 at hR1 ⊢
  have f1 : fr w w1 a (a + 3) := by rw [← hw1]; exact f0.set _ (by omega) (by omega)
  have hN1 := hN.own f1 hR.cells ha had
  have k1 := hR1.1
  have hrd : iR ((va_up α.1 (8 + α.2 0) true) 0) ((aSetG α bit).2 0) = nI (α.2 0) := by
    rw [e00, va_up_ne _ _ (by omega), hin]; rfl
  refine x_aload_n 25 rfl d_Ag_makeGood_24 rfl ?_
  refine x_get 28 rfl f_Ag_28 d_Ag_makeGood_25 k1 rfl ?_
  refine x_new 31 rfl d_Ag_makeGood_28 (ci := 3) (ty := t_Ms) (fs := [.int 0, .int 0, .int 0, .int 0, .int 0, .int 0]) rfl l_Ms t_Ms_ok q_Ag_45 i_Ms z_Ms (by decide) ?_
  have k1' : (xnew w1 6 (.inr (3, [.int 0, .int 0, .int 0, .int 0, .int 0, .int 0]))).2.2 a = some (.inr (0, fAg nb me e i t a (va_up α.1 (8 + α.2 0) true, (aSetG α bit).2))) := by rw [xnew_ne _ _ _ (by have := f1.1; omega)]; exact k1
  refine x_dup 32 rfl d_Ag_makeGood_31 rfl ?_
  refine x_aload_n 33 rfl d_Ag_makeGood_32 rfl ?_
  refine x_get 36 rfl f_Ag_32 d_Ag_makeGood_33 k1' rfl ?_
  refine x_aload_n 37 rfl d_Ag_makeGood_36 rfl ?_
  refine x_get 40 rfl f_Ag_35 d_Ag_makeGood_37 k1' rfl ?_
  refine x_aload_n 41 rfl d_Ag_makeGood_40 rfl ?_
  refine x_get 44 rfl f_Ag_38 d_Ag_makeGood_41 k1' rfl ?_
  refine x_iconst 45 rfl d_Ag_makeGood_44 4 (by decide) ?_
  refine x_aload_n 46 rfl d_Ag_makeGood_45 rfl ?_
  refine x_get 49 rfl f_Ag_18 d_Ag_makeGood_46 k1' rfl ?_
  refine x_iload_n 50 rfl d_Ag_makeGood_49 rfl ?_
  rw [hrd]
  refine y_callI 53 rfl [_, _, _, _, _, _] _ rfl d_Ag_makeGood_50 c_Ag_91 rfl (Nat.le_of_ble_eq_true rfl) (Nat.le_of_ble_eq_true rfl) (Nat.le_of_ble_eq_true rfl) (s_Ms_init (mg := (me, e, i, 4, nI (α.2 0), nI bit)) rfl (xnew_at _ _ _) rfl (fun w2 j1 j2 j3 j4 => ?_))
  have j5 : ∀ x, x ≠ w1.1 → w2.2.2 x = w1.2.2 x := fun x hx => by rw [j4 x hx, xnew_ne _ _ _ hx]
  have hN2 := hN1.msg j1 j2 j5
  obtain ⟨ed, cap, -, -, -, hk4, -, -⟩ := hql
  refine y_callV 56 rfl [_] _ rfl d_Ag_makeGood_53 hN2.2.2.2.1 rfl c_Ag_94 rfl (Nat.le_of_ble_eq_true rfl) (Nat.le_of_ble_eq_true rfl) (Nat.le_of_ble_eq_true rfl) (s_Nt_sendToAll hX (by omega) hN2 j3 (fun j hj => by have := hk4 j hj; omega) (fun w3 m1 m2 => ?_))
  refine x_vret d_Ag_makeGood_56 rfl ?_
  have fin : ∀ x, X.2.1 ≤ x → x < dyn → (∀ j, j < 4 → x ≠ nb + 3 + 2 * j) → w3.2.2 x = w1.2.2 x := fun x x1 x2 x3 => (m2.1 x x1 x2 x3).trans (j5 x (by have := f1.1; omega))
  refine h w3 ⟨m1, hR1.kept (fun x x1 x2 => fin x (by omega) (by omega) (fun j hj => by omega))⟩ ⟨fun x x1 x2 x3 x4 => (fin x x1 x2 x4).trans (f1.2.2 x x3), fun m fs hm => ?_⟩
  have hm1 := (fr.S (X := X) nb dyn f1 hR.cells).2 m fs hm
  exact m2.2 m fs (by rw [j5 m (by have := hN1.1 _ _ hm1; omega)]; exact hm1)
end AG2
