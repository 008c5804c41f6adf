/-! BROADCASTS: flags 0 has the value, 1 echo sent, 2 ready sent, 8 + s echo of s, 16 + s ready of s; values 0 value's root, 1 its witness, 2 proposal, 8 + s echo's root, 16 + s echo's byte, 24 + s ready's root -/
abbrev sB : Type := (Nat → Bool) × (Nat → Int32)
def fBc (nb me e i a : Nat) (β : sB) : List Value := [.ref nb, .int (nI me), .int (nI e), .int (nI i), .int (nB (β.1 0)), .int (β.2 0), .int (β.2 1), .ref (a + 1), .ref (a + 3), .ref (a + 4), .int (nB (β.1 1)), .int (nB (β.1 2)), .int (β.2 2)]
def rBc (X : xPar) (nb me e i a : Nat) (β : sB) (w : xW) : Prop := w.2.2 a = some (.inr (1, fBc nb me e i a β)) ∧ rRt X w (a + 1) (fun s => β.1 (8 + s)) (fun s => β.2 (8 + s)) ∧ aI X w (a + 3) 4 (fun s => β.2 (16 + s)) ∧ rRt X w (a + 4) (fun s => β.1 (16 + s)) (fun s => β.2 (24 + s)) ∧ ∀ s, s < 4 → cUn (β.2 (16 + s)) < 256
theorem fBc_congr {nb me e i a : Nat} {β β' : sB} (h1 : ∀ s, s < 8 → β.1 s = β'.1 s) (h2 : ∀ s, s < 8 → β.2 s = β'.2 s) : fBc nb me e i a β = fBc nb me e i a β' := by
  unfold fBc
  rw [h1 0 (by decide), h1 1 (by decide), h1 2 (by decide), h2 0 (by decide), h2 1 (by decide), h2 2 (by decide)]
theorem rBc.kept {X : xPar} {nb me e i a : Nat} {β : sB} {w w' : xW} (h : rBc X nb me e i a β w) (hk : ∀ x, a ≤ x → x < a + 6 → w'.2.2 x = w.2.2 x) : rBc X nb me e i a β w' := by
  obtain ⟨h1, h2, h3, h4, h5⟩ := h
  exact ⟨(hk a (by omega) (by omega)).trans h1, h2.kept (hk _ (by omega) (by omega)) (hk _ (by omega) (by omega)), h3.kept (hk _ (by omega) (by omega)), h4.kept (hk _ (by omega) (by omega)) (hk _ (by omega) (by omega)), h5⟩
/-- the object alone is written -/
theorem rBc.obj {X : xPar} {nb me e i a : Nat} {β β' : sB} {w w' : xW} (h : rBc X nb me e i a β w) (h1 : w'.2.2 a = some (.inr (1, fBc nb me e i a β'))) (hk : ∀ x, x ≠ a → w'.2.2 x = w.2.2 x) (e1 : ∀ s, 8 ≤ s → β.1 s = β'.1 s) (e2 : ∀ s, 8 ≤ s → β.2 s = β'.2 s) : rBc X nb me e i a β' w' := by
  obtain ⟨-, h2, h3, h4, h5⟩ := h
  obtain ⟨f, h6, h7⟩ := h3
  exact ⟨h1, (h2.kept (hk _ (by omega)) (hk _ (by omega))).congr (fun s _ => e1 _ (by omega)) (fun s _ => e2 _ (by omega)), ⟨f, (hk _ (by omega)).trans h6, fun j hj => (h7 j hj).trans (e2 _ (by omega))⟩, (h4.kept (hk _ (by omega)) (hk _ (by omega))).congr (fun s _ => e1 _ (by omega)) (fun s _ => e2 _ (by omega)), fun s hs => by rw [← e2 _ (by omega)]; exact h5 s hs⟩
theorem rBc.cells {X : xPar} {nb me e i a : Nat} {β : sB} {w : xW} (h : rBc X nb me e i a β w) : ∀ x, a ≤ x → x < a + 6 → ∃ z, w.2.2 x = some z ∧ ∀ fs, z ≠ .inr (3, fs) := by
  obtain ⟨h1, h2, ⟨f3, h3, -⟩, h4, -⟩ := h
  obtain ⟨f2, h2b, -⟩ := h2.2
  obtain ⟨f4, h4b, -⟩ := h4.2
  intro x h5 h6
  rcases (show x = a ∨ x = a + 1 ∨ x = a + 2 ∨ x = a + 3 ∨ x = a + 4 ∨ x = a + 5 by omega) with rfl | rfl | rfl | rfl | rfl | rfl
  · exact ⟨_, h1, fun fs z => by cases z⟩
  · exact ⟨_, h2.1, fun fs z => by cases z⟩
  · exact ⟨_, h2b, fun fs z => by cases z⟩
  · exact ⟨_, h3, fun fs z => by cases z⟩
  · exact ⟨_, h4.1, fun fs z => by cases z⟩
  · exact ⟨_, h4b, fun fs z => by cases z⟩
/-- own cells, of which none is a message, are written: the network stays -/
theorem rNt.own {X : xPar} {tE nb dyn c0 s0 mo lo hi : Nat} {q : Nat → List sMg} {w w' : xW} (h : rNt X tE nb dyn c0 s0 mo q w) (hf : fr w w' lo hi) (hc : ∀ x, lo ≤ x → x < hi → ∃ z, w.2.2 x = some z ∧ ∀ fs, z ≠ .inr (3, fs)) (h1 : nb + 10 ≤ lo) (h2 : hi ≤ dyn) : rNt X tE nb dyn c0 s0 mo q w' := by
  refine h.kept hf.1 hf.2.1 (fun x hx => ?_) (fun x h3 h4 => hf.2.2 x (by omega)) (fun x h3 => hf.2.2 x (by omega)) (fun m fs hm => ?_)
  · rw [hf.2.2 x]
    · exact hx
    · by_cases z : lo ≤ x ∧ x < hi
      · obtain ⟨y, h5, -⟩ := hc x z.1 z.2
        rw [hx] at h5; cases h5
      · omega
  · rw [hf.2.2 m]
    · exact hm
    · by_cases z : lo ≤ m ∧ m < hi
      · obtain ⟨y, h5, h6⟩ := hc m z.1 z.2
        rw [hm] at h5
        exact absurd (Option.some.inj h5).symm (h6 fs)
      · omega
/-- what a method that sends leaves: its own cells [lo, hi) and the network apart -/
def frS (X : xPar) (nb dyn lo hi : Nat) (w w' : xW) : Prop := (∀ x, X.2.1 ≤ x → x < dyn → (x < lo ∨ hi ≤ x) → (∀ i, i < 4 → x ≠ nb + 3 + 2 * i) → w'.2.2 x = w.2.2 x) ∧ (∀ m fs, w.2.2 m = some (.inr (3, fs)) → w'.2.2 m = some (.inr (3, fs)))
theorem frS.rf (X : xPar) (nb dyn lo hi : Nat) (w : xW) : frS X nb dyn lo hi w w := ⟨fun _ _ _ _ _ => rfl, fun _ _ h => h⟩
theorem frS.tr {X : xPar} {nb dyn lo hi : Nat} {w w' w'' : xW} (h : frS X nb dyn lo hi w w') (h2 : frS X nb dyn lo hi w' w'') : frS X nb dyn lo hi w w'' := ⟨fun x a b c d => (h2.1 x a b c d).trans (h.1 x a b c d), fun m fs z => h2.2 m fs (h.2 m fs z)⟩
theorem frS.wide {X : xPar} {nb dyn lo hi lo' hi' : Nat} {w w' : xW} (h : frS X nb dyn lo hi w w') (h1 : lo' ≤ lo) (h2 : hi ≤ hi') : frS X nb dyn lo' hi' w w' := ⟨fun x a b c d => h.1 x a b (by omega) d, h.2⟩
theorem frN.S {X : xPar} {nb dyn : Nat} {w w' : xW} (lo hi : Nat) (h : frN X nb dyn w w') : frS X nb dyn lo hi w w' := ⟨fun x a b _ d => h.1 x a b d, h.2⟩
theorem fr.S {X : xPar} {lo hi : Nat} {w w' : xW} (nb dyn : Nat) (hf : fr w w' lo hi) (hc : ∀ x, lo ≤ x → x < hi → ∃ z, w.2.2 x = some z ∧ ∀ fs, z ≠ .inr (3, fs)) : frS X nb dyn lo hi w w' := by
  refine ⟨fun x _ _ h _ => hf.2.2 x h, fun m fs hm => ?_⟩
  rw [hf.2.2 m]
  · exact hm
  · by_cases z : lo ≤ m ∧ m < hi
    · obtain ⟨y, h5, h6⟩ := hc m z.1 z.2
      rw [hm] at h5
      exact absurd (Option.some.inj h5).symm (h6 fs)
    · omega
def bKv (me i : Nat) (β : sB) (m : sMg) : sB := if (!β.1 0 && decide (m.1 = i) && cRight m.2.2.2.2.1 (cUn m.2.2.2.2.2) me) = true then (va_up β.1 0 true, va_up (va_up β.2 0 m.2.2.2.2.1) 1 m.2.2.2.2.2) else β
def bKe (β : sB) (m : sMg) : sB := if (!β.1 (8 + m.1) && cRight m.2.2.2.2.1 (cUn m.2.2.2.2.2) m.1) = true then (va_up β.1 (8 + m.1) true, va_up (va_up β.2 (8 + m.1) m.2.2.2.2.1) (16 + m.1) (nI (cUn m.2.2.2.2.2 % 256))) else β
def bKr (β : sB) (m : sMg) : sB := if (!β.1 (16 + m.1)) = true then (va_up β.1 (16 + m.1) true, va_up β.2 (24 + m.1) m.2.2.2.2.1) else β
def bKeep (me i : Nat) (β : sB) (m : sMg) : sB := if m.2.2.2.1 = 0 then bKv me i β m else if m.2.2.2.1 = 1 then bKe β m else bKr β m
def bGvR (β : sB) (root : Int32) : Nat := cGv (fun s => β.1 (8 + s) && decide (β.2 (8 + s) = root)) (fun s => cUn (β.2 (16 + s)))
def bMk (β : sB) (root : Int32) : Bool := decide (cRoot (bGvR β root % 256) (bGvR β root / 256) = root)
def bRd2 (β : sB) : Option Int32 := (cFs (fun s => β.1 (16 + s)) (fun s => β.2 (24 + s)) 2).map (fun s => β.2 (24 + s))
def bReady (β : sB) : Option Int32 := match cFs (fun s => β.1 (8 + s)) (fun s => β.2 (8 + s)) 3 with
  | some s => if bMk β (β.2 (8 + s)) = true then some (β.2 (8 + s)) else bRd2 β
  | none => bRd2 β
def bProp (β : sB) : Option Nat := match cFs (fun s => β.1 (16 + s)) (fun s => β.2 (24 + s)) 3 with
  | some s => if 2 ≤ cCt (fun s => β.1 (8 + s)) (fun s => β.2 (8 + s)) (β.2 (24 + s)) then some (if bMk β (β.2 (24 + s)) = true then bGvR β (β.2 (24 + s)) else 0) else none
  | none => none
theorem cFs_lt {h : Nat → Bool} {r : Nat → Int32} {n s : Nat} (e : cFs h r n = some s) : s < 4 := by
  unfold cFs at e
  exact List.mem_range.mp (List.mem_of_find?_eq_some e)
theorem cGv_lt {g : Nat → Bool} {eb : Nat → Nat} (h : ∀ s, s < 4 → eb s < 256) : cGv g eb < 65536 := by
  unfold cGv
  split
  · rename_i k l t e
    have hk : k ∈ (List.range 4).filter g := by rw [e]; exact List.mem_cons_self
    have hl : l ∈ (List.range 4).filter g := by rw [e]; exact List.mem_cons_of_mem _ List.mem_cons_self
    have hk4 := List.mem_range.mp (List.mem_filter.mp hk).1
    have hl4 := List.mem_range.mp (List.mem_filter.mp hl).1
    have hnd : ((List.range 4).filter g).Nodup := List.Pairwise.filter _ List.nodup_range
    rw [e] at hnd
    have hne : k ≠ l := fun z => (List.nodup_cons.mp hnd).1 (by rw [z]; exact List.mem_cons_self)
    exact cSv_lt hk4 hl4 hne (h k hk4) (h l hl4)
  · decide
theorem bGvR_lt {β : sB} {root : Int32} (h : ∀ s, s < 4 → cUn (β.2 (16 + s)) < 256) : bGvR β root < 65536 := cGv_lt h
theorem iO_ne {o : Option Nat} (h : ∀ s, o = some s → s < 4) : iO o = -1 ↔ o = none := by
  cases o with
  | none => exact ⟨fun _ => rfl, fun _ => rfl⟩
  | some s =>
    have := h s rfl
    refine ⟨fun z => ?_, fun z => by cases z⟩
    exact absurd z ((by decide +kernel : ∀ s, s < 4 → ¬ iO (some s) = -1) s this)
theorem nB_ne {b : Bool} (h : ¬ nB b = 0) : b = true := by
  cases b with
  | true => rfl
  | false => exact absurd rfl h
section BC
variable {X : xPar} {sb L : Nat} {xs : Nat → Int32} {tI tE mi nb dyn c0 s0 mo me e i a : Nat} {q : Nat → List sMg} {β : sB} {w : xW} {P : Option Value → xW → Prop}
theorem s_Bc_keepValue {m : Nat} {mg : sMg} (hme : me < 4) (hi : i < 4) (hs : mg.1 < 4) (hR : rBc X nb me e i a β w) (hm : w.2.2 m = some (.inr (3, fMs mg))) (h : ∀ w', rBc X nb me e i a (bKv me i β mg) w' → fr w w' a (a + 6) → P none w') : xE (xGG X) 2 m_Bc_keepValue 0 [(0, .ref a), (1, .ref m)] [] w P := by
  have g1 := hR.1
  have same : (!β.1 0 && decide (mg.1 = i) && cRight mg.2.2.2.2.1 (cUn mg.2.2.2.2.2) me) = false → P none w := fun z => h w (by rw [bKv, if_neg (by rw [z]; decide)]; exact hR) (fr.rf _ _ _)
  refine x_aload_n 1 rfl d_Bc_keepValue_0 rfl ?_
  refine x_get 4 rfl f_Bc_68 d_Bc_keepValue_1 g1 rfl ?_
  refine x_if_ne 57 7 rfl d_Bc_keepValue_4 (by decide) (fun hc => ?_) (fun hc => ?_)
  · refine x_vret d_Bc_keepValue_57 rfl ?_
    exact same (by rw [nB_ne hc]; rfl)
  refine x_aload_n 8 rfl d_Bc_keepValue_7 rfl ?_
  refine x_get 11 rfl f_Bc_54 d_Bc_keepValue_8 hm rfl ?_
  refine x_aload_n 12 rfl d_Bc_keepValue_11 rfl ?_
  refine x_get 15 rfl f_Bc_39 d_Bc_keepValue_12 g1 rfl ?_
  refine x_icmp_ne 57 18 rfl d_Bc_keepValue_15 (by decide) (fun hc2 => ?_) (fun hc2 => ?_)
  · refine x_vret d_Bc_keepValue_57 rfl ?_
    exact same (by rw [decide_eq_false (fun z => hc2 (by rw [z]))]; simp)
  have hsi : mg.1 = i := (nI_eq (by omega) (by omega)).mp hc2
  refine x_aload_n 19 rfl d_Bc_keepValue_18 rfl ?_
  refine x_get 22 rfl f_Bc_33 d_Bc_keepValue_19 g1 rfl ?_
  refine x_aload_n 23 rfl d_Bc_keepValue_22 rfl ?_
  refine x_get 26 rfl f_Bc_61 d_Bc_keepValue_23 hm rfl ?_
  refine x_aload_n 27 rfl d_Bc_keepValue_26 rfl ?_
  refine x_get 30 rfl f_Bc_72 d_Bc_keepValue_27 hm rfl ?_
  refine y_call 33 rfl [_, _, _] _ rfl d_Bc_keepValue_30 c_Bc_75 rfl (Nat.le_of_ble_eq_true rfl) (Nat.le_of_ble_eq_true rfl) (Nat.le_of_ble_eq_true rfl) (s_Co_isRight rfl (nI_cUn _).symm hme (cUn_lt _) ?_)
  refine x_if_eq 57 36 rfl d_Bc_keepValue_33 (by decide) (fun hc3 => ?_) (fun hc3 => ?_)
  · refine x_vret d_Bc_keepValue_57 rfl ?_
    exact same (by rw [(nB_0 _).mp hc3]; simp)
  have hc0 : β.1 0 = false := (nB_0 _).mp hc
  have hm2 : ∀ z, (xset w a z).2.2 m = some (.inr (3, fMs mg)) := fun z => by rw [xset_ne _ _ (fun y => by rw [y, g1] at hm; cases hm)]; exact hm
  have hm3 : ∀ z y, (xset (xset w a z) a y).2.2 m = some (.inr (3, fMs mg)) := fun z y => by rw [xset_ne _ _ (fun y => by rw [y, g1] at hm; cases hm)]; exact hm2 z
  refine x_aload_n 37 rfl d_Bc_keepValue_36 rfl ?_
  refine x_iconst 38 rfl d_Bc_keepValue_37 1 (by decide) ?_
  refine x_put 41 rfl p_Bc_68 (fun _ => by first | rfl | contradiction) d_Bc_keepValue_38 g1 rfl rfl (Nat.le_of_ble_eq_true rfl) ?_
  refine x_aload_n 42 rfl d_Bc_keepValue_41 rfl ?_
  refine x_aload_n 43 rfl d_Bc_keepValue_42 rfl ?_
  refine x_get 46 rfl f_Bc_61 d_Bc_keepValue_43 (hm2 _) rfl ?_
  refine x_put 49 rfl p_Bc_81 (fun _ => by first | rfl | contradiction) d_Bc_keepValue_46 (xset_at _ _ _) rfl rfl (Nat.le_of_ble_eq_true rfl) ?_
  refine x_aload_n 50 rfl d_Bc_keepValue_49 rfl ?_
  refine x_aload_n 51 rfl d_Bc_keepValue_50 rfl ?_
  refine x_get 54 rfl f_Bc_72 d_Bc_keepValue_51 (hm3 _ _) rfl ?_
  refine x_put 57 rfl p_Bc_84 (fun _ => by first | rfl | contradiction) d_Bc_keepValue_54 (xset_at _ _ _) rfl rfl (Nat.le_of_ble_eq_true rfl) ?_
  refine x_vret d_Bc_keepValue_57 rfl ?_
  refine h _ ?_ ((((fr.rf w a (a + 6)).set _ (by omega) (by omega)).set _ (by omega) (by omega)).set _ (by omega) (by omega))
  rw [bKv, if_pos (by rw [hc0, decide_eq_true hsi, nB_ne hc3]; rfl)]
  refine hR.obj ?_ (fun x hx => by rw [xset_ne _ _ hx, xset_ne _ _ hx, xset_ne _ _ hx]) (fun s hs => by simp only [va_up]; rw [if_neg (by omega)]) (fun s hs => by simp only [va_up]; rw [if_neg (by omega), if_neg (by omega)])
  rw [xset_at]
  rfl
theorem s_Bc_keepEcho {m : Nat} {mg : sMg} (hs : mg.1 < 4) (hR : rBc X nb me e i a β w) (hm : w.2.2 m = some (.inr (3, fMs mg))) (h : ∀ w', rBc X nb me e i a (bKe β mg) w' → fr w w' a (a + 6) → P none w') : xE (xGG X) 2 m_Bc_keepEcho 0 [(0, .ref a), (1, .ref m)] [] w P := by
  have hR0 := hR
  have hcells := hR.cells
  obtain ⟨g1, g2, ⟨f, g3, g3b⟩, g4, g5⟩ := hR
  have same : (!β.1 (8 + mg.1) && cRight mg.2.2.2.2.1 (cUn mg.2.2.2.2.2) mg.1) = false → P none w := fun z => h w (by rw [bKe, if_neg (by rw [z]; decide)]; exact hR0) (fr.rf _ _ _)
  refine x_aload_n 1 rfl d_Bc_keepEcho_0 rfl ?_
  refine x_get 4 rfl f_Bc_54 d_Bc_keepEcho_1 hm rfl ?_
  refine x_istore_n 5 rfl d_Bc_keepEcho_4 (by decide) ?_
  refine x_aload_n 6 rfl d_Bc_keepEcho_5 rfl ?_
  refine x_get 9 rfl f_Bc_12 d_Bc_keepEcho_6 g1 rfl ?_
  refine x_iload_n 10 rfl d_Bc_keepEcho_9 rfl ?_
  refine y_callV 13 rfl [_] _ rfl d_Bc_keepEcho_10 g2.1 rfl c_Bc_57 rfl (Nat.le_of_ble_eq_true rfl) (Nat.le_of_ble_eq_true rfl) (Nat.le_of_ble_eq_true rfl) (s_Rt_isFrom rfl hs g2 ?_)
  refine x_if_ne 57 16 rfl d_Bc_keepEcho_13 (by decide) (fun hc => ?_) (fun hc => ?_)
  · refine x_vret d_Bc_keepEcho_57 rfl ?_
    exact same (by rw [nB_ne hc]; rfl)
  refine x_iload_n 17 rfl d_Bc_keepEcho_16 rfl ?_
  refine x_aload_n 18 rfl d_Bc_keepEcho_17 rfl ?_
  refine x_get 21 rfl f_Bc_61 d_Bc_keepEcho_18 hm rfl ?_
  refine x_aload_n 22 rfl d_Bc_keepEcho_21 rfl ?_
  refine x_get 25 rfl f_Bc_72 d_Bc_keepEcho_22 hm rfl ?_
  refine y_call 28 rfl [_, _, _] _ rfl d_Bc_keepEcho_25 c_Bc_75 rfl (Nat.le_of_ble_eq_true rfl) (Nat.le_of_ble_eq_true rfl) (Nat.le_of_ble_eq_true rfl) (s_Co_isRight rfl (nI_cUn _).symm hs (cUn_lt _) ?_)
  refine x_if_eq 57 31 rfl d_Bc_keepEcho_28 (by decide) (fun hc3 => ?_) (fun hc3 => ?_)
  · refine x_vret d_Bc_keepEcho_57 rfl ?_
    exact same (by rw [(nB_0 _).mp hc3]; simp)
  have hmo : ∀ x, a ≤ x → x < a + 6 → m ≠ x := fun x h1 h2 z => by
    obtain ⟨y, h5, h6⟩ := hcells x h1 h2
    rw [← z, hm] at h5
    exact absurd (Option.some.inj h5).symm (h6 _)
  refine x_aload_n 32 rfl d_Bc_keepEcho_31 rfl ?_
  refine x_get 35 rfl f_Bc_12 d_Bc_keepEcho_32 g1 rfl ?_
  refine x_iload_n 36 rfl d_Bc_keepEcho_35 rfl ?_
  refine x_aload_n 37 rfl d_Bc_keepEcho_36 rfl ?_
  refine x_get 40 rfl f_Bc_61 d_Bc_keepEcho_37 hm rfl ?_
  refine y_callV 43 rfl [_, _] _ rfl d_Bc_keepEcho_40 g2.1 rfl c_Bc_64 rfl (Nat.le_of_ble_eq_true rfl) (Nat.le_of_ble_eq_true rfl) (Nat.le_of_ble_eq_true rfl) (s_Rt_put rfl hs g2 (fun w1 k1 k2 => ?_))
  have l1 : w1.2.2 a = some (.inr (1, fBc nb me e i a β)) := (k2.2.2 a (by omega)).trans g1
  have l3 : w1.2.2 (a + 3) = some (.inl (X.2.2.2.1 0, 4, .inl f)) := (k2.2.2 (a + 3) (by omega)).trans g3
  have lm : w1.2.2 m = some (.inr (3, fMs mg)) := by
    rw [k2.2.2 m]
    · exact hm
    · have h7 := hmo (a + 1) (by omega) (by omega)
      have h8 := hmo (a + 2) (by omega) (by omega)
      omega
  have e255 : mg.2.2.2.2.2 &&& 255 = nI (cUn mg.2.2.2.2.2 % 256) := by
    have := i255 (cUn_lt mg.2.2.2.2.2)
    rw [nI_cUn] at this
    exact this
  refine x_aload_n 44 rfl d_Bc_keepEcho_43 rfl ?_
  refine x_get 47 rfl f_Bc_18 d_Bc_keepEcho_44 l1 rfl ?_
  refine x_iload_n 48 rfl d_Bc_keepEcho_47 rfl ?_
  refine x_aload_n 49 rfl d_Bc_keepEcho_48 rfl ?_
  refine x_get 52 rfl f_Bc_72 d_Bc_keepEcho_49 lm rfl ?_
  refine x_sipush 55 rfl d_Bc_keepEcho_52 255 (by decide) ?_
  refine x_iand 56 rfl d_Bc_keepEcho_55 ?_
  rw [e255]
  refine x_iast 57 rfl d_Bc_keepEcho_56 l3 (t0 := 0) rfl (vp_in_nI hs (by decide)) ?_
  refine x_vret d_Bc_keepEcho_57 rfl ?_
  rw [nI_clamp (by omega)]
  have hc0 : β.1 (8 + mg.1) = false := (nB_0 _).mp hc
  refine h _ ?_ ((k2.wide (by omega) (by omega)).set _ (by omega) (by omega))
  rw [bKe, if_pos (by rw [hc0, nB_ne hc3]; rfl)]
  refine ⟨?_, ?_, ⟨upd f mg.1 (nI (cUn mg.2.2.2.2.2 % 256)), xset_at _ _ _, fun j hj => ?_⟩, ?_, fun s hs2 => ?_⟩
  · rw [xset_ne _ _ (by omega), l1, fBc_congr]
    · intro s hs2; simp only [va_up]; rw [if_neg (by omega)]
    · intro s hs2; simp only [va_up]; rw [if_neg (by omega), if_neg (by omega)]
  · refine (k1.kept (xset_ne _ _ (by omega)) (xset_ne _ _ (by omega))).congr (fun s hs2 => ?_) (fun s hs2 => ?_)
    · simp only [va_up]
      by_cases z : s = mg.1
      · rw [if_pos z, if_pos (by omega)]
      · rw [if_neg z, if_neg (by omega)]
    · simp only [va_up]
      by_cases z : s = mg.1
      · rw [if_pos z, if_neg (by omega), if_pos (by omega)]
      · rw [if_neg z, if_neg (by omega), if_neg (by omega)]
  · simp only [upd, va_up]
    by_cases z : j = mg.1
    · rw [if_pos z, if_pos (by omega)]
    · rw [if_neg z, if_neg (by omega), if_neg (by omega)]
      exact g3b j hj
  · refine (g4.kept ?_ ?_).congr (fun s hs2 => ?_) (fun s hs2 => ?_)
    · rw [xset_ne _ _ (by omega), k2.2.2 _ (by omega)]
    · rw [xset_ne _ _ (by omega), k2.2.2 _ (by omega)]
    · simp only [va_up]; rw [if_neg (by omega)]
    · simp only [va_up]; rw [if_neg (by omega), if_neg (by omega)]
  · simp only [va_up]
    by_cases z : s = mg.1
    · rw [if_pos (by omega)]
      have := pk_tn (n := cUn mg.2.2.2.2.2 % 256) (by omega)
      show (nI (cUn mg.2.2.2.2.2 % 256)).toBitVec.toNat < 256
      omega
    · rw [if_neg (by omega), if_neg (by omega)]
      exact g5 s hs2
theorem s_Bc_keep {m : Nat} {mg : sMg} (hme : me < 4) (hi : i < 4) (hs : mg.1 < 4) (hkd : mg.2.2.2.1 < 3) (hR : rBc X nb me e i a β w) (hm : w.2.2 m = some (.inr (3, fMs mg))) (h : ∀ w', rBc X nb me e i a (bKeep me i β mg) w' → fr w w' a (a + 6) → P none w') : xE (xGG X) 3 m_Bc_keep 0 [(0, .ref a), (1, .ref m)] [] w P := by
  have hR0 := hR
  obtain ⟨g1, g2, g3, g4, g5⟩ := hR
  refine x_aload_n 1 rfl d_Bc_keep_0 rfl ?_
  refine x_get 4 rfl f_Bc_42 d_Bc_keep_1 hm rfl ?_
  refine x_if_ne 15 7 rfl d_Bc_keep_4 (by decide) (fun hc => ?_) (fun hc => ?_)
  · have hk0 : ¬ mg.2.2.2.1 = 0 := fun z => hc (by rw [z]; rfl)
    refine x_aload_n 16 rfl d_Bc_keep_15 rfl ?_
    refine x_get 19 rfl f_Bc_42 d_Bc_keep_16 hm rfl ?_
    refine x_iconst 20 rfl d_Bc_keep_19 1 (by decide) ?_
    refine x_icmp_ne 31 23 rfl d_Bc_keep_20 (by decide) (fun hc2 => ?_) (fun hc2 => ?_)
    · have hk1 : ¬ mg.2.2.2.1 = 1 := fun z => hc2 (by rw [z]; rfl)
      have ek : bKeep me i β mg = bKr β mg := by rw [bKeep, if_neg hk0, if_neg hk1]
      rw [ek] at h
      refine x_aload_n 32 rfl d_Bc_keep_31 rfl ?_
      refine x_get 35 rfl f_Bc_22 d_Bc_keep_32 g1 rfl ?_
      refine x_aload_n 36 rfl d_Bc_keep_35 rfl ?_
      refine x_get 39 rfl f_Bc_54 d_Bc_keep_36 hm rfl ?_
      refine y_callV 42 rfl [_] _ rfl d_Bc_keep_39 g4.1 rfl c_Bc_57 rfl (Nat.le_of_ble_eq_true rfl) (Nat.le_of_ble_eq_true rfl) (Nat.le_of_ble_eq_true rfl) (s_Rt_isFrom rfl hs g4 ?_)
      refine x_if_ne 60 45 rfl d_Bc_keep_42 (by decide) (fun hc3 => ?_) (fun hc3 => ?_)
      · refine x_vret d_Bc_keep_60 rfl ?_
        exact h w (by rw [bKr, if_neg (by rw [nB_ne hc3]; decide)]; exact hR0) (fr.rf _ _ _)
      · have hc0 : β.1 (16 + mg.1) = false := (nB_0 _).mp hc3
        refine x_aload_n 46 rfl d_Bc_keep_45 rfl ?_
        refine x_get 49 rfl f_Bc_22 d_Bc_keep_46 g1 rfl ?_
        refine x_aload_n 50 rfl d_Bc_keep_49 rfl ?_
        refine x_get 53 rfl f_Bc_54 d_Bc_keep_50 hm rfl ?_
        refine x_aload_n 54 rfl d_Bc_keep_53 rfl ?_
        refine x_get 57 rfl f_Bc_61 d_Bc_keep_54 hm rfl ?_
        refine y_callV 60 rfl [_, _] _ rfl d_Bc_keep_57 g4.1 rfl c_Bc_64 rfl (Nat.le_of_ble_eq_true rfl) (Nat.le_of_ble_eq_true rfl) (Nat.le_of_ble_eq_true rfl) (s_Rt_put rfl hs g4 (fun w1 k1 k2 => ?_))
        refine x_vret d_Bc_keep_60 rfl ?_
        refine h w1 ?_ (k2.wide (by omega) (by omega))
        rw [bKr, if_pos (by rw [hc0]; rfl)]
        obtain ⟨f, g3a, g3b⟩ := g3
        refine ⟨?_, ?_, ⟨f, (k2.2.2 _ (by omega)).trans g3a, fun j hj => ?_⟩, ?_, fun s hs2 => ?_⟩
        · rw [k2.2.2 a (by omega), g1, fBc_congr]
          · intro s hs2; simp only [va_up]; rw [if_neg (by omega)]
          · intro s hs2; simp only [va_up]; rw [if_neg (by omega)]
        · refine (g2.kept (k2.2.2 _ (by omega)) (k2.2.2 _ (by omega))).congr (fun s hs2 => ?_) (fun s hs2 => ?_)
          · simp only [va_up]; rw [if_neg (by omega)]
          · simp only [va_up]; rw [if_neg (by omega)]
        · simp only [va_up]; rw [if_neg (by omega)]; exact g3b j hj
        · refine k1.congr (fun s hs2 => ?_) (fun s hs2 => ?_)
          · simp only [va_up]
            by_cases z : s = mg.1
            · rw [if_pos z, if_pos (by omega)]
            · rw [if_neg z, if_neg (by omega)]
          · simp only [va_up]
            by_cases z : s = mg.1
            · rw [if_pos z, if_pos (by omega)]
            · rw [if_neg z, if_neg (by omega)]
        · simp only [va_up]; rw [if_neg (by omega)]; exact g5 s hs2
    · have hk1 : mg.2.2.2.1 = 1 := (nI_eq (by omega) (by decide)).mp hc2
      have ek : bKeep me i β mg = bKe β mg := by rw [bKeep, if_neg hk0, if_pos hk1]
      rw [ek] at h
      refine x_aload_n 24 rfl d_Bc_keep_23 rfl ?_
      refine x_aload_n 25 rfl d_Bc_keep_24 rfl ?_
      refine y_callV 28 rfl [_] _ rfl d_Bc_keep_25 g1 rfl c_Bc_51 rfl (Nat.le_of_ble_eq_true rfl) (Nat.le_of_ble_eq_true rfl) (Nat.le_of_ble_eq_true rfl) (s_Bc_keepEcho hs hR0 hm (fun w1 k1 k2 => ?_))
      refine x_goto d_Bc_keep_28 60 (by decide) ?_
      refine x_vret d_Bc_keep_60 rfl ?_
      exact h w1 k1 k2
  · have hk0 : mg.2.2.2.1 = 0 := (nI_eq (by omega) (by decide)).mp hc
    have ek : bKeep me i β mg = bKv me i β mg := by rw [bKeep, if_pos hk0]
    rw [ek] at h
    refine x_aload_n 8 rfl d_Bc_keep_7 rfl ?_
    refine x_aload_n 9 rfl d_Bc_keep_8 rfl ?_
    refine y_callV 12 rfl [_] _ rfl d_Bc_keep_9 g1 rfl c_Bc_47 rfl (Nat.le_of_ble_eq_true rfl) (Nat.le_of_ble_eq_true rfl) (Nat.le_of_ble_eq_true rfl) (s_Bc_keepValue hme hi hs hR0 hm (fun w1 k1 k2 => ?_))
    refine x_goto d_Bc_keep_12 60 (by decide) ?_
    refine x_vret d_Bc_keep_60 rfl ?_
    exact h w1 k1 k2
end BC
