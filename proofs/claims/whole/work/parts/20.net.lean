/-! THE NETWORK -/
/-- a message: sender, epoch, instance, kind, a, b -/
abbrev sMg : Type := Nat × Nat × Nat × Nat × Int32 × Int32
def fMs (m : sMg) : List Value := [.int (nI m.1), .int (nI m.2.1), .int (nI m.2.2.1), .int (nI m.2.2.2.1), .int m.2.2.2.2.1, .int m.2.2.2.2.2]
/-- a list that holds these messages -/
def rLs (X : xPar) (tE : Nat) (w : xW) (a ed cap : Nat) (ms : List sMg) : Prop := ∃ as : List Nat, rAl X tE w a ed cap as ∧ as.length = ms.length ∧ ∀ (j m : Nat), as[j]? = some m → ∃ mg, ms[j]? = some mg ∧ w.2.2 m = some (.inr (3, fMs mg))
/-- the network at nb, its cells nb .. nb + 9; the cells from dyn on are made later; mo messages have been made; q: what waits for each node -/
def rNt (X : xPar) (tE nb dyn c0 s0 mo : Nat) (q : Nat → List sMg) (w : xW) : Prop :=
  (∀ x e, w.2.2 x = some e → X.2.1 ≤ x ∧ x < w.1) ∧ nb + 10 ≤ dyn ∧ dyn ≤ w.1 ∧ w.2.2 nb = some (.inr (4, [.ref (nb + 1)])) ∧
  (∃ f : Nat → Option Nat, w.2.2 (nb + 1) = some (.inl (X.2.2.2.1 2, 4, .inr (.inr (.inr (.inr f))))) ∧ ∀ i, i < 4 → f i = some (nb + 2 + 2 * i)) ∧
  (∀ i, i < 4 → w.2.2 (nb + 2 + 2 * i) = some (.inr (2, [.ref (nb + 3 + 2 * i)]))) ∧ X.2.1 ≤ nb ∧
  ∃ ed cap : Nat → Nat, (∀ i, i < 4 → rLs X tE w (nb + 3 + 2 * i) (ed i) (cap i) (q i)) ∧ (∀ i, i < 4 → (ed i < X.2.1 ∧ cap i = 0) ∨ (dyn ≤ ed i ∧ ed i < w.1)) ∧ (∀ i j, i < 4 → j < 4 → i ≠ j → ed i = ed j → cap i = 0 ∧ cap j = 0) ∧
    (∀ i, i < 4 → (q i).length ≤ mo ∧ cap i ≤ 10 + 2 * mo) ∧ w.1 ≤ c0 + mo + (cap 0 + cap 1 + cap 2 + cap 3) ∧ w.2.1 ≤ s0 + 6 * mo + 4 * (cap 0 + cap 1 + cap 2 + cap 3)
/-- what a sending or a taking out leaves -/
def frN (X : xPar) (nb dyn : Nat) (w w' : xW) : Prop := (∀ x, X.2.1 ≤ x → x < dyn → (∀ i, i < 4 → x ≠ nb + 3 + 2 * i) → w'.2.2 x = w.2.2 x) ∧ (∀ m fs, w.2.2 m = some (.inr (3, fs)) → w'.2.2 m = some (.inr (3, fs)))
theorem frN.rf (X : xPar) (nb dyn : Nat) (w : xW) : frN X nb dyn w w := ⟨fun _ _ _ _ => rfl, fun _ _ h => h⟩
theorem frN.tr {X : xPar} {nb dyn : Nat} {w w' w'' : xW} (h : frN X nb dyn w w') (h2 : frN X nb dyn w' w'') : frN X nb dyn w w'' := ⟨fun x a b c => (h2.1 x a b c).trans (h.1 x a b c), fun m fs z => h2.2 m fs (h.2 m fs z)⟩
theorem rLs.kept {X : xPar} {tE : Nat} {w w' : xW} {a ed cap : Nat} {ms : List sMg} (h : rLs X tE w a ed cap ms) (ha : w'.2.2 a = w.2.2 a) (he : cap ≠ 0 → w'.2.2 ed = w.2.2 ed) (hm : ∀ m fs, w.2.2 m = some (.inr (3, fs)) → w'.2.2 m = some (.inr (3, fs))) : rLs X tE w' a ed cap ms := by
  obtain ⟨as, ⟨⟨mc, h1⟩, h2, h3⟩, h4, h5⟩ := h
  refine ⟨as, ⟨⟨mc, ha.trans h1⟩, h2, ?_⟩, h4, fun j m hj => ?_⟩
  · rcases h3 with h3 | ⟨g1, f, g2, g3⟩
    · exact Or.inl h3
    · exact Or.inr ⟨g1, f, (he (by omega)).trans g2, g3.kept hm⟩
  · obtain ⟨mg, g1, g2⟩ := h5 j m hj
    exact ⟨mg, g1, hm m _ g2⟩
/-- a new message, made and filled -/
theorem rNt.msg {X : xPar} {tE nb dyn c0 s0 mo : Nat} {q : Nat → List sMg} {w w' : xW} (h : rNt X tE nb dyn c0 s0 mo q w) (h1 : w'.1 = w.1 + 1) (h2 : w'.2.1 = w.2.1 + 6) (hk : ∀ x, x ≠ w.1 → w'.2.2 x = w.2.2 x) : rNt X tE nb dyn c0 s0 (mo + 1) q w' := by
  obtain ⟨g1, g2, g3, g4, ⟨f, g5, g6⟩, g7, g8, ed, cap, k1, k2, k3, k4, k5, k6⟩ := h
  have hm : ∀ m fs, w.2.2 m = some (.inr (3, fs)) → w'.2.2 m = some (.inr (3, fs)) := fun m fs z => by rw [hk m (by have := (g1 _ _ z).2; omega)]; exact z
  refine ⟨fun x e hx => ?_, g2, by omega, by rw [hk _ (by omega)]; exact g4, ⟨f, by rw [hk _ (by omega)]; exact g5, g6⟩, fun i hi => by rw [hk _ (by omega)]; exact g7 i hi, g8, ed, cap, fun i hi => (k1 i hi).kept (hk _ (by omega)) (fun hc => hk _ (by have := k2 i hi; omega)) hm, fun i hi => by have := k2 i hi; omega, k3, fun i hi => by have := k4 i hi; omega, by omega, by omega⟩
  by_cases e1 : x = w.1
  · omega
  · rw [hk x e1] at hx; have := g1 _ _ hx; omega
/-- cells elsewhere are written -/
theorem rNt.kept {X : xPar} {tE nb dyn c0 s0 mo : Nat} {q : Nat → List sMg} {w w' : xW} (h : rNt X tE nb dyn c0 s0 mo q w) (h1 : w'.1 = w.1) (h2 : w'.2.1 = w.2.1) (hd : ∀ x, w.2.2 x = none → w'.2.2 x = none) (hn : ∀ x, nb ≤ x → x < nb + 10 → w'.2.2 x = w.2.2 x) (hk : ∀ x, dyn ≤ x → w'.2.2 x = w.2.2 x) (hms : ∀ m fs, w.2.2 m = some (.inr (3, fs)) → w'.2.2 m = some (.inr (3, fs))) : rNt X tE nb dyn c0 s0 mo q w' := by
  obtain ⟨g1, g2, g3, g4, ⟨f, g5, g6⟩, g7, g8, ed, cap, k1, k2, k3, k4, k5, k6⟩ := h
  refine ⟨fun x e hx => ?_, g2, by omega, by rw [hn _ (by omega) (by omega)]; exact g4, ⟨f, by rw [hn _ (by omega) (by omega)]; exact g5, g6⟩, fun i hi => by rw [hn _ (by omega) (by omega)]; exact g7 i hi, g8, ed, cap, fun i hi => (k1 i hi).kept (hn _ (by omega) (by omega)) (fun hc => hk _ (by have := k2 i hi; omega)) hms, fun i hi => by have := k2 i hi; omega, k3, k4, by omega, by omega⟩
  rw [h1]
  cases e1 : w.2.2 x with
  | none => rw [hd x e1] at hx; cases hx
  | some z => exact g1 x z e1
section NT
variable {X : xPar} {sb L : Nat} {xs : Nat → Int32} {tI tE mi nb dyn c0 s0 mo : Nat} {q : Nat → List sMg} {w : xW} {P : Option Value → xW → Prop}
theorem s_Ms_init {a : Nat} {v1 v2 v3 v4 v5 v6 : Int32} {mg : sMg} {fs : List Value} (hfs : fs = [.int 0, .int 0, .int 0, .int 0, .int 0, .int 0]) (ha : w.2.2 a = some (.inr (3, fs))) (e : fMs mg = [.int v1, .int v2, .int v3, .int v4, .int v5, .int v6]) (h : ∀ w', w'.1 = w.1 → w'.2.1 = w.2.1 → w'.2.2 a = some (.inr (3, fMs mg)) → (∀ x, x ≠ a → w'.2.2 x = w.2.2 x) → P none w') : xE (xGG X) 1 m_Ms_init 0 [(0, .ref a), (1, .int v1), (2, .int v2), (3, .int v3), (4, .int v4), (5, .int v5), (6, .int v6)] [] w P := by
  subst hfs
  refine x_aload_n 1 rfl d_Ms_init_0 rfl ?_
  refine x_objInit 4 rfl d_Ms_init_1 o_Ms_1 o_inst o_code (Nat.le_of_ble_eq_true rfl) (by decide) ?_
  refine x_aload_n 5 rfl d_Ms_init_4 rfl ?_
  refine x_iload_n 6 rfl d_Ms_init_5 rfl ?_
  refine x_put 9 rfl p_Ms_7 (fun _ => by first | rfl | contradiction) d_Ms_init_6 ha rfl rfl (Nat.le_of_ble_eq_true rfl) ?_
  refine x_aload_n 10 rfl d_Ms_init_9 rfl ?_
  refine x_iload_n 11 rfl d_Ms_init_10 rfl ?_
  refine x_put 14 rfl p_Ms_13 (fun _ => by first | rfl | contradiction) d_Ms_init_11 (xset_at _ _ _) rfl rfl (Nat.le_of_ble_eq_true rfl) ?_
  refine x_aload_n 15 rfl d_Ms_init_14 rfl ?_
  refine x_iload_n 16 rfl d_Ms_init_15 rfl ?_
  refine x_put 19 rfl p_Ms_16 (fun _ => by first | rfl | contradiction) d_Ms_init_16 (xset_at _ _ _) rfl rfl (Nat.le_of_ble_eq_true rfl) ?_
  refine x_aload_n 20 rfl d_Ms_init_19 rfl ?_
  refine x_iload 22 rfl d_Ms_init_20 rfl ?_
  refine x_put 25 rfl p_Ms_19 (fun _ => by first | rfl | contradiction) d_Ms_init_22 (xset_at _ _ _) rfl rfl (Nat.le_of_ble_eq_true rfl) ?_
  refine x_aload_n 26 rfl d_Ms_init_25 rfl ?_
  refine x_iload 28 rfl d_Ms_init_26 rfl ?_
  refine x_put 31 rfl p_Ms_22 (fun _ => by first | rfl | contradiction) d_Ms_init_28 (xset_at _ _ _) rfl rfl (Nat.le_of_ble_eq_true rfl) ?_
  refine x_aload_n 32 rfl d_Ms_init_31 rfl ?_
  refine x_iload 34 rfl d_Ms_init_32 rfl ?_
  refine x_put 37 rfl p_Ms_25 (fun _ => by first | rfl | contradiction) d_Ms_init_34 (xset_at _ _ _) rfl rfl (Nat.le_of_ble_eq_true rfl) ?_
  refine x_vret d_Ms_init_37 rfl ?_
  refine h _ rfl rfl ?_ (fun x hx => ?_)
  · rw [xset_at, e]; rfl
  · rw [xset_ne _ _ hx, xset_ne _ _ hx, xset_ne _ _ hx, xset_ne _ _ hx, xset_ne _ _ hx, xset_ne _ _ hx]
/-- adding a message to inbox i -/
theorem s_Nt_addTo (hX : xS X sb L xs tI tE mi) {i m : Nat} {mg : sMg} (hi : i < 4) (hmo : mo < 100000) (hR : rNt X tE nb dyn c0 s0 mo q w) (hm : w.2.2 m = some (.inr (3, fMs mg))) (hql : (q i).length < mo) (h : ∀ w', rNt X tE nb dyn c0 s0 mo (va_up q i (q i ++ [mg])) w' → frN X nb dyn w w' → P (some (.int 1)) w') : xE (xGG X) 6 m_Al_add 0 [(0, .ref (nb + 3 + 2 * i)), (1, .ref m)] [] w P := by
  obtain ⟨g1, g2, g3, g4, ⟨f, g5, g6⟩, g7, g8, ed, cap, k1, k2, k3, k4, k5, k6⟩ := hR
  obtain ⟨as, r1, r2, r3⟩ := k1 i hi
  have hk4 := k4 i hi
  have hk2 := k2 i hi
  refine s_Al_add hX r1 (by omega) (by omega) hm (fun x e hx => (g1 x e hx).2) (fun w' ed' cap' h1 h2 => ?_)
  obtain ⟨h2a, h2b, h2c⟩ := h2
  obtain ⟨mc, e1⟩ := r1.1
  have hcap : cap i = 0 ∨ 2 ≤ cap i := by
    rcases r1.2.2 with z | z
    · exact Or.inl z.1
    · exact Or.inr z.1
  have hed : dyn ≤ ed' := by
    rcases h2b with z | z
    · rw [z.2.2.1]; omega
    · rw [z.2.2.1]; exact g3
  have hgr : cGr as.length ≤ 10 + 2 * as.length ∧ (as.length = cap i → cap i + 1 ≤ cGr as.length ∧ 4 * cap i ≤ 3 * cGr as.length) := by
    unfold cGr
    split
    · omega
    · omega
  have ham : ∀ x fs, w.2.2 x = some (.inr (3, fs)) → w'.2.2 x = some (.inr (3, fs)) := by
    intro x fs hx
    have n1 : x ≠ nb + 3 + 2 * i := fun z => by rw [z, e1] at hx; cases hx
    have n2 : x ≠ ed' := fun z => by
      have hxl := (g1 _ _ hx).2
      rcases h2b with y | y
      · rcases r1.2.2 with ⟨hc, -⟩ | ⟨-, f2, e2, -⟩
        · omega
        · rw [z, y.2.2.1, e2] at hx; cases hx
      · omega
    rw [h2a x n1 n2]; exact hx
  have hw1 : w.1 ≤ w'.1 ∧ w'.1 ≤ w.1 + 1 := by omega
  refine h w' ⟨fun x e hx => ⟨?_, h2c x e hx⟩, g2, by omega, by rw [h2a _ (by omega) (by omega)]; exact g4, ⟨f, by rw [h2a _ (by omega) (by omega)]; exact g5, g6⟩, fun j hj => by rw [h2a _ (by omega) (by omega)]; exact g7 j hj, g8, va_up ed i ed', va_up cap i cap', fun j hj => ?_, fun j hj => ?_, fun j l hj hl hne => ?_, fun j hj => ?_, ?_, ?_⟩ ⟨fun x x1 x2 x3 => h2a x (x3 i hi) (by omega), ham⟩
  · by_cases n1 : x = nb + 3 + 2 * i
    · omega
    · by_cases n2 : x = ed'
      · omega
      · rw [h2a x n1 n2] at hx; exact (g1 x e hx).1
  · by_cases hji : j = i
    · subst hji
      rw [va_up_self, va_up_self, va_up_self]
      refine ⟨as ++ [m], h1, by simp [r2], fun l x hx => ?_⟩
      by_cases hl : l < as.length
      · rw [List.getElem?_append_left hl] at hx
        obtain ⟨mg2, t1, t2⟩ := r3 l x hx
        exact ⟨mg2, by rw [List.getElem?_append_left (by omega)]; exact t1, ham _ _ t2⟩
      · have hl2 : l = as.length := by
          have := (List.getElem?_eq_some_iff.mp hx).1
          rw [List.length_append, List.length_singleton] at this
          omega
        subst hl2
        have hxm : x = m := by simpa using hx.symm
        subst hxm
        exact ⟨mg, by rw [r2]; simp, ham _ _ hm⟩
    · rw [va_up_ne _ _ hji, va_up_ne _ _ hji, va_up_ne _ _ hji]
      have hj2 := k2 j hj
      refine (k1 j hj).kept (h2a _ (by omega) (by omega)) (fun hc => h2a _ (by omega) (fun z => ?_)) ham
      rcases h2b with y | y
      · have := k3 j i hj hi hji (by omega); omega
      · omega
  · by_cases hji : j = i
    · subst hji
      rw [va_up_self, va_up_self]
      omega
    · rw [va_up_ne _ _ hji, va_up_ne _ _ hji]
      have := k2 j hj
      omega
  · intro he
    by_cases hji : j = i
    · subst hji
      rw [va_up_self, va_up_ne _ _ (Ne.symm hne)] at he
      have hl2 := k2 l hl
      rcases h2b with y | y
      · have := k3 j l hj hl hne (by omega); omega
      · omega
    · by_cases hli : l = i
      · subst hli
        rw [va_up_self, va_up_ne _ _ hji] at he
        have hj2 := k2 j hj
        rcases h2b with y | y
        · have := k3 j l hj hl hne (by omega); omega
        · omega
      · rw [va_up_ne _ _ hji, va_up_ne _ _ hli] at he ⊢
        exact k3 j l hj hl hne he
  · by_cases hji : j = i
    · subst hji
      rw [va_up_self, va_up_self, List.length_append, List.length_singleton]
      omega
    · rw [va_up_ne _ _ hji, va_up_ne _ _ hji]
      exact k4 j hj
  · rcases lt4 hi with rfl | rfl | rfl | rfl <;> simp only [va_up, if_true, if_false, Nat.reduceEqDiff] <;> (try simp) <;> omega
  · rcases lt4 hi with rfl | rfl | rfl | rfl <;> simp only [va_up, if_true, if_false, Nat.reduceEqDiff] <;> (try simp) <;> omega
theorem s_Nt_sendToOne (hX : xS X sb L xs tI tE mi) {nn : Int32} {i m : Nat} {mg : sMg} (hnn : nn = nI i) (hi : i < 4) (hmo : mo < 100000) (hR : rNt X tE nb dyn c0 s0 mo q w) (hm : w.2.2 m = some (.inr (3, fMs mg))) (hql : (q i).length < mo) (h : ∀ w', rNt X tE nb dyn c0 s0 mo (va_up q i (q i ++ [mg])) w' → frN X nb dyn w w' → P none w') : xE (xGG X) 7 m_Nt_sendToOne 0 [(0, .ref nb), (1, .int nn), (2, .ref m)] [] w P := by
  subst hnn
  have hR0 := hR
  obtain ⟨g1, g2, g3, g4, ⟨f, g5, g6⟩, g7, g8, ed, cap, k1, k2, k3, k4, k5, k6⟩ := hR
  obtain ⟨as, ⟨⟨mc, e1⟩, r1b⟩, r2, r3⟩ := k1 i hi
  refine x_aload_n 1 rfl d_Nt_sendToOne_0 rfl ?_
  refine x_get 4 rfl f_Nt_11 d_Nt_sendToOne_1 g4 rfl ?_
  refine x_iload_n 5 rfl d_Nt_sendToOne_4 rfl ?_
  refine x_aald 6 rfl d_Nt_sendToOne_5 g5 (t0 := 2) rfl (vp_in_nI hi (by decide)) (by rw [nI_clamp (by omega)]; exact g6 i hi) ?_
  refine x_get 9 rfl f_Nt_18 d_Nt_sendToOne_6 (g7 i hi) rfl ?_
  refine x_aload_n 10 rfl d_Nt_sendToOne_9 rfl ?_
  refine y_callV 13 rfl [_] _ rfl d_Nt_sendToOne_10 e1 rfl c_Nt_22 rfl (Nat.le_of_ble_eq_true rfl) (Nat.le_of_ble_eq_true rfl) (Nat.le_of_ble_eq_true rfl) (s_Nt_addTo hX hi hmo hR0 hm hql (fun w' h1 h2 => ?_))
  refine x_pop 14 rfl d_Nt_sendToOne_13 rfl ?_
  refine x_vret d_Nt_sendToOne_14 rfl ?_
  exact h w' h1 h2
/-- the messages behind sending one to all -/
def qAll (q : Nat → List sMg) (mg : sMg) : Nat → List sMg := fun i => q i ++ [mg]
theorem rNt.congr {q' : Nat → List sMg} (h : rNt X tE nb dyn c0 s0 mo q w) (e : ∀ i, i < 4 → q i = q' i) : rNt X tE nb dyn c0 s0 mo q' w := by
  obtain ⟨g1, g2, g3, g4, g5, g7, g8, ed, cap, k1, k2, k3, k4, k5, k6⟩ := h
  exact ⟨g1, g2, g3, g4, g5, g7, g8, ed, cap, fun i hi => by rw [← e i hi]; exact k1 i hi, k2, k3, fun i hi => by rw [← e i hi]; exact k4 i hi, k5, k6⟩
theorem s_Nt_sendToAll (hX : xS X sb L xs tI tE mi) {m : Nat} {mg : sMg} (hmo : mo < 100000) (hR : rNt X tE nb dyn c0 s0 mo q w) (hm : w.2.2 m = some (.inr (3, fMs mg))) (hql : ∀ i, i < 4 → (q i).length < mo) (h : ∀ w', rNt X tE nb dyn c0 s0 mo (qAll q mg) w' → frN X nb dyn w w' → P none w') : xE (xGG X) 7 m_Nt_sendToAll 0 [(0, .ref nb), (1, .ref m)] [] w P := by
  have loop : ∀ (n i : Nat) (cc : Int32) (w1 : xW), cc = nI i → i + n = 4 → rNt X tE nb dyn c0 s0 mo (fun j => if j < i then q j ++ [mg] else q j) w1 → frN X nb dyn w w1 → xE (xGG X) 7 m_Nt_sendToAll 2 [(0, .ref nb), (1, .ref m), (2, .int cc)] [] w1 P := by
    intro n
    induction n with
    | zero =>
      intro i cc w1 hcc hin hR1 hf1
      have hi4 : i = 4 := by omega
      subst hi4 hcc
      refine x_iload_n 3 rfl d_Nt_sendToAll_2 rfl ?_
      refine x_iconst 4 rfl d_Nt_sendToAll_3 4 (by decide) ?_
      refine x_icmp_ge 27 7 rfl d_Nt_sendToAll_4 (by decide) (fun hc => ?_) (fun hc => absurd (by decide) hc)
      refine x_vret d_Nt_sendToAll_27 rfl ?_
      exact h w1 (hR1.congr (fun j hj => by rw [if_pos hj]; rfl)) hf1
    | succ n ih =>
      intro i cc w1 hcc hin hR1 hf1
      subst hcc
      have hi : i < 4 := by omega
      have hR0 := hR1
      obtain ⟨g1, g2, g3, g4, ⟨f, g5, g6⟩, g7, g8, ed, cap, k1, k2, k3, k4, k5, k6⟩ := hR1
      obtain ⟨as, ⟨⟨mc, e1⟩, r1b⟩, r2, r3⟩ := k1 i hi
      refine x_iload_n 3 rfl d_Nt_sendToAll_2 rfl ?_
      refine x_iconst 4 rfl d_Nt_sendToAll_3 4 (by decide) ?_
      refine x_icmp_ge 27 7 rfl d_Nt_sendToAll_4 (by decide) (fun hc => absurd hc (nI_ge (a := i) (b := 4) (by omega) (by decide))) (fun hc => ?_)
      refine x_aload_n 8 rfl d_Nt_sendToAll_7 rfl ?_
      refine x_get 11 rfl f_Nt_11 d_Nt_sendToAll_8 g4 rfl ?_
      refine x_iload_n 12 rfl d_Nt_sendToAll_11 rfl ?_
      refine x_aald 13 rfl d_Nt_sendToAll_12 g5 (t0 := 2) rfl (vp_in_nI hi (by decide)) (by rw [nI_clamp (by omega)]; exact g6 i hi) ?_
      refine x_get 16 rfl f_Nt_18 d_Nt_sendToAll_13 (g7 i hi) rfl ?_
      refine x_aload_n 17 rfl d_Nt_sendToAll_16 rfl ?_
      refine y_callV 20 rfl [_] _ rfl d_Nt_sendToAll_17 e1 rfl c_Nt_22 rfl (Nat.le_of_ble_eq_true rfl) (Nat.le_of_ble_eq_true rfl) (Nat.le_of_ble_eq_true rfl) (s_Nt_addTo hX hi hmo hR0 (hf1.2 _ _ hm) (by simp only [Nat.lt_irrefl, if_false]; exact hql i hi) (fun w' h1 h2 => ?_))
      refine x_pop 21 rfl d_Nt_sendToAll_20 rfl ?_
      refine x_iinc 24 rfl d_Nt_sendToAll_21 rfl 1 (by decide) (by decide) ?_
      refine x_goto d_Nt_sendToAll_24 2 (by decide) ?_
      refine xE.fit (ih (i + 1) _ w' (nI_succ i).symm (by omega) (h1.congr (fun j hj => ?_)) (hf1.tr h2)) rfl
      by_cases hji : j = i
      · subst hji; rw [va_up_self]; simp
      · rw [va_up_ne _ _ hji]
        by_cases z : j < i
        · rw [if_pos z, if_pos (by omega)]
        · rw [if_neg z, if_neg (by omega)]
  refine x_iconst 1 rfl d_Nt_sendToAll_0 0 (by decide) ?_
  refine x_istore_n 2 rfl d_Nt_sendToAll_1 (by decide) ?_
  exact xE.fit (loop 4 0 0 w rfl rfl (hR.congr (fun j hj => by simp)) (frN.rf _ _ _ _)) rfl
theorem s_Nt_countFor {nn : Int32} {i : Nat} (hnn : nn = nI i) (hi : i < 4) (hR : rNt X tE nb dyn c0 s0 mo q w) (h : P (some (.int (nI (q i).length))) w) : xE (xGG X) 1 m_Nt_countFor 0 [(0, .ref nb), (1, .int nn)] [] w P := by
  subst hnn
  obtain ⟨g1, g2, g3, g4, ⟨f, g5, g6⟩, g7, g8, ed, cap, k1, k2, k3, k4, k5, k6⟩ := hR
  obtain ⟨as, r1, r2, r3⟩ := k1 i hi
  obtain ⟨mc, e1⟩ := r1.1
  refine x_aload_n 1 rfl d_Nt_countFor_0 rfl ?_
  refine x_get 4 rfl f_Nt_11 d_Nt_countFor_1 g4 rfl ?_
  refine x_iload_n 5 rfl d_Nt_countFor_4 rfl ?_
  refine x_aald 6 rfl d_Nt_countFor_5 g5 (t0 := 2) rfl (vp_in_nI hi (by decide)) (by rw [nI_clamp (by omega)]; exact g6 i hi) ?_
  refine x_get 9 rfl f_Nt_18 d_Nt_countFor_6 (g7 i hi) rfl ?_
  refine y_callV 12 rfl [] _ rfl d_Nt_countFor_9 e1 rfl c_Nt_28 rfl (Nat.le_of_ble_eq_true rfl) (Nat.le_of_ble_eq_true rfl) (Nat.le_of_ble_eq_true rfl) (s_Al_size r1 ?_)
  refine x_iret d_Nt_countFor_12 rfl ?_
  rw [r2]
  exact h
theorem s_Nt_remove (hX : xS X sb L xs tI tE mi) {nn kk : Int32} {i k : Nat} {mg : sMg} (hnn : nn = nI i) (hkk : kk = nI k) (hi : i < 4) (hmo : mo < 100000) (hR : rNt X tE nb dyn c0 s0 mo q w) (hk : (q i)[k]? = some mg) (h : ∀ w' m, rNt X tE nb dyn c0 s0 mo (va_up q i ((q i).eraseIdx k)) w' → w'.2.2 m = some (.inr (3, fMs mg)) → frN X nb dyn w w' → w'.1 = w.1 → P (some (.ref m)) w') : xE (xGG X) 3 m_Nt_remove 0 [(0, .ref nb), (1, .int nn), (2, .int kk)] [] w P := by
  subst hnn hkk
  obtain ⟨g1, g2, g3, g4, ⟨f, g5, g6⟩, g7, g8, ed, cap, k1, k2, k3, k4, k5, k6⟩ := hR
  obtain ⟨as, r1, r2, r3⟩ := k1 i hi
  obtain ⟨mc, e1⟩ := r1.1
  have hk4 := k4 i hi
  have hk2 := k2 i hi
  have hlt : k < as.length := by have := (List.getElem?_eq_some_iff.mp hk).1; omega
  obtain ⟨m, hm⟩ : ∃ m, as[k]? = some m := ⟨_, List.getElem?_eq_getElem hlt⟩
  obtain ⟨mg2, t1, t2⟩ := r3 k m hm
  cases hk.symm.trans t1
  have hcap : 2 ≤ cap i ∧ dyn ≤ ed i := by
    rcases r1.2.2 with z | z
    · have := r1.2.1; omega
    · have := z.1; omega
  refine x_aload_n 1 rfl d_Nt_remove_0 rfl ?_
  refine x_get 4 rfl f_Nt_11 d_Nt_remove_1 g4 rfl ?_
  refine x_iload_n 5 rfl d_Nt_remove_4 rfl ?_
  refine x_aald 6 rfl d_Nt_remove_5 g5 (t0 := 2) rfl (vp_in_nI hi (by decide)) (by rw [nI_clamp (by omega)]; exact g6 i hi) ?_
  refine x_get 9 rfl f_Nt_18 d_Nt_remove_6 (g7 i hi) rfl ?_
  refine x_iload_n 10 rfl d_Nt_remove_9 rfl ?_
  refine y_callV 13 rfl [_] _ rfl d_Nt_remove_10 e1 rfl c_Nt_32 rfl (Nat.le_of_ble_eq_true rfl) (Nat.le_of_ble_eq_true rfl) (Nat.le_of_ble_eq_true rfl) (s_Al_remove hX rfl r1 hm (by omega) (fun w' h1 h2 h3 h4 => ?_))
  have ham : ∀ x fs, w.2.2 x = some (.inr (3, fs)) → w'.2.2 x = some (.inr (3, fs)) := by
    intro x fs hx
    rw [h4 x (fun z => by rw [z, e1] at hx; cases hx) (fun z => ?_)]
    · exact hx
    · rcases r1.2.2 with y | ⟨-, f2, e2, -⟩
      · omega
      · rw [z, e2] at hx; cases hx
  refine x_cast 16 rfl d_Nt_remove_13 q_Nt_36 (ham _ _ t2) rfl (Or.inl rfl) ?_
  refine x_aret d_Nt_remove_16 rfl (by first | exact Or.inl ⟨_, rfl⟩ | exact Or.inr ⟨_, rfl⟩) ?_
  refine h w' m ⟨fun x e hx => ?_, g2, by omega, by rw [h4 _ (by omega) (by omega)]; exact g4, ⟨f, by rw [h4 _ (by omega) (by omega)]; exact g5, g6⟩, fun j hj => by rw [h4 _ (by omega) (by omega)]; exact g7 j hj, g8, ed, cap, fun j hj => ?_, fun j hj => by have := k2 j hj; omega, k3, fun j hj => ?_, by omega, by omega⟩ (ham _ _ t2) ⟨fun x x1 x2 x3 => h4 x (x3 i hi) (by omega), ham⟩ h2
  · by_cases n1 : x = nb + 3 + 2 * i
    · omega
    · by_cases n2 : x = ed i
      · omega
      · rw [h4 x n1 n2] at hx; have := g1 x e hx; omega
  · by_cases hji : j = i
    · subst hji
      rw [va_up_self]
      refine ⟨as.eraseIdx k, h1, by rw [List.length_eraseIdx_of_lt hlt, List.length_eraseIdx_of_lt (by omega), r2], fun l x hx => ?_⟩
      rw [List.getElem?_eraseIdx] at hx ⊢
      split at hx
      · rename_i z
        obtain ⟨mg3, u1, u2⟩ := r3 l x hx
        rw [if_pos z]
        exact ⟨mg3, u1, ham _ _ u2⟩
      · rename_i z
        obtain ⟨mg3, u1, u2⟩ := r3 (l + 1) x hx
        rw [if_neg z]
        exact ⟨mg3, u1, ham _ _ u2⟩
    · rw [va_up_ne _ _ hji]
      have hj2 := k2 j hj
      refine (k1 j hj).kept (h4 _ (by omega) (by omega)) (fun hc => h4 _ (by omega) (fun z => ?_)) ham
      have := k3 j i hj hi hji z
      omega
  · by_cases hji : j = i
    · subst hji
      rw [va_up_self, List.length_eraseIdx_of_lt (by omega)]
      omega
    · rw [va_up_ne _ _ hji]
      exact k4 j hj
end NT
