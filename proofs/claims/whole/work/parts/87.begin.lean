/-! THE START OF THE WALK -/
theorem t_eqi {args : Array Value} {s : State} {tm : Term} {z : Int32} (h : (Cond.eq tm (.int z)).before args s = true) : tm.eval args s none [] s = some (.int z) := by
  cases hv : tm.eval args s none [] s with
  | none => simp [Cond.before, Cond.holds, Cond.value, hv] at h
  | some w =>
    have hz : (Term.int z).eval args s none [] s = some (.int z) := rfl
    simp only [Cond.before, Cond.holds, Cond.value, hv, hz] at h
    cases w <;> simp_all
theorem nest_of {w : Cond} {A : Array Value} {U : State} (hn : xnest w = true) (h : w.before A U = true) : va_Nw w U := by
  cases w
  case fieldLinkNest => exact va_any rfl h
  case methodLinkNest => exact va_any rfl h
  case castable => exact va_any rfl h
  case arrayOver ty =>
    cases ty
    case object C => exact va_AO.of h
    all_goals simp [xnest] at hn
  all_goals simp [xnest] at hn
theorem arr_of {ty : FieldType} {args : Array Value} {s : State} (hp : ty = .int ∨ ty = .boolean) (h : (Cond.arrayClass ty).before args s = true) : ∃ cA, ArrOfT s cA ty ∧ va_RA s cA ty := by
  obtain ⟨cA, kA, comp, h1, h2, h3⟩ := Cond.arrayClass_spec h
  refine ⟨cA, fun n z => ⟨fun k h => (by cases h), kA, h2, comp, h3⟩, ?_⟩
  rcases hp with hp | hp <;> subst hp <;> exact h1
theorem arr_ob {C : String} {args : Array Value} {s : State} (h : (Cond.arrayOver (.object C)).before args s = true) : ∃ cA, ArrOfT s cA (.object C) ∧ va_RA s cA (.object C) := by
  obtain ⟨comp, cA, kA, h1, -, h2, h3, h4⟩ := Cond.arrayOver_spec h
  exact ⟨cA, fun n z => ⟨fun k h => (by cases h), kA, h2, comp, h3⟩, kA, comp, h2, h3, h1, h4⟩
/-- what lies below the base -/
def zS (base sb L : Nat) (xs : Nat → Int32) (tI tE mi : Nat) : State → Heap → Prop := fun U H => va_X sb L xs U H ∧
  va_Z "EpochLedger$Coding" "INVERSES" "[I" (.ref tI) (fun q => base ≤ q) U H ∧ va_T .int tI 4 (fun j => .int (nI (cIv j))) (fun q => base ≤ q) U H ∧
  va_Z "java/util/ArrayList" "DEFAULTCAPACITY_EMPTY_ELEMENTDATA" "[Ljava/lang/Object;" (.ref tE) (fun q => base ≤ q) U H ∧ va_T (.object "java/lang/Object") tE 0 (fun _ => .null) (fun q => base ≤ q) U H ∧
  va_Mi "[Ljava/lang/Object;" mi U ∧ va_Dc U ∧ tE < base ∧ (∃ cell : Cell, H[tE]? = some cell ∧ cell.vm.isStatics = false ∧ U.vm.findClass "[Ljava/lang/Object;" = some cell.cls)
theorem zS.kept {base sb L : Nat} {xs : Nat → Int32} {tI tE mi : Nat} (hb : sb < base) {U : State} {H H1 : Heap} (h : zS base sb L xs tI tE mi U H) (hk : ∀ a : Nat, a < base → H1[a]? = H[a]?) : zS base sb L xs tI tE mi U H1 := by
  obtain ⟨⟨scr, x1, x2, x3, x4, x5⟩, h2, h3, h4, h5, h6, h7, h8, ⟨cell, y1, y2, y3⟩⟩ := h
  have hq : ∀ a : Nat, a < H.size → ¬ base ≤ a → H1[a]? = H[a]? := fun a _ z => hk a (by omega)
  exact ⟨⟨scr, (hk sb hb).trans x1, x2, x3, x4, x5⟩, h2.kept hq, h3.kept hq, h4.kept hq, h5.kept hq, h6, h7, h8, ⟨cell, (hk tE h8).trans y1, y2, y3⟩⟩
theorem zS.moved {base sb L : Nat} {xs : Nat → Int32} {tI tE mi : Nat} {u U : State} {H : Heap} (hvm : u.vm.Alike U.vm) (h : zS base sb L xs tI tE mi u H) : zS base sb L xs tI tE mi U H := by
  obtain ⟨h1, h2, h3, h4, h5, h6, h7, h8, ⟨cell, y1, y2, y3⟩⟩ := h
  exact ⟨h1.moved hvm, h2.moved hvm, h3.moved hvm, h4.moved hvm, h5.moved hvm, h6.moved hvm, h7.moved hvm, h8, ⟨cell, y1, y2, by rw [hvm.findClass]; exact y3⟩⟩
theorem zS.of {sb L : Nat} {xs : Nat → Int32} {s : State} (hts : ∀ w ∈ lw_tbl, w.before #[Value.ref sb] s = true) (hX : va_X sb L xs s s.heap) (hgv : (Jvm.Cond.and given_1 narrow_1).before #[Value.ref sb] s = true) : ∃ tI tE mi, zS s.heap.size sb L xs tI tE mi s s.heap := by
  have hs := flat_of_before _ hgv
  have hA : ∀ a : Nat, a < s.heap.size → ¬ s.heap.size ≤ a := fun a h => Nat.not_le.mpr h
  have i1 : (Cond.arrayOf (.static "EpochLedger$Coding" "INVERSES" "[I") .int).before #[Value.ref sb] s = true := hs _ (by decide +kernel)
  have i2 := t_eqi (hs (Cond.eq (.length (.static "EpochLedger$Coding" "INVERSES" "[I")) (.int 4)) (by decide +kernel))
  have i3 := t_eqi (hs (Cond.eq (.elem (.static "EpochLedger$Coding" "INVERSES" "[I") (.int 0)) (.int 0)) (by decide +kernel))
  have i4 := t_eqi (hs (Cond.eq (.elem (.static "EpochLedger$Coding" "INVERSES" "[I") (.int 1)) (.int 1)) (by decide +kernel))
  have i5 := t_eqi (hs (Cond.eq (.elem (.static "EpochLedger$Coding" "INVERSES" "[I") (.int 2)) (.int 141)) (by decide +kernel))
  have i6 := t_eqi (hs (Cond.eq (.elem (.static "EpochLedger$Coding" "INVERSES" "[I") (.int 3)) (.int 246)) (by decide +kernel))
  obtain ⟨tI, e1, T1⟩ := va_Tof (N := 4) (f := fun j => .int (nI (cIv j))) (A := fun q => s.heap.size ≤ q) (by decide) i1 i2 (fun j hj => by
    rcases lt4 hj with rfl | rfl | rfl | rfl
    · exact i3
    · exact i4
    · exact i5
    · exact i6) hA
  have Z1 := va_Zof (A := fun q => s.heap.size ≤ q) (hts (Cond.laysStatic "EpochLedger$Coding" "INVERSES" "[I") (by decide +kernel)) (hts (Cond.initialized "EpochLedger$Coding") (by decide +kernel)) e1 hA
  have j1 : (Cond.arrayOf (.static "java/util/ArrayList" "DEFAULTCAPACITY_EMPTY_ELEMENTDATA" "[Ljava/lang/Object;") (.object "java/lang/Object")).before #[Value.ref sb] s = true := hs _ (by decide +kernel)
  have j2 := t_eqi (hs (Cond.eq (.length (.static "java/util/ArrayList" "DEFAULTCAPACITY_EMPTY_ELEMENTDATA" "[Ljava/lang/Object;")) (.int 0)) (by decide +kernel))
  obtain ⟨tE, e2, T2⟩ := va_Tof (N := 0) (f := fun _ => .null) (A := fun q => s.heap.size ≤ q) (by decide) j1 j2 (fun j hj => absurd hj (Nat.not_lt_zero _)) hA
  have Z2 := va_Zof (A := fun q => s.heap.size ≤ q) (hts (Cond.laysStatic "java/util/ArrayList" "DEFAULTCAPACITY_EMPTY_ELEMENTDATA" "[Ljava/lang/Object;") (by decide +kernel)) (hts (Cond.initialized "java/util/ArrayList") (by decide +kernel)) e2 hA
  obtain ⟨mi, M1⟩ := va_Mi.of (hs (Cond.isRef (.mirror "[Ljava/lang/Object;")) (by decide +kernel))
  have D1 := va_Dc.of (hts (Cond.declares ⟨"java/lang/Object", "getClass", "()Ljava/lang/Class;"⟩) (by decide +kernel))
  obtain ⟨a, cc, cell, k, a1, a2, a3, a4, a5, a6, -⟩ := Cond.exactly_spec (hs (Cond.exactly (.static "java/util/ArrayList" "DEFAULTCAPACITY_EMPTY_ELEMENTDATA" "[Ljava/lang/Object;") "[Ljava/lang/Object;") (by decide +kernel))
  have e3 : a = tE := by
    have := a1.symm.trans e2
    injection this with this
    injection this
  subst e3
  exact ⟨tI, a, mi, hX, Z1, T1, Z2, T2, M1, D1, (Array.getElem?_eq_some_iff.mp a3).1, ⟨cell, a3, a5, by rw [a6]; exact a2⟩⟩
theorem xWS_tbl : ∀ w ∈ xWS, w ∈ lw_tbl := fun _ h => (List.mem_filter.mp h).1
/-- the classes and the arrays are known -/
theorem xK_of (l : Launch) {s : State} {A : Array Value} (hts : ∀ w ∈ lw_tbl, w.before A s = true) : ∃ (D : va_G) (cA : Nat → ClassId), va_K D xCl (xTy cA) s ∧ ∀ w ∈ xNW, xnest w = true ∧ va_Nw w s := by
  have h0 : ∀ w ∈ xWS, w.before A s = true := fun w hw => hts w (xWS_tbl w hw)
  have hnw : ∀ w ∈ xNW, w.before A s = true := fun w hw => hts w (List.mem_append_right _ (List.mem_filter.mp hw).1)
  have X : xPar := (l, 0, (fun _ => 0, fun _ _ => 0), fun _ => 0, fun _ _ => True)
  have K : ∀ c : Nat, ∃ (cC : ClassId) (iS : Nat → Nat), ∀ q : vw_C, xCl[c]? = some q → u_Kn s q.1 q.2.1 q.2.2 cC iS := by
    intro c
    have go : ∀ (C : String) (T : u_T) (N n : Nat), (∀ w ∈ u_ws C T N, w ∈ xWS) → Cond.instantiable C n ∈ xWS → xCl[c]? = some (C, T, N) → ∃ (cC : ClassId) (iS : Nat → Nat), ∀ q : vw_C, xCl[c]? = some q → u_Kn s q.1 q.2.1 q.2.2 cC iS := by
      intro C T N n g1 g2 g3
      obtain ⟨cC, iS, hk⟩ := u_known h0 g1 (h0 _ g2)
      exact ⟨cC, iS, fun q hq => by rw [g3] at hq; injection hq with hq; subst hq; exact hk⟩
    match c with
    | 0 => exact go _ _ _ _ l_Ag (i_Ag (X := X)) rfl
    | 1 => exact go _ _ _ _ l_Bc (i_Bc (X := X)) rfl
    | 2 => exact go _ _ _ _ l_In (i_In (X := X)) rfl
    | 3 => exact go _ _ _ _ l_Ms (i_Ms (X := X)) rfl
    | 4 => exact go _ _ _ _ l_Nt (i_Nt (X := X)) rfl
    | 5 => exact go _ _ _ _ l_Nd (i_Nd (X := X)) rfl
    | 6 => exact go _ _ _ _ l_Rt (i_Rt (X := X)) rfl
    | 7 => exact go _ _ _ _ l_Rw (i_Rw (X := X)) rfl
    | 8 => exact go _ _ _ _ l_El (i_El (X := X)) rfl
    | 9 => exact go _ _ _ _ l_Mo (i_Mo (X := X)) rfl
    | 10 => exact go _ _ _ _ l_Al (i_Al (X := X)) rfl
    | c + 11 => exact ⟨0, fun _ => 0, fun q hq => by cases hq⟩
  obtain ⟨c0, r0⟩ := arr_of (Or.inl rfl) (h0 _ (v_int (X := X)))
  obtain ⟨c1, r1⟩ := arr_of (Or.inr rfl) (h0 _ (v_bool (X := X)))
  obtain ⟨c2, r2⟩ := arr_ob (hnw _ (a_In (X := X)))
  obtain ⟨c3, r3⟩ := arr_ob (hnw _ (a_Nd (X := X)))
  obtain ⟨c4, r4⟩ := arr_ob (hnw _ (a_Bc (X := X)))
  obtain ⟨c5, r5⟩ := arr_ob (hnw _ (a_Ag (X := X)))
  obtain ⟨c6, r6⟩ := arr_ob (hnw _ (a_Ob (X := X)))
  refine ⟨(fun c => Classical.choose (K c), fun c => Classical.choose (Classical.choose_spec (K c))), fun k => [c0, c1, c2, c3, c4, c5, c6].getD k 0, ⟨fun c q hq => Classical.choose_spec (Classical.choose_spec (K c)) q hq, fun k q hk => ?_⟩, fun w hw => ⟨xNW_nest w hw, nest_of (xNW_nest w hw) (hnw w hw)⟩⟩
  match k, hk with
  | 0, hk => cases hk; exact r0
  | 1, hk => cases hk; exact r1
  | 2, hk => cases hk; exact r2
  | 3, hk => cases hk; exact r3
  | 4, hk => cases hk; exact r4
  | 5, hk => cases hk; exact r5
  | 6, hk => cases hk; exact r6
  | k + 7, hk => cases hk
