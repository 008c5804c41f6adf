section
/-! THE CORE: a judgement 'xE' over the machine that hides the machine's context, the cells written and the room; the world is ONE map from addresses to cells, so that no frame is cut out or joined. -/
abbrev xM : Type := MethodName × ByteArray × Nat × Option FieldType
abbrev xW : Type := Nat × Nat × (Nat → Option va_E)
/-- fixed in the whole run: launch, base (cells below it are never written), classes' numbers and slots, classes, array classes, words, nest words, what holds of the cells below the base -/
abbrev xG : Type := Launch × Nat × va_G × List vw_C × List (ClassId × FieldType) × List Cond × List Cond × (State → Heap → Prop)
abbrev xl (G : xG) : Launch := G.1
abbrev xb (G : xG) : Nat := G.2.1
abbrev xD (G : xG) : va_G := G.2.2.1
abbrev xcl (G : xG) : List vw_C := G.2.2.2.1
abbrev xty (G : xG) : List (ClassId × FieldType) := G.2.2.2.2.1
abbrev xws (G : xG) : List Cond := G.2.2.2.2.2.1
abbrev xnw (G : xG) : List Cond := G.2.2.2.2.2.2.1
abbrev xz (G : xG) : State → Heap → Prop := G.2.2.2.2.2.2.2
def xnest : Cond → Bool
  | .fieldLinkNest .. => true
  | .methodLinkNest .. => true
  | .castable .. => true
  | .arrayOver (.object _) => true
  | _ => false
theorem xnest_warm {w : Cond} {s U : State} (hn : xnest w = true) (hW : s.WarmedH U.vm) (h : va_Nw w s) : va_Nw w U := by
  cases w
  case fieldLinkNest => exact va_Nw.warmF hW h
  case methodLinkNest => exact va_Nw.warmM hW h
  case castable => exact va_Nw.warmC hW h
  case arrayOver ty =>
    cases ty
    case object C => exact va_AO.moved hW.alike h
    all_goals simp [xnest] at hn
  all_goals simp [xnest] at hn
def xK (G : xG) (U : State) : Prop := va_K (xD G) (xcl G) (xty G) U ∧ ∀ w ∈ xnw G, xnest w = true ∧ va_Nw w U
theorem xK.warm {G : xG} {s U : State} (h : xK G s) (hW : s.WarmedH U.vm) : xK G U :=
  ⟨va_K.moved hW.alike h.1, fun w hw => ⟨(h.2 w hw).1, xnest_warm (h.2 w hw).1 hW (h.2 w hw).2⟩⟩
/-- the world w is what the heap H holds -/
def xR (G : xG) (w : xW) (U : State) (H : Heap) : Prop :=
  H.size = w.1 ∧ xb G ≤ w.1 ∧ (∀ (a : Nat) (e : va_E), w.2.2 a = some e → xb G ≤ a ∧ va_at (xD G) (xcl G) (a, e) H) ∧ xz G U H ∧
  (∀ (U : State) (H H1 : Heap), xz G U H → (∀ a : Nat, a < xb G → H1[a]? = H[a]?) → xz G U H1) ∧ (∀ (u U : State) (H : Heap), u.vm.Alike U.vm → xz G u H → xz G U H)
theorem xR.moved {G : xG} {w : xW} {u U : State} {H : Heap} (hvm : u.vm.Alike U.vm) (h : xR G w u H) : xR G w U H :=
  ⟨h.1, h.2.1, h.2.2.1, h.2.2.2.2.2 u U H hvm h.2.2.2.1, h.2.2.2.2⟩
def xset (w : xW) (a : Nat) (e : va_E) : xW := (w.1, w.2.1, va_up w.2.2 a (some e))
def xnew (w : xW) (n : Nat) (e : va_E) : xW := (w.1 + 1, w.2.1 + n, va_up w.2.2 w.1 (some e))
theorem xR.set {G : xG} {w : xW} {U : State} {H H1 : Heap} {a : Nat} {e0 e : va_E} (h : xR G w U H) (ha : w.2.2 a = some e0) (he : va_at (xD G) (xcl G) (a, e) H1) (z : H1.size = H.size) (oq : ∀ q : Nat, q ≠ a → H1[q]? = H[q]?) : xR G (xset w a e) U H1 := by
  obtain ⟨h1, h2, h3, h4, h5, h6⟩ := h
  have hb := (h3 a e0 ha).1
  refine ⟨z.trans h1, h2, fun q x hx => ?_, h5 U H H1 h4 (fun q hq => oq q (by omega)), h5, h6⟩
  by_cases hq : q = a
  · subst hq
    have hx' : some e = some x := by
      have := hx
      simpa [xset, va_up] using this
    cases hx'
    exact ⟨hb, he⟩
  · have hx' : w.2.2 q = some x := by simpa [xset, va_up, hq] using hx
    exact ⟨(h3 q x hx').1, (h3 q x hx').2.kept (oq q hq)⟩
theorem xR.push {G : xG} {w : xW} {U : State} {H H1 : Heap} {n : Nat} {e : va_E} (h : xR G w U H) (he : va_at (xD G) (xcl G) (H.size, e) H1) (z : H1.size = H.size + 1) (oq : ∀ q : Nat, q < H.size → H1[q]? = H[q]?) : xR G (xnew w n e) U H1 := by
  obtain ⟨h1, h2, h3, h4, h5, h6⟩ := h
  refine ⟨by rw [z, h1]; rfl, Nat.le_succ_of_le h2, fun q x hx => ?_, h5 U H H1 h4 (fun q hq => oq q (by omega)), h5, h6⟩
  by_cases hq : q = w.1
  · subst hq
    have hx' : some e = some x := by
      have := hx
      simpa [xnew, va_up] using this
    cases hx'
    exact ⟨h2, by rw [← h1]; exact he⟩
  · have hx' : w.2.2 q = some x := by simpa [xnew, va_up, hq] using hx
    exact ⟨(h3 q x hx').1, (h3 q x hx').2.kept (oq q (h3 q x hx').2.lt)⟩
theorem xR.one {G : xG} {w : xW} {U : State} {H : Heap} {a : Nat} {e : va_E} (h : xR G w U H) (ha : w.2.2 a = some e) : va_P (xD G) (xcl G) [(a, e)] H := by
  intro k q hk
  cases k with
  | zero =>
    simp at hk
    subst hk
    exact (h.2.2.1 a e ha).2
  | succ k => simp at hk
/-- what is known inside a method's body -/
def xC (G : xG) (d : Nat) (k : xM) (p : Program) (R : Room) (s : State) (m : MethodId) (args : Array Value) (meth : Method) (c : Code) : Prop :=
  p.tables.exec = Jvm.exec ∧ c.code = k.2.1 ∧ c.maxLocals = k.2.2.1 ∧ meth.sig.returnType = k.2.2.2 ∧ meth.locks = false ∧ meth.name = k.1.name ∧ s.vm.findClass k.1.cls = some m.cls ∧ (∀ w ∈ xws G, w.before args s = true) ∧ xK G s ∧ d ≤ R.frames ∧ 42 * d ≤ R.locals
def xQ (G : xG) (v : Option Value) (w' : xW) : Array Value → State → Outcome → State → Prop := fun _ _ oc t => oc = .returned v ∧ xR G w' t t.heap
/-- from pc, with locals lc, stack st, world w, method k ends: it returns v, and the world is w' -/
def xV (G : xG) (d : Nat) (k : xM) (pc : Nat) (lc : List (Nat × Value)) (st : List Value) (w : xW) (v : Option Value) (w' : xW) : Prop :=
  w.1 ≤ w'.1 ∧ w.2.1 ≤ w'.2.1 ∧ ∀ (p : Program) (e : Env) (R : Room) (s : State) (m : MethodId) (args : Array Value) (below : List Frame) (meth : Method) (c : Code) (H : Heap) (locs : List Loc) (cells slots : Nat) (ls : Array Slot),
    xC G d k p R s m args meth c → xR G w s H → lv_has ls k.2.2.1 lc → (∀ q ∈ locs, xb G ≤ q.base) → cells + (w'.1 - w.1) = R.cells → slots + (w'.2.1 - w.2.1) = R.slots →
    W p (xl G) e R s m args below meth c H locs cells slots (MQ below (xQ G v w') args s R.cells R.slots (fun q => xb G ≤ q)) (F0 m pc ls st)
def xE (G : xG) (d : Nat) (k : xM) (pc : Nat) (lc : List (Nat × Value)) (st : List Value) (w : xW) (P : Option Value → xW → Prop) : Prop :=
  ∃ (v : Option Value) (w' : xW), P v w' ∧ xV G d k pc lc st w v w'
theorem xE.mono {G : xG} {d d' : Nat} {k : xM} {pc : Nat} {lc : List (Nat × Value)} {st : List Value} {w : xW} {P Q : Option Value → xW → Prop} (h : xE G d k pc lc st w P) (hd : d ≤ d') (hPQ : ∀ v w', P v w' → Q v w') : xE G d' k pc lc st w Q := by
  obtain ⟨v, w', hP, h1, h2, h3⟩ := h
  refine ⟨v, w', hPQ v w' hP, h1, h2, fun p e R s m args below meth c H locs cells slots ls C => h3 p e R s m args below meth c H locs cells slots ls ?_⟩
  obtain ⟨c1, c2, c3, c4, c5, c6, c7, c8, c9, c10, c11⟩ := C
  exact ⟨c1, c2, c3, c4, c5, c6, c7, c8, c9, by omega, by omega⟩
section XS
variable {G : xG} {d : Nat} {k : xM} {pc pc' : Nat} {lc lc' : List (Nat × Value)} {st st' : List Value} {w : xW} {P : Option Value → xW → Prop}
theorem xE.s1 (h : xE G d k pc' lc st' w P)
    (row : ∀ (p : Program) (e : Env) (R : Room) (s : State) (m : MethodId) (args : Array Value) (below : List Frame) (meth : Method) (c : Code) (H : Heap) (locs : List Loc) (cells slots : Nat) (ls : Array Slot) (Q : State → Prop),
      xC G d k p R s m args meth c → xR G w s H → lv_has ls k.2.2.1 lc → W p (xl G) e R s m args below meth c H locs cells slots Q (F0 m pc' ls st') → W p (xl G) e R s m args below meth c H locs cells slots Q (F0 m pc ls st)) : xE G d k pc lc st w P := by
  obtain ⟨v, w', hP, h1, h2, h3⟩ := h
  exact ⟨v, w', hP, h1, h2, fun p e R s m args below meth c H locs cells slots ls C r hl hL hc hs => row p e R s m args below meth c H locs cells slots ls _ C r hl (h3 p e R s m args below meth c H locs cells slots ls C r hl hL hc hs)⟩
theorem xE.s2 (h : xE G d k pc' lc' st' w P)
    (row : ∀ (p : Program) (e : Env) (R : Room) (s : State) (m : MethodId) (args : Array Value) (below : List Frame) (meth : Method) (c : Code) (H : Heap) (locs : List Loc) (cells slots : Nat) (ls : Array Slot) (Q : State → Prop),
      xC G d k p R s m args meth c → xR G w s H → lv_has ls k.2.2.1 lc → (∀ ls' : Array Slot, lv_has ls' k.2.2.1 lc' → W p (xl G) e R s m args below meth c H locs cells slots Q (F0 m pc' ls' st')) → W p (xl G) e R s m args below meth c H locs cells slots Q (F0 m pc ls st)) : xE G d k pc lc st w P := by
  obtain ⟨v, w', hP, h1, h2, h3⟩ := h
  exact ⟨v, w', hP, h1, h2, fun p e R s m args below meth c H locs cells slots ls C r hl hL hc hs => row p e R s m args below meth c H locs cells slots ls _ C r hl (fun ls' hl' => h3 p e R s m args below meth c H locs cells slots ls' C r hl' hL hc hs)⟩
theorem xE.s3 {a : Nat} {e0 e1 : va_E} (ha : w.2.2 a = some e0) (h : xE G d k pc' lc st' (xset w a e1) P)
    (row : ∀ (p : Program) (e : Env) (R : Room) (s : State) (m : MethodId) (args : Array Value) (below : List Frame) (meth : Method) (c : Code) (H : Heap) (locs : List Loc) (cells slots : Nat) (ls : Array Slot) (Q : State → Prop),
      xC G d k p R s m args meth c → xR G w s H → lv_has ls k.2.2.1 lc →
      (∀ (H1 : Heap) (i : Nat), va_at (xD G) (xcl G) (a, e1) H1 → H1.size = H.size → (∀ q : Nat, q ≠ a → H1[q]? = H[q]?) → W p (xl G) e R s m args below meth c H1 (locs ++ [⟨a, i⟩]) cells slots Q (F0 m pc' ls st')) →
      W p (xl G) e R s m args below meth c H locs cells slots Q (F0 m pc ls st)) : xE G d k pc lc st w P := by
  obtain ⟨v, w', hP, h1, h2, h3⟩ := h
  refine ⟨v, w', hP, h1, h2, fun p e R s m args below meth c H locs cells slots ls C r hl hL hc hs => row p e R s m args below meth c H locs cells slots ls _ C r hl (fun H1 i hat z oq => h3 p e R s m args below meth c H1 (locs ++ [⟨a, i⟩]) cells slots ls C (r.set ha hat z oq) hl (fun q hq => ?_) hc hs)⟩
  rcases List.mem_append.mp hq with h | h
  · exact hL q h
  · rw [List.mem_singleton.mp h]
    exact (r.2.2.1 a e0 ha).1
theorem xE.s4 {n : Nat} {e1 : va_E} (h : xE G d k pc' lc st' (xnew w n e1) P)
    (row : ∀ (p : Program) (e : Env) (R : Room) (s : State) (m : MethodId) (args : Array Value) (below : List Frame) (meth : Method) (c : Code) (H : Heap) (locs : List Loc) (cells slots : Nat) (ls : Array Slot) (Q : State → Prop),
      xC G d k p R s m args meth c → xR G w s H → lv_has ls k.2.2.1 lc → cells + 1 ≤ R.cells → slots + n ≤ R.slots →
      (∀ (H1 : Heap), va_at (xD G) (xcl G) (H.size, e1) H1 → H1.size = H.size + 1 → (∀ q : Nat, q < H.size → H1[q]? = H[q]?) → W p (xl G) e R s m args below meth c H1 locs (cells + 1) (slots + n) Q (F0 m pc' ls st')) →
      W p (xl G) e R s m args below meth c H locs cells slots Q (F0 m pc ls st)) : xE G d k pc lc st w P := by
  obtain ⟨v, w', hP, h1, h2, h3⟩ := h
  have h1' : w.1 + 1 ≤ w'.1 := h1
  have h2' : w.2.1 + n ≤ w'.2.1 := h2
  refine ⟨v, w', hP, by omega, by omega, fun p e R s m args below meth c H locs cells slots ls C r hl hL hc hs => row p e R s m args below meth c H locs cells slots ls _ C r hl (by omega) (by omega) (fun H1 hat z oq => h3 p e R s m args below meth c H1 locs (cells + 1) (slots + n) ls C (r.push hat z oq) hl hL ?_ ?_)⟩
  · show cells + 1 + (w'.1 - (w.1 + 1)) = _
    omega
  · show slots + n + (w'.2.1 - (w.2.1 + n)) = _
    omega
end XS
end
section
/-! THE ROWS: one for each kind of instruction -/
def xlk (lc : List (Nat × Value)) (i : Nat) : Option Value := (lc.find? (fun q => q.1 == i)).map (fun q => q.2)
theorem xlk_mem {lc : List (Nat × Value)} {i : Nat} {v : Value} (h : xlk lc i = some v) : (i, v) ∈ lc := by
  unfold xlk at h
  cases hf : lc.find? (fun q => q.1 == i) with
  | none => rw [hf] at h; cases h
  | some q =>
    rw [hf] at h
    cases h
    have h1 := List.find?_some hf
    have h2 := List.mem_of_find?_eq_some hf
    have h3 : q.1 = i := by simpa using h1
    subst h3
    exact h2
theorem xlk_at {ls : Array Slot} {n : Nat} {lc : List (Nat × Value)} {i : Nat} {v : Value} (hl : lv_has ls n lc) (h : xlk lc i = some v) : ls[i]? = some (.val v) := hl.2.2 (i, v) (xlk_mem h)
def xst (lc : List (Nat × Value)) (i : Nat) (v : Value) : List (Nat × Value) := (i, v) :: lc.filter (fun q => !(q.1 == i) && !(q.1 + 1 == i && q.2.category == 2))
section XR
variable {G : xG} {d : Nat} {k : xM} {pc : Nat} {lc : List (Nat × Value)} {st : List Value} {w : xW} {P : Option Value → xW → Prop}
/-- the same place, written otherwise -/
theorem xE.at {pc' : Nat} {lc' : List (Nat × Value)} {st' : List Value} {w' : xW} (h : xE G d k pc' lc' st' w' P) (h1 : pc = pc' := by rfl) (h2 : lc = lc' := by rfl) (h3 : st = st' := by rfl) (h4 : w = w' := by rfl) : xE G d k pc lc st w P := by
  subst h1; subst h2; subst h3; subst h4; exact h
/-- fewer locals -/
theorem xE.few {lc' : List (Nat × Value)} (h : xE G d k pc lc' st w P) (hs : ∀ q ∈ lc', q ∈ lc) : xE G d k pc lc st w P := by
  obtain ⟨v, w', hP, h1, h2, h3⟩ := h
  exact ⟨v, w', hP, h1, h2, fun p e R s m args below meth c H locs cells slots ls C r hl hL hc hs' => h3 p e R s m args below meth c H locs cells slots ls C r ⟨hl.1, hl.2.1, fun q hq => hl.2.2 q (hs q hq)⟩ hL hc hs'⟩
theorem x_iadd {x y : Int32} (hd : decode k.2.1 pc = .ok (.iadd, 1)) (h : xE G d k (pc + 1) lc (.int (x + y) :: st) w P) : xE G d k pc lc (.int y :: .int x :: st) w P := h.s1 (fun _ _ _ _ _ _ _ _ _ _ _ _ _ _ _ C _ hl kk => lv_iadd C.1 C.2.1 hd kk)
theorem x_isub {x y : Int32} (hd : decode k.2.1 pc = .ok (.isub, 1)) (h : xE G d k (pc + 1) lc (.int (x - y) :: st) w P) : xE G d k pc lc (.int y :: .int x :: st) w P := h.s1 (fun _ _ _ _ _ _ _ _ _ _ _ _ _ _ _ C _ hl kk => lv_isub C.1 C.2.1 hd kk)
theorem x_imul {x y : Int32} (hd : decode k.2.1 pc = .ok (.imul, 1)) (h : xE G d k (pc + 1) lc (.int (x * y) :: st) w P) : xE G d k pc lc (.int y :: .int x :: st) w P := h.s1 (fun _ _ _ _ _ _ _ _ _ _ _ _ _ _ _ C _ hl kk => lv_imul C.1 C.2.1 hd kk)
theorem x_iand {x y : Int32} (hd : decode k.2.1 pc = .ok (.iand, 1)) (h : xE G d k (pc + 1) lc (.int (x &&& y) :: st) w P) : xE G d k pc lc (.int y :: .int x :: st) w P := h.s1 (fun _ _ _ _ _ _ _ _ _ _ _ _ _ _ _ C _ hl kk => lv_iand C.1 C.2.1 hd kk)
theorem x_ior {x y : Int32} (hd : decode k.2.1 pc = .ok (.ior, 1)) (h : xE G d k (pc + 1) lc (.int (x ||| y) :: st) w P) : xE G d k pc lc (.int y :: .int x :: st) w P := h.s1 (fun _ _ _ _ _ _ _ _ _ _ _ _ _ _ _ C _ hl kk => lv_ior C.1 C.2.1 hd kk)
theorem x_ixor {x y : Int32} (hd : decode k.2.1 pc = .ok (.ixor, 1)) (h : xE G d k (pc + 1) lc (.int (x ^^^ y) :: st) w P) : xE G d k pc lc (.int y :: .int x :: st) w P := h.s1 (fun _ _ _ _ _ _ _ _ _ _ _ _ _ _ _ C _ hl kk => lv_ixor C.1 C.2.1 hd kk)
theorem x_ishl {x y : Int32} (hd : decode k.2.1 pc = .ok (.ishl, 1)) (h : xE G d k (pc + 1) lc (.int (x <<< (y &&& 31)) :: st) w P) : xE G d k pc lc (.int y :: .int x :: st) w P := h.s1 (fun _ _ _ _ _ _ _ _ _ _ _ _ _ _ _ C _ hl kk => lv_ishl C.1 C.2.1 hd kk)
theorem x_ishr {x y : Int32} (hd : decode k.2.1 pc = .ok (.ishr, 1)) (h : xE G d k (pc + 1) lc (.int (x >>> (y &&& 31)) :: st) w P) : xE G d k pc lc (.int y :: .int x :: st) w P := h.s1 (fun _ _ _ _ _ _ _ _ _ _ _ _ _ _ _ C _ hl kk => lv_ishr C.1 C.2.1 hd kk)
theorem x_iushr {x y : Int32} (hd : decode k.2.1 pc = .ok (.iushr, 1)) (h : xE G d k (pc + 1) lc (.int (x.toUInt32 >>> (y.toUInt32 &&& Int32.toUInt32 31)).toInt32 :: st) w P) : xE G d k pc lc (.int y :: .int x :: st) w P := h.s1 (fun _ _ _ _ _ _ _ _ _ _ _ _ _ _ _ C _ hl kk => lv_iushr C.1 C.2.1 hd rfl kk)
theorem x_ineg {x : Int32} (hd : decode k.2.1 pc = .ok (.ineg, 1)) (h : xE G d k (pc + 1) lc (.int (-x) :: st) w P) : xE G d k pc lc (.int x :: st) w P := h.s1 (fun _ _ _ _ _ _ _ _ _ _ _ _ _ _ _ C _ hl kk => lv_ineg C.1 C.2.1 hd kk)
theorem x_idiv {x y : Int32} (hne : ¬ y = 0) (hd : decode k.2.1 pc = .ok (.idiv, 1)) (h : xE G d k (pc + 1) lc (.int (x / y) :: st) w P) : xE G d k pc lc (.int y :: .int x :: st) w P := h.s1 (fun _ _ _ _ _ _ _ _ _ _ _ _ _ _ _ C _ hl kk => lv_idiv C.1 C.2.1 hd hne kk)
theorem x_irem {x y : Int32} (hne : ¬ y = 0) (hd : decode k.2.1 pc = .ok (.irem, 1)) (h : xE G d k (pc + 1) lc (.int (x - x / y * y) :: st) w P) : xE G d k pc lc (.int y :: .int x :: st) w P := h.s1 (fun _ _ _ _ _ _ _ _ _ _ _ _ _ _ _ C _ hl kk => lv_irem C.1 C.2.1 hd hne kk)
theorem x_ladd {x y : Int64} (hd : decode k.2.1 pc = .ok (.ladd, 1)) (h : xE G d k (pc + 1) lc (.long (x + y) :: st) w P) : xE G d k pc lc (.long y :: .long x :: st) w P := h.s1 (fun _ _ _ _ _ _ _ _ _ _ _ _ _ _ _ C _ hl kk => lv_ladd C.1 C.2.1 hd kk)
theorem x_lsub {x y : Int64} (hd : decode k.2.1 pc = .ok (.lsub, 1)) (h : xE G d k (pc + 1) lc (.long (x - y) :: st) w P) : xE G d k pc lc (.long y :: .long x :: st) w P := h.s1 (fun _ _ _ _ _ _ _ _ _ _ _ _ _ _ _ C _ hl kk => lv_lsub C.1 C.2.1 hd kk)
theorem x_lmul {x y : Int64} (hd : decode k.2.1 pc = .ok (.lmul, 1)) (h : xE G d k (pc + 1) lc (.long (x * y) :: st) w P) : xE G d k pc lc (.long y :: .long x :: st) w P := h.s1 (fun _ _ _ _ _ _ _ _ _ _ _ _ _ _ _ C _ hl kk => lv_lmul C.1 C.2.1 hd kk)
theorem x_land {x y : Int64} (hd : decode k.2.1 pc = .ok (.land, 1)) (h : xE G d k (pc + 1) lc (.long (x &&& y) :: st) w P) : xE G d k pc lc (.long y :: .long x :: st) w P := h.s1 (fun _ _ _ _ _ _ _ _ _ _ _ _ _ _ _ C _ hl kk => lv_land C.1 C.2.1 hd kk)
theorem x_lor {x y : Int64} (hd : decode k.2.1 pc = .ok (.lor, 1)) (h : xE G d k (pc + 1) lc (.long (x ||| y) :: st) w P) : xE G d k pc lc (.long y :: .long x :: st) w P := h.s1 (fun _ _ _ _ _ _ _ _ _ _ _ _ _ _ _ C _ hl kk => lv_lor C.1 C.2.1 hd kk)
theorem x_lxor {x y : Int64} (hd : decode k.2.1 pc = .ok (.lxor, 1)) (h : xE G d k (pc + 1) lc (.long (x ^^^ y) :: st) w P) : xE G d k pc lc (.long y :: .long x :: st) w P := h.s1 (fun _ _ _ _ _ _ _ _ _ _ _ _ _ _ _ C _ hl kk => lv_lxor C.1 C.2.1 hd kk)
theorem x_ldiv {x y : Int64} (hne : ¬ y = 0) (hd : decode k.2.1 pc = .ok (.ldiv, 1)) (h : xE G d k (pc + 1) lc (.long (x / y) :: st) w P) : xE G d k pc lc (.long y :: .long x :: st) w P := h.s1 (fun _ _ _ _ _ _ _ _ _ _ _ _ _ _ _ C _ hl kk => lv_ldiv C.1 C.2.1 hd hne kk)
theorem x_lrem {x y : Int64} (hne : ¬ y = 0) (hd : decode k.2.1 pc = .ok (.lrem, 1)) (h : xE G d k (pc + 1) lc (.long (x - x / y * y) :: st) w P) : xE G d k pc lc (.long y :: .long x :: st) w P := h.s1 (fun _ _ _ _ _ _ _ _ _ _ _ _ _ _ _ C _ hl kk => lv_lrem C.1 C.2.1 hd hne kk)
theorem x_i2l {x : Int32} (hd : decode k.2.1 pc = .ok (.i2l, 1)) (h : xE G d k (pc + 1) lc (.long x.toInt64 :: st) w P) : xE G d k pc lc (.int x :: st) w P := h.s1 (fun _ _ _ _ _ _ _ _ _ _ _ _ _ _ _ C _ hl kk => lv_i2l C.1 C.2.1 hd rfl kk)
theorem x_l2i {x : Int64} (hd : decode k.2.1 pc = .ok (.l2i, 1)) (h : xE G d k (pc + 1) lc (.int x.toInt32 :: st) w P) : xE G d k pc lc (.long x :: st) w P := h.s1 (fun _ _ _ _ _ _ _ _ _ _ _ _ _ _ _ C _ hl kk => lv_l2i C.1 C.2.1 hd rfl kk)
theorem x_i2b {x : Int32} (hd : decode k.2.1 pc = .ok (.i2b, 1)) (h : xE G d k (pc + 1) lc (.int x.toInt8.toInt32 :: st) w P) : xE G d k pc lc (.int x :: st) w P := h.s1 (fun _ _ _ _ _ _ _ _ _ _ _ _ _ _ _ C _ hl kk => lv_i2b C.1 C.2.1 hd rfl kk)
theorem x_iconst {n : Int} (v : Int32) (hv : Int32.ofInt n = v) (hd : decode k.2.1 pc = .ok (.iconst n, 1)) (h : xE G d k (pc + 1) lc (.int v :: st) w P) : xE G d k pc lc (st) w P := h.s1 (fun _ _ _ _ _ _ _ _ _ _ _ _ _ _ _ C _ hl kk => lv_iconst C.1 C.2.1 hd hv kk)
theorem x_bipush {n : Int} (v : Int32) (hv : (Int8.ofInt n).toInt32 = v) (hd : decode k.2.1 pc = .ok (.bipush n, 2)) (h : xE G d k (pc + 2) lc (.int v :: st) w P) : xE G d k pc lc (st) w P := h.s1 (fun _ _ _ _ _ _ _ _ _ _ _ _ _ _ _ C _ hl kk => lv_bipush C.1 C.2.1 hd hv kk)
theorem x_sipush {n : Int} (v : Int32) (hv : (Int16.ofInt n).toInt32 = v) (hd : decode k.2.1 pc = .ok (.sipush n, 3)) (h : xE G d k (pc + 3) lc (.int v :: st) w P) : xE G d k pc lc (st) w P := h.s1 (fun _ _ _ _ _ _ _ _ _ _ _ _ _ _ _ C _ hl kk => lv_sipush C.1 C.2.1 hd hv kk)
theorem x_null  (hd : decode k.2.1 pc = .ok (.aconst_null, 1)) (h : xE G d k (pc + 1) lc (.null :: st) w P) : xE G d k pc lc (st) w P := h.s1 (fun _ _ _ _ _ _ _ _ _ _ _ _ _ _ _ C _ hl kk => lv_null C.1 C.2.1 hd kk)
theorem x_iload_n {j : Fin 4} {x : Int32} (hx : xlk lc (j : Nat) = some (.int x)) (hd : decode k.2.1 pc = .ok (.iload_n j, 1)) (h : xE G d k (pc + 1) lc (.int x :: st) w P) : xE G d k pc lc (st) w P := h.s1 (fun _ _ _ _ _ _ _ _ _ _ _ _ _ _ _ C _ hl kk => lv_iload_n C.1 C.2.1 hd rfl (xlk_at hl hx) kk)
theorem x_iload {j : Nat} {x : Int32} (hx : xlk lc j = some (.int x)) (hd : decode k.2.1 pc = .ok (.iload j, 2)) (h : xE G d k (pc + 2) lc (.int x :: st) w P) : xE G d k pc lc (st) w P := h.s1 (fun _ _ _ _ _ _ _ _ _ _ _ _ _ _ _ C _ hl kk => lv_iload C.1 C.2.1 hd (xlk_at hl hx) kk)
theorem x_aload_n {j : Fin 4} {x : Nat} (hx : xlk lc (j : Nat) = some (.ref x)) (hd : decode k.2.1 pc = .ok (.aload_n j, 1)) (h : xE G d k (pc + 1) lc (.ref x :: st) w P) : xE G d k pc lc (st) w P := h.s1 (fun _ _ _ _ _ _ _ _ _ _ _ _ _ _ _ C _ hl kk => lv_aload_n C.1 C.2.1 hd rfl (xlk_at hl hx) kk)
theorem x_aload {j : Nat} {x : Nat} (hx : xlk lc j = some (.ref x)) (hd : decode k.2.1 pc = .ok (.aload j, 2)) (h : xE G d k (pc + 2) lc (.ref x :: st) w P) : xE G d k pc lc (st) w P := h.s1 (fun _ _ _ _ _ _ _ _ _ _ _ _ _ _ _ C _ hl kk => lv_aload C.1 C.2.1 hd (xlk_at hl hx) kk)
theorem x_aload_nN {j : Fin 4} (hx : xlk lc (j : Nat) = some .null) (hd : decode k.2.1 pc = .ok (.aload_n j, 1)) (h : xE G d k (pc + 1) lc (.null :: st) w P) : xE G d k pc lc (st) w P := h.s1 (fun _ _ _ _ _ _ _ _ _ _ _ _ _ _ _ C _ hl kk => lv_aload_nN C.1 C.2.1 hd rfl (xlk_at hl hx) kk)
theorem x_aloadN {j : Nat} (hx : xlk lc j = some .null) (hd : decode k.2.1 pc = .ok (.aload j, 2)) (h : xE G d k (pc + 2) lc (.null :: st) w P) : xE G d k pc lc (st) w P := h.s1 (fun _ _ _ _ _ _ _ _ _ _ _ _ _ _ _ C _ hl kk => lv_aloadN C.1 C.2.1 hd (xlk_at hl hx) kk)
theorem x_dup {va : Value} (h1 : va.category = 1) (hd : decode k.2.1 pc = .ok (.dup, 1)) (h : xE G d k (pc + 1) lc (va :: va :: st) w P) : xE G d k pc lc (va :: st) w P := h.s1 (fun _ _ _ _ _ _ _ _ _ _ _ _ _ _ _ C _ hl kk => lv_dup C.1 C.2.1 hd h1 kk)
theorem x_pop {va : Value} (h1 : va.category = 1) (hd : decode k.2.1 pc = .ok (.pop, 1)) (h : xE G d k (pc + 1) lc (st) w P) : xE G d k pc lc (va :: st) w P := h.s1 (fun _ _ _ _ _ _ _ _ _ _ _ _ _ _ _ C _ hl kk => lv_pop C.1 C.2.1 hd h1 kk)
theorem x_dup_x1 {va vb : Value} (h1 : va.category = 1) (h2 : vb.category = 1) (hd : decode k.2.1 pc = .ok (.dup_x1, 1)) (h : xE G d k (pc + 1) lc (va :: vb :: va :: st) w P) : xE G d k pc lc (va :: vb :: st) w P := h.s1 (fun _ _ _ _ _ _ _ _ _ _ _ _ _ _ _ C _ hl kk => lv_dup_x1 C.1 C.2.1 hd h1 h2 kk)
theorem x_dup_x2 {va vb vd : Value} (h1 : va.category = 1) (h2 : vb.category = 1) (h3 : vd.category = 1) (hd : decode k.2.1 pc = .ok (.dup_x2, 1)) (h : xE G d k (pc + 1) lc (va :: vb :: vd :: va :: st) w P) : xE G d k pc lc (va :: vb :: vd :: st) w P := h.s1 (fun _ _ _ _ _ _ _ _ _ _ _ _ _ _ _ C _ hl kk => lv_dup_x2 C.1 C.2.1 hd h1 h2 h3 kk)
theorem x_dup2 {va vb : Value} (h1 : va.category = 1) (h2 : vb.category = 1) (hd : decode k.2.1 pc = .ok (.dup2, 1)) (h : xE G d k (pc + 1) lc (va :: vb :: va :: vb :: st) w P) : xE G d k pc lc (va :: vb :: st) w P := h.s1 (fun _ _ _ _ _ _ _ _ _ _ _ _ _ _ _ C _ hl kk => lv_dup2_11 C.1 C.2.1 hd h1 h2 kk)
theorem x_goto {off : Int} {tgt : Nat} (ht : (pc : Int) + off = (tgt : Int)) (hd : decode k.2.1 pc = .ok (.goto off, 3)) (h : xE G d k (tgt) lc (st) w P) : xE G d k pc lc (st) w P := h.s1 (fun _ _ _ _ _ _ _ _ _ _ _ _ _ _ _ C _ hl kk => lv_goto C.1 C.2.1 hd ht kk)
theorem x_castN {idx : Nat} (hd : decode k.2.1 pc = .ok (.checkcast idx, 3)) (h : xE G d k (pc + 3) lc (.null :: st) w P) : xE G d k pc lc (.null :: st) w P := h.s1 (fun _ _ _ _ _ _ _ _ _ _ _ _ _ _ _ C _ hl kk => lv_castN C.1 C.2.1 hd kk)
theorem x_ifnullN {off : Int} {tgt : Nat} (ht : (pc : Int) + off = (tgt : Int)) (hd : decode k.2.1 pc = .ok (.ifnull off, 3)) (h : xE G d k (tgt) lc (st) w P) : xE G d k pc lc (.null :: st) w P := h.s1 (fun _ _ _ _ _ _ _ _ _ _ _ _ _ _ _ C _ hl kk => lv_ifnullN C.1 C.2.1 hd ht kk)
theorem x_ifnull {off : Int} {x : Nat} (hd : decode k.2.1 pc = .ok (.ifnull off, 3)) (h : xE G d k (pc + 3) lc (st) w P) : xE G d k pc lc (.ref x :: st) w P := h.s1 (fun _ _ _ _ _ _ _ _ _ _ _ _ _ _ _ C _ hl kk => lv_ifnull C.1 C.2.1 hd kk)
theorem x_ifnonnullN {off : Int} (hd : decode k.2.1 pc = .ok (.ifnonnull off, 3)) (h : xE G d k (pc + 3) lc (st) w P) : xE G d k pc lc (.null :: st) w P := h.s1 (fun _ _ _ _ _ _ _ _ _ _ _ _ _ _ _ C _ hl kk => lv_ifnonnullN C.1 C.2.1 hd kk)
theorem x_ifnonnull {off : Int} {x : Nat} {tgt : Nat} (ht : (pc : Int) + off = (tgt : Int)) (hd : decode k.2.1 pc = .ok (.ifnonnull off, 3)) (h : xE G d k (tgt) lc (st) w P) : xE G d k pc lc (.ref x :: st) w P := h.s1 (fun _ _ _ _ _ _ _ _ _ _ _ _ _ _ _ C _ hl kk => lv_ifnonnull C.1 C.2.1 hd ht kk)
theorem x_istore_n {j : Fin 4} {x : Int32} (hd : decode k.2.1 pc = .ok (.istore_n j, 1)) (hn : (j : Nat) < k.2.2.1) (h : xE G d k (pc + 1) (xst lc (j : Nat) (.int x)) st w P) : xE G d k pc lc (.int x :: st) w P := h.s2 (fun _ _ _ _ _ _ _ _ _ _ _ _ _ _ _ C _ hl kk => lv_istore_n C.1 C.2.1 hd rfl hl hn rfl kk)
theorem x_istore {j : Nat} {x : Int32} (hd : decode k.2.1 pc = .ok (.istore j, 2)) (hn : (j : Nat) < k.2.2.1) (h : xE G d k (pc + 2) (xst lc (j : Nat) (.int x)) st w P) : xE G d k pc lc (.int x :: st) w P := h.s2 (fun _ _ _ _ _ _ _ _ _ _ _ _ _ _ _ C _ hl kk => lv_istore C.1 C.2.1 hd hl hn rfl kk)
theorem x_astore_n {j : Fin 4} {x : Nat} (hd : decode k.2.1 pc = .ok (.astore_n j, 1)) (hn : (j : Nat) < k.2.2.1) (h : xE G d k (pc + 1) (xst lc (j : Nat) (.ref x)) st w P) : xE G d k pc lc (.ref x :: st) w P := h.s2 (fun _ _ _ _ _ _ _ _ _ _ _ _ _ _ _ C _ hl kk => lv_astore_n C.1 C.2.1 hd rfl hl hn rfl kk)
theorem x_astore {j : Nat} {x : Nat} (hd : decode k.2.1 pc = .ok (.astore j, 2)) (hn : (j : Nat) < k.2.2.1) (h : xE G d k (pc + 2) (xst lc (j : Nat) (.ref x)) st w P) : xE G d k pc lc (.ref x :: st) w P := h.s2 (fun _ _ _ _ _ _ _ _ _ _ _ _ _ _ _ C _ hl kk => lv_astore C.1 C.2.1 hd hl hn rfl kk)
theorem x_astore_nN {j : Fin 4} (hd : decode k.2.1 pc = .ok (.astore_n j, 1)) (hn : (j : Nat) < k.2.2.1) (h : xE G d k (pc + 1) (xst lc (j : Nat) (.null)) st w P) : xE G d k pc lc (.null :: st) w P := h.s2 (fun _ _ _ _ _ _ _ _ _ _ _ _ _ _ _ C _ hl kk => lv_astore_nN C.1 C.2.1 hd rfl hl hn rfl kk)
theorem x_astoreN {j : Nat} (hd : decode k.2.1 pc = .ok (.astore j, 2)) (hn : (j : Nat) < k.2.2.1) (h : xE G d k (pc + 2) (xst lc (j : Nat) (.null)) st w P) : xE G d k pc lc (.null :: st) w P := h.s2 (fun _ _ _ _ _ _ _ _ _ _ _ _ _ _ _ C _ hl kk => lv_astoreN C.1 C.2.1 hd hl hn rfl kk)
theorem x_iinc {j : Nat} {n : Int} {x : Int32} (hd : decode k.2.1 pc = .ok (.iinc j n, 3)) (v : Int32) (hx : xlk lc j = some (.int x)) (hv : x + Int32.ofInt n = v) (hn : j < k.2.2.1) (h : xE G d k (pc + 3) (xst lc j (.int v)) st w P) : xE G d k pc lc st w P := by
  obtain ⟨q, hq⟩ := List.getElem?_of_mem (xlk_mem hx)
  exact h.s2 (fun _ _ _ _ _ _ _ _ _ _ _ _ _ _ _ C _ hl kk => lv_iinc C.1 C.2.1 hd hl hq hv hn rfl kk)
theorem x_if_eq {x : Int32} {off : Int} {tgt : Nat} (hd : decode k.2.1 pc = .ok (.ifCond .eq off, 3)) (ht : (pc : Int) + off = (tgt : Int)) (kt : x = 0 → xE G d k tgt lc st w P) (kf : ¬ x = 0 → xE G d k (pc + 3) lc st w P) : xE G d k pc lc (.int x :: st) w P := by
  by_cases hc : x = 0
  · exact (kt hc).s1 (fun _ _ _ _ _ _ _ _ _ _ _ _ _ _ _ C _ _ kk => lv_if_eq C.1 C.2.1 hd ht (fun _ => kk) (fun z => absurd hc (by first | exact z | simpa using z)))
  · exact (kf (by first | exact hc | simpa using hc)).s1 (fun _ _ _ _ _ _ _ _ _ _ _ _ _ _ _ C _ _ kk => lv_if_eq C.1 C.2.1 hd ht (fun z => absurd z hc) (fun _ => kk))
theorem x_if_ne {x : Int32} {off : Int} {tgt : Nat} (hd : decode k.2.1 pc = .ok (.ifCond .ne off, 3)) (ht : (pc : Int) + off = (tgt : Int)) (kt : ¬ x = 0 → xE G d k tgt lc st w P) (kf : x = 0 → xE G d k (pc + 3) lc st w P) : xE G d k pc lc (.int x :: st) w P := by
  by_cases hc : ¬ x = 0
  · exact (kt hc).s1 (fun _ _ _ _ _ _ _ _ _ _ _ _ _ _ _ C _ _ kk => lv_if_ne C.1 C.2.1 hd ht (fun _ => kk) (fun z => absurd hc (by first | exact z | simpa using z)))
  · exact (kf (by first | exact hc | simpa using hc)).s1 (fun _ _ _ _ _ _ _ _ _ _ _ _ _ _ _ C _ _ kk => lv_if_ne C.1 C.2.1 hd ht (fun z => absurd z hc) (fun _ => kk))
theorem x_if_lt {x : Int32} {off : Int} {tgt : Nat} (hd : decode k.2.1 pc = .ok (.ifCond .lt off, 3)) (ht : (pc : Int) + off = (tgt : Int)) (kt : x < 0 → xE G d k tgt lc st w P) (kf : ¬ x < 0 → xE G d k (pc + 3) lc st w P) : xE G d k pc lc (.int x :: st) w P := by
  by_cases hc : x < 0
  · exact (kt hc).s1 (fun _ _ _ _ _ _ _ _ _ _ _ _ _ _ _ C _ _ kk => lv_if_lt C.1 C.2.1 hd ht (fun _ => kk) (fun z => absurd hc (by first | exact z | simpa using z)))
  · exact (kf (by first | exact hc | simpa using hc)).s1 (fun _ _ _ _ _ _ _ _ _ _ _ _ _ _ _ C _ _ kk => lv_if_lt C.1 C.2.1 hd ht (fun z => absurd z hc) (fun _ => kk))
theorem x_if_ge {x : Int32} {off : Int} {tgt : Nat} (hd : decode k.2.1 pc = .ok (.ifCond .ge off, 3)) (ht : (pc : Int) + off = (tgt : Int)) (kt : 0 ≤ x → xE G d k tgt lc st w P) (kf : ¬ 0 ≤ x → xE G d k (pc + 3) lc st w P) : xE G d k pc lc (.int x :: st) w P := by
  by_cases hc : 0 ≤ x
  · exact (kt hc).s1 (fun _ _ _ _ _ _ _ _ _ _ _ _ _ _ _ C _ _ kk => lv_if_ge C.1 C.2.1 hd ht (fun _ => kk) (fun z => absurd hc (by first | exact z | simpa using z)))
  · exact (kf (by first | exact hc | simpa using hc)).s1 (fun _ _ _ _ _ _ _ _ _ _ _ _ _ _ _ C _ _ kk => lv_if_ge C.1 C.2.1 hd ht (fun z => absurd z hc) (fun _ => kk))
theorem x_if_gt {x : Int32} {off : Int} {tgt : Nat} (hd : decode k.2.1 pc = .ok (.ifCond .gt off, 3)) (ht : (pc : Int) + off = (tgt : Int)) (kt : 0 < x → xE G d k tgt lc st w P) (kf : ¬ 0 < x → xE G d k (pc + 3) lc st w P) : xE G d k pc lc (.int x :: st) w P := by
  by_cases hc : 0 < x
  · exact (kt hc).s1 (fun _ _ _ _ _ _ _ _ _ _ _ _ _ _ _ C _ _ kk => lv_if_gt C.1 C.2.1 hd ht (fun _ => kk) (fun z => absurd hc (by first | exact z | simpa using z)))
  · exact (kf (by first | exact hc | simpa using hc)).s1 (fun _ _ _ _ _ _ _ _ _ _ _ _ _ _ _ C _ _ kk => lv_if_gt C.1 C.2.1 hd ht (fun z => absurd z hc) (fun _ => kk))
theorem x_if_le {x : Int32} {off : Int} {tgt : Nat} (hd : decode k.2.1 pc = .ok (.ifCond .le off, 3)) (ht : (pc : Int) + off = (tgt : Int)) (kt : x ≤ 0 → xE G d k tgt lc st w P) (kf : ¬ x ≤ 0 → xE G d k (pc + 3) lc st w P) : xE G d k pc lc (.int x :: st) w P := by
  by_cases hc : x ≤ 0
  · exact (kt hc).s1 (fun _ _ _ _ _ _ _ _ _ _ _ _ _ _ _ C _ _ kk => lv_if_le C.1 C.2.1 hd ht (fun _ => kk) (fun z => absurd hc (by first | exact z | simpa using z)))
  · exact (kf (by first | exact hc | simpa using hc)).s1 (fun _ _ _ _ _ _ _ _ _ _ _ _ _ _ _ C _ _ kk => lv_if_le C.1 C.2.1 hd ht (fun z => absurd z hc) (fun _ => kk))
theorem x_icmp_eq {x y : Int32} {off : Int} {tgt : Nat} (hd : decode k.2.1 pc = .ok (.if_icmp .eq off, 3)) (ht : (pc : Int) + off = (tgt : Int)) (kt : x = y → xE G d k tgt lc st w P) (kf : ¬ x = y → xE G d k (pc + 3) lc st w P) : xE G d k pc lc (.int y :: .int x :: st) w P := by
  by_cases hc : x = y
  · exact (kt hc).s1 (fun _ _ _ _ _ _ _ _ _ _ _ _ _ _ _ C _ _ kk => lv_icmp_eq C.1 C.2.1 hd ht (fun _ => kk) (fun z => absurd hc (by first | exact z | simpa using z)))
  · exact (kf (by first | exact hc | simpa using hc)).s1 (fun _ _ _ _ _ _ _ _ _ _ _ _ _ _ _ C _ _ kk => lv_icmp_eq C.1 C.2.1 hd ht (fun z => absurd z hc) (fun _ => kk))
theorem x_icmp_ne {x y : Int32} {off : Int} {tgt : Nat} (hd : decode k.2.1 pc = .ok (.if_icmp .ne off, 3)) (ht : (pc : Int) + off = (tgt : Int)) (kt : ¬ x = y → xE G d k tgt lc st w P) (kf : x = y → xE G d k (pc + 3) lc st w P) : xE G d k pc lc (.int y :: .int x :: st) w P := by
  by_cases hc : ¬ x = y
  · exact (kt hc).s1 (fun _ _ _ _ _ _ _ _ _ _ _ _ _ _ _ C _ _ kk => lv_icmp_ne C.1 C.2.1 hd ht (fun _ => kk) (fun z => absurd hc (by first | exact z | simpa using z)))
  · exact (kf (by first | exact hc | simpa using hc)).s1 (fun _ _ _ _ _ _ _ _ _ _ _ _ _ _ _ C _ _ kk => lv_icmp_ne C.1 C.2.1 hd ht (fun z => absurd z hc) (fun _ => kk))
theorem x_icmp_lt {x y : Int32} {off : Int} {tgt : Nat} (hd : decode k.2.1 pc = .ok (.if_icmp .lt off, 3)) (ht : (pc : Int) + off = (tgt : Int)) (kt : x < y → xE G d k tgt lc st w P) (kf : ¬ x < y → xE G d k (pc + 3) lc st w P) : xE G d k pc lc (.int y :: .int x :: st) w P := by
  by_cases hc : x < y
  · exact (kt hc).s1 (fun _ _ _ _ _ _ _ _ _ _ _ _ _ _ _ C _ _ kk => lv_icmp_lt C.1 C.2.1 hd ht (fun _ => kk) (fun z => absurd hc (by first | exact z | simpa using z)))
  · exact (kf (by first | exact hc | simpa using hc)).s1 (fun _ _ _ _ _ _ _ _ _ _ _ _ _ _ _ C _ _ kk => lv_icmp_lt C.1 C.2.1 hd ht (fun z => absurd z hc) (fun _ => kk))
theorem x_icmp_ge {x y : Int32} {off : Int} {tgt : Nat} (hd : decode k.2.1 pc = .ok (.if_icmp .ge off, 3)) (ht : (pc : Int) + off = (tgt : Int)) (kt : y ≤ x → xE G d k tgt lc st w P) (kf : ¬ y ≤ x → xE G d k (pc + 3) lc st w P) : xE G d k pc lc (.int y :: .int x :: st) w P := by
  by_cases hc : y ≤ x
  · exact (kt hc).s1 (fun _ _ _ _ _ _ _ _ _ _ _ _ _ _ _ C _ _ kk => lv_icmp_ge C.1 C.2.1 hd ht (fun _ => kk) (fun z => absurd hc (by first | exact z | simpa using z)))
  · exact (kf (by first | exact hc | simpa using hc)).s1 (fun _ _ _ _ _ _ _ _ _ _ _ _ _ _ _ C _ _ kk => lv_icmp_ge C.1 C.2.1 hd ht (fun z => absurd z hc) (fun _ => kk))
theorem x_icmp_gt {x y : Int32} {off : Int} {tgt : Nat} (hd : decode k.2.1 pc = .ok (.if_icmp .gt off, 3)) (ht : (pc : Int) + off = (tgt : Int)) (kt : y < x → xE G d k tgt lc st w P) (kf : ¬ y < x → xE G d k (pc + 3) lc st w P) : xE G d k pc lc (.int y :: .int x :: st) w P := by
  by_cases hc : y < x
  · exact (kt hc).s1 (fun _ _ _ _ _ _ _ _ _ _ _ _ _ _ _ C _ _ kk => lv_icmp_gt C.1 C.2.1 hd ht (fun _ => kk) (fun z => absurd hc (by first | exact z | simpa using z)))
  · exact (kf (by first | exact hc | simpa using hc)).s1 (fun _ _ _ _ _ _ _ _ _ _ _ _ _ _ _ C _ _ kk => lv_icmp_gt C.1 C.2.1 hd ht (fun z => absurd z hc) (fun _ => kk))
theorem x_icmp_le {x y : Int32} {off : Int} {tgt : Nat} (hd : decode k.2.1 pc = .ok (.if_icmp .le off, 3)) (ht : (pc : Int) + off = (tgt : Int)) (kt : x ≤ y → xE G d k tgt lc st w P) (kf : ¬ x ≤ y → xE G d k (pc + 3) lc st w P) : xE G d k pc lc (.int y :: .int x :: st) w P := by
  by_cases hc : x ≤ y
  · exact (kt hc).s1 (fun _ _ _ _ _ _ _ _ _ _ _ _ _ _ _ C _ _ kk => lv_icmp_le C.1 C.2.1 hd ht (fun _ => kk) (fun z => absurd hc (by first | exact z | simpa using z)))
  · exact (kf (by first | exact hc | simpa using hc)).s1 (fun _ _ _ _ _ _ _ _ _ _ _ _ _ _ _ C _ _ kk => lv_icmp_le C.1 C.2.1 hd ht (fun z => absurd z hc) (fun _ => kk))
theorem x_acmp_eq {x y : Nat} {off : Int} {tgt : Nat} (hd : decode k.2.1 pc = .ok (.if_acmp .eq off, 3)) (ht : (pc : Int) + off = (tgt : Int)) (kt : x = y → xE G d k tgt lc st w P) (kf : ¬ x = y → xE G d k (pc + 3) lc st w P) : xE G d k pc lc (.ref y :: .ref x :: st) w P := by
  by_cases hc : x = y
  · exact (kt hc).s1 (fun _ _ _ _ _ _ _ _ _ _ _ _ _ _ _ C _ _ kk => lv_acmp_eq (rx := some x) (ry := some y) C.1 C.2.1 hd ht (fun _ => kk) (fun z => absurd hc (by simpa using z)))
  · exact (kf (by first | exact hc | simpa using hc)).s1 (fun _ _ _ _ _ _ _ _ _ _ _ _ _ _ _ C _ _ kk => lv_acmp_eq (rx := some x) (ry := some y) C.1 C.2.1 hd ht (fun z => absurd (by simpa using z) hc) (fun _ => kk))
theorem x_acmp_ne {x y : Nat} {off : Int} {tgt : Nat} (hd : decode k.2.1 pc = .ok (.if_acmp .ne off, 3)) (ht : (pc : Int) + off = (tgt : Int)) (kt : ¬ x = y → xE G d k tgt lc st w P) (kf : x = y → xE G d k (pc + 3) lc st w P) : xE G d k pc lc (.ref y :: .ref x :: st) w P := by
  by_cases hc : ¬ x = y
  · exact (kt hc).s1 (fun _ _ _ _ _ _ _ _ _ _ _ _ _ _ _ C _ _ kk => lv_acmp_ne (rx := some x) (ry := some y) C.1 C.2.1 hd ht (fun _ => kk) (fun z => absurd hc (by simpa using z)))
  · exact (kf (by first | exact hc | simpa using hc)).s1 (fun _ _ _ _ _ _ _ _ _ _ _ _ _ _ _ C _ _ kk => lv_acmp_ne (rx := some x) (ry := some y) C.1 C.2.1 hd ht (fun z => absurd (by simpa using z) hc) (fun _ => kk))
end XR
end
section
/-! THE ROWS THAT READ AND WRITE CELLS, MAKE THEM, CALL AND RETURN -/
/-- field j of class ci, as class 'own' names it by its pool entry idx -/
def xFl (G : xG) (own : String) (idx ci j : Nat) (C : String) (T : u_T) (N : Nat) : Prop :=
  (xcl G)[ci]? = some (C, T, N) ∧ (∀ w ∈ u_ws C T N, w ∈ xws G) ∧ j < N ∧
  (Cond.fieldLink own idx (T j).1 (T j).2.1 (T j).2.2.1 ∈ xws G ∨ (∃ ref : String, Cond.fieldLink own idx ref (T j).2.1 (T j).2.2.1 ∈ xws G ∧ Cond.sameField ref (T j).1 (T j).2.1 (T j).2.2.1 ∈ xws G) ∨ ∃ host : String, Cond.fieldLinkNest own idx (T j).1 (T j).2.1 (T j).2.2.1 host ∈ xnw G)
/-- .. and it may be written there -/
def xFp (G : xG) (own : String) (idx ci j : Nat) (C : String) (T : u_T) (N : Nat) (ty : Nat → FieldType) (ini : Bool) : Prop :=
  xFl G own idx ci j C T N ∧ (∀ k, k < N → parseFieldDescriptor (T k).2.2.1 = some (ty k)) ∧ (∀ a, a < N → ∀ b, b < N → a ≠ b → (T a).2.1 ≠ (T b).2.1) ∧
  ((T j).2.2.2 = false ∨ ((T j).2.2.2 = true ∧ ini = true ∧ (T j).1 = own ∧ Cond.fieldLink own idx (T j).1 (T j).2.1 (T j).2.2.1 ∈ xws G))
section XPW
variable {p : Program} {l : Launch} {e : Env} {R : Room} {s : State} {m : MethodId} {args : Array Value} {below : List Frame} {meth : Method} {c : Code} {H : Heap} {locs : List Loc} {cells slots : Nat} {Q : State → Prop}
variable {cc : ByteArray} {pc : Nat} {ls : Array Slot} {rest : List Value} {D : va_G} {cl : List vw_C} {a : Nat} {tys : List (ClassId × FieldType)}
theorem xw_put (hexec : p.tables.exec = Jvm.exec) (hb : c.code = cc) {own ref C : String} {T : u_T} {N ci index : Nat} {Ts : List Cond} (hts : ∀ w ∈ Ts, w.before args s = true) (hin : ∀ w ∈ u_ws C T N, w ∈ Ts) (ty0 : Nat → FieldType) (hty : ∀ k, k < N → parseFieldDescriptor (T k).2.2.1 = some (ty0 k)) (hnm : ∀ a, a < N → ∀ b, b < N → a ≠ b → (T a).2.1 ≠ (T b).2.1) (hown : s.vm.findClass own = some m.cls) (hK : va_K D cl tys s) {fs : List Value} (he : va_at D cl (a, .inr (ci, fs)) H) (hc : cl[ci]? = some (C, T, N)) (k : Nat) (hk : k < N) (hlink : (Cond.fieldLink own index ref (T k).2.1 (T k).2.2.1).before args s = true) (hsame : ∀ x, s.fieldFound? (T k).1 (T k).2.1 (T k).2.2.1 = some x → s.fieldFound? ref (T k).2.1 (T k).2.2.1 = some x) (hfin : (T k).2.2.2 = false) {v : Value} (hn : narrow (ty0 k) v = v) (hfit : fits (ty0 k) v = true) (hl : k < fs.length)
    (hdg : decode cc pc = .ok (.putfield index, 3)) (kk : ∀ (H1 : Heap) (i : Nat), va_at D cl (a, .inr (ci, fs.set k v)) H1 → H1.size = H.size → (∀ q : Nat, q ≠ a → H1[q]? = H[q]?) → W p l e R s m args below meth c H1 (locs ++ [⟨a, i⟩]) cells slots Q (F0 m (pc + 3) ls rest)) : W p l e R s m args below meth c H locs cells slots Q (F0 m pc ls (v :: .ref a :: rest)) := by
  have hap := va_apart (own := own) hts hin ty0 hty hnm hK hc
  obtain ⟨r, h1, cell, q1, q2, q3, q4⟩ := he
  have hr : r = (C, T, N) := Option.some.inj (h1.symm.trans hc)
  subst hr
  obtain ⟨hS, hfc, kC, hkC, hkind⟩ := hK.1 ci _ hc
  obtain ⟨cf, kf, fi, f, hi, hsl⟩ := hS k hk
  have hlay := hts _ (hin _ (u_in_lay hk))
  unfold u_lay at hlay
  rw [if_neg (by rw [hfin]; decide)] at hlay
  have hst := (u_facts hfc hkC (u_lays hts hin hk) hi).1
  have h6 := u_store hfc hkC hkind hlay hi (hty k hk) hn hfit
  refine W.putK hexec hb (f := f) ⟨hown, hlink, ⟨_, _, _, hsame _ hi⟩, hst⟩ (by rw [q2]; exact h6) q1 q3 (by rw [hsl]; exact k2_hasslot (q4 k hk)) rfl rfl hdg fun H' e1 e2 e3 => ?_
  rw [hsl] at e1 ⊢
  exact kk H' _ ⟨_, hc, t_OB.to (V := updV (vp_V fs) k v) ⟨_, e1, q2, q3, t_set q4 hap hk v⟩ (fun j _ => vp_updV_set hl v j)⟩ e2 e3
theorem xw_putN (hexec : p.tables.exec = Jvm.exec) (hb : c.code = cc) {own ref C host : String} {T : u_T} {N ci index : Nat} {Ts : List Cond} (hts : ∀ w ∈ Ts, w.before args s = true) (hin : ∀ w ∈ u_ws C T N, w ∈ Ts) (ty0 : Nat → FieldType) (hty : ∀ k, k < N → parseFieldDescriptor (T k).2.2.1 = some (ty0 k)) (hnm : ∀ a, a < N → ∀ b, b < N → a ≠ b → (T a).2.1 ≠ (T b).2.1) (hown : s.vm.findClass own = some m.cls) (hK : va_K D cl tys s) {fs : List Value} (he : va_at D cl (a, .inr (ci, fs)) H) (hc : cl[ci]? = some (C, T, N)) (k : Nat) (hk : k < N) (hlink : (Cond.fieldLinkNest own index ref (T k).2.1 (T k).2.2.1 host).before args s = true) (hsame : ∀ x, s.fieldFound? (T k).1 (T k).2.1 (T k).2.2.1 = some x → s.fieldFound? ref (T k).2.1 (T k).2.2.1 = some x) (hfin : (T k).2.2.2 = false) {v : Value} (hn : narrow (ty0 k) v = v) (hfit : fits (ty0 k) v = true) (hl : k < fs.length)
    (hdg : decode cc pc = .ok (.putfield index, 3)) (kk : ∀ (H1 : Heap) (i : Nat), va_at D cl (a, .inr (ci, fs.set k v)) H1 → H1.size = H.size → (∀ q : Nat, q ≠ a → H1[q]? = H[q]?) → W p l e R s m args below meth c H1 (locs ++ [⟨a, i⟩]) cells slots Q (F0 m (pc + 3) ls rest)) : W p l e R s m args below meth c H locs cells slots Q (F0 m pc ls (v :: .ref a :: rest)) := by
  have hap := va_apart (own := own) hts hin ty0 hty hnm hK hc
  obtain ⟨r, h1, cell, q1, q2, q3, q4⟩ := he
  have hr : r = (C, T, N) := Option.some.inj (h1.symm.trans hc)
  subst hr
  obtain ⟨hS, hfc, kC, hkC, hkind⟩ := hK.1 ci _ hc
  obtain ⟨cf, kf, fi, f, hi, hsl⟩ := hS k hk
  have hlay := hts _ (hin _ (u_in_lay hk))
  unfold u_lay at hlay
  rw [if_neg (by rw [hfin]; decide)] at hlay
  have hst := (u_facts hfc hkC (u_lays hts hin hk) hi).1
  have h6 := u_store hfc hkC hkind hlay hi (hty k hk) hn hfit
  refine va_WputK hexec hb (f := f) hown hlink (hsame _ hi) hst (by rw [q2]; exact h6) q1 q3 (by rw [hsl]; exact k2_hasslot (q4 k hk)) rfl rfl hdg fun H' e1 e2 e3 => ?_
  rw [hsl] at e1 ⊢
  exact kk H' _ ⟨_, hc, t_OB.to (V := updV (vp_V fs) k v) ⟨_, e1, q2, q3, t_set q4 hap hk v⟩ (fun j _ => vp_updV_set hl v j)⟩ e2 e3
theorem xw_putF (hexec : p.tables.exec = Jvm.exec) (hb : c.code = cc) {own ref C : String} {T : u_T} {N ci index : Nat} {Ts : List Cond} (hts : ∀ w ∈ Ts, w.before args s = true) (hin : ∀ w ∈ u_ws C T N, w ∈ Ts) (ty0 : Nat → FieldType) (hty : ∀ k, k < N → parseFieldDescriptor (T k).2.2.1 = some (ty0 k)) (hnm : ∀ a, a < N → ∀ b, b < N → a ≠ b → (T a).2.1 ≠ (T b).2.1) (hown : s.vm.findClass own = some m.cls) (hK : va_K D cl tys s) {fs : List Value} (he : va_at D cl (a, .inr (ci, fs)) H) (hc : cl[ci]? = some (C, T, N)) (k : Nat) (hk : k < N) (hlink : (Cond.fieldLink own index ref (T k).2.1 (T k).2.2.1).before args s = true) (hsame : ∀ x, s.fieldFound? (T k).1 (T k).2.1 (T k).2.2.1 = some x → s.fieldFound? ref (T k).2.1 (T k).2.2.1 = some x) (hfin : (T k).2.2.2 = true) (hin2 : meth.name = "<init>") (hdecl : (T k).1 = own) {v : Value} (hn : narrow (ty0 k) v = v) (hfit : fits (ty0 k) v = true) (hl : k < fs.length)
    (hdg : decode cc pc = .ok (.putfield index, 3)) (kk : ∀ (H1 : Heap) (i : Nat), va_at D cl (a, .inr (ci, fs.set k v)) H1 → H1.size = H.size → (∀ q : Nat, q ≠ a → H1[q]? = H[q]?) → W p l e R s m args below meth c H1 (locs ++ [⟨a, i⟩]) cells slots Q (F0 m (pc + 3) ls rest)) : W p l e R s m args below meth c H locs cells slots Q (F0 m pc ls (v :: .ref a :: rest)) := by
  have hap := va_apart (own := own) hts hin ty0 hty hnm hK hc
  obtain ⟨r, h1, cell, q1, q2, q3, q4⟩ := he
  have hr : r = (C, T, N) := Option.some.inj (h1.symm.trans hc)
  subst hr
  obtain ⟨hS, hfc, kC, hkC, hkind⟩ := hK.1 ci _ hc
  obtain ⟨cf, kf, fi, f, hi, hsl⟩ := hS k hk
  have hlay := hts _ (hin _ (u_in_lay hk))
  unfold u_lay at hlay
  rw [if_pos hfin] at hlay
  have hst := (u_facts hfc hkC (u_lays hts hin hk) hi).1
  have hcf : m.cls = cf := by
    obtain ⟨_, _, c', _, _, _, -, -, hf', -, -, -, hown2, -⟩ := Cond.laysFinal_spec hlay
    have e1 : c' = cf := by have := hi.symm.trans hf'; simp at this; exact this.1.symm
    rw [hdecl] at hown2
    rw [← e1]; exact Option.some.inj (hown.symm.trans hown2)
  have h6 := u_fits hfc hkC hkind (Or.inr hlay) hi (hty k hk) hn hfit
  refine W.putFinK hexec hb hown hlink (hsame _ hi) hst hcf hin2 (by rw [q2]; exact h6) q1 q3 (by rw [hsl]; exact k2_hasslot (q4 k hk)) rfl rfl hdg fun H' e1 e2 e3 => ?_
  rw [hsl] at e1 ⊢
  exact kk H' _ ⟨_, hc, t_OB.to (V := updV (vp_V fs) k v) ⟨_, e1, q2, q3, t_set q4 hap hk v⟩ (fun j _ => vp_updV_set hl v j)⟩ e2 e3
end XPW
section XH
variable {G : xG} {d : Nat} {k : xM} {pc : Nat} {lc : List (Nat × Value)} {st : List Value} {w : xW} {P : Option Value → xW → Prop}
theorem x_get {idx ci j : Nat} {C : String} {T : u_T} {N a : Nat} {fs : List Value} {v : Value} (hf : xFl G k.1.cls idx ci j C T N) (hd : decode k.2.1 pc = .ok (.getfield idx, 3)) (ha : w.2.2 a = some (.inr (ci, fs))) (hv : fs[j]? = some v) (h : xE G d k (pc + 3) lc (v :: st) w P) : xE G d k pc lc (.ref a :: st) w P := by
  obtain ⟨h1, h2, h3, h4⟩ := hf
  refine h.s1 (fun p e R s m args below meth c H locs cells slots ls Q C r hl kk => ?_)
  obtain ⟨c1, c2, c3, c4, c5, c6, c7, c8, c9, c10, c11⟩ := C
  rcases h4 with h4 | ⟨ref, h4, h5⟩ | ⟨host, h4⟩
  · exact va_get c1 c2 c8 h2 c7 c9.1 (r.one ha) 0 rfl h1 j h3 (c8 _ h4) (fun _ z => z) hv hd kk
  · exact va_get c1 c2 c8 h2 c7 c9.1 (r.one ha) 0 rfl h1 j h3 (c8 _ h4) (fun x z => u_same (c8 _ h5) x z) hv hd kk
  · exact va_getN c1 c2 c8 h2 c7 c9.1 (r.one ha) 0 rfl h1 j h3 (va_Nw.use rfl (c9.2 _ h4).2) (fun _ z => z) hv hd kk
theorem x_put {idx ci j : Nat} {C : String} {T : u_T} {N a : Nat} {ty : Nat → FieldType} {ini : Bool} {fs : List Value} {v : Value} (hf : xFp G k.1.cls idx ci j C T N ty ini) (hi : ini = true → k.1.name = "<init>") (hd : decode k.2.1 pc = .ok (.putfield idx, 3)) (ha : w.2.2 a = some (.inr (ci, fs))) (hn : narrow (ty j) v = v) (hfit : fits (ty j) v = true) (hl : j < fs.length) (h : xE G d k (pc + 3) lc st (xset w a (.inr (ci, fs.set j v))) P) : xE G d k pc lc (v :: .ref a :: st) w P := by
  obtain ⟨⟨h1, h2, h3, h4⟩, h5, h6, h7⟩ := hf
  refine h.s3 ha (fun p e R s m args below meth c H locs cells slots ls Q C r hl kk => ?_)
  obtain ⟨c1, c2, c3, c4, c5, c6, c7, c8, c9, c10, c11⟩ := C
  have hat := (r.2.2.1 a _ ha).2
  rcases h7 with h7 | ⟨h7, h8, h9, h10⟩
  · rcases h4 with h4 | ⟨ref, h4, h11⟩ | ⟨host, h4⟩
    · exact xw_put c1 c2 c8 h2 ty h5 h6 c7 c9.1 hat h1 j h3 (c8 _ h4) (fun _ z => z) h7 hn hfit (by assumption) hd kk
    · exact xw_put c1 c2 c8 h2 ty h5 h6 c7 c9.1 hat h1 j h3 (c8 _ h4) (fun x z => u_same (c8 _ h11) x z) h7 hn hfit (by assumption) hd kk
    · exact xw_putN c1 c2 c8 h2 ty h5 h6 c7 c9.1 hat h1 j h3 (va_Nw.use rfl (c9.2 _ h4).2) (fun _ z => z) h7 hn hfit (by assumption) hd kk
  · exact xw_putF c1 c2 c8 h2 ty h5 h6 c7 c9.1 hat h1 j h3 (c8 _ h10) (fun _ z => z) h7 (c6.trans (hi h8)) h9 hn hfit (by assumption) hd kk
/-! arrays -/
theorem x_iald {a t0 n : Nat} {cA : ClassId} {f : Nat → Int32} {i : Int32} (hd : decode k.2.1 pc = .ok (.iaload, 1)) (ha : w.2.2 a = some (.inl (cA, n, .inl f))) (ht : (xty G)[t0]? = some (cA, .int)) (hin : vp_in i n) (h : xE G d k (pc + 1) lc (.int (f i.toNatClampNeg) :: st) w P) : xE G d k pc lc (.int i :: .ref a :: st) w P :=
  h.s1 (fun _ _ _ _ _ _ _ _ _ _ _ _ _ _ _ C r _ kk => va_iald C.1 C.2.1 C.2.2.2.2.2.2.2.2.1.1 (r.one ha) 0 t0 rfl ht hin hd kk)
theorem x_zald {a t0 n : Nat} {cA : ClassId} {f : Nat → Int32} {i : Int32} (hd : decode k.2.1 pc = .ok (.baload, 1)) (ha : w.2.2 a = some (.inl (cA, n, .inl f))) (ht : (xty G)[t0]? = some (cA, .boolean)) (hin : vp_in i n) (h : xE G d k (pc + 1) lc (.int (f i.toNatClampNeg) :: st) w P) : xE G d k pc lc (.int i :: .ref a :: st) w P :=
  h.s1 (fun _ _ _ _ _ _ _ _ _ _ _ _ _ _ _ C r _ kk => va_zald C.1 C.2.1 C.2.2.2.2.2.2.2.2.1.1 (r.one ha) 0 t0 rfl ht hin hd kk)
theorem x_aald {a t0 n x : Nat} {cA : ClassId} {B : String} {f : Nat → Option Nat} {i : Int32} (hd : decode k.2.1 pc = .ok (.aaload, 1)) (ha : w.2.2 a = some (.inl (cA, n, .inr (.inr (.inr (.inr f)))))) (ht : (xty G)[t0]? = some (cA, .object B)) (hin : vp_in i n) (hx : f i.toNatClampNeg = some x) (h : xE G d k (pc + 1) lc (.ref x :: st) w P) : xE G d k pc lc (.int i :: .ref a :: st) w P :=
  h.s1 (fun _ _ _ _ _ _ _ _ _ _ _ _ _ _ _ C r _ kk => va_aldq C.1 C.2.1 C.2.2.2.2.2.2.2.2.1.1 (r.one ha) 0 t0 rfl ht hin hd (by rw [hx]; exact kk))
theorem x_alen {a t0 : Nat} {cA : ClassId} {x : vp_A} {ty : FieldType} {v : Int32} (hd : decode k.2.1 pc = .ok (.arraylength, 1)) (ha : w.2.2 a = some (.inl (cA, x))) (ht : (xty G)[t0]? = some (cA, ty)) (hv : Int32.ofNat x.1 = v) (h : xE G d k (pc + 1) lc (.int v :: st) w P) : xE G d k pc lc (.ref a :: st) w P :=
  h.s1 (fun _ _ _ _ _ _ _ _ _ _ _ _ _ _ _ C r _ kk => va_alen C.1 C.2.1 C.2.2.2.2.2.2.2.2.1.1 (r.one ha) 0 t0 rfl ht hv hd kk)
theorem x_iast {a t0 n : Nat} {cA : ClassId} {f : Nat → Int32} {i x : Int32} (hd : decode k.2.1 pc = .ok (.iastore, 1)) (ha : w.2.2 a = some (.inl (cA, n, .inl f))) (ht : (xty G)[t0]? = some (cA, .int)) (hin : vp_in i n) (h : xE G d k (pc + 1) lc st (xset w a (.inl (cA, n, .inl (upd f i.toNatClampNeg x)))) P) : xE G d k pc lc (.int x :: .int i :: .ref a :: st) w P := by
  refine h.s3 ha (fun p e R s m args below meth c H locs cells slots ls Q C r hl kk => ?_)
  refine W.iast C.1 C.2.1 (r.2.2.1 a _ ha).2 ((C.2.2.2.2.2.2.2.2.1.1.2 t0 _ ht).1 n (fun j => .int (f j))) (fun q => by cases q) (by show ¬ (i < 0 ∨ (arrV _ _ _).slots.size ≤ _); rw [arrV_size]; exact hin) rfl rfl hd fun H1 e1 z oq => kk H1 _ ?_ z oq
  show H1[a]? = some (vp_cell _ _)
  rw [e1]
  rw [vp_cell_i, vp_cell_i, arrV_store]
  congr 2
  funext q
  by_cases hq : q = i.toNatClampNeg
  · subst hq
    simp [updV, upd]
  · simp [updV, upd, hq]
theorem x_zast {a t0 n : Nat} {cA : ClassId} {f : Nat → Int32} {i x : Int32} (hd : decode k.2.1 pc = .ok (.bastore, 1)) (ha : w.2.2 a = some (.inl (cA, n, .inl f))) (ht : (xty G)[t0]? = some (cA, .boolean)) (hin : vp_in i n) (hx : narrow .boolean (.int x) = .int x) (h : xE G d k (pc + 1) lc st (xset w a (.inl (cA, n, .inl (upd f i.toNatClampNeg x)))) P) : xE G d k pc lc (.int x :: .int i :: .ref a :: st) w P := by
  refine h.s3 ha (fun p e R s m args below meth c H locs cells slots ls Q C r hl kk => ?_)
  refine W.zast C.1 C.2.1 (r.2.2.1 a _ ha).2 ((C.2.2.2.2.2.2.2.2.1.1.2 t0 _ ht).1 n (fun j => .int (f j))) (fun q => by cases q) (by show ¬ (i < 0 ∨ (arrV _ _ _).slots.size ≤ _); rw [arrV_size]; exact hin) rfl rfl hd fun H1 e1 z oq => kk H1 _ ?_ z oq
  show H1[a]? = some (vp_cell _ _)
  rw [e1, hx]
  rw [vp_cell_i, vp_cell_i, arrV_store]
  congr 2
  funext q
  by_cases hq : q = i.toNatClampNeg
  · subst hq
    simp [updV, upd]
  · simp [updV, upd, hq]
/-- a reference to an object of class ci into an array of its class, or of a class that it can be cast to -/
theorem x_aast {a t0 n v ci : Nat} {cA : ClassId} {B : String} {r0 : vw_C} {f : Nat → Option Nat} {vs : List Value} {i : Int32} (hd : decode k.2.1 pc = .ok (.aastore, 1)) (ha : w.2.2 a = some (.inl (cA, n, .inr (.inr (.inr (.inr f)))))) (ht : (xty G)[t0]? = some (cA, .object B)) (hv : w.2.2 v = some (.inr (ci, vs))) (hc : (xcl G)[ci]? = some r0) (hB : r0.1 = B ∨ Cond.castable r0.1 B ∈ xnw G) (hin : vp_in i n) (h : xE G d k (pc + 1) lc st (xset w a (.inl (cA, n, .inr (.inr (.inr (.inr (va_up f i.toNatClampNeg (some v)))))))) P) : xE G d k pc lc (.ref v :: .int i :: .ref a :: st) w P := by
  refine h.s3 ha (fun p e R s m args below meth c H locs cells slots ls Q C r hl kk => ?_)
  have hK := C.2.2.2.2.2.2.2.2.1
  have hlt : i.toNatClampNeg < n := Nat.not_le.mp fun q => hin (Or.inr q)
  have h0 : ¬ i < 0 := fun q => hin (Or.inl q)
  obtain ⟨r', hr', cellV, g1, g2, g3, -⟩ := (r.2.2.1 v _ hv).2
  have hcls := (hK.1.1 ci r0 hc).2
  obtain ⟨kA, comp, k1, k2, k3, -⟩ := (hK.1.2 t0 _ ht).2
  obtain ⟨kE, hkE, -⟩ := Vm.findClass_spec k3
  obtain ⟨kC, hkC, -⟩ := hcls.2
  have hasg : s.vm.assignable ((xD G).1 ci) comp = true := by
    rcases hB with hB | hB
    · subst hB
      have : comp = (xD G).1 ci := Option.some.inj (k3.symm.trans hcls.1)
      subst this
      exact va_assign hcls
    · obtain ⟨c0, t1, f1, f2, f3⟩ := Cond.castable_spec (va_Nw.use (A := args) rfl (hK.2 _ hB).2)
      cases hcls.1.symm.trans f1
      cases k3.symm.trans f2
      exact f3
  refine W.aast C.1 C.2.1 (r.2.2.1 a _ ha).2 (fun q h => by cases h) (fun h => by cases h) k1 k2 rfl hkE ⟨h0, by show _ < (arrV _ _ _).slots.size; rw [arrV_size]; exact hlt⟩ g1 (fun q h => by rw [g3] at h; cases h) (by rw [g2]; exact hkC) (by rw [g2]; exact hasg) rfl rfl hd fun H1 e1 z oq => kk H1 _ ?_ z oq
  show H1[a]? = some (vp_cell _ _)
  rw [e1]
  rw [vp_cell_q, vp_cell_q, arrV_store]
  congr 2
  funext q
  by_cases hq : q = i.toNatClampNeg
  · subst hq
    simp [updV, va_up, va_rf]
  · simp [updV, va_up, hq]
theorem x_aastN {a t0 n : Nat} {cA : ClassId} {B : String} {f : Nat → Option Nat} {i : Int32} (hd : decode k.2.1 pc = .ok (.aastore, 1)) (ha : w.2.2 a = some (.inl (cA, n, .inr (.inr (.inr (.inr f)))))) (ht : (xty G)[t0]? = some (cA, .object B)) (hin : vp_in i n) (h : xE G d k (pc + 1) lc st (xset w a (.inl (cA, n, .inr (.inr (.inr (.inr (va_up f i.toNatClampNeg none))))))) P) : xE G d k pc lc (.null :: .int i :: .ref a :: st) w P := by
  refine h.s3 ha (fun p e R s m args below meth c H locs cells slots ls Q C r hl kk => ?_)
  have hK := C.2.2.2.2.2.2.2.2.1
  refine va_WaastN (C := B) C.1 C.2.1 (r.2.2.1 a _ ha).2 ((hK.1.2 t0 _ ht).1 n (fun j => va_rf (f j))) (fun h => by cases h) (by show ¬ (i < 0 ∨ (arrV _ _ _).slots.size ≤ _); rw [arrV_size]; exact hin) rfl rfl hd fun H1 e1 z oq => kk H1 _ ?_ z oq
  show H1[a]? = some (vp_cell _ _)
  rw [e1]
  rw [vp_cell_q, vp_cell_q, arrV_store]
  congr 2
  funext q
  by_cases hq : q = i.toNatClampNeg
  · subst hq
    simp [updV, va_up, va_rf]
  · simp [updV, va_up, hq]
/-! making cells -/
theorem x_new {idx ci : Nat} {C : String} {T : u_T} {N : Nat} {ty : Nat → FieldType} {fs : List Value} (hd : decode k.2.1 pc = .ok (.new idx, 3)) (hc : (xcl G)[ci]? = some (C, T, N)) (hin : ∀ w ∈ u_ws C T N, w ∈ xws G) (hty : ∀ k, k < N → parseFieldDescriptor (T k).2.2.1 = some (ty k)) (hcl : Cond.classLink k.1.cls idx C ∈ xws G) (hinst : Cond.instantiable C N ∈ xws G) (hini : Cond.initialized C ∈ xws G) (hfs : ∀ j, j < N → defaultValue (ty j) = vp_V fs j)
    (h : xE G d k (pc + 3) lc (.ref w.1 :: st) (xnew w N (.inr (ci, fs))) P) : xE G d k pc lc st w P := by
  refine h.s4 (fun p e R s m args below meth c H locs cells slots ls Q C r hl hcells hslots kk => ?_)
  obtain ⟨c1, c2, c3, c4, c5, c6, c7, c8, c9, c10, c11⟩ := C
  have hKn := c9.1.1 ci _ hc
  refine W.newcK c1 c2 c7 (c8 _ hcl) (c8 _ hinst) (c8 _ hini) rfl hd hcells hslots hKn.2.1 rfl fun H1 kC hkC e1 z1 o1 => ?_
  have := kk H1 ⟨_, hc, (u_born ty c8 hin hKn hkC e1 hty).to hfs⟩ z1 o1
  rw [← r.1] at this
  exact this
theorem x_newa {at0 : ArrayType} {t0 N' : Nat} {cA : ClassId} {ty : FieldType} {n : Int32} (hd : decode k.2.1 pc = .ok (.newarray at0, 2)) (hty : newarray.typeOf at0 = ty) (harr : Cond.arrayClass ty ∈ xws G) (ht : (xty G)[t0]? = some (cA, ty)) (hp : ty = .int ∨ ty = .boolean) (hn : ¬ n < 0) (hN : n.toNatClampNeg = N') (hb : N' * 4 ≤ 536870912)
    (h : xE G d k (pc + 2) lc (.ref w.1 :: st) (xnew w N' (.inl (cA, N', .inl (fun _ => 0)))) P) : xE G d k pc lc (.int n :: st) w P := by
  refine h.s4 (fun p e R s m args below meth c H locs cells slots ls Q C r hl hcells hslots kk => ?_)
  obtain ⟨c1, c2, c3, c4, c5, c6, c7, c8, c9, c10, c11⟩ := C
  subst hty
  have hbytes : N' * componentBytes (newarray.typeOf at0) ≤ 536870912 := by
    rcases hp with hp | hp
    · rw [hp]; simpa [componentBytes] using hb
    · rw [hp]; simp [componentBytes]; omega
  refine va_newaK c1 c2 (c8 _ harr) rfl hd rfl hn hN hbytes hcells hslots rfl fun H1 cA' e1 z1 o1 hAr hNm => ?_
  have hRA := (c9.1.2 t0 _ ht).2
  have hcA : s.vm.findClass ("[" ++ (newarray.typeOf at0).toString) = some cA := by
    rcases hp with hp | hp
    · rw [hp] at hRA ⊢; exact hRA
    · rw [hp] at hRA ⊢; exact hRA
  have hce : cA' = cA := Option.some.inj (hNm.symm.trans hcA)
  subst hce
  have hd0 : defaultValue (newarray.typeOf at0) = .int 0 := by
    rcases hp with hp | hp
    · rw [hp]; rfl
    · rw [hp]; rfl
  rw [hd0] at e1
  have := kk H1 e1 z1 o1
  rw [← r.1] at this
  exact this
theorem x_newq {idx t0 N' : Nat} {cA : ClassId} {B : String} {n : Int32} (hd : decode k.2.1 pc = .ok (.anewarray idx, 3)) (hcl : Cond.classLink k.1.cls idx B ∈ xws G) (hov : Cond.arrayOver (.object B) ∈ xnw G) (ht : (xty G)[t0]? = some (cA, .object B)) (hn : ¬ n < 0) (hN : n.toNatClampNeg = N') (hb : N' * 4 ≤ 536870912)
    (h : xE G d k (pc + 3) lc (.ref w.1 :: st) (xnew w N' (.inl (cA, N', .inr (.inr (.inr (.inr (fun _ => none))))))) P) : xE G d k pc lc (.int n :: st) w P := by
  refine h.s4 (fun p e R s m args below meth c H locs cells slots ls Q C r hl hcells hslots kk => ?_)
  obtain ⟨c1, c2, c3, c4, c5, c6, c7, c8, c9, c10, c11⟩ := C
  subst hN
  refine W.anew c1 c2 c7 (c8 _ hcl) (va_AO.use (c9.2 _ hov).2) rfl hd rfl hn hb hcells hslots fun cA' kA comp f1 f2 f3 f4 => ?_
  have hRA := (c9.1.2 t0 _ ht).2
  obtain ⟨-, -, -, -, -, hnm⟩ := hRA
  have hce : cA' = cA := Option.some.inj (f1.symm.trans hnm)
  subst hce
  generalize hH1 : H.push ({ cls := cA', slots := Array.replicate n.toNatClampNeg .null, vm := .none } : Cell) = H1
  have z1 : H1.size = H.size + 1 := by rw [← hH1, Array.size_push]
  have e1 : H1[H.size]? = some (arrV cA' n.toNatClampNeg (fun _ => .null)) := by rw [← hH1, Array.getElem?_push_size, ← arrV_new]
  have o1 : ∀ q : Nat, q < H.size → H1[q]? = H[q]? := fun q hq => by rw [← hH1, Array.getElem?_push, if_neg (Nat.ne_of_lt hq)]
  have := kk H1 e1 z1 o1
  rw [← r.1] at this
  exact this
/-! constants -/
theorem x_ldc {idx : Nat} {v : Int32} (hd : decode k.2.1 pc = .ok (.ldc idx, 2)) (hc : Cond.constant k.1.cls idx v ∈ xws G) (h : xE G d k (pc + 2) lc (.int v :: st) w P) : xE G d k pc lc st w P :=
  h.s1 (fun _ _ _ _ _ _ _ _ _ _ _ _ _ _ _ C _ _ kk => lv_ldc C.1 C.2.1 C.2.2.2.2.2.2.1 (C.2.2.2.2.2.2.2.1 _ hc) hd kk)
theorem x_ldcw {idx : Nat} {v : Int32} (hd : decode k.2.1 pc = .ok (.ldc_w idx, 3)) (hc : Cond.constant k.1.cls idx v ∈ xws G) (h : xE G d k (pc + 3) lc (.int v :: st) w P) : xE G d k pc lc st w P :=
  h.s1 (fun _ _ _ _ _ _ _ _ _ _ _ _ _ _ _ C _ _ kk => lv_ldcw C.1 C.2.1 C.2.2.2.2.2.2.1 (C.2.2.2.2.2.2.2.1 _ hc) hd kk)
theorem x_ldc2 {idx : Nat} {v : Int64} (hd : decode k.2.1 pc = .ok (.ldc2_w idx, 3)) (hc : Cond.constantLong k.1.cls idx v ∈ xws G) (h : xE G d k (pc + 3) lc (.long v :: st) w P) : xE G d k pc lc st w P :=
  h.s1 (fun _ _ _ _ _ _ _ _ _ _ _ _ _ _ _ C _ _ kk => lv_ldc2 C.1 C.2.1 C.2.2.2.2.2.2.1 (C.2.2.2.2.2.2.2.1 _ hc) hd kk)
/-! switches -/
theorem x_tableOut {dflt lo hi : Int} {offs : Array Int} {len : Nat} {x : Int32} {tgt : Nat} (hd : decode k.2.1 pc = .ok (.tableswitch dflt lo hi offs, len)) (hx : x.toInt < lo ∨ hi < x.toInt) (ht : (pc : Int) + dflt = (tgt : Int)) (h : xE G d k tgt lc st w P) : xE G d k pc lc (.int x :: st) w P :=
  h.s1 (fun _ _ _ _ _ _ _ _ _ _ _ _ _ _ _ C _ _ kk => lv_tableOut C.1 C.2.1 hd hx ht kk)
theorem x_tableIn {dflt lo hi : Int} {offs : Array Int} {len : Nat} {x : Int32} {off : Int} {tgt : Nat} (hd : decode k.2.1 pc = .ok (.tableswitch dflt lo hi offs, len)) (h1 : ¬ x.toInt < lo) (h2 : ¬ hi < x.toInt) (ho : offs[(x.toInt - lo).toNat]? = some off) (ht : (pc : Int) + off = (tgt : Int)) (h : xE G d k tgt lc st w P) : xE G d k pc lc (.int x :: st) w P :=
  h.s1 (fun _ _ _ _ _ _ _ _ _ _ _ _ _ _ _ C _ _ kk => lv_tableIn C.1 C.2.1 hd h1 h2 ho ht kk)
/-! casts -/
theorem x_cast {idx a ci : Nat} {r0 : vw_C} {fs : List Value} {B : String} (hd : decode k.2.1 pc = .ok (.checkcast idx, 3)) (hl : Cond.classLink k.1.cls idx B ∈ xws G) (ha : w.2.2 a = some (.inr (ci, fs))) (hc : (xcl G)[ci]? = some r0) (hB : r0.1 = B ∨ Cond.castable r0.1 B ∈ xnw G) (h : xE G d k (pc + 3) lc (.ref a :: st) w P) : xE G d k pc lc (.ref a :: st) w P := by
  refine h.s1 (fun p e R s m args below meth c H locs cells slots ls Q C r hl' kk => ?_)
  obtain ⟨c1, c2, c3, c4, c5, c6, c7, c8, c9, c10, c11⟩ := C
  have hr := va_recv c9.1 (r.one ha) hc (q0 := 0) rfl
  rcases hB with hB | hB
  · subst hB
    exact va_castS c1 c2 c7 (c8 _ hl) (c9.1.1 ci r0 hc).2 hr hd kk
  · exact va_castY c1 c2 c7 (c8 _ hl) (c9.2 _ hB).2 hr hd kk
/-! returns -/
theorem x_iret {v : Int32} (hd : decode k.2.1 pc = .ok (.ireturn, 1)) (hr : k.2.2.2 = some .int) (h : P (some (.int v)) w) : xE G d k pc lc [.int v] w P := by
  refine ⟨_, w, h, Nat.le_refl _, Nat.le_refl _, fun p e R s m args below meth c H locs cells slots ls C r hl hL hc hs => ?_⟩
  obtain ⟨c1, c2, c3, c4, c5, c6, c7, c8, c9, c10, c11⟩ := C
  have e1 : cells = R.cells := by omega
  have e2 : slots = R.slots := by omega
  rw [e1, e2]
  exact W.iret c1 c2 (c4.trans hr) (fun t ht hW => ⟨rfl, by rw [ht]; exact r.moved hW.alike⟩) hL hd c5
theorem x_zret {v : Int32} (hd : decode k.2.1 pc = .ok (.ireturn, 1)) (hr : k.2.2.2 = some .boolean) (hn : narrow .boolean (.int v) = .int v) (h : P (some (.int v)) w) : xE G d k pc lc [.int v] w P := by
  refine ⟨_, w, h, Nat.le_refl _, Nat.le_refl _, fun p e R s m args below meth c H locs cells slots ls C r hl hL hc hs => ?_⟩
  obtain ⟨c1, c2, c3, c4, c5, c6, c7, c8, c9, c10, c11⟩ := C
  have e1 : cells = R.cells := by omega
  have e2 : slots = R.slots := by omega
  rw [e1, e2]
  exact W.zret c1 c2 (c4.trans hr) hn (fun t ht hW => ⟨rfl, by rw [ht]; exact r.moved hW.alike⟩) hL hd c5
theorem x_vret (hd : decode k.2.1 pc = .ok (.return_, 1)) (hr : k.2.2.2 = none) (h : P none w) : xE G d k pc lc [] w P := by
  refine ⟨_, w, h, Nat.le_refl _, Nat.le_refl _, fun p e R s m args below meth c H locs cells slots ls C r hl hL hc hs => ?_⟩
  obtain ⟨c1, c2, c3, c4, c5, c6, c7, c8, c9, c10, c11⟩ := C
  have e1 : cells = R.cells := by omega
  have e2 : slots = R.slots := by omega
  rw [e1, e2]
  exact W.vret c1 c2 (c4.trans hr) (fun t ht hW => ⟨rfl, by rw [ht]; exact r.moved hW.alike⟩) hL hd c5
theorem x_aret {v : Nat} {rt : FieldType} (hd : decode k.2.1 pc = .ok (.areturn, 1)) (hr : k.2.2.2 = some rt) (hrt : (∃ n, rt = .object n) ∨ ∃ t, rt = .array t) (h : P (some (.ref v)) w) : xE G d k pc lc [.ref v] w P := by
  refine ⟨_, w, h, Nat.le_refl _, Nat.le_refl _, fun p e R s m args below meth c H locs cells slots ls C r hl hL hc hs => ?_⟩
  obtain ⟨c1, c2, c3, c4, c5, c6, c7, c8, c9, c10, c11⟩ := C
  have e1 : cells = R.cells := by omega
  have e2 : slots = R.slots := by omega
  rw [e1, e2]
  exact W.aret c1 c2 (c4.trans hr) hrt (Or.inr ⟨v, rfl⟩) (fun t ht hW => ⟨rfl, by rw [ht]; exact r.moved hW.alike⟩) hL hd c5
/-! Object.<init> -/
theorem x_objInit {idx a : Nat} (hd : decode k.2.1 pc = .ok (.invokespecial idx, 3)) (h1 : Cond.methodLink k.1.cls idx Lib.objectInit ∈ xws G) (h2 : Cond.instanceMethod Lib.objectInit ∈ xws G) (h3 : Cond.code Lib.objectInit ⟨#[0xb1]⟩ 1 none ∈ xws G) (hst : (st.map fun v => v.category).sum ≤ 8) (hdd : 1 ≤ d) (h : xE G d k (pc + 3) lc st w P) : xE G d k pc lc (.ref a :: st) w P := by
  refine h.s1 (fun p e R s m args below meth c H locs cells slots ls Q C r hl kk => ?_)
  obtain ⟨c1, c2, c3, c4, c5, c6, c7, c8, c9, c10, c11⟩ := C
  exact W.objInit c1 c2 c7 (c8 _ h1) (c8 _ h2) (c8 _ h3) rfl (by rw [c3]; exact hl.1) rfl hd (by omega) (by show 2 * 0 + _ + 12 ≤ _; omega) kk
end XH
end
section
/-! CALLS -/
section XM
variable {G : xG} {d : Nat} {k kc : xM} {pc dc : Nat} {lc : List (Nat × Value)} {st : List Value} {w w1 : xW} {v : Option Value} {P Pc : Option Value → xW → Prop}
def xPc (G : xG) (av : List Value) (w : xW) : Array Value → State → Prop := fun a U => a = av.toArray ∧ xK G U ∧ xR G w U U.heap
theorem xPc.blind {av : List Value} : FrameBlind (xPc G av w) := by
  intro a U g mk h
  obtain ⟨h1, h2, h3⟩ := h
  exact ⟨h1, h2.warm (U := U.calling g mk a) (State.WarmedH.refl U), xR.moved (U := U.calling g mk a) (Vm.Alike.refl U.vm) h3⟩
/-- the room that a method of depth dc is given -/
abbrev xrm (dc : Nat) (w w1 : xW) : Room := { frames := dc, cells := w1.1 - w.1, slots := w1.2.1 - w.2.1, locals := 42 * dc }
theorem xV.met {av : List Value} (hy : plainName kc.1.cls = true ∨ plainFor kc.1 = true) (hlen : (lg_sl av).length ≤ kc.2.2.1) (h : xV G dc kc 0 (lv_args 0 av) [] w v w1) :
    Met (xl G) kc.1 (Cond.code kc.1 kc.2.1 kc.2.2.1 kc.2.2.2 :: xws G) (xrm dc w w1) (xPc G av w) (xQ G v w1) (w1.1 - w.1) (w1.2.1 - w.2.1) (fun q => xb G ≤ q) := by
  have body : ∀ p e s m args below meth c s₁, BodyLoose p (xl G) kc.1 (headSpec (Cond.code kc.1 kc.2.1 kc.2.2.1 kc.2.2.2 :: xws G) (xrm dc w w1)) kc.2.1 kc.2.2.1 kc.2.2.2 e s m args below meth c s₁ → c.maxLocals = kc.2.2.1 → xPc G av w args s →
      W p (xl G) e (headSpec (Cond.code kc.1 kc.2.1 kc.2.2.1 kc.2.2.2 :: xws G) (xrm dc w w1)).room s m args below meth c s.heap [] 0 0 (MQ below (xQ G v w1) args s (w1.1 - w.1) (w1.2.1 - w.2.1) (fun q => xb G ≤ q)) (entryFrame m args kc.2.2.1) := by
    intro p e s m args below meth c s₁ B hml hv
    obtain ⟨rfl, hK, hR⟩ := hv
    have hts := atoms_spec (ws := Cond.code kc.1 kc.2.1 kc.2.2.1 kc.2.2.2 :: xws G) B.pre
    rw [lg_entry_eq]
    exact h.2.2 p e (xrm dc w w1) s m av.toArray below meth c s.heap [] 0 0 _ ⟨B.exec, B.bytes, hml, B.returns, B.notSynchronized, (name_of_methodNamed B.named B.method).1, findClass_of_methodNamed B.named, fun x hx => hts x (List.mem_cons_of_mem _ hx), hK, Nat.le_refl _, Nat.le_refl _⟩ hR (lv_entry av hlen) (fun q hq => by cases hq) (Nat.zero_add _) (Nat.zero_add _)
  rcases hy with hy | hy
  · exact Met.ofW (cc := kc.2.1) (maxL := kc.2.2.1) (ret := kc.2.2.2) hy rfl body
  · exact va_MetF (cc := kc.2.1) (maxL := kc.2.2.1) (ret := kc.2.2.2) hy rfl body
end XM
section XN
variable {p : Program} {l : Launch} {e : Env} {R : Room} {s : State} {m : MethodId} {args : Array Value} {below : List Frame} {meth : Method} {c : Code} {H : Heap} {locs : List Loc} {cells slots : Nat} {Q : State → Prop}
/-- behind a call -/
theorem xRun {G : xG} {w1 : xW} {v : Option Value} {mc ms pc : Nat} {ls : Array Slot} {st rest : List Value} {a : Array Value} (hr : va_Run p l e R s m args below meth c H locs cells slots mc ms (F0 m pc ls st) rest (xQ G v w1 a) (fun q => xb G ≤ q)) (hL : ∀ q ∈ locs, xb G ≤ q.base)
    (kk : ∀ (H1 : Heap) (locs1 : List Loc), xR G w1 s H1 → (∀ q ∈ locs1, xb G ≤ q.base) → W p l e R s m args below meth c H1 locs1 (cells + mc) (slots + ms) Q (F0 m (pc + 3) ls (v.toList ++ rest))) : W p l e R s m args below meth c H locs cells slots Q (F0 m pc ls st) := by
  intro T hT X
  obtain ⟨v', st₀, t, T', L, h0, X', hL', e1, e2, ⟨hv, hb⟩, stp⟩ := hr T hT X
  cases hv
  have hvm : t.vm.Alike s.vm := by
    rw [← e2]
    exact X'.warmed.alike.symm
  obtain ⟨t2, a1, b1⟩ := kk T'.heap (locs ++ L) (by rw [e1]; exact hb.moved hvm) (fun q hq => by
    rcases List.mem_append.mp hq with h | h
    · exact hL q h
    · exact hL' q h) T' rfl X'
  exact ⟨t2, stp t2 a1, b1⟩
end XN
/-- what every call asks of the callee -/
def xLc (G : xG) (kc : xM) (n : Nat) : Prop :=
  Cond.initialized kc.1.cls ∈ xws G ∧ Cond.code kc.1 kc.2.1 kc.2.2.1 kc.2.2.2 ∈ xws G ∧ (kc.1.cls ≠ "java/lang/invoke/MethodHandle" ∧ kc.1.cls ≠ "java/lang/invoke/VarHandle" ∧ (parseMethodDescriptor kc.1.desc).map (fun d => d.parameters.length) = some n) ∧ (plainName kc.1.cls = true ∨ plainFor kc.1 = true) ∧ kc.2.2.1 ≤ 23 ∧ (∀ w ∈ xws G, goodWord w = true)
def xLS (G : xG) (own : String) (idx : Nat) (kc : xM) (n : Nat) : Prop := xLc G kc n ∧ Cond.methodLink own idx kc.1 ∈ xws G ∧ Cond.static kc.1 ∈ xws G
def xLSN (G : xG) (own : String) (idx : Nat) (kc : xM) (n : Nat) : Prop := xLc G kc n ∧ (∃ host : String, Cond.methodLinkNest own idx kc.1 host ∈ xnw G) ∧ Cond.static kc.1 ∈ xws G
def xLI (G : xG) (own : String) (idx : Nat) (kc : xM) (n : Nat) : Prop := xLc G kc n ∧ Cond.methodLink own idx kc.1 ∈ xws G ∧ Cond.instanceMethod kc.1 ∈ xws G ∧ kc.1.name = "<init>" ∧ kc.2.2.2 = none
def xLIN (G : xG) (own : String) (idx : Nat) (kc : xM) (n : Nat) : Prop := xLc G kc n ∧ (∃ host : String, Cond.methodLinkNest own idx kc.1 host ∈ xnw G) ∧ Cond.instanceMethod kc.1 ∈ xws G ∧ kc.1.name = "<init>" ∧ kc.2.2.2 = none
def xLV (G : xG) (own C : String) (idx : Nat) (kc : xM) (n : Nat) : Prop := xLc G kc n ∧ Cond.methodLink own idx kc.1 ∈ xws G ∧ Cond.instanceMethod kc.1 ∈ xws G ∧ Cond.selects C kc.1 kc.1 ∈ xws G
def xLVN (G : xG) (own C : String) (idx : Nat) (kc : xM) (n : Nat) : Prop := xLc G kc n ∧ (∃ host : String, Cond.methodLinkNest own idx kc.1 host ∈ xnw G) ∧ Cond.instanceMethod kc.1 ∈ xws G ∧ Cond.selects C kc.1 kc.1 ∈ xws G
theorem xLc.good {G : xG} {kc : xM} {n : Nat} (h : xLc G kc n) : GoodIn (xws G) (Cond.code kc.1 kc.2.1 kc.2.2.1 kc.2.2.2 :: xws G) := by
  intro x hx
  have hm : x ∈ xws G := by
    rcases List.mem_cons.mp hx with rfl | hx
    · exact h.2.1
    · exact hx
  exact ⟨hm, good_of_word (h.2.2.2.2.2 x hm)⟩
section XCL
variable {G : xG} {d : Nat} {k kc : xM} {pc dc : Nat} {lc : List (Nat × Value)} {st : List Value} {w : xW} {P Pc : Option Value → xW → Prop}
theorem x_call {idx n : Nat} (As rest : List Value) (hS : st = As.reverse ++ rest) (hd : decode k.2.1 pc = .ok (.invokestatic idx, 3)) (hk : xLS G k.1.cls idx kc n ∨ xLSN G k.1.cls idx kc n) (hn : As.length = n) (hr : (rest.map fun v => v.category).sum ≤ 8) (hls : (lg_sl As).length ≤ kc.2.2.1) (hdd : dc + 1 ≤ d) (hc : xE G dc kc 0 (lv_args 0 As) [] w Pc) (kk : ∀ v w1, Pc v w1 → xE G d k (pc + 3) lc (v.toList ++ rest) w1 P) : xE G d k pc lc st w P := by
  subst hS
  obtain ⟨v, w1, hP1, hV1⟩ := hc
  obtain ⟨v', w', hP', h1, h2, h3⟩ := kk v w1 hP1
  have g1 := hV1.1
  have g2 := hV1.2.1
  refine ⟨v', w', hP', by omega, by omega, fun p e R s m args below meth c H locs cells slots ls C r hl hL hc hs => ?_⟩
  have C' := C
  obtain ⟨c1, c2, c3, c4, c5, c6, c7, c8, c9, c10, c11⟩ := C
  have hcc : cells + (w1.1 - w.1) + (w'.1 - w1.1) = R.cells := by omega
  have hss : slots + (w1.2.1 - w.2.1) + (w'.2.1 - w1.2.1) = R.slots := by omega
  have hp : PreS s H (xPc G As w) As := ⟨xPc.blind, fun U hU hW => ⟨rfl, c9.warm hW, by rw [hU]; exact r.moved hW.alike⟩⟩
  have hR : (xrm dc w w1).frames + 1 ≤ R.frames ∧ 8 + (kc.2.2.1 + 11) + (xrm dc w w1).locals ≤ R.locals := by
    have hm : kc.2.2.1 ≤ 23 := by
      rcases hk with hk | hk
      · exact hk.1.2.2.2.2.1
      · exact hk.1.2.2.2.2.1
    show dc + 1 ≤ _ ∧ 8 + (kc.2.2.1 + 11) + 42 * dc ≤ _
    omega
  refine xRun (G := G) (w1 := w1) (v := v) (mc := w1.1 - w.1) (ms := w1.2.1 - w.2.1) (rest := rest) (a := As.toArray) ?_ hL (fun H1 locs1 r1 hL1 => h3 p e R s m args below meth c H1 locs1 _ _ ls C' r1 hl hL1 hcc hss)
  rcases hk with ⟨hk, hk1, hk2⟩ | ⟨hk, ⟨host, hk1⟩, hk2⟩
  · have hM := hV1.met hk.2.2.2.1 hls
    exact va_runS ⟨c1, c2, c3, c7, c8⟩ hM ⟨callB_of n c8 hk.good rfl rfl rfl (c8 _ hk.1) (c8 _ hk1) hk.2.2.1 hR, c8 _ hk2⟩ hp rfl hn hl.1 rfl (lv_room hr) hd ⟨by omega, by omega⟩
  · have hM := hV1.met hk.2.2.2.1 hls
    exact va_runSN ⟨c1, c2, c3, c7, c8⟩ hM ⟨va_cnB n c8 hk.good rfl rfl rfl (c9.2 _ hk1).2 (c8 _ hk.1) hk.2.2.1 hR, c8 _ hk2, trivial⟩ hp rfl hn hl.1 rfl (lv_room hr) hd ⟨by omega, by omega⟩
theorem x_callI {idx n b : Nat} (As rest : List Value) (hS : st = As.reverse ++ .ref b :: rest) (hd : decode k.2.1 pc = .ok (.invokespecial idx, 3)) (hk : xLI G k.1.cls idx kc n ∨ xLIN G k.1.cls idx kc n) (hn : As.length = n) (hr : (rest.map fun v => v.category).sum ≤ 8) (hls : (lg_sl (.ref b :: As)).length ≤ kc.2.2.1) (hdd : dc + 1 ≤ d) (hc : xE G dc kc 0 (lv_args 0 (.ref b :: As)) [] w Pc) (kk : ∀ v w1, Pc v w1 → xE G d k (pc + 3) lc (v.toList ++ rest) w1 P) : xE G d k pc lc st w P := by
  subst hS
  obtain ⟨v, w1, hP1, hV1⟩ := hc
  obtain ⟨v', w', hP', h1, h2, h3⟩ := kk v w1 hP1
  have g1 := hV1.1
  have g2 := hV1.2.1
  refine ⟨v', w', hP', by omega, by omega, fun p e R s m args below meth c H locs cells slots ls C r hl hL hc hs => ?_⟩
  have C' := C
  obtain ⟨c1, c2, c3, c4, c5, c6, c7, c8, c9, c10, c11⟩ := C
  have hcc : cells + (w1.1 - w.1) + (w'.1 - w1.1) = R.cells := by omega
  have hss : slots + (w1.2.1 - w.2.1) + (w'.2.1 - w1.2.1) = R.slots := by omega
  have hp : PreS s H (xPc G (.ref b :: As) w) (.ref b :: As) := ⟨xPc.blind, fun U hU hW => ⟨rfl, c9.warm hW, by rw [hU]; exact r.moved hW.alike⟩⟩
  have hR : (xrm dc w w1).frames + 1 ≤ R.frames ∧ 8 + (kc.2.2.1 + 11) + (xrm dc w w1).locals ≤ R.locals := by
    have hm : kc.2.2.1 ≤ 23 := by
      rcases hk with hk | hk
      · exact hk.1.2.2.2.2.1
      · exact hk.1.2.2.2.2.1
    show dc + 1 ≤ _ ∧ 8 + (kc.2.2.1 + 11) + 42 * dc ≤ _
    omega
  refine xRun (G := G) (w1 := w1) (v := v) (mc := w1.1 - w.1) (ms := w1.2.1 - w.2.1) (rest := rest) (a := (Value.ref b :: As).toArray) ?_ hL (fun H1 locs1 r1 hL1 => h3 p e R s m args below meth c H1 locs1 _ _ ls C' r1 hl hL1 hcc hss)
  rcases hk with ⟨hk, hk1, hk2, hk3, hk4⟩ | ⟨hk, ⟨host, hk1⟩, hk2, hk3, hk4⟩
  · have hM := hV1.met hk.2.2.2.1 hls
    have hcb := callB_of (R := R) n c8 hk.good rfl rfl rfl (c8 _ hk.1) (c8 _ hk1) hk.2.2.1 hR
    rw [hk4] at hcb hM
    exact va_runI ⟨c1, c2, c3, c7, c8⟩ hM ⟨hcb, hk3, c8 _ hk2⟩ hp rfl hn hl.1 rfl (lv_room hr) hd ⟨by omega, by omega⟩
  · have hM := hV1.met hk.2.2.2.1 hls
    have hcb := va_cnB (R := R) n c8 hk.good rfl rfl rfl (c9.2 _ hk1).2 (c8 _ hk.1) hk.2.2.1 hR
    rw [hk4] at hcb hM
    exact va_runIN ⟨c1, c2, c3, c7, c8⟩ hM ⟨hcb, hk3, c8 _ hk2⟩ hp rfl hn hl.1 rfl (lv_room hr) hd ⟨by omega, by omega⟩
theorem x_callV {idx n b ci : Nat} {r0 : vw_C} {fs : List Value} (As rest : List Value) (hS : st = As.reverse ++ .ref b :: rest) (hd : decode k.2.1 pc = .ok (.invokevirtual idx, 3)) (hb : w.2.2 b = some (.inr (ci, fs))) (hci : (xcl G)[ci]? = some r0) (hk : xLV G k.1.cls r0.1 idx kc n ∨ xLVN G k.1.cls r0.1 idx kc n) (hn : As.length = n) (hr : (rest.map fun v => v.category).sum ≤ 8) (hls : (lg_sl (.ref b :: As)).length ≤ kc.2.2.1) (hdd : dc + 1 ≤ d) (hc : xE G dc kc 0 (lv_args 0 (.ref b :: As)) [] w Pc) (kk : ∀ v w1, Pc v w1 → xE G d k (pc + 3) lc (v.toList ++ rest) w1 P) : xE G d k pc lc st w P := by
  subst hS
  obtain ⟨v, w1, hP1, hV1⟩ := hc
  obtain ⟨v', w', hP', h1, h2, h3⟩ := kk v w1 hP1
  have g1 := hV1.1
  have g2 := hV1.2.1
  refine ⟨v', w', hP', by omega, by omega, fun p e R s m args below meth c H locs cells slots ls C r hl hL hc hs => ?_⟩
  have C' := C
  obtain ⟨c1, c2, c3, c4, c5, c6, c7, c8, c9, c10, c11⟩ := C
  have hcc : cells + (w1.1 - w.1) + (w'.1 - w1.1) = R.cells := by omega
  have hss : slots + (w1.2.1 - w.2.1) + (w'.2.1 - w1.2.1) = R.slots := by omega
  have hp : PreV s H r0.1 b (xPc G (.ref b :: As) w) As := ⟨xPc.blind, va_recv c9.1 (r.one hb) hci (q0 := 0) rfl, fun U hU hW => ⟨rfl, c9.warm hW, by rw [hU]; exact r.moved hW.alike⟩⟩
  have hR : (xrm dc w w1).frames + 1 ≤ R.frames ∧ 8 + (kc.2.2.1 + 11) + (xrm dc w w1).locals ≤ R.locals := by
    have hm : kc.2.2.1 ≤ 23 := by
      rcases hk with hk | hk
      · exact hk.1.2.2.2.2.1
      · exact hk.1.2.2.2.2.1
    show dc + 1 ≤ _ ∧ 8 + (kc.2.2.1 + 11) + 42 * dc ≤ _
    omega
  refine xRun (G := G) (w1 := w1) (v := v) (mc := w1.1 - w.1) (ms := w1.2.1 - w.2.1) (rest := rest) (a := (Value.ref b :: As).toArray) ?_ hL (fun H1 locs1 r1 hL1 => h3 p e R s m args below meth c H1 locs1 _ _ ls C' r1 hl hL1 hcc hss)
  rcases hk with ⟨hk, hk1, hk2, hk3⟩ | ⟨hk, ⟨host, hk1⟩, hk2, hk3⟩
  · have hM := hV1.met hk.2.2.2.1 hls
    exact va_runV ⟨c1, c2, c3, c7, c8⟩ hM ⟨callB_of n c8 hk.good rfl rfl rfl (c8 _ hk.1) (c8 _ hk1) hk.2.2.1 hR, c8 _ hk2, c8 _ hk3⟩ hp rfl hn hl.1 rfl (lv_room hr) hd ⟨by omega, by omega⟩
  · have hM := hV1.met hk.2.2.2.1 hls
    exact va_runVN ⟨c1, c2, c3, c7, c8⟩ hM ⟨va_cnB n c8 hk.good rfl rfl rfl (c9.2 _ hk1).2 (c8 _ hk.1) hk.2.2.1 hR, c8 _ hk2, c8 _ hk3⟩ hp rfl hn hl.1 rfl (lv_room hr) hd ⟨by omega, by omega⟩
end XCL
end
