section
/-! THE CORE: a judgement 'xE' over the machine that hides the machine's context, the cells written and the room; the world is ONE map from addresses to cells, so that no frame is cut out or joined. -/
abbrev xM : Type := MethodName × ByteArray × Nat × Option FieldType
abbrev xW : Type := Nat × Nat × (Nat → Option va_E)
/-- fixed in the whole run: launch, base (cells below it are never written), classes' numbers and slots, classes, array classes, words, nest words, what holds of the cells below the base -/
abbrev xG : Type := Launch × Nat × va_G × List vw_C × List (ClassId × FieldType) × List Cond × List Cond × (State → Heap → Prop)
abbrev xl (G : xG) : Launch := G.1
abbrev xb (G : xG) : Nat := G.2.1
abbrev xD (G : xG) : va_G := G.2.2.1
abbrev xcl (G : xG) : List vw_C := G.2.2.2.1
abbrev xty (G : xG) : List (ClassId × FieldType) := G.2.2.2.2.1
abbrev xws (G : xG) : List Cond := G.2.2.2.2.2.1
abbrev xnw (G : xG) : List Cond := G.2.2.2.2.2.2.1
abbrev xz (G : xG) : State → Heap → Prop := G.2.2.2.2.2.2.2
def xnest : Cond → Bool
  | .fieldLinkNest .. => true
  | .methodLinkNest .. => true
  | .castable .. => true
  | .arrayOver (.object _) => true
  | _ => false
theorem xnest_warm {w : Cond} {s U : State} (hn : xnest w = true) (hW : s.WarmedH U.vm) (h : va_Nw w s) : va_Nw w U := by
  cases w
  case fieldLinkNest => exact va_Nw.warmF hW h
  case methodLinkNest => exact va_Nw.warmM hW h
  case castable => exact va_Nw.warmC hW h
  case arrayOver ty =>
    cases ty
    case object C => exact va_AO.moved hW.alike h
    all_goals simp [xnest] at hn
  all_goals simp [xnest] at hn
def xK (G : xG) (U : State) : Prop := va_K (xD G) (xcl G) (xty G) U ∧ ∀ w ∈ xnw G, xnest w = true ∧ va_Nw w U
theorem xK.warm {G : xG} {s U : State} (h : xK G s) (hW : s.WarmedH U.vm) : xK G U :=
  ⟨va_K.moved hW.alike h.1, fun w hw => ⟨(h.2 w hw).1, xnest_warm (h.2 w hw).1 hW (h.2 w hw).2⟩⟩
/-- the world w is what the heap H holds -/
def xR (G : xG) (w : xW) (U : State) (H : Heap) : Prop :=
  H.size = w.1 ∧ xb G ≤ w.1 ∧ (∀ (a : Nat) (e : va_E), w.2.2 a = some e → xb G ≤ a ∧ va_at (xD G) (xcl G) (a, e) H) ∧ xz G U H ∧
  (∀ (U : State) (H H1 : Heap), xz G U H → (∀ a : Nat, a < xb G → H1[a]? = H[a]?) → xz G U H1) ∧ (∀ (u U : State) (H : Heap), u.vm.Alike U.vm → xz G u H → xz G U H)
theorem xR.moved {G : xG} {w : xW} {u U : State} {H : Heap} (hvm : u.vm.Alike U.vm) (h : xR G w u H) : xR G w U H :=
  ⟨h.1, h.2.1, h.2.2.1, h.2.2.2.2.2 u U H hvm h.2.2.2.1, h.2.2.2.2⟩
def xset (w : xW) (a : Nat) (e : va_E) : xW := (w.1, w.2.1, va_up w.2.2 a (some e))
def xnew (w : xW) (n : Nat) (e : va_E) : xW := (w.1 + 1, w.2.1 + n, va_up w.2.2 w.1 (some e))
theorem xR.set {G : xG} {w : xW} {U : State} {H H1 : Heap} {a : Nat} {e0 e : va_E} (h : xR G w U H) (ha : w.2.2 a = some e0) (he : va_at (xD G) (xcl G) (a, e) H1) (z : H1.size = H.size) (oq : ∀ q : Nat, q ≠ a → H1[q]? = H[q]?) : xR G (xset w a e) U H1 := by
  obtain ⟨h1, h2, h3, h4, h5, h6⟩ := h
  have hb := (h3 a e0 ha).1
  refine ⟨z.trans h1, h2, fun q x hx => ?_, h5 U H H1 h4 (fun q hq => oq q (by omega)), h5, h6⟩
  by_cases hq : q = a
  · subst hq
    have hx' : some e = some x := by
      have := hx
      simpa [xset, va_up] using this
    cases hx'
    exact ⟨hb, he⟩
  · have hx' : w.2.2 q = some x := by simpa [xset, va_up, hq] using hx
    exact ⟨(h3 q x hx').1, (h3 q x hx').2.kept (oq q hq)⟩
theorem xR.push {G : xG} {w : xW} {U : State} {H H1 : Heap} {n : Nat} {e : va_E} (h : xR G w U H) (he : va_at (xD G) (xcl G) (H.size, e) H1) (z : H1.size = H.size + 1) (oq : ∀ q : Nat, q < H.size → H1[q]? = H[q]?) : xR G (xnew w n e) U H1 := by
  obtain ⟨h1, h2, h3, h4, h5, h6⟩ := h
  refine ⟨by rw [z, h1]; rfl, Nat.le_succ_of_le h2, fun q x hx => ?_, h5 U H H1 h4 (fun q hq => oq q (by omega)), h5, h6⟩
  by_cases hq : q = w.1
  · subst hq
    have hx' : some e = some x := by
      have := hx
      simpa [xnew, va_up] using this
    cases hx'
    exact ⟨h2, by rw [← h1]; exact he⟩
  · have hx' : w.2.2 q = some x := by simpa [xnew, va_up, hq] using hx
    exact ⟨(h3 q x hx').1, (h3 q x hx').2.kept (oq q (h3 q x hx').2.lt)⟩
theorem xR.one {G : xG} {w : xW} {U : State} {H : Heap} {a : Nat} {e : va_E} (h : xR G w U H) (ha : w.2.2 a = some e) : va_P (xD G) (xcl G) [(a, e)] H := by
  intro k q hk
  cases k with
  | zero =>
    simp at hk
    subst hk
    exact (h.2.2.1 a e ha).2
  | succ k => simp at hk
/-- what is known inside a method's body -/
def xC (G : xG) (d : Nat) (k : xM) (p : Program) (R : Room) (s : State) (m : MethodId) (args : Array Value) (meth : Method) (c : Code) : Prop :=
  p.tables.exec = Jvm.exec ∧ c.code = k.2.1 ∧ c.maxLocals = k.2.2.1 ∧ meth.sig.returnType = k.2.2.2 ∧ meth.locks = false ∧ meth.name = k.1.name ∧ s.vm.findClass k.1.cls = some m.cls ∧ (∀ w ∈ xws G, w.before args s = true) ∧ xK G s ∧ d ≤ R.frames ∧ 42 * d ≤ R.locals
def xQ (G : xG) (v : Option Value) (w' : xW) : Array Value → State → Outcome → State → Prop := fun _ _ oc t => oc = .returned v ∧ xR G w' t t.heap
/-- from pc, with locals lc, stack st, world w, method k ends: it returns v, and the world is w' -/
def xV (G : xG) (d : Nat) (k : xM) (pc : Nat) (lc : List (Nat × Value)) (st : List Value) (w : xW) (v : Option Value) (w' : xW) : Prop :=
  w.1 ≤ w'.1 ∧ w.2.1 ≤ w'.2.1 ∧ ∀ (p : Program) (e : Env) (R : Room) (s : State) (m : MethodId) (args : Array Value) (below : List Frame) (meth : Method) (c : Code) (H : Heap) (locs : List Loc) (cells slots : Nat) (ls : Array Slot),
    xC G d k p R s m args meth c → xR G w s H → lv_has ls k.2.2.1 lc → (∀ q ∈ locs, xb G ≤ q.base) → cells + (w'.1 - w.1) = R.cells → slots + (w'.2.1 - w.2.1) = R.slots →
    W p (xl G) e R s m args below meth c H locs cells slots (MQ below (xQ G v w') args s R.cells R.slots (fun q => xb G ≤ q)) (F0 m pc ls st)
def xE (G : xG) (d : Nat) (k : xM) (pc : Nat) (lc : List (Nat × Value)) (st : List Value) (w : xW) (P : Option Value → xW → Prop) : Prop :=
  ∃ (v : Option Value) (w' : xW), P v w' ∧ xV G d k pc lc st w v w'
theorem xE.mono {G : xG} {d d' : Nat} {k : xM} {pc : Nat} {lc : List (Nat × Value)} {st : List Value} {w : xW} {P Q : Option Value → xW → Prop} (h : xE G d k pc lc st w P) (hd : d ≤ d') (hPQ : ∀ v w', P v w' → Q v w') : xE G d' k pc lc st w Q := by
  obtain ⟨v, w', hP, h1, h2, h3⟩ := h
  refine ⟨v, w', hPQ v w' hP, h1, h2, fun p e R s m args below meth c H locs cells slots ls C => h3 p e R s m args below meth c H locs cells slots ls ?_⟩
  obtain ⟨c1, c2, c3, c4, c5, c6, c7, c8, c9, c10, c11⟩ := C
  exact ⟨c1, c2, c3, c4, c5, c6, c7, c8, c9, by omega, by omega⟩
section XS
variable {G : xG} {d : Nat} {k : xM} {pc pc' : Nat} {lc lc' : List (Nat × Value)} {st st' : List Value} {w : xW} {P : Option Value → xW → Prop}
theorem xE.s1 (h : xE G d k pc' lc st' w P)
    (row : ∀ (p : Program) (e : Env) (R : Room) (s : State) (m : MethodId) (args : Array Value) (below : List Frame) (meth : Method) (c : Code) (H : Heap) (locs : List Loc) (cells slots : Nat) (ls : Array Slot) (Q : State → Prop),
      xC G d k p R s m args meth c → xR G w s H → lv_has ls k.2.2.1 lc → W p (xl G) e R s m args below meth c H locs cells slots Q (F0 m pc' ls st') → W p (xl G) e R s m args below meth c H locs cells slots Q (F0 m pc ls st)) : xE G d k pc lc st w P := by
  obtain ⟨v, w', hP, h1, h2, h3⟩ := h
  exact ⟨v, w', hP, h1, h2, fun p e R s m args below meth c H locs cells slots ls C r hl hL hc hs => row p e R s m args below meth c H locs cells slots ls _ C r hl (h3 p e R s m args below meth c H locs cells slots ls C r hl hL hc hs)⟩
theorem xE.s2 (h : xE G d k pc' lc' st' w P)
    (row : ∀ (p : Program) (e : Env) (R : Room) (s : State) (m : MethodId) (args : Array Value) (below : List Frame) (meth : Method) (c : Code) (H : Heap) (locs : List Loc) (cells slots : Nat) (ls : Array Slot) (Q : State → Prop),
      xC G d k p R s m args meth c → xR G w s H → lv_has ls k.2.2.1 lc → (∀ ls' : Array Slot, lv_has ls' k.2.2.1 lc' → W p (xl G) e R s m args below meth c H locs cells slots Q (F0 m pc' ls' st')) → W p (xl G) e R s m args below meth c H locs cells slots Q (F0 m pc ls st)) : xE G d k pc lc st w P := by
  obtain ⟨v, w', hP, h1, h2, h3⟩ := h
  exact ⟨v, w', hP, h1, h2, fun p e R s m args below meth c H locs cells slots ls C r hl hL hc hs => row p e R s m args below meth c H locs cells slots ls _ C r hl (fun ls' hl' => h3 p e R s m args below meth c H locs cells slots ls' C r hl' hL hc hs)⟩
theorem xE.s3 {a : Nat} {e0 e1 : va_E} (ha : w.2.2 a = some e0) (h : xE G d k pc' lc st' (xset w a e1) P)
    (row : ∀ (p : Program) (e : Env) (R : Room) (s : State) (m : MethodId) (args : Array Value) (below : List Frame) (meth : Method) (c : Code) (H : Heap) (locs : List Loc) (cells slots : Nat) (ls : Array Slot) (Q : State → Prop),
      xC G d k p R s m args meth c → xR G w s H → lv_has ls k.2.2.1 lc →
      (∀ (H1 : Heap) (i : Nat), va_at (xD G) (xcl G) (a, e1) H1 → H1.size = H.size → (∀ q : Nat, q ≠ a → H1[q]? = H[q]?) → W p (xl G) e R s m args below meth c H1 (locs ++ [⟨a, i⟩]) cells slots Q (F0 m pc' ls st')) →
      W p (xl G) e R s m args below meth c H locs cells slots Q (F0 m pc ls st)) : xE G d k pc lc st w P := by
  obtain ⟨v, w', hP, h1, h2, h3⟩ := h
  refine ⟨v, w', hP, h1, h2, fun p e R s m args below meth c H locs cells slots ls C r hl hL hc hs => row p e R s m args below meth c H locs cells slots ls _ C r hl (fun H1 i hat z oq => h3 p e R s m args below meth c H1 (locs ++ [⟨a, i⟩]) cells slots ls C (r.set ha hat z oq) hl (fun q hq => ?_) hc hs)⟩
  rcases List.mem_append.mp hq with h | h
  · exact hL q h
  · rw [List.mem_singleton.mp h]
    exact (r.2.2.1 a e0 ha).1
theorem xE.s4 {n : Nat} {e1 : va_E} (h : xE G d k pc' lc st' (xnew w n e1) P)
    (row : ∀ (p : Program) (e : Env) (R : Room) (s : State) (m : MethodId) (args : Array Value) (below : List Frame) (meth : Method) (c : Code) (H : Heap) (locs : List Loc) (cells slots : Nat) (ls : Array Slot) (Q : State → Prop),
      xC G d k p R s m args meth c → xR G w s H → lv_has ls k.2.2.1 lc → cells + 1 ≤ R.cells → slots + n ≤ R.slots →
      (∀ (H1 : Heap), va_at (xD G) (xcl G) (H.size, e1) H1 → H1.size = H.size + 1 → (∀ q : Nat, q < H.size → H1[q]? = H[q]?) → W p (xl G) e R s m args below meth c H1 locs (cells + 1) (slots + n) Q (F0 m pc' ls st')) →
      W p (xl G) e R s m args below meth c H locs cells slots Q (F0 m pc ls st)) : xE G d k pc lc st w P := by
  obtain ⟨v, w', hP, h1, h2, h3⟩ := h
  have h1' : w.1 + 1 ≤ w'.1 := h1
  have h2' : w.2.1 + n ≤ w'.2.1 := h2
  refine ⟨v, w', hP, by omega, by omega, fun p e R s m args below meth c H locs cells slots ls C r hl hL hc hs => row p e R s m args below meth c H locs cells slots ls _ C r hl (by omega) (by omega) (fun H1 hat z oq => h3 p e R s m args below meth c H1 locs (cells + 1) (slots + n) ls C (r.push hat z oq) hl hL ?_ ?_)⟩
  · show cells + 1 + (w'.1 - (w.1 + 1)) = _
    omega
  · show slots + n + (w'.2.1 - (w.2.1 + n)) = _
    omega
end XS
end
section
/-! THE ROWS: one for each kind of instruction -/
def xlk (lc : List (Nat × Value)) (i : Nat) : Option Value := (lc.find? (fun q => q.1 == i)).map (fun q => q.2)
theorem xlk_mem {lc : List (Nat × Value)} {i : Nat} {v : Value} (h : xlk lc i = some v) : (i, v) ∈ lc := by
  unfold xlk at h
  cases hf : lc.find? (fun q => q.1 == i) with
  | none => rw [hf] at h; cases h
  | some q =>
    rw [hf] at h
    cases h
    have h1 := List.find?_some hf
    have h2 := List.mem_of_find?_eq_some hf
    have h3 : q.1 = i := by simpa using h1
    subst h3
    exact h2
theorem xlk_at {ls : Array Slot} {n : Nat} {lc : List (Nat × Value)} {i : Nat} {v : Value} (hl : lv_has ls n lc) (h : xlk lc i = some v) : ls[i]? = some (.val v) := hl.2.2 (i, v) (xlk_mem h)
def xst (lc : List (Nat × Value)) (i : Nat) (v : Value) : List (Nat × Value) := (i, v) :: lc.filter (fun q => !(q.1 == i) && !(q.1 + 1 == i && q.2.category == 2))
section XR
variable {G : xG} {d : Nat} {k : xM} {pc : Nat} {lc : List (Nat × Value)} {st : List Value} {w : xW} {P : Option Value → xW → Prop}
/-- the same place, written otherwise -/
theorem xE.at {pc' : Nat} {lc' : List (Nat × Value)} {st' : List Value} {w' : xW} (h : xE G d k pc' lc' st' w' P) (h1 : pc = pc' := by rfl) (h2 : lc = lc' := by rfl) (h3 : st = st' := by rfl) (h4 : w = w' := by rfl) : xE G d k pc lc st w P := by
  subst h1; subst h2; subst h3; subst h4; exact h
/-- fewer locals -/
theorem xE.few {lc' : List (Nat × Value)} (h : xE G d k pc lc' st w P) (hs : ∀ q ∈ lc', q ∈ lc) : xE G d k pc lc st w P := by
  obtain ⟨v, w', hP, h1, h2, h3⟩ := h
  exact ⟨v, w', hP, h1, h2, fun p e R s m args below meth c H locs cells slots ls C r hl hL hc hs' => h3 p e R s m args below meth c H locs cells slots ls C r ⟨hl.1, hl.2.1, fun q hq => hl.2.2 q (hs q hq)⟩ hL hc hs'⟩
theorem x_iadd {x y : Int32} (q : Nat) (hq : pc + 1 = q) (hd : decode k.2.1 pc = .ok (.iadd, 1))  (h : xE G d k q lc (.int (x + y) :: st) w P) : xE G d k pc lc (.int y :: .int x :: st) w P := by
  subst hq
  exact h.s1 (fun _ _ _ _ _ _ _ _ _ _ _ _ _ _ _ C _ hl kk => lv_iadd C.1 C.2.1 hd kk)
theorem x_isub {x y : Int32} (q : Nat) (hq : pc + 1 = q) (hd : decode k.2.1 pc = .ok (.isub, 1))  (h : xE G d k q lc (.int (x - y) :: st) w P) : xE G d k pc lc (.int y :: .int x :: st) w P := by
  subst hq
  exact h.s1 (fun _ _ _ _ _ _ _ _ _ _ _ _ _ _ _ C _ hl kk => lv_isub C.1 C.2.1 hd kk)
theorem x_imul {x y : Int32} (q : Nat) (hq : pc + 1 = q) (hd : decode k.2.1 pc = .ok (.imul, 1))  (h : xE G d k q lc (.int (x * y) :: st) w P) : xE G d k pc lc (.int y :: .int x :: st) w P := by
  subst hq
  exact h.s1 (fun _ _ _ _ _ _ _ _ _ _ _ _ _ _ _ C _ hl kk => lv_imul C.1 C.2.1 hd kk)
theorem x_iand {x y : Int32} (q : Nat) (hq : pc + 1 = q) (hd : decode k.2.1 pc = .ok (.iand, 1))  (h : xE G d k q lc (.int (x &&& y) :: st) w P) : xE G d k pc lc (.int y :: .int x :: st) w P := by
  subst hq
  exact h.s1 (fun _ _ _ _ _ _ _ _ _ _ _ _ _ _ _ C _ hl kk => lv_iand C.1 C.2.1 hd kk)
theorem x_ior {x y : Int32} (q : Nat) (hq : pc + 1 = q) (hd : decode k.2.1 pc = .ok (.ior, 1))  (h : xE G d k q lc (.int (x ||| y) :: st) w P) : xE G d k pc lc (.int y :: .int x :: st) w P := by
  subst hq
  exact h.s1 (fun _ _ _ _ _ _ _ _ _ _ _ _ _ _ _ C _ hl kk => lv_ior C.1 C.2.1 hd kk)
theorem x_ixor {x y : Int32} (q : Nat) (hq : pc + 1 = q) (hd : decode k.2.1 pc = .ok (.ixor, 1))  (h : xE G d k q lc (.int (x ^^^ y) :: st) w P) : xE G d k pc lc (.int y :: .int x :: st) w P := by
  subst hq
  exact h.s1 (fun _ _ _ _ _ _ _ _ _ _ _ _ _ _ _ C _ hl kk => lv_ixor C.1 C.2.1 hd kk)
theorem x_ishl {x y : Int32} (q : Nat) (hq : pc + 1 = q) (hd : decode k.2.1 pc = .ok (.ishl, 1))  (h : xE G d k q lc (.int (x <<< (y &&& 31)) :: st) w P) : xE G d k pc lc (.int y :: .int x :: st) w P := by
  subst hq
  exact h.s1 (fun _ _ _ _ _ _ _ _ _ _ _ _ _ _ _ C _ hl kk => lv_ishl C.1 C.2.1 hd kk)
theorem x_ishr {x y : Int32} (q : Nat) (hq : pc + 1 = q) (hd : decode k.2.1 pc = .ok (.ishr, 1))  (h : xE G d k q lc (.int (x >>> (y &&& 31)) :: st) w P) : xE G d k pc lc (.int y :: .int x :: st) w P := by
  subst hq
  exact h.s1 (fun _ _ _ _ _ _ _ _ _ _ _ _ _ _ _ C _ hl kk => lv_ishr C.1 C.2.1 hd kk)
theorem x_iushr {x y : Int32} (q : Nat) (hq : pc + 1 = q) (hd : decode k.2.1 pc = .ok (.iushr, 1))  (h : xE G d k q lc (.int (x.toUInt32 >>> (y.toUInt32 &&& Int32.toUInt32 31)).toInt32 :: st) w P) : xE G d k pc lc (.int y :: .int x :: st) w P := by
  subst hq
  exact h.s1 (fun _ _ _ _ _ _ _ _ _ _ _ _ _ _ _ C _ hl kk => lv_iushr C.1 C.2.1 hd rfl kk)
theorem x_ineg {x : Int32} (q : Nat) (hq : pc + 1 = q) (hd : decode k.2.1 pc = .ok (.ineg, 1))  (h : xE G d k q lc (.int (-x) :: st) w P) : xE G d k pc lc (.int x :: st) w P := by
  subst hq
  exact h.s1 (fun _ _ _ _ _ _ _ _ _ _ _ _ _ _ _ C _ hl kk => lv_ineg C.1 C.2.1 hd kk)
theorem x_idiv {x y : Int32} (q : Nat) (hq : pc + 1 = q) (hd : decode k.2.1 pc = .ok (.idiv, 1)) (hne : ¬ y = 0) (h : xE G d k q lc (.int (x / y) :: st) w P) : xE G d k pc lc (.int y :: .int x :: st) w P := by
  subst hq
  exact h.s1 (fun _ _ _ _ _ _ _ _ _ _ _ _ _ _ _ C _ hl kk => lv_idiv C.1 C.2.1 hd hne kk)
theorem x_irem {x y : Int32} (q : Nat) (hq : pc + 1 = q) (hd : decode k.2.1 pc = .ok (.irem, 1)) (hne : ¬ y = 0) (h : xE G d k q lc (.int (x - x / y * y) :: st) w P) : xE G d k pc lc (.int y :: .int x :: st) w P := by
  subst hq
  exact h.s1 (fun _ _ _ _ _ _ _ _ _ _ _ _ _ _ _ C _ hl kk => lv_irem C.1 C.2.1 hd hne kk)
theorem x_ladd {x y : Int64} (q : Nat) (hq : pc + 1 = q) (hd : decode k.2.1 pc = .ok (.ladd, 1))  (h : xE G d k q lc (.long (x + y) :: st) w P) : xE G d k pc lc (.long y :: .long x :: st) w P := by
  subst hq
  exact h.s1 (fun _ _ _ _ _ _ _ _ _ _ _ _ _ _ _ C _ hl kk => lv_ladd C.1 C.2.1 hd kk)
theorem x_lsub {x y : Int64} (q : Nat) (hq : pc + 1 = q) (hd : decode k.2.1 pc = .ok (.lsub, 1))  (h : xE G d k q lc (.long (x - y) :: st) w P) : xE G d k pc lc (.long y :: .long x :: st) w P := by
  subst hq
  exact h.s1 (fun _ _ _ _ _ _ _ _ _ _ _ _ _ _ _ C _ hl kk => lv_lsub C.1 C.2.1 hd kk)
theorem x_lmul {x y : Int64} (q : Nat) (hq : pc + 1 = q) (hd : decode k.2.1 pc = .ok (.lmul, 1))  (h : xE G d k q lc (.long (x * y) :: st) w P) : xE G d k pc lc (.long y :: .long x :: st) w P := by
  subst hq
  exact h.s1 (fun _ _ _ _ _ _ _ _ _ _ _ _ _ _ _ C _ hl kk => lv_lmul C.1 C.2.1 hd kk)
theorem x_land {x y : Int64} (q : Nat) (hq : pc + 1 = q) (hd : decode k.2.1 pc = .ok (.land, 1))  (h : xE G d k q lc (.long (x &&& y) :: st) w P) : xE G d k pc lc (.long y :: .long x :: st) w P := by
  subst hq
  exact h.s1 (fun _ _ _ _ _ _ _ _ _ _ _ _ _ _ _ C _ hl kk => lv_land C.1 C.2.1 hd kk)
theorem x_lor {x y : Int64} (q : Nat) (hq : pc + 1 = q) (hd : decode k.2.1 pc = .ok (.lor, 1))  (h : xE G d k q lc (.long (x ||| y) :: st) w P) : xE G d k pc lc (.long y :: .long x :: st) w P := by
  subst hq
  exact h.s1 (fun _ _ _ _ _ _ _ _ _ _ _ _ _ _ _ C _ hl kk => lv_lor C.1 C.2.1 hd kk)
theorem x_lxor {x y : Int64} (q : Nat) (hq : pc + 1 = q) (hd : decode k.2.1 pc = .ok (.lxor, 1))  (h : xE G d k q lc (.long (x ^^^ y) :: st) w P) : xE G d k pc lc (.long y :: .long x :: st) w P := by
  subst hq
  exact h.s1 (fun _ _ _ _ _ _ _ _ _ _ _ _ _ _ _ C _ hl kk => lv_lxor C.1 C.2.1 hd kk)
theorem x_ldiv {x y : Int64} (q : Nat) (hq : pc + 1 = q) (hd : decode k.2.1 pc = .ok (.ldiv, 1)) (hne : ¬ y = 0) (h : xE G d k q lc (.long (x / y) :: st) w P) : xE G d k pc lc (.long y :: .long x :: st) w P := by
  subst hq
  exact h.s1 (fun _ _ _ _ _ _ _ _ _ _ _ _ _ _ _ C _ hl kk => lv_ldiv C.1 C.2.1 hd hne kk)
theorem x_lrem {x y : Int64} (q : Nat) (hq : pc + 1 = q) (hd : decode k.2.1 pc = .ok (.lrem, 1)) (hne : ¬ y = 0) (h : xE G d k q lc (.long (x - x / y * y) :: st) w P) : xE G d k pc lc (.long y :: .long x :: st) w P := by
  subst hq
  exact h.s1 (fun _ _ _ _ _ _ _ _ _ _ _ _ _ _ _ C _ hl kk => lv_lrem C.1 C.2.1 hd hne kk)
theorem x_i2l {x : Int32} (q : Nat) (hq : pc + 1 = q) (hd : decode k.2.1 pc = .ok (.i2l, 1))  (h : xE G d k q lc (.long x.toInt64 :: st) w P) : xE G d k pc lc (.int x :: st) w P := by
  subst hq
  exact h.s1 (fun _ _ _ _ _ _ _ _ _ _ _ _ _ _ _ C _ hl kk => lv_i2l C.1 C.2.1 hd rfl kk)
theorem x_l2i {x : Int64} (q : Nat) (hq : pc + 1 = q) (hd : decode k.2.1 pc = .ok (.l2i, 1))  (h : xE G d k q lc (.int x.toInt32 :: st) w P) : xE G d k pc lc (.long x :: st) w P := by
  subst hq
  exact h.s1 (fun _ _ _ _ _ _ _ _ _ _ _ _ _ _ _ C _ hl kk => lv_l2i C.1 C.2.1 hd rfl kk)
theorem x_i2b {x : Int32} (q : Nat) (hq : pc + 1 = q) (hd : decode k.2.1 pc = .ok (.i2b, 1))  (h : xE G d k q lc (.int x.toInt8.toInt32 :: st) w P) : xE G d k pc lc (.int x :: st) w P := by
  subst hq
  exact h.s1 (fun _ _ _ _ _ _ _ _ _ _ _ _ _ _ _ C _ hl kk => lv_i2b C.1 C.2.1 hd rfl kk)
theorem x_iconst {n : Int} (q : Nat) (hq : pc + 1 = q) (hd : decode k.2.1 pc = .ok (.iconst n, 1)) (v : Int32) (hv : Int32.ofInt n = v) (h : xE G d k q lc (.int v :: st) w P) : xE G d k pc lc (st) w P := by
  subst hq
  exact h.s1 (fun _ _ _ _ _ _ _ _ _ _ _ _ _ _ _ C _ hl kk => lv_iconst C.1 C.2.1 hd hv kk)
theorem x_bipush {n : Int} (q : Nat) (hq : pc + 2 = q) (hd : decode k.2.1 pc = .ok (.bipush n, 2)) (v : Int32) (hv : (Int8.ofInt n).toInt32 = v) (h : xE G d k q lc (.int v :: st) w P) : xE G d k pc lc (st) w P := by
  subst hq
  exact h.s1 (fun _ _ _ _ _ _ _ _ _ _ _ _ _ _ _ C _ hl kk => lv_bipush C.1 C.2.1 hd hv kk)
theorem x_sipush {n : Int} (q : Nat) (hq : pc + 3 = q) (hd : decode k.2.1 pc = .ok (.sipush n, 3)) (v : Int32) (hv : (Int16.ofInt n).toInt32 = v) (h : xE G d k q lc (.int v :: st) w P) : xE G d k pc lc (st) w P := by
  subst hq
  exact h.s1 (fun _ _ _ _ _ _ _ _ _ _ _ _ _ _ _ C _ hl kk => lv_sipush C.1 C.2.1 hd hv kk)
theorem x_null  (q : Nat) (hq : pc + 1 = q) (hd : decode k.2.1 pc = .ok (.aconst_null, 1))  (h : xE G d k q lc (.null :: st) w P) : xE G d k pc lc (st) w P := by
  subst hq
  exact h.s1 (fun _ _ _ _ _ _ _ _ _ _ _ _ _ _ _ C _ hl kk => lv_null C.1 C.2.1 hd kk)
theorem x_iload_n {j : Fin 4} {x : Int32} (q : Nat) (hq : pc + 1 = q) (hd : decode k.2.1 pc = .ok (.iload_n j, 1)) (hx : xlk lc (j : Nat) = some (.int x)) (h : xE G d k q lc (.int x :: st) w P) : xE G d k pc lc (st) w P := by
  subst hq
  exact h.s1 (fun _ _ _ _ _ _ _ _ _ _ _ _ _ _ _ C _ hl kk => lv_iload_n C.1 C.2.1 hd rfl (xlk_at hl hx) kk)
theorem x_iload {j : Nat} {x : Int32} (q : Nat) (hq : pc + 2 = q) (hd : decode k.2.1 pc = .ok (.iload j, 2)) (hx : xlk lc j = some (.int x)) (h : xE G d k q lc (.int x :: st) w P) : xE G d k pc lc (st) w P := by
  subst hq
  exact h.s1 (fun _ _ _ _ _ _ _ _ _ _ _ _ _ _ _ C _ hl kk => lv_iload C.1 C.2.1 hd (xlk_at hl hx) kk)
theorem x_aload_n {j : Fin 4} {x : Nat} (q : Nat) (hq : pc + 1 = q) (hd : decode k.2.1 pc = .ok (.aload_n j, 1)) (hx : xlk lc (j : Nat) = some (.ref x)) (h : xE G d k q lc (.ref x :: st) w P) : xE G d k pc lc (st) w P := by
  subst hq
  exact h.s1 (fun _ _ _ _ _ _ _ _ _ _ _ _ _ _ _ C _ hl kk => lv_aload_n C.1 C.2.1 hd rfl (xlk_at hl hx) kk)
theorem x_aload {j : Nat} {x : Nat} (q : Nat) (hq : pc + 2 = q) (hd : decode k.2.1 pc = .ok (.aload j, 2)) (hx : xlk lc j = some (.ref x)) (h : xE G d k q lc (.ref x :: st) w P) : xE G d k pc lc (st) w P := by
  subst hq
  exact h.s1 (fun _ _ _ _ _ _ _ _ _ _ _ _ _ _ _ C _ hl kk => lv_aload C.1 C.2.1 hd (xlk_at hl hx) kk)
theorem x_aload_nN {j : Fin 4} (q : Nat) (hq : pc + 1 = q) (hd : decode k.2.1 pc = .ok (.aload_n j, 1)) (hx : xlk lc (j : Nat) = some .null) (h : xE G d k q lc (.null :: st) w P) : xE G d k pc lc (st) w P := by
  subst hq
  exact h.s1 (fun _ _ _ _ _ _ _ _ _ _ _ _ _ _ _ C _ hl kk => lv_aload_nN C.1 C.2.1 hd rfl (xlk_at hl hx) kk)
theorem x_aloadN {j : Nat} (q : Nat) (hq : pc + 2 = q) (hd : decode k.2.1 pc = .ok (.aload j, 2)) (hx : xlk lc j = some .null) (h : xE G d k q lc (.null :: st) w P) : xE G d k pc lc (st) w P := by
  subst hq
  exact h.s1 (fun _ _ _ _ _ _ _ _ _ _ _ _ _ _ _ C _ hl kk => lv_aloadN C.1 C.2.1 hd (xlk_at hl hx) kk)
theorem x_dup {va : Value} (q : Nat) (hq : pc + 1 = q) (hd : decode k.2.1 pc = .ok (.dup, 1)) (h1 : va.category = 1) (h : xE G d k q lc (va :: va :: st) w P) : xE G d k pc lc (va :: st) w P := by
  subst hq
  exact h.s1 (fun _ _ _ _ _ _ _ _ _ _ _ _ _ _ _ C _ hl kk => lv_dup C.1 C.2.1 hd h1 kk)
theorem x_pop {va : Value} (q : Nat) (hq : pc + 1 = q) (hd : decode k.2.1 pc = .ok (.pop, 1)) (h1 : va.category = 1) (h : xE G d k q lc (st) w P) : xE G d k pc lc (va :: st) w P := by
  subst hq
  exact h.s1 (fun _ _ _ _ _ _ _ _ _ _ _ _ _ _ _ C _ hl kk => lv_pop C.1 C.2.1 hd h1 kk)
theorem x_dup_x1 {va vb : Value} (q : Nat) (hq : pc + 1 = q) (hd : decode k.2.1 pc = .ok (.dup_x1, 1)) (h1 : va.category = 1) (h2 : vb.category = 1) (h : xE G d k q lc (va :: vb :: va :: st) w P) : xE G d k pc lc (va :: vb :: st) w P := by
  subst hq
  exact h.s1 (fun _ _ _ _ _ _ _ _ _ _ _ _ _ _ _ C _ hl kk => lv_dup_x1 C.1 C.2.1 hd h1 h2 kk)
theorem x_dup_x2 {va vb vd : Value} (q : Nat) (hq : pc + 1 = q) (hd : decode k.2.1 pc = .ok (.dup_x2, 1)) (h1 : va.category = 1) (h2 : vb.category = 1) (h3 : vd.category = 1) (h : xE G d k q lc (va :: vb :: vd :: va :: st) w P) : xE G d k pc lc (va :: vb :: vd :: st) w P := by
  subst hq
  exact h.s1 (fun _ _ _ _ _ _ _ _ _ _ _ _ _ _ _ C _ hl kk => lv_dup_x2 C.1 C.2.1 hd h1 h2 h3 kk)
theorem x_dup2 {va vb : Value} (q : Nat) (hq : pc + 1 = q) (hd : decode k.2.1 pc = .ok (.dup2, 1)) (h1 : va.category = 1) (h2 : vb.category = 1) (h : xE G d k q lc (va :: vb :: va :: vb :: st) w P) : xE G d k pc lc (va :: vb :: st) w P := by
  subst hq
  exact h.s1 (fun _ _ _ _ _ _ _ _ _ _ _ _ _ _ _ C _ hl kk => lv_dup2_11 C.1 C.2.1 hd h1 h2 kk)
theorem x_goto {off : Int} (hd : decode k.2.1 pc = .ok (.goto off, 3)) (tgt : Nat) (ht : (pc : Int) + off = (tgt : Int)) (h : xE G d k (tgt) lc (st) w P) : xE G d k pc lc (st) w P := h.s1 (fun _ _ _ _ _ _ _ _ _ _ _ _ _ _ _ C _ hl kk => lv_goto C.1 C.2.1 hd ht kk)
theorem x_castN {idx : Nat} (q : Nat) (hq : pc + 3 = q) (hd : decode k.2.1 pc = .ok (.checkcast idx, 3))  (h : xE G d k q lc (.null :: st) w P) : xE G d k pc lc (.null :: st) w P := by
  subst hq
  exact h.s1 (fun _ _ _ _ _ _ _ _ _ _ _ _ _ _ _ C _ hl kk => lv_castN C.1 C.2.1 hd kk)
theorem x_ifnullN {off : Int} (hd : decode k.2.1 pc = .ok (.ifnull off, 3)) (tgt : Nat) (ht : (pc : Int) + off = (tgt : Int)) (h : xE G d k (tgt) lc (st) w P) : xE G d k pc lc (.null :: st) w P := h.s1 (fun _ _ _ _ _ _ _ _ _ _ _ _ _ _ _ C _ hl kk => lv_ifnullN C.1 C.2.1 hd ht kk)
theorem x_ifnull {off : Int} {x : Nat} (q : Nat) (hq : pc + 3 = q) (hd : decode k.2.1 pc = .ok (.ifnull off, 3))  (h : xE G d k q lc (st) w P) : xE G d k pc lc (.ref x :: st) w P := by
  subst hq
  exact h.s1 (fun _ _ _ _ _ _ _ _ _ _ _ _ _ _ _ C _ hl kk => lv_ifnull C.1 C.2.1 hd kk)
theorem x_ifnonnullN {off : Int} (q : Nat) (hq : pc + 3 = q) (hd : decode k.2.1 pc = .ok (.ifnonnull off, 3))  (h : xE G d k q lc (st) w P) : xE G d k pc lc (.null :: st) w P := by
  subst hq
  exact h.s1 (fun _ _ _ _ _ _ _ _ _ _ _ _ _ _ _ C _ hl kk => lv_ifnonnullN C.1 C.2.1 hd kk)
theorem x_ifnonnull {off : Int} {x : Nat} (hd : decode k.2.1 pc = .ok (.ifnonnull off, 3)) (tgt : Nat) (ht : (pc : Int) + off = (tgt : Int)) (h : xE G d k (tgt) lc (st) w P) : xE G d k pc lc (.ref x :: st) w P := h.s1 (fun _ _ _ _ _ _ _ _ _ _ _ _ _ _ _ C _ hl kk => lv_ifnonnull C.1 C.2.1 hd ht kk)
theorem x_istore_n {j : Fin 4} {x : Int32} (q : Nat) (hq : pc + 1 = q) (hd : decode k.2.1 pc = .ok (.istore_n j, 1)) (hn : (j : Nat) < k.2.2.1) (h : xE G d k q (xst lc (j : Nat) (.int x)) st w P) : xE G d k pc lc (.int x :: st) w P := by
  subst hq
  exact h.s2 (fun _ _ _ _ _ _ _ _ _ _ _ _ _ _ _ C _ hl kk => lv_istore_n C.1 C.2.1 hd rfl hl hn rfl kk)
theorem x_istore {j : Nat} {x : Int32} (q : Nat) (hq : pc + 2 = q) (hd : decode k.2.1 pc = .ok (.istore j, 2)) (hn : (j : Nat) < k.2.2.1) (h : xE G d k q (xst lc (j : Nat) (.int x)) st w P) : xE G d k pc lc (.int x :: st) w P := by
  subst hq
  exact h.s2 (fun _ _ _ _ _ _ _ _ _ _ _ _ _ _ _ C _ hl kk => lv_istore C.1 C.2.1 hd hl hn rfl kk)
theorem x_astore_n {j : Fin 4} {x : Nat} (q : Nat) (hq : pc + 1 = q) (hd : decode k.2.1 pc = .ok (.astore_n j, 1)) (hn : (j : Nat) < k.2.2.1) (h : xE G d k q (xst lc (j : Nat) (.ref x)) st w P) : xE G d k pc lc (.ref x :: st) w P := by
  subst hq
  exact h.s2 (fun _ _ _ _ _ _ _ _ _ _ _ _ _ _ _ C _ hl kk => lv_astore_n C.1 C.2.1 hd rfl hl hn rfl kk)
theorem x_astore {j : Nat} {x : Nat} (q : Nat) (hq : pc + 2 = q) (hd : decode k.2.1 pc = .ok (.astore j, 2)) (hn : (j : Nat) < k.2.2.1) (h : xE G d k q (xst lc (j : Nat) (.ref x)) st w P) : xE G d k pc lc (.ref x :: st) w P := by
  subst hq
  exact h.s2 (fun _ _ _ _ _ _ _ _ _ _ _ _ _ _ _ C _ hl kk => lv_astore C.1 C.2.1 hd hl hn rfl kk)
theorem x_astore_nN {j : Fin 4} (q : Nat) (hq : pc + 1 = q) (hd : decode k.2.1 pc = .ok (.astore_n j, 1)) (hn : (j : Nat) < k.2.2.1) (h : xE G d k q (xst lc (j : Nat) (.null)) st w P) : xE G d k pc lc (.null :: st) w P := by
  subst hq
  exact h.s2 (fun _ _ _ _ _ _ _ _ _ _ _ _ _ _ _ C _ hl kk => lv_astore_nN C.1 C.2.1 hd rfl hl hn rfl kk)
theorem x_astoreN {j : Nat} (q : Nat) (hq : pc + 2 = q) (hd : decode k.2.1 pc = .ok (.astore j, 2)) (hn : (j : Nat) < k.2.2.1) (h : xE G d k q (xst lc (j : Nat) (.null)) st w P) : xE G d k pc lc (.null :: st) w P := by
  subst hq
  exact h.s2 (fun _ _ _ _ _ _ _ _ _ _ _ _ _ _ _ C _ hl kk => lv_astoreN C.1 C.2.1 hd hl hn rfl kk)
theorem x_iinc {j : Nat} {n : Int} {x : Int32} (q : Nat) (hq : pc + 3 = q) (hd : decode k.2.1 pc = .ok (.iinc j n, 3)) (hx : xlk lc j = some (.int x)) (v : Int32) (hv : Int32.ofInt n = v) (hn : j < k.2.2.1) (h : xE G d k q (xst lc j (.int (x + v))) st w P) : xE G d k pc lc st w P := by
  subst hq
  subst hv
  obtain ⟨q, hq⟩ := List.getElem?_of_mem (xlk_mem hx)
  exact h.s2 (fun _ _ _ _ _ _ _ _ _ _ _ _ _ _ _ C _ hl kk => lv_iinc C.1 C.2.1 hd hl hq rfl hn rfl kk)
theorem x_if_eq {x : Int32} {off : Int} (tgt q : Nat) (hq : pc + 3 = q) (hd : decode k.2.1 pc = .ok (.ifCond .eq off, 3)) (ht : (pc : Int) + off = (tgt : Int)) (kt : x = 0 → xE G d k tgt lc st w P) (kf : ¬ x = 0 → xE G d k q lc st w P) : xE G d k pc lc (.int x :: st) w P := by
  subst hq
  by_cases hc : x = 0
  · exact (kt hc).s1 (fun _ _ _ _ _ _ _ _ _ _ _ _ _ _ _ C _ _ kk => lv_if_eq C.1 C.2.1 hd ht (fun _ => kk) (fun z => absurd hc (by first | exact z | simpa using z)))
  · exact (kf (by first | exact hc | simpa using hc)).s1 (fun _ _ _ _ _ _ _ _ _ _ _ _ _ _ _ C _ _ kk => lv_if_eq C.1 C.2.1 hd ht (fun z => absurd z hc) (fun _ => kk))
theorem x_if_ne {x : Int32} {off : Int} (tgt q : Nat) (hq : pc + 3 = q) (hd : decode k.2.1 pc = .ok (.ifCond .ne off, 3)) (ht : (pc : Int) + off = (tgt : Int)) (kt : ¬ x = 0 → xE G d k tgt lc st w P) (kf : x = 0 → xE G d k q lc st w P) : xE G d k pc lc (.int x :: st) w P := by
  subst hq
  by_cases hc : ¬ x = 0
  · exact (kt hc).s1 (fun _ _ _ _ _ _ _ _ _ _ _ _ _ _ _ C _ _ kk => lv_if_ne C.1 C.2.1 hd ht (fun _ => kk) (fun z => absurd hc (by first | exact z | simpa using z)))
  · exact (kf (by first | exact hc | simpa using hc)).s1 (fun _ _ _ _ _ _ _ _ _ _ _ _ _ _ _ C _ _ kk => lv_if_ne C.1 C.2.1 hd ht (fun z => absurd z hc) (fun _ => kk))
theorem x_if_lt {x : Int32} {off : Int} (tgt q : Nat) (hq : pc + 3 = q) (hd : decode k.2.1 pc = .ok (.ifCond .lt off, 3)) (ht : (pc : Int) + off = (tgt : Int)) (kt : x < 0 → xE G d k tgt lc st w P) (kf : ¬ x < 0 → xE G d k q lc st w P) : xE G d k pc lc (.int x :: st) w P := by
  subst hq
  by_cases hc : x < 0
  · exact (kt hc).s1 (fun _ _ _ _ _ _ _ _ _ _ _ _ _ _ _ C _ _ kk => lv_if_lt C.1 C.2.1 hd ht (fun _ => kk) (fun z => absurd hc (by first | exact z | simpa using z)))
  · exact (kf (by first | exact hc | simpa using hc)).s1 (fun _ _ _ _ _ _ _ _ _ _ _ _ _ _ _ C _ _ kk => lv_if_lt C.1 C.2.1 hd ht (fun z => absurd z hc) (fun _ => kk))
theorem x_if_ge {x : Int32} {off : Int} (tgt q : Nat) (hq : pc + 3 = q) (hd : decode k.2.1 pc = .ok (.ifCond .ge off, 3)) (ht : (pc : Int) + off = (tgt : Int)) (kt : 0 ≤ x → xE G d k tgt lc st w P) (kf : ¬ 0 ≤ x → xE G d k q lc st w P) : xE G d k pc lc (.int x :: st) w P := by
  subst hq
  by_cases hc : 0 ≤ x
  · exact (kt hc).s1 (fun _ _ _ _ _ _ _ _ _ _ _ _ _ _ _ C _ _ kk => lv_if_ge C.1 C.2.1 hd ht (fun _ => kk) (fun z => absurd hc (by first | exact z | simpa using z)))
  · exact (kf (by first | exact hc | simpa using hc)).s1 (fun _ _ _ _ _ _ _ _ _ _ _ _ _ _ _ C _ _ kk => lv_if_ge C.1 C.2.1 hd ht (fun z => absurd z hc) (fun _ => kk))
theorem x_if_gt {x : Int32} {off : Int} (tgt q : Nat) (hq : pc + 3 = q) (hd : decode k.2.1 pc = .ok (.ifCond .gt off, 3)) (ht : (pc : Int) + off = (tgt : Int)) (kt : 0 < x → xE G d k tgt lc st w P) (kf : ¬ 0 < x → xE G d k q lc st w P) : xE G d k pc lc (.int x :: st) w P := by
  subst hq
  by_cases hc : 0 < x
  · exact (kt hc).s1 (fun _ _ _ _ _ _ _ _ _ _ _ _ _ _ _ C _ _ kk => lv_if_gt C.1 C.2.1 hd ht (fun _ => kk) (fun z => absurd hc (by first | exact z | simpa using z)))
  · exact (kf (by first | exact hc | simpa using hc)).s1 (fun _ _ _ _ _ _ _ _ _ _ _ _ _ _ _ C _ _ kk => lv_if_gt C.1 C.2.1 hd ht (fun z => absurd z hc) (fun _ => kk))
theorem x_if_le {x : Int32} {off : Int} (tgt q : Nat) (hq : pc + 3 = q) (hd : decode k.2.1 pc = .ok (.ifCond .le off, 3)) (ht : (pc : Int) + off = (tgt : Int)) (kt : x ≤ 0 → xE G d k tgt lc st w P) (kf : ¬ x ≤ 0 → xE G d k q lc st w P) : xE G d k pc lc (.int x :: st) w P := by
  subst hq
  by_cases hc : x ≤ 0
  · exact (kt hc).s1 (fun _ _ _ _ _ _ _ _ _ _ _ _ _ _ _ C _ _ kk => lv_if_le C.1 C.2.1 hd ht (fun _ => kk) (fun z => absurd hc (by first | exact z | simpa using z)))
  · exact (kf (by first | exact hc | simpa using hc)).s1 (fun _ _ _ _ _ _ _ _ _ _ _ _ _ _ _ C _ _ kk => lv_if_le C.1 C.2.1 hd ht (fun z => absurd z hc) (fun _ => kk))
theorem x_icmp_eq {x y : Int32} {off : Int} (tgt q : Nat) (hq : pc + 3 = q) (hd : decode k.2.1 pc = .ok (.if_icmp .eq off, 3)) (ht : (pc : Int) + off = (tgt : Int)) (kt : x = y → xE G d k tgt lc st w P) (kf : ¬ x = y → xE G d k q lc st w P) : xE G d k pc lc (.int y :: .int x :: st) w P := by
  subst hq
  by_cases hc : x = y
  · exact (kt hc).s1 (fun _ _ _ _ _ _ _ _ _ _ _ _ _ _ _ C _ _ kk => lv_icmp_eq C.1 C.2.1 hd ht (fun _ => kk) (fun z => absurd hc (by first | exact z | simpa using z)))
  · exact (kf (by first | exact hc | simpa using hc)).s1 (fun _ _ _ _ _ _ _ _ _ _ _ _ _ _ _ C _ _ kk => lv_icmp_eq C.1 C.2.1 hd ht (fun z => absurd z hc) (fun _ => kk))
theorem x_icmp_ne {x y : Int32} {off : Int} (tgt q : Nat) (hq : pc + 3 = q) (hd : decode k.2.1 pc = .ok (.if_icmp .ne off, 3)) (ht : (pc : Int) + off = (tgt : Int)) (kt : ¬ x = y → xE G d k tgt lc st w P) (kf : x = y → xE G d k q lc st w P) : xE G d k pc lc (.int y :: .int x :: st) w P := by
  subst hq
  by_cases hc : ¬ x = y
  · exact (kt hc).s1 (fun _ _ _ _ _ _ _ _ _ _ _ _ _ _ _ C _ _ kk => lv_icmp_ne C.1 C.2.1 hd ht (fun _ => kk) (fun z => absurd hc (by first | exact z | simpa using z)))
  · exact (kf (by first | exact hc | simpa using hc)).s1 (fun _ _ _ _ _ _ _ _ _ _ _ _ _ _ _ C _ _ kk => lv_icmp_ne C.1 C.2.1 hd ht (fun z => absurd z hc) (fun _ => kk))
theorem x_icmp_lt {x y : Int32} {off : Int} (tgt q : Nat) (hq : pc + 3 = q) (hd : decode k.2.1 pc = .ok (.if_icmp .lt off, 3)) (ht : (pc : Int) + off = (tgt : Int)) (kt : x < y → xE G d k tgt lc st w P) (kf : ¬ x < y → xE G d k q lc st w P) : xE G d k pc lc (.int y :: .int x :: st) w P := by
  subst hq
  by_cases hc : x < y
  · exact (kt hc).s1 (fun _ _ _ _ _ _ _ _ _ _ _ _ _ _ _ C _ _ kk => lv_icmp_lt C.1 C.2.1 hd ht (fun _ => kk) (fun z => absurd hc (by first | exact z | simpa using z)))
  · exact (kf (by first | exact hc | simpa using hc)).s1 (fun _ _ _ _ _ _ _ _ _ _ _ _ _ _ _ C _ _ kk => lv_icmp_lt C.1 C.2.1 hd ht (fun z => absurd z hc) (fun _ => kk))
theorem x_icmp_ge {x y : Int32} {off : Int} (tgt q : Nat) (hq : pc + 3 = q) (hd : decode k.2.1 pc = .ok (.if_icmp .ge off, 3)) (ht : (pc : Int) + off = (tgt : Int)) (kt : y ≤ x → xE G d k tgt lc st w P) (kf : ¬ y ≤ x → xE G d k q lc st w P) : xE G d k pc lc (.int y :: .int x :: st) w P := by
  subst hq
  by_cases hc : y ≤ x
  · exact (kt hc).s1 (fun _ _ _ _ _ _ _ _ _ _ _ _ _ _ _ C _ _ kk => lv_icmp_ge C.1 C.2.1 hd ht (fun _ => kk) (fun z => absurd hc (by first | exact z | simpa using z)))
  · exact (kf (by first | exact hc | simpa using hc)).s1 (fun _ _ _ _ _ _ _ _ _ _ _ _ _ _ _ C _ _ kk => lv_icmp_ge C.1 C.2.1 hd ht (fun z => absurd z hc) (fun _ => kk))
theorem x_icmp_gt {x y : Int32} {off : Int} (tgt q : Nat) (hq : pc + 3 = q) (hd : decode k.2.1 pc = .ok (.if_icmp .gt off, 3)) (ht : (pc : Int) + off = (tgt : Int)) (kt : y < x → xE G d k tgt lc st w P) (kf : ¬ y < x → xE G d k q lc st w P) : xE G d k pc lc (.int y :: .int x :: st) w P := by
  subst hq
  by_cases hc : y < x
  · exact (kt hc).s1 (fun _ _ _ _ _ _ _ _ _ _ _ _ _ _ _ C _ _ kk => lv_icmp_gt C.1 C.2.1 hd ht (fun _ => kk) (fun z => absurd hc (by first | exact z | simpa using z)))
  · exact (kf (by first | exact hc | simpa using hc)).s1 (fun _ _ _ _ _ _ _ _ _ _ _ _ _ _ _ C _ _ kk => lv_icmp_gt C.1 C.2.1 hd ht (fun z => absurd z hc) (fun _ => kk))
theorem x_icmp_le {x y : Int32} {off : Int} (tgt q : Nat) (hq : pc + 3 = q) (hd : decode k.2.1 pc = .ok (.if_icmp .le off, 3)) (ht : (pc : Int) + off = (tgt : Int)) (kt : x ≤ y → xE G d k tgt lc st w P) (kf : ¬ x ≤ y → xE G d k q lc st w P) : xE G d k pc lc (.int y :: .int x :: st) w P := by
  subst hq
  by_cases hc : x ≤ y
  · exact (kt hc).s1 (fun _ _ _ _ _ _ _ _ _ _ _ _ _ _ _ C _ _ kk => lv_icmp_le C.1 C.2.1 hd ht (fun _ => kk) (fun z => absurd hc (by first | exact z | simpa using z)))
  · exact (kf (by first | exact hc | simpa using hc)).s1 (fun _ _ _ _ _ _ _ _ _ _ _ _ _ _ _ C _ _ kk => lv_icmp_le C.1 C.2.1 hd ht (fun z => absurd z hc) (fun _ => kk))
theorem x_acmp_eq {x y : Nat} {off : Int} (tgt q : Nat) (hq : pc + 3 = q) (hd : decode k.2.1 pc = .ok (.if_acmp .eq off, 3)) (ht : (pc : Int) + off = (tgt : Int)) (kt : x = y → xE G d k tgt lc st w P) (kf : ¬ x = y → xE G d k q lc st w P) : xE G d k pc lc (.ref y :: .ref x :: st) w P := by
  subst hq
  by_cases hc : x = y
  · exact (kt hc).s1 (fun _ _ _ _ _ _ _ _ _ _ _ _ _ _ _ C _ _ kk => lv_acmp_eq (rx := some x) (ry := some y) C.1 C.2.1 hd ht (fun _ => kk) (fun z => absurd hc (by simpa using z)))
  · exact (kf (by first | exact hc | simpa using hc)).s1 (fun _ _ _ _ _ _ _ _ _ _ _ _ _ _ _ C _ _ kk => lv_acmp_eq (rx := some x) (ry := some y) C.1 C.2.1 hd ht (fun z => absurd (by simpa using z) hc) (fun _ => kk))
theorem x_acmp_ne {x y : Nat} {off : Int} (tgt q : Nat) (hq : pc + 3 = q) (hd : decode k.2.1 pc = .ok (.if_acmp .ne off, 3)) (ht : (pc : Int) + off = (tgt : Int)) (kt : ¬ x = y → xE G d k tgt lc st w P) (kf : x = y → xE G d k q lc st w P) : xE G d k pc lc (.ref y :: .ref x :: st) w P := by
  subst hq
  by_cases hc : ¬ x = y
  · exact (kt hc).s1 (fun _ _ _ _ _ _ _ _ _ _ _ _ _ _ _ C _ _ kk => lv_acmp_ne (rx := some x) (ry := some y) C.1 C.2.1 hd ht (fun _ => kk) (fun z => absurd hc (by simpa using z)))
  · exact (kf (by first | exact hc | simpa using hc)).s1 (fun _ _ _ _ _ _ _ _ _ _ _ _ _ _ _ C _ _ kk => lv_acmp_ne (rx := some x) (ry := some y) C.1 C.2.1 hd ht (fun z => absurd (by simpa using z) hc) (fun _ => kk))
end XR
end
section
/-! THE ROWS THAT READ AND WRITE CELLS, MAKE THEM, CALL AND RETURN -/
/-- field j of class ci, as class 'own' names it by its pool entry idx -/
def xFl (G : xG) (own : String) (idx ci j : Nat) (C : String) (T : u_T) (N : Nat) : Prop :=
  (xcl G)[ci]? = some (C, T, N) ∧ (∀ w ∈ u_ws C T N, w ∈ xws G) ∧ j < N ∧
  (Cond.fieldLink own idx (T j).1 (T j).2.1 (T j).2.2.1 ∈ xws G ∨ (∃ ref : String, Cond.fieldLink own idx ref (T j).2.1 (T j).2.2.1 ∈ xws G ∧ Cond.sameField ref (T j).1 (T j).2.1 (T j).2.2.1 ∈ xws G) ∨ ∃ host : String, Cond.fieldLinkNest own idx (T j).1 (T j).2.1 (T j).2.2.1 host ∈ xnw G)
/-- .. and it may be written there -/
def xFp (G : xG) (own : String) (idx ci j : Nat) (C : String) (T : u_T) (N : Nat) (ty : Nat → FieldType) (ini : Bool) : Prop :=
  xFl G own idx ci j C T N ∧ (∀ k, k < N → parseFieldDescriptor (T k).2.2.1 = some (ty k)) ∧ (∀ a, a < N → ∀ b, b < N → a ≠ b → (T a).2.1 ≠ (T b).2.1) ∧
  ((T j).2.2.2 = false ∨ ((T j).2.2.2 = true ∧ ini = true ∧ (T j).1 = own ∧ Cond.fieldLink own idx (T j).1 (T j).2.1 (T j).2.2.1 ∈ xws G))
section XPW
variable {p : Program} {l : Launch} {e : Env} {R : Room} {s : State} {m : MethodId} {args : Array Value} {below : List Frame} {meth : Method} {c : Code} {H : Heap} {locs : List Loc} {cells slots : Nat} {Q : State → Prop}
variable {cc : ByteArray} {pc : Nat} {ls : Array Slot} {rest : List Value} {D : va_G} {cl : List vw_C} {a : Nat} {tys : List (ClassId × FieldType)}
theorem xw_put (hexec : p.tables.exec = Jvm.exec) (hb : c.code = cc) {own ref C : String} {T : u_T} {N ci index : Nat} {Ts : List Cond} (hts : ∀ w ∈ Ts, w.before args s = true) (hin : ∀ w ∈ u_ws C T N, w ∈ Ts) (ty0 : Nat → FieldType) (hty : ∀ k, k < N → parseFieldDescriptor (T k).2.2.1 = some (ty0 k)) (hnm : ∀ a, a < N → ∀ b, b < N → a ≠ b → (T a).2.1 ≠ (T b).2.1) (hown : s.vm.findClass own = some m.cls) (hK : va_K D cl tys s) {fs : List Value} (he : va_at D cl (a, .inr (ci, fs)) H) (hc : cl[ci]? = some (C, T, N)) (k : Nat) (hk : k < N) (hlink : (Cond.fieldLink own index ref (T k).2.1 (T k).2.2.1).before args s = true) (hsame : ∀ x, s.fieldFound? (T k).1 (T k).2.1 (T k).2.2.1 = some x → s.fieldFound? ref (T k).2.1 (T k).2.2.1 = some x) (hfin : (T k).2.2.2 = false) {v : Value} (hn : narrow (ty0 k) v = v) (hfit : fits (ty0 k) v = true) (hl : k < fs.length)
    (hdg : decode cc pc = .ok (.putfield index, 3)) (kk : ∀ (H1 : Heap) (i : Nat), va_at D cl (a, .inr (ci, fs.set k v)) H1 → H1.size = H.size → (∀ q : Nat, q ≠ a → H1[q]? = H[q]?) → W p l e R s m args below meth c H1 (locs ++ [⟨a, i⟩]) cells slots Q (F0 m (pc + 3) ls rest)) : W p l e R s m args below meth c H locs cells slots Q (F0 m pc ls (v :: .ref a :: rest)) := by
  have hap := va_apart (own := own) hts hin ty0 hty hnm hK hc
  obtain ⟨r, h1, cell, q1, q2, q3, q4⟩ := he
  have hr : r = (C, T, N) := Option.some.inj (h1.symm.trans hc)
  subst hr
  obtain ⟨hS, hfc, kC, hkC, hkind⟩ := hK.1 ci _ hc
  obtain ⟨cf, kf, fi, f, hi, hsl⟩ := hS k hk
  have hlay := hts _ (hin _ (u_in_lay hk))
  unfold u_lay at hlay
  rw [if_neg (by rw [hfin]; decide)] at hlay
  have hst := (u_facts hfc hkC (u_lays hts hin hk) hi).1
  have h6 := u_store hfc hkC hkind hlay hi (hty k hk) hn hfit
  refine W.putK hexec hb (f := f) ⟨hown, hlink, ⟨_, _, _, hsame _ hi⟩, hst⟩ (by rw [q2]; exact h6) q1 q3 (by rw [hsl]; exact k2_hasslot (q4 k hk)) rfl rfl hdg fun H' e1 e2 e3 => ?_
  rw [hsl] at e1 ⊢
  exact kk H' _ ⟨_, hc, t_OB.to (V := updV (vp_V fs) k v) ⟨_, e1, q2, q3, t_set q4 hap hk v⟩ (fun j _ => vp_updV_set hl v j)⟩ e2 e3
theorem xw_putN (hexec : p.tables.exec = Jvm.exec) (hb : c.code = cc) {own ref C host : String} {T : u_T} {N ci index : Nat} {Ts : List Cond} (hts : ∀ w ∈ Ts, w.before args s = true) (hin : ∀ w ∈ u_ws C T N, w ∈ Ts) (ty0 : Nat → FieldType) (hty : ∀ k, k < N → parseFieldDescriptor (T k).2.2.1 = some (ty0 k)) (hnm : ∀ a, a < N → ∀ b, b < N → a ≠ b → (T a).2.1 ≠ (T b).2.1) (hown : s.vm.findClass own = some m.cls) (hK : va_K D cl tys s) {fs : List Value} (he : va_at D cl (a, .inr (ci, fs)) H) (hc : cl[ci]? = some (C, T, N)) (k : Nat) (hk : k < N) (hlink : (Cond.fieldLinkNest own index ref (T k).2.1 (T k).2.2.1 host).before args s = true) (hsame : ∀ x, s.fieldFound? (T k).1 (T k).2.1 (T k).2.2.1 = some x → s.fieldFound? ref (T k).2.1 (T k).2.2.1 = some x) (hfin : (T k).2.2.2 = false) {v : Value} (hn : narrow (ty0 k) v = v) (hfit : fits (ty0 k) v = true) (hl : k < fs.length)
    (hdg : decode cc pc = .ok (.putfield index, 3)) (kk : ∀ (H1 : Heap) (i : Nat), va_at D cl (a, .inr (ci, fs.set k v)) H1 → H1.size = H.size → (∀ q : Nat, q ≠ a → H1[q]? = H[q]?) → W p l e R s m args below meth c H1 (locs ++ [⟨a, i⟩]) cells slots Q (F0 m (pc + 3) ls rest)) : W p l e R s m args below meth c H locs cells slots Q (F0 m pc ls (v :: .ref a :: rest)) := by
  have hap := va_apart (own := own) hts hin ty0 hty hnm hK hc
  obtain ⟨r, h1, cell, q1, q2, q3, q4⟩ := he
  have hr : r = (C, T, N) := Option.some.inj (h1.symm.trans hc)
  subst hr
  obtain ⟨hS, hfc, kC, hkC, hkind⟩ := hK.1 ci _ hc
  obtain ⟨cf, kf, fi, f, hi, hsl⟩ := hS k hk
  have hlay := hts _ (hin _ (u_in_lay hk))
  unfold u_lay at hlay
  rw [if_neg (by rw [hfin]; decide)] at hlay
  have hst := (u_facts hfc hkC (u_lays hts hin hk) hi).1
  have h6 := u_store hfc hkC hkind hlay hi (hty k hk) hn hfit
  refine va_WputK hexec hb (f := f) hown hlink (hsame _ hi) hst (by rw [q2]; exact h6) q1 q3 (by rw [hsl]; exact k2_hasslot (q4 k hk)) rfl rfl hdg fun H' e1 e2 e3 => ?_
  rw [hsl] at e1 ⊢
  exact kk H' _ ⟨_, hc, t_OB.to (V := updV (vp_V fs) k v) ⟨_, e1, q2, q3, t_set q4 hap hk v⟩ (fun j _ => vp_updV_set hl v j)⟩ e2 e3
theorem xw_putF (hexec : p.tables.exec = Jvm.exec) (hb : c.code = cc) {own ref C : String} {T : u_T} {N ci index : Nat} {Ts : List Cond} (hts : ∀ w ∈ Ts, w.before args s = true) (hin : ∀ w ∈ u_ws C T N, w ∈ Ts) (ty0 : Nat → FieldType) (hty : ∀ k, k < N → parseFieldDescriptor (T k).2.2.1 = some (ty0 k)) (hnm : ∀ a, a < N → ∀ b, b < N → a ≠ b → (T a).2.1 ≠ (T b).2.1) (hown : s.vm.findClass own = some m.cls) (hK : va_K D cl tys s) {fs : List Value} (he : va_at D cl (a, .inr (ci, fs)) H) (hc : cl[ci]? = some (C, T, N)) (k : Nat) (hk : k < N) (hlink : (Cond.fieldLink own index ref (T k).2.1 (T k).2.2.1).before args s = true) (hsame : ∀ x, s.fieldFound? (T k).1 (T k).2.1 (T k).2.2.1 = some x → s.fieldFound? ref (T k).2.1 (T k).2.2.1 = some x) (hfin : (T k).2.2.2 = true) (hin2 : meth.name = "<init>") (hdecl : (T k).1 = own) {v : Value} (hn : narrow (ty0 k) v = v) (hfit : fits (ty0 k) v = true) (hl : k < fs.length)
    (hdg : decode cc pc = .ok (.putfield index, 3)) (kk : ∀ (H1 : Heap) (i : Nat), va_at D cl (a, .inr (ci, fs.set k v)) H1 → H1.size = H.size → (∀ q : Nat, q ≠ a → H1[q]? = H[q]?) → W p l e R s m args below meth c H1 (locs ++ [⟨a, i⟩]) cells slots Q (F0 m (pc + 3) ls rest)) : W p l e R s m args below meth c H locs cells slots Q (F0 m pc ls (v :: .ref a :: rest)) := by
  have hap := va_apart (own := own) hts hin ty0 hty hnm hK hc
  obtain ⟨r, h1, cell, q1, q2, q3, q4⟩ := he
  have hr : r = (C, T, N) := Option.some.inj (h1.symm.trans hc)
  subst hr
  obtain ⟨hS, hfc, kC, hkC, hkind⟩ := hK.1 ci _ hc
  obtain ⟨cf, kf, fi, f, hi, hsl⟩ := hS k hk
  have hlay := hts _ (hin _ (u_in_lay hk))
  unfold u_lay at hlay
  rw [if_pos hfin] at hlay
  have hst := (u_facts hfc hkC (u_lays hts hin hk) hi).1
  have hcf : m.cls = cf := by
    obtain ⟨_, _, c', _, _, _, -, -, hf', -, -, -, hown2, -⟩ := Cond.laysFinal_spec hlay
    have e1 : c' = cf := by have := hi.symm.trans hf'; simp at this; exact this.1.symm
    rw [hdecl] at hown2
    rw [← e1]; exact Option.some.inj (hown.symm.trans hown2)
  have h6 := u_fits hfc hkC hkind (Or.inr hlay) hi (hty k hk) hn hfit
  refine W.putFinK hexec hb hown hlink (hsame _ hi) hst hcf hin2 (by rw [q2]; exact h6) q1 q3 (by rw [hsl]; exact k2_hasslot (q4 k hk)) rfl rfl hdg fun H' e1 e2 e3 => ?_
  rw [hsl] at e1 ⊢
  exact kk H' _ ⟨_, hc, t_OB.to (V := updV (vp_V fs) k v) ⟨_, e1, q2, q3, t_set q4 hap hk v⟩ (fun j _ => vp_updV_set hl v j)⟩ e2 e3
end XPW
section XH
variable {G : xG} {d : Nat} {k : xM} {pc : Nat} {lc : List (Nat × Value)} {st : List Value} {w : xW} {P : Option Value → xW → Prop}
theorem x_get {idx ci j : Nat} {C : String} {T : u_T} {N a : Nat} {fs : List Value} {v : Value} (q : Nat) (hq : pc + 3 = q) (hf : xFl G k.1.cls idx ci j C T N) (hd : decode k.2.1 pc = .ok (.getfield idx, 3)) (ha : w.2.2 a = some (.inr (ci, fs))) (hv : fs[j]? = some v) (h : xE G d k q lc (v :: st) w P) : xE G d k pc lc (.ref a :: st) w P := by
  subst hq
  obtain ⟨h1, h2, h3, h4⟩ := hf
  refine h.s1 (fun p e R s m args below meth c H locs cells slots ls Q C r hl kk => ?_)
  obtain ⟨c1, c2, c3, c4, c5, c6, c7, c8, c9, c10, c11⟩ := C
  rcases h4 with h4 | ⟨ref, h4, h5⟩ | ⟨host, h4⟩
  · exact va_get c1 c2 c8 h2 c7 c9.1 (r.one ha) 0 rfl h1 j h3 (c8 _ h4) (fun _ z => z) hv hd kk
  · exact va_get c1 c2 c8 h2 c7 c9.1 (r.one ha) 0 rfl h1 j h3 (c8 _ h4) (fun x z => u_same (c8 _ h5) x z) hv hd kk
  · exact va_getN c1 c2 c8 h2 c7 c9.1 (r.one ha) 0 rfl h1 j h3 (va_Nw.use rfl (c9.2 _ h4).2) (fun _ z => z) hv hd kk
theorem x_put {idx ci j : Nat} {C : String} {T : u_T} {N a : Nat} {ty : Nat → FieldType} {ini : Bool} {fs : List Value} {v : Value} (q : Nat) (hq : pc + 3 = q) (hf : xFp G k.1.cls idx ci j C T N ty ini) (hi : ini = true → k.1.name = "<init>") (hd : decode k.2.1 pc = .ok (.putfield idx, 3)) (ha : w.2.2 a = some (.inr (ci, fs))) (hn : narrow (ty j) v = v) (hfit : fits (ty j) v = true) (hl : j < fs.length) (h : xE G d k q lc st (xset w a (.inr (ci, fs.set j v))) P) : xE G d k pc lc (v :: .ref a :: st) w P := by
  subst hq
  obtain ⟨⟨h1, h2, h3, h4⟩, h5, h6, h7⟩ := hf
  refine h.s3 ha (fun p e R s m args below meth c H locs cells slots ls Q C r hl kk => ?_)
  obtain ⟨c1, c2, c3, c4, c5, c6, c7, c8, c9, c10, c11⟩ := C
  have hat := (r.2.2.1 a _ ha).2
  rcases h7 with h7 | ⟨h7, h8, h9, h10⟩
  · rcases h4 with h4 | ⟨ref, h4, h11⟩ | ⟨host, h4⟩
    · exact xw_put c1 c2 c8 h2 ty h5 h6 c7 c9.1 hat h1 j h3 (c8 _ h4) (fun _ z => z) h7 hn hfit (by assumption) hd kk
    · exact xw_put c1 c2 c8 h2 ty h5 h6 c7 c9.1 hat h1 j h3 (c8 _ h4) (fun x z => u_same (c8 _ h11) x z) h7 hn hfit (by assumption) hd kk
    · exact xw_putN c1 c2 c8 h2 ty h5 h6 c7 c9.1 hat h1 j h3 (va_Nw.use rfl (c9.2 _ h4).2) (fun _ z => z) h7 hn hfit (by assumption) hd kk
  · exact xw_putF c1 c2 c8 h2 ty h5 h6 c7 c9.1 hat h1 j h3 (c8 _ h10) (fun _ z => z) h7 (c6.trans (hi h8)) h9 hn hfit (by assumption) hd kk
/-! arrays -/
theorem x_iald {a t0 n : Nat} {cA : ClassId} {f : Nat → Int32} {i : Int32} (q : Nat) (hq : pc + 1 = q) (hd : decode k.2.1 pc = .ok (.iaload, 1)) (ha : w.2.2 a = some (.inl (cA, n, .inl f))) (ht : (xty G)[t0]? = some (cA, .int)) (hin : vp_in i n) (h : xE G d k q lc (.int (f i.toNatClampNeg) :: st) w P) : xE G d k pc lc (.int i :: .ref a :: st) w P := by
  subst hq
  exact h.s1 (fun _ _ _ _ _ _ _ _ _ _ _ _ _ _ _ C r _ kk => va_iald C.1 C.2.1 C.2.2.2.2.2.2.2.2.1.1 (r.one ha) 0 t0 rfl ht hin hd kk)
theorem x_zald {a t0 n : Nat} {cA : ClassId} {f : Nat → Int32} {i : Int32} (q : Nat) (hq : pc + 1 = q) (hd : decode k.2.1 pc = .ok (.baload, 1)) (ha : w.2.2 a = some (.inl (cA, n, .inl f))) (ht : (xty G)[t0]? = some (cA, .boolean)) (hin : vp_in i n) (h : xE G d k q lc (.int (f i.toNatClampNeg) :: st) w P) : xE G d k pc lc (.int i :: .ref a :: st) w P := by
  subst hq
  exact h.s1 (fun _ _ _ _ _ _ _ _ _ _ _ _ _ _ _ C r _ kk => va_zald C.1 C.2.1 C.2.2.2.2.2.2.2.2.1.1 (r.one ha) 0 t0 rfl ht hin hd kk)
theorem x_aald {a t0 n x : Nat} {cA : ClassId} {B : String} {f : Nat → Option Nat} {i : Int32} (q : Nat) (hq : pc + 1 = q) (hd : decode k.2.1 pc = .ok (.aaload, 1)) (ha : w.2.2 a = some (.inl (cA, n, .inr (.inr (.inr (.inr f)))))) (ht : (xty G)[t0]? = some (cA, .object B)) (hin : vp_in i n) (hx : f i.toNatClampNeg = some x) (h : xE G d k q lc (.ref x :: st) w P) : xE G d k pc lc (.int i :: .ref a :: st) w P := by
  subst hq
  exact h.s1 (fun _ _ _ _ _ _ _ _ _ _ _ _ _ _ _ C r _ kk => va_aldq C.1 C.2.1 C.2.2.2.2.2.2.2.2.1.1 (r.one ha) 0 t0 rfl ht hin hd (by rw [hx]; exact kk))
theorem x_alen {a t0 : Nat} {cA : ClassId} {x : vp_A} {ty : FieldType} {v : Int32} (q : Nat) (hq : pc + 1 = q) (hd : decode k.2.1 pc = .ok (.arraylength, 1)) (ha : w.2.2 a = some (.inl (cA, x))) (ht : (xty G)[t0]? = some (cA, ty)) (hv : Int32.ofNat x.1 = v) (h : xE G d k q lc (.int v :: st) w P) : xE G d k pc lc (.ref a :: st) w P := by
  subst hq
  exact h.s1 (fun _ _ _ _ _ _ _ _ _ _ _ _ _ _ _ C r _ kk => va_alen C.1 C.2.1 C.2.2.2.2.2.2.2.2.1.1 (r.one ha) 0 t0 rfl ht hv hd kk)
theorem x_iast {a t0 n : Nat} {cA : ClassId} {f : Nat → Int32} {i x : Int32} (q : Nat) (hq : pc + 1 = q) (hd : decode k.2.1 pc = .ok (.iastore, 1)) (ha : w.2.2 a = some (.inl (cA, n, .inl f))) (ht : (xty G)[t0]? = some (cA, .int)) (hin : vp_in i n) (h : xE G d k q lc st (xset w a (.inl (cA, n, .inl (upd f i.toNatClampNeg x)))) P) : xE G d k pc lc (.int x :: .int i :: .ref a :: st) w P := by
  subst hq
  refine h.s3 ha (fun p e R s m args below meth c H locs cells slots ls Q C r hl kk => ?_)
  refine W.iast C.1 C.2.1 (r.2.2.1 a _ ha).2 ((C.2.2.2.2.2.2.2.2.1.1.2 t0 _ ht).1 n (fun j => .int (f j))) (fun q => by cases q) (by show ¬ (i < 0 ∨ (arrV _ _ _).slots.size ≤ _); rw [arrV_size]; exact hin) rfl rfl hd fun H1 e1 z oq => kk H1 _ ?_ z oq
  show H1[a]? = some (vp_cell _ _)
  rw [e1]
  rw [vp_cell_i, vp_cell_i, arrV_store]
  congr 2
  funext q
  by_cases hq : q = i.toNatClampNeg
  · subst hq
    simp [updV, upd]
  · simp [updV, upd, hq]
theorem x_zast {a t0 n : Nat} {cA : ClassId} {f : Nat → Int32} {i x : Int32} (q : Nat) (hq : pc + 1 = q) (hd : decode k.2.1 pc = .ok (.bastore, 1)) (ha : w.2.2 a = some (.inl (cA, n, .inl f))) (ht : (xty G)[t0]? = some (cA, .boolean)) (hin : vp_in i n) (hx : narrow .boolean (.int x) = .int x) (h : xE G d k q lc st (xset w a (.inl (cA, n, .inl (upd f i.toNatClampNeg x)))) P) : xE G d k pc lc (.int x :: .int i :: .ref a :: st) w P := by
  subst hq
  refine h.s3 ha (fun p e R s m args below meth c H locs cells slots ls Q C r hl kk => ?_)
  refine W.zast C.1 C.2.1 (r.2.2.1 a _ ha).2 ((C.2.2.2.2.2.2.2.2.1.1.2 t0 _ ht).1 n (fun j => .int (f j))) (fun q => by cases q) (by show ¬ (i < 0 ∨ (arrV _ _ _).slots.size ≤ _); rw [arrV_size]; exact hin) rfl rfl hd fun H1 e1 z oq => kk H1 _ ?_ z oq
  show H1[a]? = some (vp_cell _ _)
  rw [e1, hx]
  rw [vp_cell_i, vp_cell_i, arrV_store]
  congr 2
  funext q
  by_cases hq : q = i.toNatClampNeg
  · subst hq
    simp [updV, upd]
  · simp [updV, upd, hq]
/-- a reference to an object of class ci into an array of its class, or of a class that it can be cast to -/
theorem x_aast {a t0 n v ci : Nat} {cA : ClassId} {B : String} {r0 : vw_C} {f : Nat → Option Nat} {vs : List Value} {i : Int32} (q : Nat) (hq : pc + 1 = q) (hd : decode k.2.1 pc = .ok (.aastore, 1)) (ha : w.2.2 a = some (.inl (cA, n, .inr (.inr (.inr (.inr f)))))) (ht : (xty G)[t0]? = some (cA, .object B)) (hv : w.2.2 v = some (.inr (ci, vs))) (hc : (xcl G)[ci]? = some r0) (hB : r0.1 = B ∨ Cond.castable r0.1 B ∈ xnw G) (hin : vp_in i n) (h : xE G d k q lc st (xset w a (.inl (cA, n, .inr (.inr (.inr (.inr (va_up f i.toNatClampNeg (some v)))))))) P) : xE G d k pc lc (.ref v :: .int i :: .ref a :: st) w P := by
  subst hq
  refine h.s3 ha (fun p e R s m args below meth c H locs cells slots ls Q C r hl kk => ?_)
  have hK := C.2.2.2.2.2.2.2.2.1
  have hlt : i.toNatClampNeg < n := Nat.not_le.mp fun q => hin (Or.inr q)
  have h0 : ¬ i < 0 := fun q => hin (Or.inl q)
  obtain ⟨r', hr', cellV, g1, g2, g3, -⟩ := (r.2.2.1 v _ hv).2
  have hcls := (hK.1.1 ci r0 hc).2
  obtain ⟨kA, comp, k1, k2, k3, -⟩ := (hK.1.2 t0 _ ht).2
  obtain ⟨kE, hkE, -⟩ := Vm.findClass_spec k3
  obtain ⟨kC, hkC, -⟩ := hcls.2
  have hasg : s.vm.assignable ((xD G).1 ci) comp = true := by
    rcases hB with hB | hB
    · subst hB
      have : comp = (xD G).1 ci := Option.some.inj (k3.symm.trans hcls.1)
      subst this
      exact va_assign hcls
    · obtain ⟨c0, t1, f1, f2, f3⟩ := Cond.castable_spec (va_Nw.use (A := args) rfl (hK.2 _ hB).2)
      cases hcls.1.symm.trans f1
      cases k3.symm.trans f2
      exact f3
  refine W.aast C.1 C.2.1 (r.2.2.1 a _ ha).2 (fun q h => by cases h) (fun h => by cases h) k1 k2 rfl hkE ⟨h0, by show _ < (arrV _ _ _).slots.size; rw [arrV_size]; exact hlt⟩ g1 (fun q h => by rw [g3] at h; cases h) (by rw [g2]; exact hkC) (by rw [g2]; exact hasg) rfl rfl hd fun H1 e1 z oq => kk H1 _ ?_ z oq
  show H1[a]? = some (vp_cell _ _)
  rw [e1]
  rw [vp_cell_q, vp_cell_q, arrV_store]
  congr 2
  funext q
  by_cases hq : q = i.toNatClampNeg
  · subst hq
    simp [updV, va_up, va_rf]
  · simp [updV, va_up, hq]
theorem x_aastN {a t0 n : Nat} {cA : ClassId} {B : String} {f : Nat → Option Nat} {i : Int32} (q : Nat) (hq : pc + 1 = q) (hd : decode k.2.1 pc = .ok (.aastore, 1)) (ha : w.2.2 a = some (.inl (cA, n, .inr (.inr (.inr (.inr f)))))) (ht : (xty G)[t0]? = some (cA, .object B)) (hin : vp_in i n) (h : xE G d k q lc st (xset w a (.inl (cA, n, .inr (.inr (.inr (.inr (va_up f i.toNatClampNeg none))))))) P) : xE G d k pc lc (.null :: .int i :: .ref a :: st) w P := by
  subst hq
  refine h.s3 ha (fun p e R s m args below meth c H locs cells slots ls Q C r hl kk => ?_)
  have hK := C.2.2.2.2.2.2.2.2.1
  refine va_WaastN (C := B) C.1 C.2.1 (r.2.2.1 a _ ha).2 ((hK.1.2 t0 _ ht).1 n (fun j => va_rf (f j))) (fun h => by cases h) (by show ¬ (i < 0 ∨ (arrV _ _ _).slots.size ≤ _); rw [arrV_size]; exact hin) rfl rfl hd fun H1 e1 z oq => kk H1 _ ?_ z oq
  show H1[a]? = some (vp_cell _ _)
  rw [e1]
  rw [vp_cell_q, vp_cell_q, arrV_store]
  congr 2
  funext q
  by_cases hq : q = i.toNatClampNeg
  · subst hq
    simp [updV, va_up, va_rf]
  · simp [updV, va_up, hq]
/-! making cells -/
theorem x_new {idx ci : Nat} {C : String} {T : u_T} {N : Nat} {ty : Nat → FieldType} {fs : List Value} (q : Nat) (hq : pc + 3 = q) (hd : decode k.2.1 pc = .ok (.new idx, 3)) (hc : (xcl G)[ci]? = some (C, T, N)) (hin : ∀ w ∈ u_ws C T N, w ∈ xws G) (hty : ∀ k, k < N → parseFieldDescriptor (T k).2.2.1 = some (ty k)) (hcl : Cond.classLink k.1.cls idx C ∈ xws G) (hinst : Cond.instantiable C N ∈ xws G) (hini : Cond.initialized C ∈ xws G) (hfs : ∀ j, j < N → defaultValue (ty j) = vp_V fs j)
    (h : xE G d k q lc (.ref w.1 :: st) (xnew w N (.inr (ci, fs))) P) : xE G d k pc lc st w P := by
  subst hq
  refine h.s4 (fun p e R s m args below meth c H locs cells slots ls Q C r hl hcells hslots kk => ?_)
  obtain ⟨c1, c2, c3, c4, c5, c6, c7, c8, c9, c10, c11⟩ := C
  have hKn := c9.1.1 ci _ hc
  refine W.newcK c1 c2 c7 (c8 _ hcl) (c8 _ hinst) (c8 _ hini) rfl hd hcells hslots hKn.2.1 rfl fun H1 kC hkC e1 z1 o1 => ?_
  have := kk H1 ⟨_, hc, (u_born ty c8 hin hKn hkC e1 hty).to hfs⟩ z1 o1
  rw [← r.1] at this
  exact this
theorem x_newa {at0 : ArrayType} {t0 N' : Nat} {cA : ClassId} {ty : FieldType} {n : Int32} (q : Nat) (hq : pc + 2 = q) (hd : decode k.2.1 pc = .ok (.newarray at0, 2)) (hty : newarray.typeOf at0 = ty) (harr : Cond.arrayClass ty ∈ xws G) (ht : (xty G)[t0]? = some (cA, ty)) (hp : ty = .int ∨ ty = .boolean) (hn : ¬ n < 0) (hN : n.toNatClampNeg = N') (hb : N' * 4 ≤ 536870912)
    (h : xE G d k q lc (.ref w.1 :: st) (xnew w N' (.inl (cA, N', .inl (fun _ => 0)))) P) : xE G d k pc lc (.int n :: st) w P := by
  subst hq
  refine h.s4 (fun p e R s m args below meth c H locs cells slots ls Q C r hl hcells hslots kk => ?_)
  obtain ⟨c1, c2, c3, c4, c5, c6, c7, c8, c9, c10, c11⟩ := C
  subst hty
  have hbytes : N' * componentBytes (newarray.typeOf at0) ≤ 536870912 := by
    rcases hp with hp | hp
    · rw [hp]; simpa [componentBytes] using hb
    · rw [hp]; simp [componentBytes]; omega
  refine va_newaK c1 c2 (c8 _ harr) rfl hd rfl hn hN hbytes hcells hslots rfl fun H1 cA' e1 z1 o1 hAr hNm => ?_
  have hRA := (c9.1.2 t0 _ ht).2
  have hcA : s.vm.findClass ("[" ++ (newarray.typeOf at0).toString) = some cA := by
    rcases hp with hp | hp
    · rw [hp] at hRA ⊢; exact hRA
    · rw [hp] at hRA ⊢; exact hRA
  have hce : cA' = cA := Option.some.inj (hNm.symm.trans hcA)
  subst hce
  have hd0 : defaultValue (newarray.typeOf at0) = .int 0 := by
    rcases hp with hp | hp
    · rw [hp]; rfl
    · rw [hp]; rfl
  rw [hd0] at e1
  have := kk H1 e1 z1 o1
  rw [← r.1] at this
  exact this
theorem x_newq {idx t0 N' : Nat} {cA : ClassId} {B : String} {n : Int32} (q : Nat) (hq : pc + 3 = q) (hd : decode k.2.1 pc = .ok (.anewarray idx, 3)) (hcl : Cond.classLink k.1.cls idx B ∈ xws G) (hov : Cond.arrayOver (.object B) ∈ xnw G) (ht : (xty G)[t0]? = some (cA, .object B)) (hn : ¬ n < 0) (hN : n.toNatClampNeg = N') (hb : N' * 4 ≤ 536870912)
    (h : xE G d k q lc (.ref w.1 :: st) (xnew w N' (.inl (cA, N', .inr (.inr (.inr (.inr (fun _ => none))))))) P) : xE G d k pc lc (.int n :: st) w P := by
  subst hq
  refine h.s4 (fun p e R s m args below meth c H locs cells slots ls Q C r hl hcells hslots kk => ?_)
  obtain ⟨c1, c2, c3, c4, c5, c6, c7, c8, c9, c10, c11⟩ := C
  subst hN
  refine W.anew c1 c2 c7 (c8 _ hcl) (va_AO.use (c9.2 _ hov).2) rfl hd rfl hn hb hcells hslots fun cA' kA comp f1 f2 f3 f4 => ?_
  have hRA := (c9.1.2 t0 _ ht).2
  obtain ⟨-, -, -, -, -, hnm⟩ := hRA
  have hce : cA' = cA := Option.some.inj (f1.symm.trans hnm)
  subst hce
  generalize hH1 : H.push ({ cls := cA', slots := Array.replicate n.toNatClampNeg .null, vm := .none } : Cell) = H1
  have z1 : H1.size = H.size + 1 := by rw [← hH1, Array.size_push]
  have e1 : H1[H.size]? = some (arrV cA' n.toNatClampNeg (fun _ => .null)) := by rw [← hH1, Array.getElem?_push_size, ← arrV_new]
  have o1 : ∀ q : Nat, q < H.size → H1[q]? = H[q]? := fun q hq => by rw [← hH1, Array.getElem?_push, if_neg (Nat.ne_of_lt hq)]
  have := kk H1 e1 z1 o1
  rw [← r.1] at this
  exact this
/-! constants -/
theorem x_ldc {idx : Nat} {v : Int32} (q : Nat) (hq : pc + 2 = q) (hd : decode k.2.1 pc = .ok (.ldc idx, 2)) (hc : Cond.constant k.1.cls idx v ∈ xws G) (h : xE G d k q lc (.int v :: st) w P) : xE G d k pc lc st w P := by
  subst hq
  exact h.s1 (fun _ _ _ _ _ _ _ _ _ _ _ _ _ _ _ C _ _ kk => lv_ldc C.1 C.2.1 C.2.2.2.2.2.2.1 (C.2.2.2.2.2.2.2.1 _ hc) hd kk)
theorem x_ldcw {idx : Nat} {v : Int32} (q : Nat) (hq : pc + 3 = q) (hd : decode k.2.1 pc = .ok (.ldc_w idx, 3)) (hc : Cond.constant k.1.cls idx v ∈ xws G) (h : xE G d k q lc (.int v :: st) w P) : xE G d k pc lc st w P := by
  subst hq
  exact h.s1 (fun _ _ _ _ _ _ _ _ _ _ _ _ _ _ _ C _ _ kk => lv_ldcw C.1 C.2.1 C.2.2.2.2.2.2.1 (C.2.2.2.2.2.2.2.1 _ hc) hd kk)
theorem x_ldc2 {idx : Nat} {v : Int64} (q : Nat) (hq : pc + 3 = q) (hd : decode k.2.1 pc = .ok (.ldc2_w idx, 3)) (hc : Cond.constantLong k.1.cls idx v ∈ xws G) (h : xE G d k q lc (.long v :: st) w P) : xE G d k pc lc st w P := by
  subst hq
  exact h.s1 (fun _ _ _ _ _ _ _ _ _ _ _ _ _ _ _ C _ _ kk => lv_ldc2 C.1 C.2.1 C.2.2.2.2.2.2.1 (C.2.2.2.2.2.2.2.1 _ hc) hd kk)
/-! switches -/
theorem x_tableOut {dflt lo hi : Int} {offs : Array Int} {len : Nat} {x : Int32} {tgt : Nat} (hd : decode k.2.1 pc = .ok (.tableswitch dflt lo hi offs, len)) (hx : x.toInt < lo ∨ hi < x.toInt) (ht : (pc : Int) + dflt = (tgt : Int)) (h : xE G d k tgt lc st w P) : xE G d k pc lc (.int x :: st) w P :=
  h.s1 (fun _ _ _ _ _ _ _ _ _ _ _ _ _ _ _ C _ _ kk => lv_tableOut C.1 C.2.1 hd hx ht kk)
theorem x_tableIn {dflt lo hi : Int} {offs : Array Int} {len : Nat} {x : Int32} {off : Int} {tgt : Nat} (hd : decode k.2.1 pc = .ok (.tableswitch dflt lo hi offs, len)) (h1 : ¬ x.toInt < lo) (h2 : ¬ hi < x.toInt) (ho : offs[(x.toInt - lo).toNat]? = some off) (ht : (pc : Int) + off = (tgt : Int)) (h : xE G d k tgt lc st w P) : xE G d k pc lc (.int x :: st) w P :=
  h.s1 (fun _ _ _ _ _ _ _ _ _ _ _ _ _ _ _ C _ _ kk => lv_tableIn C.1 C.2.1 hd h1 h2 ho ht kk)
/-! casts -/
theorem x_cast {idx a ci : Nat} {r0 : vw_C} {fs : List Value} {B : String} (q : Nat) (hq : pc + 3 = q) (hd : decode k.2.1 pc = .ok (.checkcast idx, 3)) (hl : Cond.classLink k.1.cls idx B ∈ xws G) (ha : w.2.2 a = some (.inr (ci, fs))) (hc : (xcl G)[ci]? = some r0) (hB : r0.1 = B ∨ Cond.castable r0.1 B ∈ xnw G) (h : xE G d k q lc (.ref a :: st) w P) : xE G d k pc lc (.ref a :: st) w P := by
  subst hq
  refine h.s1 (fun p e R s m args below meth c H locs cells slots ls Q C r hl' kk => ?_)
  obtain ⟨c1, c2, c3, c4, c5, c6, c7, c8, c9, c10, c11⟩ := C
  have hr := va_recv c9.1 (r.one ha) hc (q0 := 0) rfl
  rcases hB with hB | hB
  · subst hB
    exact va_castS c1 c2 c7 (c8 _ hl) (c9.1.1 ci r0 hc).2 hr hd kk
  · exact va_castY c1 c2 c7 (c8 _ hl) (c9.2 _ hB).2 hr hd kk
/-! returns -/
theorem x_iret {v : Int32} (hd : decode k.2.1 pc = .ok (.ireturn, 1)) (hr : k.2.2.2 = some .int) (h : P (some (.int v)) w) : xE G d k pc lc [.int v] w P := by
  refine ⟨_, w, h, Nat.le_refl _, Nat.le_refl _, fun p e R s m args below meth c H locs cells slots ls C r hl hL hc hs => ?_⟩
  obtain ⟨c1, c2, c3, c4, c5, c6, c7, c8, c9, c10, c11⟩ := C
  have e1 : cells = R.cells := by omega
  have e2 : slots = R.slots := by omega
  rw [e1, e2]
  exact W.iret c1 c2 (c4.trans hr) (fun t ht hW => ⟨rfl, by rw [ht]; exact r.moved hW.alike⟩) hL hd c5
theorem x_zret {v : Int32} (hd : decode k.2.1 pc = .ok (.ireturn, 1)) (hr : k.2.2.2 = some .boolean) (hn : narrow .boolean (.int v) = .int v) (h : P (some (.int v)) w) : xE G d k pc lc [.int v] w P := by
  refine ⟨_, w, h, Nat.le_refl _, Nat.le_refl _, fun p e R s m args below meth c H locs cells slots ls C r hl hL hc hs => ?_⟩
  obtain ⟨c1, c2, c3, c4, c5, c6, c7, c8, c9, c10, c11⟩ := C
  have e1 : cells = R.cells := by omega
  have e2 : slots = R.slots := by omega
  rw [e1, e2]
  exact W.zret c1 c2 (c4.trans hr) hn (fun t ht hW => ⟨rfl, by rw [ht]; exact r.moved hW.alike⟩) hL hd c5
theorem x_vret (hd : decode k.2.1 pc = .ok (.return_, 1)) (hr : k.2.2.2 = none) (h : P none w) : xE G d k pc lc [] w P := by
  refine ⟨_, w, h, Nat.le_refl _, Nat.le_refl _, fun p e R s m args below meth c H locs cells slots ls C r hl hL hc hs => ?_⟩
  obtain ⟨c1, c2, c3, c4, c5, c6, c7, c8, c9, c10, c11⟩ := C
  have e1 : cells = R.cells := by omega
  have e2 : slots = R.slots := by omega
  rw [e1, e2]
  exact W.vret c1 c2 (c4.trans hr) (fun t ht hW => ⟨rfl, by rw [ht]; exact r.moved hW.alike⟩) hL hd c5
theorem x_aret {v : Nat} {rt : FieldType} (hd : decode k.2.1 pc = .ok (.areturn, 1)) (hr : k.2.2.2 = some rt) (hrt : (∃ n, rt = .object n) ∨ ∃ t, rt = .array t) (h : P (some (.ref v)) w) : xE G d k pc lc [.ref v] w P := by
  refine ⟨_, w, h, Nat.le_refl _, Nat.le_refl _, fun p e R s m args below meth c H locs cells slots ls C r hl hL hc hs => ?_⟩
  obtain ⟨c1, c2, c3, c4, c5, c6, c7, c8, c9, c10, c11⟩ := C
  have e1 : cells = R.cells := by omega
  have e2 : slots = R.slots := by omega
  rw [e1, e2]
  exact W.aret c1 c2 (c4.trans hr) hrt (Or.inr ⟨v, rfl⟩) (fun t ht hW => ⟨rfl, by rw [ht]; exact r.moved hW.alike⟩) hL hd c5
/-! Object.<init> -/
theorem x_objInit {idx a : Nat} (q : Nat) (hq : pc + 3 = q) (hd : decode k.2.1 pc = .ok (.invokespecial idx, 3)) (h1 : Cond.methodLink k.1.cls idx Lib.objectInit ∈ xws G) (h2 : Cond.instanceMethod Lib.objectInit ∈ xws G) (h3 : Cond.code Lib.objectInit ⟨#[0xb1]⟩ 1 none ∈ xws G) (hst : (st.map fun v => v.category).sum ≤ 8) (hdd : 1 ≤ d) (h : xE G d k q lc st w P) : xE G d k pc lc (.ref a :: st) w P := by
  subst hq
  refine h.s1 (fun p e R s m args below meth c H locs cells slots ls Q C r hl kk => ?_)
  obtain ⟨c1, c2, c3, c4, c5, c6, c7, c8, c9, c10, c11⟩ := C
  exact W.objInit c1 c2 c7 (c8 _ h1) (c8 _ h2) (c8 _ h3) rfl (by rw [c3]; exact hl.1) rfl hd (by omega) (by show 2 * 0 + _ + 12 ≤ _; omega) kk
end XH
end
section
/-! CALLS -/
section XM
variable {G : xG} {d : Nat} {k kc : xM} {pc dc : Nat} {lc : List (Nat × Value)} {st : List Value} {w w1 : xW} {v : Option Value} {P Pc : Option Value → xW → Prop}
def xPc (G : xG) (av : List Value) (w : xW) : Array Value → State → Prop := fun a U => a = av.toArray ∧ xK G U ∧ xR G w U U.heap
theorem xPc.blind {av : List Value} : FrameBlind (xPc G av w) := by
  intro a U g mk h
  obtain ⟨h1, h2, h3⟩ := h
  exact ⟨h1, h2.warm (U := U.calling g mk a) (State.WarmedH.refl U), xR.moved (U := U.calling g mk a) (Vm.Alike.refl U.vm) h3⟩
/-- the room that a method of depth dc is given -/
abbrev xrm (dc : Nat) (w w1 : xW) : Room := { frames := dc, cells := w1.1 - w.1, slots := w1.2.1 - w.2.1, locals := 42 * dc }
theorem xV.met {av : List Value} (hy : plainName kc.1.cls = true ∨ plainFor kc.1 = true) (hlen : (lg_sl av).length ≤ kc.2.2.1) (h : xV G dc kc 0 (lv_args 0 av) [] w v w1) :
    Met (xl G) kc.1 (Cond.code kc.1 kc.2.1 kc.2.2.1 kc.2.2.2 :: xws G) (xrm dc w w1) (xPc G av w) (xQ G v w1) (w1.1 - w.1) (w1.2.1 - w.2.1) (fun q => xb G ≤ q) := by
  have body : ∀ p e s m args below meth c s₁, BodyLoose p (xl G) kc.1 (headSpec (Cond.code kc.1 kc.2.1 kc.2.2.1 kc.2.2.2 :: xws G) (xrm dc w w1)) kc.2.1 kc.2.2.1 kc.2.2.2 e s m args below meth c s₁ → c.maxLocals = kc.2.2.1 → xPc G av w args s →
      W p (xl G) e (headSpec (Cond.code kc.1 kc.2.1 kc.2.2.1 kc.2.2.2 :: xws G) (xrm dc w w1)).room s m args below meth c s.heap [] 0 0 (MQ below (xQ G v w1) args s (w1.1 - w.1) (w1.2.1 - w.2.1) (fun q => xb G ≤ q)) (entryFrame m args kc.2.2.1) := by
    intro p e s m args below meth c s₁ B hml hv
    obtain ⟨rfl, hK, hR⟩ := hv
    have hts := atoms_spec (ws := Cond.code kc.1 kc.2.1 kc.2.2.1 kc.2.2.2 :: xws G) B.pre
    rw [lg_entry_eq]
    exact h.2.2 p e (xrm dc w w1) s m av.toArray below meth c s.heap [] 0 0 _ ⟨B.exec, B.bytes, hml, B.returns, B.notSynchronized, (name_of_methodNamed B.named B.method).1, findClass_of_methodNamed B.named, fun x hx => hts x (List.mem_cons_of_mem _ hx), hK, Nat.le_refl _, Nat.le_refl _⟩ hR (lv_entry av hlen) (fun q hq => by cases hq) (Nat.zero_add _) (Nat.zero_add _)
  rcases hy with hy | hy
  · exact Met.ofW (cc := kc.2.1) (maxL := kc.2.2.1) (ret := kc.2.2.2) hy rfl body
  · exact va_MetF (cc := kc.2.1) (maxL := kc.2.2.1) (ret := kc.2.2.2) hy rfl body
end XM
section XN
variable {p : Program} {l : Launch} {e : Env} {R : Room} {s : State} {m : MethodId} {args : Array Value} {below : List Frame} {meth : Method} {c : Code} {H : Heap} {locs : List Loc} {cells slots : Nat} {Q : State → Prop}
/-- behind a call -/
theorem xRun {G : xG} {w1 : xW} {v : Option Value} {mc ms pc : Nat} {ls : Array Slot} {st rest : List Value} {a : Array Value} (hr : va_Run p l e R s m args below meth c H locs cells slots mc ms (F0 m pc ls st) rest (xQ G v w1 a) (fun q => xb G ≤ q)) (hL : ∀ q ∈ locs, xb G ≤ q.base)
    (kk : ∀ (H1 : Heap) (locs1 : List Loc), xR G w1 s H1 → (∀ q ∈ locs1, xb G ≤ q.base) → W p l e R s m args below meth c H1 locs1 (cells + mc) (slots + ms) Q (F0 m (pc + 3) ls (v.toList ++ rest))) : W p l e R s m args below meth c H locs cells slots Q (F0 m pc ls st) := by
  intro T hT X
  obtain ⟨v', st₀, t, T', L, h0, X', hL', e1, e2, ⟨hv, hb⟩, stp⟩ := hr T hT X
  cases hv
  have hvm : t.vm.Alike s.vm := by
    rw [← e2]
    exact X'.warmed.alike.symm
  obtain ⟨t2, a1, b1⟩ := kk T'.heap (locs ++ L) (by rw [e1]; exact hb.moved hvm) (fun q hq => by
    rcases List.mem_append.mp hq with h | h
    · exact hL q h
    · exact hL' q h) T' rfl X'
  exact ⟨t2, stp t2 a1, b1⟩
end XN
/-- what every call asks of the callee -/
def xLc (G : xG) (kc : xM) (n : Nat) : Prop :=
  Cond.initialized kc.1.cls ∈ xws G ∧ Cond.code kc.1 kc.2.1 kc.2.2.1 kc.2.2.2 ∈ xws G ∧ (kc.1.cls ≠ "java/lang/invoke/MethodHandle" ∧ kc.1.cls ≠ "java/lang/invoke/VarHandle" ∧ (parseMethodDescriptor kc.1.desc).map (fun d => d.parameters.length) = some n) ∧ (plainName kc.1.cls = true ∨ plainFor kc.1 = true) ∧ kc.2.2.1 ≤ 23 ∧ (∀ w ∈ xws G, goodWord w = true)
def xLS (G : xG) (own : String) (idx : Nat) (kc : xM) (n : Nat) : Prop := xLc G kc n ∧ Cond.methodLink own idx kc.1 ∈ xws G ∧ Cond.static kc.1 ∈ xws G
def xLSN (G : xG) (own : String) (idx : Nat) (kc : xM) (n : Nat) : Prop := xLc G kc n ∧ (∃ host : String, Cond.methodLinkNest own idx kc.1 host ∈ xnw G) ∧ Cond.static kc.1 ∈ xws G
def xLI (G : xG) (own : String) (idx : Nat) (kc : xM) (n : Nat) : Prop := xLc G kc n ∧ Cond.methodLink own idx kc.1 ∈ xws G ∧ Cond.instanceMethod kc.1 ∈ xws G ∧ kc.1.name = "<init>" ∧ kc.2.2.2 = none
def xLIN (G : xG) (own : String) (idx : Nat) (kc : xM) (n : Nat) : Prop := xLc G kc n ∧ (∃ host : String, Cond.methodLinkNest own idx kc.1 host ∈ xnw G) ∧ Cond.instanceMethod kc.1 ∈ xws G ∧ kc.1.name = "<init>" ∧ kc.2.2.2 = none
def xLV (G : xG) (own C : String) (idx : Nat) (kc : xM) (n : Nat) : Prop := xLc G kc n ∧ Cond.methodLink own idx kc.1 ∈ xws G ∧ Cond.instanceMethod kc.1 ∈ xws G ∧ Cond.selects C kc.1 kc.1 ∈ xws G
def xLVN (G : xG) (own C : String) (idx : Nat) (kc : xM) (n : Nat) : Prop := xLc G kc n ∧ (∃ host : String, Cond.methodLinkNest own idx kc.1 host ∈ xnw G) ∧ Cond.instanceMethod kc.1 ∈ xws G ∧ Cond.selects C kc.1 kc.1 ∈ xws G
theorem xLc.good {G : xG} {kc : xM} {n : Nat} (h : xLc G kc n) : GoodIn (xws G) (Cond.code kc.1 kc.2.1 kc.2.2.1 kc.2.2.2 :: xws G) := by
  intro x hx
  have hm : x ∈ xws G := by
    rcases List.mem_cons.mp hx with rfl | hx
    · exact h.2.1
    · exact hx
  exact ⟨hm, good_of_word (h.2.2.2.2.2 x hm)⟩
section XCL
variable {G : xG} {d : Nat} {k kc : xM} {pc dc : Nat} {lc : List (Nat × Value)} {st : List Value} {w : xW} {P Pc : Option Value → xW → Prop}
theorem x_call {idx n : Nat} (q : Nat) (hq : pc + 3 = q) (As rest : List Value) (hS : st = As.reverse ++ rest) (hd : decode k.2.1 pc = .ok (.invokestatic idx, 3)) (hk : xLS G k.1.cls idx kc n ∨ xLSN G k.1.cls idx kc n) (hn : As.length = n) (hr : (rest.map fun v => v.category).sum ≤ 8) (hls : (lg_sl As).length ≤ kc.2.2.1) (hdd : dc + 1 ≤ d) (hc : xE G dc kc 0 (lv_args 0 As) [] w Pc) (kk : ∀ v w1, Pc v w1 → xE G d k q lc (v.toList ++ rest) w1 P) : xE G d k pc lc st w P := by
  subst hq
  subst hS
  obtain ⟨v, w1, hP1, hV1⟩ := hc
  obtain ⟨v', w', hP', h1, h2, h3⟩ := kk v w1 hP1
  have g1 := hV1.1
  have g2 := hV1.2.1
  refine ⟨v', w', hP', by omega, by omega, fun p e R s m args below meth c H locs cells slots ls C r hl hL hc hs => ?_⟩
  have C' := C
  obtain ⟨c1, c2, c3, c4, c5, c6, c7, c8, c9, c10, c11⟩ := C
  have hcc : cells + (w1.1 - w.1) + (w'.1 - w1.1) = R.cells := by omega
  have hss : slots + (w1.2.1 - w.2.1) + (w'.2.1 - w1.2.1) = R.slots := by omega
  have hp : PreS s H (xPc G As w) As := ⟨xPc.blind, fun U hU hW => ⟨rfl, c9.warm hW, by rw [hU]; exact r.moved hW.alike⟩⟩
  have hR : (xrm dc w w1).frames + 1 ≤ R.frames ∧ 8 + (kc.2.2.1 + 11) + (xrm dc w w1).locals ≤ R.locals := by
    have hm : kc.2.2.1 ≤ 23 := by
      rcases hk with hk | hk
      · exact hk.1.2.2.2.2.1
      · exact hk.1.2.2.2.2.1
    show dc + 1 ≤ _ ∧ 8 + (kc.2.2.1 + 11) + 42 * dc ≤ _
    omega
  refine xRun (G := G) (w1 := w1) (v := v) (mc := w1.1 - w.1) (ms := w1.2.1 - w.2.1) (rest := rest) (a := As.toArray) ?_ hL (fun H1 locs1 r1 hL1 => h3 p e R s m args below meth c H1 locs1 _ _ ls C' r1 hl hL1 hcc hss)
  rcases hk with ⟨hk, hk1, hk2⟩ | ⟨hk, ⟨host, hk1⟩, hk2⟩
  · have hM := hV1.met hk.2.2.2.1 hls
    exact va_runS ⟨c1, c2, c3, c7, c8⟩ hM ⟨callB_of n c8 hk.good rfl rfl rfl (c8 _ hk.1) (c8 _ hk1) hk.2.2.1 hR, c8 _ hk2⟩ hp rfl hn hl.1 rfl (lv_room hr) hd ⟨by omega, by omega⟩
  · have hM := hV1.met hk.2.2.2.1 hls
    exact va_runSN ⟨c1, c2, c3, c7, c8⟩ hM ⟨va_cnB n c8 hk.good rfl rfl rfl (c9.2 _ hk1).2 (c8 _ hk.1) hk.2.2.1 hR, c8 _ hk2, trivial⟩ hp rfl hn hl.1 rfl (lv_room hr) hd ⟨by omega, by omega⟩
theorem x_callI {idx n b : Nat} (q : Nat) (hq : pc + 3 = q) (As rest : List Value) (hS : st = As.reverse ++ .ref b :: rest) (hd : decode k.2.1 pc = .ok (.invokespecial idx, 3)) (hk : xLI G k.1.cls idx kc n ∨ xLIN G k.1.cls idx kc n) (hn : As.length = n) (hr : (rest.map fun v => v.category).sum ≤ 8) (hls : (lg_sl (.ref b :: As)).length ≤ kc.2.2.1) (hdd : dc + 1 ≤ d) (hc : xE G dc kc 0 (lv_args 0 (.ref b :: As)) [] w Pc) (kk : ∀ v w1, Pc v w1 → xE G d k q lc (v.toList ++ rest) w1 P) : xE G d k pc lc st w P := by
  subst hq
  subst hS
  obtain ⟨v, w1, hP1, hV1⟩ := hc
  obtain ⟨v', w', hP', h1, h2, h3⟩ := kk v w1 hP1
  have g1 := hV1.1
  have g2 := hV1.2.1
  refine ⟨v', w', hP', by omega, by omega, fun p e R s m args below meth c H locs cells slots ls C r hl hL hc hs => ?_⟩
  have C' := C
  obtain ⟨c1, c2, c3, c4, c5, c6, c7, c8, c9, c10, c11⟩ := C
  have hcc : cells + (w1.1 - w.1) + (w'.1 - w1.1) = R.cells := by omega
  have hss : slots + (w1.2.1 - w.2.1) + (w'.2.1 - w1.2.1) = R.slots := by omega
  have hp : PreS s H (xPc G (.ref b :: As) w) (.ref b :: As) := ⟨xPc.blind, fun U hU hW => ⟨rfl, c9.warm hW, by rw [hU]; exact r.moved hW.alike⟩⟩
  have hR : (xrm dc w w1).frames + 1 ≤ R.frames ∧ 8 + (kc.2.2.1 + 11) + (xrm dc w w1).locals ≤ R.locals := by
    have hm : kc.2.2.1 ≤ 23 := by
      rcases hk with hk | hk
      · exact hk.1.2.2.2.2.1
      · exact hk.1.2.2.2.2.1
    show dc + 1 ≤ _ ∧ 8 + (kc.2.2.1 + 11) + 42 * dc ≤ _
    omega
  refine xRun (G := G) (w1 := w1) (v := v) (mc := w1.1 - w.1) (ms := w1.2.1 - w.2.1) (rest := rest) (a := (Value.ref b :: As).toArray) ?_ hL (fun H1 locs1 r1 hL1 => h3 p e R s m args below meth c H1 locs1 _ _ ls C' r1 hl hL1 hcc hss)
  rcases hk with ⟨hk, hk1, hk2, hk3, hk4⟩ | ⟨hk, ⟨host, hk1⟩, hk2, hk3, hk4⟩
  · have hM := hV1.met hk.2.2.2.1 hls
    have hcb := callB_of (R := R) n c8 hk.good rfl rfl rfl (c8 _ hk.1) (c8 _ hk1) hk.2.2.1 hR
    rw [hk4] at hcb hM
    exact va_runI ⟨c1, c2, c3, c7, c8⟩ hM ⟨hcb, hk3, c8 _ hk2⟩ hp rfl hn hl.1 rfl (lv_room hr) hd ⟨by omega, by omega⟩
  · have hM := hV1.met hk.2.2.2.1 hls
    have hcb := va_cnB (R := R) n c8 hk.good rfl rfl rfl (c9.2 _ hk1).2 (c8 _ hk.1) hk.2.2.1 hR
    rw [hk4] at hcb hM
    exact va_runIN ⟨c1, c2, c3, c7, c8⟩ hM ⟨hcb, hk3, c8 _ hk2⟩ hp rfl hn hl.1 rfl (lv_room hr) hd ⟨by omega, by omega⟩
theorem x_callV {idx n b ci : Nat} {r0 : vw_C} {fs : List Value} (q : Nat) (hq : pc + 3 = q) (As rest : List Value) (hS : st = As.reverse ++ .ref b :: rest) (hd : decode k.2.1 pc = .ok (.invokevirtual idx, 3)) (hb : w.2.2 b = some (.inr (ci, fs))) (hci : (xcl G)[ci]? = some r0) (hk : xLV G k.1.cls r0.1 idx kc n ∨ xLVN G k.1.cls r0.1 idx kc n) (hn : As.length = n) (hr : (rest.map fun v => v.category).sum ≤ 8) (hls : (lg_sl (.ref b :: As)).length ≤ kc.2.2.1) (hdd : dc + 1 ≤ d) (hc : xE G dc kc 0 (lv_args 0 (.ref b :: As)) [] w Pc) (kk : ∀ v w1, Pc v w1 → xE G d k q lc (v.toList ++ rest) w1 P) : xE G d k pc lc st w P := by
  subst hq
  subst hS
  obtain ⟨v, w1, hP1, hV1⟩ := hc
  obtain ⟨v', w', hP', h1, h2, h3⟩ := kk v w1 hP1
  have g1 := hV1.1
  have g2 := hV1.2.1
  refine ⟨v', w', hP', by omega, by omega, fun p e R s m args below meth c H locs cells slots ls C r hl hL hc hs => ?_⟩
  have C' := C
  obtain ⟨c1, c2, c3, c4, c5, c6, c7, c8, c9, c10, c11⟩ := C
  have hcc : cells + (w1.1 - w.1) + (w'.1 - w1.1) = R.cells := by omega
  have hss : slots + (w1.2.1 - w.2.1) + (w'.2.1 - w1.2.1) = R.slots := by omega
  have hp : PreV s H r0.1 b (xPc G (.ref b :: As) w) As := ⟨xPc.blind, va_recv c9.1 (r.one hb) hci (q0 := 0) rfl, fun U hU hW => ⟨rfl, c9.warm hW, by rw [hU]; exact r.moved hW.alike⟩⟩
  have hR : (xrm dc w w1).frames + 1 ≤ R.frames ∧ 8 + (kc.2.2.1 + 11) + (xrm dc w w1).locals ≤ R.locals := by
    have hm : kc.2.2.1 ≤ 23 := by
      rcases hk with hk | hk
      · exact hk.1.2.2.2.2.1
      · exact hk.1.2.2.2.2.1
    show dc + 1 ≤ _ ∧ 8 + (kc.2.2.1 + 11) + 42 * dc ≤ _
    omega
  refine xRun (G := G) (w1 := w1) (v := v) (mc := w1.1 - w.1) (ms := w1.2.1 - w.2.1) (rest := rest) (a := (Value.ref b :: As).toArray) ?_ hL (fun H1 locs1 r1 hL1 => h3 p e R s m args below meth c H1 locs1 _ _ ls C' r1 hl hL1 hcc hss)
  rcases hk with ⟨hk, hk1, hk2, hk3⟩ | ⟨hk, ⟨host, hk1⟩, hk2, hk3⟩
  · have hM := hV1.met hk.2.2.2.1 hls
    exact va_runV ⟨c1, c2, c3, c7, c8⟩ hM ⟨callB_of n c8 hk.good rfl rfl rfl (c8 _ hk.1) (c8 _ hk1) hk.2.2.1 hR, c8 _ hk2, c8 _ hk3⟩ hp rfl hn hl.1 rfl (lv_room hr) hd ⟨by omega, by omega⟩
  · have hM := hV1.met hk.2.2.2.1 hls
    exact va_runVN ⟨c1, c2, c3, c7, c8⟩ hM ⟨va_cnB n c8 hk.good rfl rfl rfl (c9.2 _ hk1).2 (c8 _ hk.1) hk.2.2.1 hR, c8 _ hk2, c8 _ hk3⟩ hp rfl hn hl.1 rfl (lv_room hr) hd ⟨by omega, by omega⟩
end XCL

/-! CALLS, by contracts that take what comes behind: 'xkk' is the rest of the caller -/
def xkk (G : xG) (d : Nat) (k : xM) (q : Nat) (lc : List (Nat × Value)) (rest : List Value) (P : Option Value → xW → Prop) : Option Value → xW → Prop := fun v w1 => match v with
  | some x => xE G d k q lc (x :: rest) w1 P
  | none => xE G d k q lc rest w1 P
section XCK
variable {G : xG} {d : Nat} {k kc : xM} {pc dc : Nat} {lc : List (Nat × Value)} {st : List Value} {w : xW} {P : Option Value → xW → Prop}
theorem y_call {idx n : Nat} (q : Nat) (hq : pc + 3 = q) (As rest : List Value) (hS : st = As.reverse ++ rest) (hd : decode k.2.1 pc = .ok (.invokestatic idx, 3)) (hk : xLS G k.1.cls idx kc n ∨ xLSN G k.1.cls idx kc n) (hn : As.length = n) (hr : (rest.map fun v => v.category).sum ≤ 8) (hls : (lg_sl As).length ≤ kc.2.2.1) (hdd : dc + 1 ≤ d) (hc : xE G dc kc 0 (lv_args 0 As) [] w (xkk G d k q lc rest P)) : xE G d k pc lc st w P :=
  x_call q hq As rest hS hd hk hn hr hls hdd hc (fun v w1 h => by cases v <;> exact h)
theorem y_callI {idx n b : Nat} (q : Nat) (hq : pc + 3 = q) (As rest : List Value) (hS : st = As.reverse ++ .ref b :: rest) (hd : decode k.2.1 pc = .ok (.invokespecial idx, 3)) (hk : xLI G k.1.cls idx kc n ∨ xLIN G k.1.cls idx kc n) (hn : As.length = n) (hr : (rest.map fun v => v.category).sum ≤ 8) (hls : (lg_sl (.ref b :: As)).length ≤ kc.2.2.1) (hdd : dc + 1 ≤ d) (hc : xE G dc kc 0 (lv_args 0 (.ref b :: As)) [] w (xkk G d k q lc rest P)) : xE G d k pc lc st w P :=
  x_callI q hq As rest hS hd hk hn hr hls hdd hc (fun v w1 h => by cases v <;> exact h)
theorem y_callV {idx n b ci : Nat} {r0 : vw_C} {fs : List Value} (q : Nat) (hq : pc + 3 = q) (As rest : List Value) (hS : st = As.reverse ++ .ref b :: rest) (hd : decode k.2.1 pc = .ok (.invokevirtual idx, 3)) (hb : w.2.2 b = some (.inr (ci, fs))) (hci : (xcl G)[ci]? = some r0) (hk : xLV G k.1.cls r0.1 idx kc n ∨ xLVN G k.1.cls r0.1 idx kc n) (hn : As.length = n) (hr : (rest.map fun v => v.category).sum ≤ 8) (hls : (lg_sl (.ref b :: As)).length ≤ kc.2.2.1) (hdd : dc + 1 ≤ d) (hc : xE G dc kc 0 (lv_args 0 (.ref b :: As)) [] w (xkk G d k q lc rest P)) : xE G d k pc lc st w P :=
  x_callV q hq As rest hS hd hb hci hk hn hr hls hdd hc (fun v w1 h => by cases v <;> exact h)
end XCK
end
section
/-- a private method of a class that the tables say can be made, by its rows of tables_1 -/
def lw_okq (q : MethodName × Nat) : Prop := (q.1.cls ≠ "java/lang/invoke/MethodHandle" ∧ q.1.cls ≠ "java/lang/invoke/VarHandle") ∧ Cond.instantiable q.1.cls q.2 ∈ tables_1 ∧ Cond.privateMethod q.1 ∈ tables_1 ∧ Cond.instanceMethod q.1 ∈ tables_1
theorem lw_p0 : lw_okq (⟨"EpochLedger$Node", "propose", "()V"⟩, 8) := ⟨⟨by decide +kernel, by decide +kernel⟩, List.mem_of_getElem? (i := 81) (by decide +kernel), List.mem_of_getElem? (i := 297) (by decide +kernel), List.mem_of_getElem? (i := 298) (by decide +kernel)⟩
theorem lw_p1 : lw_okq (⟨"java/util/ArrayList", "add", "(Ljava/lang/Object;[Ljava/lang/Object;I)V"⟩, 3) := ⟨⟨by decide +kernel, by decide +kernel⟩, List.mem_of_getElem? (i := 45) (by decide +kernel), List.mem_of_getElem? (i := 379) (by decide +kernel), List.mem_of_getElem? (i := 380) (by decide +kernel)⟩
theorem lw_p2 : lw_okq (⟨"java/util/ArrayList", "grow", "()[Ljava/lang/Object;"⟩, 3) := ⟨⟨by decide +kernel, by decide +kernel⟩, List.mem_of_getElem? (i := 45) (by decide +kernel), List.mem_of_getElem? (i := 383) (by decide +kernel), List.mem_of_getElem? (i := 384) (by decide +kernel)⟩
theorem lw_p3 : lw_okq (⟨"java/util/ArrayList", "grow", "(I)[Ljava/lang/Object;"⟩, 3) := ⟨⟨by decide +kernel, by decide +kernel⟩, List.mem_of_getElem? (i := 45) (by decide +kernel), List.mem_of_getElem? (i := 387) (by decide +kernel), List.mem_of_getElem? (i := 388) (by decide +kernel)⟩
theorem lw_p4 : lw_okq (⟨"EpochLedger$Node", "goOnWith", "(II)V"⟩, 8) := ⟨⟨by decide +kernel, by decide +kernel⟩, List.mem_of_getElem? (i := 81) (by decide +kernel), List.mem_of_getElem? (i := 433) (by decide +kernel), List.mem_of_getElem? (i := 434) (by decide +kernel)⟩
theorem lw_p5 : lw_okq (⟨"EpochLedger$Node", "goOnAndLook", "(I)V"⟩, 8) := ⟨⟨by decide +kernel, by decide +kernel⟩, List.mem_of_getElem? (i := 81) (by decide +kernel), List.mem_of_getElem? (i := 437) (by decide +kernel), List.mem_of_getElem? (i := 438) (by decide +kernel)⟩
theorem lw_p6 : lw_okq (⟨"EpochLedger$Broadcast", "proposalOf", "(I)I"⟩, 13) := ⟨⟨by decide +kernel, by decide +kernel⟩, List.mem_of_getElem? (i := 104) (by decide +kernel), List.mem_of_getElem? (i := 482) (by decide +kernel), List.mem_of_getElem? (i := 483) (by decide +kernel)⟩
theorem lw_p7 : lw_okq (⟨"EpochLedger$Broadcast", "sendReady", "(I)V"⟩, 13) := ⟨⟨by decide +kernel, by decide +kernel⟩, List.mem_of_getElem? (i := 104) (by decide +kernel), List.mem_of_getElem? (i := 493) (by decide +kernel), List.mem_of_getElem? (i := 494) (by decide +kernel)⟩
theorem lw_p8 : lw_okq (⟨"EpochLedger$Agreement", "sendVote", "(I)V"⟩, 14) := ⟨⟨by decide +kernel, by decide +kernel⟩, List.mem_of_getElem? (i := 165) (by decide +kernel), List.mem_of_getElem? (i := 514) (by decide +kernel), List.mem_of_getElem? (i := 515) (by decide +kernel)⟩
theorem lw_p9 : lw_okq (⟨"EpochLedger$Agreement", "voters", "(I)I"⟩, 14) := ⟨⟨by decide +kernel, by decide +kernel⟩, List.mem_of_getElem? (i := 165) (by decide +kernel), List.mem_of_getElem? (i := 521) (by decide +kernel), List.mem_of_getElem? (i := 522) (by decide +kernel)⟩
theorem lw_p10 : lw_okq (⟨"EpochLedger$Agreement", "makeGood", "(I)V"⟩, 14) := ⟨⟨by decide +kernel, by decide +kernel⟩, List.mem_of_getElem? (i := 165) (by decide +kernel), List.mem_of_getElem? (i := 526) (by decide +kernel), List.mem_of_getElem? (i := 527) (by decide +kernel)⟩
theorem lw_p11 : lw_okq (⟨"EpochLedger$Agreement", "goodSures", "(I)I"⟩, 14) := ⟨⟨by decide +kernel, by decide +kernel⟩, List.mem_of_getElem? (i := 165) (by decide +kernel), List.mem_of_getElem? (i := 530) (by decide +kernel), List.mem_of_getElem? (i := 531) (by decide +kernel)⟩
theorem lw_p12 : lw_okq (⟨"EpochLedger$Agreement", "finishRound", "()V"⟩, 14) := ⟨⟨by decide +kernel, by decide +kernel⟩, List.mem_of_getElem? (i := 165) (by decide +kernel), List.mem_of_getElem? (i := 534) (by decide +kernel), List.mem_of_getElem? (i := 535) (by decide +kernel)⟩
theorem lw_p13 : lw_okq (⟨"EpochLedger$Agreement", "enterNextRound", "()V"⟩, 14) := ⟨⟨by decide +kernel, by decide +kernel⟩, List.mem_of_getElem? (i := 165) (by decide +kernel), List.mem_of_getElem? (i := 541) (by decide +kernel), List.mem_of_getElem? (i := 542) (by decide +kernel)⟩
theorem lw_p14 : lw_okq (⟨"EpochLedger$Node", "instanceToRefuse", "()I"⟩, 8) := ⟨⟨by decide +kernel, by decide +kernel⟩, List.mem_of_getElem? (i := 81) (by decide +kernel), List.mem_of_getElem? (i := 545) (by decide +kernel), List.mem_of_getElem? (i := 546) (by decide +kernel)⟩
theorem lw_p15 : lw_okq (⟨"EpochLedger$Node", "mayCommit", "()Z"⟩, 8) := ⟨⟨by decide +kernel, by decide +kernel⟩, List.mem_of_getElem? (i := 81) (by decide +kernel), List.mem_of_getElem? (i := 550) (by decide +kernel), List.mem_of_getElem? (i := 551) (by decide +kernel)⟩
def lw_privs_1 : List (MethodName × Nat) := [(⟨"EpochLedger$Node", "propose", "()V"⟩, 8), (⟨"java/util/ArrayList", "add", "(Ljava/lang/Object;[Ljava/lang/Object;I)V"⟩, 3), (⟨"java/util/ArrayList", "grow", "()[Ljava/lang/Object;"⟩, 3), (⟨"java/util/ArrayList", "grow", "(I)[Ljava/lang/Object;"⟩, 3), (⟨"EpochLedger$Node", "goOnWith", "(II)V"⟩, 8), (⟨"EpochLedger$Node", "goOnAndLook", "(I)V"⟩, 8), (⟨"EpochLedger$Broadcast", "proposalOf", "(I)I"⟩, 13), (⟨"EpochLedger$Broadcast", "sendReady", "(I)V"⟩, 13), (⟨"EpochLedger$Agreement", "sendVote", "(I)V"⟩, 14), (⟨"EpochLedger$Agreement", "voters", "(I)I"⟩, 14), (⟨"EpochLedger$Agreement", "makeGood", "(I)V"⟩, 14), (⟨"EpochLedger$Agreement", "goodSures", "(I)I"⟩, 14), (⟨"EpochLedger$Agreement", "finishRound", "()V"⟩, 14), (⟨"EpochLedger$Agreement", "enterNextRound", "()V"⟩, 14), (⟨"EpochLedger$Node", "instanceToRefuse", "()I"⟩, 8), (⟨"EpochLedger$Node", "mayCommit", "()Z"⟩, 8)]
theorem lw_r1 : ∀ q ∈ lw_privs_1, lw_okq q := List.forall_mem_cons.mpr ⟨lw_p0, List.forall_mem_cons.mpr ⟨lw_p1, List.forall_mem_cons.mpr ⟨lw_p2, List.forall_mem_cons.mpr ⟨lw_p3, List.forall_mem_cons.mpr ⟨lw_p4, List.forall_mem_cons.mpr ⟨lw_p5, List.forall_mem_cons.mpr ⟨lw_p6, List.forall_mem_cons.mpr ⟨lw_p7, List.forall_mem_cons.mpr ⟨lw_p8, List.forall_mem_cons.mpr ⟨lw_p9, List.forall_mem_cons.mpr ⟨lw_p10, List.forall_mem_cons.mpr ⟨lw_p11, List.forall_mem_cons.mpr ⟨lw_p12, List.forall_mem_cons.mpr ⟨lw_p13, List.forall_mem_cons.mpr ⟨lw_p14, List.forall_mem_cons.mpr ⟨lw_p15, fun _ h => absurd h List.not_mem_nil⟩⟩⟩⟩⟩⟩⟩⟩⟩⟩⟩⟩⟩⟩⟩⟩
theorem lw_p16 : lw_okq (⟨"EpochLedger$Node", "commit", "()V"⟩, 8) := ⟨⟨by decide +kernel, by decide +kernel⟩, List.mem_of_getElem? (i := 81) (by decide +kernel), List.mem_of_getElem? (i := 554) (by decide +kernel), List.mem_of_getElem? (i := 555) (by decide +kernel)⟩
theorem lw_p17 : lw_okq (⟨"EpochLedger$Node", "isAccepted", "(I)Z"⟩, 8) := ⟨⟨by decide +kernel, by decide +kernel⟩, List.mem_of_getElem? (i := 81) (by decide +kernel), List.mem_of_getElem? (i := 558) (by decide +kernel), List.mem_of_getElem? (i := 559) (by decide +kernel)⟩
theorem lw_p18 : lw_okq (⟨"java/util/ArrayList", "fastRemove", "([Ljava/lang/Object;I)V"⟩, 3) := ⟨⟨by decide +kernel, by decide +kernel⟩, List.mem_of_getElem? (i := 45) (by decide +kernel), List.mem_of_getElem? (i := 592) (by decide +kernel), List.mem_of_getElem? (i := 593) (by decide +kernel)⟩
theorem lw_p19 : lw_okq (⟨"EpochLedger$Broadcast", "keepValue", "(LEpochLedger$Message;)V"⟩, 13) := ⟨⟨by decide +kernel, by decide +kernel⟩, List.mem_of_getElem? (i := 104) (by decide +kernel), List.mem_of_getElem? (i := 610) (by decide +kernel), List.mem_of_getElem? (i := 611) (by decide +kernel)⟩
theorem lw_p20 : lw_okq (⟨"EpochLedger$Broadcast", "keepEcho", "(LEpochLedger$Message;)V"⟩, 13) := ⟨⟨by decide +kernel, by decide +kernel⟩, List.mem_of_getElem? (i := 104) (by decide +kernel), List.mem_of_getElem? (i := 617) (by decide +kernel), List.mem_of_getElem? (i := 618) (by decide +kernel)⟩
theorem lw_p21 : lw_okq (⟨"EpochLedgerModel", "coinOf", "(III)I"⟩, 37) := ⟨⟨by decide +kernel, by decide +kernel⟩, List.mem_of_getElem? (i := 692) (by decide +kernel), List.mem_of_getElem? (i := 847) (by decide +kernel), List.mem_of_getElem? (i := 848) (by decide +kernel)⟩
theorem lw_p22 : lw_okq (⟨"EpochLedgerModel", "isBooked", "(II)Z"⟩, 37) := ⟨⟨by decide +kernel, by decide +kernel⟩, List.mem_of_getElem? (i := 692) (by decide +kernel), List.mem_of_getElem? (i := 855) (by decide +kernel), List.mem_of_getElem? (i := 856) (by decide +kernel)⟩
theorem lw_p23 : lw_okq (⟨"EpochLedgerModel", "waits", "(II)Z"⟩, 37) := ⟨⟨by decide +kernel, by decide +kernel⟩, List.mem_of_getElem? (i := 692) (by decide +kernel), List.mem_of_getElem? (i := 863) (by decide +kernel), List.mem_of_getElem? (i := 864) (by decide +kernel)⟩
theorem lw_p24 : lw_okq (⟨"EpochLedgerModel", "reach", "(II)V"⟩, 37) := ⟨⟨by decide +kernel, by decide +kernel⟩, List.mem_of_getElem? (i := 692) (by decide +kernel), List.mem_of_getElem? (i := 871) (by decide +kernel), List.mem_of_getElem? (i := 872) (by decide +kernel)⟩
theorem lw_p25 : lw_okq (⟨"EpochLedgerModel", "value", "(IIZZI)V"⟩, 37) := ⟨⟨by decide +kernel, by decide +kernel⟩, List.mem_of_getElem? (i := 692) (by decide +kernel), List.mem_of_getElem? (i := 875) (by decide +kernel), List.mem_of_getElem? (i := 876) (by decide +kernel)⟩
theorem lw_p26 : lw_okq (⟨"EpochLedgerModel", "answer", "(IIII)V"⟩, 37) := ⟨⟨by decide +kernel, by decide +kernel⟩, List.mem_of_getElem? (i := 692) (by decide +kernel), List.mem_of_getElem? (i := 885) (by decide +kernel), List.mem_of_getElem? (i := 886) (by decide +kernel)⟩
theorem lw_p27 : lw_okq (⟨"EpochLedgerModel", "settle", "(I)V"⟩, 37) := ⟨⟨by decide +kernel, by decide +kernel⟩, List.mem_of_getElem? (i := 692) (by decide +kernel), List.mem_of_getElem? (i := 889) (by decide +kernel), List.mem_of_getElem? (i := 890) (by decide +kernel)⟩
theorem lw_p28 : lw_okq (⟨"EpochLedgerModel", "rule", "(II)Z"⟩, 37) := ⟨⟨by decide +kernel, by decide +kernel⟩, List.mem_of_getElem? (i := 692) (by decide +kernel), List.mem_of_getElem? (i := 893) (by decide +kernel), List.mem_of_getElem? (i := 894) (by decide +kernel)⟩
theorem lw_p29 : lw_okq (⟨"EpochLedgerModel", "post", "(IIIIIII)V"⟩, 37) := ⟨⟨by decide +kernel, by decide +kernel⟩, List.mem_of_getElem? (i := 692) (by decide +kernel), List.mem_of_getElem? (i := 897) (by decide +kernel), List.mem_of_getElem? (i := 898) (by decide +kernel)⟩
theorem lw_p30 : lw_okq (⟨"EpochLedgerModel", "ready", "(IIII)Z"⟩, 37) := ⟨⟨by decide +kernel, by decide +kernel⟩, List.mem_of_getElem? (i := 692) (by decide +kernel), List.mem_of_getElem? (i := 901) (by decide +kernel), List.mem_of_getElem? (i := 902) (by decide +kernel)⟩
theorem lw_p31 : lw_okq (⟨"EpochLedgerModel", "echoes", "(II)I"⟩, 37) := ⟨⟨by decide +kernel, by decide +kernel⟩, List.mem_of_getElem? (i := 692) (by decide +kernel), List.mem_of_getElem? (i := 905) (by decide +kernel), List.mem_of_getElem? (i := 906) (by decide +kernel)⟩
def lw_privs_2 : List (MethodName × Nat) := [(⟨"EpochLedger$Node", "commit", "()V"⟩, 8), (⟨"EpochLedger$Node", "isAccepted", "(I)Z"⟩, 8), (⟨"java/util/ArrayList", "fastRemove", "([Ljava/lang/Object;I)V"⟩, 3), (⟨"EpochLedger$Broadcast", "keepValue", "(LEpochLedger$Message;)V"⟩, 13), (⟨"EpochLedger$Broadcast", "keepEcho", "(LEpochLedger$Message;)V"⟩, 13), (⟨"EpochLedgerModel", "coinOf", "(III)I"⟩, 37), (⟨"EpochLedgerModel", "isBooked", "(II)Z"⟩, 37), (⟨"EpochLedgerModel", "waits", "(II)Z"⟩, 37), (⟨"EpochLedgerModel", "reach", "(II)V"⟩, 37), (⟨"EpochLedgerModel", "value", "(IIZZI)V"⟩, 37), (⟨"EpochLedgerModel", "answer", "(IIII)V"⟩, 37), (⟨"EpochLedgerModel", "settle", "(I)V"⟩, 37), (⟨"EpochLedgerModel", "rule", "(II)Z"⟩, 37), (⟨"EpochLedgerModel", "post", "(IIIIIII)V"⟩, 37), (⟨"EpochLedgerModel", "ready", "(IIII)Z"⟩, 37), (⟨"EpochLedgerModel", "echoes", "(II)I"⟩, 37)]
theorem lw_r2 : ∀ q ∈ lw_privs_2, lw_okq q := List.forall_mem_cons.mpr ⟨lw_p16, List.forall_mem_cons.mpr ⟨lw_p17, List.forall_mem_cons.mpr ⟨lw_p18, List.forall_mem_cons.mpr ⟨lw_p19, List.forall_mem_cons.mpr ⟨lw_p20, List.forall_mem_cons.mpr ⟨lw_p21, List.forall_mem_cons.mpr ⟨lw_p22, List.forall_mem_cons.mpr ⟨lw_p23, List.forall_mem_cons.mpr ⟨lw_p24, List.forall_mem_cons.mpr ⟨lw_p25, List.forall_mem_cons.mpr ⟨lw_p26, List.forall_mem_cons.mpr ⟨lw_p27, List.forall_mem_cons.mpr ⟨lw_p28, List.forall_mem_cons.mpr ⟨lw_p29, List.forall_mem_cons.mpr ⟨lw_p30, List.forall_mem_cons.mpr ⟨lw_p31, fun _ h => absurd h List.not_mem_nil⟩⟩⟩⟩⟩⟩⟩⟩⟩⟩⟩⟩⟩⟩⟩⟩
theorem lw_p32 : lw_okq (⟨"EpochLedgerModel", "makes", "(II)Z"⟩, 37) := ⟨⟨by decide +kernel, by decide +kernel⟩, List.mem_of_getElem? (i := 692) (by decide +kernel), List.mem_of_getElem? (i := 909) (by decide +kernel), List.mem_of_getElem? (i := 910) (by decide +kernel)⟩
theorem lw_p33 : lw_okq (⟨"EpochLedgerModel", "readies", "(II)I"⟩, 37) := ⟨⟨by decide +kernel, by decide +kernel⟩, List.mem_of_getElem? (i := 692) (by decide +kernel), List.mem_of_getElem? (i := 916) (by decide +kernel), List.mem_of_getElem? (i := 917) (by decide +kernel)⟩
theorem lw_p34 : lw_okq (⟨"EpochLedgerModel", "proposal", "(II)Z"⟩, 37) := ⟨⟨by decide +kernel, by decide +kernel⟩, List.mem_of_getElem? (i := 692) (by decide +kernel), List.mem_of_getElem? (i := 920) (by decide +kernel), List.mem_of_getElem? (i := 921) (by decide +kernel)⟩
theorem lw_p35 : lw_okq (⟨"EpochLedgerModel", "agree", "(IIIII)Z"⟩, 37) := ⟨⟨by decide +kernel, by decide +kernel⟩, List.mem_of_getElem? (i := 692) (by decide +kernel), List.mem_of_getElem? (i := 924) (by decide +kernel), List.mem_of_getElem? (i := 925) (by decide +kernel)⟩
theorem lw_p36 : lw_okq (⟨"EpochLedgerModel", "vote", "(IIIIII)V"⟩, 37) := ⟨⟨by decide +kernel, by decide +kernel⟩, List.mem_of_getElem? (i := 692) (by decide +kernel), List.mem_of_getElem? (i := 928) (by decide +kernel), List.mem_of_getElem? (i := 929) (by decide +kernel)⟩
theorem lw_p37 : lw_okq (⟨"EpochLedgerModel", "voters", "(II)I"⟩, 37) := ⟨⟨by decide +kernel, by decide +kernel⟩, List.mem_of_getElem? (i := 692) (by decide +kernel), List.mem_of_getElem? (i := 932) (by decide +kernel), List.mem_of_getElem? (i := 933) (by decide +kernel)⟩
theorem lw_p38 : lw_okq (⟨"EpochLedgerModel", "finish", "(IIII)Z"⟩, 37) := ⟨⟨by decide +kernel, by decide +kernel⟩, List.mem_of_getElem? (i := 692) (by decide +kernel), List.mem_of_getElem? (i := 936) (by decide +kernel), List.mem_of_getElem? (i := 937) (by decide +kernel)⟩
theorem lw_p39 : lw_okq (⟨"EpochLedgerModel", "look", "(I)V"⟩, 37) := ⟨⟨by decide +kernel, by decide +kernel⟩, List.mem_of_getElem? (i := 692) (by decide +kernel), List.mem_of_getElem? (i := 940) (by decide +kernel), List.mem_of_getElem? (i := 941) (by decide +kernel)⟩
theorem lw_p40 : lw_okq (⟨"EpochLedgerModel", "commit", "(I)V"⟩, 37) := ⟨⟨by decide +kernel, by decide +kernel⟩, List.mem_of_getElem? (i := 692) (by decide +kernel), List.mem_of_getElem? (i := 944) (by decide +kernel), List.mem_of_getElem? (i := 945) (by decide +kernel)⟩
theorem lw_p41 : lw_okq (⟨"EpochLedgerModel", "unqueue", "(II)V"⟩, 37) := ⟨⟨by decide +kernel, by decide +kernel⟩, List.mem_of_getElem? (i := 692) (by decide +kernel), List.mem_of_getElem? (i := 948) (by decide +kernel), List.mem_of_getElem? (i := 949) (by decide +kernel)⟩
theorem lw_p42 : lw_okq (⟨"EpochLedgerModel", "enter", "(II)V"⟩, 37) := ⟨⟨by decide +kernel, by decide +kernel⟩, List.mem_of_getElem? (i := 692) (by decide +kernel), List.mem_of_getElem? (i := 952) (by decide +kernel), List.mem_of_getElem? (i := 953) (by decide +kernel)⟩
def lw_privs_3 : List (MethodName × Nat) := [(⟨"EpochLedgerModel", "makes", "(II)Z"⟩, 37), (⟨"EpochLedgerModel", "readies", "(II)I"⟩, 37), (⟨"EpochLedgerModel", "proposal", "(II)Z"⟩, 37), (⟨"EpochLedgerModel", "agree", "(IIIII)Z"⟩, 37), (⟨"EpochLedgerModel", "vote", "(IIIIII)V"⟩, 37), (⟨"EpochLedgerModel", "voters", "(II)I"⟩, 37), (⟨"EpochLedgerModel", "finish", "(IIII)Z"⟩, 37), (⟨"EpochLedgerModel", "look", "(I)V"⟩, 37), (⟨"EpochLedgerModel", "commit", "(I)V"⟩, 37), (⟨"EpochLedgerModel", "unqueue", "(II)V"⟩, 37), (⟨"EpochLedgerModel", "enter", "(II)V"⟩, 37)]
theorem lw_r3 : ∀ q ∈ lw_privs_3, lw_okq q := List.forall_mem_cons.mpr ⟨lw_p32, List.forall_mem_cons.mpr ⟨lw_p33, List.forall_mem_cons.mpr ⟨lw_p34, List.forall_mem_cons.mpr ⟨lw_p35, List.forall_mem_cons.mpr ⟨lw_p36, List.forall_mem_cons.mpr ⟨lw_p37, List.forall_mem_cons.mpr ⟨lw_p38, List.forall_mem_cons.mpr ⟨lw_p39, List.forall_mem_cons.mpr ⟨lw_p40, List.forall_mem_cons.mpr ⟨lw_p41, List.forall_mem_cons.mpr ⟨lw_p42, fun _ h => absurd h List.not_mem_nil⟩⟩⟩⟩⟩⟩⟩⟩⟩⟩⟩
def lw_privs : List (MethodName × Nat) := lw_privs_1 ++ (lw_privs_2 ++ (lw_privs_3))
def lw_tbl : List Cond := k2_sels lw_privs ++ tables_1
theorem lw_privs_ok : ∀ q ∈ lw_privs, lw_okq q := by
  show ∀ q ∈ lw_privs_1 ++ (lw_privs_2 ++ (lw_privs_3)), lw_okq q
  exact List.forall_mem_append.mpr ⟨lw_r1, List.forall_mem_append.mpr ⟨lw_r2, lw_r3⟩⟩
-- ===== end of PART A; then your names; then what follows =====
end
section
/-! THE NAMES: words that methods may ask, classes, methods, and where each word stands -/
def xWS : List Cond := lw_tbl.filter goodWord
def xNW : List Cond := tables_1.filter xnest
theorem xWS_good : ∀ w ∈ xWS, goodWord w = true := fun _ h => (List.mem_filter.mp h).2
theorem xNW_nest : ∀ w ∈ xNW, xnest w = true := fun _ h => (List.mem_filter.mp h).2
theorem xt1 {w : Cond} (h : w ∈ tables_1_1) : w ∈ tables_1 := List.mem_append_left _ h
theorem xi1 (j : Nat) {w : Cond} (h : tables_1_1[j]? = some w) (hg : goodWord w = true) : w ∈ xWS := List.mem_filter.mpr ⟨List.mem_append_right _ (xt1 (List.mem_of_getElem? h)), hg⟩
theorem xj1 (j : Nat) {w : Cond} (h : tables_1_1[j]? = some w) (hg : xnest w = true) : w ∈ xNW := List.mem_filter.mpr ⟨xt1 (List.mem_of_getElem? h), hg⟩
theorem xt2 {w : Cond} (h : w ∈ tables_1_2) : w ∈ tables_1 := List.mem_append_right _ (List.mem_append_left _ h)
theorem xi2 (j : Nat) {w : Cond} (h : tables_1_2[j]? = some w) (hg : goodWord w = true) : w ∈ xWS := List.mem_filter.mpr ⟨List.mem_append_right _ (xt2 (List.mem_of_getElem? h)), hg⟩
theorem xj2 (j : Nat) {w : Cond} (h : tables_1_2[j]? = some w) (hg : xnest w = true) : w ∈ xNW := List.mem_filter.mpr ⟨xt2 (List.mem_of_getElem? h), hg⟩
theorem xt3 {w : Cond} (h : w ∈ tables_1_3) : w ∈ tables_1 := List.mem_append_right _ (List.mem_append_right _ (List.mem_append_left _ h))
theorem xi3 (j : Nat) {w : Cond} (h : tables_1_3[j]? = some w) (hg : goodWord w = true) : w ∈ xWS := List.mem_filter.mpr ⟨List.mem_append_right _ (xt3 (List.mem_of_getElem? h)), hg⟩
theorem xj3 (j : Nat) {w : Cond} (h : tables_1_3[j]? = some w) (hg : xnest w = true) : w ∈ xNW := List.mem_filter.mpr ⟨xt3 (List.mem_of_getElem? h), hg⟩
theorem xt4 {w : Cond} (h : w ∈ tables_1_4) : w ∈ tables_1 := List.mem_append_right _ (List.mem_append_right _ (List.mem_append_right _ (List.mem_append_left _ h)))
theorem xi4 (j : Nat) {w : Cond} (h : tables_1_4[j]? = some w) (hg : goodWord w = true) : w ∈ xWS := List.mem_filter.mpr ⟨List.mem_append_right _ (xt4 (List.mem_of_getElem? h)), hg⟩
theorem xj4 (j : Nat) {w : Cond} (h : tables_1_4[j]? = some w) (hg : xnest w = true) : w ∈ xNW := List.mem_filter.mpr ⟨xt4 (List.mem_of_getElem? h), hg⟩
theorem xt5 {w : Cond} (h : w ∈ tables_1_5) : w ∈ tables_1 := List.mem_append_right _ (List.mem_append_right _ (List.mem_append_right _ (List.mem_append_right _ h)))
theorem xi5 (j : Nat) {w : Cond} (h : tables_1_5[j]? = some w) (hg : goodWord w = true) : w ∈ xWS := List.mem_filter.mpr ⟨List.mem_append_right _ (xt5 (List.mem_of_getElem? h)), hg⟩
theorem xj5 (j : Nat) {w : Cond} (h : tables_1_5[j]? = some w) (hg : xnest w = true) : w ∈ xNW := List.mem_filter.mpr ⟨xt5 (List.mem_of_getElem? h), hg⟩
theorem xis (j : Nat) {w : Cond} (h : (k2_sels lw_privs)[j]? = some w) (hg : goodWord w = true) : w ∈ xWS := List.mem_filter.mpr ⟨List.mem_append_left _ (List.mem_of_getElem? h), hg⟩
theorem u_ws_in {C : String} {T : u_T} {N : Nat} {L : List Cond} (h : ∀ k, k < N → u_lay C T k ∈ L) : ∀ w ∈ u_ws C T N, w ∈ L := by
  intro w hw
  obtain ⟨k, hk, rfl⟩ := List.mem_map.mp hw
  exact h k (List.mem_range.mp hk)
def R_Ag : String := "EpochLedger$Agreement"
def T_Ag : u_T := fun k => match k with
  | 0 => ("EpochLedger$Agreement", "network", "LEpochLedger$Network;", true)
  | 1 => ("EpochLedger$Agreement", "me", "I", true)
  | 2 => ("EpochLedger$Agreement", "epoch", "I", true)
  | 3 => ("EpochLedger$Agreement", "instance", "I", true)
  | 4 => ("EpochLedger$Agreement", "tosses", "I", true)
  | 5 => ("EpochLedger$Agreement", "votes", "[I", true)
  | 6 => ("EpochLedger$Agreement", "sures", "[I", true)
  | 7 => ("EpochLedger$Agreement", "round", "I", false)
  | 8 => ("EpochLedger$Agreement", "estimate", "I", false)
  | 9 => ("EpochLedger$Agreement", "decided", "I", false)
  | 10 => ("EpochLedger$Agreement", "done", "Z", false)
  | 11 => ("EpochLedger$Agreement", "goodBits", "I", false)
  | 12 => ("EpochLedger$Agreement", "votedBits", "I", false)
  | _ => ("EpochLedger$Agreement", "sureSent", "Z", false)
def t_Ag : Nat → FieldType := fun k => match k with
  | 0 => .object "EpochLedger$Network"
  | 1 => .int
  | 2 => .int
  | 3 => .int
  | 4 => .int
  | 5 => .array .int
  | 6 => .array .int
  | 7 => .int
  | 8 => .int
  | 9 => .int
  | 10 => .boolean
  | 11 => .int
  | 12 => .int
  | _ => .boolean
theorem n_Ag : ∀ a, a < 14 → ∀ b, b < 14 → a ≠ b → (T_Ag a).2.1 ≠ (T_Ag b).2.1 := by decide +kernel
theorem t_Ag_ok : ∀ k, k < 14 → parseFieldDescriptor (T_Ag k).2.2.1 = some (t_Ag k) := by decide +kernel
theorem l_Ag : ∀ w ∈ u_ws R_Ag T_Ag 14, w ∈ xWS := u_ws_in (fun k hk => match k, hk with
  | 0, _ => xi1 190 rfl rfl
  | 1, _ => xi1 192 rfl rfl
  | 2, _ => xi1 194 rfl rfl
  | 3, _ => xi1 196 rfl rfl
  | 4, _ => xi1 198 rfl rfl
  | 5, _ => xi1 200 rfl rfl
  | 6, _ => xi1 202 rfl rfl
  | 7, _ => xi1 204 rfl rfl
  | 8, _ => xi1 206 rfl rfl
  | 9, _ => xi1 208 rfl rfl
  | 10, _ => xi1 210 rfl rfl
  | 11, _ => xi1 212 rfl rfl
  | 12, _ => xi1 214 rfl rfl
  | 13, _ => xi1 216 rfl rfl
  | k + 14, h => absurd h (by omega))
def R_Bc : String := "EpochLedger$Broadcast"
def T_Bc : u_T := fun k => match k with
  | 0 => ("EpochLedger$Broadcast", "network", "LEpochLedger$Network;", true)
  | 1 => ("EpochLedger$Broadcast", "me", "I", true)
  | 2 => ("EpochLedger$Broadcast", "epoch", "I", true)
  | 3 => ("EpochLedger$Broadcast", "instance", "I", true)
  | 4 => ("EpochLedger$Broadcast", "hasValue", "Z", false)
  | 5 => ("EpochLedger$Broadcast", "valueRoot", "I", false)
  | 6 => ("EpochLedger$Broadcast", "valueWitness", "I", false)
  | 7 => ("EpochLedger$Broadcast", "echoes", "LEpochLedger$Roots;", true)
  | 8 => ("EpochLedger$Broadcast", "echoBytes", "[I", true)
  | 9 => ("EpochLedger$Broadcast", "readies", "LEpochLedger$Roots;", true)
  | 10 => ("EpochLedger$Broadcast", "echoSent", "Z", false)
  | 11 => ("EpochLedger$Broadcast", "readySent", "Z", false)
  | _ => ("EpochLedger$Broadcast", "proposal", "I", false)
def t_Bc : Nat → FieldType := fun k => match k with
  | 0 => .object "EpochLedger$Network"
  | 1 => .int
  | 2 => .int
  | 3 => .int
  | 4 => .boolean
  | 5 => .int
  | 6 => .int
  | 7 => .object "EpochLedger$Roots"
  | 8 => .array .int
  | 9 => .object "EpochLedger$Roots"
  | 10 => .boolean
  | 11 => .boolean
  | _ => .int
theorem n_Bc : ∀ a, a < 13 → ∀ b, b < 13 → a ≠ b → (T_Bc a).2.1 ≠ (T_Bc b).2.1 := by decide +kernel
theorem t_Bc_ok : ∀ k, k < 13 → parseFieldDescriptor (T_Bc k).2.2.1 = some (t_Bc k) := by decide +kernel
theorem l_Bc : ∀ w ∈ u_ws R_Bc T_Bc 13, w ∈ xWS := u_ws_in (fun k hk => match k, hk with
  | 0, _ => xi1 138 rfl rfl
  | 1, _ => xi1 140 rfl rfl
  | 2, _ => xi1 142 rfl rfl
  | 3, _ => xi1 144 rfl rfl
  | 4, _ => xi1 146 rfl rfl
  | 5, _ => xi1 148 rfl rfl
  | 6, _ => xi1 150 rfl rfl
  | 7, _ => xi1 152 rfl rfl
  | 8, _ => xi1 154 rfl rfl
  | 9, _ => xi1 156 rfl rfl
  | 10, _ => xi1 158 rfl rfl
  | 11, _ => xi1 160 rfl rfl
  | 12, _ => xi1 162 rfl rfl
  | k + 13, h => absurd h (by omega))
def R_In : String := "EpochLedger$Inbox"
def T_In : u_T := fun k => match k with
  | _ => ("EpochLedger$Inbox", "messages", "Ljava/util/ArrayList;", true)
def t_In : Nat → FieldType := fun k => match k with
  | _ => .object "java/util/ArrayList"
theorem n_In : ∀ a, a < 1 → ∀ b, b < 1 → a ≠ b → (T_In a).2.1 ≠ (T_In b).2.1 := by decide +kernel
theorem t_In_ok : ∀ k, k < 1 → parseFieldDescriptor (T_In k).2.2.1 = some (t_In k) := by decide +kernel
theorem l_In : ∀ w ∈ u_ws R_In T_In 1, w ∈ xWS := u_ws_in (fun k hk => match k, hk with
  | 0, _ => xi1 72 rfl rfl
  | k + 1, h => absurd h (by omega))
def R_Ms : String := "EpochLedger$Message"
def T_Ms : u_T := fun k => match k with
  | 0 => ("EpochLedger$Message", "sender", "I", true)
  | 1 => ("EpochLedger$Message", "epoch", "I", true)
  | 2 => ("EpochLedger$Message", "instance", "I", true)
  | 3 => ("EpochLedger$Message", "kind", "I", true)
  | 4 => ("EpochLedger$Message", "a", "I", true)
  | _ => ("EpochLedger$Message", "b", "I", true)
def t_Ms : Nat → FieldType := fun k => match k with
  | 0 => .int
  | 1 => .int
  | 2 => .int
  | 3 => .int
  | 4 => .int
  | _ => .int
theorem n_Ms : ∀ a, a < 6 → ∀ b, b < 6 → a ≠ b → (T_Ms a).2.1 ≠ (T_Ms b).2.1 := by decide +kernel
theorem t_Ms_ok : ∀ k, k < 6 → parseFieldDescriptor (T_Ms k).2.2.1 = some (t_Ms k) := by decide +kernel
theorem l_Ms : ∀ w ∈ u_ws R_Ms T_Ms 6, w ∈ xWS := u_ws_in (fun k hk => match k, hk with
  | 0, _ => xi2 117 rfl rfl
  | 1, _ => xi2 119 rfl rfl
  | 2, _ => xi2 121 rfl rfl
  | 3, _ => xi2 123 rfl rfl
  | 4, _ => xi2 125 rfl rfl
  | 5, _ => xi2 127 rfl rfl
  | k + 6, h => absurd h (by omega))
def R_Nt : String := "EpochLedger$Network"
def T_Nt : u_T := fun k => match k with
  | _ => ("EpochLedger$Network", "inboxes", "[LEpochLedger$Inbox;", true)
def t_Nt : Nat → FieldType := fun k => match k with
  | _ => .array (.object "EpochLedger$Inbox")
theorem n_Nt : ∀ a, a < 1 → ∀ b, b < 1 → a ≠ b → (T_Nt a).2.1 ≠ (T_Nt b).2.1 := by decide +kernel
theorem t_Nt_ok : ∀ k, k < 1 → parseFieldDescriptor (T_Nt k).2.2.1 = some (t_Nt k) := by decide +kernel
theorem l_Nt : ∀ w ∈ u_ws R_Nt T_Nt 1, w ∈ xWS := u_ws_in (fun k hk => match k, hk with
  | 0, _ => xi1 76 rfl rfl
  | k + 1, h => absurd h (by omega))
def R_Nd : String := "EpochLedger$Node"
def T_Nd : u_T := fun k => match k with
  | 0 => ("EpochLedger$Node", "me", "I", true)
  | 1 => ("EpochLedger$Node", "network", "LEpochLedger$Network;", true)
  | 2 => ("EpochLedger$Node", "queued", "LEpochLedger$Row;", true)
  | 3 => ("EpochLedger$Node", "committed", "LEpochLedger$Row;", true)
  | 4 => ("EpochLedger$Node", "broadcasts", "[LEpochLedger$Broadcast;", true)
  | 5 => ("EpochLedger$Node", "agreements", "[LEpochLedger$Agreement;", true)
  | 6 => ("EpochLedger$Node", "epoch", "I", false)
  | _ => ("EpochLedger$Node", "isTraitor", "Z", false)
def t_Nd : Nat → FieldType := fun k => match k with
  | 0 => .int
  | 1 => .object "EpochLedger$Network"
  | 2 => .object "EpochLedger$Row"
  | 3 => .object "EpochLedger$Row"
  | 4 => .array (.object "EpochLedger$Broadcast")
  | 5 => .array (.object "EpochLedger$Agreement")
  | 6 => .int
  | _ => .boolean
theorem n_Nd : ∀ a, a < 8 → ∀ b, b < 8 → a ≠ b → (T_Nd a).2.1 ≠ (T_Nd b).2.1 := by decide +kernel
theorem t_Nd_ok : ∀ k, k < 8 → parseFieldDescriptor (T_Nd k).2.2.1 = some (t_Nd k) := by decide +kernel
theorem l_Nd : ∀ w ∈ u_ws R_Nd T_Nd 8, w ∈ xWS := u_ws_in (fun k hk => match k, hk with
  | 0, _ => xi1 231 rfl rfl
  | 1, _ => xi1 233 rfl rfl
  | 2, _ => xi1 235 rfl rfl
  | 3, _ => xi1 237 rfl rfl
  | 4, _ => xi1 239 rfl rfl
  | 5, _ => xi2 1 rfl rfl
  | 6, _ => xi2 3 rfl rfl
  | 7, _ => xi2 5 rfl rfl
  | k + 8, h => absurd h (by omega))
def R_Rt : String := "EpochLedger$Roots"
def T_Rt : u_T := fun k => match k with
  | 0 => ("EpochLedger$Roots", "roots", "[I", true)
  | _ => ("EpochLedger$Roots", "senders", "I", false)
def t_Rt : Nat → FieldType := fun k => match k with
  | 0 => .array .int
  | _ => .int
theorem n_Rt : ∀ a, a < 2 → ∀ b, b < 2 → a ≠ b → (T_Rt a).2.1 ≠ (T_Rt b).2.1 := by decide +kernel
theorem t_Rt_ok : ∀ k, k < 2 → parseFieldDescriptor (T_Rt k).2.2.1 = some (t_Rt k) := by decide +kernel
theorem l_Rt : ∀ w ∈ u_ws R_Rt T_Rt 2, w ∈ xWS := u_ws_in (fun k hk => match k, hk with
  | 0, _ => xi1 118 rfl rfl
  | 1, _ => xi1 120 rfl rfl
  | k + 2, h => absurd h (by omega))
def R_Rw : String := "EpochLedger$Row"
def T_Rw : u_T := fun k => match k with
  | 0 => ("EpochLedger$Row", "items", "[I", true)
  | _ => ("EpochLedger$Row", "count", "I", false)
def t_Rw : Nat → FieldType := fun k => match k with
  | 0 => .array .int
  | _ => .int
theorem n_Rw : ∀ a, a < 2 → ∀ b, b < 2 → a ≠ b → (T_Rw a).2.1 ≠ (T_Rw b).2.1 := by decide +kernel
theorem t_Rw_ok : ∀ k, k < 2 → parseFieldDescriptor (T_Rw k).2.2.1 = some (t_Rw k) := by decide +kernel
theorem l_Rw : ∀ w ∈ u_ws R_Rw T_Rw 2, w ∈ xWS := u_ws_in (fun k hk => match k, hk with
  | 0, _ => xi1 94 rfl rfl
  | 1, _ => xi1 96 rfl rfl
  | k + 2, h => absurd h (by omega))
def R_El : String := "EpochLedger"
def T_El : u_T := fun k => match k with
  | 0 => ("EpochLedger", "tosses", "I", true)
  | 1 => ("EpochLedger", "network", "LEpochLedger$Network;", true)
  | 2 => ("EpochLedger", "nodes", "[LEpochLedger$Node;", true)
  | _ => ("EpochLedger", "spoken", "I", false)
def t_El : Nat → FieldType := fun k => match k with
  | 0 => .int
  | 1 => .object "EpochLedger$Network"
  | 2 => .array (.object "EpochLedger$Node")
  | _ => .int
theorem n_El : ∀ a, a < 4 → ∀ b, b < 4 → a ≠ b → (T_El a).2.1 ≠ (T_El b).2.1 := by decide +kernel
theorem t_El_ok : ∀ k, k < 4 → parseFieldDescriptor (T_El k).2.2.1 = some (t_El k) := by decide +kernel
theorem l_El : ∀ w ∈ u_ws R_El T_El 4, w ∈ xWS := u_ws_in (fun k hk => match k, hk with
  | 0, _ => xi2 12 rfl rfl
  | 1, _ => xi2 14 rfl rfl
  | 2, _ => xi2 16 rfl rfl
  | 3, _ => xi2 18 rfl rfl
  | k + 4, h => absurd h (by omega))
def R_Mo : String := "EpochLedgerModel"
def T_Mo : u_T := fun k => match k with
  | 0 => ("EpochLedgerModel", "mixed", "I", true)
  | 1 => ("EpochLedgerModel", "traitor", "Z", false)
  | 2 => ("EpochLedgerModel", "spoken", "I", false)
  | 3 => ("EpochLedgerModel", "messages", "I", false)
  | 4 => ("EpochLedgerModel", "head", "[I", true)
  | 5 => ("EpochLedgerModel", "first", "[I", true)
  | 6 => ("EpochLedgerModel", "second", "[I", true)
  | 7 => ("EpochLedgerModel", "epoch", "[I", true)
  | 8 => ("EpochLedgerModel", "queued", "[I", true)
  | 9 => ("EpochLedgerModel", "queue", "[I", true)
  | 10 => ("EpochLedgerModel", "booked", "[I", true)
  | 11 => ("EpochLedgerModel", "ledger", "[I", true)
  | 12 => ("EpochLedgerModel", "hasValue", "[Z", true)
  | 13 => ("EpochLedgerModel", "valueRoot", "[I", true)
  | 14 => ("EpochLedgerModel", "valueWitness", "[I", true)
  | 15 => ("EpochLedgerModel", "hasEcho", "[Z", true)
  | 16 => ("EpochLedgerModel", "echoRoot", "[I", true)
  | 17 => ("EpochLedgerModel", "echoByte", "[I", true)
  | 18 => ("EpochLedgerModel", "hasReady", "[Z", true)
  | 19 => ("EpochLedgerModel", "readyRoot", "[I", true)
  | 20 => ("EpochLedgerModel", "votes", "[I", true)
  | 21 => ("EpochLedgerModel", "sures", "[I", true)
  | 22 => ("EpochLedgerModel", "sentEcho", "[Z", true)
  | 23 => ("EpochLedgerModel", "sentReady", "[Z", true)
  | 24 => ("EpochLedgerModel", "sentVote", "[I", true)
  | 25 => ("EpochLedgerModel", "sentSure", "[Z", true)
  | 26 => ("EpochLedgerModel", "delivered", "[I", true)
  | 27 => ("EpochLedgerModel", "input", "[Z", true)
  | 28 => ("EpochLedgerModel", "estimate", "[I", true)
  | 29 => ("EpochLedgerModel", "round", "[I", true)
  | 30 => ("EpochLedgerModel", "good", "[I", true)
  | 31 => ("EpochLedgerModel", "goodFirst", "[I", true)
  | 32 => ("EpochLedgerModel", "decided", "[I", true)
  | 33 => ("EpochLedgerModel", "done", "[Z", true)
  | 34 => ("EpochLedgerModel", "gave", "I", false)
  | 35 => ("EpochLedgerModel", "urgent", "I", false)
  | _ => ("EpochLedgerModel", "cursor", "I", false)
def t_Mo : Nat → FieldType := fun k => match k with
  | 0 => .int
  | 1 => .boolean
  | 2 => .int
  | 3 => .int
  | 4 => .array .int
  | 5 => .array .int
  | 6 => .array .int
  | 7 => .array .int
  | 8 => .array .int
  | 9 => .array .int
  | 10 => .array .int
  | 11 => .array .int
  | 12 => .array .boolean
  | 13 => .array .int
  | 14 => .array .int
  | 15 => .array .boolean
  | 16 => .array .int
  | 17 => .array .int
  | 18 => .array .boolean
  | 19 => .array .int
  | 20 => .array .int
  | 21 => .array .int
  | 22 => .array .boolean
  | 23 => .array .boolean
  | 24 => .array .int
  | 25 => .array .boolean
  | 26 => .array .int
  | 27 => .array .boolean
  | 28 => .array .int
  | 29 => .array .int
  | 30 => .array .int
  | 31 => .array .int
  | 32 => .array .int
  | 33 => .array .boolean
  | 34 => .int
  | 35 => .int
  | _ => .int
theorem n_Mo : ∀ a, a < 37 → ∀ b, b < 37 → a ≠ b → (T_Mo a).2.1 ≠ (T_Mo b).2.1 := by decide +kernel
theorem t_Mo_ok : ∀ k, k < 37 → parseFieldDescriptor (T_Mo k).2.2.1 = some (t_Mo k) := by decide +kernel
theorem l_Mo : ∀ w ∈ u_ws R_Mo T_Mo 37, w ∈ xWS := u_ws_in (fun k hk => match k, hk with
  | 0, _ => xi4 15 rfl rfl
  | 1, _ => xi4 17 rfl rfl
  | 2, _ => xi4 19 rfl rfl
  | 3, _ => xi4 21 rfl rfl
  | 4, _ => xi4 23 rfl rfl
  | 5, _ => xi4 25 rfl rfl
  | 6, _ => xi4 27 rfl rfl
  | 7, _ => xi4 29 rfl rfl
  | 8, _ => xi4 31 rfl rfl
  | 9, _ => xi4 33 rfl rfl
  | 10, _ => xi4 35 rfl rfl
  | 11, _ => xi4 37 rfl rfl
  | 12, _ => xi4 39 rfl rfl
  | 13, _ => xi4 41 rfl rfl
  | 14, _ => xi4 43 rfl rfl
  | 15, _ => xi4 45 rfl rfl
  | 16, _ => xi4 47 rfl rfl
  | 17, _ => xi4 49 rfl rfl
  | 18, _ => xi4 51 rfl rfl
  | 19, _ => xi4 53 rfl rfl
  | 20, _ => xi4 55 rfl rfl
  | 21, _ => xi4 57 rfl rfl
  | 22, _ => xi4 59 rfl rfl
  | 23, _ => xi4 61 rfl rfl
  | 24, _ => xi4 63 rfl rfl
  | 25, _ => xi4 65 rfl rfl
  | 26, _ => xi4 67 rfl rfl
  | 27, _ => xi4 69 rfl rfl
  | 28, _ => xi4 71 rfl rfl
  | 29, _ => xi4 73 rfl rfl
  | 30, _ => xi4 75 rfl rfl
  | 31, _ => xi4 77 rfl rfl
  | 32, _ => xi4 79 rfl rfl
  | 33, _ => xi4 81 rfl rfl
  | 34, _ => xi4 83 rfl rfl
  | 35, _ => xi4 85 rfl rfl
  | 36, _ => xi4 87 rfl rfl
  | k + 37, h => absurd h (by omega))
def R_Al : String := "java/util/ArrayList"
def T_Al : u_T := fun k => match k with
  | 0 => ("java/util/ArrayList", "elementData", "[Ljava/lang/Object;", false)
  | 1 => ("java/util/ArrayList", "size", "I", false)
  | _ => ("java/util/AbstractList", "modCount", "I", false)
def t_Al : Nat → FieldType := fun k => match k with
  | 0 => .array (.object "java/lang/Object")
  | 1 => .int
  | _ => .int
theorem n_Al : ∀ a, a < 3 → ∀ b, b < 3 → a ≠ b → (T_Al a).2.1 ≠ (T_Al b).2.1 := by decide +kernel
theorem t_Al_ok : ∀ k, k < 3 → parseFieldDescriptor (T_Al k).2.2.1 = some (t_Al k) := by decide +kernel
theorem l_Al : ∀ w ∈ u_ws R_Al T_Al 3, w ∈ xWS := u_ws_in (fun k hk => match k, hk with
  | 0, _ => xi1 63 rfl rfl
  | 1, _ => xi1 65 rfl rfl
  | 2, _ => xi1 67 rfl rfl
  | k + 3, h => absurd h (by omega))
def xCl : List vw_C := [(R_Ag, T_Ag, 14), (R_Bc, T_Bc, 13), (R_In, T_In, 1), (R_Ms, T_Ms, 6), (R_Nt, T_Nt, 1), (R_Nd, T_Nd, 8), (R_Rt, T_Rt, 2), (R_Rw, T_Rw, 2), (R_El, T_El, 4), (R_Mo, T_Mo, 37), (R_Al, T_Al, 3)]
def xTy (cA : Nat → ClassId) : List (ClassId × FieldType) := [(cA 0, .int), (cA 1, .boolean), (cA 2, .object "EpochLedger$Inbox"), (cA 3, .object "EpochLedger$Node"), (cA 4, .object "EpochLedger$Broadcast"), (cA 5, .object "EpochLedger$Agreement"), (cA 6, .object "java/lang/Object")]
/-- what the whole run's fixed things depend on: launch, base, classes' numbers and slots, array classes, what holds below the base -/
abbrev xPar : Type := Launch × Nat × va_G × (Nat → ClassId) × (State → Heap → Prop)
abbrev xGG (X : xPar) : xG := (X.1, X.2.1, X.2.2.1, xCl, xTy X.2.2.2.1, xWS, xNW, X.2.2.2.2)
abbrev m_El_init : xM := (⟨"EpochLedger", "<init>", "(I)V"⟩, prog_1_method_1_code, 4, (none : Option FieldType))
abbrev m_Ob_init : xM := (⟨"java/lang/Object", "<init>", "()V"⟩, object_method_1_code, 1, (none : Option FieldType))
abbrev m_Nt_init : xM := (⟨"EpochLedger$Network", "<init>", "()V"⟩, prog_7_method_1_code, 2, (none : Option FieldType))
abbrev m_In_init : xM := (⟨"EpochLedger$Inbox", "<init>", "()V"⟩, prog_5_method_1_code, 1, (none : Option FieldType))
abbrev m_Al_init : xM := (⟨"java/util/ArrayList", "<init>", "()V"⟩, prog_21_method_2_code, 1, (none : Option FieldType))
abbrev m_Ab_init : xM := (⟨"java/util/AbstractList", "<init>", "()V"⟩, prog_20_method_1_code, 1, (none : Option FieldType))
abbrev m_Ac_init : xM := (⟨"java/util/AbstractCollection", "<init>", "()V"⟩, prog_19_method_1_code, 1, (none : Option FieldType))
abbrev m_Nd_init : xM := (⟨"EpochLedger$Node", "<init>", "(ILEpochLedger$Network;I)V"⟩, prog_8_method_1_code, 5, (none : Option FieldType))
abbrev m_Rw_init : xM := (⟨"EpochLedger$Row", "<init>", "(I)V"⟩, prog_10_method_1_code, 2, (none : Option FieldType))
abbrev m_Bc_init : xM := (⟨"EpochLedger$Broadcast", "<init>", "(LEpochLedger$Network;III)V"⟩, prog_3_method_1_code, 5, (none : Option FieldType))
abbrev m_Rt_init : xM := (⟨"EpochLedger$Roots", "<init>", "()V"⟩, prog_9_method_1_code, 1, (none : Option FieldType))
abbrev m_Ag_init : xM := (⟨"EpochLedger$Agreement", "<init>", "(LEpochLedger$Network;IIII)V"⟩, prog_2_method_1_code, 6, (none : Option FieldType))
abbrev m_El_submit : xM := (⟨"EpochLedger", "submit", "(II)Z"⟩, prog_1_method_2_code, 3, (Option.some FieldType.boolean))
abbrev m_El_isNode : xM := (⟨"EpochLedger", "isNode", "(I)Z"⟩, prog_1_method_16_code, 1, (Option.some FieldType.boolean))
abbrev m_El_isIn : xM := (⟨"EpochLedger", "isIn", "(III)Z"⟩, prog_1_method_15_code, 3, (Option.some FieldType.boolean))
abbrev m_Nd_accept : xM := (⟨"EpochLedger$Node", "accept", "(I)Z"⟩, prog_8_method_4_code, 2, (Option.some FieldType.boolean))
abbrev m_Rw_isFull : xM := (⟨"EpochLedger$Row", "isFull", "()Z"⟩, prog_10_method_2_code, 1, (Option.some FieldType.boolean))
abbrev m_Rw_has : xM := (⟨"EpochLedger$Row", "has", "(I)Z"⟩, prog_10_method_3_code, 3, (Option.some FieldType.boolean))
abbrev m_Rw_append : xM := (⟨"EpochLedger$Row", "append", "(I)V"⟩, prog_10_method_4_code, 2, (none : Option FieldType))
abbrev m_El_begin : xM := (⟨"EpochLedger", "begin", "(I)Z"⟩, prog_1_method_3_code, 2, (Option.some FieldType.boolean))
abbrev m_Nd_start : xM := (⟨"EpochLedger$Node", "start", "()Z"⟩, prog_8_method_5_code, 1, (Option.some FieldType.boolean))
abbrev m_Nd_propose : xM := (⟨"EpochLedger$Node", "propose", "()V"⟩, prog_8_method_7_code, 5, (none : Option FieldType))
abbrev m_Rw_itemOr : xM := (⟨"EpochLedger$Row", "itemOr", "(II)I"⟩, prog_10_method_6_code, 3, (Option.some FieldType.int))
abbrev m_Co_proposal : xM := (⟨"EpochLedger$Coding", "proposal", "(II)I"⟩, prog_4_method_2_code, 2, (Option.some FieldType.int))
abbrev m_Co_rootOf : xM := (⟨"EpochLedger$Coding", "rootOf", "(I)I"⟩, prog_4_method_8_code, 5, (Option.some FieldType.int))
abbrev m_Co_leafOf : xM := (⟨"EpochLedger$Coding", "leafOf", "(II)I"⟩, prog_4_method_4_code, 2, (Option.some FieldType.int))
abbrev m_Co_halfOf : xM := (⟨"EpochLedger$Coding", "halfOf", "(II)I"⟩, prog_4_method_5_code, 2, (Option.some FieldType.int))
abbrev m_Co_product : xM := (⟨"EpochLedger$Coding", "product", "(II)I"⟩, prog_4_method_3_code, 5, (Option.some FieldType.int))
abbrev m_Co_topOf : xM := (⟨"EpochLedger$Coding", "topOf", "(II)I"⟩, prog_4_method_6_code, 2, (Option.some FieldType.int))
abbrev m_Co_witnessOf : xM := (⟨"EpochLedger$Coding", "witnessOf", "(II)I"⟩, prog_4_method_9_code, 5, (Option.some FieldType.int))
abbrev m_Co_partOf : xM := (⟨"EpochLedger$Coding", "partOf", "(II)I"⟩, prog_4_method_7_code, 4, (Option.some FieldType.int))
abbrev m_Ms_init : xM := (⟨"EpochLedger$Message", "<init>", "(IIIIII)V"⟩, prog_6_method_1_code, 7, (none : Option FieldType))
abbrev m_Nt_sendToOne : xM := (⟨"EpochLedger$Network", "sendToOne", "(ILEpochLedger$Message;)V"⟩, prog_7_method_2_code, 3, (none : Option FieldType))
abbrev m_Al_add : xM := (⟨"java/util/ArrayList", "add", "(Ljava/lang/Object;)Z"⟩, prog_21_method_25_code, 2, (Option.some FieldType.boolean))
abbrev m_Al_add2 : xM := (⟨"java/util/ArrayList", "add", "(Ljava/lang/Object;[Ljava/lang/Object;I)V"⟩, prog_21_method_24_code, 4, (none : Option FieldType))
abbrev m_Al_grow : xM := (⟨"java/util/ArrayList", "grow", "()[Ljava/lang/Object;"⟩, prog_21_method_7_code, 1, (Option.some (FieldType.array (FieldType.object "java/lang/Object"))))
abbrev m_Al_grow2 : xM := (⟨"java/util/ArrayList", "grow", "(I)[Ljava/lang/Object;"⟩, prog_21_method_6_code, 4, (Option.some (FieldType.array (FieldType.object "java/lang/Object"))))
abbrev m_As_newLength : xM := (⟨"jdk/internal/util/ArraysSupport", "newLength", "(III)I"⟩, prog_28_method_27_code, 4, (Option.some FieldType.int))
abbrev m_Ma_max : xM := (⟨"java/lang/Math", "max", "(II)I"⟩, prog_17_method_65_code, 2, (Option.some FieldType.int))
abbrev m_As_hugeLength : xM := (⟨"jdk/internal/util/ArraysSupport", "hugeLength", "(II)I"⟩, prog_28_method_28_code, 3, (Option.some FieldType.int))
abbrev m_Ar_copyOf : xM := (⟨"java/util/Arrays", "copyOf", "([Ljava/lang/Object;I)[Ljava/lang/Object;"⟩, prog_22_method_119_code, 2, (Option.some (FieldType.array (FieldType.object "java/lang/Object"))))
abbrev m_Ar_copyOf2 : xM := (⟨"java/util/Arrays", "copyOf", "([Ljava/lang/Object;ILjava/lang/Class;)[Ljava/lang/Object;"⟩, prog_22_method_120_code, 4, (Option.some (FieldType.array (FieldType.object "java/lang/Object"))))
abbrev m_Ma_min : xM := (⟨"java/lang/Math", "min", "(II)I"⟩, prog_17_method_69_code, 2, (Option.some FieldType.int))
abbrev m_Nd_goOnWith : xM := (⟨"EpochLedger$Node", "goOnWith", "(II)V"⟩, prog_8_method_8_code, 6, (none : Option FieldType))
abbrev m_Nd_goOnAndLook : xM := (⟨"EpochLedger$Node", "goOnAndLook", "(I)V"⟩, prog_8_method_9_code, 6, (none : Option FieldType))
abbrev m_Nd_broadcastOf : xM := (⟨"EpochLedger$Node", "broadcastOf", "(I)LEpochLedger$Broadcast;"⟩, prog_8_method_2_code, 2, (Option.some (FieldType.object "EpochLedger$Broadcast")))
abbrev m_Nd_agreementOf : xM := (⟨"EpochLedger$Node", "agreementOf", "(I)LEpochLedger$Agreement;"⟩, prog_8_method_3_code, 2, (Option.some (FieldType.object "EpochLedger$Agreement")))
abbrev m_Bc_sendEchoIfDue : xM := (⟨"EpochLedger$Broadcast", "sendEchoIfDue", "()V"⟩, prog_3_method_5_code, 1, (none : Option FieldType))
abbrev m_Nt_sendToAll : xM := (⟨"EpochLedger$Network", "sendToAll", "(LEpochLedger$Message;)V"⟩, prog_7_method_3_code, 3, (none : Option FieldType))
abbrev m_Bc_sendReadyIfDue : xM := (⟨"EpochLedger$Broadcast", "sendReadyIfDue", "()V"⟩, prog_3_method_6_code, 3, (none : Option FieldType))
abbrev m_Rt_leastOfShared : xM := (⟨"EpochLedger$Roots", "leastOfShared", "(I)I"⟩, prog_9_method_5_code, 3, (Option.some FieldType.int))
abbrev m_Rt_isFrom : xM := (⟨"EpochLedger$Roots", "isFrom", "(I)Z"⟩, prog_9_method_2_code, 2, (Option.some FieldType.boolean))
abbrev m_Rt_sendersOf : xM := (⟨"EpochLedger$Roots", "sendersOf", "(I)I"⟩, prog_9_method_4_code, 4, (Option.some FieldType.int))
abbrev m_It_bitCount : xM := (⟨"java/lang/Integer", "bitCount", "(I)I"⟩, prog_15_method_49_code, 1, (Option.some FieldType.int))
abbrev m_Bc_proposalOf : xM := (⟨"EpochLedger$Broadcast", "proposalOf", "(I)I"⟩, prog_3_method_9_code, 4, (Option.some FieldType.int))
abbrev m_Co_proposalWith : xM := (⟨"EpochLedger$Coding", "proposalWith", "(IIII)I"⟩, prog_4_method_11_code, 6, (Option.some FieldType.int))
abbrev m_Bc_sendReady : xM := (⟨"EpochLedger$Broadcast", "sendReady", "(I)V"⟩, prog_3_method_7_code, 2, (none : Option FieldType))
abbrev m_Bc_takeProposalIfDue : xM := (⟨"EpochLedger$Broadcast", "takeProposalIfDue", "()V"⟩, prog_3_method_8_code, 5, (none : Option FieldType))
abbrev m_Ag_giveInput : xM := (⟨"EpochLedger$Agreement", "giveInput", "(I)V"⟩, prog_2_method_4_code, 2, (none : Option FieldType))
abbrev m_Ag_hasInput : xM := (⟨"EpochLedger$Agreement", "hasInput", "()Z"⟩, prog_2_method_3_code, 1, (Option.some FieldType.boolean))
abbrev m_Ag_goOn : xM := (⟨"EpochLedger$Agreement", "goOn", "()V"⟩, prog_2_method_5_code, 3, (none : Option FieldType))
abbrev m_Ag_sendVote : xM := (⟨"EpochLedger$Agreement", "sendVote", "(I)V"⟩, prog_2_method_7_code, 2, (none : Option FieldType))
abbrev m_Ag_voters : xM := (⟨"EpochLedger$Agreement", "voters", "(I)I"⟩, prog_2_method_6_code, 2, (Option.some FieldType.int))
abbrev m_Ag_makeGood : xM := (⟨"EpochLedger$Agreement", "makeGood", "(I)V"⟩, prog_2_method_8_code, 2, (none : Option FieldType))
abbrev m_Ag_goodSures : xM := (⟨"EpochLedger$Agreement", "goodSures", "(I)I"⟩, prog_2_method_9_code, 2, (Option.some FieldType.int))
abbrev m_Ag_finishRound : xM := (⟨"EpochLedger$Agreement", "finishRound", "()V"⟩, prog_2_method_10_code, 3, (none : Option FieldType))
abbrev m_El_tossOf : xM := (⟨"EpochLedger", "tossOf", "(IIII)I"⟩, prog_1_method_19_code, 4, (Option.some FieldType.int))
abbrev m_Ag_enterNextRound : xM := (⟨"EpochLedger$Agreement", "enterNextRound", "()V"⟩, prog_2_method_11_code, 1, (none : Option FieldType))
abbrev m_Nd_instanceToRefuse : xM := (⟨"EpochLedger$Node", "instanceToRefuse", "()I"⟩, prog_8_method_10_code, 5, (Option.some FieldType.int))
abbrev m_Nd_mayCommit : xM := (⟨"EpochLedger$Node", "mayCommit", "()Z"⟩, prog_8_method_11_code, 3, (Option.some FieldType.boolean))
abbrev m_Nd_commit : xM := (⟨"EpochLedger$Node", "commit", "()V"⟩, prog_8_method_12_code, 2, (none : Option FieldType))
abbrev m_Nd_isAccepted : xM := (⟨"EpochLedger$Node", "isAccepted", "(I)Z"⟩, prog_8_method_13_code, 5, (Option.some FieldType.boolean))
abbrev m_Rw_drop : xM := (⟨"EpochLedger$Row", "drop", "(I)V"⟩, prog_10_method_5_code, 4, (none : Option FieldType))
abbrev m_El_run : xM := (⟨"EpochLedger", "run", "(II)I"⟩, prog_1_method_4_code, 4, (Option.some FieldType.int))
abbrev m_Nt_countFor : xM := (⟨"EpochLedger$Network", "countFor", "(I)I"⟩, prog_7_method_4_code, 2, (Option.some FieldType.int))
abbrev m_Al_size : xM := (⟨"java/util/ArrayList", "size", "()I"⟩, prog_21_method_8_code, 1, (Option.some FieldType.int))
abbrev m_Nt_remove : xM := (⟨"EpochLedger$Network", "remove", "(II)LEpochLedger$Message;"⟩, prog_7_method_5_code, 3, (Option.some (FieldType.object "EpochLedger$Message")))
abbrev m_Al_remove : xM := (⟨"java/util/ArrayList", "remove", "(I)Ljava/lang/Object;"⟩, prog_21_method_29_code, 4, (Option.some (FieldType.object "java/lang/Object")))
abbrev m_Os_checkIndex : xM := (⟨"java/util/Objects", "checkIndex", "(II)I"⟩, prog_25_method_17_code, 2, (Option.some FieldType.int))
abbrev m_Pr_checkIndex : xM := (⟨"jdk/internal/util/Preconditions", "checkIndex", "(IILjava/util/function/BiFunction;)I"⟩, prog_29_method_11_code, 3, (Option.some FieldType.int))
abbrev m_Al_fastRemove : xM := (⟨"java/util/ArrayList", "fastRemove", "([Ljava/lang/Object;I)V"⟩, prog_21_method_39_code, 4, (none : Option FieldType))
abbrev m_Nd_take : xM := (⟨"EpochLedger$Node", "take", "(LEpochLedger$Message;)V"⟩, prog_8_method_6_code, 3, (none : Option FieldType))
abbrev m_Ag_keep : xM := (⟨"EpochLedger$Agreement", "keep", "(LEpochLedger$Message;)V"⟩, prog_2_method_2_code, 4, (none : Option FieldType))
abbrev m_Bc_keep : xM := (⟨"EpochLedger$Broadcast", "keep", "(LEpochLedger$Message;)V"⟩, prog_3_method_2_code, 2, (none : Option FieldType))
abbrev m_Bc_keepValue : xM := (⟨"EpochLedger$Broadcast", "keepValue", "(LEpochLedger$Message;)V"⟩, prog_3_method_3_code, 2, (none : Option FieldType))
abbrev m_Co_isRight : xM := (⟨"EpochLedger$Coding", "isRight", "(III)Z"⟩, prog_4_method_10_code, 7, (Option.some FieldType.boolean))
abbrev m_Bc_keepEcho : xM := (⟨"EpochLedger$Broadcast", "keepEcho", "(LEpochLedger$Message;)V"⟩, prog_3_method_4_code, 3, (none : Option FieldType))
abbrev m_Rt_put : xM := (⟨"EpochLedger$Roots", "put", "(II)V"⟩, prog_9_method_3_code, 3, (none : Option FieldType))
abbrev m_El_deliver : xM := (⟨"EpochLedger", "deliver", "(II)I"⟩, prog_1_method_5_code, 4, (Option.some FieldType.int))
abbrev m_El_betray : xM := (⟨"EpochLedger", "betray", "()Z"⟩, prog_1_method_6_code, 1, (Option.some FieldType.boolean))
abbrev m_El_speak : xM := (⟨"EpochLedger", "speak", "(IIIIII)Z"⟩, prog_1_method_7_code, 7, (Option.some FieldType.boolean))
abbrev m_El_isEpoch : xM := (⟨"EpochLedger", "isEpoch", "(I)Z"⟩, prog_1_method_17_code, 1, (Option.some FieldType.boolean))
abbrev m_El_isRound : xM := (⟨"EpochLedger", "isRound", "(I)Z"⟩, prog_1_method_18_code, 1, (Option.some FieldType.boolean))
abbrev m_El_epoch : xM := (⟨"EpochLedger", "epoch", "(I)I"⟩, prog_1_method_8_code, 2, (Option.some FieldType.int))
abbrev m_El_ledger : xM := (⟨"EpochLedger", "ledger", "(II)I"⟩, prog_1_method_9_code, 3, (Option.some FieldType.int))
abbrev m_Rw_answer : xM := (⟨"EpochLedger$Row", "answer", "(I)I"⟩, prog_10_method_7_code, 2, (Option.some FieldType.int))
abbrev m_El_queue : xM := (⟨"EpochLedger", "queue", "(II)I"⟩, prog_1_method_10_code, 3, (Option.some FieldType.int))
abbrev m_El_waiting : xM := (⟨"EpochLedger", "waiting", "(I)I"⟩, prog_1_method_11_code, 2, (Option.some FieldType.int))
abbrev m_El_instance : xM := (⟨"EpochLedger", "instance", "(III)I"⟩, prog_1_method_12_code, 6, (Option.some FieldType.int))
abbrev m_Bc_progress : xM := (⟨"EpochLedger$Broadcast", "progress", "()I"⟩, prog_3_method_10_code, 1, (Option.some FieldType.int))
abbrev m_El_coin : xM := (⟨"EpochLedger", "coin", "(III)I"⟩, prog_1_method_13_code, 4, (Option.some FieldType.int))
abbrev m_El_root : xM := (⟨"EpochLedger", "root", "(II)I"⟩, prog_1_method_14_code, 3, (Option.some FieldType.int))
abbrev m_Lw_cell : xM := (⟨"EpochLedgerLaw", "cell", "([II)I"⟩, method_2_code, 2, (Option.some FieldType.int))
abbrev m_Mo_init : xM := (⟨"EpochLedgerModel", "<init>", "(I)V"⟩, prog_12_method_1_code, 3, (none : Option FieldType))
abbrev m_Mo_root : xM := (⟨"EpochLedgerModel", "root", "(II)I"⟩, prog_12_method_9_code, 3, (Option.some FieldType.int))
abbrev m_Mo_rootOfProposal : xM := (⟨"EpochLedgerModel", "rootOfProposal", "(II)I"⟩, prog_12_method_8_code, 4, (Option.some FieldType.int))
abbrev m_Mo_partOf : xM := (⟨"EpochLedgerModel", "partOf", "(III)I"⟩, prog_12_method_4_code, 3, (Option.some FieldType.int))
abbrev m_Mo_times : xM := (⟨"EpochLedgerModel", "times", "(II)I"⟩, prog_12_method_3_code, 3, (Option.some FieldType.int))
abbrev m_Mo_leaf : xM := (⟨"EpochLedgerModel", "leaf", "(II)I"⟩, prog_12_method_5_code, 2, (Option.some FieldType.int))
abbrev m_Mo_half : xM := (⟨"EpochLedgerModel", "half", "(II)I"⟩, prog_12_method_6_code, 2, (Option.some FieldType.int))
abbrev m_Mo_rootOf : xM := (⟨"EpochLedgerModel", "rootOf", "(II)I"⟩, prog_12_method_7_code, 2, (Option.some FieldType.int))
abbrev m_Mo_coin : xM := (⟨"EpochLedgerModel", "coin", "(III)I"⟩, prog_12_method_14_code, 4, (Option.some FieldType.int))
abbrev m_Mo_isNode : xM := (⟨"EpochLedgerModel", "isNode", "(I)Z"⟩, prog_12_method_2_code, 1, (Option.some FieldType.boolean))
abbrev m_Mo_coinOf : xM := (⟨"EpochLedgerModel", "coinOf", "(III)I"⟩, prog_12_method_13_code, 4, (Option.some FieldType.int))
abbrev m_Mo_submit : xM := (⟨"EpochLedgerModel", "submit", "(II)Z"⟩, prog_12_method_15_code, 4, (Option.some FieldType.boolean))
abbrev m_Mo_isBooked : xM := (⟨"EpochLedgerModel", "isBooked", "(II)Z"⟩, prog_12_method_16_code, 4, (Option.some FieldType.boolean))
abbrev m_Mo_waiting : xM := (⟨"EpochLedgerModel", "waiting", "(I)I"⟩, prog_12_method_20_code, 4, (Option.some FieldType.int))
abbrev m_Mo_waits : xM := (⟨"EpochLedgerModel", "waits", "(II)Z"⟩, prog_12_method_19_code, 3, (Option.some FieldType.boolean))
abbrev m_Mo_run : xM := (⟨"EpochLedgerModel", "run", "(II)I"⟩, prog_12_method_24_code, 5, (Option.some FieldType.int))
abbrev m_Mo_reach : xM := (⟨"EpochLedgerModel", "reach", "(II)V"⟩, prog_12_method_21_code, 10, (none : Option FieldType))
abbrev m_Mo_value : xM := (⟨"EpochLedgerModel", "value", "(IIZZI)V"⟩, prog_12_method_22_code, 8, (none : Option FieldType))
abbrev m_Mo_witness : xM := (⟨"EpochLedgerModel", "witness", "(III)I"⟩, prog_12_method_10_code, 6, (Option.some FieldType.int))
abbrev m_Mo_right : xM := (⟨"EpochLedgerModel", "right", "(III)Z"⟩, prog_12_method_11_code, 7, (Option.some FieldType.boolean))
abbrev m_Mo_answer : xM := (⟨"EpochLedgerModel", "answer", "(IIII)V"⟩, prog_12_method_23_code, 5, (none : Option FieldType))
abbrev m_Mo_settle : xM := (⟨"EpochLedgerModel", "settle", "(I)V"⟩, prog_12_method_30_code, 4, (none : Option FieldType))
abbrev m_Mo_rule : xM := (⟨"EpochLedgerModel", "rule", "(II)Z"⟩, prog_12_method_31_code, 6, (Option.some FieldType.boolean))
abbrev m_Mo_post : xM := (⟨"EpochLedgerModel", "post", "(IIIIIII)V"⟩, prog_12_method_18_code, 8, (none : Option FieldType))
abbrev m_Mo_ready : xM := (⟨"EpochLedgerModel", "ready", "(IIII)Z"⟩, prog_12_method_35_code, 7, (Option.some FieldType.boolean))
abbrev m_Mo_echoes : xM := (⟨"EpochLedgerModel", "echoes", "(II)I"⟩, prog_12_method_32_code, 5, (Option.some FieldType.int))
abbrev m_Mo_makes : xM := (⟨"EpochLedgerModel", "makes", "(II)Z"⟩, prog_12_method_34_code, 6, (Option.some FieldType.boolean))
abbrev m_Mo_solve : xM := (⟨"EpochLedgerModel", "solve", "(IIII)I"⟩, prog_12_method_12_code, 6, (Option.some FieldType.int))
abbrev m_Mo_readies : xM := (⟨"EpochLedgerModel", "readies", "(II)I"⟩, prog_12_method_33_code, 5, (Option.some FieldType.int))
abbrev m_Mo_proposal : xM := (⟨"EpochLedgerModel", "proposal", "(II)Z"⟩, prog_12_method_36_code, 5, (Option.some FieldType.boolean))
abbrev m_Mo_agree : xM := (⟨"EpochLedgerModel", "agree", "(IIIII)Z"⟩, prog_12_method_39_code, 10, (Option.some FieldType.boolean))
abbrev m_Mo_vote : xM := (⟨"EpochLedgerModel", "vote", "(IIIIII)V"⟩, prog_12_method_38_code, 7, (none : Option FieldType))
abbrev m_Mo_voters : xM := (⟨"EpochLedgerModel", "voters", "(II)I"⟩, prog_12_method_37_code, 5, (Option.some FieldType.int))
abbrev m_Mo_finish : xM := (⟨"EpochLedgerModel", "finish", "(IIII)Z"⟩, prog_12_method_40_code, 10, (Option.some FieldType.boolean))
abbrev m_Mo_look : xM := (⟨"EpochLedgerModel", "look", "(I)V"⟩, prog_12_method_41_code, 6, (none : Option FieldType))
abbrev m_Mo_commit : xM := (⟨"EpochLedgerModel", "commit", "(I)V"⟩, prog_12_method_42_code, 5, (none : Option FieldType))
abbrev m_Mo_unqueue : xM := (⟨"EpochLedgerModel", "unqueue", "(II)V"⟩, prog_12_method_17_code, 6, (none : Option FieldType))
abbrev m_Mo_enter : xM := (⟨"EpochLedgerModel", "enter", "(II)V"⟩, prog_12_method_29_code, 5, (none : Option FieldType))
abbrev m_Mo_deliver : xM := (⟨"EpochLedgerModel", "deliver", "(II)I"⟩, prog_12_method_25_code, 5, (Option.some FieldType.int))
abbrev m_Mo_betray : xM := (⟨"EpochLedgerModel", "betray", "()Z"⟩, prog_12_method_26_code, 2, (Option.some FieldType.boolean))
abbrev m_Mo_speak : xM := (⟨"EpochLedgerModel", "speak", "(IIIIII)Z"⟩, prog_12_method_27_code, 9, (Option.some FieldType.boolean))
abbrev m_Mo_begin : xM := (⟨"EpochLedgerModel", "begin", "(I)Z"⟩, prog_12_method_28_code, 2, (Option.some FieldType.boolean))
abbrev m_Mo_epoch : xM := (⟨"EpochLedgerModel", "epoch", "(I)I"⟩, prog_12_method_43_code, 2, (Option.some FieldType.int))
abbrev m_Mo_ledger : xM := (⟨"EpochLedgerModel", "ledger", "(II)I"⟩, prog_12_method_44_code, 3, (Option.some FieldType.int))
abbrev m_Mo_queue : xM := (⟨"EpochLedgerModel", "queue", "(II)I"⟩, prog_12_method_45_code, 3, (Option.some FieldType.int))
abbrev m_Mo_instance : xM := (⟨"EpochLedgerModel", "instance", "(III)I"⟩, prog_12_method_46_code, 6, (Option.some FieldType.int))
abbrev m_Lw_law : xM := (⟨"EpochLedgerLaw", "law", "([I)Z"⟩, code, 4, ret)
section XL
variable {X : xPar}
theorem f_Al_9 : xFl (xGG X) "java/util/ArrayList" 9 10 0 R_Al T_Al 3 := ⟨rfl, l_Al, by decide, Or.inl (xi1 58 rfl rfl)⟩
theorem p_Al_9 : xFp (xGG X) "java/util/ArrayList" 9 10 0 R_Al T_Al 3 t_Al false := ⟨f_Al_9, t_Al_ok, n_Al, Or.inl rfl⟩
theorem f_Al_48 : xFl (xGG X) "java/util/ArrayList" 48 10 1 R_Al T_Al 3 := ⟨rfl, l_Al, by decide, Or.inl (xi1 59 rfl rfl)⟩
theorem p_Al_48 : xFp (xGG X) "java/util/ArrayList" 48 10 1 R_Al T_Al 3 t_Al false := ⟨f_Al_48, t_Al_ok, n_Al, Or.inl rfl⟩
theorem f_Ab_7 : xFl (xGG X) "java/util/AbstractList" 7 10 2 R_Al T_Al 3 := ⟨rfl, l_Al, by decide, Or.inl (xi1 60 rfl rfl)⟩
theorem p_Ab_7 : xFp (xGG X) "java/util/AbstractList" 7 10 2 R_Al T_Al 3 t_Al false := ⟨f_Ab_7, t_Al_ok, n_Al, Or.inl rfl⟩
theorem f_Al_63 : xFl (xGG X) "java/util/ArrayList" 63 10 2 R_Al T_Al 3 := ⟨rfl, l_Al, by decide, Or.inr (Or.inl ⟨"java/util/ArrayList", (xi1 61 rfl rfl), (xi1 62 rfl rfl)⟩)⟩
theorem p_Al_63 : xFp (xGG X) "java/util/ArrayList" 63 10 2 R_Al T_Al 3 t_Al false := ⟨f_Al_63, t_Al_ok, n_Al, Or.inl rfl⟩
theorem f_In_10 : xFl (xGG X) "EpochLedger$Inbox" 10 2 0 R_In T_In 1 := ⟨rfl, l_In, by decide, Or.inl (xi1 70 rfl rfl)⟩
theorem p_In_10 : xFp (xGG X) "EpochLedger$Inbox" 10 2 0 R_In T_In 1 t_In true := ⟨f_In_10, t_In_ok, n_In, Or.inr ⟨rfl, rfl, rfl, (xi1 70 rfl rfl)⟩⟩
theorem f_Nt_18 : xFl (xGG X) "EpochLedger$Network" 18 2 0 R_In T_In 1 := ⟨rfl, l_In, by decide, Or.inr (Or.inr ⟨"EpochLedger", (xj1 71 rfl rfl)⟩)⟩
theorem f_Nt_11 : xFl (xGG X) "EpochLedger$Network" 11 4 0 R_Nt T_Nt 1 := ⟨rfl, l_Nt, by decide, Or.inl (xi1 75 rfl rfl)⟩
theorem p_Nt_11 : xFp (xGG X) "EpochLedger$Network" 11 4 0 R_Nt T_Nt 1 t_Nt true := ⟨f_Nt_11, t_Nt_ok, n_Nt, Or.inr ⟨rfl, rfl, rfl, (xi1 75 rfl rfl)⟩⟩
theorem f_Rw_9 : xFl (xGG X) "EpochLedger$Row" 9 7 0 R_Rw T_Rw 2 := ⟨rfl, l_Rw, by decide, Or.inl (xi1 92 rfl rfl)⟩
theorem p_Rw_9 : xFp (xGG X) "EpochLedger$Row" 9 7 0 R_Rw T_Rw 2 t_Rw true := ⟨f_Rw_9, t_Rw_ok, n_Rw, Or.inr ⟨rfl, rfl, rfl, (xi1 92 rfl rfl)⟩⟩
theorem f_Rw_15 : xFl (xGG X) "EpochLedger$Row" 15 7 1 R_Rw T_Rw 2 := ⟨rfl, l_Rw, by decide, Or.inl (xi1 93 rfl rfl)⟩
theorem p_Rw_15 : xFp (xGG X) "EpochLedger$Row" 15 7 1 R_Rw T_Rw 2 t_Rw false := ⟨f_Rw_15, t_Rw_ok, n_Rw, Or.inl rfl⟩
theorem f_Rt_9 : xFl (xGG X) "EpochLedger$Roots" 9 6 0 R_Rt T_Rt 2 := ⟨rfl, l_Rt, by decide, Or.inl (xi1 115 rfl rfl)⟩
theorem p_Rt_9 : xFp (xGG X) "EpochLedger$Roots" 9 6 0 R_Rt T_Rt 2 t_Rt true := ⟨f_Rt_9, t_Rt_ok, n_Rt, Or.inr ⟨rfl, rfl, rfl, (xi1 115 rfl rfl)⟩⟩
theorem f_Bc_105 : xFl (xGG X) "EpochLedger$Broadcast" 105 6 0 R_Rt T_Rt 2 := ⟨rfl, l_Rt, by decide, Or.inr (Or.inr ⟨"EpochLedger", (xj1 116 rfl rfl)⟩)⟩
theorem f_Rt_15 : xFl (xGG X) "EpochLedger$Roots" 15 6 1 R_Rt T_Rt 2 := ⟨rfl, l_Rt, by decide, Or.inl (xi1 117 rfl rfl)⟩
theorem p_Rt_15 : xFp (xGG X) "EpochLedger$Roots" 15 6 1 R_Rt T_Rt 2 t_Rt false := ⟨f_Rt_15, t_Rt_ok, n_Rt, Or.inl rfl⟩
theorem f_Bc_29 : xFl (xGG X) "EpochLedger$Broadcast" 29 1 0 R_Bc T_Bc 13 := ⟨rfl, l_Bc, by decide, Or.inl (xi1 123 rfl rfl)⟩
theorem p_Bc_29 : xFp (xGG X) "EpochLedger$Broadcast" 29 1 0 R_Bc T_Bc 13 t_Bc true := ⟨f_Bc_29, t_Bc_ok, n_Bc, Or.inr ⟨rfl, rfl, rfl, (xi1 123 rfl rfl)⟩⟩
theorem f_Bc_33 : xFl (xGG X) "EpochLedger$Broadcast" 33 1 1 R_Bc T_Bc 13 := ⟨rfl, l_Bc, by decide, Or.inl (xi1 124 rfl rfl)⟩
theorem p_Bc_33 : xFp (xGG X) "EpochLedger$Broadcast" 33 1 1 R_Bc T_Bc 13 t_Bc true := ⟨f_Bc_33, t_Bc_ok, n_Bc, Or.inr ⟨rfl, rfl, rfl, (xi1 124 rfl rfl)⟩⟩
theorem f_Bc_36 : xFl (xGG X) "EpochLedger$Broadcast" 36 1 2 R_Bc T_Bc 13 := ⟨rfl, l_Bc, by decide, Or.inl (xi1 125 rfl rfl)⟩
theorem p_Bc_36 : xFp (xGG X) "EpochLedger$Broadcast" 36 1 2 R_Bc T_Bc 13 t_Bc true := ⟨f_Bc_36, t_Bc_ok, n_Bc, Or.inr ⟨rfl, rfl, rfl, (xi1 125 rfl rfl)⟩⟩
theorem f_Bc_39 : xFl (xGG X) "EpochLedger$Broadcast" 39 1 3 R_Bc T_Bc 13 := ⟨rfl, l_Bc, by decide, Or.inl (xi1 126 rfl rfl)⟩
theorem p_Bc_39 : xFp (xGG X) "EpochLedger$Broadcast" 39 1 3 R_Bc T_Bc 13 t_Bc true := ⟨f_Bc_39, t_Bc_ok, n_Bc, Or.inr ⟨rfl, rfl, rfl, (xi1 126 rfl rfl)⟩⟩
theorem f_Bc_68 : xFl (xGG X) "EpochLedger$Broadcast" 68 1 4 R_Bc T_Bc 13 := ⟨rfl, l_Bc, by decide, Or.inl (xi1 127 rfl rfl)⟩
theorem p_Bc_68 : xFp (xGG X) "EpochLedger$Broadcast" 68 1 4 R_Bc T_Bc 13 t_Bc false := ⟨f_Bc_68, t_Bc_ok, n_Bc, Or.inl rfl⟩
theorem f_Bc_81 : xFl (xGG X) "EpochLedger$Broadcast" 81 1 5 R_Bc T_Bc 13 := ⟨rfl, l_Bc, by decide, Or.inl (xi1 128 rfl rfl)⟩
theorem p_Bc_81 : xFp (xGG X) "EpochLedger$Broadcast" 81 1 5 R_Bc T_Bc 13 t_Bc false := ⟨f_Bc_81, t_Bc_ok, n_Bc, Or.inl rfl⟩
theorem f_Bc_84 : xFl (xGG X) "EpochLedger$Broadcast" 84 1 6 R_Bc T_Bc 13 := ⟨rfl, l_Bc, by decide, Or.inl (xi1 129 rfl rfl)⟩
theorem p_Bc_84 : xFp (xGG X) "EpochLedger$Broadcast" 84 1 6 R_Bc T_Bc 13 t_Bc false := ⟨f_Bc_84, t_Bc_ok, n_Bc, Or.inl rfl⟩
theorem f_Bc_12 : xFl (xGG X) "EpochLedger$Broadcast" 12 1 7 R_Bc T_Bc 13 := ⟨rfl, l_Bc, by decide, Or.inl (xi1 130 rfl rfl)⟩
theorem p_Bc_12 : xFp (xGG X) "EpochLedger$Broadcast" 12 1 7 R_Bc T_Bc 13 t_Bc true := ⟨f_Bc_12, t_Bc_ok, n_Bc, Or.inr ⟨rfl, rfl, rfl, (xi1 130 rfl rfl)⟩⟩
theorem f_Bc_18 : xFl (xGG X) "EpochLedger$Broadcast" 18 1 8 R_Bc T_Bc 13 := ⟨rfl, l_Bc, by decide, Or.inl (xi1 131 rfl rfl)⟩
theorem p_Bc_18 : xFp (xGG X) "EpochLedger$Broadcast" 18 1 8 R_Bc T_Bc 13 t_Bc true := ⟨f_Bc_18, t_Bc_ok, n_Bc, Or.inr ⟨rfl, rfl, rfl, (xi1 131 rfl rfl)⟩⟩
theorem f_Bc_22 : xFl (xGG X) "EpochLedger$Broadcast" 22 1 9 R_Bc T_Bc 13 := ⟨rfl, l_Bc, by decide, Or.inl (xi1 132 rfl rfl)⟩
theorem p_Bc_22 : xFp (xGG X) "EpochLedger$Broadcast" 22 1 9 R_Bc T_Bc 13 t_Bc true := ⟨f_Bc_22, t_Bc_ok, n_Bc, Or.inr ⟨rfl, rfl, rfl, (xi1 132 rfl rfl)⟩⟩
theorem f_Bc_87 : xFl (xGG X) "EpochLedger$Broadcast" 87 1 10 R_Bc T_Bc 13 := ⟨rfl, l_Bc, by decide, Or.inl (xi1 133 rfl rfl)⟩
theorem p_Bc_87 : xFp (xGG X) "EpochLedger$Broadcast" 87 1 10 R_Bc T_Bc 13 t_Bc false := ⟨f_Bc_87, t_Bc_ok, n_Bc, Or.inl rfl⟩
theorem f_Bc_98 : xFl (xGG X) "EpochLedger$Broadcast" 98 1 11 R_Bc T_Bc 13 := ⟨rfl, l_Bc, by decide, Or.inl (xi1 134 rfl rfl)⟩
theorem p_Bc_98 : xFp (xGG X) "EpochLedger$Broadcast" 98 1 11 R_Bc T_Bc 13 t_Bc false := ⟨f_Bc_98, t_Bc_ok, n_Bc, Or.inl rfl⟩
theorem f_Bc_25 : xFl (xGG X) "EpochLedger$Broadcast" 25 1 12 R_Bc T_Bc 13 := ⟨rfl, l_Bc, by decide, Or.inl (xi1 135 rfl rfl)⟩
theorem p_Bc_25 : xFp (xGG X) "EpochLedger$Broadcast" 25 1 12 R_Bc T_Bc 13 t_Bc false := ⟨f_Bc_25, t_Bc_ok, n_Bc, Or.inl rfl⟩
theorem f_Nd_139 : xFl (xGG X) "EpochLedger$Node" 139 1 12 R_Bc T_Bc 13 := ⟨rfl, l_Bc, by decide, Or.inr (Or.inr ⟨"EpochLedger", (xj1 136 rfl rfl)⟩)⟩
theorem p_Nd_139 : xFp (xGG X) "EpochLedger$Node" 139 1 12 R_Bc T_Bc 13 t_Bc false := ⟨f_Nd_139, t_Bc_ok, n_Bc, Or.inl rfl⟩
theorem f_El_111 : xFl (xGG X) "EpochLedger" 111 1 12 R_Bc T_Bc 13 := ⟨rfl, l_Bc, by decide, Or.inr (Or.inr ⟨"EpochLedger", (xj1 137 rfl rfl)⟩)⟩
theorem p_El_111 : xFp (xGG X) "EpochLedger" 111 1 12 R_Bc T_Bc 13 t_Bc false := ⟨f_El_111, t_Bc_ok, n_Bc, Or.inl rfl⟩
theorem f_Ag_28 : xFl (xGG X) "EpochLedger$Agreement" 28 0 0 R_Ag T_Ag 14 := ⟨rfl, l_Ag, by decide, Or.inl (xi1 170 rfl rfl)⟩
theorem p_Ag_28 : xFp (xGG X) "EpochLedger$Agreement" 28 0 0 R_Ag T_Ag 14 t_Ag true := ⟨f_Ag_28, t_Ag_ok, n_Ag, Or.inr ⟨rfl, rfl, rfl, (xi1 170 rfl rfl)⟩⟩
theorem f_Ag_32 : xFl (xGG X) "EpochLedger$Agreement" 32 0 1 R_Ag T_Ag 14 := ⟨rfl, l_Ag, by decide, Or.inl (xi1 171 rfl rfl)⟩
theorem p_Ag_32 : xFp (xGG X) "EpochLedger$Agreement" 32 0 1 R_Ag T_Ag 14 t_Ag true := ⟨f_Ag_32, t_Ag_ok, n_Ag, Or.inr ⟨rfl, rfl, rfl, (xi1 171 rfl rfl)⟩⟩
theorem f_Ag_35 : xFl (xGG X) "EpochLedger$Agreement" 35 0 2 R_Ag T_Ag 14 := ⟨rfl, l_Ag, by decide, Or.inl (xi1 172 rfl rfl)⟩
theorem p_Ag_35 : xFp (xGG X) "EpochLedger$Agreement" 35 0 2 R_Ag T_Ag 14 t_Ag true := ⟨f_Ag_35, t_Ag_ok, n_Ag, Or.inr ⟨rfl, rfl, rfl, (xi1 172 rfl rfl)⟩⟩
theorem f_Ag_38 : xFl (xGG X) "EpochLedger$Agreement" 38 0 3 R_Ag T_Ag 14 := ⟨rfl, l_Ag, by decide, Or.inl (xi1 173 rfl rfl)⟩
theorem p_Ag_38 : xFp (xGG X) "EpochLedger$Agreement" 38 0 3 R_Ag T_Ag 14 t_Ag true := ⟨f_Ag_38, t_Ag_ok, n_Ag, Or.inr ⟨rfl, rfl, rfl, (xi1 173 rfl rfl)⟩⟩
theorem f_Ag_41 : xFl (xGG X) "EpochLedger$Agreement" 41 0 4 R_Ag T_Ag 14 := ⟨rfl, l_Ag, by decide, Or.inl (xi1 174 rfl rfl)⟩
theorem p_Ag_41 : xFp (xGG X) "EpochLedger$Agreement" 41 0 4 R_Ag T_Ag 14 t_Ag true := ⟨f_Ag_41, t_Ag_ok, n_Ag, Or.inr ⟨rfl, rfl, rfl, (xi1 174 rfl rfl)⟩⟩
theorem f_Ag_9 : xFl (xGG X) "EpochLedger$Agreement" 9 0 5 R_Ag T_Ag 14 := ⟨rfl, l_Ag, by decide, Or.inl (xi1 175 rfl rfl)⟩
theorem p_Ag_9 : xFp (xGG X) "EpochLedger$Agreement" 9 0 5 R_Ag T_Ag 14 t_Ag true := ⟨f_Ag_9, t_Ag_ok, n_Ag, Or.inr ⟨rfl, rfl, rfl, (xi1 175 rfl rfl)⟩⟩
theorem f_Ag_15 : xFl (xGG X) "EpochLedger$Agreement" 15 0 6 R_Ag T_Ag 14 := ⟨rfl, l_Ag, by decide, Or.inl (xi1 176 rfl rfl)⟩
theorem p_Ag_15 : xFp (xGG X) "EpochLedger$Agreement" 15 0 6 R_Ag T_Ag 14 t_Ag true := ⟨f_Ag_15, t_Ag_ok, n_Ag, Or.inr ⟨rfl, rfl, rfl, (xi1 176 rfl rfl)⟩⟩
theorem f_Ag_18 : xFl (xGG X) "EpochLedger$Agreement" 18 0 7 R_Ag T_Ag 14 := ⟨rfl, l_Ag, by decide, Or.inl (xi1 177 rfl rfl)⟩
theorem p_Ag_18 : xFp (xGG X) "EpochLedger$Agreement" 18 0 7 R_Ag T_Ag 14 t_Ag false := ⟨f_Ag_18, t_Ag_ok, n_Ag, Or.inl rfl⟩
theorem f_El_114 : xFl (xGG X) "EpochLedger" 114 0 7 R_Ag T_Ag 14 := ⟨rfl, l_Ag, by decide, Or.inr (Or.inr ⟨"EpochLedger", (xj1 178 rfl rfl)⟩)⟩
theorem p_El_114 : xFp (xGG X) "EpochLedger" 114 0 7 R_Ag T_Ag 14 t_Ag false := ⟨f_El_114, t_Ag_ok, n_Ag, Or.inl rfl⟩
theorem f_Ag_22 : xFl (xGG X) "EpochLedger$Agreement" 22 0 8 R_Ag T_Ag 14 := ⟨rfl, l_Ag, by decide, Or.inl (xi1 179 rfl rfl)⟩
theorem p_Ag_22 : xFp (xGG X) "EpochLedger$Agreement" 22 0 8 R_Ag T_Ag 14 t_Ag false := ⟨f_Ag_22, t_Ag_ok, n_Ag, Or.inl rfl⟩
theorem f_El_119 : xFl (xGG X) "EpochLedger" 119 0 8 R_Ag T_Ag 14 := ⟨rfl, l_Ag, by decide, Or.inr (Or.inr ⟨"EpochLedger", (xj1 180 rfl rfl)⟩)⟩
theorem p_El_119 : xFp (xGG X) "EpochLedger" 119 0 8 R_Ag T_Ag 14 t_Ag false := ⟨f_El_119, t_Ag_ok, n_Ag, Or.inl rfl⟩
theorem f_Ag_25 : xFl (xGG X) "EpochLedger$Agreement" 25 0 9 R_Ag T_Ag 14 := ⟨rfl, l_Ag, by decide, Or.inl (xi1 181 rfl rfl)⟩
theorem p_Ag_25 : xFp (xGG X) "EpochLedger$Agreement" 25 0 9 R_Ag T_Ag 14 t_Ag false := ⟨f_Ag_25, t_Ag_ok, n_Ag, Or.inl rfl⟩
theorem f_Nd_151 : xFl (xGG X) "EpochLedger$Node" 151 0 9 R_Ag T_Ag 14 := ⟨rfl, l_Ag, by decide, Or.inr (Or.inr ⟨"EpochLedger", (xj1 182 rfl rfl)⟩)⟩
theorem p_Nd_151 : xFp (xGG X) "EpochLedger$Node" 151 0 9 R_Ag T_Ag 14 t_Ag false := ⟨f_Nd_151, t_Ag_ok, n_Ag, Or.inl rfl⟩
theorem f_El_122 : xFl (xGG X) "EpochLedger" 122 0 9 R_Ag T_Ag 14 := ⟨rfl, l_Ag, by decide, Or.inr (Or.inr ⟨"EpochLedger", (xj1 183 rfl rfl)⟩)⟩
theorem p_El_122 : xFp (xGG X) "EpochLedger" 122 0 9 R_Ag T_Ag 14 t_Ag false := ⟨f_El_122, t_Ag_ok, n_Ag, Or.inl rfl⟩
theorem f_Ag_62 : xFl (xGG X) "EpochLedger$Agreement" 62 0 10 R_Ag T_Ag 14 := ⟨rfl, l_Ag, by decide, Or.inl (xi1 184 rfl rfl)⟩
theorem p_Ag_62 : xFp (xGG X) "EpochLedger$Agreement" 62 0 10 R_Ag T_Ag 14 t_Ag false := ⟨f_Ag_62, t_Ag_ok, n_Ag, Or.inl rfl⟩
theorem f_El_125 : xFl (xGG X) "EpochLedger" 125 0 10 R_Ag T_Ag 14 := ⟨rfl, l_Ag, by decide, Or.inr (Or.inr ⟨"EpochLedger", (xj1 185 rfl rfl)⟩)⟩
theorem p_El_125 : xFp (xGG X) "EpochLedger" 125 0 10 R_Ag T_Ag 14 t_Ag false := ⟨f_El_125, t_Ag_ok, n_Ag, Or.inl rfl⟩
theorem f_Ag_100 : xFl (xGG X) "EpochLedger$Agreement" 100 0 11 R_Ag T_Ag 14 := ⟨rfl, l_Ag, by decide, Or.inl (xi1 186 rfl rfl)⟩
theorem p_Ag_100 : xFp (xGG X) "EpochLedger$Agreement" 100 0 11 R_Ag T_Ag 14 t_Ag false := ⟨f_Ag_100, t_Ag_ok, n_Ag, Or.inl rfl⟩
theorem f_El_128 : xFl (xGG X) "EpochLedger" 128 0 11 R_Ag T_Ag 14 := ⟨rfl, l_Ag, by decide, Or.inr (Or.inr ⟨"EpochLedger", (xj1 187 rfl rfl)⟩)⟩
theorem p_El_128 : xFp (xGG X) "EpochLedger" 128 0 11 R_Ag T_Ag 14 t_Ag false := ⟨f_El_128, t_Ag_ok, n_Ag, Or.inl rfl⟩
theorem f_Ag_88 : xFl (xGG X) "EpochLedger$Agreement" 88 0 12 R_Ag T_Ag 14 := ⟨rfl, l_Ag, by decide, Or.inl (xi1 188 rfl rfl)⟩
theorem p_Ag_88 : xFp (xGG X) "EpochLedger$Agreement" 88 0 12 R_Ag T_Ag 14 t_Ag false := ⟨f_Ag_88, t_Ag_ok, n_Ag, Or.inl rfl⟩
theorem f_Ag_103 : xFl (xGG X) "EpochLedger$Agreement" 103 0 13 R_Ag T_Ag 14 := ⟨rfl, l_Ag, by decide, Or.inl (xi1 189 rfl rfl)⟩
theorem p_Ag_103 : xFp (xGG X) "EpochLedger$Agreement" 103 0 13 R_Ag T_Ag 14 t_Ag false := ⟨f_Ag_103, t_Ag_ok, n_Ag, Or.inl rfl⟩
theorem f_Nd_39 : xFl (xGG X) "EpochLedger$Node" 39 5 0 R_Nd T_Nd 8 := ⟨rfl, l_Nd, by decide, Or.inl (xi1 219 rfl rfl)⟩
theorem p_Nd_39 : xFp (xGG X) "EpochLedger$Node" 39 5 0 R_Nd T_Nd 8 t_Nd true := ⟨f_Nd_39, t_Nd_ok, n_Nd, Or.inr ⟨rfl, rfl, rfl, (xi1 219 rfl rfl)⟩⟩
theorem f_Nd_42 : xFl (xGG X) "EpochLedger$Node" 42 5 1 R_Nd T_Nd 8 := ⟨rfl, l_Nd, by decide, Or.inl (xi1 220 rfl rfl)⟩
theorem p_Nd_42 : xFp (xGG X) "EpochLedger$Node" 42 5 1 R_Nd T_Nd 8 t_Nd true := ⟨f_Nd_42, t_Nd_ok, n_Nd, Or.inr ⟨rfl, rfl, rfl, (xi1 220 rfl rfl)⟩⟩
theorem f_Nd_14 : xFl (xGG X) "EpochLedger$Node" 14 5 2 R_Nd T_Nd 8 := ⟨rfl, l_Nd, by decide, Or.inl (xi1 221 rfl rfl)⟩
theorem p_Nd_14 : xFp (xGG X) "EpochLedger$Node" 14 5 2 R_Nd T_Nd 8 t_Nd true := ⟨f_Nd_14, t_Nd_ok, n_Nd, Or.inr ⟨rfl, rfl, rfl, (xi1 221 rfl rfl)⟩⟩
theorem f_El_94 : xFl (xGG X) "EpochLedger" 94 5 2 R_Nd T_Nd 8 := ⟨rfl, l_Nd, by decide, Or.inr (Or.inr ⟨"EpochLedger", (xj1 222 rfl rfl)⟩)⟩
theorem f_Nd_20 : xFl (xGG X) "EpochLedger$Node" 20 5 3 R_Nd T_Nd 8 := ⟨rfl, l_Nd, by decide, Or.inl (xi1 223 rfl rfl)⟩
theorem p_Nd_20 : xFp (xGG X) "EpochLedger$Node" 20 5 3 R_Nd T_Nd 8 t_Nd true := ⟨f_Nd_20, t_Nd_ok, n_Nd, Or.inr ⟨rfl, rfl, rfl, (xi1 223 rfl rfl)⟩⟩
theorem f_El_85 : xFl (xGG X) "EpochLedger" 85 5 3 R_Nd T_Nd 8 := ⟨rfl, l_Nd, by decide, Or.inr (Or.inr ⟨"EpochLedger", (xj1 224 rfl rfl)⟩)⟩
theorem f_Nd_25 : xFl (xGG X) "EpochLedger$Node" 25 5 4 R_Nd T_Nd 8 := ⟨rfl, l_Nd, by decide, Or.inl (xi1 225 rfl rfl)⟩
theorem p_Nd_25 : xFp (xGG X) "EpochLedger$Node" 25 5 4 R_Nd T_Nd 8 t_Nd true := ⟨f_Nd_25, t_Nd_ok, n_Nd, Or.inr ⟨rfl, rfl, rfl, (xi1 225 rfl rfl)⟩⟩
theorem f_Nd_31 : xFl (xGG X) "EpochLedger$Node" 31 5 5 R_Nd T_Nd 8 := ⟨rfl, l_Nd, by decide, Or.inl (xi1 226 rfl rfl)⟩
theorem p_Nd_31 : xFp (xGG X) "EpochLedger$Node" 31 5 5 R_Nd T_Nd 8 t_Nd true := ⟨f_Nd_31, t_Nd_ok, n_Nd, Or.inr ⟨rfl, rfl, rfl, (xi1 226 rfl rfl)⟩⟩
theorem f_Nd_35 : xFl (xGG X) "EpochLedger$Node" 35 5 6 R_Nd T_Nd 8 := ⟨rfl, l_Nd, by decide, Or.inl (xi1 227 rfl rfl)⟩
theorem p_Nd_35 : xFp (xGG X) "EpochLedger$Node" 35 5 6 R_Nd T_Nd 8 t_Nd false := ⟨f_Nd_35, t_Nd_ok, n_Nd, Or.inl rfl⟩
theorem f_El_82 : xFl (xGG X) "EpochLedger" 82 5 6 R_Nd T_Nd 8 := ⟨rfl, l_Nd, by decide, Or.inr (Or.inr ⟨"EpochLedger", (xj1 228 rfl rfl)⟩)⟩
theorem p_El_82 : xFp (xGG X) "EpochLedger" 82 5 6 R_Nd T_Nd 8 t_Nd false := ⟨f_El_82, t_Nd_ok, n_Nd, Or.inl rfl⟩
theorem f_Nd_63 : xFl (xGG X) "EpochLedger$Node" 63 5 7 R_Nd T_Nd 8 := ⟨rfl, l_Nd, by decide, Or.inl (xi1 229 rfl rfl)⟩
theorem p_Nd_63 : xFp (xGG X) "EpochLedger$Node" 63 5 7 R_Nd T_Nd 8 t_Nd false := ⟨f_Nd_63, t_Nd_ok, n_Nd, Or.inl rfl⟩
theorem f_El_62 : xFl (xGG X) "EpochLedger" 62 5 7 R_Nd T_Nd 8 := ⟨rfl, l_Nd, by decide, Or.inr (Or.inr ⟨"EpochLedger", (xj1 230 rfl rfl)⟩)⟩
theorem p_El_62 : xFp (xGG X) "EpochLedger" 62 5 7 R_Nd T_Nd 8 t_Nd false := ⟨f_El_62, t_Nd_ok, n_Nd, Or.inl rfl⟩
theorem f_El_10 : xFl (xGG X) "EpochLedger" 10 8 0 R_El T_El 4 := ⟨rfl, l_El, by decide, Or.inl (xi2 8 rfl rfl)⟩
theorem p_El_10 : xFp (xGG X) "EpochLedger" 10 8 0 R_El T_El 4 t_El true := ⟨f_El_10, t_El_ok, n_El, Or.inr ⟨rfl, rfl, rfl, (xi2 8 rfl rfl)⟩⟩
theorem f_El_17 : xFl (xGG X) "EpochLedger" 17 8 1 R_El T_El 4 := ⟨rfl, l_El, by decide, Or.inl (xi2 9 rfl rfl)⟩
theorem p_El_17 : xFp (xGG X) "EpochLedger" 17 8 1 R_El T_El 4 t_El true := ⟨f_El_17, t_El_ok, n_El, Or.inr ⟨rfl, rfl, rfl, (xi2 9 rfl rfl)⟩⟩
theorem f_El_23 : xFl (xGG X) "EpochLedger" 23 8 2 R_El T_El 4 := ⟨rfl, l_El, by decide, Or.inl (xi2 10 rfl rfl)⟩
theorem p_El_23 : xFp (xGG X) "EpochLedger" 23 8 2 R_El T_El 4 t_El true := ⟨f_El_23, t_El_ok, n_El, Or.inr ⟨rfl, rfl, rfl, (xi2 10 rfl rfl)⟩⟩
theorem f_El_66 : xFl (xGG X) "EpochLedger" 66 8 3 R_El T_El 4 := ⟨rfl, l_El, by decide, Or.inl (xi2 11 rfl rfl)⟩
theorem p_El_66 : xFp (xGG X) "EpochLedger" 66 8 3 R_El T_El 4 t_El false := ⟨f_El_66, t_El_ok, n_El, Or.inl rfl⟩
theorem f_Ms_7 : xFl (xGG X) "EpochLedger$Message" 7 3 0 R_Ms T_Ms 6 := ⟨rfl, l_Ms, by decide, Or.inl (xi2 99 rfl rfl)⟩
theorem p_Ms_7 : xFp (xGG X) "EpochLedger$Message" 7 3 0 R_Ms T_Ms 6 t_Ms true := ⟨f_Ms_7, t_Ms_ok, n_Ms, Or.inr ⟨rfl, rfl, rfl, (xi2 99 rfl rfl)⟩⟩
theorem f_Ag_52 : xFl (xGG X) "EpochLedger$Agreement" 52 3 0 R_Ms T_Ms 6 := ⟨rfl, l_Ms, by decide, Or.inr (Or.inr ⟨"EpochLedger", (xj2 100 rfl rfl)⟩)⟩
theorem f_Bc_54 : xFl (xGG X) "EpochLedger$Broadcast" 54 3 0 R_Ms T_Ms 6 := ⟨rfl, l_Ms, by decide, Or.inr (Or.inr ⟨"EpochLedger", (xj2 101 rfl rfl)⟩)⟩
theorem f_Ms_13 : xFl (xGG X) "EpochLedger$Message" 13 3 1 R_Ms T_Ms 6 := ⟨rfl, l_Ms, by decide, Or.inl (xi2 102 rfl rfl)⟩
theorem p_Ms_13 : xFp (xGG X) "EpochLedger$Message" 13 3 1 R_Ms T_Ms 6 t_Ms true := ⟨f_Ms_13, t_Ms_ok, n_Ms, Or.inr ⟨rfl, rfl, rfl, (xi2 102 rfl rfl)⟩⟩
theorem f_Nd_74 : xFl (xGG X) "EpochLedger$Node" 74 3 1 R_Ms T_Ms 6 := ⟨rfl, l_Ms, by decide, Or.inr (Or.inr ⟨"EpochLedger", (xj2 103 rfl rfl)⟩)⟩
theorem f_Ms_16 : xFl (xGG X) "EpochLedger$Message" 16 3 2 R_Ms T_Ms 6 := ⟨rfl, l_Ms, by decide, Or.inl (xi2 104 rfl rfl)⟩
theorem p_Ms_16 : xFp (xGG X) "EpochLedger$Message" 16 3 2 R_Ms T_Ms 6 t_Ms true := ⟨f_Ms_16, t_Ms_ok, n_Ms, Or.inr ⟨rfl, rfl, rfl, (xi2 104 rfl rfl)⟩⟩
theorem f_Nd_77 : xFl (xGG X) "EpochLedger$Node" 77 3 2 R_Ms T_Ms 6 := ⟨rfl, l_Ms, by decide, Or.inr (Or.inr ⟨"EpochLedger", (xj2 105 rfl rfl)⟩)⟩
theorem f_Ms_19 : xFl (xGG X) "EpochLedger$Message" 19 3 3 R_Ms T_Ms 6 := ⟨rfl, l_Ms, by decide, Or.inl (xi2 106 rfl rfl)⟩
theorem p_Ms_19 : xFp (xGG X) "EpochLedger$Message" 19 3 3 R_Ms T_Ms 6 t_Ms true := ⟨f_Ms_19, t_Ms_ok, n_Ms, Or.inr ⟨rfl, rfl, rfl, (xi2 106 rfl rfl)⟩⟩
theorem f_Bc_42 : xFl (xGG X) "EpochLedger$Broadcast" 42 3 3 R_Ms T_Ms 6 := ⟨rfl, l_Ms, by decide, Or.inr (Or.inr ⟨"EpochLedger", (xj2 107 rfl rfl)⟩)⟩
theorem f_Ag_55 : xFl (xGG X) "EpochLedger$Agreement" 55 3 3 R_Ms T_Ms 6 := ⟨rfl, l_Ms, by decide, Or.inr (Or.inr ⟨"EpochLedger", (xj2 108 rfl rfl)⟩)⟩
theorem f_El_57 : xFl (xGG X) "EpochLedger" 57 3 3 R_Ms T_Ms 6 := ⟨rfl, l_Ms, by decide, Or.inr (Or.inr ⟨"EpochLedger", (xj2 109 rfl rfl)⟩)⟩
theorem f_Nd_80 : xFl (xGG X) "EpochLedger$Node" 80 3 3 R_Ms T_Ms 6 := ⟨rfl, l_Ms, by decide, Or.inr (Or.inr ⟨"EpochLedger", (xj2 110 rfl rfl)⟩)⟩
theorem f_Ms_22 : xFl (xGG X) "EpochLedger$Message" 22 3 4 R_Ms T_Ms 6 := ⟨rfl, l_Ms, by decide, Or.inl (xi2 111 rfl rfl)⟩
theorem p_Ms_22 : xFp (xGG X) "EpochLedger$Message" 22 3 4 R_Ms T_Ms 6 t_Ms true := ⟨f_Ms_22, t_Ms_ok, n_Ms, Or.inr ⟨rfl, rfl, rfl, (xi2 111 rfl rfl)⟩⟩
theorem f_Ag_44 : xFl (xGG X) "EpochLedger$Agreement" 44 3 4 R_Ms T_Ms 6 := ⟨rfl, l_Ms, by decide, Or.inr (Or.inr ⟨"EpochLedger", (xj2 112 rfl rfl)⟩)⟩
theorem f_Bc_61 : xFl (xGG X) "EpochLedger$Broadcast" 61 3 4 R_Ms T_Ms 6 := ⟨rfl, l_Ms, by decide, Or.inr (Or.inr ⟨"EpochLedger", (xj2 113 rfl rfl)⟩)⟩
theorem f_Ms_25 : xFl (xGG X) "EpochLedger$Message" 25 3 5 R_Ms T_Ms 6 := ⟨rfl, l_Ms, by decide, Or.inl (xi2 114 rfl rfl)⟩
theorem p_Ms_25 : xFp (xGG X) "EpochLedger$Message" 25 3 5 R_Ms T_Ms 6 t_Ms true := ⟨f_Ms_25, t_Ms_ok, n_Ms, Or.inr ⟨rfl, rfl, rfl, (xi2 114 rfl rfl)⟩⟩
theorem f_Ag_49 : xFl (xGG X) "EpochLedger$Agreement" 49 3 5 R_Ms T_Ms 6 := ⟨rfl, l_Ms, by decide, Or.inr (Or.inr ⟨"EpochLedger", (xj2 115 rfl rfl)⟩)⟩
theorem f_Bc_72 : xFl (xGG X) "EpochLedger$Broadcast" 72 3 5 R_Ms T_Ms 6 := ⟨rfl, l_Ms, by decide, Or.inr (Or.inr ⟨"EpochLedger", (xj2 116 rfl rfl)⟩)⟩
theorem f_Mo_102 : xFl (xGG X) "EpochLedgerModel" 102 9 0 R_Mo T_Mo 37 := ⟨rfl, l_Mo, by decide, Or.inl (xi3 218 rfl rfl)⟩
theorem p_Mo_102 : xFp (xGG X) "EpochLedgerModel" 102 9 0 R_Mo T_Mo 37 t_Mo true := ⟨f_Mo_102, t_Mo_ok, n_Mo, Or.inr ⟨rfl, rfl, rfl, (xi3 218 rfl rfl)⟩⟩
theorem f_Mo_153 : xFl (xGG X) "EpochLedgerModel" 153 9 1 R_Mo T_Mo 37 := ⟨rfl, l_Mo, by decide, Or.inl (xi3 219 rfl rfl)⟩
theorem p_Mo_153 : xFp (xGG X) "EpochLedgerModel" 153 9 1 R_Mo T_Mo 37 t_Mo false := ⟨f_Mo_153, t_Mo_ok, n_Mo, Or.inl rfl⟩
theorem f_Mo_186 : xFl (xGG X) "EpochLedgerModel" 186 9 2 R_Mo T_Mo 37 := ⟨rfl, l_Mo, by decide, Or.inl (xi3 220 rfl rfl)⟩
theorem p_Mo_186 : xFp (xGG X) "EpochLedgerModel" 186 9 2 R_Mo T_Mo 37 t_Mo false := ⟨f_Mo_186, t_Mo_ok, n_Mo, Or.inl rfl⟩
theorem f_Mo_147 : xFl (xGG X) "EpochLedgerModel" 147 9 3 R_Mo T_Mo 37 := ⟨rfl, l_Mo, by decide, Or.inl (xi3 221 rfl rfl)⟩
theorem p_Mo_147 : xFp (xGG X) "EpochLedgerModel" 147 9 3 R_Mo T_Mo 37 t_Mo false := ⟨f_Mo_147, t_Mo_ok, n_Mo, Or.inl rfl⟩
theorem f_Mo_7 : xFl (xGG X) "EpochLedgerModel" 7 9 4 R_Mo T_Mo 37 := ⟨rfl, l_Mo, by decide, Or.inl (xi3 222 rfl rfl)⟩
theorem p_Mo_7 : xFp (xGG X) "EpochLedgerModel" 7 9 4 R_Mo T_Mo 37 t_Mo true := ⟨f_Mo_7, t_Mo_ok, n_Mo, Or.inr ⟨rfl, rfl, rfl, (xi3 222 rfl rfl)⟩⟩
theorem f_Mo_13 : xFl (xGG X) "EpochLedgerModel" 13 9 5 R_Mo T_Mo 37 := ⟨rfl, l_Mo, by decide, Or.inl (xi3 223 rfl rfl)⟩
theorem p_Mo_13 : xFp (xGG X) "EpochLedgerModel" 13 9 5 R_Mo T_Mo 37 t_Mo true := ⟨f_Mo_13, t_Mo_ok, n_Mo, Or.inr ⟨rfl, rfl, rfl, (xi3 223 rfl rfl)⟩⟩
theorem f_Mo_16 : xFl (xGG X) "EpochLedgerModel" 16 9 6 R_Mo T_Mo 37 := ⟨rfl, l_Mo, by decide, Or.inl (xi3 224 rfl rfl)⟩
theorem p_Mo_16 : xFp (xGG X) "EpochLedgerModel" 16 9 6 R_Mo T_Mo 37 t_Mo true := ⟨f_Mo_16, t_Mo_ok, n_Mo, Or.inr ⟨rfl, rfl, rfl, (xi3 224 rfl rfl)⟩⟩
theorem f_Mo_19 : xFl (xGG X) "EpochLedgerModel" 19 9 7 R_Mo T_Mo 37 := ⟨rfl, l_Mo, by decide, Or.inl (xi3 225 rfl rfl)⟩
theorem p_Mo_19 : xFp (xGG X) "EpochLedgerModel" 19 9 7 R_Mo T_Mo 37 t_Mo true := ⟨f_Mo_19, t_Mo_ok, n_Mo, Or.inr ⟨rfl, rfl, rfl, (xi3 225 rfl rfl)⟩⟩
theorem f_Mo_22 : xFl (xGG X) "EpochLedgerModel" 22 9 8 R_Mo T_Mo 37 := ⟨rfl, l_Mo, by decide, Or.inl (xi3 226 rfl rfl)⟩
theorem p_Mo_22 : xFp (xGG X) "EpochLedgerModel" 22 9 8 R_Mo T_Mo 37 t_Mo true := ⟨f_Mo_22, t_Mo_ok, n_Mo, Or.inr ⟨rfl, rfl, rfl, (xi3 226 rfl rfl)⟩⟩
theorem f_Mo_25 : xFl (xGG X) "EpochLedgerModel" 25 9 9 R_Mo T_Mo 37 := ⟨rfl, l_Mo, by decide, Or.inl (xi3 227 rfl rfl)⟩
theorem p_Mo_25 : xFp (xGG X) "EpochLedgerModel" 25 9 9 R_Mo T_Mo 37 t_Mo true := ⟨f_Mo_25, t_Mo_ok, n_Mo, Or.inr ⟨rfl, rfl, rfl, (xi3 227 rfl rfl)⟩⟩
theorem f_Mo_28 : xFl (xGG X) "EpochLedgerModel" 28 9 10 R_Mo T_Mo 37 := ⟨rfl, l_Mo, by decide, Or.inl (xi3 228 rfl rfl)⟩
theorem p_Mo_28 : xFp (xGG X) "EpochLedgerModel" 28 9 10 R_Mo T_Mo 37 t_Mo true := ⟨f_Mo_28, t_Mo_ok, n_Mo, Or.inr ⟨rfl, rfl, rfl, (xi3 228 rfl rfl)⟩⟩
theorem f_Mo_31 : xFl (xGG X) "EpochLedgerModel" 31 9 11 R_Mo T_Mo 37 := ⟨rfl, l_Mo, by decide, Or.inl (xi3 229 rfl rfl)⟩
theorem p_Mo_31 : xFp (xGG X) "EpochLedgerModel" 31 9 11 R_Mo T_Mo 37 t_Mo true := ⟨f_Mo_31, t_Mo_ok, n_Mo, Or.inr ⟨rfl, rfl, rfl, (xi3 229 rfl rfl)⟩⟩
theorem f_Mo_34 : xFl (xGG X) "EpochLedgerModel" 34 9 12 R_Mo T_Mo 37 := ⟨rfl, l_Mo, by decide, Or.inl (xi3 230 rfl rfl)⟩
theorem p_Mo_34 : xFp (xGG X) "EpochLedgerModel" 34 9 12 R_Mo T_Mo 37 t_Mo true := ⟨f_Mo_34, t_Mo_ok, n_Mo, Or.inr ⟨rfl, rfl, rfl, (xi3 230 rfl rfl)⟩⟩
theorem f_Mo_38 : xFl (xGG X) "EpochLedgerModel" 38 9 13 R_Mo T_Mo 37 := ⟨rfl, l_Mo, by decide, Or.inl (xi3 231 rfl rfl)⟩
theorem p_Mo_38 : xFp (xGG X) "EpochLedgerModel" 38 9 13 R_Mo T_Mo 37 t_Mo true := ⟨f_Mo_38, t_Mo_ok, n_Mo, Or.inr ⟨rfl, rfl, rfl, (xi3 231 rfl rfl)⟩⟩
theorem f_Mo_41 : xFl (xGG X) "EpochLedgerModel" 41 9 14 R_Mo T_Mo 37 := ⟨rfl, l_Mo, by decide, Or.inl (xi3 232 rfl rfl)⟩
theorem p_Mo_41 : xFp (xGG X) "EpochLedgerModel" 41 9 14 R_Mo T_Mo 37 t_Mo true := ⟨f_Mo_41, t_Mo_ok, n_Mo, Or.inr ⟨rfl, rfl, rfl, (xi3 232 rfl rfl)⟩⟩
theorem f_Mo_44 : xFl (xGG X) "EpochLedgerModel" 44 9 15 R_Mo T_Mo 37 := ⟨rfl, l_Mo, by decide, Or.inl (xi3 233 rfl rfl)⟩
theorem p_Mo_44 : xFp (xGG X) "EpochLedgerModel" 44 9 15 R_Mo T_Mo 37 t_Mo true := ⟨f_Mo_44, t_Mo_ok, n_Mo, Or.inr ⟨rfl, rfl, rfl, (xi3 233 rfl rfl)⟩⟩
theorem f_Mo_47 : xFl (xGG X) "EpochLedgerModel" 47 9 16 R_Mo T_Mo 37 := ⟨rfl, l_Mo, by decide, Or.inl (xi3 234 rfl rfl)⟩
theorem p_Mo_47 : xFp (xGG X) "EpochLedgerModel" 47 9 16 R_Mo T_Mo 37 t_Mo true := ⟨f_Mo_47, t_Mo_ok, n_Mo, Or.inr ⟨rfl, rfl, rfl, (xi3 234 rfl rfl)⟩⟩
theorem f_Mo_50 : xFl (xGG X) "EpochLedgerModel" 50 9 17 R_Mo T_Mo 37 := ⟨rfl, l_Mo, by decide, Or.inl (xi3 235 rfl rfl)⟩
theorem p_Mo_50 : xFp (xGG X) "EpochLedgerModel" 50 9 17 R_Mo T_Mo 37 t_Mo true := ⟨f_Mo_50, t_Mo_ok, n_Mo, Or.inr ⟨rfl, rfl, rfl, (xi3 235 rfl rfl)⟩⟩
theorem f_Mo_53 : xFl (xGG X) "EpochLedgerModel" 53 9 18 R_Mo T_Mo 37 := ⟨rfl, l_Mo, by decide, Or.inl (xi3 236 rfl rfl)⟩
theorem p_Mo_53 : xFp (xGG X) "EpochLedgerModel" 53 9 18 R_Mo T_Mo 37 t_Mo true := ⟨f_Mo_53, t_Mo_ok, n_Mo, Or.inr ⟨rfl, rfl, rfl, (xi3 236 rfl rfl)⟩⟩
theorem f_Mo_56 : xFl (xGG X) "EpochLedgerModel" 56 9 19 R_Mo T_Mo 37 := ⟨rfl, l_Mo, by decide, Or.inl (xi3 237 rfl rfl)⟩
theorem p_Mo_56 : xFp (xGG X) "EpochLedgerModel" 56 9 19 R_Mo T_Mo 37 t_Mo true := ⟨f_Mo_56, t_Mo_ok, n_Mo, Or.inr ⟨rfl, rfl, rfl, (xi3 237 rfl rfl)⟩⟩
theorem f_Mo_59 : xFl (xGG X) "EpochLedgerModel" 59 9 20 R_Mo T_Mo 37 := ⟨rfl, l_Mo, by decide, Or.inl (xi3 238 rfl rfl)⟩
theorem p_Mo_59 : xFp (xGG X) "EpochLedgerModel" 59 9 20 R_Mo T_Mo 37 t_Mo true := ⟨f_Mo_59, t_Mo_ok, n_Mo, Or.inr ⟨rfl, rfl, rfl, (xi3 238 rfl rfl)⟩⟩
theorem f_Mo_62 : xFl (xGG X) "EpochLedgerModel" 62 9 21 R_Mo T_Mo 37 := ⟨rfl, l_Mo, by decide, Or.inl (xi3 239 rfl rfl)⟩
theorem p_Mo_62 : xFp (xGG X) "EpochLedgerModel" 62 9 21 R_Mo T_Mo 37 t_Mo true := ⟨f_Mo_62, t_Mo_ok, n_Mo, Or.inr ⟨rfl, rfl, rfl, (xi3 239 rfl rfl)⟩⟩
theorem f_Mo_65 : xFl (xGG X) "EpochLedgerModel" 65 9 22 R_Mo T_Mo 37 := ⟨rfl, l_Mo, by decide, Or.inl (xi4 0 rfl rfl)⟩
theorem p_Mo_65 : xFp (xGG X) "EpochLedgerModel" 65 9 22 R_Mo T_Mo 37 t_Mo true := ⟨f_Mo_65, t_Mo_ok, n_Mo, Or.inr ⟨rfl, rfl, rfl, (xi4 0 rfl rfl)⟩⟩
theorem f_Mo_68 : xFl (xGG X) "EpochLedgerModel" 68 9 23 R_Mo T_Mo 37 := ⟨rfl, l_Mo, by decide, Or.inl (xi4 1 rfl rfl)⟩
theorem p_Mo_68 : xFp (xGG X) "EpochLedgerModel" 68 9 23 R_Mo T_Mo 37 t_Mo true := ⟨f_Mo_68, t_Mo_ok, n_Mo, Or.inr ⟨rfl, rfl, rfl, (xi4 1 rfl rfl)⟩⟩
theorem f_Mo_71 : xFl (xGG X) "EpochLedgerModel" 71 9 24 R_Mo T_Mo 37 := ⟨rfl, l_Mo, by decide, Or.inl (xi4 2 rfl rfl)⟩
theorem p_Mo_71 : xFp (xGG X) "EpochLedgerModel" 71 9 24 R_Mo T_Mo 37 t_Mo true := ⟨f_Mo_71, t_Mo_ok, n_Mo, Or.inr ⟨rfl, rfl, rfl, (xi4 2 rfl rfl)⟩⟩
theorem f_Mo_74 : xFl (xGG X) "EpochLedgerModel" 74 9 25 R_Mo T_Mo 37 := ⟨rfl, l_Mo, by decide, Or.inl (xi4 3 rfl rfl)⟩
theorem p_Mo_74 : xFp (xGG X) "EpochLedgerModel" 74 9 25 R_Mo T_Mo 37 t_Mo true := ⟨f_Mo_74, t_Mo_ok, n_Mo, Or.inr ⟨rfl, rfl, rfl, (xi4 3 rfl rfl)⟩⟩
theorem f_Mo_77 : xFl (xGG X) "EpochLedgerModel" 77 9 26 R_Mo T_Mo 37 := ⟨rfl, l_Mo, by decide, Or.inl (xi4 4 rfl rfl)⟩
theorem p_Mo_77 : xFp (xGG X) "EpochLedgerModel" 77 9 26 R_Mo T_Mo 37 t_Mo true := ⟨f_Mo_77, t_Mo_ok, n_Mo, Or.inr ⟨rfl, rfl, rfl, (xi4 4 rfl rfl)⟩⟩
theorem f_Mo_80 : xFl (xGG X) "EpochLedgerModel" 80 9 27 R_Mo T_Mo 37 := ⟨rfl, l_Mo, by decide, Or.inl (xi4 5 rfl rfl)⟩
theorem p_Mo_80 : xFp (xGG X) "EpochLedgerModel" 80 9 27 R_Mo T_Mo 37 t_Mo true := ⟨f_Mo_80, t_Mo_ok, n_Mo, Or.inr ⟨rfl, rfl, rfl, (xi4 5 rfl rfl)⟩⟩
theorem f_Mo_83 : xFl (xGG X) "EpochLedgerModel" 83 9 28 R_Mo T_Mo 37 := ⟨rfl, l_Mo, by decide, Or.inl (xi4 6 rfl rfl)⟩
theorem p_Mo_83 : xFp (xGG X) "EpochLedgerModel" 83 9 28 R_Mo T_Mo 37 t_Mo true := ⟨f_Mo_83, t_Mo_ok, n_Mo, Or.inr ⟨rfl, rfl, rfl, (xi4 6 rfl rfl)⟩⟩
theorem f_Mo_86 : xFl (xGG X) "EpochLedgerModel" 86 9 29 R_Mo T_Mo 37 := ⟨rfl, l_Mo, by decide, Or.inl (xi4 7 rfl rfl)⟩
theorem p_Mo_86 : xFp (xGG X) "EpochLedgerModel" 86 9 29 R_Mo T_Mo 37 t_Mo true := ⟨f_Mo_86, t_Mo_ok, n_Mo, Or.inr ⟨rfl, rfl, rfl, (xi4 7 rfl rfl)⟩⟩
theorem f_Mo_89 : xFl (xGG X) "EpochLedgerModel" 89 9 30 R_Mo T_Mo 37 := ⟨rfl, l_Mo, by decide, Or.inl (xi4 8 rfl rfl)⟩
theorem p_Mo_89 : xFp (xGG X) "EpochLedgerModel" 89 9 30 R_Mo T_Mo 37 t_Mo true := ⟨f_Mo_89, t_Mo_ok, n_Mo, Or.inr ⟨rfl, rfl, rfl, (xi4 8 rfl rfl)⟩⟩
theorem f_Mo_92 : xFl (xGG X) "EpochLedgerModel" 92 9 31 R_Mo T_Mo 37 := ⟨rfl, l_Mo, by decide, Or.inl (xi4 9 rfl rfl)⟩
theorem p_Mo_92 : xFp (xGG X) "EpochLedgerModel" 92 9 31 R_Mo T_Mo 37 t_Mo true := ⟨f_Mo_92, t_Mo_ok, n_Mo, Or.inr ⟨rfl, rfl, rfl, (xi4 9 rfl rfl)⟩⟩
theorem f_Mo_95 : xFl (xGG X) "EpochLedgerModel" 95 9 32 R_Mo T_Mo 37 := ⟨rfl, l_Mo, by decide, Or.inl (xi4 10 rfl rfl)⟩
theorem p_Mo_95 : xFp (xGG X) "EpochLedgerModel" 95 9 32 R_Mo T_Mo 37 t_Mo true := ⟨f_Mo_95, t_Mo_ok, n_Mo, Or.inr ⟨rfl, rfl, rfl, (xi4 10 rfl rfl)⟩⟩
theorem f_Mo_98 : xFl (xGG X) "EpochLedgerModel" 98 9 33 R_Mo T_Mo 37 := ⟨rfl, l_Mo, by decide, Or.inl (xi4 11 rfl rfl)⟩
theorem p_Mo_98 : xFp (xGG X) "EpochLedgerModel" 98 9 33 R_Mo T_Mo 37 t_Mo true := ⟨f_Mo_98, t_Mo_ok, n_Mo, Or.inr ⟨rfl, rfl, rfl, (xi4 11 rfl rfl)⟩⟩
theorem f_Mo_217 : xFl (xGG X) "EpochLedgerModel" 217 9 34 R_Mo T_Mo 37 := ⟨rfl, l_Mo, by decide, Or.inl (xi4 12 rfl rfl)⟩
theorem p_Mo_217 : xFp (xGG X) "EpochLedgerModel" 217 9 34 R_Mo T_Mo 37 t_Mo false := ⟨f_Mo_217, t_Mo_ok, n_Mo, Or.inl rfl⟩
theorem f_Mo_165 : xFl (xGG X) "EpochLedgerModel" 165 9 35 R_Mo T_Mo 37 := ⟨rfl, l_Mo, by decide, Or.inl (xi4 13 rfl rfl)⟩
theorem p_Mo_165 : xFp (xGG X) "EpochLedgerModel" 165 9 35 R_Mo T_Mo 37 t_Mo false := ⟨f_Mo_165, t_Mo_ok, n_Mo, Or.inl rfl⟩
theorem f_Mo_168 : xFl (xGG X) "EpochLedgerModel" 168 9 36 R_Mo T_Mo 37 := ⟨rfl, l_Mo, by decide, Or.inl (xi4 14 rfl rfl)⟩
theorem p_Mo_168 : xFp (xGG X) "EpochLedgerModel" 168 9 36 R_Mo T_Mo 37 t_Mo false := ⟨f_Mo_168, t_Mo_ok, n_Mo, Or.inl rfl⟩
theorem y_El_init : xLc (xGG X) m_El_init 1 := ⟨(xi1 1 rfl rfl), (xi1 26 rfl rfl), ⟨by decide, by decide, by decide +kernel⟩, by decide +kernel, by decide, xWS_good⟩
theorem y_Nt_init : xLc (xGG X) m_Nt_init 0 := ⟨(xi1 2 rfl rfl), (xi1 35 rfl rfl), ⟨by decide, by decide, by decide +kernel⟩, by decide +kernel, by decide, xWS_good⟩
theorem y_In_init : xLc (xGG X) m_In_init 0 := ⟨(xi1 3 rfl rfl), (xi1 42 rfl rfl), ⟨by decide, by decide, by decide +kernel⟩, by decide +kernel, by decide, xWS_good⟩
theorem y_Al_init : xLc (xGG X) m_Al_init 0 := ⟨(xi1 6 rfl rfl), (xi1 48 rfl rfl), ⟨by decide, by decide, by decide +kernel⟩, by decide +kernel, by decide, xWS_good⟩
theorem y_Ab_init : xLc (xGG X) m_Ab_init 0 := ⟨(xi1 5 rfl rfl), (xi1 51 rfl rfl), ⟨by decide, by decide, by decide +kernel⟩, by decide +kernel, by decide, xWS_good⟩
theorem y_Ac_init : xLc (xGG X) m_Ac_init 0 := ⟨(xi1 4 rfl rfl), (xi1 54 rfl rfl), ⟨by decide, by decide, by decide +kernel⟩, by decide +kernel, by decide, xWS_good⟩
theorem y_Nd_init : xLc (xGG X) m_Nd_init 3 := ⟨(xi1 7 rfl rfl), (xi1 84 rfl rfl), ⟨by decide, by decide, by decide +kernel⟩, by decide +kernel, by decide, xWS_good⟩
theorem y_Rw_init : xLc (xGG X) m_Rw_init 1 := ⟨(xi1 8 rfl rfl), (xi1 90 rfl rfl), ⟨by decide, by decide, by decide +kernel⟩, by decide +kernel, by decide, xWS_good⟩
theorem y_Bc_init : xLc (xGG X) m_Bc_init 4 := ⟨(xi1 9 rfl rfl), (xi1 107 rfl rfl), ⟨by decide, by decide, by decide +kernel⟩, by decide +kernel, by decide, xWS_good⟩
theorem y_Rt_init : xLc (xGG X) m_Rt_init 0 := ⟨(xi1 10 rfl rfl), (xi1 113 rfl rfl), ⟨by decide, by decide, by decide +kernel⟩, by decide +kernel, by decide, xWS_good⟩
theorem y_Ag_init : xLc (xGG X) m_Ag_init 5 := ⟨(xi1 11 rfl rfl), (xi1 168 rfl rfl), ⟨by decide, by decide, by decide +kernel⟩, by decide +kernel, by decide, xWS_good⟩
theorem y_El_submit : xLc (xGG X) m_El_submit 2 := ⟨(xi1 1 rfl rfl), (xi2 24 rfl rfl), ⟨by decide, by decide, by decide +kernel⟩, by decide +kernel, by decide, xWS_good⟩
theorem y_El_isNode : xLc (xGG X) m_El_isNode 1 := ⟨(xi1 1 rfl rfl), (xi2 27 rfl rfl), ⟨by decide, by decide, by decide +kernel⟩, by decide +kernel, by decide, xWS_good⟩
theorem y_El_isIn : xLc (xGG X) m_El_isIn 3 := ⟨(xi1 1 rfl rfl), (xi2 30 rfl rfl), ⟨by decide, by decide, by decide +kernel⟩, by decide +kernel, by decide, xWS_good⟩
theorem y_Nd_accept : xLc (xGG X) m_Nd_accept 1 := ⟨(xi1 7 rfl rfl), (xi2 34 rfl rfl), ⟨by decide, by decide, by decide +kernel⟩, by decide +kernel, by decide, xWS_good⟩
theorem y_Rw_isFull : xLc (xGG X) m_Rw_isFull 0 := ⟨(xi1 8 rfl rfl), (xi2 38 rfl rfl), ⟨by decide, by decide, by decide +kernel⟩, by decide +kernel, by decide, xWS_good⟩
theorem y_Rw_has : xLc (xGG X) m_Rw_has 1 := ⟨(xi1 8 rfl rfl), (xi2 42 rfl rfl), ⟨by decide, by decide, by decide +kernel⟩, by decide +kernel, by decide, xWS_good⟩
theorem y_Rw_append : xLc (xGG X) m_Rw_append 1 := ⟨(xi1 8 rfl rfl), (xi2 46 rfl rfl), ⟨by decide, by decide, by decide +kernel⟩, by decide +kernel, by decide, xWS_good⟩
theorem y_El_begin : xLc (xGG X) m_El_begin 1 := ⟨(xi1 1 rfl rfl), (xi2 51 rfl rfl), ⟨by decide, by decide, by decide +kernel⟩, by decide +kernel, by decide, xWS_good⟩
theorem y_Nd_start : xLc (xGG X) m_Nd_start 0 := ⟨(xi1 7 rfl rfl), (xi2 55 rfl rfl), ⟨by decide, by decide, by decide +kernel⟩, by decide +kernel, by decide, xWS_good⟩
theorem y_Nd_propose : xLc (xGG X) m_Nd_propose 0 := ⟨(xi1 7 rfl rfl), (xi2 59 rfl rfl), ⟨by decide, by decide, by decide +kernel⟩, by decide +kernel, by decide, xWS_good⟩
theorem y_Rw_itemOr : xLc (xGG X) m_Rw_itemOr 2 := ⟨(xi1 8 rfl rfl), (xi2 63 rfl rfl), ⟨by decide, by decide, by decide +kernel⟩, by decide +kernel, by decide, xWS_good⟩
theorem y_Co_proposal : xLc (xGG X) m_Co_proposal 2 := ⟨(xi1 13 rfl rfl), (xi2 67 rfl rfl), ⟨by decide, by decide, by decide +kernel⟩, by decide +kernel, by decide, xWS_good⟩
theorem y_Co_rootOf : xLc (xGG X) m_Co_rootOf 1 := ⟨(xi1 13 rfl rfl), (xi2 70 rfl rfl), ⟨by decide, by decide, by decide +kernel⟩, by decide +kernel, by decide, xWS_good⟩
theorem y_Co_leafOf : xLc (xGG X) m_Co_leafOf 2 := ⟨(xi1 13 rfl rfl), (xi2 73 rfl rfl), ⟨by decide, by decide, by decide +kernel⟩, by decide +kernel, by decide, xWS_good⟩
theorem y_Co_halfOf : xLc (xGG X) m_Co_halfOf 2 := ⟨(xi1 13 rfl rfl), (xi2 76 rfl rfl), ⟨by decide, by decide, by decide +kernel⟩, by decide +kernel, by decide, xWS_good⟩
theorem y_Co_product : xLc (xGG X) m_Co_product 2 := ⟨(xi1 13 rfl rfl), (xi2 81 rfl rfl), ⟨by decide, by decide, by decide +kernel⟩, by decide +kernel, by decide, xWS_good⟩
theorem y_Co_topOf : xLc (xGG X) m_Co_topOf 2 := ⟨(xi1 13 rfl rfl), (xi2 84 rfl rfl), ⟨by decide, by decide, by decide +kernel⟩, by decide +kernel, by decide, xWS_good⟩
theorem y_Co_witnessOf : xLc (xGG X) m_Co_witnessOf 2 := ⟨(xi1 13 rfl rfl), (xi2 89 rfl rfl), ⟨by decide, by decide, by decide +kernel⟩, by decide +kernel, by decide, xWS_good⟩
theorem y_Co_partOf : xLc (xGG X) m_Co_partOf 2 := ⟨(xi1 13 rfl rfl), (xi2 92 rfl rfl), ⟨by decide, by decide, by decide +kernel⟩, by decide +kernel, by decide, xWS_good⟩
theorem y_Ms_init : xLc (xGG X) m_Ms_init 6 := ⟨(xi1 14 rfl rfl), (xi2 97 rfl rfl), ⟨by decide, by decide, by decide +kernel⟩, by decide +kernel, by decide, xWS_good⟩
theorem y_Nt_sendToOne : xLc (xGG X) m_Nt_sendToOne 2 := ⟨(xi1 2 rfl rfl), (xi2 133 rfl rfl), ⟨by decide, by decide, by decide +kernel⟩, by decide +kernel, by decide, xWS_good⟩
theorem y_Al_add : xLc (xGG X) m_Al_add 1 := ⟨(xi1 6 rfl rfl), (xi2 137 rfl rfl), ⟨by decide, by decide, by decide +kernel⟩, by decide +kernel, by decide, xWS_good⟩
theorem y_Al_add2 : xLc (xGG X) m_Al_add2 3 := ⟨(xi1 6 rfl rfl), (xi2 141 rfl rfl), ⟨by decide, by decide, by decide +kernel⟩, by decide +kernel, by decide, xWS_good⟩
theorem y_Al_grow : xLc (xGG X) m_Al_grow 0 := ⟨(xi1 6 rfl rfl), (xi2 145 rfl rfl), ⟨by decide, by decide, by decide +kernel⟩, by decide +kernel, by decide, xWS_good⟩
theorem y_Al_grow2 : xLc (xGG X) m_Al_grow2 1 := ⟨(xi1 6 rfl rfl), (xi2 149 rfl rfl), ⟨by decide, by decide, by decide +kernel⟩, by decide +kernel, by decide, xWS_good⟩
theorem y_As_newLength : xLc (xGG X) m_As_newLength 3 := ⟨(xi1 15 rfl rfl), (xi2 152 rfl rfl), ⟨by decide, by decide, by decide +kernel⟩, by decide +kernel, by decide, xWS_good⟩
theorem y_Ma_max : xLc (xGG X) m_Ma_max 2 := ⟨(xi1 16 rfl rfl), (xi2 155 rfl rfl), ⟨by decide, by decide, by decide +kernel⟩, by decide +kernel, by decide, xWS_good⟩
theorem y_As_hugeLength : xLc (xGG X) m_As_hugeLength 2 := ⟨(xi1 15 rfl rfl), (xi2 159 rfl rfl), ⟨by decide, by decide, by decide +kernel⟩, by decide +kernel, by decide, xWS_good⟩
theorem y_Ar_copyOf : xLc (xGG X) m_Ar_copyOf 2 := ⟨(xi1 17 rfl rfl), (xi2 162 rfl rfl), ⟨by decide, by decide, by decide +kernel⟩, by decide +kernel, by decide, xWS_good⟩
theorem y_Ar_copyOf2 : xLc (xGG X) m_Ar_copyOf2 3 := ⟨(xi1 17 rfl rfl), (xi2 180 rfl rfl), ⟨by decide, by decide, by decide +kernel⟩, by decide +kernel, by decide, xWS_good⟩
theorem y_Ma_min : xLc (xGG X) m_Ma_min 2 := ⟨(xi1 16 rfl rfl), (xi2 186 rfl rfl), ⟨by decide, by decide, by decide +kernel⟩, by decide +kernel, by decide, xWS_good⟩
theorem y_Nd_goOnWith : xLc (xGG X) m_Nd_goOnWith 2 := ⟨(xi1 7 rfl rfl), (xi2 195 rfl rfl), ⟨by decide, by decide, by decide +kernel⟩, by decide +kernel, by decide, xWS_good⟩
theorem y_Nd_goOnAndLook : xLc (xGG X) m_Nd_goOnAndLook 1 := ⟨(xi1 7 rfl rfl), (xi2 199 rfl rfl), ⟨by decide, by decide, by decide +kernel⟩, by decide +kernel, by decide, xWS_good⟩
theorem y_Nd_broadcastOf : xLc (xGG X) m_Nd_broadcastOf 1 := ⟨(xi1 7 rfl rfl), (xi2 203 rfl rfl), ⟨by decide, by decide, by decide +kernel⟩, by decide +kernel, by decide, xWS_good⟩
theorem y_Nd_agreementOf : xLc (xGG X) m_Nd_agreementOf 1 := ⟨(xi1 7 rfl rfl), (xi2 207 rfl rfl), ⟨by decide, by decide, by decide +kernel⟩, by decide +kernel, by decide, xWS_good⟩
theorem y_Bc_sendEchoIfDue : xLc (xGG X) m_Bc_sendEchoIfDue 0 := ⟨(xi1 9 rfl rfl), (xi2 211 rfl rfl), ⟨by decide, by decide, by decide +kernel⟩, by decide +kernel, by decide, xWS_good⟩
theorem y_Nt_sendToAll : xLc (xGG X) m_Nt_sendToAll 1 := ⟨(xi1 2 rfl rfl), (xi2 217 rfl rfl), ⟨by decide, by decide, by decide +kernel⟩, by decide +kernel, by decide, xWS_good⟩
theorem y_Bc_sendReadyIfDue : xLc (xGG X) m_Bc_sendReadyIfDue 0 := ⟨(xi1 9 rfl rfl), (xi2 221 rfl rfl), ⟨by decide, by decide, by decide +kernel⟩, by decide +kernel, by decide, xWS_good⟩
theorem y_Rt_leastOfShared : xLc (xGG X) m_Rt_leastOfShared 1 := ⟨(xi1 10 rfl rfl), (xi2 225 rfl rfl), ⟨by decide, by decide, by decide +kernel⟩, by decide +kernel, by decide, xWS_good⟩
theorem y_Rt_isFrom : xLc (xGG X) m_Rt_isFrom 1 := ⟨(xi1 10 rfl rfl), (xi2 229 rfl rfl), ⟨by decide, by decide, by decide +kernel⟩, by decide +kernel, by decide, xWS_good⟩
theorem y_Rt_sendersOf : xLc (xGG X) m_Rt_sendersOf 1 := ⟨(xi1 10 rfl rfl), (xi2 233 rfl rfl), ⟨by decide, by decide, by decide +kernel⟩, by decide +kernel, by decide, xWS_good⟩
theorem y_It_bitCount : xLc (xGG X) m_It_bitCount 1 := ⟨(xi1 19 rfl rfl), (xi2 236 rfl rfl), ⟨by decide, by decide, by decide +kernel⟩, by decide +kernel, by decide, xWS_good⟩
theorem y_Bc_proposalOf : xLc (xGG X) m_Bc_proposalOf 1 := ⟨(xi1 9 rfl rfl), (xi3 4 rfl rfl), ⟨by decide, by decide, by decide +kernel⟩, by decide +kernel, by decide, xWS_good⟩
theorem y_Co_proposalWith : xLc (xGG X) m_Co_proposalWith 4 := ⟨(xi1 13 rfl rfl), (xi3 7 rfl rfl), ⟨by decide, by decide, by decide +kernel⟩, by decide +kernel, by decide, xWS_good⟩
theorem y_Bc_sendReady : xLc (xGG X) m_Bc_sendReady 1 := ⟨(xi1 9 rfl rfl), (xi3 15 rfl rfl), ⟨by decide, by decide, by decide +kernel⟩, by decide +kernel, by decide, xWS_good⟩
theorem y_Bc_takeProposalIfDue : xLc (xGG X) m_Bc_takeProposalIfDue 0 := ⟨(xi1 9 rfl rfl), (xi3 19 rfl rfl), ⟨by decide, by decide, by decide +kernel⟩, by decide +kernel, by decide, xWS_good⟩
theorem y_Ag_giveInput : xLc (xGG X) m_Ag_giveInput 1 := ⟨(xi1 11 rfl rfl), (xi3 24 rfl rfl), ⟨by decide, by decide, by decide +kernel⟩, by decide +kernel, by decide, xWS_good⟩
theorem y_Ag_hasInput : xLc (xGG X) m_Ag_hasInput 0 := ⟨(xi1 11 rfl rfl), (xi3 28 rfl rfl), ⟨by decide, by decide, by decide +kernel⟩, by decide +kernel, by decide, xWS_good⟩
theorem y_Ag_goOn : xLc (xGG X) m_Ag_goOn 0 := ⟨(xi1 11 rfl rfl), (xi3 32 rfl rfl), ⟨by decide, by decide, by decide +kernel⟩, by decide +kernel, by decide, xWS_good⟩
theorem y_Ag_sendVote : xLc (xGG X) m_Ag_sendVote 1 := ⟨(xi1 11 rfl rfl), (xi3 36 rfl rfl), ⟨by decide, by decide, by decide +kernel⟩, by decide +kernel, by decide, xWS_good⟩
theorem y_Ag_voters : xLc (xGG X) m_Ag_voters 1 := ⟨(xi1 11 rfl rfl), (xi3 43 rfl rfl), ⟨by decide, by decide, by decide +kernel⟩, by decide +kernel, by decide, xWS_good⟩
theorem y_Ag_makeGood : xLc (xGG X) m_Ag_makeGood 1 := ⟨(xi1 11 rfl rfl), (xi3 48 rfl rfl), ⟨by decide, by decide, by decide +kernel⟩, by decide +kernel, by decide, xWS_good⟩
theorem y_Ag_goodSures : xLc (xGG X) m_Ag_goodSures 1 := ⟨(xi1 11 rfl rfl), (xi3 52 rfl rfl), ⟨by decide, by decide, by decide +kernel⟩, by decide +kernel, by decide, xWS_good⟩
theorem y_Ag_finishRound : xLc (xGG X) m_Ag_finishRound 0 := ⟨(xi1 11 rfl rfl), (xi3 56 rfl rfl), ⟨by decide, by decide, by decide +kernel⟩, by decide +kernel, by decide, xWS_good⟩
theorem y_El_tossOf : xLc (xGG X) m_El_tossOf 4 := ⟨(xi1 1 rfl rfl), (xi3 59 rfl rfl), ⟨by decide, by decide, by decide +kernel⟩, by decide +kernel, by decide, xWS_good⟩
theorem y_Ag_enterNextRound : xLc (xGG X) m_Ag_enterNextRound 0 := ⟨(xi1 11 rfl rfl), (xi3 63 rfl rfl), ⟨by decide, by decide, by decide +kernel⟩, by decide +kernel, by decide, xWS_good⟩
theorem y_Nd_instanceToRefuse : xLc (xGG X) m_Nd_instanceToRefuse 0 := ⟨(xi1 7 rfl rfl), (xi3 67 rfl rfl), ⟨by decide, by decide, by decide +kernel⟩, by decide +kernel, by decide, xWS_good⟩
theorem y_Nd_mayCommit : xLc (xGG X) m_Nd_mayCommit 0 := ⟨(xi1 7 rfl rfl), (xi3 72 rfl rfl), ⟨by decide, by decide, by decide +kernel⟩, by decide +kernel, by decide, xWS_good⟩
theorem y_Nd_commit : xLc (xGG X) m_Nd_commit 0 := ⟨(xi1 7 rfl rfl), (xi3 76 rfl rfl), ⟨by decide, by decide, by decide +kernel⟩, by decide +kernel, by decide, xWS_good⟩
theorem y_Nd_isAccepted : xLc (xGG X) m_Nd_isAccepted 1 := ⟨(xi1 7 rfl rfl), (xi3 80 rfl rfl), ⟨by decide, by decide, by decide +kernel⟩, by decide +kernel, by decide, xWS_good⟩
theorem y_Rw_drop : xLc (xGG X) m_Rw_drop 1 := ⟨(xi1 8 rfl rfl), (xi3 84 rfl rfl), ⟨by decide, by decide, by decide +kernel⟩, by decide +kernel, by decide, xWS_good⟩
theorem y_El_run : xLc (xGG X) m_El_run 2 := ⟨(xi1 1 rfl rfl), (xi3 88 rfl rfl), ⟨by decide, by decide, by decide +kernel⟩, by decide +kernel, by decide, xWS_good⟩
theorem y_Nt_countFor : xLc (xGG X) m_Nt_countFor 1 := ⟨(xi1 2 rfl rfl), (xi3 92 rfl rfl), ⟨by decide, by decide, by decide +kernel⟩, by decide +kernel, by decide, xWS_good⟩
theorem y_Al_size : xLc (xGG X) m_Al_size 0 := ⟨(xi1 6 rfl rfl), (xi3 96 rfl rfl), ⟨by decide, by decide, by decide +kernel⟩, by decide +kernel, by decide, xWS_good⟩
theorem y_Nt_remove : xLc (xGG X) m_Nt_remove 2 := ⟨(xi1 2 rfl rfl), (xi3 100 rfl rfl), ⟨by decide, by decide, by decide +kernel⟩, by decide +kernel, by decide, xWS_good⟩
theorem y_Al_remove : xLc (xGG X) m_Al_remove 1 := ⟨(xi1 6 rfl rfl), (xi3 104 rfl rfl), ⟨by decide, by decide, by decide +kernel⟩, by decide +kernel, by decide, xWS_good⟩
theorem y_Os_checkIndex : xLc (xGG X) m_Os_checkIndex 2 := ⟨(xi1 20 rfl rfl), (xi3 107 rfl rfl), ⟨by decide, by decide, by decide +kernel⟩, by decide +kernel, by decide, xWS_good⟩
theorem y_Pr_checkIndex : xLc (xGG X) m_Pr_checkIndex 3 := ⟨(xi1 21 rfl rfl), (xi3 110 rfl rfl), ⟨by decide, by decide, by decide +kernel⟩, by decide +kernel, by decide, xWS_good⟩
theorem y_Al_fastRemove : xLc (xGG X) m_Al_fastRemove 2 := ⟨(xi1 6 rfl rfl), (xi3 114 rfl rfl), ⟨by decide, by decide, by decide +kernel⟩, by decide +kernel, by decide, xWS_good⟩
theorem y_Nd_take : xLc (xGG X) m_Nd_take 1 := ⟨(xi1 7 rfl rfl), (xi3 120 rfl rfl), ⟨by decide, by decide, by decide +kernel⟩, by decide +kernel, by decide, xWS_good⟩
theorem y_Ag_keep : xLc (xGG X) m_Ag_keep 1 := ⟨(xi1 11 rfl rfl), (xi3 124 rfl rfl), ⟨by decide, by decide, by decide +kernel⟩, by decide +kernel, by decide, xWS_good⟩
theorem y_Bc_keep : xLc (xGG X) m_Bc_keep 1 := ⟨(xi1 9 rfl rfl), (xi3 128 rfl rfl), ⟨by decide, by decide, by decide +kernel⟩, by decide +kernel, by decide, xWS_good⟩
theorem y_Bc_keepValue : xLc (xGG X) m_Bc_keepValue 1 := ⟨(xi1 9 rfl rfl), (xi3 132 rfl rfl), ⟨by decide, by decide, by decide +kernel⟩, by decide +kernel, by decide, xWS_good⟩
theorem y_Co_isRight : xLc (xGG X) m_Co_isRight 3 := ⟨(xi1 13 rfl rfl), (xi3 135 rfl rfl), ⟨by decide, by decide, by decide +kernel⟩, by decide +kernel, by decide, xWS_good⟩
theorem y_Bc_keepEcho : xLc (xGG X) m_Bc_keepEcho 1 := ⟨(xi1 9 rfl rfl), (xi3 139 rfl rfl), ⟨by decide, by decide, by decide +kernel⟩, by decide +kernel, by decide, xWS_good⟩
theorem y_Rt_put : xLc (xGG X) m_Rt_put 2 := ⟨(xi1 10 rfl rfl), (xi3 144 rfl rfl), ⟨by decide, by decide, by decide +kernel⟩, by decide +kernel, by decide, xWS_good⟩
theorem y_El_deliver : xLc (xGG X) m_El_deliver 2 := ⟨(xi1 1 rfl rfl), (xi3 148 rfl rfl), ⟨by decide, by decide, by decide +kernel⟩, by decide +kernel, by decide, xWS_good⟩
theorem y_El_betray : xLc (xGG X) m_El_betray 0 := ⟨(xi1 1 rfl rfl), (xi3 152 rfl rfl), ⟨by decide, by decide, by decide +kernel⟩, by decide +kernel, by decide, xWS_good⟩
theorem y_El_speak : xLc (xGG X) m_El_speak 6 := ⟨(xi1 1 rfl rfl), (xi3 156 rfl rfl), ⟨by decide, by decide, by decide +kernel⟩, by decide +kernel, by decide, xWS_good⟩
theorem y_El_isEpoch : xLc (xGG X) m_El_isEpoch 1 := ⟨(xi1 1 rfl rfl), (xi3 159 rfl rfl), ⟨by decide, by decide, by decide +kernel⟩, by decide +kernel, by decide, xWS_good⟩
theorem y_El_isRound : xLc (xGG X) m_El_isRound 1 := ⟨(xi1 1 rfl rfl), (xi3 162 rfl rfl), ⟨by decide, by decide, by decide +kernel⟩, by decide +kernel, by decide, xWS_good⟩
theorem y_El_epoch : xLc (xGG X) m_El_epoch 1 := ⟨(xi1 1 rfl rfl), (xi3 169 rfl rfl), ⟨by decide, by decide, by decide +kernel⟩, by decide +kernel, by decide, xWS_good⟩
theorem y_El_ledger : xLc (xGG X) m_El_ledger 2 := ⟨(xi1 1 rfl rfl), (xi3 173 rfl rfl), ⟨by decide, by decide, by decide +kernel⟩, by decide +kernel, by decide, xWS_good⟩
theorem y_Rw_answer : xLc (xGG X) m_Rw_answer 1 := ⟨(xi1 8 rfl rfl), (xi3 177 rfl rfl), ⟨by decide, by decide, by decide +kernel⟩, by decide +kernel, by decide, xWS_good⟩
theorem y_El_queue : xLc (xGG X) m_El_queue 2 := ⟨(xi1 1 rfl rfl), (xi3 182 rfl rfl), ⟨by decide, by decide, by decide +kernel⟩, by decide +kernel, by decide, xWS_good⟩
theorem y_El_waiting : xLc (xGG X) m_El_waiting 1 := ⟨(xi1 1 rfl rfl), (xi3 186 rfl rfl), ⟨by decide, by decide, by decide +kernel⟩, by decide +kernel, by decide, xWS_good⟩
theorem y_El_instance : xLc (xGG X) m_El_instance 3 := ⟨(xi1 1 rfl rfl), (xi3 190 rfl rfl), ⟨by decide, by decide, by decide +kernel⟩, by decide +kernel, by decide, xWS_good⟩
theorem y_Bc_progress : xLc (xGG X) m_Bc_progress 0 := ⟨(xi1 9 rfl rfl), (xi3 196 rfl rfl), ⟨by decide, by decide, by decide +kernel⟩, by decide +kernel, by decide, xWS_good⟩
theorem y_El_coin : xLc (xGG X) m_El_coin 3 := ⟨(xi1 1 rfl rfl), (xi3 200 rfl rfl), ⟨by decide, by decide, by decide +kernel⟩, by decide +kernel, by decide, xWS_good⟩
theorem y_El_root : xLc (xGG X) m_El_root 2 := ⟨(xi1 1 rfl rfl), (xi3 205 rfl rfl), ⟨by decide, by decide, by decide +kernel⟩, by decide +kernel, by decide, xWS_good⟩
theorem y_Lw_cell : xLc (xGG X) m_Lw_cell 2 := ⟨(xi1 0 rfl rfl), (xi3 210 rfl rfl), ⟨by decide, by decide, by decide +kernel⟩, by decide +kernel, by decide, xWS_good⟩
theorem y_Mo_init : xLc (xGG X) m_Mo_init 1 := ⟨(xi1 12 rfl rfl), (xi3 215 rfl rfl), ⟨by decide, by decide, by decide +kernel⟩, by decide +kernel, by decide, xWS_good⟩
theorem y_Mo_root : xLc (xGG X) m_Mo_root 2 := ⟨(xi1 12 rfl rfl), (xi4 94 rfl rfl), ⟨by decide, by decide, by decide +kernel⟩, by decide +kernel, by decide, xWS_good⟩
theorem y_Mo_rootOfProposal : xLc (xGG X) m_Mo_rootOfProposal 2 := ⟨(xi1 12 rfl rfl), (xi4 97 rfl rfl), ⟨by decide, by decide, by decide +kernel⟩, by decide +kernel, by decide, xWS_good⟩
theorem y_Mo_partOf : xLc (xGG X) m_Mo_partOf 3 := ⟨(xi1 12 rfl rfl), (xi4 100 rfl rfl), ⟨by decide, by decide, by decide +kernel⟩, by decide +kernel, by decide, xWS_good⟩
theorem y_Mo_times : xLc (xGG X) m_Mo_times 2 := ⟨(xi1 12 rfl rfl), (xi4 103 rfl rfl), ⟨by decide, by decide, by decide +kernel⟩, by decide +kernel, by decide, xWS_good⟩
theorem y_Mo_leaf : xLc (xGG X) m_Mo_leaf 2 := ⟨(xi1 12 rfl rfl), (xi4 106 rfl rfl), ⟨by decide, by decide, by decide +kernel⟩, by decide +kernel, by decide, xWS_good⟩
theorem y_Mo_half : xLc (xGG X) m_Mo_half 2 := ⟨(xi1 12 rfl rfl), (xi4 109 rfl rfl), ⟨by decide, by decide, by decide +kernel⟩, by decide +kernel, by decide, xWS_good⟩
theorem y_Mo_rootOf : xLc (xGG X) m_Mo_rootOf 2 := ⟨(xi1 12 rfl rfl), (xi4 116 rfl rfl), ⟨by decide, by decide, by decide +kernel⟩, by decide +kernel, by decide, xWS_good⟩
theorem y_Mo_coin : xLc (xGG X) m_Mo_coin 3 := ⟨(xi1 12 rfl rfl), (xi4 122 rfl rfl), ⟨by decide, by decide, by decide +kernel⟩, by decide +kernel, by decide, xWS_good⟩
theorem y_Mo_isNode : xLc (xGG X) m_Mo_isNode 1 := ⟨(xi1 12 rfl rfl), (xi4 125 rfl rfl), ⟨by decide, by decide, by decide +kernel⟩, by decide +kernel, by decide, xWS_good⟩
theorem y_Mo_coinOf : xLc (xGG X) m_Mo_coinOf 3 := ⟨(xi1 12 rfl rfl), (xi4 129 rfl rfl), ⟨by decide, by decide, by decide +kernel⟩, by decide +kernel, by decide, xWS_good⟩
theorem y_Mo_submit : xLc (xGG X) m_Mo_submit 2 := ⟨(xi1 12 rfl rfl), (xi4 133 rfl rfl), ⟨by decide, by decide, by decide +kernel⟩, by decide +kernel, by decide, xWS_good⟩
theorem y_Mo_isBooked : xLc (xGG X) m_Mo_isBooked 2 := ⟨(xi1 12 rfl rfl), (xi4 137 rfl rfl), ⟨by decide, by decide, by decide +kernel⟩, by decide +kernel, by decide, xWS_good⟩
theorem y_Mo_waiting : xLc (xGG X) m_Mo_waiting 1 := ⟨(xi1 12 rfl rfl), (xi4 141 rfl rfl), ⟨by decide, by decide, by decide +kernel⟩, by decide +kernel, by decide, xWS_good⟩
theorem y_Mo_waits : xLc (xGG X) m_Mo_waits 2 := ⟨(xi1 12 rfl rfl), (xi4 145 rfl rfl), ⟨by decide, by decide, by decide +kernel⟩, by decide +kernel, by decide, xWS_good⟩
theorem y_Mo_run : xLc (xGG X) m_Mo_run 2 := ⟨(xi1 12 rfl rfl), (xi4 149 rfl rfl), ⟨by decide, by decide, by decide +kernel⟩, by decide +kernel, by decide, xWS_good⟩
theorem y_Mo_reach : xLc (xGG X) m_Mo_reach 2 := ⟨(xi1 12 rfl rfl), (xi4 153 rfl rfl), ⟨by decide, by decide, by decide +kernel⟩, by decide +kernel, by decide, xWS_good⟩
theorem y_Mo_value : xLc (xGG X) m_Mo_value 5 := ⟨(xi1 12 rfl rfl), (xi4 157 rfl rfl), ⟨by decide, by decide, by decide +kernel⟩, by decide +kernel, by decide, xWS_good⟩
theorem y_Mo_witness : xLc (xGG X) m_Mo_witness 3 := ⟨(xi1 12 rfl rfl), (xi4 160 rfl rfl), ⟨by decide, by decide, by decide +kernel⟩, by decide +kernel, by decide, xWS_good⟩
theorem y_Mo_right : xLc (xGG X) m_Mo_right 3 := ⟨(xi1 12 rfl rfl), (xi4 163 rfl rfl), ⟨by decide, by decide, by decide +kernel⟩, by decide +kernel, by decide, xWS_good⟩
theorem y_Mo_answer : xLc (xGG X) m_Mo_answer 4 := ⟨(xi1 12 rfl rfl), (xi4 167 rfl rfl), ⟨by decide, by decide, by decide +kernel⟩, by decide +kernel, by decide, xWS_good⟩
theorem y_Mo_settle : xLc (xGG X) m_Mo_settle 1 := ⟨(xi1 12 rfl rfl), (xi4 171 rfl rfl), ⟨by decide, by decide, by decide +kernel⟩, by decide +kernel, by decide, xWS_good⟩
theorem y_Mo_rule : xLc (xGG X) m_Mo_rule 2 := ⟨(xi1 12 rfl rfl), (xi4 175 rfl rfl), ⟨by decide, by decide, by decide +kernel⟩, by decide +kernel, by decide, xWS_good⟩
theorem y_Mo_post : xLc (xGG X) m_Mo_post 7 := ⟨(xi1 12 rfl rfl), (xi4 179 rfl rfl), ⟨by decide, by decide, by decide +kernel⟩, by decide +kernel, by decide, xWS_good⟩
theorem y_Mo_ready : xLc (xGG X) m_Mo_ready 4 := ⟨(xi1 12 rfl rfl), (xi4 183 rfl rfl), ⟨by decide, by decide, by decide +kernel⟩, by decide +kernel, by decide, xWS_good⟩
theorem y_Mo_echoes : xLc (xGG X) m_Mo_echoes 2 := ⟨(xi1 12 rfl rfl), (xi4 187 rfl rfl), ⟨by decide, by decide, by decide +kernel⟩, by decide +kernel, by decide, xWS_good⟩
theorem y_Mo_makes : xLc (xGG X) m_Mo_makes 2 := ⟨(xi1 12 rfl rfl), (xi4 191 rfl rfl), ⟨by decide, by decide, by decide +kernel⟩, by decide +kernel, by decide, xWS_good⟩
theorem y_Mo_solve : xLc (xGG X) m_Mo_solve 4 := ⟨(xi1 12 rfl rfl), (xi4 194 rfl rfl), ⟨by decide, by decide, by decide +kernel⟩, by decide +kernel, by decide, xWS_good⟩
theorem y_Mo_readies : xLc (xGG X) m_Mo_readies 2 := ⟨(xi1 12 rfl rfl), (xi4 198 rfl rfl), ⟨by decide, by decide, by decide +kernel⟩, by decide +kernel, by decide, xWS_good⟩
theorem y_Mo_proposal : xLc (xGG X) m_Mo_proposal 2 := ⟨(xi1 12 rfl rfl), (xi4 202 rfl rfl), ⟨by decide, by decide, by decide +kernel⟩, by decide +kernel, by decide, xWS_good⟩
theorem y_Mo_agree : xLc (xGG X) m_Mo_agree 5 := ⟨(xi1 12 rfl rfl), (xi4 206 rfl rfl), ⟨by decide, by decide, by decide +kernel⟩, by decide +kernel, by decide, xWS_good⟩
theorem y_Mo_vote : xLc (xGG X) m_Mo_vote 6 := ⟨(xi1 12 rfl rfl), (xi4 210 rfl rfl), ⟨by decide, by decide, by decide +kernel⟩, by decide +kernel, by decide, xWS_good⟩
theorem y_Mo_voters : xLc (xGG X) m_Mo_voters 2 := ⟨(xi1 12 rfl rfl), (xi4 214 rfl rfl), ⟨by decide, by decide, by decide +kernel⟩, by decide +kernel, by decide, xWS_good⟩
theorem y_Mo_finish : xLc (xGG X) m_Mo_finish 4 := ⟨(xi1 12 rfl rfl), (xi4 218 rfl rfl), ⟨by decide, by decide, by decide +kernel⟩, by decide +kernel, by decide, xWS_good⟩
theorem y_Mo_look : xLc (xGG X) m_Mo_look 1 := ⟨(xi1 12 rfl rfl), (xi4 222 rfl rfl), ⟨by decide, by decide, by decide +kernel⟩, by decide +kernel, by decide, xWS_good⟩
theorem y_Mo_commit : xLc (xGG X) m_Mo_commit 1 := ⟨(xi1 12 rfl rfl), (xi4 226 rfl rfl), ⟨by decide, by decide, by decide +kernel⟩, by decide +kernel, by decide, xWS_good⟩
theorem y_Mo_unqueue : xLc (xGG X) m_Mo_unqueue 2 := ⟨(xi1 12 rfl rfl), (xi4 230 rfl rfl), ⟨by decide, by decide, by decide +kernel⟩, by decide +kernel, by decide, xWS_good⟩
theorem y_Mo_enter : xLc (xGG X) m_Mo_enter 2 := ⟨(xi1 12 rfl rfl), (xi4 234 rfl rfl), ⟨by decide, by decide, by decide +kernel⟩, by decide +kernel, by decide, xWS_good⟩
theorem y_Mo_deliver : xLc (xGG X) m_Mo_deliver 2 := ⟨(xi1 12 rfl rfl), (xi4 238 rfl rfl), ⟨by decide, by decide, by decide +kernel⟩, by decide +kernel, by decide, xWS_good⟩
theorem y_Mo_betray : xLc (xGG X) m_Mo_betray 0 := ⟨(xi1 12 rfl rfl), (xi5 2 rfl rfl), ⟨by decide, by decide, by decide +kernel⟩, by decide +kernel, by decide, xWS_good⟩
theorem y_Mo_speak : xLc (xGG X) m_Mo_speak 6 := ⟨(xi1 12 rfl rfl), (xi5 6 rfl rfl), ⟨by decide, by decide, by decide +kernel⟩, by decide +kernel, by decide, xWS_good⟩
theorem y_Mo_begin : xLc (xGG X) m_Mo_begin 1 := ⟨(xi1 12 rfl rfl), (xi5 10 rfl rfl), ⟨by decide, by decide, by decide +kernel⟩, by decide +kernel, by decide, xWS_good⟩
theorem y_Mo_epoch : xLc (xGG X) m_Mo_epoch 1 := ⟨(xi1 12 rfl rfl), (xi5 14 rfl rfl), ⟨by decide, by decide, by decide +kernel⟩, by decide +kernel, by decide, xWS_good⟩
theorem y_Mo_ledger : xLc (xGG X) m_Mo_ledger 2 := ⟨(xi1 12 rfl rfl), (xi5 18 rfl rfl), ⟨by decide, by decide, by decide +kernel⟩, by decide +kernel, by decide, xWS_good⟩
theorem y_Mo_queue : xLc (xGG X) m_Mo_queue 2 := ⟨(xi1 12 rfl rfl), (xi5 22 rfl rfl), ⟨by decide, by decide, by decide +kernel⟩, by decide +kernel, by decide, xWS_good⟩
theorem y_Mo_instance : xLc (xGG X) m_Mo_instance 3 := ⟨(xi1 12 rfl rfl), (xi5 26 rfl rfl), ⟨by decide, by decide, by decide +kernel⟩, by decide +kernel, by decide, xWS_good⟩
theorem c_Lw_15 : xLI (xGG X) "EpochLedgerLaw" 15 m_El_init 1 ∨ xLIN (xGG X) "EpochLedgerLaw" 15 m_El_init 1 := Or.inl ⟨y_El_init, (xi1 24 rfl rfl), (xi1 25 rfl rfl), rfl, rfl⟩
theorem c_El_16 : xLI (xGG X) "EpochLedger" 16 m_Nt_init 0 ∨ xLIN (xGG X) "EpochLedger" 16 m_Nt_init 0 := Or.inl ⟨y_Nt_init, (xi1 33 rfl rfl), (xi1 34 rfl rfl), rfl, rfl⟩
theorem c_Nt_17 : xLI (xGG X) "EpochLedger$Network" 17 m_In_init 0 ∨ xLIN (xGG X) "EpochLedger$Network" 17 m_In_init 0 := Or.inr ⟨y_In_init, ⟨"EpochLedger", (xj1 40 rfl rfl)⟩, (xi1 41 rfl rfl), rfl, rfl⟩
theorem c_In_9 : xLI (xGG X) "EpochLedger$Inbox" 9 m_Al_init 0 ∨ xLIN (xGG X) "EpochLedger$Inbox" 9 m_Al_init 0 := Or.inl ⟨y_Al_init, (xi1 46 rfl rfl), (xi1 47 rfl rfl), rfl, rfl⟩
theorem c_Al_1 : xLI (xGG X) "java/util/ArrayList" 1 m_Ab_init 0 ∨ xLIN (xGG X) "java/util/ArrayList" 1 m_Ab_init 0 := Or.inl ⟨y_Ab_init, (xi1 49 rfl rfl), (xi1 50 rfl rfl), rfl, rfl⟩
theorem c_Ab_1 : xLI (xGG X) "java/util/AbstractList" 1 m_Ac_init 0 ∨ xLIN (xGG X) "java/util/AbstractList" 1 m_Ac_init 0 := Or.inl ⟨y_Ac_init, (xi1 52 rfl rfl), (xi1 53 rfl rfl), rfl, rfl⟩
theorem c_El_27 : xLI (xGG X) "EpochLedger" 27 m_Nd_init 3 ∨ xLIN (xGG X) "EpochLedger" 27 m_Nd_init 3 := Or.inl ⟨y_Nd_init, (xi1 82 rfl rfl), (xi1 83 rfl rfl), rfl, rfl⟩
theorem c_Nd_11 : xLI (xGG X) "EpochLedger$Node" 11 m_Rw_init 1 ∨ xLIN (xGG X) "EpochLedger$Node" 11 m_Rw_init 1 := Or.inl ⟨y_Rw_init, (xi1 88 rfl rfl), (xi1 89 rfl rfl), rfl, rfl⟩
theorem c_Nd_46 : xLI (xGG X) "EpochLedger$Node" 46 m_Bc_init 4 ∨ xLIN (xGG X) "EpochLedger$Node" 46 m_Bc_init 4 := Or.inl ⟨y_Bc_init, (xi1 105 rfl rfl), (xi1 106 rfl rfl), rfl, rfl⟩
theorem c_Bc_11 : xLI (xGG X) "EpochLedger$Broadcast" 11 m_Rt_init 0 ∨ xLIN (xGG X) "EpochLedger$Broadcast" 11 m_Rt_init 0 := Or.inr ⟨y_Rt_init, ⟨"EpochLedger", (xj1 111 rfl rfl)⟩, (xi1 112 rfl rfl), rfl, rfl⟩
theorem c_Nd_49 : xLI (xGG X) "EpochLedger$Node" 49 m_Ag_init 5 ∨ xLIN (xGG X) "EpochLedger$Node" 49 m_Ag_init 5 := Or.inl ⟨y_Ag_init, (xi1 166 rfl rfl), (xi1 167 rfl rfl), rfl, rfl⟩
theorem c_Lw_21 : xLV (xGG X) "EpochLedgerLaw" "EpochLedger" 21 m_El_submit 2 ∨ xLVN (xGG X) "EpochLedgerLaw" "EpochLedger" 21 m_El_submit 2 := Or.inl ⟨y_El_submit, (xi2 21 rfl rfl), (xi2 22 rfl rfl), (xi2 23 rfl rfl)⟩
theorem c_El_30 : xLS (xGG X) "EpochLedger" 30 m_El_isNode 1 ∨ xLSN (xGG X) "EpochLedger" 30 m_El_isNode 1 := Or.inl ⟨y_El_isNode, (xi2 25 rfl rfl), (xi2 26 rfl rfl)⟩
theorem c_El_34 : xLS (xGG X) "EpochLedger" 34 m_El_isIn 3 ∨ xLSN (xGG X) "EpochLedger" 34 m_El_isIn 3 := Or.inl ⟨y_El_isIn, (xi2 28 rfl rfl), (xi2 29 rfl rfl)⟩
theorem c_El_38 : xLV (xGG X) "EpochLedger" "EpochLedger$Node" 38 m_Nd_accept 1 ∨ xLVN (xGG X) "EpochLedger" "EpochLedger$Node" 38 m_Nd_accept 1 := Or.inl ⟨y_Nd_accept, (xi2 31 rfl rfl), (xi2 32 rfl rfl), (xi2 33 rfl rfl)⟩
theorem c_Nd_52 : xLV (xGG X) "EpochLedger$Node" "EpochLedger$Row" 52 m_Rw_isFull 0 ∨ xLVN (xGG X) "EpochLedger$Node" "EpochLedger$Row" 52 m_Rw_isFull 0 := Or.inl ⟨y_Rw_isFull, (xi2 35 rfl rfl), (xi2 36 rfl rfl), (xi2 37 rfl rfl)⟩
theorem c_Nd_56 : xLV (xGG X) "EpochLedger$Node" "EpochLedger$Row" 56 m_Rw_has 1 ∨ xLVN (xGG X) "EpochLedger$Node" "EpochLedger$Row" 56 m_Rw_has 1 := Or.inl ⟨y_Rw_has, (xi2 39 rfl rfl), (xi2 40 rfl rfl), (xi2 41 rfl rfl)⟩
theorem c_Nd_60 : xLV (xGG X) "EpochLedger$Node" "EpochLedger$Row" 60 m_Rw_append 1 ∨ xLVN (xGG X) "EpochLedger$Node" "EpochLedger$Row" 60 m_Rw_append 1 := Or.inl ⟨y_Rw_append, (xi2 43 rfl rfl), (xi2 44 rfl rfl), (xi2 45 rfl rfl)⟩
theorem c_Rw_19 : xLV (xGG X) "EpochLedger$Row" "EpochLedger$Row" 19 m_Rw_isFull 0 ∨ xLVN (xGG X) "EpochLedger$Row" "EpochLedger$Row" 19 m_Rw_isFull 0 := Or.inl ⟨y_Rw_isFull, (xi2 47 rfl rfl), (xi2 36 rfl rfl), (xi2 37 rfl rfl)⟩
theorem c_Lw_26 : xLV (xGG X) "EpochLedgerLaw" "EpochLedger" 26 m_El_begin 1 ∨ xLVN (xGG X) "EpochLedgerLaw" "EpochLedger" 26 m_El_begin 1 := Or.inl ⟨y_El_begin, (xi2 48 rfl rfl), (xi2 49 rfl rfl), (xi2 50 rfl rfl)⟩
theorem c_El_41 : xLV (xGG X) "EpochLedger" "EpochLedger$Node" 41 m_Nd_start 0 ∨ xLVN (xGG X) "EpochLedger" "EpochLedger$Node" 41 m_Nd_start 0 := Or.inl ⟨y_Nd_start, (xi2 52 rfl rfl), (xi2 53 rfl rfl), (xi2 54 rfl rfl)⟩
theorem c_Nd_67 : xLV (xGG X) "EpochLedger$Node" "EpochLedger$Node" 67 m_Nd_propose 0 ∨ xLVN (xGG X) "EpochLedger$Node" "EpochLedger$Node" 67 m_Nd_propose 0 := Or.inl ⟨y_Nd_propose, (xi2 56 rfl rfl), (xi2 58 rfl rfl), (xis 0 rfl rfl)⟩
theorem c_Nd_88 : xLV (xGG X) "EpochLedger$Node" "EpochLedger$Row" 88 m_Rw_itemOr 2 ∨ xLVN (xGG X) "EpochLedger$Node" "EpochLedger$Row" 88 m_Rw_itemOr 2 := Or.inl ⟨y_Rw_itemOr, (xi2 60 rfl rfl), (xi2 61 rfl rfl), (xi2 62 rfl rfl)⟩
theorem c_Rw_23 : xLS (xGG X) "EpochLedger$Row" 23 m_El_isIn 3 ∨ xLSN (xGG X) "EpochLedger$Row" 23 m_El_isIn 3 := Or.inr ⟨y_El_isIn, ⟨"EpochLedger", (xj2 64 rfl rfl)⟩, (xi2 29 rfl rfl)⟩
theorem c_Nd_92 : xLS (xGG X) "EpochLedger$Node" 92 m_Co_proposal 2 ∨ xLSN (xGG X) "EpochLedger$Node" 92 m_Co_proposal 2 := Or.inl ⟨y_Co_proposal, (xi2 65 rfl rfl), (xi2 66 rfl rfl)⟩
theorem c_Nd_97 : xLS (xGG X) "EpochLedger$Node" 97 m_Co_rootOf 1 ∨ xLSN (xGG X) "EpochLedger$Node" 97 m_Co_rootOf 1 := Or.inl ⟨y_Co_rootOf, (xi2 68 rfl rfl), (xi2 69 rfl rfl)⟩
theorem c_Co_17 : xLS (xGG X) "EpochLedger$Coding" 17 m_Co_leafOf 2 ∨ xLSN (xGG X) "EpochLedger$Coding" 17 m_Co_leafOf 2 := Or.inl ⟨y_Co_leafOf, (xi2 71 rfl rfl), (xi2 72 rfl rfl)⟩
theorem c_Co_20 : xLS (xGG X) "EpochLedger$Coding" 20 m_Co_halfOf 2 ∨ xLSN (xGG X) "EpochLedger$Coding" 20 m_Co_halfOf 2 := Or.inl ⟨y_Co_halfOf, (xi2 74 rfl rfl), (xi2 75 rfl rfl)⟩
theorem c_Co_11 : xLS (xGG X) "EpochLedger$Coding" 11 m_Co_product 2 ∨ xLSN (xGG X) "EpochLedger$Coding" 11 m_Co_product 2 := Or.inl ⟨y_Co_product, (xi2 79 rfl rfl), (xi2 80 rfl rfl)⟩
theorem c_Co_23 : xLS (xGG X) "EpochLedger$Coding" 23 m_Co_topOf 2 ∨ xLSN (xGG X) "EpochLedger$Coding" 23 m_Co_topOf 2 := Or.inl ⟨y_Co_topOf, (xi2 82 rfl rfl), (xi2 83 rfl rfl)⟩
theorem c_Nd_101 : xLS (xGG X) "EpochLedger$Node" 101 m_Co_witnessOf 2 ∨ xLSN (xGG X) "EpochLedger$Node" 101 m_Co_witnessOf 2 := Or.inl ⟨y_Co_witnessOf, (xi2 87 rfl rfl), (xi2 88 rfl rfl)⟩
theorem c_Co_26 : xLS (xGG X) "EpochLedger$Coding" 26 m_Co_partOf 2 ∨ xLSN (xGG X) "EpochLedger$Coding" 26 m_Co_partOf 2 := Or.inl ⟨y_Co_partOf, (xi2 90 rfl rfl), (xi2 91 rfl rfl)⟩
theorem c_Nd_104 : xLI (xGG X) "EpochLedger$Node" 104 m_Ms_init 6 ∨ xLIN (xGG X) "EpochLedger$Node" 104 m_Ms_init 6 := Or.inl ⟨y_Ms_init, (xi2 95 rfl rfl), (xi2 96 rfl rfl), rfl, rfl⟩
theorem c_Nd_107 : xLV (xGG X) "EpochLedger$Node" "EpochLedger$Network" 107 m_Nt_sendToOne 2 ∨ xLVN (xGG X) "EpochLedger$Node" "EpochLedger$Network" 107 m_Nt_sendToOne 2 := Or.inl ⟨y_Nt_sendToOne, (xi2 130 rfl rfl), (xi2 131 rfl rfl), (xi2 132 rfl rfl)⟩
theorem c_Nt_22 : xLV (xGG X) "EpochLedger$Network" "java/util/ArrayList" 22 m_Al_add 1 ∨ xLVN (xGG X) "EpochLedger$Network" "java/util/ArrayList" 22 m_Al_add 1 := Or.inl ⟨y_Al_add, (xi2 134 rfl rfl), (xi2 135 rfl rfl), (xi2 136 rfl rfl)⟩
theorem c_Al_131 : xLV (xGG X) "java/util/ArrayList" "java/util/ArrayList" 131 m_Al_add2 3 ∨ xLVN (xGG X) "java/util/ArrayList" "java/util/ArrayList" 131 m_Al_add2 3 := Or.inl ⟨y_Al_add2, (xi2 138 rfl rfl), (xi2 140 rfl rfl), (xis 1 rfl rfl)⟩
theorem c_Al_129 : xLV (xGG X) "java/util/ArrayList" "java/util/ArrayList" 129 m_Al_grow 0 ∨ xLVN (xGG X) "java/util/ArrayList" "java/util/ArrayList" 129 m_Al_grow 0 := Or.inl ⟨y_Al_grow, (xi2 142 rfl rfl), (xi2 144 rfl rfl), (xis 2 rfl rfl)⟩
theorem c_Al_69 : xLV (xGG X) "java/util/ArrayList" "java/util/ArrayList" 69 m_Al_grow2 1 ∨ xLVN (xGG X) "java/util/ArrayList" "java/util/ArrayList" 69 m_Al_grow2 1 := Or.inl ⟨y_Al_grow2, (xi2 146 rfl rfl), (xi2 148 rfl rfl), (xis 3 rfl rfl)⟩
theorem c_Al_73 : xLS (xGG X) "java/util/ArrayList" 73 m_As_newLength 3 ∨ xLSN (xGG X) "java/util/ArrayList" 73 m_As_newLength 3 := Or.inl ⟨y_As_newLength, (xi2 150 rfl rfl), (xi2 151 rfl rfl)⟩
theorem c_As_194 : xLS (xGG X) "jdk/internal/util/ArraysSupport" 194 m_Ma_max 2 ∨ xLSN (xGG X) "jdk/internal/util/ArraysSupport" 194 m_Ma_max 2 := Or.inl ⟨y_Ma_max, (xi2 153 rfl rfl), (xi2 154 rfl rfl)⟩
theorem c_As_201 : xLS (xGG X) "jdk/internal/util/ArraysSupport" 201 m_As_hugeLength 2 ∨ xLSN (xGG X) "jdk/internal/util/ArraysSupport" 201 m_As_hugeLength 2 := Or.inl ⟨y_As_hugeLength, (xi2 157 rfl rfl), (xi2 158 rfl rfl)⟩
theorem c_Al_66 : xLS (xGG X) "java/util/ArrayList" 66 m_Ar_copyOf 2 ∨ xLSN (xGG X) "java/util/ArrayList" 66 m_Ar_copyOf 2 := Or.inl ⟨y_Ar_copyOf, (xi2 160 rfl rfl), (xi2 161 rfl rfl)⟩
theorem c_Ar_300 : xLS (xGG X) "java/util/Arrays" 300 m_Ar_copyOf2 3 ∨ xLSN (xGG X) "java/util/Arrays" 300 m_Ar_copyOf2 3 := Or.inl ⟨y_Ar_copyOf2, (xi2 178 rfl rfl), (xi2 179 rfl rfl)⟩
theorem c_Ar_304 : xLS (xGG X) "java/util/Arrays" 304 m_Ma_min 2 ∨ xLSN (xGG X) "java/util/Arrays" 304 m_Ma_min 2 := Or.inl ⟨y_Ma_min, (xi2 184 rfl rfl), (xi2 185 rfl rfl)⟩
theorem c_Al_79 : xLS (xGG X) "java/util/ArrayList" 79 m_Ma_max 2 ∨ xLSN (xGG X) "java/util/ArrayList" 79 m_Ma_max 2 := Or.inl ⟨y_Ma_max, (xi2 190 rfl rfl), (xi2 154 rfl rfl)⟩
theorem c_Nd_70 : xLV (xGG X) "EpochLedger$Node" "EpochLedger$Node" 70 m_Nd_goOnWith 2 ∨ xLVN (xGG X) "EpochLedger$Node" "EpochLedger$Node" 70 m_Nd_goOnWith 2 := Or.inl ⟨y_Nd_goOnWith, (xi2 192 rfl rfl), (xi2 194 rfl rfl), (xis 4 rfl rfl)⟩
theorem c_Nd_113 : xLV (xGG X) "EpochLedger$Node" "EpochLedger$Node" 113 m_Nd_goOnAndLook 1 ∨ xLVN (xGG X) "EpochLedger$Node" "EpochLedger$Node" 113 m_Nd_goOnAndLook 1 := Or.inl ⟨y_Nd_goOnAndLook, (xi2 196 rfl rfl), (xi2 198 rfl rfl), (xis 5 rfl rfl)⟩
theorem c_Nd_122 : xLV (xGG X) "EpochLedger$Node" "EpochLedger$Node" 122 m_Nd_broadcastOf 1 ∨ xLVN (xGG X) "EpochLedger$Node" "EpochLedger$Node" 122 m_Nd_broadcastOf 1 := Or.inl ⟨y_Nd_broadcastOf, (xi2 200 rfl rfl), (xi2 201 rfl rfl), (xi2 202 rfl rfl)⟩
theorem c_Nd_126 : xLV (xGG X) "EpochLedger$Node" "EpochLedger$Node" 126 m_Nd_agreementOf 1 ∨ xLVN (xGG X) "EpochLedger$Node" "EpochLedger$Node" 126 m_Nd_agreementOf 1 := Or.inl ⟨y_Nd_agreementOf, (xi2 204 rfl rfl), (xi2 205 rfl rfl), (xi2 206 rfl rfl)⟩
theorem c_Nd_130 : xLV (xGG X) "EpochLedger$Node" "EpochLedger$Broadcast" 130 m_Bc_sendEchoIfDue 0 ∨ xLVN (xGG X) "EpochLedger$Node" "EpochLedger$Broadcast" 130 m_Bc_sendEchoIfDue 0 := Or.inl ⟨y_Bc_sendEchoIfDue, (xi2 208 rfl rfl), (xi2 209 rfl rfl), (xi2 210 rfl rfl)⟩
theorem c_Bc_90 : xLI (xGG X) "EpochLedger$Broadcast" 90 m_Ms_init 6 ∨ xLIN (xGG X) "EpochLedger$Broadcast" 90 m_Ms_init 6 := Or.inl ⟨y_Ms_init, (xi2 213 rfl rfl), (xi2 96 rfl rfl), rfl, rfl⟩
theorem c_Bc_93 : xLV (xGG X) "EpochLedger$Broadcast" "EpochLedger$Network" 93 m_Nt_sendToAll 1 ∨ xLVN (xGG X) "EpochLedger$Broadcast" "EpochLedger$Network" 93 m_Nt_sendToAll 1 := Or.inl ⟨y_Nt_sendToAll, (xi2 214 rfl rfl), (xi2 215 rfl rfl), (xi2 216 rfl rfl)⟩
theorem c_Nd_133 : xLV (xGG X) "EpochLedger$Node" "EpochLedger$Broadcast" 133 m_Bc_sendReadyIfDue 0 ∨ xLVN (xGG X) "EpochLedger$Node" "EpochLedger$Broadcast" 133 m_Bc_sendReadyIfDue 0 := Or.inl ⟨y_Bc_sendReadyIfDue, (xi2 218 rfl rfl), (xi2 219 rfl rfl), (xi2 220 rfl rfl)⟩
theorem c_Bc_101 : xLV (xGG X) "EpochLedger$Broadcast" "EpochLedger$Roots" 101 m_Rt_leastOfShared 1 ∨ xLVN (xGG X) "EpochLedger$Broadcast" "EpochLedger$Roots" 101 m_Rt_leastOfShared 1 := Or.inl ⟨y_Rt_leastOfShared, (xi2 222 rfl rfl), (xi2 223 rfl rfl), (xi2 224 rfl rfl)⟩
theorem c_Rt_19 : xLV (xGG X) "EpochLedger$Roots" "EpochLedger$Roots" 19 m_Rt_isFrom 1 ∨ xLVN (xGG X) "EpochLedger$Roots" "EpochLedger$Roots" 19 m_Rt_isFrom 1 := Or.inl ⟨y_Rt_isFrom, (xi2 226 rfl rfl), (xi2 227 rfl rfl), (xi2 228 rfl rfl)⟩
theorem c_Rt_23 : xLV (xGG X) "EpochLedger$Roots" "EpochLedger$Roots" 23 m_Rt_sendersOf 1 ∨ xLVN (xGG X) "EpochLedger$Roots" "EpochLedger$Roots" 23 m_Rt_sendersOf 1 := Or.inl ⟨y_Rt_sendersOf, (xi2 230 rfl rfl), (xi2 231 rfl rfl), (xi2 232 rfl rfl)⟩
theorem c_Rt_27 : xLS (xGG X) "EpochLedger$Roots" 27 m_It_bitCount 1 ∨ xLSN (xGG X) "EpochLedger$Roots" 27 m_It_bitCount 1 := Or.inl ⟨y_It_bitCount, (xi2 234 rfl rfl), (xi2 235 rfl rfl)⟩
theorem c_Bc_108 : xLV (xGG X) "EpochLedger$Broadcast" "EpochLedger$Roots" 108 m_Rt_sendersOf 1 ∨ xLVN (xGG X) "EpochLedger$Broadcast" "EpochLedger$Roots" 108 m_Rt_sendersOf 1 := Or.inl ⟨y_Rt_sendersOf, (xi3 0 rfl rfl), (xi2 231 rfl rfl), (xi2 232 rfl rfl)⟩
theorem c_Bc_111 : xLV (xGG X) "EpochLedger$Broadcast" "EpochLedger$Broadcast" 111 m_Bc_proposalOf 1 ∨ xLVN (xGG X) "EpochLedger$Broadcast" "EpochLedger$Broadcast" 111 m_Bc_proposalOf 1 := Or.inl ⟨y_Bc_proposalOf, (xi3 1 rfl rfl), (xi3 3 rfl rfl), (xis 6 rfl rfl)⟩
theorem c_Bc_126 : xLS (xGG X) "EpochLedger$Broadcast" 126 m_Co_proposalWith 4 ∨ xLSN (xGG X) "EpochLedger$Broadcast" 126 m_Co_proposalWith 4 := Or.inl ⟨y_Co_proposalWith, (xi3 5 rfl rfl), (xi3 6 rfl rfl)⟩
theorem c_Co_33 : xLS (xGG X) "EpochLedger$Coding" 33 m_Co_proposal 2 ∨ xLSN (xGG X) "EpochLedger$Coding" 33 m_Co_proposal 2 := Or.inl ⟨y_Co_proposal, (xi3 10 rfl rfl), (xi2 66 rfl rfl)⟩
theorem c_Bc_114 : xLS (xGG X) "EpochLedger$Broadcast" 114 m_Co_rootOf 1 ∨ xLSN (xGG X) "EpochLedger$Broadcast" 114 m_Co_rootOf 1 := Or.inl ⟨y_Co_rootOf, (xi3 11 rfl rfl), (xi2 69 rfl rfl)⟩
theorem c_Bc_117 : xLV (xGG X) "EpochLedger$Broadcast" "EpochLedger$Broadcast" 117 m_Bc_sendReady 1 ∨ xLVN (xGG X) "EpochLedger$Broadcast" "EpochLedger$Broadcast" 117 m_Bc_sendReady 1 := Or.inl ⟨y_Bc_sendReady, (xi3 12 rfl rfl), (xi3 14 rfl rfl), (xis 7 rfl rfl)⟩
theorem c_Nd_136 : xLV (xGG X) "EpochLedger$Node" "EpochLedger$Broadcast" 136 m_Bc_takeProposalIfDue 0 ∨ xLVN (xGG X) "EpochLedger$Node" "EpochLedger$Broadcast" 136 m_Bc_takeProposalIfDue 0 := Or.inl ⟨y_Bc_takeProposalIfDue, (xi3 16 rfl rfl), (xi3 17 rfl rfl), (xi3 18 rfl rfl)⟩
theorem c_Bc_121 : xLS (xGG X) "EpochLedger$Broadcast" 121 m_It_bitCount 1 ∨ xLSN (xGG X) "EpochLedger$Broadcast" 121 m_It_bitCount 1 := Or.inl ⟨y_It_bitCount, (xi3 20 rfl rfl), (xi2 235 rfl rfl)⟩
theorem c_Nd_141 : xLV (xGG X) "EpochLedger$Node" "EpochLedger$Agreement" 141 m_Ag_giveInput 1 ∨ xLVN (xGG X) "EpochLedger$Node" "EpochLedger$Agreement" 141 m_Ag_giveInput 1 := Or.inl ⟨y_Ag_giveInput, (xi3 21 rfl rfl), (xi3 22 rfl rfl), (xi3 23 rfl rfl)⟩
theorem c_Ag_58 : xLV (xGG X) "EpochLedger$Agreement" "EpochLedger$Agreement" 58 m_Ag_hasInput 0 ∨ xLVN (xGG X) "EpochLedger$Agreement" "EpochLedger$Agreement" 58 m_Ag_hasInput 0 := Or.inl ⟨y_Ag_hasInput, (xi3 25 rfl rfl), (xi3 26 rfl rfl), (xi3 27 rfl rfl)⟩
theorem c_Nd_144 : xLV (xGG X) "EpochLedger$Node" "EpochLedger$Agreement" 144 m_Ag_goOn 0 ∨ xLVN (xGG X) "EpochLedger$Node" "EpochLedger$Agreement" 144 m_Ag_goOn 0 := Or.inl ⟨y_Ag_goOn, (xi3 29 rfl rfl), (xi3 30 rfl rfl), (xi3 31 rfl rfl)⟩
theorem c_Ag_66 : xLV (xGG X) "EpochLedger$Agreement" "EpochLedger$Agreement" 66 m_Ag_sendVote 1 ∨ xLVN (xGG X) "EpochLedger$Agreement" "EpochLedger$Agreement" 66 m_Ag_sendVote 1 := Or.inl ⟨y_Ag_sendVote, (xi3 33 rfl rfl), (xi3 35 rfl rfl), (xis 8 rfl rfl)⟩
theorem c_Ag_91 : xLI (xGG X) "EpochLedger$Agreement" 91 m_Ms_init 6 ∨ xLIN (xGG X) "EpochLedger$Agreement" 91 m_Ms_init 6 := Or.inl ⟨y_Ms_init, (xi3 38 rfl rfl), (xi2 96 rfl rfl), rfl, rfl⟩
theorem c_Ag_94 : xLV (xGG X) "EpochLedger$Agreement" "EpochLedger$Network" 94 m_Nt_sendToAll 1 ∨ xLVN (xGG X) "EpochLedger$Agreement" "EpochLedger$Network" 94 m_Nt_sendToAll 1 := Or.inl ⟨y_Nt_sendToAll, (xi3 39 rfl rfl), (xi2 215 rfl rfl), (xi2 216 rfl rfl)⟩
theorem c_Ag_70 : xLV (xGG X) "EpochLedger$Agreement" "EpochLedger$Agreement" 70 m_Ag_voters 1 ∨ xLVN (xGG X) "EpochLedger$Agreement" "EpochLedger$Agreement" 70 m_Ag_voters 1 := Or.inl ⟨y_Ag_voters, (xi3 40 rfl rfl), (xi3 42 rfl rfl), (xis 9 rfl rfl)⟩
theorem c_Ag_83 : xLS (xGG X) "EpochLedger$Agreement" 83 m_It_bitCount 1 ∨ xLSN (xGG X) "EpochLedger$Agreement" 83 m_It_bitCount 1 := Or.inl ⟨y_It_bitCount, (xi3 44 rfl rfl), (xi2 235 rfl rfl)⟩
theorem c_Ag_74 : xLV (xGG X) "EpochLedger$Agreement" "EpochLedger$Agreement" 74 m_Ag_makeGood 1 ∨ xLVN (xGG X) "EpochLedger$Agreement" "EpochLedger$Agreement" 74 m_Ag_makeGood 1 := Or.inl ⟨y_Ag_makeGood, (xi3 45 rfl rfl), (xi3 47 rfl rfl), (xis 10 rfl rfl)⟩
theorem c_Ag_77 : xLV (xGG X) "EpochLedger$Agreement" "EpochLedger$Agreement" 77 m_Ag_goodSures 1 ∨ xLVN (xGG X) "EpochLedger$Agreement" "EpochLedger$Agreement" 77 m_Ag_goodSures 1 := Or.inl ⟨y_Ag_goodSures, (xi3 49 rfl rfl), (xi3 51 rfl rfl), (xis 11 rfl rfl)⟩
theorem c_Ag_80 : xLV (xGG X) "EpochLedger$Agreement" "EpochLedger$Agreement" 80 m_Ag_finishRound 0 ∨ xLVN (xGG X) "EpochLedger$Agreement" "EpochLedger$Agreement" 80 m_Ag_finishRound 0 := Or.inl ⟨y_Ag_finishRound, (xi3 53 rfl rfl), (xi3 55 rfl rfl), (xis 12 rfl rfl)⟩
theorem c_Ag_106 : xLS (xGG X) "EpochLedger$Agreement" 106 m_El_tossOf 4 ∨ xLSN (xGG X) "EpochLedger$Agreement" 106 m_El_tossOf 4 := Or.inr ⟨y_El_tossOf, ⟨"EpochLedger", (xj3 57 rfl rfl)⟩, (xi3 58 rfl rfl)⟩
theorem c_Ag_110 : xLV (xGG X) "EpochLedger$Agreement" "EpochLedger$Agreement" 110 m_Ag_enterNextRound 0 ∨ xLVN (xGG X) "EpochLedger$Agreement" "EpochLedger$Agreement" 110 m_Ag_enterNextRound 0 := Or.inl ⟨y_Ag_enterNextRound, (xi3 60 rfl rfl), (xi3 62 rfl rfl), (xis 13 rfl rfl)⟩
theorem c_Nd_147 : xLV (xGG X) "EpochLedger$Node" "EpochLedger$Node" 147 m_Nd_instanceToRefuse 0 ∨ xLVN (xGG X) "EpochLedger$Node" "EpochLedger$Node" 147 m_Nd_instanceToRefuse 0 := Or.inl ⟨y_Nd_instanceToRefuse, (xi3 64 rfl rfl), (xi3 66 rfl rfl), (xis 14 rfl rfl)⟩
theorem c_Nd_154 : xLV (xGG X) "EpochLedger$Node" "EpochLedger$Agreement" 154 m_Ag_hasInput 0 ∨ xLVN (xGG X) "EpochLedger$Node" "EpochLedger$Agreement" 154 m_Ag_hasInput 0 := Or.inl ⟨y_Ag_hasInput, (xi3 68 rfl rfl), (xi3 26 rfl rfl), (xi3 27 rfl rfl)⟩
theorem c_Nd_116 : xLV (xGG X) "EpochLedger$Node" "EpochLedger$Node" 116 m_Nd_mayCommit 0 ∨ xLVN (xGG X) "EpochLedger$Node" "EpochLedger$Node" 116 m_Nd_mayCommit 0 := Or.inl ⟨y_Nd_mayCommit, (xi3 69 rfl rfl), (xi3 71 rfl rfl), (xis 15 rfl rfl)⟩
theorem c_Nd_119 : xLV (xGG X) "EpochLedger$Node" "EpochLedger$Node" 119 m_Nd_commit 0 ∨ xLVN (xGG X) "EpochLedger$Node" "EpochLedger$Node" 119 m_Nd_commit 0 := Or.inl ⟨y_Nd_commit, (xi3 73 rfl rfl), (xi3 75 rfl rfl), (xis 16 rfl rfl)⟩
theorem c_Nd_157 : xLV (xGG X) "EpochLedger$Node" "EpochLedger$Node" 157 m_Nd_isAccepted 1 ∨ xLVN (xGG X) "EpochLedger$Node" "EpochLedger$Node" 157 m_Nd_isAccepted 1 := Or.inl ⟨y_Nd_isAccepted, (xi3 77 rfl rfl), (xi3 79 rfl rfl), (xis 17 rfl rfl)⟩
theorem c_Nd_160 : xLV (xGG X) "EpochLedger$Node" "EpochLedger$Row" 160 m_Rw_drop 1 ∨ xLVN (xGG X) "EpochLedger$Node" "EpochLedger$Row" 160 m_Rw_drop 1 := Or.inl ⟨y_Rw_drop, (xi3 81 rfl rfl), (xi3 82 rfl rfl), (xi3 83 rfl rfl)⟩
theorem c_Lw_31 : xLV (xGG X) "EpochLedgerLaw" "EpochLedger" 31 m_El_run 2 ∨ xLVN (xGG X) "EpochLedgerLaw" "EpochLedger" 31 m_El_run 2 := Or.inl ⟨y_El_run, (xi3 85 rfl rfl), (xi3 86 rfl rfl), (xi3 87 rfl rfl)⟩
theorem c_El_45 : xLV (xGG X) "EpochLedger" "EpochLedger$Network" 45 m_Nt_countFor 1 ∨ xLVN (xGG X) "EpochLedger" "EpochLedger$Network" 45 m_Nt_countFor 1 := Or.inl ⟨y_Nt_countFor, (xi3 89 rfl rfl), (xi3 90 rfl rfl), (xi3 91 rfl rfl)⟩
theorem c_Nt_28 : xLV (xGG X) "EpochLedger$Network" "java/util/ArrayList" 28 m_Al_size 0 ∨ xLVN (xGG X) "EpochLedger$Network" "java/util/ArrayList" 28 m_Al_size 0 := Or.inl ⟨y_Al_size, (xi3 93 rfl rfl), (xi3 94 rfl rfl), (xi3 95 rfl rfl)⟩
theorem c_El_49 : xLV (xGG X) "EpochLedger" "EpochLedger$Network" 49 m_Nt_remove 2 ∨ xLVN (xGG X) "EpochLedger" "EpochLedger$Network" 49 m_Nt_remove 2 := Or.inl ⟨y_Nt_remove, (xi3 97 rfl rfl), (xi3 98 rfl rfl), (xi3 99 rfl rfl)⟩
theorem c_Nt_32 : xLV (xGG X) "EpochLedger$Network" "java/util/ArrayList" 32 m_Al_remove 1 ∨ xLVN (xGG X) "EpochLedger$Network" "java/util/ArrayList" 32 m_Al_remove 1 := Or.inl ⟨y_Al_remove, (xi3 101 rfl rfl), (xi3 102 rfl rfl), (xi3 103 rfl rfl)⟩
theorem c_Al_118 : xLS (xGG X) "java/util/ArrayList" 118 m_Os_checkIndex 2 ∨ xLSN (xGG X) "java/util/ArrayList" 118 m_Os_checkIndex 2 := Or.inl ⟨y_Os_checkIndex, (xi3 105 rfl rfl), (xi3 106 rfl rfl)⟩
theorem c_Os_105 : xLS (xGG X) "java/util/Objects" 105 m_Pr_checkIndex 3 ∨ xLSN (xGG X) "java/util/Objects" 105 m_Pr_checkIndex 3 := Or.inl ⟨y_Pr_checkIndex, (xi3 108 rfl rfl), (xi3 109 rfl rfl)⟩
theorem c_Al_144 : xLV (xGG X) "java/util/ArrayList" "java/util/ArrayList" 144 m_Al_fastRemove 2 ∨ xLVN (xGG X) "java/util/ArrayList" "java/util/ArrayList" 144 m_Al_fastRemove 2 := Or.inl ⟨y_Al_fastRemove, (xi3 111 rfl rfl), (xi3 113 rfl rfl), (xis 18 rfl rfl)⟩
theorem c_El_53 : xLV (xGG X) "EpochLedger" "EpochLedger$Node" 53 m_Nd_take 1 ∨ xLVN (xGG X) "EpochLedger" "EpochLedger$Node" 53 m_Nd_take 1 := Or.inl ⟨y_Nd_take, (xi3 117 rfl rfl), (xi3 118 rfl rfl), (xi3 119 rfl rfl)⟩
theorem c_Nd_83 : xLV (xGG X) "EpochLedger$Node" "EpochLedger$Agreement" 83 m_Ag_keep 1 ∨ xLVN (xGG X) "EpochLedger$Node" "EpochLedger$Agreement" 83 m_Ag_keep 1 := Or.inl ⟨y_Ag_keep, (xi3 121 rfl rfl), (xi3 122 rfl rfl), (xi3 123 rfl rfl)⟩
theorem c_Nd_87 : xLV (xGG X) "EpochLedger$Node" "EpochLedger$Broadcast" 87 m_Bc_keep 1 ∨ xLVN (xGG X) "EpochLedger$Node" "EpochLedger$Broadcast" 87 m_Bc_keep 1 := Or.inl ⟨y_Bc_keep, (xi3 125 rfl rfl), (xi3 126 rfl rfl), (xi3 127 rfl rfl)⟩
theorem c_Bc_47 : xLV (xGG X) "EpochLedger$Broadcast" "EpochLedger$Broadcast" 47 m_Bc_keepValue 1 ∨ xLVN (xGG X) "EpochLedger$Broadcast" "EpochLedger$Broadcast" 47 m_Bc_keepValue 1 := Or.inl ⟨y_Bc_keepValue, (xi3 129 rfl rfl), (xi3 131 rfl rfl), (xis 19 rfl rfl)⟩
theorem c_Bc_75 : xLS (xGG X) "EpochLedger$Broadcast" 75 m_Co_isRight 3 ∨ xLSN (xGG X) "EpochLedger$Broadcast" 75 m_Co_isRight 3 := Or.inl ⟨y_Co_isRight, (xi3 133 rfl rfl), (xi3 134 rfl rfl)⟩
theorem c_Bc_51 : xLV (xGG X) "EpochLedger$Broadcast" "EpochLedger$Broadcast" 51 m_Bc_keepEcho 1 ∨ xLVN (xGG X) "EpochLedger$Broadcast" "EpochLedger$Broadcast" 51 m_Bc_keepEcho 1 := Or.inl ⟨y_Bc_keepEcho, (xi3 136 rfl rfl), (xi3 138 rfl rfl), (xis 20 rfl rfl)⟩
theorem c_Bc_57 : xLV (xGG X) "EpochLedger$Broadcast" "EpochLedger$Roots" 57 m_Rt_isFrom 1 ∨ xLVN (xGG X) "EpochLedger$Broadcast" "EpochLedger$Roots" 57 m_Rt_isFrom 1 := Or.inl ⟨y_Rt_isFrom, (xi3 140 rfl rfl), (xi2 227 rfl rfl), (xi2 228 rfl rfl)⟩
theorem c_Bc_64 : xLV (xGG X) "EpochLedger$Broadcast" "EpochLedger$Roots" 64 m_Rt_put 2 ∨ xLVN (xGG X) "EpochLedger$Broadcast" "EpochLedger$Roots" 64 m_Rt_put 2 := Or.inl ⟨y_Rt_put, (xi3 141 rfl rfl), (xi3 142 rfl rfl), (xi3 143 rfl rfl)⟩
theorem c_Lw_36 : xLV (xGG X) "EpochLedgerLaw" "EpochLedger" 36 m_El_deliver 2 ∨ xLVN (xGG X) "EpochLedgerLaw" "EpochLedger" 36 m_El_deliver 2 := Or.inl ⟨y_El_deliver, (xi3 145 rfl rfl), (xi3 146 rfl rfl), (xi3 147 rfl rfl)⟩
theorem c_Lw_40 : xLV (xGG X) "EpochLedgerLaw" "EpochLedger" 40 m_El_betray 0 ∨ xLVN (xGG X) "EpochLedgerLaw" "EpochLedger" 40 m_El_betray 0 := Or.inl ⟨y_El_betray, (xi3 149 rfl rfl), (xi3 150 rfl rfl), (xi3 151 rfl rfl)⟩
theorem c_Lw_45 : xLV (xGG X) "EpochLedgerLaw" "EpochLedger" 45 m_El_speak 6 ∨ xLVN (xGG X) "EpochLedgerLaw" "EpochLedger" 45 m_El_speak 6 := Or.inl ⟨y_El_speak, (xi3 153 rfl rfl), (xi3 154 rfl rfl), (xi3 155 rfl rfl)⟩
theorem c_El_69 : xLS (xGG X) "EpochLedger" 69 m_El_isEpoch 1 ∨ xLSN (xGG X) "EpochLedger" 69 m_El_isEpoch 1 := Or.inl ⟨y_El_isEpoch, (xi3 157 rfl rfl), (xi3 158 rfl rfl)⟩
theorem c_El_72 : xLS (xGG X) "EpochLedger" 72 m_El_isRound 1 ∨ xLSN (xGG X) "EpochLedger" 72 m_El_isRound 1 := Or.inl ⟨y_El_isRound, (xi3 160 rfl rfl), (xi3 161 rfl rfl)⟩
theorem c_El_75 : xLI (xGG X) "EpochLedger" 75 m_Ms_init 6 ∨ xLIN (xGG X) "EpochLedger" 75 m_Ms_init 6 := Or.inl ⟨y_Ms_init, (xi3 164 rfl rfl), (xi2 96 rfl rfl), rfl, rfl⟩
theorem c_El_78 : xLV (xGG X) "EpochLedger" "EpochLedger$Network" 78 m_Nt_sendToOne 2 ∨ xLVN (xGG X) "EpochLedger" "EpochLedger$Network" 78 m_Nt_sendToOne 2 := Or.inl ⟨y_Nt_sendToOne, (xi3 165 rfl rfl), (xi2 131 rfl rfl), (xi2 132 rfl rfl)⟩
theorem c_Lw_50 : xLV (xGG X) "EpochLedgerLaw" "EpochLedger" 50 m_El_epoch 1 ∨ xLVN (xGG X) "EpochLedgerLaw" "EpochLedger" 50 m_El_epoch 1 := Or.inl ⟨y_El_epoch, (xi3 166 rfl rfl), (xi3 167 rfl rfl), (xi3 168 rfl rfl)⟩
theorem c_Lw_55 : xLV (xGG X) "EpochLedgerLaw" "EpochLedger" 55 m_El_ledger 2 ∨ xLVN (xGG X) "EpochLedgerLaw" "EpochLedger" 55 m_El_ledger 2 := Or.inl ⟨y_El_ledger, (xi3 170 rfl rfl), (xi3 171 rfl rfl), (xi3 172 rfl rfl)⟩
theorem c_El_89 : xLV (xGG X) "EpochLedger" "EpochLedger$Row" 89 m_Rw_answer 1 ∨ xLVN (xGG X) "EpochLedger" "EpochLedger$Row" 89 m_Rw_answer 1 := Or.inl ⟨y_Rw_answer, (xi3 174 rfl rfl), (xi3 175 rfl rfl), (xi3 176 rfl rfl)⟩
theorem c_Rw_27 : xLV (xGG X) "EpochLedger$Row" "EpochLedger$Row" 27 m_Rw_itemOr 2 ∨ xLVN (xGG X) "EpochLedger$Row" "EpochLedger$Row" 27 m_Rw_itemOr 2 := Or.inl ⟨y_Rw_itemOr, (xi3 178 rfl rfl), (xi2 61 rfl rfl), (xi2 62 rfl rfl)⟩
theorem c_Lw_59 : xLV (xGG X) "EpochLedgerLaw" "EpochLedger" 59 m_El_queue 2 ∨ xLVN (xGG X) "EpochLedgerLaw" "EpochLedger" 59 m_El_queue 2 := Or.inl ⟨y_El_queue, (xi3 179 rfl rfl), (xi3 180 rfl rfl), (xi3 181 rfl rfl)⟩
theorem c_Lw_63 : xLV (xGG X) "EpochLedgerLaw" "EpochLedger" 63 m_El_waiting 1 ∨ xLVN (xGG X) "EpochLedgerLaw" "EpochLedger" 63 m_El_waiting 1 := Or.inl ⟨y_El_waiting, (xi3 183 rfl rfl), (xi3 184 rfl rfl), (xi3 185 rfl rfl)⟩
theorem c_Lw_67 : xLV (xGG X) "EpochLedgerLaw" "EpochLedger" 67 m_El_instance 3 ∨ xLVN (xGG X) "EpochLedgerLaw" "EpochLedger" 67 m_El_instance 3 := Or.inl ⟨y_El_instance, (xi3 187 rfl rfl), (xi3 188 rfl rfl), (xi3 189 rfl rfl)⟩
theorem c_El_97 : xLV (xGG X) "EpochLedger" "EpochLedger$Node" 97 m_Nd_broadcastOf 1 ∨ xLVN (xGG X) "EpochLedger" "EpochLedger$Node" 97 m_Nd_broadcastOf 1 := Or.inl ⟨y_Nd_broadcastOf, (xi3 191 rfl rfl), (xi2 201 rfl rfl), (xi2 202 rfl rfl)⟩
theorem c_El_101 : xLV (xGG X) "EpochLedger" "EpochLedger$Node" 101 m_Nd_agreementOf 1 ∨ xLVN (xGG X) "EpochLedger" "EpochLedger$Node" 101 m_Nd_agreementOf 1 := Or.inl ⟨y_Nd_agreementOf, (xi3 192 rfl rfl), (xi2 205 rfl rfl), (xi2 206 rfl rfl)⟩
theorem c_El_105 : xLV (xGG X) "EpochLedger" "EpochLedger$Broadcast" 105 m_Bc_progress 0 ∨ xLVN (xGG X) "EpochLedger" "EpochLedger$Broadcast" 105 m_Bc_progress 0 := Or.inl ⟨y_Bc_progress, (xi3 193 rfl rfl), (xi3 194 rfl rfl), (xi3 195 rfl rfl)⟩
theorem c_Lw_72 : xLV (xGG X) "EpochLedgerLaw" "EpochLedger" 72 m_El_coin 3 ∨ xLVN (xGG X) "EpochLedgerLaw" "EpochLedger" 72 m_El_coin 3 := Or.inl ⟨y_El_coin, (xi3 197 rfl rfl), (xi3 198 rfl rfl), (xi3 199 rfl rfl)⟩
theorem c_El_131 : xLS (xGG X) "EpochLedger" 131 m_El_tossOf 4 ∨ xLSN (xGG X) "EpochLedger" 131 m_El_tossOf 4 := Or.inl ⟨y_El_tossOf, (xi3 201 rfl rfl), (xi3 58 rfl rfl)⟩
theorem c_Lw_76 : xLV (xGG X) "EpochLedgerLaw" "EpochLedger" 76 m_El_root 2 ∨ xLVN (xGG X) "EpochLedgerLaw" "EpochLedger" 76 m_El_root 2 := Or.inl ⟨y_El_root, (xi3 202 rfl rfl), (xi3 203 rfl rfl), (xi3 204 rfl rfl)⟩
theorem c_El_135 : xLS (xGG X) "EpochLedger" 135 m_Co_proposal 2 ∨ xLSN (xGG X) "EpochLedger" 135 m_Co_proposal 2 := Or.inl ⟨y_Co_proposal, (xi3 206 rfl rfl), (xi2 66 rfl rfl)⟩
theorem c_El_140 : xLS (xGG X) "EpochLedger" 140 m_Co_rootOf 1 ∨ xLSN (xGG X) "EpochLedger" 140 m_Co_rootOf 1 := Or.inl ⟨y_Co_rootOf, (xi3 207 rfl rfl), (xi2 69 rfl rfl)⟩
theorem c_Lw_9 : xLS (xGG X) "EpochLedgerLaw" 9 m_Lw_cell 2 ∨ xLSN (xGG X) "EpochLedgerLaw" 9 m_Lw_cell 2 := Or.inl ⟨y_Lw_cell, (xi3 208 rfl rfl), (xi3 209 rfl rfl)⟩
theorem c_Lw_20 : xLI (xGG X) "EpochLedgerLaw" 20 m_Mo_init 1 ∨ xLIN (xGG X) "EpochLedgerLaw" 20 m_Mo_init 1 := Or.inl ⟨y_Mo_init, (xi3 213 rfl rfl), (xi3 214 rfl rfl), rfl, rfl⟩
theorem c_Lw_79 : xLV (xGG X) "EpochLedgerLaw" "EpochLedgerModel" 79 m_Mo_root 2 ∨ xLVN (xGG X) "EpochLedgerLaw" "EpochLedgerModel" 79 m_Mo_root 2 := Or.inl ⟨y_Mo_root, (xi4 91 rfl rfl), (xi4 92 rfl rfl), (xi4 93 rfl rfl)⟩
theorem c_Mo_133 : xLS (xGG X) "EpochLedgerModel" 133 m_Mo_rootOfProposal 2 ∨ xLSN (xGG X) "EpochLedgerModel" 133 m_Mo_rootOfProposal 2 := Or.inl ⟨y_Mo_rootOfProposal, (xi4 95 rfl rfl), (xi4 96 rfl rfl)⟩
theorem c_Mo_120 : xLS (xGG X) "EpochLedgerModel" 120 m_Mo_partOf 3 ∨ xLSN (xGG X) "EpochLedgerModel" 120 m_Mo_partOf 3 := Or.inl ⟨y_Mo_partOf, (xi4 98 rfl rfl), (xi4 99 rfl rfl)⟩
theorem c_Mo_106 : xLS (xGG X) "EpochLedgerModel" 106 m_Mo_times 2 ∨ xLSN (xGG X) "EpochLedgerModel" 106 m_Mo_times 2 := Or.inl ⟨y_Mo_times, (xi4 101 rfl rfl), (xi4 102 rfl rfl)⟩
theorem c_Mo_124 : xLS (xGG X) "EpochLedgerModel" 124 m_Mo_leaf 2 ∨ xLSN (xGG X) "EpochLedgerModel" 124 m_Mo_leaf 2 := Or.inl ⟨y_Mo_leaf, (xi4 104 rfl rfl), (xi4 105 rfl rfl)⟩
theorem c_Mo_127 : xLS (xGG X) "EpochLedgerModel" 127 m_Mo_half 2 ∨ xLSN (xGG X) "EpochLedgerModel" 127 m_Mo_half 2 := Or.inl ⟨y_Mo_half, (xi4 107 rfl rfl), (xi4 108 rfl rfl)⟩
theorem c_Mo_130 : xLS (xGG X) "EpochLedgerModel" 130 m_Mo_rootOf 2 ∨ xLSN (xGG X) "EpochLedgerModel" 130 m_Mo_rootOf 2 := Or.inl ⟨y_Mo_rootOf, (xi4 114 rfl rfl), (xi4 115 rfl rfl)⟩
theorem c_Lw_75 : xLV (xGG X) "EpochLedgerLaw" "EpochLedgerModel" 75 m_Mo_coin 3 ∨ xLVN (xGG X) "EpochLedgerLaw" "EpochLedgerModel" 75 m_Mo_coin 3 := Or.inl ⟨y_Mo_coin, (xi4 119 rfl rfl), (xi4 120 rfl rfl), (xi4 121 rfl rfl)⟩
theorem c_Mo_136 : xLS (xGG X) "EpochLedgerModel" 136 m_Mo_isNode 1 ∨ xLSN (xGG X) "EpochLedgerModel" 136 m_Mo_isNode 1 := Or.inl ⟨y_Mo_isNode, (xi4 123 rfl rfl), (xi4 124 rfl rfl)⟩
theorem c_Mo_140 : xLV (xGG X) "EpochLedgerModel" "EpochLedgerModel" 140 m_Mo_coinOf 3 ∨ xLVN (xGG X) "EpochLedgerModel" "EpochLedgerModel" 140 m_Mo_coinOf 3 := Or.inl ⟨y_Mo_coinOf, (xi4 126 rfl rfl), (xi4 128 rfl rfl), (xis 21 rfl rfl)⟩
theorem c_Lw_25 : xLV (xGG X) "EpochLedgerLaw" "EpochLedgerModel" 25 m_Mo_submit 2 ∨ xLVN (xGG X) "EpochLedgerLaw" "EpochLedgerModel" 25 m_Mo_submit 2 := Or.inl ⟨y_Mo_submit, (xi4 130 rfl rfl), (xi4 131 rfl rfl), (xi4 132 rfl rfl)⟩
theorem c_Mo_143 : xLV (xGG X) "EpochLedgerModel" "EpochLedgerModel" 143 m_Mo_isBooked 2 ∨ xLVN (xGG X) "EpochLedgerModel" "EpochLedgerModel" 143 m_Mo_isBooked 2 := Or.inl ⟨y_Mo_isBooked, (xi4 134 rfl rfl), (xi4 136 rfl rfl), (xis 22 rfl rfl)⟩
theorem c_Lw_66 : xLV (xGG X) "EpochLedgerLaw" "EpochLedgerModel" 66 m_Mo_waiting 1 ∨ xLVN (xGG X) "EpochLedgerLaw" "EpochLedgerModel" 66 m_Mo_waiting 1 := Or.inl ⟨y_Mo_waiting, (xi4 138 rfl rfl), (xi4 139 rfl rfl), (xi4 140 rfl rfl)⟩
theorem c_Mo_150 : xLV (xGG X) "EpochLedgerModel" "EpochLedgerModel" 150 m_Mo_waits 2 ∨ xLVN (xGG X) "EpochLedgerModel" "EpochLedgerModel" 150 m_Mo_waits 2 := Or.inl ⟨y_Mo_waits, (xi4 142 rfl rfl), (xi4 144 rfl rfl), (xis 23 rfl rfl)⟩
theorem c_Lw_35 : xLV (xGG X) "EpochLedgerLaw" "EpochLedgerModel" 35 m_Mo_run 2 ∨ xLVN (xGG X) "EpochLedgerLaw" "EpochLedgerModel" 35 m_Mo_run 2 := Or.inl ⟨y_Mo_run, (xi4 146 rfl rfl), (xi4 147 rfl rfl), (xi4 148 rfl rfl)⟩
theorem c_Mo_182 : xLV (xGG X) "EpochLedgerModel" "EpochLedgerModel" 182 m_Mo_reach 2 ∨ xLVN (xGG X) "EpochLedgerModel" "EpochLedgerModel" 182 m_Mo_reach 2 := Or.inl ⟨y_Mo_reach, (xi4 150 rfl rfl), (xi4 152 rfl rfl), (xis 24 rfl rfl)⟩
theorem c_Mo_157 : xLV (xGG X) "EpochLedgerModel" "EpochLedgerModel" 157 m_Mo_value 5 ∨ xLVN (xGG X) "EpochLedgerModel" "EpochLedgerModel" 157 m_Mo_value 5 := Or.inl ⟨y_Mo_value, (xi4 154 rfl rfl), (xi4 156 rfl rfl), (xis 25 rfl rfl)⟩
theorem c_Mo_175 : xLS (xGG X) "EpochLedgerModel" 175 m_Mo_witness 3 ∨ xLSN (xGG X) "EpochLedgerModel" 175 m_Mo_witness 3 := Or.inl ⟨y_Mo_witness, (xi4 158 rfl rfl), (xi4 159 rfl rfl)⟩
theorem c_Mo_178 : xLS (xGG X) "EpochLedgerModel" 178 m_Mo_right 3 ∨ xLSN (xGG X) "EpochLedgerModel" 178 m_Mo_right 3 := Or.inl ⟨y_Mo_right, (xi4 161 rfl rfl), (xi4 162 rfl rfl)⟩
theorem c_Mo_161 : xLV (xGG X) "EpochLedgerModel" "EpochLedgerModel" 161 m_Mo_answer 4 ∨ xLVN (xGG X) "EpochLedgerModel" "EpochLedgerModel" 161 m_Mo_answer 4 := Or.inl ⟨y_Mo_answer, (xi4 164 rfl rfl), (xi4 166 rfl rfl), (xis 26 rfl rfl)⟩
theorem c_Mo_171 : xLV (xGG X) "EpochLedgerModel" "EpochLedgerModel" 171 m_Mo_settle 1 ∨ xLVN (xGG X) "EpochLedgerModel" "EpochLedgerModel" 171 m_Mo_settle 1 := Or.inl ⟨y_Mo_settle, (xi4 168 rfl rfl), (xi4 170 rfl rfl), (xis 27 rfl rfl)⟩
theorem c_Mo_196 : xLV (xGG X) "EpochLedgerModel" "EpochLedgerModel" 196 m_Mo_rule 2 ∨ xLVN (xGG X) "EpochLedgerModel" "EpochLedgerModel" 196 m_Mo_rule 2 := Or.inl ⟨y_Mo_rule, (xi4 172 rfl rfl), (xi4 174 rfl rfl), (xis 28 rfl rfl)⟩
theorem c_Mo_189 : xLV (xGG X) "EpochLedgerModel" "EpochLedgerModel" 189 m_Mo_post 7 ∨ xLVN (xGG X) "EpochLedgerModel" "EpochLedgerModel" 189 m_Mo_post 7 := Or.inl ⟨y_Mo_post, (xi4 176 rfl rfl), (xi4 178 rfl rfl), (xis 29 rfl rfl)⟩
theorem c_Mo_202 : xLV (xGG X) "EpochLedgerModel" "EpochLedgerModel" 202 m_Mo_ready 4 ∨ xLVN (xGG X) "EpochLedgerModel" "EpochLedgerModel" 202 m_Mo_ready 4 := Or.inl ⟨y_Mo_ready, (xi4 180 rfl rfl), (xi4 182 rfl rfl), (xis 30 rfl rfl)⟩
theorem c_Mo_220 : xLV (xGG X) "EpochLedgerModel" "EpochLedgerModel" 220 m_Mo_echoes 2 ∨ xLVN (xGG X) "EpochLedgerModel" "EpochLedgerModel" 220 m_Mo_echoes 2 := Or.inl ⟨y_Mo_echoes, (xi4 184 rfl rfl), (xi4 186 rfl rfl), (xis 31 rfl rfl)⟩
theorem c_Mo_223 : xLV (xGG X) "EpochLedgerModel" "EpochLedgerModel" 223 m_Mo_makes 2 ∨ xLVN (xGG X) "EpochLedgerModel" "EpochLedgerModel" 223 m_Mo_makes 2 := Or.inl ⟨y_Mo_makes, (xi4 188 rfl rfl), (xi4 190 rfl rfl), (xis 32 rfl rfl)⟩
theorem c_Mo_213 : xLS (xGG X) "EpochLedgerModel" 213 m_Mo_solve 4 ∨ xLSN (xGG X) "EpochLedgerModel" 213 m_Mo_solve 4 := Or.inl ⟨y_Mo_solve, (xi4 192 rfl rfl), (xi4 193 rfl rfl)⟩
theorem c_Mo_226 : xLV (xGG X) "EpochLedgerModel" "EpochLedgerModel" 226 m_Mo_readies 2 ∨ xLVN (xGG X) "EpochLedgerModel" "EpochLedgerModel" 226 m_Mo_readies 2 := Or.inl ⟨y_Mo_readies, (xi4 195 rfl rfl), (xi4 197 rfl rfl), (xis 33 rfl rfl)⟩
theorem c_Mo_206 : xLV (xGG X) "EpochLedgerModel" "EpochLedgerModel" 206 m_Mo_proposal 2 ∨ xLVN (xGG X) "EpochLedgerModel" "EpochLedgerModel" 206 m_Mo_proposal 2 := Or.inl ⟨y_Mo_proposal, (xi4 199 rfl rfl), (xi4 201 rfl rfl), (xis 34 rfl rfl)⟩
theorem c_Mo_209 : xLV (xGG X) "EpochLedgerModel" "EpochLedgerModel" 209 m_Mo_agree 5 ∨ xLVN (xGG X) "EpochLedgerModel" "EpochLedgerModel" 209 m_Mo_agree 5 := Or.inl ⟨y_Mo_agree, (xi4 203 rfl rfl), (xi4 205 rfl rfl), (xis 35 rfl rfl)⟩
theorem c_Mo_229 : xLV (xGG X) "EpochLedgerModel" "EpochLedgerModel" 229 m_Mo_vote 6 ∨ xLVN (xGG X) "EpochLedgerModel" "EpochLedgerModel" 229 m_Mo_vote 6 := Or.inl ⟨y_Mo_vote, (xi4 207 rfl rfl), (xi4 209 rfl rfl), (xis 36 rfl rfl)⟩
theorem c_Mo_233 : xLV (xGG X) "EpochLedgerModel" "EpochLedgerModel" 233 m_Mo_voters 2 ∨ xLVN (xGG X) "EpochLedgerModel" "EpochLedgerModel" 233 m_Mo_voters 2 := Or.inl ⟨y_Mo_voters, (xi4 211 rfl rfl), (xi4 213 rfl rfl), (xis 37 rfl rfl)⟩
theorem c_Mo_236 : xLV (xGG X) "EpochLedgerModel" "EpochLedgerModel" 236 m_Mo_finish 4 ∨ xLVN (xGG X) "EpochLedgerModel" "EpochLedgerModel" 236 m_Mo_finish 4 := Or.inl ⟨y_Mo_finish, (xi4 215 rfl rfl), (xi4 217 rfl rfl), (xis 38 rfl rfl)⟩
theorem c_Mo_199 : xLV (xGG X) "EpochLedgerModel" "EpochLedgerModel" 199 m_Mo_look 1 ∨ xLVN (xGG X) "EpochLedgerModel" "EpochLedgerModel" 199 m_Mo_look 1 := Or.inl ⟨y_Mo_look, (xi4 219 rfl rfl), (xi4 221 rfl rfl), (xis 39 rfl rfl)⟩
theorem c_Mo_239 : xLV (xGG X) "EpochLedgerModel" "EpochLedgerModel" 239 m_Mo_commit 1 ∨ xLVN (xGG X) "EpochLedgerModel" "EpochLedgerModel" 239 m_Mo_commit 1 := Or.inl ⟨y_Mo_commit, (xi4 223 rfl rfl), (xi4 225 rfl rfl), (xis 40 rfl rfl)⟩
theorem c_Mo_242 : xLV (xGG X) "EpochLedgerModel" "EpochLedgerModel" 242 m_Mo_unqueue 2 ∨ xLVN (xGG X) "EpochLedgerModel" "EpochLedgerModel" 242 m_Mo_unqueue 2 := Or.inl ⟨y_Mo_unqueue, (xi4 227 rfl rfl), (xi4 229 rfl rfl), (xis 41 rfl rfl)⟩
theorem c_Mo_193 : xLV (xGG X) "EpochLedgerModel" "EpochLedgerModel" 193 m_Mo_enter 2 ∨ xLVN (xGG X) "EpochLedgerModel" "EpochLedgerModel" 193 m_Mo_enter 2 := Or.inl ⟨y_Mo_enter, (xi4 231 rfl rfl), (xi4 233 rfl rfl), (xis 42 rfl rfl)⟩
theorem c_Lw_39 : xLV (xGG X) "EpochLedgerLaw" "EpochLedgerModel" 39 m_Mo_deliver 2 ∨ xLVN (xGG X) "EpochLedgerLaw" "EpochLedgerModel" 39 m_Mo_deliver 2 := Or.inl ⟨y_Mo_deliver, (xi4 235 rfl rfl), (xi4 236 rfl rfl), (xi4 237 rfl rfl)⟩
theorem c_Lw_44 : xLV (xGG X) "EpochLedgerLaw" "EpochLedgerModel" 44 m_Mo_betray 0 ∨ xLVN (xGG X) "EpochLedgerLaw" "EpochLedgerModel" 44 m_Mo_betray 0 := Or.inl ⟨y_Mo_betray, (xi4 239 rfl rfl), (xi5 0 rfl rfl), (xi5 1 rfl rfl)⟩
theorem c_Lw_49 : xLV (xGG X) "EpochLedgerLaw" "EpochLedgerModel" 49 m_Mo_speak 6 ∨ xLVN (xGG X) "EpochLedgerLaw" "EpochLedgerModel" 49 m_Mo_speak 6 := Or.inl ⟨y_Mo_speak, (xi5 3 rfl rfl), (xi5 4 rfl rfl), (xi5 5 rfl rfl)⟩
theorem c_Lw_30 : xLV (xGG X) "EpochLedgerLaw" "EpochLedgerModel" 30 m_Mo_begin 1 ∨ xLVN (xGG X) "EpochLedgerLaw" "EpochLedgerModel" 30 m_Mo_begin 1 := Or.inl ⟨y_Mo_begin, (xi5 7 rfl rfl), (xi5 8 rfl rfl), (xi5 9 rfl rfl)⟩
theorem c_Lw_54 : xLV (xGG X) "EpochLedgerLaw" "EpochLedgerModel" 54 m_Mo_epoch 1 ∨ xLVN (xGG X) "EpochLedgerLaw" "EpochLedgerModel" 54 m_Mo_epoch 1 := Or.inl ⟨y_Mo_epoch, (xi5 11 rfl rfl), (xi5 12 rfl rfl), (xi5 13 rfl rfl)⟩
theorem c_Lw_58 : xLV (xGG X) "EpochLedgerLaw" "EpochLedgerModel" 58 m_Mo_ledger 2 ∨ xLVN (xGG X) "EpochLedgerLaw" "EpochLedgerModel" 58 m_Mo_ledger 2 := Or.inl ⟨y_Mo_ledger, (xi5 15 rfl rfl), (xi5 16 rfl rfl), (xi5 17 rfl rfl)⟩
theorem c_Lw_62 : xLV (xGG X) "EpochLedgerLaw" "EpochLedgerModel" 62 m_Mo_queue 2 ∨ xLVN (xGG X) "EpochLedgerLaw" "EpochLedgerModel" 62 m_Mo_queue 2 := Or.inl ⟨y_Mo_queue, (xi5 19 rfl rfl), (xi5 20 rfl rfl), (xi5 21 rfl rfl)⟩
theorem c_Lw_71 : xLV (xGG X) "EpochLedgerLaw" "EpochLedgerModel" 71 m_Mo_instance 3 ∨ xLVN (xGG X) "EpochLedgerLaw" "EpochLedgerModel" 71 m_Mo_instance 3 := Or.inl ⟨y_Mo_instance, (xi5 23 rfl rfl), (xi5 24 rfl rfl), (xi5 25 rfl rfl)⟩
theorem z_Lw : Cond.initialized "EpochLedgerLaw" ∈ xws (xGG X) := xi1 0 rfl rfl
theorem z_El : Cond.initialized "EpochLedger" ∈ xws (xGG X) := xi1 1 rfl rfl
theorem z_Nt : Cond.initialized "EpochLedger$Network" ∈ xws (xGG X) := xi1 2 rfl rfl
theorem z_In : Cond.initialized "EpochLedger$Inbox" ∈ xws (xGG X) := xi1 3 rfl rfl
theorem z_Ac : Cond.initialized "java/util/AbstractCollection" ∈ xws (xGG X) := xi1 4 rfl rfl
theorem z_Ab : Cond.initialized "java/util/AbstractList" ∈ xws (xGG X) := xi1 5 rfl rfl
theorem z_Al : Cond.initialized "java/util/ArrayList" ∈ xws (xGG X) := xi1 6 rfl rfl
theorem z_Nd : Cond.initialized "EpochLedger$Node" ∈ xws (xGG X) := xi1 7 rfl rfl
theorem z_Rw : Cond.initialized "EpochLedger$Row" ∈ xws (xGG X) := xi1 8 rfl rfl
theorem z_Bc : Cond.initialized "EpochLedger$Broadcast" ∈ xws (xGG X) := xi1 9 rfl rfl
theorem z_Rt : Cond.initialized "EpochLedger$Roots" ∈ xws (xGG X) := xi1 10 rfl rfl
theorem z_Ag : Cond.initialized "EpochLedger$Agreement" ∈ xws (xGG X) := xi1 11 rfl rfl
theorem z_Mo : Cond.initialized "EpochLedgerModel" ∈ xws (xGG X) := xi1 12 rfl rfl
theorem z_Co : Cond.initialized "EpochLedger$Coding" ∈ xws (xGG X) := xi1 13 rfl rfl
theorem z_Ms : Cond.initialized "EpochLedger$Message" ∈ xws (xGG X) := xi1 14 rfl rfl
theorem z_As : Cond.initialized "jdk/internal/util/ArraysSupport" ∈ xws (xGG X) := xi1 15 rfl rfl
theorem z_Ma : Cond.initialized "java/lang/Math" ∈ xws (xGG X) := xi1 16 rfl rfl
theorem z_Ar : Cond.initialized "java/util/Arrays" ∈ xws (xGG X) := xi1 17 rfl rfl
theorem z_Sy : Cond.initialized "java/lang/System" ∈ xws (xGG X) := xi1 18 rfl rfl
theorem z_It : Cond.initialized "java/lang/Integer" ∈ xws (xGG X) := xi1 19 rfl rfl
theorem z_Os : Cond.initialized "java/util/Objects" ∈ xws (xGG X) := xi1 20 rfl rfl
theorem z_Pr : Cond.initialized "jdk/internal/util/Preconditions" ∈ xws (xGG X) := xi1 21 rfl rfl
theorem q_Lw_7 : Cond.classLink "EpochLedgerLaw" 7 "EpochLedger" ∈ xws (xGG X) := xi1 22 rfl rfl
theorem i_El : Cond.instantiable "EpochLedger" 4 ∈ xws (xGG X) := xi1 23 rfl rfl
theorem o_El_3 : Cond.methodLink "EpochLedger" 3 Lib.objectInit ∈ xws (xGG X) := xi1 27 rfl rfl
theorem o_inst : Cond.instanceMethod Lib.objectInit ∈ xws (xGG X) := xi1 28 rfl rfl
theorem o_code : Cond.code Lib.objectInit ⟨#[0xb1]⟩ 1 none ∈ xws (xGG X) := xi1 29 rfl rfl
theorem k_El_9 : Cond.constant "EpochLedger" 9 (668265263) ∈ xws (xGG X) := xi1 30 rfl rfl
theorem q_El_14 : Cond.classLink "EpochLedger" 14 "EpochLedger$Network" ∈ xws (xGG X) := xi1 31 rfl rfl
theorem i_Nt : Cond.instantiable "EpochLedger$Network" 1 ∈ xws (xGG X) := xi1 32 rfl rfl
theorem o_Nt_3 : Cond.methodLink "EpochLedger$Network" 3 Lib.objectInit ∈ xws (xGG X) := xi1 36 rfl rfl
theorem q_Nt_9 : Cond.classLink "EpochLedger$Network" 9 "EpochLedger$Inbox" ∈ xws (xGG X) := xi1 37 rfl rfl
theorem a_In : Cond.arrayOver (.object "EpochLedger$Inbox") ∈ xnw (xGG X) := xj1 38 rfl rfl
theorem i_In : Cond.instantiable "EpochLedger$Inbox" 1 ∈ xws (xGG X) := xi1 39 rfl rfl
theorem o_In_1 : Cond.methodLink "EpochLedger$Inbox" 1 Lib.objectInit ∈ xws (xGG X) := xi1 43 rfl rfl
theorem q_In_7 : Cond.classLink "EpochLedger$Inbox" 7 "java/util/ArrayList" ∈ xws (xGG X) := xi1 44 rfl rfl
theorem i_Al : Cond.instantiable "java/util/ArrayList" 3 ∈ xws (xGG X) := xi1 45 rfl rfl
theorem o_Ac_1 : Cond.methodLink "java/util/AbstractCollection" 1 Lib.objectInit ∈ xws (xGG X) := xi1 55 rfl rfl
theorem q_El_21 : Cond.classLink "EpochLedger" 21 "EpochLedger$Node" ∈ xws (xGG X) := xi1 79 rfl rfl
theorem a_Nd : Cond.arrayOver (.object "EpochLedger$Node") ∈ xnw (xGG X) := xj1 80 rfl rfl
theorem i_Nd : Cond.instantiable "EpochLedger$Node" 8 ∈ xws (xGG X) := xi1 81 rfl rfl
theorem o_Nd_3 : Cond.methodLink "EpochLedger$Node" 3 Lib.objectInit ∈ xws (xGG X) := xi1 85 rfl rfl
theorem q_Nd_9 : Cond.classLink "EpochLedger$Node" 9 "EpochLedger$Row" ∈ xws (xGG X) := xi1 86 rfl rfl
theorem i_Rw : Cond.instantiable "EpochLedger$Row" 2 ∈ xws (xGG X) := xi1 87 rfl rfl
theorem o_Rw_3 : Cond.methodLink "EpochLedger$Row" 3 Lib.objectInit ∈ xws (xGG X) := xi1 91 rfl rfl
theorem v_int : Cond.arrayClass .int ∈ xws (xGG X) := xi1 99 rfl rfl
theorem q_Nd_23 : Cond.classLink "EpochLedger$Node" 23 "EpochLedger$Broadcast" ∈ xws (xGG X) := xi1 100 rfl rfl
theorem a_Bc : Cond.arrayOver (.object "EpochLedger$Broadcast") ∈ xnw (xGG X) := xj1 101 rfl rfl
theorem q_Nd_29 : Cond.classLink "EpochLedger$Node" 29 "EpochLedger$Agreement" ∈ xws (xGG X) := xi1 102 rfl rfl
theorem a_Ag : Cond.arrayOver (.object "EpochLedger$Agreement") ∈ xnw (xGG X) := xj1 103 rfl rfl
theorem i_Bc : Cond.instantiable "EpochLedger$Broadcast" 13 ∈ xws (xGG X) := xi1 104 rfl rfl
theorem o_Bc_3 : Cond.methodLink "EpochLedger$Broadcast" 3 Lib.objectInit ∈ xws (xGG X) := xi1 108 rfl rfl
theorem q_Bc_9 : Cond.classLink "EpochLedger$Broadcast" 9 "EpochLedger$Roots" ∈ xws (xGG X) := xi1 109 rfl rfl
theorem i_Rt : Cond.instantiable "EpochLedger$Roots" 2 ∈ xws (xGG X) := xi1 110 rfl rfl
theorem o_Rt_3 : Cond.methodLink "EpochLedger$Roots" 3 Lib.objectInit ∈ xws (xGG X) := xi1 114 rfl rfl
theorem i_Ag : Cond.instantiable "EpochLedger$Agreement" 14 ∈ xws (xGG X) := xi1 165 rfl rfl
theorem o_Ag_3 : Cond.methodLink "EpochLedger$Agreement" 3 Lib.objectInit ∈ xws (xGG X) := xi1 169 rfl rfl
theorem k_Co_7 : Cond.constant "EpochLedger$Coding" 7 (40503) ∈ xws (xGG X) := xi2 77 rfl rfl
theorem k_Co_8 : Cond.constant "EpochLedger$Coding" 8 (65535) ∈ xws (xGG X) := xi2 78 rfl rfl
theorem k_Co_9 : Cond.constant "EpochLedger$Coding" 9 (65536) ∈ xws (xGG X) := xi2 85 rfl rfl
theorem k_Co_10 : Cond.constant "EpochLedger$Coding" 10 (-1640531527) ∈ xws (xGG X) := xi2 86 rfl rfl
theorem q_Nd_75 : Cond.classLink "EpochLedger$Node" 75 "EpochLedger$Message" ∈ xws (xGG X) := xi2 93 rfl rfl
theorem i_Ms : Cond.instantiable "EpochLedger$Message" 6 ∈ xws (xGG X) := xi2 94 rfl rfl
theorem o_Ms_1 : Cond.methodLink "EpochLedger$Message" 1 Lib.objectInit ∈ xws (xGG X) := xi2 98 rfl rfl
theorem k_As_200 : Cond.constant "jdk/internal/util/ArraysSupport" 200 (2147483639) ∈ xws (xGG X) := xi2 156 rfl rfl
theorem q_Ar_110 : Cond.classLink "java/util/Arrays" 110 "[Ljava/lang/Object;" ∈ xws (xGG X) := xi2 181 rfl rfl
theorem a_Ob : Cond.arrayOver (.object "java/lang/Object") ∈ xnw (xGG X) := xj2 182 rfl rfl
theorem q_Ar_2 : Cond.classLink "java/util/Arrays" 2 "java/lang/Object" ∈ xws (xGG X) := xi2 183 rfl rfl
theorem q_Al_7 : Cond.classLink "java/util/ArrayList" 7 "java/lang/Object" ∈ xws (xGG X) := xi2 191 rfl rfl
theorem q_Bc_43 : Cond.classLink "EpochLedger$Broadcast" 43 "EpochLedger$Message" ∈ xws (xGG X) := xi2 212 rfl rfl
theorem k_It_265 : Cond.constant "java/lang/Integer" 265 (1431655765) ∈ xws (xGG X) := xi2 237 rfl rfl
theorem k_It_266 : Cond.constant "java/lang/Integer" 266 (858993459) ∈ xws (xGG X) := xi2 238 rfl rfl
theorem k_It_267 : Cond.constant "java/lang/Integer" 267 (252645135) ∈ xws (xGG X) := xi2 239 rfl rfl
theorem q_Ag_45 : Cond.classLink "EpochLedger$Agreement" 45 "EpochLedger$Message" ∈ xws (xGG X) := xi3 37 rfl rfl
theorem q_Nt_36 : Cond.classLink "EpochLedger$Network" 36 "EpochLedger$Message" ∈ xws (xGG X) := xi3 116 rfl rfl
theorem q_El_58 : Cond.classLink "EpochLedger" 58 "EpochLedger$Message" ∈ xws (xGG X) := xi3 163 rfl rfl
theorem q_Lw_18 : Cond.classLink "EpochLedgerLaw" 18 "EpochLedgerModel" ∈ xws (xGG X) := xi3 211 rfl rfl
theorem i_Mo : Cond.instantiable "EpochLedgerModel" 37 ∈ xws (xGG X) := xi3 212 rfl rfl
theorem o_Mo_1 : Cond.methodLink "EpochLedgerModel" 1 Lib.objectInit ∈ xws (xGG X) := xi3 216 rfl rfl
theorem k_Mo_101 : Cond.constant "EpochLedgerModel" 101 (668265263) ∈ xws (xGG X) := xi3 217 rfl rfl
theorem v_bool : Cond.arrayClass .boolean ∈ xws (xGG X) := xi4 90 rfl rfl
theorem k_Mo_110 : Cond.constantLong "EpochLedgerModel" 110 (256) ∈ xws (xGG X) := xi4 110 rfl rfl
theorem k_Mo_112 : Cond.constantLong "EpochLedgerModel" 112 (40503) ∈ xws (xGG X) := xi4 111 rfl rfl
theorem k_Mo_114 : Cond.constantLong "EpochLedgerModel" 114 (977) ∈ xws (xGG X) := xi4 112 rfl rfl
theorem k_Mo_116 : Cond.constantLong "EpochLedgerModel" 116 (65536) ∈ xws (xGG X) := xi4 113 rfl rfl
theorem k_Mo_118 : Cond.constant "EpochLedgerModel" 118 (65536) ∈ xws (xGG X) := xi4 117 rfl rfl
theorem k_Mo_119 : Cond.constant "EpochLedgerModel" 119 (-1640531527) ∈ xws (xGG X) := xi4 118 rfl rfl
theorem b_Ms_Ms : Cond.castable "EpochLedger$Message" "EpochLedger$Message" ∈ xnw (xGG X) := xj5 27 rfl rfl
theorem b_El_Ob : Cond.castable "EpochLedger" "java/lang/Object" ∈ xnw (xGG X) := xj5 31 rfl rfl
theorem b_Nt_Ob : Cond.castable "EpochLedger$Network" "java/lang/Object" ∈ xnw (xGG X) := xj5 32 rfl rfl
theorem b_In_Ob : Cond.castable "EpochLedger$Inbox" "java/lang/Object" ∈ xnw (xGG X) := xj5 33 rfl rfl
theorem b_Nd_Ob : Cond.castable "EpochLedger$Node" "java/lang/Object" ∈ xnw (xGG X) := xj5 34 rfl rfl
theorem b_Rw_Ob : Cond.castable "EpochLedger$Row" "java/lang/Object" ∈ xnw (xGG X) := xj5 35 rfl rfl
theorem b_Bc_Ob : Cond.castable "EpochLedger$Broadcast" "java/lang/Object" ∈ xnw (xGG X) := xj5 36 rfl rfl
theorem b_Rt_Ob : Cond.castable "EpochLedger$Roots" "java/lang/Object" ∈ xnw (xGG X) := xj5 37 rfl rfl
theorem b_Ag_Ob : Cond.castable "EpochLedger$Agreement" "java/lang/Object" ∈ xnw (xGG X) := xj5 38 rfl rfl
theorem b_Mo_Ob : Cond.castable "EpochLedgerModel" "java/lang/Object" ∈ xnw (xGG X) := xj5 39 rfl rfl
theorem b_Ms_Ob : Cond.castable "EpochLedger$Message" "java/lang/Object" ∈ xnw (xGG X) := xj5 40 rfl rfl
end XL
end
section
theorem d_El_init_0 : decode m_El_init.2.1 0 = .ok (.aload_n 0, 1) := by decide +kernel
theorem d_El_init_1 : decode m_El_init.2.1 1 = .ok (.invokespecial 3, 3) := by decide +kernel
theorem d_El_init_4 : decode m_El_init.2.1 4 = .ok (.iload_n 1, 1) := by decide +kernel
theorem d_El_init_5 : decode m_El_init.2.1 5 = .ok (.ldc 9, 2) := by decide +kernel
theorem d_El_init_7 : decode m_El_init.2.1 7 = .ok (.imul, 1) := by decide +kernel
theorem d_El_init_8 : decode m_El_init.2.1 8 = .ok (.istore_n 2, 1) := by decide +kernel
theorem d_El_init_9 : decode m_El_init.2.1 9 = .ok (.aload_n 0, 1) := by decide +kernel
theorem d_El_init_10 : decode m_El_init.2.1 10 = .ok (.iload_n 2, 1) := by decide +kernel
theorem d_El_init_11 : decode m_El_init.2.1 11 = .ok (.iload_n 2, 1) := by decide +kernel
theorem d_El_init_12 : decode m_El_init.2.1 12 = .ok (.bipush 15, 2) := by decide +kernel
theorem d_El_init_14 : decode m_El_init.2.1 14 = .ok (.iushr, 1) := by decide +kernel
theorem d_El_init_15 : decode m_El_init.2.1 15 = .ok (.ixor, 1) := by decide +kernel
theorem d_El_init_16 : decode m_El_init.2.1 16 = .ok (.putfield 10, 3) := by decide +kernel
theorem d_El_init_19 : decode m_El_init.2.1 19 = .ok (.aload_n 0, 1) := by decide +kernel
theorem d_El_init_20 : decode m_El_init.2.1 20 = .ok (.new 14, 3) := by decide +kernel
theorem d_El_init_23 : decode m_El_init.2.1 23 = .ok (.dup, 1) := by decide +kernel
theorem d_El_init_24 : decode m_El_init.2.1 24 = .ok (.invokespecial 16, 3) := by decide +kernel
theorem d_El_init_27 : decode m_El_init.2.1 27 = .ok (.putfield 17, 3) := by decide +kernel
theorem d_El_init_30 : decode m_El_init.2.1 30 = .ok (.aload_n 0, 1) := by decide +kernel
theorem d_El_init_31 : decode m_El_init.2.1 31 = .ok (.iconst 4, 1) := by decide +kernel
theorem d_El_init_32 : decode m_El_init.2.1 32 = .ok (.anewarray 21, 3) := by decide +kernel
theorem d_El_init_35 : decode m_El_init.2.1 35 = .ok (.putfield 23, 3) := by decide +kernel
theorem d_El_init_38 : decode m_El_init.2.1 38 = .ok (.iconst 0, 1) := by decide +kernel
theorem d_El_init_39 : decode m_El_init.2.1 39 = .ok (.istore_n 3, 1) := by decide +kernel
theorem d_El_init_40 : decode m_El_init.2.1 40 = .ok (.iload_n 3, 1) := by decide +kernel
theorem d_El_init_41 : decode m_El_init.2.1 41 = .ok (.iconst 4, 1) := by decide +kernel
theorem d_El_init_42 : decode m_El_init.2.1 42 = .ok (.if_icmp .ge 31, 3) := by decide +kernel
theorem d_El_init_45 : decode m_El_init.2.1 45 = .ok (.aload_n 0, 1) := by decide +kernel
theorem d_El_init_46 : decode m_El_init.2.1 46 = .ok (.getfield 23, 3) := by decide +kernel
theorem d_El_init_49 : decode m_El_init.2.1 49 = .ok (.iload_n 3, 1) := by decide +kernel
theorem d_El_init_50 : decode m_El_init.2.1 50 = .ok (.new 21, 3) := by decide +kernel
theorem d_El_init_53 : decode m_El_init.2.1 53 = .ok (.dup, 1) := by decide +kernel
theorem d_El_init_54 : decode m_El_init.2.1 54 = .ok (.iload_n 3, 1) := by decide +kernel
theorem d_El_init_55 : decode m_El_init.2.1 55 = .ok (.aload_n 0, 1) := by decide +kernel
theorem d_El_init_56 : decode m_El_init.2.1 56 = .ok (.getfield 17, 3) := by decide +kernel
theorem d_El_init_59 : decode m_El_init.2.1 59 = .ok (.aload_n 0, 1) := by decide +kernel
theorem d_El_init_60 : decode m_El_init.2.1 60 = .ok (.getfield 10, 3) := by decide +kernel
theorem d_El_init_63 : decode m_El_init.2.1 63 = .ok (.invokespecial 27, 3) := by decide +kernel
theorem d_El_init_66 : decode m_El_init.2.1 66 = .ok (.aastore, 1) := by decide +kernel
theorem d_El_init_67 : decode m_El_init.2.1 67 = .ok (.iinc 3 1, 3) := by decide +kernel
theorem d_El_init_70 : decode m_El_init.2.1 70 = .ok (.goto (-30), 3) := by decide +kernel
theorem d_El_init_73 : decode m_El_init.2.1 73 = .ok (.return_, 1) := by decide +kernel
theorem d_Ob_init_0 : decode m_Ob_init.2.1 0 = .ok (.return_, 1) := by decide +kernel
theorem d_Nt_init_0 : decode m_Nt_init.2.1 0 = .ok (.aload_n 0, 1) := by decide +kernel
theorem d_Nt_init_1 : decode m_Nt_init.2.1 1 = .ok (.invokespecial 3, 3) := by decide +kernel
theorem d_Nt_init_4 : decode m_Nt_init.2.1 4 = .ok (.aload_n 0, 1) := by decide +kernel
theorem d_Nt_init_5 : decode m_Nt_init.2.1 5 = .ok (.iconst 4, 1) := by decide +kernel
theorem d_Nt_init_6 : decode m_Nt_init.2.1 6 = .ok (.anewarray 9, 3) := by decide +kernel
theorem d_Nt_init_9 : decode m_Nt_init.2.1 9 = .ok (.putfield 11, 3) := by decide +kernel
theorem d_Nt_init_12 : decode m_Nt_init.2.1 12 = .ok (.iconst 0, 1) := by decide +kernel
theorem d_Nt_init_13 : decode m_Nt_init.2.1 13 = .ok (.istore_n 1, 1) := by decide +kernel
theorem d_Nt_init_14 : decode m_Nt_init.2.1 14 = .ok (.iload_n 1, 1) := by decide +kernel
theorem d_Nt_init_15 : decode m_Nt_init.2.1 15 = .ok (.iconst 4, 1) := by decide +kernel
theorem d_Nt_init_16 : decode m_Nt_init.2.1 16 = .ok (.if_icmp .ge 22, 3) := by decide +kernel
theorem d_Nt_init_19 : decode m_Nt_init.2.1 19 = .ok (.aload_n 0, 1) := by decide +kernel
theorem d_Nt_init_20 : decode m_Nt_init.2.1 20 = .ok (.getfield 11, 3) := by decide +kernel
theorem d_Nt_init_23 : decode m_Nt_init.2.1 23 = .ok (.iload_n 1, 1) := by decide +kernel
theorem d_Nt_init_24 : decode m_Nt_init.2.1 24 = .ok (.new 9, 3) := by decide +kernel
theorem d_Nt_init_27 : decode m_Nt_init.2.1 27 = .ok (.dup, 1) := by decide +kernel
theorem d_Nt_init_28 : decode m_Nt_init.2.1 28 = .ok (.invokespecial 17, 3) := by decide +kernel
theorem d_Nt_init_31 : decode m_Nt_init.2.1 31 = .ok (.aastore, 1) := by decide +kernel
theorem d_Nt_init_32 : decode m_Nt_init.2.1 32 = .ok (.iinc 1 1, 3) := by decide +kernel
theorem d_Nt_init_35 : decode m_Nt_init.2.1 35 = .ok (.goto (-21), 3) := by decide +kernel
theorem d_Nt_init_38 : decode m_Nt_init.2.1 38 = .ok (.return_, 1) := by decide +kernel
theorem d_In_init_0 : decode m_In_init.2.1 0 = .ok (.aload_n 0, 1) := by decide +kernel
theorem d_In_init_1 : decode m_In_init.2.1 1 = .ok (.invokespecial 1, 3) := by decide +kernel
theorem d_In_init_4 : decode m_In_init.2.1 4 = .ok (.aload_n 0, 1) := by decide +kernel
theorem d_In_init_5 : decode m_In_init.2.1 5 = .ok (.new 7, 3) := by decide +kernel
theorem d_In_init_8 : decode m_In_init.2.1 8 = .ok (.dup, 1) := by decide +kernel
theorem d_In_init_9 : decode m_In_init.2.1 9 = .ok (.invokespecial 9, 3) := by decide +kernel
theorem d_In_init_12 : decode m_In_init.2.1 12 = .ok (.putfield 10, 3) := by decide +kernel
theorem d_In_init_15 : decode m_In_init.2.1 15 = .ok (.return_, 1) := by decide +kernel
theorem d_Al_init_0 : decode m_Al_init.2.1 0 = .ok (.aload_n 0, 1) := by decide +kernel
theorem d_Al_init_1 : decode m_Al_init.2.1 1 = .ok (.invokespecial 1, 3) := by decide +kernel
theorem d_Al_init_4 : decode m_Al_init.2.1 4 = .ok (.aload_n 0, 1) := by decide +kernel
theorem d_Al_init_5 : decode m_Al_init.2.1 5 = .ok (.getstatic 39, 3) := by decide +kernel
theorem d_Al_init_8 : decode m_Al_init.2.1 8 = .ok (.putfield 9, 3) := by decide +kernel
theorem d_Al_init_11 : decode m_Al_init.2.1 11 = .ok (.return_, 1) := by decide +kernel
theorem d_Ab_init_0 : decode m_Ab_init.2.1 0 = .ok (.aload_n 0, 1) := by decide +kernel
theorem d_Ab_init_1 : decode m_Ab_init.2.1 1 = .ok (.invokespecial 1, 3) := by decide +kernel
theorem d_Ab_init_4 : decode m_Ab_init.2.1 4 = .ok (.aload_n 0, 1) := by decide +kernel
theorem d_Ab_init_5 : decode m_Ab_init.2.1 5 = .ok (.iconst 0, 1) := by decide +kernel
theorem d_Ab_init_6 : decode m_Ab_init.2.1 6 = .ok (.putfield 7, 3) := by decide +kernel
theorem d_Ab_init_9 : decode m_Ab_init.2.1 9 = .ok (.return_, 1) := by decide +kernel
theorem d_Ac_init_0 : decode m_Ac_init.2.1 0 = .ok (.aload_n 0, 1) := by decide +kernel
theorem d_Ac_init_1 : decode m_Ac_init.2.1 1 = .ok (.invokespecial 1, 3) := by decide +kernel
theorem d_Ac_init_4 : decode m_Ac_init.2.1 4 = .ok (.return_, 1) := by decide +kernel
theorem d_Nd_init_0 : decode m_Nd_init.2.1 0 = .ok (.aload_n 0, 1) := by decide +kernel
theorem d_Nd_init_1 : decode m_Nd_init.2.1 1 = .ok (.invokespecial 3, 3) := by decide +kernel
theorem d_Nd_init_4 : decode m_Nd_init.2.1 4 = .ok (.aload_n 0, 1) := by decide +kernel
theorem d_Nd_init_5 : decode m_Nd_init.2.1 5 = .ok (.new 9, 3) := by decide +kernel
theorem d_Nd_init_8 : decode m_Nd_init.2.1 8 = .ok (.dup, 1) := by decide +kernel
theorem d_Nd_init_9 : decode m_Nd_init.2.1 9 = .ok (.bipush 12, 2) := by decide +kernel
theorem d_Nd_init_11 : decode m_Nd_init.2.1 11 = .ok (.invokespecial 11, 3) := by decide +kernel
theorem d_Nd_init_14 : decode m_Nd_init.2.1 14 = .ok (.putfield 14, 3) := by decide +kernel
theorem d_Nd_init_17 : decode m_Nd_init.2.1 17 = .ok (.aload_n 0, 1) := by decide +kernel
theorem d_Nd_init_18 : decode m_Nd_init.2.1 18 = .ok (.new 9, 3) := by decide +kernel
theorem d_Nd_init_21 : decode m_Nd_init.2.1 21 = .ok (.dup, 1) := by decide +kernel
theorem d_Nd_init_22 : decode m_Nd_init.2.1 22 = .ok (.bipush 32, 2) := by decide +kernel
theorem d_Nd_init_24 : decode m_Nd_init.2.1 24 = .ok (.invokespecial 11, 3) := by decide +kernel
theorem d_Nd_init_27 : decode m_Nd_init.2.1 27 = .ok (.putfield 20, 3) := by decide +kernel
theorem d_Nd_init_30 : decode m_Nd_init.2.1 30 = .ok (.aload_n 0, 1) := by decide +kernel
theorem d_Nd_init_31 : decode m_Nd_init.2.1 31 = .ok (.bipush 16, 2) := by decide +kernel
theorem d_Nd_init_33 : decode m_Nd_init.2.1 33 = .ok (.anewarray 23, 3) := by decide +kernel
theorem d_Nd_init_36 : decode m_Nd_init.2.1 36 = .ok (.putfield 25, 3) := by decide +kernel
theorem d_Nd_init_39 : decode m_Nd_init.2.1 39 = .ok (.aload_n 0, 1) := by decide +kernel
theorem d_Nd_init_40 : decode m_Nd_init.2.1 40 = .ok (.bipush 16, 2) := by decide +kernel
theorem d_Nd_init_42 : decode m_Nd_init.2.1 42 = .ok (.anewarray 29, 3) := by decide +kernel
theorem d_Nd_init_45 : decode m_Nd_init.2.1 45 = .ok (.putfield 31, 3) := by decide +kernel
theorem d_Nd_init_48 : decode m_Nd_init.2.1 48 = .ok (.aload_n 0, 1) := by decide +kernel
theorem d_Nd_init_49 : decode m_Nd_init.2.1 49 = .ok (.iconst (-1), 1) := by decide +kernel
theorem d_Nd_init_50 : decode m_Nd_init.2.1 50 = .ok (.putfield 35, 3) := by decide +kernel
theorem d_Nd_init_53 : decode m_Nd_init.2.1 53 = .ok (.aload_n 0, 1) := by decide +kernel
theorem d_Nd_init_54 : decode m_Nd_init.2.1 54 = .ok (.iload_n 1, 1) := by decide +kernel
theorem d_Nd_init_55 : decode m_Nd_init.2.1 55 = .ok (.putfield 39, 3) := by decide +kernel
theorem d_Nd_init_58 : decode m_Nd_init.2.1 58 = .ok (.aload_n 0, 1) := by decide +kernel
theorem d_Nd_init_59 : decode m_Nd_init.2.1 59 = .ok (.aload_n 2, 1) := by decide +kernel
theorem d_Nd_init_60 : decode m_Nd_init.2.1 60 = .ok (.putfield 42, 3) := by decide +kernel
theorem d_Nd_init_63 : decode m_Nd_init.2.1 63 = .ok (.iconst 0, 1) := by decide +kernel
theorem d_Nd_init_64 : decode m_Nd_init.2.1 64 = .ok (.istore 4, 2) := by decide +kernel
theorem d_Nd_init_66 : decode m_Nd_init.2.1 66 = .ok (.iload 4, 2) := by decide +kernel
theorem d_Nd_init_68 : decode m_Nd_init.2.1 68 = .ok (.bipush 16, 2) := by decide +kernel
theorem d_Nd_init_70 : decode m_Nd_init.2.1 70 = .ok (.if_icmp .ge 58, 3) := by decide +kernel
theorem d_Nd_init_73 : decode m_Nd_init.2.1 73 = .ok (.aload_n 0, 1) := by decide +kernel
theorem d_Nd_init_74 : decode m_Nd_init.2.1 74 = .ok (.getfield 25, 3) := by decide +kernel
theorem d_Nd_init_77 : decode m_Nd_init.2.1 77 = .ok (.iload 4, 2) := by decide +kernel
theorem d_Nd_init_79 : decode m_Nd_init.2.1 79 = .ok (.new 23, 3) := by decide +kernel
theorem d_Nd_init_82 : decode m_Nd_init.2.1 82 = .ok (.dup, 1) := by decide +kernel
theorem d_Nd_init_83 : decode m_Nd_init.2.1 83 = .ok (.aload_n 2, 1) := by decide +kernel
theorem d_Nd_init_84 : decode m_Nd_init.2.1 84 = .ok (.iload_n 1, 1) := by decide +kernel
theorem d_Nd_init_85 : decode m_Nd_init.2.1 85 = .ok (.iload 4, 2) := by decide +kernel
theorem d_Nd_init_87 : decode m_Nd_init.2.1 87 = .ok (.iconst 4, 1) := by decide +kernel
theorem d_Nd_init_88 : decode m_Nd_init.2.1 88 = .ok (.idiv, 1) := by decide +kernel
theorem d_Nd_init_89 : decode m_Nd_init.2.1 89 = .ok (.iload 4, 2) := by decide +kernel
theorem d_Nd_init_91 : decode m_Nd_init.2.1 91 = .ok (.iconst 4, 1) := by decide +kernel
theorem d_Nd_init_92 : decode m_Nd_init.2.1 92 = .ok (.irem, 1) := by decide +kernel
theorem d_Nd_init_93 : decode m_Nd_init.2.1 93 = .ok (.invokespecial 46, 3) := by decide +kernel
theorem d_Nd_init_96 : decode m_Nd_init.2.1 96 = .ok (.aastore, 1) := by decide +kernel
theorem d_Nd_init_97 : decode m_Nd_init.2.1 97 = .ok (.aload_n 0, 1) := by decide +kernel
theorem d_Nd_init_98 : decode m_Nd_init.2.1 98 = .ok (.getfield 31, 3) := by decide +kernel
theorem d_Nd_init_101 : decode m_Nd_init.2.1 101 = .ok (.iload 4, 2) := by decide +kernel
theorem d_Nd_init_103 : decode m_Nd_init.2.1 103 = .ok (.new 29, 3) := by decide +kernel
theorem d_Nd_init_106 : decode m_Nd_init.2.1 106 = .ok (.dup, 1) := by decide +kernel
theorem d_Nd_init_107 : decode m_Nd_init.2.1 107 = .ok (.aload_n 2, 1) := by decide +kernel
theorem d_Nd_init_108 : decode m_Nd_init.2.1 108 = .ok (.iload_n 1, 1) := by decide +kernel
theorem d_Nd_init_109 : decode m_Nd_init.2.1 109 = .ok (.iload 4, 2) := by decide +kernel
theorem d_Nd_init_111 : decode m_Nd_init.2.1 111 = .ok (.iconst 4, 1) := by decide +kernel
theorem d_Nd_init_112 : decode m_Nd_init.2.1 112 = .ok (.idiv, 1) := by decide +kernel
theorem d_Nd_init_113 : decode m_Nd_init.2.1 113 = .ok (.iload 4, 2) := by decide +kernel
theorem d_Nd_init_115 : decode m_Nd_init.2.1 115 = .ok (.iconst 4, 1) := by decide +kernel
theorem d_Nd_init_116 : decode m_Nd_init.2.1 116 = .ok (.irem, 1) := by decide +kernel
theorem d_Nd_init_117 : decode m_Nd_init.2.1 117 = .ok (.iload_n 3, 1) := by decide +kernel
theorem d_Nd_init_118 : decode m_Nd_init.2.1 118 = .ok (.invokespecial 49, 3) := by decide +kernel
theorem d_Nd_init_121 : decode m_Nd_init.2.1 121 = .ok (.aastore, 1) := by decide +kernel
theorem d_Nd_init_122 : decode m_Nd_init.2.1 122 = .ok (.iinc 4 1, 3) := by decide +kernel
theorem d_Nd_init_125 : decode m_Nd_init.2.1 125 = .ok (.goto (-59), 3) := by decide +kernel
theorem d_Nd_init_128 : decode m_Nd_init.2.1 128 = .ok (.return_, 1) := by decide +kernel
theorem d_Rw_init_0 : decode m_Rw_init.2.1 0 = .ok (.aload_n 0, 1) := by decide +kernel
theorem d_Rw_init_1 : decode m_Rw_init.2.1 1 = .ok (.invokespecial 3, 3) := by decide +kernel
theorem d_Rw_init_4 : decode m_Rw_init.2.1 4 = .ok (.aload_n 0, 1) := by decide +kernel
theorem d_Rw_init_5 : decode m_Rw_init.2.1 5 = .ok (.iload_n 1, 1) := by decide +kernel
theorem d_Rw_init_6 : decode m_Rw_init.2.1 6 = .ok (.newarray .int, 2) := by decide +kernel
theorem d_Rw_init_8 : decode m_Rw_init.2.1 8 = .ok (.putfield 9, 3) := by decide +kernel
theorem d_Rw_init_11 : decode m_Rw_init.2.1 11 = .ok (.return_, 1) := by decide +kernel
theorem d_Bc_init_0 : decode m_Bc_init.2.1 0 = .ok (.aload_n 0, 1) := by decide +kernel
theorem d_Bc_init_1 : decode m_Bc_init.2.1 1 = .ok (.invokespecial 3, 3) := by decide +kernel
theorem d_Bc_init_4 : decode m_Bc_init.2.1 4 = .ok (.aload_n 0, 1) := by decide +kernel
theorem d_Bc_init_5 : decode m_Bc_init.2.1 5 = .ok (.new 9, 3) := by decide +kernel
theorem d_Bc_init_8 : decode m_Bc_init.2.1 8 = .ok (.dup, 1) := by decide +kernel
theorem d_Bc_init_9 : decode m_Bc_init.2.1 9 = .ok (.invokespecial 11, 3) := by decide +kernel
theorem d_Bc_init_12 : decode m_Bc_init.2.1 12 = .ok (.putfield 12, 3) := by decide +kernel
theorem d_Bc_init_15 : decode m_Bc_init.2.1 15 = .ok (.aload_n 0, 1) := by decide +kernel
theorem d_Bc_init_16 : decode m_Bc_init.2.1 16 = .ok (.iconst 4, 1) := by decide +kernel
theorem d_Bc_init_17 : decode m_Bc_init.2.1 17 = .ok (.newarray .int, 2) := by decide +kernel
theorem d_Bc_init_19 : decode m_Bc_init.2.1 19 = .ok (.putfield 18, 3) := by decide +kernel
theorem d_Bc_init_22 : decode m_Bc_init.2.1 22 = .ok (.aload_n 0, 1) := by decide +kernel
theorem d_Bc_init_23 : decode m_Bc_init.2.1 23 = .ok (.new 9, 3) := by decide +kernel
theorem d_Bc_init_26 : decode m_Bc_init.2.1 26 = .ok (.dup, 1) := by decide +kernel
theorem d_Bc_init_27 : decode m_Bc_init.2.1 27 = .ok (.invokespecial 11, 3) := by decide +kernel
theorem d_Bc_init_30 : decode m_Bc_init.2.1 30 = .ok (.putfield 22, 3) := by decide +kernel
theorem d_Bc_init_33 : decode m_Bc_init.2.1 33 = .ok (.aload_n 0, 1) := by decide +kernel
theorem d_Bc_init_34 : decode m_Bc_init.2.1 34 = .ok (.iconst (-1), 1) := by decide +kernel
theorem d_Bc_init_35 : decode m_Bc_init.2.1 35 = .ok (.putfield 25, 3) := by decide +kernel
theorem d_Bc_init_38 : decode m_Bc_init.2.1 38 = .ok (.aload_n 0, 1) := by decide +kernel
theorem d_Bc_init_39 : decode m_Bc_init.2.1 39 = .ok (.aload_n 1, 1) := by decide +kernel
theorem d_Bc_init_40 : decode m_Bc_init.2.1 40 = .ok (.putfield 29, 3) := by decide +kernel
theorem d_Bc_init_43 : decode m_Bc_init.2.1 43 = .ok (.aload_n 0, 1) := by decide +kernel
theorem d_Bc_init_44 : decode m_Bc_init.2.1 44 = .ok (.iload_n 2, 1) := by decide +kernel
theorem d_Bc_init_45 : decode m_Bc_init.2.1 45 = .ok (.putfield 33, 3) := by decide +kernel
theorem d_Bc_init_48 : decode m_Bc_init.2.1 48 = .ok (.aload_n 0, 1) := by decide +kernel
theorem d_Bc_init_49 : decode m_Bc_init.2.1 49 = .ok (.iload_n 3, 1) := by decide +kernel
theorem d_Bc_init_50 : decode m_Bc_init.2.1 50 = .ok (.putfield 36, 3) := by decide +kernel
theorem d_Bc_init_53 : decode m_Bc_init.2.1 53 = .ok (.aload_n 0, 1) := by decide +kernel
theorem d_Bc_init_54 : decode m_Bc_init.2.1 54 = .ok (.iload 4, 2) := by decide +kernel
theorem d_Bc_init_56 : decode m_Bc_init.2.1 56 = .ok (.putfield 39, 3) := by decide +kernel
theorem d_Bc_init_59 : decode m_Bc_init.2.1 59 = .ok (.return_, 1) := by decide +kernel
theorem d_Rt_init_0 : decode m_Rt_init.2.1 0 = .ok (.aload_n 0, 1) := by decide +kernel
theorem d_Rt_init_1 : decode m_Rt_init.2.1 1 = .ok (.invokespecial 3, 3) := by decide +kernel
theorem d_Rt_init_4 : decode m_Rt_init.2.1 4 = .ok (.aload_n 0, 1) := by decide +kernel
theorem d_Rt_init_5 : decode m_Rt_init.2.1 5 = .ok (.iconst 4, 1) := by decide +kernel
theorem d_Rt_init_6 : decode m_Rt_init.2.1 6 = .ok (.newarray .int, 2) := by decide +kernel
theorem d_Rt_init_8 : decode m_Rt_init.2.1 8 = .ok (.putfield 9, 3) := by decide +kernel
theorem d_Rt_init_11 : decode m_Rt_init.2.1 11 = .ok (.return_, 1) := by decide +kernel
theorem d_Ag_init_0 : decode m_Ag_init.2.1 0 = .ok (.aload_n 0, 1) := by decide +kernel
theorem d_Ag_init_1 : decode m_Ag_init.2.1 1 = .ok (.invokespecial 3, 3) := by decide +kernel
theorem d_Ag_init_4 : decode m_Ag_init.2.1 4 = .ok (.aload_n 0, 1) := by decide +kernel
theorem d_Ag_init_5 : decode m_Ag_init.2.1 5 = .ok (.bipush 12, 2) := by decide +kernel
theorem d_Ag_init_7 : decode m_Ag_init.2.1 7 = .ok (.newarray .int, 2) := by decide +kernel
theorem d_Ag_init_9 : decode m_Ag_init.2.1 9 = .ok (.putfield 9, 3) := by decide +kernel
theorem d_Ag_init_12 : decode m_Ag_init.2.1 12 = .ok (.aload_n 0, 1) := by decide +kernel
theorem d_Ag_init_13 : decode m_Ag_init.2.1 13 = .ok (.bipush 12, 2) := by decide +kernel
theorem d_Ag_init_15 : decode m_Ag_init.2.1 15 = .ok (.newarray .int, 2) := by decide +kernel
theorem d_Ag_init_17 : decode m_Ag_init.2.1 17 = .ok (.putfield 15, 3) := by decide +kernel
theorem d_Ag_init_20 : decode m_Ag_init.2.1 20 = .ok (.aload_n 0, 1) := by decide +kernel
theorem d_Ag_init_21 : decode m_Ag_init.2.1 21 = .ok (.iconst (-1), 1) := by decide +kernel
theorem d_Ag_init_22 : decode m_Ag_init.2.1 22 = .ok (.putfield 18, 3) := by decide +kernel
theorem d_Ag_init_25 : decode m_Ag_init.2.1 25 = .ok (.aload_n 0, 1) := by decide +kernel
theorem d_Ag_init_26 : decode m_Ag_init.2.1 26 = .ok (.iconst (-1), 1) := by decide +kernel
theorem d_Ag_init_27 : decode m_Ag_init.2.1 27 = .ok (.putfield 22, 3) := by decide +kernel
theorem d_Ag_init_30 : decode m_Ag_init.2.1 30 = .ok (.aload_n 0, 1) := by decide +kernel
theorem d_Ag_init_31 : decode m_Ag_init.2.1 31 = .ok (.iconst (-1), 1) := by decide +kernel
theorem d_Ag_init_32 : decode m_Ag_init.2.1 32 = .ok (.putfield 25, 3) := by decide +kernel
theorem d_Ag_init_35 : decode m_Ag_init.2.1 35 = .ok (.aload_n 0, 1) := by decide +kernel
theorem d_Ag_init_36 : decode m_Ag_init.2.1 36 = .ok (.aload_n 1, 1) := by decide +kernel
theorem d_Ag_init_37 : decode m_Ag_init.2.1 37 = .ok (.putfield 28, 3) := by decide +kernel
theorem d_Ag_init_40 : decode m_Ag_init.2.1 40 = .ok (.aload_n 0, 1) := by decide +kernel
theorem d_Ag_init_41 : decode m_Ag_init.2.1 41 = .ok (.iload_n 2, 1) := by decide +kernel
theorem d_Ag_init_42 : decode m_Ag_init.2.1 42 = .ok (.putfield 32, 3) := by decide +kernel
theorem d_Ag_init_45 : decode m_Ag_init.2.1 45 = .ok (.aload_n 0, 1) := by decide +kernel
theorem d_Ag_init_46 : decode m_Ag_init.2.1 46 = .ok (.iload_n 3, 1) := by decide +kernel
theorem d_Ag_init_47 : decode m_Ag_init.2.1 47 = .ok (.putfield 35, 3) := by decide +kernel
theorem d_Ag_init_50 : decode m_Ag_init.2.1 50 = .ok (.aload_n 0, 1) := by decide +kernel
theorem d_Ag_init_51 : decode m_Ag_init.2.1 51 = .ok (.iload 4, 2) := by decide +kernel
theorem d_Ag_init_53 : decode m_Ag_init.2.1 53 = .ok (.putfield 38, 3) := by decide +kernel
theorem d_Ag_init_56 : decode m_Ag_init.2.1 56 = .ok (.aload_n 0, 1) := by decide +kernel
theorem d_Ag_init_57 : decode m_Ag_init.2.1 57 = .ok (.iload 5, 2) := by decide +kernel
theorem d_Ag_init_59 : decode m_Ag_init.2.1 59 = .ok (.putfield 41, 3) := by decide +kernel
theorem d_Ag_init_62 : decode m_Ag_init.2.1 62 = .ok (.return_, 1) := by decide +kernel
theorem d_El_submit_0 : decode m_El_submit.2.1 0 = .ok (.iload_n 1, 1) := by decide +kernel
theorem d_El_submit_1 : decode m_El_submit.2.1 1 = .ok (.invokestatic 30, 3) := by decide +kernel
theorem d_El_submit_4 : decode m_El_submit.2.1 4 = .ok (.ifCond .eq 31, 3) := by decide +kernel
theorem d_El_submit_7 : decode m_El_submit.2.1 7 = .ok (.iload_n 2, 1) := by decide +kernel
theorem d_El_submit_8 : decode m_El_submit.2.1 8 = .ok (.iconst 1, 1) := by decide +kernel
theorem d_El_submit_9 : decode m_El_submit.2.1 9 = .ok (.sipush 255, 3) := by decide +kernel
theorem d_El_submit_12 : decode m_El_submit.2.1 12 = .ok (.invokestatic 34, 3) := by decide +kernel
theorem d_El_submit_15 : decode m_El_submit.2.1 15 = .ok (.ifCond .eq 20, 3) := by decide +kernel
theorem d_El_submit_18 : decode m_El_submit.2.1 18 = .ok (.aload_n 0, 1) := by decide +kernel
theorem d_El_submit_19 : decode m_El_submit.2.1 19 = .ok (.getfield 23, 3) := by decide +kernel
theorem d_El_submit_22 : decode m_El_submit.2.1 22 = .ok (.iload_n 1, 1) := by decide +kernel
theorem d_El_submit_23 : decode m_El_submit.2.1 23 = .ok (.aaload, 1) := by decide +kernel
theorem d_El_submit_24 : decode m_El_submit.2.1 24 = .ok (.iload_n 2, 1) := by decide +kernel
theorem d_El_submit_25 : decode m_El_submit.2.1 25 = .ok (.invokevirtual 38, 3) := by decide +kernel
theorem d_El_submit_28 : decode m_El_submit.2.1 28 = .ok (.ifCond .eq 7, 3) := by decide +kernel
theorem d_El_submit_31 : decode m_El_submit.2.1 31 = .ok (.iconst 1, 1) := by decide +kernel
theorem d_El_submit_32 : decode m_El_submit.2.1 32 = .ok (.goto 4, 3) := by decide +kernel
theorem d_El_submit_35 : decode m_El_submit.2.1 35 = .ok (.iconst 0, 1) := by decide +kernel
theorem d_El_submit_36 : decode m_El_submit.2.1 36 = .ok (.ireturn, 1) := by decide +kernel
theorem d_El_isNode_0 : decode m_El_isNode.2.1 0 = .ok (.iload_n 0, 1) := by decide +kernel
theorem d_El_isNode_1 : decode m_El_isNode.2.1 1 = .ok (.iconst 0, 1) := by decide +kernel
theorem d_El_isNode_2 : decode m_El_isNode.2.1 2 = .ok (.iconst 3, 1) := by decide +kernel
theorem d_El_isNode_3 : decode m_El_isNode.2.1 3 = .ok (.invokestatic 34, 3) := by decide +kernel
theorem d_El_isNode_6 : decode m_El_isNode.2.1 6 = .ok (.ireturn, 1) := by decide +kernel
theorem d_El_isIn_0 : decode m_El_isIn.2.1 0 = .ok (.iload_n 0, 1) := by decide +kernel
theorem d_El_isIn_1 : decode m_El_isIn.2.1 1 = .ok (.iload_n 1, 1) := by decide +kernel
theorem d_El_isIn_2 : decode m_El_isIn.2.1 2 = .ok (.if_icmp .lt 12, 3) := by decide +kernel
theorem d_El_isIn_5 : decode m_El_isIn.2.1 5 = .ok (.iload_n 0, 1) := by decide +kernel
theorem d_El_isIn_6 : decode m_El_isIn.2.1 6 = .ok (.iload_n 2, 1) := by decide +kernel
theorem d_El_isIn_7 : decode m_El_isIn.2.1 7 = .ok (.if_icmp .gt 7, 3) := by decide +kernel
theorem d_El_isIn_10 : decode m_El_isIn.2.1 10 = .ok (.iconst 1, 1) := by decide +kernel
theorem d_El_isIn_11 : decode m_El_isIn.2.1 11 = .ok (.goto 4, 3) := by decide +kernel
theorem d_El_isIn_14 : decode m_El_isIn.2.1 14 = .ok (.iconst 0, 1) := by decide +kernel
theorem d_El_isIn_15 : decode m_El_isIn.2.1 15 = .ok (.ireturn, 1) := by decide +kernel
theorem d_Nd_accept_0 : decode m_Nd_accept.2.1 0 = .ok (.aload_n 0, 1) := by decide +kernel
theorem d_Nd_accept_1 : decode m_Nd_accept.2.1 1 = .ok (.getfield 14, 3) := by decide +kernel
theorem d_Nd_accept_4 : decode m_Nd_accept.2.1 4 = .ok (.invokevirtual 52, 3) := by decide +kernel
theorem d_Nd_accept_7 : decode m_Nd_accept.2.1 7 = .ok (.ifCond .ne 25, 3) := by decide +kernel
theorem d_Nd_accept_10 : decode m_Nd_accept.2.1 10 = .ok (.aload_n 0, 1) := by decide +kernel
theorem d_Nd_accept_11 : decode m_Nd_accept.2.1 11 = .ok (.getfield 14, 3) := by decide +kernel
theorem d_Nd_accept_14 : decode m_Nd_accept.2.1 14 = .ok (.iload_n 1, 1) := by decide +kernel
theorem d_Nd_accept_15 : decode m_Nd_accept.2.1 15 = .ok (.invokevirtual 56, 3) := by decide +kernel
theorem d_Nd_accept_18 : decode m_Nd_accept.2.1 18 = .ok (.ifCond .ne 14, 3) := by decide +kernel
theorem d_Nd_accept_21 : decode m_Nd_accept.2.1 21 = .ok (.aload_n 0, 1) := by decide +kernel
theorem d_Nd_accept_22 : decode m_Nd_accept.2.1 22 = .ok (.getfield 20, 3) := by decide +kernel
theorem d_Nd_accept_25 : decode m_Nd_accept.2.1 25 = .ok (.iload_n 1, 1) := by decide +kernel
theorem d_Nd_accept_26 : decode m_Nd_accept.2.1 26 = .ok (.invokevirtual 56, 3) := by decide +kernel
theorem d_Nd_accept_29 : decode m_Nd_accept.2.1 29 = .ok (.ifCond .eq 5, 3) := by decide +kernel
theorem d_Nd_accept_32 : decode m_Nd_accept.2.1 32 = .ok (.iconst 0, 1) := by decide +kernel
theorem d_Nd_accept_33 : decode m_Nd_accept.2.1 33 = .ok (.ireturn, 1) := by decide +kernel
theorem d_Nd_accept_34 : decode m_Nd_accept.2.1 34 = .ok (.aload_n 0, 1) := by decide +kernel
theorem d_Nd_accept_35 : decode m_Nd_accept.2.1 35 = .ok (.getfield 14, 3) := by decide +kernel
theorem d_Nd_accept_38 : decode m_Nd_accept.2.1 38 = .ok (.iload_n 1, 1) := by decide +kernel
theorem d_Nd_accept_39 : decode m_Nd_accept.2.1 39 = .ok (.invokevirtual 60, 3) := by decide +kernel
theorem d_Nd_accept_42 : decode m_Nd_accept.2.1 42 = .ok (.iconst 1, 1) := by decide +kernel
theorem d_Nd_accept_43 : decode m_Nd_accept.2.1 43 = .ok (.ireturn, 1) := by decide +kernel
theorem d_Rw_isFull_0 : decode m_Rw_isFull.2.1 0 = .ok (.aload_n 0, 1) := by decide +kernel
theorem d_Rw_isFull_1 : decode m_Rw_isFull.2.1 1 = .ok (.getfield 15, 3) := by decide +kernel
theorem d_Rw_isFull_4 : decode m_Rw_isFull.2.1 4 = .ok (.aload_n 0, 1) := by decide +kernel
theorem d_Rw_isFull_5 : decode m_Rw_isFull.2.1 5 = .ok (.getfield 9, 3) := by decide +kernel
theorem d_Rw_isFull_8 : decode m_Rw_isFull.2.1 8 = .ok (.arraylength, 1) := by decide +kernel
theorem d_Rw_isFull_9 : decode m_Rw_isFull.2.1 9 = .ok (.if_icmp .ne 7, 3) := by decide +kernel
theorem d_Rw_isFull_12 : decode m_Rw_isFull.2.1 12 = .ok (.iconst 1, 1) := by decide +kernel
theorem d_Rw_isFull_13 : decode m_Rw_isFull.2.1 13 = .ok (.goto 4, 3) := by decide +kernel
theorem d_Rw_isFull_16 : decode m_Rw_isFull.2.1 16 = .ok (.iconst 0, 1) := by decide +kernel
theorem d_Rw_isFull_17 : decode m_Rw_isFull.2.1 17 = .ok (.ireturn, 1) := by decide +kernel
theorem d_Rw_has_0 : decode m_Rw_has.2.1 0 = .ok (.iconst 0, 1) := by decide +kernel
theorem d_Rw_has_1 : decode m_Rw_has.2.1 1 = .ok (.istore_n 2, 1) := by decide +kernel
theorem d_Rw_has_2 : decode m_Rw_has.2.1 2 = .ok (.iload_n 2, 1) := by decide +kernel
theorem d_Rw_has_3 : decode m_Rw_has.2.1 3 = .ok (.aload_n 0, 1) := by decide +kernel
theorem d_Rw_has_4 : decode m_Rw_has.2.1 4 = .ok (.getfield 15, 3) := by decide +kernel
theorem d_Rw_has_7 : decode m_Rw_has.2.1 7 = .ok (.if_icmp .ge 21, 3) := by decide +kernel
theorem d_Rw_has_10 : decode m_Rw_has.2.1 10 = .ok (.aload_n 0, 1) := by decide +kernel
theorem d_Rw_has_11 : decode m_Rw_has.2.1 11 = .ok (.getfield 9, 3) := by decide +kernel
theorem d_Rw_has_14 : decode m_Rw_has.2.1 14 = .ok (.iload_n 2, 1) := by decide +kernel
theorem d_Rw_has_15 : decode m_Rw_has.2.1 15 = .ok (.iaload, 1) := by decide +kernel
theorem d_Rw_has_16 : decode m_Rw_has.2.1 16 = .ok (.iload_n 1, 1) := by decide +kernel
theorem d_Rw_has_17 : decode m_Rw_has.2.1 17 = .ok (.if_icmp .ne 5, 3) := by decide +kernel
theorem d_Rw_has_20 : decode m_Rw_has.2.1 20 = .ok (.iconst 1, 1) := by decide +kernel
theorem d_Rw_has_21 : decode m_Rw_has.2.1 21 = .ok (.ireturn, 1) := by decide +kernel
theorem d_Rw_has_22 : decode m_Rw_has.2.1 22 = .ok (.iinc 2 1, 3) := by decide +kernel
theorem d_Rw_has_25 : decode m_Rw_has.2.1 25 = .ok (.goto (-23), 3) := by decide +kernel
theorem d_Rw_has_28 : decode m_Rw_has.2.1 28 = .ok (.iconst 0, 1) := by decide +kernel
theorem d_Rw_has_29 : decode m_Rw_has.2.1 29 = .ok (.ireturn, 1) := by decide +kernel
theorem d_Rw_append_0 : decode m_Rw_append.2.1 0 = .ok (.aload_n 0, 1) := by decide +kernel
theorem d_Rw_append_1 : decode m_Rw_append.2.1 1 = .ok (.invokevirtual 19, 3) := by decide +kernel
theorem d_Rw_append_4 : decode m_Rw_append.2.1 4 = .ok (.ifCond .ne 23, 3) := by decide +kernel
theorem d_Rw_append_7 : decode m_Rw_append.2.1 7 = .ok (.aload_n 0, 1) := by decide +kernel
theorem d_Rw_append_8 : decode m_Rw_append.2.1 8 = .ok (.getfield 9, 3) := by decide +kernel
theorem d_Rw_append_11 : decode m_Rw_append.2.1 11 = .ok (.aload_n 0, 1) := by decide +kernel
theorem d_Rw_append_12 : decode m_Rw_append.2.1 12 = .ok (.getfield 15, 3) := by decide +kernel
theorem d_Rw_append_15 : decode m_Rw_append.2.1 15 = .ok (.iload_n 1, 1) := by decide +kernel
theorem d_Rw_append_16 : decode m_Rw_append.2.1 16 = .ok (.iastore, 1) := by decide +kernel
theorem d_Rw_append_17 : decode m_Rw_append.2.1 17 = .ok (.aload_n 0, 1) := by decide +kernel
theorem d_Rw_append_18 : decode m_Rw_append.2.1 18 = .ok (.dup, 1) := by decide +kernel
theorem d_Rw_append_19 : decode m_Rw_append.2.1 19 = .ok (.getfield 15, 3) := by decide +kernel
theorem d_Rw_append_22 : decode m_Rw_append.2.1 22 = .ok (.iconst 1, 1) := by decide +kernel
theorem d_Rw_append_23 : decode m_Rw_append.2.1 23 = .ok (.iadd, 1) := by decide +kernel
theorem d_Rw_append_24 : decode m_Rw_append.2.1 24 = .ok (.putfield 15, 3) := by decide +kernel
theorem d_Rw_append_27 : decode m_Rw_append.2.1 27 = .ok (.return_, 1) := by decide +kernel
theorem d_El_begin_0 : decode m_El_begin.2.1 0 = .ok (.iload_n 1, 1) := by decide +kernel
theorem d_El_begin_1 : decode m_El_begin.2.1 1 = .ok (.invokestatic 30, 3) := by decide +kernel
theorem d_El_begin_4 : decode m_El_begin.2.1 4 = .ok (.ifCond .eq 19, 3) := by decide +kernel
theorem d_El_begin_7 : decode m_El_begin.2.1 7 = .ok (.aload_n 0, 1) := by decide +kernel
theorem d_El_begin_8 : decode m_El_begin.2.1 8 = .ok (.getfield 23, 3) := by decide +kernel
theorem d_El_begin_11 : decode m_El_begin.2.1 11 = .ok (.iload_n 1, 1) := by decide +kernel
theorem d_El_begin_12 : decode m_El_begin.2.1 12 = .ok (.aaload, 1) := by decide +kernel
theorem d_El_begin_13 : decode m_El_begin.2.1 13 = .ok (.invokevirtual 41, 3) := by decide +kernel
theorem d_El_begin_16 : decode m_El_begin.2.1 16 = .ok (.ifCond .eq 7, 3) := by decide +kernel
theorem d_El_begin_19 : decode m_El_begin.2.1 19 = .ok (.iconst 1, 1) := by decide +kernel
theorem d_El_begin_20 : decode m_El_begin.2.1 20 = .ok (.goto 4, 3) := by decide +kernel
theorem d_El_begin_23 : decode m_El_begin.2.1 23 = .ok (.iconst 0, 1) := by decide +kernel
theorem d_El_begin_24 : decode m_El_begin.2.1 24 = .ok (.ireturn, 1) := by decide +kernel
theorem d_Nd_start_0 : decode m_Nd_start.2.1 0 = .ok (.aload_n 0, 1) := by decide +kernel
theorem d_Nd_start_1 : decode m_Nd_start.2.1 1 = .ok (.getfield 35, 3) := by decide +kernel
theorem d_Nd_start_4 : decode m_Nd_start.2.1 4 = .ok (.iconst (-1), 1) := by decide +kernel
theorem d_Nd_start_5 : decode m_Nd_start.2.1 5 = .ok (.if_icmp .ne 10, 3) := by decide +kernel
theorem d_Nd_start_8 : decode m_Nd_start.2.1 8 = .ok (.aload_n 0, 1) := by decide +kernel
theorem d_Nd_start_9 : decode m_Nd_start.2.1 9 = .ok (.getfield 63, 3) := by decide +kernel
theorem d_Nd_start_12 : decode m_Nd_start.2.1 12 = .ok (.ifCond .eq 5, 3) := by decide +kernel
theorem d_Nd_start_15 : decode m_Nd_start.2.1 15 = .ok (.iconst 0, 1) := by decide +kernel
theorem d_Nd_start_16 : decode m_Nd_start.2.1 16 = .ok (.ireturn, 1) := by decide +kernel
theorem d_Nd_start_17 : decode m_Nd_start.2.1 17 = .ok (.aload_n 0, 1) := by decide +kernel
theorem d_Nd_start_18 : decode m_Nd_start.2.1 18 = .ok (.iconst 0, 1) := by decide +kernel
theorem d_Nd_start_19 : decode m_Nd_start.2.1 19 = .ok (.putfield 35, 3) := by decide +kernel
theorem d_Nd_start_22 : decode m_Nd_start.2.1 22 = .ok (.aload_n 0, 1) := by decide +kernel
theorem d_Nd_start_23 : decode m_Nd_start.2.1 23 = .ok (.invokevirtual 67, 3) := by decide +kernel
theorem d_Nd_start_26 : decode m_Nd_start.2.1 26 = .ok (.aload_n 0, 1) := by decide +kernel
theorem d_Nd_start_27 : decode m_Nd_start.2.1 27 = .ok (.iconst 0, 1) := by decide +kernel
theorem d_Nd_start_28 : decode m_Nd_start.2.1 28 = .ok (.iconst 3, 1) := by decide +kernel
theorem d_Nd_start_29 : decode m_Nd_start.2.1 29 = .ok (.invokevirtual 70, 3) := by decide +kernel
theorem d_Nd_start_32 : decode m_Nd_start.2.1 32 = .ok (.iconst 1, 1) := by decide +kernel
theorem d_Nd_start_33 : decode m_Nd_start.2.1 33 = .ok (.ireturn, 1) := by decide +kernel
theorem d_Nd_propose_0 : decode m_Nd_propose.2.1 0 = .ok (.aload_n 0, 1) := by decide +kernel
theorem d_Nd_propose_1 : decode m_Nd_propose.2.1 1 = .ok (.getfield 14, 3) := by decide +kernel
theorem d_Nd_propose_4 : decode m_Nd_propose.2.1 4 = .ok (.iconst 0, 1) := by decide +kernel
theorem d_Nd_propose_5 : decode m_Nd_propose.2.1 5 = .ok (.iconst 0, 1) := by decide +kernel
theorem d_Nd_propose_6 : decode m_Nd_propose.2.1 6 = .ok (.invokevirtual 88, 3) := by decide +kernel
theorem d_Nd_propose_9 : decode m_Nd_propose.2.1 9 = .ok (.aload_n 0, 1) := by decide +kernel
theorem d_Nd_propose_10 : decode m_Nd_propose.2.1 10 = .ok (.getfield 14, 3) := by decide +kernel
theorem d_Nd_propose_13 : decode m_Nd_propose.2.1 13 = .ok (.iconst 1, 1) := by decide +kernel
theorem d_Nd_propose_14 : decode m_Nd_propose.2.1 14 = .ok (.iconst 0, 1) := by decide +kernel
theorem d_Nd_propose_15 : decode m_Nd_propose.2.1 15 = .ok (.invokevirtual 88, 3) := by decide +kernel
theorem d_Nd_propose_18 : decode m_Nd_propose.2.1 18 = .ok (.invokestatic 92, 3) := by decide +kernel
theorem d_Nd_propose_21 : decode m_Nd_propose.2.1 21 = .ok (.istore_n 1, 1) := by decide +kernel
theorem d_Nd_propose_22 : decode m_Nd_propose.2.1 22 = .ok (.iload_n 1, 1) := by decide +kernel
theorem d_Nd_propose_23 : decode m_Nd_propose.2.1 23 = .ok (.invokestatic 97, 3) := by decide +kernel
theorem d_Nd_propose_26 : decode m_Nd_propose.2.1 26 = .ok (.istore_n 2, 1) := by decide +kernel
theorem d_Nd_propose_27 : decode m_Nd_propose.2.1 27 = .ok (.iconst 0, 1) := by decide +kernel
theorem d_Nd_propose_28 : decode m_Nd_propose.2.1 28 = .ok (.istore_n 3, 1) := by decide +kernel
theorem d_Nd_propose_29 : decode m_Nd_propose.2.1 29 = .ok (.iload_n 3, 1) := by decide +kernel
theorem d_Nd_propose_30 : decode m_Nd_propose.2.1 30 = .ok (.iconst 4, 1) := by decide +kernel
theorem d_Nd_propose_31 : decode m_Nd_propose.2.1 31 = .ok (.if_icmp .ge 47, 3) := by decide +kernel
theorem d_Nd_propose_34 : decode m_Nd_propose.2.1 34 = .ok (.iload_n 1, 1) := by decide +kernel
theorem d_Nd_propose_35 : decode m_Nd_propose.2.1 35 = .ok (.iload_n 3, 1) := by decide +kernel
theorem d_Nd_propose_36 : decode m_Nd_propose.2.1 36 = .ok (.invokestatic 101, 3) := by decide +kernel
theorem d_Nd_propose_39 : decode m_Nd_propose.2.1 39 = .ok (.istore 4, 2) := by decide +kernel
theorem d_Nd_propose_41 : decode m_Nd_propose.2.1 41 = .ok (.aload_n 0, 1) := by decide +kernel
theorem d_Nd_propose_42 : decode m_Nd_propose.2.1 42 = .ok (.getfield 42, 3) := by decide +kernel
theorem d_Nd_propose_45 : decode m_Nd_propose.2.1 45 = .ok (.iload_n 3, 1) := by decide +kernel
theorem d_Nd_propose_46 : decode m_Nd_propose.2.1 46 = .ok (.new 75, 3) := by decide +kernel
theorem d_Nd_propose_49 : decode m_Nd_propose.2.1 49 = .ok (.dup, 1) := by decide +kernel
theorem d_Nd_propose_50 : decode m_Nd_propose.2.1 50 = .ok (.aload_n 0, 1) := by decide +kernel
theorem d_Nd_propose_51 : decode m_Nd_propose.2.1 51 = .ok (.getfield 39, 3) := by decide +kernel
theorem d_Nd_propose_54 : decode m_Nd_propose.2.1 54 = .ok (.aload_n 0, 1) := by decide +kernel
theorem d_Nd_propose_55 : decode m_Nd_propose.2.1 55 = .ok (.getfield 35, 3) := by decide +kernel
theorem d_Nd_propose_58 : decode m_Nd_propose.2.1 58 = .ok (.aload_n 0, 1) := by decide +kernel
theorem d_Nd_propose_59 : decode m_Nd_propose.2.1 59 = .ok (.getfield 39, 3) := by decide +kernel
theorem d_Nd_propose_62 : decode m_Nd_propose.2.1 62 = .ok (.iconst 0, 1) := by decide +kernel
theorem d_Nd_propose_63 : decode m_Nd_propose.2.1 63 = .ok (.iload_n 2, 1) := by decide +kernel
theorem d_Nd_propose_64 : decode m_Nd_propose.2.1 64 = .ok (.iload 4, 2) := by decide +kernel
theorem d_Nd_propose_66 : decode m_Nd_propose.2.1 66 = .ok (.invokespecial 104, 3) := by decide +kernel
theorem d_Nd_propose_69 : decode m_Nd_propose.2.1 69 = .ok (.invokevirtual 107, 3) := by decide +kernel
theorem d_Nd_propose_72 : decode m_Nd_propose.2.1 72 = .ok (.iinc 3 1, 3) := by decide +kernel
theorem d_Nd_propose_75 : decode m_Nd_propose.2.1 75 = .ok (.goto (-46), 3) := by decide +kernel
theorem d_Nd_propose_78 : decode m_Nd_propose.2.1 78 = .ok (.return_, 1) := by decide +kernel
theorem d_Rw_itemOr_0 : decode m_Rw_itemOr.2.1 0 = .ok (.iload_n 1, 1) := by decide +kernel
theorem d_Rw_itemOr_1 : decode m_Rw_itemOr.2.1 1 = .ok (.iconst 0, 1) := by decide +kernel
theorem d_Rw_itemOr_2 : decode m_Rw_itemOr.2.1 2 = .ok (.aload_n 0, 1) := by decide +kernel
theorem d_Rw_itemOr_3 : decode m_Rw_itemOr.2.1 3 = .ok (.getfield 15, 3) := by decide +kernel
theorem d_Rw_itemOr_6 : decode m_Rw_itemOr.2.1 6 = .ok (.iconst 1, 1) := by decide +kernel
theorem d_Rw_itemOr_7 : decode m_Rw_itemOr.2.1 7 = .ok (.isub, 1) := by decide +kernel
theorem d_Rw_itemOr_8 : decode m_Rw_itemOr.2.1 8 = .ok (.invokestatic 23, 3) := by decide +kernel
theorem d_Rw_itemOr_11 : decode m_Rw_itemOr.2.1 11 = .ok (.ifCond .eq 12, 3) := by decide +kernel
theorem d_Rw_itemOr_14 : decode m_Rw_itemOr.2.1 14 = .ok (.aload_n 0, 1) := by decide +kernel
theorem d_Rw_itemOr_15 : decode m_Rw_itemOr.2.1 15 = .ok (.getfield 9, 3) := by decide +kernel
theorem d_Rw_itemOr_18 : decode m_Rw_itemOr.2.1 18 = .ok (.iload_n 1, 1) := by decide +kernel
theorem d_Rw_itemOr_19 : decode m_Rw_itemOr.2.1 19 = .ok (.iaload, 1) := by decide +kernel
theorem d_Rw_itemOr_20 : decode m_Rw_itemOr.2.1 20 = .ok (.goto 4, 3) := by decide +kernel
theorem d_Rw_itemOr_23 : decode m_Rw_itemOr.2.1 23 = .ok (.iload_n 2, 1) := by decide +kernel
theorem d_Rw_itemOr_24 : decode m_Rw_itemOr.2.1 24 = .ok (.ireturn, 1) := by decide +kernel
theorem d_Co_proposal_0 : decode m_Co_proposal.2.1 0 = .ok (.iload_n 0, 1) := by decide +kernel
theorem d_Co_proposal_1 : decode m_Co_proposal.2.1 1 = .ok (.sipush 256, 3) := by decide +kernel
theorem d_Co_proposal_4 : decode m_Co_proposal.2.1 4 = .ok (.iload_n 1, 1) := by decide +kernel
theorem d_Co_proposal_5 : decode m_Co_proposal.2.1 5 = .ok (.imul, 1) := by decide +kernel
theorem d_Co_proposal_6 : decode m_Co_proposal.2.1 6 = .ok (.iadd, 1) := by decide +kernel
theorem d_Co_proposal_7 : decode m_Co_proposal.2.1 7 = .ok (.ireturn, 1) := by decide +kernel
theorem d_Co_rootOf_0 : decode m_Co_rootOf.2.1 0 = .ok (.iload_n 0, 1) := by decide +kernel
theorem d_Co_rootOf_1 : decode m_Co_rootOf.2.1 1 = .ok (.sipush 255, 3) := by decide +kernel
theorem d_Co_rootOf_4 : decode m_Co_rootOf.2.1 4 = .ok (.iand, 1) := by decide +kernel
theorem d_Co_rootOf_5 : decode m_Co_rootOf.2.1 5 = .ok (.istore_n 1, 1) := by decide +kernel
theorem d_Co_rootOf_6 : decode m_Co_rootOf.2.1 6 = .ok (.iload_n 1, 1) := by decide +kernel
theorem d_Co_rootOf_7 : decode m_Co_rootOf.2.1 7 = .ok (.iload_n 0, 1) := by decide +kernel
theorem d_Co_rootOf_8 : decode m_Co_rootOf.2.1 8 = .ok (.bipush 8, 2) := by decide +kernel
theorem d_Co_rootOf_10 : decode m_Co_rootOf.2.1 10 = .ok (.ishr, 1) := by decide +kernel
theorem d_Co_rootOf_11 : decode m_Co_rootOf.2.1 11 = .ok (.sipush 255, 3) := by decide +kernel
theorem d_Co_rootOf_14 : decode m_Co_rootOf.2.1 14 = .ok (.iand, 1) := by decide +kernel
theorem d_Co_rootOf_15 : decode m_Co_rootOf.2.1 15 = .ok (.ixor, 1) := by decide +kernel
theorem d_Co_rootOf_16 : decode m_Co_rootOf.2.1 16 = .ok (.istore_n 2, 1) := by decide +kernel
theorem d_Co_rootOf_17 : decode m_Co_rootOf.2.1 17 = .ok (.iconst 0, 1) := by decide +kernel
theorem d_Co_rootOf_18 : decode m_Co_rootOf.2.1 18 = .ok (.iload_n 1, 1) := by decide +kernel
theorem d_Co_rootOf_19 : decode m_Co_rootOf.2.1 19 = .ok (.invokestatic 17, 3) := by decide +kernel
theorem d_Co_rootOf_22 : decode m_Co_rootOf.2.1 22 = .ok (.iconst 1, 1) := by decide +kernel
theorem d_Co_rootOf_23 : decode m_Co_rootOf.2.1 23 = .ok (.iload_n 1, 1) := by decide +kernel
theorem d_Co_rootOf_24 : decode m_Co_rootOf.2.1 24 = .ok (.iload_n 2, 1) := by decide +kernel
theorem d_Co_rootOf_25 : decode m_Co_rootOf.2.1 25 = .ok (.ixor, 1) := by decide +kernel
theorem d_Co_rootOf_26 : decode m_Co_rootOf.2.1 26 = .ok (.invokestatic 17, 3) := by decide +kernel
theorem d_Co_rootOf_29 : decode m_Co_rootOf.2.1 29 = .ok (.invokestatic 20, 3) := by decide +kernel
theorem d_Co_rootOf_32 : decode m_Co_rootOf.2.1 32 = .ok (.istore_n 3, 1) := by decide +kernel
theorem d_Co_rootOf_33 : decode m_Co_rootOf.2.1 33 = .ok (.iconst 2, 1) := by decide +kernel
theorem d_Co_rootOf_34 : decode m_Co_rootOf.2.1 34 = .ok (.iload_n 1, 1) := by decide +kernel
theorem d_Co_rootOf_35 : decode m_Co_rootOf.2.1 35 = .ok (.iconst 2, 1) := by decide +kernel
theorem d_Co_rootOf_36 : decode m_Co_rootOf.2.1 36 = .ok (.iload_n 2, 1) := by decide +kernel
theorem d_Co_rootOf_37 : decode m_Co_rootOf.2.1 37 = .ok (.invokestatic 11, 3) := by decide +kernel
theorem d_Co_rootOf_40 : decode m_Co_rootOf.2.1 40 = .ok (.ixor, 1) := by decide +kernel
theorem d_Co_rootOf_41 : decode m_Co_rootOf.2.1 41 = .ok (.invokestatic 17, 3) := by decide +kernel
theorem d_Co_rootOf_44 : decode m_Co_rootOf.2.1 44 = .ok (.iconst 3, 1) := by decide +kernel
theorem d_Co_rootOf_45 : decode m_Co_rootOf.2.1 45 = .ok (.iload_n 1, 1) := by decide +kernel
theorem d_Co_rootOf_46 : decode m_Co_rootOf.2.1 46 = .ok (.iconst 3, 1) := by decide +kernel
theorem d_Co_rootOf_47 : decode m_Co_rootOf.2.1 47 = .ok (.iload_n 2, 1) := by decide +kernel
theorem d_Co_rootOf_48 : decode m_Co_rootOf.2.1 48 = .ok (.invokestatic 11, 3) := by decide +kernel
theorem d_Co_rootOf_51 : decode m_Co_rootOf.2.1 51 = .ok (.ixor, 1) := by decide +kernel
theorem d_Co_rootOf_52 : decode m_Co_rootOf.2.1 52 = .ok (.invokestatic 17, 3) := by decide +kernel
theorem d_Co_rootOf_55 : decode m_Co_rootOf.2.1 55 = .ok (.invokestatic 20, 3) := by decide +kernel
theorem d_Co_rootOf_58 : decode m_Co_rootOf.2.1 58 = .ok (.istore 4, 2) := by decide +kernel
theorem d_Co_rootOf_60 : decode m_Co_rootOf.2.1 60 = .ok (.iload_n 3, 1) := by decide +kernel
theorem d_Co_rootOf_61 : decode m_Co_rootOf.2.1 61 = .ok (.iload 4, 2) := by decide +kernel
theorem d_Co_rootOf_63 : decode m_Co_rootOf.2.1 63 = .ok (.invokestatic 23, 3) := by decide +kernel
theorem d_Co_rootOf_66 : decode m_Co_rootOf.2.1 66 = .ok (.ireturn, 1) := by decide +kernel
theorem d_Co_leafOf_0 : decode m_Co_leafOf.2.1 0 = .ok (.iload_n 1, 1) := by decide +kernel
theorem d_Co_leafOf_1 : decode m_Co_leafOf.2.1 1 = .ok (.sipush 167, 3) := by decide +kernel
theorem d_Co_leafOf_4 : decode m_Co_leafOf.2.1 4 = .ok (.imul, 1) := by decide +kernel
theorem d_Co_leafOf_5 : decode m_Co_leafOf.2.1 5 = .ok (.bipush 59, 2) := by decide +kernel
theorem d_Co_leafOf_7 : decode m_Co_leafOf.2.1 7 = .ok (.iload_n 0, 1) := by decide +kernel
theorem d_Co_leafOf_8 : decode m_Co_leafOf.2.1 8 = .ok (.imul, 1) := by decide +kernel
theorem d_Co_leafOf_9 : decode m_Co_leafOf.2.1 9 = .ok (.iadd, 1) := by decide +kernel
theorem d_Co_leafOf_10 : decode m_Co_leafOf.2.1 10 = .ok (.sipush 255, 3) := by decide +kernel
theorem d_Co_leafOf_13 : decode m_Co_leafOf.2.1 13 = .ok (.iand, 1) := by decide +kernel
theorem d_Co_leafOf_14 : decode m_Co_leafOf.2.1 14 = .ok (.ireturn, 1) := by decide +kernel
theorem d_Co_halfOf_0 : decode m_Co_halfOf.2.1 0 = .ok (.sipush 256, 3) := by decide +kernel
theorem d_Co_halfOf_3 : decode m_Co_halfOf.2.1 3 = .ok (.iload_n 0, 1) := by decide +kernel
theorem d_Co_halfOf_4 : decode m_Co_halfOf.2.1 4 = .ok (.imul, 1) := by decide +kernel
theorem d_Co_halfOf_5 : decode m_Co_halfOf.2.1 5 = .ok (.iload_n 1, 1) := by decide +kernel
theorem d_Co_halfOf_6 : decode m_Co_halfOf.2.1 6 = .ok (.iadd, 1) := by decide +kernel
theorem d_Co_halfOf_7 : decode m_Co_halfOf.2.1 7 = .ok (.ldc 7, 2) := by decide +kernel
theorem d_Co_halfOf_9 : decode m_Co_halfOf.2.1 9 = .ok (.imul, 1) := by decide +kernel
theorem d_Co_halfOf_10 : decode m_Co_halfOf.2.1 10 = .ok (.sipush 977, 3) := by decide +kernel
theorem d_Co_halfOf_13 : decode m_Co_halfOf.2.1 13 = .ok (.iadd, 1) := by decide +kernel
theorem d_Co_halfOf_14 : decode m_Co_halfOf.2.1 14 = .ok (.ldc 8, 2) := by decide +kernel
theorem d_Co_halfOf_16 : decode m_Co_halfOf.2.1 16 = .ok (.iand, 1) := by decide +kernel
theorem d_Co_halfOf_17 : decode m_Co_halfOf.2.1 17 = .ok (.ireturn, 1) := by decide +kernel
theorem d_Co_product_0 : decode m_Co_product.2.1 0 = .ok (.iconst 0, 1) := by decide +kernel
theorem d_Co_product_1 : decode m_Co_product.2.1 1 = .ok (.istore_n 2, 1) := by decide +kernel
theorem d_Co_product_2 : decode m_Co_product.2.1 2 = .ok (.iload_n 1, 1) := by decide +kernel
theorem d_Co_product_3 : decode m_Co_product.2.1 3 = .ok (.istore_n 3, 1) := by decide +kernel
theorem d_Co_product_4 : decode m_Co_product.2.1 4 = .ok (.iconst 0, 1) := by decide +kernel
theorem d_Co_product_5 : decode m_Co_product.2.1 5 = .ok (.istore 4, 2) := by decide +kernel
theorem d_Co_product_7 : decode m_Co_product.2.1 7 = .ok (.iload 4, 2) := by decide +kernel
theorem d_Co_product_9 : decode m_Co_product.2.1 9 = .ok (.bipush 8, 2) := by decide +kernel
theorem d_Co_product_11 : decode m_Co_product.2.1 11 = .ok (.if_icmp .ge 46, 3) := by decide +kernel
theorem d_Co_product_14 : decode m_Co_product.2.1 14 = .ok (.iload_n 0, 1) := by decide +kernel
theorem d_Co_product_15 : decode m_Co_product.2.1 15 = .ok (.iload 4, 2) := by decide +kernel
theorem d_Co_product_17 : decode m_Co_product.2.1 17 = .ok (.ishr, 1) := by decide +kernel
theorem d_Co_product_18 : decode m_Co_product.2.1 18 = .ok (.iconst 1, 1) := by decide +kernel
theorem d_Co_product_19 : decode m_Co_product.2.1 19 = .ok (.iand, 1) := by decide +kernel
theorem d_Co_product_20 : decode m_Co_product.2.1 20 = .ok (.iconst 1, 1) := by decide +kernel
theorem d_Co_product_21 : decode m_Co_product.2.1 21 = .ok (.if_icmp .ne 7, 3) := by decide +kernel
theorem d_Co_product_24 : decode m_Co_product.2.1 24 = .ok (.iload_n 2, 1) := by decide +kernel
theorem d_Co_product_25 : decode m_Co_product.2.1 25 = .ok (.iload_n 3, 1) := by decide +kernel
theorem d_Co_product_26 : decode m_Co_product.2.1 26 = .ok (.ixor, 1) := by decide +kernel
theorem d_Co_product_27 : decode m_Co_product.2.1 27 = .ok (.istore_n 2, 1) := by decide +kernel
theorem d_Co_product_28 : decode m_Co_product.2.1 28 = .ok (.iload_n 3, 1) := by decide +kernel
theorem d_Co_product_29 : decode m_Co_product.2.1 29 = .ok (.bipush 127, 2) := by decide +kernel
theorem d_Co_product_31 : decode m_Co_product.2.1 31 = .ok (.if_icmp .le 16, 3) := by decide +kernel
theorem d_Co_product_34 : decode m_Co_product.2.1 34 = .ok (.iload_n 3, 1) := by decide +kernel
theorem d_Co_product_35 : decode m_Co_product.2.1 35 = .ok (.iconst 2, 1) := by decide +kernel
theorem d_Co_product_36 : decode m_Co_product.2.1 36 = .ok (.imul, 1) := by decide +kernel
theorem d_Co_product_37 : decode m_Co_product.2.1 37 = .ok (.bipush 27, 2) := by decide +kernel
theorem d_Co_product_39 : decode m_Co_product.2.1 39 = .ok (.ixor, 1) := by decide +kernel
theorem d_Co_product_40 : decode m_Co_product.2.1 40 = .ok (.sipush 255, 3) := by decide +kernel
theorem d_Co_product_43 : decode m_Co_product.2.1 43 = .ok (.iand, 1) := by decide +kernel
theorem d_Co_product_44 : decode m_Co_product.2.1 44 = .ok (.goto 6, 3) := by decide +kernel
theorem d_Co_product_47 : decode m_Co_product.2.1 47 = .ok (.iload_n 3, 1) := by decide +kernel
theorem d_Co_product_48 : decode m_Co_product.2.1 48 = .ok (.iconst 2, 1) := by decide +kernel
theorem d_Co_product_49 : decode m_Co_product.2.1 49 = .ok (.imul, 1) := by decide +kernel
theorem d_Co_product_50 : decode m_Co_product.2.1 50 = .ok (.istore_n 3, 1) := by decide +kernel
theorem d_Co_product_51 : decode m_Co_product.2.1 51 = .ok (.iinc 4 1, 3) := by decide +kernel
theorem d_Co_product_54 : decode m_Co_product.2.1 54 = .ok (.goto (-47), 3) := by decide +kernel
theorem d_Co_product_57 : decode m_Co_product.2.1 57 = .ok (.iload_n 2, 1) := by decide +kernel
theorem d_Co_product_58 : decode m_Co_product.2.1 58 = .ok (.ireturn, 1) := by decide +kernel
theorem d_Co_topOf_0 : decode m_Co_topOf.2.1 0 = .ok (.ldc 9, 2) := by decide +kernel
theorem d_Co_topOf_2 : decode m_Co_topOf.2.1 2 = .ok (.iload_n 0, 1) := by decide +kernel
theorem d_Co_topOf_3 : decode m_Co_topOf.2.1 3 = .ok (.imul, 1) := by decide +kernel
theorem d_Co_topOf_4 : decode m_Co_topOf.2.1 4 = .ok (.iload_n 1, 1) := by decide +kernel
theorem d_Co_topOf_5 : decode m_Co_topOf.2.1 5 = .ok (.iadd, 1) := by decide +kernel
theorem d_Co_topOf_6 : decode m_Co_topOf.2.1 6 = .ok (.ldc 10, 2) := by decide +kernel
theorem d_Co_topOf_8 : decode m_Co_topOf.2.1 8 = .ok (.imul, 1) := by decide +kernel
theorem d_Co_topOf_9 : decode m_Co_topOf.2.1 9 = .ok (.bipush 7, 2) := by decide +kernel
theorem d_Co_topOf_11 : decode m_Co_topOf.2.1 11 = .ok (.iadd, 1) := by decide +kernel
theorem d_Co_topOf_12 : decode m_Co_topOf.2.1 12 = .ok (.ireturn, 1) := by decide +kernel
theorem d_Co_witnessOf_0 : decode m_Co_witnessOf.2.1 0 = .ok (.iload_n 1, 1) := by decide +kernel
theorem d_Co_witnessOf_1 : decode m_Co_witnessOf.2.1 1 = .ok (.iconst 1, 1) := by decide +kernel
theorem d_Co_witnessOf_2 : decode m_Co_witnessOf.2.1 2 = .ok (.ixor, 1) := by decide +kernel
theorem d_Co_witnessOf_3 : decode m_Co_witnessOf.2.1 3 = .ok (.iload_n 0, 1) := by decide +kernel
theorem d_Co_witnessOf_4 : decode m_Co_witnessOf.2.1 4 = .ok (.iload_n 1, 1) := by decide +kernel
theorem d_Co_witnessOf_5 : decode m_Co_witnessOf.2.1 5 = .ok (.iconst 1, 1) := by decide +kernel
theorem d_Co_witnessOf_6 : decode m_Co_witnessOf.2.1 6 = .ok (.ixor, 1) := by decide +kernel
theorem d_Co_witnessOf_7 : decode m_Co_witnessOf.2.1 7 = .ok (.invokestatic 26, 3) := by decide +kernel
theorem d_Co_witnessOf_10 : decode m_Co_witnessOf.2.1 10 = .ok (.invokestatic 17, 3) := by decide +kernel
theorem d_Co_witnessOf_13 : decode m_Co_witnessOf.2.1 13 = .ok (.istore_n 2, 1) := by decide +kernel
theorem d_Co_witnessOf_14 : decode m_Co_witnessOf.2.1 14 = .ok (.iload_n 1, 1) := by decide +kernel
theorem d_Co_witnessOf_15 : decode m_Co_witnessOf.2.1 15 = .ok (.iconst 2, 1) := by decide +kernel
theorem d_Co_witnessOf_16 : decode m_Co_witnessOf.2.1 16 = .ok (.if_icmp .ge 7, 3) := by decide +kernel
theorem d_Co_witnessOf_19 : decode m_Co_witnessOf.2.1 19 = .ok (.iconst 2, 1) := by decide +kernel
theorem d_Co_witnessOf_20 : decode m_Co_witnessOf.2.1 20 = .ok (.goto 4, 3) := by decide +kernel
theorem d_Co_witnessOf_23 : decode m_Co_witnessOf.2.1 23 = .ok (.iconst 0, 1) := by decide +kernel
theorem d_Co_witnessOf_24 : decode m_Co_witnessOf.2.1 24 = .ok (.istore_n 3, 1) := by decide +kernel
theorem d_Co_witnessOf_25 : decode m_Co_witnessOf.2.1 25 = .ok (.iload_n 3, 1) := by decide +kernel
theorem d_Co_witnessOf_26 : decode m_Co_witnessOf.2.1 26 = .ok (.iload_n 0, 1) := by decide +kernel
theorem d_Co_witnessOf_27 : decode m_Co_witnessOf.2.1 27 = .ok (.iload_n 3, 1) := by decide +kernel
theorem d_Co_witnessOf_28 : decode m_Co_witnessOf.2.1 28 = .ok (.invokestatic 26, 3) := by decide +kernel
theorem d_Co_witnessOf_31 : decode m_Co_witnessOf.2.1 31 = .ok (.invokestatic 17, 3) := by decide +kernel
theorem d_Co_witnessOf_34 : decode m_Co_witnessOf.2.1 34 = .ok (.iload_n 3, 1) := by decide +kernel
theorem d_Co_witnessOf_35 : decode m_Co_witnessOf.2.1 35 = .ok (.iconst 1, 1) := by decide +kernel
theorem d_Co_witnessOf_36 : decode m_Co_witnessOf.2.1 36 = .ok (.iadd, 1) := by decide +kernel
theorem d_Co_witnessOf_37 : decode m_Co_witnessOf.2.1 37 = .ok (.iload_n 0, 1) := by decide +kernel
theorem d_Co_witnessOf_38 : decode m_Co_witnessOf.2.1 38 = .ok (.iload_n 3, 1) := by decide +kernel
theorem d_Co_witnessOf_39 : decode m_Co_witnessOf.2.1 39 = .ok (.iconst 1, 1) := by decide +kernel
theorem d_Co_witnessOf_40 : decode m_Co_witnessOf.2.1 40 = .ok (.iadd, 1) := by decide +kernel
theorem d_Co_witnessOf_41 : decode m_Co_witnessOf.2.1 41 = .ok (.invokestatic 26, 3) := by decide +kernel
theorem d_Co_witnessOf_44 : decode m_Co_witnessOf.2.1 44 = .ok (.invokestatic 17, 3) := by decide +kernel
theorem d_Co_witnessOf_47 : decode m_Co_witnessOf.2.1 47 = .ok (.invokestatic 20, 3) := by decide +kernel
theorem d_Co_witnessOf_50 : decode m_Co_witnessOf.2.1 50 = .ok (.istore 4, 2) := by decide +kernel
theorem d_Co_witnessOf_52 : decode m_Co_witnessOf.2.1 52 = .ok (.iload_n 0, 1) := by decide +kernel
theorem d_Co_witnessOf_53 : decode m_Co_witnessOf.2.1 53 = .ok (.iload_n 1, 1) := by decide +kernel
theorem d_Co_witnessOf_54 : decode m_Co_witnessOf.2.1 54 = .ok (.invokestatic 26, 3) := by decide +kernel
theorem d_Co_witnessOf_57 : decode m_Co_witnessOf.2.1 57 = .ok (.sipush 256, 3) := by decide +kernel
theorem d_Co_witnessOf_60 : decode m_Co_witnessOf.2.1 60 = .ok (.iload_n 2, 1) := by decide +kernel
theorem d_Co_witnessOf_61 : decode m_Co_witnessOf.2.1 61 = .ok (.imul, 1) := by decide +kernel
theorem d_Co_witnessOf_62 : decode m_Co_witnessOf.2.1 62 = .ok (.iadd, 1) := by decide +kernel
theorem d_Co_witnessOf_63 : decode m_Co_witnessOf.2.1 63 = .ok (.ldc 9, 2) := by decide +kernel
theorem d_Co_witnessOf_65 : decode m_Co_witnessOf.2.1 65 = .ok (.iload 4, 2) := by decide +kernel
theorem d_Co_witnessOf_67 : decode m_Co_witnessOf.2.1 67 = .ok (.imul, 1) := by decide +kernel
theorem d_Co_witnessOf_68 : decode m_Co_witnessOf.2.1 68 = .ok (.iadd, 1) := by decide +kernel
theorem d_Co_witnessOf_69 : decode m_Co_witnessOf.2.1 69 = .ok (.ireturn, 1) := by decide +kernel
theorem d_Co_partOf_0 : decode m_Co_partOf.2.1 0 = .ok (.iload_n 0, 1) := by decide +kernel
theorem d_Co_partOf_1 : decode m_Co_partOf.2.1 1 = .ok (.sipush 255, 3) := by decide +kernel
theorem d_Co_partOf_4 : decode m_Co_partOf.2.1 4 = .ok (.iand, 1) := by decide +kernel
theorem d_Co_partOf_5 : decode m_Co_partOf.2.1 5 = .ok (.istore_n 2, 1) := by decide +kernel
theorem d_Co_partOf_6 : decode m_Co_partOf.2.1 6 = .ok (.iload_n 0, 1) := by decide +kernel
theorem d_Co_partOf_7 : decode m_Co_partOf.2.1 7 = .ok (.bipush 8, 2) := by decide +kernel
theorem d_Co_partOf_9 : decode m_Co_partOf.2.1 9 = .ok (.ishr, 1) := by decide +kernel
theorem d_Co_partOf_10 : decode m_Co_partOf.2.1 10 = .ok (.sipush 255, 3) := by decide +kernel
theorem d_Co_partOf_13 : decode m_Co_partOf.2.1 13 = .ok (.iand, 1) := by decide +kernel
theorem d_Co_partOf_14 : decode m_Co_partOf.2.1 14 = .ok (.istore_n 3, 1) := by decide +kernel
theorem d_Co_partOf_15 : decode m_Co_partOf.2.1 15 = .ok (.iload_n 2, 1) := by decide +kernel
theorem d_Co_partOf_16 : decode m_Co_partOf.2.1 16 = .ok (.iload_n 1, 1) := by decide +kernel
theorem d_Co_partOf_17 : decode m_Co_partOf.2.1 17 = .ok (.iload_n 2, 1) := by decide +kernel
theorem d_Co_partOf_18 : decode m_Co_partOf.2.1 18 = .ok (.iload_n 3, 1) := by decide +kernel
theorem d_Co_partOf_19 : decode m_Co_partOf.2.1 19 = .ok (.ixor, 1) := by decide +kernel
theorem d_Co_partOf_20 : decode m_Co_partOf.2.1 20 = .ok (.invokestatic 11, 3) := by decide +kernel
theorem d_Co_partOf_23 : decode m_Co_partOf.2.1 23 = .ok (.ixor, 1) := by decide +kernel
theorem d_Co_partOf_24 : decode m_Co_partOf.2.1 24 = .ok (.ireturn, 1) := by decide +kernel
theorem d_Ms_init_0 : decode m_Ms_init.2.1 0 = .ok (.aload_n 0, 1) := by decide +kernel
theorem d_Ms_init_1 : decode m_Ms_init.2.1 1 = .ok (.invokespecial 1, 3) := by decide +kernel
theorem d_Ms_init_4 : decode m_Ms_init.2.1 4 = .ok (.aload_n 0, 1) := by decide +kernel
theorem d_Ms_init_5 : decode m_Ms_init.2.1 5 = .ok (.iload_n 1, 1) := by decide +kernel
theorem d_Ms_init_6 : decode m_Ms_init.2.1 6 = .ok (.putfield 7, 3) := by decide +kernel
theorem d_Ms_init_9 : decode m_Ms_init.2.1 9 = .ok (.aload_n 0, 1) := by decide +kernel
theorem d_Ms_init_10 : decode m_Ms_init.2.1 10 = .ok (.iload_n 2, 1) := by decide +kernel
theorem d_Ms_init_11 : decode m_Ms_init.2.1 11 = .ok (.putfield 13, 3) := by decide +kernel
theorem d_Ms_init_14 : decode m_Ms_init.2.1 14 = .ok (.aload_n 0, 1) := by decide +kernel
theorem d_Ms_init_15 : decode m_Ms_init.2.1 15 = .ok (.iload_n 3, 1) := by decide +kernel
theorem d_Ms_init_16 : decode m_Ms_init.2.1 16 = .ok (.putfield 16, 3) := by decide +kernel
theorem d_Ms_init_19 : decode m_Ms_init.2.1 19 = .ok (.aload_n 0, 1) := by decide +kernel
theorem d_Ms_init_20 : decode m_Ms_init.2.1 20 = .ok (.iload 4, 2) := by decide +kernel
theorem d_Ms_init_22 : decode m_Ms_init.2.1 22 = .ok (.putfield 19, 3) := by decide +kernel
theorem d_Ms_init_25 : decode m_Ms_init.2.1 25 = .ok (.aload_n 0, 1) := by decide +kernel
theorem d_Ms_init_26 : decode m_Ms_init.2.1 26 = .ok (.iload 5, 2) := by decide +kernel
theorem d_Ms_init_28 : decode m_Ms_init.2.1 28 = .ok (.putfield 22, 3) := by decide +kernel
theorem d_Ms_init_31 : decode m_Ms_init.2.1 31 = .ok (.aload_n 0, 1) := by decide +kernel
theorem d_Ms_init_32 : decode m_Ms_init.2.1 32 = .ok (.iload 6, 2) := by decide +kernel
theorem d_Ms_init_34 : decode m_Ms_init.2.1 34 = .ok (.putfield 25, 3) := by decide +kernel
theorem d_Ms_init_37 : decode m_Ms_init.2.1 37 = .ok (.return_, 1) := by decide +kernel
theorem d_Nt_sendToOne_0 : decode m_Nt_sendToOne.2.1 0 = .ok (.aload_n 0, 1) := by decide +kernel
theorem d_Nt_sendToOne_1 : decode m_Nt_sendToOne.2.1 1 = .ok (.getfield 11, 3) := by decide +kernel
theorem d_Nt_sendToOne_4 : decode m_Nt_sendToOne.2.1 4 = .ok (.iload_n 1, 1) := by decide +kernel
theorem d_Nt_sendToOne_5 : decode m_Nt_sendToOne.2.1 5 = .ok (.aaload, 1) := by decide +kernel
theorem d_Nt_sendToOne_6 : decode m_Nt_sendToOne.2.1 6 = .ok (.getfield 18, 3) := by decide +kernel
theorem d_Nt_sendToOne_9 : decode m_Nt_sendToOne.2.1 9 = .ok (.aload_n 2, 1) := by decide +kernel
theorem d_Nt_sendToOne_10 : decode m_Nt_sendToOne.2.1 10 = .ok (.invokevirtual 22, 3) := by decide +kernel
theorem d_Nt_sendToOne_13 : decode m_Nt_sendToOne.2.1 13 = .ok (.pop, 1) := by decide +kernel
theorem d_Nt_sendToOne_14 : decode m_Nt_sendToOne.2.1 14 = .ok (.return_, 1) := by decide +kernel
theorem d_Al_add_0 : decode m_Al_add.2.1 0 = .ok (.aload_n 0, 1) := by decide +kernel
theorem d_Al_add_1 : decode m_Al_add.2.1 1 = .ok (.dup, 1) := by decide +kernel
theorem d_Al_add_2 : decode m_Al_add.2.1 2 = .ok (.getfield 63, 3) := by decide +kernel
theorem d_Al_add_5 : decode m_Al_add.2.1 5 = .ok (.iconst 1, 1) := by decide +kernel
theorem d_Al_add_6 : decode m_Al_add.2.1 6 = .ok (.iadd, 1) := by decide +kernel
theorem d_Al_add_7 : decode m_Al_add.2.1 7 = .ok (.putfield 63, 3) := by decide +kernel
theorem d_Al_add_10 : decode m_Al_add.2.1 10 = .ok (.aload_n 0, 1) := by decide +kernel
theorem d_Al_add_11 : decode m_Al_add.2.1 11 = .ok (.aload_n 1, 1) := by decide +kernel
theorem d_Al_add_12 : decode m_Al_add.2.1 12 = .ok (.aload_n 0, 1) := by decide +kernel
theorem d_Al_add_13 : decode m_Al_add.2.1 13 = .ok (.getfield 9, 3) := by decide +kernel
theorem d_Al_add_16 : decode m_Al_add.2.1 16 = .ok (.aload_n 0, 1) := by decide +kernel
theorem d_Al_add_17 : decode m_Al_add.2.1 17 = .ok (.getfield 48, 3) := by decide +kernel
theorem d_Al_add_20 : decode m_Al_add.2.1 20 = .ok (.invokevirtual 131, 3) := by decide +kernel
theorem d_Al_add_23 : decode m_Al_add.2.1 23 = .ok (.iconst 1, 1) := by decide +kernel
theorem d_Al_add_24 : decode m_Al_add.2.1 24 = .ok (.ireturn, 1) := by decide +kernel
theorem d_Al_add2_0 : decode m_Al_add2.2.1 0 = .ok (.iload_n 3, 1) := by decide +kernel
theorem d_Al_add2_1 : decode m_Al_add2.2.1 1 = .ok (.aload_n 2, 1) := by decide +kernel
theorem d_Al_add2_2 : decode m_Al_add2.2.1 2 = .ok (.arraylength, 1) := by decide +kernel
theorem d_Al_add2_3 : decode m_Al_add2.2.1 3 = .ok (.if_icmp .ne 8, 3) := by decide +kernel
theorem d_Al_add2_6 : decode m_Al_add2.2.1 6 = .ok (.aload_n 0, 1) := by decide +kernel
theorem d_Al_add2_7 : decode m_Al_add2.2.1 7 = .ok (.invokevirtual 129, 3) := by decide +kernel
theorem d_Al_add2_10 : decode m_Al_add2.2.1 10 = .ok (.astore_n 2, 1) := by decide +kernel
theorem d_Al_add2_11 : decode m_Al_add2.2.1 11 = .ok (.aload_n 2, 1) := by decide +kernel
theorem d_Al_add2_12 : decode m_Al_add2.2.1 12 = .ok (.iload_n 3, 1) := by decide +kernel
theorem d_Al_add2_13 : decode m_Al_add2.2.1 13 = .ok (.aload_n 1, 1) := by decide +kernel
theorem d_Al_add2_14 : decode m_Al_add2.2.1 14 = .ok (.aastore, 1) := by decide +kernel
theorem d_Al_add2_15 : decode m_Al_add2.2.1 15 = .ok (.aload_n 0, 1) := by decide +kernel
theorem d_Al_add2_16 : decode m_Al_add2.2.1 16 = .ok (.iload_n 3, 1) := by decide +kernel
theorem d_Al_add2_17 : decode m_Al_add2.2.1 17 = .ok (.iconst 1, 1) := by decide +kernel
theorem d_Al_add2_18 : decode m_Al_add2.2.1 18 = .ok (.iadd, 1) := by decide +kernel
theorem d_Al_add2_19 : decode m_Al_add2.2.1 19 = .ok (.putfield 48, 3) := by decide +kernel
theorem d_Al_add2_22 : decode m_Al_add2.2.1 22 = .ok (.return_, 1) := by decide +kernel
theorem d_Al_grow_0 : decode m_Al_grow.2.1 0 = .ok (.aload_n 0, 1) := by decide +kernel
theorem d_Al_grow_1 : decode m_Al_grow.2.1 1 = .ok (.aload_n 0, 1) := by decide +kernel
theorem d_Al_grow_2 : decode m_Al_grow.2.1 2 = .ok (.getfield 48, 3) := by decide +kernel
theorem d_Al_grow_5 : decode m_Al_grow.2.1 5 = .ok (.iconst 1, 1) := by decide +kernel
theorem d_Al_grow_6 : decode m_Al_grow.2.1 6 = .ok (.iadd, 1) := by decide +kernel
theorem d_Al_grow_7 : decode m_Al_grow.2.1 7 = .ok (.invokevirtual 69, 3) := by decide +kernel
theorem d_Al_grow_10 : decode m_Al_grow.2.1 10 = .ok (.areturn, 1) := by decide +kernel
theorem d_Al_grow2_0 : decode m_Al_grow2.2.1 0 = .ok (.aload_n 0, 1) := by decide +kernel
theorem d_Al_grow2_1 : decode m_Al_grow2.2.1 1 = .ok (.getfield 9, 3) := by decide +kernel
theorem d_Al_grow2_4 : decode m_Al_grow2.2.1 4 = .ok (.arraylength, 1) := by decide +kernel
theorem d_Al_grow2_5 : decode m_Al_grow2.2.1 5 = .ok (.istore_n 2, 1) := by decide +kernel
theorem d_Al_grow2_6 : decode m_Al_grow2.2.1 6 = .ok (.iload_n 2, 1) := by decide +kernel
theorem d_Al_grow2_7 : decode m_Al_grow2.2.1 7 = .ok (.ifCond .gt 13, 3) := by decide +kernel
theorem d_Al_grow2_10 : decode m_Al_grow2.2.1 10 = .ok (.aload_n 0, 1) := by decide +kernel
theorem d_Al_grow2_11 : decode m_Al_grow2.2.1 11 = .ok (.getfield 9, 3) := by decide +kernel
theorem d_Al_grow2_14 : decode m_Al_grow2.2.1 14 = .ok (.getstatic 39, 3) := by decide +kernel
theorem d_Al_grow2_17 : decode m_Al_grow2.2.1 17 = .ok (.if_acmp .eq 28, 3) := by decide +kernel
theorem d_Al_grow2_20 : decode m_Al_grow2.2.1 20 = .ok (.iload_n 2, 1) := by decide +kernel
theorem d_Al_grow2_21 : decode m_Al_grow2.2.1 21 = .ok (.iload_n 1, 1) := by decide +kernel
theorem d_Al_grow2_22 : decode m_Al_grow2.2.1 22 = .ok (.iload_n 2, 1) := by decide +kernel
theorem d_Al_grow2_23 : decode m_Al_grow2.2.1 23 = .ok (.isub, 1) := by decide +kernel
theorem d_Al_grow2_24 : decode m_Al_grow2.2.1 24 = .ok (.iload_n 2, 1) := by decide +kernel
theorem d_Al_grow2_25 : decode m_Al_grow2.2.1 25 = .ok (.iconst 1, 1) := by decide +kernel
theorem d_Al_grow2_26 : decode m_Al_grow2.2.1 26 = .ok (.ishr, 1) := by decide +kernel
theorem d_Al_grow2_27 : decode m_Al_grow2.2.1 27 = .ok (.invokestatic 73, 3) := by decide +kernel
theorem d_Al_grow2_30 : decode m_Al_grow2.2.1 30 = .ok (.istore_n 3, 1) := by decide +kernel
theorem d_Al_grow2_31 : decode m_Al_grow2.2.1 31 = .ok (.aload_n 0, 1) := by decide +kernel
theorem d_Al_grow2_32 : decode m_Al_grow2.2.1 32 = .ok (.aload_n 0, 1) := by decide +kernel
theorem d_Al_grow2_33 : decode m_Al_grow2.2.1 33 = .ok (.getfield 9, 3) := by decide +kernel
theorem d_Al_grow2_36 : decode m_Al_grow2.2.1 36 = .ok (.iload_n 3, 1) := by decide +kernel
theorem d_Al_grow2_37 : decode m_Al_grow2.2.1 37 = .ok (.invokestatic 66, 3) := by decide +kernel
theorem d_Al_grow2_40 : decode m_Al_grow2.2.1 40 = .ok (.dup_x1, 1) := by decide +kernel
theorem d_Al_grow2_41 : decode m_Al_grow2.2.1 41 = .ok (.putfield 9, 3) := by decide +kernel
theorem d_Al_grow2_44 : decode m_Al_grow2.2.1 44 = .ok (.areturn, 1) := by decide +kernel
theorem d_Al_grow2_45 : decode m_Al_grow2.2.1 45 = .ok (.aload_n 0, 1) := by decide +kernel
theorem d_Al_grow2_46 : decode m_Al_grow2.2.1 46 = .ok (.bipush 10, 2) := by decide +kernel
theorem d_Al_grow2_48 : decode m_Al_grow2.2.1 48 = .ok (.iload_n 1, 1) := by decide +kernel
theorem d_Al_grow2_49 : decode m_Al_grow2.2.1 49 = .ok (.invokestatic 79, 3) := by decide +kernel
theorem d_Al_grow2_52 : decode m_Al_grow2.2.1 52 = .ok (.anewarray 7, 3) := by decide +kernel
theorem d_Al_grow2_55 : decode m_Al_grow2.2.1 55 = .ok (.dup_x1, 1) := by decide +kernel
theorem d_Al_grow2_56 : decode m_Al_grow2.2.1 56 = .ok (.putfield 9, 3) := by decide +kernel
theorem d_Al_grow2_59 : decode m_Al_grow2.2.1 59 = .ok (.areturn, 1) := by decide +kernel
theorem d_As_newLength_0 : decode m_As_newLength.2.1 0 = .ok (.iload_n 0, 1) := by decide +kernel
theorem d_As_newLength_1 : decode m_As_newLength.2.1 1 = .ok (.iload_n 1, 1) := by decide +kernel
theorem d_As_newLength_2 : decode m_As_newLength.2.1 2 = .ok (.iload_n 2, 1) := by decide +kernel
theorem d_As_newLength_3 : decode m_As_newLength.2.1 3 = .ok (.invokestatic 194, 3) := by decide +kernel
theorem d_As_newLength_6 : decode m_As_newLength.2.1 6 = .ok (.iadd, 1) := by decide +kernel
theorem d_As_newLength_7 : decode m_As_newLength.2.1 7 = .ok (.istore_n 3, 1) := by decide +kernel
theorem d_As_newLength_8 : decode m_As_newLength.2.1 8 = .ok (.iconst 0, 1) := by decide +kernel
theorem d_As_newLength_9 : decode m_As_newLength.2.1 9 = .ok (.iload_n 3, 1) := by decide +kernel
theorem d_As_newLength_10 : decode m_As_newLength.2.1 10 = .ok (.if_icmp .ge 11, 3) := by decide +kernel
theorem d_As_newLength_13 : decode m_As_newLength.2.1 13 = .ok (.iload_n 3, 1) := by decide +kernel
theorem d_As_newLength_14 : decode m_As_newLength.2.1 14 = .ok (.ldc 200, 2) := by decide +kernel
theorem d_As_newLength_16 : decode m_As_newLength.2.1 16 = .ok (.if_icmp .gt 5, 3) := by decide +kernel
theorem d_As_newLength_19 : decode m_As_newLength.2.1 19 = .ok (.iload_n 3, 1) := by decide +kernel
theorem d_As_newLength_20 : decode m_As_newLength.2.1 20 = .ok (.ireturn, 1) := by decide +kernel
theorem d_As_newLength_21 : decode m_As_newLength.2.1 21 = .ok (.iload_n 0, 1) := by decide +kernel
theorem d_As_newLength_22 : decode m_As_newLength.2.1 22 = .ok (.iload_n 1, 1) := by decide +kernel
theorem d_As_newLength_23 : decode m_As_newLength.2.1 23 = .ok (.invokestatic 201, 3) := by decide +kernel
theorem d_As_newLength_26 : decode m_As_newLength.2.1 26 = .ok (.ireturn, 1) := by decide +kernel
theorem d_Ma_max_0 : decode m_Ma_max.2.1 0 = .ok (.iload_n 0, 1) := by decide +kernel
theorem d_Ma_max_1 : decode m_Ma_max.2.1 1 = .ok (.iload_n 1, 1) := by decide +kernel
theorem d_Ma_max_2 : decode m_Ma_max.2.1 2 = .ok (.if_icmp .lt 7, 3) := by decide +kernel
theorem d_Ma_max_5 : decode m_Ma_max.2.1 5 = .ok (.iload_n 0, 1) := by decide +kernel
theorem d_Ma_max_6 : decode m_Ma_max.2.1 6 = .ok (.goto 4, 3) := by decide +kernel
theorem d_Ma_max_9 : decode m_Ma_max.2.1 9 = .ok (.iload_n 1, 1) := by decide +kernel
theorem d_Ma_max_10 : decode m_Ma_max.2.1 10 = .ok (.ireturn, 1) := by decide +kernel
theorem d_Ar_copyOf_0 : decode m_Ar_copyOf.2.1 0 = .ok (.aload_n 0, 1) := by decide +kernel
theorem d_Ar_copyOf_1 : decode m_Ar_copyOf.2.1 1 = .ok (.iload_n 1, 1) := by decide +kernel
theorem d_Ar_copyOf_2 : decode m_Ar_copyOf.2.1 2 = .ok (.aload_n 0, 1) := by decide +kernel
theorem d_Ar_copyOf_3 : decode m_Ar_copyOf.2.1 3 = .ok (.invokevirtual 86, 3) := by decide +kernel
theorem d_Ar_copyOf_6 : decode m_Ar_copyOf.2.1 6 = .ok (.invokestatic 300, 3) := by decide +kernel
theorem d_Ar_copyOf_9 : decode m_Ar_copyOf.2.1 9 = .ok (.areturn, 1) := by decide +kernel
theorem d_Ar_copyOf2_0 : decode m_Ar_copyOf2.2.1 0 = .ok (.aload_n 2, 1) := by decide +kernel
theorem d_Ar_copyOf2_1 : decode m_Ar_copyOf2.2.1 1 = .ok (.ldc 110, 2) := by decide +kernel
theorem d_Ar_copyOf2_3 : decode m_Ar_copyOf2.2.1 3 = .ok (.if_acmp .ne 10, 3) := by decide +kernel
theorem d_Ar_copyOf2_6 : decode m_Ar_copyOf2.2.1 6 = .ok (.iload_n 1, 1) := by decide +kernel
theorem d_Ar_copyOf2_7 : decode m_Ar_copyOf2.2.1 7 = .ok (.anewarray 2, 3) := by decide +kernel
theorem d_Ar_copyOf2_10 : decode m_Ar_copyOf2.2.1 10 = .ok (.goto 14, 3) := by decide +kernel
theorem d_Ar_copyOf2_13 : decode m_Ar_copyOf2.2.1 13 = .ok (.aload_n 2, 1) := by decide +kernel
theorem d_Ar_copyOf2_14 : decode m_Ar_copyOf2.2.1 14 = .ok (.invokevirtual 90, 3) := by decide +kernel
theorem d_Ar_copyOf2_17 : decode m_Ar_copyOf2.2.1 17 = .ok (.iload_n 1, 1) := by decide +kernel
theorem d_Ar_copyOf2_18 : decode m_Ar_copyOf2.2.1 18 = .ok (.invokestatic 95, 3) := by decide +kernel
theorem d_Ar_copyOf2_21 : decode m_Ar_copyOf2.2.1 21 = .ok (.checkcast 110, 3) := by decide +kernel
theorem d_Ar_copyOf2_24 : decode m_Ar_copyOf2.2.1 24 = .ok (.astore_n 3, 1) := by decide +kernel
theorem d_Ar_copyOf2_25 : decode m_Ar_copyOf2.2.1 25 = .ok (.aload_n 0, 1) := by decide +kernel
theorem d_Ar_copyOf2_26 : decode m_Ar_copyOf2.2.1 26 = .ok (.iconst 0, 1) := by decide +kernel
theorem d_Ar_copyOf2_27 : decode m_Ar_copyOf2.2.1 27 = .ok (.aload_n 3, 1) := by decide +kernel
theorem d_Ar_copyOf2_28 : decode m_Ar_copyOf2.2.1 28 = .ok (.iconst 0, 1) := by decide +kernel
theorem d_Ar_copyOf2_29 : decode m_Ar_copyOf2.2.1 29 = .ok (.aload_n 0, 1) := by decide +kernel
theorem d_Ar_copyOf2_30 : decode m_Ar_copyOf2.2.1 30 = .ok (.arraylength, 1) := by decide +kernel
theorem d_Ar_copyOf2_31 : decode m_Ar_copyOf2.2.1 31 = .ok (.iload_n 1, 1) := by decide +kernel
theorem d_Ar_copyOf2_32 : decode m_Ar_copyOf2.2.1 32 = .ok (.invokestatic 304, 3) := by decide +kernel
theorem d_Ar_copyOf2_35 : decode m_Ar_copyOf2.2.1 35 = .ok (.invokestatic 150, 3) := by decide +kernel
theorem d_Ar_copyOf2_38 : decode m_Ar_copyOf2.2.1 38 = .ok (.aload_n 3, 1) := by decide +kernel
theorem d_Ar_copyOf2_39 : decode m_Ar_copyOf2.2.1 39 = .ok (.areturn, 1) := by decide +kernel
theorem d_Ma_min_0 : decode m_Ma_min.2.1 0 = .ok (.iload_n 0, 1) := by decide +kernel
theorem d_Ma_min_1 : decode m_Ma_min.2.1 1 = .ok (.iload_n 1, 1) := by decide +kernel
theorem d_Ma_min_2 : decode m_Ma_min.2.1 2 = .ok (.if_icmp .gt 7, 3) := by decide +kernel
theorem d_Ma_min_5 : decode m_Ma_min.2.1 5 = .ok (.iload_n 0, 1) := by decide +kernel
theorem d_Ma_min_6 : decode m_Ma_min.2.1 6 = .ok (.goto 4, 3) := by decide +kernel
theorem d_Ma_min_9 : decode m_Ma_min.2.1 9 = .ok (.iload_n 1, 1) := by decide +kernel
theorem d_Ma_min_10 : decode m_Ma_min.2.1 10 = .ok (.ireturn, 1) := by decide +kernel
theorem d_Nd_goOnWith_0 : decode m_Nd_goOnWith.2.1 0 = .ok (.iload_n 1, 1) := by decide +kernel
theorem d_Nd_goOnWith_1 : decode m_Nd_goOnWith.2.1 1 = .ok (.istore_n 3, 1) := by decide +kernel
theorem d_Nd_goOnWith_2 : decode m_Nd_goOnWith.2.1 2 = .ok (.iload_n 2, 1) := by decide +kernel
theorem d_Nd_goOnWith_3 : decode m_Nd_goOnWith.2.1 3 = .ok (.istore 4, 2) := by decide +kernel
theorem d_Nd_goOnWith_5 : decode m_Nd_goOnWith.2.1 5 = .ok (.iconst 0, 1) := by decide +kernel
theorem d_Nd_goOnWith_6 : decode m_Nd_goOnWith.2.1 6 = .ok (.istore 5, 2) := by decide +kernel
theorem d_Nd_goOnWith_8 : decode m_Nd_goOnWith.2.1 8 = .ok (.iload 5, 2) := by decide +kernel
theorem d_Nd_goOnWith_10 : decode m_Nd_goOnWith.2.1 10 = .ok (.bipush 20, 2) := by decide +kernel
theorem d_Nd_goOnWith_12 : decode m_Nd_goOnWith.2.1 12 = .ok (.if_icmp .ge 52, 3) := by decide +kernel
theorem d_Nd_goOnWith_15 : decode m_Nd_goOnWith.2.1 15 = .ok (.iload_n 3, 1) := by decide +kernel
theorem d_Nd_goOnWith_16 : decode m_Nd_goOnWith.2.1 16 = .ok (.iload 4, 2) := by decide +kernel
theorem d_Nd_goOnWith_18 : decode m_Nd_goOnWith.2.1 18 = .ok (.if_icmp .gt 46, 3) := by decide +kernel
theorem d_Nd_goOnWith_21 : decode m_Nd_goOnWith.2.1 21 = .ok (.aload_n 0, 1) := by decide +kernel
theorem d_Nd_goOnWith_22 : decode m_Nd_goOnWith.2.1 22 = .ok (.iload_n 3, 1) := by decide +kernel
theorem d_Nd_goOnWith_23 : decode m_Nd_goOnWith.2.1 23 = .ok (.invokevirtual 113, 3) := by decide +kernel
theorem d_Nd_goOnWith_26 : decode m_Nd_goOnWith.2.1 26 = .ok (.iinc 3 1, 3) := by decide +kernel
theorem d_Nd_goOnWith_29 : decode m_Nd_goOnWith.2.1 29 = .ok (.aload_n 0, 1) := by decide +kernel
theorem d_Nd_goOnWith_30 : decode m_Nd_goOnWith.2.1 30 = .ok (.invokevirtual 116, 3) := by decide +kernel
theorem d_Nd_goOnWith_33 : decode m_Nd_goOnWith.2.1 33 = .ok (.ifCond .eq 25, 3) := by decide +kernel
theorem d_Nd_goOnWith_36 : decode m_Nd_goOnWith.2.1 36 = .ok (.aload_n 0, 1) := by decide +kernel
theorem d_Nd_goOnWith_37 : decode m_Nd_goOnWith.2.1 37 = .ok (.invokevirtual 119, 3) := by decide +kernel
theorem d_Nd_goOnWith_40 : decode m_Nd_goOnWith.2.1 40 = .ok (.aload_n 0, 1) := by decide +kernel
theorem d_Nd_goOnWith_41 : decode m_Nd_goOnWith.2.1 41 = .ok (.getfield 35, 3) := by decide +kernel
theorem d_Nd_goOnWith_44 : decode m_Nd_goOnWith.2.1 44 = .ok (.iconst 4, 1) := by decide +kernel
theorem d_Nd_goOnWith_45 : decode m_Nd_goOnWith.2.1 45 = .ok (.if_icmp .ne 4, 3) := by decide +kernel
theorem d_Nd_goOnWith_48 : decode m_Nd_goOnWith.2.1 48 = .ok (.return_, 1) := by decide +kernel
theorem d_Nd_goOnWith_49 : decode m_Nd_goOnWith.2.1 49 = .ok (.aload_n 0, 1) := by decide +kernel
theorem d_Nd_goOnWith_50 : decode m_Nd_goOnWith.2.1 50 = .ok (.invokevirtual 67, 3) := by decide +kernel
theorem d_Nd_goOnWith_53 : decode m_Nd_goOnWith.2.1 53 = .ok (.iconst 0, 1) := by decide +kernel
theorem d_Nd_goOnWith_54 : decode m_Nd_goOnWith.2.1 54 = .ok (.istore_n 3, 1) := by decide +kernel
theorem d_Nd_goOnWith_55 : decode m_Nd_goOnWith.2.1 55 = .ok (.iconst 3, 1) := by decide +kernel
theorem d_Nd_goOnWith_56 : decode m_Nd_goOnWith.2.1 56 = .ok (.istore 4, 2) := by decide +kernel
theorem d_Nd_goOnWith_58 : decode m_Nd_goOnWith.2.1 58 = .ok (.iinc 5 1, 3) := by decide +kernel
theorem d_Nd_goOnWith_61 : decode m_Nd_goOnWith.2.1 61 = .ok (.goto (-53), 3) := by decide +kernel
theorem d_Nd_goOnWith_64 : decode m_Nd_goOnWith.2.1 64 = .ok (.return_, 1) := by decide +kernel
theorem d_Nd_goOnAndLook_0 : decode m_Nd_goOnAndLook.2.1 0 = .ok (.iload_n 1, 1) := by decide +kernel
theorem d_Nd_goOnAndLook_1 : decode m_Nd_goOnAndLook.2.1 1 = .ok (.istore_n 2, 1) := by decide +kernel
theorem d_Nd_goOnAndLook_2 : decode m_Nd_goOnAndLook.2.1 2 = .ok (.iconst 0, 1) := by decide +kernel
theorem d_Nd_goOnAndLook_3 : decode m_Nd_goOnAndLook.2.1 3 = .ok (.istore_n 3, 1) := by decide +kernel
theorem d_Nd_goOnAndLook_4 : decode m_Nd_goOnAndLook.2.1 4 = .ok (.iload_n 3, 1) := by decide +kernel
theorem d_Nd_goOnAndLook_5 : decode m_Nd_goOnAndLook.2.1 5 = .ok (.iconst 4, 1) := by decide +kernel
theorem d_Nd_goOnAndLook_6 : decode m_Nd_goOnAndLook.2.1 6 = .ok (.if_icmp .gt 82, 3) := by decide +kernel
theorem d_Nd_goOnAndLook_9 : decode m_Nd_goOnAndLook.2.1 9 = .ok (.iload_n 2, 1) := by decide +kernel
theorem d_Nd_goOnAndLook_10 : decode m_Nd_goOnAndLook.2.1 10 = .ok (.iconst (-1), 1) := by decide +kernel
theorem d_Nd_goOnAndLook_11 : decode m_Nd_goOnAndLook.2.1 11 = .ok (.if_icmp .eq 77, 3) := by decide +kernel
theorem d_Nd_goOnAndLook_14 : decode m_Nd_goOnAndLook.2.1 14 = .ok (.aload_n 0, 1) := by decide +kernel
theorem d_Nd_goOnAndLook_15 : decode m_Nd_goOnAndLook.2.1 15 = .ok (.iload_n 2, 1) := by decide +kernel
theorem d_Nd_goOnAndLook_16 : decode m_Nd_goOnAndLook.2.1 16 = .ok (.invokevirtual 122, 3) := by decide +kernel
theorem d_Nd_goOnAndLook_19 : decode m_Nd_goOnAndLook.2.1 19 = .ok (.astore 4, 2) := by decide +kernel
theorem d_Nd_goOnAndLook_21 : decode m_Nd_goOnAndLook.2.1 21 = .ok (.aload_n 0, 1) := by decide +kernel
theorem d_Nd_goOnAndLook_22 : decode m_Nd_goOnAndLook.2.1 22 = .ok (.iload_n 2, 1) := by decide +kernel
theorem d_Nd_goOnAndLook_23 : decode m_Nd_goOnAndLook.2.1 23 = .ok (.invokevirtual 126, 3) := by decide +kernel
theorem d_Nd_goOnAndLook_26 : decode m_Nd_goOnAndLook.2.1 26 = .ok (.astore 5, 2) := by decide +kernel
theorem d_Nd_goOnAndLook_28 : decode m_Nd_goOnAndLook.2.1 28 = .ok (.aload 4, 2) := by decide +kernel
theorem d_Nd_goOnAndLook_30 : decode m_Nd_goOnAndLook.2.1 30 = .ok (.invokevirtual 130, 3) := by decide +kernel
theorem d_Nd_goOnAndLook_33 : decode m_Nd_goOnAndLook.2.1 33 = .ok (.aload 4, 2) := by decide +kernel
theorem d_Nd_goOnAndLook_35 : decode m_Nd_goOnAndLook.2.1 35 = .ok (.invokevirtual 133, 3) := by decide +kernel
theorem d_Nd_goOnAndLook_38 : decode m_Nd_goOnAndLook.2.1 38 = .ok (.aload 4, 2) := by decide +kernel
theorem d_Nd_goOnAndLook_40 : decode m_Nd_goOnAndLook.2.1 40 = .ok (.invokevirtual 136, 3) := by decide +kernel
theorem d_Nd_goOnAndLook_43 : decode m_Nd_goOnAndLook.2.1 43 = .ok (.aload 4, 2) := by decide +kernel
theorem d_Nd_goOnAndLook_45 : decode m_Nd_goOnAndLook.2.1 45 = .ok (.getfield 139, 3) := by decide +kernel
theorem d_Nd_goOnAndLook_48 : decode m_Nd_goOnAndLook.2.1 48 = .ok (.iconst (-1), 1) := by decide +kernel
theorem d_Nd_goOnAndLook_49 : decode m_Nd_goOnAndLook.2.1 49 = .ok (.if_icmp .eq 9, 3) := by decide +kernel
theorem d_Nd_goOnAndLook_52 : decode m_Nd_goOnAndLook.2.1 52 = .ok (.aload 5, 2) := by decide +kernel
theorem d_Nd_goOnAndLook_54 : decode m_Nd_goOnAndLook.2.1 54 = .ok (.iconst 1, 1) := by decide +kernel
theorem d_Nd_goOnAndLook_55 : decode m_Nd_goOnAndLook.2.1 55 = .ok (.invokevirtual 141, 3) := by decide +kernel
theorem d_Nd_goOnAndLook_58 : decode m_Nd_goOnAndLook.2.1 58 = .ok (.aload 5, 2) := by decide +kernel
theorem d_Nd_goOnAndLook_60 : decode m_Nd_goOnAndLook.2.1 60 = .ok (.invokevirtual 144, 3) := by decide +kernel
theorem d_Nd_goOnAndLook_63 : decode m_Nd_goOnAndLook.2.1 63 = .ok (.aload_n 0, 1) := by decide +kernel
theorem d_Nd_goOnAndLook_64 : decode m_Nd_goOnAndLook.2.1 64 = .ok (.invokevirtual 147, 3) := by decide +kernel
theorem d_Nd_goOnAndLook_67 : decode m_Nd_goOnAndLook.2.1 67 = .ok (.istore_n 2, 1) := by decide +kernel
theorem d_Nd_goOnAndLook_68 : decode m_Nd_goOnAndLook.2.1 68 = .ok (.iload_n 2, 1) := by decide +kernel
theorem d_Nd_goOnAndLook_69 : decode m_Nd_goOnAndLook.2.1 69 = .ok (.iconst (-1), 1) := by decide +kernel
theorem d_Nd_goOnAndLook_70 : decode m_Nd_goOnAndLook.2.1 70 = .ok (.if_icmp .eq 12, 3) := by decide +kernel
theorem d_Nd_goOnAndLook_73 : decode m_Nd_goOnAndLook.2.1 73 = .ok (.aload_n 0, 1) := by decide +kernel
theorem d_Nd_goOnAndLook_74 : decode m_Nd_goOnAndLook.2.1 74 = .ok (.iload_n 2, 1) := by decide +kernel
theorem d_Nd_goOnAndLook_75 : decode m_Nd_goOnAndLook.2.1 75 = .ok (.invokevirtual 126, 3) := by decide +kernel
theorem d_Nd_goOnAndLook_78 : decode m_Nd_goOnAndLook.2.1 78 = .ok (.iconst 0, 1) := by decide +kernel
theorem d_Nd_goOnAndLook_79 : decode m_Nd_goOnAndLook.2.1 79 = .ok (.invokevirtual 141, 3) := by decide +kernel
theorem d_Nd_goOnAndLook_82 : decode m_Nd_goOnAndLook.2.1 82 = .ok (.iinc 3 1, 3) := by decide +kernel
theorem d_Nd_goOnAndLook_85 : decode m_Nd_goOnAndLook.2.1 85 = .ok (.goto (-81), 3) := by decide +kernel
theorem d_Nd_goOnAndLook_88 : decode m_Nd_goOnAndLook.2.1 88 = .ok (.return_, 1) := by decide +kernel
theorem d_Nd_broadcastOf_0 : decode m_Nd_broadcastOf.2.1 0 = .ok (.aload_n 0, 1) := by decide +kernel
theorem d_Nd_broadcastOf_1 : decode m_Nd_broadcastOf.2.1 1 = .ok (.getfield 25, 3) := by decide +kernel
theorem d_Nd_broadcastOf_4 : decode m_Nd_broadcastOf.2.1 4 = .ok (.aload_n 0, 1) := by decide +kernel
theorem d_Nd_broadcastOf_5 : decode m_Nd_broadcastOf.2.1 5 = .ok (.getfield 35, 3) := by decide +kernel
theorem d_Nd_broadcastOf_8 : decode m_Nd_broadcastOf.2.1 8 = .ok (.iconst 4, 1) := by decide +kernel
theorem d_Nd_broadcastOf_9 : decode m_Nd_broadcastOf.2.1 9 = .ok (.imul, 1) := by decide +kernel
theorem d_Nd_broadcastOf_10 : decode m_Nd_broadcastOf.2.1 10 = .ok (.iload_n 1, 1) := by decide +kernel
theorem d_Nd_broadcastOf_11 : decode m_Nd_broadcastOf.2.1 11 = .ok (.iadd, 1) := by decide +kernel
theorem d_Nd_broadcastOf_12 : decode m_Nd_broadcastOf.2.1 12 = .ok (.aaload, 1) := by decide +kernel
theorem d_Nd_broadcastOf_13 : decode m_Nd_broadcastOf.2.1 13 = .ok (.areturn, 1) := by decide +kernel
theorem d_Nd_agreementOf_0 : decode m_Nd_agreementOf.2.1 0 = .ok (.aload_n 0, 1) := by decide +kernel
theorem d_Nd_agreementOf_1 : decode m_Nd_agreementOf.2.1 1 = .ok (.getfield 31, 3) := by decide +kernel
theorem d_Nd_agreementOf_4 : decode m_Nd_agreementOf.2.1 4 = .ok (.aload_n 0, 1) := by decide +kernel
theorem d_Nd_agreementOf_5 : decode m_Nd_agreementOf.2.1 5 = .ok (.getfield 35, 3) := by decide +kernel
theorem d_Nd_agreementOf_8 : decode m_Nd_agreementOf.2.1 8 = .ok (.iconst 4, 1) := by decide +kernel
theorem d_Nd_agreementOf_9 : decode m_Nd_agreementOf.2.1 9 = .ok (.imul, 1) := by decide +kernel
theorem d_Nd_agreementOf_10 : decode m_Nd_agreementOf.2.1 10 = .ok (.iload_n 1, 1) := by decide +kernel
theorem d_Nd_agreementOf_11 : decode m_Nd_agreementOf.2.1 11 = .ok (.iadd, 1) := by decide +kernel
theorem d_Nd_agreementOf_12 : decode m_Nd_agreementOf.2.1 12 = .ok (.aaload, 1) := by decide +kernel
theorem d_Nd_agreementOf_13 : decode m_Nd_agreementOf.2.1 13 = .ok (.areturn, 1) := by decide +kernel
theorem d_Bc_sendEchoIfDue_0 : decode m_Bc_sendEchoIfDue.2.1 0 = .ok (.aload_n 0, 1) := by decide +kernel
theorem d_Bc_sendEchoIfDue_1 : decode m_Bc_sendEchoIfDue.2.1 1 = .ok (.getfield 68, 3) := by decide +kernel
theorem d_Bc_sendEchoIfDue_4 : decode m_Bc_sendEchoIfDue.2.1 4 = .ok (.ifCond .eq 50, 3) := by decide +kernel
theorem d_Bc_sendEchoIfDue_7 : decode m_Bc_sendEchoIfDue.2.1 7 = .ok (.aload_n 0, 1) := by decide +kernel
theorem d_Bc_sendEchoIfDue_8 : decode m_Bc_sendEchoIfDue.2.1 8 = .ok (.getfield 87, 3) := by decide +kernel
theorem d_Bc_sendEchoIfDue_11 : decode m_Bc_sendEchoIfDue.2.1 11 = .ok (.ifCond .ne 43, 3) := by decide +kernel
theorem d_Bc_sendEchoIfDue_14 : decode m_Bc_sendEchoIfDue.2.1 14 = .ok (.aload_n 0, 1) := by decide +kernel
theorem d_Bc_sendEchoIfDue_15 : decode m_Bc_sendEchoIfDue.2.1 15 = .ok (.iconst 1, 1) := by decide +kernel
theorem d_Bc_sendEchoIfDue_16 : decode m_Bc_sendEchoIfDue.2.1 16 = .ok (.putfield 87, 3) := by decide +kernel
theorem d_Bc_sendEchoIfDue_19 : decode m_Bc_sendEchoIfDue.2.1 19 = .ok (.aload_n 0, 1) := by decide +kernel
theorem d_Bc_sendEchoIfDue_20 : decode m_Bc_sendEchoIfDue.2.1 20 = .ok (.getfield 29, 3) := by decide +kernel
theorem d_Bc_sendEchoIfDue_23 : decode m_Bc_sendEchoIfDue.2.1 23 = .ok (.new 43, 3) := by decide +kernel
theorem d_Bc_sendEchoIfDue_26 : decode m_Bc_sendEchoIfDue.2.1 26 = .ok (.dup, 1) := by decide +kernel
theorem d_Bc_sendEchoIfDue_27 : decode m_Bc_sendEchoIfDue.2.1 27 = .ok (.aload_n 0, 1) := by decide +kernel
theorem d_Bc_sendEchoIfDue_28 : decode m_Bc_sendEchoIfDue.2.1 28 = .ok (.getfield 33, 3) := by decide +kernel
theorem d_Bc_sendEchoIfDue_31 : decode m_Bc_sendEchoIfDue.2.1 31 = .ok (.aload_n 0, 1) := by decide +kernel
theorem d_Bc_sendEchoIfDue_32 : decode m_Bc_sendEchoIfDue.2.1 32 = .ok (.getfield 36, 3) := by decide +kernel
theorem d_Bc_sendEchoIfDue_35 : decode m_Bc_sendEchoIfDue.2.1 35 = .ok (.aload_n 0, 1) := by decide +kernel
theorem d_Bc_sendEchoIfDue_36 : decode m_Bc_sendEchoIfDue.2.1 36 = .ok (.getfield 39, 3) := by decide +kernel
theorem d_Bc_sendEchoIfDue_39 : decode m_Bc_sendEchoIfDue.2.1 39 = .ok (.iconst 1, 1) := by decide +kernel
theorem d_Bc_sendEchoIfDue_40 : decode m_Bc_sendEchoIfDue.2.1 40 = .ok (.aload_n 0, 1) := by decide +kernel
theorem d_Bc_sendEchoIfDue_41 : decode m_Bc_sendEchoIfDue.2.1 41 = .ok (.getfield 81, 3) := by decide +kernel
end
section
theorem d_Bc_sendEchoIfDue_44 : decode m_Bc_sendEchoIfDue.2.1 44 = .ok (.aload_n 0, 1) := by decide +kernel
theorem d_Bc_sendEchoIfDue_45 : decode m_Bc_sendEchoIfDue.2.1 45 = .ok (.getfield 84, 3) := by decide +kernel
theorem d_Bc_sendEchoIfDue_48 : decode m_Bc_sendEchoIfDue.2.1 48 = .ok (.invokespecial 90, 3) := by decide +kernel
theorem d_Bc_sendEchoIfDue_51 : decode m_Bc_sendEchoIfDue.2.1 51 = .ok (.invokevirtual 93, 3) := by decide +kernel
theorem d_Bc_sendEchoIfDue_54 : decode m_Bc_sendEchoIfDue.2.1 54 = .ok (.return_, 1) := by decide +kernel
theorem d_Nt_sendToAll_0 : decode m_Nt_sendToAll.2.1 0 = .ok (.iconst 0, 1) := by decide +kernel
theorem d_Nt_sendToAll_1 : decode m_Nt_sendToAll.2.1 1 = .ok (.istore_n 2, 1) := by decide +kernel
theorem d_Nt_sendToAll_2 : decode m_Nt_sendToAll.2.1 2 = .ok (.iload_n 2, 1) := by decide +kernel
theorem d_Nt_sendToAll_3 : decode m_Nt_sendToAll.2.1 3 = .ok (.iconst 4, 1) := by decide +kernel
theorem d_Nt_sendToAll_4 : decode m_Nt_sendToAll.2.1 4 = .ok (.if_icmp .ge 23, 3) := by decide +kernel
theorem d_Nt_sendToAll_7 : decode m_Nt_sendToAll.2.1 7 = .ok (.aload_n 0, 1) := by decide +kernel
theorem d_Nt_sendToAll_8 : decode m_Nt_sendToAll.2.1 8 = .ok (.getfield 11, 3) := by decide +kernel
theorem d_Nt_sendToAll_11 : decode m_Nt_sendToAll.2.1 11 = .ok (.iload_n 2, 1) := by decide +kernel
theorem d_Nt_sendToAll_12 : decode m_Nt_sendToAll.2.1 12 = .ok (.aaload, 1) := by decide +kernel
theorem d_Nt_sendToAll_13 : decode m_Nt_sendToAll.2.1 13 = .ok (.getfield 18, 3) := by decide +kernel
theorem d_Nt_sendToAll_16 : decode m_Nt_sendToAll.2.1 16 = .ok (.aload_n 1, 1) := by decide +kernel
theorem d_Nt_sendToAll_17 : decode m_Nt_sendToAll.2.1 17 = .ok (.invokevirtual 22, 3) := by decide +kernel
theorem d_Nt_sendToAll_20 : decode m_Nt_sendToAll.2.1 20 = .ok (.pop, 1) := by decide +kernel
theorem d_Nt_sendToAll_21 : decode m_Nt_sendToAll.2.1 21 = .ok (.iinc 2 1, 3) := by decide +kernel
theorem d_Nt_sendToAll_24 : decode m_Nt_sendToAll.2.1 24 = .ok (.goto (-22), 3) := by decide +kernel
theorem d_Nt_sendToAll_27 : decode m_Nt_sendToAll.2.1 27 = .ok (.return_, 1) := by decide +kernel
theorem d_Bc_sendReadyIfDue_0 : decode m_Bc_sendReadyIfDue.2.1 0 = .ok (.aload_n 0, 1) := by decide +kernel
theorem d_Bc_sendReadyIfDue_1 : decode m_Bc_sendReadyIfDue.2.1 1 = .ok (.getfield 98, 3) := by decide +kernel
theorem d_Bc_sendReadyIfDue_4 : decode m_Bc_sendReadyIfDue.2.1 4 = .ok (.ifCond .eq 4, 3) := by decide +kernel
theorem d_Bc_sendReadyIfDue_7 : decode m_Bc_sendReadyIfDue.2.1 7 = .ok (.return_, 1) := by decide +kernel
theorem d_Bc_sendReadyIfDue_8 : decode m_Bc_sendReadyIfDue.2.1 8 = .ok (.aload_n 0, 1) := by decide +kernel
theorem d_Bc_sendReadyIfDue_9 : decode m_Bc_sendReadyIfDue.2.1 9 = .ok (.getfield 12, 3) := by decide +kernel
theorem d_Bc_sendReadyIfDue_12 : decode m_Bc_sendReadyIfDue.2.1 12 = .ok (.iconst 3, 1) := by decide +kernel
theorem d_Bc_sendReadyIfDue_13 : decode m_Bc_sendReadyIfDue.2.1 13 = .ok (.invokevirtual 101, 3) := by decide +kernel
theorem d_Bc_sendReadyIfDue_16 : decode m_Bc_sendReadyIfDue.2.1 16 = .ok (.istore_n 1, 1) := by decide +kernel
theorem d_Bc_sendReadyIfDue_17 : decode m_Bc_sendReadyIfDue.2.1 17 = .ok (.iload_n 1, 1) := by decide +kernel
theorem d_Bc_sendReadyIfDue_18 : decode m_Bc_sendReadyIfDue.2.1 18 = .ok (.iconst (-1), 1) := by decide +kernel
theorem d_Bc_sendReadyIfDue_19 : decode m_Bc_sendReadyIfDue.2.1 19 = .ok (.if_icmp .eq 38, 3) := by decide +kernel
theorem d_Bc_sendReadyIfDue_22 : decode m_Bc_sendReadyIfDue.2.1 22 = .ok (.aload_n 0, 1) := by decide +kernel
theorem d_Bc_sendReadyIfDue_23 : decode m_Bc_sendReadyIfDue.2.1 23 = .ok (.getfield 12, 3) := by decide +kernel
theorem d_Bc_sendReadyIfDue_26 : decode m_Bc_sendReadyIfDue.2.1 26 = .ok (.getfield 105, 3) := by decide +kernel
theorem d_Bc_sendReadyIfDue_29 : decode m_Bc_sendReadyIfDue.2.1 29 = .ok (.iload_n 1, 1) := by decide +kernel
theorem d_Bc_sendReadyIfDue_30 : decode m_Bc_sendReadyIfDue.2.1 30 = .ok (.iaload, 1) := by decide +kernel
theorem d_Bc_sendReadyIfDue_31 : decode m_Bc_sendReadyIfDue.2.1 31 = .ok (.istore_n 2, 1) := by decide +kernel
theorem d_Bc_sendReadyIfDue_32 : decode m_Bc_sendReadyIfDue.2.1 32 = .ok (.aload_n 0, 1) := by decide +kernel
theorem d_Bc_sendReadyIfDue_33 : decode m_Bc_sendReadyIfDue.2.1 33 = .ok (.aload_n 0, 1) := by decide +kernel
theorem d_Bc_sendReadyIfDue_34 : decode m_Bc_sendReadyIfDue.2.1 34 = .ok (.getfield 12, 3) := by decide +kernel
theorem d_Bc_sendReadyIfDue_37 : decode m_Bc_sendReadyIfDue.2.1 37 = .ok (.iload_n 2, 1) := by decide +kernel
theorem d_Bc_sendReadyIfDue_38 : decode m_Bc_sendReadyIfDue.2.1 38 = .ok (.invokevirtual 108, 3) := by decide +kernel
theorem d_Bc_sendReadyIfDue_41 : decode m_Bc_sendReadyIfDue.2.1 41 = .ok (.invokevirtual 111, 3) := by decide +kernel
theorem d_Bc_sendReadyIfDue_44 : decode m_Bc_sendReadyIfDue.2.1 44 = .ok (.invokestatic 114, 3) := by decide +kernel
theorem d_Bc_sendReadyIfDue_47 : decode m_Bc_sendReadyIfDue.2.1 47 = .ok (.iload_n 2, 1) := by decide +kernel
theorem d_Bc_sendReadyIfDue_48 : decode m_Bc_sendReadyIfDue.2.1 48 = .ok (.if_icmp .ne 9, 3) := by decide +kernel
theorem d_Bc_sendReadyIfDue_51 : decode m_Bc_sendReadyIfDue.2.1 51 = .ok (.aload_n 0, 1) := by decide +kernel
theorem d_Bc_sendReadyIfDue_52 : decode m_Bc_sendReadyIfDue.2.1 52 = .ok (.iload_n 2, 1) := by decide +kernel
theorem d_Bc_sendReadyIfDue_53 : decode m_Bc_sendReadyIfDue.2.1 53 = .ok (.invokevirtual 117, 3) := by decide +kernel
theorem d_Bc_sendReadyIfDue_56 : decode m_Bc_sendReadyIfDue.2.1 56 = .ok (.return_, 1) := by decide +kernel
theorem d_Bc_sendReadyIfDue_57 : decode m_Bc_sendReadyIfDue.2.1 57 = .ok (.aload_n 0, 1) := by decide +kernel
theorem d_Bc_sendReadyIfDue_58 : decode m_Bc_sendReadyIfDue.2.1 58 = .ok (.getfield 22, 3) := by decide +kernel
theorem d_Bc_sendReadyIfDue_61 : decode m_Bc_sendReadyIfDue.2.1 61 = .ok (.iconst 2, 1) := by decide +kernel
theorem d_Bc_sendReadyIfDue_62 : decode m_Bc_sendReadyIfDue.2.1 62 = .ok (.invokevirtual 101, 3) := by decide +kernel
theorem d_Bc_sendReadyIfDue_65 : decode m_Bc_sendReadyIfDue.2.1 65 = .ok (.istore_n 2, 1) := by decide +kernel
theorem d_Bc_sendReadyIfDue_66 : decode m_Bc_sendReadyIfDue.2.1 66 = .ok (.iload_n 2, 1) := by decide +kernel
theorem d_Bc_sendReadyIfDue_67 : decode m_Bc_sendReadyIfDue.2.1 67 = .ok (.iconst (-1), 1) := by decide +kernel
theorem d_Bc_sendReadyIfDue_68 : decode m_Bc_sendReadyIfDue.2.1 68 = .ok (.if_icmp .eq 16, 3) := by decide +kernel
theorem d_Bc_sendReadyIfDue_71 : decode m_Bc_sendReadyIfDue.2.1 71 = .ok (.aload_n 0, 1) := by decide +kernel
theorem d_Bc_sendReadyIfDue_72 : decode m_Bc_sendReadyIfDue.2.1 72 = .ok (.aload_n 0, 1) := by decide +kernel
theorem d_Bc_sendReadyIfDue_73 : decode m_Bc_sendReadyIfDue.2.1 73 = .ok (.getfield 22, 3) := by decide +kernel
theorem d_Bc_sendReadyIfDue_76 : decode m_Bc_sendReadyIfDue.2.1 76 = .ok (.getfield 105, 3) := by decide +kernel
theorem d_Bc_sendReadyIfDue_79 : decode m_Bc_sendReadyIfDue.2.1 79 = .ok (.iload_n 2, 1) := by decide +kernel
theorem d_Bc_sendReadyIfDue_80 : decode m_Bc_sendReadyIfDue.2.1 80 = .ok (.iaload, 1) := by decide +kernel
theorem d_Bc_sendReadyIfDue_81 : decode m_Bc_sendReadyIfDue.2.1 81 = .ok (.invokevirtual 117, 3) := by decide +kernel
theorem d_Bc_sendReadyIfDue_84 : decode m_Bc_sendReadyIfDue.2.1 84 = .ok (.return_, 1) := by decide +kernel
theorem d_Rt_leastOfShared_0 : decode m_Rt_leastOfShared.2.1 0 = .ok (.iconst 0, 1) := by decide +kernel
theorem d_Rt_leastOfShared_1 : decode m_Rt_leastOfShared.2.1 1 = .ok (.istore_n 2, 1) := by decide +kernel
theorem d_Rt_leastOfShared_2 : decode m_Rt_leastOfShared.2.1 2 = .ok (.iload_n 2, 1) := by decide +kernel
theorem d_Rt_leastOfShared_3 : decode m_Rt_leastOfShared.2.1 3 = .ok (.iconst 4, 1) := by decide +kernel
theorem d_Rt_leastOfShared_4 : decode m_Rt_leastOfShared.2.1 4 = .ok (.if_icmp .ge 36, 3) := by decide +kernel
theorem d_Rt_leastOfShared_7 : decode m_Rt_leastOfShared.2.1 7 = .ok (.aload_n 0, 1) := by decide +kernel
theorem d_Rt_leastOfShared_8 : decode m_Rt_leastOfShared.2.1 8 = .ok (.iload_n 2, 1) := by decide +kernel
theorem d_Rt_leastOfShared_9 : decode m_Rt_leastOfShared.2.1 9 = .ok (.invokevirtual 19, 3) := by decide +kernel
theorem d_Rt_leastOfShared_12 : decode m_Rt_leastOfShared.2.1 12 = .ok (.ifCond .eq 22, 3) := by decide +kernel
theorem d_Rt_leastOfShared_15 : decode m_Rt_leastOfShared.2.1 15 = .ok (.aload_n 0, 1) := by decide +kernel
theorem d_Rt_leastOfShared_16 : decode m_Rt_leastOfShared.2.1 16 = .ok (.aload_n 0, 1) := by decide +kernel
theorem d_Rt_leastOfShared_17 : decode m_Rt_leastOfShared.2.1 17 = .ok (.getfield 9, 3) := by decide +kernel
theorem d_Rt_leastOfShared_20 : decode m_Rt_leastOfShared.2.1 20 = .ok (.iload_n 2, 1) := by decide +kernel
theorem d_Rt_leastOfShared_21 : decode m_Rt_leastOfShared.2.1 21 = .ok (.iaload, 1) := by decide +kernel
theorem d_Rt_leastOfShared_22 : decode m_Rt_leastOfShared.2.1 22 = .ok (.invokevirtual 23, 3) := by decide +kernel
theorem d_Rt_leastOfShared_25 : decode m_Rt_leastOfShared.2.1 25 = .ok (.invokestatic 27, 3) := by decide +kernel
theorem d_Rt_leastOfShared_28 : decode m_Rt_leastOfShared.2.1 28 = .ok (.iload_n 1, 1) := by decide +kernel
theorem d_Rt_leastOfShared_29 : decode m_Rt_leastOfShared.2.1 29 = .ok (.if_icmp .lt 5, 3) := by decide +kernel
theorem d_Rt_leastOfShared_32 : decode m_Rt_leastOfShared.2.1 32 = .ok (.iload_n 2, 1) := by decide +kernel
theorem d_Rt_leastOfShared_33 : decode m_Rt_leastOfShared.2.1 33 = .ok (.ireturn, 1) := by decide +kernel
theorem d_Rt_leastOfShared_34 : decode m_Rt_leastOfShared.2.1 34 = .ok (.iinc 2 1, 3) := by decide +kernel
theorem d_Rt_leastOfShared_37 : decode m_Rt_leastOfShared.2.1 37 = .ok (.goto (-35), 3) := by decide +kernel
theorem d_Rt_leastOfShared_40 : decode m_Rt_leastOfShared.2.1 40 = .ok (.iconst (-1), 1) := by decide +kernel
theorem d_Rt_leastOfShared_41 : decode m_Rt_leastOfShared.2.1 41 = .ok (.ireturn, 1) := by decide +kernel
theorem d_Rt_isFrom_0 : decode m_Rt_isFrom.2.1 0 = .ok (.aload_n 0, 1) := by decide +kernel
theorem d_Rt_isFrom_1 : decode m_Rt_isFrom.2.1 1 = .ok (.getfield 15, 3) := by decide +kernel
theorem d_Rt_isFrom_4 : decode m_Rt_isFrom.2.1 4 = .ok (.iload_n 1, 1) := by decide +kernel
theorem d_Rt_isFrom_5 : decode m_Rt_isFrom.2.1 5 = .ok (.ishr, 1) := by decide +kernel
theorem d_Rt_isFrom_6 : decode m_Rt_isFrom.2.1 6 = .ok (.iconst 1, 1) := by decide +kernel
theorem d_Rt_isFrom_7 : decode m_Rt_isFrom.2.1 7 = .ok (.iand, 1) := by decide +kernel
theorem d_Rt_isFrom_8 : decode m_Rt_isFrom.2.1 8 = .ok (.iconst 1, 1) := by decide +kernel
theorem d_Rt_isFrom_9 : decode m_Rt_isFrom.2.1 9 = .ok (.if_icmp .ne 7, 3) := by decide +kernel
theorem d_Rt_isFrom_12 : decode m_Rt_isFrom.2.1 12 = .ok (.iconst 1, 1) := by decide +kernel
theorem d_Rt_isFrom_13 : decode m_Rt_isFrom.2.1 13 = .ok (.goto 4, 3) := by decide +kernel
theorem d_Rt_isFrom_16 : decode m_Rt_isFrom.2.1 16 = .ok (.iconst 0, 1) := by decide +kernel
theorem d_Rt_isFrom_17 : decode m_Rt_isFrom.2.1 17 = .ok (.ireturn, 1) := by decide +kernel
theorem d_Rt_sendersOf_0 : decode m_Rt_sendersOf.2.1 0 = .ok (.iconst 0, 1) := by decide +kernel
theorem d_Rt_sendersOf_1 : decode m_Rt_sendersOf.2.1 1 = .ok (.istore_n 2, 1) := by decide +kernel
theorem d_Rt_sendersOf_2 : decode m_Rt_sendersOf.2.1 2 = .ok (.iconst 0, 1) := by decide +kernel
theorem d_Rt_sendersOf_3 : decode m_Rt_sendersOf.2.1 3 = .ok (.istore_n 3, 1) := by decide +kernel
theorem d_Rt_sendersOf_4 : decode m_Rt_sendersOf.2.1 4 = .ok (.iload_n 3, 1) := by decide +kernel
theorem d_Rt_sendersOf_5 : decode m_Rt_sendersOf.2.1 5 = .ok (.iconst 4, 1) := by decide +kernel
theorem d_Rt_sendersOf_6 : decode m_Rt_sendersOf.2.1 6 = .ok (.if_icmp .ge 33, 3) := by decide +kernel
theorem d_Rt_sendersOf_9 : decode m_Rt_sendersOf.2.1 9 = .ok (.aload_n 0, 1) := by decide +kernel
theorem d_Rt_sendersOf_10 : decode m_Rt_sendersOf.2.1 10 = .ok (.iload_n 3, 1) := by decide +kernel
theorem d_Rt_sendersOf_11 : decode m_Rt_sendersOf.2.1 11 = .ok (.invokevirtual 19, 3) := by decide +kernel
theorem d_Rt_sendersOf_14 : decode m_Rt_sendersOf.2.1 14 = .ok (.ifCond .eq 19, 3) := by decide +kernel
theorem d_Rt_sendersOf_17 : decode m_Rt_sendersOf.2.1 17 = .ok (.aload_n 0, 1) := by decide +kernel
theorem d_Rt_sendersOf_18 : decode m_Rt_sendersOf.2.1 18 = .ok (.getfield 9, 3) := by decide +kernel
theorem d_Rt_sendersOf_21 : decode m_Rt_sendersOf.2.1 21 = .ok (.iload_n 3, 1) := by decide +kernel
theorem d_Rt_sendersOf_22 : decode m_Rt_sendersOf.2.1 22 = .ok (.iaload, 1) := by decide +kernel
theorem d_Rt_sendersOf_23 : decode m_Rt_sendersOf.2.1 23 = .ok (.iload_n 1, 1) := by decide +kernel
theorem d_Rt_sendersOf_24 : decode m_Rt_sendersOf.2.1 24 = .ok (.if_icmp .ne 9, 3) := by decide +kernel
theorem d_Rt_sendersOf_27 : decode m_Rt_sendersOf.2.1 27 = .ok (.iload_n 2, 1) := by decide +kernel
theorem d_Rt_sendersOf_28 : decode m_Rt_sendersOf.2.1 28 = .ok (.iconst 1, 1) := by decide +kernel
theorem d_Rt_sendersOf_29 : decode m_Rt_sendersOf.2.1 29 = .ok (.iload_n 3, 1) := by decide +kernel
theorem d_Rt_sendersOf_30 : decode m_Rt_sendersOf.2.1 30 = .ok (.ishl, 1) := by decide +kernel
theorem d_Rt_sendersOf_31 : decode m_Rt_sendersOf.2.1 31 = .ok (.ior, 1) := by decide +kernel
theorem d_Rt_sendersOf_32 : decode m_Rt_sendersOf.2.1 32 = .ok (.istore_n 2, 1) := by decide +kernel
theorem d_Rt_sendersOf_33 : decode m_Rt_sendersOf.2.1 33 = .ok (.iinc 3 1, 3) := by decide +kernel
theorem d_Rt_sendersOf_36 : decode m_Rt_sendersOf.2.1 36 = .ok (.goto (-32), 3) := by decide +kernel
theorem d_Rt_sendersOf_39 : decode m_Rt_sendersOf.2.1 39 = .ok (.iload_n 2, 1) := by decide +kernel
theorem d_Rt_sendersOf_40 : decode m_Rt_sendersOf.2.1 40 = .ok (.ireturn, 1) := by decide +kernel
theorem d_It_bitCount_0 : decode m_It_bitCount.2.1 0 = .ok (.iload_n 0, 1) := by decide +kernel
theorem d_It_bitCount_1 : decode m_It_bitCount.2.1 1 = .ok (.iload_n 0, 1) := by decide +kernel
theorem d_It_bitCount_2 : decode m_It_bitCount.2.1 2 = .ok (.iconst 1, 1) := by decide +kernel
theorem d_It_bitCount_3 : decode m_It_bitCount.2.1 3 = .ok (.iushr, 1) := by decide +kernel
theorem d_It_bitCount_4 : decode m_It_bitCount.2.1 4 = .ok (.ldc_w 265, 3) := by decide +kernel
theorem d_It_bitCount_7 : decode m_It_bitCount.2.1 7 = .ok (.iand, 1) := by decide +kernel
theorem d_It_bitCount_8 : decode m_It_bitCount.2.1 8 = .ok (.isub, 1) := by decide +kernel
theorem d_It_bitCount_9 : decode m_It_bitCount.2.1 9 = .ok (.istore_n 0, 1) := by decide +kernel
theorem d_It_bitCount_10 : decode m_It_bitCount.2.1 10 = .ok (.iload_n 0, 1) := by decide +kernel
theorem d_It_bitCount_11 : decode m_It_bitCount.2.1 11 = .ok (.ldc_w 266, 3) := by decide +kernel
theorem d_It_bitCount_14 : decode m_It_bitCount.2.1 14 = .ok (.iand, 1) := by decide +kernel
theorem d_It_bitCount_15 : decode m_It_bitCount.2.1 15 = .ok (.iload_n 0, 1) := by decide +kernel
theorem d_It_bitCount_16 : decode m_It_bitCount.2.1 16 = .ok (.iconst 2, 1) := by decide +kernel
theorem d_It_bitCount_17 : decode m_It_bitCount.2.1 17 = .ok (.iushr, 1) := by decide +kernel
theorem d_It_bitCount_18 : decode m_It_bitCount.2.1 18 = .ok (.ldc_w 266, 3) := by decide +kernel
theorem d_It_bitCount_21 : decode m_It_bitCount.2.1 21 = .ok (.iand, 1) := by decide +kernel
theorem d_It_bitCount_22 : decode m_It_bitCount.2.1 22 = .ok (.iadd, 1) := by decide +kernel
theorem d_It_bitCount_23 : decode m_It_bitCount.2.1 23 = .ok (.istore_n 0, 1) := by decide +kernel
theorem d_It_bitCount_24 : decode m_It_bitCount.2.1 24 = .ok (.iload_n 0, 1) := by decide +kernel
theorem d_It_bitCount_25 : decode m_It_bitCount.2.1 25 = .ok (.iload_n 0, 1) := by decide +kernel
theorem d_It_bitCount_26 : decode m_It_bitCount.2.1 26 = .ok (.iconst 4, 1) := by decide +kernel
theorem d_It_bitCount_27 : decode m_It_bitCount.2.1 27 = .ok (.iushr, 1) := by decide +kernel
theorem d_It_bitCount_28 : decode m_It_bitCount.2.1 28 = .ok (.iadd, 1) := by decide +kernel
theorem d_It_bitCount_29 : decode m_It_bitCount.2.1 29 = .ok (.ldc_w 267, 3) := by decide +kernel
theorem d_It_bitCount_32 : decode m_It_bitCount.2.1 32 = .ok (.iand, 1) := by decide +kernel
theorem d_It_bitCount_33 : decode m_It_bitCount.2.1 33 = .ok (.istore_n 0, 1) := by decide +kernel
theorem d_It_bitCount_34 : decode m_It_bitCount.2.1 34 = .ok (.iload_n 0, 1) := by decide +kernel
theorem d_It_bitCount_35 : decode m_It_bitCount.2.1 35 = .ok (.iload_n 0, 1) := by decide +kernel
theorem d_It_bitCount_36 : decode m_It_bitCount.2.1 36 = .ok (.bipush 8, 2) := by decide +kernel
theorem d_It_bitCount_38 : decode m_It_bitCount.2.1 38 = .ok (.iushr, 1) := by decide +kernel
theorem d_It_bitCount_39 : decode m_It_bitCount.2.1 39 = .ok (.iadd, 1) := by decide +kernel
theorem d_It_bitCount_40 : decode m_It_bitCount.2.1 40 = .ok (.istore_n 0, 1) := by decide +kernel
theorem d_It_bitCount_41 : decode m_It_bitCount.2.1 41 = .ok (.iload_n 0, 1) := by decide +kernel
theorem d_It_bitCount_42 : decode m_It_bitCount.2.1 42 = .ok (.iload_n 0, 1) := by decide +kernel
theorem d_It_bitCount_43 : decode m_It_bitCount.2.1 43 = .ok (.bipush 16, 2) := by decide +kernel
theorem d_It_bitCount_45 : decode m_It_bitCount.2.1 45 = .ok (.iushr, 1) := by decide +kernel
theorem d_It_bitCount_46 : decode m_It_bitCount.2.1 46 = .ok (.iadd, 1) := by decide +kernel
theorem d_It_bitCount_47 : decode m_It_bitCount.2.1 47 = .ok (.istore_n 0, 1) := by decide +kernel
theorem d_It_bitCount_48 : decode m_It_bitCount.2.1 48 = .ok (.iload_n 0, 1) := by decide +kernel
theorem d_It_bitCount_49 : decode m_It_bitCount.2.1 49 = .ok (.bipush 63, 2) := by decide +kernel
theorem d_It_bitCount_51 : decode m_It_bitCount.2.1 51 = .ok (.iand, 1) := by decide +kernel
theorem d_It_bitCount_52 : decode m_It_bitCount.2.1 52 = .ok (.ireturn, 1) := by decide +kernel
theorem d_Bc_proposalOf_0 : decode m_Bc_proposalOf.2.1 0 = .ok (.iconst (-1), 1) := by decide +kernel
theorem d_Bc_proposalOf_1 : decode m_Bc_proposalOf.2.1 1 = .ok (.istore_n 2, 1) := by decide +kernel
theorem d_Bc_proposalOf_2 : decode m_Bc_proposalOf.2.1 2 = .ok (.iconst 0, 1) := by decide +kernel
theorem d_Bc_proposalOf_3 : decode m_Bc_proposalOf.2.1 3 = .ok (.istore_n 3, 1) := by decide +kernel
theorem d_Bc_proposalOf_4 : decode m_Bc_proposalOf.2.1 4 = .ok (.iload_n 3, 1) := by decide +kernel
theorem d_Bc_proposalOf_5 : decode m_Bc_proposalOf.2.1 5 = .ok (.iconst 4, 1) := by decide +kernel
theorem d_Bc_proposalOf_6 : decode m_Bc_proposalOf.2.1 6 = .ok (.if_icmp .ge 43, 3) := by decide +kernel
theorem d_Bc_proposalOf_9 : decode m_Bc_proposalOf.2.1 9 = .ok (.iload_n 1, 1) := by decide +kernel
theorem d_Bc_proposalOf_10 : decode m_Bc_proposalOf.2.1 10 = .ok (.iload_n 3, 1) := by decide +kernel
theorem d_Bc_proposalOf_11 : decode m_Bc_proposalOf.2.1 11 = .ok (.ishr, 1) := by decide +kernel
theorem d_Bc_proposalOf_12 : decode m_Bc_proposalOf.2.1 12 = .ok (.iconst 1, 1) := by decide +kernel
theorem d_Bc_proposalOf_13 : decode m_Bc_proposalOf.2.1 13 = .ok (.iand, 1) := by decide +kernel
theorem d_Bc_proposalOf_14 : decode m_Bc_proposalOf.2.1 14 = .ok (.iconst 1, 1) := by decide +kernel
theorem d_Bc_proposalOf_15 : decode m_Bc_proposalOf.2.1 15 = .ok (.if_icmp .ne 28, 3) := by decide +kernel
theorem d_Bc_proposalOf_18 : decode m_Bc_proposalOf.2.1 18 = .ok (.iload_n 2, 1) := by decide +kernel
theorem d_Bc_proposalOf_19 : decode m_Bc_proposalOf.2.1 19 = .ok (.iconst (-1), 1) := by decide +kernel
theorem d_Bc_proposalOf_20 : decode m_Bc_proposalOf.2.1 20 = .ok (.if_icmp .eq 21, 3) := by decide +kernel
theorem d_Bc_proposalOf_23 : decode m_Bc_proposalOf.2.1 23 = .ok (.iload_n 2, 1) := by decide +kernel
theorem d_Bc_proposalOf_24 : decode m_Bc_proposalOf.2.1 24 = .ok (.aload_n 0, 1) := by decide +kernel
theorem d_Bc_proposalOf_25 : decode m_Bc_proposalOf.2.1 25 = .ok (.getfield 18, 3) := by decide +kernel
theorem d_Bc_proposalOf_28 : decode m_Bc_proposalOf.2.1 28 = .ok (.iload_n 2, 1) := by decide +kernel
theorem d_Bc_proposalOf_29 : decode m_Bc_proposalOf.2.1 29 = .ok (.iaload, 1) := by decide +kernel
theorem d_Bc_proposalOf_30 : decode m_Bc_proposalOf.2.1 30 = .ok (.iload_n 3, 1) := by decide +kernel
theorem d_Bc_proposalOf_31 : decode m_Bc_proposalOf.2.1 31 = .ok (.aload_n 0, 1) := by decide +kernel
theorem d_Bc_proposalOf_32 : decode m_Bc_proposalOf.2.1 32 = .ok (.getfield 18, 3) := by decide +kernel
theorem d_Bc_proposalOf_35 : decode m_Bc_proposalOf.2.1 35 = .ok (.iload_n 3, 1) := by decide +kernel
theorem d_Bc_proposalOf_36 : decode m_Bc_proposalOf.2.1 36 = .ok (.iaload, 1) := by decide +kernel
theorem d_Bc_proposalOf_37 : decode m_Bc_proposalOf.2.1 37 = .ok (.invokestatic 126, 3) := by decide +kernel
theorem d_Bc_proposalOf_40 : decode m_Bc_proposalOf.2.1 40 = .ok (.ireturn, 1) := by decide +kernel
theorem d_Bc_proposalOf_41 : decode m_Bc_proposalOf.2.1 41 = .ok (.iload_n 3, 1) := by decide +kernel
theorem d_Bc_proposalOf_42 : decode m_Bc_proposalOf.2.1 42 = .ok (.istore_n 2, 1) := by decide +kernel
theorem d_Bc_proposalOf_43 : decode m_Bc_proposalOf.2.1 43 = .ok (.iinc 3 1, 3) := by decide +kernel
theorem d_Bc_proposalOf_46 : decode m_Bc_proposalOf.2.1 46 = .ok (.goto (-42), 3) := by decide +kernel
theorem d_Bc_proposalOf_49 : decode m_Bc_proposalOf.2.1 49 = .ok (.iconst 0, 1) := by decide +kernel
theorem d_Bc_proposalOf_50 : decode m_Bc_proposalOf.2.1 50 = .ok (.ireturn, 1) := by decide +kernel
theorem d_Co_proposalWith_0 : decode m_Co_proposalWith.2.1 0 = .ok (.getstatic 29, 3) := by decide +kernel
theorem d_Co_proposalWith_3 : decode m_Co_proposalWith.2.1 3 = .ok (.iload_n 0, 1) := by decide +kernel
theorem d_Co_proposalWith_4 : decode m_Co_proposalWith.2.1 4 = .ok (.iload_n 2, 1) := by decide +kernel
theorem d_Co_proposalWith_5 : decode m_Co_proposalWith.2.1 5 = .ok (.ixor, 1) := by decide +kernel
theorem d_Co_proposalWith_6 : decode m_Co_proposalWith.2.1 6 = .ok (.iconst 3, 1) := by decide +kernel
theorem d_Co_proposalWith_7 : decode m_Co_proposalWith.2.1 7 = .ok (.iand, 1) := by decide +kernel
theorem d_Co_proposalWith_8 : decode m_Co_proposalWith.2.1 8 = .ok (.iaload, 1) := by decide +kernel
theorem d_Co_proposalWith_9 : decode m_Co_proposalWith.2.1 9 = .ok (.iload_n 1, 1) := by decide +kernel
theorem d_Co_proposalWith_10 : decode m_Co_proposalWith.2.1 10 = .ok (.iload_n 3, 1) := by decide +kernel
theorem d_Co_proposalWith_11 : decode m_Co_proposalWith.2.1 11 = .ok (.ixor, 1) := by decide +kernel
theorem d_Co_proposalWith_12 : decode m_Co_proposalWith.2.1 12 = .ok (.invokestatic 11, 3) := by decide +kernel
theorem d_Co_proposalWith_15 : decode m_Co_proposalWith.2.1 15 = .ok (.istore 4, 2) := by decide +kernel
theorem d_Co_proposalWith_17 : decode m_Co_proposalWith.2.1 17 = .ok (.iload_n 1, 1) := by decide +kernel
theorem d_Co_proposalWith_18 : decode m_Co_proposalWith.2.1 18 = .ok (.iload_n 0, 1) := by decide +kernel
theorem d_Co_proposalWith_19 : decode m_Co_proposalWith.2.1 19 = .ok (.iload 4, 2) := by decide +kernel
theorem d_Co_proposalWith_21 : decode m_Co_proposalWith.2.1 21 = .ok (.invokestatic 11, 3) := by decide +kernel
theorem d_Co_proposalWith_24 : decode m_Co_proposalWith.2.1 24 = .ok (.ixor, 1) := by decide +kernel
theorem d_Co_proposalWith_25 : decode m_Co_proposalWith.2.1 25 = .ok (.istore 5, 2) := by decide +kernel
theorem d_Co_proposalWith_27 : decode m_Co_proposalWith.2.1 27 = .ok (.iload 5, 2) := by decide +kernel
theorem d_Co_proposalWith_29 : decode m_Co_proposalWith.2.1 29 = .ok (.iload 5, 2) := by decide +kernel
theorem d_Co_proposalWith_31 : decode m_Co_proposalWith.2.1 31 = .ok (.iload 4, 2) := by decide +kernel
theorem d_Co_proposalWith_33 : decode m_Co_proposalWith.2.1 33 = .ok (.ixor, 1) := by decide +kernel
theorem d_Co_proposalWith_34 : decode m_Co_proposalWith.2.1 34 = .ok (.invokestatic 33, 3) := by decide +kernel
theorem d_Co_proposalWith_37 : decode m_Co_proposalWith.2.1 37 = .ok (.ireturn, 1) := by decide +kernel
theorem d_Bc_sendReady_0 : decode m_Bc_sendReady.2.1 0 = .ok (.aload_n 0, 1) := by decide +kernel
theorem d_Bc_sendReady_1 : decode m_Bc_sendReady.2.1 1 = .ok (.iconst 1, 1) := by decide +kernel
theorem d_Bc_sendReady_2 : decode m_Bc_sendReady.2.1 2 = .ok (.putfield 98, 3) := by decide +kernel
theorem d_Bc_sendReady_5 : decode m_Bc_sendReady.2.1 5 = .ok (.aload_n 0, 1) := by decide +kernel
theorem d_Bc_sendReady_6 : decode m_Bc_sendReady.2.1 6 = .ok (.getfield 29, 3) := by decide +kernel
theorem d_Bc_sendReady_9 : decode m_Bc_sendReady.2.1 9 = .ok (.new 43, 3) := by decide +kernel
theorem d_Bc_sendReady_12 : decode m_Bc_sendReady.2.1 12 = .ok (.dup, 1) := by decide +kernel
theorem d_Bc_sendReady_13 : decode m_Bc_sendReady.2.1 13 = .ok (.aload_n 0, 1) := by decide +kernel
theorem d_Bc_sendReady_14 : decode m_Bc_sendReady.2.1 14 = .ok (.getfield 33, 3) := by decide +kernel
theorem d_Bc_sendReady_17 : decode m_Bc_sendReady.2.1 17 = .ok (.aload_n 0, 1) := by decide +kernel
theorem d_Bc_sendReady_18 : decode m_Bc_sendReady.2.1 18 = .ok (.getfield 36, 3) := by decide +kernel
theorem d_Bc_sendReady_21 : decode m_Bc_sendReady.2.1 21 = .ok (.aload_n 0, 1) := by decide +kernel
theorem d_Bc_sendReady_22 : decode m_Bc_sendReady.2.1 22 = .ok (.getfield 39, 3) := by decide +kernel
theorem d_Bc_sendReady_25 : decode m_Bc_sendReady.2.1 25 = .ok (.iconst 2, 1) := by decide +kernel
theorem d_Bc_sendReady_26 : decode m_Bc_sendReady.2.1 26 = .ok (.iload_n 1, 1) := by decide +kernel
theorem d_Bc_sendReady_27 : decode m_Bc_sendReady.2.1 27 = .ok (.iconst 0, 1) := by decide +kernel
theorem d_Bc_sendReady_28 : decode m_Bc_sendReady.2.1 28 = .ok (.invokespecial 90, 3) := by decide +kernel
theorem d_Bc_sendReady_31 : decode m_Bc_sendReady.2.1 31 = .ok (.invokevirtual 93, 3) := by decide +kernel
theorem d_Bc_sendReady_34 : decode m_Bc_sendReady.2.1 34 = .ok (.return_, 1) := by decide +kernel
theorem d_Bc_takeProposalIfDue_0 : decode m_Bc_takeProposalIfDue.2.1 0 = .ok (.aload_n 0, 1) := by decide +kernel
theorem d_Bc_takeProposalIfDue_1 : decode m_Bc_takeProposalIfDue.2.1 1 = .ok (.getfield 25, 3) := by decide +kernel
theorem d_Bc_takeProposalIfDue_4 : decode m_Bc_takeProposalIfDue.2.1 4 = .ok (.iconst (-1), 1) := by decide +kernel
theorem d_Bc_takeProposalIfDue_5 : decode m_Bc_takeProposalIfDue.2.1 5 = .ok (.if_icmp .eq 4, 3) := by decide +kernel
theorem d_Bc_takeProposalIfDue_8 : decode m_Bc_takeProposalIfDue.2.1 8 = .ok (.return_, 1) := by decide +kernel
theorem d_Bc_takeProposalIfDue_9 : decode m_Bc_takeProposalIfDue.2.1 9 = .ok (.aload_n 0, 1) := by decide +kernel
theorem d_Bc_takeProposalIfDue_10 : decode m_Bc_takeProposalIfDue.2.1 10 = .ok (.getfield 22, 3) := by decide +kernel
theorem d_Bc_takeProposalIfDue_13 : decode m_Bc_takeProposalIfDue.2.1 13 = .ok (.iconst 3, 1) := by decide +kernel
theorem d_Bc_takeProposalIfDue_14 : decode m_Bc_takeProposalIfDue.2.1 14 = .ok (.invokevirtual 101, 3) := by decide +kernel
theorem d_Bc_takeProposalIfDue_17 : decode m_Bc_takeProposalIfDue.2.1 17 = .ok (.istore_n 1, 1) := by decide +kernel
theorem d_Bc_takeProposalIfDue_18 : decode m_Bc_takeProposalIfDue.2.1 18 = .ok (.iload_n 1, 1) := by decide +kernel
theorem d_Bc_takeProposalIfDue_19 : decode m_Bc_takeProposalIfDue.2.1 19 = .ok (.iconst (-1), 1) := by decide +kernel
theorem d_Bc_takeProposalIfDue_20 : decode m_Bc_takeProposalIfDue.2.1 20 = .ok (.if_icmp .ne 4, 3) := by decide +kernel
theorem d_Bc_takeProposalIfDue_23 : decode m_Bc_takeProposalIfDue.2.1 23 = .ok (.return_, 1) := by decide +kernel
theorem d_Bc_takeProposalIfDue_24 : decode m_Bc_takeProposalIfDue.2.1 24 = .ok (.aload_n 0, 1) := by decide +kernel
theorem d_Bc_takeProposalIfDue_25 : decode m_Bc_takeProposalIfDue.2.1 25 = .ok (.getfield 22, 3) := by decide +kernel
theorem d_Bc_takeProposalIfDue_28 : decode m_Bc_takeProposalIfDue.2.1 28 = .ok (.getfield 105, 3) := by decide +kernel
theorem d_Bc_takeProposalIfDue_31 : decode m_Bc_takeProposalIfDue.2.1 31 = .ok (.iload_n 1, 1) := by decide +kernel
theorem d_Bc_takeProposalIfDue_32 : decode m_Bc_takeProposalIfDue.2.1 32 = .ok (.iaload, 1) := by decide +kernel
theorem d_Bc_takeProposalIfDue_33 : decode m_Bc_takeProposalIfDue.2.1 33 = .ok (.istore_n 2, 1) := by decide +kernel
theorem d_Bc_takeProposalIfDue_34 : decode m_Bc_takeProposalIfDue.2.1 34 = .ok (.aload_n 0, 1) := by decide +kernel
theorem d_Bc_takeProposalIfDue_35 : decode m_Bc_takeProposalIfDue.2.1 35 = .ok (.getfield 12, 3) := by decide +kernel
theorem d_Bc_takeProposalIfDue_38 : decode m_Bc_takeProposalIfDue.2.1 38 = .ok (.iload_n 2, 1) := by decide +kernel
theorem d_Bc_takeProposalIfDue_39 : decode m_Bc_takeProposalIfDue.2.1 39 = .ok (.invokevirtual 108, 3) := by decide +kernel
theorem d_Bc_takeProposalIfDue_42 : decode m_Bc_takeProposalIfDue.2.1 42 = .ok (.istore_n 3, 1) := by decide +kernel
theorem d_Bc_takeProposalIfDue_43 : decode m_Bc_takeProposalIfDue.2.1 43 = .ok (.iload_n 3, 1) := by decide +kernel
theorem d_Bc_takeProposalIfDue_44 : decode m_Bc_takeProposalIfDue.2.1 44 = .ok (.invokestatic 121, 3) := by decide +kernel
theorem d_Bc_takeProposalIfDue_47 : decode m_Bc_takeProposalIfDue.2.1 47 = .ok (.iconst 2, 1) := by decide +kernel
theorem d_Bc_takeProposalIfDue_48 : decode m_Bc_takeProposalIfDue.2.1 48 = .ok (.if_icmp .lt 29, 3) := by decide +kernel
theorem d_Bc_takeProposalIfDue_51 : decode m_Bc_takeProposalIfDue.2.1 51 = .ok (.aload_n 0, 1) := by decide +kernel
theorem d_Bc_takeProposalIfDue_52 : decode m_Bc_takeProposalIfDue.2.1 52 = .ok (.iload_n 3, 1) := by decide +kernel
theorem d_Bc_takeProposalIfDue_53 : decode m_Bc_takeProposalIfDue.2.1 53 = .ok (.invokevirtual 111, 3) := by decide +kernel
theorem d_Bc_takeProposalIfDue_56 : decode m_Bc_takeProposalIfDue.2.1 56 = .ok (.istore 4, 2) := by decide +kernel
theorem d_Bc_takeProposalIfDue_58 : decode m_Bc_takeProposalIfDue.2.1 58 = .ok (.aload_n 0, 1) := by decide +kernel
theorem d_Bc_takeProposalIfDue_59 : decode m_Bc_takeProposalIfDue.2.1 59 = .ok (.iload 4, 2) := by decide +kernel
theorem d_Bc_takeProposalIfDue_61 : decode m_Bc_takeProposalIfDue.2.1 61 = .ok (.invokestatic 114, 3) := by decide +kernel
theorem d_Bc_takeProposalIfDue_64 : decode m_Bc_takeProposalIfDue.2.1 64 = .ok (.iload_n 2, 1) := by decide +kernel
theorem d_Bc_takeProposalIfDue_65 : decode m_Bc_takeProposalIfDue.2.1 65 = .ok (.if_icmp .ne 8, 3) := by decide +kernel
theorem d_Bc_takeProposalIfDue_68 : decode m_Bc_takeProposalIfDue.2.1 68 = .ok (.iload 4, 2) := by decide +kernel
theorem d_Bc_takeProposalIfDue_70 : decode m_Bc_takeProposalIfDue.2.1 70 = .ok (.goto 4, 3) := by decide +kernel
theorem d_Bc_takeProposalIfDue_73 : decode m_Bc_takeProposalIfDue.2.1 73 = .ok (.iconst 0, 1) := by decide +kernel
theorem d_Bc_takeProposalIfDue_74 : decode m_Bc_takeProposalIfDue.2.1 74 = .ok (.putfield 25, 3) := by decide +kernel
theorem d_Bc_takeProposalIfDue_77 : decode m_Bc_takeProposalIfDue.2.1 77 = .ok (.return_, 1) := by decide +kernel
theorem d_Ag_giveInput_0 : decode m_Ag_giveInput.2.1 0 = .ok (.aload_n 0, 1) := by decide +kernel
theorem d_Ag_giveInput_1 : decode m_Ag_giveInput.2.1 1 = .ok (.invokevirtual 58, 3) := by decide +kernel
theorem d_Ag_giveInput_4 : decode m_Ag_giveInput.2.1 4 = .ok (.ifCond .ne 13, 3) := by decide +kernel
theorem d_Ag_giveInput_7 : decode m_Ag_giveInput.2.1 7 = .ok (.aload_n 0, 1) := by decide +kernel
theorem d_Ag_giveInput_8 : decode m_Ag_giveInput.2.1 8 = .ok (.iconst 0, 1) := by decide +kernel
theorem d_Ag_giveInput_9 : decode m_Ag_giveInput.2.1 9 = .ok (.putfield 18, 3) := by decide +kernel
theorem d_Ag_giveInput_12 : decode m_Ag_giveInput.2.1 12 = .ok (.aload_n 0, 1) := by decide +kernel
theorem d_Ag_giveInput_13 : decode m_Ag_giveInput.2.1 13 = .ok (.iload_n 1, 1) := by decide +kernel
theorem d_Ag_giveInput_14 : decode m_Ag_giveInput.2.1 14 = .ok (.putfield 22, 3) := by decide +kernel
theorem d_Ag_giveInput_17 : decode m_Ag_giveInput.2.1 17 = .ok (.return_, 1) := by decide +kernel
theorem d_Ag_hasInput_0 : decode m_Ag_hasInput.2.1 0 = .ok (.aload_n 0, 1) := by decide +kernel
theorem d_Ag_hasInput_1 : decode m_Ag_hasInput.2.1 1 = .ok (.getfield 18, 3) := by decide +kernel
theorem d_Ag_hasInput_4 : decode m_Ag_hasInput.2.1 4 = .ok (.iconst (-1), 1) := by decide +kernel
theorem d_Ag_hasInput_5 : decode m_Ag_hasInput.2.1 5 = .ok (.if_icmp .eq 7, 3) := by decide +kernel
theorem d_Ag_hasInput_8 : decode m_Ag_hasInput.2.1 8 = .ok (.iconst 1, 1) := by decide +kernel
theorem d_Ag_hasInput_9 : decode m_Ag_hasInput.2.1 9 = .ok (.goto 4, 3) := by decide +kernel
theorem d_Ag_hasInput_12 : decode m_Ag_hasInput.2.1 12 = .ok (.iconst 0, 1) := by decide +kernel
theorem d_Ag_hasInput_13 : decode m_Ag_hasInput.2.1 13 = .ok (.ireturn, 1) := by decide +kernel
theorem d_Ag_goOn_0 : decode m_Ag_goOn.2.1 0 = .ok (.iconst 0, 1) := by decide +kernel
theorem d_Ag_goOn_1 : decode m_Ag_goOn.2.1 1 = .ok (.istore_n 1, 1) := by decide +kernel
theorem d_Ag_goOn_2 : decode m_Ag_goOn.2.1 2 = .ok (.iload_n 1, 1) := by decide +kernel
theorem d_Ag_goOn_3 : decode m_Ag_goOn.2.1 3 = .ok (.bipush 6, 2) := by decide +kernel
theorem d_Ag_goOn_5 : decode m_Ag_goOn.2.1 5 = .ok (.if_icmp .ge 105, 3) := by decide +kernel
theorem d_Ag_goOn_8 : decode m_Ag_goOn.2.1 8 = .ok (.aload_n 0, 1) := by decide +kernel
theorem d_Ag_goOn_9 : decode m_Ag_goOn.2.1 9 = .ok (.invokevirtual 58, 3) := by decide +kernel
theorem d_Ag_goOn_12 : decode m_Ag_goOn.2.1 12 = .ok (.ifCond .eq 98, 3) := by decide +kernel
theorem d_Ag_goOn_15 : decode m_Ag_goOn.2.1 15 = .ok (.aload_n 0, 1) := by decide +kernel
theorem d_Ag_goOn_16 : decode m_Ag_goOn.2.1 16 = .ok (.getfield 62, 3) := by decide +kernel
theorem d_Ag_goOn_19 : decode m_Ag_goOn.2.1 19 = .ok (.ifCond .ne 91, 3) := by decide +kernel
theorem d_Ag_goOn_22 : decode m_Ag_goOn.2.1 22 = .ok (.aload_n 0, 1) := by decide +kernel
theorem d_Ag_goOn_23 : decode m_Ag_goOn.2.1 23 = .ok (.aload_n 0, 1) := by decide +kernel
theorem d_Ag_goOn_24 : decode m_Ag_goOn.2.1 24 = .ok (.getfield 22, 3) := by decide +kernel
theorem d_Ag_goOn_27 : decode m_Ag_goOn.2.1 27 = .ok (.invokevirtual 66, 3) := by decide +kernel
theorem d_Ag_goOn_30 : decode m_Ag_goOn.2.1 30 = .ok (.iconst 0, 1) := by decide +kernel
theorem d_Ag_goOn_31 : decode m_Ag_goOn.2.1 31 = .ok (.istore_n 2, 1) := by decide +kernel
theorem d_Ag_goOn_32 : decode m_Ag_goOn.2.1 32 = .ok (.iload_n 2, 1) := by decide +kernel
theorem d_Ag_goOn_33 : decode m_Ag_goOn.2.1 33 = .ok (.iconst 2, 1) := by decide +kernel
theorem d_Ag_goOn_34 : decode m_Ag_goOn.2.1 34 = .ok (.if_icmp .ge 23, 3) := by decide +kernel
theorem d_Ag_goOn_37 : decode m_Ag_goOn.2.1 37 = .ok (.aload_n 0, 1) := by decide +kernel
theorem d_Ag_goOn_38 : decode m_Ag_goOn.2.1 38 = .ok (.iload_n 2, 1) := by decide +kernel
theorem d_Ag_goOn_39 : decode m_Ag_goOn.2.1 39 = .ok (.invokevirtual 70, 3) := by decide +kernel
theorem d_Ag_goOn_42 : decode m_Ag_goOn.2.1 42 = .ok (.iconst 2, 1) := by decide +kernel
theorem d_Ag_goOn_43 : decode m_Ag_goOn.2.1 43 = .ok (.if_icmp .lt 8, 3) := by decide +kernel
theorem d_Ag_goOn_46 : decode m_Ag_goOn.2.1 46 = .ok (.aload_n 0, 1) := by decide +kernel
theorem d_Ag_goOn_47 : decode m_Ag_goOn.2.1 47 = .ok (.iload_n 2, 1) := by decide +kernel
theorem d_Ag_goOn_48 : decode m_Ag_goOn.2.1 48 = .ok (.invokevirtual 66, 3) := by decide +kernel
theorem d_Ag_goOn_51 : decode m_Ag_goOn.2.1 51 = .ok (.iinc 2 1, 3) := by decide +kernel
theorem d_Ag_goOn_54 : decode m_Ag_goOn.2.1 54 = .ok (.goto (-22), 3) := by decide +kernel
theorem d_Ag_goOn_57 : decode m_Ag_goOn.2.1 57 = .ok (.iconst 0, 1) := by decide +kernel
theorem d_Ag_goOn_58 : decode m_Ag_goOn.2.1 58 = .ok (.istore_n 2, 1) := by decide +kernel
theorem d_Ag_goOn_59 : decode m_Ag_goOn.2.1 59 = .ok (.iload_n 2, 1) := by decide +kernel
theorem d_Ag_goOn_60 : decode m_Ag_goOn.2.1 60 = .ok (.iconst 2, 1) := by decide +kernel
theorem d_Ag_goOn_61 : decode m_Ag_goOn.2.1 61 = .ok (.if_icmp .ge 23, 3) := by decide +kernel
theorem d_Ag_goOn_64 : decode m_Ag_goOn.2.1 64 = .ok (.aload_n 0, 1) := by decide +kernel
theorem d_Ag_goOn_65 : decode m_Ag_goOn.2.1 65 = .ok (.iload_n 2, 1) := by decide +kernel
theorem d_Ag_goOn_66 : decode m_Ag_goOn.2.1 66 = .ok (.invokevirtual 70, 3) := by decide +kernel
theorem d_Ag_goOn_69 : decode m_Ag_goOn.2.1 69 = .ok (.iconst 3, 1) := by decide +kernel
theorem d_Ag_goOn_70 : decode m_Ag_goOn.2.1 70 = .ok (.if_icmp .lt 8, 3) := by decide +kernel
theorem d_Ag_goOn_73 : decode m_Ag_goOn.2.1 73 = .ok (.aload_n 0, 1) := by decide +kernel
theorem d_Ag_goOn_74 : decode m_Ag_goOn.2.1 74 = .ok (.iload_n 2, 1) := by decide +kernel
theorem d_Ag_goOn_75 : decode m_Ag_goOn.2.1 75 = .ok (.invokevirtual 74, 3) := by decide +kernel
theorem d_Ag_goOn_78 : decode m_Ag_goOn.2.1 78 = .ok (.iinc 2 1, 3) := by decide +kernel
theorem d_Ag_goOn_81 : decode m_Ag_goOn.2.1 81 = .ok (.goto (-22), 3) := by decide +kernel
theorem d_Ag_goOn_84 : decode m_Ag_goOn.2.1 84 = .ok (.aload_n 0, 1) := by decide +kernel
theorem d_Ag_goOn_85 : decode m_Ag_goOn.2.1 85 = .ok (.iconst 0, 1) := by decide +kernel
theorem d_Ag_goOn_86 : decode m_Ag_goOn.2.1 86 = .ok (.invokevirtual 77, 3) := by decide +kernel
theorem d_Ag_goOn_89 : decode m_Ag_goOn.2.1 89 = .ok (.aload_n 0, 1) := by decide +kernel
theorem d_Ag_goOn_90 : decode m_Ag_goOn.2.1 90 = .ok (.iconst 1, 1) := by decide +kernel
theorem d_Ag_goOn_91 : decode m_Ag_goOn.2.1 91 = .ok (.invokevirtual 77, 3) := by decide +kernel
theorem d_Ag_goOn_94 : decode m_Ag_goOn.2.1 94 = .ok (.iadd, 1) := by decide +kernel
theorem d_Ag_goOn_95 : decode m_Ag_goOn.2.1 95 = .ok (.iconst 3, 1) := by decide +kernel
theorem d_Ag_goOn_96 : decode m_Ag_goOn.2.1 96 = .ok (.if_icmp .ge 4, 3) := by decide +kernel
theorem d_Ag_goOn_99 : decode m_Ag_goOn.2.1 99 = .ok (.return_, 1) := by decide +kernel
theorem d_Ag_goOn_100 : decode m_Ag_goOn.2.1 100 = .ok (.aload_n 0, 1) := by decide +kernel
theorem d_Ag_goOn_101 : decode m_Ag_goOn.2.1 101 = .ok (.invokevirtual 80, 3) := by decide +kernel
theorem d_Ag_goOn_104 : decode m_Ag_goOn.2.1 104 = .ok (.iinc 1 1, 3) := by decide +kernel
theorem d_Ag_goOn_107 : decode m_Ag_goOn.2.1 107 = .ok (.goto (-105), 3) := by decide +kernel
theorem d_Ag_goOn_110 : decode m_Ag_goOn.2.1 110 = .ok (.return_, 1) := by decide +kernel
theorem d_Ag_sendVote_0 : decode m_Ag_sendVote.2.1 0 = .ok (.aload_n 0, 1) := by decide +kernel
theorem d_Ag_sendVote_1 : decode m_Ag_sendVote.2.1 1 = .ok (.getfield 88, 3) := by decide +kernel
theorem d_Ag_sendVote_4 : decode m_Ag_sendVote.2.1 4 = .ok (.iload_n 1, 1) := by decide +kernel
theorem d_Ag_sendVote_5 : decode m_Ag_sendVote.2.1 5 = .ok (.ishr, 1) := by decide +kernel
theorem d_Ag_sendVote_6 : decode m_Ag_sendVote.2.1 6 = .ok (.iconst 1, 1) := by decide +kernel
theorem d_Ag_sendVote_7 : decode m_Ag_sendVote.2.1 7 = .ok (.iand, 1) := by decide +kernel
theorem d_Ag_sendVote_8 : decode m_Ag_sendVote.2.1 8 = .ok (.ifCond .ne 47, 3) := by decide +kernel
theorem d_Ag_sendVote_11 : decode m_Ag_sendVote.2.1 11 = .ok (.aload_n 0, 1) := by decide +kernel
theorem d_Ag_sendVote_12 : decode m_Ag_sendVote.2.1 12 = .ok (.dup, 1) := by decide +kernel
theorem d_Ag_sendVote_13 : decode m_Ag_sendVote.2.1 13 = .ok (.getfield 88, 3) := by decide +kernel
theorem d_Ag_sendVote_16 : decode m_Ag_sendVote.2.1 16 = .ok (.iconst 1, 1) := by decide +kernel
theorem d_Ag_sendVote_17 : decode m_Ag_sendVote.2.1 17 = .ok (.iload_n 1, 1) := by decide +kernel
theorem d_Ag_sendVote_18 : decode m_Ag_sendVote.2.1 18 = .ok (.ishl, 1) := by decide +kernel
theorem d_Ag_sendVote_19 : decode m_Ag_sendVote.2.1 19 = .ok (.ior, 1) := by decide +kernel
theorem d_Ag_sendVote_20 : decode m_Ag_sendVote.2.1 20 = .ok (.putfield 88, 3) := by decide +kernel
theorem d_Ag_sendVote_23 : decode m_Ag_sendVote.2.1 23 = .ok (.aload_n 0, 1) := by decide +kernel
theorem d_Ag_sendVote_24 : decode m_Ag_sendVote.2.1 24 = .ok (.getfield 28, 3) := by decide +kernel
theorem d_Ag_sendVote_27 : decode m_Ag_sendVote.2.1 27 = .ok (.new 45, 3) := by decide +kernel
theorem d_Ag_sendVote_30 : decode m_Ag_sendVote.2.1 30 = .ok (.dup, 1) := by decide +kernel
theorem d_Ag_sendVote_31 : decode m_Ag_sendVote.2.1 31 = .ok (.aload_n 0, 1) := by decide +kernel
theorem d_Ag_sendVote_32 : decode m_Ag_sendVote.2.1 32 = .ok (.getfield 32, 3) := by decide +kernel
theorem d_Ag_sendVote_35 : decode m_Ag_sendVote.2.1 35 = .ok (.aload_n 0, 1) := by decide +kernel
theorem d_Ag_sendVote_36 : decode m_Ag_sendVote.2.1 36 = .ok (.getfield 35, 3) := by decide +kernel
theorem d_Ag_sendVote_39 : decode m_Ag_sendVote.2.1 39 = .ok (.aload_n 0, 1) := by decide +kernel
theorem d_Ag_sendVote_40 : decode m_Ag_sendVote.2.1 40 = .ok (.getfield 38, 3) := by decide +kernel
theorem d_Ag_sendVote_43 : decode m_Ag_sendVote.2.1 43 = .ok (.iconst 3, 1) := by decide +kernel
theorem d_Ag_sendVote_44 : decode m_Ag_sendVote.2.1 44 = .ok (.aload_n 0, 1) := by decide +kernel
theorem d_Ag_sendVote_45 : decode m_Ag_sendVote.2.1 45 = .ok (.getfield 18, 3) := by decide +kernel
theorem d_Ag_sendVote_48 : decode m_Ag_sendVote.2.1 48 = .ok (.iload_n 1, 1) := by decide +kernel
theorem d_Ag_sendVote_49 : decode m_Ag_sendVote.2.1 49 = .ok (.invokespecial 91, 3) := by decide +kernel
theorem d_Ag_sendVote_52 : decode m_Ag_sendVote.2.1 52 = .ok (.invokevirtual 94, 3) := by decide +kernel
theorem d_Ag_sendVote_55 : decode m_Ag_sendVote.2.1 55 = .ok (.return_, 1) := by decide +kernel
theorem d_Ag_voters_0 : decode m_Ag_voters.2.1 0 = .ok (.aload_n 0, 1) := by decide +kernel
theorem d_Ag_voters_1 : decode m_Ag_voters.2.1 1 = .ok (.getfield 9, 3) := by decide +kernel
theorem d_Ag_voters_4 : decode m_Ag_voters.2.1 4 = .ok (.iconst 2, 1) := by decide +kernel
theorem d_Ag_voters_5 : decode m_Ag_voters.2.1 5 = .ok (.aload_n 0, 1) := by decide +kernel
theorem d_Ag_voters_6 : decode m_Ag_voters.2.1 6 = .ok (.getfield 18, 3) := by decide +kernel
theorem d_Ag_voters_9 : decode m_Ag_voters.2.1 9 = .ok (.imul, 1) := by decide +kernel
theorem d_Ag_voters_10 : decode m_Ag_voters.2.1 10 = .ok (.iload_n 1, 1) := by decide +kernel
theorem d_Ag_voters_11 : decode m_Ag_voters.2.1 11 = .ok (.iadd, 1) := by decide +kernel
theorem d_Ag_voters_12 : decode m_Ag_voters.2.1 12 = .ok (.iaload, 1) := by decide +kernel
theorem d_Ag_voters_13 : decode m_Ag_voters.2.1 13 = .ok (.invokestatic 83, 3) := by decide +kernel
theorem d_Ag_voters_16 : decode m_Ag_voters.2.1 16 = .ok (.ireturn, 1) := by decide +kernel
theorem d_Ag_makeGood_0 : decode m_Ag_makeGood.2.1 0 = .ok (.aload_n 0, 1) := by decide +kernel
theorem d_Ag_makeGood_1 : decode m_Ag_makeGood.2.1 1 = .ok (.dup, 1) := by decide +kernel
theorem d_Ag_makeGood_2 : decode m_Ag_makeGood.2.1 2 = .ok (.getfield 100, 3) := by decide +kernel
theorem d_Ag_makeGood_5 : decode m_Ag_makeGood.2.1 5 = .ok (.iconst 1, 1) := by decide +kernel
theorem d_Ag_makeGood_6 : decode m_Ag_makeGood.2.1 6 = .ok (.iload_n 1, 1) := by decide +kernel
theorem d_Ag_makeGood_7 : decode m_Ag_makeGood.2.1 7 = .ok (.ishl, 1) := by decide +kernel
theorem d_Ag_makeGood_8 : decode m_Ag_makeGood.2.1 8 = .ok (.ior, 1) := by decide +kernel
theorem d_Ag_makeGood_9 : decode m_Ag_makeGood.2.1 9 = .ok (.putfield 100, 3) := by decide +kernel
theorem d_Ag_makeGood_12 : decode m_Ag_makeGood.2.1 12 = .ok (.aload_n 0, 1) := by decide +kernel
theorem d_Ag_makeGood_13 : decode m_Ag_makeGood.2.1 13 = .ok (.getfield 103, 3) := by decide +kernel
theorem d_Ag_makeGood_16 : decode m_Ag_makeGood.2.1 16 = .ok (.ifCond .ne 40, 3) := by decide +kernel
theorem d_Ag_makeGood_19 : decode m_Ag_makeGood.2.1 19 = .ok (.aload_n 0, 1) := by decide +kernel
theorem d_Ag_makeGood_20 : decode m_Ag_makeGood.2.1 20 = .ok (.iconst 1, 1) := by decide +kernel
theorem d_Ag_makeGood_21 : decode m_Ag_makeGood.2.1 21 = .ok (.putfield 103, 3) := by decide +kernel
theorem d_Ag_makeGood_24 : decode m_Ag_makeGood.2.1 24 = .ok (.aload_n 0, 1) := by decide +kernel
theorem d_Ag_makeGood_25 : decode m_Ag_makeGood.2.1 25 = .ok (.getfield 28, 3) := by decide +kernel
theorem d_Ag_makeGood_28 : decode m_Ag_makeGood.2.1 28 = .ok (.new 45, 3) := by decide +kernel
theorem d_Ag_makeGood_31 : decode m_Ag_makeGood.2.1 31 = .ok (.dup, 1) := by decide +kernel
theorem d_Ag_makeGood_32 : decode m_Ag_makeGood.2.1 32 = .ok (.aload_n 0, 1) := by decide +kernel
theorem d_Ag_makeGood_33 : decode m_Ag_makeGood.2.1 33 = .ok (.getfield 32, 3) := by decide +kernel
theorem d_Ag_makeGood_36 : decode m_Ag_makeGood.2.1 36 = .ok (.aload_n 0, 1) := by decide +kernel
theorem d_Ag_makeGood_37 : decode m_Ag_makeGood.2.1 37 = .ok (.getfield 35, 3) := by decide +kernel
theorem d_Ag_makeGood_40 : decode m_Ag_makeGood.2.1 40 = .ok (.aload_n 0, 1) := by decide +kernel
theorem d_Ag_makeGood_41 : decode m_Ag_makeGood.2.1 41 = .ok (.getfield 38, 3) := by decide +kernel
theorem d_Ag_makeGood_44 : decode m_Ag_makeGood.2.1 44 = .ok (.iconst 4, 1) := by decide +kernel
theorem d_Ag_makeGood_45 : decode m_Ag_makeGood.2.1 45 = .ok (.aload_n 0, 1) := by decide +kernel
theorem d_Ag_makeGood_46 : decode m_Ag_makeGood.2.1 46 = .ok (.getfield 18, 3) := by decide +kernel
theorem d_Ag_makeGood_49 : decode m_Ag_makeGood.2.1 49 = .ok (.iload_n 1, 1) := by decide +kernel
theorem d_Ag_makeGood_50 : decode m_Ag_makeGood.2.1 50 = .ok (.invokespecial 91, 3) := by decide +kernel
theorem d_Ag_makeGood_53 : decode m_Ag_makeGood.2.1 53 = .ok (.invokevirtual 94, 3) := by decide +kernel
theorem d_Ag_makeGood_56 : decode m_Ag_makeGood.2.1 56 = .ok (.return_, 1) := by decide +kernel
theorem d_Ag_goodSures_0 : decode m_Ag_goodSures.2.1 0 = .ok (.aload_n 0, 1) := by decide +kernel
theorem d_Ag_goodSures_1 : decode m_Ag_goodSures.2.1 1 = .ok (.getfield 100, 3) := by decide +kernel
theorem d_Ag_goodSures_4 : decode m_Ag_goodSures.2.1 4 = .ok (.iload_n 1, 1) := by decide +kernel
theorem d_Ag_goodSures_5 : decode m_Ag_goodSures.2.1 5 = .ok (.ishr, 1) := by decide +kernel
theorem d_Ag_goodSures_6 : decode m_Ag_goodSures.2.1 6 = .ok (.iconst 1, 1) := by decide +kernel
theorem d_Ag_goodSures_7 : decode m_Ag_goodSures.2.1 7 = .ok (.iand, 1) := by decide +kernel
theorem d_Ag_goodSures_8 : decode m_Ag_goodSures.2.1 8 = .ok (.ifCond .ne 7, 3) := by decide +kernel
theorem d_Ag_goodSures_11 : decode m_Ag_goodSures.2.1 11 = .ok (.iconst 0, 1) := by decide +kernel
theorem d_Ag_goodSures_12 : decode m_Ag_goodSures.2.1 12 = .ok (.goto 19, 3) := by decide +kernel
theorem d_Ag_goodSures_15 : decode m_Ag_goodSures.2.1 15 = .ok (.aload_n 0, 1) := by decide +kernel
theorem d_Ag_goodSures_16 : decode m_Ag_goodSures.2.1 16 = .ok (.getfield 15, 3) := by decide +kernel
theorem d_Ag_goodSures_19 : decode m_Ag_goodSures.2.1 19 = .ok (.iconst 2, 1) := by decide +kernel
theorem d_Ag_goodSures_20 : decode m_Ag_goodSures.2.1 20 = .ok (.aload_n 0, 1) := by decide +kernel
theorem d_Ag_goodSures_21 : decode m_Ag_goodSures.2.1 21 = .ok (.getfield 18, 3) := by decide +kernel
theorem d_Ag_goodSures_24 : decode m_Ag_goodSures.2.1 24 = .ok (.imul, 1) := by decide +kernel
theorem d_Ag_goodSures_25 : decode m_Ag_goodSures.2.1 25 = .ok (.iload_n 1, 1) := by decide +kernel
theorem d_Ag_goodSures_26 : decode m_Ag_goodSures.2.1 26 = .ok (.iadd, 1) := by decide +kernel
theorem d_Ag_goodSures_27 : decode m_Ag_goodSures.2.1 27 = .ok (.iaload, 1) := by decide +kernel
theorem d_Ag_goodSures_28 : decode m_Ag_goodSures.2.1 28 = .ok (.invokestatic 83, 3) := by decide +kernel
theorem d_Ag_goodSures_31 : decode m_Ag_goodSures.2.1 31 = .ok (.ireturn, 1) := by decide +kernel
theorem d_Ag_finishRound_0 : decode m_Ag_finishRound.2.1 0 = .ok (.aload_n 0, 1) := by decide +kernel
theorem d_Ag_finishRound_1 : decode m_Ag_finishRound.2.1 1 = .ok (.getfield 41, 3) := by decide +kernel
theorem d_Ag_finishRound_4 : decode m_Ag_finishRound.2.1 4 = .ok (.aload_n 0, 1) := by decide +kernel
theorem d_Ag_finishRound_5 : decode m_Ag_finishRound.2.1 5 = .ok (.getfield 35, 3) := by decide +kernel
theorem d_Ag_finishRound_8 : decode m_Ag_finishRound.2.1 8 = .ok (.aload_n 0, 1) := by decide +kernel
theorem d_Ag_finishRound_9 : decode m_Ag_finishRound.2.1 9 = .ok (.getfield 38, 3) := by decide +kernel
theorem d_Ag_finishRound_12 : decode m_Ag_finishRound.2.1 12 = .ok (.aload_n 0, 1) := by decide +kernel
theorem d_Ag_finishRound_13 : decode m_Ag_finishRound.2.1 13 = .ok (.getfield 18, 3) := by decide +kernel
theorem d_Ag_finishRound_16 : decode m_Ag_finishRound.2.1 16 = .ok (.invokestatic 106, 3) := by decide +kernel
theorem d_Ag_finishRound_19 : decode m_Ag_finishRound.2.1 19 = .ok (.istore_n 1, 1) := by decide +kernel
theorem d_Ag_finishRound_20 : decode m_Ag_finishRound.2.1 20 = .ok (.aload_n 0, 1) := by decide +kernel
theorem d_Ag_finishRound_21 : decode m_Ag_finishRound.2.1 21 = .ok (.getfield 25, 3) := by decide +kernel
theorem d_Ag_finishRound_24 : decode m_Ag_finishRound.2.1 24 = .ok (.iload_n 1, 1) := by decide +kernel
theorem d_Ag_finishRound_25 : decode m_Ag_finishRound.2.1 25 = .ok (.if_icmp .ne 7, 3) := by decide +kernel
theorem d_Ag_finishRound_28 : decode m_Ag_finishRound.2.1 28 = .ok (.iconst 1, 1) := by decide +kernel
theorem d_Ag_finishRound_29 : decode m_Ag_finishRound.2.1 29 = .ok (.goto 4, 3) := by decide +kernel
theorem d_Ag_finishRound_32 : decode m_Ag_finishRound.2.1 32 = .ok (.iconst 0, 1) := by decide +kernel
theorem d_Ag_finishRound_33 : decode m_Ag_finishRound.2.1 33 = .ok (.istore_n 2, 1) := by decide +kernel
theorem d_Ag_finishRound_34 : decode m_Ag_finishRound.2.1 34 = .ok (.aload_n 0, 1) := by decide +kernel
theorem d_Ag_finishRound_35 : decode m_Ag_finishRound.2.1 35 = .ok (.iconst 0, 1) := by decide +kernel
theorem d_Ag_finishRound_36 : decode m_Ag_finishRound.2.1 36 = .ok (.invokevirtual 77, 3) := by decide +kernel
theorem d_Ag_finishRound_39 : decode m_Ag_finishRound.2.1 39 = .ok (.ifCond .le 19, 3) := by decide +kernel
theorem d_Ag_finishRound_42 : decode m_Ag_finishRound.2.1 42 = .ok (.aload_n 0, 1) := by decide +kernel
theorem d_Ag_finishRound_43 : decode m_Ag_finishRound.2.1 43 = .ok (.iconst 1, 1) := by decide +kernel
theorem d_Ag_finishRound_44 : decode m_Ag_finishRound.2.1 44 = .ok (.invokevirtual 77, 3) := by decide +kernel
theorem d_Ag_finishRound_47 : decode m_Ag_finishRound.2.1 47 = .ok (.ifCond .le 11, 3) := by decide +kernel
theorem d_Ag_finishRound_50 : decode m_Ag_finishRound.2.1 50 = .ok (.aload_n 0, 1) := by decide +kernel
theorem d_Ag_finishRound_51 : decode m_Ag_finishRound.2.1 51 = .ok (.iload_n 1, 1) := by decide +kernel
theorem d_Ag_finishRound_52 : decode m_Ag_finishRound.2.1 52 = .ok (.putfield 22, 3) := by decide +kernel
theorem d_Ag_finishRound_55 : decode m_Ag_finishRound.2.1 55 = .ok (.goto 41, 3) := by decide +kernel
theorem d_Ag_finishRound_58 : decode m_Ag_finishRound.2.1 58 = .ok (.aload_n 0, 1) := by decide +kernel
theorem d_Ag_finishRound_59 : decode m_Ag_finishRound.2.1 59 = .ok (.aload_n 0, 1) := by decide +kernel
theorem d_Ag_finishRound_60 : decode m_Ag_finishRound.2.1 60 = .ok (.iconst 1, 1) := by decide +kernel
theorem d_Ag_finishRound_61 : decode m_Ag_finishRound.2.1 61 = .ok (.invokevirtual 77, 3) := by decide +kernel
theorem d_Ag_finishRound_64 : decode m_Ag_finishRound.2.1 64 = .ok (.ifCond .le 7, 3) := by decide +kernel
theorem d_Ag_finishRound_67 : decode m_Ag_finishRound.2.1 67 = .ok (.iconst 1, 1) := by decide +kernel
theorem d_Ag_finishRound_68 : decode m_Ag_finishRound.2.1 68 = .ok (.goto 4, 3) := by decide +kernel
theorem d_Ag_finishRound_71 : decode m_Ag_finishRound.2.1 71 = .ok (.iconst 0, 1) := by decide +kernel
theorem d_Ag_finishRound_72 : decode m_Ag_finishRound.2.1 72 = .ok (.putfield 22, 3) := by decide +kernel
theorem d_Ag_finishRound_75 : decode m_Ag_finishRound.2.1 75 = .ok (.aload_n 0, 1) := by decide +kernel
theorem d_Ag_finishRound_76 : decode m_Ag_finishRound.2.1 76 = .ok (.getfield 22, 3) := by decide +kernel
theorem d_Ag_finishRound_79 : decode m_Ag_finishRound.2.1 79 = .ok (.iload_n 1, 1) := by decide +kernel
theorem d_Ag_finishRound_80 : decode m_Ag_finishRound.2.1 80 = .ok (.if_icmp .ne 16, 3) := by decide +kernel
theorem d_Ag_finishRound_83 : decode m_Ag_finishRound.2.1 83 = .ok (.aload_n 0, 1) := by decide +kernel
theorem d_Ag_finishRound_84 : decode m_Ag_finishRound.2.1 84 = .ok (.getfield 25, 3) := by decide +kernel
theorem d_Ag_finishRound_87 : decode m_Ag_finishRound.2.1 87 = .ok (.iconst (-1), 1) := by decide +kernel
theorem d_Ag_finishRound_88 : decode m_Ag_finishRound.2.1 88 = .ok (.if_icmp .ne 8, 3) := by decide +kernel
theorem d_Ag_finishRound_91 : decode m_Ag_finishRound.2.1 91 = .ok (.aload_n 0, 1) := by decide +kernel
theorem d_Ag_finishRound_92 : decode m_Ag_finishRound.2.1 92 = .ok (.iload_n 1, 1) := by decide +kernel
theorem d_Ag_finishRound_93 : decode m_Ag_finishRound.2.1 93 = .ok (.putfield 25, 3) := by decide +kernel
theorem d_Ag_finishRound_96 : decode m_Ag_finishRound.2.1 96 = .ok (.iload_n 2, 1) := by decide +kernel
theorem d_Ag_finishRound_97 : decode m_Ag_finishRound.2.1 97 = .ok (.ifCond .ne 11, 3) := by decide +kernel
theorem d_Ag_finishRound_100 : decode m_Ag_finishRound.2.1 100 = .ok (.aload_n 0, 1) := by decide +kernel
theorem d_Ag_finishRound_101 : decode m_Ag_finishRound.2.1 101 = .ok (.getfield 18, 3) := by decide +kernel
theorem d_Ag_finishRound_104 : decode m_Ag_finishRound.2.1 104 = .ok (.iconst 5, 1) := by decide +kernel
theorem d_Ag_finishRound_105 : decode m_Ag_finishRound.2.1 105 = .ok (.if_icmp .ne 11, 3) := by decide +kernel
theorem d_Ag_finishRound_108 : decode m_Ag_finishRound.2.1 108 = .ok (.aload_n 0, 1) := by decide +kernel
theorem d_Ag_finishRound_109 : decode m_Ag_finishRound.2.1 109 = .ok (.iconst 1, 1) := by decide +kernel
theorem d_Ag_finishRound_110 : decode m_Ag_finishRound.2.1 110 = .ok (.putfield 62, 3) := by decide +kernel
theorem d_Ag_finishRound_113 : decode m_Ag_finishRound.2.1 113 = .ok (.goto 7, 3) := by decide +kernel
theorem d_Ag_finishRound_116 : decode m_Ag_finishRound.2.1 116 = .ok (.aload_n 0, 1) := by decide +kernel
theorem d_Ag_finishRound_117 : decode m_Ag_finishRound.2.1 117 = .ok (.invokevirtual 110, 3) := by decide +kernel
theorem d_Ag_finishRound_120 : decode m_Ag_finishRound.2.1 120 = .ok (.return_, 1) := by decide +kernel
theorem d_El_tossOf_0 : decode m_El_tossOf.2.1 0 = .ok (.iload_n 0, 1) := by decide +kernel
theorem d_El_tossOf_1 : decode m_El_tossOf.2.1 1 = .ok (.iload_n 1, 1) := by decide +kernel
theorem d_El_tossOf_2 : decode m_El_tossOf.2.1 2 = .ok (.iconst 4, 1) := by decide +kernel
theorem d_El_tossOf_3 : decode m_El_tossOf.2.1 3 = .ok (.imul, 1) := by decide +kernel
theorem d_El_tossOf_4 : decode m_El_tossOf.2.1 4 = .ok (.bipush 6, 2) := by decide +kernel
theorem d_El_tossOf_6 : decode m_El_tossOf.2.1 6 = .ok (.imul, 1) := by decide +kernel
theorem d_El_tossOf_7 : decode m_El_tossOf.2.1 7 = .ok (.iload_n 2, 1) := by decide +kernel
theorem d_El_tossOf_8 : decode m_El_tossOf.2.1 8 = .ok (.bipush 6, 2) := by decide +kernel
theorem d_El_tossOf_10 : decode m_El_tossOf.2.1 10 = .ok (.imul, 1) := by decide +kernel
theorem d_El_tossOf_11 : decode m_El_tossOf.2.1 11 = .ok (.iadd, 1) := by decide +kernel
theorem d_El_tossOf_12 : decode m_El_tossOf.2.1 12 = .ok (.iload_n 3, 1) := by decide +kernel
theorem d_El_tossOf_13 : decode m_El_tossOf.2.1 13 = .ok (.iadd, 1) := by decide +kernel
theorem d_El_tossOf_14 : decode m_El_tossOf.2.1 14 = .ok (.bipush 31, 2) := by decide +kernel
theorem d_El_tossOf_16 : decode m_El_tossOf.2.1 16 = .ok (.irem, 1) := by decide +kernel
theorem d_El_tossOf_17 : decode m_El_tossOf.2.1 17 = .ok (.iushr, 1) := by decide +kernel
theorem d_El_tossOf_18 : decode m_El_tossOf.2.1 18 = .ok (.iconst 1, 1) := by decide +kernel
theorem d_El_tossOf_19 : decode m_El_tossOf.2.1 19 = .ok (.iand, 1) := by decide +kernel
theorem d_El_tossOf_20 : decode m_El_tossOf.2.1 20 = .ok (.ireturn, 1) := by decide +kernel
theorem d_Ag_enterNextRound_0 : decode m_Ag_enterNextRound.2.1 0 = .ok (.aload_n 0, 1) := by decide +kernel
theorem d_Ag_enterNextRound_1 : decode m_Ag_enterNextRound.2.1 1 = .ok (.dup, 1) := by decide +kernel
theorem d_Ag_enterNextRound_2 : decode m_Ag_enterNextRound.2.1 2 = .ok (.getfield 18, 3) := by decide +kernel
theorem d_Ag_enterNextRound_5 : decode m_Ag_enterNextRound.2.1 5 = .ok (.iconst 1, 1) := by decide +kernel
theorem d_Ag_enterNextRound_6 : decode m_Ag_enterNextRound.2.1 6 = .ok (.iadd, 1) := by decide +kernel
theorem d_Ag_enterNextRound_7 : decode m_Ag_enterNextRound.2.1 7 = .ok (.putfield 18, 3) := by decide +kernel
theorem d_Ag_enterNextRound_10 : decode m_Ag_enterNextRound.2.1 10 = .ok (.aload_n 0, 1) := by decide +kernel
theorem d_Ag_enterNextRound_11 : decode m_Ag_enterNextRound.2.1 11 = .ok (.iconst 0, 1) := by decide +kernel
theorem d_Ag_enterNextRound_12 : decode m_Ag_enterNextRound.2.1 12 = .ok (.putfield 100, 3) := by decide +kernel
theorem d_Ag_enterNextRound_15 : decode m_Ag_enterNextRound.2.1 15 = .ok (.aload_n 0, 1) := by decide +kernel
theorem d_Ag_enterNextRound_16 : decode m_Ag_enterNextRound.2.1 16 = .ok (.iconst 0, 1) := by decide +kernel
theorem d_Ag_enterNextRound_17 : decode m_Ag_enterNextRound.2.1 17 = .ok (.putfield 88, 3) := by decide +kernel
theorem d_Ag_enterNextRound_20 : decode m_Ag_enterNextRound.2.1 20 = .ok (.aload_n 0, 1) := by decide +kernel
theorem d_Ag_enterNextRound_21 : decode m_Ag_enterNextRound.2.1 21 = .ok (.iconst 0, 1) := by decide +kernel
theorem d_Ag_enterNextRound_22 : decode m_Ag_enterNextRound.2.1 22 = .ok (.putfield 103, 3) := by decide +kernel
theorem d_Ag_enterNextRound_25 : decode m_Ag_enterNextRound.2.1 25 = .ok (.return_, 1) := by decide +kernel
theorem d_Nd_instanceToRefuse_0 : decode m_Nd_instanceToRefuse.2.1 0 = .ok (.iconst 0, 1) := by decide +kernel
theorem d_Nd_instanceToRefuse_1 : decode m_Nd_instanceToRefuse.2.1 1 = .ok (.istore_n 1, 1) := by decide +kernel
theorem d_Nd_instanceToRefuse_2 : decode m_Nd_instanceToRefuse.2.1 2 = .ok (.iconst (-1), 1) := by decide +kernel
theorem d_Nd_instanceToRefuse_3 : decode m_Nd_instanceToRefuse.2.1 3 = .ok (.istore_n 2, 1) := by decide +kernel
theorem d_Nd_instanceToRefuse_4 : decode m_Nd_instanceToRefuse.2.1 4 = .ok (.iconst 3, 1) := by decide +kernel
theorem d_Nd_instanceToRefuse_5 : decode m_Nd_instanceToRefuse.2.1 5 = .ok (.istore_n 3, 1) := by decide +kernel
theorem d_Nd_instanceToRefuse_6 : decode m_Nd_instanceToRefuse.2.1 6 = .ok (.iload_n 3, 1) := by decide +kernel
theorem d_Nd_instanceToRefuse_7 : decode m_Nd_instanceToRefuse.2.1 7 = .ok (.ifCond .lt 38, 3) := by decide +kernel
theorem d_Nd_instanceToRefuse_10 : decode m_Nd_instanceToRefuse.2.1 10 = .ok (.aload_n 0, 1) := by decide +kernel
theorem d_Nd_instanceToRefuse_11 : decode m_Nd_instanceToRefuse.2.1 11 = .ok (.iload_n 3, 1) := by decide +kernel
theorem d_Nd_instanceToRefuse_12 : decode m_Nd_instanceToRefuse.2.1 12 = .ok (.invokevirtual 126, 3) := by decide +kernel
theorem d_Nd_instanceToRefuse_15 : decode m_Nd_instanceToRefuse.2.1 15 = .ok (.astore 4, 2) := by decide +kernel
theorem d_Nd_instanceToRefuse_17 : decode m_Nd_instanceToRefuse.2.1 17 = .ok (.aload 4, 2) := by decide +kernel
theorem d_Nd_instanceToRefuse_19 : decode m_Nd_instanceToRefuse.2.1 19 = .ok (.getfield 151, 3) := by decide +kernel
theorem d_Nd_instanceToRefuse_22 : decode m_Nd_instanceToRefuse.2.1 22 = .ok (.iconst 1, 1) := by decide +kernel
theorem d_Nd_instanceToRefuse_23 : decode m_Nd_instanceToRefuse.2.1 23 = .ok (.if_icmp .ne 6, 3) := by decide +kernel
theorem d_Nd_instanceToRefuse_26 : decode m_Nd_instanceToRefuse.2.1 26 = .ok (.iinc 1 1, 3) := by decide +kernel
theorem d_Nd_instanceToRefuse_29 : decode m_Nd_instanceToRefuse.2.1 29 = .ok (.aload 4, 2) := by decide +kernel
theorem d_Nd_instanceToRefuse_31 : decode m_Nd_instanceToRefuse.2.1 31 = .ok (.invokevirtual 154, 3) := by decide +kernel
theorem d_Nd_instanceToRefuse_34 : decode m_Nd_instanceToRefuse.2.1 34 = .ok (.ifCond .ne 5, 3) := by decide +kernel
theorem d_Nd_instanceToRefuse_37 : decode m_Nd_instanceToRefuse.2.1 37 = .ok (.iload_n 3, 1) := by decide +kernel
theorem d_Nd_instanceToRefuse_38 : decode m_Nd_instanceToRefuse.2.1 38 = .ok (.istore_n 2, 1) := by decide +kernel
theorem d_Nd_instanceToRefuse_39 : decode m_Nd_instanceToRefuse.2.1 39 = .ok (.iinc 3 (-1), 3) := by decide +kernel
theorem d_Nd_instanceToRefuse_42 : decode m_Nd_instanceToRefuse.2.1 42 = .ok (.goto (-36), 3) := by decide +kernel
theorem d_Nd_instanceToRefuse_45 : decode m_Nd_instanceToRefuse.2.1 45 = .ok (.iload_n 1, 1) := by decide +kernel
theorem d_Nd_instanceToRefuse_46 : decode m_Nd_instanceToRefuse.2.1 46 = .ok (.iconst 3, 1) := by decide +kernel
theorem d_Nd_instanceToRefuse_47 : decode m_Nd_instanceToRefuse.2.1 47 = .ok (.if_icmp .lt 7, 3) := by decide +kernel
theorem d_Nd_instanceToRefuse_50 : decode m_Nd_instanceToRefuse.2.1 50 = .ok (.iload_n 2, 1) := by decide +kernel
theorem d_Nd_instanceToRefuse_51 : decode m_Nd_instanceToRefuse.2.1 51 = .ok (.goto 4, 3) := by decide +kernel
theorem d_Nd_instanceToRefuse_54 : decode m_Nd_instanceToRefuse.2.1 54 = .ok (.iconst (-1), 1) := by decide +kernel
theorem d_Nd_instanceToRefuse_55 : decode m_Nd_instanceToRefuse.2.1 55 = .ok (.ireturn, 1) := by decide +kernel
theorem d_Nd_mayCommit_0 : decode m_Nd_mayCommit.2.1 0 = .ok (.iconst 0, 1) := by decide +kernel
theorem d_Nd_mayCommit_1 : decode m_Nd_mayCommit.2.1 1 = .ok (.istore_n 1, 1) := by decide +kernel
theorem d_Nd_mayCommit_2 : decode m_Nd_mayCommit.2.1 2 = .ok (.iload_n 1, 1) := by decide +kernel
theorem d_Nd_mayCommit_3 : decode m_Nd_mayCommit.2.1 3 = .ok (.iconst 4, 1) := by decide +kernel
theorem d_Nd_mayCommit_4 : decode m_Nd_mayCommit.2.1 4 = .ok (.if_icmp .ge 42, 3) := by decide +kernel
theorem d_Nd_mayCommit_7 : decode m_Nd_mayCommit.2.1 7 = .ok (.aload_n 0, 1) := by decide +kernel
theorem d_Nd_mayCommit_8 : decode m_Nd_mayCommit.2.1 8 = .ok (.iload_n 1, 1) := by decide +kernel
theorem d_Nd_mayCommit_9 : decode m_Nd_mayCommit.2.1 9 = .ok (.invokevirtual 126, 3) := by decide +kernel
theorem d_Nd_mayCommit_12 : decode m_Nd_mayCommit.2.1 12 = .ok (.getfield 151, 3) := by decide +kernel
theorem d_Nd_mayCommit_15 : decode m_Nd_mayCommit.2.1 15 = .ok (.istore_n 2, 1) := by decide +kernel
theorem d_Nd_mayCommit_16 : decode m_Nd_mayCommit.2.1 16 = .ok (.iload_n 2, 1) := by decide +kernel
theorem d_Nd_mayCommit_17 : decode m_Nd_mayCommit.2.1 17 = .ok (.iconst (-1), 1) := by decide +kernel
theorem d_Nd_mayCommit_18 : decode m_Nd_mayCommit.2.1 18 = .ok (.if_icmp .eq 20, 3) := by decide +kernel
theorem d_Nd_mayCommit_21 : decode m_Nd_mayCommit.2.1 21 = .ok (.iload_n 2, 1) := by decide +kernel
theorem d_Nd_mayCommit_22 : decode m_Nd_mayCommit.2.1 22 = .ok (.iconst 1, 1) := by decide +kernel
theorem d_Nd_mayCommit_23 : decode m_Nd_mayCommit.2.1 23 = .ok (.if_icmp .ne 17, 3) := by decide +kernel
theorem d_Nd_mayCommit_26 : decode m_Nd_mayCommit.2.1 26 = .ok (.aload_n 0, 1) := by decide +kernel
theorem d_Nd_mayCommit_27 : decode m_Nd_mayCommit.2.1 27 = .ok (.iload_n 1, 1) := by decide +kernel
theorem d_Nd_mayCommit_28 : decode m_Nd_mayCommit.2.1 28 = .ok (.invokevirtual 122, 3) := by decide +kernel
theorem d_Nd_mayCommit_31 : decode m_Nd_mayCommit.2.1 31 = .ok (.getfield 139, 3) := by decide +kernel
theorem d_Nd_mayCommit_34 : decode m_Nd_mayCommit.2.1 34 = .ok (.iconst (-1), 1) := by decide +kernel
theorem d_Nd_mayCommit_35 : decode m_Nd_mayCommit.2.1 35 = .ok (.if_icmp .ne 5, 3) := by decide +kernel
theorem d_Nd_mayCommit_38 : decode m_Nd_mayCommit.2.1 38 = .ok (.iconst 0, 1) := by decide +kernel
theorem d_Nd_mayCommit_39 : decode m_Nd_mayCommit.2.1 39 = .ok (.ireturn, 1) := by decide +kernel
theorem d_Nd_mayCommit_40 : decode m_Nd_mayCommit.2.1 40 = .ok (.iinc 1 1, 3) := by decide +kernel
theorem d_Nd_mayCommit_43 : decode m_Nd_mayCommit.2.1 43 = .ok (.goto (-41), 3) := by decide +kernel
theorem d_Nd_mayCommit_46 : decode m_Nd_mayCommit.2.1 46 = .ok (.iconst 1, 1) := by decide +kernel
theorem d_Nd_mayCommit_47 : decode m_Nd_mayCommit.2.1 47 = .ok (.ireturn, 1) := by decide +kernel
theorem d_Nd_commit_0 : decode m_Nd_commit.2.1 0 = .ok (.iconst 1, 1) := by decide +kernel
theorem d_Nd_commit_1 : decode m_Nd_commit.2.1 1 = .ok (.istore_n 1, 1) := by decide +kernel
theorem d_Nd_commit_2 : decode m_Nd_commit.2.1 2 = .ok (.iload_n 1, 1) := by decide +kernel
theorem d_Nd_commit_3 : decode m_Nd_commit.2.1 3 = .ok (.sipush 255, 3) := by decide +kernel
theorem d_Nd_commit_6 : decode m_Nd_commit.2.1 6 = .ok (.if_icmp .gt 44, 3) := by decide +kernel
theorem d_Nd_commit_9 : decode m_Nd_commit.2.1 9 = .ok (.aload_n 0, 1) := by decide +kernel
theorem d_Nd_commit_10 : decode m_Nd_commit.2.1 10 = .ok (.iload_n 1, 1) := by decide +kernel
theorem d_Nd_commit_11 : decode m_Nd_commit.2.1 11 = .ok (.invokevirtual 157, 3) := by decide +kernel
theorem d_Nd_commit_14 : decode m_Nd_commit.2.1 14 = .ok (.ifCond .eq 30, 3) := by decide +kernel
theorem d_Nd_commit_17 : decode m_Nd_commit.2.1 17 = .ok (.aload_n 0, 1) := by decide +kernel
theorem d_Nd_commit_18 : decode m_Nd_commit.2.1 18 = .ok (.getfield 20, 3) := by decide +kernel
theorem d_Nd_commit_21 : decode m_Nd_commit.2.1 21 = .ok (.iload_n 1, 1) := by decide +kernel
theorem d_Nd_commit_22 : decode m_Nd_commit.2.1 22 = .ok (.invokevirtual 56, 3) := by decide +kernel
theorem d_Nd_commit_25 : decode m_Nd_commit.2.1 25 = .ok (.ifCond .ne 19, 3) := by decide +kernel
theorem d_Nd_commit_28 : decode m_Nd_commit.2.1 28 = .ok (.aload_n 0, 1) := by decide +kernel
theorem d_Nd_commit_29 : decode m_Nd_commit.2.1 29 = .ok (.getfield 20, 3) := by decide +kernel
theorem d_Nd_commit_32 : decode m_Nd_commit.2.1 32 = .ok (.iload_n 1, 1) := by decide +kernel
theorem d_Nd_commit_33 : decode m_Nd_commit.2.1 33 = .ok (.invokevirtual 60, 3) := by decide +kernel
theorem d_Nd_commit_36 : decode m_Nd_commit.2.1 36 = .ok (.aload_n 0, 1) := by decide +kernel
theorem d_Nd_commit_37 : decode m_Nd_commit.2.1 37 = .ok (.getfield 14, 3) := by decide +kernel
theorem d_Nd_commit_40 : decode m_Nd_commit.2.1 40 = .ok (.iload_n 1, 1) := by decide +kernel
theorem d_Nd_commit_41 : decode m_Nd_commit.2.1 41 = .ok (.invokevirtual 160, 3) := by decide +kernel
theorem d_Nd_commit_44 : decode m_Nd_commit.2.1 44 = .ok (.iinc 1 1, 3) := by decide +kernel
theorem d_Nd_commit_47 : decode m_Nd_commit.2.1 47 = .ok (.goto (-45), 3) := by decide +kernel
theorem d_Nd_commit_50 : decode m_Nd_commit.2.1 50 = .ok (.aload_n 0, 1) := by decide +kernel
theorem d_Nd_commit_51 : decode m_Nd_commit.2.1 51 = .ok (.dup, 1) := by decide +kernel
theorem d_Nd_commit_52 : decode m_Nd_commit.2.1 52 = .ok (.getfield 35, 3) := by decide +kernel
theorem d_Nd_commit_55 : decode m_Nd_commit.2.1 55 = .ok (.iconst 1, 1) := by decide +kernel
theorem d_Nd_commit_56 : decode m_Nd_commit.2.1 56 = .ok (.iadd, 1) := by decide +kernel
theorem d_Nd_commit_57 : decode m_Nd_commit.2.1 57 = .ok (.putfield 35, 3) := by decide +kernel
theorem d_Nd_commit_60 : decode m_Nd_commit.2.1 60 = .ok (.return_, 1) := by decide +kernel
theorem d_Nd_isAccepted_0 : decode m_Nd_isAccepted.2.1 0 = .ok (.iconst 0, 1) := by decide +kernel
theorem d_Nd_isAccepted_1 : decode m_Nd_isAccepted.2.1 1 = .ok (.istore_n 2, 1) := by decide +kernel
theorem d_Nd_isAccepted_2 : decode m_Nd_isAccepted.2.1 2 = .ok (.iload_n 2, 1) := by decide +kernel
theorem d_Nd_isAccepted_3 : decode m_Nd_isAccepted.2.1 3 = .ok (.iconst 4, 1) := by decide +kernel
theorem d_Nd_isAccepted_4 : decode m_Nd_isAccepted.2.1 4 = .ok (.if_icmp .ge 65, 3) := by decide +kernel
theorem d_Nd_isAccepted_7 : decode m_Nd_isAccepted.2.1 7 = .ok (.aload_n 0, 1) := by decide +kernel
theorem d_Nd_isAccepted_8 : decode m_Nd_isAccepted.2.1 8 = .ok (.iload_n 2, 1) := by decide +kernel
theorem d_Nd_isAccepted_9 : decode m_Nd_isAccepted.2.1 9 = .ok (.invokevirtual 122, 3) := by decide +kernel
theorem d_Nd_isAccepted_12 : decode m_Nd_isAccepted.2.1 12 = .ok (.getfield 139, 3) := by decide +kernel
theorem d_Nd_isAccepted_15 : decode m_Nd_isAccepted.2.1 15 = .ok (.istore_n 3, 1) := by decide +kernel
theorem d_Nd_isAccepted_16 : decode m_Nd_isAccepted.2.1 16 = .ok (.iload_n 3, 1) := by decide +kernel
theorem d_Nd_isAccepted_17 : decode m_Nd_isAccepted.2.1 17 = .ok (.sipush 255, 3) := by decide +kernel
theorem d_Nd_isAccepted_20 : decode m_Nd_isAccepted.2.1 20 = .ok (.iand, 1) := by decide +kernel
theorem d_Nd_isAccepted_21 : decode m_Nd_isAccepted.2.1 21 = .ok (.iload_n 1, 1) := by decide +kernel
theorem d_Nd_isAccepted_22 : decode m_Nd_isAccepted.2.1 22 = .ok (.if_icmp .eq 15, 3) := by decide +kernel
theorem d_Nd_isAccepted_25 : decode m_Nd_isAccepted.2.1 25 = .ok (.iload_n 3, 1) := by decide +kernel
theorem d_Nd_isAccepted_26 : decode m_Nd_isAccepted.2.1 26 = .ok (.bipush 8, 2) := by decide +kernel
theorem d_Nd_isAccepted_28 : decode m_Nd_isAccepted.2.1 28 = .ok (.ishr, 1) := by decide +kernel
theorem d_Nd_isAccepted_29 : decode m_Nd_isAccepted.2.1 29 = .ok (.sipush 255, 3) := by decide +kernel
theorem d_Nd_isAccepted_32 : decode m_Nd_isAccepted.2.1 32 = .ok (.iand, 1) := by decide +kernel
theorem d_Nd_isAccepted_33 : decode m_Nd_isAccepted.2.1 33 = .ok (.iload_n 1, 1) := by decide +kernel
theorem d_Nd_isAccepted_34 : decode m_Nd_isAccepted.2.1 34 = .ok (.if_icmp .ne 7, 3) := by decide +kernel
theorem d_Nd_isAccepted_37 : decode m_Nd_isAccepted.2.1 37 = .ok (.iconst 1, 1) := by decide +kernel
theorem d_Nd_isAccepted_38 : decode m_Nd_isAccepted.2.1 38 = .ok (.goto 4, 3) := by decide +kernel
theorem d_Nd_isAccepted_41 : decode m_Nd_isAccepted.2.1 41 = .ok (.iconst 0, 1) := by decide +kernel
theorem d_Nd_isAccepted_42 : decode m_Nd_isAccepted.2.1 42 = .ok (.istore 4, 2) := by decide +kernel
theorem d_Nd_isAccepted_44 : decode m_Nd_isAccepted.2.1 44 = .ok (.iload 4, 2) := by decide +kernel
theorem d_Nd_isAccepted_46 : decode m_Nd_isAccepted.2.1 46 = .ok (.ifCond .eq 17, 3) := by decide +kernel
theorem d_Nd_isAccepted_49 : decode m_Nd_isAccepted.2.1 49 = .ok (.aload_n 0, 1) := by decide +kernel
theorem d_Nd_isAccepted_50 : decode m_Nd_isAccepted.2.1 50 = .ok (.iload_n 2, 1) := by decide +kernel
theorem d_Nd_isAccepted_51 : decode m_Nd_isAccepted.2.1 51 = .ok (.invokevirtual 126, 3) := by decide +kernel
theorem d_Nd_isAccepted_54 : decode m_Nd_isAccepted.2.1 54 = .ok (.getfield 151, 3) := by decide +kernel
theorem d_Nd_isAccepted_57 : decode m_Nd_isAccepted.2.1 57 = .ok (.iconst 1, 1) := by decide +kernel
theorem d_Nd_isAccepted_58 : decode m_Nd_isAccepted.2.1 58 = .ok (.if_icmp .ne 5, 3) := by decide +kernel
theorem d_Nd_isAccepted_61 : decode m_Nd_isAccepted.2.1 61 = .ok (.iconst 1, 1) := by decide +kernel
theorem d_Nd_isAccepted_62 : decode m_Nd_isAccepted.2.1 62 = .ok (.ireturn, 1) := by decide +kernel
theorem d_Nd_isAccepted_63 : decode m_Nd_isAccepted.2.1 63 = .ok (.iinc 2 1, 3) := by decide +kernel
theorem d_Nd_isAccepted_66 : decode m_Nd_isAccepted.2.1 66 = .ok (.goto (-64), 3) := by decide +kernel
theorem d_Nd_isAccepted_69 : decode m_Nd_isAccepted.2.1 69 = .ok (.iconst 0, 1) := by decide +kernel
theorem d_Nd_isAccepted_70 : decode m_Nd_isAccepted.2.1 70 = .ok (.ireturn, 1) := by decide +kernel
theorem d_Rw_drop_0 : decode m_Rw_drop.2.1 0 = .ok (.iconst 0, 1) := by decide +kernel
theorem d_Rw_drop_1 : decode m_Rw_drop.2.1 1 = .ok (.istore_n 2, 1) := by decide +kernel
theorem d_Rw_drop_2 : decode m_Rw_drop.2.1 2 = .ok (.iconst 0, 1) := by decide +kernel
theorem d_Rw_drop_3 : decode m_Rw_drop.2.1 3 = .ok (.istore_n 3, 1) := by decide +kernel
theorem d_Rw_drop_4 : decode m_Rw_drop.2.1 4 = .ok (.iload_n 3, 1) := by decide +kernel
theorem d_Rw_drop_5 : decode m_Rw_drop.2.1 5 = .ok (.aload_n 0, 1) := by decide +kernel
theorem d_Rw_drop_6 : decode m_Rw_drop.2.1 6 = .ok (.getfield 15, 3) := by decide +kernel
theorem d_Rw_drop_9 : decode m_Rw_drop.2.1 9 = .ok (.if_icmp .ge 34, 3) := by decide +kernel
theorem d_Rw_drop_12 : decode m_Rw_drop.2.1 12 = .ok (.aload_n 0, 1) := by decide +kernel
theorem d_Rw_drop_13 : decode m_Rw_drop.2.1 13 = .ok (.getfield 9, 3) := by decide +kernel
theorem d_Rw_drop_16 : decode m_Rw_drop.2.1 16 = .ok (.iload_n 3, 1) := by decide +kernel
theorem d_Rw_drop_17 : decode m_Rw_drop.2.1 17 = .ok (.iaload, 1) := by decide +kernel
theorem d_Rw_drop_18 : decode m_Rw_drop.2.1 18 = .ok (.iload_n 1, 1) := by decide +kernel
theorem d_Rw_drop_19 : decode m_Rw_drop.2.1 19 = .ok (.if_icmp .eq 18, 3) := by decide +kernel
theorem d_Rw_drop_22 : decode m_Rw_drop.2.1 22 = .ok (.aload_n 0, 1) := by decide +kernel
theorem d_Rw_drop_23 : decode m_Rw_drop.2.1 23 = .ok (.getfield 9, 3) := by decide +kernel
theorem d_Rw_drop_26 : decode m_Rw_drop.2.1 26 = .ok (.iload_n 2, 1) := by decide +kernel
theorem d_Rw_drop_27 : decode m_Rw_drop.2.1 27 = .ok (.aload_n 0, 1) := by decide +kernel
theorem d_Rw_drop_28 : decode m_Rw_drop.2.1 28 = .ok (.getfield 9, 3) := by decide +kernel
theorem d_Rw_drop_31 : decode m_Rw_drop.2.1 31 = .ok (.iload_n 3, 1) := by decide +kernel
theorem d_Rw_drop_32 : decode m_Rw_drop.2.1 32 = .ok (.iaload, 1) := by decide +kernel
theorem d_Rw_drop_33 : decode m_Rw_drop.2.1 33 = .ok (.iastore, 1) := by decide +kernel
theorem d_Rw_drop_34 : decode m_Rw_drop.2.1 34 = .ok (.iinc 2 1, 3) := by decide +kernel
theorem d_Rw_drop_37 : decode m_Rw_drop.2.1 37 = .ok (.iinc 3 1, 3) := by decide +kernel
theorem d_Rw_drop_40 : decode m_Rw_drop.2.1 40 = .ok (.goto (-36), 3) := by decide +kernel
theorem d_Rw_drop_43 : decode m_Rw_drop.2.1 43 = .ok (.aload_n 0, 1) := by decide +kernel
theorem d_Rw_drop_44 : decode m_Rw_drop.2.1 44 = .ok (.iload_n 2, 1) := by decide +kernel
theorem d_Rw_drop_45 : decode m_Rw_drop.2.1 45 = .ok (.putfield 15, 3) := by decide +kernel
theorem d_Rw_drop_48 : decode m_Rw_drop.2.1 48 = .ok (.return_, 1) := by decide +kernel
theorem d_El_run_0 : decode m_El_run.2.1 0 = .ok (.iload_n 1, 1) := by decide +kernel
theorem d_El_run_1 : decode m_El_run.2.1 1 = .ok (.invokestatic 30, 3) := by decide +kernel
theorem d_El_run_4 : decode m_El_run.2.1 4 = .ok (.ifCond .eq 13, 3) := by decide +kernel
theorem d_El_run_7 : decode m_El_run.2.1 7 = .ok (.iload_n 2, 1) := by decide +kernel
theorem d_El_run_8 : decode m_El_run.2.1 8 = .ok (.iconst 0, 1) := by decide +kernel
theorem d_El_run_9 : decode m_El_run.2.1 9 = .ok (.bipush 60, 2) := by decide +kernel
theorem d_El_run_11 : decode m_El_run.2.1 11 = .ok (.invokestatic 34, 3) := by decide +kernel
theorem d_El_run_14 : decode m_El_run.2.1 14 = .ok (.ifCond .ne 5, 3) := by decide +kernel
theorem d_El_run_17 : decode m_El_run.2.1 17 = .ok (.iconst (-1), 1) := by decide +kernel
theorem d_El_run_18 : decode m_El_run.2.1 18 = .ok (.ireturn, 1) := by decide +kernel
theorem d_El_run_19 : decode m_El_run.2.1 19 = .ok (.iconst 0, 1) := by decide +kernel
theorem d_El_run_20 : decode m_El_run.2.1 20 = .ok (.istore_n 3, 1) := by decide +kernel
theorem d_El_run_21 : decode m_El_run.2.1 21 = .ok (.iload_n 3, 1) := by decide +kernel
theorem d_El_run_22 : decode m_El_run.2.1 22 = .ok (.iload_n 2, 1) := by decide +kernel
theorem d_El_run_23 : decode m_El_run.2.1 23 = .ok (.if_icmp .ge 38, 3) := by decide +kernel
theorem d_El_run_26 : decode m_El_run.2.1 26 = .ok (.aload_n 0, 1) := by decide +kernel
theorem d_El_run_27 : decode m_El_run.2.1 27 = .ok (.getfield 17, 3) := by decide +kernel
theorem d_El_run_30 : decode m_El_run.2.1 30 = .ok (.iload_n 1, 1) := by decide +kernel
theorem d_El_run_31 : decode m_El_run.2.1 31 = .ok (.invokevirtual 45, 3) := by decide +kernel
theorem d_El_run_34 : decode m_El_run.2.1 34 = .ok (.ifCond .le 27, 3) := by decide +kernel
theorem d_El_run_37 : decode m_El_run.2.1 37 = .ok (.aload_n 0, 1) := by decide +kernel
theorem d_El_run_38 : decode m_El_run.2.1 38 = .ok (.getfield 23, 3) := by decide +kernel
theorem d_El_run_41 : decode m_El_run.2.1 41 = .ok (.iload_n 1, 1) := by decide +kernel
theorem d_El_run_42 : decode m_El_run.2.1 42 = .ok (.aaload, 1) := by decide +kernel
theorem d_El_run_43 : decode m_El_run.2.1 43 = .ok (.aload_n 0, 1) := by decide +kernel
theorem d_El_run_44 : decode m_El_run.2.1 44 = .ok (.getfield 17, 3) := by decide +kernel
theorem d_El_run_47 : decode m_El_run.2.1 47 = .ok (.iload_n 1, 1) := by decide +kernel
theorem d_El_run_48 : decode m_El_run.2.1 48 = .ok (.iconst 0, 1) := by decide +kernel
theorem d_El_run_49 : decode m_El_run.2.1 49 = .ok (.invokevirtual 49, 3) := by decide +kernel
theorem d_El_run_52 : decode m_El_run.2.1 52 = .ok (.invokevirtual 53, 3) := by decide +kernel
theorem d_El_run_55 : decode m_El_run.2.1 55 = .ok (.iinc 3 1, 3) := by decide +kernel
theorem d_El_run_58 : decode m_El_run.2.1 58 = .ok (.goto (-37), 3) := by decide +kernel
theorem d_El_run_61 : decode m_El_run.2.1 61 = .ok (.iload_n 3, 1) := by decide +kernel
theorem d_El_run_62 : decode m_El_run.2.1 62 = .ok (.ireturn, 1) := by decide +kernel
theorem d_Nt_countFor_0 : decode m_Nt_countFor.2.1 0 = .ok (.aload_n 0, 1) := by decide +kernel
theorem d_Nt_countFor_1 : decode m_Nt_countFor.2.1 1 = .ok (.getfield 11, 3) := by decide +kernel
theorem d_Nt_countFor_4 : decode m_Nt_countFor.2.1 4 = .ok (.iload_n 1, 1) := by decide +kernel
theorem d_Nt_countFor_5 : decode m_Nt_countFor.2.1 5 = .ok (.aaload, 1) := by decide +kernel
theorem d_Nt_countFor_6 : decode m_Nt_countFor.2.1 6 = .ok (.getfield 18, 3) := by decide +kernel
theorem d_Nt_countFor_9 : decode m_Nt_countFor.2.1 9 = .ok (.invokevirtual 28, 3) := by decide +kernel
theorem d_Nt_countFor_12 : decode m_Nt_countFor.2.1 12 = .ok (.ireturn, 1) := by decide +kernel
theorem d_Al_size_0 : decode m_Al_size.2.1 0 = .ok (.aload_n 0, 1) := by decide +kernel
theorem d_Al_size_1 : decode m_Al_size.2.1 1 = .ok (.getfield 48, 3) := by decide +kernel
theorem d_Al_size_4 : decode m_Al_size.2.1 4 = .ok (.ireturn, 1) := by decide +kernel
theorem d_Nt_remove_0 : decode m_Nt_remove.2.1 0 = .ok (.aload_n 0, 1) := by decide +kernel
theorem d_Nt_remove_1 : decode m_Nt_remove.2.1 1 = .ok (.getfield 11, 3) := by decide +kernel
theorem d_Nt_remove_4 : decode m_Nt_remove.2.1 4 = .ok (.iload_n 1, 1) := by decide +kernel
theorem d_Nt_remove_5 : decode m_Nt_remove.2.1 5 = .ok (.aaload, 1) := by decide +kernel
theorem d_Nt_remove_6 : decode m_Nt_remove.2.1 6 = .ok (.getfield 18, 3) := by decide +kernel
theorem d_Nt_remove_9 : decode m_Nt_remove.2.1 9 = .ok (.iload_n 2, 1) := by decide +kernel
theorem d_Nt_remove_10 : decode m_Nt_remove.2.1 10 = .ok (.invokevirtual 32, 3) := by decide +kernel
theorem d_Nt_remove_13 : decode m_Nt_remove.2.1 13 = .ok (.checkcast 36, 3) := by decide +kernel
theorem d_Nt_remove_16 : decode m_Nt_remove.2.1 16 = .ok (.areturn, 1) := by decide +kernel
theorem d_Al_remove_0 : decode m_Al_remove.2.1 0 = .ok (.iload_n 1, 1) := by decide +kernel
theorem d_Al_remove_1 : decode m_Al_remove.2.1 1 = .ok (.aload_n 0, 1) := by decide +kernel
theorem d_Al_remove_2 : decode m_Al_remove.2.1 2 = .ok (.getfield 48, 3) := by decide +kernel
theorem d_Al_remove_5 : decode m_Al_remove.2.1 5 = .ok (.invokestatic 118, 3) := by decide +kernel
theorem d_Al_remove_8 : decode m_Al_remove.2.1 8 = .ok (.pop, 1) := by decide +kernel
theorem d_Al_remove_9 : decode m_Al_remove.2.1 9 = .ok (.aload_n 0, 1) := by decide +kernel
theorem d_Al_remove_10 : decode m_Al_remove.2.1 10 = .ok (.getfield 9, 3) := by decide +kernel
theorem d_Al_remove_13 : decode m_Al_remove.2.1 13 = .ok (.astore_n 2, 1) := by decide +kernel
theorem d_Al_remove_14 : decode m_Al_remove.2.1 14 = .ok (.aload_n 2, 1) := by decide +kernel
theorem d_Al_remove_15 : decode m_Al_remove.2.1 15 = .ok (.iload_n 1, 1) := by decide +kernel
theorem d_Al_remove_16 : decode m_Al_remove.2.1 16 = .ok (.aaload, 1) := by decide +kernel
theorem d_Al_remove_17 : decode m_Al_remove.2.1 17 = .ok (.astore_n 3, 1) := by decide +kernel
theorem d_Al_remove_18 : decode m_Al_remove.2.1 18 = .ok (.aload_n 0, 1) := by decide +kernel
theorem d_Al_remove_19 : decode m_Al_remove.2.1 19 = .ok (.aload_n 2, 1) := by decide +kernel
theorem d_Al_remove_20 : decode m_Al_remove.2.1 20 = .ok (.iload_n 1, 1) := by decide +kernel
theorem d_Al_remove_21 : decode m_Al_remove.2.1 21 = .ok (.invokevirtual 144, 3) := by decide +kernel
theorem d_Al_remove_24 : decode m_Al_remove.2.1 24 = .ok (.aload_n 3, 1) := by decide +kernel
theorem d_Al_remove_25 : decode m_Al_remove.2.1 25 = .ok (.areturn, 1) := by decide +kernel
theorem d_Os_checkIndex_0 : decode m_Os_checkIndex.2.1 0 = .ok (.iload_n 0, 1) := by decide +kernel
theorem d_Os_checkIndex_1 : decode m_Os_checkIndex.2.1 1 = .ok (.iload_n 1, 1) := by decide +kernel
theorem d_Os_checkIndex_2 : decode m_Os_checkIndex.2.1 2 = .ok (.aconst_null, 1) := by decide +kernel
theorem d_Os_checkIndex_3 : decode m_Os_checkIndex.2.1 3 = .ok (.invokestatic 105, 3) := by decide +kernel
theorem d_Os_checkIndex_6 : decode m_Os_checkIndex.2.1 6 = .ok (.ireturn, 1) := by decide +kernel
theorem d_Pr_checkIndex_0 : decode m_Pr_checkIndex.2.1 0 = .ok (.iload_n 0, 1) := by decide +kernel
theorem d_Pr_checkIndex_1 : decode m_Pr_checkIndex.2.1 1 = .ok (.ifCond .lt 8, 3) := by decide +kernel
theorem d_Pr_checkIndex_4 : decode m_Pr_checkIndex.2.1 4 = .ok (.iload_n 0, 1) := by decide +kernel
theorem d_Pr_checkIndex_5 : decode m_Pr_checkIndex.2.1 5 = .ok (.iload_n 1, 1) := by decide +kernel
theorem d_Pr_checkIndex_6 : decode m_Pr_checkIndex.2.1 6 = .ok (.if_icmp .lt 10, 3) := by decide +kernel
theorem d_Pr_checkIndex_9 : decode m_Pr_checkIndex.2.1 9 = .ok (.aload_n 2, 1) := by decide +kernel
theorem d_Pr_checkIndex_10 : decode m_Pr_checkIndex.2.1 10 = .ok (.iload_n 0, 1) := by decide +kernel
theorem d_Pr_checkIndex_11 : decode m_Pr_checkIndex.2.1 11 = .ok (.iload_n 1, 1) := by decide +kernel
theorem d_Pr_checkIndex_12 : decode m_Pr_checkIndex.2.1 12 = .ok (.invokestatic 95, 3) := by decide +kernel
theorem d_Pr_checkIndex_15 : decode m_Pr_checkIndex.2.1 15 = .ok (.athrow, 1) := by decide +kernel
theorem d_Pr_checkIndex_16 : decode m_Pr_checkIndex.2.1 16 = .ok (.iload_n 0, 1) := by decide +kernel
theorem d_Pr_checkIndex_17 : decode m_Pr_checkIndex.2.1 17 = .ok (.ireturn, 1) := by decide +kernel
theorem d_Al_fastRemove_0 : decode m_Al_fastRemove.2.1 0 = .ok (.aload_n 0, 1) := by decide +kernel
theorem d_Al_fastRemove_1 : decode m_Al_fastRemove.2.1 1 = .ok (.dup, 1) := by decide +kernel
theorem d_Al_fastRemove_2 : decode m_Al_fastRemove.2.1 2 = .ok (.getfield 63, 3) := by decide +kernel
theorem d_Al_fastRemove_5 : decode m_Al_fastRemove.2.1 5 = .ok (.iconst 1, 1) := by decide +kernel
theorem d_Al_fastRemove_6 : decode m_Al_fastRemove.2.1 6 = .ok (.iadd, 1) := by decide +kernel
theorem d_Al_fastRemove_7 : decode m_Al_fastRemove.2.1 7 = .ok (.putfield 63, 3) := by decide +kernel
theorem d_Al_fastRemove_10 : decode m_Al_fastRemove.2.1 10 = .ok (.aload_n 0, 1) := by decide +kernel
theorem d_Al_fastRemove_11 : decode m_Al_fastRemove.2.1 11 = .ok (.getfield 48, 3) := by decide +kernel
theorem d_Al_fastRemove_14 : decode m_Al_fastRemove.2.1 14 = .ok (.iconst 1, 1) := by decide +kernel
theorem d_Al_fastRemove_15 : decode m_Al_fastRemove.2.1 15 = .ok (.isub, 1) := by decide +kernel
theorem d_Al_fastRemove_16 : decode m_Al_fastRemove.2.1 16 = .ok (.dup, 1) := by decide +kernel
theorem d_Al_fastRemove_17 : decode m_Al_fastRemove.2.1 17 = .ok (.istore_n 3, 1) := by decide +kernel
theorem d_Al_fastRemove_18 : decode m_Al_fastRemove.2.1 18 = .ok (.iload_n 2, 1) := by decide +kernel
theorem d_Al_fastRemove_19 : decode m_Al_fastRemove.2.1 19 = .ok (.if_icmp .le 15, 3) := by decide +kernel
theorem d_Al_fastRemove_22 : decode m_Al_fastRemove.2.1 22 = .ok (.aload_n 1, 1) := by decide +kernel
theorem d_Al_fastRemove_23 : decode m_Al_fastRemove.2.1 23 = .ok (.iload_n 2, 1) := by decide +kernel
theorem d_Al_fastRemove_24 : decode m_Al_fastRemove.2.1 24 = .ok (.iconst 1, 1) := by decide +kernel
theorem d_Al_fastRemove_25 : decode m_Al_fastRemove.2.1 25 = .ok (.iadd, 1) := by decide +kernel
theorem d_Al_fastRemove_26 : decode m_Al_fastRemove.2.1 26 = .ok (.aload_n 1, 1) := by decide +kernel
theorem d_Al_fastRemove_27 : decode m_Al_fastRemove.2.1 27 = .ok (.iload_n 2, 1) := by decide +kernel
theorem d_Al_fastRemove_28 : decode m_Al_fastRemove.2.1 28 = .ok (.iload_n 3, 1) := by decide +kernel
theorem d_Al_fastRemove_29 : decode m_Al_fastRemove.2.1 29 = .ok (.iload_n 2, 1) := by decide +kernel
theorem d_Al_fastRemove_30 : decode m_Al_fastRemove.2.1 30 = .ok (.isub, 1) := by decide +kernel
theorem d_Al_fastRemove_31 : decode m_Al_fastRemove.2.1 31 = .ok (.invokestatic 112, 3) := by decide +kernel
theorem d_Al_fastRemove_34 : decode m_Al_fastRemove.2.1 34 = .ok (.aload_n 1, 1) := by decide +kernel
theorem d_Al_fastRemove_35 : decode m_Al_fastRemove.2.1 35 = .ok (.aload_n 0, 1) := by decide +kernel
theorem d_Al_fastRemove_36 : decode m_Al_fastRemove.2.1 36 = .ok (.iload_n 3, 1) := by decide +kernel
theorem d_Al_fastRemove_37 : decode m_Al_fastRemove.2.1 37 = .ok (.dup_x1, 1) := by decide +kernel
theorem d_Al_fastRemove_38 : decode m_Al_fastRemove.2.1 38 = .ok (.putfield 48, 3) := by decide +kernel
theorem d_Al_fastRemove_41 : decode m_Al_fastRemove.2.1 41 = .ok (.aconst_null, 1) := by decide +kernel
theorem d_Al_fastRemove_42 : decode m_Al_fastRemove.2.1 42 = .ok (.aastore, 1) := by decide +kernel
theorem d_Al_fastRemove_43 : decode m_Al_fastRemove.2.1 43 = .ok (.return_, 1) := by decide +kernel
theorem d_Nd_take_0 : decode m_Nd_take.2.1 0 = .ok (.aload_n 0, 1) := by decide +kernel
theorem d_Nd_take_1 : decode m_Nd_take.2.1 1 = .ok (.getfield 63, 3) := by decide +kernel
theorem d_Nd_take_4 : decode m_Nd_take.2.1 4 = .ok (.ifCond .ne 14, 3) := by decide +kernel
theorem d_Nd_take_7 : decode m_Nd_take.2.1 7 = .ok (.aload_n 1, 1) := by decide +kernel
theorem d_Nd_take_8 : decode m_Nd_take.2.1 8 = .ok (.getfield 74, 3) := by decide +kernel
theorem d_Nd_take_11 : decode m_Nd_take.2.1 11 = .ok (.aload_n 0, 1) := by decide +kernel
theorem d_Nd_take_12 : decode m_Nd_take.2.1 12 = .ok (.getfield 35, 3) := by decide +kernel
theorem d_Nd_take_15 : decode m_Nd_take.2.1 15 = .ok (.if_icmp .ge 4, 3) := by decide +kernel
theorem d_Nd_take_18 : decode m_Nd_take.2.1 18 = .ok (.return_, 1) := by decide +kernel
theorem d_Nd_take_19 : decode m_Nd_take.2.1 19 = .ok (.aload_n 1, 1) := by decide +kernel
theorem d_Nd_take_20 : decode m_Nd_take.2.1 20 = .ok (.getfield 74, 3) := by decide +kernel
theorem d_Nd_take_23 : decode m_Nd_take.2.1 23 = .ok (.iconst 4, 1) := by decide +kernel
theorem d_Nd_take_24 : decode m_Nd_take.2.1 24 = .ok (.imul, 1) := by decide +kernel
theorem d_Nd_take_25 : decode m_Nd_take.2.1 25 = .ok (.aload_n 1, 1) := by decide +kernel
theorem d_Nd_take_26 : decode m_Nd_take.2.1 26 = .ok (.getfield 77, 3) := by decide +kernel
theorem d_Nd_take_29 : decode m_Nd_take.2.1 29 = .ok (.iadd, 1) := by decide +kernel
theorem d_Nd_take_30 : decode m_Nd_take.2.1 30 = .ok (.istore_n 2, 1) := by decide +kernel
theorem d_Nd_take_31 : decode m_Nd_take.2.1 31 = .ok (.aload_n 1, 1) := by decide +kernel
theorem d_Nd_take_32 : decode m_Nd_take.2.1 32 = .ok (.getfield 80, 3) := by decide +kernel
theorem d_Nd_take_35 : decode m_Nd_take.2.1 35 = .ok (.iconst 3, 1) := by decide +kernel
theorem d_Nd_take_36 : decode m_Nd_take.2.1 36 = .ok (.if_icmp .lt 16, 3) := by decide +kernel
theorem d_Nd_take_39 : decode m_Nd_take.2.1 39 = .ok (.aload_n 0, 1) := by decide +kernel
theorem d_Nd_take_40 : decode m_Nd_take.2.1 40 = .ok (.getfield 31, 3) := by decide +kernel
theorem d_Nd_take_43 : decode m_Nd_take.2.1 43 = .ok (.iload_n 2, 1) := by decide +kernel
theorem d_Nd_take_44 : decode m_Nd_take.2.1 44 = .ok (.aaload, 1) := by decide +kernel
theorem d_Nd_take_45 : decode m_Nd_take.2.1 45 = .ok (.aload_n 1, 1) := by decide +kernel
theorem d_Nd_take_46 : decode m_Nd_take.2.1 46 = .ok (.invokevirtual 83, 3) := by decide +kernel
theorem d_Nd_take_49 : decode m_Nd_take.2.1 49 = .ok (.goto 13, 3) := by decide +kernel
theorem d_Nd_take_52 : decode m_Nd_take.2.1 52 = .ok (.aload_n 0, 1) := by decide +kernel
theorem d_Nd_take_53 : decode m_Nd_take.2.1 53 = .ok (.getfield 25, 3) := by decide +kernel
theorem d_Nd_take_56 : decode m_Nd_take.2.1 56 = .ok (.iload_n 2, 1) := by decide +kernel
theorem d_Nd_take_57 : decode m_Nd_take.2.1 57 = .ok (.aaload, 1) := by decide +kernel
theorem d_Nd_take_58 : decode m_Nd_take.2.1 58 = .ok (.aload_n 1, 1) := by decide +kernel
theorem d_Nd_take_59 : decode m_Nd_take.2.1 59 = .ok (.invokevirtual 87, 3) := by decide +kernel
theorem d_Nd_take_62 : decode m_Nd_take.2.1 62 = .ok (.aload_n 1, 1) := by decide +kernel
theorem d_Nd_take_63 : decode m_Nd_take.2.1 63 = .ok (.getfield 74, 3) := by decide +kernel
theorem d_Nd_take_66 : decode m_Nd_take.2.1 66 = .ok (.aload_n 0, 1) := by decide +kernel
theorem d_Nd_take_67 : decode m_Nd_take.2.1 67 = .ok (.getfield 35, 3) := by decide +kernel
theorem d_Nd_take_70 : decode m_Nd_take.2.1 70 = .ok (.if_icmp .ne 15, 3) := by decide +kernel
theorem d_Nd_take_73 : decode m_Nd_take.2.1 73 = .ok (.aload_n 0, 1) := by decide +kernel
theorem d_Nd_take_74 : decode m_Nd_take.2.1 74 = .ok (.aload_n 1, 1) := by decide +kernel
theorem d_Nd_take_75 : decode m_Nd_take.2.1 75 = .ok (.getfield 77, 3) := by decide +kernel
theorem d_Nd_take_78 : decode m_Nd_take.2.1 78 = .ok (.aload_n 1, 1) := by decide +kernel
theorem d_Nd_take_79 : decode m_Nd_take.2.1 79 = .ok (.getfield 77, 3) := by decide +kernel
theorem d_Nd_take_82 : decode m_Nd_take.2.1 82 = .ok (.invokevirtual 70, 3) := by decide +kernel
theorem d_Nd_take_85 : decode m_Nd_take.2.1 85 = .ok (.return_, 1) := by decide +kernel
theorem d_Ag_keep_0 : decode m_Ag_keep.2.1 0 = .ok (.iconst 2, 1) := by decide +kernel
theorem d_Ag_keep_1 : decode m_Ag_keep.2.1 1 = .ok (.aload_n 1, 1) := by decide +kernel
theorem d_Ag_keep_2 : decode m_Ag_keep.2.1 2 = .ok (.getfield 44, 3) := by decide +kernel
theorem d_Ag_keep_5 : decode m_Ag_keep.2.1 5 = .ok (.imul, 1) := by decide +kernel
theorem d_Ag_keep_6 : decode m_Ag_keep.2.1 6 = .ok (.aload_n 1, 1) := by decide +kernel
theorem d_Ag_keep_7 : decode m_Ag_keep.2.1 7 = .ok (.getfield 49, 3) := by decide +kernel
theorem d_Ag_keep_10 : decode m_Ag_keep.2.1 10 = .ok (.iadd, 1) := by decide +kernel
theorem d_Ag_keep_11 : decode m_Ag_keep.2.1 11 = .ok (.istore_n 2, 1) := by decide +kernel
theorem d_Ag_keep_12 : decode m_Ag_keep.2.1 12 = .ok (.iconst 1, 1) := by decide +kernel
theorem d_Ag_keep_13 : decode m_Ag_keep.2.1 13 = .ok (.aload_n 1, 1) := by decide +kernel
theorem d_Ag_keep_14 : decode m_Ag_keep.2.1 14 = .ok (.getfield 52, 3) := by decide +kernel
theorem d_Ag_keep_17 : decode m_Ag_keep.2.1 17 = .ok (.ishl, 1) := by decide +kernel
end
section
theorem d_Ag_keep_18 : decode m_Ag_keep.2.1 18 = .ok (.istore_n 3, 1) := by decide +kernel
theorem d_Ag_keep_19 : decode m_Ag_keep.2.1 19 = .ok (.aload_n 1, 1) := by decide +kernel
theorem d_Ag_keep_20 : decode m_Ag_keep.2.1 20 = .ok (.getfield 55, 3) := by decide +kernel
theorem d_Ag_keep_23 : decode m_Ag_keep.2.1 23 = .ok (.iconst 3, 1) := by decide +kernel
theorem d_Ag_keep_24 : decode m_Ag_keep.2.1 24 = .ok (.if_icmp .ne 16, 3) := by decide +kernel
theorem d_Ag_keep_27 : decode m_Ag_keep.2.1 27 = .ok (.aload_n 0, 1) := by decide +kernel
theorem d_Ag_keep_28 : decode m_Ag_keep.2.1 28 = .ok (.getfield 9, 3) := by decide +kernel
theorem d_Ag_keep_31 : decode m_Ag_keep.2.1 31 = .ok (.iload_n 2, 1) := by decide +kernel
theorem d_Ag_keep_32 : decode m_Ag_keep.2.1 32 = .ok (.dup2, 1) := by decide +kernel
theorem d_Ag_keep_33 : decode m_Ag_keep.2.1 33 = .ok (.iaload, 1) := by decide +kernel
theorem d_Ag_keep_34 : decode m_Ag_keep.2.1 34 = .ok (.iload_n 3, 1) := by decide +kernel
theorem d_Ag_keep_35 : decode m_Ag_keep.2.1 35 = .ok (.ior, 1) := by decide +kernel
theorem d_Ag_keep_36 : decode m_Ag_keep.2.1 36 = .ok (.iastore, 1) := by decide +kernel
theorem d_Ag_keep_37 : decode m_Ag_keep.2.1 37 = .ok (.goto 43, 3) := by decide +kernel
theorem d_Ag_keep_40 : decode m_Ag_keep.2.1 40 = .ok (.aload_n 0, 1) := by decide +kernel
theorem d_Ag_keep_41 : decode m_Ag_keep.2.1 41 = .ok (.getfield 15, 3) := by decide +kernel
theorem d_Ag_keep_44 : decode m_Ag_keep.2.1 44 = .ok (.iconst 2, 1) := by decide +kernel
theorem d_Ag_keep_45 : decode m_Ag_keep.2.1 45 = .ok (.aload_n 1, 1) := by decide +kernel
theorem d_Ag_keep_46 : decode m_Ag_keep.2.1 46 = .ok (.getfield 44, 3) := by decide +kernel
theorem d_Ag_keep_49 : decode m_Ag_keep.2.1 49 = .ok (.imul, 1) := by decide +kernel
theorem d_Ag_keep_50 : decode m_Ag_keep.2.1 50 = .ok (.iaload, 1) := by decide +kernel
theorem d_Ag_keep_51 : decode m_Ag_keep.2.1 51 = .ok (.aload_n 0, 1) := by decide +kernel
theorem d_Ag_keep_52 : decode m_Ag_keep.2.1 52 = .ok (.getfield 15, 3) := by decide +kernel
theorem d_Ag_keep_55 : decode m_Ag_keep.2.1 55 = .ok (.iconst 2, 1) := by decide +kernel
theorem d_Ag_keep_56 : decode m_Ag_keep.2.1 56 = .ok (.aload_n 1, 1) := by decide +kernel
theorem d_Ag_keep_57 : decode m_Ag_keep.2.1 57 = .ok (.getfield 44, 3) := by decide +kernel
theorem d_Ag_keep_60 : decode m_Ag_keep.2.1 60 = .ok (.imul, 1) := by decide +kernel
theorem d_Ag_keep_61 : decode m_Ag_keep.2.1 61 = .ok (.iconst 1, 1) := by decide +kernel
theorem d_Ag_keep_62 : decode m_Ag_keep.2.1 62 = .ok (.iadd, 1) := by decide +kernel
theorem d_Ag_keep_63 : decode m_Ag_keep.2.1 63 = .ok (.iaload, 1) := by decide +kernel
theorem d_Ag_keep_64 : decode m_Ag_keep.2.1 64 = .ok (.ior, 1) := by decide +kernel
theorem d_Ag_keep_65 : decode m_Ag_keep.2.1 65 = .ok (.iload_n 3, 1) := by decide +kernel
theorem d_Ag_keep_66 : decode m_Ag_keep.2.1 66 = .ok (.iand, 1) := by decide +kernel
theorem d_Ag_keep_67 : decode m_Ag_keep.2.1 67 = .ok (.ifCond .ne 13, 3) := by decide +kernel
theorem d_Ag_keep_70 : decode m_Ag_keep.2.1 70 = .ok (.aload_n 0, 1) := by decide +kernel
theorem d_Ag_keep_71 : decode m_Ag_keep.2.1 71 = .ok (.getfield 15, 3) := by decide +kernel
theorem d_Ag_keep_74 : decode m_Ag_keep.2.1 74 = .ok (.iload_n 2, 1) := by decide +kernel
theorem d_Ag_keep_75 : decode m_Ag_keep.2.1 75 = .ok (.dup2, 1) := by decide +kernel
theorem d_Ag_keep_76 : decode m_Ag_keep.2.1 76 = .ok (.iaload, 1) := by decide +kernel
theorem d_Ag_keep_77 : decode m_Ag_keep.2.1 77 = .ok (.iload_n 3, 1) := by decide +kernel
theorem d_Ag_keep_78 : decode m_Ag_keep.2.1 78 = .ok (.ior, 1) := by decide +kernel
theorem d_Ag_keep_79 : decode m_Ag_keep.2.1 79 = .ok (.iastore, 1) := by decide +kernel
theorem d_Ag_keep_80 : decode m_Ag_keep.2.1 80 = .ok (.return_, 1) := by decide +kernel
theorem d_Bc_keep_0 : decode m_Bc_keep.2.1 0 = .ok (.aload_n 1, 1) := by decide +kernel
theorem d_Bc_keep_1 : decode m_Bc_keep.2.1 1 = .ok (.getfield 42, 3) := by decide +kernel
theorem d_Bc_keep_4 : decode m_Bc_keep.2.1 4 = .ok (.ifCond .ne 11, 3) := by decide +kernel
theorem d_Bc_keep_7 : decode m_Bc_keep.2.1 7 = .ok (.aload_n 0, 1) := by decide +kernel
theorem d_Bc_keep_8 : decode m_Bc_keep.2.1 8 = .ok (.aload_n 1, 1) := by decide +kernel
theorem d_Bc_keep_9 : decode m_Bc_keep.2.1 9 = .ok (.invokevirtual 47, 3) := by decide +kernel
theorem d_Bc_keep_12 : decode m_Bc_keep.2.1 12 = .ok (.goto 48, 3) := by decide +kernel
theorem d_Bc_keep_15 : decode m_Bc_keep.2.1 15 = .ok (.aload_n 1, 1) := by decide +kernel
theorem d_Bc_keep_16 : decode m_Bc_keep.2.1 16 = .ok (.getfield 42, 3) := by decide +kernel
theorem d_Bc_keep_19 : decode m_Bc_keep.2.1 19 = .ok (.iconst 1, 1) := by decide +kernel
theorem d_Bc_keep_20 : decode m_Bc_keep.2.1 20 = .ok (.if_icmp .ne 11, 3) := by decide +kernel
theorem d_Bc_keep_23 : decode m_Bc_keep.2.1 23 = .ok (.aload_n 0, 1) := by decide +kernel
theorem d_Bc_keep_24 : decode m_Bc_keep.2.1 24 = .ok (.aload_n 1, 1) := by decide +kernel
theorem d_Bc_keep_25 : decode m_Bc_keep.2.1 25 = .ok (.invokevirtual 51, 3) := by decide +kernel
theorem d_Bc_keep_28 : decode m_Bc_keep.2.1 28 = .ok (.goto 32, 3) := by decide +kernel
theorem d_Bc_keep_31 : decode m_Bc_keep.2.1 31 = .ok (.aload_n 0, 1) := by decide +kernel
theorem d_Bc_keep_32 : decode m_Bc_keep.2.1 32 = .ok (.getfield 22, 3) := by decide +kernel
theorem d_Bc_keep_35 : decode m_Bc_keep.2.1 35 = .ok (.aload_n 1, 1) := by decide +kernel
theorem d_Bc_keep_36 : decode m_Bc_keep.2.1 36 = .ok (.getfield 54, 3) := by decide +kernel
theorem d_Bc_keep_39 : decode m_Bc_keep.2.1 39 = .ok (.invokevirtual 57, 3) := by decide +kernel
theorem d_Bc_keep_42 : decode m_Bc_keep.2.1 42 = .ok (.ifCond .ne 18, 3) := by decide +kernel
theorem d_Bc_keep_45 : decode m_Bc_keep.2.1 45 = .ok (.aload_n 0, 1) := by decide +kernel
theorem d_Bc_keep_46 : decode m_Bc_keep.2.1 46 = .ok (.getfield 22, 3) := by decide +kernel
theorem d_Bc_keep_49 : decode m_Bc_keep.2.1 49 = .ok (.aload_n 1, 1) := by decide +kernel
theorem d_Bc_keep_50 : decode m_Bc_keep.2.1 50 = .ok (.getfield 54, 3) := by decide +kernel
theorem d_Bc_keep_53 : decode m_Bc_keep.2.1 53 = .ok (.aload_n 1, 1) := by decide +kernel
theorem d_Bc_keep_54 : decode m_Bc_keep.2.1 54 = .ok (.getfield 61, 3) := by decide +kernel
theorem d_Bc_keep_57 : decode m_Bc_keep.2.1 57 = .ok (.invokevirtual 64, 3) := by decide +kernel
theorem d_Bc_keep_60 : decode m_Bc_keep.2.1 60 = .ok (.return_, 1) := by decide +kernel
theorem d_Bc_keepValue_0 : decode m_Bc_keepValue.2.1 0 = .ok (.aload_n 0, 1) := by decide +kernel
theorem d_Bc_keepValue_1 : decode m_Bc_keepValue.2.1 1 = .ok (.getfield 68, 3) := by decide +kernel
theorem d_Bc_keepValue_4 : decode m_Bc_keepValue.2.1 4 = .ok (.ifCond .ne 53, 3) := by decide +kernel
theorem d_Bc_keepValue_7 : decode m_Bc_keepValue.2.1 7 = .ok (.aload_n 1, 1) := by decide +kernel
theorem d_Bc_keepValue_8 : decode m_Bc_keepValue.2.1 8 = .ok (.getfield 54, 3) := by decide +kernel
theorem d_Bc_keepValue_11 : decode m_Bc_keepValue.2.1 11 = .ok (.aload_n 0, 1) := by decide +kernel
theorem d_Bc_keepValue_12 : decode m_Bc_keepValue.2.1 12 = .ok (.getfield 39, 3) := by decide +kernel
theorem d_Bc_keepValue_15 : decode m_Bc_keepValue.2.1 15 = .ok (.if_icmp .ne 42, 3) := by decide +kernel
theorem d_Bc_keepValue_18 : decode m_Bc_keepValue.2.1 18 = .ok (.aload_n 0, 1) := by decide +kernel
theorem d_Bc_keepValue_19 : decode m_Bc_keepValue.2.1 19 = .ok (.getfield 33, 3) := by decide +kernel
theorem d_Bc_keepValue_22 : decode m_Bc_keepValue.2.1 22 = .ok (.aload_n 1, 1) := by decide +kernel
theorem d_Bc_keepValue_23 : decode m_Bc_keepValue.2.1 23 = .ok (.getfield 61, 3) := by decide +kernel
theorem d_Bc_keepValue_26 : decode m_Bc_keepValue.2.1 26 = .ok (.aload_n 1, 1) := by decide +kernel
theorem d_Bc_keepValue_27 : decode m_Bc_keepValue.2.1 27 = .ok (.getfield 72, 3) := by decide +kernel
theorem d_Bc_keepValue_30 : decode m_Bc_keepValue.2.1 30 = .ok (.invokestatic 75, 3) := by decide +kernel
theorem d_Bc_keepValue_33 : decode m_Bc_keepValue.2.1 33 = .ok (.ifCond .eq 24, 3) := by decide +kernel
theorem d_Bc_keepValue_36 : decode m_Bc_keepValue.2.1 36 = .ok (.aload_n 0, 1) := by decide +kernel
theorem d_Bc_keepValue_37 : decode m_Bc_keepValue.2.1 37 = .ok (.iconst 1, 1) := by decide +kernel
theorem d_Bc_keepValue_38 : decode m_Bc_keepValue.2.1 38 = .ok (.putfield 68, 3) := by decide +kernel
theorem d_Bc_keepValue_41 : decode m_Bc_keepValue.2.1 41 = .ok (.aload_n 0, 1) := by decide +kernel
theorem d_Bc_keepValue_42 : decode m_Bc_keepValue.2.1 42 = .ok (.aload_n 1, 1) := by decide +kernel
theorem d_Bc_keepValue_43 : decode m_Bc_keepValue.2.1 43 = .ok (.getfield 61, 3) := by decide +kernel
theorem d_Bc_keepValue_46 : decode m_Bc_keepValue.2.1 46 = .ok (.putfield 81, 3) := by decide +kernel
theorem d_Bc_keepValue_49 : decode m_Bc_keepValue.2.1 49 = .ok (.aload_n 0, 1) := by decide +kernel
theorem d_Bc_keepValue_50 : decode m_Bc_keepValue.2.1 50 = .ok (.aload_n 1, 1) := by decide +kernel
theorem d_Bc_keepValue_51 : decode m_Bc_keepValue.2.1 51 = .ok (.getfield 72, 3) := by decide +kernel
theorem d_Bc_keepValue_54 : decode m_Bc_keepValue.2.1 54 = .ok (.putfield 84, 3) := by decide +kernel
theorem d_Bc_keepValue_57 : decode m_Bc_keepValue.2.1 57 = .ok (.return_, 1) := by decide +kernel
theorem d_Co_isRight_0 : decode m_Co_isRight.2.1 0 = .ok (.iload_n 0, 1) := by decide +kernel
theorem d_Co_isRight_1 : decode m_Co_isRight.2.1 1 = .ok (.iload_n 2, 1) := by decide +kernel
theorem d_Co_isRight_2 : decode m_Co_isRight.2.1 2 = .ok (.sipush 255, 3) := by decide +kernel
theorem d_Co_isRight_5 : decode m_Co_isRight.2.1 5 = .ok (.iand, 1) := by decide +kernel
theorem d_Co_isRight_6 : decode m_Co_isRight.2.1 6 = .ok (.invokestatic 17, 3) := by decide +kernel
theorem d_Co_isRight_9 : decode m_Co_isRight.2.1 9 = .ok (.istore_n 3, 1) := by decide +kernel
theorem d_Co_isRight_10 : decode m_Co_isRight.2.1 10 = .ok (.iload_n 2, 1) := by decide +kernel
theorem d_Co_isRight_11 : decode m_Co_isRight.2.1 11 = .ok (.bipush 8, 2) := by decide +kernel
theorem d_Co_isRight_13 : decode m_Co_isRight.2.1 13 = .ok (.iushr, 1) := by decide +kernel
theorem d_Co_isRight_14 : decode m_Co_isRight.2.1 14 = .ok (.sipush 255, 3) := by decide +kernel
theorem d_Co_isRight_17 : decode m_Co_isRight.2.1 17 = .ok (.iand, 1) := by decide +kernel
theorem d_Co_isRight_18 : decode m_Co_isRight.2.1 18 = .ok (.istore 4, 2) := by decide +kernel
theorem d_Co_isRight_20 : decode m_Co_isRight.2.1 20 = .ok (.iload_n 2, 1) := by decide +kernel
theorem d_Co_isRight_21 : decode m_Co_isRight.2.1 21 = .ok (.bipush 16, 2) := by decide +kernel
theorem d_Co_isRight_23 : decode m_Co_isRight.2.1 23 = .ok (.iushr, 1) := by decide +kernel
theorem d_Co_isRight_24 : decode m_Co_isRight.2.1 24 = .ok (.istore 5, 2) := by decide +kernel
theorem d_Co_isRight_26 : decode m_Co_isRight.2.1 26 = .ok (.iload_n 0, 1) := by decide +kernel
theorem d_Co_isRight_27 : decode m_Co_isRight.2.1 27 = .ok (.iconst 1, 1) := by decide +kernel
theorem d_Co_isRight_28 : decode m_Co_isRight.2.1 28 = .ok (.iand, 1) := by decide +kernel
theorem d_Co_isRight_29 : decode m_Co_isRight.2.1 29 = .ok (.ifCond .ne 12, 3) := by decide +kernel
theorem d_Co_isRight_32 : decode m_Co_isRight.2.1 32 = .ok (.iload_n 3, 1) := by decide +kernel
theorem d_Co_isRight_33 : decode m_Co_isRight.2.1 33 = .ok (.iload 4, 2) := by decide +kernel
theorem d_Co_isRight_35 : decode m_Co_isRight.2.1 35 = .ok (.invokestatic 20, 3) := by decide +kernel
theorem d_Co_isRight_38 : decode m_Co_isRight.2.1 38 = .ok (.goto 9, 3) := by decide +kernel
theorem d_Co_isRight_41 : decode m_Co_isRight.2.1 41 = .ok (.iload 4, 2) := by decide +kernel
theorem d_Co_isRight_43 : decode m_Co_isRight.2.1 43 = .ok (.iload_n 3, 1) := by decide +kernel
theorem d_Co_isRight_44 : decode m_Co_isRight.2.1 44 = .ok (.invokestatic 20, 3) := by decide +kernel
theorem d_Co_isRight_47 : decode m_Co_isRight.2.1 47 = .ok (.istore 6, 2) := by decide +kernel
theorem d_Co_isRight_49 : decode m_Co_isRight.2.1 49 = .ok (.iload_n 1, 1) := by decide +kernel
theorem d_Co_isRight_50 : decode m_Co_isRight.2.1 50 = .ok (.iload_n 0, 1) := by decide +kernel
theorem d_Co_isRight_51 : decode m_Co_isRight.2.1 51 = .ok (.iconst 2, 1) := by decide +kernel
theorem d_Co_isRight_52 : decode m_Co_isRight.2.1 52 = .ok (.if_icmp .ge 13, 3) := by decide +kernel
theorem d_Co_isRight_55 : decode m_Co_isRight.2.1 55 = .ok (.iload 6, 2) := by decide +kernel
theorem d_Co_isRight_57 : decode m_Co_isRight.2.1 57 = .ok (.iload 5, 2) := by decide +kernel
theorem d_Co_isRight_59 : decode m_Co_isRight.2.1 59 = .ok (.invokestatic 23, 3) := by decide +kernel
theorem d_Co_isRight_62 : decode m_Co_isRight.2.1 62 = .ok (.goto 10, 3) := by decide +kernel
theorem d_Co_isRight_65 : decode m_Co_isRight.2.1 65 = .ok (.iload 5, 2) := by decide +kernel
theorem d_Co_isRight_67 : decode m_Co_isRight.2.1 67 = .ok (.iload 6, 2) := by decide +kernel
theorem d_Co_isRight_69 : decode m_Co_isRight.2.1 69 = .ok (.invokestatic 23, 3) := by decide +kernel
theorem d_Co_isRight_72 : decode m_Co_isRight.2.1 72 = .ok (.if_icmp .ne 7, 3) := by decide +kernel
theorem d_Co_isRight_75 : decode m_Co_isRight.2.1 75 = .ok (.iconst 1, 1) := by decide +kernel
theorem d_Co_isRight_76 : decode m_Co_isRight.2.1 76 = .ok (.goto 4, 3) := by decide +kernel
theorem d_Co_isRight_79 : decode m_Co_isRight.2.1 79 = .ok (.iconst 0, 1) := by decide +kernel
theorem d_Co_isRight_80 : decode m_Co_isRight.2.1 80 = .ok (.ireturn, 1) := by decide +kernel
theorem d_Bc_keepEcho_0 : decode m_Bc_keepEcho.2.1 0 = .ok (.aload_n 1, 1) := by decide +kernel
theorem d_Bc_keepEcho_1 : decode m_Bc_keepEcho.2.1 1 = .ok (.getfield 54, 3) := by decide +kernel
theorem d_Bc_keepEcho_4 : decode m_Bc_keepEcho.2.1 4 = .ok (.istore_n 2, 1) := by decide +kernel
theorem d_Bc_keepEcho_5 : decode m_Bc_keepEcho.2.1 5 = .ok (.aload_n 0, 1) := by decide +kernel
theorem d_Bc_keepEcho_6 : decode m_Bc_keepEcho.2.1 6 = .ok (.getfield 12, 3) := by decide +kernel
theorem d_Bc_keepEcho_9 : decode m_Bc_keepEcho.2.1 9 = .ok (.iload_n 2, 1) := by decide +kernel
theorem d_Bc_keepEcho_10 : decode m_Bc_keepEcho.2.1 10 = .ok (.invokevirtual 57, 3) := by decide +kernel
theorem d_Bc_keepEcho_13 : decode m_Bc_keepEcho.2.1 13 = .ok (.ifCond .ne 44, 3) := by decide +kernel
theorem d_Bc_keepEcho_16 : decode m_Bc_keepEcho.2.1 16 = .ok (.iload_n 2, 1) := by decide +kernel
theorem d_Bc_keepEcho_17 : decode m_Bc_keepEcho.2.1 17 = .ok (.aload_n 1, 1) := by decide +kernel
theorem d_Bc_keepEcho_18 : decode m_Bc_keepEcho.2.1 18 = .ok (.getfield 61, 3) := by decide +kernel
theorem d_Bc_keepEcho_21 : decode m_Bc_keepEcho.2.1 21 = .ok (.aload_n 1, 1) := by decide +kernel
theorem d_Bc_keepEcho_22 : decode m_Bc_keepEcho.2.1 22 = .ok (.getfield 72, 3) := by decide +kernel
theorem d_Bc_keepEcho_25 : decode m_Bc_keepEcho.2.1 25 = .ok (.invokestatic 75, 3) := by decide +kernel
theorem d_Bc_keepEcho_28 : decode m_Bc_keepEcho.2.1 28 = .ok (.ifCond .eq 29, 3) := by decide +kernel
theorem d_Bc_keepEcho_31 : decode m_Bc_keepEcho.2.1 31 = .ok (.aload_n 0, 1) := by decide +kernel
theorem d_Bc_keepEcho_32 : decode m_Bc_keepEcho.2.1 32 = .ok (.getfield 12, 3) := by decide +kernel
theorem d_Bc_keepEcho_35 : decode m_Bc_keepEcho.2.1 35 = .ok (.iload_n 2, 1) := by decide +kernel
theorem d_Bc_keepEcho_36 : decode m_Bc_keepEcho.2.1 36 = .ok (.aload_n 1, 1) := by decide +kernel
theorem d_Bc_keepEcho_37 : decode m_Bc_keepEcho.2.1 37 = .ok (.getfield 61, 3) := by decide +kernel
theorem d_Bc_keepEcho_40 : decode m_Bc_keepEcho.2.1 40 = .ok (.invokevirtual 64, 3) := by decide +kernel
theorem d_Bc_keepEcho_43 : decode m_Bc_keepEcho.2.1 43 = .ok (.aload_n 0, 1) := by decide +kernel
theorem d_Bc_keepEcho_44 : decode m_Bc_keepEcho.2.1 44 = .ok (.getfield 18, 3) := by decide +kernel
theorem d_Bc_keepEcho_47 : decode m_Bc_keepEcho.2.1 47 = .ok (.iload_n 2, 1) := by decide +kernel
theorem d_Bc_keepEcho_48 : decode m_Bc_keepEcho.2.1 48 = .ok (.aload_n 1, 1) := by decide +kernel
theorem d_Bc_keepEcho_49 : decode m_Bc_keepEcho.2.1 49 = .ok (.getfield 72, 3) := by decide +kernel
theorem d_Bc_keepEcho_52 : decode m_Bc_keepEcho.2.1 52 = .ok (.sipush 255, 3) := by decide +kernel
theorem d_Bc_keepEcho_55 : decode m_Bc_keepEcho.2.1 55 = .ok (.iand, 1) := by decide +kernel
theorem d_Bc_keepEcho_56 : decode m_Bc_keepEcho.2.1 56 = .ok (.iastore, 1) := by decide +kernel
theorem d_Bc_keepEcho_57 : decode m_Bc_keepEcho.2.1 57 = .ok (.return_, 1) := by decide +kernel
theorem d_Rt_put_0 : decode m_Rt_put.2.1 0 = .ok (.aload_n 0, 1) := by decide +kernel
theorem d_Rt_put_1 : decode m_Rt_put.2.1 1 = .ok (.getfield 9, 3) := by decide +kernel
theorem d_Rt_put_4 : decode m_Rt_put.2.1 4 = .ok (.iload_n 1, 1) := by decide +kernel
theorem d_Rt_put_5 : decode m_Rt_put.2.1 5 = .ok (.iload_n 2, 1) := by decide +kernel
theorem d_Rt_put_6 : decode m_Rt_put.2.1 6 = .ok (.iastore, 1) := by decide +kernel
theorem d_Rt_put_7 : decode m_Rt_put.2.1 7 = .ok (.aload_n 0, 1) := by decide +kernel
theorem d_Rt_put_8 : decode m_Rt_put.2.1 8 = .ok (.dup, 1) := by decide +kernel
theorem d_Rt_put_9 : decode m_Rt_put.2.1 9 = .ok (.getfield 15, 3) := by decide +kernel
theorem d_Rt_put_12 : decode m_Rt_put.2.1 12 = .ok (.iconst 1, 1) := by decide +kernel
theorem d_Rt_put_13 : decode m_Rt_put.2.1 13 = .ok (.iload_n 1, 1) := by decide +kernel
theorem d_Rt_put_14 : decode m_Rt_put.2.1 14 = .ok (.ishl, 1) := by decide +kernel
theorem d_Rt_put_15 : decode m_Rt_put.2.1 15 = .ok (.ior, 1) := by decide +kernel
theorem d_Rt_put_16 : decode m_Rt_put.2.1 16 = .ok (.putfield 15, 3) := by decide +kernel
theorem d_Rt_put_19 : decode m_Rt_put.2.1 19 = .ok (.return_, 1) := by decide +kernel
theorem d_El_deliver_0 : decode m_El_deliver.2.1 0 = .ok (.iload_n 1, 1) := by decide +kernel
theorem d_El_deliver_1 : decode m_El_deliver.2.1 1 = .ok (.invokestatic 30, 3) := by decide +kernel
theorem d_El_deliver_4 : decode m_El_deliver.2.1 4 = .ok (.ifCond .eq 21, 3) := by decide +kernel
theorem d_El_deliver_7 : decode m_El_deliver.2.1 7 = .ok (.iload_n 2, 1) := by decide +kernel
theorem d_El_deliver_8 : decode m_El_deliver.2.1 8 = .ok (.iconst 0, 1) := by decide +kernel
theorem d_El_deliver_9 : decode m_El_deliver.2.1 9 = .ok (.aload_n 0, 1) := by decide +kernel
theorem d_El_deliver_10 : decode m_El_deliver.2.1 10 = .ok (.getfield 17, 3) := by decide +kernel
theorem d_El_deliver_13 : decode m_El_deliver.2.1 13 = .ok (.iload_n 1, 1) := by decide +kernel
theorem d_El_deliver_14 : decode m_El_deliver.2.1 14 = .ok (.invokevirtual 45, 3) := by decide +kernel
theorem d_El_deliver_17 : decode m_El_deliver.2.1 17 = .ok (.iconst 1, 1) := by decide +kernel
theorem d_El_deliver_18 : decode m_El_deliver.2.1 18 = .ok (.isub, 1) := by decide +kernel
theorem d_El_deliver_19 : decode m_El_deliver.2.1 19 = .ok (.invokestatic 34, 3) := by decide +kernel
theorem d_El_deliver_22 : decode m_El_deliver.2.1 22 = .ok (.ifCond .ne 5, 3) := by decide +kernel
theorem d_El_deliver_25 : decode m_El_deliver.2.1 25 = .ok (.iconst (-1), 1) := by decide +kernel
theorem d_El_deliver_26 : decode m_El_deliver.2.1 26 = .ok (.ireturn, 1) := by decide +kernel
theorem d_El_deliver_27 : decode m_El_deliver.2.1 27 = .ok (.aload_n 0, 1) := by decide +kernel
theorem d_El_deliver_28 : decode m_El_deliver.2.1 28 = .ok (.getfield 17, 3) := by decide +kernel
theorem d_El_deliver_31 : decode m_El_deliver.2.1 31 = .ok (.iload_n 1, 1) := by decide +kernel
theorem d_El_deliver_32 : decode m_El_deliver.2.1 32 = .ok (.iload_n 2, 1) := by decide +kernel
theorem d_El_deliver_33 : decode m_El_deliver.2.1 33 = .ok (.invokevirtual 49, 3) := by decide +kernel
theorem d_El_deliver_36 : decode m_El_deliver.2.1 36 = .ok (.astore_n 3, 1) := by decide +kernel
theorem d_El_deliver_37 : decode m_El_deliver.2.1 37 = .ok (.aload_n 0, 1) := by decide +kernel
theorem d_El_deliver_38 : decode m_El_deliver.2.1 38 = .ok (.getfield 23, 3) := by decide +kernel
theorem d_El_deliver_41 : decode m_El_deliver.2.1 41 = .ok (.iload_n 1, 1) := by decide +kernel
theorem d_El_deliver_42 : decode m_El_deliver.2.1 42 = .ok (.aaload, 1) := by decide +kernel
theorem d_El_deliver_43 : decode m_El_deliver.2.1 43 = .ok (.aload_n 3, 1) := by decide +kernel
theorem d_El_deliver_44 : decode m_El_deliver.2.1 44 = .ok (.invokevirtual 53, 3) := by decide +kernel
theorem d_El_deliver_47 : decode m_El_deliver.2.1 47 = .ok (.aload_n 3, 1) := by decide +kernel
theorem d_El_deliver_48 : decode m_El_deliver.2.1 48 = .ok (.getfield 57, 3) := by decide +kernel
theorem d_El_deliver_51 : decode m_El_deliver.2.1 51 = .ok (.ireturn, 1) := by decide +kernel
theorem d_El_betray_0 : decode m_El_betray.2.1 0 = .ok (.aload_n 0, 1) := by decide +kernel
theorem d_El_betray_1 : decode m_El_betray.2.1 1 = .ok (.getfield 23, 3) := by decide +kernel
theorem d_El_betray_4 : decode m_El_betray.2.1 4 = .ok (.iconst 3, 1) := by decide +kernel
theorem d_El_betray_5 : decode m_El_betray.2.1 5 = .ok (.aaload, 1) := by decide +kernel
theorem d_El_betray_6 : decode m_El_betray.2.1 6 = .ok (.getfield 62, 3) := by decide +kernel
theorem d_El_betray_9 : decode m_El_betray.2.1 9 = .ok (.ifCond .eq 5, 3) := by decide +kernel
theorem d_El_betray_12 : decode m_El_betray.2.1 12 = .ok (.iconst 0, 1) := by decide +kernel
theorem d_El_betray_13 : decode m_El_betray.2.1 13 = .ok (.ireturn, 1) := by decide +kernel
theorem d_El_betray_14 : decode m_El_betray.2.1 14 = .ok (.aload_n 0, 1) := by decide +kernel
theorem d_El_betray_15 : decode m_El_betray.2.1 15 = .ok (.getfield 23, 3) := by decide +kernel
theorem d_El_betray_18 : decode m_El_betray.2.1 18 = .ok (.iconst 3, 1) := by decide +kernel
theorem d_El_betray_19 : decode m_El_betray.2.1 19 = .ok (.aaload, 1) := by decide +kernel
theorem d_El_betray_20 : decode m_El_betray.2.1 20 = .ok (.iconst 1, 1) := by decide +kernel
theorem d_El_betray_21 : decode m_El_betray.2.1 21 = .ok (.putfield 62, 3) := by decide +kernel
theorem d_El_betray_24 : decode m_El_betray.2.1 24 = .ok (.iconst 1, 1) := by decide +kernel
theorem d_El_betray_25 : decode m_El_betray.2.1 25 = .ok (.ireturn, 1) := by decide +kernel
theorem d_El_speak_0 : decode m_El_speak.2.1 0 = .ok (.aload_n 0, 1) := by decide +kernel
theorem d_El_speak_1 : decode m_El_speak.2.1 1 = .ok (.getfield 23, 3) := by decide +kernel
theorem d_El_speak_4 : decode m_El_speak.2.1 4 = .ok (.iconst 3, 1) := by decide +kernel
theorem d_El_speak_5 : decode m_El_speak.2.1 5 = .ok (.aaload, 1) := by decide +kernel
theorem d_El_speak_6 : decode m_El_speak.2.1 6 = .ok (.getfield 62, 3) := by decide +kernel
theorem d_El_speak_9 : decode m_El_speak.2.1 9 = .ok (.ifCond .eq 13, 3) := by decide +kernel
theorem d_El_speak_12 : decode m_El_speak.2.1 12 = .ok (.aload_n 0, 1) := by decide +kernel
theorem d_El_speak_13 : decode m_El_speak.2.1 13 = .ok (.getfield 66, 3) := by decide +kernel
theorem d_El_speak_16 : decode m_El_speak.2.1 16 = .ok (.sipush 300, 3) := by decide +kernel
theorem d_El_speak_19 : decode m_El_speak.2.1 19 = .ok (.if_icmp .lt 5, 3) := by decide +kernel
theorem d_El_speak_22 : decode m_El_speak.2.1 22 = .ok (.iconst 0, 1) := by decide +kernel
theorem d_El_speak_23 : decode m_El_speak.2.1 23 = .ok (.ireturn, 1) := by decide +kernel
theorem d_El_speak_24 : decode m_El_speak.2.1 24 = .ok (.iload_n 1, 1) := by decide +kernel
theorem d_El_speak_25 : decode m_El_speak.2.1 25 = .ok (.invokestatic 30, 3) := by decide +kernel
theorem d_El_speak_28 : decode m_El_speak.2.1 28 = .ok (.ifCond .eq 27, 3) := by decide +kernel
theorem d_El_speak_31 : decode m_El_speak.2.1 31 = .ok (.iload_n 2, 1) := by decide +kernel
theorem d_El_speak_32 : decode m_El_speak.2.1 32 = .ok (.invokestatic 69, 3) := by decide +kernel
theorem d_El_speak_35 : decode m_El_speak.2.1 35 = .ok (.ifCond .eq 20, 3) := by decide +kernel
theorem d_El_speak_38 : decode m_El_speak.2.1 38 = .ok (.iload_n 3, 1) := by decide +kernel
theorem d_El_speak_39 : decode m_El_speak.2.1 39 = .ok (.invokestatic 30, 3) := by decide +kernel
theorem d_El_speak_42 : decode m_El_speak.2.1 42 = .ok (.ifCond .eq 13, 3) := by decide +kernel
theorem d_El_speak_45 : decode m_El_speak.2.1 45 = .ok (.iload 4, 2) := by decide +kernel
theorem d_El_speak_47 : decode m_El_speak.2.1 47 = .ok (.iconst 0, 1) := by decide +kernel
theorem d_El_speak_48 : decode m_El_speak.2.1 48 = .ok (.iconst 4, 1) := by decide +kernel
theorem d_El_speak_49 : decode m_El_speak.2.1 49 = .ok (.invokestatic 34, 3) := by decide +kernel
theorem d_El_speak_52 : decode m_El_speak.2.1 52 = .ok (.ifCond .ne 5, 3) := by decide +kernel
theorem d_El_speak_55 : decode m_El_speak.2.1 55 = .ok (.iconst 0, 1) := by decide +kernel
theorem d_El_speak_56 : decode m_El_speak.2.1 56 = .ok (.ireturn, 1) := by decide +kernel
theorem d_El_speak_57 : decode m_El_speak.2.1 57 = .ok (.iload 4, 2) := by decide +kernel
theorem d_El_speak_59 : decode m_El_speak.2.1 59 = .ok (.iconst 3, 1) := by decide +kernel
theorem d_El_speak_60 : decode m_El_speak.2.1 60 = .ok (.if_icmp .lt 23, 3) := by decide +kernel
theorem d_El_speak_63 : decode m_El_speak.2.1 63 = .ok (.iload 5, 2) := by decide +kernel
theorem d_El_speak_65 : decode m_El_speak.2.1 65 = .ok (.invokestatic 72, 3) := by decide +kernel
theorem d_El_speak_68 : decode m_El_speak.2.1 68 = .ok (.ifCond .eq 13, 3) := by decide +kernel
theorem d_El_speak_71 : decode m_El_speak.2.1 71 = .ok (.iload 6, 2) := by decide +kernel
theorem d_El_speak_73 : decode m_El_speak.2.1 73 = .ok (.iconst 0, 1) := by decide +kernel
theorem d_El_speak_74 : decode m_El_speak.2.1 74 = .ok (.iconst 1, 1) := by decide +kernel
theorem d_El_speak_75 : decode m_El_speak.2.1 75 = .ok (.invokestatic 34, 3) := by decide +kernel
theorem d_El_speak_78 : decode m_El_speak.2.1 78 = .ok (.ifCond .ne 5, 3) := by decide +kernel
theorem d_El_speak_81 : decode m_El_speak.2.1 81 = .ok (.iconst 0, 1) := by decide +kernel
theorem d_El_speak_82 : decode m_El_speak.2.1 82 = .ok (.ireturn, 1) := by decide +kernel
theorem d_El_speak_83 : decode m_El_speak.2.1 83 = .ok (.aload_n 0, 1) := by decide +kernel
theorem d_El_speak_84 : decode m_El_speak.2.1 84 = .ok (.dup, 1) := by decide +kernel
theorem d_El_speak_85 : decode m_El_speak.2.1 85 = .ok (.getfield 66, 3) := by decide +kernel
theorem d_El_speak_88 : decode m_El_speak.2.1 88 = .ok (.iconst 1, 1) := by decide +kernel
theorem d_El_speak_89 : decode m_El_speak.2.1 89 = .ok (.iadd, 1) := by decide +kernel
theorem d_El_speak_90 : decode m_El_speak.2.1 90 = .ok (.putfield 66, 3) := by decide +kernel
theorem d_El_speak_93 : decode m_El_speak.2.1 93 = .ok (.aload_n 0, 1) := by decide +kernel
theorem d_El_speak_94 : decode m_El_speak.2.1 94 = .ok (.getfield 17, 3) := by decide +kernel
theorem d_El_speak_97 : decode m_El_speak.2.1 97 = .ok (.iload_n 1, 1) := by decide +kernel
theorem d_El_speak_98 : decode m_El_speak.2.1 98 = .ok (.new 58, 3) := by decide +kernel
theorem d_El_speak_101 : decode m_El_speak.2.1 101 = .ok (.dup, 1) := by decide +kernel
theorem d_El_speak_102 : decode m_El_speak.2.1 102 = .ok (.iconst 3, 1) := by decide +kernel
theorem d_El_speak_103 : decode m_El_speak.2.1 103 = .ok (.iload_n 2, 1) := by decide +kernel
theorem d_El_speak_104 : decode m_El_speak.2.1 104 = .ok (.iload_n 3, 1) := by decide +kernel
theorem d_El_speak_105 : decode m_El_speak.2.1 105 = .ok (.iload 4, 2) := by decide +kernel
theorem d_El_speak_107 : decode m_El_speak.2.1 107 = .ok (.iload 5, 2) := by decide +kernel
theorem d_El_speak_109 : decode m_El_speak.2.1 109 = .ok (.iload 6, 2) := by decide +kernel
theorem d_El_speak_111 : decode m_El_speak.2.1 111 = .ok (.invokespecial 75, 3) := by decide +kernel
theorem d_El_speak_114 : decode m_El_speak.2.1 114 = .ok (.invokevirtual 78, 3) := by decide +kernel
theorem d_El_speak_117 : decode m_El_speak.2.1 117 = .ok (.iconst 1, 1) := by decide +kernel
theorem d_El_speak_118 : decode m_El_speak.2.1 118 = .ok (.ireturn, 1) := by decide +kernel
theorem d_El_isEpoch_0 : decode m_El_isEpoch.2.1 0 = .ok (.iload_n 0, 1) := by decide +kernel
theorem d_El_isEpoch_1 : decode m_El_isEpoch.2.1 1 = .ok (.iconst 0, 1) := by decide +kernel
theorem d_El_isEpoch_2 : decode m_El_isEpoch.2.1 2 = .ok (.iconst 3, 1) := by decide +kernel
theorem d_El_isEpoch_3 : decode m_El_isEpoch.2.1 3 = .ok (.invokestatic 34, 3) := by decide +kernel
theorem d_El_isEpoch_6 : decode m_El_isEpoch.2.1 6 = .ok (.ireturn, 1) := by decide +kernel
theorem d_El_isRound_0 : decode m_El_isRound.2.1 0 = .ok (.iload_n 0, 1) := by decide +kernel
theorem d_El_isRound_1 : decode m_El_isRound.2.1 1 = .ok (.iconst 0, 1) := by decide +kernel
theorem d_El_isRound_2 : decode m_El_isRound.2.1 2 = .ok (.iconst 5, 1) := by decide +kernel
theorem d_El_isRound_3 : decode m_El_isRound.2.1 3 = .ok (.invokestatic 34, 3) := by decide +kernel
theorem d_El_isRound_6 : decode m_El_isRound.2.1 6 = .ok (.ireturn, 1) := by decide +kernel
theorem d_El_epoch_0 : decode m_El_epoch.2.1 0 = .ok (.iload_n 1, 1) := by decide +kernel
theorem d_El_epoch_1 : decode m_El_epoch.2.1 1 = .ok (.invokestatic 30, 3) := by decide +kernel
theorem d_El_epoch_4 : decode m_El_epoch.2.1 4 = .ok (.ifCond .eq 15, 3) := by decide +kernel
theorem d_El_epoch_7 : decode m_El_epoch.2.1 7 = .ok (.aload_n 0, 1) := by decide +kernel
theorem d_El_epoch_8 : decode m_El_epoch.2.1 8 = .ok (.getfield 23, 3) := by decide +kernel
theorem d_El_epoch_11 : decode m_El_epoch.2.1 11 = .ok (.iload_n 1, 1) := by decide +kernel
theorem d_El_epoch_12 : decode m_El_epoch.2.1 12 = .ok (.aaload, 1) := by decide +kernel
theorem d_El_epoch_13 : decode m_El_epoch.2.1 13 = .ok (.getfield 82, 3) := by decide +kernel
theorem d_El_epoch_16 : decode m_El_epoch.2.1 16 = .ok (.goto 4, 3) := by decide +kernel
theorem d_El_epoch_19 : decode m_El_epoch.2.1 19 = .ok (.iconst (-1), 1) := by decide +kernel
theorem d_El_epoch_20 : decode m_El_epoch.2.1 20 = .ok (.ireturn, 1) := by decide +kernel
theorem d_El_ledger_0 : decode m_El_ledger.2.1 0 = .ok (.iload_n 1, 1) := by decide +kernel
theorem d_El_ledger_1 : decode m_El_ledger.2.1 1 = .ok (.invokestatic 30, 3) := by decide +kernel
theorem d_El_ledger_4 : decode m_El_ledger.2.1 4 = .ok (.ifCond .eq 19, 3) := by decide +kernel
theorem d_El_ledger_7 : decode m_El_ledger.2.1 7 = .ok (.aload_n 0, 1) := by decide +kernel
theorem d_El_ledger_8 : decode m_El_ledger.2.1 8 = .ok (.getfield 23, 3) := by decide +kernel
theorem d_El_ledger_11 : decode m_El_ledger.2.1 11 = .ok (.iload_n 1, 1) := by decide +kernel
theorem d_El_ledger_12 : decode m_El_ledger.2.1 12 = .ok (.aaload, 1) := by decide +kernel
theorem d_El_ledger_13 : decode m_El_ledger.2.1 13 = .ok (.getfield 85, 3) := by decide +kernel
theorem d_El_ledger_16 : decode m_El_ledger.2.1 16 = .ok (.iload_n 2, 1) := by decide +kernel
theorem d_El_ledger_17 : decode m_El_ledger.2.1 17 = .ok (.invokevirtual 89, 3) := by decide +kernel
theorem d_El_ledger_20 : decode m_El_ledger.2.1 20 = .ok (.goto 4, 3) := by decide +kernel
theorem d_El_ledger_23 : decode m_El_ledger.2.1 23 = .ok (.iconst (-1), 1) := by decide +kernel
theorem d_El_ledger_24 : decode m_El_ledger.2.1 24 = .ok (.ireturn, 1) := by decide +kernel
theorem d_Rw_answer_0 : decode m_Rw_answer.2.1 0 = .ok (.iload_n 1, 1) := by decide +kernel
theorem d_Rw_answer_1 : decode m_Rw_answer.2.1 1 = .ok (.iconst (-1), 1) := by decide +kernel
theorem d_Rw_answer_2 : decode m_Rw_answer.2.1 2 = .ok (.if_icmp .ne 10, 3) := by decide +kernel
theorem d_Rw_answer_5 : decode m_Rw_answer.2.1 5 = .ok (.aload_n 0, 1) := by decide +kernel
theorem d_Rw_answer_6 : decode m_Rw_answer.2.1 6 = .ok (.getfield 15, 3) := by decide +kernel
theorem d_Rw_answer_9 : decode m_Rw_answer.2.1 9 = .ok (.goto 9, 3) := by decide +kernel
theorem d_Rw_answer_12 : decode m_Rw_answer.2.1 12 = .ok (.aload_n 0, 1) := by decide +kernel
theorem d_Rw_answer_13 : decode m_Rw_answer.2.1 13 = .ok (.iload_n 1, 1) := by decide +kernel
theorem d_Rw_answer_14 : decode m_Rw_answer.2.1 14 = .ok (.iconst (-1), 1) := by decide +kernel
theorem d_Rw_answer_15 : decode m_Rw_answer.2.1 15 = .ok (.invokevirtual 27, 3) := by decide +kernel
theorem d_Rw_answer_18 : decode m_Rw_answer.2.1 18 = .ok (.ireturn, 1) := by decide +kernel
theorem d_El_queue_0 : decode m_El_queue.2.1 0 = .ok (.iload_n 1, 1) := by decide +kernel
theorem d_El_queue_1 : decode m_El_queue.2.1 1 = .ok (.invokestatic 30, 3) := by decide +kernel
theorem d_El_queue_4 : decode m_El_queue.2.1 4 = .ok (.ifCond .eq 19, 3) := by decide +kernel
theorem d_El_queue_7 : decode m_El_queue.2.1 7 = .ok (.aload_n 0, 1) := by decide +kernel
theorem d_El_queue_8 : decode m_El_queue.2.1 8 = .ok (.getfield 23, 3) := by decide +kernel
theorem d_El_queue_11 : decode m_El_queue.2.1 11 = .ok (.iload_n 1, 1) := by decide +kernel
theorem d_El_queue_12 : decode m_El_queue.2.1 12 = .ok (.aaload, 1) := by decide +kernel
theorem d_El_queue_13 : decode m_El_queue.2.1 13 = .ok (.getfield 94, 3) := by decide +kernel
theorem d_El_queue_16 : decode m_El_queue.2.1 16 = .ok (.iload_n 2, 1) := by decide +kernel
theorem d_El_queue_17 : decode m_El_queue.2.1 17 = .ok (.invokevirtual 89, 3) := by decide +kernel
theorem d_El_queue_20 : decode m_El_queue.2.1 20 = .ok (.goto 4, 3) := by decide +kernel
theorem d_El_queue_23 : decode m_El_queue.2.1 23 = .ok (.iconst (-1), 1) := by decide +kernel
theorem d_El_queue_24 : decode m_El_queue.2.1 24 = .ok (.ireturn, 1) := by decide +kernel
theorem d_El_waiting_0 : decode m_El_waiting.2.1 0 = .ok (.iload_n 1, 1) := by decide +kernel
theorem d_El_waiting_1 : decode m_El_waiting.2.1 1 = .ok (.invokestatic 30, 3) := by decide +kernel
theorem d_El_waiting_4 : decode m_El_waiting.2.1 4 = .ok (.ifCond .eq 14, 3) := by decide +kernel
theorem d_El_waiting_7 : decode m_El_waiting.2.1 7 = .ok (.aload_n 0, 1) := by decide +kernel
theorem d_El_waiting_8 : decode m_El_waiting.2.1 8 = .ok (.getfield 17, 3) := by decide +kernel
theorem d_El_waiting_11 : decode m_El_waiting.2.1 11 = .ok (.iload_n 1, 1) := by decide +kernel
theorem d_El_waiting_12 : decode m_El_waiting.2.1 12 = .ok (.invokevirtual 45, 3) := by decide +kernel
theorem d_El_waiting_15 : decode m_El_waiting.2.1 15 = .ok (.goto 4, 3) := by decide +kernel
theorem d_El_waiting_18 : decode m_El_waiting.2.1 18 = .ok (.iconst (-1), 1) := by decide +kernel
theorem d_El_waiting_19 : decode m_El_waiting.2.1 19 = .ok (.ireturn, 1) := by decide +kernel
theorem d_El_instance_0 : decode m_El_instance.2.1 0 = .ok (.iload_n 1, 1) := by decide +kernel
theorem d_El_instance_1 : decode m_El_instance.2.1 1 = .ok (.invokestatic 30, 3) := by decide +kernel
theorem d_El_instance_4 : decode m_El_instance.2.1 4 = .ok (.ifCond .eq 25, 3) := by decide +kernel
theorem d_El_instance_7 : decode m_El_instance.2.1 7 = .ok (.iload_n 2, 1) := by decide +kernel
theorem d_El_instance_8 : decode m_El_instance.2.1 8 = .ok (.invokestatic 30, 3) := by decide +kernel
theorem d_El_instance_11 : decode m_El_instance.2.1 11 = .ok (.ifCond .eq 18, 3) := by decide +kernel
theorem d_El_instance_14 : decode m_El_instance.2.1 14 = .ok (.aload_n 0, 1) := by decide +kernel
theorem d_El_instance_15 : decode m_El_instance.2.1 15 = .ok (.getfield 23, 3) := by decide +kernel
theorem d_El_instance_18 : decode m_El_instance.2.1 18 = .ok (.iload_n 1, 1) := by decide +kernel
theorem d_El_instance_19 : decode m_El_instance.2.1 19 = .ok (.aaload, 1) := by decide +kernel
theorem d_El_instance_20 : decode m_El_instance.2.1 20 = .ok (.getfield 82, 3) := by decide +kernel
theorem d_El_instance_23 : decode m_El_instance.2.1 23 = .ok (.invokestatic 69, 3) := by decide +kernel
theorem d_El_instance_26 : decode m_El_instance.2.1 26 = .ok (.ifCond .ne 5, 3) := by decide +kernel
theorem d_El_instance_29 : decode m_El_instance.2.1 29 = .ok (.iconst (-1), 1) := by decide +kernel
theorem d_El_instance_30 : decode m_El_instance.2.1 30 = .ok (.ireturn, 1) := by decide +kernel
theorem d_El_instance_31 : decode m_El_instance.2.1 31 = .ok (.aload_n 0, 1) := by decide +kernel
theorem d_El_instance_32 : decode m_El_instance.2.1 32 = .ok (.getfield 23, 3) := by decide +kernel
theorem d_El_instance_35 : decode m_El_instance.2.1 35 = .ok (.iload_n 1, 1) := by decide +kernel
theorem d_El_instance_36 : decode m_El_instance.2.1 36 = .ok (.aaload, 1) := by decide +kernel
theorem d_El_instance_37 : decode m_El_instance.2.1 37 = .ok (.iload_n 2, 1) := by decide +kernel
theorem d_El_instance_38 : decode m_El_instance.2.1 38 = .ok (.invokevirtual 97, 3) := by decide +kernel
theorem d_El_instance_41 : decode m_El_instance.2.1 41 = .ok (.astore 4, 2) := by decide +kernel
theorem d_El_instance_43 : decode m_El_instance.2.1 43 = .ok (.aload_n 0, 1) := by decide +kernel
theorem d_El_instance_44 : decode m_El_instance.2.1 44 = .ok (.getfield 23, 3) := by decide +kernel
theorem d_El_instance_47 : decode m_El_instance.2.1 47 = .ok (.iload_n 1, 1) := by decide +kernel
theorem d_El_instance_48 : decode m_El_instance.2.1 48 = .ok (.aaload, 1) := by decide +kernel
theorem d_El_instance_49 : decode m_El_instance.2.1 49 = .ok (.iload_n 2, 1) := by decide +kernel
theorem d_El_instance_50 : decode m_El_instance.2.1 50 = .ok (.invokevirtual 101, 3) := by decide +kernel
theorem d_El_instance_53 : decode m_El_instance.2.1 53 = .ok (.astore 5, 2) := by decide +kernel
theorem d_El_instance_55 : decode m_El_instance.2.1 55 = .ok (.iload_n 3, 1) := by decide +kernel
theorem d_El_instance_56 : decode m_El_instance.2.1 56 = .ok (.tableswitch 94 0 6 #[44, 50, 56, 62, 68, 74, 88], 44) := by decide +kernel
theorem d_El_instance_100 : decode m_El_instance.2.1 100 = .ok (.aload 4, 2) := by decide +kernel
theorem d_El_instance_102 : decode m_El_instance.2.1 102 = .ok (.invokevirtual 105, 3) := by decide +kernel
theorem d_El_instance_105 : decode m_El_instance.2.1 105 = .ok (.ireturn, 1) := by decide +kernel
theorem d_El_instance_106 : decode m_El_instance.2.1 106 = .ok (.aload 4, 2) := by decide +kernel
theorem d_El_instance_108 : decode m_El_instance.2.1 108 = .ok (.getfield 111, 3) := by decide +kernel
theorem d_El_instance_111 : decode m_El_instance.2.1 111 = .ok (.ireturn, 1) := by decide +kernel
theorem d_El_instance_112 : decode m_El_instance.2.1 112 = .ok (.aload 5, 2) := by decide +kernel
theorem d_El_instance_114 : decode m_El_instance.2.1 114 = .ok (.getfield 114, 3) := by decide +kernel
theorem d_El_instance_117 : decode m_El_instance.2.1 117 = .ok (.ireturn, 1) := by decide +kernel
theorem d_El_instance_118 : decode m_El_instance.2.1 118 = .ok (.aload 5, 2) := by decide +kernel
theorem d_El_instance_120 : decode m_El_instance.2.1 120 = .ok (.getfield 119, 3) := by decide +kernel
theorem d_El_instance_123 : decode m_El_instance.2.1 123 = .ok (.ireturn, 1) := by decide +kernel
theorem d_El_instance_124 : decode m_El_instance.2.1 124 = .ok (.aload 5, 2) := by decide +kernel
theorem d_El_instance_126 : decode m_El_instance.2.1 126 = .ok (.getfield 122, 3) := by decide +kernel
theorem d_El_instance_129 : decode m_El_instance.2.1 129 = .ok (.ireturn, 1) := by decide +kernel
theorem d_El_instance_130 : decode m_El_instance.2.1 130 = .ok (.aload 5, 2) := by decide +kernel
theorem d_El_instance_132 : decode m_El_instance.2.1 132 = .ok (.getfield 125, 3) := by decide +kernel
theorem d_El_instance_135 : decode m_El_instance.2.1 135 = .ok (.ifCond .eq 7, 3) := by decide +kernel
theorem d_El_instance_138 : decode m_El_instance.2.1 138 = .ok (.iconst 1, 1) := by decide +kernel
theorem d_El_instance_139 : decode m_El_instance.2.1 139 = .ok (.goto 4, 3) := by decide +kernel
theorem d_El_instance_142 : decode m_El_instance.2.1 142 = .ok (.iconst 0, 1) := by decide +kernel
theorem d_El_instance_143 : decode m_El_instance.2.1 143 = .ok (.ireturn, 1) := by decide +kernel
theorem d_El_instance_144 : decode m_El_instance.2.1 144 = .ok (.aload 5, 2) := by decide +kernel
theorem d_El_instance_146 : decode m_El_instance.2.1 146 = .ok (.getfield 128, 3) := by decide +kernel
theorem d_El_instance_149 : decode m_El_instance.2.1 149 = .ok (.ireturn, 1) := by decide +kernel
theorem d_El_instance_150 : decode m_El_instance.2.1 150 = .ok (.iconst (-1), 1) := by decide +kernel
theorem d_El_instance_151 : decode m_El_instance.2.1 151 = .ok (.ireturn, 1) := by decide +kernel
theorem d_Bc_progress_0 : decode m_Bc_progress.2.1 0 = .ok (.aload_n 0, 1) := by decide +kernel
theorem d_Bc_progress_1 : decode m_Bc_progress.2.1 1 = .ok (.getfield 87, 3) := by decide +kernel
theorem d_Bc_progress_4 : decode m_Bc_progress.2.1 4 = .ok (.ifCond .eq 7, 3) := by decide +kernel
theorem d_Bc_progress_7 : decode m_Bc_progress.2.1 7 = .ok (.iconst 1, 1) := by decide +kernel
theorem d_Bc_progress_8 : decode m_Bc_progress.2.1 8 = .ok (.goto 4, 3) := by decide +kernel
theorem d_Bc_progress_11 : decode m_Bc_progress.2.1 11 = .ok (.iconst 0, 1) := by decide +kernel
theorem d_Bc_progress_12 : decode m_Bc_progress.2.1 12 = .ok (.aload_n 0, 1) := by decide +kernel
theorem d_Bc_progress_13 : decode m_Bc_progress.2.1 13 = .ok (.getfield 98, 3) := by decide +kernel
theorem d_Bc_progress_16 : decode m_Bc_progress.2.1 16 = .ok (.ifCond .eq 7, 3) := by decide +kernel
theorem d_Bc_progress_19 : decode m_Bc_progress.2.1 19 = .ok (.iconst 2, 1) := by decide +kernel
theorem d_Bc_progress_20 : decode m_Bc_progress.2.1 20 = .ok (.goto 4, 3) := by decide +kernel
theorem d_Bc_progress_23 : decode m_Bc_progress.2.1 23 = .ok (.iconst 0, 1) := by decide +kernel
theorem d_Bc_progress_24 : decode m_Bc_progress.2.1 24 = .ok (.iadd, 1) := by decide +kernel
theorem d_Bc_progress_25 : decode m_Bc_progress.2.1 25 = .ok (.aload_n 0, 1) := by decide +kernel
theorem d_Bc_progress_26 : decode m_Bc_progress.2.1 26 = .ok (.getfield 25, 3) := by decide +kernel
theorem d_Bc_progress_29 : decode m_Bc_progress.2.1 29 = .ok (.iconst (-1), 1) := by decide +kernel
theorem d_Bc_progress_30 : decode m_Bc_progress.2.1 30 = .ok (.if_icmp .eq 7, 3) := by decide +kernel
theorem d_Bc_progress_33 : decode m_Bc_progress.2.1 33 = .ok (.iconst 4, 1) := by decide +kernel
theorem d_Bc_progress_34 : decode m_Bc_progress.2.1 34 = .ok (.goto 4, 3) := by decide +kernel
theorem d_Bc_progress_37 : decode m_Bc_progress.2.1 37 = .ok (.iconst 0, 1) := by decide +kernel
theorem d_Bc_progress_38 : decode m_Bc_progress.2.1 38 = .ok (.iadd, 1) := by decide +kernel
theorem d_Bc_progress_39 : decode m_Bc_progress.2.1 39 = .ok (.ireturn, 1) := by decide +kernel
theorem d_El_coin_0 : decode m_El_coin.2.1 0 = .ok (.iload_n 1, 1) := by decide +kernel
theorem d_El_coin_1 : decode m_El_coin.2.1 1 = .ok (.invokestatic 69, 3) := by decide +kernel
theorem d_El_coin_4 : decode m_El_coin.2.1 4 = .ok (.ifCond .eq 17, 3) := by decide +kernel
theorem d_El_coin_7 : decode m_El_coin.2.1 7 = .ok (.iload_n 2, 1) := by decide +kernel
theorem d_El_coin_8 : decode m_El_coin.2.1 8 = .ok (.invokestatic 30, 3) := by decide +kernel
theorem d_El_coin_11 : decode m_El_coin.2.1 11 = .ok (.ifCond .eq 10, 3) := by decide +kernel
theorem d_El_coin_14 : decode m_El_coin.2.1 14 = .ok (.iload_n 3, 1) := by decide +kernel
theorem d_El_coin_15 : decode m_El_coin.2.1 15 = .ok (.invokestatic 72, 3) := by decide +kernel
theorem d_El_coin_18 : decode m_El_coin.2.1 18 = .ok (.ifCond .ne 5, 3) := by decide +kernel
theorem d_El_coin_21 : decode m_El_coin.2.1 21 = .ok (.iconst (-1), 1) := by decide +kernel
theorem d_El_coin_22 : decode m_El_coin.2.1 22 = .ok (.ireturn, 1) := by decide +kernel
theorem d_El_coin_23 : decode m_El_coin.2.1 23 = .ok (.aload_n 0, 1) := by decide +kernel
theorem d_El_coin_24 : decode m_El_coin.2.1 24 = .ok (.getfield 10, 3) := by decide +kernel
theorem d_El_coin_27 : decode m_El_coin.2.1 27 = .ok (.iload_n 1, 1) := by decide +kernel
theorem d_El_coin_28 : decode m_El_coin.2.1 28 = .ok (.iload_n 2, 1) := by decide +kernel
theorem d_El_coin_29 : decode m_El_coin.2.1 29 = .ok (.iload_n 3, 1) := by decide +kernel
theorem d_El_coin_30 : decode m_El_coin.2.1 30 = .ok (.invokestatic 131, 3) := by decide +kernel
theorem d_El_coin_33 : decode m_El_coin.2.1 33 = .ok (.ireturn, 1) := by decide +kernel
theorem d_El_root_0 : decode m_El_root.2.1 0 = .ok (.iload_n 1, 1) := by decide +kernel
theorem d_El_root_1 : decode m_El_root.2.1 1 = .ok (.sipush 255, 3) := by decide +kernel
theorem d_El_root_4 : decode m_El_root.2.1 4 = .ok (.iand, 1) := by decide +kernel
theorem d_El_root_5 : decode m_El_root.2.1 5 = .ok (.iload_n 2, 1) := by decide +kernel
theorem d_El_root_6 : decode m_El_root.2.1 6 = .ok (.sipush 255, 3) := by decide +kernel
theorem d_El_root_9 : decode m_El_root.2.1 9 = .ok (.iand, 1) := by decide +kernel
theorem d_El_root_10 : decode m_El_root.2.1 10 = .ok (.invokestatic 135, 3) := by decide +kernel
theorem d_El_root_13 : decode m_El_root.2.1 13 = .ok (.invokestatic 140, 3) := by decide +kernel
theorem d_El_root_16 : decode m_El_root.2.1 16 = .ok (.ireturn, 1) := by decide +kernel
theorem d_Lw_cell_0 : decode m_Lw_cell.2.1 0 = .ok (.iload_n 1, 1) := by decide +kernel
theorem d_Lw_cell_1 : decode m_Lw_cell.2.1 1 = .ok (.aload_n 0, 1) := by decide +kernel
theorem d_Lw_cell_2 : decode m_Lw_cell.2.1 2 = .ok (.arraylength, 1) := by decide +kernel
theorem d_Lw_cell_3 : decode m_Lw_cell.2.1 3 = .ok (.if_icmp .ge 9, 3) := by decide +kernel
theorem d_Lw_cell_6 : decode m_Lw_cell.2.1 6 = .ok (.aload_n 0, 1) := by decide +kernel
theorem d_Lw_cell_7 : decode m_Lw_cell.2.1 7 = .ok (.iload_n 1, 1) := by decide +kernel
theorem d_Lw_cell_8 : decode m_Lw_cell.2.1 8 = .ok (.iaload, 1) := by decide +kernel
theorem d_Lw_cell_9 : decode m_Lw_cell.2.1 9 = .ok (.goto 4, 3) := by decide +kernel
theorem d_Lw_cell_12 : decode m_Lw_cell.2.1 12 = .ok (.iconst 0, 1) := by decide +kernel
theorem d_Lw_cell_13 : decode m_Lw_cell.2.1 13 = .ok (.ireturn, 1) := by decide +kernel
theorem d_Mo_init_0 : decode m_Mo_init.2.1 0 = .ok (.aload_n 0, 1) := by decide +kernel
theorem d_Mo_init_1 : decode m_Mo_init.2.1 1 = .ok (.invokespecial 1, 3) := by decide +kernel
theorem d_Mo_init_4 : decode m_Mo_init.2.1 4 = .ok (.aload_n 0, 1) := by decide +kernel
theorem d_Mo_init_5 : decode m_Mo_init.2.1 5 = .ok (.sipush 1700, 3) := by decide +kernel
theorem d_Mo_init_8 : decode m_Mo_init.2.1 8 = .ok (.newarray .int, 2) := by decide +kernel
theorem d_Mo_init_10 : decode m_Mo_init.2.1 10 = .ok (.putfield 7, 3) := by decide +kernel
theorem d_Mo_init_13 : decode m_Mo_init.2.1 13 = .ok (.aload_n 0, 1) := by decide +kernel
theorem d_Mo_init_14 : decode m_Mo_init.2.1 14 = .ok (.sipush 1700, 3) := by decide +kernel
theorem d_Mo_init_17 : decode m_Mo_init.2.1 17 = .ok (.newarray .int, 2) := by decide +kernel
theorem d_Mo_init_19 : decode m_Mo_init.2.1 19 = .ok (.putfield 13, 3) := by decide +kernel
theorem d_Mo_init_22 : decode m_Mo_init.2.1 22 = .ok (.aload_n 0, 1) := by decide +kernel
theorem d_Mo_init_23 : decode m_Mo_init.2.1 23 = .ok (.sipush 1700, 3) := by decide +kernel
theorem d_Mo_init_26 : decode m_Mo_init.2.1 26 = .ok (.newarray .int, 2) := by decide +kernel
theorem d_Mo_init_28 : decode m_Mo_init.2.1 28 = .ok (.putfield 16, 3) := by decide +kernel
theorem d_Mo_init_31 : decode m_Mo_init.2.1 31 = .ok (.aload_n 0, 1) := by decide +kernel
theorem d_Mo_init_32 : decode m_Mo_init.2.1 32 = .ok (.iconst 4, 1) := by decide +kernel
theorem d_Mo_init_33 : decode m_Mo_init.2.1 33 = .ok (.newarray .int, 2) := by decide +kernel
theorem d_Mo_init_35 : decode m_Mo_init.2.1 35 = .ok (.dup, 1) := by decide +kernel
theorem d_Mo_init_36 : decode m_Mo_init.2.1 36 = .ok (.iconst 0, 1) := by decide +kernel
theorem d_Mo_init_37 : decode m_Mo_init.2.1 37 = .ok (.iconst (-1), 1) := by decide +kernel
theorem d_Mo_init_38 : decode m_Mo_init.2.1 38 = .ok (.iastore, 1) := by decide +kernel
theorem d_Mo_init_39 : decode m_Mo_init.2.1 39 = .ok (.dup, 1) := by decide +kernel
theorem d_Mo_init_40 : decode m_Mo_init.2.1 40 = .ok (.iconst 1, 1) := by decide +kernel
theorem d_Mo_init_41 : decode m_Mo_init.2.1 41 = .ok (.iconst (-1), 1) := by decide +kernel
theorem d_Mo_init_42 : decode m_Mo_init.2.1 42 = .ok (.iastore, 1) := by decide +kernel
theorem d_Mo_init_43 : decode m_Mo_init.2.1 43 = .ok (.dup, 1) := by decide +kernel
theorem d_Mo_init_44 : decode m_Mo_init.2.1 44 = .ok (.iconst 2, 1) := by decide +kernel
theorem d_Mo_init_45 : decode m_Mo_init.2.1 45 = .ok (.iconst (-1), 1) := by decide +kernel
theorem d_Mo_init_46 : decode m_Mo_init.2.1 46 = .ok (.iastore, 1) := by decide +kernel
theorem d_Mo_init_47 : decode m_Mo_init.2.1 47 = .ok (.dup, 1) := by decide +kernel
theorem d_Mo_init_48 : decode m_Mo_init.2.1 48 = .ok (.iconst 3, 1) := by decide +kernel
theorem d_Mo_init_49 : decode m_Mo_init.2.1 49 = .ok (.iconst (-1), 1) := by decide +kernel
theorem d_Mo_init_50 : decode m_Mo_init.2.1 50 = .ok (.iastore, 1) := by decide +kernel
theorem d_Mo_init_51 : decode m_Mo_init.2.1 51 = .ok (.putfield 19, 3) := by decide +kernel
theorem d_Mo_init_54 : decode m_Mo_init.2.1 54 = .ok (.aload_n 0, 1) := by decide +kernel
theorem d_Mo_init_55 : decode m_Mo_init.2.1 55 = .ok (.iconst 4, 1) := by decide +kernel
theorem d_Mo_init_56 : decode m_Mo_init.2.1 56 = .ok (.newarray .int, 2) := by decide +kernel
theorem d_Mo_init_58 : decode m_Mo_init.2.1 58 = .ok (.putfield 22, 3) := by decide +kernel
theorem d_Mo_init_61 : decode m_Mo_init.2.1 61 = .ok (.aload_n 0, 1) := by decide +kernel
theorem d_Mo_init_62 : decode m_Mo_init.2.1 62 = .ok (.bipush 48, 2) := by decide +kernel
theorem d_Mo_init_64 : decode m_Mo_init.2.1 64 = .ok (.newarray .int, 2) := by decide +kernel
theorem d_Mo_init_66 : decode m_Mo_init.2.1 66 = .ok (.putfield 25, 3) := by decide +kernel
theorem d_Mo_init_69 : decode m_Mo_init.2.1 69 = .ok (.aload_n 0, 1) := by decide +kernel
theorem d_Mo_init_70 : decode m_Mo_init.2.1 70 = .ok (.iconst 4, 1) := by decide +kernel
theorem d_Mo_init_71 : decode m_Mo_init.2.1 71 = .ok (.newarray .int, 2) := by decide +kernel
theorem d_Mo_init_73 : decode m_Mo_init.2.1 73 = .ok (.putfield 28, 3) := by decide +kernel
theorem d_Mo_init_76 : decode m_Mo_init.2.1 76 = .ok (.aload_n 0, 1) := by decide +kernel
theorem d_Mo_init_77 : decode m_Mo_init.2.1 77 = .ok (.sipush 160, 3) := by decide +kernel
theorem d_Mo_init_80 : decode m_Mo_init.2.1 80 = .ok (.newarray .int, 2) := by decide +kernel
theorem d_Mo_init_82 : decode m_Mo_init.2.1 82 = .ok (.putfield 31, 3) := by decide +kernel
theorem d_Mo_init_85 : decode m_Mo_init.2.1 85 = .ok (.aload_n 0, 1) := by decide +kernel
theorem d_Mo_init_86 : decode m_Mo_init.2.1 86 = .ok (.bipush 64, 2) := by decide +kernel
theorem d_Mo_init_88 : decode m_Mo_init.2.1 88 = .ok (.newarray .boolean, 2) := by decide +kernel
theorem d_Mo_init_90 : decode m_Mo_init.2.1 90 = .ok (.putfield 34, 3) := by decide +kernel
theorem d_Mo_init_93 : decode m_Mo_init.2.1 93 = .ok (.aload_n 0, 1) := by decide +kernel
theorem d_Mo_init_94 : decode m_Mo_init.2.1 94 = .ok (.bipush 64, 2) := by decide +kernel
theorem d_Mo_init_96 : decode m_Mo_init.2.1 96 = .ok (.newarray .int, 2) := by decide +kernel
theorem d_Mo_init_98 : decode m_Mo_init.2.1 98 = .ok (.putfield 38, 3) := by decide +kernel
theorem d_Mo_init_101 : decode m_Mo_init.2.1 101 = .ok (.aload_n 0, 1) := by decide +kernel
theorem d_Mo_init_102 : decode m_Mo_init.2.1 102 = .ok (.bipush 64, 2) := by decide +kernel
theorem d_Mo_init_104 : decode m_Mo_init.2.1 104 = .ok (.newarray .int, 2) := by decide +kernel
theorem d_Mo_init_106 : decode m_Mo_init.2.1 106 = .ok (.putfield 41, 3) := by decide +kernel
theorem d_Mo_init_109 : decode m_Mo_init.2.1 109 = .ok (.aload_n 0, 1) := by decide +kernel
theorem d_Mo_init_110 : decode m_Mo_init.2.1 110 = .ok (.sipush 256, 3) := by decide +kernel
theorem d_Mo_init_113 : decode m_Mo_init.2.1 113 = .ok (.newarray .boolean, 2) := by decide +kernel
theorem d_Mo_init_115 : decode m_Mo_init.2.1 115 = .ok (.putfield 44, 3) := by decide +kernel
theorem d_Mo_init_118 : decode m_Mo_init.2.1 118 = .ok (.aload_n 0, 1) := by decide +kernel
theorem d_Mo_init_119 : decode m_Mo_init.2.1 119 = .ok (.sipush 256, 3) := by decide +kernel
theorem d_Mo_init_122 : decode m_Mo_init.2.1 122 = .ok (.newarray .int, 2) := by decide +kernel
theorem d_Mo_init_124 : decode m_Mo_init.2.1 124 = .ok (.putfield 47, 3) := by decide +kernel
theorem d_Mo_init_127 : decode m_Mo_init.2.1 127 = .ok (.aload_n 0, 1) := by decide +kernel
theorem d_Mo_init_128 : decode m_Mo_init.2.1 128 = .ok (.sipush 256, 3) := by decide +kernel
theorem d_Mo_init_131 : decode m_Mo_init.2.1 131 = .ok (.newarray .int, 2) := by decide +kernel
theorem d_Mo_init_133 : decode m_Mo_init.2.1 133 = .ok (.putfield 50, 3) := by decide +kernel
theorem d_Mo_init_136 : decode m_Mo_init.2.1 136 = .ok (.aload_n 0, 1) := by decide +kernel
theorem d_Mo_init_137 : decode m_Mo_init.2.1 137 = .ok (.sipush 256, 3) := by decide +kernel
theorem d_Mo_init_140 : decode m_Mo_init.2.1 140 = .ok (.newarray .boolean, 2) := by decide +kernel
theorem d_Mo_init_142 : decode m_Mo_init.2.1 142 = .ok (.putfield 53, 3) := by decide +kernel
theorem d_Mo_init_145 : decode m_Mo_init.2.1 145 = .ok (.aload_n 0, 1) := by decide +kernel
theorem d_Mo_init_146 : decode m_Mo_init.2.1 146 = .ok (.sipush 256, 3) := by decide +kernel
theorem d_Mo_init_149 : decode m_Mo_init.2.1 149 = .ok (.newarray .int, 2) := by decide +kernel
theorem d_Mo_init_151 : decode m_Mo_init.2.1 151 = .ok (.putfield 56, 3) := by decide +kernel
theorem d_Mo_init_154 : decode m_Mo_init.2.1 154 = .ok (.aload_n 0, 1) := by decide +kernel
theorem d_Mo_init_155 : decode m_Mo_init.2.1 155 = .ok (.sipush 1536, 3) := by decide +kernel
theorem d_Mo_init_158 : decode m_Mo_init.2.1 158 = .ok (.newarray .int, 2) := by decide +kernel
theorem d_Mo_init_160 : decode m_Mo_init.2.1 160 = .ok (.putfield 59, 3) := by decide +kernel
theorem d_Mo_init_163 : decode m_Mo_init.2.1 163 = .ok (.aload_n 0, 1) := by decide +kernel
theorem d_Mo_init_164 : decode m_Mo_init.2.1 164 = .ok (.sipush 1536, 3) := by decide +kernel
theorem d_Mo_init_167 : decode m_Mo_init.2.1 167 = .ok (.newarray .int, 2) := by decide +kernel
theorem d_Mo_init_169 : decode m_Mo_init.2.1 169 = .ok (.putfield 62, 3) := by decide +kernel
theorem d_Mo_init_172 : decode m_Mo_init.2.1 172 = .ok (.aload_n 0, 1) := by decide +kernel
theorem d_Mo_init_173 : decode m_Mo_init.2.1 173 = .ok (.bipush 64, 2) := by decide +kernel
theorem d_Mo_init_175 : decode m_Mo_init.2.1 175 = .ok (.newarray .boolean, 2) := by decide +kernel
theorem d_Mo_init_177 : decode m_Mo_init.2.1 177 = .ok (.putfield 65, 3) := by decide +kernel
theorem d_Mo_init_180 : decode m_Mo_init.2.1 180 = .ok (.aload_n 0, 1) := by decide +kernel
theorem d_Mo_init_181 : decode m_Mo_init.2.1 181 = .ok (.bipush 64, 2) := by decide +kernel
theorem d_Mo_init_183 : decode m_Mo_init.2.1 183 = .ok (.newarray .boolean, 2) := by decide +kernel
theorem d_Mo_init_185 : decode m_Mo_init.2.1 185 = .ok (.putfield 68, 3) := by decide +kernel
theorem d_Mo_init_188 : decode m_Mo_init.2.1 188 = .ok (.aload_n 0, 1) := by decide +kernel
theorem d_Mo_init_189 : decode m_Mo_init.2.1 189 = .ok (.sipush 384, 3) := by decide +kernel
theorem d_Mo_init_192 : decode m_Mo_init.2.1 192 = .ok (.newarray .int, 2) := by decide +kernel
theorem d_Mo_init_194 : decode m_Mo_init.2.1 194 = .ok (.putfield 71, 3) := by decide +kernel
theorem d_Mo_init_197 : decode m_Mo_init.2.1 197 = .ok (.aload_n 0, 1) := by decide +kernel
theorem d_Mo_init_198 : decode m_Mo_init.2.1 198 = .ok (.sipush 384, 3) := by decide +kernel
theorem d_Mo_init_201 : decode m_Mo_init.2.1 201 = .ok (.newarray .boolean, 2) := by decide +kernel
theorem d_Mo_init_203 : decode m_Mo_init.2.1 203 = .ok (.putfield 74, 3) := by decide +kernel
theorem d_Mo_init_206 : decode m_Mo_init.2.1 206 = .ok (.aload_n 0, 1) := by decide +kernel
theorem d_Mo_init_207 : decode m_Mo_init.2.1 207 = .ok (.bipush 16, 2) := by decide +kernel
theorem d_Mo_init_209 : decode m_Mo_init.2.1 209 = .ok (.newarray .int, 2) := by decide +kernel
theorem d_Mo_init_211 : decode m_Mo_init.2.1 211 = .ok (.putfield 77, 3) := by decide +kernel
theorem d_Mo_init_214 : decode m_Mo_init.2.1 214 = .ok (.aload_n 0, 1) := by decide +kernel
theorem d_Mo_init_215 : decode m_Mo_init.2.1 215 = .ok (.bipush 16, 2) := by decide +kernel
theorem d_Mo_init_217 : decode m_Mo_init.2.1 217 = .ok (.newarray .boolean, 2) := by decide +kernel
theorem d_Mo_init_219 : decode m_Mo_init.2.1 219 = .ok (.putfield 80, 3) := by decide +kernel
theorem d_Mo_init_222 : decode m_Mo_init.2.1 222 = .ok (.aload_n 0, 1) := by decide +kernel
theorem d_Mo_init_223 : decode m_Mo_init.2.1 223 = .ok (.bipush 16, 2) := by decide +kernel
theorem d_Mo_init_225 : decode m_Mo_init.2.1 225 = .ok (.newarray .int, 2) := by decide +kernel
theorem d_Mo_init_227 : decode m_Mo_init.2.1 227 = .ok (.putfield 83, 3) := by decide +kernel
theorem d_Mo_init_230 : decode m_Mo_init.2.1 230 = .ok (.aload_n 0, 1) := by decide +kernel
theorem d_Mo_init_231 : decode m_Mo_init.2.1 231 = .ok (.bipush 16, 2) := by decide +kernel
theorem d_Mo_init_233 : decode m_Mo_init.2.1 233 = .ok (.newarray .int, 2) := by decide +kernel
theorem d_Mo_init_235 : decode m_Mo_init.2.1 235 = .ok (.putfield 86, 3) := by decide +kernel
theorem d_Mo_init_238 : decode m_Mo_init.2.1 238 = .ok (.aload_n 0, 1) := by decide +kernel
theorem d_Mo_init_239 : decode m_Mo_init.2.1 239 = .ok (.bipush 16, 2) := by decide +kernel
theorem d_Mo_init_241 : decode m_Mo_init.2.1 241 = .ok (.newarray .int, 2) := by decide +kernel
theorem d_Mo_init_243 : decode m_Mo_init.2.1 243 = .ok (.putfield 89, 3) := by decide +kernel
theorem d_Mo_init_246 : decode m_Mo_init.2.1 246 = .ok (.aload_n 0, 1) := by decide +kernel
theorem d_Mo_init_247 : decode m_Mo_init.2.1 247 = .ok (.bipush 16, 2) := by decide +kernel
theorem d_Mo_init_249 : decode m_Mo_init.2.1 249 = .ok (.newarray .int, 2) := by decide +kernel
theorem d_Mo_init_251 : decode m_Mo_init.2.1 251 = .ok (.putfield 92, 3) := by decide +kernel
theorem d_Mo_init_254 : decode m_Mo_init.2.1 254 = .ok (.aload_n 0, 1) := by decide +kernel
theorem d_Mo_init_255 : decode m_Mo_init.2.1 255 = .ok (.bipush 16, 2) := by decide +kernel
theorem d_Mo_init_257 : decode m_Mo_init.2.1 257 = .ok (.newarray .int, 2) := by decide +kernel
theorem d_Mo_init_259 : decode m_Mo_init.2.1 259 = .ok (.putfield 95, 3) := by decide +kernel
theorem d_Mo_init_262 : decode m_Mo_init.2.1 262 = .ok (.aload_n 0, 1) := by decide +kernel
theorem d_Mo_init_263 : decode m_Mo_init.2.1 263 = .ok (.bipush 16, 2) := by decide +kernel
theorem d_Mo_init_265 : decode m_Mo_init.2.1 265 = .ok (.newarray .boolean, 2) := by decide +kernel
theorem d_Mo_init_267 : decode m_Mo_init.2.1 267 = .ok (.putfield 98, 3) := by decide +kernel
theorem d_Mo_init_270 : decode m_Mo_init.2.1 270 = .ok (.iload_n 1, 1) := by decide +kernel
theorem d_Mo_init_271 : decode m_Mo_init.2.1 271 = .ok (.ldc 101, 2) := by decide +kernel
theorem d_Mo_init_273 : decode m_Mo_init.2.1 273 = .ok (.imul, 1) := by decide +kernel
theorem d_Mo_init_274 : decode m_Mo_init.2.1 274 = .ok (.istore_n 2, 1) := by decide +kernel
theorem d_Mo_init_275 : decode m_Mo_init.2.1 275 = .ok (.aload_n 0, 1) := by decide +kernel
theorem d_Mo_init_276 : decode m_Mo_init.2.1 276 = .ok (.iload_n 2, 1) := by decide +kernel
theorem d_Mo_init_277 : decode m_Mo_init.2.1 277 = .ok (.iload_n 2, 1) := by decide +kernel
theorem d_Mo_init_278 : decode m_Mo_init.2.1 278 = .ok (.bipush 15, 2) := by decide +kernel
theorem d_Mo_init_280 : decode m_Mo_init.2.1 280 = .ok (.iushr, 1) := by decide +kernel
theorem d_Mo_init_281 : decode m_Mo_init.2.1 281 = .ok (.ixor, 1) := by decide +kernel
theorem d_Mo_init_282 : decode m_Mo_init.2.1 282 = .ok (.putfield 102, 3) := by decide +kernel
theorem d_Mo_init_285 : decode m_Mo_init.2.1 285 = .ok (.return_, 1) := by decide +kernel
theorem d_Mo_root_0 : decode m_Mo_root.2.1 0 = .ok (.iload_n 1, 1) := by decide +kernel
theorem d_Mo_root_1 : decode m_Mo_root.2.1 1 = .ok (.sipush 255, 3) := by decide +kernel
theorem d_Mo_root_4 : decode m_Mo_root.2.1 4 = .ok (.iand, 1) := by decide +kernel
theorem d_Mo_root_5 : decode m_Mo_root.2.1 5 = .ok (.iload_n 2, 1) := by decide +kernel
theorem d_Mo_root_6 : decode m_Mo_root.2.1 6 = .ok (.sipush 255, 3) := by decide +kernel
theorem d_Mo_root_9 : decode m_Mo_root.2.1 9 = .ok (.iand, 1) := by decide +kernel
theorem d_Mo_root_10 : decode m_Mo_root.2.1 10 = .ok (.invokestatic 133, 3) := by decide +kernel
theorem d_Mo_root_13 : decode m_Mo_root.2.1 13 = .ok (.ireturn, 1) := by decide +kernel
theorem d_Mo_rootOfProposal_0 : decode m_Mo_rootOfProposal.2.1 0 = .ok (.iload_n 0, 1) := by decide +kernel
theorem d_Mo_rootOfProposal_1 : decode m_Mo_rootOfProposal.2.1 1 = .ok (.iload_n 1, 1) := by decide +kernel
theorem d_Mo_rootOfProposal_2 : decode m_Mo_rootOfProposal.2.1 2 = .ok (.iconst 0, 1) := by decide +kernel
theorem d_Mo_rootOfProposal_3 : decode m_Mo_rootOfProposal.2.1 3 = .ok (.invokestatic 120, 3) := by decide +kernel
theorem d_Mo_rootOfProposal_6 : decode m_Mo_rootOfProposal.2.1 6 = .ok (.iconst 0, 1) := by decide +kernel
theorem d_Mo_rootOfProposal_7 : decode m_Mo_rootOfProposal.2.1 7 = .ok (.invokestatic 124, 3) := by decide +kernel
theorem d_Mo_rootOfProposal_10 : decode m_Mo_rootOfProposal.2.1 10 = .ok (.iload_n 0, 1) := by decide +kernel
theorem d_Mo_rootOfProposal_11 : decode m_Mo_rootOfProposal.2.1 11 = .ok (.iload_n 1, 1) := by decide +kernel
theorem d_Mo_rootOfProposal_12 : decode m_Mo_rootOfProposal.2.1 12 = .ok (.iconst 1, 1) := by decide +kernel
theorem d_Mo_rootOfProposal_13 : decode m_Mo_rootOfProposal.2.1 13 = .ok (.invokestatic 120, 3) := by decide +kernel
theorem d_Mo_rootOfProposal_16 : decode m_Mo_rootOfProposal.2.1 16 = .ok (.iconst 1, 1) := by decide +kernel
theorem d_Mo_rootOfProposal_17 : decode m_Mo_rootOfProposal.2.1 17 = .ok (.invokestatic 124, 3) := by decide +kernel
theorem d_Mo_rootOfProposal_20 : decode m_Mo_rootOfProposal.2.1 20 = .ok (.invokestatic 127, 3) := by decide +kernel
theorem d_Mo_rootOfProposal_23 : decode m_Mo_rootOfProposal.2.1 23 = .ok (.istore_n 2, 1) := by decide +kernel
theorem d_Mo_rootOfProposal_24 : decode m_Mo_rootOfProposal.2.1 24 = .ok (.iload_n 0, 1) := by decide +kernel
theorem d_Mo_rootOfProposal_25 : decode m_Mo_rootOfProposal.2.1 25 = .ok (.iload_n 1, 1) := by decide +kernel
theorem d_Mo_rootOfProposal_26 : decode m_Mo_rootOfProposal.2.1 26 = .ok (.iconst 2, 1) := by decide +kernel
theorem d_Mo_rootOfProposal_27 : decode m_Mo_rootOfProposal.2.1 27 = .ok (.invokestatic 120, 3) := by decide +kernel
theorem d_Mo_rootOfProposal_30 : decode m_Mo_rootOfProposal.2.1 30 = .ok (.iconst 2, 1) := by decide +kernel
theorem d_Mo_rootOfProposal_31 : decode m_Mo_rootOfProposal.2.1 31 = .ok (.invokestatic 124, 3) := by decide +kernel
theorem d_Mo_rootOfProposal_34 : decode m_Mo_rootOfProposal.2.1 34 = .ok (.iload_n 0, 1) := by decide +kernel
theorem d_Mo_rootOfProposal_35 : decode m_Mo_rootOfProposal.2.1 35 = .ok (.iload_n 1, 1) := by decide +kernel
theorem d_Mo_rootOfProposal_36 : decode m_Mo_rootOfProposal.2.1 36 = .ok (.iconst 3, 1) := by decide +kernel
theorem d_Mo_rootOfProposal_37 : decode m_Mo_rootOfProposal.2.1 37 = .ok (.invokestatic 120, 3) := by decide +kernel
theorem d_Mo_rootOfProposal_40 : decode m_Mo_rootOfProposal.2.1 40 = .ok (.iconst 3, 1) := by decide +kernel
theorem d_Mo_rootOfProposal_41 : decode m_Mo_rootOfProposal.2.1 41 = .ok (.invokestatic 124, 3) := by decide +kernel
theorem d_Mo_rootOfProposal_44 : decode m_Mo_rootOfProposal.2.1 44 = .ok (.invokestatic 127, 3) := by decide +kernel
theorem d_Mo_rootOfProposal_47 : decode m_Mo_rootOfProposal.2.1 47 = .ok (.istore_n 3, 1) := by decide +kernel
theorem d_Mo_rootOfProposal_48 : decode m_Mo_rootOfProposal.2.1 48 = .ok (.iload_n 2, 1) := by decide +kernel
theorem d_Mo_rootOfProposal_49 : decode m_Mo_rootOfProposal.2.1 49 = .ok (.iload_n 3, 1) := by decide +kernel
theorem d_Mo_rootOfProposal_50 : decode m_Mo_rootOfProposal.2.1 50 = .ok (.invokestatic 130, 3) := by decide +kernel
theorem d_Mo_rootOfProposal_53 : decode m_Mo_rootOfProposal.2.1 53 = .ok (.ireturn, 1) := by decide +kernel
theorem d_Mo_partOf_0 : decode m_Mo_partOf.2.1 0 = .ok (.iload_n 0, 1) := by decide +kernel
theorem d_Mo_partOf_1 : decode m_Mo_partOf.2.1 1 = .ok (.iload_n 2, 1) := by decide +kernel
theorem d_Mo_partOf_2 : decode m_Mo_partOf.2.1 2 = .ok (.iload_n 0, 1) := by decide +kernel
theorem d_Mo_partOf_3 : decode m_Mo_partOf.2.1 3 = .ok (.iload_n 1, 1) := by decide +kernel
theorem d_Mo_partOf_4 : decode m_Mo_partOf.2.1 4 = .ok (.ixor, 1) := by decide +kernel
theorem d_Mo_partOf_5 : decode m_Mo_partOf.2.1 5 = .ok (.invokestatic 106, 3) := by decide +kernel
theorem d_Mo_partOf_8 : decode m_Mo_partOf.2.1 8 = .ok (.ixor, 1) := by decide +kernel
theorem d_Mo_partOf_9 : decode m_Mo_partOf.2.1 9 = .ok (.ireturn, 1) := by decide +kernel
theorem d_Mo_times_0 : decode m_Mo_times.2.1 0 = .ok (.iload_n 1, 1) := by decide +kernel
theorem d_Mo_times_1 : decode m_Mo_times.2.1 1 = .ok (.bipush 127, 2) := by decide +kernel
theorem d_Mo_times_3 : decode m_Mo_times.2.1 3 = .ok (.if_icmp .le 16, 3) := by decide +kernel
theorem d_Mo_times_6 : decode m_Mo_times.2.1 6 = .ok (.iconst 2, 1) := by decide +kernel
theorem d_Mo_times_7 : decode m_Mo_times.2.1 7 = .ok (.iload_n 1, 1) := by decide +kernel
theorem d_Mo_times_8 : decode m_Mo_times.2.1 8 = .ok (.imul, 1) := by decide +kernel
theorem d_Mo_times_9 : decode m_Mo_times.2.1 9 = .ok (.bipush 27, 2) := by decide +kernel
theorem d_Mo_times_11 : decode m_Mo_times.2.1 11 = .ok (.ixor, 1) := by decide +kernel
theorem d_Mo_times_12 : decode m_Mo_times.2.1 12 = .ok (.sipush 255, 3) := by decide +kernel
theorem d_Mo_times_15 : decode m_Mo_times.2.1 15 = .ok (.iand, 1) := by decide +kernel
theorem d_Mo_times_16 : decode m_Mo_times.2.1 16 = .ok (.goto 6, 3) := by decide +kernel
theorem d_Mo_times_19 : decode m_Mo_times.2.1 19 = .ok (.iconst 2, 1) := by decide +kernel
theorem d_Mo_times_20 : decode m_Mo_times.2.1 20 = .ok (.iload_n 1, 1) := by decide +kernel
theorem d_Mo_times_21 : decode m_Mo_times.2.1 21 = .ok (.imul, 1) := by decide +kernel
theorem d_Mo_times_22 : decode m_Mo_times.2.1 22 = .ok (.istore_n 2, 1) := by decide +kernel
theorem d_Mo_times_23 : decode m_Mo_times.2.1 23 = .ok (.iload_n 0, 1) := by decide +kernel
theorem d_Mo_times_24 : decode m_Mo_times.2.1 24 = .ok (.ifCond .ne 7, 3) := by decide +kernel
theorem d_Mo_times_27 : decode m_Mo_times.2.1 27 = .ok (.iconst 0, 1) := by decide +kernel
theorem d_Mo_times_28 : decode m_Mo_times.2.1 28 = .ok (.goto 24, 3) := by decide +kernel
theorem d_Mo_times_31 : decode m_Mo_times.2.1 31 = .ok (.iload_n 0, 1) := by decide +kernel
theorem d_Mo_times_32 : decode m_Mo_times.2.1 32 = .ok (.iconst 1, 1) := by decide +kernel
theorem d_Mo_times_33 : decode m_Mo_times.2.1 33 = .ok (.if_icmp .ne 7, 3) := by decide +kernel
theorem d_Mo_times_36 : decode m_Mo_times.2.1 36 = .ok (.iload_n 1, 1) := by decide +kernel
theorem d_Mo_times_37 : decode m_Mo_times.2.1 37 = .ok (.goto 15, 3) := by decide +kernel
theorem d_Mo_times_40 : decode m_Mo_times.2.1 40 = .ok (.iload_n 0, 1) := by decide +kernel
theorem d_Mo_times_41 : decode m_Mo_times.2.1 41 = .ok (.iconst 2, 1) := by decide +kernel
theorem d_Mo_times_42 : decode m_Mo_times.2.1 42 = .ok (.if_icmp .ne 7, 3) := by decide +kernel
theorem d_Mo_times_45 : decode m_Mo_times.2.1 45 = .ok (.iload_n 2, 1) := by decide +kernel
theorem d_Mo_times_46 : decode m_Mo_times.2.1 46 = .ok (.goto 6, 3) := by decide +kernel
theorem d_Mo_times_49 : decode m_Mo_times.2.1 49 = .ok (.iload_n 2, 1) := by decide +kernel
theorem d_Mo_times_50 : decode m_Mo_times.2.1 50 = .ok (.iload_n 1, 1) := by decide +kernel
theorem d_Mo_times_51 : decode m_Mo_times.2.1 51 = .ok (.ixor, 1) := by decide +kernel
theorem d_Mo_times_52 : decode m_Mo_times.2.1 52 = .ok (.ireturn, 1) := by decide +kernel
theorem d_Mo_leaf_0 : decode m_Mo_leaf.2.1 0 = .ok (.iload_n 0, 1) := by decide +kernel
theorem d_Mo_leaf_1 : decode m_Mo_leaf.2.1 1 = .ok (.sipush 167, 3) := by decide +kernel
theorem d_Mo_leaf_4 : decode m_Mo_leaf.2.1 4 = .ok (.imul, 1) := by decide +kernel
theorem d_Mo_leaf_5 : decode m_Mo_leaf.2.1 5 = .ok (.bipush 59, 2) := by decide +kernel
theorem d_Mo_leaf_7 : decode m_Mo_leaf.2.1 7 = .ok (.iload_n 1, 1) := by decide +kernel
theorem d_Mo_leaf_8 : decode m_Mo_leaf.2.1 8 = .ok (.imul, 1) := by decide +kernel
theorem d_Mo_leaf_9 : decode m_Mo_leaf.2.1 9 = .ok (.iadd, 1) := by decide +kernel
theorem d_Mo_leaf_10 : decode m_Mo_leaf.2.1 10 = .ok (.sipush 256, 3) := by decide +kernel
theorem d_Mo_leaf_13 : decode m_Mo_leaf.2.1 13 = .ok (.irem, 1) := by decide +kernel
theorem d_Mo_leaf_14 : decode m_Mo_leaf.2.1 14 = .ok (.ireturn, 1) := by decide +kernel
theorem d_Mo_half_0 : decode m_Mo_half.2.1 0 = .ok (.ldc2_w 110, 3) := by decide +kernel
theorem d_Mo_half_3 : decode m_Mo_half.2.1 3 = .ok (.iload_n 0, 1) := by decide +kernel
theorem d_Mo_half_4 : decode m_Mo_half.2.1 4 = .ok (.i2l, 1) := by decide +kernel
theorem d_Mo_half_5 : decode m_Mo_half.2.1 5 = .ok (.lmul, 1) := by decide +kernel
theorem d_Mo_half_6 : decode m_Mo_half.2.1 6 = .ok (.iload_n 1, 1) := by decide +kernel
theorem d_Mo_half_7 : decode m_Mo_half.2.1 7 = .ok (.i2l, 1) := by decide +kernel
theorem d_Mo_half_8 : decode m_Mo_half.2.1 8 = .ok (.ladd, 1) := by decide +kernel
theorem d_Mo_half_9 : decode m_Mo_half.2.1 9 = .ok (.ldc2_w 112, 3) := by decide +kernel
theorem d_Mo_half_12 : decode m_Mo_half.2.1 12 = .ok (.lmul, 1) := by decide +kernel
theorem d_Mo_half_13 : decode m_Mo_half.2.1 13 = .ok (.ldc2_w 114, 3) := by decide +kernel
theorem d_Mo_half_16 : decode m_Mo_half.2.1 16 = .ok (.ladd, 1) := by decide +kernel
theorem d_Mo_half_17 : decode m_Mo_half.2.1 17 = .ok (.ldc2_w 116, 3) := by decide +kernel
theorem d_Mo_half_20 : decode m_Mo_half.2.1 20 = .ok (.lrem, 1) := by decide +kernel
theorem d_Mo_half_21 : decode m_Mo_half.2.1 21 = .ok (.l2i, 1) := by decide +kernel
theorem d_Mo_half_22 : decode m_Mo_half.2.1 22 = .ok (.ireturn, 1) := by decide +kernel
theorem d_Mo_rootOf_0 : decode m_Mo_rootOf.2.1 0 = .ok (.ldc 118, 2) := by decide +kernel
theorem d_Mo_rootOf_2 : decode m_Mo_rootOf.2.1 2 = .ok (.iload_n 0, 1) := by decide +kernel
theorem d_Mo_rootOf_3 : decode m_Mo_rootOf.2.1 3 = .ok (.imul, 1) := by decide +kernel
theorem d_Mo_rootOf_4 : decode m_Mo_rootOf.2.1 4 = .ok (.iload_n 1, 1) := by decide +kernel
theorem d_Mo_rootOf_5 : decode m_Mo_rootOf.2.1 5 = .ok (.iadd, 1) := by decide +kernel
theorem d_Mo_rootOf_6 : decode m_Mo_rootOf.2.1 6 = .ok (.ldc 119, 2) := by decide +kernel
theorem d_Mo_rootOf_8 : decode m_Mo_rootOf.2.1 8 = .ok (.imul, 1) := by decide +kernel
theorem d_Mo_rootOf_9 : decode m_Mo_rootOf.2.1 9 = .ok (.bipush 7, 2) := by decide +kernel
theorem d_Mo_rootOf_11 : decode m_Mo_rootOf.2.1 11 = .ok (.iadd, 1) := by decide +kernel
theorem d_Mo_rootOf_12 : decode m_Mo_rootOf.2.1 12 = .ok (.ireturn, 1) := by decide +kernel
theorem d_Mo_coin_0 : decode m_Mo_coin.2.1 0 = .ok (.iload_n 1, 1) := by decide +kernel
theorem d_Mo_coin_1 : decode m_Mo_coin.2.1 1 = .ok (.invokestatic 136, 3) := by decide +kernel
theorem d_Mo_coin_4 : decode m_Mo_coin.2.1 4 = .ok (.ifCond .eq 19, 3) := by decide +kernel
theorem d_Mo_coin_7 : decode m_Mo_coin.2.1 7 = .ok (.iload_n 2, 1) := by decide +kernel
theorem d_Mo_coin_8 : decode m_Mo_coin.2.1 8 = .ok (.invokestatic 136, 3) := by decide +kernel
theorem d_Mo_coin_11 : decode m_Mo_coin.2.1 11 = .ok (.ifCond .eq 12, 3) := by decide +kernel
theorem d_Mo_coin_14 : decode m_Mo_coin.2.1 14 = .ok (.iload_n 3, 1) := by decide +kernel
theorem d_Mo_coin_15 : decode m_Mo_coin.2.1 15 = .ok (.ifCond .lt 8, 3) := by decide +kernel
theorem d_Mo_coin_18 : decode m_Mo_coin.2.1 18 = .ok (.iload_n 3, 1) := by decide +kernel
theorem d_Mo_coin_19 : decode m_Mo_coin.2.1 19 = .ok (.iconst 5, 1) := by decide +kernel
theorem d_Mo_coin_20 : decode m_Mo_coin.2.1 20 = .ok (.if_icmp .le 5, 3) := by decide +kernel
theorem d_Mo_coin_23 : decode m_Mo_coin.2.1 23 = .ok (.iconst (-1), 1) := by decide +kernel
theorem d_Mo_coin_24 : decode m_Mo_coin.2.1 24 = .ok (.ireturn, 1) := by decide +kernel
theorem d_Mo_coin_25 : decode m_Mo_coin.2.1 25 = .ok (.aload_n 0, 1) := by decide +kernel
theorem d_Mo_coin_26 : decode m_Mo_coin.2.1 26 = .ok (.iload_n 1, 1) := by decide +kernel
theorem d_Mo_coin_27 : decode m_Mo_coin.2.1 27 = .ok (.iload_n 2, 1) := by decide +kernel
theorem d_Mo_coin_28 : decode m_Mo_coin.2.1 28 = .ok (.iload_n 3, 1) := by decide +kernel
theorem d_Mo_coin_29 : decode m_Mo_coin.2.1 29 = .ok (.invokevirtual 140, 3) := by decide +kernel
theorem d_Mo_coin_32 : decode m_Mo_coin.2.1 32 = .ok (.ireturn, 1) := by decide +kernel
theorem d_Mo_isNode_0 : decode m_Mo_isNode.2.1 0 = .ok (.iload_n 0, 1) := by decide +kernel
theorem d_Mo_isNode_1 : decode m_Mo_isNode.2.1 1 = .ok (.ifCond .lt 12, 3) := by decide +kernel
theorem d_Mo_isNode_4 : decode m_Mo_isNode.2.1 4 = .ok (.iload_n 0, 1) := by decide +kernel
theorem d_Mo_isNode_5 : decode m_Mo_isNode.2.1 5 = .ok (.iconst 3, 1) := by decide +kernel
theorem d_Mo_isNode_6 : decode m_Mo_isNode.2.1 6 = .ok (.if_icmp .gt 7, 3) := by decide +kernel
theorem d_Mo_isNode_9 : decode m_Mo_isNode.2.1 9 = .ok (.iconst 1, 1) := by decide +kernel
theorem d_Mo_isNode_10 : decode m_Mo_isNode.2.1 10 = .ok (.goto 4, 3) := by decide +kernel
theorem d_Mo_isNode_13 : decode m_Mo_isNode.2.1 13 = .ok (.iconst 0, 1) := by decide +kernel
theorem d_Mo_isNode_14 : decode m_Mo_isNode.2.1 14 = .ok (.ireturn, 1) := by decide +kernel
theorem d_Mo_coinOf_0 : decode m_Mo_coinOf.2.1 0 = .ok (.aload_n 0, 1) := by decide +kernel
theorem d_Mo_coinOf_1 : decode m_Mo_coinOf.2.1 1 = .ok (.getfield 102, 3) := by decide +kernel
theorem d_Mo_coinOf_4 : decode m_Mo_coinOf.2.1 4 = .ok (.iload_n 1, 1) := by decide +kernel
theorem d_Mo_coinOf_5 : decode m_Mo_coinOf.2.1 5 = .ok (.bipush 24, 2) := by decide +kernel
theorem d_Mo_coinOf_7 : decode m_Mo_coinOf.2.1 7 = .ok (.imul, 1) := by decide +kernel
theorem d_Mo_coinOf_8 : decode m_Mo_coinOf.2.1 8 = .ok (.iload_n 2, 1) := by decide +kernel
theorem d_Mo_coinOf_9 : decode m_Mo_coinOf.2.1 9 = .ok (.bipush 6, 2) := by decide +kernel
theorem d_Mo_coinOf_11 : decode m_Mo_coinOf.2.1 11 = .ok (.imul, 1) := by decide +kernel
theorem d_Mo_coinOf_12 : decode m_Mo_coinOf.2.1 12 = .ok (.iadd, 1) := by decide +kernel
theorem d_Mo_coinOf_13 : decode m_Mo_coinOf.2.1 13 = .ok (.iload_n 3, 1) := by decide +kernel
theorem d_Mo_coinOf_14 : decode m_Mo_coinOf.2.1 14 = .ok (.iadd, 1) := by decide +kernel
theorem d_Mo_coinOf_15 : decode m_Mo_coinOf.2.1 15 = .ok (.bipush 31, 2) := by decide +kernel
theorem d_Mo_coinOf_17 : decode m_Mo_coinOf.2.1 17 = .ok (.irem, 1) := by decide +kernel
theorem d_Mo_coinOf_18 : decode m_Mo_coinOf.2.1 18 = .ok (.ishr, 1) := by decide +kernel
theorem d_Mo_coinOf_19 : decode m_Mo_coinOf.2.1 19 = .ok (.iconst 1, 1) := by decide +kernel
theorem d_Mo_coinOf_20 : decode m_Mo_coinOf.2.1 20 = .ok (.iand, 1) := by decide +kernel
theorem d_Mo_coinOf_21 : decode m_Mo_coinOf.2.1 21 = .ok (.ireturn, 1) := by decide +kernel
theorem d_Mo_submit_0 : decode m_Mo_submit.2.1 0 = .ok (.iload_n 1, 1) := by decide +kernel
theorem d_Mo_submit_1 : decode m_Mo_submit.2.1 1 = .ok (.invokestatic 136, 3) := by decide +kernel
theorem d_Mo_submit_4 : decode m_Mo_submit.2.1 4 = .ok (.ifCond .eq 35, 3) := by decide +kernel
theorem d_Mo_submit_7 : decode m_Mo_submit.2.1 7 = .ok (.iload_n 2, 1) := by decide +kernel
theorem d_Mo_submit_8 : decode m_Mo_submit.2.1 8 = .ok (.iconst 1, 1) := by decide +kernel
theorem d_Mo_submit_9 : decode m_Mo_submit.2.1 9 = .ok (.if_icmp .lt 30, 3) := by decide +kernel
theorem d_Mo_submit_12 : decode m_Mo_submit.2.1 12 = .ok (.iload_n 2, 1) := by decide +kernel
theorem d_Mo_submit_13 : decode m_Mo_submit.2.1 13 = .ok (.sipush 255, 3) := by decide +kernel
theorem d_Mo_submit_16 : decode m_Mo_submit.2.1 16 = .ok (.if_icmp .gt 23, 3) := by decide +kernel
theorem d_Mo_submit_19 : decode m_Mo_submit.2.1 19 = .ok (.aload_n 0, 1) := by decide +kernel
theorem d_Mo_submit_20 : decode m_Mo_submit.2.1 20 = .ok (.getfield 22, 3) := by decide +kernel
theorem d_Mo_submit_23 : decode m_Mo_submit.2.1 23 = .ok (.iload_n 1, 1) := by decide +kernel
theorem d_Mo_submit_24 : decode m_Mo_submit.2.1 24 = .ok (.iaload, 1) := by decide +kernel
theorem d_Mo_submit_25 : decode m_Mo_submit.2.1 25 = .ok (.bipush 12, 2) := by decide +kernel
theorem d_Mo_submit_27 : decode m_Mo_submit.2.1 27 = .ok (.if_icmp .eq 12, 3) := by decide +kernel
theorem d_Mo_submit_30 : decode m_Mo_submit.2.1 30 = .ok (.aload_n 0, 1) := by decide +kernel
theorem d_Mo_submit_31 : decode m_Mo_submit.2.1 31 = .ok (.iload_n 1, 1) := by decide +kernel
theorem d_Mo_submit_32 : decode m_Mo_submit.2.1 32 = .ok (.iload_n 2, 1) := by decide +kernel
theorem d_Mo_submit_33 : decode m_Mo_submit.2.1 33 = .ok (.invokevirtual 143, 3) := by decide +kernel
theorem d_Mo_submit_36 : decode m_Mo_submit.2.1 36 = .ok (.ifCond .eq 5, 3) := by decide +kernel
theorem d_Mo_submit_39 : decode m_Mo_submit.2.1 39 = .ok (.iconst 0, 1) := by decide +kernel
theorem d_Mo_submit_40 : decode m_Mo_submit.2.1 40 = .ok (.ireturn, 1) := by decide +kernel
theorem d_Mo_submit_41 : decode m_Mo_submit.2.1 41 = .ok (.iconst 0, 1) := by decide +kernel
theorem d_Mo_submit_42 : decode m_Mo_submit.2.1 42 = .ok (.istore_n 3, 1) := by decide +kernel
theorem d_Mo_submit_43 : decode m_Mo_submit.2.1 43 = .ok (.iload_n 3, 1) := by decide +kernel
theorem d_Mo_submit_44 : decode m_Mo_submit.2.1 44 = .ok (.aload_n 0, 1) := by decide +kernel
theorem d_Mo_submit_45 : decode m_Mo_submit.2.1 45 = .ok (.getfield 22, 3) := by decide +kernel
theorem d_Mo_submit_48 : decode m_Mo_submit.2.1 48 = .ok (.iload_n 1, 1) := by decide +kernel
theorem d_Mo_submit_49 : decode m_Mo_submit.2.1 49 = .ok (.iaload, 1) := by decide +kernel
theorem d_Mo_submit_50 : decode m_Mo_submit.2.1 50 = .ok (.if_icmp .ge 26, 3) := by decide +kernel
theorem d_Mo_submit_53 : decode m_Mo_submit.2.1 53 = .ok (.aload_n 0, 1) := by decide +kernel
theorem d_Mo_submit_54 : decode m_Mo_submit.2.1 54 = .ok (.getfield 25, 3) := by decide +kernel
theorem d_Mo_submit_57 : decode m_Mo_submit.2.1 57 = .ok (.bipush 12, 2) := by decide +kernel
theorem d_Mo_submit_59 : decode m_Mo_submit.2.1 59 = .ok (.iload_n 1, 1) := by decide +kernel
theorem d_Mo_submit_60 : decode m_Mo_submit.2.1 60 = .ok (.imul, 1) := by decide +kernel
theorem d_Mo_submit_61 : decode m_Mo_submit.2.1 61 = .ok (.iload_n 3, 1) := by decide +kernel
theorem d_Mo_submit_62 : decode m_Mo_submit.2.1 62 = .ok (.iadd, 1) := by decide +kernel
theorem d_Mo_submit_63 : decode m_Mo_submit.2.1 63 = .ok (.iaload, 1) := by decide +kernel
theorem d_Mo_submit_64 : decode m_Mo_submit.2.1 64 = .ok (.iload_n 2, 1) := by decide +kernel
theorem d_Mo_submit_65 : decode m_Mo_submit.2.1 65 = .ok (.if_icmp .ne 5, 3) := by decide +kernel
theorem d_Mo_submit_68 : decode m_Mo_submit.2.1 68 = .ok (.iconst 0, 1) := by decide +kernel
theorem d_Mo_submit_69 : decode m_Mo_submit.2.1 69 = .ok (.ireturn, 1) := by decide +kernel
theorem d_Mo_submit_70 : decode m_Mo_submit.2.1 70 = .ok (.iinc 3 1, 3) := by decide +kernel
theorem d_Mo_submit_73 : decode m_Mo_submit.2.1 73 = .ok (.goto (-30), 3) := by decide +kernel
theorem d_Mo_submit_76 : decode m_Mo_submit.2.1 76 = .ok (.aload_n 0, 1) := by decide +kernel
theorem d_Mo_submit_77 : decode m_Mo_submit.2.1 77 = .ok (.getfield 25, 3) := by decide +kernel
theorem d_Mo_submit_80 : decode m_Mo_submit.2.1 80 = .ok (.bipush 12, 2) := by decide +kernel
theorem d_Mo_submit_82 : decode m_Mo_submit.2.1 82 = .ok (.iload_n 1, 1) := by decide +kernel
theorem d_Mo_submit_83 : decode m_Mo_submit.2.1 83 = .ok (.imul, 1) := by decide +kernel
theorem d_Mo_submit_84 : decode m_Mo_submit.2.1 84 = .ok (.aload_n 0, 1) := by decide +kernel
theorem d_Mo_submit_85 : decode m_Mo_submit.2.1 85 = .ok (.getfield 22, 3) := by decide +kernel
theorem d_Mo_submit_88 : decode m_Mo_submit.2.1 88 = .ok (.iload_n 1, 1) := by decide +kernel
theorem d_Mo_submit_89 : decode m_Mo_submit.2.1 89 = .ok (.iaload, 1) := by decide +kernel
theorem d_Mo_submit_90 : decode m_Mo_submit.2.1 90 = .ok (.iadd, 1) := by decide +kernel
theorem d_Mo_submit_91 : decode m_Mo_submit.2.1 91 = .ok (.iload_n 2, 1) := by decide +kernel
theorem d_Mo_submit_92 : decode m_Mo_submit.2.1 92 = .ok (.iastore, 1) := by decide +kernel
theorem d_Mo_submit_93 : decode m_Mo_submit.2.1 93 = .ok (.aload_n 0, 1) := by decide +kernel
theorem d_Mo_submit_94 : decode m_Mo_submit.2.1 94 = .ok (.getfield 22, 3) := by decide +kernel
theorem d_Mo_submit_97 : decode m_Mo_submit.2.1 97 = .ok (.iload_n 1, 1) := by decide +kernel
theorem d_Mo_submit_98 : decode m_Mo_submit.2.1 98 = .ok (.dup2, 1) := by decide +kernel
theorem d_Mo_submit_99 : decode m_Mo_submit.2.1 99 = .ok (.iaload, 1) := by decide +kernel
theorem d_Mo_submit_100 : decode m_Mo_submit.2.1 100 = .ok (.iconst 1, 1) := by decide +kernel
theorem d_Mo_submit_101 : decode m_Mo_submit.2.1 101 = .ok (.iadd, 1) := by decide +kernel
theorem d_Mo_submit_102 : decode m_Mo_submit.2.1 102 = .ok (.iastore, 1) := by decide +kernel
theorem d_Mo_submit_103 : decode m_Mo_submit.2.1 103 = .ok (.iconst 1, 1) := by decide +kernel
theorem d_Mo_submit_104 : decode m_Mo_submit.2.1 104 = .ok (.ireturn, 1) := by decide +kernel
theorem d_Mo_isBooked_0 : decode m_Mo_isBooked.2.1 0 = .ok (.iconst 0, 1) := by decide +kernel
theorem d_Mo_isBooked_1 : decode m_Mo_isBooked.2.1 1 = .ok (.istore_n 3, 1) := by decide +kernel
theorem d_Mo_isBooked_2 : decode m_Mo_isBooked.2.1 2 = .ok (.iload_n 3, 1) := by decide +kernel
theorem d_Mo_isBooked_3 : decode m_Mo_isBooked.2.1 3 = .ok (.aload_n 0, 1) := by decide +kernel
theorem d_Mo_isBooked_4 : decode m_Mo_isBooked.2.1 4 = .ok (.getfield 28, 3) := by decide +kernel
theorem d_Mo_isBooked_7 : decode m_Mo_isBooked.2.1 7 = .ok (.iload_n 1, 1) := by decide +kernel
theorem d_Mo_isBooked_8 : decode m_Mo_isBooked.2.1 8 = .ok (.iaload, 1) := by decide +kernel
theorem d_Mo_isBooked_9 : decode m_Mo_isBooked.2.1 9 = .ok (.if_icmp .ge 26, 3) := by decide +kernel
theorem d_Mo_isBooked_12 : decode m_Mo_isBooked.2.1 12 = .ok (.aload_n 0, 1) := by decide +kernel
theorem d_Mo_isBooked_13 : decode m_Mo_isBooked.2.1 13 = .ok (.getfield 31, 3) := by decide +kernel
theorem d_Mo_isBooked_16 : decode m_Mo_isBooked.2.1 16 = .ok (.bipush 40, 2) := by decide +kernel
theorem d_Mo_isBooked_18 : decode m_Mo_isBooked.2.1 18 = .ok (.iload_n 1, 1) := by decide +kernel
theorem d_Mo_isBooked_19 : decode m_Mo_isBooked.2.1 19 = .ok (.imul, 1) := by decide +kernel
theorem d_Mo_isBooked_20 : decode m_Mo_isBooked.2.1 20 = .ok (.iload_n 3, 1) := by decide +kernel
theorem d_Mo_isBooked_21 : decode m_Mo_isBooked.2.1 21 = .ok (.iadd, 1) := by decide +kernel
theorem d_Mo_isBooked_22 : decode m_Mo_isBooked.2.1 22 = .ok (.iaload, 1) := by decide +kernel
theorem d_Mo_isBooked_23 : decode m_Mo_isBooked.2.1 23 = .ok (.iload_n 2, 1) := by decide +kernel
theorem d_Mo_isBooked_24 : decode m_Mo_isBooked.2.1 24 = .ok (.if_icmp .ne 5, 3) := by decide +kernel
theorem d_Mo_isBooked_27 : decode m_Mo_isBooked.2.1 27 = .ok (.iconst 1, 1) := by decide +kernel
theorem d_Mo_isBooked_28 : decode m_Mo_isBooked.2.1 28 = .ok (.ireturn, 1) := by decide +kernel
theorem d_Mo_isBooked_29 : decode m_Mo_isBooked.2.1 29 = .ok (.iinc 3 1, 3) := by decide +kernel
theorem d_Mo_isBooked_32 : decode m_Mo_isBooked.2.1 32 = .ok (.goto (-30), 3) := by decide +kernel
theorem d_Mo_isBooked_35 : decode m_Mo_isBooked.2.1 35 = .ok (.iconst 0, 1) := by decide +kernel
theorem d_Mo_isBooked_36 : decode m_Mo_isBooked.2.1 36 = .ok (.ireturn, 1) := by decide +kernel
theorem d_Mo_waiting_0 : decode m_Mo_waiting.2.1 0 = .ok (.iload_n 1, 1) := by decide +kernel
theorem d_Mo_waiting_1 : decode m_Mo_waiting.2.1 1 = .ok (.invokestatic 136, 3) := by decide +kernel
theorem d_Mo_waiting_4 : decode m_Mo_waiting.2.1 4 = .ok (.ifCond .ne 5, 3) := by decide +kernel
theorem d_Mo_waiting_7 : decode m_Mo_waiting.2.1 7 = .ok (.iconst (-1), 1) := by decide +kernel
theorem d_Mo_waiting_8 : decode m_Mo_waiting.2.1 8 = .ok (.ireturn, 1) := by decide +kernel
theorem d_Mo_waiting_9 : decode m_Mo_waiting.2.1 9 = .ok (.iconst 0, 1) := by decide +kernel
theorem d_Mo_waiting_10 : decode m_Mo_waiting.2.1 10 = .ok (.istore_n 2, 1) := by decide +kernel
theorem d_Mo_waiting_11 : decode m_Mo_waiting.2.1 11 = .ok (.iconst 0, 1) := by decide +kernel
theorem d_Mo_waiting_12 : decode m_Mo_waiting.2.1 12 = .ok (.istore_n 3, 1) := by decide +kernel
theorem d_Mo_waiting_13 : decode m_Mo_waiting.2.1 13 = .ok (.iload_n 3, 1) := by decide +kernel
theorem d_Mo_waiting_14 : decode m_Mo_waiting.2.1 14 = .ok (.aload_n 0, 1) := by decide +kernel
theorem d_Mo_waiting_15 : decode m_Mo_waiting.2.1 15 = .ok (.getfield 147, 3) := by decide +kernel
theorem d_Mo_waiting_18 : decode m_Mo_waiting.2.1 18 = .ok (.if_icmp .ge 26, 3) := by decide +kernel
theorem d_Mo_waiting_21 : decode m_Mo_waiting.2.1 21 = .ok (.aload_n 0, 1) := by decide +kernel
theorem d_Mo_waiting_22 : decode m_Mo_waiting.2.1 22 = .ok (.iload_n 3, 1) := by decide +kernel
theorem d_Mo_waiting_23 : decode m_Mo_waiting.2.1 23 = .ok (.iload_n 1, 1) := by decide +kernel
theorem d_Mo_waiting_24 : decode m_Mo_waiting.2.1 24 = .ok (.invokevirtual 150, 3) := by decide +kernel
theorem d_Mo_waiting_27 : decode m_Mo_waiting.2.1 27 = .ok (.ifCond .eq 9, 3) := by decide +kernel
end
section
theorem d_Mo_waiting_30 : decode m_Mo_waiting.2.1 30 = .ok (.iload_n 2, 1) := by decide +kernel
theorem d_Mo_waiting_31 : decode m_Mo_waiting.2.1 31 = .ok (.iconst 1, 1) := by decide +kernel
theorem d_Mo_waiting_32 : decode m_Mo_waiting.2.1 32 = .ok (.iadd, 1) := by decide +kernel
theorem d_Mo_waiting_33 : decode m_Mo_waiting.2.1 33 = .ok (.goto 4, 3) := by decide +kernel
theorem d_Mo_waiting_36 : decode m_Mo_waiting.2.1 36 = .ok (.iload_n 2, 1) := by decide +kernel
theorem d_Mo_waiting_37 : decode m_Mo_waiting.2.1 37 = .ok (.istore_n 2, 1) := by decide +kernel
theorem d_Mo_waiting_38 : decode m_Mo_waiting.2.1 38 = .ok (.iinc 3 1, 3) := by decide +kernel
theorem d_Mo_waiting_41 : decode m_Mo_waiting.2.1 41 = .ok (.goto (-28), 3) := by decide +kernel
theorem d_Mo_waiting_44 : decode m_Mo_waiting.2.1 44 = .ok (.iload_n 2, 1) := by decide +kernel
theorem d_Mo_waiting_45 : decode m_Mo_waiting.2.1 45 = .ok (.ireturn, 1) := by decide +kernel
theorem d_Mo_waits_0 : decode m_Mo_waits.2.1 0 = .ok (.aload_n 0, 1) := by decide +kernel
theorem d_Mo_waits_1 : decode m_Mo_waits.2.1 1 = .ok (.getfield 7, 3) := by decide +kernel
theorem d_Mo_waits_4 : decode m_Mo_waits.2.1 4 = .ok (.iload_n 1, 1) := by decide +kernel
theorem d_Mo_waits_5 : decode m_Mo_waits.2.1 5 = .ok (.iaload, 1) := by decide +kernel
theorem d_Mo_waits_6 : decode m_Mo_waits.2.1 6 = .ok (.bipush 9, 2) := by decide +kernel
theorem d_Mo_waits_8 : decode m_Mo_waits.2.1 8 = .ok (.iload_n 2, 1) := by decide +kernel
theorem d_Mo_waits_9 : decode m_Mo_waits.2.1 9 = .ok (.iadd, 1) := by decide +kernel
theorem d_Mo_waits_10 : decode m_Mo_waits.2.1 10 = .ok (.ishr, 1) := by decide +kernel
theorem d_Mo_waits_11 : decode m_Mo_waits.2.1 11 = .ok (.iconst 1, 1) := by decide +kernel
theorem d_Mo_waits_12 : decode m_Mo_waits.2.1 12 = .ok (.iand, 1) := by decide +kernel
theorem d_Mo_waits_13 : decode m_Mo_waits.2.1 13 = .ok (.ifCond .ne 7, 3) := by decide +kernel
theorem d_Mo_waits_16 : decode m_Mo_waits.2.1 16 = .ok (.iconst 1, 1) := by decide +kernel
theorem d_Mo_waits_17 : decode m_Mo_waits.2.1 17 = .ok (.goto 4, 3) := by decide +kernel
theorem d_Mo_waits_20 : decode m_Mo_waits.2.1 20 = .ok (.iconst 0, 1) := by decide +kernel
theorem d_Mo_waits_21 : decode m_Mo_waits.2.1 21 = .ok (.ireturn, 1) := by decide +kernel
theorem d_Mo_run_0 : decode m_Mo_run.2.1 0 = .ok (.iload_n 1, 1) := by decide +kernel
theorem d_Mo_run_1 : decode m_Mo_run.2.1 1 = .ok (.invokestatic 136, 3) := by decide +kernel
theorem d_Mo_run_4 : decode m_Mo_run.2.1 4 = .ok (.ifCond .eq 13, 3) := by decide +kernel
theorem d_Mo_run_7 : decode m_Mo_run.2.1 7 = .ok (.iload_n 2, 1) := by decide +kernel
theorem d_Mo_run_8 : decode m_Mo_run.2.1 8 = .ok (.ifCond .lt 9, 3) := by decide +kernel
theorem d_Mo_run_11 : decode m_Mo_run.2.1 11 = .ok (.iload_n 2, 1) := by decide +kernel
theorem d_Mo_run_12 : decode m_Mo_run.2.1 12 = .ok (.bipush 60, 2) := by decide +kernel
theorem d_Mo_run_14 : decode m_Mo_run.2.1 14 = .ok (.if_icmp .le 5, 3) := by decide +kernel
theorem d_Mo_run_17 : decode m_Mo_run.2.1 17 = .ok (.iconst (-1), 1) := by decide +kernel
theorem d_Mo_run_18 : decode m_Mo_run.2.1 18 = .ok (.ireturn, 1) := by decide +kernel
theorem d_Mo_run_19 : decode m_Mo_run.2.1 19 = .ok (.iconst 0, 1) := by decide +kernel
theorem d_Mo_run_20 : decode m_Mo_run.2.1 20 = .ok (.istore_n 3, 1) := by decide +kernel
theorem d_Mo_run_21 : decode m_Mo_run.2.1 21 = .ok (.iconst 0, 1) := by decide +kernel
theorem d_Mo_run_22 : decode m_Mo_run.2.1 22 = .ok (.istore 4, 2) := by decide +kernel
theorem d_Mo_run_24 : decode m_Mo_run.2.1 24 = .ok (.iload 4, 2) := by decide +kernel
theorem d_Mo_run_26 : decode m_Mo_run.2.1 26 = .ok (.aload_n 0, 1) := by decide +kernel
theorem d_Mo_run_27 : decode m_Mo_run.2.1 27 = .ok (.getfield 147, 3) := by decide +kernel
theorem d_Mo_run_30 : decode m_Mo_run.2.1 30 = .ok (.if_icmp .ge 34, 3) := by decide +kernel
theorem d_Mo_run_33 : decode m_Mo_run.2.1 33 = .ok (.iload_n 3, 1) := by decide +kernel
theorem d_Mo_run_34 : decode m_Mo_run.2.1 34 = .ok (.iload_n 2, 1) := by decide +kernel
theorem d_Mo_run_35 : decode m_Mo_run.2.1 35 = .ok (.if_icmp .ge 29, 3) := by decide +kernel
theorem d_Mo_run_38 : decode m_Mo_run.2.1 38 = .ok (.aload_n 0, 1) := by decide +kernel
theorem d_Mo_run_39 : decode m_Mo_run.2.1 39 = .ok (.iload 4, 2) := by decide +kernel
theorem d_Mo_run_41 : decode m_Mo_run.2.1 41 = .ok (.iload_n 1, 1) := by decide +kernel
theorem d_Mo_run_42 : decode m_Mo_run.2.1 42 = .ok (.invokevirtual 150, 3) := by decide +kernel
theorem d_Mo_run_45 : decode m_Mo_run.2.1 45 = .ok (.ifCond .eq 13, 3) := by decide +kernel
theorem d_Mo_run_48 : decode m_Mo_run.2.1 48 = .ok (.aload_n 0, 1) := by decide +kernel
theorem d_Mo_run_49 : decode m_Mo_run.2.1 49 = .ok (.iload_n 1, 1) := by decide +kernel
theorem d_Mo_run_50 : decode m_Mo_run.2.1 50 = .ok (.iload 4, 2) := by decide +kernel
theorem d_Mo_run_52 : decode m_Mo_run.2.1 52 = .ok (.invokevirtual 182, 3) := by decide +kernel
theorem d_Mo_run_55 : decode m_Mo_run.2.1 55 = .ok (.iinc 3 1, 3) := by decide +kernel
theorem d_Mo_run_58 : decode m_Mo_run.2.1 58 = .ok (.iinc 4 1, 3) := by decide +kernel
theorem d_Mo_run_61 : decode m_Mo_run.2.1 61 = .ok (.goto (-37), 3) := by decide +kernel
theorem d_Mo_run_64 : decode m_Mo_run.2.1 64 = .ok (.iload_n 3, 1) := by decide +kernel
theorem d_Mo_run_65 : decode m_Mo_run.2.1 65 = .ok (.ireturn, 1) := by decide +kernel
theorem d_Mo_reach_0 : decode m_Mo_reach.2.1 0 = .ok (.aload_n 0, 1) := by decide +kernel
theorem d_Mo_reach_1 : decode m_Mo_reach.2.1 1 = .ok (.getfield 7, 3) := by decide +kernel
theorem d_Mo_reach_4 : decode m_Mo_reach.2.1 4 = .ok (.iload_n 2, 1) := by decide +kernel
theorem d_Mo_reach_5 : decode m_Mo_reach.2.1 5 = .ok (.aload_n 0, 1) := by decide +kernel
theorem d_Mo_reach_6 : decode m_Mo_reach.2.1 6 = .ok (.getfield 7, 3) := by decide +kernel
theorem d_Mo_reach_9 : decode m_Mo_reach.2.1 9 = .ok (.iload_n 2, 1) := by decide +kernel
theorem d_Mo_reach_10 : decode m_Mo_reach.2.1 10 = .ok (.iaload, 1) := by decide +kernel
theorem d_Mo_reach_11 : decode m_Mo_reach.2.1 11 = .ok (.iconst 1, 1) := by decide +kernel
theorem d_Mo_reach_12 : decode m_Mo_reach.2.1 12 = .ok (.bipush 9, 2) := by decide +kernel
theorem d_Mo_reach_14 : decode m_Mo_reach.2.1 14 = .ok (.iload_n 1, 1) := by decide +kernel
theorem d_Mo_reach_15 : decode m_Mo_reach.2.1 15 = .ok (.iadd, 1) := by decide +kernel
theorem d_Mo_reach_16 : decode m_Mo_reach.2.1 16 = .ok (.ishl, 1) := by decide +kernel
theorem d_Mo_reach_17 : decode m_Mo_reach.2.1 17 = .ok (.ior, 1) := by decide +kernel
theorem d_Mo_reach_18 : decode m_Mo_reach.2.1 18 = .ok (.iastore, 1) := by decide +kernel
theorem d_Mo_reach_19 : decode m_Mo_reach.2.1 19 = .ok (.aload_n 0, 1) := by decide +kernel
theorem d_Mo_reach_20 : decode m_Mo_reach.2.1 20 = .ok (.getfield 7, 3) := by decide +kernel
theorem d_Mo_reach_23 : decode m_Mo_reach.2.1 23 = .ok (.iload_n 2, 1) := by decide +kernel
theorem d_Mo_reach_24 : decode m_Mo_reach.2.1 24 = .ok (.iaload, 1) := by decide +kernel
theorem d_Mo_reach_25 : decode m_Mo_reach.2.1 25 = .ok (.iconst 3, 1) := by decide +kernel
theorem d_Mo_reach_26 : decode m_Mo_reach.2.1 26 = .ok (.iand, 1) := by decide +kernel
theorem d_Mo_reach_27 : decode m_Mo_reach.2.1 27 = .ok (.istore_n 3, 1) := by decide +kernel
theorem d_Mo_reach_28 : decode m_Mo_reach.2.1 28 = .ok (.aload_n 0, 1) := by decide +kernel
theorem d_Mo_reach_29 : decode m_Mo_reach.2.1 29 = .ok (.getfield 7, 3) := by decide +kernel
theorem d_Mo_reach_32 : decode m_Mo_reach.2.1 32 = .ok (.iload_n 2, 1) := by decide +kernel
theorem d_Mo_reach_33 : decode m_Mo_reach.2.1 33 = .ok (.iaload, 1) := by decide +kernel
theorem d_Mo_reach_34 : decode m_Mo_reach.2.1 34 = .ok (.iconst 2, 1) := by decide +kernel
theorem d_Mo_reach_35 : decode m_Mo_reach.2.1 35 = .ok (.ishr, 1) := by decide +kernel
theorem d_Mo_reach_36 : decode m_Mo_reach.2.1 36 = .ok (.iconst 3, 1) := by decide +kernel
theorem d_Mo_reach_37 : decode m_Mo_reach.2.1 37 = .ok (.iand, 1) := by decide +kernel
theorem d_Mo_reach_38 : decode m_Mo_reach.2.1 38 = .ok (.istore 4, 2) := by decide +kernel
theorem d_Mo_reach_40 : decode m_Mo_reach.2.1 40 = .ok (.aload_n 0, 1) := by decide +kernel
theorem d_Mo_reach_41 : decode m_Mo_reach.2.1 41 = .ok (.getfield 7, 3) := by decide +kernel
theorem d_Mo_reach_44 : decode m_Mo_reach.2.1 44 = .ok (.iload_n 2, 1) := by decide +kernel
theorem d_Mo_reach_45 : decode m_Mo_reach.2.1 45 = .ok (.iaload, 1) := by decide +kernel
theorem d_Mo_reach_46 : decode m_Mo_reach.2.1 46 = .ok (.iconst 4, 1) := by decide +kernel
theorem d_Mo_reach_47 : decode m_Mo_reach.2.1 47 = .ok (.ishr, 1) := by decide +kernel
theorem d_Mo_reach_48 : decode m_Mo_reach.2.1 48 = .ok (.iconst 3, 1) := by decide +kernel
theorem d_Mo_reach_49 : decode m_Mo_reach.2.1 49 = .ok (.iand, 1) := by decide +kernel
theorem d_Mo_reach_50 : decode m_Mo_reach.2.1 50 = .ok (.istore 5, 2) := by decide +kernel
theorem d_Mo_reach_52 : decode m_Mo_reach.2.1 52 = .ok (.aload_n 0, 1) := by decide +kernel
theorem d_Mo_reach_53 : decode m_Mo_reach.2.1 53 = .ok (.getfield 7, 3) := by decide +kernel
theorem d_Mo_reach_56 : decode m_Mo_reach.2.1 56 = .ok (.iload_n 2, 1) := by decide +kernel
theorem d_Mo_reach_57 : decode m_Mo_reach.2.1 57 = .ok (.iaload, 1) := by decide +kernel
theorem d_Mo_reach_58 : decode m_Mo_reach.2.1 58 = .ok (.bipush 6, 2) := by decide +kernel
theorem d_Mo_reach_60 : decode m_Mo_reach.2.1 60 = .ok (.ishr, 1) := by decide +kernel
theorem d_Mo_reach_61 : decode m_Mo_reach.2.1 61 = .ok (.bipush 7, 2) := by decide +kernel
theorem d_Mo_reach_63 : decode m_Mo_reach.2.1 63 = .ok (.iand, 1) := by decide +kernel
theorem d_Mo_reach_64 : decode m_Mo_reach.2.1 64 = .ok (.istore 6, 2) := by decide +kernel
theorem d_Mo_reach_66 : decode m_Mo_reach.2.1 66 = .ok (.iload_n 1, 1) := by decide +kernel
theorem d_Mo_reach_67 : decode m_Mo_reach.2.1 67 = .ok (.iconst 3, 1) := by decide +kernel
theorem d_Mo_reach_68 : decode m_Mo_reach.2.1 68 = .ok (.if_icmp .ne 10, 3) := by decide +kernel
theorem d_Mo_reach_71 : decode m_Mo_reach.2.1 71 = .ok (.aload_n 0, 1) := by decide +kernel
theorem d_Mo_reach_72 : decode m_Mo_reach.2.1 72 = .ok (.getfield 153, 3) := by decide +kernel
theorem d_Mo_reach_75 : decode m_Mo_reach.2.1 75 = .ok (.ifCond .ne 14, 3) := by decide +kernel
theorem d_Mo_reach_78 : decode m_Mo_reach.2.1 78 = .ok (.iload 4, 2) := by decide +kernel
theorem d_Mo_reach_80 : decode m_Mo_reach.2.1 80 = .ok (.aload_n 0, 1) := by decide +kernel
theorem d_Mo_reach_81 : decode m_Mo_reach.2.1 81 = .ok (.getfield 19, 3) := by decide +kernel
theorem d_Mo_reach_84 : decode m_Mo_reach.2.1 84 = .ok (.iload_n 1, 1) := by decide +kernel
theorem d_Mo_reach_85 : decode m_Mo_reach.2.1 85 = .ok (.iaload, 1) := by decide +kernel
theorem d_Mo_reach_86 : decode m_Mo_reach.2.1 86 = .ok (.if_icmp .ge 4, 3) := by decide +kernel
theorem d_Mo_reach_89 : decode m_Mo_reach.2.1 89 = .ok (.return_, 1) := by decide +kernel
theorem d_Mo_reach_90 : decode m_Mo_reach.2.1 90 = .ok (.aload_n 0, 1) := by decide +kernel
theorem d_Mo_reach_91 : decode m_Mo_reach.2.1 91 = .ok (.getfield 7, 3) := by decide +kernel
theorem d_Mo_reach_94 : decode m_Mo_reach.2.1 94 = .ok (.iload_n 2, 1) := by decide +kernel
theorem d_Mo_reach_95 : decode m_Mo_reach.2.1 95 = .ok (.iaload, 1) := by decide +kernel
theorem d_Mo_reach_96 : decode m_Mo_reach.2.1 96 = .ok (.bipush 13, 2) := by decide +kernel
theorem d_Mo_reach_98 : decode m_Mo_reach.2.1 98 = .ok (.ishr, 1) := by decide +kernel
theorem d_Mo_reach_99 : decode m_Mo_reach.2.1 99 = .ok (.iconst 1, 1) := by decide +kernel
theorem d_Mo_reach_100 : decode m_Mo_reach.2.1 100 = .ok (.iand, 1) := by decide +kernel
theorem d_Mo_reach_101 : decode m_Mo_reach.2.1 101 = .ok (.iconst 1, 1) := by decide +kernel
theorem d_Mo_reach_102 : decode m_Mo_reach.2.1 102 = .ok (.if_icmp .ne 7, 3) := by decide +kernel
theorem d_Mo_reach_105 : decode m_Mo_reach.2.1 105 = .ok (.iconst 1, 1) := by decide +kernel
theorem d_Mo_reach_106 : decode m_Mo_reach.2.1 106 = .ok (.goto 4, 3) := by decide +kernel
theorem d_Mo_reach_109 : decode m_Mo_reach.2.1 109 = .ok (.iconst 0, 1) := by decide +kernel
theorem d_Mo_reach_110 : decode m_Mo_reach.2.1 110 = .ok (.istore 7, 2) := by decide +kernel
theorem d_Mo_reach_112 : decode m_Mo_reach.2.1 112 = .ok (.bipush 16, 2) := by decide +kernel
theorem d_Mo_reach_114 : decode m_Mo_reach.2.1 114 = .ok (.iload_n 1, 1) := by decide +kernel
theorem d_Mo_reach_115 : decode m_Mo_reach.2.1 115 = .ok (.imul, 1) := by decide +kernel
theorem d_Mo_reach_116 : decode m_Mo_reach.2.1 116 = .ok (.iconst 4, 1) := by decide +kernel
theorem d_Mo_reach_117 : decode m_Mo_reach.2.1 117 = .ok (.iload 4, 2) := by decide +kernel
theorem d_Mo_reach_119 : decode m_Mo_reach.2.1 119 = .ok (.imul, 1) := by decide +kernel
theorem d_Mo_reach_120 : decode m_Mo_reach.2.1 120 = .ok (.iadd, 1) := by decide +kernel
theorem d_Mo_reach_121 : decode m_Mo_reach.2.1 121 = .ok (.iload 5, 2) := by decide +kernel
theorem d_Mo_reach_123 : decode m_Mo_reach.2.1 123 = .ok (.iadd, 1) := by decide +kernel
theorem d_Mo_reach_124 : decode m_Mo_reach.2.1 124 = .ok (.istore 8, 2) := by decide +kernel
theorem d_Mo_reach_126 : decode m_Mo_reach.2.1 126 = .ok (.iload 6, 2) := by decide +kernel
theorem d_Mo_reach_128 : decode m_Mo_reach.2.1 128 = .ok (.ifCond .ne 27, 3) := by decide +kernel
theorem d_Mo_reach_131 : decode m_Mo_reach.2.1 131 = .ok (.aload_n 0, 1) := by decide +kernel
theorem d_Mo_reach_132 : decode m_Mo_reach.2.1 132 = .ok (.iload 8, 2) := by decide +kernel
theorem d_Mo_reach_134 : decode m_Mo_reach.2.1 134 = .ok (.iload_n 1, 1) := by decide +kernel
theorem d_Mo_reach_135 : decode m_Mo_reach.2.1 135 = .ok (.iload_n 3, 1) := by decide +kernel
theorem d_Mo_reach_136 : decode m_Mo_reach.2.1 136 = .ok (.iload 5, 2) := by decide +kernel
theorem d_Mo_reach_138 : decode m_Mo_reach.2.1 138 = .ok (.if_icmp .ne 7, 3) := by decide +kernel
theorem d_Mo_reach_141 : decode m_Mo_reach.2.1 141 = .ok (.iconst 1, 1) := by decide +kernel
theorem d_Mo_reach_142 : decode m_Mo_reach.2.1 142 = .ok (.goto 4, 3) := by decide +kernel
theorem d_Mo_reach_145 : decode m_Mo_reach.2.1 145 = .ok (.iconst 0, 1) := by decide +kernel
theorem d_Mo_reach_146 : decode m_Mo_reach.2.1 146 = .ok (.iload 7, 2) := by decide +kernel
theorem d_Mo_reach_148 : decode m_Mo_reach.2.1 148 = .ok (.iload_n 2, 1) := by decide +kernel
theorem d_Mo_reach_149 : decode m_Mo_reach.2.1 149 = .ok (.invokevirtual 157, 3) := by decide +kernel
theorem d_Mo_reach_152 : decode m_Mo_reach.2.1 152 = .ok (.goto 124, 3) := by decide +kernel
theorem d_Mo_reach_155 : decode m_Mo_reach.2.1 155 = .ok (.iload 6, 2) := by decide +kernel
theorem d_Mo_reach_157 : decode m_Mo_reach.2.1 157 = .ok (.iconst 3, 1) := by decide +kernel
theorem d_Mo_reach_158 : decode m_Mo_reach.2.1 158 = .ok (.if_icmp .ge 20, 3) := by decide +kernel
theorem d_Mo_reach_161 : decode m_Mo_reach.2.1 161 = .ok (.aload_n 0, 1) := by decide +kernel
theorem d_Mo_reach_162 : decode m_Mo_reach.2.1 162 = .ok (.iconst 4, 1) := by decide +kernel
theorem d_Mo_reach_163 : decode m_Mo_reach.2.1 163 = .ok (.iload 8, 2) := by decide +kernel
theorem d_Mo_reach_165 : decode m_Mo_reach.2.1 165 = .ok (.imul, 1) := by decide +kernel
theorem d_Mo_reach_166 : decode m_Mo_reach.2.1 166 = .ok (.iload_n 3, 1) := by decide +kernel
theorem d_Mo_reach_167 : decode m_Mo_reach.2.1 167 = .ok (.iadd, 1) := by decide +kernel
theorem d_Mo_reach_168 : decode m_Mo_reach.2.1 168 = .ok (.iload_n 3, 1) := by decide +kernel
theorem d_Mo_reach_169 : decode m_Mo_reach.2.1 169 = .ok (.iload 6, 2) := by decide +kernel
theorem d_Mo_reach_171 : decode m_Mo_reach.2.1 171 = .ok (.iload_n 2, 1) := by decide +kernel
theorem d_Mo_reach_172 : decode m_Mo_reach.2.1 172 = .ok (.invokevirtual 161, 3) := by decide +kernel
theorem d_Mo_reach_175 : decode m_Mo_reach.2.1 175 = .ok (.goto 101, 3) := by decide +kernel
theorem d_Mo_reach_178 : decode m_Mo_reach.2.1 178 = .ok (.bipush 24, 2) := by decide +kernel
theorem d_Mo_reach_180 : decode m_Mo_reach.2.1 180 = .ok (.iload 8, 2) := by decide +kernel
theorem d_Mo_reach_182 : decode m_Mo_reach.2.1 182 = .ok (.imul, 1) := by decide +kernel
theorem d_Mo_reach_183 : decode m_Mo_reach.2.1 183 = .ok (.iconst 4, 1) := by decide +kernel
theorem d_Mo_reach_184 : decode m_Mo_reach.2.1 184 = .ok (.aload_n 0, 1) := by decide +kernel
theorem d_Mo_reach_185 : decode m_Mo_reach.2.1 185 = .ok (.getfield 13, 3) := by decide +kernel
theorem d_Mo_reach_188 : decode m_Mo_reach.2.1 188 = .ok (.iload_n 2, 1) := by decide +kernel
theorem d_Mo_reach_189 : decode m_Mo_reach.2.1 189 = .ok (.iaload, 1) := by decide +kernel
theorem d_Mo_reach_190 : decode m_Mo_reach.2.1 190 = .ok (.imul, 1) := by decide +kernel
theorem d_Mo_reach_191 : decode m_Mo_reach.2.1 191 = .ok (.iadd, 1) := by decide +kernel
theorem d_Mo_reach_192 : decode m_Mo_reach.2.1 192 = .ok (.iload_n 3, 1) := by decide +kernel
theorem d_Mo_reach_193 : decode m_Mo_reach.2.1 193 = .ok (.iadd, 1) := by decide +kernel
theorem d_Mo_reach_194 : decode m_Mo_reach.2.1 194 = .ok (.istore 9, 2) := by decide +kernel
theorem d_Mo_reach_196 : decode m_Mo_reach.2.1 196 = .ok (.aload_n 0, 1) := by decide +kernel
theorem d_Mo_reach_197 : decode m_Mo_reach.2.1 197 = .ok (.getfield 59, 3) := by decide +kernel
theorem d_Mo_reach_200 : decode m_Mo_reach.2.1 200 = .ok (.iload 9, 2) := by decide +kernel
theorem d_Mo_reach_202 : decode m_Mo_reach.2.1 202 = .ok (.iload 6, 2) := by decide +kernel
theorem d_Mo_reach_204 : decode m_Mo_reach.2.1 204 = .ok (.iconst 3, 1) := by decide +kernel
theorem d_Mo_reach_205 : decode m_Mo_reach.2.1 205 = .ok (.if_icmp .ne 22, 3) := by decide +kernel
theorem d_Mo_reach_208 : decode m_Mo_reach.2.1 208 = .ok (.aload_n 0, 1) := by decide +kernel
theorem d_Mo_reach_209 : decode m_Mo_reach.2.1 209 = .ok (.getfield 59, 3) := by decide +kernel
theorem d_Mo_reach_212 : decode m_Mo_reach.2.1 212 = .ok (.iload 9, 2) := by decide +kernel
theorem d_Mo_reach_214 : decode m_Mo_reach.2.1 214 = .ok (.iaload, 1) := by decide +kernel
theorem d_Mo_reach_215 : decode m_Mo_reach.2.1 215 = .ok (.iconst 1, 1) := by decide +kernel
theorem d_Mo_reach_216 : decode m_Mo_reach.2.1 216 = .ok (.aload_n 0, 1) := by decide +kernel
theorem d_Mo_reach_217 : decode m_Mo_reach.2.1 217 = .ok (.getfield 16, 3) := by decide +kernel
theorem d_Mo_reach_220 : decode m_Mo_reach.2.1 220 = .ok (.iload_n 2, 1) := by decide +kernel
theorem d_Mo_reach_221 : decode m_Mo_reach.2.1 221 = .ok (.iaload, 1) := by decide +kernel
theorem d_Mo_reach_222 : decode m_Mo_reach.2.1 222 = .ok (.ishl, 1) := by decide +kernel
theorem d_Mo_reach_223 : decode m_Mo_reach.2.1 223 = .ok (.ior, 1) := by decide +kernel
theorem d_Mo_reach_224 : decode m_Mo_reach.2.1 224 = .ok (.goto 10, 3) := by decide +kernel
theorem d_Mo_reach_227 : decode m_Mo_reach.2.1 227 = .ok (.aload_n 0, 1) := by decide +kernel
theorem d_Mo_reach_228 : decode m_Mo_reach.2.1 228 = .ok (.getfield 59, 3) := by decide +kernel
theorem d_Mo_reach_231 : decode m_Mo_reach.2.1 231 = .ok (.iload 9, 2) := by decide +kernel
theorem d_Mo_reach_233 : decode m_Mo_reach.2.1 233 = .ok (.iaload, 1) := by decide +kernel
theorem d_Mo_reach_234 : decode m_Mo_reach.2.1 234 = .ok (.iastore, 1) := by decide +kernel
theorem d_Mo_reach_235 : decode m_Mo_reach.2.1 235 = .ok (.aload_n 0, 1) := by decide +kernel
theorem d_Mo_reach_236 : decode m_Mo_reach.2.1 236 = .ok (.getfield 62, 3) := by decide +kernel
theorem d_Mo_reach_239 : decode m_Mo_reach.2.1 239 = .ok (.iload 9, 2) := by decide +kernel
theorem d_Mo_reach_241 : decode m_Mo_reach.2.1 241 = .ok (.iload 6, 2) := by decide +kernel
theorem d_Mo_reach_243 : decode m_Mo_reach.2.1 243 = .ok (.iconst 4, 1) := by decide +kernel
theorem d_Mo_reach_244 : decode m_Mo_reach.2.1 244 = .ok (.if_icmp .ne 24, 3) := by decide +kernel
theorem d_Mo_reach_247 : decode m_Mo_reach.2.1 247 = .ok (.aload_n 0, 1) := by decide +kernel
theorem d_Mo_reach_248 : decode m_Mo_reach.2.1 248 = .ok (.getfield 62, 3) := by decide +kernel
theorem d_Mo_reach_251 : decode m_Mo_reach.2.1 251 = .ok (.iload 9, 2) := by decide +kernel
theorem d_Mo_reach_253 : decode m_Mo_reach.2.1 253 = .ok (.iaload, 1) := by decide +kernel
theorem d_Mo_reach_254 : decode m_Mo_reach.2.1 254 = .ok (.ifCond .ne 14, 3) := by decide +kernel
theorem d_Mo_reach_257 : decode m_Mo_reach.2.1 257 = .ok (.iconst 1, 1) := by decide +kernel
theorem d_Mo_reach_258 : decode m_Mo_reach.2.1 258 = .ok (.aload_n 0, 1) := by decide +kernel
theorem d_Mo_reach_259 : decode m_Mo_reach.2.1 259 = .ok (.getfield 16, 3) := by decide +kernel
theorem d_Mo_reach_262 : decode m_Mo_reach.2.1 262 = .ok (.iload_n 2, 1) := by decide +kernel
theorem d_Mo_reach_263 : decode m_Mo_reach.2.1 263 = .ok (.iaload, 1) := by decide +kernel
theorem d_Mo_reach_264 : decode m_Mo_reach.2.1 264 = .ok (.iadd, 1) := by decide +kernel
theorem d_Mo_reach_265 : decode m_Mo_reach.2.1 265 = .ok (.goto 10, 3) := by decide +kernel
theorem d_Mo_reach_268 : decode m_Mo_reach.2.1 268 = .ok (.aload_n 0, 1) := by decide +kernel
theorem d_Mo_reach_269 : decode m_Mo_reach.2.1 269 = .ok (.getfield 62, 3) := by decide +kernel
theorem d_Mo_reach_272 : decode m_Mo_reach.2.1 272 = .ok (.iload 9, 2) := by decide +kernel
theorem d_Mo_reach_274 : decode m_Mo_reach.2.1 274 = .ok (.iaload, 1) := by decide +kernel
theorem d_Mo_reach_275 : decode m_Mo_reach.2.1 275 = .ok (.iastore, 1) := by decide +kernel
theorem d_Mo_reach_276 : decode m_Mo_reach.2.1 276 = .ok (.iload 4, 2) := by decide +kernel
theorem d_Mo_reach_278 : decode m_Mo_reach.2.1 278 = .ok (.aload_n 0, 1) := by decide +kernel
theorem d_Mo_reach_279 : decode m_Mo_reach.2.1 279 = .ok (.getfield 19, 3) := by decide +kernel
theorem d_Mo_reach_282 : decode m_Mo_reach.2.1 282 = .ok (.iload_n 1, 1) := by decide +kernel
theorem d_Mo_reach_283 : decode m_Mo_reach.2.1 283 = .ok (.iaload, 1) := by decide +kernel
theorem d_Mo_reach_284 : decode m_Mo_reach.2.1 284 = .ok (.if_icmp .ne 19, 3) := by decide +kernel
theorem d_Mo_reach_287 : decode m_Mo_reach.2.1 287 = .ok (.aload_n 0, 1) := by decide +kernel
theorem d_Mo_reach_288 : decode m_Mo_reach.2.1 288 = .ok (.iload 5, 2) := by decide +kernel
theorem d_Mo_reach_290 : decode m_Mo_reach.2.1 290 = .ok (.putfield 165, 3) := by decide +kernel
theorem d_Mo_reach_293 : decode m_Mo_reach.2.1 293 = .ok (.aload_n 0, 1) := by decide +kernel
theorem d_Mo_reach_294 : decode m_Mo_reach.2.1 294 = .ok (.iconst 4, 1) := by decide +kernel
theorem d_Mo_reach_295 : decode m_Mo_reach.2.1 295 = .ok (.putfield 168, 3) := by decide +kernel
theorem d_Mo_reach_298 : decode m_Mo_reach.2.1 298 = .ok (.aload_n 0, 1) := by decide +kernel
theorem d_Mo_reach_299 : decode m_Mo_reach.2.1 299 = .ok (.iload_n 1, 1) := by decide +kernel
theorem d_Mo_reach_300 : decode m_Mo_reach.2.1 300 = .ok (.invokevirtual 171, 3) := by decide +kernel
theorem d_Mo_reach_303 : decode m_Mo_reach.2.1 303 = .ok (.return_, 1) := by decide +kernel
theorem d_Mo_value_0 : decode m_Mo_value.2.1 0 = .ok (.iload 4, 2) := by decide +kernel
theorem d_Mo_value_2 : decode m_Mo_value.2.1 2 = .ok (.ifCond .eq 13, 3) := by decide +kernel
theorem d_Mo_value_5 : decode m_Mo_value.2.1 5 = .ok (.aload_n 0, 1) := by decide +kernel
theorem d_Mo_value_6 : decode m_Mo_value.2.1 6 = .ok (.getfield 13, 3) := by decide +kernel
theorem d_Mo_value_9 : decode m_Mo_value.2.1 9 = .ok (.iload 5, 2) := by decide +kernel
theorem d_Mo_value_11 : decode m_Mo_value.2.1 11 = .ok (.iaload, 1) := by decide +kernel
theorem d_Mo_value_12 : decode m_Mo_value.2.1 12 = .ok (.goto 20, 3) := by decide +kernel
theorem d_Mo_value_15 : decode m_Mo_value.2.1 15 = .ok (.aload_n 0, 1) := by decide +kernel
theorem d_Mo_value_16 : decode m_Mo_value.2.1 16 = .ok (.getfield 13, 3) := by decide +kernel
theorem d_Mo_value_19 : decode m_Mo_value.2.1 19 = .ok (.iload 5, 2) := by decide +kernel
theorem d_Mo_value_21 : decode m_Mo_value.2.1 21 = .ok (.iaload, 1) := by decide +kernel
theorem d_Mo_value_22 : decode m_Mo_value.2.1 22 = .ok (.aload_n 0, 1) := by decide +kernel
theorem d_Mo_value_23 : decode m_Mo_value.2.1 23 = .ok (.getfield 16, 3) := by decide +kernel
theorem d_Mo_value_26 : decode m_Mo_value.2.1 26 = .ok (.iload 5, 2) := by decide +kernel
theorem d_Mo_value_28 : decode m_Mo_value.2.1 28 = .ok (.iaload, 1) := by decide +kernel
theorem d_Mo_value_29 : decode m_Mo_value.2.1 29 = .ok (.invokestatic 133, 3) := by decide +kernel
theorem d_Mo_value_32 : decode m_Mo_value.2.1 32 = .ok (.istore 6, 2) := by decide +kernel
theorem d_Mo_value_34 : decode m_Mo_value.2.1 34 = .ok (.iload 4, 2) := by decide +kernel
theorem d_Mo_value_36 : decode m_Mo_value.2.1 36 = .ok (.ifCond .eq 13, 3) := by decide +kernel
theorem d_Mo_value_39 : decode m_Mo_value.2.1 39 = .ok (.aload_n 0, 1) := by decide +kernel
theorem d_Mo_value_40 : decode m_Mo_value.2.1 40 = .ok (.getfield 16, 3) := by decide +kernel
theorem d_Mo_value_43 : decode m_Mo_value.2.1 43 = .ok (.iload 5, 2) := by decide +kernel
theorem d_Mo_value_45 : decode m_Mo_value.2.1 45 = .ok (.iaload, 1) := by decide +kernel
theorem d_Mo_value_46 : decode m_Mo_value.2.1 46 = .ok (.goto 21, 3) := by decide +kernel
theorem d_Mo_value_49 : decode m_Mo_value.2.1 49 = .ok (.aload_n 0, 1) := by decide +kernel
theorem d_Mo_value_50 : decode m_Mo_value.2.1 50 = .ok (.getfield 13, 3) := by decide +kernel
theorem d_Mo_value_53 : decode m_Mo_value.2.1 53 = .ok (.iload 5, 2) := by decide +kernel
theorem d_Mo_value_55 : decode m_Mo_value.2.1 55 = .ok (.iaload, 1) := by decide +kernel
theorem d_Mo_value_56 : decode m_Mo_value.2.1 56 = .ok (.aload_n 0, 1) := by decide +kernel
theorem d_Mo_value_57 : decode m_Mo_value.2.1 57 = .ok (.getfield 16, 3) := by decide +kernel
theorem d_Mo_value_60 : decode m_Mo_value.2.1 60 = .ok (.iload 5, 2) := by decide +kernel
theorem d_Mo_value_62 : decode m_Mo_value.2.1 62 = .ok (.iaload, 1) := by decide +kernel
theorem d_Mo_value_63 : decode m_Mo_value.2.1 63 = .ok (.iload_n 2, 1) := by decide +kernel
theorem d_Mo_value_64 : decode m_Mo_value.2.1 64 = .ok (.invokestatic 175, 3) := by decide +kernel
theorem d_Mo_value_67 : decode m_Mo_value.2.1 67 = .ok (.istore 7, 2) := by decide +kernel
theorem d_Mo_value_69 : decode m_Mo_value.2.1 69 = .ok (.iload_n 3, 1) := by decide +kernel
theorem d_Mo_value_70 : decode m_Mo_value.2.1 70 = .ok (.ifCond .eq 46, 3) := by decide +kernel
theorem d_Mo_value_73 : decode m_Mo_value.2.1 73 = .ok (.aload_n 0, 1) := by decide +kernel
theorem d_Mo_value_74 : decode m_Mo_value.2.1 74 = .ok (.getfield 34, 3) := by decide +kernel
theorem d_Mo_value_77 : decode m_Mo_value.2.1 77 = .ok (.iload_n 1, 1) := by decide +kernel
theorem d_Mo_value_78 : decode m_Mo_value.2.1 78 = .ok (.baload, 1) := by decide +kernel
theorem d_Mo_value_79 : decode m_Mo_value.2.1 79 = .ok (.ifCond .ne 37, 3) := by decide +kernel
theorem d_Mo_value_82 : decode m_Mo_value.2.1 82 = .ok (.iload 6, 2) := by decide +kernel
theorem d_Mo_value_84 : decode m_Mo_value.2.1 84 = .ok (.iload 7, 2) := by decide +kernel
theorem d_Mo_value_86 : decode m_Mo_value.2.1 86 = .ok (.iload_n 2, 1) := by decide +kernel
theorem d_Mo_value_87 : decode m_Mo_value.2.1 87 = .ok (.invokestatic 178, 3) := by decide +kernel
theorem d_Mo_value_90 : decode m_Mo_value.2.1 90 = .ok (.ifCond .eq 26, 3) := by decide +kernel
theorem d_Mo_value_93 : decode m_Mo_value.2.1 93 = .ok (.aload_n 0, 1) := by decide +kernel
theorem d_Mo_value_94 : decode m_Mo_value.2.1 94 = .ok (.getfield 34, 3) := by decide +kernel
theorem d_Mo_value_97 : decode m_Mo_value.2.1 97 = .ok (.iload_n 1, 1) := by decide +kernel
theorem d_Mo_value_98 : decode m_Mo_value.2.1 98 = .ok (.iconst 1, 1) := by decide +kernel
theorem d_Mo_value_99 : decode m_Mo_value.2.1 99 = .ok (.bastore, 1) := by decide +kernel
theorem d_Mo_value_100 : decode m_Mo_value.2.1 100 = .ok (.aload_n 0, 1) := by decide +kernel
theorem d_Mo_value_101 : decode m_Mo_value.2.1 101 = .ok (.getfield 38, 3) := by decide +kernel
theorem d_Mo_value_104 : decode m_Mo_value.2.1 104 = .ok (.iload_n 1, 1) := by decide +kernel
theorem d_Mo_value_105 : decode m_Mo_value.2.1 105 = .ok (.iload 6, 2) := by decide +kernel
theorem d_Mo_value_107 : decode m_Mo_value.2.1 107 = .ok (.iastore, 1) := by decide +kernel
theorem d_Mo_value_108 : decode m_Mo_value.2.1 108 = .ok (.aload_n 0, 1) := by decide +kernel
theorem d_Mo_value_109 : decode m_Mo_value.2.1 109 = .ok (.getfield 41, 3) := by decide +kernel
theorem d_Mo_value_112 : decode m_Mo_value.2.1 112 = .ok (.iload_n 1, 1) := by decide +kernel
theorem d_Mo_value_113 : decode m_Mo_value.2.1 113 = .ok (.iload 7, 2) := by decide +kernel
theorem d_Mo_value_115 : decode m_Mo_value.2.1 115 = .ok (.iastore, 1) := by decide +kernel
theorem d_Mo_value_116 : decode m_Mo_value.2.1 116 = .ok (.return_, 1) := by decide +kernel
theorem d_Mo_witness_0 : decode m_Mo_witness.2.1 0 = .ok (.iload_n 2, 1) := by decide +kernel
theorem d_Mo_witness_1 : decode m_Mo_witness.2.1 1 = .ok (.iconst 1, 1) := by decide +kernel
theorem d_Mo_witness_2 : decode m_Mo_witness.2.1 2 = .ok (.ixor, 1) := by decide +kernel
theorem d_Mo_witness_3 : decode m_Mo_witness.2.1 3 = .ok (.istore_n 3, 1) := by decide +kernel
theorem d_Mo_witness_4 : decode m_Mo_witness.2.1 4 = .ok (.iload_n 2, 1) := by decide +kernel
theorem d_Mo_witness_5 : decode m_Mo_witness.2.1 5 = .ok (.iconst 2, 1) := by decide +kernel
theorem d_Mo_witness_6 : decode m_Mo_witness.2.1 6 = .ok (.if_icmp .ge 7, 3) := by decide +kernel
theorem d_Mo_witness_9 : decode m_Mo_witness.2.1 9 = .ok (.iconst 2, 1) := by decide +kernel
theorem d_Mo_witness_10 : decode m_Mo_witness.2.1 10 = .ok (.goto 4, 3) := by decide +kernel
theorem d_Mo_witness_13 : decode m_Mo_witness.2.1 13 = .ok (.iconst 0, 1) := by decide +kernel
theorem d_Mo_witness_14 : decode m_Mo_witness.2.1 14 = .ok (.istore 4, 2) := by decide +kernel
theorem d_Mo_witness_16 : decode m_Mo_witness.2.1 16 = .ok (.iload_n 0, 1) := by decide +kernel
theorem d_Mo_witness_17 : decode m_Mo_witness.2.1 17 = .ok (.iload_n 1, 1) := by decide +kernel
theorem d_Mo_witness_18 : decode m_Mo_witness.2.1 18 = .ok (.iload 4, 2) := by decide +kernel
theorem d_Mo_witness_20 : decode m_Mo_witness.2.1 20 = .ok (.invokestatic 120, 3) := by decide +kernel
theorem d_Mo_witness_23 : decode m_Mo_witness.2.1 23 = .ok (.iload 4, 2) := by decide +kernel
theorem d_Mo_witness_25 : decode m_Mo_witness.2.1 25 = .ok (.invokestatic 124, 3) := by decide +kernel
theorem d_Mo_witness_28 : decode m_Mo_witness.2.1 28 = .ok (.iload_n 0, 1) := by decide +kernel
theorem d_Mo_witness_29 : decode m_Mo_witness.2.1 29 = .ok (.iload_n 1, 1) := by decide +kernel
theorem d_Mo_witness_30 : decode m_Mo_witness.2.1 30 = .ok (.iload 4, 2) := by decide +kernel
theorem d_Mo_witness_32 : decode m_Mo_witness.2.1 32 = .ok (.iconst 1, 1) := by decide +kernel
theorem d_Mo_witness_33 : decode m_Mo_witness.2.1 33 = .ok (.iadd, 1) := by decide +kernel
theorem d_Mo_witness_34 : decode m_Mo_witness.2.1 34 = .ok (.invokestatic 120, 3) := by decide +kernel
theorem d_Mo_witness_37 : decode m_Mo_witness.2.1 37 = .ok (.iload 4, 2) := by decide +kernel
theorem d_Mo_witness_39 : decode m_Mo_witness.2.1 39 = .ok (.iconst 1, 1) := by decide +kernel
theorem d_Mo_witness_40 : decode m_Mo_witness.2.1 40 = .ok (.iadd, 1) := by decide +kernel
theorem d_Mo_witness_41 : decode m_Mo_witness.2.1 41 = .ok (.invokestatic 124, 3) := by decide +kernel
theorem d_Mo_witness_44 : decode m_Mo_witness.2.1 44 = .ok (.invokestatic 127, 3) := by decide +kernel
theorem d_Mo_witness_47 : decode m_Mo_witness.2.1 47 = .ok (.istore 5, 2) := by decide +kernel
theorem d_Mo_witness_49 : decode m_Mo_witness.2.1 49 = .ok (.iload_n 0, 1) := by decide +kernel
theorem d_Mo_witness_50 : decode m_Mo_witness.2.1 50 = .ok (.iload_n 1, 1) := by decide +kernel
theorem d_Mo_witness_51 : decode m_Mo_witness.2.1 51 = .ok (.iload_n 2, 1) := by decide +kernel
theorem d_Mo_witness_52 : decode m_Mo_witness.2.1 52 = .ok (.invokestatic 120, 3) := by decide +kernel
theorem d_Mo_witness_55 : decode m_Mo_witness.2.1 55 = .ok (.sipush 256, 3) := by decide +kernel
theorem d_Mo_witness_58 : decode m_Mo_witness.2.1 58 = .ok (.iload_n 0, 1) := by decide +kernel
theorem d_Mo_witness_59 : decode m_Mo_witness.2.1 59 = .ok (.iload_n 1, 1) := by decide +kernel
theorem d_Mo_witness_60 : decode m_Mo_witness.2.1 60 = .ok (.iload_n 3, 1) := by decide +kernel
theorem d_Mo_witness_61 : decode m_Mo_witness.2.1 61 = .ok (.invokestatic 120, 3) := by decide +kernel
theorem d_Mo_witness_64 : decode m_Mo_witness.2.1 64 = .ok (.iload_n 3, 1) := by decide +kernel
theorem d_Mo_witness_65 : decode m_Mo_witness.2.1 65 = .ok (.invokestatic 124, 3) := by decide +kernel
theorem d_Mo_witness_68 : decode m_Mo_witness.2.1 68 = .ok (.imul, 1) := by decide +kernel
theorem d_Mo_witness_69 : decode m_Mo_witness.2.1 69 = .ok (.iadd, 1) := by decide +kernel
theorem d_Mo_witness_70 : decode m_Mo_witness.2.1 70 = .ok (.ldc 118, 2) := by decide +kernel
theorem d_Mo_witness_72 : decode m_Mo_witness.2.1 72 = .ok (.iload 5, 2) := by decide +kernel
theorem d_Mo_witness_74 : decode m_Mo_witness.2.1 74 = .ok (.imul, 1) := by decide +kernel
theorem d_Mo_witness_75 : decode m_Mo_witness.2.1 75 = .ok (.iadd, 1) := by decide +kernel
theorem d_Mo_witness_76 : decode m_Mo_witness.2.1 76 = .ok (.ireturn, 1) := by decide +kernel
theorem d_Mo_right_0 : decode m_Mo_right.2.1 0 = .ok (.iload_n 1, 1) := by decide +kernel
theorem d_Mo_right_1 : decode m_Mo_right.2.1 1 = .ok (.sipush 255, 3) := by decide +kernel
theorem d_Mo_right_4 : decode m_Mo_right.2.1 4 = .ok (.iand, 1) := by decide +kernel
theorem d_Mo_right_5 : decode m_Mo_right.2.1 5 = .ok (.iload_n 2, 1) := by decide +kernel
theorem d_Mo_right_6 : decode m_Mo_right.2.1 6 = .ok (.invokestatic 124, 3) := by decide +kernel
theorem d_Mo_right_9 : decode m_Mo_right.2.1 9 = .ok (.istore_n 3, 1) := by decide +kernel
theorem d_Mo_right_10 : decode m_Mo_right.2.1 10 = .ok (.iload_n 1, 1) := by decide +kernel
theorem d_Mo_right_11 : decode m_Mo_right.2.1 11 = .ok (.bipush 8, 2) := by decide +kernel
theorem d_Mo_right_13 : decode m_Mo_right.2.1 13 = .ok (.ishr, 1) := by decide +kernel
theorem d_Mo_right_14 : decode m_Mo_right.2.1 14 = .ok (.sipush 255, 3) := by decide +kernel
theorem d_Mo_right_17 : decode m_Mo_right.2.1 17 = .ok (.iand, 1) := by decide +kernel
theorem d_Mo_right_18 : decode m_Mo_right.2.1 18 = .ok (.istore 4, 2) := by decide +kernel
theorem d_Mo_right_20 : decode m_Mo_right.2.1 20 = .ok (.iload_n 2, 1) := by decide +kernel
theorem d_Mo_right_21 : decode m_Mo_right.2.1 21 = .ok (.iconst 2, 1) := by decide +kernel
theorem d_Mo_right_22 : decode m_Mo_right.2.1 22 = .ok (.irem, 1) := by decide +kernel
theorem d_Mo_right_23 : decode m_Mo_right.2.1 23 = .ok (.ifCond .ne 12, 3) := by decide +kernel
theorem d_Mo_right_26 : decode m_Mo_right.2.1 26 = .ok (.iload_n 3, 1) := by decide +kernel
theorem d_Mo_right_27 : decode m_Mo_right.2.1 27 = .ok (.iload 4, 2) := by decide +kernel
theorem d_Mo_right_29 : decode m_Mo_right.2.1 29 = .ok (.invokestatic 127, 3) := by decide +kernel
theorem d_Mo_right_32 : decode m_Mo_right.2.1 32 = .ok (.goto 9, 3) := by decide +kernel
theorem d_Mo_right_35 : decode m_Mo_right.2.1 35 = .ok (.iload 4, 2) := by decide +kernel
theorem d_Mo_right_37 : decode m_Mo_right.2.1 37 = .ok (.iload_n 3, 1) := by decide +kernel
theorem d_Mo_right_38 : decode m_Mo_right.2.1 38 = .ok (.invokestatic 127, 3) := by decide +kernel
theorem d_Mo_right_41 : decode m_Mo_right.2.1 41 = .ok (.istore 5, 2) := by decide +kernel
theorem d_Mo_right_43 : decode m_Mo_right.2.1 43 = .ok (.iload_n 1, 1) := by decide +kernel
theorem d_Mo_right_44 : decode m_Mo_right.2.1 44 = .ok (.bipush 16, 2) := by decide +kernel
theorem d_Mo_right_46 : decode m_Mo_right.2.1 46 = .ok (.iushr, 1) := by decide +kernel
theorem d_Mo_right_47 : decode m_Mo_right.2.1 47 = .ok (.istore 6, 2) := by decide +kernel
theorem d_Mo_right_49 : decode m_Mo_right.2.1 49 = .ok (.iload_n 0, 1) := by decide +kernel
theorem d_Mo_right_50 : decode m_Mo_right.2.1 50 = .ok (.iload_n 2, 1) := by decide +kernel
theorem d_Mo_right_51 : decode m_Mo_right.2.1 51 = .ok (.iconst 2, 1) := by decide +kernel
theorem d_Mo_right_52 : decode m_Mo_right.2.1 52 = .ok (.if_icmp .ge 13, 3) := by decide +kernel
theorem d_Mo_right_55 : decode m_Mo_right.2.1 55 = .ok (.iload 5, 2) := by decide +kernel
theorem d_Mo_right_57 : decode m_Mo_right.2.1 57 = .ok (.iload 6, 2) := by decide +kernel
theorem d_Mo_right_59 : decode m_Mo_right.2.1 59 = .ok (.invokestatic 130, 3) := by decide +kernel
theorem d_Mo_right_62 : decode m_Mo_right.2.1 62 = .ok (.goto 10, 3) := by decide +kernel
theorem d_Mo_right_65 : decode m_Mo_right.2.1 65 = .ok (.iload 6, 2) := by decide +kernel
theorem d_Mo_right_67 : decode m_Mo_right.2.1 67 = .ok (.iload 5, 2) := by decide +kernel
theorem d_Mo_right_69 : decode m_Mo_right.2.1 69 = .ok (.invokestatic 130, 3) := by decide +kernel
theorem d_Mo_right_72 : decode m_Mo_right.2.1 72 = .ok (.if_icmp .ne 7, 3) := by decide +kernel
theorem d_Mo_right_75 : decode m_Mo_right.2.1 75 = .ok (.iconst 1, 1) := by decide +kernel
theorem d_Mo_right_76 : decode m_Mo_right.2.1 76 = .ok (.goto 4, 3) := by decide +kernel
theorem d_Mo_right_79 : decode m_Mo_right.2.1 79 = .ok (.iconst 0, 1) := by decide +kernel
theorem d_Mo_right_80 : decode m_Mo_right.2.1 80 = .ok (.ireturn, 1) := by decide +kernel
theorem d_Mo_answer_0 : decode m_Mo_answer.2.1 0 = .ok (.iload_n 3, 1) := by decide +kernel
theorem d_Mo_answer_1 : decode m_Mo_answer.2.1 1 = .ok (.iconst 1, 1) := by decide +kernel
theorem d_Mo_answer_2 : decode m_Mo_answer.2.1 2 = .ok (.if_icmp .ne 70, 3) := by decide +kernel
theorem d_Mo_answer_5 : decode m_Mo_answer.2.1 5 = .ok (.aload_n 0, 1) := by decide +kernel
theorem d_Mo_answer_6 : decode m_Mo_answer.2.1 6 = .ok (.getfield 44, 3) := by decide +kernel
theorem d_Mo_answer_9 : decode m_Mo_answer.2.1 9 = .ok (.iload_n 1, 1) := by decide +kernel
theorem d_Mo_answer_10 : decode m_Mo_answer.2.1 10 = .ok (.baload, 1) := by decide +kernel
theorem d_Mo_answer_11 : decode m_Mo_answer.2.1 11 = .ok (.ifCond .ne 61, 3) := by decide +kernel
theorem d_Mo_answer_14 : decode m_Mo_answer.2.1 14 = .ok (.aload_n 0, 1) := by decide +kernel
theorem d_Mo_answer_15 : decode m_Mo_answer.2.1 15 = .ok (.getfield 13, 3) := by decide +kernel
theorem d_Mo_answer_18 : decode m_Mo_answer.2.1 18 = .ok (.iload 4, 2) := by decide +kernel
theorem d_Mo_answer_20 : decode m_Mo_answer.2.1 20 = .ok (.iaload, 1) := by decide +kernel
theorem d_Mo_answer_21 : decode m_Mo_answer.2.1 21 = .ok (.aload_n 0, 1) := by decide +kernel
theorem d_Mo_answer_22 : decode m_Mo_answer.2.1 22 = .ok (.getfield 16, 3) := by decide +kernel
theorem d_Mo_answer_25 : decode m_Mo_answer.2.1 25 = .ok (.iload 4, 2) := by decide +kernel
theorem d_Mo_answer_27 : decode m_Mo_answer.2.1 27 = .ok (.iaload, 1) := by decide +kernel
theorem d_Mo_answer_28 : decode m_Mo_answer.2.1 28 = .ok (.iload_n 2, 1) := by decide +kernel
theorem d_Mo_answer_29 : decode m_Mo_answer.2.1 29 = .ok (.invokestatic 178, 3) := by decide +kernel
theorem d_Mo_answer_32 : decode m_Mo_answer.2.1 32 = .ok (.ifCond .eq 40, 3) := by decide +kernel
theorem d_Mo_answer_35 : decode m_Mo_answer.2.1 35 = .ok (.aload_n 0, 1) := by decide +kernel
theorem d_Mo_answer_36 : decode m_Mo_answer.2.1 36 = .ok (.getfield 44, 3) := by decide +kernel
theorem d_Mo_answer_39 : decode m_Mo_answer.2.1 39 = .ok (.iload_n 1, 1) := by decide +kernel
theorem d_Mo_answer_40 : decode m_Mo_answer.2.1 40 = .ok (.iconst 1, 1) := by decide +kernel
theorem d_Mo_answer_41 : decode m_Mo_answer.2.1 41 = .ok (.bastore, 1) := by decide +kernel
theorem d_Mo_answer_42 : decode m_Mo_answer.2.1 42 = .ok (.aload_n 0, 1) := by decide +kernel
theorem d_Mo_answer_43 : decode m_Mo_answer.2.1 43 = .ok (.getfield 47, 3) := by decide +kernel
theorem d_Mo_answer_46 : decode m_Mo_answer.2.1 46 = .ok (.iload_n 1, 1) := by decide +kernel
theorem d_Mo_answer_47 : decode m_Mo_answer.2.1 47 = .ok (.aload_n 0, 1) := by decide +kernel
theorem d_Mo_answer_48 : decode m_Mo_answer.2.1 48 = .ok (.getfield 13, 3) := by decide +kernel
theorem d_Mo_answer_51 : decode m_Mo_answer.2.1 51 = .ok (.iload 4, 2) := by decide +kernel
theorem d_Mo_answer_53 : decode m_Mo_answer.2.1 53 = .ok (.iaload, 1) := by decide +kernel
theorem d_Mo_answer_54 : decode m_Mo_answer.2.1 54 = .ok (.iastore, 1) := by decide +kernel
theorem d_Mo_answer_55 : decode m_Mo_answer.2.1 55 = .ok (.aload_n 0, 1) := by decide +kernel
theorem d_Mo_answer_56 : decode m_Mo_answer.2.1 56 = .ok (.getfield 50, 3) := by decide +kernel
theorem d_Mo_answer_59 : decode m_Mo_answer.2.1 59 = .ok (.iload_n 1, 1) := by decide +kernel
theorem d_Mo_answer_60 : decode m_Mo_answer.2.1 60 = .ok (.aload_n 0, 1) := by decide +kernel
theorem d_Mo_answer_61 : decode m_Mo_answer.2.1 61 = .ok (.getfield 16, 3) := by decide +kernel
theorem d_Mo_answer_64 : decode m_Mo_answer.2.1 64 = .ok (.iload 4, 2) := by decide +kernel
theorem d_Mo_answer_66 : decode m_Mo_answer.2.1 66 = .ok (.iaload, 1) := by decide +kernel
theorem d_Mo_answer_67 : decode m_Mo_answer.2.1 67 = .ok (.sipush 255, 3) := by decide +kernel
theorem d_Mo_answer_70 : decode m_Mo_answer.2.1 70 = .ok (.iand, 1) := by decide +kernel
theorem d_Mo_answer_71 : decode m_Mo_answer.2.1 71 = .ok (.iastore, 1) := by decide +kernel
theorem d_Mo_answer_72 : decode m_Mo_answer.2.1 72 = .ok (.iload_n 3, 1) := by decide +kernel
theorem d_Mo_answer_73 : decode m_Mo_answer.2.1 73 = .ok (.iconst 2, 1) := by decide +kernel
theorem d_Mo_answer_74 : decode m_Mo_answer.2.1 74 = .ok (.if_icmp .ne 32, 3) := by decide +kernel
theorem d_Mo_answer_77 : decode m_Mo_answer.2.1 77 = .ok (.aload_n 0, 1) := by decide +kernel
theorem d_Mo_answer_78 : decode m_Mo_answer.2.1 78 = .ok (.getfield 53, 3) := by decide +kernel
theorem d_Mo_answer_81 : decode m_Mo_answer.2.1 81 = .ok (.iload_n 1, 1) := by decide +kernel
theorem d_Mo_answer_82 : decode m_Mo_answer.2.1 82 = .ok (.baload, 1) := by decide +kernel
theorem d_Mo_answer_83 : decode m_Mo_answer.2.1 83 = .ok (.ifCond .ne 23, 3) := by decide +kernel
theorem d_Mo_answer_86 : decode m_Mo_answer.2.1 86 = .ok (.aload_n 0, 1) := by decide +kernel
theorem d_Mo_answer_87 : decode m_Mo_answer.2.1 87 = .ok (.getfield 53, 3) := by decide +kernel
theorem d_Mo_answer_90 : decode m_Mo_answer.2.1 90 = .ok (.iload_n 1, 1) := by decide +kernel
theorem d_Mo_answer_91 : decode m_Mo_answer.2.1 91 = .ok (.iconst 1, 1) := by decide +kernel
theorem d_Mo_answer_92 : decode m_Mo_answer.2.1 92 = .ok (.bastore, 1) := by decide +kernel
theorem d_Mo_answer_93 : decode m_Mo_answer.2.1 93 = .ok (.aload_n 0, 1) := by decide +kernel
theorem d_Mo_answer_94 : decode m_Mo_answer.2.1 94 = .ok (.getfield 56, 3) := by decide +kernel
theorem d_Mo_answer_97 : decode m_Mo_answer.2.1 97 = .ok (.iload_n 1, 1) := by decide +kernel
theorem d_Mo_answer_98 : decode m_Mo_answer.2.1 98 = .ok (.aload_n 0, 1) := by decide +kernel
theorem d_Mo_answer_99 : decode m_Mo_answer.2.1 99 = .ok (.getfield 13, 3) := by decide +kernel
theorem d_Mo_answer_102 : decode m_Mo_answer.2.1 102 = .ok (.iload 4, 2) := by decide +kernel
theorem d_Mo_answer_104 : decode m_Mo_answer.2.1 104 = .ok (.iaload, 1) := by decide +kernel
theorem d_Mo_answer_105 : decode m_Mo_answer.2.1 105 = .ok (.iastore, 1) := by decide +kernel
theorem d_Mo_answer_106 : decode m_Mo_answer.2.1 106 = .ok (.return_, 1) := by decide +kernel
theorem d_Mo_settle_0 : decode m_Mo_settle.2.1 0 = .ok (.aload_n 0, 1) := by decide +kernel
theorem d_Mo_settle_1 : decode m_Mo_settle.2.1 1 = .ok (.getfield 19, 3) := by decide +kernel
theorem d_Mo_settle_4 : decode m_Mo_settle.2.1 4 = .ok (.iload_n 1, 1) := by decide +kernel
theorem d_Mo_settle_5 : decode m_Mo_settle.2.1 5 = .ok (.iaload, 1) := by decide +kernel
theorem d_Mo_settle_6 : decode m_Mo_settle.2.1 6 = .ok (.iconst 4, 1) := by decide +kernel
theorem d_Mo_settle_7 : decode m_Mo_settle.2.1 7 = .ok (.if_icmp .ge 79, 3) := by decide +kernel
theorem d_Mo_settle_10 : decode m_Mo_settle.2.1 10 = .ok (.aload_n 0, 1) := by decide +kernel
theorem d_Mo_settle_11 : decode m_Mo_settle.2.1 11 = .ok (.getfield 165, 3) := by decide +kernel
theorem d_Mo_settle_14 : decode m_Mo_settle.2.1 14 = .ok (.ifCond .ge 11, 3) := by decide +kernel
theorem d_Mo_settle_17 : decode m_Mo_settle.2.1 17 = .ok (.aload_n 0, 1) := by decide +kernel
theorem d_Mo_settle_18 : decode m_Mo_settle.2.1 18 = .ok (.getfield 168, 3) := by decide +kernel
theorem d_Mo_settle_21 : decode m_Mo_settle.2.1 21 = .ok (.iconst 4, 1) := by decide +kernel
theorem d_Mo_settle_22 : decode m_Mo_settle.2.1 22 = .ok (.if_icmp .ge 64, 3) := by decide +kernel
theorem d_Mo_settle_25 : decode m_Mo_settle.2.1 25 = .ok (.aload_n 0, 1) := by decide +kernel
theorem d_Mo_settle_26 : decode m_Mo_settle.2.1 26 = .ok (.getfield 165, 3) := by decide +kernel
theorem d_Mo_settle_29 : decode m_Mo_settle.2.1 29 = .ok (.istore_n 2, 1) := by decide +kernel
theorem d_Mo_settle_30 : decode m_Mo_settle.2.1 30 = .ok (.iload_n 2, 1) := by decide +kernel
theorem d_Mo_settle_31 : decode m_Mo_settle.2.1 31 = .ok (.ifCond .ge 18, 3) := by decide +kernel
theorem d_Mo_settle_34 : decode m_Mo_settle.2.1 34 = .ok (.aload_n 0, 1) := by decide +kernel
theorem d_Mo_settle_35 : decode m_Mo_settle.2.1 35 = .ok (.getfield 168, 3) := by decide +kernel
theorem d_Mo_settle_38 : decode m_Mo_settle.2.1 38 = .ok (.istore_n 2, 1) := by decide +kernel
theorem d_Mo_settle_39 : decode m_Mo_settle.2.1 39 = .ok (.aload_n 0, 1) := by decide +kernel
theorem d_Mo_settle_40 : decode m_Mo_settle.2.1 40 = .ok (.dup, 1) := by decide +kernel
theorem d_Mo_settle_41 : decode m_Mo_settle.2.1 41 = .ok (.getfield 168, 3) := by decide +kernel
theorem d_Mo_settle_44 : decode m_Mo_settle.2.1 44 = .ok (.iconst 1, 1) := by decide +kernel
theorem d_Mo_settle_45 : decode m_Mo_settle.2.1 45 = .ok (.iadd, 1) := by decide +kernel
theorem d_Mo_settle_46 : decode m_Mo_settle.2.1 46 = .ok (.putfield 168, 3) := by decide +kernel
theorem d_Mo_settle_49 : decode m_Mo_settle.2.1 49 = .ok (.aload_n 0, 1) := by decide +kernel
theorem d_Mo_settle_50 : decode m_Mo_settle.2.1 50 = .ok (.iconst (-1), 1) := by decide +kernel
theorem d_Mo_settle_51 : decode m_Mo_settle.2.1 51 = .ok (.putfield 165, 3) := by decide +kernel
theorem d_Mo_settle_54 : decode m_Mo_settle.2.1 54 = .ok (.iconst 0, 1) := by decide +kernel
theorem d_Mo_settle_55 : decode m_Mo_settle.2.1 55 = .ok (.istore_n 3, 1) := by decide +kernel
theorem d_Mo_settle_56 : decode m_Mo_settle.2.1 56 = .ok (.iload_n 3, 1) := by decide +kernel
theorem d_Mo_settle_57 : decode m_Mo_settle.2.1 57 = .ok (.sipush 300, 3) := by decide +kernel
theorem d_Mo_settle_60 : decode m_Mo_settle.2.1 60 = .ok (.if_icmp .ge 18, 3) := by decide +kernel
theorem d_Mo_settle_63 : decode m_Mo_settle.2.1 63 = .ok (.aload_n 0, 1) := by decide +kernel
theorem d_Mo_settle_64 : decode m_Mo_settle.2.1 64 = .ok (.iload_n 1, 1) := by decide +kernel
theorem d_Mo_settle_65 : decode m_Mo_settle.2.1 65 = .ok (.iload_n 2, 1) := by decide +kernel
theorem d_Mo_settle_66 : decode m_Mo_settle.2.1 66 = .ok (.invokevirtual 196, 3) := by decide +kernel
theorem d_Mo_settle_69 : decode m_Mo_settle.2.1 69 = .ok (.ifCond .eq 9, 3) := by decide +kernel
theorem d_Mo_settle_72 : decode m_Mo_settle.2.1 72 = .ok (.iinc 3 1, 3) := by decide +kernel
theorem d_Mo_settle_75 : decode m_Mo_settle.2.1 75 = .ok (.goto (-19), 3) := by decide +kernel
theorem d_Mo_settle_78 : decode m_Mo_settle.2.1 78 = .ok (.aload_n 0, 1) := by decide +kernel
theorem d_Mo_settle_79 : decode m_Mo_settle.2.1 79 = .ok (.iload_n 1, 1) := by decide +kernel
theorem d_Mo_settle_80 : decode m_Mo_settle.2.1 80 = .ok (.invokevirtual 199, 3) := by decide +kernel
theorem d_Mo_settle_83 : decode m_Mo_settle.2.1 83 = .ok (.goto (-83), 3) := by decide +kernel
theorem d_Mo_settle_86 : decode m_Mo_settle.2.1 86 = .ok (.return_, 1) := by decide +kernel
theorem d_Mo_rule_0 : decode m_Mo_rule.2.1 0 = .ok (.aload_n 0, 1) := by decide +kernel
theorem d_Mo_rule_1 : decode m_Mo_rule.2.1 1 = .ok (.getfield 19, 3) := by decide +kernel
theorem d_Mo_rule_4 : decode m_Mo_rule.2.1 4 = .ok (.iload_n 1, 1) := by decide +kernel
theorem d_Mo_rule_5 : decode m_Mo_rule.2.1 5 = .ok (.iaload, 1) := by decide +kernel
theorem d_Mo_rule_6 : decode m_Mo_rule.2.1 6 = .ok (.istore_n 3, 1) := by decide +kernel
theorem d_Mo_rule_7 : decode m_Mo_rule.2.1 7 = .ok (.bipush 16, 2) := by decide +kernel
theorem d_Mo_rule_9 : decode m_Mo_rule.2.1 9 = .ok (.iload_n 1, 1) := by decide +kernel
theorem d_Mo_rule_10 : decode m_Mo_rule.2.1 10 = .ok (.imul, 1) := by decide +kernel
theorem d_Mo_rule_11 : decode m_Mo_rule.2.1 11 = .ok (.iconst 4, 1) := by decide +kernel
theorem d_Mo_rule_12 : decode m_Mo_rule.2.1 12 = .ok (.iload_n 3, 1) := by decide +kernel
theorem d_Mo_rule_13 : decode m_Mo_rule.2.1 13 = .ok (.imul, 1) := by decide +kernel
theorem d_Mo_rule_14 : decode m_Mo_rule.2.1 14 = .ok (.iadd, 1) := by decide +kernel
theorem d_Mo_rule_15 : decode m_Mo_rule.2.1 15 = .ok (.iload_n 2, 1) := by decide +kernel
theorem d_Mo_rule_16 : decode m_Mo_rule.2.1 16 = .ok (.iadd, 1) := by decide +kernel
theorem d_Mo_rule_17 : decode m_Mo_rule.2.1 17 = .ok (.istore 4, 2) := by decide +kernel
theorem d_Mo_rule_19 : decode m_Mo_rule.2.1 19 = .ok (.iconst 4, 1) := by decide +kernel
theorem d_Mo_rule_20 : decode m_Mo_rule.2.1 20 = .ok (.iload_n 1, 1) := by decide +kernel
theorem d_Mo_rule_21 : decode m_Mo_rule.2.1 21 = .ok (.imul, 1) := by decide +kernel
theorem d_Mo_rule_22 : decode m_Mo_rule.2.1 22 = .ok (.iload_n 2, 1) := by decide +kernel
theorem d_Mo_rule_23 : decode m_Mo_rule.2.1 23 = .ok (.iadd, 1) := by decide +kernel
theorem d_Mo_rule_24 : decode m_Mo_rule.2.1 24 = .ok (.istore 5, 2) := by decide +kernel
theorem d_Mo_rule_26 : decode m_Mo_rule.2.1 26 = .ok (.aload_n 0, 1) := by decide +kernel
theorem d_Mo_rule_27 : decode m_Mo_rule.2.1 27 = .ok (.getfield 34, 3) := by decide +kernel
theorem d_Mo_rule_30 : decode m_Mo_rule.2.1 30 = .ok (.iload 4, 2) := by decide +kernel
theorem d_Mo_rule_32 : decode m_Mo_rule.2.1 32 = .ok (.baload, 1) := by decide +kernel
theorem d_Mo_rule_33 : decode m_Mo_rule.2.1 33 = .ok (.ifCond .eq 46, 3) := by decide +kernel
theorem d_Mo_rule_36 : decode m_Mo_rule.2.1 36 = .ok (.aload_n 0, 1) := by decide +kernel
theorem d_Mo_rule_37 : decode m_Mo_rule.2.1 37 = .ok (.getfield 65, 3) := by decide +kernel
theorem d_Mo_rule_40 : decode m_Mo_rule.2.1 40 = .ok (.iload 4, 2) := by decide +kernel
theorem d_Mo_rule_42 : decode m_Mo_rule.2.1 42 = .ok (.baload, 1) := by decide +kernel
theorem d_Mo_rule_43 : decode m_Mo_rule.2.1 43 = .ok (.ifCond .ne 36, 3) := by decide +kernel
theorem d_Mo_rule_46 : decode m_Mo_rule.2.1 46 = .ok (.aload_n 0, 1) := by decide +kernel
theorem d_Mo_rule_47 : decode m_Mo_rule.2.1 47 = .ok (.getfield 65, 3) := by decide +kernel
theorem d_Mo_rule_50 : decode m_Mo_rule.2.1 50 = .ok (.iload 4, 2) := by decide +kernel
theorem d_Mo_rule_52 : decode m_Mo_rule.2.1 52 = .ok (.iconst 1, 1) := by decide +kernel
theorem d_Mo_rule_53 : decode m_Mo_rule.2.1 53 = .ok (.bastore, 1) := by decide +kernel
theorem d_Mo_rule_54 : decode m_Mo_rule.2.1 54 = .ok (.aload_n 0, 1) := by decide +kernel
theorem d_Mo_rule_55 : decode m_Mo_rule.2.1 55 = .ok (.iload_n 1, 1) := by decide +kernel
theorem d_Mo_rule_56 : decode m_Mo_rule.2.1 56 = .ok (.iload_n 3, 1) := by decide +kernel
theorem d_Mo_rule_57 : decode m_Mo_rule.2.1 57 = .ok (.iload_n 2, 1) := by decide +kernel
theorem d_Mo_rule_58 : decode m_Mo_rule.2.1 58 = .ok (.iconst 1, 1) := by decide +kernel
theorem d_Mo_rule_59 : decode m_Mo_rule.2.1 59 = .ok (.aload_n 0, 1) := by decide +kernel
theorem d_Mo_rule_60 : decode m_Mo_rule.2.1 60 = .ok (.getfield 38, 3) := by decide +kernel
theorem d_Mo_rule_63 : decode m_Mo_rule.2.1 63 = .ok (.iload 4, 2) := by decide +kernel
theorem d_Mo_rule_65 : decode m_Mo_rule.2.1 65 = .ok (.iaload, 1) := by decide +kernel
theorem d_Mo_rule_66 : decode m_Mo_rule.2.1 66 = .ok (.aload_n 0, 1) := by decide +kernel
theorem d_Mo_rule_67 : decode m_Mo_rule.2.1 67 = .ok (.getfield 41, 3) := by decide +kernel
theorem d_Mo_rule_70 : decode m_Mo_rule.2.1 70 = .ok (.iload 4, 2) := by decide +kernel
theorem d_Mo_rule_72 : decode m_Mo_rule.2.1 72 = .ok (.iaload, 1) := by decide +kernel
theorem d_Mo_rule_73 : decode m_Mo_rule.2.1 73 = .ok (.iconst 0, 1) := by decide +kernel
theorem d_Mo_rule_74 : decode m_Mo_rule.2.1 74 = .ok (.invokevirtual 189, 3) := by decide +kernel
theorem d_Mo_rule_77 : decode m_Mo_rule.2.1 77 = .ok (.iconst 1, 1) := by decide +kernel
theorem d_Mo_rule_78 : decode m_Mo_rule.2.1 78 = .ok (.ireturn, 1) := by decide +kernel
theorem d_Mo_rule_79 : decode m_Mo_rule.2.1 79 = .ok (.aload_n 0, 1) := by decide +kernel
theorem d_Mo_rule_80 : decode m_Mo_rule.2.1 80 = .ok (.getfield 68, 3) := by decide +kernel
theorem d_Mo_rule_83 : decode m_Mo_rule.2.1 83 = .ok (.iload 4, 2) := by decide +kernel
theorem d_Mo_rule_85 : decode m_Mo_rule.2.1 85 = .ok (.baload, 1) := by decide +kernel
theorem d_Mo_rule_86 : decode m_Mo_rule.2.1 86 = .ok (.ifCond .ne 17, 3) := by decide +kernel
theorem d_Mo_rule_89 : decode m_Mo_rule.2.1 89 = .ok (.aload_n 0, 1) := by decide +kernel
theorem d_Mo_rule_90 : decode m_Mo_rule.2.1 90 = .ok (.iload_n 1, 1) := by decide +kernel
theorem d_Mo_rule_91 : decode m_Mo_rule.2.1 91 = .ok (.iload_n 3, 1) := by decide +kernel
theorem d_Mo_rule_92 : decode m_Mo_rule.2.1 92 = .ok (.iload_n 2, 1) := by decide +kernel
theorem d_Mo_rule_93 : decode m_Mo_rule.2.1 93 = .ok (.iload 4, 2) := by decide +kernel
theorem d_Mo_rule_95 : decode m_Mo_rule.2.1 95 = .ok (.invokevirtual 202, 3) := by decide +kernel
theorem d_Mo_rule_98 : decode m_Mo_rule.2.1 98 = .ok (.ifCond .eq 5, 3) := by decide +kernel
theorem d_Mo_rule_101 : decode m_Mo_rule.2.1 101 = .ok (.iconst 1, 1) := by decide +kernel
theorem d_Mo_rule_102 : decode m_Mo_rule.2.1 102 = .ok (.ireturn, 1) := by decide +kernel
theorem d_Mo_rule_103 : decode m_Mo_rule.2.1 103 = .ok (.aload_n 0, 1) := by decide +kernel
theorem d_Mo_rule_104 : decode m_Mo_rule.2.1 104 = .ok (.getfield 77, 3) := by decide +kernel
theorem d_Mo_rule_107 : decode m_Mo_rule.2.1 107 = .ok (.iload 5, 2) := by decide +kernel
theorem d_Mo_rule_109 : decode m_Mo_rule.2.1 109 = .ok (.iaload, 1) := by decide +kernel
theorem d_Mo_rule_110 : decode m_Mo_rule.2.1 110 = .ok (.ifCond .ge 16, 3) := by decide +kernel
theorem d_Mo_rule_113 : decode m_Mo_rule.2.1 113 = .ok (.aload_n 0, 1) := by decide +kernel
theorem d_Mo_rule_114 : decode m_Mo_rule.2.1 114 = .ok (.iload 4, 2) := by decide +kernel
theorem d_Mo_rule_116 : decode m_Mo_rule.2.1 116 = .ok (.iload 5, 2) := by decide +kernel
theorem d_Mo_rule_118 : decode m_Mo_rule.2.1 118 = .ok (.invokevirtual 206, 3) := by decide +kernel
theorem d_Mo_rule_121 : decode m_Mo_rule.2.1 121 = .ok (.ifCond .eq 5, 3) := by decide +kernel
theorem d_Mo_rule_124 : decode m_Mo_rule.2.1 124 = .ok (.iconst 1, 1) := by decide +kernel
theorem d_Mo_rule_125 : decode m_Mo_rule.2.1 125 = .ok (.ireturn, 1) := by decide +kernel
theorem d_Mo_rule_126 : decode m_Mo_rule.2.1 126 = .ok (.aload_n 0, 1) := by decide +kernel
theorem d_Mo_rule_127 : decode m_Mo_rule.2.1 127 = .ok (.getfield 77, 3) := by decide +kernel
theorem d_Mo_rule_130 : decode m_Mo_rule.2.1 130 = .ok (.iload 5, 2) := by decide +kernel
theorem d_Mo_rule_132 : decode m_Mo_rule.2.1 132 = .ok (.iaload, 1) := by decide +kernel
theorem d_Mo_rule_133 : decode m_Mo_rule.2.1 133 = .ok (.ifCond .lt 31, 3) := by decide +kernel
theorem d_Mo_rule_136 : decode m_Mo_rule.2.1 136 = .ok (.aload_n 0, 1) := by decide +kernel
theorem d_Mo_rule_137 : decode m_Mo_rule.2.1 137 = .ok (.getfield 80, 3) := by decide +kernel
theorem d_Mo_rule_140 : decode m_Mo_rule.2.1 140 = .ok (.iload 5, 2) := by decide +kernel
theorem d_Mo_rule_142 : decode m_Mo_rule.2.1 142 = .ok (.baload, 1) := by decide +kernel
theorem d_Mo_rule_143 : decode m_Mo_rule.2.1 143 = .ok (.ifCond .ne 21, 3) := by decide +kernel
theorem d_Mo_rule_146 : decode m_Mo_rule.2.1 146 = .ok (.aload_n 0, 1) := by decide +kernel
theorem d_Mo_rule_147 : decode m_Mo_rule.2.1 147 = .ok (.getfield 80, 3) := by decide +kernel
theorem d_Mo_rule_150 : decode m_Mo_rule.2.1 150 = .ok (.iload 5, 2) := by decide +kernel
theorem d_Mo_rule_152 : decode m_Mo_rule.2.1 152 = .ok (.iconst 1, 1) := by decide +kernel
theorem d_Mo_rule_153 : decode m_Mo_rule.2.1 153 = .ok (.bastore, 1) := by decide +kernel
theorem d_Mo_rule_154 : decode m_Mo_rule.2.1 154 = .ok (.aload_n 0, 1) := by decide +kernel
theorem d_Mo_rule_155 : decode m_Mo_rule.2.1 155 = .ok (.getfield 83, 3) := by decide +kernel
theorem d_Mo_rule_158 : decode m_Mo_rule.2.1 158 = .ok (.iload 5, 2) := by decide +kernel
theorem d_Mo_rule_160 : decode m_Mo_rule.2.1 160 = .ok (.iconst 1, 1) := by decide +kernel
theorem d_Mo_rule_161 : decode m_Mo_rule.2.1 161 = .ok (.iastore, 1) := by decide +kernel
theorem d_Mo_rule_162 : decode m_Mo_rule.2.1 162 = .ok (.iconst 1, 1) := by decide +kernel
theorem d_Mo_rule_163 : decode m_Mo_rule.2.1 163 = .ok (.ireturn, 1) := by decide +kernel
theorem d_Mo_rule_164 : decode m_Mo_rule.2.1 164 = .ok (.aload_n 0, 1) := by decide +kernel
theorem d_Mo_rule_165 : decode m_Mo_rule.2.1 165 = .ok (.getfield 80, 3) := by decide +kernel
theorem d_Mo_rule_168 : decode m_Mo_rule.2.1 168 = .ok (.iload 5, 2) := by decide +kernel
theorem d_Mo_rule_170 : decode m_Mo_rule.2.1 170 = .ok (.baload, 1) := by decide +kernel
theorem d_Mo_rule_171 : decode m_Mo_rule.2.1 171 = .ok (.ifCond .eq 31, 3) := by decide +kernel
theorem d_Mo_rule_174 : decode m_Mo_rule.2.1 174 = .ok (.aload_n 0, 1) := by decide +kernel
theorem d_Mo_rule_175 : decode m_Mo_rule.2.1 175 = .ok (.getfield 98, 3) := by decide +kernel
theorem d_Mo_rule_178 : decode m_Mo_rule.2.1 178 = .ok (.iload 5, 2) := by decide +kernel
theorem d_Mo_rule_180 : decode m_Mo_rule.2.1 180 = .ok (.baload, 1) := by decide +kernel
theorem d_Mo_rule_181 : decode m_Mo_rule.2.1 181 = .ok (.ifCond .ne 21, 3) := by decide +kernel
theorem d_Mo_rule_184 : decode m_Mo_rule.2.1 184 = .ok (.aload_n 0, 1) := by decide +kernel
theorem d_Mo_rule_185 : decode m_Mo_rule.2.1 185 = .ok (.iload_n 1, 1) := by decide +kernel
theorem d_Mo_rule_186 : decode m_Mo_rule.2.1 186 = .ok (.iload_n 3, 1) := by decide +kernel
theorem d_Mo_rule_187 : decode m_Mo_rule.2.1 187 = .ok (.iload_n 2, 1) := by decide +kernel
theorem d_Mo_rule_188 : decode m_Mo_rule.2.1 188 = .ok (.iload 4, 2) := by decide +kernel
theorem d_Mo_rule_190 : decode m_Mo_rule.2.1 190 = .ok (.iload 5, 2) := by decide +kernel
theorem d_Mo_rule_192 : decode m_Mo_rule.2.1 192 = .ok (.invokevirtual 209, 3) := by decide +kernel
theorem d_Mo_rule_195 : decode m_Mo_rule.2.1 195 = .ok (.ifCond .eq 7, 3) := by decide +kernel
theorem d_Mo_rule_198 : decode m_Mo_rule.2.1 198 = .ok (.iconst 1, 1) := by decide +kernel
theorem d_Mo_rule_199 : decode m_Mo_rule.2.1 199 = .ok (.goto 4, 3) := by decide +kernel
theorem d_Mo_rule_202 : decode m_Mo_rule.2.1 202 = .ok (.iconst 0, 1) := by decide +kernel
theorem d_Mo_rule_203 : decode m_Mo_rule.2.1 203 = .ok (.ireturn, 1) := by decide +kernel
theorem d_Mo_post_0 : decode m_Mo_post.2.1 0 = .ok (.aload_n 0, 1) := by decide +kernel
theorem d_Mo_post_1 : decode m_Mo_post.2.1 1 = .ok (.getfield 7, 3) := by decide +kernel
theorem d_Mo_post_4 : decode m_Mo_post.2.1 4 = .ok (.aload_n 0, 1) := by decide +kernel
theorem d_Mo_post_5 : decode m_Mo_post.2.1 5 = .ok (.getfield 147, 3) := by decide +kernel
theorem d_Mo_post_8 : decode m_Mo_post.2.1 8 = .ok (.iload_n 1, 1) := by decide +kernel
theorem d_Mo_post_9 : decode m_Mo_post.2.1 9 = .ok (.iload_n 2, 1) := by decide +kernel
theorem d_Mo_post_10 : decode m_Mo_post.2.1 10 = .ok (.iconst 2, 1) := by decide +kernel
theorem d_Mo_post_11 : decode m_Mo_post.2.1 11 = .ok (.ishl, 1) := by decide +kernel
theorem d_Mo_post_12 : decode m_Mo_post.2.1 12 = .ok (.ior, 1) := by decide +kernel
theorem d_Mo_post_13 : decode m_Mo_post.2.1 13 = .ok (.iload_n 3, 1) := by decide +kernel
theorem d_Mo_post_14 : decode m_Mo_post.2.1 14 = .ok (.iconst 4, 1) := by decide +kernel
theorem d_Mo_post_15 : decode m_Mo_post.2.1 15 = .ok (.ishl, 1) := by decide +kernel
theorem d_Mo_post_16 : decode m_Mo_post.2.1 16 = .ok (.ior, 1) := by decide +kernel
theorem d_Mo_post_17 : decode m_Mo_post.2.1 17 = .ok (.iload 4, 2) := by decide +kernel
theorem d_Mo_post_19 : decode m_Mo_post.2.1 19 = .ok (.bipush 6, 2) := by decide +kernel
theorem d_Mo_post_21 : decode m_Mo_post.2.1 21 = .ok (.ishl, 1) := by decide +kernel
theorem d_Mo_post_22 : decode m_Mo_post.2.1 22 = .ok (.ior, 1) := by decide +kernel
theorem d_Mo_post_23 : decode m_Mo_post.2.1 23 = .ok (.iload 7, 2) := by decide +kernel
theorem d_Mo_post_25 : decode m_Mo_post.2.1 25 = .ok (.bipush 9, 2) := by decide +kernel
theorem d_Mo_post_27 : decode m_Mo_post.2.1 27 = .ok (.ishl, 1) := by decide +kernel
theorem d_Mo_post_28 : decode m_Mo_post.2.1 28 = .ok (.ior, 1) := by decide +kernel
theorem d_Mo_post_29 : decode m_Mo_post.2.1 29 = .ok (.iastore, 1) := by decide +kernel
theorem d_Mo_post_30 : decode m_Mo_post.2.1 30 = .ok (.aload_n 0, 1) := by decide +kernel
theorem d_Mo_post_31 : decode m_Mo_post.2.1 31 = .ok (.getfield 13, 3) := by decide +kernel
theorem d_Mo_post_34 : decode m_Mo_post.2.1 34 = .ok (.aload_n 0, 1) := by decide +kernel
theorem d_Mo_post_35 : decode m_Mo_post.2.1 35 = .ok (.getfield 147, 3) := by decide +kernel
theorem d_Mo_post_38 : decode m_Mo_post.2.1 38 = .ok (.iload 5, 2) := by decide +kernel
theorem d_Mo_post_40 : decode m_Mo_post.2.1 40 = .ok (.iastore, 1) := by decide +kernel
theorem d_Mo_post_41 : decode m_Mo_post.2.1 41 = .ok (.aload_n 0, 1) := by decide +kernel
theorem d_Mo_post_42 : decode m_Mo_post.2.1 42 = .ok (.getfield 16, 3) := by decide +kernel
theorem d_Mo_post_45 : decode m_Mo_post.2.1 45 = .ok (.aload_n 0, 1) := by decide +kernel
theorem d_Mo_post_46 : decode m_Mo_post.2.1 46 = .ok (.getfield 147, 3) := by decide +kernel
theorem d_Mo_post_49 : decode m_Mo_post.2.1 49 = .ok (.iload 6, 2) := by decide +kernel
theorem d_Mo_post_51 : decode m_Mo_post.2.1 51 = .ok (.iastore, 1) := by decide +kernel
theorem d_Mo_post_52 : decode m_Mo_post.2.1 52 = .ok (.aload_n 0, 1) := by decide +kernel
theorem d_Mo_post_53 : decode m_Mo_post.2.1 53 = .ok (.dup, 1) := by decide +kernel
theorem d_Mo_post_54 : decode m_Mo_post.2.1 54 = .ok (.getfield 147, 3) := by decide +kernel
theorem d_Mo_post_57 : decode m_Mo_post.2.1 57 = .ok (.iconst 1, 1) := by decide +kernel
theorem d_Mo_post_58 : decode m_Mo_post.2.1 58 = .ok (.iadd, 1) := by decide +kernel
theorem d_Mo_post_59 : decode m_Mo_post.2.1 59 = .ok (.putfield 147, 3) := by decide +kernel
theorem d_Mo_post_62 : decode m_Mo_post.2.1 62 = .ok (.return_, 1) := by decide +kernel
theorem d_Mo_ready_0 : decode m_Mo_ready.2.1 0 = .ok (.iconst 0, 1) := by decide +kernel
theorem d_Mo_ready_1 : decode m_Mo_ready.2.1 1 = .ok (.istore 5, 2) := by decide +kernel
theorem d_Mo_ready_3 : decode m_Mo_ready.2.1 3 = .ok (.iload 5, 2) := by decide +kernel
theorem d_Mo_ready_5 : decode m_Mo_ready.2.1 5 = .ok (.iconst 4, 1) := by decide +kernel
theorem d_Mo_ready_6 : decode m_Mo_ready.2.1 6 = .ok (.if_icmp .ge 83, 3) := by decide +kernel
theorem d_Mo_ready_9 : decode m_Mo_ready.2.1 9 = .ok (.aload_n 0, 1) := by decide +kernel
theorem d_Mo_ready_10 : decode m_Mo_ready.2.1 10 = .ok (.getfield 47, 3) := by decide +kernel
theorem d_Mo_ready_13 : decode m_Mo_ready.2.1 13 = .ok (.iconst 4, 1) := by decide +kernel
theorem d_Mo_ready_14 : decode m_Mo_ready.2.1 14 = .ok (.iload 4, 2) := by decide +kernel
theorem d_Mo_ready_16 : decode m_Mo_ready.2.1 16 = .ok (.imul, 1) := by decide +kernel
theorem d_Mo_ready_17 : decode m_Mo_ready.2.1 17 = .ok (.iload 5, 2) := by decide +kernel
theorem d_Mo_ready_19 : decode m_Mo_ready.2.1 19 = .ok (.iadd, 1) := by decide +kernel
theorem d_Mo_ready_20 : decode m_Mo_ready.2.1 20 = .ok (.iaload, 1) := by decide +kernel
theorem d_Mo_ready_21 : decode m_Mo_ready.2.1 21 = .ok (.istore 6, 2) := by decide +kernel
theorem d_Mo_ready_23 : decode m_Mo_ready.2.1 23 = .ok (.aload_n 0, 1) := by decide +kernel
theorem d_Mo_ready_24 : decode m_Mo_ready.2.1 24 = .ok (.getfield 44, 3) := by decide +kernel
theorem d_Mo_ready_27 : decode m_Mo_ready.2.1 27 = .ok (.iconst 4, 1) := by decide +kernel
theorem d_Mo_ready_28 : decode m_Mo_ready.2.1 28 = .ok (.iload 4, 2) := by decide +kernel
theorem d_Mo_ready_30 : decode m_Mo_ready.2.1 30 = .ok (.imul, 1) := by decide +kernel
theorem d_Mo_ready_31 : decode m_Mo_ready.2.1 31 = .ok (.iload 5, 2) := by decide +kernel
theorem d_Mo_ready_33 : decode m_Mo_ready.2.1 33 = .ok (.iadd, 1) := by decide +kernel
theorem d_Mo_ready_34 : decode m_Mo_ready.2.1 34 = .ok (.baload, 1) := by decide +kernel
theorem d_Mo_ready_35 : decode m_Mo_ready.2.1 35 = .ok (.ifCond .eq 48, 3) := by decide +kernel
theorem d_Mo_ready_38 : decode m_Mo_ready.2.1 38 = .ok (.aload_n 0, 1) := by decide +kernel
theorem d_Mo_ready_39 : decode m_Mo_ready.2.1 39 = .ok (.iload 4, 2) := by decide +kernel
theorem d_Mo_ready_41 : decode m_Mo_ready.2.1 41 = .ok (.iload 6, 2) := by decide +kernel
theorem d_Mo_ready_43 : decode m_Mo_ready.2.1 43 = .ok (.invokevirtual 220, 3) := by decide +kernel
theorem d_Mo_ready_46 : decode m_Mo_ready.2.1 46 = .ok (.iconst 3, 1) := by decide +kernel
theorem d_Mo_ready_47 : decode m_Mo_ready.2.1 47 = .ok (.if_icmp .lt 36, 3) := by decide +kernel
theorem d_Mo_ready_50 : decode m_Mo_ready.2.1 50 = .ok (.aload_n 0, 1) := by decide +kernel
theorem d_Mo_ready_51 : decode m_Mo_ready.2.1 51 = .ok (.iload 4, 2) := by decide +kernel
theorem d_Mo_ready_53 : decode m_Mo_ready.2.1 53 = .ok (.iload 6, 2) := by decide +kernel
theorem d_Mo_ready_55 : decode m_Mo_ready.2.1 55 = .ok (.invokevirtual 223, 3) := by decide +kernel
theorem d_Mo_ready_58 : decode m_Mo_ready.2.1 58 = .ok (.ifCond .eq 25, 3) := by decide +kernel
theorem d_Mo_ready_61 : decode m_Mo_ready.2.1 61 = .ok (.aload_n 0, 1) := by decide +kernel
theorem d_Mo_ready_62 : decode m_Mo_ready.2.1 62 = .ok (.getfield 68, 3) := by decide +kernel
theorem d_Mo_ready_65 : decode m_Mo_ready.2.1 65 = .ok (.iload 4, 2) := by decide +kernel
theorem d_Mo_ready_67 : decode m_Mo_ready.2.1 67 = .ok (.iconst 1, 1) := by decide +kernel
theorem d_Mo_ready_68 : decode m_Mo_ready.2.1 68 = .ok (.bastore, 1) := by decide +kernel
theorem d_Mo_ready_69 : decode m_Mo_ready.2.1 69 = .ok (.aload_n 0, 1) := by decide +kernel
theorem d_Mo_ready_70 : decode m_Mo_ready.2.1 70 = .ok (.iload_n 1, 1) := by decide +kernel
theorem d_Mo_ready_71 : decode m_Mo_ready.2.1 71 = .ok (.iload_n 2, 1) := by decide +kernel
theorem d_Mo_ready_72 : decode m_Mo_ready.2.1 72 = .ok (.iload_n 3, 1) := by decide +kernel
theorem d_Mo_ready_73 : decode m_Mo_ready.2.1 73 = .ok (.iconst 2, 1) := by decide +kernel
theorem d_Mo_ready_74 : decode m_Mo_ready.2.1 74 = .ok (.iload 6, 2) := by decide +kernel
theorem d_Mo_ready_76 : decode m_Mo_ready.2.1 76 = .ok (.iconst 0, 1) := by decide +kernel
theorem d_Mo_ready_77 : decode m_Mo_ready.2.1 77 = .ok (.iconst 0, 1) := by decide +kernel
theorem d_Mo_ready_78 : decode m_Mo_ready.2.1 78 = .ok (.invokevirtual 189, 3) := by decide +kernel
theorem d_Mo_ready_81 : decode m_Mo_ready.2.1 81 = .ok (.iconst 1, 1) := by decide +kernel
theorem d_Mo_ready_82 : decode m_Mo_ready.2.1 82 = .ok (.ireturn, 1) := by decide +kernel
theorem d_Mo_ready_83 : decode m_Mo_ready.2.1 83 = .ok (.iinc 5 1, 3) := by decide +kernel
theorem d_Mo_ready_86 : decode m_Mo_ready.2.1 86 = .ok (.goto (-83), 3) := by decide +kernel
theorem d_Mo_ready_89 : decode m_Mo_ready.2.1 89 = .ok (.iconst 0, 1) := by decide +kernel
theorem d_Mo_ready_90 : decode m_Mo_ready.2.1 90 = .ok (.istore 5, 2) := by decide +kernel
theorem d_Mo_ready_92 : decode m_Mo_ready.2.1 92 = .ok (.iload 5, 2) := by decide +kernel
theorem d_Mo_ready_94 : decode m_Mo_ready.2.1 94 = .ok (.iconst 4, 1) := by decide +kernel
theorem d_Mo_ready_95 : decode m_Mo_ready.2.1 95 = .ok (.if_icmp .ge 72, 3) := by decide +kernel
theorem d_Mo_ready_98 : decode m_Mo_ready.2.1 98 = .ok (.aload_n 0, 1) := by decide +kernel
theorem d_Mo_ready_99 : decode m_Mo_ready.2.1 99 = .ok (.getfield 56, 3) := by decide +kernel
theorem d_Mo_ready_102 : decode m_Mo_ready.2.1 102 = .ok (.iconst 4, 1) := by decide +kernel
theorem d_Mo_ready_103 : decode m_Mo_ready.2.1 103 = .ok (.iload 4, 2) := by decide +kernel
theorem d_Mo_ready_105 : decode m_Mo_ready.2.1 105 = .ok (.imul, 1) := by decide +kernel
theorem d_Mo_ready_106 : decode m_Mo_ready.2.1 106 = .ok (.iload 5, 2) := by decide +kernel
theorem d_Mo_ready_108 : decode m_Mo_ready.2.1 108 = .ok (.iadd, 1) := by decide +kernel
theorem d_Mo_ready_109 : decode m_Mo_ready.2.1 109 = .ok (.iaload, 1) := by decide +kernel
theorem d_Mo_ready_110 : decode m_Mo_ready.2.1 110 = .ok (.istore 6, 2) := by decide +kernel
theorem d_Mo_ready_112 : decode m_Mo_ready.2.1 112 = .ok (.aload_n 0, 1) := by decide +kernel
theorem d_Mo_ready_113 : decode m_Mo_ready.2.1 113 = .ok (.getfield 53, 3) := by decide +kernel
theorem d_Mo_ready_116 : decode m_Mo_ready.2.1 116 = .ok (.iconst 4, 1) := by decide +kernel
theorem d_Mo_ready_117 : decode m_Mo_ready.2.1 117 = .ok (.iload 4, 2) := by decide +kernel
theorem d_Mo_ready_119 : decode m_Mo_ready.2.1 119 = .ok (.imul, 1) := by decide +kernel
theorem d_Mo_ready_120 : decode m_Mo_ready.2.1 120 = .ok (.iload 5, 2) := by decide +kernel
theorem d_Mo_ready_122 : decode m_Mo_ready.2.1 122 = .ok (.iadd, 1) := by decide +kernel
theorem d_Mo_ready_123 : decode m_Mo_ready.2.1 123 = .ok (.baload, 1) := by decide +kernel
theorem d_Mo_ready_124 : decode m_Mo_ready.2.1 124 = .ok (.ifCond .eq 37, 3) := by decide +kernel
theorem d_Mo_ready_127 : decode m_Mo_ready.2.1 127 = .ok (.aload_n 0, 1) := by decide +kernel
theorem d_Mo_ready_128 : decode m_Mo_ready.2.1 128 = .ok (.iload 4, 2) := by decide +kernel
theorem d_Mo_ready_130 : decode m_Mo_ready.2.1 130 = .ok (.iload 6, 2) := by decide +kernel
theorem d_Mo_ready_132 : decode m_Mo_ready.2.1 132 = .ok (.invokevirtual 226, 3) := by decide +kernel
theorem d_Mo_ready_135 : decode m_Mo_ready.2.1 135 = .ok (.iconst 2, 1) := by decide +kernel
theorem d_Mo_ready_136 : decode m_Mo_ready.2.1 136 = .ok (.if_icmp .lt 25, 3) := by decide +kernel
theorem d_Mo_ready_139 : decode m_Mo_ready.2.1 139 = .ok (.aload_n 0, 1) := by decide +kernel
theorem d_Mo_ready_140 : decode m_Mo_ready.2.1 140 = .ok (.getfield 68, 3) := by decide +kernel
theorem d_Mo_ready_143 : decode m_Mo_ready.2.1 143 = .ok (.iload 4, 2) := by decide +kernel
theorem d_Mo_ready_145 : decode m_Mo_ready.2.1 145 = .ok (.iconst 1, 1) := by decide +kernel
theorem d_Mo_ready_146 : decode m_Mo_ready.2.1 146 = .ok (.bastore, 1) := by decide +kernel
theorem d_Mo_ready_147 : decode m_Mo_ready.2.1 147 = .ok (.aload_n 0, 1) := by decide +kernel
theorem d_Mo_ready_148 : decode m_Mo_ready.2.1 148 = .ok (.iload_n 1, 1) := by decide +kernel
theorem d_Mo_ready_149 : decode m_Mo_ready.2.1 149 = .ok (.iload_n 2, 1) := by decide +kernel
theorem d_Mo_ready_150 : decode m_Mo_ready.2.1 150 = .ok (.iload_n 3, 1) := by decide +kernel
theorem d_Mo_ready_151 : decode m_Mo_ready.2.1 151 = .ok (.iconst 2, 1) := by decide +kernel
theorem d_Mo_ready_152 : decode m_Mo_ready.2.1 152 = .ok (.iload 6, 2) := by decide +kernel
theorem d_Mo_ready_154 : decode m_Mo_ready.2.1 154 = .ok (.iconst 0, 1) := by decide +kernel
theorem d_Mo_ready_155 : decode m_Mo_ready.2.1 155 = .ok (.iconst 0, 1) := by decide +kernel
theorem d_Mo_ready_156 : decode m_Mo_ready.2.1 156 = .ok (.invokevirtual 189, 3) := by decide +kernel
theorem d_Mo_ready_159 : decode m_Mo_ready.2.1 159 = .ok (.iconst 1, 1) := by decide +kernel
theorem d_Mo_ready_160 : decode m_Mo_ready.2.1 160 = .ok (.ireturn, 1) := by decide +kernel
theorem d_Mo_ready_161 : decode m_Mo_ready.2.1 161 = .ok (.iinc 5 1, 3) := by decide +kernel
theorem d_Mo_ready_164 : decode m_Mo_ready.2.1 164 = .ok (.goto (-72), 3) := by decide +kernel
theorem d_Mo_ready_167 : decode m_Mo_ready.2.1 167 = .ok (.iconst 0, 1) := by decide +kernel
theorem d_Mo_ready_168 : decode m_Mo_ready.2.1 168 = .ok (.ireturn, 1) := by decide +kernel
theorem d_Mo_echoes_0 : decode m_Mo_echoes.2.1 0 = .ok (.iconst 0, 1) := by decide +kernel
theorem d_Mo_echoes_1 : decode m_Mo_echoes.2.1 1 = .ok (.istore_n 3, 1) := by decide +kernel
theorem d_Mo_echoes_2 : decode m_Mo_echoes.2.1 2 = .ok (.iconst 0, 1) := by decide +kernel
theorem d_Mo_echoes_3 : decode m_Mo_echoes.2.1 3 = .ok (.istore 4, 2) := by decide +kernel
theorem d_Mo_echoes_5 : decode m_Mo_echoes.2.1 5 = .ok (.iload 4, 2) := by decide +kernel
theorem d_Mo_echoes_7 : decode m_Mo_echoes.2.1 7 = .ok (.iconst 4, 1) := by decide +kernel
theorem d_Mo_echoes_8 : decode m_Mo_echoes.2.1 8 = .ok (.if_icmp .ge 46, 3) := by decide +kernel
theorem d_Mo_echoes_11 : decode m_Mo_echoes.2.1 11 = .ok (.aload_n 0, 1) := by decide +kernel
theorem d_Mo_echoes_12 : decode m_Mo_echoes.2.1 12 = .ok (.getfield 44, 3) := by decide +kernel
theorem d_Mo_echoes_15 : decode m_Mo_echoes.2.1 15 = .ok (.iconst 4, 1) := by decide +kernel
theorem d_Mo_echoes_16 : decode m_Mo_echoes.2.1 16 = .ok (.iload_n 1, 1) := by decide +kernel
theorem d_Mo_echoes_17 : decode m_Mo_echoes.2.1 17 = .ok (.imul, 1) := by decide +kernel
theorem d_Mo_echoes_18 : decode m_Mo_echoes.2.1 18 = .ok (.iload 4, 2) := by decide +kernel
theorem d_Mo_echoes_20 : decode m_Mo_echoes.2.1 20 = .ok (.iadd, 1) := by decide +kernel
theorem d_Mo_echoes_21 : decode m_Mo_echoes.2.1 21 = .ok (.baload, 1) := by decide +kernel
theorem d_Mo_echoes_22 : decode m_Mo_echoes.2.1 22 = .ok (.ifCond .eq 24, 3) := by decide +kernel
theorem d_Mo_echoes_25 : decode m_Mo_echoes.2.1 25 = .ok (.aload_n 0, 1) := by decide +kernel
theorem d_Mo_echoes_26 : decode m_Mo_echoes.2.1 26 = .ok (.getfield 47, 3) := by decide +kernel
theorem d_Mo_echoes_29 : decode m_Mo_echoes.2.1 29 = .ok (.iconst 4, 1) := by decide +kernel
theorem d_Mo_echoes_30 : decode m_Mo_echoes.2.1 30 = .ok (.iload_n 1, 1) := by decide +kernel
theorem d_Mo_echoes_31 : decode m_Mo_echoes.2.1 31 = .ok (.imul, 1) := by decide +kernel
theorem d_Mo_echoes_32 : decode m_Mo_echoes.2.1 32 = .ok (.iload 4, 2) := by decide +kernel
theorem d_Mo_echoes_34 : decode m_Mo_echoes.2.1 34 = .ok (.iadd, 1) := by decide +kernel
theorem d_Mo_echoes_35 : decode m_Mo_echoes.2.1 35 = .ok (.iaload, 1) := by decide +kernel
theorem d_Mo_echoes_36 : decode m_Mo_echoes.2.1 36 = .ok (.iload_n 2, 1) := by decide +kernel
theorem d_Mo_echoes_37 : decode m_Mo_echoes.2.1 37 = .ok (.if_icmp .ne 9, 3) := by decide +kernel
theorem d_Mo_echoes_40 : decode m_Mo_echoes.2.1 40 = .ok (.iload_n 3, 1) := by decide +kernel
theorem d_Mo_echoes_41 : decode m_Mo_echoes.2.1 41 = .ok (.iconst 1, 1) := by decide +kernel
theorem d_Mo_echoes_42 : decode m_Mo_echoes.2.1 42 = .ok (.iadd, 1) := by decide +kernel
theorem d_Mo_echoes_43 : decode m_Mo_echoes.2.1 43 = .ok (.goto 4, 3) := by decide +kernel
theorem d_Mo_echoes_46 : decode m_Mo_echoes.2.1 46 = .ok (.iload_n 3, 1) := by decide +kernel
theorem d_Mo_echoes_47 : decode m_Mo_echoes.2.1 47 = .ok (.istore_n 3, 1) := by decide +kernel
theorem d_Mo_echoes_48 : decode m_Mo_echoes.2.1 48 = .ok (.iinc 4 1, 3) := by decide +kernel
theorem d_Mo_echoes_51 : decode m_Mo_echoes.2.1 51 = .ok (.goto (-46), 3) := by decide +kernel
theorem d_Mo_echoes_54 : decode m_Mo_echoes.2.1 54 = .ok (.iload_n 3, 1) := by decide +kernel
theorem d_Mo_echoes_55 : decode m_Mo_echoes.2.1 55 = .ok (.ireturn, 1) := by decide +kernel
theorem d_Mo_makes_0 : decode m_Mo_makes.2.1 0 = .ok (.iconst (-1), 1) := by decide +kernel
theorem d_Mo_makes_1 : decode m_Mo_makes.2.1 1 = .ok (.istore_n 3, 1) := by decide +kernel
theorem d_Mo_makes_2 : decode m_Mo_makes.2.1 2 = .ok (.iconst (-1), 1) := by decide +kernel
theorem d_Mo_makes_3 : decode m_Mo_makes.2.1 3 = .ok (.istore 4, 2) := by decide +kernel
theorem d_Mo_makes_5 : decode m_Mo_makes.2.1 5 = .ok (.iconst 3, 1) := by decide +kernel
theorem d_Mo_makes_6 : decode m_Mo_makes.2.1 6 = .ok (.istore 5, 2) := by decide +kernel
theorem d_Mo_makes_8 : decode m_Mo_makes.2.1 8 = .ok (.iload 5, 2) := by decide +kernel
theorem d_Mo_makes_10 : decode m_Mo_makes.2.1 10 = .ok (.ifCond .lt 44, 3) := by decide +kernel
theorem d_Mo_makes_13 : decode m_Mo_makes.2.1 13 = .ok (.aload_n 0, 1) := by decide +kernel
theorem d_Mo_makes_14 : decode m_Mo_makes.2.1 14 = .ok (.getfield 44, 3) := by decide +kernel
theorem d_Mo_makes_17 : decode m_Mo_makes.2.1 17 = .ok (.iconst 4, 1) := by decide +kernel
theorem d_Mo_makes_18 : decode m_Mo_makes.2.1 18 = .ok (.iload_n 1, 1) := by decide +kernel
theorem d_Mo_makes_19 : decode m_Mo_makes.2.1 19 = .ok (.imul, 1) := by decide +kernel
theorem d_Mo_makes_20 : decode m_Mo_makes.2.1 20 = .ok (.iload 5, 2) := by decide +kernel
theorem d_Mo_makes_22 : decode m_Mo_makes.2.1 22 = .ok (.iadd, 1) := by decide +kernel
theorem d_Mo_makes_23 : decode m_Mo_makes.2.1 23 = .ok (.baload, 1) := by decide +kernel
theorem d_Mo_makes_24 : decode m_Mo_makes.2.1 24 = .ok (.ifCond .eq 24, 3) := by decide +kernel
theorem d_Mo_makes_27 : decode m_Mo_makes.2.1 27 = .ok (.aload_n 0, 1) := by decide +kernel
theorem d_Mo_makes_28 : decode m_Mo_makes.2.1 28 = .ok (.getfield 47, 3) := by decide +kernel
theorem d_Mo_makes_31 : decode m_Mo_makes.2.1 31 = .ok (.iconst 4, 1) := by decide +kernel
theorem d_Mo_makes_32 : decode m_Mo_makes.2.1 32 = .ok (.iload_n 1, 1) := by decide +kernel
theorem d_Mo_makes_33 : decode m_Mo_makes.2.1 33 = .ok (.imul, 1) := by decide +kernel
theorem d_Mo_makes_34 : decode m_Mo_makes.2.1 34 = .ok (.iload 5, 2) := by decide +kernel
theorem d_Mo_makes_36 : decode m_Mo_makes.2.1 36 = .ok (.iadd, 1) := by decide +kernel
theorem d_Mo_makes_37 : decode m_Mo_makes.2.1 37 = .ok (.iaload, 1) := by decide +kernel
theorem d_Mo_makes_38 : decode m_Mo_makes.2.1 38 = .ok (.iload_n 2, 1) := by decide +kernel
theorem d_Mo_makes_39 : decode m_Mo_makes.2.1 39 = .ok (.if_icmp .ne 9, 3) := by decide +kernel
theorem d_Mo_makes_42 : decode m_Mo_makes.2.1 42 = .ok (.iload_n 3, 1) := by decide +kernel
theorem d_Mo_makes_43 : decode m_Mo_makes.2.1 43 = .ok (.istore 4, 2) := by decide +kernel
theorem d_Mo_makes_45 : decode m_Mo_makes.2.1 45 = .ok (.iload 5, 2) := by decide +kernel
theorem d_Mo_makes_47 : decode m_Mo_makes.2.1 47 = .ok (.istore_n 3, 1) := by decide +kernel
theorem d_Mo_makes_48 : decode m_Mo_makes.2.1 48 = .ok (.iinc 5 (-1), 3) := by decide +kernel
theorem d_Mo_makes_51 : decode m_Mo_makes.2.1 51 = .ok (.goto (-43), 3) := by decide +kernel
theorem d_Mo_makes_54 : decode m_Mo_makes.2.1 54 = .ok (.iload 4, 2) := by decide +kernel
theorem d_Mo_makes_56 : decode m_Mo_makes.2.1 56 = .ok (.ifCond .ge 5, 3) := by decide +kernel
theorem d_Mo_makes_59 : decode m_Mo_makes.2.1 59 = .ok (.iconst 0, 1) := by decide +kernel
theorem d_Mo_makes_60 : decode m_Mo_makes.2.1 60 = .ok (.ireturn, 1) := by decide +kernel
theorem d_Mo_makes_61 : decode m_Mo_makes.2.1 61 = .ok (.aload_n 0, 1) := by decide +kernel
theorem d_Mo_makes_62 : decode m_Mo_makes.2.1 62 = .ok (.iload_n 3, 1) := by decide +kernel
theorem d_Mo_makes_63 : decode m_Mo_makes.2.1 63 = .ok (.aload_n 0, 1) := by decide +kernel
theorem d_Mo_makes_64 : decode m_Mo_makes.2.1 64 = .ok (.getfield 50, 3) := by decide +kernel
theorem d_Mo_makes_67 : decode m_Mo_makes.2.1 67 = .ok (.iconst 4, 1) := by decide +kernel
theorem d_Mo_makes_68 : decode m_Mo_makes.2.1 68 = .ok (.iload_n 1, 1) := by decide +kernel
theorem d_Mo_makes_69 : decode m_Mo_makes.2.1 69 = .ok (.imul, 1) := by decide +kernel
theorem d_Mo_makes_70 : decode m_Mo_makes.2.1 70 = .ok (.iload_n 3, 1) := by decide +kernel
theorem d_Mo_makes_71 : decode m_Mo_makes.2.1 71 = .ok (.iadd, 1) := by decide +kernel
theorem d_Mo_makes_72 : decode m_Mo_makes.2.1 72 = .ok (.iaload, 1) := by decide +kernel
theorem d_Mo_makes_73 : decode m_Mo_makes.2.1 73 = .ok (.iload 4, 2) := by decide +kernel
theorem d_Mo_makes_75 : decode m_Mo_makes.2.1 75 = .ok (.aload_n 0, 1) := by decide +kernel
theorem d_Mo_makes_76 : decode m_Mo_makes.2.1 76 = .ok (.getfield 50, 3) := by decide +kernel
theorem d_Mo_makes_79 : decode m_Mo_makes.2.1 79 = .ok (.iconst 4, 1) := by decide +kernel
theorem d_Mo_makes_80 : decode m_Mo_makes.2.1 80 = .ok (.iload_n 1, 1) := by decide +kernel
theorem d_Mo_makes_81 : decode m_Mo_makes.2.1 81 = .ok (.imul, 1) := by decide +kernel
theorem d_Mo_makes_82 : decode m_Mo_makes.2.1 82 = .ok (.iload 4, 2) := by decide +kernel
theorem d_Mo_makes_84 : decode m_Mo_makes.2.1 84 = .ok (.iadd, 1) := by decide +kernel
theorem d_Mo_makes_85 : decode m_Mo_makes.2.1 85 = .ok (.iaload, 1) := by decide +kernel
theorem d_Mo_makes_86 : decode m_Mo_makes.2.1 86 = .ok (.invokestatic 213, 3) := by decide +kernel
theorem d_Mo_makes_89 : decode m_Mo_makes.2.1 89 = .ok (.putfield 217, 3) := by decide +kernel
theorem d_Mo_makes_92 : decode m_Mo_makes.2.1 92 = .ok (.aload_n 0, 1) := by decide +kernel
theorem d_Mo_makes_93 : decode m_Mo_makes.2.1 93 = .ok (.getfield 217, 3) := by decide +kernel
theorem d_Mo_makes_96 : decode m_Mo_makes.2.1 96 = .ok (.sipush 255, 3) := by decide +kernel
theorem d_Mo_makes_99 : decode m_Mo_makes.2.1 99 = .ok (.iand, 1) := by decide +kernel
theorem d_Mo_makes_100 : decode m_Mo_makes.2.1 100 = .ok (.aload_n 0, 1) := by decide +kernel
theorem d_Mo_makes_101 : decode m_Mo_makes.2.1 101 = .ok (.getfield 217, 3) := by decide +kernel
theorem d_Mo_makes_104 : decode m_Mo_makes.2.1 104 = .ok (.bipush 8, 2) := by decide +kernel
theorem d_Mo_makes_106 : decode m_Mo_makes.2.1 106 = .ok (.ishr, 1) := by decide +kernel
theorem d_Mo_makes_107 : decode m_Mo_makes.2.1 107 = .ok (.invokestatic 133, 3) := by decide +kernel
theorem d_Mo_makes_110 : decode m_Mo_makes.2.1 110 = .ok (.iload_n 2, 1) := by decide +kernel
theorem d_Mo_makes_111 : decode m_Mo_makes.2.1 111 = .ok (.if_icmp .ne 7, 3) := by decide +kernel
theorem d_Mo_makes_114 : decode m_Mo_makes.2.1 114 = .ok (.iconst 1, 1) := by decide +kernel
theorem d_Mo_makes_115 : decode m_Mo_makes.2.1 115 = .ok (.goto 4, 3) := by decide +kernel
theorem d_Mo_makes_118 : decode m_Mo_makes.2.1 118 = .ok (.iconst 0, 1) := by decide +kernel
theorem d_Mo_makes_119 : decode m_Mo_makes.2.1 119 = .ok (.ireturn, 1) := by decide +kernel
theorem d_Mo_solve_0 : decode m_Mo_solve.2.1 0 = .ok (.iconst 0, 1) := by decide +kernel
theorem d_Mo_solve_1 : decode m_Mo_solve.2.1 1 = .ok (.istore 4, 2) := by decide +kernel
theorem d_Mo_solve_3 : decode m_Mo_solve.2.1 3 = .ok (.iload 4, 2) := by decide +kernel
theorem d_Mo_solve_5 : decode m_Mo_solve.2.1 5 = .ok (.sipush 255, 3) := by decide +kernel
theorem d_Mo_solve_8 : decode m_Mo_solve.2.1 8 = .ok (.if_icmp .ge 23, 3) := by decide +kernel
theorem d_Mo_solve_11 : decode m_Mo_solve.2.1 11 = .ok (.iload_n 0, 1) := by decide +kernel
theorem d_Mo_solve_12 : decode m_Mo_solve.2.1 12 = .ok (.iload_n 2, 1) := by decide +kernel
theorem d_Mo_solve_13 : decode m_Mo_solve.2.1 13 = .ok (.ixor, 1) := by decide +kernel
theorem d_Mo_solve_14 : decode m_Mo_solve.2.1 14 = .ok (.iload 4, 2) := by decide +kernel
theorem d_Mo_solve_16 : decode m_Mo_solve.2.1 16 = .ok (.invokestatic 106, 3) := by decide +kernel
theorem d_Mo_solve_19 : decode m_Mo_solve.2.1 19 = .ok (.iload_n 1, 1) := by decide +kernel
theorem d_Mo_solve_20 : decode m_Mo_solve.2.1 20 = .ok (.iload_n 3, 1) := by decide +kernel
end
section
theorem d_Mo_solve_21 : decode m_Mo_solve.2.1 21 = .ok (.ixor, 1) := by decide +kernel
theorem d_Mo_solve_22 : decode m_Mo_solve.2.1 22 = .ok (.if_icmp .eq 9, 3) := by decide +kernel
theorem d_Mo_solve_25 : decode m_Mo_solve.2.1 25 = .ok (.iinc 4 1, 3) := by decide +kernel
theorem d_Mo_solve_28 : decode m_Mo_solve.2.1 28 = .ok (.goto (-25), 3) := by decide +kernel
theorem d_Mo_solve_31 : decode m_Mo_solve.2.1 31 = .ok (.iload_n 1, 1) := by decide +kernel
theorem d_Mo_solve_32 : decode m_Mo_solve.2.1 32 = .ok (.iload_n 0, 1) := by decide +kernel
theorem d_Mo_solve_33 : decode m_Mo_solve.2.1 33 = .ok (.iload 4, 2) := by decide +kernel
theorem d_Mo_solve_35 : decode m_Mo_solve.2.1 35 = .ok (.invokestatic 106, 3) := by decide +kernel
theorem d_Mo_solve_38 : decode m_Mo_solve.2.1 38 = .ok (.ixor, 1) := by decide +kernel
theorem d_Mo_solve_39 : decode m_Mo_solve.2.1 39 = .ok (.istore 5, 2) := by decide +kernel
theorem d_Mo_solve_41 : decode m_Mo_solve.2.1 41 = .ok (.iload 5, 2) := by decide +kernel
theorem d_Mo_solve_43 : decode m_Mo_solve.2.1 43 = .ok (.sipush 256, 3) := by decide +kernel
theorem d_Mo_solve_46 : decode m_Mo_solve.2.1 46 = .ok (.iload 5, 2) := by decide +kernel
theorem d_Mo_solve_48 : decode m_Mo_solve.2.1 48 = .ok (.iload 4, 2) := by decide +kernel
theorem d_Mo_solve_50 : decode m_Mo_solve.2.1 50 = .ok (.ixor, 1) := by decide +kernel
theorem d_Mo_solve_51 : decode m_Mo_solve.2.1 51 = .ok (.imul, 1) := by decide +kernel
theorem d_Mo_solve_52 : decode m_Mo_solve.2.1 52 = .ok (.iadd, 1) := by decide +kernel
theorem d_Mo_solve_53 : decode m_Mo_solve.2.1 53 = .ok (.ireturn, 1) := by decide +kernel
theorem d_Mo_readies_0 : decode m_Mo_readies.2.1 0 = .ok (.iconst 0, 1) := by decide +kernel
theorem d_Mo_readies_1 : decode m_Mo_readies.2.1 1 = .ok (.istore_n 3, 1) := by decide +kernel
theorem d_Mo_readies_2 : decode m_Mo_readies.2.1 2 = .ok (.iconst 0, 1) := by decide +kernel
theorem d_Mo_readies_3 : decode m_Mo_readies.2.1 3 = .ok (.istore 4, 2) := by decide +kernel
theorem d_Mo_readies_5 : decode m_Mo_readies.2.1 5 = .ok (.iload 4, 2) := by decide +kernel
theorem d_Mo_readies_7 : decode m_Mo_readies.2.1 7 = .ok (.iconst 4, 1) := by decide +kernel
theorem d_Mo_readies_8 : decode m_Mo_readies.2.1 8 = .ok (.if_icmp .ge 46, 3) := by decide +kernel
theorem d_Mo_readies_11 : decode m_Mo_readies.2.1 11 = .ok (.aload_n 0, 1) := by decide +kernel
theorem d_Mo_readies_12 : decode m_Mo_readies.2.1 12 = .ok (.getfield 53, 3) := by decide +kernel
theorem d_Mo_readies_15 : decode m_Mo_readies.2.1 15 = .ok (.iconst 4, 1) := by decide +kernel
theorem d_Mo_readies_16 : decode m_Mo_readies.2.1 16 = .ok (.iload_n 1, 1) := by decide +kernel
theorem d_Mo_readies_17 : decode m_Mo_readies.2.1 17 = .ok (.imul, 1) := by decide +kernel
theorem d_Mo_readies_18 : decode m_Mo_readies.2.1 18 = .ok (.iload 4, 2) := by decide +kernel
theorem d_Mo_readies_20 : decode m_Mo_readies.2.1 20 = .ok (.iadd, 1) := by decide +kernel
theorem d_Mo_readies_21 : decode m_Mo_readies.2.1 21 = .ok (.baload, 1) := by decide +kernel
theorem d_Mo_readies_22 : decode m_Mo_readies.2.1 22 = .ok (.ifCond .eq 24, 3) := by decide +kernel
theorem d_Mo_readies_25 : decode m_Mo_readies.2.1 25 = .ok (.aload_n 0, 1) := by decide +kernel
theorem d_Mo_readies_26 : decode m_Mo_readies.2.1 26 = .ok (.getfield 56, 3) := by decide +kernel
theorem d_Mo_readies_29 : decode m_Mo_readies.2.1 29 = .ok (.iconst 4, 1) := by decide +kernel
theorem d_Mo_readies_30 : decode m_Mo_readies.2.1 30 = .ok (.iload_n 1, 1) := by decide +kernel
theorem d_Mo_readies_31 : decode m_Mo_readies.2.1 31 = .ok (.imul, 1) := by decide +kernel
theorem d_Mo_readies_32 : decode m_Mo_readies.2.1 32 = .ok (.iload 4, 2) := by decide +kernel
theorem d_Mo_readies_34 : decode m_Mo_readies.2.1 34 = .ok (.iadd, 1) := by decide +kernel
theorem d_Mo_readies_35 : decode m_Mo_readies.2.1 35 = .ok (.iaload, 1) := by decide +kernel
theorem d_Mo_readies_36 : decode m_Mo_readies.2.1 36 = .ok (.iload_n 2, 1) := by decide +kernel
theorem d_Mo_readies_37 : decode m_Mo_readies.2.1 37 = .ok (.if_icmp .ne 9, 3) := by decide +kernel
theorem d_Mo_readies_40 : decode m_Mo_readies.2.1 40 = .ok (.iload_n 3, 1) := by decide +kernel
theorem d_Mo_readies_41 : decode m_Mo_readies.2.1 41 = .ok (.iconst 1, 1) := by decide +kernel
theorem d_Mo_readies_42 : decode m_Mo_readies.2.1 42 = .ok (.iadd, 1) := by decide +kernel
theorem d_Mo_readies_43 : decode m_Mo_readies.2.1 43 = .ok (.goto 4, 3) := by decide +kernel
theorem d_Mo_readies_46 : decode m_Mo_readies.2.1 46 = .ok (.iload_n 3, 1) := by decide +kernel
theorem d_Mo_readies_47 : decode m_Mo_readies.2.1 47 = .ok (.istore_n 3, 1) := by decide +kernel
theorem d_Mo_readies_48 : decode m_Mo_readies.2.1 48 = .ok (.iinc 4 1, 3) := by decide +kernel
theorem d_Mo_readies_51 : decode m_Mo_readies.2.1 51 = .ok (.goto (-46), 3) := by decide +kernel
theorem d_Mo_readies_54 : decode m_Mo_readies.2.1 54 = .ok (.iload_n 3, 1) := by decide +kernel
theorem d_Mo_readies_55 : decode m_Mo_readies.2.1 55 = .ok (.ireturn, 1) := by decide +kernel
theorem d_Mo_proposal_0 : decode m_Mo_proposal.2.1 0 = .ok (.iconst 0, 1) := by decide +kernel
theorem d_Mo_proposal_1 : decode m_Mo_proposal.2.1 1 = .ok (.istore_n 3, 1) := by decide +kernel
theorem d_Mo_proposal_2 : decode m_Mo_proposal.2.1 2 = .ok (.iload_n 3, 1) := by decide +kernel
theorem d_Mo_proposal_3 : decode m_Mo_proposal.2.1 3 = .ok (.iconst 4, 1) := by decide +kernel
theorem d_Mo_proposal_4 : decode m_Mo_proposal.2.1 4 = .ok (.if_icmp .ge 82, 3) := by decide +kernel
theorem d_Mo_proposal_7 : decode m_Mo_proposal.2.1 7 = .ok (.aload_n 0, 1) := by decide +kernel
theorem d_Mo_proposal_8 : decode m_Mo_proposal.2.1 8 = .ok (.getfield 56, 3) := by decide +kernel
theorem d_Mo_proposal_11 : decode m_Mo_proposal.2.1 11 = .ok (.iconst 4, 1) := by decide +kernel
theorem d_Mo_proposal_12 : decode m_Mo_proposal.2.1 12 = .ok (.iload_n 1, 1) := by decide +kernel
theorem d_Mo_proposal_13 : decode m_Mo_proposal.2.1 13 = .ok (.imul, 1) := by decide +kernel
theorem d_Mo_proposal_14 : decode m_Mo_proposal.2.1 14 = .ok (.iload_n 3, 1) := by decide +kernel
theorem d_Mo_proposal_15 : decode m_Mo_proposal.2.1 15 = .ok (.iadd, 1) := by decide +kernel
theorem d_Mo_proposal_16 : decode m_Mo_proposal.2.1 16 = .ok (.iaload, 1) := by decide +kernel
theorem d_Mo_proposal_17 : decode m_Mo_proposal.2.1 17 = .ok (.istore 4, 2) := by decide +kernel
theorem d_Mo_proposal_19 : decode m_Mo_proposal.2.1 19 = .ok (.aload_n 0, 1) := by decide +kernel
theorem d_Mo_proposal_20 : decode m_Mo_proposal.2.1 20 = .ok (.getfield 53, 3) := by decide +kernel
theorem d_Mo_proposal_23 : decode m_Mo_proposal.2.1 23 = .ok (.iconst 4, 1) := by decide +kernel
theorem d_Mo_proposal_24 : decode m_Mo_proposal.2.1 24 = .ok (.iload_n 1, 1) := by decide +kernel
theorem d_Mo_proposal_25 : decode m_Mo_proposal.2.1 25 = .ok (.imul, 1) := by decide +kernel
theorem d_Mo_proposal_26 : decode m_Mo_proposal.2.1 26 = .ok (.iload_n 3, 1) := by decide +kernel
theorem d_Mo_proposal_27 : decode m_Mo_proposal.2.1 27 = .ok (.iadd, 1) := by decide +kernel
theorem d_Mo_proposal_28 : decode m_Mo_proposal.2.1 28 = .ok (.baload, 1) := by decide +kernel
theorem d_Mo_proposal_29 : decode m_Mo_proposal.2.1 29 = .ok (.ifCond .eq 51, 3) := by decide +kernel
theorem d_Mo_proposal_32 : decode m_Mo_proposal.2.1 32 = .ok (.aload_n 0, 1) := by decide +kernel
theorem d_Mo_proposal_33 : decode m_Mo_proposal.2.1 33 = .ok (.iload_n 1, 1) := by decide +kernel
theorem d_Mo_proposal_34 : decode m_Mo_proposal.2.1 34 = .ok (.iload 4, 2) := by decide +kernel
theorem d_Mo_proposal_36 : decode m_Mo_proposal.2.1 36 = .ok (.invokevirtual 226, 3) := by decide +kernel
theorem d_Mo_proposal_39 : decode m_Mo_proposal.2.1 39 = .ok (.iconst 3, 1) := by decide +kernel
theorem d_Mo_proposal_40 : decode m_Mo_proposal.2.1 40 = .ok (.if_icmp .lt 40, 3) := by decide +kernel
theorem d_Mo_proposal_43 : decode m_Mo_proposal.2.1 43 = .ok (.aload_n 0, 1) := by decide +kernel
theorem d_Mo_proposal_44 : decode m_Mo_proposal.2.1 44 = .ok (.iload_n 1, 1) := by decide +kernel
theorem d_Mo_proposal_45 : decode m_Mo_proposal.2.1 45 = .ok (.iload 4, 2) := by decide +kernel
theorem d_Mo_proposal_47 : decode m_Mo_proposal.2.1 47 = .ok (.invokevirtual 220, 3) := by decide +kernel
theorem d_Mo_proposal_50 : decode m_Mo_proposal.2.1 50 = .ok (.iconst 2, 1) := by decide +kernel
theorem d_Mo_proposal_51 : decode m_Mo_proposal.2.1 51 = .ok (.if_icmp .lt 29, 3) := by decide +kernel
theorem d_Mo_proposal_54 : decode m_Mo_proposal.2.1 54 = .ok (.aload_n 0, 1) := by decide +kernel
theorem d_Mo_proposal_55 : decode m_Mo_proposal.2.1 55 = .ok (.getfield 77, 3) := by decide +kernel
theorem d_Mo_proposal_58 : decode m_Mo_proposal.2.1 58 = .ok (.iload_n 2, 1) := by decide +kernel
theorem d_Mo_proposal_59 : decode m_Mo_proposal.2.1 59 = .ok (.aload_n 0, 1) := by decide +kernel
theorem d_Mo_proposal_60 : decode m_Mo_proposal.2.1 60 = .ok (.iload_n 1, 1) := by decide +kernel
theorem d_Mo_proposal_61 : decode m_Mo_proposal.2.1 61 = .ok (.iload 4, 2) := by decide +kernel
theorem d_Mo_proposal_63 : decode m_Mo_proposal.2.1 63 = .ok (.invokevirtual 223, 3) := by decide +kernel
theorem d_Mo_proposal_66 : decode m_Mo_proposal.2.1 66 = .ok (.ifCond .eq 10, 3) := by decide +kernel
theorem d_Mo_proposal_69 : decode m_Mo_proposal.2.1 69 = .ok (.aload_n 0, 1) := by decide +kernel
theorem d_Mo_proposal_70 : decode m_Mo_proposal.2.1 70 = .ok (.getfield 217, 3) := by decide +kernel
theorem d_Mo_proposal_73 : decode m_Mo_proposal.2.1 73 = .ok (.goto 4, 3) := by decide +kernel
theorem d_Mo_proposal_76 : decode m_Mo_proposal.2.1 76 = .ok (.iconst 0, 1) := by decide +kernel
theorem d_Mo_proposal_77 : decode m_Mo_proposal.2.1 77 = .ok (.iastore, 1) := by decide +kernel
theorem d_Mo_proposal_78 : decode m_Mo_proposal.2.1 78 = .ok (.iconst 1, 1) := by decide +kernel
theorem d_Mo_proposal_79 : decode m_Mo_proposal.2.1 79 = .ok (.ireturn, 1) := by decide +kernel
theorem d_Mo_proposal_80 : decode m_Mo_proposal.2.1 80 = .ok (.iinc 3 1, 3) := by decide +kernel
theorem d_Mo_proposal_83 : decode m_Mo_proposal.2.1 83 = .ok (.goto (-81), 3) := by decide +kernel
theorem d_Mo_proposal_86 : decode m_Mo_proposal.2.1 86 = .ok (.iconst 0, 1) := by decide +kernel
theorem d_Mo_proposal_87 : decode m_Mo_proposal.2.1 87 = .ok (.ireturn, 1) := by decide +kernel
theorem d_Mo_agree_0 : decode m_Mo_agree.2.1 0 = .ok (.aload_n 0, 1) := by decide +kernel
theorem d_Mo_agree_1 : decode m_Mo_agree.2.1 1 = .ok (.getfield 86, 3) := by decide +kernel
theorem d_Mo_agree_4 : decode m_Mo_agree.2.1 4 = .ok (.iload 5, 2) := by decide +kernel
theorem d_Mo_agree_6 : decode m_Mo_agree.2.1 6 = .ok (.iaload, 1) := by decide +kernel
theorem d_Mo_agree_7 : decode m_Mo_agree.2.1 7 = .ok (.istore 6, 2) := by decide +kernel
theorem d_Mo_agree_9 : decode m_Mo_agree.2.1 9 = .ok (.bipush 24, 2) := by decide +kernel
theorem d_Mo_agree_11 : decode m_Mo_agree.2.1 11 = .ok (.iload 4, 2) := by decide +kernel
theorem d_Mo_agree_13 : decode m_Mo_agree.2.1 13 = .ok (.imul, 1) := by decide +kernel
theorem d_Mo_agree_14 : decode m_Mo_agree.2.1 14 = .ok (.iconst 4, 1) := by decide +kernel
theorem d_Mo_agree_15 : decode m_Mo_agree.2.1 15 = .ok (.iload 6, 2) := by decide +kernel
theorem d_Mo_agree_17 : decode m_Mo_agree.2.1 17 = .ok (.imul, 1) := by decide +kernel
theorem d_Mo_agree_18 : decode m_Mo_agree.2.1 18 = .ok (.iadd, 1) := by decide +kernel
theorem d_Mo_agree_19 : decode m_Mo_agree.2.1 19 = .ok (.istore 7, 2) := by decide +kernel
theorem d_Mo_agree_21 : decode m_Mo_agree.2.1 21 = .ok (.aload_n 0, 1) := by decide +kernel
theorem d_Mo_agree_22 : decode m_Mo_agree.2.1 22 = .ok (.getfield 71, 3) := by decide +kernel
theorem d_Mo_agree_25 : decode m_Mo_agree.2.1 25 = .ok (.bipush 6, 2) := by decide +kernel
theorem d_Mo_agree_27 : decode m_Mo_agree.2.1 27 = .ok (.iload 4, 2) := by decide +kernel
theorem d_Mo_agree_29 : decode m_Mo_agree.2.1 29 = .ok (.imul, 1) := by decide +kernel
theorem d_Mo_agree_30 : decode m_Mo_agree.2.1 30 = .ok (.iload 6, 2) := by decide +kernel
theorem d_Mo_agree_32 : decode m_Mo_agree.2.1 32 = .ok (.iadd, 1) := by decide +kernel
theorem d_Mo_agree_33 : decode m_Mo_agree.2.1 33 = .ok (.iaload, 1) := by decide +kernel
theorem d_Mo_agree_34 : decode m_Mo_agree.2.1 34 = .ok (.istore 8, 2) := by decide +kernel
theorem d_Mo_agree_36 : decode m_Mo_agree.2.1 36 = .ok (.iload 8, 2) := by decide +kernel
theorem d_Mo_agree_38 : decode m_Mo_agree.2.1 38 = .ok (.aload_n 0, 1) := by decide +kernel
theorem d_Mo_agree_39 : decode m_Mo_agree.2.1 39 = .ok (.getfield 83, 3) := by decide +kernel
theorem d_Mo_agree_42 : decode m_Mo_agree.2.1 42 = .ok (.iload 5, 2) := by decide +kernel
theorem d_Mo_agree_44 : decode m_Mo_agree.2.1 44 = .ok (.iaload, 1) := by decide +kernel
theorem d_Mo_agree_45 : decode m_Mo_agree.2.1 45 = .ok (.ishr, 1) := by decide +kernel
theorem d_Mo_agree_46 : decode m_Mo_agree.2.1 46 = .ok (.iconst 1, 1) := by decide +kernel
theorem d_Mo_agree_47 : decode m_Mo_agree.2.1 47 = .ok (.iand, 1) := by decide +kernel
theorem d_Mo_agree_48 : decode m_Mo_agree.2.1 48 = .ok (.ifCond .ne 23, 3) := by decide +kernel
theorem d_Mo_agree_51 : decode m_Mo_agree.2.1 51 = .ok (.aload_n 0, 1) := by decide +kernel
theorem d_Mo_agree_52 : decode m_Mo_agree.2.1 52 = .ok (.iload_n 1, 1) := by decide +kernel
theorem d_Mo_agree_53 : decode m_Mo_agree.2.1 53 = .ok (.iload_n 2, 1) := by decide +kernel
theorem d_Mo_agree_54 : decode m_Mo_agree.2.1 54 = .ok (.iload_n 3, 1) := by decide +kernel
theorem d_Mo_agree_55 : decode m_Mo_agree.2.1 55 = .ok (.iload 4, 2) := by decide +kernel
theorem d_Mo_agree_57 : decode m_Mo_agree.2.1 57 = .ok (.iload 6, 2) := by decide +kernel
theorem d_Mo_agree_59 : decode m_Mo_agree.2.1 59 = .ok (.aload_n 0, 1) := by decide +kernel
theorem d_Mo_agree_60 : decode m_Mo_agree.2.1 60 = .ok (.getfield 83, 3) := by decide +kernel
theorem d_Mo_agree_63 : decode m_Mo_agree.2.1 63 = .ok (.iload 5, 2) := by decide +kernel
theorem d_Mo_agree_65 : decode m_Mo_agree.2.1 65 = .ok (.iaload, 1) := by decide +kernel
theorem d_Mo_agree_66 : decode m_Mo_agree.2.1 66 = .ok (.invokevirtual 229, 3) := by decide +kernel
theorem d_Mo_agree_69 : decode m_Mo_agree.2.1 69 = .ok (.iconst 1, 1) := by decide +kernel
theorem d_Mo_agree_70 : decode m_Mo_agree.2.1 70 = .ok (.ireturn, 1) := by decide +kernel
theorem d_Mo_agree_71 : decode m_Mo_agree.2.1 71 = .ok (.iconst 0, 1) := by decide +kernel
theorem d_Mo_agree_72 : decode m_Mo_agree.2.1 72 = .ok (.istore 9, 2) := by decide +kernel
theorem d_Mo_agree_74 : decode m_Mo_agree.2.1 74 = .ok (.iload 9, 2) := by decide +kernel
theorem d_Mo_agree_76 : decode m_Mo_agree.2.1 76 = .ok (.iconst 2, 1) := by decide +kernel
theorem d_Mo_agree_77 : decode m_Mo_agree.2.1 77 = .ok (.if_icmp .ge 46, 3) := by decide +kernel
theorem d_Mo_agree_80 : decode m_Mo_agree.2.1 80 = .ok (.iload 8, 2) := by decide +kernel
theorem d_Mo_agree_82 : decode m_Mo_agree.2.1 82 = .ok (.iload 9, 2) := by decide +kernel
theorem d_Mo_agree_84 : decode m_Mo_agree.2.1 84 = .ok (.ishr, 1) := by decide +kernel
theorem d_Mo_agree_85 : decode m_Mo_agree.2.1 85 = .ok (.iconst 1, 1) := by decide +kernel
theorem d_Mo_agree_86 : decode m_Mo_agree.2.1 86 = .ok (.iand, 1) := by decide +kernel
theorem d_Mo_agree_87 : decode m_Mo_agree.2.1 87 = .ok (.ifCond .ne 30, 3) := by decide +kernel
theorem d_Mo_agree_90 : decode m_Mo_agree.2.1 90 = .ok (.aload_n 0, 1) := by decide +kernel
theorem d_Mo_agree_91 : decode m_Mo_agree.2.1 91 = .ok (.iload 7, 2) := by decide +kernel
theorem d_Mo_agree_93 : decode m_Mo_agree.2.1 93 = .ok (.iload 9, 2) := by decide +kernel
theorem d_Mo_agree_95 : decode m_Mo_agree.2.1 95 = .ok (.invokevirtual 233, 3) := by decide +kernel
theorem d_Mo_agree_98 : decode m_Mo_agree.2.1 98 = .ok (.iconst 2, 1) := by decide +kernel
theorem d_Mo_agree_99 : decode m_Mo_agree.2.1 99 = .ok (.if_icmp .lt 18, 3) := by decide +kernel
theorem d_Mo_agree_102 : decode m_Mo_agree.2.1 102 = .ok (.aload_n 0, 1) := by decide +kernel
theorem d_Mo_agree_103 : decode m_Mo_agree.2.1 103 = .ok (.iload_n 1, 1) := by decide +kernel
theorem d_Mo_agree_104 : decode m_Mo_agree.2.1 104 = .ok (.iload_n 2, 1) := by decide +kernel
theorem d_Mo_agree_105 : decode m_Mo_agree.2.1 105 = .ok (.iload_n 3, 1) := by decide +kernel
theorem d_Mo_agree_106 : decode m_Mo_agree.2.1 106 = .ok (.iload 4, 2) := by decide +kernel
theorem d_Mo_agree_108 : decode m_Mo_agree.2.1 108 = .ok (.iload 6, 2) := by decide +kernel
theorem d_Mo_agree_110 : decode m_Mo_agree.2.1 110 = .ok (.iload 9, 2) := by decide +kernel
theorem d_Mo_agree_112 : decode m_Mo_agree.2.1 112 = .ok (.invokevirtual 229, 3) := by decide +kernel
theorem d_Mo_agree_115 : decode m_Mo_agree.2.1 115 = .ok (.iconst 1, 1) := by decide +kernel
theorem d_Mo_agree_116 : decode m_Mo_agree.2.1 116 = .ok (.ireturn, 1) := by decide +kernel
theorem d_Mo_agree_117 : decode m_Mo_agree.2.1 117 = .ok (.iinc 9 1, 3) := by decide +kernel
theorem d_Mo_agree_120 : decode m_Mo_agree.2.1 120 = .ok (.goto (-46), 3) := by decide +kernel
theorem d_Mo_agree_123 : decode m_Mo_agree.2.1 123 = .ok (.iconst 0, 1) := by decide +kernel
theorem d_Mo_agree_124 : decode m_Mo_agree.2.1 124 = .ok (.istore 9, 2) := by decide +kernel
theorem d_Mo_agree_126 : decode m_Mo_agree.2.1 126 = .ok (.iload 9, 2) := by decide +kernel
theorem d_Mo_agree_128 : decode m_Mo_agree.2.1 128 = .ok (.iconst 2, 1) := by decide +kernel
theorem d_Mo_agree_129 : decode m_Mo_agree.2.1 129 = .ok (.if_icmp .ge 86, 3) := by decide +kernel
theorem d_Mo_agree_132 : decode m_Mo_agree.2.1 132 = .ok (.aload_n 0, 1) := by decide +kernel
theorem d_Mo_agree_133 : decode m_Mo_agree.2.1 133 = .ok (.getfield 89, 3) := by decide +kernel
theorem d_Mo_agree_136 : decode m_Mo_agree.2.1 136 = .ok (.iload 5, 2) := by decide +kernel
theorem d_Mo_agree_138 : decode m_Mo_agree.2.1 138 = .ok (.iaload, 1) := by decide +kernel
theorem d_Mo_agree_139 : decode m_Mo_agree.2.1 139 = .ok (.iload 9, 2) := by decide +kernel
theorem d_Mo_agree_141 : decode m_Mo_agree.2.1 141 = .ok (.ishr, 1) := by decide +kernel
theorem d_Mo_agree_142 : decode m_Mo_agree.2.1 142 = .ok (.iconst 1, 1) := by decide +kernel
theorem d_Mo_agree_143 : decode m_Mo_agree.2.1 143 = .ok (.iand, 1) := by decide +kernel
theorem d_Mo_agree_144 : decode m_Mo_agree.2.1 144 = .ok (.ifCond .ne 65, 3) := by decide +kernel
theorem d_Mo_agree_147 : decode m_Mo_agree.2.1 147 = .ok (.aload_n 0, 1) := by decide +kernel
theorem d_Mo_agree_148 : decode m_Mo_agree.2.1 148 = .ok (.iload 7, 2) := by decide +kernel
theorem d_Mo_agree_150 : decode m_Mo_agree.2.1 150 = .ok (.iload 9, 2) := by decide +kernel
theorem d_Mo_agree_152 : decode m_Mo_agree.2.1 152 = .ok (.invokevirtual 233, 3) := by decide +kernel
theorem d_Mo_agree_155 : decode m_Mo_agree.2.1 155 = .ok (.iconst 3, 1) := by decide +kernel
theorem d_Mo_agree_156 : decode m_Mo_agree.2.1 156 = .ok (.if_icmp .lt 53, 3) := by decide +kernel
theorem d_Mo_agree_159 : decode m_Mo_agree.2.1 159 = .ok (.aload_n 0, 1) := by decide +kernel
theorem d_Mo_agree_160 : decode m_Mo_agree.2.1 160 = .ok (.getfield 92, 3) := by decide +kernel
theorem d_Mo_agree_163 : decode m_Mo_agree.2.1 163 = .ok (.iload 5, 2) := by decide +kernel
theorem d_Mo_agree_165 : decode m_Mo_agree.2.1 165 = .ok (.aload_n 0, 1) := by decide +kernel
theorem d_Mo_agree_166 : decode m_Mo_agree.2.1 166 = .ok (.getfield 89, 3) := by decide +kernel
theorem d_Mo_agree_169 : decode m_Mo_agree.2.1 169 = .ok (.iload 5, 2) := by decide +kernel
theorem d_Mo_agree_171 : decode m_Mo_agree.2.1 171 = .ok (.iaload, 1) := by decide +kernel
theorem d_Mo_agree_172 : decode m_Mo_agree.2.1 172 = .ok (.ifCond .ne 8, 3) := by decide +kernel
theorem d_Mo_agree_175 : decode m_Mo_agree.2.1 175 = .ok (.iload 9, 2) := by decide +kernel
theorem d_Mo_agree_177 : decode m_Mo_agree.2.1 177 = .ok (.goto 10, 3) := by decide +kernel
theorem d_Mo_agree_180 : decode m_Mo_agree.2.1 180 = .ok (.aload_n 0, 1) := by decide +kernel
theorem d_Mo_agree_181 : decode m_Mo_agree.2.1 181 = .ok (.getfield 92, 3) := by decide +kernel
theorem d_Mo_agree_184 : decode m_Mo_agree.2.1 184 = .ok (.iload 5, 2) := by decide +kernel
theorem d_Mo_agree_186 : decode m_Mo_agree.2.1 186 = .ok (.iaload, 1) := by decide +kernel
theorem d_Mo_agree_187 : decode m_Mo_agree.2.1 187 = .ok (.iastore, 1) := by decide +kernel
theorem d_Mo_agree_188 : decode m_Mo_agree.2.1 188 = .ok (.aload_n 0, 1) := by decide +kernel
theorem d_Mo_agree_189 : decode m_Mo_agree.2.1 189 = .ok (.getfield 89, 3) := by decide +kernel
theorem d_Mo_agree_192 : decode m_Mo_agree.2.1 192 = .ok (.iload 5, 2) := by decide +kernel
theorem d_Mo_agree_194 : decode m_Mo_agree.2.1 194 = .ok (.aload_n 0, 1) := by decide +kernel
theorem d_Mo_agree_195 : decode m_Mo_agree.2.1 195 = .ok (.getfield 89, 3) := by decide +kernel
theorem d_Mo_agree_198 : decode m_Mo_agree.2.1 198 = .ok (.iload 5, 2) := by decide +kernel
theorem d_Mo_agree_200 : decode m_Mo_agree.2.1 200 = .ok (.iaload, 1) := by decide +kernel
theorem d_Mo_agree_201 : decode m_Mo_agree.2.1 201 = .ok (.iconst 1, 1) := by decide +kernel
theorem d_Mo_agree_202 : decode m_Mo_agree.2.1 202 = .ok (.iload 9, 2) := by decide +kernel
theorem d_Mo_agree_204 : decode m_Mo_agree.2.1 204 = .ok (.ishl, 1) := by decide +kernel
theorem d_Mo_agree_205 : decode m_Mo_agree.2.1 205 = .ok (.ior, 1) := by decide +kernel
theorem d_Mo_agree_206 : decode m_Mo_agree.2.1 206 = .ok (.iastore, 1) := by decide +kernel
theorem d_Mo_agree_207 : decode m_Mo_agree.2.1 207 = .ok (.iconst 1, 1) := by decide +kernel
theorem d_Mo_agree_208 : decode m_Mo_agree.2.1 208 = .ok (.ireturn, 1) := by decide +kernel
theorem d_Mo_agree_209 : decode m_Mo_agree.2.1 209 = .ok (.iinc 9 1, 3) := by decide +kernel
theorem d_Mo_agree_212 : decode m_Mo_agree.2.1 212 = .ok (.goto (-86), 3) := by decide +kernel
theorem d_Mo_agree_215 : decode m_Mo_agree.2.1 215 = .ok (.aload_n 0, 1) := by decide +kernel
theorem d_Mo_agree_216 : decode m_Mo_agree.2.1 216 = .ok (.getfield 89, 3) := by decide +kernel
theorem d_Mo_agree_219 : decode m_Mo_agree.2.1 219 = .ok (.iload 5, 2) := by decide +kernel
theorem d_Mo_agree_221 : decode m_Mo_agree.2.1 221 = .ok (.iaload, 1) := by decide +kernel
theorem d_Mo_agree_222 : decode m_Mo_agree.2.1 222 = .ok (.ifCond .eq 53, 3) := by decide +kernel
theorem d_Mo_agree_225 : decode m_Mo_agree.2.1 225 = .ok (.aload_n 0, 1) := by decide +kernel
theorem d_Mo_agree_226 : decode m_Mo_agree.2.1 226 = .ok (.getfield 74, 3) := by decide +kernel
theorem d_Mo_agree_229 : decode m_Mo_agree.2.1 229 = .ok (.bipush 6, 2) := by decide +kernel
theorem d_Mo_agree_231 : decode m_Mo_agree.2.1 231 = .ok (.iload 4, 2) := by decide +kernel
theorem d_Mo_agree_233 : decode m_Mo_agree.2.1 233 = .ok (.imul, 1) := by decide +kernel
theorem d_Mo_agree_234 : decode m_Mo_agree.2.1 234 = .ok (.iload 6, 2) := by decide +kernel
theorem d_Mo_agree_236 : decode m_Mo_agree.2.1 236 = .ok (.iadd, 1) := by decide +kernel
theorem d_Mo_agree_237 : decode m_Mo_agree.2.1 237 = .ok (.baload, 1) := by decide +kernel
theorem d_Mo_agree_238 : decode m_Mo_agree.2.1 238 = .ok (.ifCond .ne 37, 3) := by decide +kernel
theorem d_Mo_agree_241 : decode m_Mo_agree.2.1 241 = .ok (.aload_n 0, 1) := by decide +kernel
theorem d_Mo_agree_242 : decode m_Mo_agree.2.1 242 = .ok (.getfield 74, 3) := by decide +kernel
theorem d_Mo_agree_245 : decode m_Mo_agree.2.1 245 = .ok (.bipush 6, 2) := by decide +kernel
theorem d_Mo_agree_247 : decode m_Mo_agree.2.1 247 = .ok (.iload 4, 2) := by decide +kernel
theorem d_Mo_agree_249 : decode m_Mo_agree.2.1 249 = .ok (.imul, 1) := by decide +kernel
theorem d_Mo_agree_250 : decode m_Mo_agree.2.1 250 = .ok (.iload 6, 2) := by decide +kernel
theorem d_Mo_agree_252 : decode m_Mo_agree.2.1 252 = .ok (.iadd, 1) := by decide +kernel
theorem d_Mo_agree_253 : decode m_Mo_agree.2.1 253 = .ok (.iconst 1, 1) := by decide +kernel
theorem d_Mo_agree_254 : decode m_Mo_agree.2.1 254 = .ok (.bastore, 1) := by decide +kernel
theorem d_Mo_agree_255 : decode m_Mo_agree.2.1 255 = .ok (.aload_n 0, 1) := by decide +kernel
theorem d_Mo_agree_256 : decode m_Mo_agree.2.1 256 = .ok (.iload_n 1, 1) := by decide +kernel
theorem d_Mo_agree_257 : decode m_Mo_agree.2.1 257 = .ok (.iload_n 2, 1) := by decide +kernel
theorem d_Mo_agree_258 : decode m_Mo_agree.2.1 258 = .ok (.iload_n 3, 1) := by decide +kernel
theorem d_Mo_agree_259 : decode m_Mo_agree.2.1 259 = .ok (.iconst 4, 1) := by decide +kernel
theorem d_Mo_agree_260 : decode m_Mo_agree.2.1 260 = .ok (.iload 6, 2) := by decide +kernel
theorem d_Mo_agree_262 : decode m_Mo_agree.2.1 262 = .ok (.aload_n 0, 1) := by decide +kernel
theorem d_Mo_agree_263 : decode m_Mo_agree.2.1 263 = .ok (.getfield 92, 3) := by decide +kernel
theorem d_Mo_agree_266 : decode m_Mo_agree.2.1 266 = .ok (.iload 5, 2) := by decide +kernel
theorem d_Mo_agree_268 : decode m_Mo_agree.2.1 268 = .ok (.iaload, 1) := by decide +kernel
theorem d_Mo_agree_269 : decode m_Mo_agree.2.1 269 = .ok (.iconst 0, 1) := by decide +kernel
theorem d_Mo_agree_270 : decode m_Mo_agree.2.1 270 = .ok (.invokevirtual 189, 3) := by decide +kernel
theorem d_Mo_agree_273 : decode m_Mo_agree.2.1 273 = .ok (.iconst 1, 1) := by decide +kernel
theorem d_Mo_agree_274 : decode m_Mo_agree.2.1 274 = .ok (.ireturn, 1) := by decide +kernel
theorem d_Mo_agree_275 : decode m_Mo_agree.2.1 275 = .ok (.aload_n 0, 1) := by decide +kernel
theorem d_Mo_agree_276 : decode m_Mo_agree.2.1 276 = .ok (.iload_n 2, 1) := by decide +kernel
theorem d_Mo_agree_277 : decode m_Mo_agree.2.1 277 = .ok (.iload_n 3, 1) := by decide +kernel
theorem d_Mo_agree_278 : decode m_Mo_agree.2.1 278 = .ok (.iload 7, 2) := by decide +kernel
theorem d_Mo_agree_280 : decode m_Mo_agree.2.1 280 = .ok (.iload 5, 2) := by decide +kernel
theorem d_Mo_agree_282 : decode m_Mo_agree.2.1 282 = .ok (.invokevirtual 236, 3) := by decide +kernel
theorem d_Mo_agree_285 : decode m_Mo_agree.2.1 285 = .ok (.ireturn, 1) := by decide +kernel
theorem d_Mo_vote_0 : decode m_Mo_vote.2.1 0 = .ok (.aload_n 0, 1) := by decide +kernel
theorem d_Mo_vote_1 : decode m_Mo_vote.2.1 1 = .ok (.getfield 71, 3) := by decide +kernel
theorem d_Mo_vote_4 : decode m_Mo_vote.2.1 4 = .ok (.bipush 6, 2) := by decide +kernel
theorem d_Mo_vote_6 : decode m_Mo_vote.2.1 6 = .ok (.iload 4, 2) := by decide +kernel
theorem d_Mo_vote_8 : decode m_Mo_vote.2.1 8 = .ok (.imul, 1) := by decide +kernel
theorem d_Mo_vote_9 : decode m_Mo_vote.2.1 9 = .ok (.iload 5, 2) := by decide +kernel
theorem d_Mo_vote_11 : decode m_Mo_vote.2.1 11 = .ok (.iadd, 1) := by decide +kernel
theorem d_Mo_vote_12 : decode m_Mo_vote.2.1 12 = .ok (.aload_n 0, 1) := by decide +kernel
theorem d_Mo_vote_13 : decode m_Mo_vote.2.1 13 = .ok (.getfield 71, 3) := by decide +kernel
theorem d_Mo_vote_16 : decode m_Mo_vote.2.1 16 = .ok (.bipush 6, 2) := by decide +kernel
theorem d_Mo_vote_18 : decode m_Mo_vote.2.1 18 = .ok (.iload 4, 2) := by decide +kernel
theorem d_Mo_vote_20 : decode m_Mo_vote.2.1 20 = .ok (.imul, 1) := by decide +kernel
theorem d_Mo_vote_21 : decode m_Mo_vote.2.1 21 = .ok (.iload 5, 2) := by decide +kernel
theorem d_Mo_vote_23 : decode m_Mo_vote.2.1 23 = .ok (.iadd, 1) := by decide +kernel
theorem d_Mo_vote_24 : decode m_Mo_vote.2.1 24 = .ok (.iaload, 1) := by decide +kernel
theorem d_Mo_vote_25 : decode m_Mo_vote.2.1 25 = .ok (.iconst 1, 1) := by decide +kernel
theorem d_Mo_vote_26 : decode m_Mo_vote.2.1 26 = .ok (.iload 6, 2) := by decide +kernel
theorem d_Mo_vote_28 : decode m_Mo_vote.2.1 28 = .ok (.ishl, 1) := by decide +kernel
theorem d_Mo_vote_29 : decode m_Mo_vote.2.1 29 = .ok (.ior, 1) := by decide +kernel
theorem d_Mo_vote_30 : decode m_Mo_vote.2.1 30 = .ok (.iastore, 1) := by decide +kernel
theorem d_Mo_vote_31 : decode m_Mo_vote.2.1 31 = .ok (.aload_n 0, 1) := by decide +kernel
theorem d_Mo_vote_32 : decode m_Mo_vote.2.1 32 = .ok (.iload_n 1, 1) := by decide +kernel
theorem d_Mo_vote_33 : decode m_Mo_vote.2.1 33 = .ok (.iload_n 2, 1) := by decide +kernel
theorem d_Mo_vote_34 : decode m_Mo_vote.2.1 34 = .ok (.iload_n 3, 1) := by decide +kernel
theorem d_Mo_vote_35 : decode m_Mo_vote.2.1 35 = .ok (.iconst 3, 1) := by decide +kernel
theorem d_Mo_vote_36 : decode m_Mo_vote.2.1 36 = .ok (.iload 5, 2) := by decide +kernel
theorem d_Mo_vote_38 : decode m_Mo_vote.2.1 38 = .ok (.iload 6, 2) := by decide +kernel
theorem d_Mo_vote_40 : decode m_Mo_vote.2.1 40 = .ok (.iconst 0, 1) := by decide +kernel
theorem d_Mo_vote_41 : decode m_Mo_vote.2.1 41 = .ok (.invokevirtual 189, 3) := by decide +kernel
theorem d_Mo_vote_44 : decode m_Mo_vote.2.1 44 = .ok (.return_, 1) := by decide +kernel
theorem d_Mo_voters_0 : decode m_Mo_voters.2.1 0 = .ok (.iconst 0, 1) := by decide +kernel
theorem d_Mo_voters_1 : decode m_Mo_voters.2.1 1 = .ok (.istore_n 3, 1) := by decide +kernel
theorem d_Mo_voters_2 : decode m_Mo_voters.2.1 2 = .ok (.iconst 0, 1) := by decide +kernel
theorem d_Mo_voters_3 : decode m_Mo_voters.2.1 3 = .ok (.istore 4, 2) := by decide +kernel
theorem d_Mo_voters_5 : decode m_Mo_voters.2.1 5 = .ok (.iload 4, 2) := by decide +kernel
theorem d_Mo_voters_7 : decode m_Mo_voters.2.1 7 = .ok (.iconst 4, 1) := by decide +kernel
theorem d_Mo_voters_8 : decode m_Mo_voters.2.1 8 = .ok (.if_icmp .ge 34, 3) := by decide +kernel
theorem d_Mo_voters_11 : decode m_Mo_voters.2.1 11 = .ok (.aload_n 0, 1) := by decide +kernel
theorem d_Mo_voters_12 : decode m_Mo_voters.2.1 12 = .ok (.getfield 59, 3) := by decide +kernel
theorem d_Mo_voters_15 : decode m_Mo_voters.2.1 15 = .ok (.iload_n 1, 1) := by decide +kernel
theorem d_Mo_voters_16 : decode m_Mo_voters.2.1 16 = .ok (.iload 4, 2) := by decide +kernel
theorem d_Mo_voters_18 : decode m_Mo_voters.2.1 18 = .ok (.iadd, 1) := by decide +kernel
theorem d_Mo_voters_19 : decode m_Mo_voters.2.1 19 = .ok (.iaload, 1) := by decide +kernel
theorem d_Mo_voters_20 : decode m_Mo_voters.2.1 20 = .ok (.iload_n 2, 1) := by decide +kernel
theorem d_Mo_voters_21 : decode m_Mo_voters.2.1 21 = .ok (.ishr, 1) := by decide +kernel
theorem d_Mo_voters_22 : decode m_Mo_voters.2.1 22 = .ok (.iconst 1, 1) := by decide +kernel
theorem d_Mo_voters_23 : decode m_Mo_voters.2.1 23 = .ok (.iand, 1) := by decide +kernel
theorem d_Mo_voters_24 : decode m_Mo_voters.2.1 24 = .ok (.iconst 1, 1) := by decide +kernel
theorem d_Mo_voters_25 : decode m_Mo_voters.2.1 25 = .ok (.if_icmp .ne 9, 3) := by decide +kernel
theorem d_Mo_voters_28 : decode m_Mo_voters.2.1 28 = .ok (.iload_n 3, 1) := by decide +kernel
theorem d_Mo_voters_29 : decode m_Mo_voters.2.1 29 = .ok (.iconst 1, 1) := by decide +kernel
theorem d_Mo_voters_30 : decode m_Mo_voters.2.1 30 = .ok (.iadd, 1) := by decide +kernel
theorem d_Mo_voters_31 : decode m_Mo_voters.2.1 31 = .ok (.goto 4, 3) := by decide +kernel
theorem d_Mo_voters_34 : decode m_Mo_voters.2.1 34 = .ok (.iload_n 3, 1) := by decide +kernel
theorem d_Mo_voters_35 : decode m_Mo_voters.2.1 35 = .ok (.istore_n 3, 1) := by decide +kernel
theorem d_Mo_voters_36 : decode m_Mo_voters.2.1 36 = .ok (.iinc 4 1, 3) := by decide +kernel
theorem d_Mo_voters_39 : decode m_Mo_voters.2.1 39 = .ok (.goto (-34), 3) := by decide +kernel
theorem d_Mo_voters_42 : decode m_Mo_voters.2.1 42 = .ok (.iload_n 3, 1) := by decide +kernel
theorem d_Mo_voters_43 : decode m_Mo_voters.2.1 43 = .ok (.ireturn, 1) := by decide +kernel
theorem d_Mo_finish_0 : decode m_Mo_finish.2.1 0 = .ok (.iconst 0, 1) := by decide +kernel
theorem d_Mo_finish_1 : decode m_Mo_finish.2.1 1 = .ok (.istore 5, 2) := by decide +kernel
theorem d_Mo_finish_3 : decode m_Mo_finish.2.1 3 = .ok (.iconst 0, 1) := by decide +kernel
theorem d_Mo_finish_4 : decode m_Mo_finish.2.1 4 = .ok (.istore 6, 2) := by decide +kernel
theorem d_Mo_finish_6 : decode m_Mo_finish.2.1 6 = .ok (.iconst 0, 1) := by decide +kernel
theorem d_Mo_finish_7 : decode m_Mo_finish.2.1 7 = .ok (.istore 7, 2) := by decide +kernel
theorem d_Mo_finish_9 : decode m_Mo_finish.2.1 9 = .ok (.iload 7, 2) := by decide +kernel
theorem d_Mo_finish_11 : decode m_Mo_finish.2.1 11 = .ok (.iconst 4, 1) := by decide +kernel
theorem d_Mo_finish_12 : decode m_Mo_finish.2.1 12 = .ok (.if_icmp .ge 83, 3) := by decide +kernel
theorem d_Mo_finish_15 : decode m_Mo_finish.2.1 15 = .ok (.aload_n 0, 1) := by decide +kernel
theorem d_Mo_finish_16 : decode m_Mo_finish.2.1 16 = .ok (.getfield 62, 3) := by decide +kernel
theorem d_Mo_finish_19 : decode m_Mo_finish.2.1 19 = .ok (.iload_n 3, 1) := by decide +kernel
theorem d_Mo_finish_20 : decode m_Mo_finish.2.1 20 = .ok (.iload 7, 2) := by decide +kernel
theorem d_Mo_finish_22 : decode m_Mo_finish.2.1 22 = .ok (.iadd, 1) := by decide +kernel
theorem d_Mo_finish_23 : decode m_Mo_finish.2.1 23 = .ok (.iaload, 1) := by decide +kernel
theorem d_Mo_finish_24 : decode m_Mo_finish.2.1 24 = .ok (.iconst 1, 1) := by decide +kernel
theorem d_Mo_finish_25 : decode m_Mo_finish.2.1 25 = .ok (.if_icmp .ne 23, 3) := by decide +kernel
theorem d_Mo_finish_28 : decode m_Mo_finish.2.1 28 = .ok (.aload_n 0, 1) := by decide +kernel
theorem d_Mo_finish_29 : decode m_Mo_finish.2.1 29 = .ok (.getfield 89, 3) := by decide +kernel
theorem d_Mo_finish_32 : decode m_Mo_finish.2.1 32 = .ok (.iload 4, 2) := by decide +kernel
theorem d_Mo_finish_34 : decode m_Mo_finish.2.1 34 = .ok (.iaload, 1) := by decide +kernel
theorem d_Mo_finish_35 : decode m_Mo_finish.2.1 35 = .ok (.iconst 1, 1) := by decide +kernel
theorem d_Mo_finish_36 : decode m_Mo_finish.2.1 36 = .ok (.iand, 1) := by decide +kernel
theorem d_Mo_finish_37 : decode m_Mo_finish.2.1 37 = .ok (.iconst 1, 1) := by decide +kernel
theorem d_Mo_finish_38 : decode m_Mo_finish.2.1 38 = .ok (.if_icmp .ne 10, 3) := by decide +kernel
theorem d_Mo_finish_41 : decode m_Mo_finish.2.1 41 = .ok (.iload 5, 2) := by decide +kernel
theorem d_Mo_finish_43 : decode m_Mo_finish.2.1 43 = .ok (.iconst 1, 1) := by decide +kernel
theorem d_Mo_finish_44 : decode m_Mo_finish.2.1 44 = .ok (.iadd, 1) := by decide +kernel
theorem d_Mo_finish_45 : decode m_Mo_finish.2.1 45 = .ok (.goto 5, 3) := by decide +kernel
theorem d_Mo_finish_48 : decode m_Mo_finish.2.1 48 = .ok (.iload 5, 2) := by decide +kernel
theorem d_Mo_finish_50 : decode m_Mo_finish.2.1 50 = .ok (.istore 5, 2) := by decide +kernel
theorem d_Mo_finish_52 : decode m_Mo_finish.2.1 52 = .ok (.aload_n 0, 1) := by decide +kernel
theorem d_Mo_finish_53 : decode m_Mo_finish.2.1 53 = .ok (.getfield 62, 3) := by decide +kernel
theorem d_Mo_finish_56 : decode m_Mo_finish.2.1 56 = .ok (.iload_n 3, 1) := by decide +kernel
theorem d_Mo_finish_57 : decode m_Mo_finish.2.1 57 = .ok (.iload 7, 2) := by decide +kernel
theorem d_Mo_finish_59 : decode m_Mo_finish.2.1 59 = .ok (.iadd, 1) := by decide +kernel
theorem d_Mo_finish_60 : decode m_Mo_finish.2.1 60 = .ok (.iaload, 1) := by decide +kernel
theorem d_Mo_finish_61 : decode m_Mo_finish.2.1 61 = .ok (.iconst 2, 1) := by decide +kernel
theorem d_Mo_finish_62 : decode m_Mo_finish.2.1 62 = .ok (.if_icmp .ne 23, 3) := by decide +kernel
theorem d_Mo_finish_65 : decode m_Mo_finish.2.1 65 = .ok (.aload_n 0, 1) := by decide +kernel
theorem d_Mo_finish_66 : decode m_Mo_finish.2.1 66 = .ok (.getfield 89, 3) := by decide +kernel
theorem d_Mo_finish_69 : decode m_Mo_finish.2.1 69 = .ok (.iload 4, 2) := by decide +kernel
theorem d_Mo_finish_71 : decode m_Mo_finish.2.1 71 = .ok (.iaload, 1) := by decide +kernel
theorem d_Mo_finish_72 : decode m_Mo_finish.2.1 72 = .ok (.iconst 2, 1) := by decide +kernel
theorem d_Mo_finish_73 : decode m_Mo_finish.2.1 73 = .ok (.iand, 1) := by decide +kernel
theorem d_Mo_finish_74 : decode m_Mo_finish.2.1 74 = .ok (.iconst 2, 1) := by decide +kernel
theorem d_Mo_finish_75 : decode m_Mo_finish.2.1 75 = .ok (.if_icmp .ne 10, 3) := by decide +kernel
theorem d_Mo_finish_78 : decode m_Mo_finish.2.1 78 = .ok (.iload 6, 2) := by decide +kernel
theorem d_Mo_finish_80 : decode m_Mo_finish.2.1 80 = .ok (.iconst 1, 1) := by decide +kernel
theorem d_Mo_finish_81 : decode m_Mo_finish.2.1 81 = .ok (.iadd, 1) := by decide +kernel
theorem d_Mo_finish_82 : decode m_Mo_finish.2.1 82 = .ok (.goto 5, 3) := by decide +kernel
theorem d_Mo_finish_85 : decode m_Mo_finish.2.1 85 = .ok (.iload 6, 2) := by decide +kernel
theorem d_Mo_finish_87 : decode m_Mo_finish.2.1 87 = .ok (.istore 6, 2) := by decide +kernel
theorem d_Mo_finish_89 : decode m_Mo_finish.2.1 89 = .ok (.iinc 7 1, 3) := by decide +kernel
theorem d_Mo_finish_92 : decode m_Mo_finish.2.1 92 = .ok (.goto (-83), 3) := by decide +kernel
theorem d_Mo_finish_95 : decode m_Mo_finish.2.1 95 = .ok (.iload 5, 2) := by decide +kernel
theorem d_Mo_finish_97 : decode m_Mo_finish.2.1 97 = .ok (.iload 6, 2) := by decide +kernel
theorem d_Mo_finish_99 : decode m_Mo_finish.2.1 99 = .ok (.iadd, 1) := by decide +kernel
theorem d_Mo_finish_100 : decode m_Mo_finish.2.1 100 = .ok (.iconst 3, 1) := by decide +kernel
theorem d_Mo_finish_101 : decode m_Mo_finish.2.1 101 = .ok (.if_icmp .ge 5, 3) := by decide +kernel
theorem d_Mo_finish_104 : decode m_Mo_finish.2.1 104 = .ok (.iconst 0, 1) := by decide +kernel
theorem d_Mo_finish_105 : decode m_Mo_finish.2.1 105 = .ok (.ireturn, 1) := by decide +kernel
theorem d_Mo_finish_106 : decode m_Mo_finish.2.1 106 = .ok (.aload_n 0, 1) := by decide +kernel
theorem d_Mo_finish_107 : decode m_Mo_finish.2.1 107 = .ok (.getfield 86, 3) := by decide +kernel
theorem d_Mo_finish_110 : decode m_Mo_finish.2.1 110 = .ok (.iload 4, 2) := by decide +kernel
theorem d_Mo_finish_112 : decode m_Mo_finish.2.1 112 = .ok (.iaload, 1) := by decide +kernel
theorem d_Mo_finish_113 : decode m_Mo_finish.2.1 113 = .ok (.istore 7, 2) := by decide +kernel
theorem d_Mo_finish_115 : decode m_Mo_finish.2.1 115 = .ok (.aload_n 0, 1) := by decide +kernel
theorem d_Mo_finish_116 : decode m_Mo_finish.2.1 116 = .ok (.iload_n 1, 1) := by decide +kernel
theorem d_Mo_finish_117 : decode m_Mo_finish.2.1 117 = .ok (.iload_n 2, 1) := by decide +kernel
theorem d_Mo_finish_118 : decode m_Mo_finish.2.1 118 = .ok (.iload 7, 2) := by decide +kernel
theorem d_Mo_finish_120 : decode m_Mo_finish.2.1 120 = .ok (.invokevirtual 140, 3) := by decide +kernel
theorem d_Mo_finish_123 : decode m_Mo_finish.2.1 123 = .ok (.istore 8, 2) := by decide +kernel
theorem d_Mo_finish_125 : decode m_Mo_finish.2.1 125 = .ok (.aload_n 0, 1) := by decide +kernel
theorem d_Mo_finish_126 : decode m_Mo_finish.2.1 126 = .ok (.getfield 95, 3) := by decide +kernel
theorem d_Mo_finish_129 : decode m_Mo_finish.2.1 129 = .ok (.iload 4, 2) := by decide +kernel
theorem d_Mo_finish_131 : decode m_Mo_finish.2.1 131 = .ok (.iaload, 1) := by decide +kernel
theorem d_Mo_finish_132 : decode m_Mo_finish.2.1 132 = .ok (.ifCond .lt 7, 3) := by decide +kernel
theorem d_Mo_finish_135 : decode m_Mo_finish.2.1 135 = .ok (.iconst 1, 1) := by decide +kernel
theorem d_Mo_finish_136 : decode m_Mo_finish.2.1 136 = .ok (.goto 4, 3) := by decide +kernel
theorem d_Mo_finish_139 : decode m_Mo_finish.2.1 139 = .ok (.iconst 0, 1) := by decide +kernel
theorem d_Mo_finish_140 : decode m_Mo_finish.2.1 140 = .ok (.istore 9, 2) := by decide +kernel
theorem d_Mo_finish_142 : decode m_Mo_finish.2.1 142 = .ok (.iload 5, 2) := by decide +kernel
theorem d_Mo_finish_144 : decode m_Mo_finish.2.1 144 = .ok (.ifCond .eq 8, 3) := by decide +kernel
theorem d_Mo_finish_147 : decode m_Mo_finish.2.1 147 = .ok (.iload 6, 2) := by decide +kernel
theorem d_Mo_finish_149 : decode m_Mo_finish.2.1 149 = .ok (.ifCond .ne 49, 3) := by decide +kernel
theorem d_Mo_finish_152 : decode m_Mo_finish.2.1 152 = .ok (.aload_n 0, 1) := by decide +kernel
theorem d_Mo_finish_153 : decode m_Mo_finish.2.1 153 = .ok (.getfield 83, 3) := by decide +kernel
theorem d_Mo_finish_156 : decode m_Mo_finish.2.1 156 = .ok (.iload 4, 2) := by decide +kernel
theorem d_Mo_finish_158 : decode m_Mo_finish.2.1 158 = .ok (.iload 6, 2) := by decide +kernel
theorem d_Mo_finish_160 : decode m_Mo_finish.2.1 160 = .ok (.ifCond .le 7, 3) := by decide +kernel
theorem d_Mo_finish_163 : decode m_Mo_finish.2.1 163 = .ok (.iconst 1, 1) := by decide +kernel
theorem d_Mo_finish_164 : decode m_Mo_finish.2.1 164 = .ok (.goto 4, 3) := by decide +kernel
theorem d_Mo_finish_167 : decode m_Mo_finish.2.1 167 = .ok (.iconst 0, 1) := by decide +kernel
theorem d_Mo_finish_168 : decode m_Mo_finish.2.1 168 = .ok (.iastore, 1) := by decide +kernel
theorem d_Mo_finish_169 : decode m_Mo_finish.2.1 169 = .ok (.iload 8, 2) := by decide +kernel
theorem d_Mo_finish_171 : decode m_Mo_finish.2.1 171 = .ok (.aload_n 0, 1) := by decide +kernel
theorem d_Mo_finish_172 : decode m_Mo_finish.2.1 172 = .ok (.getfield 83, 3) := by decide +kernel
theorem d_Mo_finish_175 : decode m_Mo_finish.2.1 175 = .ok (.iload 4, 2) := by decide +kernel
theorem d_Mo_finish_177 : decode m_Mo_finish.2.1 177 = .ok (.iaload, 1) := by decide +kernel
theorem d_Mo_finish_178 : decode m_Mo_finish.2.1 178 = .ok (.if_icmp .ne 29, 3) := by decide +kernel
theorem d_Mo_finish_181 : decode m_Mo_finish.2.1 181 = .ok (.iload 9, 2) := by decide +kernel
theorem d_Mo_finish_183 : decode m_Mo_finish.2.1 183 = .ok (.ifCond .ne 24, 3) := by decide +kernel
theorem d_Mo_finish_186 : decode m_Mo_finish.2.1 186 = .ok (.aload_n 0, 1) := by decide +kernel
theorem d_Mo_finish_187 : decode m_Mo_finish.2.1 187 = .ok (.getfield 95, 3) := by decide +kernel
theorem d_Mo_finish_190 : decode m_Mo_finish.2.1 190 = .ok (.iload 4, 2) := by decide +kernel
theorem d_Mo_finish_192 : decode m_Mo_finish.2.1 192 = .ok (.iload 8, 2) := by decide +kernel
theorem d_Mo_finish_194 : decode m_Mo_finish.2.1 194 = .ok (.iastore, 1) := by decide +kernel
theorem d_Mo_finish_195 : decode m_Mo_finish.2.1 195 = .ok (.goto 12, 3) := by decide +kernel
theorem d_Mo_finish_198 : decode m_Mo_finish.2.1 198 = .ok (.aload_n 0, 1) := by decide +kernel
theorem d_Mo_finish_199 : decode m_Mo_finish.2.1 199 = .ok (.getfield 83, 3) := by decide +kernel
theorem d_Mo_finish_202 : decode m_Mo_finish.2.1 202 = .ok (.iload 4, 2) := by decide +kernel
theorem d_Mo_finish_204 : decode m_Mo_finish.2.1 204 = .ok (.iload 8, 2) := by decide +kernel
theorem d_Mo_finish_206 : decode m_Mo_finish.2.1 206 = .ok (.iastore, 1) := by decide +kernel
theorem d_Mo_finish_207 : decode m_Mo_finish.2.1 207 = .ok (.iload 9, 2) := by decide +kernel
theorem d_Mo_finish_209 : decode m_Mo_finish.2.1 209 = .ok (.ifCond .eq 15, 3) := by decide +kernel
theorem d_Mo_finish_212 : decode m_Mo_finish.2.1 212 = .ok (.aload_n 0, 1) := by decide +kernel
theorem d_Mo_finish_213 : decode m_Mo_finish.2.1 213 = .ok (.getfield 95, 3) := by decide +kernel
theorem d_Mo_finish_216 : decode m_Mo_finish.2.1 216 = .ok (.iload 4, 2) := by decide +kernel
theorem d_Mo_finish_218 : decode m_Mo_finish.2.1 218 = .ok (.iaload, 1) := by decide +kernel
theorem d_Mo_finish_219 : decode m_Mo_finish.2.1 219 = .ok (.iload 8, 2) := by decide +kernel
theorem d_Mo_finish_221 : decode m_Mo_finish.2.1 221 = .ok (.if_icmp .eq 9, 3) := by decide +kernel
theorem d_Mo_finish_224 : decode m_Mo_finish.2.1 224 = .ok (.iload 7, 2) := by decide +kernel
theorem d_Mo_finish_226 : decode m_Mo_finish.2.1 226 = .ok (.iconst 5, 1) := by decide +kernel
theorem d_Mo_finish_227 : decode m_Mo_finish.2.1 227 = .ok (.if_icmp .ne 14, 3) := by decide +kernel
theorem d_Mo_finish_230 : decode m_Mo_finish.2.1 230 = .ok (.aload_n 0, 1) := by decide +kernel
theorem d_Mo_finish_231 : decode m_Mo_finish.2.1 231 = .ok (.getfield 98, 3) := by decide +kernel
theorem d_Mo_finish_234 : decode m_Mo_finish.2.1 234 = .ok (.iload 4, 2) := by decide +kernel
theorem d_Mo_finish_236 : decode m_Mo_finish.2.1 236 = .ok (.iconst 1, 1) := by decide +kernel
theorem d_Mo_finish_237 : decode m_Mo_finish.2.1 237 = .ok (.bastore, 1) := by decide +kernel
theorem d_Mo_finish_238 : decode m_Mo_finish.2.1 238 = .ok (.goto 30, 3) := by decide +kernel
theorem d_Mo_finish_241 : decode m_Mo_finish.2.1 241 = .ok (.aload_n 0, 1) := by decide +kernel
theorem d_Mo_finish_242 : decode m_Mo_finish.2.1 242 = .ok (.getfield 86, 3) := by decide +kernel
theorem d_Mo_finish_245 : decode m_Mo_finish.2.1 245 = .ok (.iload 4, 2) := by decide +kernel
theorem d_Mo_finish_247 : decode m_Mo_finish.2.1 247 = .ok (.dup2, 1) := by decide +kernel
theorem d_Mo_finish_248 : decode m_Mo_finish.2.1 248 = .ok (.iaload, 1) := by decide +kernel
theorem d_Mo_finish_249 : decode m_Mo_finish.2.1 249 = .ok (.iconst 1, 1) := by decide +kernel
theorem d_Mo_finish_250 : decode m_Mo_finish.2.1 250 = .ok (.iadd, 1) := by decide +kernel
theorem d_Mo_finish_251 : decode m_Mo_finish.2.1 251 = .ok (.iastore, 1) := by decide +kernel
theorem d_Mo_finish_252 : decode m_Mo_finish.2.1 252 = .ok (.aload_n 0, 1) := by decide +kernel
theorem d_Mo_finish_253 : decode m_Mo_finish.2.1 253 = .ok (.getfield 89, 3) := by decide +kernel
theorem d_Mo_finish_256 : decode m_Mo_finish.2.1 256 = .ok (.iload 4, 2) := by decide +kernel
theorem d_Mo_finish_258 : decode m_Mo_finish.2.1 258 = .ok (.iconst 0, 1) := by decide +kernel
theorem d_Mo_finish_259 : decode m_Mo_finish.2.1 259 = .ok (.iastore, 1) := by decide +kernel
theorem d_Mo_finish_260 : decode m_Mo_finish.2.1 260 = .ok (.aload_n 0, 1) := by decide +kernel
theorem d_Mo_finish_261 : decode m_Mo_finish.2.1 261 = .ok (.getfield 92, 3) := by decide +kernel
theorem d_Mo_finish_264 : decode m_Mo_finish.2.1 264 = .ok (.iload 4, 2) := by decide +kernel
theorem d_Mo_finish_266 : decode m_Mo_finish.2.1 266 = .ok (.iconst 0, 1) := by decide +kernel
theorem d_Mo_finish_267 : decode m_Mo_finish.2.1 267 = .ok (.iastore, 1) := by decide +kernel
theorem d_Mo_finish_268 : decode m_Mo_finish.2.1 268 = .ok (.iconst 1, 1) := by decide +kernel
theorem d_Mo_finish_269 : decode m_Mo_finish.2.1 269 = .ok (.ireturn, 1) := by decide +kernel
theorem d_Mo_look_0 : decode m_Mo_look.2.1 0 = .ok (.iconst 0, 1) := by decide +kernel
theorem d_Mo_look_1 : decode m_Mo_look.2.1 1 = .ok (.istore_n 2, 1) := by decide +kernel
theorem d_Mo_look_2 : decode m_Mo_look.2.1 2 = .ok (.iconst 0, 1) := by decide +kernel
theorem d_Mo_look_3 : decode m_Mo_look.2.1 3 = .ok (.istore_n 3, 1) := by decide +kernel
theorem d_Mo_look_4 : decode m_Mo_look.2.1 4 = .ok (.iconst 1, 1) := by decide +kernel
theorem d_Mo_look_5 : decode m_Mo_look.2.1 5 = .ok (.istore 4, 2) := by decide +kernel
theorem d_Mo_look_7 : decode m_Mo_look.2.1 7 = .ok (.iconst 4, 1) := by decide +kernel
theorem d_Mo_look_8 : decode m_Mo_look.2.1 8 = .ok (.iload_n 1, 1) := by decide +kernel
theorem d_Mo_look_9 : decode m_Mo_look.2.1 9 = .ok (.imul, 1) := by decide +kernel
theorem d_Mo_look_10 : decode m_Mo_look.2.1 10 = .ok (.istore 5, 2) := by decide +kernel
theorem d_Mo_look_12 : decode m_Mo_look.2.1 12 = .ok (.iload 5, 2) := by decide +kernel
theorem d_Mo_look_14 : decode m_Mo_look.2.1 14 = .ok (.iconst 4, 1) := by decide +kernel
theorem d_Mo_look_15 : decode m_Mo_look.2.1 15 = .ok (.iload_n 1, 1) := by decide +kernel
theorem d_Mo_look_16 : decode m_Mo_look.2.1 16 = .ok (.imul, 1) := by decide +kernel
theorem d_Mo_look_17 : decode m_Mo_look.2.1 17 = .ok (.iconst 4, 1) := by decide +kernel
theorem d_Mo_look_18 : decode m_Mo_look.2.1 18 = .ok (.iadd, 1) := by decide +kernel
theorem d_Mo_look_19 : decode m_Mo_look.2.1 19 = .ok (.if_icmp .ge 79, 3) := by decide +kernel
theorem d_Mo_look_22 : decode m_Mo_look.2.1 22 = .ok (.aload_n 0, 1) := by decide +kernel
theorem d_Mo_look_23 : decode m_Mo_look.2.1 23 = .ok (.getfield 95, 3) := by decide +kernel
theorem d_Mo_look_26 : decode m_Mo_look.2.1 26 = .ok (.iload 5, 2) := by decide +kernel
theorem d_Mo_look_28 : decode m_Mo_look.2.1 28 = .ok (.iaload, 1) := by decide +kernel
theorem d_Mo_look_29 : decode m_Mo_look.2.1 29 = .ok (.iconst 1, 1) := by decide +kernel
theorem d_Mo_look_30 : decode m_Mo_look.2.1 30 = .ok (.if_icmp .ne 9, 3) := by decide +kernel
theorem d_Mo_look_33 : decode m_Mo_look.2.1 33 = .ok (.iload_n 2, 1) := by decide +kernel
theorem d_Mo_look_34 : decode m_Mo_look.2.1 34 = .ok (.iconst 1, 1) := by decide +kernel
theorem d_Mo_look_35 : decode m_Mo_look.2.1 35 = .ok (.iadd, 1) := by decide +kernel
theorem d_Mo_look_36 : decode m_Mo_look.2.1 36 = .ok (.goto 4, 3) := by decide +kernel
theorem d_Mo_look_39 : decode m_Mo_look.2.1 39 = .ok (.iload_n 2, 1) := by decide +kernel
theorem d_Mo_look_40 : decode m_Mo_look.2.1 40 = .ok (.istore_n 2, 1) := by decide +kernel
theorem d_Mo_look_41 : decode m_Mo_look.2.1 41 = .ok (.aload_n 0, 1) := by decide +kernel
theorem d_Mo_look_42 : decode m_Mo_look.2.1 42 = .ok (.getfield 95, 3) := by decide +kernel
theorem d_Mo_look_45 : decode m_Mo_look.2.1 45 = .ok (.iload 5, 2) := by decide +kernel
theorem d_Mo_look_47 : decode m_Mo_look.2.1 47 = .ok (.iaload, 1) := by decide +kernel
theorem d_Mo_look_48 : decode m_Mo_look.2.1 48 = .ok (.ifCond .lt 9, 3) := by decide +kernel
theorem d_Mo_look_51 : decode m_Mo_look.2.1 51 = .ok (.iload_n 3, 1) := by decide +kernel
theorem d_Mo_look_52 : decode m_Mo_look.2.1 52 = .ok (.iconst 1, 1) := by decide +kernel
theorem d_Mo_look_53 : decode m_Mo_look.2.1 53 = .ok (.iadd, 1) := by decide +kernel
theorem d_Mo_look_54 : decode m_Mo_look.2.1 54 = .ok (.goto 4, 3) := by decide +kernel
theorem d_Mo_look_57 : decode m_Mo_look.2.1 57 = .ok (.iload_n 3, 1) := by decide +kernel
theorem d_Mo_look_58 : decode m_Mo_look.2.1 58 = .ok (.istore_n 3, 1) := by decide +kernel
theorem d_Mo_look_59 : decode m_Mo_look.2.1 59 = .ok (.iload 4, 2) := by decide +kernel
theorem d_Mo_look_61 : decode m_Mo_look.2.1 61 = .ok (.ifCond .eq 28, 3) := by decide +kernel
theorem d_Mo_look_64 : decode m_Mo_look.2.1 64 = .ok (.aload_n 0, 1) := by decide +kernel
theorem d_Mo_look_65 : decode m_Mo_look.2.1 65 = .ok (.getfield 95, 3) := by decide +kernel
theorem d_Mo_look_68 : decode m_Mo_look.2.1 68 = .ok (.iload 5, 2) := by decide +kernel
theorem d_Mo_look_70 : decode m_Mo_look.2.1 70 = .ok (.iaload, 1) := by decide +kernel
theorem d_Mo_look_71 : decode m_Mo_look.2.1 71 = .ok (.iconst 1, 1) := by decide +kernel
theorem d_Mo_look_72 : decode m_Mo_look.2.1 72 = .ok (.if_icmp .ne 13, 3) := by decide +kernel
theorem d_Mo_look_75 : decode m_Mo_look.2.1 75 = .ok (.aload_n 0, 1) := by decide +kernel
theorem d_Mo_look_76 : decode m_Mo_look.2.1 76 = .ok (.getfield 77, 3) := by decide +kernel
theorem d_Mo_look_79 : decode m_Mo_look.2.1 79 = .ok (.iload 5, 2) := by decide +kernel
theorem d_Mo_look_81 : decode m_Mo_look.2.1 81 = .ok (.iaload, 1) := by decide +kernel
theorem d_Mo_look_82 : decode m_Mo_look.2.1 82 = .ok (.ifCond .lt 7, 3) := by decide +kernel
theorem d_Mo_look_85 : decode m_Mo_look.2.1 85 = .ok (.iconst 1, 1) := by decide +kernel
theorem d_Mo_look_86 : decode m_Mo_look.2.1 86 = .ok (.goto 4, 3) := by decide +kernel
theorem d_Mo_look_89 : decode m_Mo_look.2.1 89 = .ok (.iconst 0, 1) := by decide +kernel
theorem d_Mo_look_90 : decode m_Mo_look.2.1 90 = .ok (.istore 4, 2) := by decide +kernel
theorem d_Mo_look_92 : decode m_Mo_look.2.1 92 = .ok (.iinc 5 1, 3) := by decide +kernel
theorem d_Mo_look_95 : decode m_Mo_look.2.1 95 = .ok (.goto (-83), 3) := by decide +kernel
theorem d_Mo_look_98 : decode m_Mo_look.2.1 98 = .ok (.iconst 0, 1) := by decide +kernel
theorem d_Mo_look_99 : decode m_Mo_look.2.1 99 = .ok (.istore 5, 2) := by decide +kernel
theorem d_Mo_look_101 : decode m_Mo_look.2.1 101 = .ok (.iload 5, 2) := by decide +kernel
theorem d_Mo_look_103 : decode m_Mo_look.2.1 103 = .ok (.iconst 4, 1) := by decide +kernel
theorem d_Mo_look_104 : decode m_Mo_look.2.1 104 = .ok (.if_icmp .ge 59, 3) := by decide +kernel
theorem d_Mo_look_107 : decode m_Mo_look.2.1 107 = .ok (.iload_n 2, 1) := by decide +kernel
theorem d_Mo_look_108 : decode m_Mo_look.2.1 108 = .ok (.iconst 3, 1) := by decide +kernel
theorem d_Mo_look_109 : decode m_Mo_look.2.1 109 = .ok (.if_icmp .lt 54, 3) := by decide +kernel
theorem d_Mo_look_112 : decode m_Mo_look.2.1 112 = .ok (.aload_n 0, 1) := by decide +kernel
theorem d_Mo_look_113 : decode m_Mo_look.2.1 113 = .ok (.getfield 80, 3) := by decide +kernel
theorem d_Mo_look_116 : decode m_Mo_look.2.1 116 = .ok (.iconst 4, 1) := by decide +kernel
theorem d_Mo_look_117 : decode m_Mo_look.2.1 117 = .ok (.iload_n 1, 1) := by decide +kernel
theorem d_Mo_look_118 : decode m_Mo_look.2.1 118 = .ok (.imul, 1) := by decide +kernel
theorem d_Mo_look_119 : decode m_Mo_look.2.1 119 = .ok (.iload 5, 2) := by decide +kernel
theorem d_Mo_look_121 : decode m_Mo_look.2.1 121 = .ok (.iadd, 1) := by decide +kernel
theorem d_Mo_look_122 : decode m_Mo_look.2.1 122 = .ok (.baload, 1) := by decide +kernel
theorem d_Mo_look_123 : decode m_Mo_look.2.1 123 = .ok (.ifCond .ne 34, 3) := by decide +kernel
theorem d_Mo_look_126 : decode m_Mo_look.2.1 126 = .ok (.aload_n 0, 1) := by decide +kernel
theorem d_Mo_look_127 : decode m_Mo_look.2.1 127 = .ok (.getfield 80, 3) := by decide +kernel
theorem d_Mo_look_130 : decode m_Mo_look.2.1 130 = .ok (.iconst 4, 1) := by decide +kernel
theorem d_Mo_look_131 : decode m_Mo_look.2.1 131 = .ok (.iload_n 1, 1) := by decide +kernel
theorem d_Mo_look_132 : decode m_Mo_look.2.1 132 = .ok (.imul, 1) := by decide +kernel
theorem d_Mo_look_133 : decode m_Mo_look.2.1 133 = .ok (.iload 5, 2) := by decide +kernel
theorem d_Mo_look_135 : decode m_Mo_look.2.1 135 = .ok (.iadd, 1) := by decide +kernel
theorem d_Mo_look_136 : decode m_Mo_look.2.1 136 = .ok (.iconst 1, 1) := by decide +kernel
theorem d_Mo_look_137 : decode m_Mo_look.2.1 137 = .ok (.bastore, 1) := by decide +kernel
theorem d_Mo_look_138 : decode m_Mo_look.2.1 138 = .ok (.aload_n 0, 1) := by decide +kernel
theorem d_Mo_look_139 : decode m_Mo_look.2.1 139 = .ok (.getfield 83, 3) := by decide +kernel
theorem d_Mo_look_142 : decode m_Mo_look.2.1 142 = .ok (.iconst 4, 1) := by decide +kernel
theorem d_Mo_look_143 : decode m_Mo_look.2.1 143 = .ok (.iload_n 1, 1) := by decide +kernel
theorem d_Mo_look_144 : decode m_Mo_look.2.1 144 = .ok (.imul, 1) := by decide +kernel
theorem d_Mo_look_145 : decode m_Mo_look.2.1 145 = .ok (.iload 5, 2) := by decide +kernel
theorem d_Mo_look_147 : decode m_Mo_look.2.1 147 = .ok (.iadd, 1) := by decide +kernel
theorem d_Mo_look_148 : decode m_Mo_look.2.1 148 = .ok (.iconst 0, 1) := by decide +kernel
theorem d_Mo_look_149 : decode m_Mo_look.2.1 149 = .ok (.iastore, 1) := by decide +kernel
theorem d_Mo_look_150 : decode m_Mo_look.2.1 150 = .ok (.aload_n 0, 1) := by decide +kernel
theorem d_Mo_look_151 : decode m_Mo_look.2.1 151 = .ok (.iload 5, 2) := by decide +kernel
theorem d_Mo_look_153 : decode m_Mo_look.2.1 153 = .ok (.putfield 165, 3) := by decide +kernel
theorem d_Mo_look_156 : decode m_Mo_look.2.1 156 = .ok (.return_, 1) := by decide +kernel
theorem d_Mo_look_157 : decode m_Mo_look.2.1 157 = .ok (.iinc 5 1, 3) := by decide +kernel
theorem d_Mo_look_160 : decode m_Mo_look.2.1 160 = .ok (.goto (-59), 3) := by decide +kernel
theorem d_Mo_look_163 : decode m_Mo_look.2.1 163 = .ok (.iload_n 3, 1) := by decide +kernel
theorem d_Mo_look_164 : decode m_Mo_look.2.1 164 = .ok (.iconst 4, 1) := by decide +kernel
theorem d_Mo_look_165 : decode m_Mo_look.2.1 165 = .ok (.if_icmp .ne 13, 3) := by decide +kernel
theorem d_Mo_look_168 : decode m_Mo_look.2.1 168 = .ok (.iload 4, 2) := by decide +kernel
theorem d_Mo_look_170 : decode m_Mo_look.2.1 170 = .ok (.ifCond .eq 8, 3) := by decide +kernel
theorem d_Mo_look_173 : decode m_Mo_look.2.1 173 = .ok (.aload_n 0, 1) := by decide +kernel
theorem d_Mo_look_174 : decode m_Mo_look.2.1 174 = .ok (.iload_n 1, 1) := by decide +kernel
theorem d_Mo_look_175 : decode m_Mo_look.2.1 175 = .ok (.invokevirtual 239, 3) := by decide +kernel
theorem d_Mo_look_178 : decode m_Mo_look.2.1 178 = .ok (.return_, 1) := by decide +kernel
theorem d_Mo_commit_0 : decode m_Mo_commit.2.1 0 = .ok (.iconst 1, 1) := by decide +kernel
theorem d_Mo_commit_1 : decode m_Mo_commit.2.1 1 = .ok (.istore_n 2, 1) := by decide +kernel
theorem d_Mo_commit_2 : decode m_Mo_commit.2.1 2 = .ok (.iload_n 2, 1) := by decide +kernel
theorem d_Mo_commit_3 : decode m_Mo_commit.2.1 3 = .ok (.sipush 255, 3) := by decide +kernel
theorem d_Mo_commit_6 : decode m_Mo_commit.2.1 6 = .ok (.if_icmp .gt 128, 3) := by decide +kernel
theorem d_Mo_commit_9 : decode m_Mo_commit.2.1 9 = .ok (.iconst 0, 1) := by decide +kernel
theorem d_Mo_commit_10 : decode m_Mo_commit.2.1 10 = .ok (.istore_n 3, 1) := by decide +kernel
theorem d_Mo_commit_11 : decode m_Mo_commit.2.1 11 = .ok (.iconst 4, 1) := by decide +kernel
theorem d_Mo_commit_12 : decode m_Mo_commit.2.1 12 = .ok (.iload_n 1, 1) := by decide +kernel
theorem d_Mo_commit_13 : decode m_Mo_commit.2.1 13 = .ok (.imul, 1) := by decide +kernel
theorem d_Mo_commit_14 : decode m_Mo_commit.2.1 14 = .ok (.istore 4, 2) := by decide +kernel
theorem d_Mo_commit_16 : decode m_Mo_commit.2.1 16 = .ok (.iload 4, 2) := by decide +kernel
theorem d_Mo_commit_18 : decode m_Mo_commit.2.1 18 = .ok (.iconst 4, 1) := by decide +kernel
theorem d_Mo_commit_19 : decode m_Mo_commit.2.1 19 = .ok (.iload_n 1, 1) := by decide +kernel
theorem d_Mo_commit_20 : decode m_Mo_commit.2.1 20 = .ok (.imul, 1) := by decide +kernel
theorem d_Mo_commit_21 : decode m_Mo_commit.2.1 21 = .ok (.iconst 4, 1) := by decide +kernel
theorem d_Mo_commit_22 : decode m_Mo_commit.2.1 22 = .ok (.iadd, 1) := by decide +kernel
theorem d_Mo_commit_23 : decode m_Mo_commit.2.1 23 = .ok (.if_icmp .ge 59, 3) := by decide +kernel
theorem d_Mo_commit_26 : decode m_Mo_commit.2.1 26 = .ok (.iload_n 3, 1) := by decide +kernel
theorem d_Mo_commit_27 : decode m_Mo_commit.2.1 27 = .ok (.ifCond .ne 43, 3) := by decide +kernel
theorem d_Mo_commit_30 : decode m_Mo_commit.2.1 30 = .ok (.aload_n 0, 1) := by decide +kernel
theorem d_Mo_commit_31 : decode m_Mo_commit.2.1 31 = .ok (.getfield 95, 3) := by decide +kernel
theorem d_Mo_commit_34 : decode m_Mo_commit.2.1 34 = .ok (.iload 4, 2) := by decide +kernel
theorem d_Mo_commit_36 : decode m_Mo_commit.2.1 36 = .ok (.iaload, 1) := by decide +kernel
theorem d_Mo_commit_37 : decode m_Mo_commit.2.1 37 = .ok (.iconst 1, 1) := by decide +kernel
theorem d_Mo_commit_38 : decode m_Mo_commit.2.1 38 = .ok (.if_icmp .ne 36, 3) := by decide +kernel
theorem d_Mo_commit_41 : decode m_Mo_commit.2.1 41 = .ok (.aload_n 0, 1) := by decide +kernel
theorem d_Mo_commit_42 : decode m_Mo_commit.2.1 42 = .ok (.getfield 77, 3) := by decide +kernel
theorem d_Mo_commit_45 : decode m_Mo_commit.2.1 45 = .ok (.iload 4, 2) := by decide +kernel
theorem d_Mo_commit_47 : decode m_Mo_commit.2.1 47 = .ok (.iaload, 1) := by decide +kernel
theorem d_Mo_commit_48 : decode m_Mo_commit.2.1 48 = .ok (.sipush 255, 3) := by decide +kernel
theorem d_Mo_commit_51 : decode m_Mo_commit.2.1 51 = .ok (.iand, 1) := by decide +kernel
theorem d_Mo_commit_52 : decode m_Mo_commit.2.1 52 = .ok (.iload_n 2, 1) := by decide +kernel
theorem d_Mo_commit_53 : decode m_Mo_commit.2.1 53 = .ok (.if_icmp .eq 17, 3) := by decide +kernel
theorem d_Mo_commit_56 : decode m_Mo_commit.2.1 56 = .ok (.aload_n 0, 1) := by decide +kernel
theorem d_Mo_commit_57 : decode m_Mo_commit.2.1 57 = .ok (.getfield 77, 3) := by decide +kernel
theorem d_Mo_commit_60 : decode m_Mo_commit.2.1 60 = .ok (.iload 4, 2) := by decide +kernel
theorem d_Mo_commit_62 : decode m_Mo_commit.2.1 62 = .ok (.iaload, 1) := by decide +kernel
theorem d_Mo_commit_63 : decode m_Mo_commit.2.1 63 = .ok (.bipush 8, 2) := by decide +kernel
theorem d_Mo_commit_65 : decode m_Mo_commit.2.1 65 = .ok (.ishr, 1) := by decide +kernel
theorem d_Mo_commit_66 : decode m_Mo_commit.2.1 66 = .ok (.iload_n 2, 1) := by decide +kernel
theorem d_Mo_commit_67 : decode m_Mo_commit.2.1 67 = .ok (.if_icmp .ne 7, 3) := by decide +kernel
theorem d_Mo_commit_70 : decode m_Mo_commit.2.1 70 = .ok (.iconst 1, 1) := by decide +kernel
theorem d_Mo_commit_71 : decode m_Mo_commit.2.1 71 = .ok (.goto 4, 3) := by decide +kernel
theorem d_Mo_commit_74 : decode m_Mo_commit.2.1 74 = .ok (.iconst 0, 1) := by decide +kernel
theorem d_Mo_commit_75 : decode m_Mo_commit.2.1 75 = .ok (.istore_n 3, 1) := by decide +kernel
theorem d_Mo_commit_76 : decode m_Mo_commit.2.1 76 = .ok (.iinc 4 1, 3) := by decide +kernel
theorem d_Mo_commit_79 : decode m_Mo_commit.2.1 79 = .ok (.goto (-63), 3) := by decide +kernel
theorem d_Mo_commit_82 : decode m_Mo_commit.2.1 82 = .ok (.iload_n 3, 1) := by decide +kernel
theorem d_Mo_commit_83 : decode m_Mo_commit.2.1 83 = .ok (.ifCond .eq 45, 3) := by decide +kernel
theorem d_Mo_commit_86 : decode m_Mo_commit.2.1 86 = .ok (.aload_n 0, 1) := by decide +kernel
theorem d_Mo_commit_87 : decode m_Mo_commit.2.1 87 = .ok (.iload_n 1, 1) := by decide +kernel
theorem d_Mo_commit_88 : decode m_Mo_commit.2.1 88 = .ok (.iload_n 2, 1) := by decide +kernel
theorem d_Mo_commit_89 : decode m_Mo_commit.2.1 89 = .ok (.invokevirtual 143, 3) := by decide +kernel
theorem d_Mo_commit_92 : decode m_Mo_commit.2.1 92 = .ok (.ifCond .ne 36, 3) := by decide +kernel
theorem d_Mo_commit_95 : decode m_Mo_commit.2.1 95 = .ok (.aload_n 0, 1) := by decide +kernel
theorem d_Mo_commit_96 : decode m_Mo_commit.2.1 96 = .ok (.getfield 31, 3) := by decide +kernel
theorem d_Mo_commit_99 : decode m_Mo_commit.2.1 99 = .ok (.bipush 40, 2) := by decide +kernel
theorem d_Mo_commit_101 : decode m_Mo_commit.2.1 101 = .ok (.iload_n 1, 1) := by decide +kernel
theorem d_Mo_commit_102 : decode m_Mo_commit.2.1 102 = .ok (.imul, 1) := by decide +kernel
theorem d_Mo_commit_103 : decode m_Mo_commit.2.1 103 = .ok (.aload_n 0, 1) := by decide +kernel
theorem d_Mo_commit_104 : decode m_Mo_commit.2.1 104 = .ok (.getfield 28, 3) := by decide +kernel
theorem d_Mo_commit_107 : decode m_Mo_commit.2.1 107 = .ok (.iload_n 1, 1) := by decide +kernel
theorem d_Mo_commit_108 : decode m_Mo_commit.2.1 108 = .ok (.iaload, 1) := by decide +kernel
theorem d_Mo_commit_109 : decode m_Mo_commit.2.1 109 = .ok (.iadd, 1) := by decide +kernel
theorem d_Mo_commit_110 : decode m_Mo_commit.2.1 110 = .ok (.iload_n 2, 1) := by decide +kernel
theorem d_Mo_commit_111 : decode m_Mo_commit.2.1 111 = .ok (.iastore, 1) := by decide +kernel
theorem d_Mo_commit_112 : decode m_Mo_commit.2.1 112 = .ok (.aload_n 0, 1) := by decide +kernel
theorem d_Mo_commit_113 : decode m_Mo_commit.2.1 113 = .ok (.getfield 28, 3) := by decide +kernel
theorem d_Mo_commit_116 : decode m_Mo_commit.2.1 116 = .ok (.iload_n 1, 1) := by decide +kernel
theorem d_Mo_commit_117 : decode m_Mo_commit.2.1 117 = .ok (.dup2, 1) := by decide +kernel
theorem d_Mo_commit_118 : decode m_Mo_commit.2.1 118 = .ok (.iaload, 1) := by decide +kernel
theorem d_Mo_commit_119 : decode m_Mo_commit.2.1 119 = .ok (.iconst 1, 1) := by decide +kernel
theorem d_Mo_commit_120 : decode m_Mo_commit.2.1 120 = .ok (.iadd, 1) := by decide +kernel
theorem d_Mo_commit_121 : decode m_Mo_commit.2.1 121 = .ok (.iastore, 1) := by decide +kernel
theorem d_Mo_commit_122 : decode m_Mo_commit.2.1 122 = .ok (.aload_n 0, 1) := by decide +kernel
theorem d_Mo_commit_123 : decode m_Mo_commit.2.1 123 = .ok (.iload_n 1, 1) := by decide +kernel
theorem d_Mo_commit_124 : decode m_Mo_commit.2.1 124 = .ok (.iload_n 2, 1) := by decide +kernel
theorem d_Mo_commit_125 : decode m_Mo_commit.2.1 125 = .ok (.invokevirtual 242, 3) := by decide +kernel
theorem d_Mo_commit_128 : decode m_Mo_commit.2.1 128 = .ok (.iinc 2 1, 3) := by decide +kernel
theorem d_Mo_commit_131 : decode m_Mo_commit.2.1 131 = .ok (.goto (-129), 3) := by decide +kernel
theorem d_Mo_commit_134 : decode m_Mo_commit.2.1 134 = .ok (.aload_n 0, 1) := by decide +kernel
theorem d_Mo_commit_135 : decode m_Mo_commit.2.1 135 = .ok (.iload_n 1, 1) := by decide +kernel
theorem d_Mo_commit_136 : decode m_Mo_commit.2.1 136 = .ok (.aload_n 0, 1) := by decide +kernel
theorem d_Mo_commit_137 : decode m_Mo_commit.2.1 137 = .ok (.getfield 19, 3) := by decide +kernel
theorem d_Mo_commit_140 : decode m_Mo_commit.2.1 140 = .ok (.iload_n 1, 1) := by decide +kernel
theorem d_Mo_commit_141 : decode m_Mo_commit.2.1 141 = .ok (.iaload, 1) := by decide +kernel
theorem d_Mo_commit_142 : decode m_Mo_commit.2.1 142 = .ok (.iconst 1, 1) := by decide +kernel
theorem d_Mo_commit_143 : decode m_Mo_commit.2.1 143 = .ok (.iadd, 1) := by decide +kernel
theorem d_Mo_commit_144 : decode m_Mo_commit.2.1 144 = .ok (.invokevirtual 193, 3) := by decide +kernel
theorem d_Mo_commit_147 : decode m_Mo_commit.2.1 147 = .ok (.return_, 1) := by decide +kernel
theorem d_Mo_unqueue_0 : decode m_Mo_unqueue.2.1 0 = .ok (.iconst 0, 1) := by decide +kernel
theorem d_Mo_unqueue_1 : decode m_Mo_unqueue.2.1 1 = .ok (.istore_n 3, 1) := by decide +kernel
theorem d_Mo_unqueue_2 : decode m_Mo_unqueue.2.1 2 = .ok (.iconst 0, 1) := by decide +kernel
theorem d_Mo_unqueue_3 : decode m_Mo_unqueue.2.1 3 = .ok (.istore 4, 2) := by decide +kernel
theorem d_Mo_unqueue_5 : decode m_Mo_unqueue.2.1 5 = .ok (.iload 4, 2) := by decide +kernel
theorem d_Mo_unqueue_7 : decode m_Mo_unqueue.2.1 7 = .ok (.aload_n 0, 1) := by decide +kernel
theorem d_Mo_unqueue_8 : decode m_Mo_unqueue.2.1 8 = .ok (.getfield 22, 3) := by decide +kernel
theorem d_Mo_unqueue_11 : decode m_Mo_unqueue.2.1 11 = .ok (.iload_n 1, 1) := by decide +kernel
theorem d_Mo_unqueue_12 : decode m_Mo_unqueue.2.1 12 = .ok (.iaload, 1) := by decide +kernel
theorem d_Mo_unqueue_13 : decode m_Mo_unqueue.2.1 13 = .ok (.if_icmp .ge 45, 3) := by decide +kernel
theorem d_Mo_unqueue_16 : decode m_Mo_unqueue.2.1 16 = .ok (.aload_n 0, 1) := by decide +kernel
theorem d_Mo_unqueue_17 : decode m_Mo_unqueue.2.1 17 = .ok (.getfield 25, 3) := by decide +kernel
theorem d_Mo_unqueue_20 : decode m_Mo_unqueue.2.1 20 = .ok (.bipush 12, 2) := by decide +kernel
theorem d_Mo_unqueue_22 : decode m_Mo_unqueue.2.1 22 = .ok (.iload_n 1, 1) := by decide +kernel
theorem d_Mo_unqueue_23 : decode m_Mo_unqueue.2.1 23 = .ok (.imul, 1) := by decide +kernel
theorem d_Mo_unqueue_24 : decode m_Mo_unqueue.2.1 24 = .ok (.iload 4, 2) := by decide +kernel
theorem d_Mo_unqueue_26 : decode m_Mo_unqueue.2.1 26 = .ok (.iadd, 1) := by decide +kernel
theorem d_Mo_unqueue_27 : decode m_Mo_unqueue.2.1 27 = .ok (.iaload, 1) := by decide +kernel
theorem d_Mo_unqueue_28 : decode m_Mo_unqueue.2.1 28 = .ok (.istore 5, 2) := by decide +kernel
theorem d_Mo_unqueue_30 : decode m_Mo_unqueue.2.1 30 = .ok (.iload 5, 2) := by decide +kernel
theorem d_Mo_unqueue_32 : decode m_Mo_unqueue.2.1 32 = .ok (.iload_n 2, 1) := by decide +kernel
theorem d_Mo_unqueue_33 : decode m_Mo_unqueue.2.1 33 = .ok (.if_icmp .eq 19, 3) := by decide +kernel
theorem d_Mo_unqueue_36 : decode m_Mo_unqueue.2.1 36 = .ok (.aload_n 0, 1) := by decide +kernel
theorem d_Mo_unqueue_37 : decode m_Mo_unqueue.2.1 37 = .ok (.getfield 25, 3) := by decide +kernel
theorem d_Mo_unqueue_40 : decode m_Mo_unqueue.2.1 40 = .ok (.bipush 12, 2) := by decide +kernel
theorem d_Mo_unqueue_42 : decode m_Mo_unqueue.2.1 42 = .ok (.iload_n 1, 1) := by decide +kernel
theorem d_Mo_unqueue_43 : decode m_Mo_unqueue.2.1 43 = .ok (.imul, 1) := by decide +kernel
theorem d_Mo_unqueue_44 : decode m_Mo_unqueue.2.1 44 = .ok (.iload_n 3, 1) := by decide +kernel
theorem d_Mo_unqueue_45 : decode m_Mo_unqueue.2.1 45 = .ok (.iadd, 1) := by decide +kernel
theorem d_Mo_unqueue_46 : decode m_Mo_unqueue.2.1 46 = .ok (.iload 5, 2) := by decide +kernel
theorem d_Mo_unqueue_48 : decode m_Mo_unqueue.2.1 48 = .ok (.iastore, 1) := by decide +kernel
theorem d_Mo_unqueue_49 : decode m_Mo_unqueue.2.1 49 = .ok (.iinc 3 1, 3) := by decide +kernel
theorem d_Mo_unqueue_52 : decode m_Mo_unqueue.2.1 52 = .ok (.iinc 4 1, 3) := by decide +kernel
theorem d_Mo_unqueue_55 : decode m_Mo_unqueue.2.1 55 = .ok (.goto (-50), 3) := by decide +kernel
theorem d_Mo_unqueue_58 : decode m_Mo_unqueue.2.1 58 = .ok (.aload_n 0, 1) := by decide +kernel
theorem d_Mo_unqueue_59 : decode m_Mo_unqueue.2.1 59 = .ok (.getfield 22, 3) := by decide +kernel
theorem d_Mo_unqueue_62 : decode m_Mo_unqueue.2.1 62 = .ok (.iload_n 1, 1) := by decide +kernel
theorem d_Mo_unqueue_63 : decode m_Mo_unqueue.2.1 63 = .ok (.iload_n 3, 1) := by decide +kernel
theorem d_Mo_unqueue_64 : decode m_Mo_unqueue.2.1 64 = .ok (.iastore, 1) := by decide +kernel
theorem d_Mo_unqueue_65 : decode m_Mo_unqueue.2.1 65 = .ok (.return_, 1) := by decide +kernel
theorem d_Mo_enter_0 : decode m_Mo_enter.2.1 0 = .ok (.aload_n 0, 1) := by decide +kernel
theorem d_Mo_enter_1 : decode m_Mo_enter.2.1 1 = .ok (.getfield 19, 3) := by decide +kernel
theorem d_Mo_enter_4 : decode m_Mo_enter.2.1 4 = .ok (.iload_n 1, 1) := by decide +kernel
theorem d_Mo_enter_5 : decode m_Mo_enter.2.1 5 = .ok (.iload_n 2, 1) := by decide +kernel
theorem d_Mo_enter_6 : decode m_Mo_enter.2.1 6 = .ok (.iastore, 1) := by decide +kernel
theorem d_Mo_enter_7 : decode m_Mo_enter.2.1 7 = .ok (.aload_n 0, 1) := by decide +kernel
theorem d_Mo_enter_8 : decode m_Mo_enter.2.1 8 = .ok (.iconst (-1), 1) := by decide +kernel
theorem d_Mo_enter_9 : decode m_Mo_enter.2.1 9 = .ok (.putfield 165, 3) := by decide +kernel
theorem d_Mo_enter_12 : decode m_Mo_enter.2.1 12 = .ok (.aload_n 0, 1) := by decide +kernel
theorem d_Mo_enter_13 : decode m_Mo_enter.2.1 13 = .ok (.iconst 4, 1) := by decide +kernel
theorem d_Mo_enter_14 : decode m_Mo_enter.2.1 14 = .ok (.putfield 168, 3) := by decide +kernel
theorem d_Mo_enter_17 : decode m_Mo_enter.2.1 17 = .ok (.iload_n 2, 1) := by decide +kernel
theorem d_Mo_enter_18 : decode m_Mo_enter.2.1 18 = .ok (.iconst 3, 1) := by decide +kernel
theorem d_Mo_enter_19 : decode m_Mo_enter.2.1 19 = .ok (.if_icmp .le 4, 3) := by decide +kernel
theorem d_Mo_enter_22 : decode m_Mo_enter.2.1 22 = .ok (.return_, 1) := by decide +kernel
theorem d_Mo_enter_23 : decode m_Mo_enter.2.1 23 = .ok (.iconst 4, 1) := by decide +kernel
theorem d_Mo_enter_24 : decode m_Mo_enter.2.1 24 = .ok (.iload_n 1, 1) := by decide +kernel
theorem d_Mo_enter_25 : decode m_Mo_enter.2.1 25 = .ok (.imul, 1) := by decide +kernel
theorem d_Mo_enter_26 : decode m_Mo_enter.2.1 26 = .ok (.istore_n 3, 1) := by decide +kernel
theorem d_Mo_enter_27 : decode m_Mo_enter.2.1 27 = .ok (.iload_n 3, 1) := by decide +kernel
theorem d_Mo_enter_28 : decode m_Mo_enter.2.1 28 = .ok (.iconst 4, 1) := by decide +kernel
theorem d_Mo_enter_29 : decode m_Mo_enter.2.1 29 = .ok (.iload_n 1, 1) := by decide +kernel
theorem d_Mo_enter_30 : decode m_Mo_enter.2.1 30 = .ok (.imul, 1) := by decide +kernel
theorem d_Mo_enter_31 : decode m_Mo_enter.2.1 31 = .ok (.iconst 4, 1) := by decide +kernel
theorem d_Mo_enter_32 : decode m_Mo_enter.2.1 32 = .ok (.iadd, 1) := by decide +kernel
theorem d_Mo_enter_33 : decode m_Mo_enter.2.1 33 = .ok (.if_icmp .ge 65, 3) := by decide +kernel
theorem d_Mo_enter_36 : decode m_Mo_enter.2.1 36 = .ok (.aload_n 0, 1) := by decide +kernel
theorem d_Mo_enter_37 : decode m_Mo_enter.2.1 37 = .ok (.getfield 77, 3) := by decide +kernel
theorem d_Mo_enter_40 : decode m_Mo_enter.2.1 40 = .ok (.iload_n 3, 1) := by decide +kernel
theorem d_Mo_enter_41 : decode m_Mo_enter.2.1 41 = .ok (.iconst (-1), 1) := by decide +kernel
theorem d_Mo_enter_42 : decode m_Mo_enter.2.1 42 = .ok (.iastore, 1) := by decide +kernel
theorem d_Mo_enter_43 : decode m_Mo_enter.2.1 43 = .ok (.aload_n 0, 1) := by decide +kernel
theorem d_Mo_enter_44 : decode m_Mo_enter.2.1 44 = .ok (.getfield 80, 3) := by decide +kernel
theorem d_Mo_enter_47 : decode m_Mo_enter.2.1 47 = .ok (.iload_n 3, 1) := by decide +kernel
theorem d_Mo_enter_48 : decode m_Mo_enter.2.1 48 = .ok (.iconst 0, 1) := by decide +kernel
theorem d_Mo_enter_49 : decode m_Mo_enter.2.1 49 = .ok (.bastore, 1) := by decide +kernel
theorem d_Mo_enter_50 : decode m_Mo_enter.2.1 50 = .ok (.aload_n 0, 1) := by decide +kernel
theorem d_Mo_enter_51 : decode m_Mo_enter.2.1 51 = .ok (.getfield 83, 3) := by decide +kernel
theorem d_Mo_enter_54 : decode m_Mo_enter.2.1 54 = .ok (.iload_n 3, 1) := by decide +kernel
theorem d_Mo_enter_55 : decode m_Mo_enter.2.1 55 = .ok (.iconst 0, 1) := by decide +kernel
theorem d_Mo_enter_56 : decode m_Mo_enter.2.1 56 = .ok (.iastore, 1) := by decide +kernel
theorem d_Mo_enter_57 : decode m_Mo_enter.2.1 57 = .ok (.aload_n 0, 1) := by decide +kernel
theorem d_Mo_enter_58 : decode m_Mo_enter.2.1 58 = .ok (.getfield 86, 3) := by decide +kernel
theorem d_Mo_enter_61 : decode m_Mo_enter.2.1 61 = .ok (.iload_n 3, 1) := by decide +kernel
theorem d_Mo_enter_62 : decode m_Mo_enter.2.1 62 = .ok (.iconst 0, 1) := by decide +kernel
theorem d_Mo_enter_63 : decode m_Mo_enter.2.1 63 = .ok (.iastore, 1) := by decide +kernel
theorem d_Mo_enter_64 : decode m_Mo_enter.2.1 64 = .ok (.aload_n 0, 1) := by decide +kernel
theorem d_Mo_enter_65 : decode m_Mo_enter.2.1 65 = .ok (.getfield 89, 3) := by decide +kernel
theorem d_Mo_enter_68 : decode m_Mo_enter.2.1 68 = .ok (.iload_n 3, 1) := by decide +kernel
theorem d_Mo_enter_69 : decode m_Mo_enter.2.1 69 = .ok (.iconst 0, 1) := by decide +kernel
theorem d_Mo_enter_70 : decode m_Mo_enter.2.1 70 = .ok (.iastore, 1) := by decide +kernel
theorem d_Mo_enter_71 : decode m_Mo_enter.2.1 71 = .ok (.aload_n 0, 1) := by decide +kernel
theorem d_Mo_enter_72 : decode m_Mo_enter.2.1 72 = .ok (.getfield 92, 3) := by decide +kernel
theorem d_Mo_enter_75 : decode m_Mo_enter.2.1 75 = .ok (.iload_n 3, 1) := by decide +kernel
theorem d_Mo_enter_76 : decode m_Mo_enter.2.1 76 = .ok (.iconst 0, 1) := by decide +kernel
theorem d_Mo_enter_77 : decode m_Mo_enter.2.1 77 = .ok (.iastore, 1) := by decide +kernel
theorem d_Mo_enter_78 : decode m_Mo_enter.2.1 78 = .ok (.aload_n 0, 1) := by decide +kernel
theorem d_Mo_enter_79 : decode m_Mo_enter.2.1 79 = .ok (.getfield 95, 3) := by decide +kernel
theorem d_Mo_enter_82 : decode m_Mo_enter.2.1 82 = .ok (.iload_n 3, 1) := by decide +kernel
theorem d_Mo_enter_83 : decode m_Mo_enter.2.1 83 = .ok (.iconst (-1), 1) := by decide +kernel
theorem d_Mo_enter_84 : decode m_Mo_enter.2.1 84 = .ok (.iastore, 1) := by decide +kernel
theorem d_Mo_enter_85 : decode m_Mo_enter.2.1 85 = .ok (.aload_n 0, 1) := by decide +kernel
theorem d_Mo_enter_86 : decode m_Mo_enter.2.1 86 = .ok (.getfield 98, 3) := by decide +kernel
theorem d_Mo_enter_89 : decode m_Mo_enter.2.1 89 = .ok (.iload_n 3, 1) := by decide +kernel
theorem d_Mo_enter_90 : decode m_Mo_enter.2.1 90 = .ok (.iconst 0, 1) := by decide +kernel
theorem d_Mo_enter_91 : decode m_Mo_enter.2.1 91 = .ok (.bastore, 1) := by decide +kernel
theorem d_Mo_enter_92 : decode m_Mo_enter.2.1 92 = .ok (.iinc 3 1, 3) := by decide +kernel
theorem d_Mo_enter_95 : decode m_Mo_enter.2.1 95 = .ok (.goto (-68), 3) := by decide +kernel
theorem d_Mo_enter_98 : decode m_Mo_enter.2.1 98 = .ok (.aload_n 0, 1) := by decide +kernel
theorem d_Mo_enter_99 : decode m_Mo_enter.2.1 99 = .ok (.getfield 22, 3) := by decide +kernel
theorem d_Mo_enter_102 : decode m_Mo_enter.2.1 102 = .ok (.iload_n 1, 1) := by decide +kernel
theorem d_Mo_enter_103 : decode m_Mo_enter.2.1 103 = .ok (.iaload, 1) := by decide +kernel
theorem d_Mo_enter_104 : decode m_Mo_enter.2.1 104 = .ok (.ifCond .le 15, 3) := by decide +kernel
theorem d_Mo_enter_107 : decode m_Mo_enter.2.1 107 = .ok (.aload_n 0, 1) := by decide +kernel
theorem d_Mo_enter_108 : decode m_Mo_enter.2.1 108 = .ok (.getfield 25, 3) := by decide +kernel
theorem d_Mo_enter_111 : decode m_Mo_enter.2.1 111 = .ok (.bipush 12, 2) := by decide +kernel
theorem d_Mo_enter_113 : decode m_Mo_enter.2.1 113 = .ok (.iload_n 1, 1) := by decide +kernel
theorem d_Mo_enter_114 : decode m_Mo_enter.2.1 114 = .ok (.imul, 1) := by decide +kernel
theorem d_Mo_enter_115 : decode m_Mo_enter.2.1 115 = .ok (.iaload, 1) := by decide +kernel
theorem d_Mo_enter_116 : decode m_Mo_enter.2.1 116 = .ok (.goto 4, 3) := by decide +kernel
theorem d_Mo_enter_119 : decode m_Mo_enter.2.1 119 = .ok (.iconst 0, 1) := by decide +kernel
theorem d_Mo_enter_120 : decode m_Mo_enter.2.1 120 = .ok (.istore_n 3, 1) := by decide +kernel
theorem d_Mo_enter_121 : decode m_Mo_enter.2.1 121 = .ok (.aload_n 0, 1) := by decide +kernel
theorem d_Mo_enter_122 : decode m_Mo_enter.2.1 122 = .ok (.getfield 22, 3) := by decide +kernel
theorem d_Mo_enter_125 : decode m_Mo_enter.2.1 125 = .ok (.iload_n 1, 1) := by decide +kernel
theorem d_Mo_enter_126 : decode m_Mo_enter.2.1 126 = .ok (.iaload, 1) := by decide +kernel
theorem d_Mo_enter_127 : decode m_Mo_enter.2.1 127 = .ok (.iconst 1, 1) := by decide +kernel
theorem d_Mo_enter_128 : decode m_Mo_enter.2.1 128 = .ok (.if_icmp .le 17, 3) := by decide +kernel
theorem d_Mo_enter_131 : decode m_Mo_enter.2.1 131 = .ok (.aload_n 0, 1) := by decide +kernel
theorem d_Mo_enter_132 : decode m_Mo_enter.2.1 132 = .ok (.getfield 25, 3) := by decide +kernel
theorem d_Mo_enter_135 : decode m_Mo_enter.2.1 135 = .ok (.bipush 12, 2) := by decide +kernel
theorem d_Mo_enter_137 : decode m_Mo_enter.2.1 137 = .ok (.iload_n 1, 1) := by decide +kernel
theorem d_Mo_enter_138 : decode m_Mo_enter.2.1 138 = .ok (.imul, 1) := by decide +kernel
theorem d_Mo_enter_139 : decode m_Mo_enter.2.1 139 = .ok (.iconst 1, 1) := by decide +kernel
theorem d_Mo_enter_140 : decode m_Mo_enter.2.1 140 = .ok (.iadd, 1) := by decide +kernel
theorem d_Mo_enter_141 : decode m_Mo_enter.2.1 141 = .ok (.iaload, 1) := by decide +kernel
theorem d_Mo_enter_142 : decode m_Mo_enter.2.1 142 = .ok (.goto 4, 3) := by decide +kernel
theorem d_Mo_enter_145 : decode m_Mo_enter.2.1 145 = .ok (.iconst 0, 1) := by decide +kernel
theorem d_Mo_enter_146 : decode m_Mo_enter.2.1 146 = .ok (.istore 4, 2) := by decide +kernel
theorem d_Mo_enter_148 : decode m_Mo_enter.2.1 148 = .ok (.aload_n 0, 1) := by decide +kernel
theorem d_Mo_enter_149 : decode m_Mo_enter.2.1 149 = .ok (.iload_n 1, 1) := by decide +kernel
theorem d_Mo_enter_150 : decode m_Mo_enter.2.1 150 = .ok (.iload_n 2, 1) := by decide +kernel
theorem d_Mo_enter_151 : decode m_Mo_enter.2.1 151 = .ok (.iload_n 1, 1) := by decide +kernel
theorem d_Mo_enter_152 : decode m_Mo_enter.2.1 152 = .ok (.iconst 0, 1) := by decide +kernel
theorem d_Mo_enter_153 : decode m_Mo_enter.2.1 153 = .ok (.iload_n 3, 1) := by decide +kernel
theorem d_Mo_enter_154 : decode m_Mo_enter.2.1 154 = .ok (.iload 4, 2) := by decide +kernel
theorem d_Mo_enter_156 : decode m_Mo_enter.2.1 156 = .ok (.iconst 0, 1) := by decide +kernel
theorem d_Mo_enter_157 : decode m_Mo_enter.2.1 157 = .ok (.invokevirtual 189, 3) := by decide +kernel
theorem d_Mo_enter_160 : decode m_Mo_enter.2.1 160 = .ok (.aload_n 0, 1) := by decide +kernel
theorem d_Mo_enter_161 : decode m_Mo_enter.2.1 161 = .ok (.iconst 0, 1) := by decide +kernel
theorem d_Mo_enter_162 : decode m_Mo_enter.2.1 162 = .ok (.putfield 168, 3) := by decide +kernel
theorem d_Mo_enter_165 : decode m_Mo_enter.2.1 165 = .ok (.return_, 1) := by decide +kernel
theorem d_Mo_deliver_0 : decode m_Mo_deliver.2.1 0 = .ok (.iload_n 2, 1) := by decide +kernel
theorem d_Mo_deliver_1 : decode m_Mo_deliver.2.1 1 = .ok (.istore_n 3, 1) := by decide +kernel
theorem d_Mo_deliver_2 : decode m_Mo_deliver.2.1 2 = .ok (.iconst 0, 1) := by decide +kernel
theorem d_Mo_deliver_3 : decode m_Mo_deliver.2.1 3 = .ok (.istore 4, 2) := by decide +kernel
theorem d_Mo_deliver_5 : decode m_Mo_deliver.2.1 5 = .ok (.iload 4, 2) := by decide +kernel
theorem d_Mo_deliver_7 : decode m_Mo_deliver.2.1 7 = .ok (.aload_n 0, 1) := by decide +kernel
theorem d_Mo_deliver_8 : decode m_Mo_deliver.2.1 8 = .ok (.getfield 147, 3) := by decide +kernel
theorem d_Mo_deliver_11 : decode m_Mo_deliver.2.1 11 = .ok (.if_icmp .ge 58, 3) := by decide +kernel
theorem d_Mo_deliver_14 : decode m_Mo_deliver.2.1 14 = .ok (.iload_n 1, 1) := by decide +kernel
theorem d_Mo_deliver_15 : decode m_Mo_deliver.2.1 15 = .ok (.invokestatic 136, 3) := by decide +kernel
theorem d_Mo_deliver_18 : decode m_Mo_deliver.2.1 18 = .ok (.ifCond .eq 51, 3) := by decide +kernel
theorem d_Mo_deliver_21 : decode m_Mo_deliver.2.1 21 = .ok (.iload_n 2, 1) := by decide +kernel
theorem d_Mo_deliver_22 : decode m_Mo_deliver.2.1 22 = .ok (.ifCond .lt 47, 3) := by decide +kernel
theorem d_Mo_deliver_25 : decode m_Mo_deliver.2.1 25 = .ok (.aload_n 0, 1) := by decide +kernel
theorem d_Mo_deliver_26 : decode m_Mo_deliver.2.1 26 = .ok (.iload 4, 2) := by decide +kernel
theorem d_Mo_deliver_28 : decode m_Mo_deliver.2.1 28 = .ok (.iload_n 1, 1) := by decide +kernel
theorem d_Mo_deliver_29 : decode m_Mo_deliver.2.1 29 = .ok (.invokevirtual 150, 3) := by decide +kernel
theorem d_Mo_deliver_32 : decode m_Mo_deliver.2.1 32 = .ok (.ifCond .eq 31, 3) := by decide +kernel
theorem d_Mo_deliver_35 : decode m_Mo_deliver.2.1 35 = .ok (.iload_n 3, 1) := by decide +kernel
theorem d_Mo_deliver_36 : decode m_Mo_deliver.2.1 36 = .ok (.ifCond .ne 24, 3) := by decide +kernel
theorem d_Mo_deliver_39 : decode m_Mo_deliver.2.1 39 = .ok (.aload_n 0, 1) := by decide +kernel
theorem d_Mo_deliver_40 : decode m_Mo_deliver.2.1 40 = .ok (.iload_n 1, 1) := by decide +kernel
theorem d_Mo_deliver_41 : decode m_Mo_deliver.2.1 41 = .ok (.iload 4, 2) := by decide +kernel
theorem d_Mo_deliver_43 : decode m_Mo_deliver.2.1 43 = .ok (.invokevirtual 182, 3) := by decide +kernel
theorem d_Mo_deliver_46 : decode m_Mo_deliver.2.1 46 = .ok (.aload_n 0, 1) := by decide +kernel
theorem d_Mo_deliver_47 : decode m_Mo_deliver.2.1 47 = .ok (.getfield 7, 3) := by decide +kernel
theorem d_Mo_deliver_50 : decode m_Mo_deliver.2.1 50 = .ok (.iload 4, 2) := by decide +kernel
theorem d_Mo_deliver_52 : decode m_Mo_deliver.2.1 52 = .ok (.iaload, 1) := by decide +kernel
theorem d_Mo_deliver_53 : decode m_Mo_deliver.2.1 53 = .ok (.bipush 6, 2) := by decide +kernel
theorem d_Mo_deliver_55 : decode m_Mo_deliver.2.1 55 = .ok (.ishr, 1) := by decide +kernel
theorem d_Mo_deliver_56 : decode m_Mo_deliver.2.1 56 = .ok (.bipush 7, 2) := by decide +kernel
theorem d_Mo_deliver_58 : decode m_Mo_deliver.2.1 58 = .ok (.iand, 1) := by decide +kernel
theorem d_Mo_deliver_59 : decode m_Mo_deliver.2.1 59 = .ok (.ireturn, 1) := by decide +kernel
theorem d_Mo_deliver_60 : decode m_Mo_deliver.2.1 60 = .ok (.iinc 3 (-1), 3) := by decide +kernel
theorem d_Mo_deliver_63 : decode m_Mo_deliver.2.1 63 = .ok (.iinc 4 1, 3) := by decide +kernel
theorem d_Mo_deliver_66 : decode m_Mo_deliver.2.1 66 = .ok (.goto (-61), 3) := by decide +kernel
theorem d_Mo_deliver_69 : decode m_Mo_deliver.2.1 69 = .ok (.iconst (-1), 1) := by decide +kernel
theorem d_Mo_deliver_70 : decode m_Mo_deliver.2.1 70 = .ok (.ireturn, 1) := by decide +kernel
theorem d_Mo_betray_0 : decode m_Mo_betray.2.1 0 = .ok (.aload_n 0, 1) := by decide +kernel
theorem d_Mo_betray_1 : decode m_Mo_betray.2.1 1 = .ok (.getfield 153, 3) := by decide +kernel
theorem d_Mo_betray_4 : decode m_Mo_betray.2.1 4 = .ok (.istore_n 1, 1) := by decide +kernel
theorem d_Mo_betray_5 : decode m_Mo_betray.2.1 5 = .ok (.aload_n 0, 1) := by decide +kernel
theorem d_Mo_betray_6 : decode m_Mo_betray.2.1 6 = .ok (.iconst 1, 1) := by decide +kernel
theorem d_Mo_betray_7 : decode m_Mo_betray.2.1 7 = .ok (.putfield 153, 3) := by decide +kernel
theorem d_Mo_betray_10 : decode m_Mo_betray.2.1 10 = .ok (.iload_n 1, 1) := by decide +kernel
theorem d_Mo_betray_11 : decode m_Mo_betray.2.1 11 = .ok (.ifCond .ne 7, 3) := by decide +kernel
theorem d_Mo_betray_14 : decode m_Mo_betray.2.1 14 = .ok (.iconst 1, 1) := by decide +kernel
theorem d_Mo_betray_15 : decode m_Mo_betray.2.1 15 = .ok (.goto 4, 3) := by decide +kernel
theorem d_Mo_betray_18 : decode m_Mo_betray.2.1 18 = .ok (.iconst 0, 1) := by decide +kernel
theorem d_Mo_betray_19 : decode m_Mo_betray.2.1 19 = .ok (.ireturn, 1) := by decide +kernel
theorem d_Mo_speak_0 : decode m_Mo_speak.2.1 0 = .ok (.iload_n 1, 1) := by decide +kernel
theorem d_Mo_speak_1 : decode m_Mo_speak.2.1 1 = .ok (.invokestatic 136, 3) := by decide +kernel
theorem d_Mo_speak_4 : decode m_Mo_speak.2.1 4 = .ok (.ifCond .eq 32, 3) := by decide +kernel
theorem d_Mo_speak_7 : decode m_Mo_speak.2.1 7 = .ok (.iload_n 2, 1) := by decide +kernel
theorem d_Mo_speak_8 : decode m_Mo_speak.2.1 8 = .ok (.invokestatic 136, 3) := by decide +kernel
theorem d_Mo_speak_11 : decode m_Mo_speak.2.1 11 = .ok (.ifCond .eq 25, 3) := by decide +kernel
theorem d_Mo_speak_14 : decode m_Mo_speak.2.1 14 = .ok (.iload_n 3, 1) := by decide +kernel
theorem d_Mo_speak_15 : decode m_Mo_speak.2.1 15 = .ok (.invokestatic 136, 3) := by decide +kernel
theorem d_Mo_speak_18 : decode m_Mo_speak.2.1 18 = .ok (.ifCond .eq 18, 3) := by decide +kernel
theorem d_Mo_speak_21 : decode m_Mo_speak.2.1 21 = .ok (.iload 4, 2) := by decide +kernel
theorem d_Mo_speak_23 : decode m_Mo_speak.2.1 23 = .ok (.ifCond .lt 13, 3) := by decide +kernel
theorem d_Mo_speak_26 : decode m_Mo_speak.2.1 26 = .ok (.iload 4, 2) := by decide +kernel
end
section
theorem d_Mo_speak_28 : decode m_Mo_speak.2.1 28 = .ok (.iconst 4, 1) := by decide +kernel
theorem d_Mo_speak_29 : decode m_Mo_speak.2.1 29 = .ok (.if_icmp .gt 7, 3) := by decide +kernel
theorem d_Mo_speak_32 : decode m_Mo_speak.2.1 32 = .ok (.iconst 1, 1) := by decide +kernel
theorem d_Mo_speak_33 : decode m_Mo_speak.2.1 33 = .ok (.goto 4, 3) := by decide +kernel
theorem d_Mo_speak_36 : decode m_Mo_speak.2.1 36 = .ok (.iconst 0, 1) := by decide +kernel
theorem d_Mo_speak_37 : decode m_Mo_speak.2.1 37 = .ok (.istore 7, 2) := by decide +kernel
theorem d_Mo_speak_39 : decode m_Mo_speak.2.1 39 = .ok (.iload 4, 2) := by decide +kernel
theorem d_Mo_speak_41 : decode m_Mo_speak.2.1 41 = .ok (.iconst 3, 1) := by decide +kernel
theorem d_Mo_speak_42 : decode m_Mo_speak.2.1 42 = .ok (.if_icmp .lt 25, 3) := by decide +kernel
theorem d_Mo_speak_45 : decode m_Mo_speak.2.1 45 = .ok (.iload 5, 2) := by decide +kernel
theorem d_Mo_speak_47 : decode m_Mo_speak.2.1 47 = .ok (.ifCond .lt 24, 3) := by decide +kernel
theorem d_Mo_speak_50 : decode m_Mo_speak.2.1 50 = .ok (.iload 5, 2) := by decide +kernel
theorem d_Mo_speak_52 : decode m_Mo_speak.2.1 52 = .ok (.iconst 5, 1) := by decide +kernel
theorem d_Mo_speak_53 : decode m_Mo_speak.2.1 53 = .ok (.if_icmp .gt 18, 3) := by decide +kernel
theorem d_Mo_speak_56 : decode m_Mo_speak.2.1 56 = .ok (.iload 6, 2) := by decide +kernel
theorem d_Mo_speak_58 : decode m_Mo_speak.2.1 58 = .ok (.ifCond .eq 9, 3) := by decide +kernel
theorem d_Mo_speak_61 : decode m_Mo_speak.2.1 61 = .ok (.iload 6, 2) := by decide +kernel
theorem d_Mo_speak_63 : decode m_Mo_speak.2.1 63 = .ok (.iconst 1, 1) := by decide +kernel
theorem d_Mo_speak_64 : decode m_Mo_speak.2.1 64 = .ok (.if_icmp .ne 7, 3) := by decide +kernel
theorem d_Mo_speak_67 : decode m_Mo_speak.2.1 67 = .ok (.iconst 1, 1) := by decide +kernel
theorem d_Mo_speak_68 : decode m_Mo_speak.2.1 68 = .ok (.goto 4, 3) := by decide +kernel
theorem d_Mo_speak_71 : decode m_Mo_speak.2.1 71 = .ok (.iconst 0, 1) := by decide +kernel
theorem d_Mo_speak_72 : decode m_Mo_speak.2.1 72 = .ok (.istore 8, 2) := by decide +kernel
theorem d_Mo_speak_74 : decode m_Mo_speak.2.1 74 = .ok (.aload_n 0, 1) := by decide +kernel
theorem d_Mo_speak_75 : decode m_Mo_speak.2.1 75 = .ok (.getfield 153, 3) := by decide +kernel
theorem d_Mo_speak_78 : decode m_Mo_speak.2.1 78 = .ok (.ifCond .eq 23, 3) := by decide +kernel
theorem d_Mo_speak_81 : decode m_Mo_speak.2.1 81 = .ok (.iload 7, 2) := by decide +kernel
theorem d_Mo_speak_83 : decode m_Mo_speak.2.1 83 = .ok (.ifCond .eq 18, 3) := by decide +kernel
theorem d_Mo_speak_86 : decode m_Mo_speak.2.1 86 = .ok (.iload 8, 2) := by decide +kernel
theorem d_Mo_speak_88 : decode m_Mo_speak.2.1 88 = .ok (.ifCond .eq 13, 3) := by decide +kernel
theorem d_Mo_speak_91 : decode m_Mo_speak.2.1 91 = .ok (.aload_n 0, 1) := by decide +kernel
theorem d_Mo_speak_92 : decode m_Mo_speak.2.1 92 = .ok (.getfield 186, 3) := by decide +kernel
theorem d_Mo_speak_95 : decode m_Mo_speak.2.1 95 = .ok (.sipush 300, 3) := by decide +kernel
theorem d_Mo_speak_98 : decode m_Mo_speak.2.1 98 = .ok (.if_icmp .ne 5, 3) := by decide +kernel
theorem d_Mo_speak_101 : decode m_Mo_speak.2.1 101 = .ok (.iconst 0, 1) := by decide +kernel
theorem d_Mo_speak_102 : decode m_Mo_speak.2.1 102 = .ok (.ireturn, 1) := by decide +kernel
theorem d_Mo_speak_103 : decode m_Mo_speak.2.1 103 = .ok (.aload_n 0, 1) := by decide +kernel
theorem d_Mo_speak_104 : decode m_Mo_speak.2.1 104 = .ok (.dup, 1) := by decide +kernel
theorem d_Mo_speak_105 : decode m_Mo_speak.2.1 105 = .ok (.getfield 186, 3) := by decide +kernel
theorem d_Mo_speak_108 : decode m_Mo_speak.2.1 108 = .ok (.iconst 1, 1) := by decide +kernel
theorem d_Mo_speak_109 : decode m_Mo_speak.2.1 109 = .ok (.iadd, 1) := by decide +kernel
theorem d_Mo_speak_110 : decode m_Mo_speak.2.1 110 = .ok (.putfield 186, 3) := by decide +kernel
theorem d_Mo_speak_113 : decode m_Mo_speak.2.1 113 = .ok (.aload_n 0, 1) := by decide +kernel
theorem d_Mo_speak_114 : decode m_Mo_speak.2.1 114 = .ok (.iconst 3, 1) := by decide +kernel
theorem d_Mo_speak_115 : decode m_Mo_speak.2.1 115 = .ok (.iload_n 2, 1) := by decide +kernel
theorem d_Mo_speak_116 : decode m_Mo_speak.2.1 116 = .ok (.iload_n 3, 1) := by decide +kernel
theorem d_Mo_speak_117 : decode m_Mo_speak.2.1 117 = .ok (.iload 4, 2) := by decide +kernel
theorem d_Mo_speak_119 : decode m_Mo_speak.2.1 119 = .ok (.iload 5, 2) := by decide +kernel
theorem d_Mo_speak_121 : decode m_Mo_speak.2.1 121 = .ok (.iload 6, 2) := by decide +kernel
theorem d_Mo_speak_123 : decode m_Mo_speak.2.1 123 = .ok (.bipush 15, 2) := by decide +kernel
theorem d_Mo_speak_125 : decode m_Mo_speak.2.1 125 = .ok (.iconst 1, 1) := by decide +kernel
theorem d_Mo_speak_126 : decode m_Mo_speak.2.1 126 = .ok (.iload_n 1, 1) := by decide +kernel
theorem d_Mo_speak_127 : decode m_Mo_speak.2.1 127 = .ok (.ishl, 1) := by decide +kernel
theorem d_Mo_speak_128 : decode m_Mo_speak.2.1 128 = .ok (.ixor, 1) := by decide +kernel
theorem d_Mo_speak_129 : decode m_Mo_speak.2.1 129 = .ok (.bipush 16, 2) := by decide +kernel
theorem d_Mo_speak_131 : decode m_Mo_speak.2.1 131 = .ok (.ior, 1) := by decide +kernel
theorem d_Mo_speak_132 : decode m_Mo_speak.2.1 132 = .ok (.invokevirtual 189, 3) := by decide +kernel
theorem d_Mo_speak_135 : decode m_Mo_speak.2.1 135 = .ok (.iconst 1, 1) := by decide +kernel
theorem d_Mo_speak_136 : decode m_Mo_speak.2.1 136 = .ok (.ireturn, 1) := by decide +kernel
theorem d_Mo_begin_0 : decode m_Mo_begin.2.1 0 = .ok (.iload_n 1, 1) := by decide +kernel
theorem d_Mo_begin_1 : decode m_Mo_begin.2.1 1 = .ok (.invokestatic 136, 3) := by decide +kernel
theorem d_Mo_begin_4 : decode m_Mo_begin.2.1 4 = .ok (.ifCond .eq 24, 3) := by decide +kernel
theorem d_Mo_begin_7 : decode m_Mo_begin.2.1 7 = .ok (.aload_n 0, 1) := by decide +kernel
theorem d_Mo_begin_8 : decode m_Mo_begin.2.1 8 = .ok (.getfield 19, 3) := by decide +kernel
theorem d_Mo_begin_11 : decode m_Mo_begin.2.1 11 = .ok (.iload_n 1, 1) := by decide +kernel
theorem d_Mo_begin_12 : decode m_Mo_begin.2.1 12 = .ok (.iaload, 1) := by decide +kernel
theorem d_Mo_begin_13 : decode m_Mo_begin.2.1 13 = .ok (.ifCond .ge 15, 3) := by decide +kernel
theorem d_Mo_begin_16 : decode m_Mo_begin.2.1 16 = .ok (.iload_n 1, 1) := by decide +kernel
theorem d_Mo_begin_17 : decode m_Mo_begin.2.1 17 = .ok (.iconst 3, 1) := by decide +kernel
theorem d_Mo_begin_18 : decode m_Mo_begin.2.1 18 = .ok (.if_icmp .ne 12, 3) := by decide +kernel
theorem d_Mo_begin_21 : decode m_Mo_begin.2.1 21 = .ok (.aload_n 0, 1) := by decide +kernel
theorem d_Mo_begin_22 : decode m_Mo_begin.2.1 22 = .ok (.getfield 153, 3) := by decide +kernel
theorem d_Mo_begin_25 : decode m_Mo_begin.2.1 25 = .ok (.ifCond .eq 5, 3) := by decide +kernel
theorem d_Mo_begin_28 : decode m_Mo_begin.2.1 28 = .ok (.iconst 0, 1) := by decide +kernel
theorem d_Mo_begin_29 : decode m_Mo_begin.2.1 29 = .ok (.ireturn, 1) := by decide +kernel
theorem d_Mo_begin_30 : decode m_Mo_begin.2.1 30 = .ok (.aload_n 0, 1) := by decide +kernel
theorem d_Mo_begin_31 : decode m_Mo_begin.2.1 31 = .ok (.iload_n 1, 1) := by decide +kernel
theorem d_Mo_begin_32 : decode m_Mo_begin.2.1 32 = .ok (.iconst 0, 1) := by decide +kernel
theorem d_Mo_begin_33 : decode m_Mo_begin.2.1 33 = .ok (.invokevirtual 193, 3) := by decide +kernel
theorem d_Mo_begin_36 : decode m_Mo_begin.2.1 36 = .ok (.aload_n 0, 1) := by decide +kernel
theorem d_Mo_begin_37 : decode m_Mo_begin.2.1 37 = .ok (.iload_n 1, 1) := by decide +kernel
theorem d_Mo_begin_38 : decode m_Mo_begin.2.1 38 = .ok (.invokevirtual 171, 3) := by decide +kernel
theorem d_Mo_begin_41 : decode m_Mo_begin.2.1 41 = .ok (.iconst 1, 1) := by decide +kernel
theorem d_Mo_begin_42 : decode m_Mo_begin.2.1 42 = .ok (.ireturn, 1) := by decide +kernel
theorem d_Mo_epoch_0 : decode m_Mo_epoch.2.1 0 = .ok (.iload_n 1, 1) := by decide +kernel
theorem d_Mo_epoch_1 : decode m_Mo_epoch.2.1 1 = .ok (.invokestatic 136, 3) := by decide +kernel
theorem d_Mo_epoch_4 : decode m_Mo_epoch.2.1 4 = .ok (.ifCond .eq 12, 3) := by decide +kernel
theorem d_Mo_epoch_7 : decode m_Mo_epoch.2.1 7 = .ok (.aload_n 0, 1) := by decide +kernel
theorem d_Mo_epoch_8 : decode m_Mo_epoch.2.1 8 = .ok (.getfield 19, 3) := by decide +kernel
theorem d_Mo_epoch_11 : decode m_Mo_epoch.2.1 11 = .ok (.iload_n 1, 1) := by decide +kernel
theorem d_Mo_epoch_12 : decode m_Mo_epoch.2.1 12 = .ok (.iaload, 1) := by decide +kernel
theorem d_Mo_epoch_13 : decode m_Mo_epoch.2.1 13 = .ok (.goto 4, 3) := by decide +kernel
theorem d_Mo_epoch_16 : decode m_Mo_epoch.2.1 16 = .ok (.iconst (-1), 1) := by decide +kernel
theorem d_Mo_epoch_17 : decode m_Mo_epoch.2.1 17 = .ok (.ireturn, 1) := by decide +kernel
theorem d_Mo_ledger_0 : decode m_Mo_ledger.2.1 0 = .ok (.iload_n 1, 1) := by decide +kernel
theorem d_Mo_ledger_1 : decode m_Mo_ledger.2.1 1 = .ok (.invokestatic 136, 3) := by decide +kernel
theorem d_Mo_ledger_4 : decode m_Mo_ledger.2.1 4 = .ok (.ifCond .eq 18, 3) := by decide +kernel
theorem d_Mo_ledger_7 : decode m_Mo_ledger.2.1 7 = .ok (.iload_n 2, 1) := by decide +kernel
theorem d_Mo_ledger_8 : decode m_Mo_ledger.2.1 8 = .ok (.iconst (-1), 1) := by decide +kernel
theorem d_Mo_ledger_9 : decode m_Mo_ledger.2.1 9 = .ok (.if_icmp .lt 13, 3) := by decide +kernel
theorem d_Mo_ledger_12 : decode m_Mo_ledger.2.1 12 = .ok (.iload_n 2, 1) := by decide +kernel
theorem d_Mo_ledger_13 : decode m_Mo_ledger.2.1 13 = .ok (.aload_n 0, 1) := by decide +kernel
theorem d_Mo_ledger_14 : decode m_Mo_ledger.2.1 14 = .ok (.getfield 28, 3) := by decide +kernel
theorem d_Mo_ledger_17 : decode m_Mo_ledger.2.1 17 = .ok (.iload_n 1, 1) := by decide +kernel
theorem d_Mo_ledger_18 : decode m_Mo_ledger.2.1 18 = .ok (.iaload, 1) := by decide +kernel
theorem d_Mo_ledger_19 : decode m_Mo_ledger.2.1 19 = .ok (.if_icmp .lt 5, 3) := by decide +kernel
theorem d_Mo_ledger_22 : decode m_Mo_ledger.2.1 22 = .ok (.iconst (-1), 1) := by decide +kernel
theorem d_Mo_ledger_23 : decode m_Mo_ledger.2.1 23 = .ok (.ireturn, 1) := by decide +kernel
theorem d_Mo_ledger_24 : decode m_Mo_ledger.2.1 24 = .ok (.iload_n 2, 1) := by decide +kernel
theorem d_Mo_ledger_25 : decode m_Mo_ledger.2.1 25 = .ok (.ifCond .ge 12, 3) := by decide +kernel
theorem d_Mo_ledger_28 : decode m_Mo_ledger.2.1 28 = .ok (.aload_n 0, 1) := by decide +kernel
theorem d_Mo_ledger_29 : decode m_Mo_ledger.2.1 29 = .ok (.getfield 28, 3) := by decide +kernel
theorem d_Mo_ledger_32 : decode m_Mo_ledger.2.1 32 = .ok (.iload_n 1, 1) := by decide +kernel
theorem d_Mo_ledger_33 : decode m_Mo_ledger.2.1 33 = .ok (.iaload, 1) := by decide +kernel
theorem d_Mo_ledger_34 : decode m_Mo_ledger.2.1 34 = .ok (.goto 14, 3) := by decide +kernel
theorem d_Mo_ledger_37 : decode m_Mo_ledger.2.1 37 = .ok (.aload_n 0, 1) := by decide +kernel
theorem d_Mo_ledger_38 : decode m_Mo_ledger.2.1 38 = .ok (.getfield 31, 3) := by decide +kernel
theorem d_Mo_ledger_41 : decode m_Mo_ledger.2.1 41 = .ok (.bipush 40, 2) := by decide +kernel
theorem d_Mo_ledger_43 : decode m_Mo_ledger.2.1 43 = .ok (.iload_n 1, 1) := by decide +kernel
theorem d_Mo_ledger_44 : decode m_Mo_ledger.2.1 44 = .ok (.imul, 1) := by decide +kernel
theorem d_Mo_ledger_45 : decode m_Mo_ledger.2.1 45 = .ok (.iload_n 2, 1) := by decide +kernel
theorem d_Mo_ledger_46 : decode m_Mo_ledger.2.1 46 = .ok (.iadd, 1) := by decide +kernel
theorem d_Mo_ledger_47 : decode m_Mo_ledger.2.1 47 = .ok (.iaload, 1) := by decide +kernel
theorem d_Mo_ledger_48 : decode m_Mo_ledger.2.1 48 = .ok (.ireturn, 1) := by decide +kernel
theorem d_Mo_queue_0 : decode m_Mo_queue.2.1 0 = .ok (.iload_n 1, 1) := by decide +kernel
theorem d_Mo_queue_1 : decode m_Mo_queue.2.1 1 = .ok (.invokestatic 136, 3) := by decide +kernel
theorem d_Mo_queue_4 : decode m_Mo_queue.2.1 4 = .ok (.ifCond .eq 18, 3) := by decide +kernel
theorem d_Mo_queue_7 : decode m_Mo_queue.2.1 7 = .ok (.iload_n 2, 1) := by decide +kernel
theorem d_Mo_queue_8 : decode m_Mo_queue.2.1 8 = .ok (.iconst (-1), 1) := by decide +kernel
theorem d_Mo_queue_9 : decode m_Mo_queue.2.1 9 = .ok (.if_icmp .lt 13, 3) := by decide +kernel
theorem d_Mo_queue_12 : decode m_Mo_queue.2.1 12 = .ok (.iload_n 2, 1) := by decide +kernel
theorem d_Mo_queue_13 : decode m_Mo_queue.2.1 13 = .ok (.aload_n 0, 1) := by decide +kernel
theorem d_Mo_queue_14 : decode m_Mo_queue.2.1 14 = .ok (.getfield 22, 3) := by decide +kernel
theorem d_Mo_queue_17 : decode m_Mo_queue.2.1 17 = .ok (.iload_n 1, 1) := by decide +kernel
theorem d_Mo_queue_18 : decode m_Mo_queue.2.1 18 = .ok (.iaload, 1) := by decide +kernel
theorem d_Mo_queue_19 : decode m_Mo_queue.2.1 19 = .ok (.if_icmp .lt 5, 3) := by decide +kernel
theorem d_Mo_queue_22 : decode m_Mo_queue.2.1 22 = .ok (.iconst (-1), 1) := by decide +kernel
theorem d_Mo_queue_23 : decode m_Mo_queue.2.1 23 = .ok (.ireturn, 1) := by decide +kernel
theorem d_Mo_queue_24 : decode m_Mo_queue.2.1 24 = .ok (.iload_n 2, 1) := by decide +kernel
theorem d_Mo_queue_25 : decode m_Mo_queue.2.1 25 = .ok (.ifCond .ge 12, 3) := by decide +kernel
theorem d_Mo_queue_28 : decode m_Mo_queue.2.1 28 = .ok (.aload_n 0, 1) := by decide +kernel
theorem d_Mo_queue_29 : decode m_Mo_queue.2.1 29 = .ok (.getfield 22, 3) := by decide +kernel
theorem d_Mo_queue_32 : decode m_Mo_queue.2.1 32 = .ok (.iload_n 1, 1) := by decide +kernel
theorem d_Mo_queue_33 : decode m_Mo_queue.2.1 33 = .ok (.iaload, 1) := by decide +kernel
theorem d_Mo_queue_34 : decode m_Mo_queue.2.1 34 = .ok (.goto 14, 3) := by decide +kernel
theorem d_Mo_queue_37 : decode m_Mo_queue.2.1 37 = .ok (.aload_n 0, 1) := by decide +kernel
theorem d_Mo_queue_38 : decode m_Mo_queue.2.1 38 = .ok (.getfield 25, 3) := by decide +kernel
theorem d_Mo_queue_41 : decode m_Mo_queue.2.1 41 = .ok (.bipush 12, 2) := by decide +kernel
theorem d_Mo_queue_43 : decode m_Mo_queue.2.1 43 = .ok (.iload_n 1, 1) := by decide +kernel
theorem d_Mo_queue_44 : decode m_Mo_queue.2.1 44 = .ok (.imul, 1) := by decide +kernel
theorem d_Mo_queue_45 : decode m_Mo_queue.2.1 45 = .ok (.iload_n 2, 1) := by decide +kernel
theorem d_Mo_queue_46 : decode m_Mo_queue.2.1 46 = .ok (.iadd, 1) := by decide +kernel
theorem d_Mo_queue_47 : decode m_Mo_queue.2.1 47 = .ok (.iaload, 1) := by decide +kernel
theorem d_Mo_queue_48 : decode m_Mo_queue.2.1 48 = .ok (.ireturn, 1) := by decide +kernel
theorem d_Mo_instance_0 : decode m_Mo_instance.2.1 0 = .ok (.iload_n 1, 1) := by decide +kernel
theorem d_Mo_instance_1 : decode m_Mo_instance.2.1 1 = .ok (.invokestatic 136, 3) := by decide +kernel
theorem d_Mo_instance_4 : decode m_Mo_instance.2.1 4 = .ok (.ifCond .eq 39, 3) := by decide +kernel
theorem d_Mo_instance_7 : decode m_Mo_instance.2.1 7 = .ok (.iload_n 2, 1) := by decide +kernel
theorem d_Mo_instance_8 : decode m_Mo_instance.2.1 8 = .ok (.invokestatic 136, 3) := by decide +kernel
theorem d_Mo_instance_11 : decode m_Mo_instance.2.1 11 = .ok (.ifCond .eq 32, 3) := by decide +kernel
theorem d_Mo_instance_14 : decode m_Mo_instance.2.1 14 = .ok (.iload_n 3, 1) := by decide +kernel
theorem d_Mo_instance_15 : decode m_Mo_instance.2.1 15 = .ok (.ifCond .lt 28, 3) := by decide +kernel
theorem d_Mo_instance_18 : decode m_Mo_instance.2.1 18 = .ok (.iload_n 3, 1) := by decide +kernel
theorem d_Mo_instance_19 : decode m_Mo_instance.2.1 19 = .ok (.bipush 6, 2) := by decide +kernel
theorem d_Mo_instance_21 : decode m_Mo_instance.2.1 21 = .ok (.if_icmp .gt 22, 3) := by decide +kernel
theorem d_Mo_instance_24 : decode m_Mo_instance.2.1 24 = .ok (.aload_n 0, 1) := by decide +kernel
theorem d_Mo_instance_25 : decode m_Mo_instance.2.1 25 = .ok (.getfield 19, 3) := by decide +kernel
theorem d_Mo_instance_28 : decode m_Mo_instance.2.1 28 = .ok (.iload_n 1, 1) := by decide +kernel
theorem d_Mo_instance_29 : decode m_Mo_instance.2.1 29 = .ok (.iaload, 1) := by decide +kernel
theorem d_Mo_instance_30 : decode m_Mo_instance.2.1 30 = .ok (.ifCond .lt 13, 3) := by decide +kernel
theorem d_Mo_instance_33 : decode m_Mo_instance.2.1 33 = .ok (.aload_n 0, 1) := by decide +kernel
theorem d_Mo_instance_34 : decode m_Mo_instance.2.1 34 = .ok (.getfield 19, 3) := by decide +kernel
theorem d_Mo_instance_37 : decode m_Mo_instance.2.1 37 = .ok (.iload_n 1, 1) := by decide +kernel
theorem d_Mo_instance_38 : decode m_Mo_instance.2.1 38 = .ok (.iaload, 1) := by decide +kernel
theorem d_Mo_instance_39 : decode m_Mo_instance.2.1 39 = .ok (.iconst 3, 1) := by decide +kernel
theorem d_Mo_instance_40 : decode m_Mo_instance.2.1 40 = .ok (.if_icmp .le 5, 3) := by decide +kernel
theorem d_Mo_instance_43 : decode m_Mo_instance.2.1 43 = .ok (.iconst (-1), 1) := by decide +kernel
theorem d_Mo_instance_44 : decode m_Mo_instance.2.1 44 = .ok (.ireturn, 1) := by decide +kernel
theorem d_Mo_instance_45 : decode m_Mo_instance.2.1 45 = .ok (.bipush 16, 2) := by decide +kernel
theorem d_Mo_instance_47 : decode m_Mo_instance.2.1 47 = .ok (.iload_n 1, 1) := by decide +kernel
theorem d_Mo_instance_48 : decode m_Mo_instance.2.1 48 = .ok (.imul, 1) := by decide +kernel
theorem d_Mo_instance_49 : decode m_Mo_instance.2.1 49 = .ok (.iconst 4, 1) := by decide +kernel
theorem d_Mo_instance_50 : decode m_Mo_instance.2.1 50 = .ok (.aload_n 0, 1) := by decide +kernel
theorem d_Mo_instance_51 : decode m_Mo_instance.2.1 51 = .ok (.getfield 19, 3) := by decide +kernel
theorem d_Mo_instance_54 : decode m_Mo_instance.2.1 54 = .ok (.iload_n 1, 1) := by decide +kernel
theorem d_Mo_instance_55 : decode m_Mo_instance.2.1 55 = .ok (.iaload, 1) := by decide +kernel
theorem d_Mo_instance_56 : decode m_Mo_instance.2.1 56 = .ok (.imul, 1) := by decide +kernel
theorem d_Mo_instance_57 : decode m_Mo_instance.2.1 57 = .ok (.iadd, 1) := by decide +kernel
theorem d_Mo_instance_58 : decode m_Mo_instance.2.1 58 = .ok (.iload_n 2, 1) := by decide +kernel
theorem d_Mo_instance_59 : decode m_Mo_instance.2.1 59 = .ok (.iadd, 1) := by decide +kernel
theorem d_Mo_instance_60 : decode m_Mo_instance.2.1 60 = .ok (.istore 4, 2) := by decide +kernel
theorem d_Mo_instance_62 : decode m_Mo_instance.2.1 62 = .ok (.iconst 4, 1) := by decide +kernel
theorem d_Mo_instance_63 : decode m_Mo_instance.2.1 63 = .ok (.iload_n 1, 1) := by decide +kernel
theorem d_Mo_instance_64 : decode m_Mo_instance.2.1 64 = .ok (.imul, 1) := by decide +kernel
theorem d_Mo_instance_65 : decode m_Mo_instance.2.1 65 = .ok (.iload_n 2, 1) := by decide +kernel
theorem d_Mo_instance_66 : decode m_Mo_instance.2.1 66 = .ok (.iadd, 1) := by decide +kernel
theorem d_Mo_instance_67 : decode m_Mo_instance.2.1 67 = .ok (.istore 5, 2) := by decide +kernel
theorem d_Mo_instance_69 : decode m_Mo_instance.2.1 69 = .ok (.iload_n 3, 1) := by decide +kernel
theorem d_Mo_instance_70 : decode m_Mo_instance.2.1 70 = .ok (.ifCond .ne 51, 3) := by decide +kernel
theorem d_Mo_instance_73 : decode m_Mo_instance.2.1 73 = .ok (.aload_n 0, 1) := by decide +kernel
theorem d_Mo_instance_74 : decode m_Mo_instance.2.1 74 = .ok (.getfield 65, 3) := by decide +kernel
theorem d_Mo_instance_77 : decode m_Mo_instance.2.1 77 = .ok (.iload 4, 2) := by decide +kernel
theorem d_Mo_instance_79 : decode m_Mo_instance.2.1 79 = .ok (.baload, 1) := by decide +kernel
theorem d_Mo_instance_80 : decode m_Mo_instance.2.1 80 = .ok (.ifCond .eq 7, 3) := by decide +kernel
theorem d_Mo_instance_83 : decode m_Mo_instance.2.1 83 = .ok (.iconst 1, 1) := by decide +kernel
theorem d_Mo_instance_84 : decode m_Mo_instance.2.1 84 = .ok (.goto 4, 3) := by decide +kernel
theorem d_Mo_instance_87 : decode m_Mo_instance.2.1 87 = .ok (.iconst 0, 1) := by decide +kernel
theorem d_Mo_instance_88 : decode m_Mo_instance.2.1 88 = .ok (.aload_n 0, 1) := by decide +kernel
theorem d_Mo_instance_89 : decode m_Mo_instance.2.1 89 = .ok (.getfield 68, 3) := by decide +kernel
theorem d_Mo_instance_92 : decode m_Mo_instance.2.1 92 = .ok (.iload 4, 2) := by decide +kernel
theorem d_Mo_instance_94 : decode m_Mo_instance.2.1 94 = .ok (.baload, 1) := by decide +kernel
theorem d_Mo_instance_95 : decode m_Mo_instance.2.1 95 = .ok (.ifCond .eq 7, 3) := by decide +kernel
theorem d_Mo_instance_98 : decode m_Mo_instance.2.1 98 = .ok (.iconst 2, 1) := by decide +kernel
theorem d_Mo_instance_99 : decode m_Mo_instance.2.1 99 = .ok (.goto 4, 3) := by decide +kernel
theorem d_Mo_instance_102 : decode m_Mo_instance.2.1 102 = .ok (.iconst 0, 1) := by decide +kernel
theorem d_Mo_instance_103 : decode m_Mo_instance.2.1 103 = .ok (.iadd, 1) := by decide +kernel
theorem d_Mo_instance_104 : decode m_Mo_instance.2.1 104 = .ok (.aload_n 0, 1) := by decide +kernel
theorem d_Mo_instance_105 : decode m_Mo_instance.2.1 105 = .ok (.getfield 77, 3) := by decide +kernel
theorem d_Mo_instance_108 : decode m_Mo_instance.2.1 108 = .ok (.iload 5, 2) := by decide +kernel
theorem d_Mo_instance_110 : decode m_Mo_instance.2.1 110 = .ok (.iaload, 1) := by decide +kernel
theorem d_Mo_instance_111 : decode m_Mo_instance.2.1 111 = .ok (.ifCond .lt 7, 3) := by decide +kernel
theorem d_Mo_instance_114 : decode m_Mo_instance.2.1 114 = .ok (.iconst 4, 1) := by decide +kernel
theorem d_Mo_instance_115 : decode m_Mo_instance.2.1 115 = .ok (.goto 4, 3) := by decide +kernel
theorem d_Mo_instance_118 : decode m_Mo_instance.2.1 118 = .ok (.iconst 0, 1) := by decide +kernel
theorem d_Mo_instance_119 : decode m_Mo_instance.2.1 119 = .ok (.iadd, 1) := by decide +kernel
theorem d_Mo_instance_120 : decode m_Mo_instance.2.1 120 = .ok (.ireturn, 1) := by decide +kernel
theorem d_Mo_instance_121 : decode m_Mo_instance.2.1 121 = .ok (.iload_n 3, 1) := by decide +kernel
theorem d_Mo_instance_122 : decode m_Mo_instance.2.1 122 = .ok (.iconst 2, 1) := by decide +kernel
theorem d_Mo_instance_123 : decode m_Mo_instance.2.1 123 = .ok (.if_icmp .eq 8, 3) := by decide +kernel
theorem d_Mo_instance_126 : decode m_Mo_instance.2.1 126 = .ok (.iload_n 3, 1) := by decide +kernel
theorem d_Mo_instance_127 : decode m_Mo_instance.2.1 127 = .ok (.iconst 3, 1) := by decide +kernel
theorem d_Mo_instance_128 : decode m_Mo_instance.2.1 128 = .ok (.if_icmp .ne 40, 3) := by decide +kernel
theorem d_Mo_instance_131 : decode m_Mo_instance.2.1 131 = .ok (.aload_n 0, 1) := by decide +kernel
theorem d_Mo_instance_132 : decode m_Mo_instance.2.1 132 = .ok (.getfield 80, 3) := by decide +kernel
theorem d_Mo_instance_135 : decode m_Mo_instance.2.1 135 = .ok (.iload 5, 2) := by decide +kernel
theorem d_Mo_instance_137 : decode m_Mo_instance.2.1 137 = .ok (.baload, 1) := by decide +kernel
theorem d_Mo_instance_138 : decode m_Mo_instance.2.1 138 = .ok (.ifCond .ne 7, 3) := by decide +kernel
theorem d_Mo_instance_141 : decode m_Mo_instance.2.1 141 = .ok (.iconst (-1), 1) := by decide +kernel
theorem d_Mo_instance_142 : decode m_Mo_instance.2.1 142 = .ok (.goto 25, 3) := by decide +kernel
theorem d_Mo_instance_145 : decode m_Mo_instance.2.1 145 = .ok (.iload_n 3, 1) := by decide +kernel
theorem d_Mo_instance_146 : decode m_Mo_instance.2.1 146 = .ok (.iconst 2, 1) := by decide +kernel
theorem d_Mo_instance_147 : decode m_Mo_instance.2.1 147 = .ok (.if_icmp .ne 13, 3) := by decide +kernel
theorem d_Mo_instance_150 : decode m_Mo_instance.2.1 150 = .ok (.aload_n 0, 1) := by decide +kernel
theorem d_Mo_instance_151 : decode m_Mo_instance.2.1 151 = .ok (.getfield 86, 3) := by decide +kernel
theorem d_Mo_instance_154 : decode m_Mo_instance.2.1 154 = .ok (.iload 5, 2) := by decide +kernel
theorem d_Mo_instance_156 : decode m_Mo_instance.2.1 156 = .ok (.iaload, 1) := by decide +kernel
theorem d_Mo_instance_157 : decode m_Mo_instance.2.1 157 = .ok (.goto 10, 3) := by decide +kernel
theorem d_Mo_instance_160 : decode m_Mo_instance.2.1 160 = .ok (.aload_n 0, 1) := by decide +kernel
theorem d_Mo_instance_161 : decode m_Mo_instance.2.1 161 = .ok (.getfield 83, 3) := by decide +kernel
theorem d_Mo_instance_164 : decode m_Mo_instance.2.1 164 = .ok (.iload 5, 2) := by decide +kernel
theorem d_Mo_instance_166 : decode m_Mo_instance.2.1 166 = .ok (.iaload, 1) := by decide +kernel
theorem d_Mo_instance_167 : decode m_Mo_instance.2.1 167 = .ok (.ireturn, 1) := by decide +kernel
theorem d_Mo_instance_168 : decode m_Mo_instance.2.1 168 = .ok (.iload_n 3, 1) := by decide +kernel
theorem d_Mo_instance_169 : decode m_Mo_instance.2.1 169 = .ok (.iconst 1, 1) := by decide +kernel
theorem d_Mo_instance_170 : decode m_Mo_instance.2.1 170 = .ok (.if_icmp .ne 13, 3) := by decide +kernel
theorem d_Mo_instance_173 : decode m_Mo_instance.2.1 173 = .ok (.aload_n 0, 1) := by decide +kernel
theorem d_Mo_instance_174 : decode m_Mo_instance.2.1 174 = .ok (.getfield 77, 3) := by decide +kernel
theorem d_Mo_instance_177 : decode m_Mo_instance.2.1 177 = .ok (.iload 5, 2) := by decide +kernel
theorem d_Mo_instance_179 : decode m_Mo_instance.2.1 179 = .ok (.iaload, 1) := by decide +kernel
theorem d_Mo_instance_180 : decode m_Mo_instance.2.1 180 = .ok (.goto 48, 3) := by decide +kernel
theorem d_Mo_instance_183 : decode m_Mo_instance.2.1 183 = .ok (.iload_n 3, 1) := by decide +kernel
theorem d_Mo_instance_184 : decode m_Mo_instance.2.1 184 = .ok (.iconst 4, 1) := by decide +kernel
theorem d_Mo_instance_185 : decode m_Mo_instance.2.1 185 = .ok (.if_icmp .ne 13, 3) := by decide +kernel
theorem d_Mo_instance_188 : decode m_Mo_instance.2.1 188 = .ok (.aload_n 0, 1) := by decide +kernel
theorem d_Mo_instance_189 : decode m_Mo_instance.2.1 189 = .ok (.getfield 95, 3) := by decide +kernel
theorem d_Mo_instance_192 : decode m_Mo_instance.2.1 192 = .ok (.iload 5, 2) := by decide +kernel
theorem d_Mo_instance_194 : decode m_Mo_instance.2.1 194 = .ok (.iaload, 1) := by decide +kernel
theorem d_Mo_instance_195 : decode m_Mo_instance.2.1 195 = .ok (.goto 33, 3) := by decide +kernel
theorem d_Mo_instance_198 : decode m_Mo_instance.2.1 198 = .ok (.iload_n 3, 1) := by decide +kernel
theorem d_Mo_instance_199 : decode m_Mo_instance.2.1 199 = .ok (.iconst 5, 1) := by decide +kernel
theorem d_Mo_instance_200 : decode m_Mo_instance.2.1 200 = .ok (.if_icmp .ne 21, 3) := by decide +kernel
theorem d_Mo_instance_203 : decode m_Mo_instance.2.1 203 = .ok (.aload_n 0, 1) := by decide +kernel
theorem d_Mo_instance_204 : decode m_Mo_instance.2.1 204 = .ok (.getfield 98, 3) := by decide +kernel
theorem d_Mo_instance_207 : decode m_Mo_instance.2.1 207 = .ok (.iload 5, 2) := by decide +kernel
theorem d_Mo_instance_209 : decode m_Mo_instance.2.1 209 = .ok (.baload, 1) := by decide +kernel
theorem d_Mo_instance_210 : decode m_Mo_instance.2.1 210 = .ok (.ifCond .eq 7, 3) := by decide +kernel
theorem d_Mo_instance_213 : decode m_Mo_instance.2.1 213 = .ok (.iconst 1, 1) := by decide +kernel
theorem d_Mo_instance_214 : decode m_Mo_instance.2.1 214 = .ok (.goto 14, 3) := by decide +kernel
theorem d_Mo_instance_217 : decode m_Mo_instance.2.1 217 = .ok (.iconst 0, 1) := by decide +kernel
theorem d_Mo_instance_218 : decode m_Mo_instance.2.1 218 = .ok (.goto 10, 3) := by decide +kernel
theorem d_Mo_instance_221 : decode m_Mo_instance.2.1 221 = .ok (.aload_n 0, 1) := by decide +kernel
theorem d_Mo_instance_222 : decode m_Mo_instance.2.1 222 = .ok (.getfield 89, 3) := by decide +kernel
theorem d_Mo_instance_225 : decode m_Mo_instance.2.1 225 = .ok (.iload 5, 2) := by decide +kernel
theorem d_Mo_instance_227 : decode m_Mo_instance.2.1 227 = .ok (.iaload, 1) := by decide +kernel
theorem d_Mo_instance_228 : decode m_Mo_instance.2.1 228 = .ok (.ireturn, 1) := by decide +kernel
theorem d_Lw_law_0 : decode m_Lw_law.2.1 0 = .ok (.new 7, 3) := by decide +kernel
theorem d_Lw_law_3 : decode m_Lw_law.2.1 3 = .ok (.dup, 1) := by decide +kernel
theorem d_Lw_law_4 : decode m_Lw_law.2.1 4 = .ok (.aload_n 0, 1) := by decide +kernel
theorem d_Lw_law_5 : decode m_Lw_law.2.1 5 = .ok (.iconst 0, 1) := by decide +kernel
theorem d_Lw_law_6 : decode m_Lw_law.2.1 6 = .ok (.invokestatic 9, 3) := by decide +kernel
theorem d_Lw_law_9 : decode m_Lw_law.2.1 9 = .ok (.invokespecial 15, 3) := by decide +kernel
theorem d_Lw_law_12 : decode m_Lw_law.2.1 12 = .ok (.astore_n 1, 1) := by decide +kernel
theorem d_Lw_law_13 : decode m_Lw_law.2.1 13 = .ok (.new 18, 3) := by decide +kernel
theorem d_Lw_law_16 : decode m_Lw_law.2.1 16 = .ok (.dup, 1) := by decide +kernel
theorem d_Lw_law_17 : decode m_Lw_law.2.1 17 = .ok (.aload_n 0, 1) := by decide +kernel
theorem d_Lw_law_18 : decode m_Lw_law.2.1 18 = .ok (.iconst 0, 1) := by decide +kernel
theorem d_Lw_law_19 : decode m_Lw_law.2.1 19 = .ok (.invokestatic 9, 3) := by decide +kernel
theorem d_Lw_law_22 : decode m_Lw_law.2.1 22 = .ok (.invokespecial 20, 3) := by decide +kernel
theorem d_Lw_law_25 : decode m_Lw_law.2.1 25 = .ok (.astore_n 2, 1) := by decide +kernel
theorem d_Lw_law_26 : decode m_Lw_law.2.1 26 = .ok (.iconst 1, 1) := by decide +kernel
theorem d_Lw_law_27 : decode m_Lw_law.2.1 27 = .ok (.istore_n 3, 1) := by decide +kernel
theorem d_Lw_law_28 : decode m_Lw_law.2.1 28 = .ok (.iload_n 3, 1) := by decide +kernel
theorem d_Lw_law_29 : decode m_Lw_law.2.1 29 = .ok (.aload_n 0, 1) := by decide +kernel
theorem d_Lw_law_30 : decode m_Lw_law.2.1 30 = .ok (.arraylength, 1) := by decide +kernel
theorem d_Lw_law_31 : decode m_Lw_law.2.1 31 = .ok (.bipush 7, 2) := by decide +kernel
theorem d_Lw_law_33 : decode m_Lw_law.2.1 33 = .ok (.isub, 1) := by decide +kernel
theorem d_Lw_law_34 : decode m_Lw_law.2.1 34 = .ok (.if_icmp .gt 521, 3) := by decide +kernel
theorem d_Lw_law_37 : decode m_Lw_law.2.1 37 = .ok (.aload_n 0, 1) := by decide +kernel
theorem d_Lw_law_38 : decode m_Lw_law.2.1 38 = .ok (.iload_n 3, 1) := by decide +kernel
theorem d_Lw_law_39 : decode m_Lw_law.2.1 39 = .ok (.iaload, 1) := by decide +kernel
theorem d_Lw_law_40 : decode m_Lw_law.2.1 40 = .ok (.bipush 15, 2) := by decide +kernel
theorem d_Lw_law_42 : decode m_Lw_law.2.1 42 = .ok (.iand, 1) := by decide +kernel
theorem d_Lw_law_43 : decode m_Lw_law.2.1 43 = .ok (.tableswitch 506 0 12 #[65, 98, 121, 154, 187, 200, 275, 298, 331, 364, 387, 430, 473], 65) := by decide +kernel
theorem d_Lw_law_108 : decode m_Lw_law.2.1 108 = .ok (.aload_n 1, 1) := by decide +kernel
theorem d_Lw_law_109 : decode m_Lw_law.2.1 109 = .ok (.aload_n 0, 1) := by decide +kernel
theorem d_Lw_law_110 : decode m_Lw_law.2.1 110 = .ok (.iload_n 3, 1) := by decide +kernel
theorem d_Lw_law_111 : decode m_Lw_law.2.1 111 = .ok (.iconst 1, 1) := by decide +kernel
theorem d_Lw_law_112 : decode m_Lw_law.2.1 112 = .ok (.iadd, 1) := by decide +kernel
theorem d_Lw_law_113 : decode m_Lw_law.2.1 113 = .ok (.iaload, 1) := by decide +kernel
theorem d_Lw_law_114 : decode m_Lw_law.2.1 114 = .ok (.aload_n 0, 1) := by decide +kernel
theorem d_Lw_law_115 : decode m_Lw_law.2.1 115 = .ok (.iload_n 3, 1) := by decide +kernel
theorem d_Lw_law_116 : decode m_Lw_law.2.1 116 = .ok (.iconst 2, 1) := by decide +kernel
theorem d_Lw_law_117 : decode m_Lw_law.2.1 117 = .ok (.iadd, 1) := by decide +kernel
theorem d_Lw_law_118 : decode m_Lw_law.2.1 118 = .ok (.iaload, 1) := by decide +kernel
theorem d_Lw_law_119 : decode m_Lw_law.2.1 119 = .ok (.invokevirtual 21, 3) := by decide +kernel
theorem d_Lw_law_122 : decode m_Lw_law.2.1 122 = .ok (.aload_n 2, 1) := by decide +kernel
theorem d_Lw_law_123 : decode m_Lw_law.2.1 123 = .ok (.aload_n 0, 1) := by decide +kernel
theorem d_Lw_law_124 : decode m_Lw_law.2.1 124 = .ok (.iload_n 3, 1) := by decide +kernel
theorem d_Lw_law_125 : decode m_Lw_law.2.1 125 = .ok (.iconst 1, 1) := by decide +kernel
theorem d_Lw_law_126 : decode m_Lw_law.2.1 126 = .ok (.iadd, 1) := by decide +kernel
theorem d_Lw_law_127 : decode m_Lw_law.2.1 127 = .ok (.iaload, 1) := by decide +kernel
theorem d_Lw_law_128 : decode m_Lw_law.2.1 128 = .ok (.aload_n 0, 1) := by decide +kernel
theorem d_Lw_law_129 : decode m_Lw_law.2.1 129 = .ok (.iload_n 3, 1) := by decide +kernel
theorem d_Lw_law_130 : decode m_Lw_law.2.1 130 = .ok (.iconst 2, 1) := by decide +kernel
theorem d_Lw_law_131 : decode m_Lw_law.2.1 131 = .ok (.iadd, 1) := by decide +kernel
theorem d_Lw_law_132 : decode m_Lw_law.2.1 132 = .ok (.iaload, 1) := by decide +kernel
theorem d_Lw_law_133 : decode m_Lw_law.2.1 133 = .ok (.invokevirtual 25, 3) := by decide +kernel
theorem d_Lw_law_136 : decode m_Lw_law.2.1 136 = .ok (.if_icmp .eq 413, 3) := by decide +kernel
theorem d_Lw_law_139 : decode m_Lw_law.2.1 139 = .ok (.iconst 0, 1) := by decide +kernel
theorem d_Lw_law_140 : decode m_Lw_law.2.1 140 = .ok (.ireturn, 1) := by decide +kernel
theorem d_Lw_law_141 : decode m_Lw_law.2.1 141 = .ok (.aload_n 1, 1) := by decide +kernel
theorem d_Lw_law_142 : decode m_Lw_law.2.1 142 = .ok (.aload_n 0, 1) := by decide +kernel
theorem d_Lw_law_143 : decode m_Lw_law.2.1 143 = .ok (.iload_n 3, 1) := by decide +kernel
theorem d_Lw_law_144 : decode m_Lw_law.2.1 144 = .ok (.iconst 1, 1) := by decide +kernel
theorem d_Lw_law_145 : decode m_Lw_law.2.1 145 = .ok (.iadd, 1) := by decide +kernel
theorem d_Lw_law_146 : decode m_Lw_law.2.1 146 = .ok (.iaload, 1) := by decide +kernel
theorem d_Lw_law_147 : decode m_Lw_law.2.1 147 = .ok (.invokevirtual 26, 3) := by decide +kernel
theorem d_Lw_law_150 : decode m_Lw_law.2.1 150 = .ok (.aload_n 2, 1) := by decide +kernel
theorem d_Lw_law_151 : decode m_Lw_law.2.1 151 = .ok (.aload_n 0, 1) := by decide +kernel
theorem d_Lw_law_152 : decode m_Lw_law.2.1 152 = .ok (.iload_n 3, 1) := by decide +kernel
theorem d_Lw_law_153 : decode m_Lw_law.2.1 153 = .ok (.iconst 1, 1) := by decide +kernel
theorem d_Lw_law_154 : decode m_Lw_law.2.1 154 = .ok (.iadd, 1) := by decide +kernel
theorem d_Lw_law_155 : decode m_Lw_law.2.1 155 = .ok (.iaload, 1) := by decide +kernel
theorem d_Lw_law_156 : decode m_Lw_law.2.1 156 = .ok (.invokevirtual 30, 3) := by decide +kernel
theorem d_Lw_law_159 : decode m_Lw_law.2.1 159 = .ok (.if_icmp .eq 390, 3) := by decide +kernel
theorem d_Lw_law_162 : decode m_Lw_law.2.1 162 = .ok (.iconst 0, 1) := by decide +kernel
theorem d_Lw_law_163 : decode m_Lw_law.2.1 163 = .ok (.ireturn, 1) := by decide +kernel
theorem d_Lw_law_164 : decode m_Lw_law.2.1 164 = .ok (.aload_n 1, 1) := by decide +kernel
theorem d_Lw_law_165 : decode m_Lw_law.2.1 165 = .ok (.aload_n 0, 1) := by decide +kernel
theorem d_Lw_law_166 : decode m_Lw_law.2.1 166 = .ok (.iload_n 3, 1) := by decide +kernel
theorem d_Lw_law_167 : decode m_Lw_law.2.1 167 = .ok (.iconst 1, 1) := by decide +kernel
theorem d_Lw_law_168 : decode m_Lw_law.2.1 168 = .ok (.iadd, 1) := by decide +kernel
theorem d_Lw_law_169 : decode m_Lw_law.2.1 169 = .ok (.iaload, 1) := by decide +kernel
theorem d_Lw_law_170 : decode m_Lw_law.2.1 170 = .ok (.aload_n 0, 1) := by decide +kernel
theorem d_Lw_law_171 : decode m_Lw_law.2.1 171 = .ok (.iload_n 3, 1) := by decide +kernel
theorem d_Lw_law_172 : decode m_Lw_law.2.1 172 = .ok (.iconst 2, 1) := by decide +kernel
theorem d_Lw_law_173 : decode m_Lw_law.2.1 173 = .ok (.iadd, 1) := by decide +kernel
theorem d_Lw_law_174 : decode m_Lw_law.2.1 174 = .ok (.iaload, 1) := by decide +kernel
theorem d_Lw_law_175 : decode m_Lw_law.2.1 175 = .ok (.invokevirtual 31, 3) := by decide +kernel
theorem d_Lw_law_178 : decode m_Lw_law.2.1 178 = .ok (.aload_n 2, 1) := by decide +kernel
theorem d_Lw_law_179 : decode m_Lw_law.2.1 179 = .ok (.aload_n 0, 1) := by decide +kernel
theorem d_Lw_law_180 : decode m_Lw_law.2.1 180 = .ok (.iload_n 3, 1) := by decide +kernel
theorem d_Lw_law_181 : decode m_Lw_law.2.1 181 = .ok (.iconst 1, 1) := by decide +kernel
theorem d_Lw_law_182 : decode m_Lw_law.2.1 182 = .ok (.iadd, 1) := by decide +kernel
theorem d_Lw_law_183 : decode m_Lw_law.2.1 183 = .ok (.iaload, 1) := by decide +kernel
theorem d_Lw_law_184 : decode m_Lw_law.2.1 184 = .ok (.aload_n 0, 1) := by decide +kernel
theorem d_Lw_law_185 : decode m_Lw_law.2.1 185 = .ok (.iload_n 3, 1) := by decide +kernel
theorem d_Lw_law_186 : decode m_Lw_law.2.1 186 = .ok (.iconst 2, 1) := by decide +kernel
theorem d_Lw_law_187 : decode m_Lw_law.2.1 187 = .ok (.iadd, 1) := by decide +kernel
theorem d_Lw_law_188 : decode m_Lw_law.2.1 188 = .ok (.iaload, 1) := by decide +kernel
theorem d_Lw_law_189 : decode m_Lw_law.2.1 189 = .ok (.invokevirtual 35, 3) := by decide +kernel
theorem d_Lw_law_192 : decode m_Lw_law.2.1 192 = .ok (.if_icmp .eq 357, 3) := by decide +kernel
theorem d_Lw_law_195 : decode m_Lw_law.2.1 195 = .ok (.iconst 0, 1) := by decide +kernel
theorem d_Lw_law_196 : decode m_Lw_law.2.1 196 = .ok (.ireturn, 1) := by decide +kernel
theorem d_Lw_law_197 : decode m_Lw_law.2.1 197 = .ok (.aload_n 1, 1) := by decide +kernel
theorem d_Lw_law_198 : decode m_Lw_law.2.1 198 = .ok (.aload_n 0, 1) := by decide +kernel
theorem d_Lw_law_199 : decode m_Lw_law.2.1 199 = .ok (.iload_n 3, 1) := by decide +kernel
theorem d_Lw_law_200 : decode m_Lw_law.2.1 200 = .ok (.iconst 1, 1) := by decide +kernel
theorem d_Lw_law_201 : decode m_Lw_law.2.1 201 = .ok (.iadd, 1) := by decide +kernel
theorem d_Lw_law_202 : decode m_Lw_law.2.1 202 = .ok (.iaload, 1) := by decide +kernel
theorem d_Lw_law_203 : decode m_Lw_law.2.1 203 = .ok (.aload_n 0, 1) := by decide +kernel
theorem d_Lw_law_204 : decode m_Lw_law.2.1 204 = .ok (.iload_n 3, 1) := by decide +kernel
theorem d_Lw_law_205 : decode m_Lw_law.2.1 205 = .ok (.iconst 2, 1) := by decide +kernel
theorem d_Lw_law_206 : decode m_Lw_law.2.1 206 = .ok (.iadd, 1) := by decide +kernel
theorem d_Lw_law_207 : decode m_Lw_law.2.1 207 = .ok (.iaload, 1) := by decide +kernel
theorem d_Lw_law_208 : decode m_Lw_law.2.1 208 = .ok (.invokevirtual 36, 3) := by decide +kernel
theorem d_Lw_law_211 : decode m_Lw_law.2.1 211 = .ok (.aload_n 2, 1) := by decide +kernel
theorem d_Lw_law_212 : decode m_Lw_law.2.1 212 = .ok (.aload_n 0, 1) := by decide +kernel
theorem d_Lw_law_213 : decode m_Lw_law.2.1 213 = .ok (.iload_n 3, 1) := by decide +kernel
theorem d_Lw_law_214 : decode m_Lw_law.2.1 214 = .ok (.iconst 1, 1) := by decide +kernel
theorem d_Lw_law_215 : decode m_Lw_law.2.1 215 = .ok (.iadd, 1) := by decide +kernel
theorem d_Lw_law_216 : decode m_Lw_law.2.1 216 = .ok (.iaload, 1) := by decide +kernel
theorem d_Lw_law_217 : decode m_Lw_law.2.1 217 = .ok (.aload_n 0, 1) := by decide +kernel
theorem d_Lw_law_218 : decode m_Lw_law.2.1 218 = .ok (.iload_n 3, 1) := by decide +kernel
theorem d_Lw_law_219 : decode m_Lw_law.2.1 219 = .ok (.iconst 2, 1) := by decide +kernel
theorem d_Lw_law_220 : decode m_Lw_law.2.1 220 = .ok (.iadd, 1) := by decide +kernel
theorem d_Lw_law_221 : decode m_Lw_law.2.1 221 = .ok (.iaload, 1) := by decide +kernel
theorem d_Lw_law_222 : decode m_Lw_law.2.1 222 = .ok (.invokevirtual 39, 3) := by decide +kernel
theorem d_Lw_law_225 : decode m_Lw_law.2.1 225 = .ok (.if_icmp .eq 324, 3) := by decide +kernel
theorem d_Lw_law_228 : decode m_Lw_law.2.1 228 = .ok (.iconst 0, 1) := by decide +kernel
theorem d_Lw_law_229 : decode m_Lw_law.2.1 229 = .ok (.ireturn, 1) := by decide +kernel
theorem d_Lw_law_230 : decode m_Lw_law.2.1 230 = .ok (.aload_n 1, 1) := by decide +kernel
theorem d_Lw_law_231 : decode m_Lw_law.2.1 231 = .ok (.invokevirtual 40, 3) := by decide +kernel
theorem d_Lw_law_234 : decode m_Lw_law.2.1 234 = .ok (.aload_n 2, 1) := by decide +kernel
theorem d_Lw_law_235 : decode m_Lw_law.2.1 235 = .ok (.invokevirtual 44, 3) := by decide +kernel
theorem d_Lw_law_238 : decode m_Lw_law.2.1 238 = .ok (.if_icmp .eq 311, 3) := by decide +kernel
theorem d_Lw_law_241 : decode m_Lw_law.2.1 241 = .ok (.iconst 0, 1) := by decide +kernel
theorem d_Lw_law_242 : decode m_Lw_law.2.1 242 = .ok (.ireturn, 1) := by decide +kernel
theorem d_Lw_law_243 : decode m_Lw_law.2.1 243 = .ok (.aload_n 1, 1) := by decide +kernel
theorem d_Lw_law_244 : decode m_Lw_law.2.1 244 = .ok (.aload_n 0, 1) := by decide +kernel
theorem d_Lw_law_245 : decode m_Lw_law.2.1 245 = .ok (.iload_n 3, 1) := by decide +kernel
theorem d_Lw_law_246 : decode m_Lw_law.2.1 246 = .ok (.iconst 1, 1) := by decide +kernel
theorem d_Lw_law_247 : decode m_Lw_law.2.1 247 = .ok (.iadd, 1) := by decide +kernel
theorem d_Lw_law_248 : decode m_Lw_law.2.1 248 = .ok (.iaload, 1) := by decide +kernel
theorem d_Lw_law_249 : decode m_Lw_law.2.1 249 = .ok (.aload_n 0, 1) := by decide +kernel
theorem d_Lw_law_250 : decode m_Lw_law.2.1 250 = .ok (.iload_n 3, 1) := by decide +kernel
theorem d_Lw_law_251 : decode m_Lw_law.2.1 251 = .ok (.iconst 2, 1) := by decide +kernel
theorem d_Lw_law_252 : decode m_Lw_law.2.1 252 = .ok (.iadd, 1) := by decide +kernel
theorem d_Lw_law_253 : decode m_Lw_law.2.1 253 = .ok (.iaload, 1) := by decide +kernel
theorem d_Lw_law_254 : decode m_Lw_law.2.1 254 = .ok (.aload_n 0, 1) := by decide +kernel
theorem d_Lw_law_255 : decode m_Lw_law.2.1 255 = .ok (.iload_n 3, 1) := by decide +kernel
theorem d_Lw_law_256 : decode m_Lw_law.2.1 256 = .ok (.iconst 3, 1) := by decide +kernel
theorem d_Lw_law_257 : decode m_Lw_law.2.1 257 = .ok (.iadd, 1) := by decide +kernel
theorem d_Lw_law_258 : decode m_Lw_law.2.1 258 = .ok (.iaload, 1) := by decide +kernel
theorem d_Lw_law_259 : decode m_Lw_law.2.1 259 = .ok (.aload_n 0, 1) := by decide +kernel
theorem d_Lw_law_260 : decode m_Lw_law.2.1 260 = .ok (.iload_n 3, 1) := by decide +kernel
theorem d_Lw_law_261 : decode m_Lw_law.2.1 261 = .ok (.iconst 4, 1) := by decide +kernel
theorem d_Lw_law_262 : decode m_Lw_law.2.1 262 = .ok (.iadd, 1) := by decide +kernel
theorem d_Lw_law_263 : decode m_Lw_law.2.1 263 = .ok (.iaload, 1) := by decide +kernel
theorem d_Lw_law_264 : decode m_Lw_law.2.1 264 = .ok (.aload_n 0, 1) := by decide +kernel
theorem d_Lw_law_265 : decode m_Lw_law.2.1 265 = .ok (.iload_n 3, 1) := by decide +kernel
theorem d_Lw_law_266 : decode m_Lw_law.2.1 266 = .ok (.iconst 5, 1) := by decide +kernel
theorem d_Lw_law_267 : decode m_Lw_law.2.1 267 = .ok (.iadd, 1) := by decide +kernel
theorem d_Lw_law_268 : decode m_Lw_law.2.1 268 = .ok (.iaload, 1) := by decide +kernel
theorem d_Lw_law_269 : decode m_Lw_law.2.1 269 = .ok (.aload_n 0, 1) := by decide +kernel
theorem d_Lw_law_270 : decode m_Lw_law.2.1 270 = .ok (.iload_n 3, 1) := by decide +kernel
theorem d_Lw_law_271 : decode m_Lw_law.2.1 271 = .ok (.bipush 6, 2) := by decide +kernel
theorem d_Lw_law_273 : decode m_Lw_law.2.1 273 = .ok (.iadd, 1) := by decide +kernel
theorem d_Lw_law_274 : decode m_Lw_law.2.1 274 = .ok (.iaload, 1) := by decide +kernel
theorem d_Lw_law_275 : decode m_Lw_law.2.1 275 = .ok (.invokevirtual 45, 3) := by decide +kernel
theorem d_Lw_law_278 : decode m_Lw_law.2.1 278 = .ok (.aload_n 2, 1) := by decide +kernel
theorem d_Lw_law_279 : decode m_Lw_law.2.1 279 = .ok (.aload_n 0, 1) := by decide +kernel
theorem d_Lw_law_280 : decode m_Lw_law.2.1 280 = .ok (.iload_n 3, 1) := by decide +kernel
theorem d_Lw_law_281 : decode m_Lw_law.2.1 281 = .ok (.iconst 1, 1) := by decide +kernel
theorem d_Lw_law_282 : decode m_Lw_law.2.1 282 = .ok (.iadd, 1) := by decide +kernel
theorem d_Lw_law_283 : decode m_Lw_law.2.1 283 = .ok (.iaload, 1) := by decide +kernel
theorem d_Lw_law_284 : decode m_Lw_law.2.1 284 = .ok (.aload_n 0, 1) := by decide +kernel
theorem d_Lw_law_285 : decode m_Lw_law.2.1 285 = .ok (.iload_n 3, 1) := by decide +kernel
theorem d_Lw_law_286 : decode m_Lw_law.2.1 286 = .ok (.iconst 2, 1) := by decide +kernel
theorem d_Lw_law_287 : decode m_Lw_law.2.1 287 = .ok (.iadd, 1) := by decide +kernel
theorem d_Lw_law_288 : decode m_Lw_law.2.1 288 = .ok (.iaload, 1) := by decide +kernel
theorem d_Lw_law_289 : decode m_Lw_law.2.1 289 = .ok (.aload_n 0, 1) := by decide +kernel
theorem d_Lw_law_290 : decode m_Lw_law.2.1 290 = .ok (.iload_n 3, 1) := by decide +kernel
theorem d_Lw_law_291 : decode m_Lw_law.2.1 291 = .ok (.iconst 3, 1) := by decide +kernel
theorem d_Lw_law_292 : decode m_Lw_law.2.1 292 = .ok (.iadd, 1) := by decide +kernel
theorem d_Lw_law_293 : decode m_Lw_law.2.1 293 = .ok (.iaload, 1) := by decide +kernel
theorem d_Lw_law_294 : decode m_Lw_law.2.1 294 = .ok (.aload_n 0, 1) := by decide +kernel
theorem d_Lw_law_295 : decode m_Lw_law.2.1 295 = .ok (.iload_n 3, 1) := by decide +kernel
theorem d_Lw_law_296 : decode m_Lw_law.2.1 296 = .ok (.iconst 4, 1) := by decide +kernel
theorem d_Lw_law_297 : decode m_Lw_law.2.1 297 = .ok (.iadd, 1) := by decide +kernel
theorem d_Lw_law_298 : decode m_Lw_law.2.1 298 = .ok (.iaload, 1) := by decide +kernel
theorem d_Lw_law_299 : decode m_Lw_law.2.1 299 = .ok (.aload_n 0, 1) := by decide +kernel
theorem d_Lw_law_300 : decode m_Lw_law.2.1 300 = .ok (.iload_n 3, 1) := by decide +kernel
theorem d_Lw_law_301 : decode m_Lw_law.2.1 301 = .ok (.iconst 5, 1) := by decide +kernel
theorem d_Lw_law_302 : decode m_Lw_law.2.1 302 = .ok (.iadd, 1) := by decide +kernel
theorem d_Lw_law_303 : decode m_Lw_law.2.1 303 = .ok (.iaload, 1) := by decide +kernel
theorem d_Lw_law_304 : decode m_Lw_law.2.1 304 = .ok (.aload_n 0, 1) := by decide +kernel
theorem d_Lw_law_305 : decode m_Lw_law.2.1 305 = .ok (.iload_n 3, 1) := by decide +kernel
theorem d_Lw_law_306 : decode m_Lw_law.2.1 306 = .ok (.bipush 6, 2) := by decide +kernel
theorem d_Lw_law_308 : decode m_Lw_law.2.1 308 = .ok (.iadd, 1) := by decide +kernel
theorem d_Lw_law_309 : decode m_Lw_law.2.1 309 = .ok (.iaload, 1) := by decide +kernel
theorem d_Lw_law_310 : decode m_Lw_law.2.1 310 = .ok (.invokevirtual 49, 3) := by decide +kernel
theorem d_Lw_law_313 : decode m_Lw_law.2.1 313 = .ok (.if_icmp .eq 236, 3) := by decide +kernel
theorem d_Lw_law_316 : decode m_Lw_law.2.1 316 = .ok (.iconst 0, 1) := by decide +kernel
theorem d_Lw_law_317 : decode m_Lw_law.2.1 317 = .ok (.ireturn, 1) := by decide +kernel
theorem d_Lw_law_318 : decode m_Lw_law.2.1 318 = .ok (.aload_n 1, 1) := by decide +kernel
theorem d_Lw_law_319 : decode m_Lw_law.2.1 319 = .ok (.aload_n 0, 1) := by decide +kernel
theorem d_Lw_law_320 : decode m_Lw_law.2.1 320 = .ok (.iload_n 3, 1) := by decide +kernel
theorem d_Lw_law_321 : decode m_Lw_law.2.1 321 = .ok (.iconst 1, 1) := by decide +kernel
theorem d_Lw_law_322 : decode m_Lw_law.2.1 322 = .ok (.iadd, 1) := by decide +kernel
theorem d_Lw_law_323 : decode m_Lw_law.2.1 323 = .ok (.iaload, 1) := by decide +kernel
theorem d_Lw_law_324 : decode m_Lw_law.2.1 324 = .ok (.invokevirtual 50, 3) := by decide +kernel
theorem d_Lw_law_327 : decode m_Lw_law.2.1 327 = .ok (.aload_n 2, 1) := by decide +kernel
theorem d_Lw_law_328 : decode m_Lw_law.2.1 328 = .ok (.aload_n 0, 1) := by decide +kernel
theorem d_Lw_law_329 : decode m_Lw_law.2.1 329 = .ok (.iload_n 3, 1) := by decide +kernel
theorem d_Lw_law_330 : decode m_Lw_law.2.1 330 = .ok (.iconst 1, 1) := by decide +kernel
theorem d_Lw_law_331 : decode m_Lw_law.2.1 331 = .ok (.iadd, 1) := by decide +kernel
theorem d_Lw_law_332 : decode m_Lw_law.2.1 332 = .ok (.iaload, 1) := by decide +kernel
theorem d_Lw_law_333 : decode m_Lw_law.2.1 333 = .ok (.invokevirtual 54, 3) := by decide +kernel
theorem d_Lw_law_336 : decode m_Lw_law.2.1 336 = .ok (.if_icmp .eq 213, 3) := by decide +kernel
theorem d_Lw_law_339 : decode m_Lw_law.2.1 339 = .ok (.iconst 0, 1) := by decide +kernel
theorem d_Lw_law_340 : decode m_Lw_law.2.1 340 = .ok (.ireturn, 1) := by decide +kernel
theorem d_Lw_law_341 : decode m_Lw_law.2.1 341 = .ok (.aload_n 1, 1) := by decide +kernel
theorem d_Lw_law_342 : decode m_Lw_law.2.1 342 = .ok (.aload_n 0, 1) := by decide +kernel
theorem d_Lw_law_343 : decode m_Lw_law.2.1 343 = .ok (.iload_n 3, 1) := by decide +kernel
theorem d_Lw_law_344 : decode m_Lw_law.2.1 344 = .ok (.iconst 1, 1) := by decide +kernel
theorem d_Lw_law_345 : decode m_Lw_law.2.1 345 = .ok (.iadd, 1) := by decide +kernel
theorem d_Lw_law_346 : decode m_Lw_law.2.1 346 = .ok (.iaload, 1) := by decide +kernel
theorem d_Lw_law_347 : decode m_Lw_law.2.1 347 = .ok (.aload_n 0, 1) := by decide +kernel
theorem d_Lw_law_348 : decode m_Lw_law.2.1 348 = .ok (.iload_n 3, 1) := by decide +kernel
theorem d_Lw_law_349 : decode m_Lw_law.2.1 349 = .ok (.iconst 2, 1) := by decide +kernel
theorem d_Lw_law_350 : decode m_Lw_law.2.1 350 = .ok (.iadd, 1) := by decide +kernel
theorem d_Lw_law_351 : decode m_Lw_law.2.1 351 = .ok (.iaload, 1) := by decide +kernel
theorem d_Lw_law_352 : decode m_Lw_law.2.1 352 = .ok (.invokevirtual 55, 3) := by decide +kernel
theorem d_Lw_law_355 : decode m_Lw_law.2.1 355 = .ok (.aload_n 2, 1) := by decide +kernel
theorem d_Lw_law_356 : decode m_Lw_law.2.1 356 = .ok (.aload_n 0, 1) := by decide +kernel
theorem d_Lw_law_357 : decode m_Lw_law.2.1 357 = .ok (.iload_n 3, 1) := by decide +kernel
theorem d_Lw_law_358 : decode m_Lw_law.2.1 358 = .ok (.iconst 1, 1) := by decide +kernel
theorem d_Lw_law_359 : decode m_Lw_law.2.1 359 = .ok (.iadd, 1) := by decide +kernel
theorem d_Lw_law_360 : decode m_Lw_law.2.1 360 = .ok (.iaload, 1) := by decide +kernel
theorem d_Lw_law_361 : decode m_Lw_law.2.1 361 = .ok (.aload_n 0, 1) := by decide +kernel
theorem d_Lw_law_362 : decode m_Lw_law.2.1 362 = .ok (.iload_n 3, 1) := by decide +kernel
theorem d_Lw_law_363 : decode m_Lw_law.2.1 363 = .ok (.iconst 2, 1) := by decide +kernel
theorem d_Lw_law_364 : decode m_Lw_law.2.1 364 = .ok (.iadd, 1) := by decide +kernel
theorem d_Lw_law_365 : decode m_Lw_law.2.1 365 = .ok (.iaload, 1) := by decide +kernel
theorem d_Lw_law_366 : decode m_Lw_law.2.1 366 = .ok (.invokevirtual 58, 3) := by decide +kernel
theorem d_Lw_law_369 : decode m_Lw_law.2.1 369 = .ok (.if_icmp .eq 180, 3) := by decide +kernel
theorem d_Lw_law_372 : decode m_Lw_law.2.1 372 = .ok (.iconst 0, 1) := by decide +kernel
theorem d_Lw_law_373 : decode m_Lw_law.2.1 373 = .ok (.ireturn, 1) := by decide +kernel
theorem d_Lw_law_374 : decode m_Lw_law.2.1 374 = .ok (.aload_n 1, 1) := by decide +kernel
theorem d_Lw_law_375 : decode m_Lw_law.2.1 375 = .ok (.aload_n 0, 1) := by decide +kernel
theorem d_Lw_law_376 : decode m_Lw_law.2.1 376 = .ok (.iload_n 3, 1) := by decide +kernel
theorem d_Lw_law_377 : decode m_Lw_law.2.1 377 = .ok (.iconst 1, 1) := by decide +kernel
theorem d_Lw_law_378 : decode m_Lw_law.2.1 378 = .ok (.iadd, 1) := by decide +kernel
theorem d_Lw_law_379 : decode m_Lw_law.2.1 379 = .ok (.iaload, 1) := by decide +kernel
theorem d_Lw_law_380 : decode m_Lw_law.2.1 380 = .ok (.aload_n 0, 1) := by decide +kernel
theorem d_Lw_law_381 : decode m_Lw_law.2.1 381 = .ok (.iload_n 3, 1) := by decide +kernel
theorem d_Lw_law_382 : decode m_Lw_law.2.1 382 = .ok (.iconst 2, 1) := by decide +kernel
theorem d_Lw_law_383 : decode m_Lw_law.2.1 383 = .ok (.iadd, 1) := by decide +kernel
theorem d_Lw_law_384 : decode m_Lw_law.2.1 384 = .ok (.iaload, 1) := by decide +kernel
theorem d_Lw_law_385 : decode m_Lw_law.2.1 385 = .ok (.invokevirtual 59, 3) := by decide +kernel
theorem d_Lw_law_388 : decode m_Lw_law.2.1 388 = .ok (.aload_n 2, 1) := by decide +kernel
theorem d_Lw_law_389 : decode m_Lw_law.2.1 389 = .ok (.aload_n 0, 1) := by decide +kernel
theorem d_Lw_law_390 : decode m_Lw_law.2.1 390 = .ok (.iload_n 3, 1) := by decide +kernel
theorem d_Lw_law_391 : decode m_Lw_law.2.1 391 = .ok (.iconst 1, 1) := by decide +kernel
theorem d_Lw_law_392 : decode m_Lw_law.2.1 392 = .ok (.iadd, 1) := by decide +kernel
theorem d_Lw_law_393 : decode m_Lw_law.2.1 393 = .ok (.iaload, 1) := by decide +kernel
theorem d_Lw_law_394 : decode m_Lw_law.2.1 394 = .ok (.aload_n 0, 1) := by decide +kernel
theorem d_Lw_law_395 : decode m_Lw_law.2.1 395 = .ok (.iload_n 3, 1) := by decide +kernel
theorem d_Lw_law_396 : decode m_Lw_law.2.1 396 = .ok (.iconst 2, 1) := by decide +kernel
theorem d_Lw_law_397 : decode m_Lw_law.2.1 397 = .ok (.iadd, 1) := by decide +kernel
theorem d_Lw_law_398 : decode m_Lw_law.2.1 398 = .ok (.iaload, 1) := by decide +kernel
theorem d_Lw_law_399 : decode m_Lw_law.2.1 399 = .ok (.invokevirtual 62, 3) := by decide +kernel
theorem d_Lw_law_402 : decode m_Lw_law.2.1 402 = .ok (.if_icmp .eq 147, 3) := by decide +kernel
theorem d_Lw_law_405 : decode m_Lw_law.2.1 405 = .ok (.iconst 0, 1) := by decide +kernel
theorem d_Lw_law_406 : decode m_Lw_law.2.1 406 = .ok (.ireturn, 1) := by decide +kernel
theorem d_Lw_law_407 : decode m_Lw_law.2.1 407 = .ok (.aload_n 1, 1) := by decide +kernel
theorem d_Lw_law_408 : decode m_Lw_law.2.1 408 = .ok (.aload_n 0, 1) := by decide +kernel
theorem d_Lw_law_409 : decode m_Lw_law.2.1 409 = .ok (.iload_n 3, 1) := by decide +kernel
theorem d_Lw_law_410 : decode m_Lw_law.2.1 410 = .ok (.iconst 1, 1) := by decide +kernel
theorem d_Lw_law_411 : decode m_Lw_law.2.1 411 = .ok (.iadd, 1) := by decide +kernel
theorem d_Lw_law_412 : decode m_Lw_law.2.1 412 = .ok (.iaload, 1) := by decide +kernel
theorem d_Lw_law_413 : decode m_Lw_law.2.1 413 = .ok (.invokevirtual 63, 3) := by decide +kernel
theorem d_Lw_law_416 : decode m_Lw_law.2.1 416 = .ok (.aload_n 2, 1) := by decide +kernel
theorem d_Lw_law_417 : decode m_Lw_law.2.1 417 = .ok (.aload_n 0, 1) := by decide +kernel
theorem d_Lw_law_418 : decode m_Lw_law.2.1 418 = .ok (.iload_n 3, 1) := by decide +kernel
theorem d_Lw_law_419 : decode m_Lw_law.2.1 419 = .ok (.iconst 1, 1) := by decide +kernel
theorem d_Lw_law_420 : decode m_Lw_law.2.1 420 = .ok (.iadd, 1) := by decide +kernel
theorem d_Lw_law_421 : decode m_Lw_law.2.1 421 = .ok (.iaload, 1) := by decide +kernel
theorem d_Lw_law_422 : decode m_Lw_law.2.1 422 = .ok (.invokevirtual 66, 3) := by decide +kernel
theorem d_Lw_law_425 : decode m_Lw_law.2.1 425 = .ok (.if_icmp .eq 124, 3) := by decide +kernel
theorem d_Lw_law_428 : decode m_Lw_law.2.1 428 = .ok (.iconst 0, 1) := by decide +kernel
theorem d_Lw_law_429 : decode m_Lw_law.2.1 429 = .ok (.ireturn, 1) := by decide +kernel
theorem d_Lw_law_430 : decode m_Lw_law.2.1 430 = .ok (.aload_n 1, 1) := by decide +kernel
theorem d_Lw_law_431 : decode m_Lw_law.2.1 431 = .ok (.aload_n 0, 1) := by decide +kernel
theorem d_Lw_law_432 : decode m_Lw_law.2.1 432 = .ok (.iload_n 3, 1) := by decide +kernel
theorem d_Lw_law_433 : decode m_Lw_law.2.1 433 = .ok (.iconst 1, 1) := by decide +kernel
theorem d_Lw_law_434 : decode m_Lw_law.2.1 434 = .ok (.iadd, 1) := by decide +kernel
theorem d_Lw_law_435 : decode m_Lw_law.2.1 435 = .ok (.iaload, 1) := by decide +kernel
theorem d_Lw_law_436 : decode m_Lw_law.2.1 436 = .ok (.aload_n 0, 1) := by decide +kernel
theorem d_Lw_law_437 : decode m_Lw_law.2.1 437 = .ok (.iload_n 3, 1) := by decide +kernel
theorem d_Lw_law_438 : decode m_Lw_law.2.1 438 = .ok (.iconst 2, 1) := by decide +kernel
theorem d_Lw_law_439 : decode m_Lw_law.2.1 439 = .ok (.iadd, 1) := by decide +kernel
theorem d_Lw_law_440 : decode m_Lw_law.2.1 440 = .ok (.iaload, 1) := by decide +kernel
theorem d_Lw_law_441 : decode m_Lw_law.2.1 441 = .ok (.aload_n 0, 1) := by decide +kernel
theorem d_Lw_law_442 : decode m_Lw_law.2.1 442 = .ok (.iload_n 3, 1) := by decide +kernel
theorem d_Lw_law_443 : decode m_Lw_law.2.1 443 = .ok (.iconst 3, 1) := by decide +kernel
theorem d_Lw_law_444 : decode m_Lw_law.2.1 444 = .ok (.iadd, 1) := by decide +kernel
theorem d_Lw_law_445 : decode m_Lw_law.2.1 445 = .ok (.iaload, 1) := by decide +kernel
theorem d_Lw_law_446 : decode m_Lw_law.2.1 446 = .ok (.invokevirtual 67, 3) := by decide +kernel
theorem d_Lw_law_449 : decode m_Lw_law.2.1 449 = .ok (.aload_n 2, 1) := by decide +kernel
theorem d_Lw_law_450 : decode m_Lw_law.2.1 450 = .ok (.aload_n 0, 1) := by decide +kernel
theorem d_Lw_law_451 : decode m_Lw_law.2.1 451 = .ok (.iload_n 3, 1) := by decide +kernel
theorem d_Lw_law_452 : decode m_Lw_law.2.1 452 = .ok (.iconst 1, 1) := by decide +kernel
theorem d_Lw_law_453 : decode m_Lw_law.2.1 453 = .ok (.iadd, 1) := by decide +kernel
theorem d_Lw_law_454 : decode m_Lw_law.2.1 454 = .ok (.iaload, 1) := by decide +kernel
theorem d_Lw_law_455 : decode m_Lw_law.2.1 455 = .ok (.aload_n 0, 1) := by decide +kernel
theorem d_Lw_law_456 : decode m_Lw_law.2.1 456 = .ok (.iload_n 3, 1) := by decide +kernel
theorem d_Lw_law_457 : decode m_Lw_law.2.1 457 = .ok (.iconst 2, 1) := by decide +kernel
theorem d_Lw_law_458 : decode m_Lw_law.2.1 458 = .ok (.iadd, 1) := by decide +kernel
theorem d_Lw_law_459 : decode m_Lw_law.2.1 459 = .ok (.iaload, 1) := by decide +kernel
theorem d_Lw_law_460 : decode m_Lw_law.2.1 460 = .ok (.aload_n 0, 1) := by decide +kernel
theorem d_Lw_law_461 : decode m_Lw_law.2.1 461 = .ok (.iload_n 3, 1) := by decide +kernel
theorem d_Lw_law_462 : decode m_Lw_law.2.1 462 = .ok (.iconst 3, 1) := by decide +kernel
theorem d_Lw_law_463 : decode m_Lw_law.2.1 463 = .ok (.iadd, 1) := by decide +kernel
theorem d_Lw_law_464 : decode m_Lw_law.2.1 464 = .ok (.iaload, 1) := by decide +kernel
theorem d_Lw_law_465 : decode m_Lw_law.2.1 465 = .ok (.invokevirtual 71, 3) := by decide +kernel
theorem d_Lw_law_468 : decode m_Lw_law.2.1 468 = .ok (.if_icmp .eq 81, 3) := by decide +kernel
theorem d_Lw_law_471 : decode m_Lw_law.2.1 471 = .ok (.iconst 0, 1) := by decide +kernel
theorem d_Lw_law_472 : decode m_Lw_law.2.1 472 = .ok (.ireturn, 1) := by decide +kernel
theorem d_Lw_law_473 : decode m_Lw_law.2.1 473 = .ok (.aload_n 1, 1) := by decide +kernel
theorem d_Lw_law_474 : decode m_Lw_law.2.1 474 = .ok (.aload_n 0, 1) := by decide +kernel
theorem d_Lw_law_475 : decode m_Lw_law.2.1 475 = .ok (.iload_n 3, 1) := by decide +kernel
theorem d_Lw_law_476 : decode m_Lw_law.2.1 476 = .ok (.iconst 1, 1) := by decide +kernel
theorem d_Lw_law_477 : decode m_Lw_law.2.1 477 = .ok (.iadd, 1) := by decide +kernel
theorem d_Lw_law_478 : decode m_Lw_law.2.1 478 = .ok (.iaload, 1) := by decide +kernel
theorem d_Lw_law_479 : decode m_Lw_law.2.1 479 = .ok (.aload_n 0, 1) := by decide +kernel
theorem d_Lw_law_480 : decode m_Lw_law.2.1 480 = .ok (.iload_n 3, 1) := by decide +kernel
theorem d_Lw_law_481 : decode m_Lw_law.2.1 481 = .ok (.iconst 2, 1) := by decide +kernel
theorem d_Lw_law_482 : decode m_Lw_law.2.1 482 = .ok (.iadd, 1) := by decide +kernel
theorem d_Lw_law_483 : decode m_Lw_law.2.1 483 = .ok (.iaload, 1) := by decide +kernel
theorem d_Lw_law_484 : decode m_Lw_law.2.1 484 = .ok (.aload_n 0, 1) := by decide +kernel
theorem d_Lw_law_485 : decode m_Lw_law.2.1 485 = .ok (.iload_n 3, 1) := by decide +kernel
theorem d_Lw_law_486 : decode m_Lw_law.2.1 486 = .ok (.iconst 3, 1) := by decide +kernel
theorem d_Lw_law_487 : decode m_Lw_law.2.1 487 = .ok (.iadd, 1) := by decide +kernel
theorem d_Lw_law_488 : decode m_Lw_law.2.1 488 = .ok (.iaload, 1) := by decide +kernel
theorem d_Lw_law_489 : decode m_Lw_law.2.1 489 = .ok (.invokevirtual 72, 3) := by decide +kernel
theorem d_Lw_law_492 : decode m_Lw_law.2.1 492 = .ok (.aload_n 2, 1) := by decide +kernel
theorem d_Lw_law_493 : decode m_Lw_law.2.1 493 = .ok (.aload_n 0, 1) := by decide +kernel
theorem d_Lw_law_494 : decode m_Lw_law.2.1 494 = .ok (.iload_n 3, 1) := by decide +kernel
theorem d_Lw_law_495 : decode m_Lw_law.2.1 495 = .ok (.iconst 1, 1) := by decide +kernel
theorem d_Lw_law_496 : decode m_Lw_law.2.1 496 = .ok (.iadd, 1) := by decide +kernel
theorem d_Lw_law_497 : decode m_Lw_law.2.1 497 = .ok (.iaload, 1) := by decide +kernel
theorem d_Lw_law_498 : decode m_Lw_law.2.1 498 = .ok (.aload_n 0, 1) := by decide +kernel
theorem d_Lw_law_499 : decode m_Lw_law.2.1 499 = .ok (.iload_n 3, 1) := by decide +kernel
theorem d_Lw_law_500 : decode m_Lw_law.2.1 500 = .ok (.iconst 2, 1) := by decide +kernel
theorem d_Lw_law_501 : decode m_Lw_law.2.1 501 = .ok (.iadd, 1) := by decide +kernel
theorem d_Lw_law_502 : decode m_Lw_law.2.1 502 = .ok (.iaload, 1) := by decide +kernel
theorem d_Lw_law_503 : decode m_Lw_law.2.1 503 = .ok (.aload_n 0, 1) := by decide +kernel
theorem d_Lw_law_504 : decode m_Lw_law.2.1 504 = .ok (.iload_n 3, 1) := by decide +kernel
theorem d_Lw_law_505 : decode m_Lw_law.2.1 505 = .ok (.iconst 3, 1) := by decide +kernel
theorem d_Lw_law_506 : decode m_Lw_law.2.1 506 = .ok (.iadd, 1) := by decide +kernel
theorem d_Lw_law_507 : decode m_Lw_law.2.1 507 = .ok (.iaload, 1) := by decide +kernel
theorem d_Lw_law_508 : decode m_Lw_law.2.1 508 = .ok (.invokevirtual 75, 3) := by decide +kernel
theorem d_Lw_law_511 : decode m_Lw_law.2.1 511 = .ok (.if_icmp .eq 38, 3) := by decide +kernel
theorem d_Lw_law_514 : decode m_Lw_law.2.1 514 = .ok (.iconst 0, 1) := by decide +kernel
theorem d_Lw_law_515 : decode m_Lw_law.2.1 515 = .ok (.ireturn, 1) := by decide +kernel
theorem d_Lw_law_516 : decode m_Lw_law.2.1 516 = .ok (.aload_n 1, 1) := by decide +kernel
theorem d_Lw_law_517 : decode m_Lw_law.2.1 517 = .ok (.aload_n 0, 1) := by decide +kernel
theorem d_Lw_law_518 : decode m_Lw_law.2.1 518 = .ok (.iload_n 3, 1) := by decide +kernel
theorem d_Lw_law_519 : decode m_Lw_law.2.1 519 = .ok (.iconst 1, 1) := by decide +kernel
theorem d_Lw_law_520 : decode m_Lw_law.2.1 520 = .ok (.iadd, 1) := by decide +kernel
theorem d_Lw_law_521 : decode m_Lw_law.2.1 521 = .ok (.iaload, 1) := by decide +kernel
theorem d_Lw_law_522 : decode m_Lw_law.2.1 522 = .ok (.aload_n 0, 1) := by decide +kernel
theorem d_Lw_law_523 : decode m_Lw_law.2.1 523 = .ok (.iload_n 3, 1) := by decide +kernel
theorem d_Lw_law_524 : decode m_Lw_law.2.1 524 = .ok (.iconst 2, 1) := by decide +kernel
theorem d_Lw_law_525 : decode m_Lw_law.2.1 525 = .ok (.iadd, 1) := by decide +kernel
theorem d_Lw_law_526 : decode m_Lw_law.2.1 526 = .ok (.iaload, 1) := by decide +kernel
theorem d_Lw_law_527 : decode m_Lw_law.2.1 527 = .ok (.invokevirtual 76, 3) := by decide +kernel
theorem d_Lw_law_530 : decode m_Lw_law.2.1 530 = .ok (.aload_n 2, 1) := by decide +kernel
theorem d_Lw_law_531 : decode m_Lw_law.2.1 531 = .ok (.aload_n 0, 1) := by decide +kernel
theorem d_Lw_law_532 : decode m_Lw_law.2.1 532 = .ok (.iload_n 3, 1) := by decide +kernel
theorem d_Lw_law_533 : decode m_Lw_law.2.1 533 = .ok (.iconst 1, 1) := by decide +kernel
theorem d_Lw_law_534 : decode m_Lw_law.2.1 534 = .ok (.iadd, 1) := by decide +kernel
theorem d_Lw_law_535 : decode m_Lw_law.2.1 535 = .ok (.iaload, 1) := by decide +kernel
theorem d_Lw_law_536 : decode m_Lw_law.2.1 536 = .ok (.aload_n 0, 1) := by decide +kernel
theorem d_Lw_law_537 : decode m_Lw_law.2.1 537 = .ok (.iload_n 3, 1) := by decide +kernel
theorem d_Lw_law_538 : decode m_Lw_law.2.1 538 = .ok (.iconst 2, 1) := by decide +kernel
theorem d_Lw_law_539 : decode m_Lw_law.2.1 539 = .ok (.iadd, 1) := by decide +kernel
theorem d_Lw_law_540 : decode m_Lw_law.2.1 540 = .ok (.iaload, 1) := by decide +kernel
theorem d_Lw_law_541 : decode m_Lw_law.2.1 541 = .ok (.invokevirtual 79, 3) := by decide +kernel
theorem d_Lw_law_544 : decode m_Lw_law.2.1 544 = .ok (.if_icmp .eq 5, 3) := by decide +kernel
theorem d_Lw_law_547 : decode m_Lw_law.2.1 547 = .ok (.iconst 0, 1) := by decide +kernel
theorem d_Lw_law_548 : decode m_Lw_law.2.1 548 = .ok (.ireturn, 1) := by decide +kernel
theorem d_Lw_law_549 : decode m_Lw_law.2.1 549 = .ok (.iinc 3 7, 3) := by decide +kernel
theorem d_Lw_law_552 : decode m_Lw_law.2.1 552 = .ok (.goto (-524), 3) := by decide +kernel
theorem d_Lw_law_555 : decode m_Lw_law.2.1 555 = .ok (.iconst 1, 1) := by decide +kernel
theorem d_Lw_law_556 : decode m_Lw_law.2.1 556 = .ok (.ireturn, 1) := by decide +kernel
end
section
/-! FURTHER ROWS -/
section XF
variable {G : xG} {d : Nat} {k : xM} {pc : Nat} {lc : List (Nat × Value)} {st : List Value} {w : xW} {P : Option Value → xW → Prop}
/-- the locals, by what they hold -/
theorem xE.fit {lc' : List (Nat × Value)} (h : xE G d k pc lc' st w P) (hs : lc'.map (fun q => xlk lc q.1) = lc'.map (fun q => some q.2)) : xE G d k pc lc st w P := by
  refine xE.few h (fun q hq => ?_)
  have := List.map_inj_left.mp hs q hq
  exact xlk_mem this
end XF
theorem z0 : narrow .boolean (.int 0) = .int 0 := by decide
theorem z1 : narrow .boolean (.int 1) = .int 1 := by decide
end
section
/-! WHAT BOTH SIDES COMPUTE: the coding, in natural numbers -/
def cTw (b : Nat) : Nat := if b ≤ 127 then 2 * b else ((2 * b) ^^^ 27) % 256
def cTm (k b : Nat) : Nat := if k = 0 then 0 else if k = 1 then b else if k = 2 then cTw b else cTw b ^^^ b
def cPt (p q k : Nat) : Nat := p ^^^ cTm k (p ^^^ q)
def cLf (x k : Nat) : Nat := (x * 167 + 59 * k) % 256
def cHf (x y : Nat) : Nat := ((256 * x + y) * 40503 + 977) % 65536
def cRt (x y : Nat) : Int32 := nI (65536 * x + y) * (-1640531527) + 7
def cRoot (p q : Nat) : Int32 := cRt (cHf (cLf (cPt p q 0) 0) (cLf (cPt p q 1) 1)) (cHf (cLf (cPt p q 2) 2) (cLf (cPt p q 3) 3))
def cUn (w : Int32) : Nat := w.toBitVec.toNat
theorem cUn_lt (w : Int32) : cUn w < 2 ^ 32 := w.toBitVec.isLt
theorem nI_cUn (w : Int32) : nI (cUn w) = w := by
  apply Int32.toBitVec_inj.mp
  show (Int32.ofNat _).toBitVec = _
  simp [cUn, Int32.toBitVec_ofNat']
/-- the product's loop, on ints -/
def pIt (f : Int32) : Nat → Nat → Int32 → Int32 → Int32
  | 0, _, s, _ => s
  | n + 1, i, s, t => pIt f n (i + 1) (if ¬ (f >>> (nI i &&& 31)) &&& 1 = 1 then s else s ^^^ t) (if t ≤ 127 then t * 2 else (t * 2 ^^^ 27) &&& 255)
def cIv (m : Nat) : Nat := if m = 1 then 1 else if m = 2 then 141 else if m = 3 then 246 else 0
/-- the byte that, times m, is y -/
def cDv (m y : Nat) : Nat := cUn (pIt (nI (cIv m)) 8 0 0 (nI y))
def cSvP (k x l y : Nat) : Nat := x ^^^ cTm k (cDv (k ^^^ l) (x ^^^ y))
def cSv (k x l y : Nat) : Nat := cSvP k x l y + 256 * (cSvP k x l y ^^^ cDv (k ^^^ l) (x ^^^ y))
theorem pIt_Tm : ∀ f, f < 4 → ∀ b, b < 256 → pIt (nI f) 8 0 0 (nI b) = nI (cTm f b) := by decide +kernel
theorem cDv_ok : ∀ m, m < 4 → 0 < m → ∀ y, y < 256 → cDv m y < 256 ∧ cTm m (cDv m y) = y ∧ cDv m (cTm m y) = y ∧ cTm m y < 256 := by decide +kernel
theorem cTm_lt : ∀ m, m < 4 → ∀ y, y < 256 → cTm m y < 256 := by decide +kernel
theorem x_lt {a b : Nat} (ha : a < 256) (hb : b < 256) : a ^^^ b < 256 := Nat.xor_lt_two_pow (n := 8) ha hb
theorem i255 {n : Nat} (h : n < 2 ^ 32) : nI n &&& 255 = nI (n % 256) := pk_andN h 8 (by decide)
theorem i65535 {n : Nat} (h : n < 2 ^ 32) : nI n &&& 65535 = nI (n % 65536) := pk_andN h 16 (by decide)
theorem nIx (a b : Nat) : nI a ^^^ nI b = nI (a ^^^ b) := by
  apply Int32.toBitVec_inj.mp
  show (Int32.ofNat a).toBitVec ^^^ (Int32.ofNat b).toBitVec = (Int32.ofNat (a ^^^ b)).toBitVec
  simp only [Int32.toBitVec_ofNat']
  apply BitVec.eq_of_getLsbD_eq
  intro i hi
  simp [BitVec.getLsbD_xor, BitVec.getLsbD_ofNat, Nat.testBit_xor, hi]
theorem iLf {a k : Nat} (ha : a < 256) (hk : k < 4) : (nI a * 167 + 59 * nI k) &&& 255 = nI (cLf a k) := by
  rw [show (167 : Int32) = nI 167 from rfl, show (59 : Int32) = nI 59 from rfl, pk_mul, pk_mul, nI_add, i255 (by omega)]
  rfl
theorem iHf {x y : Nat} (hx : x < 256) (hy : y < 256) : ((256 * nI x + nI y) * 40503 + 977) &&& 65535 = nI (cHf x y) := by
  rw [show (256 : Int32) = nI 256 from rfl, show (40503 : Int32) = nI 40503 from rfl, show (977 : Int32) = nI 977 from rfl, pk_mul, nI_add, pk_mul, nI_add, i65535 (by omega)]
  rfl
theorem iRt (x y : Nat) : (65536 * nI x + nI y) * (-1640531527) + 7 = cRt x y := by
  rw [show (65536 : Int32) = nI 65536 from rfl, pk_mul, nI_add]
  rfl
end
section
/-! THE CODING OF THE CLASS -/
section CO
variable {X : xPar} {w : xW} {P : Option Value → xW → Prop}
theorem s_Co_leafOf {x kk : Int32} {a k : Nat} (hx : x = nI a) (hkk : kk = nI k) (ha : a < 256) (hk : k < 4) (h : P (some (.int (nI (cLf a k)))) w) : xE (xGG X) 0 m_Co_leafOf 0 [(0, .int kk), (1, .int x)] [] w P := by
  subst hx hkk
  refine x_iload_n 1 rfl d_Co_leafOf_0 rfl ?_
  refine x_sipush 4 rfl d_Co_leafOf_1 167 (by decide) ?_
  refine x_imul 5 rfl d_Co_leafOf_4 ?_
  refine x_bipush 7 rfl d_Co_leafOf_5 59 (by decide) ?_
  refine x_iload_n 8 rfl d_Co_leafOf_7 rfl ?_
  refine x_imul 9 rfl d_Co_leafOf_8 ?_
  refine x_iadd 10 rfl d_Co_leafOf_9 ?_
  refine x_sipush 13 rfl d_Co_leafOf_10 255 (by decide) ?_
  refine x_iand 14 rfl d_Co_leafOf_13 ?_
  refine x_iret d_Co_leafOf_14 rfl ?_
  rw [iLf ha hk]
  exact h
theorem s_Co_halfOf {xx yy : Int32} {x y : Nat} (hxx : xx = nI x) (hyy : yy = nI y) (hx : x < 256) (hy : y < 256) (h : P (some (.int (nI (cHf x y)))) w) : xE (xGG X) 0 m_Co_halfOf 0 [(0, .int xx), (1, .int yy)] [] w P := by
  subst hxx hyy
  refine x_sipush 3 rfl d_Co_halfOf_0 256 (by decide) ?_
  refine x_iload_n 4 rfl d_Co_halfOf_3 rfl ?_
  refine x_imul 5 rfl d_Co_halfOf_4 ?_
  refine x_iload_n 6 rfl d_Co_halfOf_5 rfl ?_
  refine x_iadd 7 rfl d_Co_halfOf_6 ?_
  refine x_ldc 9 rfl d_Co_halfOf_7 k_Co_7 ?_
  refine x_imul 10 rfl d_Co_halfOf_9 ?_
  refine x_sipush 13 rfl d_Co_halfOf_10 977 (by decide) ?_
  refine x_iadd 14 rfl d_Co_halfOf_13 ?_
  refine x_ldc 16 rfl d_Co_halfOf_14 k_Co_8 ?_
  refine x_iand 17 rfl d_Co_halfOf_16 ?_
  refine x_iret d_Co_halfOf_17 rfl ?_
  rw [iHf hx hy]
  exact h
theorem s_Co_topOf {xx yy : Int32} {x y : Nat} (hxx : xx = nI x) (hyy : yy = nI y) (h : P (some (.int (cRt x y))) w) : xE (xGG X) 0 m_Co_topOf 0 [(0, .int xx), (1, .int yy)] [] w P := by
  subst hxx hyy
  refine x_ldc 2 rfl d_Co_topOf_0 k_Co_9 ?_
  refine x_iload_n 3 rfl d_Co_topOf_2 rfl ?_
  refine x_imul 4 rfl d_Co_topOf_3 ?_
  refine x_iload_n 5 rfl d_Co_topOf_4 rfl ?_
  refine x_iadd 6 rfl d_Co_topOf_5 ?_
  refine x_ldc 8 rfl d_Co_topOf_6 k_Co_10 ?_
  refine x_imul 9 rfl d_Co_topOf_8 ?_
  refine x_bipush 11 rfl d_Co_topOf_9 7 (by decide) ?_
  refine x_iadd 12 rfl d_Co_topOf_11 ?_
  refine x_iret d_Co_topOf_12 rfl ?_
  rw [iRt]
  exact h
theorem s_Co_proposal {xx yy : Int32} {p q : Nat} (hxx : xx = nI p) (hyy : yy = nI q) (h : P (some (.int (nI (p + 256 * q)))) w) : xE (xGG X) 0 m_Co_proposal 0 [(0, .int xx), (1, .int yy)] [] w P := by
  subst hxx hyy
  refine x_iload_n 1 rfl d_Co_proposal_0 rfl ?_
  refine x_sipush 4 rfl d_Co_proposal_1 256 (by decide) ?_
  refine x_iload_n 5 rfl d_Co_proposal_4 rfl ?_
  refine x_imul 6 rfl d_Co_proposal_5 ?_
  refine x_iadd 7 rfl d_Co_proposal_6 ?_
  refine x_iret d_Co_proposal_7 rfl ?_
  rw [show (256 : Int32) = nI 256 from rfl, pk_mul, nI_add]
  exact h
theorem s_Co_product_loop {f x : Int32} : ∀ (n i : Nat) (s t c : Int32), c = nI i → i + n = 8 → P (some (.int (pIt f n i s t))) w → xE (xGG X) 0 m_Co_product 7 [(0, .int f), (1, .int x), (2, .int s), (3, .int t), (4, .int c)] [] w P := by
  intro n
  induction n with
  | zero =>
    intro i s t c hc0 hi h
    have hi8 : i = 8 := by omega
    subst hi8
    subst hc0
    refine x_iload 9 rfl d_Co_product_7 rfl ?_
    refine x_bipush 11 rfl d_Co_product_9 8 (by decide) ?_
    refine x_icmp_ge 57 14 rfl d_Co_product_11 (by decide) (fun hc => ?_) (fun hc => absurd (by decide) hc)
    refine x_iload_n 58 rfl d_Co_product_57 rfl ?_
    refine x_iret d_Co_product_58 rfl ?_
    exact h
  | succ n ih =>
    intro i s t c hc0 hi h
    subst hc0
    refine x_iload 9 rfl d_Co_product_7 rfl ?_
    refine x_bipush 11 rfl d_Co_product_9 8 (by decide) ?_
    refine x_icmp_ge 57 14 rfl d_Co_product_11 (by decide) (fun hc => absurd hc (nI_ge (a := i) (b := 8) (by omega) (by decide))) (fun hc => ?_)
    refine x_iload_n 15 rfl d_Co_product_14 rfl ?_
    refine x_iload 17 rfl d_Co_product_15 rfl ?_
    refine x_ishr 18 rfl d_Co_product_17 ?_
    refine x_iconst 19 rfl d_Co_product_18 1 (by decide) ?_
    refine x_iand 20 rfl d_Co_product_19 ?_
    refine x_iconst 21 rfl d_Co_product_20 1 (by decide) ?_
    refine x_icmp_ne 28 24 rfl d_Co_product_21 (by decide) (fun hc21 => ?_) (fun hc21 => ?_)
    · refine x_iload_n 29 rfl d_Co_product_28 rfl ?_
      refine x_bipush 31 rfl d_Co_product_29 127 (by decide) ?_
      refine x_icmp_le 47 34 rfl d_Co_product_31 (by decide) (fun hc31 => ?_) (fun hc31 => ?_)
      · refine x_iload_n 48 rfl d_Co_product_47 rfl ?_
        refine x_iconst 49 rfl d_Co_product_48 2 (by decide) ?_
        refine x_imul 50 rfl d_Co_product_49 ?_
        refine x_istore_n 51 rfl d_Co_product_50 (by decide) ?_
        refine x_iinc 54 rfl d_Co_product_51 rfl 1 (by decide) (by decide) ?_
        refine x_goto d_Co_product_54 7 (by decide) ?_
        (refine xE.fit (ih (i + 1) _ _ _ (nI_succ i).symm (by omega) ?_) rfl; simpa [pIt, hc21, hc31] using h)
      · refine x_iload_n 35 rfl d_Co_product_34 rfl ?_
        refine x_iconst 36 rfl d_Co_product_35 2 (by decide) ?_
        refine x_imul 37 rfl d_Co_product_36 ?_
        refine x_bipush 39 rfl d_Co_product_37 27 (by decide) ?_
        refine x_ixor 40 rfl d_Co_product_39 ?_
        refine x_sipush 43 rfl d_Co_product_40 255 (by decide) ?_
        refine x_iand 44 rfl d_Co_product_43 ?_
        refine x_goto d_Co_product_44 50 (by decide) ?_
        refine x_istore_n 51 rfl d_Co_product_50 (by decide) ?_
        refine x_iinc 54 rfl d_Co_product_51 rfl 1 (by decide) (by decide) ?_
        refine x_goto d_Co_product_54 7 (by decide) ?_
        (refine xE.fit (ih (i + 1) _ _ _ (nI_succ i).symm (by omega) ?_) rfl; simpa [pIt, hc21, hc31] using h)
    · refine x_iload_n 25 rfl d_Co_product_24 rfl ?_
      refine x_iload_n 26 rfl d_Co_product_25 rfl ?_
      refine x_ixor 27 rfl d_Co_product_26 ?_
      refine x_istore_n 28 rfl d_Co_product_27 (by decide) ?_
      refine x_iload_n 29 rfl d_Co_product_28 rfl ?_
      refine x_bipush 31 rfl d_Co_product_29 127 (by decide) ?_
      refine x_icmp_le 47 34 rfl d_Co_product_31 (by decide) (fun hc31 => ?_) (fun hc31 => ?_)
      · refine x_iload_n 48 rfl d_Co_product_47 rfl ?_
        refine x_iconst 49 rfl d_Co_product_48 2 (by decide) ?_
        refine x_imul 50 rfl d_Co_product_49 ?_
        refine x_istore_n 51 rfl d_Co_product_50 (by decide) ?_
        refine x_iinc 54 rfl d_Co_product_51 rfl 1 (by decide) (by decide) ?_
        refine x_goto d_Co_product_54 7 (by decide) ?_
        (refine xE.fit (ih (i + 1) _ _ _ (nI_succ i).symm (by omega) ?_) rfl; simpa [pIt, hc21, hc31] using h)
      · refine x_iload_n 35 rfl d_Co_product_34 rfl ?_
        refine x_iconst 36 rfl d_Co_product_35 2 (by decide) ?_
        refine x_imul 37 rfl d_Co_product_36 ?_
        refine x_bipush 39 rfl d_Co_product_37 27 (by decide) ?_
        refine x_ixor 40 rfl d_Co_product_39 ?_
        refine x_sipush 43 rfl d_Co_product_40 255 (by decide) ?_
        refine x_iand 44 rfl d_Co_product_43 ?_
        refine x_goto d_Co_product_44 50 (by decide) ?_
        refine x_istore_n 51 rfl d_Co_product_50 (by decide) ?_
        refine x_iinc 54 rfl d_Co_product_51 rfl 1 (by decide) (by decide) ?_
        refine x_goto d_Co_product_54 7 (by decide) ?_
        (refine xE.fit (ih (i + 1) _ _ _ (nI_succ i).symm (by omega) ?_) rfl; simpa [pIt, hc21, hc31] using h)
theorem s_Co_product {f x : Int32} (h : P (some (.int (pIt f 8 0 0 x))) w) : xE (xGG X) 0 m_Co_product 0 [(0, .int f), (1, .int x)] [] w P := by
  refine x_iconst 1 rfl d_Co_product_0 0 (by decide) ?_
  refine x_istore_n 2 rfl d_Co_product_1 (by decide) ?_
  refine x_iload_n 3 rfl d_Co_product_2 rfl ?_
  refine x_istore_n 4 rfl d_Co_product_3 (by decide) ?_
  refine x_iconst 5 rfl d_Co_product_4 0 (by decide) ?_
  refine x_istore 7 rfl d_Co_product_5 (by decide) ?_
  exact xE.fit (s_Co_product_loop (f := f) (x := x) 8 0 0 x 0 rfl rfl h) rfl
end CO
end
section
/-! the coding, further -/
/-- the other half of node k's witness -/
def cOh (p q k : Nat) : Nat := if k < 2 then cHf (cLf (cPt p q 2) 2) (cLf (cPt p q 3) 3) else cHf (cLf (cPt p q 0) 0) (cLf (cPt p q 1) 1)
def cWn (p q k : Nat) : Nat := cPt p q k + 256 * cLf (cPt p q (k ^^^ 1)) (k ^^^ 1) + 65536 * cOh p q k
def cNr (u k : Nat) : Nat := if k % 2 = 0 then cHf (cLf (u % 256) k) (u / 256 % 256) else cHf (u / 256 % 256) (cLf (u % 256) k)
/-- a witness u (as an unsigned number) for node k is right under a root -/
def cRight (root : Int32) (u k : Nat) : Bool := decide (root = if k < 2 then cRt (cNr u k) (u / 65536) else cRt (u / 65536) (cNr u k))
def nB (b : Bool) : Int32 := if b then 1 else 0
theorem nB_ok (b : Bool) : narrow .boolean (.int (nB b)) = .int (nB b) := by cases b <;> decide
theorem nB_fit (b : Bool) : fits .boolean (.int (nB b)) = true := by cases b <;> decide
theorem cPt_lt {p q k : Nat} (hp : p < 256) (hq : q < 256) (hk : k < 4) : cPt p q k < 256 := x_lt hp (cTm_lt k hk _ (x_lt hp hq))
theorem cLf_lt (x k : Nat) : cLf x k < 256 := Nat.mod_lt _ (by decide)
theorem cHf_lt (x y : Nat) : cHf x y < 65536 := Nat.mod_lt _ (by decide)
theorem cOh_lt (p q k : Nat) : cOh p q k < 65536 := by unfold cOh; split <;> exact cHf_lt _ _
theorem cNr_lt (u k : Nat) : cNr u k < 65536 := by unfold cNr; split <;> exact cHf_lt _ _
theorem k1_lt : ∀ k, k < 4 → k ^^^ 1 < 4 := by decide
theorem cWn_lt {p q k : Nat} (hp : p < 256) (hq : q < 256) (hk : k < 4) : cWn p q k < 2 ^ 32 := by
  have h1 := cPt_lt hp hq hk
  have h2 := cLf_lt (cPt p q (k ^^^ 1)) (k ^^^ 1)
  have h3 := cOh_lt p q k
  unfold cWn
  omega
theorem iPt {p q k : Nat} (hp : p < 256) (hq : q < 256) (hk : k < 4) : nI p ^^^ pIt (nI k) 8 0 0 (nI p ^^^ nI q) = nI (cPt p q k) := by
  rw [nIx p q, pIt_Tm k hk _ (x_lt hp hq), nIx]
  rfl
theorem iTm {f b : Nat} (hf : f < 4) (hb : b < 256) : pIt (nI f) 8 0 0 (nI b) = nI (cTm f b) := pIt_Tm f hf b hb
theorem iP {n : Nat} (h : n < 65536) : nI n &&& 255 = nI (n % 256) := i255 (by omega)
theorem iQ {n : Nat} (h : n < 65536) : nI n >>> ((8 : Int32) &&& 31) &&& 255 = nI (n / 256) := by
  rw [pk_shrN (by omega) _ 8 (by decide), show (2 : Nat) ^ 8 = 256 from rfl, i255 (by omega), Nat.mod_eq_of_lt (by omega)]
theorem iU8 {u : Nat} (h : u < 2 ^ 32) : ((nI u).toUInt32 >>> ((8 : Int32).toUInt32 &&& Int32.toUInt32 31)).toInt32 &&& 255 = nI (u / 256 % 256) := by
  rw [pk_ushrN h _ 8 (by decide), show (2 : Nat) ^ 8 = 256 from rfl, i255 (by omega)]
theorem iU16 {u : Nat} (h : u < 2 ^ 32) : ((nI u).toUInt32 >>> ((16 : Int32).toUInt32 &&& Int32.toUInt32 31)).toInt32 = nI (u / 65536) := by
  rw [pk_ushrN h _ 16 (by decide)]
theorem iS8 {u : Nat} (h : u < 2 ^ 32) : nI u >>> ((8 : Int32) &&& 31) &&& 255 = nI (u / 256 % 256) := by
  rw [pk_and _ 8 (by decide)]
  congr 1
  have h1 := pk_shr (nI u) ((8 : Int32) &&& 31) 8 (by decide)
  have h2 : (nI u).toBitVec.toNat = u := pk_tn h
  have h3 : ∀ x : Int32, x.toInt = if 2 * x.toBitVec.toNat < 2 ^ 32 then (x.toBitVec.toNat : Int) else (x.toBitVec.toNat : Int) - 2 ^ 32 := fun x => BitVec.toInt_eq_toNat_cond _
  rw [h3, h3, h2, Int.shiftRight_eq_div_pow] at h1
  have h4 := (nI u >>> ((8 : Int32) &&& 31)).toBitVec.isLt
  split at h1 <;> split at h1 <;> omega
theorem iK1 {k : Nat} (hk : k < 4) : nI k ^^^ 1 = nI (k ^^^ 1) := nIx k 1
theorem iKa : ∀ k, k < 4 → nI k &&& 1 = nI (k % 2) := by decide +kernel
end
section
/-! THE CODING OF THE CLASS, further -/
section CO2
variable {X : xPar} {w : xW} {P : Option Value → xW → Prop}
theorem s_Co_partOf {nn kk : Int32} {n k : Nat} (hnn : nn = nI n) (hkk : kk = nI k) (hn : n < 65536) (hk : k < 4) (h : P (some (.int (nI (cPt (n % 256) (n / 256) k)))) w) : xE (xGG X) 1 m_Co_partOf 0 [(0, .int nn), (1, .int kk)] [] w P := by
  subst hnn hkk
  refine x_iload_n 1 rfl d_Co_partOf_0 rfl ?_
  refine x_sipush 4 rfl d_Co_partOf_1 255 (by decide) ?_
  refine x_iand 5 rfl d_Co_partOf_4 ?_
  refine x_istore_n 6 rfl d_Co_partOf_5 (by decide) ?_
  refine x_iload_n 7 rfl d_Co_partOf_6 rfl ?_
  refine x_bipush 9 rfl d_Co_partOf_7 8 (by decide) ?_
  refine x_ishr 10 rfl d_Co_partOf_9 ?_
  refine x_sipush 13 rfl d_Co_partOf_10 255 (by decide) ?_
  refine x_iand 14 rfl d_Co_partOf_13 ?_
  refine x_istore_n 15 rfl d_Co_partOf_14 (by decide) ?_
  refine x_iload_n 16 rfl d_Co_partOf_15 rfl ?_
  refine x_iload_n 17 rfl d_Co_partOf_16 rfl ?_
  refine x_iload_n 18 rfl d_Co_partOf_17 rfl ?_
  refine x_iload_n 19 rfl d_Co_partOf_18 rfl ?_
  refine x_ixor 20 rfl d_Co_partOf_19 ?_
  refine y_call 23 rfl [_, _] _ rfl d_Co_partOf_20 c_Co_11 rfl (Nat.le_of_ble_eq_true rfl) (Nat.le_of_ble_eq_true rfl) (Nat.le_of_ble_eq_true rfl) (s_Co_product ?_)
  refine x_ixor 24 rfl d_Co_partOf_23 ?_
  refine x_iret d_Co_partOf_24 rfl ?_
  rw [iP hn, iQ hn, iPt (Nat.mod_lt _ (by decide)) (by omega) hk]
  exact h
theorem s_Co_rootOf {nn : Int32} {n : Nat} (hnn : nn = nI n) (hn : n < 65536) (h : P (some (.int (cRoot (n % 256) (n / 256)))) w) : xE (xGG X) 1 m_Co_rootOf 0 [(0, .int nn)] [] w P := by
  subst hnn
  have hp : n % 256 < 256 := Nat.mod_lt _ (by decide)
  have hq : n / 256 < 256 := by omega
  have e1 : (nI n &&& 255) ^^^ ((nI n &&& 255) ^^^ (nI n >>> ((8 : Int32) &&& 31) &&& 255)) = nI (cPt (n % 256) (n / 256) 1) := by
    rw [iP hn, iQ hn, nIx, nIx]; rfl
  have e2 : (nI n &&& 255) ^^^ pIt 2 8 0 0 ((nI n &&& 255) ^^^ (nI n >>> ((8 : Int32) &&& 31) &&& 255)) = nI (cPt (n % 256) (n / 256) 2) := by
    rw [iP hn, iQ hn]; exact iPt hp hq (by decide)
  have e3 : (nI n &&& 255) ^^^ pIt 3 8 0 0 ((nI n &&& 255) ^^^ (nI n >>> ((8 : Int32) &&& 31) &&& 255)) = nI (cPt (n % 256) (n / 256) 3) := by
    rw [iP hn, iQ hn]; exact iPt hp hq (by decide)
  have e0 : nI n &&& 255 = nI (cPt (n % 256) (n / 256) 0) := by rw [iP hn]; simp [cPt, cTm]
  refine x_iload_n 1 rfl d_Co_rootOf_0 rfl ?_
  refine x_sipush 4 rfl d_Co_rootOf_1 255 (by decide) ?_
  refine x_iand 5 rfl d_Co_rootOf_4 ?_
  refine x_istore_n 6 rfl d_Co_rootOf_5 (by decide) ?_
  refine x_iload_n 7 rfl d_Co_rootOf_6 rfl ?_
  refine x_iload_n 8 rfl d_Co_rootOf_7 rfl ?_
  refine x_bipush 10 rfl d_Co_rootOf_8 8 (by decide) ?_
  refine x_ishr 11 rfl d_Co_rootOf_10 ?_
  refine x_sipush 14 rfl d_Co_rootOf_11 255 (by decide) ?_
  refine x_iand 15 rfl d_Co_rootOf_14 ?_
  refine x_ixor 16 rfl d_Co_rootOf_15 ?_
  refine x_istore_n 17 rfl d_Co_rootOf_16 (by decide) ?_
  refine x_iconst 18 rfl d_Co_rootOf_17 0 (by decide) ?_
  refine x_iload_n 19 rfl d_Co_rootOf_18 rfl ?_
  refine y_call 22 rfl [_, _] _ rfl d_Co_rootOf_19 c_Co_17 rfl (Nat.le_of_ble_eq_true rfl) (Nat.le_of_ble_eq_true rfl) (Nat.le_of_ble_eq_true rfl) (s_Co_leafOf e0 (k := 0) rfl (cPt_lt hp hq (by decide)) (by decide) ?_)
  refine x_iconst 23 rfl d_Co_rootOf_22 1 (by decide) ?_
  refine x_iload_n 24 rfl d_Co_rootOf_23 rfl ?_
  refine x_iload_n 25 rfl d_Co_rootOf_24 rfl ?_
  refine x_ixor 26 rfl d_Co_rootOf_25 ?_
  refine y_call 29 rfl [_, _] _ rfl d_Co_rootOf_26 c_Co_17 rfl (Nat.le_of_ble_eq_true rfl) (Nat.le_of_ble_eq_true rfl) (Nat.le_of_ble_eq_true rfl) (s_Co_leafOf e1 (k := 1) rfl (cPt_lt hp hq (by decide)) (by decide) ?_)
  refine y_call 32 rfl [_, _] _ rfl d_Co_rootOf_29 c_Co_20 rfl (Nat.le_of_ble_eq_true rfl) (Nat.le_of_ble_eq_true rfl) (Nat.le_of_ble_eq_true rfl) (s_Co_halfOf rfl rfl (cLf_lt _ _) (cLf_lt _ _) ?_)
  refine x_istore_n 33 rfl d_Co_rootOf_32 (by decide) ?_
  refine x_iconst 34 rfl d_Co_rootOf_33 2 (by decide) ?_
  refine x_iload_n 35 rfl d_Co_rootOf_34 rfl ?_
  refine x_iconst 36 rfl d_Co_rootOf_35 2 (by decide) ?_
  refine x_iload_n 37 rfl d_Co_rootOf_36 rfl ?_
  refine y_call 40 rfl [_, _] _ rfl d_Co_rootOf_37 c_Co_11 rfl (Nat.le_of_ble_eq_true rfl) (Nat.le_of_ble_eq_true rfl) (Nat.le_of_ble_eq_true rfl) (s_Co_product ?_)
  refine x_ixor 41 rfl d_Co_rootOf_40 ?_
  refine y_call 44 rfl [_, _] _ rfl d_Co_rootOf_41 c_Co_17 rfl (Nat.le_of_ble_eq_true rfl) (Nat.le_of_ble_eq_true rfl) (Nat.le_of_ble_eq_true rfl) (s_Co_leafOf e2 (k := 2) rfl (cPt_lt hp hq (by decide)) (by decide) ?_)
  refine x_iconst 45 rfl d_Co_rootOf_44 3 (by decide) ?_
  refine x_iload_n 46 rfl d_Co_rootOf_45 rfl ?_
  refine x_iconst 47 rfl d_Co_rootOf_46 3 (by decide) ?_
  refine x_iload_n 48 rfl d_Co_rootOf_47 rfl ?_
  refine y_call 51 rfl [_, _] _ rfl d_Co_rootOf_48 c_Co_11 rfl (Nat.le_of_ble_eq_true rfl) (Nat.le_of_ble_eq_true rfl) (Nat.le_of_ble_eq_true rfl) (s_Co_product ?_)
  refine x_ixor 52 rfl d_Co_rootOf_51 ?_
  refine y_call 55 rfl [_, _] _ rfl d_Co_rootOf_52 c_Co_17 rfl (Nat.le_of_ble_eq_true rfl) (Nat.le_of_ble_eq_true rfl) (Nat.le_of_ble_eq_true rfl) (s_Co_leafOf e3 (k := 3) rfl (cPt_lt hp hq (by decide)) (by decide) ?_)
  refine y_call 58 rfl [_, _] _ rfl d_Co_rootOf_55 c_Co_20 rfl (Nat.le_of_ble_eq_true rfl) (Nat.le_of_ble_eq_true rfl) (Nat.le_of_ble_eq_true rfl) (s_Co_halfOf rfl rfl (cLf_lt _ _) (cLf_lt _ _) ?_)
  refine x_istore 60 rfl d_Co_rootOf_58 (by decide) ?_
  refine x_iload_n 61 rfl d_Co_rootOf_60 rfl ?_
  refine x_iload 63 rfl d_Co_rootOf_61 rfl ?_
  refine y_call 66 rfl [_, _] _ rfl d_Co_rootOf_63 c_Co_23 rfl (Nat.le_of_ble_eq_true rfl) (Nat.le_of_ble_eq_true rfl) (Nat.le_of_ble_eq_true rfl) (s_Co_topOf rfl rfl ?_)
  refine x_iret d_Co_rootOf_66 rfl ?_
  exact h
theorem s_Co_witnessOf {nn kk : Int32} {n k : Nat} (hnn : nn = nI n) (hkk : kk = nI k) (hn : n < 65536) (hk : k < 4) (h : P (some (.int (nI (cWn (n % 256) (n / 256) k)))) w) : xE (xGG X) 2 m_Co_witnessOf 0 [(0, .int nn), (1, .int kk)] [] w P := by
  subst hnn hkk
  have hp : n % 256 < 256 := Nat.mod_lt _ (by decide)
  have hq : n / 256 < 256 := by omega
  have hk1 := k1_lt k hk
  have fin : ∀ o : Nat, o = cOh (n % 256) (n / 256) k → nI (cPt (n % 256) (n / 256) k) + 256 * nI (cLf (cPt (n % 256) (n / 256) (k ^^^ 1)) (k ^^^ 1)) + 65536 * nI o = nI (cWn (n % 256) (n / 256) k) := by
    intro o ho
    rw [ho, show (256 : Int32) = nI 256 from rfl, show (65536 : Int32) = nI 65536 from rfl, pk_mul, pk_mul, nI_add, nI_add]
    rfl
  refine x_iload_n 1 rfl d_Co_witnessOf_0 rfl ?_
  refine x_iconst 2 rfl d_Co_witnessOf_1 1 (by decide) ?_
  refine x_ixor 3 rfl d_Co_witnessOf_2 ?_
  refine x_iload_n 4 rfl d_Co_witnessOf_3 rfl ?_
  refine x_iload_n 5 rfl d_Co_witnessOf_4 rfl ?_
  refine x_iconst 6 rfl d_Co_witnessOf_5 1 (by decide) ?_
  refine x_ixor 7 rfl d_Co_witnessOf_6 ?_
  refine y_call 10 rfl [_, _] _ rfl d_Co_witnessOf_7 c_Co_26 rfl (Nat.le_of_ble_eq_true rfl) (Nat.le_of_ble_eq_true rfl) (Nat.le_of_ble_eq_true rfl) (s_Co_partOf rfl (iK1 hk) hn hk1 ?_)
  refine y_call 13 rfl [_, _] _ rfl d_Co_witnessOf_10 c_Co_17 rfl (Nat.le_of_ble_eq_true rfl) (Nat.le_of_ble_eq_true rfl) (Nat.le_of_ble_eq_true rfl) (s_Co_leafOf rfl (iK1 hk) (cPt_lt hp hq hk1) hk1 ?_)
  refine x_istore_n 14 rfl d_Co_witnessOf_13 (by decide) ?_
  refine x_iload_n 15 rfl d_Co_witnessOf_14 rfl ?_
  refine x_iconst 16 rfl d_Co_witnessOf_15 2 (by decide) ?_
  refine x_icmp_ge 23 19 rfl d_Co_witnessOf_16 (by decide) (fun hc => ?_) (fun hc => ?_)
  · have h2 : 2 ≤ k := by
      by_cases z : 2 ≤ k
      · exact z
      · exact absurd hc (nI_ge (a := k) (b := 2) (by omega) (by decide))
    refine x_iconst 24 rfl d_Co_witnessOf_23 0 (by decide) ?_
    refine x_istore_n 25 rfl d_Co_witnessOf_24 (by decide) ?_
    refine x_iload_n 26 rfl d_Co_witnessOf_25 rfl ?_
    refine x_iload_n 27 rfl d_Co_witnessOf_26 rfl ?_
    refine x_iload_n 28 rfl d_Co_witnessOf_27 rfl ?_
    refine y_call 31 rfl [_, _] _ rfl d_Co_witnessOf_28 c_Co_26 rfl (Nat.le_of_ble_eq_true rfl) (Nat.le_of_ble_eq_true rfl) (Nat.le_of_ble_eq_true rfl) (s_Co_partOf (k := 0) rfl rfl hn (by decide) ?_)
    refine y_call 34 rfl [_, _] _ rfl d_Co_witnessOf_31 c_Co_17 rfl (Nat.le_of_ble_eq_true rfl) (Nat.le_of_ble_eq_true rfl) (Nat.le_of_ble_eq_true rfl) (s_Co_leafOf (k := 0) rfl rfl (cPt_lt hp hq (by decide)) (by decide) ?_)
    refine x_iload_n 35 rfl d_Co_witnessOf_34 rfl ?_
    refine x_iconst 36 rfl d_Co_witnessOf_35 1 (by decide) ?_
    refine x_iadd 37 rfl d_Co_witnessOf_36 ?_
    refine x_iload_n 38 rfl d_Co_witnessOf_37 rfl ?_
    refine x_iload_n 39 rfl d_Co_witnessOf_38 rfl ?_
    refine x_iconst 40 rfl d_Co_witnessOf_39 1 (by decide) ?_
    refine x_iadd 41 rfl d_Co_witnessOf_40 ?_
    refine y_call 44 rfl [_, _] _ rfl d_Co_witnessOf_41 c_Co_26 rfl (Nat.le_of_ble_eq_true rfl) (Nat.le_of_ble_eq_true rfl) (Nat.le_of_ble_eq_true rfl) (s_Co_partOf (k := 1) rfl rfl hn (by decide) ?_)
    refine y_call 47 rfl [_, _] _ rfl d_Co_witnessOf_44 c_Co_17 rfl (Nat.le_of_ble_eq_true rfl) (Nat.le_of_ble_eq_true rfl) (Nat.le_of_ble_eq_true rfl) (s_Co_leafOf (k := 1) rfl rfl (cPt_lt hp hq (by decide)) (by decide) ?_)
    refine y_call 50 rfl [_, _] _ rfl d_Co_witnessOf_47 c_Co_20 rfl (Nat.le_of_ble_eq_true rfl) (Nat.le_of_ble_eq_true rfl) (Nat.le_of_ble_eq_true rfl) (s_Co_halfOf rfl rfl (cLf_lt _ _) (cLf_lt _ _) ?_)
    refine x_istore 52 rfl d_Co_witnessOf_50 (by decide) ?_
    refine x_iload_n 53 rfl d_Co_witnessOf_52 rfl ?_
    refine x_iload_n 54 rfl d_Co_witnessOf_53 rfl ?_
    refine y_call 57 rfl [_, _] _ rfl d_Co_witnessOf_54 c_Co_26 rfl (Nat.le_of_ble_eq_true rfl) (Nat.le_of_ble_eq_true rfl) (Nat.le_of_ble_eq_true rfl) (s_Co_partOf rfl rfl hn hk ?_)
    refine x_sipush 60 rfl d_Co_witnessOf_57 256 (by decide) ?_
    refine x_iload_n 61 rfl d_Co_witnessOf_60 rfl ?_
    refine x_imul 62 rfl d_Co_witnessOf_61 ?_
    refine x_iadd 63 rfl d_Co_witnessOf_62 ?_
    refine x_ldc 65 rfl d_Co_witnessOf_63 k_Co_9 ?_
    refine x_iload 67 rfl d_Co_witnessOf_65 rfl ?_
    refine x_imul 68 rfl d_Co_witnessOf_67 ?_
    refine x_iadd 69 rfl d_Co_witnessOf_68 ?_
    refine x_iret d_Co_witnessOf_69 rfl ?_
    rw [fin _ (by simp only [cOh, if_neg (Nat.not_lt.mpr h2)])]
    exact h
  · have h2 : k < 2 := by
      by_cases z : k < 2
      · exact z
      · exact absurd (nI_le (a := 2) (b := k) (by omega) (by omega)) hc
    refine x_iconst 20 rfl d_Co_witnessOf_19 2 (by decide) ?_
    refine x_goto d_Co_witnessOf_20 24 (by decide) ?_
    refine x_istore_n 25 rfl d_Co_witnessOf_24 (by decide) ?_
    refine x_iload_n 26 rfl d_Co_witnessOf_25 rfl ?_
    refine x_iload_n 27 rfl d_Co_witnessOf_26 rfl ?_
    refine x_iload_n 28 rfl d_Co_witnessOf_27 rfl ?_
    refine y_call 31 rfl [_, _] _ rfl d_Co_witnessOf_28 c_Co_26 rfl (Nat.le_of_ble_eq_true rfl) (Nat.le_of_ble_eq_true rfl) (Nat.le_of_ble_eq_true rfl) (s_Co_partOf (k := 2) rfl rfl hn (by decide) ?_)
    refine y_call 34 rfl [_, _] _ rfl d_Co_witnessOf_31 c_Co_17 rfl (Nat.le_of_ble_eq_true rfl) (Nat.le_of_ble_eq_true rfl) (Nat.le_of_ble_eq_true rfl) (s_Co_leafOf (k := 2) rfl rfl (cPt_lt hp hq (by decide)) (by decide) ?_)
    refine x_iload_n 35 rfl d_Co_witnessOf_34 rfl ?_
    refine x_iconst 36 rfl d_Co_witnessOf_35 1 (by decide) ?_
    refine x_iadd 37 rfl d_Co_witnessOf_36 ?_
    refine x_iload_n 38 rfl d_Co_witnessOf_37 rfl ?_
    refine x_iload_n 39 rfl d_Co_witnessOf_38 rfl ?_
    refine x_iconst 40 rfl d_Co_witnessOf_39 1 (by decide) ?_
    refine x_iadd 41 rfl d_Co_witnessOf_40 ?_
    refine y_call 44 rfl [_, _] _ rfl d_Co_witnessOf_41 c_Co_26 rfl (Nat.le_of_ble_eq_true rfl) (Nat.le_of_ble_eq_true rfl) (Nat.le_of_ble_eq_true rfl) (s_Co_partOf (k := 3) rfl rfl hn (by decide) ?_)
    refine y_call 47 rfl [_, _] _ rfl d_Co_witnessOf_44 c_Co_17 rfl (Nat.le_of_ble_eq_true rfl) (Nat.le_of_ble_eq_true rfl) (Nat.le_of_ble_eq_true rfl) (s_Co_leafOf (k := 3) rfl rfl (cPt_lt hp hq (by decide)) (by decide) ?_)
    refine y_call 50 rfl [_, _] _ rfl d_Co_witnessOf_47 c_Co_20 rfl (Nat.le_of_ble_eq_true rfl) (Nat.le_of_ble_eq_true rfl) (Nat.le_of_ble_eq_true rfl) (s_Co_halfOf rfl rfl (cLf_lt _ _) (cLf_lt _ _) ?_)
    refine x_istore 52 rfl d_Co_witnessOf_50 (by decide) ?_
    refine x_iload_n 53 rfl d_Co_witnessOf_52 rfl ?_
    refine x_iload_n 54 rfl d_Co_witnessOf_53 rfl ?_
    refine y_call 57 rfl [_, _] _ rfl d_Co_witnessOf_54 c_Co_26 rfl (Nat.le_of_ble_eq_true rfl) (Nat.le_of_ble_eq_true rfl) (Nat.le_of_ble_eq_true rfl) (s_Co_partOf rfl rfl hn hk ?_)
    refine x_sipush 60 rfl d_Co_witnessOf_57 256 (by decide) ?_
    refine x_iload_n 61 rfl d_Co_witnessOf_60 rfl ?_
    refine x_imul 62 rfl d_Co_witnessOf_61 ?_
    refine x_iadd 63 rfl d_Co_witnessOf_62 ?_
    refine x_ldc 65 rfl d_Co_witnessOf_63 k_Co_9 ?_
    refine x_iload 67 rfl d_Co_witnessOf_65 rfl ?_
    refine x_imul 68 rfl d_Co_witnessOf_67 ?_
    refine x_iadd 69 rfl d_Co_witnessOf_68 ?_
    refine x_iret d_Co_witnessOf_69 rfl ?_
    rw [fin _ (by simp only [cOh, if_pos h2])]
    exact h
theorem s_Co_isRight {kk root ww : Int32} {k u : Nat} (hkk : kk = nI k) (hww : ww = nI u) (hk : k < 4) (hu : u < 2 ^ 32) (h : P (some (.int (nB (cRight root u k)))) w) : xE (xGG X) 1 m_Co_isRight 0 [(0, .int kk), (1, .int root), (2, .int ww)] [] w P := by
  subst hkk hww
  have e0 : nI u &&& 255 = nI (u % 256) := i255 hu
  refine x_iload_n 1 rfl d_Co_isRight_0 rfl ?_
  refine x_iload_n 2 rfl d_Co_isRight_1 rfl ?_
  refine x_sipush 5 rfl d_Co_isRight_2 255 (by decide) ?_
  refine x_iand 6 rfl d_Co_isRight_5 ?_
  refine y_call 9 rfl [_, _] _ rfl d_Co_isRight_6 c_Co_17 rfl (Nat.le_of_ble_eq_true rfl) (Nat.le_of_ble_eq_true rfl) (Nat.le_of_ble_eq_true rfl) (s_Co_leafOf e0 rfl (Nat.mod_lt _ (by decide)) hk ?_)
  refine x_istore_n 10 rfl d_Co_isRight_9 (by decide) ?_
  refine x_iload_n 11 rfl d_Co_isRight_10 rfl ?_
  refine x_bipush 13 rfl d_Co_isRight_11 8 (by decide) ?_
  refine x_iushr 14 rfl d_Co_isRight_13 ?_
  refine x_sipush 17 rfl d_Co_isRight_14 255 (by decide) ?_
  refine x_iand 18 rfl d_Co_isRight_17 ?_
  refine x_istore 20 rfl d_Co_isRight_18 (by decide) ?_
  refine x_iload_n 21 rfl d_Co_isRight_20 rfl ?_
  refine x_bipush 23 rfl d_Co_isRight_21 16 (by decide) ?_
  refine x_iushr 24 rfl d_Co_isRight_23 ?_
  refine x_istore 26 rfl d_Co_isRight_24 (by decide) ?_
  refine x_iload_n 27 rfl d_Co_isRight_26 rfl ?_
  refine x_iconst 28 rfl d_Co_isRight_27 1 (by decide) ?_
  refine x_iand 29 rfl d_Co_isRight_28 ?_
  rw [iU8 hu, iU16 hu, iKa k hk]
  have key : ∀ nr : Nat, nr = cNr u k → xE (xGG X) 1 m_Co_isRight 49 [(0, .int (nI k)), (1, .int root), (5, .int (nI (u / 65536))), (6, .int (nI nr))] [] w P := by
    intro nr hnr
    refine x_iload_n 50 rfl d_Co_isRight_49 rfl ?_
    refine x_iload_n 51 rfl d_Co_isRight_50 rfl ?_
    refine x_iconst 52 rfl d_Co_isRight_51 2 (by decide) ?_
    refine x_icmp_ge 65 55 rfl d_Co_isRight_52 (by decide) (fun hc => ?_) (fun hc => ?_)
    · have h2 : 2 ≤ k := by
        by_cases z : 2 ≤ k
        · exact z
        · exact absurd hc (nI_ge (a := k) (b := 2) (by omega) (by decide))
      refine x_iload 67 rfl d_Co_isRight_65 rfl ?_
      refine x_iload 69 rfl d_Co_isRight_67 rfl ?_
      refine y_call 72 rfl [_, _] _ rfl d_Co_isRight_69 c_Co_23 rfl (Nat.le_of_ble_eq_true rfl) (Nat.le_of_ble_eq_true rfl) (Nat.le_of_ble_eq_true rfl) (s_Co_topOf rfl rfl ?_)
      refine x_icmp_ne 79 75 rfl d_Co_isRight_72 (by decide) (fun hc => ?_) (fun hc => ?_)
      · refine x_iconst 80 rfl d_Co_isRight_79 0 (by decide) ?_
        refine x_zret d_Co_isRight_80 rfl (by decide) ?_
        have : cRight root u k = false := by simp [cRight, Nat.not_lt.mpr h2, ← hnr, hc]
        rw [this] at h
        exact h
      · refine x_iconst 76 rfl d_Co_isRight_75 1 (by decide) ?_
        refine x_goto d_Co_isRight_76 80 (by decide) ?_
        refine x_zret d_Co_isRight_80 rfl (by decide) ?_
        have : cRight root u k = true := by simp [cRight, Nat.not_lt.mpr h2, ← hnr, hc]
        rw [this] at h
        exact h
    · have h2 : k < 2 := by
        by_cases z : k < 2
        · exact z
        · exact absurd (nI_le (a := 2) (b := k) (by omega) (by omega)) hc
      refine x_iload 57 rfl d_Co_isRight_55 rfl ?_
      refine x_iload 59 rfl d_Co_isRight_57 rfl ?_
      refine y_call 62 rfl [_, _] _ rfl d_Co_isRight_59 c_Co_23 rfl (Nat.le_of_ble_eq_true rfl) (Nat.le_of_ble_eq_true rfl) (Nat.le_of_ble_eq_true rfl) (s_Co_topOf rfl rfl ?_)
      refine x_goto d_Co_isRight_62 72 (by decide) ?_
      refine x_icmp_ne 79 75 rfl d_Co_isRight_72 (by decide) (fun hc => ?_) (fun hc => ?_)
      · refine x_iconst 80 rfl d_Co_isRight_79 0 (by decide) ?_
        refine x_zret d_Co_isRight_80 rfl (by decide) ?_
        have : cRight root u k = false := by simp [cRight, h2, ← hnr, hc]
        rw [this] at h
        exact h
      · refine x_iconst 76 rfl d_Co_isRight_75 1 (by decide) ?_
        refine x_goto d_Co_isRight_76 80 (by decide) ?_
        refine x_zret d_Co_isRight_80 rfl (by decide) ?_
        have : cRight root u k = true := by simp [cRight, h2, ← hnr, hc]
        rw [this] at h
        exact h
  refine x_if_ne 41 32 rfl d_Co_isRight_29 (by decide) (fun hc => ?_) (fun hc => ?_)
  · have h2 : ¬ k % 2 = 0 := fun z => hc (by rw [z]; rfl)
    refine x_iload 43 rfl d_Co_isRight_41 rfl ?_
    refine x_iload_n 44 rfl d_Co_isRight_43 rfl ?_
    refine y_call 47 rfl [_, _] _ rfl d_Co_isRight_44 c_Co_20 rfl (Nat.le_of_ble_eq_true rfl) (Nat.le_of_ble_eq_true rfl) (Nat.le_of_ble_eq_true rfl) (s_Co_halfOf rfl rfl (Nat.mod_lt _ (by decide)) (cLf_lt _ _) ?_)
    refine x_istore 49 rfl d_Co_isRight_47 (by decide) ?_
    exact xE.fit (key _ (by simp only [cNr, if_neg h2])) rfl
  · have h2 : k % 2 = 0 := by
      by_cases z : k % 2 = 0
      · exact z
      · exact absurd hc (nI_ne0 (by omega) (by omega))
    refine x_iload_n 33 rfl d_Co_isRight_32 rfl ?_
    refine x_iload 35 rfl d_Co_isRight_33 rfl ?_
    refine y_call 38 rfl [_, _] _ rfl d_Co_isRight_35 c_Co_20 rfl (Nat.le_of_ble_eq_true rfl) (Nat.le_of_ble_eq_true rfl) (Nat.le_of_ble_eq_true rfl) (s_Co_halfOf rfl rfl (cLf_lt _ _) (Nat.mod_lt _ (by decide)) ?_)
    refine x_goto d_Co_isRight_38 47 (by decide) ?_
    refine x_istore 49 rfl d_Co_isRight_47 (by decide) ?_
    exact xE.fit (key _ (by simp only [cNr, if_pos h2])) rfl
end CO2
end
section
/-! ===== Int32 by its bits: bt x i ===== -/
def bt (x : Int32) (i : Nat) : Bool := x.toBitVec.getLsbD i
theorem b_ext {x y : Int32} (h : ∀ i, i < 32 → bt x i = bt y i) : x = y := Int32.toBitVec_inj.mp (BitVec.eq_of_getLsbD_eq (fun i hi => h i hi))
theorem b_or (x y : Int32) (i : Nat) : bt (x ||| y) i = (bt x i || bt y i) := by unfold bt; rw [Int32.toBitVec_or, BitVec.getLsbD_or]
theorem b_and (x y : Int32) (i : Nat) : bt (x &&& y) i = (bt x i && bt y i) := by unfold bt; rw [Int32.toBitVec_and, BitVec.getLsbD_and]
theorem b_xor (x y : Int32) (i : Nat) : bt (x ^^^ y) i = (bt x i ^^ bt y i) := by unfold bt; rw [Int32.toBitVec_xor, BitVec.getLsbD_xor]
theorem b_big {x : Int32} {i : Nat} (h : 32 ≤ i) : bt x i = false := BitVec.getLsbD_of_ge _ _ h
theorem b_255 (i : Nat) : bt 255 i = decide (i < 8) := by
  rcases Nat.lt_or_ge i 32 with h | h
  · exact (by decide +kernel : ∀ i, i < 32 → bt 255 i = decide (i < 8)) i h
  · rw [b_big h, decide_eq_false (by omega)]
theorem b_65535 (i : Nat) : bt 65535 i = decide (i < 16) := by
  rcases Nat.lt_or_ge i 32 with h | h
  · exact (by decide +kernel : ∀ i, i < 32 → bt 65535 i = decide (i < 16)) i h
  · rw [b_big h, decide_eq_false (by omega)]
theorem b_m1 : ∀ i, i < 32 → bt (-1) i = true := by decide +kernel
theorem b_0 (i : Nat) : bt 0 i = false := BitVec.getLsbD_zero
theorem s_l : ∀ n, n < 32 → ((nI n &&& 31).toBitVec.smod 32).toNat = n := by decide +kernel
theorem s_u : ∀ n, n < 32 → (((nI n).toUInt32 &&& Int32.toUInt32 31).toBitVec % 32).toNat = n := by decide +kernel
theorem b_shl (n : Nat) (hn : n < 32) (x : Int32) {i : Nat} (hi : i < 32) : bt (x <<< (nI n &&& 31)) i = (decide (n ≤ i) && bt x (i - n)) := by
  unfold bt
  rw [Int32.toBitVec_shiftLeft]
  show (x.toBitVec <<< ((nI n &&& 31).toBitVec.smod 32).toNat).getLsbD i = _
  rw [s_l n hn, BitVec.getLsbD_shiftLeft]
  rcases Nat.lt_or_ge i n with h | h
  · simp [h, Nat.not_le.mpr h]
  · simp [hi, h, Nat.not_lt.mpr h]
theorem b_ushr (n : Nat) (hn : n < 32) (x : Int32) (i : Nat) : bt ((x.toUInt32 >>> ((nI n).toUInt32 &&& Int32.toUInt32 31)).toInt32) i = bt x (n + i) := by
  show (x.toUInt32 >>> ((nI n).toUInt32 &&& Int32.toUInt32 31)).toBitVec.getLsbD i = x.toUInt32.toBitVec.getLsbD (n + i)
  rw [UInt32.toBitVec_shiftRight]
  show (x.toUInt32.toBitVec >>> (((nI n).toUInt32 &&& Int32.toUInt32 31).toBitVec % 32).toNat).getLsbD i = _
  rw [s_u n hn, BitVec.getLsbD_ushiftRight]
theorem b_sshr (n : Nat) (hn : n < 32) (x : Int32) {i : Nat} (hi : i < 32) : bt (x >>> (nI n &&& 31)) i = if n + i < 32 then bt x (n + i) else bt x 31 := by
  unfold bt
  rw [Int32.toBitVec_shiftRight]
  show (x.toBitVec.sshiftRight ((nI n &&& 31).toBitVec.smod 32).toNat).getLsbD i = _
  rw [s_l n hn, BitVec.getLsbD_sshiftRight, BitVec.msb_eq_getLsbD_last]
  simp [hi]
theorem b_shl8 (x : Int32) {i : Nat} (hi : i < 32) : bt (x <<< ((8 : Int32) &&& 31)) i = (decide (8 ≤ i) && bt x (i - 8)) := b_shl 8 (by omega) x hi
theorem b_shl16 (x : Int32) {i : Nat} (hi : i < 32) : bt (x <<< ((16 : Int32) &&& 31)) i = (decide (16 ≤ i) && bt x (i - 16)) := b_shl 16 (by omega) x hi
theorem b_shl24 (x : Int32) {i : Nat} (hi : i < 32) : bt (x <<< ((24 : Int32) &&& 31)) i = (decide (24 ≤ i) && bt x (i - 24)) := b_shl 24 (by omega) x hi
theorem b_sshr8 (x : Int32) {i : Nat} (hi : i < 32) : bt (x >>> ((8 : Int32) &&& 31)) i = if 8 + i < 32 then bt x (8 + i) else bt x 31 := b_sshr 8 (by omega) x hi
theorem b_1 : ∀ i, i < 32 → bt 1 i = decide (i = 0) := by decide +kernel
/-- a bit, by either shift -/
theorem b_bit (x : Int32) (n : Nat) (hn : n < 32) : x >>> (nI n &&& 31) &&& 1 = (x.toUInt32 >>> ((nI n).toUInt32 &&& Int32.toUInt32 31)).toInt32 &&& 1 := by
  apply b_ext
  intro i hi
  rw [b_and, b_and, b_1 i hi, b_sshr n hn x hi, b_ushr n hn]
  by_cases h0 : i = 0
  · subst h0
    simp [hn]
  · simp [h0]
def cCoin (t : Int32) (e i r : Nat) : Nat := cUn t / 2 ^ ((24 * e + 6 * i + r) % 31) % 2
theorem cCoin_lt (t : Int32) (e i r : Nat) : cCoin t e i r < 2 := Nat.mod_lt _ (by decide)
theorem i1 {n : Nat} (h : n < 2 ^ 32) : nI n &&& 1 = nI (n % 2) := by
  have := pk_andN h (m := 1) 1 (by decide)
  rw [this]
theorem iCoin (t : Int32) (e i r : Nat) : (t.toUInt32 >>> ((nI ((24 * e + 6 * i + r) % 31)).toUInt32 &&& Int32.toUInt32 31)).toInt32 &&& 1 = nI (cCoin t e i r) := by
  have h := cUn_lt t
  have hj : (24 * e + 6 * i + r) % 31 < 32 := by omega
  have e1 : (t.toUInt32 >>> ((nI ((24 * e + 6 * i + r) % 31)).toUInt32 &&& Int32.toUInt32 31)).toInt32 = nI (cUn t / 2 ^ ((24 * e + 6 * i + r) % 31)) := by
    have := pk_ushrN h (nI ((24 * e + 6 * i + r) % 31)) _ (s_u _ hj)
    rw [nI_cUn] at this
    exact this
  rw [e1, i1 (Nat.lt_of_le_of_lt (Nat.div_le_self _ _) h)]
  rfl
theorem iNn {e i r : Nat} (he : e < 4) (hi : i < 4) (hr : r < 6) : nI (24 * e + 6 * i + r) - nI (24 * e + 6 * i + r) / 31 * 31 = nI ((24 * e + 6 * i + r) % 31) := pk_rem (d := 31) (by omega) (by decide) (by decide)
/-! cells below the base, that nobody writes -/
section XRO
variable {G : xG} {d : Nat} {k : xM} {pc : Nat} {lc : List (Nat × Value)} {st : List Value} {w : xW} {P : Option Value → xW → Prop}
theorem x_gets {idx : Nat} {C n ds : String} {v : Value} (q : Nat) (hq : pc + 3 = q) (hd : decode k.2.1 pc = .ok (.getstatic idx, 3)) (hlink : Cond.fieldLink k.1.cls idx C n ds ∈ xws G) (hz : ∀ U H, xz G U H → va_Z C n ds v (fun q => xb G ≤ q) U H) (h : xE G d k q lc (v :: st) w P) : xE G d k pc lc st w P := by
  subst hq
  refine h.s1 (fun p e R s m args below meth c H locs cells slots ls Q C r hl kk => ?_)
  obtain ⟨c1, c2, c3, c4, c5, c6, c7, c8, c9, c10, c11⟩ := C
  obtain ⟨cf, kf, fi, f, a, cell, h1, h2, h3, h4, h5, h6, h7, h8⟩ := hz s H r.2.2.2.1
  exact W.gets c1 c2 c7 (c8 _ hlink) h1 h2 h3 h4 h5 (fun e => by rw [e] at h6; cases h6) h7 rfl hd kk
theorem x_iaT {t N : Nat} {f : Nat → Value} {i : Int32} {v : Value} (q : Nat) (hq : pc + 1 = q) (hd : decode k.2.1 pc = .ok (.iaload, 1)) (hz : ∀ U H, xz G U H → va_T .int t N f (fun q => xb G ≤ q) U H) (hin : vp_in i N) (hv : f i.toNatClampNeg = v) (h : xE G d k q lc (v :: st) w P) : xE G d k pc lc (.int i :: .ref t :: st) w P := by
  subst hq
  refine h.s1 (fun p e R s m args below meth c H locs cells slots ls Q C r hl kk => ?_)
  obtain ⟨cell, h1, h2, h3, h4, h5, h6, h7⟩ := hz s H r.2.2.2.1
  have hlt : i.toNatClampNeg < N := Nat.not_le.mp fun q => hin (Or.inr q)
  refine W.iald (v := v) C.1 C.2.1 h1 h2 h3 (fun q => ?_) (by rw [h6 _ hlt, hv]) rfl rfl hd kk
  rcases q with q | q
  · exact hin (Or.inl q)
  · omega
theorem x_lenT {t N : Nat} {ty : FieldType} {f : Nat → Value} (q : Nat) (hq : pc + 1 = q) (hd : decode k.2.1 pc = .ok (.arraylength, 1)) (hz : ∀ U H, xz G U H → va_T ty t N f (fun q => xb G ≤ q) U H) (h : xE G d k q lc (.int (nI N) :: st) w P) : xE G d k pc lc (.ref t :: st) w P := by
  subst hq
  refine h.s1 (fun p e R s m args below meth c H locs cells slots ls Q C r hl kk => ?_)
  obtain ⟨cell, h1, h2, h3, h4, h5, h6, h7⟩ := hz s H r.2.2.2.1
  exact W.alen (n := nI N) C.1 C.2.1 h1 h2 h5 rfl rfl hd kk
theorem x_iaX {b L : Nat} {xs : Nat → Int32} {i : Int32} (q : Nat) (hq : pc + 1 = q) (hd : decode k.2.1 pc = .ok (.iaload, 1)) (hz : ∀ U H, xz G U H → va_X b L xs U H) (hin : vp_in i L) (h : xE G d k q lc (.int (xs i.toNatClampNeg) :: st) w P) : xE G d k pc lc (.int i :: .ref b :: st) w P := by
  subst hq
  refine h.s1 (fun p e R s m args below meth c H locs cells slots ls Q C r hl kk => ?_)
  obtain ⟨scr, h1, h2, h3, h4, h5⟩ := hz s H r.2.2.2.1
  have hlt : i.toNatClampNeg < L := Nat.not_le.mp fun q => hin (Or.inr q)
  exact W.iald (v := .int (xs i.toNatClampNeg)) C.1 C.2.1 h1 h2 h3 (by rw [h4]; exact hin) (h5 _ hlt) rfl rfl hd kk
theorem x_lenX {b L : Nat} {xs : Nat → Int32} (q : Nat) (hq : pc + 1 = q) (hd : decode k.2.1 pc = .ok (.arraylength, 1)) (hz : ∀ U H, xz G U H → va_X b L xs U H) (h : xE G d k q lc (.int (nI L) :: st) w P) : xE G d k pc lc (.ref b :: st) w P := by
  subst hq
  refine h.s1 (fun p e R s m args below meth c H locs cells slots ls Q C r hl kk => ?_)
  obtain ⟨scr, h1, h2, h3, h4, h5⟩ := hz s H r.2.2.2.1
  exact W.alen (n := Int32.ofNat L) C.1 C.2.1 h1 h2 (by rw [h4] <;> rfl) rfl rfl hd kk
end XRO
/-- what lies below the base: the script of L ints xs at sb, the class's table of inverses at tI, ArrayList's empty array at tE, the mirror of Object[] at mi -/
def xS (X : xPar) (sb L : Nat) (xs : Nat → Int32) (tI tE mi : Nat) : Prop := ∀ U H, X.2.2.2.2 U H → va_X sb L xs U H ∧
  va_Z "EpochLedger$Coding" "INVERSES" "[I" (.ref tI) (fun q => X.2.1 ≤ q) U H ∧ va_T .int tI 4 (fun j => .int (nI (cIv j))) (fun q => X.2.1 ≤ q) U H ∧
  va_Z "java/util/ArrayList" "DEFAULTCAPACITY_EMPTY_ELEMENTDATA" "[Ljava/lang/Object;" (.ref tE) (fun q => X.2.1 ≤ q) U H ∧ va_T (.object "java/lang/Object") tE 0 (fun _ => .null) (fun q => X.2.1 ≤ q) U H ∧
  va_Mi "[Ljava/lang/Object;" mi U ∧ va_Dc U ∧ tE < X.2.1 ∧ (∃ cell : Cell, H[tE]? = some cell ∧ cell.vm.isStatics = false ∧ U.vm.findClass "[Ljava/lang/Object;" = some cell.cls)
end
section
/-! THE REST OF THE CLASS'S CODING, SMALL STATIC METHODS -/
theorem iInv {k l : Nat} (hk : k < 4) (hl : l < 4) : (nI k ^^^ nI l) &&& 3 = nI (k ^^^ l) := by
  rw [nIx]
  exact (by decide +kernel : ∀ k, k < 4 → ∀ l, l < 4 → nI (k ^^^ l) &&& 3 = nI (k ^^^ l)) k hk l hl
theorem kl_lt : ∀ k, k < 4 → ∀ l, l < 4 → k ≠ l → 0 < k ^^^ l ∧ k ^^^ l < 4 := by decide +kernel
theorem f_inv {X : xPar} : Cond.fieldLink "EpochLedger$Coding" 29 "EpochLedger$Coding" "INVERSES" "[I" ∈ xws (xGG X) := xi3 8 rfl rfl
def cPop (n : Nat) : Nat := n % 2 + n / 2 % 2 + n / 4 % 2 + n / 8 % 2
theorem cPop_le (n : Nat) : cPop n ≤ 4 := by unfold cPop; omega
section CO3
variable {X : xPar} {sb L : Nat} {xs : Nat → Int32} {tI tE mi : Nat} {w : xW} {P : Option Value → xW → Prop}
theorem s_Co_proposalWith (hX : xS X sb L xs tI tE mi) {kk xx ll yy : Int32} {k x l y : Nat} (hkk : kk = nI k) (hxx : xx = nI x) (hll : ll = nI l) (hyy : yy = nI y) (hk : k < 4) (hl : l < 4) (hne : k ≠ l) (hx : x < 256) (hy : y < 256) (h : P (some (.int (nI (cSv k x l y)))) w) : xE (xGG X) 1 m_Co_proposalWith 0 [(0, .int kk), (1, .int xx), (2, .int ll), (3, .int yy)] [] w P := by
  subst hkk hxx hll hyy
  obtain ⟨h1, h2⟩ := kl_lt k hk l hl hne
  have hdv := cDv_ok (k ^^^ l) h2 h1 (x ^^^ y) (x_lt hx hy)
  have e1 : pIt (nI (cIv (k ^^^ l))) 8 0 0 (nI (x ^^^ y)) = nI (cDv (k ^^^ l) (x ^^^ y)) := (nI_cUn _).symm
  refine x_gets 3 rfl d_Co_proposalWith_0 f_inv (fun U H z => (hX U H z).2.1) ?_
  refine x_iload_n 4 rfl d_Co_proposalWith_3 rfl ?_
  refine x_iload_n 5 rfl d_Co_proposalWith_4 rfl ?_
  refine x_ixor 6 rfl d_Co_proposalWith_5 ?_
  refine x_iconst 7 rfl d_Co_proposalWith_6 3 (by decide) ?_
  refine x_iand 8 rfl d_Co_proposalWith_7 ?_
  rw [iInv hk hl]
  refine x_iaT 9 rfl d_Co_proposalWith_8 (fun U H z => (hX U H z).2.2.1) (vp_in_nI h2 (by decide)) rfl ?_
  rw [nI_clamp (Nat.lt_trans h2 (by decide))]
  refine x_iload_n 10 rfl d_Co_proposalWith_9 rfl ?_
  refine x_iload_n 11 rfl d_Co_proposalWith_10 rfl ?_
  refine x_ixor 12 rfl d_Co_proposalWith_11 ?_
  rw [nIx]
  refine y_call 15 rfl [_, _] _ rfl d_Co_proposalWith_12 c_Co_11 rfl (Nat.le_of_ble_eq_true rfl) (Nat.le_of_ble_eq_true rfl) (Nat.le_of_ble_eq_true rfl) (s_Co_product ?_)
  refine x_istore 17 rfl d_Co_proposalWith_15 (by decide) ?_
  refine x_iload_n 18 rfl d_Co_proposalWith_17 rfl ?_
  refine x_iload_n 19 rfl d_Co_proposalWith_18 rfl ?_
  refine x_iload 21 rfl d_Co_proposalWith_19 rfl ?_
  rw [e1]
  refine y_call 24 rfl [_, _] _ rfl d_Co_proposalWith_21 c_Co_11 rfl (Nat.le_of_ble_eq_true rfl) (Nat.le_of_ble_eq_true rfl) (Nat.le_of_ble_eq_true rfl) (s_Co_product ?_)
  rw [iTm hk hdv.1]
  refine x_ixor 25 rfl d_Co_proposalWith_24 ?_
  refine x_istore 27 rfl d_Co_proposalWith_25 (by decide) ?_
  refine x_iload 29 rfl d_Co_proposalWith_27 rfl ?_
  refine x_iload 31 rfl d_Co_proposalWith_29 rfl ?_
  refine x_iload 33 rfl d_Co_proposalWith_31 rfl ?_
  refine x_ixor 34 rfl d_Co_proposalWith_33 ?_
  refine y_call 37 rfl [_, _] _ rfl d_Co_proposalWith_34 c_Co_33 rfl (Nat.le_of_ble_eq_true rfl) (Nat.le_of_ble_eq_true rfl) (Nat.le_of_ble_eq_true rfl) (s_Co_proposal (nIx _ _) (by rw [nIx, nIx]) ?_)
  refine x_iret d_Co_proposalWith_37 rfl ?_
  exact h
theorem s_It_bitCount {xx : Int32} {n : Nat} (hxx : xx = nI n) (hn : n < 16) (h : P (some (.int (nI (cPop n)))) w) : xE (xGG X) 0 m_It_bitCount 0 [(0, .int xx)] [] w P := by
  subst hxx
  refine x_iload_n 1 rfl d_It_bitCount_0 rfl ?_
  refine x_iload_n 2 rfl d_It_bitCount_1 rfl ?_
  refine x_iconst 3 rfl d_It_bitCount_2 1 (by decide) ?_
  refine x_iushr 4 rfl d_It_bitCount_3 ?_
  refine x_ldcw 7 rfl d_It_bitCount_4 k_It_265 ?_
  refine x_iand 8 rfl d_It_bitCount_7 ?_
  refine x_isub 9 rfl d_It_bitCount_8 ?_
  refine x_istore_n 10 rfl d_It_bitCount_9 (by decide) ?_
  refine x_iload_n 11 rfl d_It_bitCount_10 rfl ?_
  refine x_ldcw 14 rfl d_It_bitCount_11 k_It_266 ?_
  refine x_iand 15 rfl d_It_bitCount_14 ?_
  refine x_iload_n 16 rfl d_It_bitCount_15 rfl ?_
  refine x_iconst 17 rfl d_It_bitCount_16 2 (by decide) ?_
  refine x_iushr 18 rfl d_It_bitCount_17 ?_
  refine x_ldcw 21 rfl d_It_bitCount_18 k_It_266 ?_
  refine x_iand 22 rfl d_It_bitCount_21 ?_
  refine x_iadd 23 rfl d_It_bitCount_22 ?_
  refine x_istore_n 24 rfl d_It_bitCount_23 (by decide) ?_
  refine x_iload_n 25 rfl d_It_bitCount_24 rfl ?_
  refine x_iload_n 26 rfl d_It_bitCount_25 rfl ?_
  refine x_iconst 27 rfl d_It_bitCount_26 4 (by decide) ?_
  refine x_iushr 28 rfl d_It_bitCount_27 ?_
  refine x_iadd 29 rfl d_It_bitCount_28 ?_
  refine x_ldcw 32 rfl d_It_bitCount_29 k_It_267 ?_
  refine x_iand 33 rfl d_It_bitCount_32 ?_
  refine x_istore_n 34 rfl d_It_bitCount_33 (by decide) ?_
  refine x_iload_n 35 rfl d_It_bitCount_34 rfl ?_
  refine x_iload_n 36 rfl d_It_bitCount_35 rfl ?_
  refine x_bipush 38 rfl d_It_bitCount_36 8 (by decide) ?_
  refine x_iushr 39 rfl d_It_bitCount_38 ?_
  refine x_iadd 40 rfl d_It_bitCount_39 ?_
  refine x_istore_n 41 rfl d_It_bitCount_40 (by decide) ?_
  refine x_iload_n 42 rfl d_It_bitCount_41 rfl ?_
  refine x_iload_n 43 rfl d_It_bitCount_42 rfl ?_
  refine x_bipush 45 rfl d_It_bitCount_43 16 (by decide) ?_
  refine x_iushr 46 rfl d_It_bitCount_45 ?_
  refine x_iadd 47 rfl d_It_bitCount_46 ?_
  refine x_istore_n 48 rfl d_It_bitCount_47 (by decide) ?_
  refine x_iload_n 49 rfl d_It_bitCount_48 rfl ?_
  refine x_bipush 51 rfl d_It_bitCount_49 63 (by decide) ?_
  refine x_iand 52 rfl d_It_bitCount_51 ?_
  refine x_iret d_It_bitCount_52 rfl ?_
  have key : ∀ n, n < 16 → (fun x : Int32 => (fun x : Int32 => (fun x : Int32 => (fun x : Int32 => (fun x : Int32 => x &&& 63) (x + (x.toUInt32 >>> ((16 : Int32).toUInt32 &&& Int32.toUInt32 31)).toInt32)) (x + (x.toUInt32 >>> ((8 : Int32).toUInt32 &&& Int32.toUInt32 31)).toInt32)) ((x + (x.toUInt32 >>> ((4 : Int32).toUInt32 &&& Int32.toUInt32 31)).toInt32) &&& 252645135)) ((x &&& 858993459) + ((x.toUInt32 >>> ((2 : Int32).toUInt32 &&& Int32.toUInt32 31)).toInt32 &&& 858993459))) (nI n - (((nI n).toUInt32 >>> ((1 : Int32).toUInt32 &&& Int32.toUInt32 31)).toInt32 &&& 1431655765)) = nI (cPop n) := by decide +kernel
  have k2 := key n hn
  dsimp only at k2
  rw [k2]
  exact h
theorem s_El_isIn {x lo hi : Int32} (h : P (some (.int (nB (decide (lo ≤ x ∧ x ≤ hi))))) w) : xE (xGG X) 0 m_El_isIn 0 [(0, .int x), (1, .int lo), (2, .int hi)] [] w P := by
  refine x_iload_n 1 rfl d_El_isIn_0 rfl ?_
  refine x_iload_n 2 rfl d_El_isIn_1 rfl ?_
  refine x_icmp_lt 14 5 rfl d_El_isIn_2 (by decide) (fun hc => ?_) (fun hc => ?_)
  · refine x_iconst 15 rfl d_El_isIn_14 0 (by decide) ?_
    refine x_zret d_El_isIn_15 rfl (by decide) ?_
    rw [show decide (lo ≤ x ∧ x ≤ hi) = false from decide_eq_false (fun z => absurd z.1 (Int32.not_le.mpr hc))] at h
    exact h
  · refine x_iload_n 6 rfl d_El_isIn_5 rfl ?_
    refine x_iload_n 7 rfl d_El_isIn_6 rfl ?_
    refine x_icmp_gt 14 10 rfl d_El_isIn_7 (by decide) (fun hc2 => ?_) (fun hc2 => ?_)
    · refine x_iconst 15 rfl d_El_isIn_14 0 (by decide) ?_
      refine x_zret d_El_isIn_15 rfl (by decide) ?_
      rw [show decide (lo ≤ x ∧ x ≤ hi) = false from decide_eq_false (fun z => absurd z.2 (Int32.not_le.mpr hc2))] at h
      exact h
    · refine x_iconst 11 rfl d_El_isIn_10 1 (by decide) ?_
      refine x_goto d_El_isIn_11 15 (by decide) ?_
      refine x_zret d_El_isIn_15 rfl (by decide) ?_
      rw [show decide (lo ≤ x ∧ x ≤ hi) = true from decide_eq_true ⟨Int32.not_lt.mp hc, Int32.not_lt.mp hc2⟩] at h
      exact h
theorem s_El_isNode {x : Int32} (h : P (some (.int (nB (decide (0 ≤ x ∧ x ≤ 3))))) w) : xE (xGG X) 1 m_El_isNode 0 [(0, .int x)] [] w P := by
  refine x_iload_n 1 rfl d_El_isNode_0 rfl ?_
  refine x_iconst 2 rfl d_El_isNode_1 0 (by decide) ?_
  refine x_iconst 3 rfl d_El_isNode_2 3 (by decide) ?_
  refine y_call 6 rfl [_, _, _] _ rfl d_El_isNode_3 c_El_34 rfl (Nat.le_of_ble_eq_true rfl) (Nat.le_of_ble_eq_true rfl) (Nat.le_of_ble_eq_true rfl) (s_El_isIn ?_)
  refine x_zret d_El_isNode_6 rfl (nB_ok _) ?_
  exact h
theorem s_El_isEpoch {x : Int32} (h : P (some (.int (nB (decide (0 ≤ x ∧ x ≤ 3))))) w) : xE (xGG X) 1 m_El_isEpoch 0 [(0, .int x)] [] w P := by
  refine x_iload_n 1 rfl d_El_isEpoch_0 rfl ?_
  refine x_iconst 2 rfl d_El_isEpoch_1 0 (by decide) ?_
  refine x_iconst 3 rfl d_El_isEpoch_2 3 (by decide) ?_
  refine y_call 6 rfl [_, _, _] _ rfl d_El_isEpoch_3 c_El_34 rfl (Nat.le_of_ble_eq_true rfl) (Nat.le_of_ble_eq_true rfl) (Nat.le_of_ble_eq_true rfl) (s_El_isIn ?_)
  refine x_zret d_El_isEpoch_6 rfl (nB_ok _) ?_
  exact h
theorem s_El_isRound {x : Int32} (h : P (some (.int (nB (decide (0 ≤ x ∧ x ≤ 5))))) w) : xE (xGG X) 1 m_El_isRound 0 [(0, .int x)] [] w P := by
  refine x_iload_n 1 rfl d_El_isRound_0 rfl ?_
  refine x_iconst 2 rfl d_El_isRound_1 0 (by decide) ?_
  refine x_iconst 3 rfl d_El_isRound_2 5 (by decide) ?_
  refine y_call 6 rfl [_, _, _] _ rfl d_El_isRound_3 c_El_34 rfl (Nat.le_of_ble_eq_true rfl) (Nat.le_of_ble_eq_true rfl) (Nat.le_of_ble_eq_true rfl) (s_El_isIn ?_)
  refine x_zret d_El_isRound_6 rfl (nB_ok _) ?_
  exact h
theorem s_El_tossOf {t ee ii rr : Int32} {e i r : Nat} (hee : ee = nI e) (hii : ii = nI i) (hrr : rr = nI r) (he : e < 4) (hi : i < 4) (hr : r < 6) (h : P (some (.int (nI (cCoin t e i r)))) w) : xE (xGG X) 0 m_El_tossOf 0 [(0, .int t), (1, .int ee), (2, .int ii), (3, .int rr)] [] w P := by
  subst hee hii hrr
  refine x_iload_n 1 rfl d_El_tossOf_0 rfl ?_
  refine x_iload_n 2 rfl d_El_tossOf_1 rfl ?_
  refine x_iconst 3 rfl d_El_tossOf_2 4 (by decide) ?_
  refine x_imul 4 rfl d_El_tossOf_3 ?_
  refine x_bipush 6 rfl d_El_tossOf_4 6 (by decide) ?_
  refine x_imul 7 rfl d_El_tossOf_6 ?_
  refine x_iload_n 8 rfl d_El_tossOf_7 rfl ?_
  refine x_bipush 10 rfl d_El_tossOf_8 6 (by decide) ?_
  refine x_imul 11 rfl d_El_tossOf_10 ?_
  refine x_iadd 12 rfl d_El_tossOf_11 ?_
  refine x_iload_n 13 rfl d_El_tossOf_12 rfl ?_
  refine x_iadd 14 rfl d_El_tossOf_13 ?_
  refine x_bipush 16 rfl d_El_tossOf_14 31 (by decide) ?_
  refine x_irem 17 rfl d_El_tossOf_16 (by decide) ?_
  refine x_iushr 18 rfl d_El_tossOf_17 ?_
  refine x_iconst 19 rfl d_El_tossOf_18 1 (by decide) ?_
  refine x_iand 20 rfl d_El_tossOf_19 ?_
  refine x_iret d_El_tossOf_20 rfl ?_
  rw [show (4 : Int32) = nI 4 from rfl, show (6 : Int32) = nI 6 from rfl, pk_mul, pk_mul, pk_mul, nI_add, nI_add, show e * 4 * 6 + i * 6 + r = 24 * e + 6 * i + r by omega, iNn he hi hr, iCoin]
  exact h
end CO3
/-! THE REFERENCE'S CODING -/
section MC
variable {X : xPar} {w : xW} {P : Option Value → xW → Prop}
theorem s_Mo_isNode {x : Int32} (h : P (some (.int (nB (decide (0 ≤ x ∧ x ≤ 3))))) w) : xE (xGG X) 0 m_Mo_isNode 0 [(0, .int x)] [] w P := by
  refine x_iload_n 1 rfl d_Mo_isNode_0 rfl ?_
  refine x_if_lt 13 4 rfl d_Mo_isNode_1 (by decide) (fun hc => ?_) (fun hc => ?_)
  · refine x_iconst 14 rfl d_Mo_isNode_13 0 (by decide) ?_
    refine x_zret d_Mo_isNode_14 rfl (by decide) ?_
    rw [show decide (0 ≤ x ∧ x ≤ 3) = false from decide_eq_false (fun z => absurd z.1 (Int32.not_le.mpr hc))] at h
    exact h
  · refine x_iload_n 5 rfl d_Mo_isNode_4 rfl ?_
    refine x_iconst 6 rfl d_Mo_isNode_5 3 (by decide) ?_
    refine x_icmp_gt 13 9 rfl d_Mo_isNode_6 (by decide) (fun hc2 => ?_) (fun hc2 => ?_)
    · refine x_iconst 14 rfl d_Mo_isNode_13 0 (by decide) ?_
      refine x_zret d_Mo_isNode_14 rfl (by decide) ?_
      rw [show decide (0 ≤ x ∧ x ≤ 3) = false from decide_eq_false (fun z => absurd z.2 (Int32.not_le.mpr hc2))] at h
      exact h
    · refine x_iconst 10 rfl d_Mo_isNode_9 1 (by decide) ?_
      refine x_goto d_Mo_isNode_10 14 (by decide) ?_
      refine x_zret d_Mo_isNode_14 rfl (by decide) ?_
      rw [show decide (0 ≤ x ∧ x ≤ 3) = true from decide_eq_true ⟨Int32.not_lt.mp hc, Int32.not_lt.mp hc2⟩] at h
      exact h
def tI (k b : Int32) : Int32 := if k = 0 then 0 else if k = 1 then b else if k = 2 then (if b ≤ 127 then 2 * b else (2 * b ^^^ 27) &&& 255) else (if b ≤ 127 then 2 * b else (2 * b ^^^ 27) &&& 255) ^^^ b
theorem tI_ok : ∀ k, k < 4 → ∀ b, b < 256 → tI (nI k) (nI b) = nI (cTm k b) := by decide +kernel
theorem s_Mo_times {kk bb : Int32} {k b : Nat} (hkk : kk = nI k) (hbb : bb = nI b) (hk : k < 4) (hb : b < 256) (h : P (some (.int (nI (cTm k b)))) w) : xE (xGG X) 0 m_Mo_times 0 [(0, .int kk), (1, .int bb)] [] w P := by
  have ht := tI_ok k hk b hb
  rw [← hkk, ← hbb] at ht
  rw [← ht] at h
  clear ht hkk hbb
  refine x_iload_n 1 rfl d_Mo_times_0 rfl ?_
  refine x_bipush 3 rfl d_Mo_times_1 127 (by decide) ?_
  refine x_icmp_le 19 6 rfl d_Mo_times_3 (by decide) (fun hc3 => ?_) (fun hc3 => ?_)
  · refine x_iconst 20 rfl d_Mo_times_19 2 (by decide) ?_
    refine x_iload_n 21 rfl d_Mo_times_20 rfl ?_
    refine x_imul 22 rfl d_Mo_times_21 ?_
    refine x_istore_n 23 rfl d_Mo_times_22 (by decide) ?_
    refine x_iload_n 24 rfl d_Mo_times_23 rfl ?_
    refine x_if_ne 31 27 rfl d_Mo_times_24 (by decide) (fun hc24 => ?_) (fun hc24 => ?_)
    · refine x_iload_n 32 rfl d_Mo_times_31 rfl ?_
      refine x_iconst 33 rfl d_Mo_times_32 1 (by decide) ?_
      refine x_icmp_ne 40 36 rfl d_Mo_times_33 (by decide) (fun hc33 => ?_) (fun hc33 => ?_)
      · refine x_iload_n 41 rfl d_Mo_times_40 rfl ?_
        refine x_iconst 42 rfl d_Mo_times_41 2 (by decide) ?_
        refine x_icmp_ne 49 45 rfl d_Mo_times_42 (by decide) (fun hc42 => ?_) (fun hc42 => ?_)
        · refine x_iload_n 50 rfl d_Mo_times_49 rfl ?_
          refine x_iload_n 51 rfl d_Mo_times_50 rfl ?_
          refine x_ixor 52 rfl d_Mo_times_51 ?_
          refine x_iret d_Mo_times_52 rfl ?_
          (simpa [tI, *] using h)
        · refine x_iload_n 46 rfl d_Mo_times_45 rfl ?_
          refine x_goto d_Mo_times_46 52 (by decide) ?_
          refine x_iret d_Mo_times_52 rfl ?_
          (simpa [tI, *] using h)
      · refine x_iload_n 37 rfl d_Mo_times_36 rfl ?_
        refine x_goto d_Mo_times_37 52 (by decide) ?_
        refine x_iret d_Mo_times_52 rfl ?_
        (simpa [tI, *] using h)
    · refine x_iconst 28 rfl d_Mo_times_27 0 (by decide) ?_
      refine x_goto d_Mo_times_28 52 (by decide) ?_
      refine x_iret d_Mo_times_52 rfl ?_
      (simpa [tI, *] using h)
  · refine x_iconst 7 rfl d_Mo_times_6 2 (by decide) ?_
    refine x_iload_n 8 rfl d_Mo_times_7 rfl ?_
    refine x_imul 9 rfl d_Mo_times_8 ?_
    refine x_bipush 11 rfl d_Mo_times_9 27 (by decide) ?_
    refine x_ixor 12 rfl d_Mo_times_11 ?_
    refine x_sipush 15 rfl d_Mo_times_12 255 (by decide) ?_
    refine x_iand 16 rfl d_Mo_times_15 ?_
    refine x_goto d_Mo_times_16 22 (by decide) ?_
    refine x_istore_n 23 rfl d_Mo_times_22 (by decide) ?_
    refine x_iload_n 24 rfl d_Mo_times_23 rfl ?_
    refine x_if_ne 31 27 rfl d_Mo_times_24 (by decide) (fun hc24 => ?_) (fun hc24 => ?_)
    · refine x_iload_n 32 rfl d_Mo_times_31 rfl ?_
      refine x_iconst 33 rfl d_Mo_times_32 1 (by decide) ?_
      refine x_icmp_ne 40 36 rfl d_Mo_times_33 (by decide) (fun hc33 => ?_) (fun hc33 => ?_)
      · refine x_iload_n 41 rfl d_Mo_times_40 rfl ?_
        refine x_iconst 42 rfl d_Mo_times_41 2 (by decide) ?_
        refine x_icmp_ne 49 45 rfl d_Mo_times_42 (by decide) (fun hc42 => ?_) (fun hc42 => ?_)
        · refine x_iload_n 50 rfl d_Mo_times_49 rfl ?_
          refine x_iload_n 51 rfl d_Mo_times_50 rfl ?_
          refine x_ixor 52 rfl d_Mo_times_51 ?_
          refine x_iret d_Mo_times_52 rfl ?_
          (simpa [tI, *] using h)
        · refine x_iload_n 46 rfl d_Mo_times_45 rfl ?_
          refine x_goto d_Mo_times_46 52 (by decide) ?_
          refine x_iret d_Mo_times_52 rfl ?_
          (simpa [tI, *] using h)
      · refine x_iload_n 37 rfl d_Mo_times_36 rfl ?_
        refine x_goto d_Mo_times_37 52 (by decide) ?_
        refine x_iret d_Mo_times_52 rfl ?_
        (simpa [tI, *] using h)
    · refine x_iconst 28 rfl d_Mo_times_27 0 (by decide) ?_
      refine x_goto d_Mo_times_28 52 (by decide) ?_
      refine x_iret d_Mo_times_52 rfl ?_
      (simpa [tI, *] using h)
theorem s_Mo_partOf {pp qq kk : Int32} {p q k : Nat} (hpp : pp = nI p) (hqq : qq = nI q) (hkk : kk = nI k) (hp : p < 256) (hq : q < 256) (hk : k < 4) (h : P (some (.int (nI (cPt p q k)))) w) : xE (xGG X) 1 m_Mo_partOf 0 [(0, .int pp), (1, .int qq), (2, .int kk)] [] w P := by
  subst hpp hqq hkk
  refine x_iload_n 1 rfl d_Mo_partOf_0 rfl ?_
  refine x_iload_n 2 rfl d_Mo_partOf_1 rfl ?_
  refine x_iload_n 3 rfl d_Mo_partOf_2 rfl ?_
  refine x_iload_n 4 rfl d_Mo_partOf_3 rfl ?_
  refine x_ixor 5 rfl d_Mo_partOf_4 ?_
  refine y_call 8 rfl [_, _] _ rfl d_Mo_partOf_5 c_Mo_106 rfl (Nat.le_of_ble_eq_true rfl) (Nat.le_of_ble_eq_true rfl) (Nat.le_of_ble_eq_true rfl) (s_Mo_times rfl (nIx p q) hk (x_lt hp hq) ?_)
  refine x_ixor 9 rfl d_Mo_partOf_8 ?_
  refine x_iret d_Mo_partOf_9 rfl ?_
  rw [nIx]
  exact h
theorem s_Mo_leaf {xx kk : Int32} {x k : Nat} (hxx : xx = nI x) (hkk : kk = nI k) (hx : x < 256) (hk : k < 4) (h : P (some (.int (nI (cLf x k)))) w) : xE (xGG X) 0 m_Mo_leaf 0 [(0, .int xx), (1, .int kk)] [] w P := by
  subst hxx hkk
  refine x_iload_n 1 rfl d_Mo_leaf_0 rfl ?_
  refine x_sipush 4 rfl d_Mo_leaf_1 167 (by decide) ?_
  refine x_imul 5 rfl d_Mo_leaf_4 ?_
  refine x_bipush 7 rfl d_Mo_leaf_5 59 (by decide) ?_
  refine x_iload_n 8 rfl d_Mo_leaf_7 rfl ?_
  refine x_imul 9 rfl d_Mo_leaf_8 ?_
  refine x_iadd 10 rfl d_Mo_leaf_9 ?_
  refine x_sipush 13 rfl d_Mo_leaf_10 256 (by decide) ?_
  refine x_irem 14 rfl d_Mo_leaf_13 (by decide) ?_
  refine x_iret d_Mo_leaf_14 rfl ?_
  rw [show (167 : Int32) = nI 167 from rfl, show (59 : Int32) = nI 59 from rfl, show (256 : Int32) = nI 256 from rfl, pk_mul, pk_mul, nI_add, pk_rem (by omega) (by decide) (by decide)]
  exact h
theorem s_Mo_half {xx yy : Int32} {x y : Nat} (hxx : xx = nI x) (hyy : yy = nI y) (hx : x < 256) (hy : y < 256) (h : P (some (.int (nI (cHf x y)))) w) : xE (xGG X) 0 m_Mo_half 0 [(0, .int xx), (1, .int yy)] [] w P := by
  subst hxx hyy
  refine x_ldc2 3 rfl d_Mo_half_0 k_Mo_110 ?_
  refine x_iload_n 4 rfl d_Mo_half_3 rfl ?_
  refine x_i2l 5 rfl d_Mo_half_4 ?_
  refine x_lmul 6 rfl d_Mo_half_5 ?_
  refine x_iload_n 7 rfl d_Mo_half_6 rfl ?_
  refine x_i2l 8 rfl d_Mo_half_7 ?_
  refine x_ladd 9 rfl d_Mo_half_8 ?_
  refine x_ldc2 12 rfl d_Mo_half_9 k_Mo_112 ?_
  refine x_lmul 13 rfl d_Mo_half_12 ?_
  refine x_ldc2 16 rfl d_Mo_half_13 k_Mo_114 ?_
  refine x_ladd 17 rfl d_Mo_half_16 ?_
  refine x_ldc2 20 rfl d_Mo_half_17 k_Mo_116 ?_
  refine x_lrem 21 rfl d_Mo_half_20 (by decide) ?_
  refine x_l2i 22 rfl d_Mo_half_21 ?_
  refine x_iret d_Mo_half_22 rfl ?_
  rw [nI_l (by omega), nI_l (by omega), show (256 : Int64) = lN 256 from rfl, show (40503 : Int64) = lN 40503 from rfl, show (977 : Int64) = lN 977 from rfl, show (65536 : Int64) = lN 65536 from rfl, lN_mul, lN_add, lN_mul, lN_add, pk_lRem (by omega) (by decide) (by decide), lN_i]
  exact h
theorem s_Mo_rootOf {xx yy : Int32} {x y : Nat} (hxx : xx = nI x) (hyy : yy = nI y) (h : P (some (.int (cRt x y))) w) : xE (xGG X) 0 m_Mo_rootOf 0 [(0, .int xx), (1, .int yy)] [] w P := by
  subst hxx hyy
  refine x_ldc 2 rfl d_Mo_rootOf_0 k_Mo_118 ?_
  refine x_iload_n 3 rfl d_Mo_rootOf_2 rfl ?_
  refine x_imul 4 rfl d_Mo_rootOf_3 ?_
  refine x_iload_n 5 rfl d_Mo_rootOf_4 rfl ?_
  refine x_iadd 6 rfl d_Mo_rootOf_5 ?_
  refine x_ldc 8 rfl d_Mo_rootOf_6 k_Mo_119 ?_
  refine x_imul 9 rfl d_Mo_rootOf_8 ?_
  refine x_bipush 11 rfl d_Mo_rootOf_9 7 (by decide) ?_
  refine x_iadd 12 rfl d_Mo_rootOf_11 ?_
  refine x_iret d_Mo_rootOf_12 rfl ?_
  rw [iRt]
  exact h
theorem s_Mo_rootOfProposal {pp qq : Int32} {p q : Nat} (hpp : pp = nI p) (hqq : qq = nI q) (hp : p < 256) (hq : q < 256) (h : P (some (.int (cRoot p q))) w) : xE (xGG X) 2 m_Mo_rootOfProposal 0 [(0, .int pp), (1, .int qq)] [] w P := by
  subst hpp hqq
  refine x_iload_n 1 rfl d_Mo_rootOfProposal_0 rfl ?_
  refine x_iload_n 2 rfl d_Mo_rootOfProposal_1 rfl ?_
  refine x_iconst 3 rfl d_Mo_rootOfProposal_2 0 (by decide) ?_
  refine y_call 6 rfl [_, _, _] _ rfl d_Mo_rootOfProposal_3 c_Mo_120 rfl (Nat.le_of_ble_eq_true rfl) (Nat.le_of_ble_eq_true rfl) (Nat.le_of_ble_eq_true rfl) (s_Mo_partOf (k := 0) rfl rfl rfl hp hq (by decide) ?_)
  refine x_iconst 7 rfl d_Mo_rootOfProposal_6 0 (by decide) ?_
  refine y_call 10 rfl [_, _] _ rfl d_Mo_rootOfProposal_7 c_Mo_124 rfl (Nat.le_of_ble_eq_true rfl) (Nat.le_of_ble_eq_true rfl) (Nat.le_of_ble_eq_true rfl) (s_Mo_leaf (k := 0) rfl rfl (cPt_lt hp hq (by decide)) (by decide) ?_)
  refine x_iload_n 11 rfl d_Mo_rootOfProposal_10 rfl ?_
  refine x_iload_n 12 rfl d_Mo_rootOfProposal_11 rfl ?_
  refine x_iconst 13 rfl d_Mo_rootOfProposal_12 1 (by decide) ?_
  refine y_call 16 rfl [_, _, _] _ rfl d_Mo_rootOfProposal_13 c_Mo_120 rfl (Nat.le_of_ble_eq_true rfl) (Nat.le_of_ble_eq_true rfl) (Nat.le_of_ble_eq_true rfl) (s_Mo_partOf (k := 1) rfl rfl rfl hp hq (by decide) ?_)
  refine x_iconst 17 rfl d_Mo_rootOfProposal_16 1 (by decide) ?_
  refine y_call 20 rfl [_, _] _ rfl d_Mo_rootOfProposal_17 c_Mo_124 rfl (Nat.le_of_ble_eq_true rfl) (Nat.le_of_ble_eq_true rfl) (Nat.le_of_ble_eq_true rfl) (s_Mo_leaf (k := 1) rfl rfl (cPt_lt hp hq (by decide)) (by decide) ?_)
  refine y_call 23 rfl [_, _] _ rfl d_Mo_rootOfProposal_20 c_Mo_127 rfl (Nat.le_of_ble_eq_true rfl) (Nat.le_of_ble_eq_true rfl) (Nat.le_of_ble_eq_true rfl) (s_Mo_half rfl rfl (cLf_lt _ _) (cLf_lt _ _) ?_)
  refine x_istore_n 24 rfl d_Mo_rootOfProposal_23 (by decide) ?_
  refine x_iload_n 25 rfl d_Mo_rootOfProposal_24 rfl ?_
  refine x_iload_n 26 rfl d_Mo_rootOfProposal_25 rfl ?_
  refine x_iconst 27 rfl d_Mo_rootOfProposal_26 2 (by decide) ?_
  refine y_call 30 rfl [_, _, _] _ rfl d_Mo_rootOfProposal_27 c_Mo_120 rfl (Nat.le_of_ble_eq_true rfl) (Nat.le_of_ble_eq_true rfl) (Nat.le_of_ble_eq_true rfl) (s_Mo_partOf (k := 2) rfl rfl rfl hp hq (by decide) ?_)
  refine x_iconst 31 rfl d_Mo_rootOfProposal_30 2 (by decide) ?_
  refine y_call 34 rfl [_, _] _ rfl d_Mo_rootOfProposal_31 c_Mo_124 rfl (Nat.le_of_ble_eq_true rfl) (Nat.le_of_ble_eq_true rfl) (Nat.le_of_ble_eq_true rfl) (s_Mo_leaf (k := 2) rfl rfl (cPt_lt hp hq (by decide)) (by decide) ?_)
  refine x_iload_n 35 rfl d_Mo_rootOfProposal_34 rfl ?_
  refine x_iload_n 36 rfl d_Mo_rootOfProposal_35 rfl ?_
  refine x_iconst 37 rfl d_Mo_rootOfProposal_36 3 (by decide) ?_
  refine y_call 40 rfl [_, _, _] _ rfl d_Mo_rootOfProposal_37 c_Mo_120 rfl (Nat.le_of_ble_eq_true rfl) (Nat.le_of_ble_eq_true rfl) (Nat.le_of_ble_eq_true rfl) (s_Mo_partOf (k := 3) rfl rfl rfl hp hq (by decide) ?_)
  refine x_iconst 41 rfl d_Mo_rootOfProposal_40 3 (by decide) ?_
  refine y_call 44 rfl [_, _] _ rfl d_Mo_rootOfProposal_41 c_Mo_124 rfl (Nat.le_of_ble_eq_true rfl) (Nat.le_of_ble_eq_true rfl) (Nat.le_of_ble_eq_true rfl) (s_Mo_leaf (k := 3) rfl rfl (cPt_lt hp hq (by decide)) (by decide) ?_)
  refine y_call 47 rfl [_, _] _ rfl d_Mo_rootOfProposal_44 c_Mo_127 rfl (Nat.le_of_ble_eq_true rfl) (Nat.le_of_ble_eq_true rfl) (Nat.le_of_ble_eq_true rfl) (s_Mo_half rfl rfl (cLf_lt _ _) (cLf_lt _ _) ?_)
  refine x_istore_n 48 rfl d_Mo_rootOfProposal_47 (by decide) ?_
  refine x_iload_n 49 rfl d_Mo_rootOfProposal_48 rfl ?_
  refine x_iload_n 50 rfl d_Mo_rootOfProposal_49 rfl ?_
  refine y_call 53 rfl [_, _] _ rfl d_Mo_rootOfProposal_50 c_Mo_130 rfl (Nat.le_of_ble_eq_true rfl) (Nat.le_of_ble_eq_true rfl) (Nat.le_of_ble_eq_true rfl) (s_Mo_rootOf rfl rfl ?_)
  refine x_iret d_Mo_rootOfProposal_53 rfl ?_
  exact h
theorem s_Mo_witness {pp qq kk : Int32} {p q k : Nat} (hpp : pp = nI p) (hqq : qq = nI q) (hkk : kk = nI k) (hp : p < 256) (hq : q < 256) (hk : k < 4) (h : P (some (.int (nI (cWn p q k)))) w) : xE (xGG X) 2 m_Mo_witness 0 [(0, .int pp), (1, .int qq), (2, .int kk)] [] w P := by
  subst hpp hqq hkk
  have hk1 := k1_lt k hk
  have fin : ∀ o : Nat, o = cOh p q k → nI (cPt p q k) + 256 * nI (cLf (cPt p q (k ^^^ 1)) (k ^^^ 1)) + 65536 * nI o = nI (cWn p q k) := by
    intro o ho
    rw [ho, show (256 : Int32) = nI 256 from rfl, show (65536 : Int32) = nI 65536 from rfl, pk_mul, pk_mul, nI_add, nI_add]
    rfl
  refine x_iload_n 1 rfl d_Mo_witness_0 rfl ?_
  refine x_iconst 2 rfl d_Mo_witness_1 1 (by decide) ?_
  refine x_ixor 3 rfl d_Mo_witness_2 ?_
  refine x_istore_n 4 rfl d_Mo_witness_3 (by decide) ?_
  refine x_iload_n 5 rfl d_Mo_witness_4 rfl ?_
  refine x_iconst 6 rfl d_Mo_witness_5 2 (by decide) ?_
  refine x_icmp_ge 13 9 rfl d_Mo_witness_6 (by decide) (fun hc => ?_) (fun hc => ?_)
  · have h2 : 2 ≤ k := by
      by_cases z : 2 ≤ k
      · exact z
      · exact absurd hc (nI_ge (a := k) (b := 2) (by omega) (by decide))
    refine x_iconst 14 rfl d_Mo_witness_13 0 (by decide) ?_
    refine x_istore 16 rfl d_Mo_witness_14 (by decide) ?_
    refine x_iload_n 17 rfl d_Mo_witness_16 rfl ?_
    refine x_iload_n 18 rfl d_Mo_witness_17 rfl ?_
    refine x_iload 20 rfl d_Mo_witness_18 rfl ?_
    refine y_call 23 rfl [_, _, _] _ rfl d_Mo_witness_20 c_Mo_120 rfl (Nat.le_of_ble_eq_true rfl) (Nat.le_of_ble_eq_true rfl) (Nat.le_of_ble_eq_true rfl) (s_Mo_partOf (k := 0) rfl rfl rfl hp hq (by decide) ?_)
    refine x_iload 25 rfl d_Mo_witness_23 rfl ?_
    refine y_call 28 rfl [_, _] _ rfl d_Mo_witness_25 c_Mo_124 rfl (Nat.le_of_ble_eq_true rfl) (Nat.le_of_ble_eq_true rfl) (Nat.le_of_ble_eq_true rfl) (s_Mo_leaf (k := 0) rfl rfl (cPt_lt hp hq (by decide)) (by decide) ?_)
    refine x_iload_n 29 rfl d_Mo_witness_28 rfl ?_
    refine x_iload_n 30 rfl d_Mo_witness_29 rfl ?_
    refine x_iload 32 rfl d_Mo_witness_30 rfl ?_
    refine x_iconst 33 rfl d_Mo_witness_32 1 (by decide) ?_
    refine x_iadd 34 rfl d_Mo_witness_33 ?_
    refine y_call 37 rfl [_, _, _] _ rfl d_Mo_witness_34 c_Mo_120 rfl (Nat.le_of_ble_eq_true rfl) (Nat.le_of_ble_eq_true rfl) (Nat.le_of_ble_eq_true rfl) (s_Mo_partOf (k := 1) rfl rfl rfl hp hq (by decide) ?_)
    refine x_iload 39 rfl d_Mo_witness_37 rfl ?_
    refine x_iconst 40 rfl d_Mo_witness_39 1 (by decide) ?_
    refine x_iadd 41 rfl d_Mo_witness_40 ?_
    refine y_call 44 rfl [_, _] _ rfl d_Mo_witness_41 c_Mo_124 rfl (Nat.le_of_ble_eq_true rfl) (Nat.le_of_ble_eq_true rfl) (Nat.le_of_ble_eq_true rfl) (s_Mo_leaf (k := 1) rfl rfl (cPt_lt hp hq (by decide)) (by decide) ?_)
    refine y_call 47 rfl [_, _] _ rfl d_Mo_witness_44 c_Mo_127 rfl (Nat.le_of_ble_eq_true rfl) (Nat.le_of_ble_eq_true rfl) (Nat.le_of_ble_eq_true rfl) (s_Mo_half rfl rfl (cLf_lt _ _) (cLf_lt _ _) ?_)
    refine x_istore 49 rfl d_Mo_witness_47 (by decide) ?_
    refine x_iload_n 50 rfl d_Mo_witness_49 rfl ?_
    refine x_iload_n 51 rfl d_Mo_witness_50 rfl ?_
    refine x_iload_n 52 rfl d_Mo_witness_51 rfl ?_
    refine y_call 55 rfl [_, _, _] _ rfl d_Mo_witness_52 c_Mo_120 rfl (Nat.le_of_ble_eq_true rfl) (Nat.le_of_ble_eq_true rfl) (Nat.le_of_ble_eq_true rfl) (s_Mo_partOf rfl rfl rfl hp hq hk ?_)
    refine x_sipush 58 rfl d_Mo_witness_55 256 (by decide) ?_
    refine x_iload_n 59 rfl d_Mo_witness_58 rfl ?_
    refine x_iload_n 60 rfl d_Mo_witness_59 rfl ?_
    refine x_iload_n 61 rfl d_Mo_witness_60 rfl ?_
    refine y_call 64 rfl [_, _, _] _ rfl d_Mo_witness_61 c_Mo_120 rfl (Nat.le_of_ble_eq_true rfl) (Nat.le_of_ble_eq_true rfl) (Nat.le_of_ble_eq_true rfl) (s_Mo_partOf rfl rfl (iK1 hk) hp hq hk1 ?_)
    refine x_iload_n 65 rfl d_Mo_witness_64 rfl ?_
    refine y_call 68 rfl [_, _] _ rfl d_Mo_witness_65 c_Mo_124 rfl (Nat.le_of_ble_eq_true rfl) (Nat.le_of_ble_eq_true rfl) (Nat.le_of_ble_eq_true rfl) (s_Mo_leaf rfl (iK1 hk) (cPt_lt hp hq hk1) hk1 ?_)
    refine x_imul 69 rfl d_Mo_witness_68 ?_
    refine x_iadd 70 rfl d_Mo_witness_69 ?_
    refine x_ldc 72 rfl d_Mo_witness_70 k_Mo_118 ?_
    refine x_iload 74 rfl d_Mo_witness_72 rfl ?_
    refine x_imul 75 rfl d_Mo_witness_74 ?_
    refine x_iadd 76 rfl d_Mo_witness_75 ?_
    refine x_iret d_Mo_witness_76 rfl ?_
    rw [fin _ (by simp only [cOh, if_neg (Nat.not_lt.mpr h2)])]
    exact h
  · have h2 : k < 2 := by
      by_cases z : k < 2
      · exact z
      · exact absurd (nI_le (a := 2) (b := k) (by omega) (by omega)) hc
    refine x_iconst 10 rfl d_Mo_witness_9 2 (by decide) ?_
    refine x_goto d_Mo_witness_10 14 (by decide) ?_
    refine x_istore 16 rfl d_Mo_witness_14 (by decide) ?_
    refine x_iload_n 17 rfl d_Mo_witness_16 rfl ?_
    refine x_iload_n 18 rfl d_Mo_witness_17 rfl ?_
    refine x_iload 20 rfl d_Mo_witness_18 rfl ?_
    refine y_call 23 rfl [_, _, _] _ rfl d_Mo_witness_20 c_Mo_120 rfl (Nat.le_of_ble_eq_true rfl) (Nat.le_of_ble_eq_true rfl) (Nat.le_of_ble_eq_true rfl) (s_Mo_partOf (k := 2) rfl rfl rfl hp hq (by decide) ?_)
    refine x_iload 25 rfl d_Mo_witness_23 rfl ?_
    refine y_call 28 rfl [_, _] _ rfl d_Mo_witness_25 c_Mo_124 rfl (Nat.le_of_ble_eq_true rfl) (Nat.le_of_ble_eq_true rfl) (Nat.le_of_ble_eq_true rfl) (s_Mo_leaf (k := 2) rfl rfl (cPt_lt hp hq (by decide)) (by decide) ?_)
    refine x_iload_n 29 rfl d_Mo_witness_28 rfl ?_
    refine x_iload_n 30 rfl d_Mo_witness_29 rfl ?_
    refine x_iload 32 rfl d_Mo_witness_30 rfl ?_
    refine x_iconst 33 rfl d_Mo_witness_32 1 (by decide) ?_
    refine x_iadd 34 rfl d_Mo_witness_33 ?_
    refine y_call 37 rfl [_, _, _] _ rfl d_Mo_witness_34 c_Mo_120 rfl (Nat.le_of_ble_eq_true rfl) (Nat.le_of_ble_eq_true rfl) (Nat.le_of_ble_eq_true rfl) (s_Mo_partOf (k := 3) rfl rfl rfl hp hq (by decide) ?_)
    refine x_iload 39 rfl d_Mo_witness_37 rfl ?_
    refine x_iconst 40 rfl d_Mo_witness_39 1 (by decide) ?_
    refine x_iadd 41 rfl d_Mo_witness_40 ?_
    refine y_call 44 rfl [_, _] _ rfl d_Mo_witness_41 c_Mo_124 rfl (Nat.le_of_ble_eq_true rfl) (Nat.le_of_ble_eq_true rfl) (Nat.le_of_ble_eq_true rfl) (s_Mo_leaf (k := 3) rfl rfl (cPt_lt hp hq (by decide)) (by decide) ?_)
    refine y_call 47 rfl [_, _] _ rfl d_Mo_witness_44 c_Mo_127 rfl (Nat.le_of_ble_eq_true rfl) (Nat.le_of_ble_eq_true rfl) (Nat.le_of_ble_eq_true rfl) (s_Mo_half rfl rfl (cLf_lt _ _) (cLf_lt _ _) ?_)
    refine x_istore 49 rfl d_Mo_witness_47 (by decide) ?_
    refine x_iload_n 50 rfl d_Mo_witness_49 rfl ?_
    refine x_iload_n 51 rfl d_Mo_witness_50 rfl ?_
    refine x_iload_n 52 rfl d_Mo_witness_51 rfl ?_
    refine y_call 55 rfl [_, _, _] _ rfl d_Mo_witness_52 c_Mo_120 rfl (Nat.le_of_ble_eq_true rfl) (Nat.le_of_ble_eq_true rfl) (Nat.le_of_ble_eq_true rfl) (s_Mo_partOf rfl rfl rfl hp hq hk ?_)
    refine x_sipush 58 rfl d_Mo_witness_55 256 (by decide) ?_
    refine x_iload_n 59 rfl d_Mo_witness_58 rfl ?_
    refine x_iload_n 60 rfl d_Mo_witness_59 rfl ?_
    refine x_iload_n 61 rfl d_Mo_witness_60 rfl ?_
    refine y_call 64 rfl [_, _, _] _ rfl d_Mo_witness_61 c_Mo_120 rfl (Nat.le_of_ble_eq_true rfl) (Nat.le_of_ble_eq_true rfl) (Nat.le_of_ble_eq_true rfl) (s_Mo_partOf rfl rfl (iK1 hk) hp hq hk1 ?_)
    refine x_iload_n 65 rfl d_Mo_witness_64 rfl ?_
    refine y_call 68 rfl [_, _] _ rfl d_Mo_witness_65 c_Mo_124 rfl (Nat.le_of_ble_eq_true rfl) (Nat.le_of_ble_eq_true rfl) (Nat.le_of_ble_eq_true rfl) (s_Mo_leaf rfl (iK1 hk) (cPt_lt hp hq hk1) hk1 ?_)
    refine x_imul 69 rfl d_Mo_witness_68 ?_
    refine x_iadd 70 rfl d_Mo_witness_69 ?_
    refine x_ldc 72 rfl d_Mo_witness_70 k_Mo_118 ?_
    refine x_iload 74 rfl d_Mo_witness_72 rfl ?_
    refine x_imul 75 rfl d_Mo_witness_74 ?_
    refine x_iadd 76 rfl d_Mo_witness_75 ?_
    refine x_iret d_Mo_witness_76 rfl ?_
    rw [fin _ (by simp only [cOh, if_pos h2])]
    exact h
theorem s_Mo_right {kk root ww : Int32} {k u : Nat} (hkk : kk = nI k) (hww : ww = nI u) (hk : k < 4) (hu : u < 2 ^ 32) (h : P (some (.int (nB (cRight root u k)))) w) : xE (xGG X) 1 m_Mo_right 0 [(0, .int root), (1, .int ww), (2, .int kk)] [] w P := by
  subst hkk hww
  have e0 : nI u &&& 255 = nI (u % 256) := i255 hu
  have er : nI k - nI k / 2 * 2 = nI (k % 2) := pk_rem (d := 2) (by omega) (by decide) (by decide)
  refine x_iload_n 1 rfl d_Mo_right_0 rfl ?_
  refine x_sipush 4 rfl d_Mo_right_1 255 (by decide) ?_
  refine x_iand 5 rfl d_Mo_right_4 ?_
  refine x_iload_n 6 rfl d_Mo_right_5 rfl ?_
  refine y_call 9 rfl [_, _] _ rfl d_Mo_right_6 c_Mo_124 rfl (Nat.le_of_ble_eq_true rfl) (Nat.le_of_ble_eq_true rfl) (Nat.le_of_ble_eq_true rfl) (s_Mo_leaf e0 rfl (Nat.mod_lt _ (by decide)) hk ?_)
  refine x_istore_n 10 rfl d_Mo_right_9 (by decide) ?_
  refine x_iload_n 11 rfl d_Mo_right_10 rfl ?_
  refine x_bipush 13 rfl d_Mo_right_11 8 (by decide) ?_
  refine x_ishr 14 rfl d_Mo_right_13 ?_
  refine x_sipush 17 rfl d_Mo_right_14 255 (by decide) ?_
  refine x_iand 18 rfl d_Mo_right_17 ?_
  refine x_istore 20 rfl d_Mo_right_18 (by decide) ?_
  refine x_iload_n 21 rfl d_Mo_right_20 rfl ?_
  refine x_iconst 22 rfl d_Mo_right_21 2 (by decide) ?_
  refine x_irem 23 rfl d_Mo_right_22 (by decide) ?_
  rw [iS8 hu, er]
  have key : ∀ nr : Nat, nr = cNr u k → xE (xGG X) 1 m_Mo_right 43 [(0, .int root), (1, .int (nI u)), (2, .int (nI k)), (5, .int (nI nr))] [] w P := by
    intro nr hnr
    refine x_iload_n 44 rfl d_Mo_right_43 rfl ?_
    refine x_bipush 46 rfl d_Mo_right_44 16 (by decide) ?_
    refine x_iushr 47 rfl d_Mo_right_46 ?_
    refine x_istore 49 rfl d_Mo_right_47 (by decide) ?_
    refine x_iload_n 50 rfl d_Mo_right_49 rfl ?_
    refine x_iload_n 51 rfl d_Mo_right_50 rfl ?_
    refine x_iconst 52 rfl d_Mo_right_51 2 (by decide) ?_
    rw [iU16 hu]
    refine x_icmp_ge 65 55 rfl d_Mo_right_52 (by decide) (fun hc => ?_) (fun hc => ?_)
    · have h2 : 2 ≤ k := by
        by_cases z : 2 ≤ k
        · exact z
        · exact absurd hc (nI_ge (a := k) (b := 2) (by omega) (by decide))
      refine x_iload 67 rfl d_Mo_right_65 rfl ?_
      refine x_iload 69 rfl d_Mo_right_67 rfl ?_
      refine y_call 72 rfl [_, _] _ rfl d_Mo_right_69 c_Mo_130 rfl (Nat.le_of_ble_eq_true rfl) (Nat.le_of_ble_eq_true rfl) (Nat.le_of_ble_eq_true rfl) (s_Mo_rootOf rfl rfl ?_)
      refine x_icmp_ne 79 75 rfl d_Mo_right_72 (by decide) (fun hc => ?_) (fun hc => ?_)
      · refine x_iconst 80 rfl d_Mo_right_79 0 (by decide) ?_
        refine x_zret d_Mo_right_80 rfl (by decide) ?_
        have : cRight root u k = false := by simp [cRight, Nat.not_lt.mpr h2, ← hnr, hc]
        rw [this] at h
        exact h
      · refine x_iconst 76 rfl d_Mo_right_75 1 (by decide) ?_
        refine x_goto d_Mo_right_76 80 (by decide) ?_
        refine x_zret d_Mo_right_80 rfl (by decide) ?_
        have : cRight root u k = true := by simp [cRight, Nat.not_lt.mpr h2, ← hnr, hc]
        rw [this] at h
        exact h
    · have h2 : k < 2 := by
        by_cases z : k < 2
        · exact z
        · exact absurd (nI_le (a := 2) (b := k) (by omega) (by omega)) hc
      refine x_iload 57 rfl d_Mo_right_55 rfl ?_
      refine x_iload 59 rfl d_Mo_right_57 rfl ?_
      refine y_call 62 rfl [_, _] _ rfl d_Mo_right_59 c_Mo_130 rfl (Nat.le_of_ble_eq_true rfl) (Nat.le_of_ble_eq_true rfl) (Nat.le_of_ble_eq_true rfl) (s_Mo_rootOf rfl rfl ?_)
      refine x_goto d_Mo_right_62 72 (by decide) ?_
      refine x_icmp_ne 79 75 rfl d_Mo_right_72 (by decide) (fun hc => ?_) (fun hc => ?_)
      · refine x_iconst 80 rfl d_Mo_right_79 0 (by decide) ?_
        refine x_zret d_Mo_right_80 rfl (by decide) ?_
        have : cRight root u k = false := by simp [cRight, h2, ← hnr, hc]
        rw [this] at h
        exact h
      · refine x_iconst 76 rfl d_Mo_right_75 1 (by decide) ?_
        refine x_goto d_Mo_right_76 80 (by decide) ?_
        refine x_zret d_Mo_right_80 rfl (by decide) ?_
        have : cRight root u k = true := by simp [cRight, h2, ← hnr, hc]
        rw [this] at h
        exact h
  refine x_if_ne 35 26 rfl d_Mo_right_23 (by decide) (fun hc => ?_) (fun hc => ?_)
  · have h2 : ¬ k % 2 = 0 := fun z => hc (by rw [z]; rfl)
    refine x_iload 37 rfl d_Mo_right_35 rfl ?_
    refine x_iload_n 38 rfl d_Mo_right_37 rfl ?_
    refine y_call 41 rfl [_, _] _ rfl d_Mo_right_38 c_Mo_127 rfl (Nat.le_of_ble_eq_true rfl) (Nat.le_of_ble_eq_true rfl) (Nat.le_of_ble_eq_true rfl) (s_Mo_half rfl rfl (Nat.mod_lt _ (by decide)) (cLf_lt _ _) ?_)
    refine x_istore 43 rfl d_Mo_right_41 (by decide) ?_
    exact xE.fit (key _ (by simp only [cNr, if_neg h2])) rfl
  · have h2 : k % 2 = 0 := by
      by_cases z : k % 2 = 0
      · exact z
      · exact absurd hc (nI_ne0 (by omega) (by omega))
    refine x_iload_n 27 rfl d_Mo_right_26 rfl ?_
    refine x_iload 29 rfl d_Mo_right_27 rfl ?_
    refine y_call 32 rfl [_, _] _ rfl d_Mo_right_29 c_Mo_127 rfl (Nat.le_of_ble_eq_true rfl) (Nat.le_of_ble_eq_true rfl) (Nat.le_of_ble_eq_true rfl) (s_Mo_half rfl rfl (cLf_lt _ _) (Nat.mod_lt _ (by decide)) ?_)
    refine x_goto d_Mo_right_32 41 (by decide) ?_
    refine x_istore 43 rfl d_Mo_right_41 (by decide) ?_
    exact xE.fit (key _ (by simp only [cNr, if_pos h2])) rfl
theorem s_Mo_solve {kk xx ll yy : Int32} {k x l y : Nat} (hkk : kk = nI k) (hxx : xx = nI x) (hll : ll = nI l) (hyy : yy = nI y) (hk : k < 4) (hl : l < 4) (hne : k ≠ l) (hx : x < 256) (hy : y < 256) (h : P (some (.int (nI (cSv k x l y)))) w) : xE (xGG X) 1 m_Mo_solve 0 [(0, .int kk), (1, .int xx), (2, .int ll), (3, .int yy)] [] w P := by
  subst hkk hxx hll hyy
  obtain ⟨h1, h2⟩ := kl_lt k hk l hl hne
  have hxy := x_lt hx hy
  obtain ⟨g1, g2, -, -⟩ := cDv_ok (k ^^^ l) h2 h1 (x ^^^ y) hxy
  have key : xE (xGG X) 1 m_Mo_solve 31 [(0, .int (nI k)), (1, .int (nI x)), (2, .int (nI l)), (3, .int (nI y)), (4, .int (nI (cDv (k ^^^ l) (x ^^^ y))))] [] w P := by
    refine x_iload_n 32 rfl d_Mo_solve_31 rfl ?_
    refine x_iload_n 33 rfl d_Mo_solve_32 rfl ?_
    refine x_iload 35 rfl d_Mo_solve_33 rfl ?_
    refine y_call 38 rfl [_, _] _ rfl d_Mo_solve_35 c_Mo_106 rfl (Nat.le_of_ble_eq_true rfl) (Nat.le_of_ble_eq_true rfl) (Nat.le_of_ble_eq_true rfl) (s_Mo_times rfl rfl hk g1 ?_)
    refine x_ixor 39 rfl d_Mo_solve_38 ?_
    rw [nIx]
    refine x_istore 41 rfl d_Mo_solve_39 (by decide) ?_
    refine x_iload 43 rfl d_Mo_solve_41 rfl ?_
    refine x_sipush 46 rfl d_Mo_solve_43 256 (by decide) ?_
    refine x_iload 48 rfl d_Mo_solve_46 rfl ?_
    refine x_iload 50 rfl d_Mo_solve_48 rfl ?_
    refine x_ixor 51 rfl d_Mo_solve_50 ?_
    refine x_imul 52 rfl d_Mo_solve_51 ?_
    refine x_iadd 53 rfl d_Mo_solve_52 ?_
    refine x_iret d_Mo_solve_53 rfl ?_
    rw [nIx, show (256 : Int32) = nI 256 from rfl, pk_mul, nI_add]
    exact h
  have loop : ∀ (n c : Nat) (cc : Int32), cc = nI c → c + n = cDv (k ^^^ l) (x ^^^ y) → xE (xGG X) 1 m_Mo_solve 3 [(0, .int (nI k)), (1, .int (nI x)), (2, .int (nI l)), (3, .int (nI y)), (4, .int cc)] [] w P := by
    intro n
    induction n with
    | zero =>
      intro c cc hcc hcn
      subst hcc
      have hc0 : c = cDv (k ^^^ l) (x ^^^ y) := by omega
      subst hc0
      refine x_iload 5 rfl d_Mo_solve_3 rfl ?_
      refine x_sipush 8 rfl d_Mo_solve_5 255 (by decide) ?_
      refine x_icmp_ge 31 11 rfl d_Mo_solve_8 (by decide) (fun hc => xE.fit key rfl) (fun hc => ?_)
      refine x_iload_n 12 rfl d_Mo_solve_11 rfl ?_
      refine x_iload_n 13 rfl d_Mo_solve_12 rfl ?_
      refine x_ixor 14 rfl d_Mo_solve_13 ?_
      rw [nIx]
      refine x_iload 16 rfl d_Mo_solve_14 rfl ?_
      refine y_call 19 rfl [_, _] _ rfl d_Mo_solve_16 c_Mo_106 rfl (Nat.le_of_ble_eq_true rfl) (Nat.le_of_ble_eq_true rfl) (Nat.le_of_ble_eq_true rfl) (s_Mo_times rfl rfl h2 g1 ?_)
      refine x_iload_n 20 rfl d_Mo_solve_19 rfl ?_
      refine x_iload_n 21 rfl d_Mo_solve_20 rfl ?_
      refine x_ixor 22 rfl d_Mo_solve_21 ?_
      rw [g2, nIx]
      exact x_icmp_eq 31 25 rfl d_Mo_solve_22 (by decide) (fun hc => xE.fit key rfl) (fun hc => absurd rfl hc)
    | succ n ih =>
      intro c cc hcc hcn
      subst hcc
      have hc256 : c < 255 := by omega
      refine x_iload 5 rfl d_Mo_solve_3 rfl ?_
      refine x_sipush 8 rfl d_Mo_solve_5 255 (by decide) ?_
      refine x_icmp_ge 31 11 rfl d_Mo_solve_8 (by decide) (fun hc => absurd hc (nI_ge (a := c) (b := 255) (by omega) (by decide))) (fun hc => ?_)
      refine x_iload_n 12 rfl d_Mo_solve_11 rfl ?_
      refine x_iload_n 13 rfl d_Mo_solve_12 rfl ?_
      refine x_ixor 14 rfl d_Mo_solve_13 ?_
      rw [nIx]
      refine x_iload 16 rfl d_Mo_solve_14 rfl ?_
      refine y_call 19 rfl [_, _] _ rfl d_Mo_solve_16 c_Mo_106 rfl (Nat.le_of_ble_eq_true rfl) (Nat.le_of_ble_eq_true rfl) (Nat.le_of_ble_eq_true rfl) (s_Mo_times rfl rfl h2 (by omega) ?_)
      refine x_iload_n 20 rfl d_Mo_solve_19 rfl ?_
      refine x_iload_n 21 rfl d_Mo_solve_20 rfl ?_
      refine x_ixor 22 rfl d_Mo_solve_21 ?_
      rw [nIx]
      refine x_icmp_eq 31 25 rfl d_Mo_solve_22 (by decide) (fun hc => ?_) (fun hc => ?_)
      · have hb := cTm_lt (k ^^^ l) h2 c (by omega)
        have e := (nI_eq (by omega) (by omega)).mp hc
        have e2 := (cDv_ok (k ^^^ l) h2 h1 c (by omega)).2.2.1
        rw [e] at e2
        omega
      · refine x_iinc 28 rfl d_Mo_solve_25 rfl 1 (by decide) (by decide) ?_
        refine x_goto d_Mo_solve_28 3 (by decide) ?_
        exact xE.fit (ih (c + 1) _ (nI_succ c).symm (by omega)) rfl
  refine x_iconst 1 rfl d_Mo_solve_0 0 (by decide) ?_
  refine x_istore 3 rfl d_Mo_solve_1 (by decide) ?_
  exact xE.fit (loop _ 0 0 rfl (Nat.zero_add _)) rfl
end MC
end
section
/-! WORLDS BY PARTS -/
theorem xset_1 (w : xW) (a : Nat) (e : va_E) : (xset w a e).1 = w.1 := rfl
theorem xset_2 (w : xW) (a : Nat) (e : va_E) : (xset w a e).2.1 = w.2.1 := rfl
theorem xset_at (w : xW) (a : Nat) (e : va_E) : (xset w a e).2.2 a = some e := va_up_self _ _ _
theorem xset_ne (w : xW) {a q : Nat} (e : va_E) (h : q ≠ a) : (xset w a e).2.2 q = w.2.2 q := va_up_ne _ _ h
theorem xnew_at (w : xW) (n : Nat) (e : va_E) : (xnew w n e).2.2 w.1 = some e := va_up_self _ _ _
theorem xnew_ne (w : xW) {q : Nat} (n : Nat) (e : va_E) (h : q ≠ w.1) : (xnew w n e).2.2 q = w.2.2 q := va_up_ne _ _ h
/-- nothing is made, and nothing is written but in [lo, hi) -/
def fr (w w' : xW) (lo hi : Nat) : Prop := w'.1 = w.1 ∧ w'.2.1 = w.2.1 ∧ ∀ q : Nat, (q < lo ∨ hi ≤ q) → w'.2.2 q = w.2.2 q
theorem fr.rf (w : xW) (lo hi : Nat) : fr w w lo hi := ⟨rfl, rfl, fun _ _ => rfl⟩
theorem fr.set {w w' : xW} {lo hi a : Nat} (h : fr w w' lo hi) (e : va_E) (h1 : lo ≤ a) (h2 : a < hi) : fr w (xset w' a e) lo hi :=
  ⟨h.1, h.2.1, fun q hq => by rw [xset_ne _ _ (by omega)]; exact h.2.2 q hq⟩
theorem fr.tr {w w' w'' : xW} {lo hi : Nat} (h : fr w w' lo hi) (h2 : fr w' w'' lo hi) : fr w w'' lo hi := ⟨h2.1.trans h.1, h2.2.1.trans h.2.1, fun q hq => (h2.2.2 q hq).trans (h.2.2 q hq)⟩
theorem fr.wide {w w' : xW} {lo hi lo' hi' : Nat} (h : fr w w' lo hi) (h1 : lo' ≤ lo) (h2 : hi ≤ hi') : fr w w' lo' hi' := ⟨h.1, h.2.1, fun q hq => h.2.2 q (by omega)⟩
/-- an int array of n places at a, that holds g there -/
def aI (X : xPar) (w : xW) (a n : Nat) (g : Nat → Int32) : Prop := ∃ f : Nat → Int32, w.2.2 a = some (.inl (X.2.2.2.1 0, n, .inl f)) ∧ ∀ j, j < n → f j = g j
/-- a row: its object at a, its array behind it, the list l of at most cap -/
def rRw (X : xPar) (w : xW) (a cap : Nat) (l : List Int32) : Prop := w.2.2 a = some (.inr (7, [.ref (a + 1), .int (nI l.length)])) ∧ l.length ≤ cap ∧ cap ≤ 64 ∧ ∃ f : Nat → Int32, w.2.2 (a + 1) = some (.inl (X.2.2.2.1 0, cap, .inl f)) ∧ ∀ j, j < l.length → l[j]? = some (f j)
theorem rRw.kept {X : xPar} {w w' : xW} {a cap : Nat} {l : List Int32} (h : rRw X w a cap l) (h0 : w'.2.2 a = w.2.2 a) (h1 : w'.2.2 (a + 1) = w.2.2 (a + 1)) : rRw X w' a cap l := by
  obtain ⟨g1, g2, g3, f, g4, g5⟩ := h
  exact ⟨h0.trans g1, g2, g3, f, h1.trans g4, g5⟩
section RW
variable {X : xPar} {w : xW} {P : Option Value → xW → Prop} {a cap : Nat} {l : List Int32}
theorem s_Rw_isFull (hR : rRw X w a cap l) (h : P (some (.int (nB (decide (l.length = cap))))) w) : xE (xGG X) 0 m_Rw_isFull 0 [(0, .ref a)] [] w P := by
  obtain ⟨g1, g2, g3, f, g4, g5⟩ := hR
  refine x_aload_n 1 rfl d_Rw_isFull_0 rfl ?_
  refine x_get 4 rfl f_Rw_15 d_Rw_isFull_1 g1 rfl ?_
  refine x_aload_n 5 rfl d_Rw_isFull_4 rfl ?_
  refine x_get 8 rfl f_Rw_9 d_Rw_isFull_5 g1 rfl ?_
  refine x_alen 9 rfl d_Rw_isFull_8 g4 (t0 := 0) rfl rfl ?_
  refine x_icmp_ne 16 12 rfl d_Rw_isFull_9 (by decide) (fun hc => ?_) (fun hc => ?_)
  · refine x_iconst 17 rfl d_Rw_isFull_16 0 (by decide) ?_
    refine x_zret d_Rw_isFull_17 rfl (by decide) ?_
    rw [show decide (l.length = cap) = false from decide_eq_false (fun z => hc (by rw [z]; rfl))] at h
    exact h
  · refine x_iconst 13 rfl d_Rw_isFull_12 1 (by decide) ?_
    refine x_goto d_Rw_isFull_13 17 (by decide) ?_
    refine x_zret d_Rw_isFull_17 rfl (by decide) ?_
    rw [show decide (l.length = cap) = true from decide_eq_true ((nI_eq (by omega) (by omega)).mp hc)] at h
    exact h
theorem s_Rw_has {t : Int32} (hR : rRw X w a cap l) (h : P (some (.int (nB (decide (t ∈ l))))) w) : xE (xGG X) 0 m_Rw_has 0 [(0, .ref a), (1, .int t)] [] w P := by
  obtain ⟨g1, g2, g3, f, g4, g5⟩ := hR
  have loop : ∀ (n i : Nat) (cc : Int32), cc = nI i → i + n = l.length → (∀ j, j < i → ¬ f j = t) → xE (xGG X) 0 m_Rw_has 2 [(0, .ref a), (1, .int t), (2, .int cc)] [] w P := by
    intro n
    induction n with
    | zero =>
      intro i cc hcc hi hj
      subst hcc
      refine x_iload_n 3 rfl d_Rw_has_2 rfl ?_
      refine x_aload_n 4 rfl d_Rw_has_3 rfl ?_
      refine x_get 7 rfl f_Rw_15 d_Rw_has_4 g1 rfl ?_
      refine x_icmp_ge 28 10 rfl d_Rw_has_7 (by decide) (fun hc => ?_) (fun hc => absurd (nI_le (by omega) (by omega)) hc)
      refine x_iconst 29 rfl d_Rw_has_28 0 (by decide) ?_
      refine x_zret d_Rw_has_29 rfl (by decide) ?_
      rw [show decide (t ∈ l) = false from decide_eq_false (fun z => ?_)] at h
      · exact h
      · obtain ⟨j, hj2, hj3⟩ := List.getElem_of_mem z
        have e := g5 j hj2
        rw [List.getElem?_eq_getElem hj2, hj3] at e
        exact hj j (by omega) (Option.some.inj e).symm
    | succ n ih =>
      intro i cc hcc hi hj
      subst hcc
      refine x_iload_n 3 rfl d_Rw_has_2 rfl ?_
      refine x_aload_n 4 rfl d_Rw_has_3 rfl ?_
      refine x_get 7 rfl f_Rw_15 d_Rw_has_4 g1 rfl ?_
      refine x_icmp_ge 28 10 rfl d_Rw_has_7 (by decide) (fun hc => absurd hc (nI_ge (by omega) (by omega))) (fun hc => ?_)
      refine x_aload_n 11 rfl d_Rw_has_10 rfl ?_
      refine x_get 14 rfl f_Rw_9 d_Rw_has_11 g1 rfl ?_
      refine x_iload_n 15 rfl d_Rw_has_14 rfl ?_
      refine x_iald 16 rfl d_Rw_has_15 g4 (t0 := 0) rfl (vp_in_nI (by omega) (by omega)) ?_
      refine x_iload_n 17 rfl d_Rw_has_16 rfl ?_
      rw [nI_clamp (by omega)]
      refine x_icmp_ne 22 20 rfl d_Rw_has_17 (by decide) (fun hc => ?_) (fun hc => ?_)
      · refine x_iinc 25 rfl d_Rw_has_22 rfl 1 (by decide) (by decide) ?_
        refine x_goto d_Rw_has_25 2 (by decide) ?_
        refine xE.fit (ih (i + 1) _ (nI_succ i).symm (by omega) (fun j hj2 => ?_)) rfl
        by_cases e : j = i
        · subst e; exact hc
        · exact hj j (by omega)
      · refine x_iconst 21 rfl d_Rw_has_20 1 (by decide) ?_
        refine x_zret d_Rw_has_21 rfl (by decide) ?_
        rw [show decide (t ∈ l) = true from decide_eq_true (by rw [← hc]; exact List.mem_of_getElem? (g5 i (by omega)))] at h
        exact h
  refine x_iconst 1 rfl d_Rw_has_0 0 (by decide) ?_
  refine x_istore_n 2 rfl d_Rw_has_1 (by decide) ?_
  exact xE.fit (loop l.length 0 0 rfl (Nat.zero_add _) (fun j hj => absurd hj (Nat.not_lt_zero j))) rfl
theorem s_Rw_append {t : Int32} (hR : rRw X w a cap l) (hl : l.length < cap) (h : ∀ w', rRw X w' a cap (l ++ [t]) → fr w w' a (a + 2) → P none w') : xE (xGG X) 1 m_Rw_append 0 [(0, .ref a), (1, .int t)] [] w P := by
  have hR0 := hR
  obtain ⟨g1, g2, g3, f, g4, g5⟩ := hR
  refine x_aload_n 1 rfl d_Rw_append_0 rfl ?_
  refine y_callV 4 rfl [] _ rfl d_Rw_append_1 g1 rfl c_Rw_19 rfl (Nat.le_of_ble_eq_true rfl) (Nat.le_of_ble_eq_true rfl) (Nat.le_of_ble_eq_true rfl) (s_Rw_isFull hR0 ?_)
  rw [show decide (l.length = cap) = false from decide_eq_false (by omega)]
  refine x_if_ne 27 7 rfl d_Rw_append_4 (by decide) (fun hc => absurd rfl hc) (fun hc => ?_)
  refine x_aload_n 8 rfl d_Rw_append_7 rfl ?_
  refine x_get 11 rfl f_Rw_9 d_Rw_append_8 g1 rfl ?_
  refine x_aload_n 12 rfl d_Rw_append_11 rfl ?_
  refine x_get 15 rfl f_Rw_15 d_Rw_append_12 g1 rfl ?_
  refine x_iload_n 16 rfl d_Rw_append_15 rfl ?_
  refine x_iast 17 rfl d_Rw_append_16 g4 (t0 := 0) rfl (vp_in_nI (by omega) (by omega)) ?_
  rw [nI_clamp (by omega)]
  have k1 : (xset w (a + 1) (.inl (X.2.2.2.1 0, cap, .inl (upd f l.length t)))).2.2 a = some (.inr (7, [.ref (a + 1), .int (nI l.length)])) := by rw [xset_ne _ _ (by omega)]; exact g1
  refine x_aload_n 18 rfl d_Rw_append_17 rfl ?_
  refine x_dup 19 rfl d_Rw_append_18 rfl ?_
  refine x_get 22 rfl f_Rw_15 d_Rw_append_19 k1 rfl ?_
  refine x_iconst 23 rfl d_Rw_append_22 1 (by decide) ?_
  refine x_iadd 24 rfl d_Rw_append_23 ?_
  refine x_put 27 rfl p_Rw_15 (fun _ => by first | rfl | contradiction) d_Rw_append_24 k1 rfl rfl (Nat.le_of_ble_eq_true rfl) ?_
  refine x_vret d_Rw_append_27 rfl ?_
  refine h _ ⟨?_, by simp; omega, g3, upd f l.length t, ?_, fun j hj => ?_⟩ (((fr.rf w a (a + 2)).set _ (by omega) (by omega)).set _ (by omega) (by omega))
  · rw [xset_at, List.length_append, List.length_singleton, nI_succ]; rfl
  · rw [xset_ne _ _ (by omega), xset_at]
  · by_cases e : j = l.length
    · subst e; simp [upd]
    · have hj2 : j < l.length := by simp at hj; omega
      rw [List.getElem?_append_left hj2, g5 j hj2]
      simp [upd, e]
theorem s_Rw_itemOr {k o : Int32} (hR : rRw X w a cap l) (h : P (some (.int (if 0 ≤ k ∧ k ≤ nI l.length - 1 then l.getD k.toNatClampNeg 0 else o))) w) : xE (xGG X) 1 m_Rw_itemOr 0 [(0, .ref a), (1, .int k), (2, .int o)] [] w P := by
  obtain ⟨g1, g2, g3, f, g4, g5⟩ := hR
  refine x_iload_n 1 rfl d_Rw_itemOr_0 rfl ?_
  refine x_iconst 2 rfl d_Rw_itemOr_1 0 (by decide) ?_
  refine x_aload_n 3 rfl d_Rw_itemOr_2 rfl ?_
  refine x_get 6 rfl f_Rw_15 d_Rw_itemOr_3 g1 rfl ?_
  refine x_iconst 7 rfl d_Rw_itemOr_6 1 (by decide) ?_
  refine x_isub 8 rfl d_Rw_itemOr_7 ?_
  refine y_call 11 rfl [_, _, _] _ rfl d_Rw_itemOr_8 c_Rw_23 rfl (Nat.le_of_ble_eq_true rfl) (Nat.le_of_ble_eq_true rfl) (Nat.le_of_ble_eq_true rfl) (s_El_isIn ?_)
  by_cases hk : 0 ≤ k ∧ k ≤ nI l.length - 1
  · rw [show decide (0 ≤ k ∧ k ≤ nI l.length - 1) = true from decide_eq_true hk]
    rw [if_pos hk] at h
    have hlen : 0 < l.length := by
      by_cases z : l.length = 0
      · rw [z] at hk
        exact absurd (Int32.le_trans hk.1 hk.2) (by decide)
      · omega
    obtain ⟨j, hj, rfl⟩ : ∃ j, j < l.length ∧ k = nI j := by
      have h2 := hk.2
      rw [show nI l.length - 1 = nI (l.length - 1) from (by have := pk_sub (a := l.length) (b := 1) (by omega); exact this)] at h2
      obtain ⟨j, hj, e⟩ := nI_of (Int32.not_lt.mpr hk.1)
      subst e
      exact ⟨j, by have := (nI_leI hj (by omega)).mp h2; omega, rfl⟩
    refine x_if_eq 23 14 rfl d_Rw_itemOr_11 (by decide) (fun hc => absurd hc (by decide)) (fun hc => ?_)
    refine x_aload_n 15 rfl d_Rw_itemOr_14 rfl ?_
    refine x_get 18 rfl f_Rw_9 d_Rw_itemOr_15 g1 rfl ?_
    refine x_iload_n 19 rfl d_Rw_itemOr_18 rfl ?_
    refine x_iald 20 rfl d_Rw_itemOr_19 g4 (t0 := 0) rfl (vp_in_nI (by omega) (by omega)) ?_
    refine x_goto d_Rw_itemOr_20 24 (by decide) ?_
    refine x_iret d_Rw_itemOr_24 rfl ?_
    rw [nI_clamp (by omega)] at h ⊢
    rw [List.getD_eq_getElem?_getD, g5 j hj] at h
    exact h
  · rw [show decide (0 ≤ k ∧ k ≤ nI l.length - 1) = false from decide_eq_false hk]
    rw [if_neg hk] at h
    refine x_if_eq 23 14 rfl d_Rw_itemOr_11 (by decide) (fun hc => ?_) (fun hc => absurd rfl hc)
    refine x_iload_n 24 rfl d_Rw_itemOr_23 rfl ?_
    refine x_iret d_Rw_itemOr_24 rfl ?_
    exact h
theorem s_Rw_answer {k : Int32} (hR : rRw X w a cap l) (h : P (some (.int (if k = -1 then nI l.length else if 0 ≤ k ∧ k ≤ nI l.length - 1 then l.getD k.toNatClampNeg 0 else -1))) w) : xE (xGG X) 2 m_Rw_answer 0 [(0, .ref a), (1, .int k)] [] w P := by
  have g1 := hR.1
  refine x_iload_n 1 rfl d_Rw_answer_0 rfl ?_
  refine x_iconst 2 rfl d_Rw_answer_1 (-1) (by decide) ?_
  refine x_icmp_ne 12 5 rfl d_Rw_answer_2 (by decide) (fun hc => ?_) (fun hc => ?_)
  · rw [if_neg hc] at h
    refine x_aload_n 13 rfl d_Rw_answer_12 rfl ?_
    refine x_iload_n 14 rfl d_Rw_answer_13 rfl ?_
    refine x_iconst 15 rfl d_Rw_answer_14 (-1) (by decide) ?_
    refine y_callV 18 rfl [_, _] _ rfl d_Rw_answer_15 g1 rfl c_Rw_27 rfl (Nat.le_of_ble_eq_true rfl) (Nat.le_of_ble_eq_true rfl) (Nat.le_of_ble_eq_true rfl) (s_Rw_itemOr hR ?_)
    refine x_iret d_Rw_answer_18 rfl ?_
    exact h
  · rw [if_pos hc] at h
    refine x_aload_n 6 rfl d_Rw_answer_5 rfl ?_
    refine x_get 9 rfl f_Rw_15 d_Rw_answer_6 g1 rfl ?_
    refine x_goto d_Rw_answer_9 18 (by decide) ?_
    refine x_iret d_Rw_answer_18 rfl ?_
    exact h
theorem s_Rw_drop {t : Int32} (hR : rRw X w a cap l) (h : ∀ w', rRw X w' a cap (l.filter (fun x => decide (x ≠ t))) → fr w w' a (a + 2) → P none w') : xE (xGG X) 0 m_Rw_drop 0 [(0, .ref a), (1, .int t)] [] w P := by
  obtain ⟨g1, g2, g3, f, g4, g5⟩ := hR
  have loop : ∀ (n i : Nat) (cc dd : Int32) (w1 : xW) (f1 : Nat → Int32), cc = nI i → dd = nI ((l.take i).filter (fun x => decide (x ≠ t))).length → i + n = l.length → fr w w1 a (a + 2) → w1.2.2 a = some (.inr (7, [.ref (a + 1), .int (nI l.length)])) → w1.2.2 (a + 1) = some (.inl (X.2.2.2.1 0, cap, .inl f1)) → (∀ j, j < ((l.take i).filter (fun x => decide (x ≠ t))).length → ((l.take i).filter (fun x => decide (x ≠ t)))[j]? = some (f1 j)) → (∀ j, i ≤ j → j < l.length → l[j]? = some (f1 j)) → xE (xGG X) 0 m_Rw_drop 4 [(0, .ref a), (1, .int t), (2, .int dd), (3, .int cc)] [] w1 P := by
    intro n
    induction n with
    | zero =>
      intro i cc dd w1 f1 hcc hdd hi hfr k1 k2 k3 k4
      subst hcc hdd
      have hil : i = l.length := by omega
      subst hil
      rw [List.take_length] at k3 ⊢
      refine x_iload_n 5 rfl d_Rw_drop_4 rfl ?_
      refine x_aload_n 6 rfl d_Rw_drop_5 rfl ?_
      refine x_get 9 rfl f_Rw_15 d_Rw_drop_6 k1 rfl ?_
      refine x_icmp_ge 43 12 rfl d_Rw_drop_9 (by decide) (fun hc => ?_) (fun hc => absurd (nI_le (by omega) (by omega)) hc)
      refine x_aload_n 44 rfl d_Rw_drop_43 rfl ?_
      refine x_iload_n 45 rfl d_Rw_drop_44 rfl ?_
      refine x_put 48 rfl p_Rw_15 (fun _ => by first | rfl | contradiction) d_Rw_drop_45 k1 rfl rfl (Nat.le_of_ble_eq_true rfl) ?_
      refine x_vret d_Rw_drop_48 rfl ?_
      refine h _ ⟨xset_at _ _ _, Nat.le_trans (List.length_filter_le _ _) g2, g3, f1, ?_, k3⟩ (hfr.set _ (by omega) (by omega))
      rw [xset_ne _ _ (by omega)]
      exact k2
    | succ n ih =>
      intro i cc dd w1 f1 hcc hdd hi hfr k1 k2 k3 k4
      subst hcc hdd
      have hil : i < l.length := by omega
      have hle : ((l.take i).filter (fun x => decide (x ≠ t))).length ≤ i := Nat.le_trans (List.length_filter_le _ _) (List.length_take_le _ _)
      have hx := k4 i (Nat.le_refl _) hil
      have hxe : l[i] = f1 i := by rw [List.getElem?_eq_getElem hil] at hx; exact Option.some.inj hx
      have ht : l.take (i + 1) = l.take i ++ [f1 i] := by rw [List.take_succ, hx]; rfl
      refine x_iload_n 5 rfl d_Rw_drop_4 rfl ?_
      refine x_aload_n 6 rfl d_Rw_drop_5 rfl ?_
      refine x_get 9 rfl f_Rw_15 d_Rw_drop_6 k1 rfl ?_
      refine x_icmp_ge 43 12 rfl d_Rw_drop_9 (by decide) (fun hc => absurd hc (nI_ge (by omega) (by omega))) (fun hc => ?_)
      refine x_aload_n 13 rfl d_Rw_drop_12 rfl ?_
      refine x_get 16 rfl f_Rw_9 d_Rw_drop_13 k1 rfl ?_
      refine x_iload_n 17 rfl d_Rw_drop_16 rfl ?_
      refine x_iald 18 rfl d_Rw_drop_17 k2 (t0 := 0) rfl (vp_in_nI (by omega) (by omega)) ?_
      refine x_iload_n 19 rfl d_Rw_drop_18 rfl ?_
      rw [nI_clamp (by omega)]
      refine x_icmp_eq 37 22 rfl d_Rw_drop_19 (by decide) (fun hc => ?_) (fun hc => ?_)
      · refine x_iinc 40 rfl d_Rw_drop_37 rfl 1 (by decide) (by decide) ?_
        refine x_goto d_Rw_drop_40 4 (by decide) ?_
        have hf : (l.take (i + 1)).filter (fun x => decide (x ≠ t)) = (l.take i).filter (fun x => decide (x ≠ t)) := by rw [ht, List.filter_append]; simp [hc]
        exact xE.fit (ih (i + 1) _ _ w1 f1 (nI_succ i).symm (by rw [hf]) (by omega) hfr k1 k2 (by rw [hf]; exact k3) (fun j h1 h2 => k4 j (by omega) h2)) rfl
      · refine x_aload_n 23 rfl d_Rw_drop_22 rfl ?_
        refine x_get 26 rfl f_Rw_9 d_Rw_drop_23 k1 rfl ?_
        refine x_iload_n 27 rfl d_Rw_drop_26 rfl ?_
        refine x_aload_n 28 rfl d_Rw_drop_27 rfl ?_
        refine x_get 31 rfl f_Rw_9 d_Rw_drop_28 k1 rfl ?_
        refine x_iload_n 32 rfl d_Rw_drop_31 rfl ?_
        refine x_iald 33 rfl d_Rw_drop_32 k2 (t0 := 0) rfl (vp_in_nI (by omega) (by omega)) ?_
        rw [nI_clamp (by omega)]
        refine x_iast 34 rfl d_Rw_drop_33 k2 (t0 := 0) rfl (vp_in_nI (by omega) (by omega)) ?_
        rw [nI_clamp (by omega)]
        have hf : (l.take (i + 1)).filter (fun x => decide (x ≠ t)) = (l.take i).filter (fun x => decide (x ≠ t)) ++ [f1 i] := by rw [ht, List.filter_append]; simp [hc]
        refine x_iinc 37 rfl d_Rw_drop_34 rfl 1 (by decide) (by decide) ?_
        refine x_iinc 40 rfl d_Rw_drop_37 rfl 1 (by decide) (by decide) ?_
        refine x_goto d_Rw_drop_40 4 (by decide) ?_
        refine xE.fit (ih (i + 1) _ _ _ (upd f1 ((l.take i).filter (fun x => decide (x ≠ t))).length (f1 i)) (nI_succ i).symm (by rw [hf, List.length_append, List.length_singleton, nI_succ]) (by omega) (hfr.set _ (by omega) (by omega)) (by rw [xset_ne _ _ (by omega)]; exact k1) (xset_at _ _ _) (fun j hj => ?_) (fun j h1 h2 => ?_)) rfl
        · rw [hf] at hj ⊢
          by_cases e : j = ((l.take i).filter (fun x => decide (x ≠ t))).length
          · subst e; simp [upd]
          · have hj2 : j < ((l.take i).filter (fun x => decide (x ≠ t))).length := by rw [List.length_append, List.length_singleton] at hj; omega
            rw [List.getElem?_append_left hj2, k3 j hj2]
            simp only [upd, if_neg e]
        · rw [k4 j (by omega) h2]
          simp only [upd]
          rw [if_neg (by omega)]
  refine x_iconst 1 rfl d_Rw_drop_0 0 (by decide) ?_
  refine x_istore_n 2 rfl d_Rw_drop_1 (by decide) ?_
  refine x_iconst 3 rfl d_Rw_drop_2 0 (by decide) ?_
  refine x_istore_n 4 rfl d_Rw_drop_3 (by decide) ?_
  exact xE.fit (loop l.length 0 0 0 w f rfl (by simp [nI]) (Nat.zero_add _) (fr.rf _ _ _) g1 g4 (fun j hj => by simp at hj) (fun j _ h2 => g5 j h2)) rfl
end RW
end
section
/-! SENDERS AS A MASK -/
def cMk (h : Nat → Bool) : Nat := (if h 0 then 1 else 0) + (if h 1 then 2 else 0) + (if h 2 then 4 else 0) + (if h 3 then 8 else 0)
def cM4 (a b c d : Bool) : Nat := (if a then 1 else 0) + (if b then 2 else 0) + (if c then 4 else 0) + (if d then 8 else 0)
theorem cMk_lt (h : Nat → Bool) : cMk h < 16 := by unfold cMk; split <;> split <;> split <;> split <;> omega
theorem cMk_4 (h : Nat → Bool) : cMk h = cM4 (h 0) (h 1) (h 2) (h 3) := rfl
theorem cM4_bit : ∀ a b c d : Bool, ∀ s, s < 4 → nI (cM4 a b c d) >>> (nI s &&& 31) &&& 1 = nB ([a, b, c, d].getD s false) := by decide +kernel
theorem cM4_set : ∀ a b c d : Bool, (nI (cM4 a b c d) ||| ((1 : Int32) <<< (nI 0 &&& 31)) = nI (cM4 true b c d)) ∧ (nI (cM4 a b c d) ||| ((1 : Int32) <<< (nI 1 &&& 31)) = nI (cM4 a true c d)) ∧ (nI (cM4 a b c d) ||| ((1 : Int32) <<< (nI 2 &&& 31)) = nI (cM4 a b true d)) ∧ (nI (cM4 a b c d) ||| ((1 : Int32) <<< (nI 3 &&& 31)) = nI (cM4 a b c true)) := by decide +kernel
theorem lt4 {s : Nat} (h : s < 4) : s = 0 ∨ s = 1 ∨ s = 2 ∨ s = 3 := by omega
theorem h4 (h : Nat → Bool) {s : Nat} (hs : s < 4) : [h 0, h 1, h 2, h 3].getD s false = h s := by
  rcases lt4 hs with rfl | rfl | rfl | rfl <;> rfl
theorem bM1 (h : Nat → Bool) {s : Nat} (hs : s < 4) : nI (cMk h) >>> (nI s &&& 31) &&& 1 = nB (h s) := by
  rw [cMk_4, cM4_bit _ _ _ _ s hs, h4 h hs]
theorem bM2 (h : Nat → Bool) {s : Nat} (hs : s < 4) : nI (cMk h) ||| ((1 : Int32) <<< (nI s &&& 31)) = nI (cMk (va_up h s true)) := by
  obtain ⟨z0, z1, z2, z3⟩ := cM4_set (h 0) (h 1) (h 2) (h 3)
  rcases lt4 hs with rfl | rfl | rfl | rfl
  · rw [cMk_4, z0]; rfl
  · rw [cMk_4, z1]; rfl
  · rw [cMk_4, z2]; rfl
  · rw [cMk_4, z3]; rfl
theorem cMk_congr {g h : Nat → Bool} (e : ∀ s, s < 4 → g s = h s) : cMk g = cMk h := by
  unfold cMk; rw [e 0 (by decide), e 1 (by decide), e 2 (by decide), e 3 (by decide)]
def cCt (h : Nat → Bool) (r : Nat → Int32) (root : Int32) : Nat := cPop (cMk (fun s => h s && decide (r s = root)))
/-- the least sender whose root came from n -/
def cFs (h : Nat → Bool) (r : Nat → Int32) (n : Nat) : Option Nat := (List.range 4).find? (fun i => h i && decide (n ≤ cCt h r (r i)))
def iO (o : Option Nat) : Int32 := match o with
  | none => -1
  | some i => nI i
def cGv (g : Nat → Bool) (eb : Nat → Nat) : Nat := match (List.range 4).filter g with
  | k :: l :: _ => cSv k (eb k) l (eb l)
  | _ => 0
theorem cSv_lt {k x l y : Nat} (hk : k < 4) (hl : l < 4) (hne : k ≠ l) (hx : x < 256) (hy : y < 256) : cSv k x l y < 65536 := by
  obtain ⟨h1, h2⟩ := kl_lt k hk l hl hne
  have hd := (cDv_ok (k ^^^ l) h2 h1 (x ^^^ y) (x_lt hx hy)).1
  have hp : cSvP k x l y < 256 := x_lt hx (cTm_lt k hk _ hd)
  have hq := x_lt hp hd
  unfold cSv
  omega
theorem nB_1 (b : Bool) : nB b = 1 ↔ b = true := by cases b <;> decide
theorem nB_0 (b : Bool) : nB b = 0 ↔ b = false := by cases b <;> decide
/-- the class's Roots: its object at a, its array behind it -/
def rRt (X : xPar) (w : xW) (a : Nat) (h : Nat → Bool) (r : Nat → Int32) : Prop := w.2.2 a = some (.inr (6, [.ref (a + 1), .int (nI (cMk h))])) ∧ aI X w (a + 1) 4 r
theorem aI.kept {X : xPar} {w w' : xW} {a n : Nat} {g : Nat → Int32} (h : aI X w a n g) (e : w'.2.2 a = w.2.2 a) : aI X w' a n g := by
  obtain ⟨f, h1, h2⟩ := h
  exact ⟨f, e.trans h1, h2⟩
theorem rRt.kept {X : xPar} {w w' : xW} {a : Nat} {h : Nat → Bool} {r : Nat → Int32} (hR : rRt X w a h r) (h0 : w'.2.2 a = w.2.2 a) (h1 : w'.2.2 (a + 1) = w.2.2 (a + 1)) : rRt X w' a h r := ⟨h0.trans hR.1, hR.2.kept h1⟩
theorem rRt.congr {X : xPar} {w : xW} {a : Nat} {h h' : Nat → Bool} {r r' : Nat → Int32} (hR : rRt X w a h r) (e : ∀ s, s < 4 → h s = h' s) (e2 : ∀ s, s < 4 → r s = r' s) : rRt X w a h' r' := by
  obtain ⟨h1, f, h2, h3⟩ := hR
  exact ⟨by rw [← cMk_congr e]; exact h1, f, h2, fun j hj => (h3 j hj).trans (e2 j hj)⟩
section RT
variable {X : xPar} {w : xW} {P : Option Value → xW → Prop} {a : Nat} {h : Nat → Bool} {r : Nat → Int32}
theorem s_Rt_isFrom {ss : Int32} {s : Nat} (hss : ss = nI s) (hs : s < 4) (hR : rRt X w a h r) (hP : P (some (.int (nB (h s)))) w) : xE (xGG X) 0 m_Rt_isFrom 0 [(0, .ref a), (1, .int ss)] [] w P := by
  subst hss
  have g1 := hR.1
  refine x_aload_n 1 rfl d_Rt_isFrom_0 rfl ?_
  refine x_get 4 rfl f_Rt_15 d_Rt_isFrom_1 g1 rfl ?_
  refine x_iload_n 5 rfl d_Rt_isFrom_4 rfl ?_
  refine x_ishr 6 rfl d_Rt_isFrom_5 ?_
  refine x_iconst 7 rfl d_Rt_isFrom_6 1 (by decide) ?_
  refine x_iand 8 rfl d_Rt_isFrom_7 ?_
  refine x_iconst 9 rfl d_Rt_isFrom_8 1 (by decide) ?_
  rw [bM1 h hs]
  refine x_icmp_ne 16 12 rfl d_Rt_isFrom_9 (by decide) (fun hc => ?_) (fun hc => ?_)
  · refine x_iconst 17 rfl d_Rt_isFrom_16 0 (by decide) ?_
    refine x_zret d_Rt_isFrom_17 rfl (by decide) ?_
    have : h s = false := by cases e : h s with
      | false => rfl
      | true => rw [e] at hc; exact absurd rfl hc
    rw [this] at hP
    exact hP
  · refine x_iconst 13 rfl d_Rt_isFrom_12 1 (by decide) ?_
    refine x_goto d_Rt_isFrom_13 17 (by decide) ?_
    refine x_zret d_Rt_isFrom_17 rfl (by decide) ?_
    rw [(nB_1 _).mp hc] at hP
    exact hP
theorem s_Rt_put {ss root : Int32} {s : Nat} (hss : ss = nI s) (hs : s < 4) (hR : rRt X w a h r) (hP : ∀ w', rRt X w' a (va_up h s true) (va_up r s root) → fr w w' a (a + 2) → P none w') : xE (xGG X) 0 m_Rt_put 0 [(0, .ref a), (1, .int ss), (2, .int root)] [] w P := by
  subst hss
  obtain ⟨g1, f, g2, g3⟩ := hR
  refine x_aload_n 1 rfl d_Rt_put_0 rfl ?_
  refine x_get 4 rfl f_Rt_9 d_Rt_put_1 g1 rfl ?_
  refine x_iload_n 5 rfl d_Rt_put_4 rfl ?_
  refine x_iload_n 6 rfl d_Rt_put_5 rfl ?_
  refine x_iast 7 rfl d_Rt_put_6 g2 (t0 := 0) rfl (vp_in_nI hs (by decide)) ?_
  rw [nI_clamp (by omega)]
  have k1 : (xset w (a + 1) (.inl (X.2.2.2.1 0, 4, .inl (upd f s root)))).2.2 a = some (.inr (6, [.ref (a + 1), .int (nI (cMk h))])) := by rw [xset_ne _ _ (by omega)]; exact g1
  refine x_aload_n 8 rfl d_Rt_put_7 rfl ?_
  refine x_dup 9 rfl d_Rt_put_8 rfl ?_
  refine x_get 12 rfl f_Rt_15 d_Rt_put_9 k1 rfl ?_
  refine x_iconst 13 rfl d_Rt_put_12 1 (by decide) ?_
  refine x_iload_n 14 rfl d_Rt_put_13 rfl ?_
  refine x_ishl 15 rfl d_Rt_put_14 ?_
  refine x_ior 16 rfl d_Rt_put_15 ?_
  rw [bM2 h hs]
  refine x_put 19 rfl p_Rt_15 (fun _ => by first | rfl | contradiction) d_Rt_put_16 k1 rfl rfl (Nat.le_of_ble_eq_true rfl) ?_
  refine x_vret d_Rt_put_19 rfl ?_
  refine hP _ ⟨xset_at _ _ _, upd f s root, ?_, fun j hj => ?_⟩ (((fr.rf w a (a + 2)).set _ (by omega) (by omega)).set _ (by omega) (by omega))
  · rw [xset_ne _ _ (by omega), xset_at]
  · simp only [upd, va_up]
    split
    · rfl
    · exact g3 j hj
theorem s_Rt_sendersOf {root : Int32} (hR : rRt X w a h r) (hP : P (some (.int (nI (cMk (fun s => h s && decide (r s = root)))))) w) : xE (xGG X) 1 m_Rt_sendersOf 0 [(0, .ref a), (1, .int root)] [] w P := by
  have hR0 := hR
  obtain ⟨g1, f, g2, g3⟩ := hR
  have loop : ∀ (n i : Nat) (cc ff : Int32), cc = nI i → i + n = 4 → ff = nI (cMk (fun s => decide (s < i) && (h s && decide (r s = root)))) → xE (xGG X) 1 m_Rt_sendersOf 4 [(0, .ref a), (1, .int root), (2, .int ff), (3, .int cc)] [] w P := by
    intro n
    induction n with
    | zero =>
      intro i cc ff hcc hi hff
      have hi4 : i = 4 := by omega
      subst hi4 hcc hff
      refine x_iload_n 5 rfl d_Rt_sendersOf_4 rfl ?_
      refine x_iconst 6 rfl d_Rt_sendersOf_5 4 (by decide) ?_
      refine x_icmp_ge 39 9 rfl d_Rt_sendersOf_6 (by decide) (fun hc => ?_) (fun hc => absurd (by decide) hc)
      refine x_iload_n 40 rfl d_Rt_sendersOf_39 rfl ?_
      refine x_iret d_Rt_sendersOf_40 rfl ?_
      rw [cMk_congr (h := fun s => h s && decide (r s = root)) (fun s hs => by simp [hs])]
      exact hP
    | succ n ih =>
      intro i cc ff hcc hi hff
      subst hcc
      have hi4 : i < 4 := by omega
      have skip : (h i && decide (r i = root)) = false → ff = nI (cMk (fun s => decide (s < i + 1) && (h s && decide (r s = root)))) := by
        intro e
        rw [hff, cMk_congr (fun s hs => ?_)]
        by_cases z : s = i
        · subst z; simp only [e, Bool.and_false]
        · rw [show decide (s < i + 1) = decide (s < i) by congr 1; exact propext ⟨fun _ => by omega, fun _ => by omega⟩]
      refine x_iload_n 5 rfl d_Rt_sendersOf_4 rfl ?_
      refine x_iconst 6 rfl d_Rt_sendersOf_5 4 (by decide) ?_
      refine x_icmp_ge 39 9 rfl d_Rt_sendersOf_6 (by decide) (fun hc => absurd hc (nI_ge (a := i) (b := 4) (by omega) (by decide))) (fun hc => ?_)
      refine x_aload_n 10 rfl d_Rt_sendersOf_9 rfl ?_
      refine x_iload_n 11 rfl d_Rt_sendersOf_10 rfl ?_
      refine y_callV 14 rfl [_] _ rfl d_Rt_sendersOf_11 g1 rfl c_Rt_19 rfl (Nat.le_of_ble_eq_true rfl) (Nat.le_of_ble_eq_true rfl) (Nat.le_of_ble_eq_true rfl) (s_Rt_isFrom rfl hi4 hR0 ?_)
      refine x_if_eq 33 17 rfl d_Rt_sendersOf_14 (by decide) (fun hc => ?_) (fun hc => ?_)
      · refine x_iinc 36 rfl d_Rt_sendersOf_33 rfl 1 (by decide) (by decide) ?_
        refine x_goto d_Rt_sendersOf_36 4 (by decide) ?_
        exact xE.fit (ih (i + 1) _ _ (nI_succ i).symm (by omega) (skip (by rw [(nB_0 _).mp hc]; rfl))) rfl
      · have hh : h i = true := by cases e : h i with
          | true => rfl
          | false => rw [e] at hc; exact absurd rfl hc
        refine x_aload_n 18 rfl d_Rt_sendersOf_17 rfl ?_
        refine x_get 21 rfl f_Rt_9 d_Rt_sendersOf_18 g1 rfl ?_
        refine x_iload_n 22 rfl d_Rt_sendersOf_21 rfl ?_
        refine x_iald 23 rfl d_Rt_sendersOf_22 g2 (t0 := 0) rfl (vp_in_nI hi4 (by decide)) ?_
        refine x_iload_n 24 rfl d_Rt_sendersOf_23 rfl ?_
        rw [nI_clamp (by omega), g3 i hi4]
        refine x_icmp_ne 33 27 rfl d_Rt_sendersOf_24 (by decide) (fun hc => ?_) (fun hc => ?_)
        · refine x_iinc 36 rfl d_Rt_sendersOf_33 rfl 1 (by decide) (by decide) ?_
          refine x_goto d_Rt_sendersOf_36 4 (by decide) ?_
          exact xE.fit (ih (i + 1) _ _ (nI_succ i).symm (by omega) (skip (by simp [hc]))) rfl
        · refine x_iload_n 28 rfl d_Rt_sendersOf_27 rfl ?_
          refine x_iconst 29 rfl d_Rt_sendersOf_28 1 (by decide) ?_
          refine x_iload_n 30 rfl d_Rt_sendersOf_29 rfl ?_
          refine x_ishl 31 rfl d_Rt_sendersOf_30 ?_
          refine x_ior 32 rfl d_Rt_sendersOf_31 ?_
          refine x_istore_n 33 rfl d_Rt_sendersOf_32 (by decide) ?_
          refine x_iinc 36 rfl d_Rt_sendersOf_33 rfl 1 (by decide) (by decide) ?_
          refine x_goto d_Rt_sendersOf_36 4 (by decide) ?_
          refine xE.fit (ih (i + 1) _ _ (nI_succ i).symm (by omega) ?_) rfl
          rw [hff, bM2 _ hi4, cMk_congr (fun s hs => ?_)]
          simp only [va_up]
          by_cases z : s = i
          · subst z; simp [hh, hc]
          · rw [if_neg z, show decide (s < i + 1) = decide (s < i) by congr 1; exact propext ⟨fun _ => by omega, fun _ => by omega⟩]
  refine x_iconst 1 rfl d_Rt_sendersOf_0 0 (by decide) ?_
  refine x_istore_n 2 rfl d_Rt_sendersOf_1 (by decide) ?_
  refine x_iconst 3 rfl d_Rt_sendersOf_2 0 (by decide) ?_
  refine x_istore_n 4 rfl d_Rt_sendersOf_3 (by decide) ?_
  exact xE.fit (loop 4 0 0 0 rfl rfl (by simp [cMk, nI])) rfl
theorem s_Rt_leastOfShared {nn : Int32} {n : Nat} (hnn : nn = nI n) (hn : n < 16) (hR : rRt X w a h r) (hP : P (some (.int (iO (cFs h r n)))) w) : xE (xGG X) 2 m_Rt_leastOfShared 0 [(0, .ref a), (1, .int nn)] [] w P := by
  subst hnn
  have hR0 := hR
  obtain ⟨g1, f, g2, g3⟩ := hR
  have loop : ∀ (m i : Nat) (cc : Int32), cc = nI i → i + m = 4 → (∀ j, j < i → (h j && decide (n ≤ cCt h r (r j))) = false) → xE (xGG X) 2 m_Rt_leastOfShared 2 [(0, .ref a), (1, .int (nI n)), (2, .int cc)] [] w P := by
    intro m
    induction m with
    | zero =>
      intro i cc hcc hi hj
      have hi4 : i = 4 := by omega
      subst hi4 hcc
      refine x_iload_n 3 rfl d_Rt_leastOfShared_2 rfl ?_
      refine x_iconst 4 rfl d_Rt_leastOfShared_3 4 (by decide) ?_
      refine x_icmp_ge 40 7 rfl d_Rt_leastOfShared_4 (by decide) (fun hc => ?_) (fun hc => absurd (by decide) hc)
      refine x_iconst 41 rfl d_Rt_leastOfShared_40 (-1) (by decide) ?_
      refine x_iret d_Rt_leastOfShared_41 rfl ?_
      have : cFs h r n = none := List.find?_eq_none.mpr (fun x hx => by rw [hj x (List.mem_range.mp hx)]; decide)
      rw [this] at hP
      exact hP
    | succ m ih =>
      intro i cc hcc hi hj
      subst hcc
      have hi4 : i < 4 := by omega
      have next : (h i && decide (n ≤ cCt h r (r i))) = false → ∀ j, j < i + 1 → (h j && decide (n ≤ cCt h r (r j))) = false := fun e j hj2 => by
        by_cases z : j = i
        · subst z; exact e
        · exact hj j (by omega)
      refine x_iload_n 3 rfl d_Rt_leastOfShared_2 rfl ?_
      refine x_iconst 4 rfl d_Rt_leastOfShared_3 4 (by decide) ?_
      refine x_icmp_ge 40 7 rfl d_Rt_leastOfShared_4 (by decide) (fun hc => absurd hc (nI_ge (a := i) (b := 4) (by omega) (by decide))) (fun hc => ?_)
      refine x_aload_n 8 rfl d_Rt_leastOfShared_7 rfl ?_
      refine x_iload_n 9 rfl d_Rt_leastOfShared_8 rfl ?_
      refine y_callV 12 rfl [_] _ rfl d_Rt_leastOfShared_9 g1 rfl c_Rt_19 rfl (Nat.le_of_ble_eq_true rfl) (Nat.le_of_ble_eq_true rfl) (Nat.le_of_ble_eq_true rfl) (s_Rt_isFrom rfl hi4 hR0 ?_)
      refine x_if_eq 34 15 rfl d_Rt_leastOfShared_12 (by decide) (fun hc => ?_) (fun hc => ?_)
      · refine x_iinc 37 rfl d_Rt_leastOfShared_34 rfl 1 (by decide) (by decide) ?_
        refine x_goto d_Rt_leastOfShared_37 2 (by decide) ?_
        exact xE.fit (ih (i + 1) _ (nI_succ i).symm (by omega) (next (by rw [(nB_0 _).mp hc]; rfl))) rfl
      · have hh : h i = true := by cases e : h i with
          | true => rfl
          | false => rw [e] at hc; exact absurd rfl hc
        refine x_aload_n 16 rfl d_Rt_leastOfShared_15 rfl ?_
        refine x_aload_n 17 rfl d_Rt_leastOfShared_16 rfl ?_
        refine x_get 20 rfl f_Rt_9 d_Rt_leastOfShared_17 g1 rfl ?_
        refine x_iload_n 21 rfl d_Rt_leastOfShared_20 rfl ?_
        refine x_iald 22 rfl d_Rt_leastOfShared_21 g2 (t0 := 0) rfl (vp_in_nI hi4 (by decide)) ?_
        rw [nI_clamp (by omega), g3 i hi4]
        refine y_callV 25 rfl [_] _ rfl d_Rt_leastOfShared_22 g1 rfl c_Rt_23 rfl (Nat.le_of_ble_eq_true rfl) (Nat.le_of_ble_eq_true rfl) (Nat.le_of_ble_eq_true rfl) (s_Rt_sendersOf hR0 ?_)
        refine y_call 28 rfl [_] _ rfl d_Rt_leastOfShared_25 c_Rt_27 rfl (Nat.le_of_ble_eq_true rfl) (Nat.le_of_ble_eq_true rfl) (Nat.le_of_ble_eq_true rfl) (s_It_bitCount rfl (cMk_lt _) ?_)
        refine x_iload_n 29 rfl d_Rt_leastOfShared_28 rfl ?_
        have hle := cPop_le (cMk (fun s => h s && decide (r s = r i)))
        refine x_icmp_lt 34 32 rfl d_Rt_leastOfShared_29 (by decide) (fun hc => ?_) (fun hc => ?_)
        · refine x_iinc 37 rfl d_Rt_leastOfShared_34 rfl 1 (by decide) (by decide) ?_
          refine x_goto d_Rt_leastOfShared_37 2 (by decide) ?_
          refine xE.fit (ih (i + 1) _ (nI_succ i).symm (by omega) (next ?_)) rfl
          have := (nI_ltI (by omega) (by omega)).mp hc
          rw [hh, Bool.true_and, decide_eq_false_iff_not]
          unfold cCt
          omega
        · refine x_iload_n 33 rfl d_Rt_leastOfShared_32 rfl ?_
          refine x_iret d_Rt_leastOfShared_33 rfl ?_
          have hge : n ≤ cCt h r (r i) := by
            by_cases z : n ≤ cCt h r (r i)
            · exact z
            · exact absurd (nI_lt (by unfold cCt at z; omega) (by omega)) hc
          have : cFs h r n = some i := by
            unfold cFs
            rw [List.find?_range_eq_some]
            exact ⟨by simp [hh, hge], List.mem_range.mpr hi4, fun j hj2 => by rw [hj j hj2]; decide⟩
          rw [this] at hP
          exact hP
  refine x_iconst 1 rfl d_Rt_leastOfShared_0 0 (by decide) ?_
  refine x_istore_n 2 rfl d_Rt_leastOfShared_1 (by decide) ?_
  exact xE.fit (loop 4 0 0 rfl rfl (fun j hj => absurd hj (Nat.not_lt_zero j))) rfl
end RT
end
section
/-! arraycopy of references, getClass, the mirror of a class -/
section XCP
variable {G : xG} {d : Nat} {k : xM} {pc : Nat} {lc : List (Nat × Value)} {w : xW} {P : Option Value → xW → Prop}
theorem x_copyq {idx a0 a n0 n1 t0 t1 : Nat} {c0 c1 : ClassId} {f g : Nat → Option Nat} {E0 E1 : String} {sp dp n : Int32} {rest : List Value} (q : Nat) (hq : pc + 3 = q) (hd : decode k.2.1 pc = .ok (.invokestatic idx, 3)) (hlink : Cond.methodLink k.1.cls idx arraycopyName ∈ xws G) (hnat : Cond.native arraycopyName ∈ xws G) (hstat : Cond.static arraycopyName ∈ xws G) (hini : Cond.initialized "java/lang/System" ∈ xws G)
    (ha0 : w.2.2 a0 = some (.inl (c0, n0, .inr (.inr (.inr (.inr f)))))) (ha1 : w.2.2 a = some (.inl (c1, n1, .inr (.inr (.inr (.inr g)))))) (ht0 : (xty G)[t0]? = some (c0, .object E0)) (ht1 : (xty G)[t1]? = some (c1, .object E1)) (h1 : ¬ sp < 0) (h2 : ¬ dp < 0) (h3 : ¬ n < 0) (h4 : sp.toNatClampNeg + n.toNatClampNeg ≤ n0) (h5 : dp.toNatClampNeg + n.toNatClampNeg ≤ n1)
    (hel : ∀ i : Nat, i < n.toNatClampNeg → ∀ y : Nat, f (sp.toNatClampNeg + i) = some y → ∃ (ci : Nat) (fs : List Value) (r0 : vw_C), w.2.2 y = some (.inr (ci, fs)) ∧ (xcl G)[ci]? = some r0 ∧ Cond.castable r0.1 E1 ∈ xnw G) (hW : (rest.map fun v => v.category).sum ≤ 8) (hdd : 1 ≤ d)
    (h : xE G d k q lc rest (xset w a (.inl (c1, n1, .inr (.inr (.inr (.inr (va_cpy f g sp.toNatClampNeg dp.toNatClampNeg n.toNatClampNeg))))))) P) : xE G d k pc lc (.int n :: .int dp :: .ref a :: .int sp :: .ref a0 :: rest) w P := by
  subst hq
  have nn : ∀ z : Int32, ¬ z < 0 → z.toInt = (z.toNatClampNeg : Int) := by
    intro z hz
    have hz0 : (0 : Int) ≤ z.toInt := by
      have := Int32.not_lt.mp hz
      simpa using Int32.le_iff_toInt_le.mp this
    show z.toInt = ((z.toInt.toNat : Nat) : Int)
    omega
  obtain ⟨v, w', hP, g1, g2, g3⟩ := h
  refine ⟨v, w', hP, g1, g2, fun p e R s m args below meth c H locs cells slots ls C r hl hL hc hs => ?_⟩
  have C' := C
  obtain ⟨c1', c2', c3', c4', c5', c6', c7', c8', c9', c10', c11'⟩ := C
  intro T hT X
  have hc0 : H[a0]? = some (vp_cell c0 (n0, .inr (.inr (.inr (.inr f))))) := (r.2.2.1 a0 _ ha0).2
  have hc1 : H[a]? = some (vp_cell c1 (n1, .inr (.inr (.inr (.inr g))))) := (r.2.2.1 a _ ha1).2
  obtain ⟨-, k0, hk0, cm0, hkk0⟩ := (c9'.1.2 t0 _ ht0).1 n0 (fun j => va_rf (f j))
  obtain ⟨-, k1, hk1, cm1, hkk1⟩ := (c9'.1.2 t1 _ ht1).1 n1 (fun j => va_rf (g j))
  have hnw : nativeFrameWords "java/lang/System" "arraycopy" 5 ≤ 20 := by decide
  obtain ⟨vm', X', step⟩ := X.arraycopy c1' c7' (c8' _ hlink) (c8' _ hnat) (c8' _ hstat) (c8' _ hini) (src := a0) (dst := a) (cs := vp_cell c0 (n0, .inr (.inr (.inr (.inr f))))) (cd := vp_cell c1 (n1, .inr (.inr (.inr (.inr g))))) (srcPos := sp) (destPos := dp) (n := n) (by rw [hT]; exact hc0) (by rw [hT]; exact hc1)
    (fun _ h => by cases h) (fun _ h => by cases h) (fun h => by cases h) (fun h => by cases h) hk0 hk1 hkk0 hkk1 rfl h1 h2 h3
    (by rw [nn sp h1, nn n h3]; show ¬ _ > ((arrV c0 n0 (fun j => va_rf (f j))).slots.size : Int); rw [arrV_size]; omega)
    (by rw [nn dp h2, nn n h3]; show ¬ _ > ((arrV c1 n1 (fun j => va_rf (g j))).slots.size : Int); rw [arrV_size]; omega)
    (fun vm₁ hal i hi => by
      have e : (vp_cell c0 (n0, .inr (.inr (.inr (.inr f))))).slots.getD (sp.toNatClampNeg + i) .null = va_rf (f (sp.toNatClampNeg + i)) := by
        show (arrV c0 n0 (fun j => va_rf (f j))).slots.getD _ _ = _
        rw [Array.getD_eq_getD_getElem?, arrV_read _ _ (by omega)]
        rfl
      rw [e]
      cases hy : f (sp.toNatClampNeg + i) with
      | none => exact ⟨rfl, trivial⟩
      | some y =>
        obtain ⟨ci, fs, r0, gy1, gy2, gy3⟩ := hel i hi y hy
        obtain ⟨cellV, g1, g2, g3⟩ := va_recv c9'.1 (r.one gy1) gy2 (q0 := 0) rfl
        obtain ⟨kA, comp, r1, r2, r3, -⟩ := (c9'.1.2 t1 _ ht1).2
        cases hk1.symm.trans r1
        cases hkk1.symm.trans r2
        obtain ⟨kC, hkC, -⟩ := Vm.findClass_spec g3
        obtain ⟨kE, hkE, -⟩ := Vm.findClass_spec r3
        obtain ⟨kC', hkC', -⟩ := hal.2.2 _ _ hkC
        obtain ⟨kE', hkE', -⟩ := hal.2.2 _ _ hkE
        refine ⟨rfl, cellV, (show T.heap[y]? = some cellV by rw [hT]; exact g1), (fun q h => by rw [h] at g2; cases g2), ⟨kC', hkC'⟩, ?_, ?_⟩
        · exact ⟨kE', hkE'⟩
        · show vm₁.assignable _ _ = true
          rw [hal.assignable]
          obtain ⟨c0, t1, f1, f2, f3⟩ := Cond.castable_spec (va_Nw.use (A := args) rfl (c9'.2 _ gy3).2)
          cases g3.symm.trans f1
          cases r3.symm.trans f2
          exact f3)
    (g := F0 m pc ls (.int n :: .int dp :: .ref a :: .int sp :: .ref a0 :: rest)) rfl (by rw [c3']; exact hl.1) (rest := rest) rfl (by rw [c2']; exact hd) (by omega) (by show 2 * 0 + _ + _ ≤ _; omega)
  have e1 : copied (vp_cell c0 (n0, .inr (.inr (.inr (.inr f))))) (vp_cell c1 (n1, .inr (.inr (.inr (.inr g))))) sp dp n = vp_cell c1 (n1, .inr (.inr (.inr (.inr (va_cpy f g sp.toNatClampNeg dp.toNatClampNeg n.toNatClampNeg))))) := by
    rw [vp_cell_q, vp_cell_q, vp_cell_q]
    exact va_copied (fun z => va_rf z) c0 c1 f g h4
  rw [e1] at X' step
  have hl2 : a < H.size := (Array.getElem?_eq_some_iff.mp hc1).1
  have hheap : ((T.setVm vm').setCell a (vp_cell c1 (n1, .inr (.inr (.inr (.inr (va_cpy f g sp.toNatClampNeg dp.toNatClampNeg n.toNatClampNeg))))))).heap = H.setIfInBounds a (vp_cell c1 (n1, .inr (.inr (.inr (.inr (va_cpy f g sp.toNatClampNeg dp.toNatClampNeg n.toNatClampNeg)))))) := by rw [← hT]; rfl
  have oq : ∀ q : Nat, q ≠ a → (H.setIfInBounds a (vp_cell c1 (n1, .inr (.inr (.inr (.inr (va_cpy f g sp.toNatClampNeg dp.toNatClampNeg n.toNatClampNeg)))))))[q]? = H[q]? := fun q hq => by simp [Array.getElem?_setIfInBounds, Ne.symm hq]
  have hr : xR G (xset w a (.inl (c1, n1, .inr (.inr (.inr (.inr (va_cpy f g sp.toNatClampNeg dp.toNatClampNeg n.toNatClampNeg))))))) s (H.setIfInBounds a (vp_cell c1 (n1, .inr (.inr (.inr (.inr (va_cpy f g sp.toNatClampNeg dp.toNatClampNeg n.toNatClampNeg))))))) := r.set ha1 (show (H.setIfInBounds a _)[a]? = some _ by simp [Array.getElem?_setIfInBounds, hl2]) (by simp) oq
  obtain ⟨t, a1, b1⟩ := g3 p e R s m args below meth c _ _ cells slots ls C' hr hl (fun q hq => by
      rcases List.mem_append.mp hq with h | h
      · exact hL q h
      · obtain ⟨z, -, hz⟩ := List.mem_map.mp h
        rw [← hz]
        exact (r.2.2.1 a _ ha1).1) hc hs _ hheap X'
  exact ⟨t, step t a1, b1⟩
theorem x_getC {idx a n t0 mi : Nat} {cA : ClassId} {f : Nat → Option Nat} {rest : List Value} (q : Nat) (hq : pc + 3 = q) (hd : decode k.2.1 pc = .ok (.invokevirtual idx, 3)) (hlink : Cond.methodLink k.1.cls idx ⟨"java/lang/Object", "getClass", "()Ljava/lang/Class;"⟩ ∈ xws G) (hsel : Cond.selects "[Ljava/lang/Object;" ⟨"java/lang/Object", "getClass", "()Ljava/lang/Class;"⟩ ⟨"java/lang/Object", "getClass", "()Ljava/lang/Class;"⟩ ∈ xws G) (hinst : Cond.instanceMethod ⟨"java/lang/Object", "getClass", "()Ljava/lang/Class;"⟩ ∈ xws G) (hnat : Cond.native ⟨"java/lang/Object", "getClass", "()Ljava/lang/Class;"⟩ ∈ xws G)
    (hz : ∀ U H, xz G U H → va_Mi "[Ljava/lang/Object;" mi U ∧ va_Dc U) (ha : w.2.2 a = some (.inl (cA, n, .inr (.inr (.inr (.inr f)))))) (ht : (xty G)[t0]? = some (cA, .object "java/lang/Object")) (hW : (rest.map fun v => v.category).sum ≤ 8) (hdd : 1 ≤ d) (h : xE G d k q lc (.ref mi :: rest) w P) : xE G d k pc lc (.ref a :: rest) w P := by
  subst hq
  refine h.s1 (fun p e R s m args below meth c H locs cells slots ls Q C r hl kk => ?_)
  obtain ⟨c1, c2, c3, c4, c5, c6, c7, c8, c9, c10, c11⟩ := C
  obtain ⟨z1, z2⟩ := hz s H r.2.2.2.1
  have hnm : s.vm.findClass "[Ljava/lang/Object;" = some cA := va_nmO (c9.1.2 t0 _ ht).2 (by decide)
  exact va_getC c1 c2 (by rw [c3]; exact hl.1.symm) c7 (c8 _ hlink) (va_Dc.use z2) (c8 _ hsel) (c8 _ hinst) (c8 _ hnat) z1 ⟨_, (r.2.2.1 a _ ha).2, rfl, hnm⟩ (by omega) (by omega) hd kk
theorem x_ldcM {idx mi : Nat} {B : String} {st : List Value} (q : Nat) (hq : pc + 2 = q) (hd : decode k.2.1 pc = .ok (.ldc idx, 2)) (hlink : Cond.classLink k.1.cls idx B ∈ xws G) (hz : ∀ U H, xz G U H → va_Mi B mi U) (h : xE G d k q lc (.ref mi :: st) w P) : xE G d k pc lc st w P := by
  subst hq
  refine h.s1 (fun p e R s m args below meth c H locs cells slots ls Q C r hl kk => ?_)
  obtain ⟨c1, c2, c3, c4, c5, c6, c7, c8, c9, c10, c11⟩ := C
  exact va_ldcM c1 c2 c7 (c8 _ hlink) (hz s H r.2.2.2.1) hd kk
end XCP
end
section
/-! ARRAYLIST -/
theorem f_emp {X : xPar} : Cond.fieldLink "java/util/ArrayList" 39 "java/util/ArrayList" "DEFAULTCAPACITY_EMPTY_ELEMENTDATA" "[Ljava/lang/Object;" ∈ xws (xGG X) := xi1 56 rfl rfl
section AL0
variable {X : xPar} {w : xW} {P : Option Value → xW → Prop}
theorem s_Ma_max {x y : Int32} (h : P (some (.int (if x < y then y else x))) w) : xE (xGG X) 0 m_Ma_max 0 [(0, .int x), (1, .int y)] [] w P := by
  refine x_iload_n 1 rfl d_Ma_max_0 rfl ?_
  refine x_iload_n 2 rfl d_Ma_max_1 rfl ?_
  refine x_icmp_lt 9 5 rfl d_Ma_max_2 (by decide) (fun hc2 => ?_) (fun hc2 => ?_)
  · refine x_iload_n 10 rfl d_Ma_max_9 rfl ?_
    refine x_iret d_Ma_max_10 rfl ?_
    (simpa [*] using h)
  · refine x_iload_n 6 rfl d_Ma_max_5 rfl ?_
    refine x_goto d_Ma_max_6 10 (by decide) ?_
    refine x_iret d_Ma_max_10 rfl ?_
    (simpa [*] using h)
theorem s_Ma_min {x y : Int32} (h : P (some (.int (if y < x then y else x))) w) : xE (xGG X) 0 m_Ma_min 0 [(0, .int x), (1, .int y)] [] w P := by
  refine x_iload_n 1 rfl d_Ma_min_0 rfl ?_
  refine x_iload_n 2 rfl d_Ma_min_1 rfl ?_
  refine x_icmp_gt 9 5 rfl d_Ma_min_2 (by decide) (fun hc2 => ?_) (fun hc2 => ?_)
  · refine x_iload_n 10 rfl d_Ma_min_9 rfl ?_
    refine x_iret d_Ma_min_10 rfl ?_
    (simpa [*] using h)
  · refine x_iload_n 6 rfl d_Ma_min_5 rfl ?_
    refine x_goto d_Ma_min_6 10 (by decide) ?_
    refine x_iret d_Ma_min_10 rfl ?_
    (simpa [*] using h)
theorem s_As_newLength {a b c : Int32} {n m g : Nat} (ha : a = nI n) (hb : b = nI m) (hc : c = nI g) (hn : n < 2 ^ 28) (hm : m < 2 ^ 28) (hg : g < 2 ^ 28) (h0 : 0 < n) (h : P (some (.int (nI (n + max m g)))) w) : xE (xGG X) 1 m_As_newLength 0 [(0, .int a), (1, .int b), (2, .int c)] [] w P := by
  subst ha hb hc
  have e : (if nI m < nI g then nI g else nI m) = nI (max m g) := by
    by_cases z : m < g
    · rw [if_pos (nI_lt z (by omega)), Nat.max_eq_right (by omega)]
    · rw [if_neg (nI_nlt (by omega) (by omega)), Nat.max_eq_left (by omega)]
  have hmx : max m g < 2 ^ 28 := Nat.max_lt.mpr ⟨hm, hg⟩
  refine x_iload_n 1 rfl d_As_newLength_0 rfl ?_
  refine x_iload_n 2 rfl d_As_newLength_1 rfl ?_
  refine x_iload_n 3 rfl d_As_newLength_2 rfl ?_
  refine y_call 6 rfl [_, _] _ rfl d_As_newLength_3 c_As_194 rfl (Nat.le_of_ble_eq_true rfl) (Nat.le_of_ble_eq_true rfl) (Nat.le_of_ble_eq_true rfl) (s_Ma_max ?_)
  rw [e]
  refine x_iadd 7 rfl d_As_newLength_6 ?_
  refine x_istore_n 8 rfl d_As_newLength_7 (by decide) ?_
  refine x_iconst 9 rfl d_As_newLength_8 0 (by decide) ?_
  refine x_iload_n 10 rfl d_As_newLength_9 rfl ?_
  rw [nI_add]
  refine x_icmp_ge 21 13 rfl d_As_newLength_10 (by decide) (fun hc => absurd hc (nI_ge (a := 0) (by omega) (by omega))) (fun hc => ?_)
  refine x_iload_n 14 rfl d_As_newLength_13 rfl ?_
  refine x_ldc 16 rfl d_As_newLength_14 k_As_200 ?_
  refine x_icmp_gt 21 19 rfl d_As_newLength_16 (by decide) (fun hc => absurd hc (nI_nlt (a := 2147483639) (by omega) (by decide))) (fun hc => ?_)
  refine x_iload_n 20 rfl d_As_newLength_19 rfl ?_
  refine x_iret d_As_newLength_20 rfl ?_
  exact h
theorem s_Pr_checkIndex {x y : Int32} (h0 : 0 ≤ x) (h1 : x < y) (h : P (some (.int x)) w) : xE (xGG X) 0 m_Pr_checkIndex 0 [(0, .int x), (1, .int y), (2, .null)] [] w P := by
  refine x_iload_n 1 rfl d_Pr_checkIndex_0 rfl ?_
  refine x_if_lt 9 4 rfl d_Pr_checkIndex_1 (by decide) (fun hc => absurd hc (Int32.not_lt.mpr h0)) (fun hc => ?_)
  refine x_iload_n 5 rfl d_Pr_checkIndex_4 rfl ?_
  refine x_iload_n 6 rfl d_Pr_checkIndex_5 rfl ?_
  refine x_icmp_lt 16 9 rfl d_Pr_checkIndex_6 (by decide) (fun hc => ?_) (fun hc => absurd h1 hc)
  refine x_iload_n 17 rfl d_Pr_checkIndex_16 rfl ?_
  refine x_iret d_Pr_checkIndex_17 rfl ?_
  exact h
theorem s_Os_checkIndex {x y : Int32} (h0 : 0 ≤ x) (h1 : x < y) (h : P (some (.int x)) w) : xE (xGG X) 1 m_Os_checkIndex 0 [(0, .int x), (1, .int y)] [] w P := by
  refine x_iload_n 1 rfl d_Os_checkIndex_0 rfl ?_
  refine x_iload_n 2 rfl d_Os_checkIndex_1 rfl ?_
  refine x_null 3 rfl d_Os_checkIndex_2 ?_
  refine y_call 6 rfl [_, _, _] _ rfl d_Os_checkIndex_3 c_Os_105 rfl (Nat.le_of_ble_eq_true rfl) (Nat.le_of_ble_eq_true rfl) (Nat.le_of_ble_eq_true rfl) (s_Pr_checkIndex h0 h1 ?_)
  refine x_iret d_Os_checkIndex_6 rfl ?_
  exact h
end AL0
/-- the elements are messages -/
def rEl (w : xW) (f : Nat → Option Nat) (as : List Nat) : Prop := ∀ j, j < as.length → ∃ (m : Nat) (fs : List Value), as[j]? = some m ∧ f j = some m ∧ w.2.2 m = some (.inr (3, fs))
/-- a list: its object at a; its array at ed, of cap places; the addresses of its elements -/
def rAl (X : xPar) (tE : Nat) (w : xW) (a ed cap : Nat) (as : List Nat) : Prop := (∃ mc : Int32, w.2.2 a = some (.inr (10, [.ref ed, .int (nI as.length), .int mc]))) ∧ as.length ≤ cap ∧ ((cap = 0 ∧ ed = tE) ∨ (2 ≤ cap ∧ ∃ f : Nat → Option Nat, w.2.2 ed = some (.inl (X.2.2.2.1 6, cap, .inr (.inr (.inr (.inr f))))) ∧ rEl w f as))
theorem rEl.kept {w w' : xW} {f : Nat → Option Nat} {as : List Nat} (h : rEl w f as) (hk : ∀ (m : Nat) (fs : List Value), w.2.2 m = some (.inr (3, fs)) → w'.2.2 m = some (.inr (3, fs))) : rEl w' f as := by
  intro j hj
  obtain ⟨m, fs, h1, h2, h3⟩ := h j hj
  exact ⟨m, fs, h1, h2, hk m fs h3⟩
section AL
variable {X : xPar} {sb L : Nat} {xs : Nat → Int32} {tI tE mi : Nat} {w : xW} {P : Option Value → xW → Prop}
theorem s_Ar_copyOf2 (hX : xS X sb L xs tI tE mi) {a n m : Nat} {nn : Int32} {f : Nat → Option Nat} {as : List Nat} (hnn : nn = nI m) (ha : w.2.2 a = some (.inl (X.2.2.2.1 6, n, .inr (.inr (.inr (.inr f)))))) (hel : rEl w f as) (hasn : as.length = n) (hlt : a < w.1) (hnm : n ≤ m) (hm : m < 2 ^ 26) (hwf : ∀ q e, w.2.2 q = some e → q < w.1) (h : P (some (.ref w.1)) (xset (xnew w m (.inl (X.2.2.2.1 6, m, .inr (.inr (.inr (.inr (fun _ => none))))))) w.1 (.inl (X.2.2.2.1 6, m, .inr (.inr (.inr (.inr (va_cpy f (fun _ => none) 0 0 n)))))))) : xE (xGG X) 1 m_Ar_copyOf2 0 [(0, .ref a), (1, .int nn), (2, .ref mi)] [] w P := by
  subst hnn
  refine x_aload_n 1 rfl d_Ar_copyOf2_0 rfl ?_
  refine x_ldcM 3 rfl d_Ar_copyOf2_1 q_Ar_110 (fun U H z => (hX U H z).2.2.2.2.2.1) ?_
  refine x_acmp_ne 13 6 rfl d_Ar_copyOf2_3 (by decide) (fun hc => absurd rfl hc) (fun hc => ?_)
  refine x_iload_n 7 rfl d_Ar_copyOf2_6 rfl ?_
  refine x_newq 10 rfl d_Ar_copyOf2_7 q_Ar_2 a_Ob (t0 := 6) rfl (nI_pos (by omega)) (nI_clamp (by omega)) (by omega) ?_
  have k1 : (xnew w m (.inl (X.2.2.2.1 6, m, .inr (.inr (.inr (.inr (fun _ => none))))))).2.2 a = some (.inl (X.2.2.2.1 6, n, .inr (.inr (.inr (.inr f))))) := by rw [xnew_ne _ _ _ (by omega)]; exact ha
  refine x_goto d_Ar_copyOf2_10 24 (by decide) ?_
  refine x_astore_n 25 rfl d_Ar_copyOf2_24 (by decide) ?_
  refine x_aload_n 26 rfl d_Ar_copyOf2_25 rfl ?_
  refine x_iconst 27 rfl d_Ar_copyOf2_26 0 (by decide) ?_
  refine x_aload_n 28 rfl d_Ar_copyOf2_27 rfl ?_
  refine x_iconst 29 rfl d_Ar_copyOf2_28 0 (by decide) ?_
  refine x_aload_n 30 rfl d_Ar_copyOf2_29 rfl ?_
  refine x_alen 31 rfl d_Ar_copyOf2_30 k1 (t0 := 6) rfl rfl ?_
  refine x_iload_n 32 rfl d_Ar_copyOf2_31 rfl ?_
  refine y_call 35 rfl [_, _] _ rfl d_Ar_copyOf2_32 c_Ar_304 rfl (Nat.le_of_ble_eq_true rfl) (Nat.le_of_ble_eq_true rfl) (Nat.le_of_ble_eq_true rfl) (s_Ma_min ?_)
  have e : (if nI m < Int32.ofNat n then nI m else Int32.ofNat n) = nI n := by
    show (if nI m < nI n then nI m else nI n) = nI n
    rw [if_neg (nI_nlt hnm (by omega))]
  rw [e]
  have en : (nI n).toNatClampNeg = n := nI_clamp (by omega)
  refine x_copyq 38 rfl d_Ar_copyOf2_35 (xi2 187 rfl rfl) (xi2 189 rfl rfl) (xi2 188 rfl rfl) z_Sy k1 (xnew_at _ _ _) (t0 := 6) (t1 := 6) rfl rfl (by decide) (by decide) (nI_pos (by omega)) (by rw [en, sb_cl0]; omega) (by rw [en, sb_cl0]; omega) (fun i hi y hy => ?_) (Nat.le_of_ble_eq_true rfl) (by decide) ?_
  · rw [en] at hi
    rw [sb_cl0, Nat.zero_add] at hy
    obtain ⟨mm, fs, q1, q2, q3⟩ := hel i (by omega)
    cases hy.symm.trans q2
    refine ⟨3, fs, _, ?_, rfl, b_Ms_Ob⟩
    rw [xnew_ne _ _ _ (by have := hwf _ _ q3; omega)]
    exact q3
  rw [en, sb_cl0]
  refine x_aload_n 39 rfl d_Ar_copyOf2_38 rfl ?_
  refine x_aret d_Ar_copyOf2_39 rfl (by first | exact Or.inl ⟨_, rfl⟩ | exact Or.inr ⟨_, rfl⟩) ?_
  exact h
theorem s_Ar_copyOf (hX : xS X sb L xs tI tE mi) {a n m : Nat} {nn : Int32} {f : Nat → Option Nat} {as : List Nat} (hnn : nn = nI m) (ha : w.2.2 a = some (.inl (X.2.2.2.1 6, n, .inr (.inr (.inr (.inr f)))))) (hel : rEl w f as) (hasn : as.length = n) (hlt : a < w.1) (hnm : n ≤ m) (hm : m < 2 ^ 26) (hwf : ∀ q e, w.2.2 q = some e → q < w.1) (h : P (some (.ref w.1)) (xset (xnew w m (.inl (X.2.2.2.1 6, m, .inr (.inr (.inr (.inr (fun _ => none))))))) w.1 (.inl (X.2.2.2.1 6, m, .inr (.inr (.inr (.inr (va_cpy f (fun _ => none) 0 0 n)))))))) : xE (xGG X) 2 m_Ar_copyOf 0 [(0, .ref a), (1, .int nn)] [] w P := by
  subst hnn
  refine x_aload_n 1 rfl d_Ar_copyOf_0 rfl ?_
  refine x_iload_n 2 rfl d_Ar_copyOf_1 rfl ?_
  refine x_aload_n 3 rfl d_Ar_copyOf_2 rfl ?_
  refine x_getC 6 rfl d_Ar_copyOf_3 (xi2 163 rfl rfl) (xi5 29 rfl rfl) (xi2 164 rfl rfl) (xi2 177 rfl rfl) (fun U H z => ⟨(hX U H z).2.2.2.2.2.1, (hX U H z).2.2.2.2.2.2.1⟩) ha (t0 := 6) rfl (Nat.le_of_ble_eq_true rfl) (by decide) ?_
  refine y_call 9 rfl [_, _, _] _ rfl d_Ar_copyOf_6 c_Ar_300 rfl (Nat.le_of_ble_eq_true rfl) (Nat.le_of_ble_eq_true rfl) (Nat.le_of_ble_eq_true rfl) (s_Ar_copyOf2 hX rfl ha hel hasn hlt hnm hm hwf ?_)
  refine x_aret d_Ar_copyOf_9 rfl (by first | exact Or.inl ⟨_, rfl⟩ | exact Or.inr ⟨_, rfl⟩) ?_
  exact h
/-- how many places a full list of n gets -/
def cGr (n : Nat) : Nat := if n = 0 then 10 else n + n / 2
theorem s_Al_grow2 (hX : xS X sb L xs tI tE mi) {a ed n : Nat} {nn : Int32} {as : List Nat} (hnn : nn = nI (n + 1)) (hR : rAl X tE w a ed n as) (hasn : as.length = n) (hn : n < 2 ^ 25) (hwf : ∀ q e, w.2.2 q = some e → q < w.1) (h : ∀ (w' : xW) (f : Nat → Option Nat), w'.1 = w.1 + 1 → w'.2.1 = w.2.1 + cGr n → (∃ mc, w'.2.2 a = some (.inr (10, [.ref w.1, .int (nI as.length), .int mc]))) → w'.2.2 w.1 = some (.inl (X.2.2.2.1 6, cGr n, .inr (.inr (.inr (.inr f))))) → rEl w' f as → (∀ q, q ≠ a → q ≠ w.1 → w'.2.2 q = w.2.2 q) → P (some (.ref w.1)) w') : xE (xGG X) 3 m_Al_grow2 0 [(0, .ref a), (1, .int nn)] [] w P := by
  subst hnn
  obtain ⟨⟨mc, g1⟩, g2, g3⟩ := hR
  have hal := hwf _ _ g1
  rcases g3 with ⟨rfl, rfl⟩ | ⟨hn2, f, g4, g5⟩
  · refine x_aload_n 1 rfl d_Al_grow2_0 rfl ?_
    refine x_get 4 rfl f_Al_9 d_Al_grow2_1 g1 rfl ?_
    refine x_lenT 5 rfl d_Al_grow2_4 (fun U H z => (hX U H z).2.2.2.2.1) ?_
    refine x_istore_n 6 rfl d_Al_grow2_5 (by decide) ?_
    refine x_iload_n 7 rfl d_Al_grow2_6 rfl ?_
    refine x_if_gt 20 10 rfl d_Al_grow2_7 (by decide) (fun hc => absurd hc (by decide)) (fun hc => ?_)
    refine x_aload_n 11 rfl d_Al_grow2_10 rfl ?_
    refine x_get 14 rfl f_Al_9 d_Al_grow2_11 g1 rfl ?_
    refine x_gets 17 rfl d_Al_grow2_14 f_emp (fun U H z => (hX U H z).2.2.2.1) ?_
    refine x_acmp_eq 45 20 rfl d_Al_grow2_17 (by decide) (fun hc => ?_) (fun hc => absurd rfl hc)
    refine x_aload_n 46 rfl d_Al_grow2_45 rfl ?_
    refine x_bipush 48 rfl d_Al_grow2_46 10 (by decide) ?_
    refine x_iload_n 49 rfl d_Al_grow2_48 rfl ?_
    refine y_call 52 rfl [_, _] _ rfl d_Al_grow2_49 c_Al_79 rfl (Nat.le_of_ble_eq_true rfl) (Nat.le_of_ble_eq_true rfl) (Nat.le_of_ble_eq_true rfl) (s_Ma_max ?_)
    refine x_newq 55 rfl d_Al_grow2_52 q_Al_7 a_Ob (t0 := 6) (N' := 10) rfl (by decide) (by decide) (by decide) ?_
    have k1 : (xnew w 10 (.inl (X.2.2.2.1 6, 10, .inr (.inr (.inr (.inr (fun _ => none))))))).2.2 a = some (.inr (10, [.ref ed, .int (nI as.length), .int mc])) := by rw [xnew_ne _ _ _ (by omega)]; exact g1
    refine x_dup_x1 56 rfl d_Al_grow2_55 rfl rfl ?_
    refine x_put 59 rfl p_Al_9 (fun _ => by first | rfl | contradiction) d_Al_grow2_56 k1 rfl rfl (Nat.le_of_ble_eq_true rfl) ?_
    refine x_aret d_Al_grow2_59 rfl (by first | exact Or.inl ⟨_, rfl⟩ | exact Or.inr ⟨_, rfl⟩) ?_
    refine h _ (fun _ => none) rfl rfl ⟨mc, xset_at _ _ _⟩ ?_ (fun j hj => by omega) (fun q h1 h2 => ?_)
    · rw [xset_ne _ _ (by omega), xnew_at]; rfl
    · rw [xset_ne _ _ h1, xnew_ne _ _ _ h2]
  · have hel := hwf _ _ g4
    have hne : a ≠ ed := fun z => by rw [z, g4] at g1; cases g1
    refine x_aload_n 1 rfl d_Al_grow2_0 rfl ?_
    refine x_get 4 rfl f_Al_9 d_Al_grow2_1 g1 rfl ?_
    refine x_alen 5 rfl d_Al_grow2_4 g4 (t0 := 6) rfl rfl ?_
    refine x_istore_n 6 rfl d_Al_grow2_5 (by decide) ?_
    refine x_iload_n 7 rfl d_Al_grow2_6 rfl ?_
    refine x_if_gt 20 10 rfl d_Al_grow2_7 (by decide) (fun hc => ?_) (fun hc => absurd (show nI 0 < nI n from nI_lt (by omega) (by omega)) hc)
    have e1 : nI (n + 1) - Int32.ofNat n = nI 1 := by
      have := pk_sub (a := n + 1) (b := n) (by omega)
      rw [Nat.add_sub_cancel_left] at this
      exact this
    have e2 : Int32.ofNat n >>> ((1 : Int32) &&& 31) = nI (n / 2) := by
      have := pk_shrN (n := n) (by omega) ((1 : Int32) &&& 31) 1 (by decide)
      rw [Nat.pow_one] at this
      exact this
    refine x_iload_n 21 rfl d_Al_grow2_20 rfl ?_
    refine x_iload_n 22 rfl d_Al_grow2_21 rfl ?_
    refine x_iload_n 23 rfl d_Al_grow2_22 rfl ?_
    refine x_isub 24 rfl d_Al_grow2_23 ?_
    refine x_iload_n 25 rfl d_Al_grow2_24 rfl ?_
    refine x_iconst 26 rfl d_Al_grow2_25 1 (by decide) ?_
    refine x_ishr 27 rfl d_Al_grow2_26 ?_
    rw [e1, e2]
    refine y_call 30 rfl [_, _, _] _ rfl d_Al_grow2_27 c_Al_73 rfl (Nat.le_of_ble_eq_true rfl) (Nat.le_of_ble_eq_true rfl) (Nat.le_of_ble_eq_true rfl) (s_As_newLength rfl rfl rfl (by omega) (by omega) (by omega) (by omega) ?_)
    rw [show n + max 1 (n / 2) = n + n / 2 by omega]
    refine x_istore_n 31 rfl d_Al_grow2_30 (by decide) ?_
    refine x_aload_n 32 rfl d_Al_grow2_31 rfl ?_
    refine x_aload_n 33 rfl d_Al_grow2_32 rfl ?_
    refine x_get 36 rfl f_Al_9 d_Al_grow2_33 g1 rfl ?_
    refine x_iload_n 37 rfl d_Al_grow2_36 rfl ?_
    refine y_call 40 rfl [_, _] _ rfl d_Al_grow2_37 c_Al_66 rfl (Nat.le_of_ble_eq_true rfl) (Nat.le_of_ble_eq_true rfl) (Nat.le_of_ble_eq_true rfl) (s_Ar_copyOf hX rfl g4 g5 hasn hel (by omega) (by omega) hwf ?_)
    have hcg : cGr n = n + n / 2 := if_neg (by omega)
    generalize hw2 : xset (xnew w (n + n / 2) (.inl (X.2.2.2.1 6, n + n / 2, .inr (.inr (.inr (.inr (fun _ => none))))))) w.1 (.inl (X.2.2.2.1 6, n + n / 2, .inr (.inr (.inr (.inr (va_cpy f (fun _ => none) 0 0 n)))))) = w2
    have q1 : w2.1 = w.1 + 1 := by rw [← hw2]; rfl
    have q2 : w2.2.1 = w.2.1 + (n + n / 2) := by rw [← hw2]; rfl
    have q3 : w2.2.2 w.1 = some (.inl (X.2.2.2.1 6, n + n / 2, .inr (.inr (.inr (.inr (va_cpy f (fun _ => none) 0 0 n)))))) := by rw [← hw2, xset_at]
    have q4 : ∀ q, q ≠ w.1 → w2.2.2 q = w.2.2 q := fun q hq => by rw [← hw2, xset_ne _ _ hq, xnew_ne _ _ _ hq]
    have k1 : w2.2.2 a = some (.inr (10, [.ref ed, .int (nI as.length), .int mc])) := by rw [q4 a (by omega)]; exact g1
    refine x_dup_x1 41 rfl d_Al_grow2_40 rfl rfl ?_
    refine x_put 44 rfl p_Al_9 (fun _ => by first | rfl | contradiction) d_Al_grow2_41 k1 rfl rfl (Nat.le_of_ble_eq_true rfl) ?_
    refine x_aret d_Al_grow2_44 rfl (by first | exact Or.inl ⟨_, rfl⟩ | exact Or.inr ⟨_, rfl⟩) ?_
    refine h _ (va_cpy f (fun _ => none) 0 0 n) (by rw [xset_1, q1]) (by rw [xset_2, q2, hcg]) ⟨mc, xset_at _ _ _⟩ (by rw [xset_ne _ _ (by omega), q3, hcg]) (fun j hj => ?_) (fun q h1 h2 => by rw [xset_ne _ _ h1, q4 q h2])
    obtain ⟨m, fs, r1, r2, r3⟩ := g5 j hj
    have hml := hwf _ _ r3
    refine ⟨m, fs, r1, (pk_cpy_in (by omega) (by omega)).trans (by simpa using r2), ?_⟩
    rw [xset_ne _ _ (fun z => by rw [z, g1] at r3; cases r3), q4 m (by omega)]
    exact r3
theorem s_Al_grow (hX : xS X sb L xs tI tE mi) {a ed n : Nat} {as : List Nat} (hR : rAl X tE w a ed n as) (hasn : as.length = n) (hn : n < 2 ^ 25) (hwf : ∀ q e, w.2.2 q = some e → q < w.1) (h : ∀ (w' : xW) (f : Nat → Option Nat), w'.1 = w.1 + 1 → w'.2.1 = w.2.1 + cGr n → (∃ mc, w'.2.2 a = some (.inr (10, [.ref w.1, .int (nI as.length), .int mc]))) → w'.2.2 w.1 = some (.inl (X.2.2.2.1 6, cGr n, .inr (.inr (.inr (.inr f))))) → rEl w' f as → (∀ q, q ≠ a → q ≠ w.1 → w'.2.2 q = w.2.2 q) → P (some (.ref w.1)) w') : xE (xGG X) 4 m_Al_grow 0 [(0, .ref a)] [] w P := by
  obtain ⟨mc, g1⟩ := hR.1
  refine x_aload_n 1 rfl d_Al_grow_0 rfl ?_
  refine x_aload_n 2 rfl d_Al_grow_1 rfl ?_
  refine x_get 5 rfl f_Al_48 d_Al_grow_2 g1 rfl ?_
  refine x_iconst 6 rfl d_Al_grow_5 1 (by decide) ?_
  refine x_iadd 7 rfl d_Al_grow_6 ?_
  rw [hasn, nI_1]
  refine y_callV 10 rfl [_] _ rfl d_Al_grow_7 g1 rfl c_Al_69 rfl (Nat.le_of_ble_eq_true rfl) (Nat.le_of_ble_eq_true rfl) (Nat.le_of_ble_eq_true rfl) (s_Al_grow2 hX rfl hR hasn hn hwf (fun w' f h1 h2 h3 h4 h5 h6 => ?_))
  refine x_aret d_Al_grow_10 rfl (by first | exact Or.inl ⟨_, rfl⟩ | exact Or.inr ⟨_, rfl⟩) ?_
  exact h w' f h1 h2 h3 h4 h5 h6
/-- what adding an element to a full list, or to one that has room, makes of the world -/
def rAdd (w w' : xW) (a ed cap n ed' cap' : Nat) : Prop := (∀ q, q ≠ a → q ≠ ed' → w'.2.2 q = w.2.2 q) ∧ ((w'.1 = w.1 ∧ w'.2.1 = w.2.1 ∧ ed' = ed ∧ cap' = cap ∧ n < cap) ∨ (w'.1 = w.1 + 1 ∧ w'.2.1 = w.2.1 + cap' ∧ ed' = w.1 ∧ n = cap ∧ cap' = cGr n)) ∧ ∀ q e, w'.2.2 q = some e → q < w'.1
theorem s_Al_add2 (hX : xS X sb L xs tI tE mi) {a ed cap m : Nat} {nn : Int32} {as : List Nat} {fs : List Value} (hR : rAl X tE w a ed cap as) (hnn : nn = nI as.length) (hn : as.length < 2 ^ 25) (hcap : cap < 2 ^ 26) (hm : w.2.2 m = some (.inr (3, fs))) (hwf : ∀ q e, w.2.2 q = some e → q < w.1) (h : ∀ (w' : xW) (ed' cap' : Nat), rAl X tE w' a ed' cap' (as ++ [m]) → rAdd w w' a ed cap as.length ed' cap' → P none w') : xE (xGG X) 5 m_Al_add2 0 [(0, .ref a), (1, .ref m), (2, .ref ed), (3, .int nn)] [] w P := by
  subst hnn
  have hR0 := hR
  obtain ⟨⟨mc, g1⟩, g2, g3⟩ := hR
  have hal := hwf _ _ g1
  have hml := hwf _ _ hm
  have fin : ∀ (w1 : xW) (ed1 cap1 : Nat) (mc1 : Int32) (f1 : Nat → Option Nat), w1.2.2 a = some (.inr (10, [.ref ed1, .int (nI as.length), .int mc1])) → w1.2.2 ed1 = some (.inl (X.2.2.2.1 6, cap1, .inr (.inr (.inr (.inr f1))))) → rEl w1 f1 as → as.length < cap1 → cap1 < 2 ^ 27 → w1.2.2 m = some (.inr (3, fs)) → (∀ q e, w1.2.2 q = some e → q < w1.1) → (∀ q, q ≠ a → q ≠ ed1 → w1.2.2 q = w.2.2 q) → ((w1.1 = w.1 ∧ w1.2.1 = w.2.1 ∧ ed1 = ed ∧ cap1 = cap ∧ as.length < cap) ∨ (w1.1 = w.1 + 1 ∧ w1.2.1 = w.2.1 + cap1 ∧ ed1 = w.1 ∧ as.length = cap ∧ cap1 = cGr as.length)) → 2 ≤ cap1 → xE (xGG X) 5 m_Al_add2 11 [(0, .ref a), (1, .ref m), (2, .ref ed1), (3, .int (nI as.length))] [] w1 P := by
    intro w1 ed1 cap1 mc1 f1 k1 k2 k3 k4 k5 k6 k7 k8 k9 k10
    have hne : a ≠ ed1 := fun z => by rw [z, k2] at k1; cases k1
    have hme : m ≠ ed1 := fun z => by rw [z, k2] at k6; cases k6
    have hma : m ≠ a := fun z => by rw [z, k1] at k6; cases k6
    refine x_aload_n 12 rfl d_Al_add2_11 rfl ?_
    refine x_iload_n 13 rfl d_Al_add2_12 rfl ?_
    refine x_aload_n 14 rfl d_Al_add2_13 rfl ?_
    refine x_aast 15 rfl d_Al_add2_14 k2 (t0 := 6) rfl k6 rfl (Or.inr b_Ms_Ob) (vp_in_nI k4 (by omega)) ?_
    rw [nI_clamp (by omega)]
    have k1' : (xset w1 ed1 (.inl (X.2.2.2.1 6, cap1, .inr (.inr (.inr (.inr (va_up f1 as.length (some m)))))))).2.2 a = some (.inr (10, [.ref ed1, .int (nI as.length), .int mc1])) := by rw [xset_ne _ _ hne]; exact k1
    refine x_aload_n 16 rfl d_Al_add2_15 rfl ?_
    refine x_iload_n 17 rfl d_Al_add2_16 rfl ?_
    refine x_iconst 18 rfl d_Al_add2_17 1 (by decide) ?_
    refine x_iadd 19 rfl d_Al_add2_18 ?_
    refine x_put 22 rfl p_Al_48 (fun _ => by first | rfl | contradiction) d_Al_add2_19 k1' rfl rfl (Nat.le_of_ble_eq_true rfl) ?_
    refine x_vret d_Al_add2_22 rfl ?_
    refine h _ ed1 cap1 ⟨⟨mc1, ?_⟩, by rw [List.length_append, List.length_singleton]; omega, Or.inr ⟨k10, va_up f1 as.length (some m), ?_, fun j hj => ?_⟩⟩ ⟨fun q h1 h2 => ?_, k9, fun q e hq => ?_⟩
    · rw [xset_at, List.length_append, List.length_singleton, nI_succ]; rfl
    · rw [xset_ne _ _ (Ne.symm hne), xset_at]
    · by_cases e : j = as.length
      · subst e
        refine ⟨m, fs, by simp, va_up_self _ _ _, ?_⟩
        rw [xset_ne _ _ hma, xset_ne _ _ hme]; exact k6
      · have hj2 : j < as.length := by rw [List.length_append, List.length_singleton] at hj; omega
        obtain ⟨m2, fs2, r1, r2, r3⟩ := k3 j hj2
        refine ⟨m2, fs2, by rw [List.getElem?_append_left hj2]; exact r1, by rw [va_up_ne _ _ e]; exact r2, ?_⟩
        rw [xset_ne _ _ (fun z => by rw [z, k1] at r3; cases r3), xset_ne _ _ (fun z => by rw [z, k2] at r3; cases r3)]
        exact r3
    · rw [xset_ne _ _ h1, xset_ne _ _ h2]
      exact k8 q h1 h2
    · by_cases e1 : q = a
      · subst e1; exact k7 _ _ k1
      · rw [xset_ne _ _ e1] at hq
        by_cases e2 : q = ed1
        · subst e2; exact k7 _ _ k2
        · rw [xset_ne _ _ e2] at hq
          exact k7 _ _ hq
  rcases g3 with ⟨hc0, he0⟩ | ⟨hn2, f, g4, g5⟩
  · have hl0 : as.length = cap := by omega
    have hed : ed < w.1 ∨ w.2.2 ed = none := by
      cases e : w.2.2 ed with
      | none => exact Or.inr rfl
      | some x => exact Or.inl (hwf _ _ e)
    refine x_iload_n 1 rfl d_Al_add2_0 rfl ?_
    refine x_aload_n 2 rfl d_Al_add2_1 rfl ?_
    rw [he0]
    refine x_lenT 3 rfl d_Al_add2_2 (fun U H z => (hX U H z).2.2.2.2.1) ?_
    refine x_icmp_ne 11 6 rfl d_Al_add2_3 (by decide) (fun hc => absurd (by rw [hl0, hc0]) hc) (fun hc => ?_)
    refine x_aload_n 7 rfl d_Al_add2_6 rfl ?_
    refine y_callV 10 rfl [] _ rfl d_Al_add2_7 g1 rfl c_Al_129 rfl (Nat.le_of_ble_eq_true rfl) (Nat.le_of_ble_eq_true rfl) (Nat.le_of_ble_eq_true rfl) (s_Al_grow hX hR0 hl0 (by omega) hwf (fun w' f h1 h2 h3 h4 h5 h6 => ?_))
    refine x_astore_n 11 rfl d_Al_add2_10 (by decide) ?_
    obtain ⟨mc3, h3⟩ := h3
    refine xE.fit (fin w' w.1 (cGr cap) mc3 f h3 h4 h5 ?_ ?_ ?_ ?_ (fun q q1 q2 => h6 q q1 q2) (Or.inr ⟨h1, h2, rfl, hl0, by rw [hl0]⟩) ?_) rfl
    · unfold cGr; split <;> omega
    · unfold cGr; split <;> omega
    · rw [h6 m (fun z => by rw [z, g1] at hm; cases hm) (by omega)]; exact hm
    · intro q e hq
      by_cases e1 : q = a
      · omega
      · by_cases e2 : q = w.1
        · omega
        · rw [h6 q e1 e2] at hq
          have := hwf _ _ hq
          omega
    · unfold cGr; split <;> omega
  · refine x_iload_n 1 rfl d_Al_add2_0 rfl ?_
    refine x_aload_n 2 rfl d_Al_add2_1 rfl ?_
    refine x_alen 3 rfl d_Al_add2_2 g4 (t0 := 6) rfl rfl ?_
    refine x_icmp_ne 11 6 rfl d_Al_add2_3 (by decide) (fun hc => ?_) (fun hc => ?_)
    · have hlt : as.length < cap := by
        by_cases z : as.length = cap
        · exact absurd (by rw [z]; rfl) hc
        · omega
      exact xE.fit (fin w ed cap mc f g1 g4 g5 hlt (by omega) hm hwf (fun _ _ _ => rfl) (Or.inl ⟨rfl, rfl, rfl, rfl, hlt⟩) hn2) rfl
    · have hl0 : as.length = cap := (nI_eq (by omega) (by omega)).mp hc
      refine x_aload_n 7 rfl d_Al_add2_6 rfl ?_
      refine y_callV 10 rfl [] _ rfl d_Al_add2_7 g1 rfl c_Al_129 rfl (Nat.le_of_ble_eq_true rfl) (Nat.le_of_ble_eq_true rfl) (Nat.le_of_ble_eq_true rfl) (s_Al_grow hX hR0 hl0 (by omega) hwf (fun w' f h1 h2 h3 h4 h5 h6 => ?_))
      refine x_astore_n 11 rfl d_Al_add2_10 (by decide) ?_
      obtain ⟨mc3, h3⟩ := h3
      refine xE.fit (fin w' w.1 (cGr cap) mc3 f h3 h4 h5 ?_ ?_ ?_ ?_ (fun q q1 q2 => h6 q q1 q2) (Or.inr ⟨h1, h2, rfl, hl0, by rw [hl0]⟩) ?_) rfl
      · unfold cGr; split <;> omega
      · unfold cGr; split <;> omega
      · rw [h6 m (fun z => by rw [z, g1] at hm; cases hm) (by omega)]; exact hm
      · intro q e hq
        by_cases e1 : q = a
        · omega
        · by_cases e2 : q = w.1
          · omega
          · rw [h6 q e1 e2] at hq
            have := hwf _ _ hq
            omega
      · unfold cGr; split <;> omega
theorem s_Al_add (hX : xS X sb L xs tI tE mi) {a ed cap m : Nat} {as : List Nat} {fs : List Value} (hR : rAl X tE w a ed cap as) (hn : as.length < 2 ^ 25) (hcap : cap < 2 ^ 26) (hm : w.2.2 m = some (.inr (3, fs))) (hwf : ∀ q e, w.2.2 q = some e → q < w.1) (h : ∀ (w' : xW) (ed' cap' : Nat), rAl X tE w' a ed' cap' (as ++ [m]) → rAdd w w' a ed cap as.length ed' cap' → P (some (.int 1)) w') : xE (xGG X) 6 m_Al_add 0 [(0, .ref a), (1, .ref m)] [] w P := by
  obtain ⟨⟨mc, g1⟩, g2, g3⟩ := hR
  have hma : m ≠ a := fun z => by rw [z, g1] at hm; cases hm
  refine x_aload_n 1 rfl d_Al_add_0 rfl ?_
  refine x_dup 2 rfl d_Al_add_1 rfl ?_
  refine x_get 5 rfl f_Al_63 d_Al_add_2 g1 rfl ?_
  refine x_iconst 6 rfl d_Al_add_5 1 (by decide) ?_
  refine x_iadd 7 rfl d_Al_add_6 ?_
  refine x_put 10 rfl p_Al_63 (fun _ => by first | rfl | contradiction) d_Al_add_7 g1 rfl rfl (Nat.le_of_ble_eq_true rfl) ?_
  generalize hw2 : xset w a _ = w2
  have q1 : w2.1 = w.1 := by rw [← hw2]; rfl
  have q2 : w2.2.1 = w.2.1 := by rw [← hw2]; rfl
  have k1 : w2.2.2 a = some (.inr (10, [.ref ed, .int (nI as.length), .int (mc + 1)])) := by rw [← hw2, xset_at]; rfl
  have q4 : ∀ q, q ≠ a → w2.2.2 q = w.2.2 q := fun q hq => by rw [← hw2, xset_ne _ _ hq]
  have hR2 : rAl X tE w2 a ed cap as := by
    refine ⟨⟨_, k1⟩, g2, ?_⟩
    rcases g3 with g3 | ⟨hn2, f, g4, g5⟩
    · exact Or.inl g3
    · refine Or.inr ⟨hn2, f, ?_, g5.kept (fun x fx hx => ?_)⟩
      · rw [q4 ed (fun z => by rw [z, g1] at g4; cases g4)]; exact g4
      · rw [q4 x (fun z => by rw [z, g1] at hx; cases hx)]; exact hx
  refine x_aload_n 11 rfl d_Al_add_10 rfl ?_
  refine x_aload_n 12 rfl d_Al_add_11 rfl ?_
  refine x_aload_n 13 rfl d_Al_add_12 rfl ?_
  refine x_get 16 rfl f_Al_9 d_Al_add_13 k1 rfl ?_
  refine x_aload_n 17 rfl d_Al_add_16 rfl ?_
  refine x_get 20 rfl f_Al_48 d_Al_add_17 k1 rfl ?_
  refine y_callV 23 rfl [_, _, _] _ rfl d_Al_add_20 k1 rfl c_Al_131 rfl (Nat.le_of_ble_eq_true rfl) (Nat.le_of_ble_eq_true rfl) (Nat.le_of_ble_eq_true rfl) (s_Al_add2 hX hR2 rfl hn hcap (by rw [q4 m hma]; exact hm) (fun q e hq => ?_) (fun w' ed' cap' h1 h2 => ?_))
  · rw [q1]
    by_cases e1 : q = a
    · subst e1; exact hwf _ _ g1
    · rw [q4 q e1] at hq; exact hwf _ _ hq
  refine x_iconst 24 rfl d_Al_add_23 1 (by decide) ?_
  refine x_zret d_Al_add_24 rfl (by decide) ?_
  refine h w' ed' cap' h1 ⟨fun q r1 r2 => (h2.1 q r1 r2).trans (q4 q r1), ?_, h2.2.2⟩
  rw [← q1, ← q2]
  exact h2.2.1
theorem s_Al_size {a ed cap : Nat} {as : List Nat} (hR : rAl X tE w a ed cap as) (h : P (some (.int (nI as.length))) w) : xE (xGG X) 0 m_Al_size 0 [(0, .ref a)] [] w P := by
  obtain ⟨mc, g1⟩ := hR.1
  refine x_aload_n 1 rfl d_Al_size_0 rfl ?_
  refine x_get 4 rfl f_Al_48 d_Al_size_1 g1 rfl ?_
  refine x_iret d_Al_size_4 rfl ?_
  exact h
theorem s_Al_fastRemove {a ed cap i : Nat} {ii : Int32} {as : List Nat} {f : Nat → Option Nat} {mc : Int32} (hii : ii = nI i) (g1 : w.2.2 a = some (.inr (10, [.ref ed, .int (nI as.length), .int mc]))) (hcap : as.length ≤ cap) (hc2 : cap < 2 ^ 26) (g4 : w.2.2 ed = some (.inl (X.2.2.2.1 6, cap, .inr (.inr (.inr (.inr f)))))) (g5 : rEl w f as) (hi : i < as.length) (h2 : 2 ≤ cap) (h : ∀ w', rAl X tE w' a ed cap (as.eraseIdx i) → w'.1 = w.1 → w'.2.1 = w.2.1 → (∀ q, q ≠ a → q ≠ ed → w'.2.2 q = w.2.2 q) → P none w') : xE (xGG X) 1 m_Al_fastRemove 0 [(0, .ref a), (1, .ref ed), (2, .int ii)] [] w P := by
  subst hii
  have hne : a ≠ ed := fun z => by rw [z, g4] at g1; cases g1
  have es : nI as.length - 1 = nI (as.length - 1) := by have := pk_sub (a := as.length) (b := 1) (by omega); exact this
  refine x_aload_n 1 rfl d_Al_fastRemove_0 rfl ?_
  refine x_dup 2 rfl d_Al_fastRemove_1 rfl ?_
  refine x_get 5 rfl f_Al_63 d_Al_fastRemove_2 g1 rfl ?_
  refine x_iconst 6 rfl d_Al_fastRemove_5 1 (by decide) ?_
  refine x_iadd 7 rfl d_Al_fastRemove_6 ?_
  refine x_put 10 rfl p_Al_63 (fun _ => by first | rfl | contradiction) d_Al_fastRemove_7 g1 rfl rfl (Nat.le_of_ble_eq_true rfl) ?_
  generalize hw2 : xset w a _ = w2
  have q1 : w2.1 = w.1 := by rw [← hw2]; rfl
  have q2 : w2.2.1 = w.2.1 := by rw [← hw2]; rfl
  have k1 : w2.2.2 a = some (.inr (10, [.ref ed, .int (nI as.length), .int (mc + 1)])) := by rw [← hw2, xset_at]; rfl
  have q4 : ∀ q, q ≠ a → w2.2.2 q = w.2.2 q := fun q hq => by rw [← hw2, xset_ne _ _ hq]
  have k4 : w2.2.2 ed = some (.inl (X.2.2.2.1 6, cap, .inr (.inr (.inr (.inr f))))) := by rw [q4 ed (Ne.symm hne)]; exact g4
  have fin : ∀ (w3 : xW) (f3 : Nat → Option Nat), w3.1 = w.1 → w3.2.1 = w.2.1 → w3.2.2 a = some (.inr (10, [.ref ed, .int (nI as.length), .int (mc + 1)])) → w3.2.2 ed = some (.inl (X.2.2.2.1 6, cap, .inr (.inr (.inr (.inr f3))))) → (∀ q, q ≠ a → q ≠ ed → w3.2.2 q = w.2.2 q) → (∀ j, j < as.length - 1 → f3 j = f (if j < i then j else j + 1)) → xE (xGG X) 1 m_Al_fastRemove 34 [(0, .ref a), (1, .ref ed), (2, .int (nI i)), (3, .int (nI (as.length - 1)))] [] w3 P := by
    intro w3 f3 r1 r2 r3 r4 r5 r6
    refine x_aload_n 35 rfl d_Al_fastRemove_34 rfl ?_
    refine x_aload_n 36 rfl d_Al_fastRemove_35 rfl ?_
    refine x_iload_n 37 rfl d_Al_fastRemove_36 rfl ?_
    refine x_dup_x1 38 rfl d_Al_fastRemove_37 rfl rfl ?_
    refine x_put 41 rfl p_Al_48 (fun _ => by first | rfl | contradiction) d_Al_fastRemove_38 r3 rfl rfl (Nat.le_of_ble_eq_true rfl) ?_
    refine x_null 42 rfl d_Al_fastRemove_41 ?_
    have r4' : (xset w3 a (.inr (10, List.set [.ref ed, .int (nI as.length), .int (mc + 1)] 1 (.int (nI (as.length - 1)))))).2.2 ed = some (.inl (X.2.2.2.1 6, cap, .inr (.inr (.inr (.inr f3))))) := by rw [xset_ne _ _ (Ne.symm hne)]; exact r4
    refine x_aastN 43 rfl d_Al_fastRemove_42 r4' (t0 := 6) rfl (vp_in_nI (by omega) (by omega)) ?_
    rw [nI_clamp (by omega)]
    refine x_vret d_Al_fastRemove_43 rfl ?_
    have hlen : (as.eraseIdx i).length = as.length - 1 := List.length_eraseIdx_of_lt hi
    refine h _ ⟨⟨mc + 1, ?_⟩, by omega, Or.inr ⟨h2, va_up f3 (as.length - 1) none, xset_at _ _ _, fun j hj => ?_⟩⟩ r1 r2 (fun q s1 s2 => ?_)
    · rw [xset_ne _ _ hne, xset_at, hlen]; rfl
    · rw [hlen] at hj
      have hlt : (if j < i then j else j + 1) < as.length := by split <;> omega
      obtain ⟨m, fs, t1, t2, t3⟩ := g5 _ hlt
      refine ⟨m, fs, ?_, ?_, ?_⟩
      · rw [List.getElem?_eraseIdx]
        split
        · rename_i z; rw [if_pos z] at t1; exact t1
        · rename_i z; rw [if_neg z] at t1; exact t1
      · rw [va_up_ne _ _ (by omega), r6 j hj]; exact t2
      · have n1 : m ≠ a := fun z => by rw [z, g1] at t3; cases t3
        have n2 : m ≠ ed := fun z => by rw [z, g4] at t3; cases t3
        rw [xset_ne _ _ n2, xset_ne _ _ n1, r5 m n1 n2]
        exact t3
    · rw [xset_ne _ _ s2, xset_ne _ _ s1]; exact r5 q s1 s2
  refine x_aload_n 11 rfl d_Al_fastRemove_10 rfl ?_
  refine x_get 14 rfl f_Al_48 d_Al_fastRemove_11 k1 rfl ?_
  refine x_iconst 15 rfl d_Al_fastRemove_14 1 (by decide) ?_
  refine x_isub 16 rfl d_Al_fastRemove_15 ?_
  rw [es]
  refine x_dup 17 rfl d_Al_fastRemove_16 rfl ?_
  refine x_istore_n 18 rfl d_Al_fastRemove_17 (by decide) ?_
  refine x_iload_n 19 rfl d_Al_fastRemove_18 rfl ?_
  refine x_icmp_le 34 22 rfl d_Al_fastRemove_19 (by decide) (fun hc => ?_) (fun hc => ?_)
  · have hle := (nI_leI (by omega) (by omega)).mp hc
    refine xE.fit (fin w2 f q1 q2 k1 k4 (fun q s1 _ => q4 q s1) (fun j hj => by rw [if_pos (by omega)])) rfl
  · have hlt : i < as.length - 1 := by
      by_cases z : i < as.length - 1
      · exact z
      · exact absurd (nI_le (by omega) (by omega)) hc
    have e3 : nI (as.length - 1) - nI i = nI (as.length - 1 - i) := pk_sub (by omega)
    refine x_aload_n 23 rfl d_Al_fastRemove_22 rfl ?_
    refine x_iload_n 24 rfl d_Al_fastRemove_23 rfl ?_
    refine x_iconst 25 rfl d_Al_fastRemove_24 1 (by decide) ?_
    refine x_iadd 26 rfl d_Al_fastRemove_25 ?_
    refine x_aload_n 27 rfl d_Al_fastRemove_26 rfl ?_
    refine x_iload_n 28 rfl d_Al_fastRemove_27 rfl ?_
    refine x_iload_n 29 rfl d_Al_fastRemove_28 rfl ?_
    refine x_iload_n 30 rfl d_Al_fastRemove_29 rfl ?_
    refine x_isub 31 rfl d_Al_fastRemove_30 ?_
    rw [nI_1, e3]
    have c1 : (nI (i + 1)).toNatClampNeg = i + 1 := nI_clamp (by omega)
    have c2 : (nI i).toNatClampNeg = i := nI_clamp (by omega)
    have c3 : (nI (as.length - 1 - i)).toNatClampNeg = as.length - 1 - i := nI_clamp (by omega)
    refine x_copyq 34 rfl d_Al_fastRemove_31 (xi3 115 rfl rfl) (xi2 189 rfl rfl) (xi2 188 rfl rfl) z_Sy k4 k4 (t0 := 6) (t1 := 6) rfl rfl (nI_pos (by omega)) (nI_pos (by omega)) (nI_pos (by omega)) (by rw [c1, c3]; omega) (by rw [c2, c3]; omega) (fun j hj y hy => ?_) (Nat.le_of_ble_eq_true rfl) (by decide) ?_
    · rw [c3] at hj
      rw [c1] at hy
      obtain ⟨m, fs, t1, t2, t3⟩ := g5 (i + 1 + j) (by omega)
      cases hy.symm.trans t2
      exact ⟨3, fs, _, by rw [q4 y (fun z => by rw [z, g1] at t3; cases t3)]; exact t3, rfl, b_Ms_Ob⟩
    · rw [c1, c2, c3]
      refine xE.fit (fin _ (va_cpy f f (i + 1) i (as.length - 1 - i)) q1 q2 (by rw [xset_ne _ _ hne]; exact k1) (xset_at _ _ _) (fun q s1 s2 => by rw [xset_ne _ _ s2]; exact q4 q s1) (fun j hj => ?_)) rfl
      by_cases z : j < i
      · rw [if_pos z, pk_cpy_out (Or.inl z)]
      · rw [if_neg z, pk_cpy_in (by omega) (by omega)]
        congr 1
        omega
theorem s_Al_remove (hX : xS X sb L xs tI tE mi) {a ed cap i m : Nat} {ii : Int32} {as : List Nat} (hii : ii = nI i) (hR : rAl X tE w a ed cap as) (hi : as[i]? = some m) (hc2 : cap < 2 ^ 26) (h : ∀ w', rAl X tE w' a ed cap (as.eraseIdx i) → w'.1 = w.1 → w'.2.1 = w.2.1 → (∀ q, q ≠ a → q ≠ ed → w'.2.2 q = w.2.2 q) → P (some (.ref m)) w') : xE (xGG X) 2 m_Al_remove 0 [(0, .ref a), (1, .int ii)] [] w P := by
  subst hii
  obtain ⟨⟨mc, g1⟩, g2, g3⟩ := hR
  have hlt : i < as.length := (List.getElem?_eq_some_iff.mp hi).1
  rcases g3 with ⟨hc0, -⟩ | ⟨hn2, f, g4, g5⟩
  · omega
  obtain ⟨m2, fs, t1, t2, t3⟩ := g5 i hlt
  cases hi.symm.trans t1
  refine x_iload_n 1 rfl d_Al_remove_0 rfl ?_
  refine x_aload_n 2 rfl d_Al_remove_1 rfl ?_
  refine x_get 5 rfl f_Al_48 d_Al_remove_2 g1 rfl ?_
  refine y_call 8 rfl [_, _] _ rfl d_Al_remove_5 c_Al_118 rfl (Nat.le_of_ble_eq_true rfl) (Nat.le_of_ble_eq_true rfl) (Nat.le_of_ble_eq_true rfl) (s_Os_checkIndex (nI_pos' (by omega)) (nI_lt hlt (by omega)) ?_)
  refine x_pop 9 rfl d_Al_remove_8 rfl ?_
  refine x_aload_n 10 rfl d_Al_remove_9 rfl ?_
  refine x_get 13 rfl f_Al_9 d_Al_remove_10 g1 rfl ?_
  refine x_astore_n 14 rfl d_Al_remove_13 (by decide) ?_
  refine x_aload_n 15 rfl d_Al_remove_14 rfl ?_
  refine x_iload_n 16 rfl d_Al_remove_15 rfl ?_
  refine x_aald 17 rfl d_Al_remove_16 g4 (t0 := 6) rfl (vp_in_nI (by omega) (by omega)) (by rw [nI_clamp (by omega)]; exact t2) ?_
  refine x_astore_n 18 rfl d_Al_remove_17 (by decide) ?_
  refine x_aload_n 19 rfl d_Al_remove_18 rfl ?_
  refine x_aload_n 20 rfl d_Al_remove_19 rfl ?_
  refine x_iload_n 21 rfl d_Al_remove_20 rfl ?_
  refine y_callV 24 rfl [_, _] _ rfl d_Al_remove_21 g1 rfl c_Al_144 rfl (Nat.le_of_ble_eq_true rfl) (Nat.le_of_ble_eq_true rfl) (Nat.le_of_ble_eq_true rfl) (s_Al_fastRemove (tE := tE) rfl g1 g2 hc2 g4 g5 hlt hn2 (fun w' h1 h2 h3 h4 => ?_))
  refine x_aload_n 25 rfl d_Al_remove_24 rfl ?_
  refine x_aret d_Al_remove_25 rfl (by first | exact Or.inl ⟨_, rfl⟩ | exact Or.inr ⟨_, rfl⟩) ?_
  exact h w' h1 h2 h3 h4
end AL
end
section
/-! THE NETWORK -/
/-- a message: sender, epoch, instance, kind, a, b -/
abbrev sMg : Type := Nat × Nat × Nat × Nat × Int32 × Int32
def fMs (m : sMg) : List Value := [.int (nI m.1), .int (nI m.2.1), .int (nI m.2.2.1), .int (nI m.2.2.2.1), .int m.2.2.2.2.1, .int m.2.2.2.2.2]
/-- a list that holds these messages -/
def rLs (X : xPar) (tE : Nat) (w : xW) (a ed cap : Nat) (ms : List sMg) : Prop := ∃ as : List Nat, rAl X tE w a ed cap as ∧ as.length = ms.length ∧ ∀ (j m : Nat), as[j]? = some m → ∃ mg, ms[j]? = some mg ∧ w.2.2 m = some (.inr (3, fMs mg))
/-- the network at nb, its cells nb .. nb + 9; the cells from dyn on are made later; mo messages have been made; q: what waits for each node -/
def rNt (X : xPar) (tE nb dyn c0 s0 mo : Nat) (q : Nat → List sMg) (w : xW) : Prop :=
  (∀ x e, w.2.2 x = some e → X.2.1 ≤ x ∧ x < w.1) ∧ nb + 10 ≤ dyn ∧ dyn ≤ w.1 ∧ w.2.2 nb = some (.inr (4, [.ref (nb + 1)])) ∧
  (∃ f : Nat → Option Nat, w.2.2 (nb + 1) = some (.inl (X.2.2.2.1 2, 4, .inr (.inr (.inr (.inr f))))) ∧ ∀ i, i < 4 → f i = some (nb + 2 + 2 * i)) ∧
  (∀ i, i < 4 → w.2.2 (nb + 2 + 2 * i) = some (.inr (2, [.ref (nb + 3 + 2 * i)]))) ∧ X.2.1 ≤ nb ∧
  ∃ ed cap : Nat → Nat, (∀ i, i < 4 → rLs X tE w (nb + 3 + 2 * i) (ed i) (cap i) (q i)) ∧ (∀ i, i < 4 → (ed i < X.2.1 ∧ cap i = 0) ∨ (dyn ≤ ed i ∧ ed i < w.1)) ∧ (∀ i j, i < 4 → j < 4 → i ≠ j → ed i = ed j → cap i = 0 ∧ cap j = 0) ∧
    (∀ i, i < 4 → (q i).length ≤ mo ∧ cap i ≤ 10 + 2 * mo) ∧ w.1 ≤ c0 + mo + (cap 0 + cap 1 + cap 2 + cap 3) ∧ w.2.1 ≤ s0 + 6 * mo + 4 * (cap 0 + cap 1 + cap 2 + cap 3)
/-- what a sending or a taking out leaves -/
def frN (X : xPar) (nb dyn : Nat) (w w' : xW) : Prop := (∀ x, X.2.1 ≤ x → x < dyn → (∀ i, i < 4 → x ≠ nb + 3 + 2 * i) → w'.2.2 x = w.2.2 x) ∧ (∀ m fs, w.2.2 m = some (.inr (3, fs)) → w'.2.2 m = some (.inr (3, fs)))
theorem frN.rf (X : xPar) (nb dyn : Nat) (w : xW) : frN X nb dyn w w := ⟨fun _ _ _ _ => rfl, fun _ _ h => h⟩
theorem frN.tr {X : xPar} {nb dyn : Nat} {w w' w'' : xW} (h : frN X nb dyn w w') (h2 : frN X nb dyn w' w'') : frN X nb dyn w w'' := ⟨fun x a b c => (h2.1 x a b c).trans (h.1 x a b c), fun m fs z => h2.2 m fs (h.2 m fs z)⟩
theorem rLs.kept {X : xPar} {tE : Nat} {w w' : xW} {a ed cap : Nat} {ms : List sMg} (h : rLs X tE w a ed cap ms) (ha : w'.2.2 a = w.2.2 a) (he : cap ≠ 0 → w'.2.2 ed = w.2.2 ed) (hm : ∀ m fs, w.2.2 m = some (.inr (3, fs)) → w'.2.2 m = some (.inr (3, fs))) : rLs X tE w' a ed cap ms := by
  obtain ⟨as, ⟨⟨mc, h1⟩, h2, h3⟩, h4, h5⟩ := h
  refine ⟨as, ⟨⟨mc, ha.trans h1⟩, h2, ?_⟩, h4, fun j m hj => ?_⟩
  · rcases h3 with h3 | ⟨g1, f, g2, g3⟩
    · exact Or.inl h3
    · exact Or.inr ⟨g1, f, (he (by omega)).trans g2, g3.kept hm⟩
  · obtain ⟨mg, g1, g2⟩ := h5 j m hj
    exact ⟨mg, g1, hm m _ g2⟩
/-- a new message, made and filled -/
theorem rNt.msg {X : xPar} {tE nb dyn c0 s0 mo : Nat} {q : Nat → List sMg} {w w' : xW} (h : rNt X tE nb dyn c0 s0 mo q w) (h1 : w'.1 = w.1 + 1) (h2 : w'.2.1 = w.2.1 + 6) (hk : ∀ x, x ≠ w.1 → w'.2.2 x = w.2.2 x) : rNt X tE nb dyn c0 s0 (mo + 1) q w' := by
  obtain ⟨g1, g2, g3, g4, ⟨f, g5, g6⟩, g7, g8, ed, cap, k1, k2, k3, k4, k5, k6⟩ := h
  have hm : ∀ m fs, w.2.2 m = some (.inr (3, fs)) → w'.2.2 m = some (.inr (3, fs)) := fun m fs z => by rw [hk m (by have := (g1 _ _ z).2; omega)]; exact z
  refine ⟨fun x e hx => ?_, g2, by omega, by rw [hk _ (by omega)]; exact g4, ⟨f, by rw [hk _ (by omega)]; exact g5, g6⟩, fun i hi => by rw [hk _ (by omega)]; exact g7 i hi, g8, ed, cap, fun i hi => (k1 i hi).kept (hk _ (by omega)) (fun hc => hk _ (by have := k2 i hi; omega)) hm, fun i hi => by have := k2 i hi; omega, k3, fun i hi => by have := k4 i hi; omega, by omega, by omega⟩
  by_cases e1 : x = w.1
  · omega
  · rw [hk x e1] at hx; have := g1 _ _ hx; omega
/-- cells elsewhere are written -/
theorem rNt.kept {X : xPar} {tE nb dyn c0 s0 mo : Nat} {q : Nat → List sMg} {w w' : xW} (h : rNt X tE nb dyn c0 s0 mo q w) (h1 : w'.1 = w.1) (h2 : w'.2.1 = w.2.1) (hd : ∀ x, w.2.2 x = none → w'.2.2 x = none) (hn : ∀ x, nb ≤ x → x < nb + 10 → w'.2.2 x = w.2.2 x) (hk : ∀ x, dyn ≤ x → w'.2.2 x = w.2.2 x) (hms : ∀ m fs, w.2.2 m = some (.inr (3, fs)) → w'.2.2 m = some (.inr (3, fs))) : rNt X tE nb dyn c0 s0 mo q w' := by
  obtain ⟨g1, g2, g3, g4, ⟨f, g5, g6⟩, g7, g8, ed, cap, k1, k2, k3, k4, k5, k6⟩ := h
  refine ⟨fun x e hx => ?_, g2, by omega, by rw [hn _ (by omega) (by omega)]; exact g4, ⟨f, by rw [hn _ (by omega) (by omega)]; exact g5, g6⟩, fun i hi => by rw [hn _ (by omega) (by omega)]; exact g7 i hi, g8, ed, cap, fun i hi => (k1 i hi).kept (hn _ (by omega) (by omega)) (fun hc => hk _ (by have := k2 i hi; omega)) hms, fun i hi => by have := k2 i hi; omega, k3, k4, by omega, by omega⟩
  rw [h1]
  cases e1 : w.2.2 x with
  | none => rw [hd x e1] at hx; cases hx
  | some z => exact g1 x z e1
section NT
variable {X : xPar} {sb L : Nat} {xs : Nat → Int32} {tI tE mi nb dyn c0 s0 mo : Nat} {q : Nat → List sMg} {w : xW} {P : Option Value → xW → Prop}
theorem s_Ms_init {a : Nat} {v1 v2 v3 v4 v5 v6 : Int32} {mg : sMg} {fs : List Value} (hfs : fs = [.int 0, .int 0, .int 0, .int 0, .int 0, .int 0]) (ha : w.2.2 a = some (.inr (3, fs))) (e : fMs mg = [.int v1, .int v2, .int v3, .int v4, .int v5, .int v6]) (h : ∀ w', w'.1 = w.1 → w'.2.1 = w.2.1 → w'.2.2 a = some (.inr (3, fMs mg)) → (∀ x, x ≠ a → w'.2.2 x = w.2.2 x) → P none w') : xE (xGG X) 1 m_Ms_init 0 [(0, .ref a), (1, .int v1), (2, .int v2), (3, .int v3), (4, .int v4), (5, .int v5), (6, .int v6)] [] w P := by
  subst hfs
  refine x_aload_n 1 rfl d_Ms_init_0 rfl ?_
  refine x_objInit 4 rfl d_Ms_init_1 o_Ms_1 o_inst o_code (Nat.le_of_ble_eq_true rfl) (by decide) ?_
  refine x_aload_n 5 rfl d_Ms_init_4 rfl ?_
  refine x_iload_n 6 rfl d_Ms_init_5 rfl ?_
  refine x_put 9 rfl p_Ms_7 (fun _ => by first | rfl | contradiction) d_Ms_init_6 ha rfl rfl (Nat.le_of_ble_eq_true rfl) ?_
  refine x_aload_n 10 rfl d_Ms_init_9 rfl ?_
  refine x_iload_n 11 rfl d_Ms_init_10 rfl ?_
  refine x_put 14 rfl p_Ms_13 (fun _ => by first | rfl | contradiction) d_Ms_init_11 (xset_at _ _ _) rfl rfl (Nat.le_of_ble_eq_true rfl) ?_
  refine x_aload_n 15 rfl d_Ms_init_14 rfl ?_
  refine x_iload_n 16 rfl d_Ms_init_15 rfl ?_
  refine x_put 19 rfl p_Ms_16 (fun _ => by first | rfl | contradiction) d_Ms_init_16 (xset_at _ _ _) rfl rfl (Nat.le_of_ble_eq_true rfl) ?_
  refine x_aload_n 20 rfl d_Ms_init_19 rfl ?_
  refine x_iload 22 rfl d_Ms_init_20 rfl ?_
  refine x_put 25 rfl p_Ms_19 (fun _ => by first | rfl | contradiction) d_Ms_init_22 (xset_at _ _ _) rfl rfl (Nat.le_of_ble_eq_true rfl) ?_
  refine x_aload_n 26 rfl d_Ms_init_25 rfl ?_
  refine x_iload 28 rfl d_Ms_init_26 rfl ?_
  refine x_put 31 rfl p_Ms_22 (fun _ => by first | rfl | contradiction) d_Ms_init_28 (xset_at _ _ _) rfl rfl (Nat.le_of_ble_eq_true rfl) ?_
  refine x_aload_n 32 rfl d_Ms_init_31 rfl ?_
  refine x_iload 34 rfl d_Ms_init_32 rfl ?_
  refine x_put 37 rfl p_Ms_25 (fun _ => by first | rfl | contradiction) d_Ms_init_34 (xset_at _ _ _) rfl rfl (Nat.le_of_ble_eq_true rfl) ?_
  refine x_vret d_Ms_init_37 rfl ?_
  refine h _ rfl rfl ?_ (fun x hx => ?_)
  · rw [xset_at, e]; rfl
  · rw [xset_ne _ _ hx, xset_ne _ _ hx, xset_ne _ _ hx, xset_ne _ _ hx, xset_ne _ _ hx, xset_ne _ _ hx]
/-- adding a message to inbox i -/
theorem s_Nt_addTo (hX : xS X sb L xs tI tE mi) {i m : Nat} {mg : sMg} (hi : i < 4) (hmo : mo < 100000) (hR : rNt X tE nb dyn c0 s0 mo q w) (hm : w.2.2 m = some (.inr (3, fMs mg))) (hql : (q i).length < mo) (h : ∀ w', rNt X tE nb dyn c0 s0 mo (va_up q i (q i ++ [mg])) w' → frN X nb dyn w w' → P (some (.int 1)) w') : xE (xGG X) 6 m_Al_add 0 [(0, .ref (nb + 3 + 2 * i)), (1, .ref m)] [] w P := by
  obtain ⟨g1, g2, g3, g4, ⟨f, g5, g6⟩, g7, g8, ed, cap, k1, k2, k3, k4, k5, k6⟩ := hR
  obtain ⟨as, r1, r2, r3⟩ := k1 i hi
  have hk4 := k4 i hi
  have hk2 := k2 i hi
  refine s_Al_add hX r1 (by omega) (by omega) hm (fun x e hx => (g1 x e hx).2) (fun w' ed' cap' h1 h2 => ?_)
  obtain ⟨h2a, h2b, h2c⟩ := h2
  obtain ⟨mc, e1⟩ := r1.1
  have hcap : cap i = 0 ∨ 2 ≤ cap i := by
    rcases r1.2.2 with z | z
    · exact Or.inl z.1
    · exact Or.inr z.1
  have hed : dyn ≤ ed' := by
    rcases h2b with z | z
    · rw [z.2.2.1]; omega
    · rw [z.2.2.1]; exact g3
  have hgr : cGr as.length ≤ 10 + 2 * as.length ∧ (as.length = cap i → cap i + 1 ≤ cGr as.length ∧ 4 * cap i ≤ 3 * cGr as.length) := by
    unfold cGr
    split
    · omega
    · omega
  have ham : ∀ x fs, w.2.2 x = some (.inr (3, fs)) → w'.2.2 x = some (.inr (3, fs)) := by
    intro x fs hx
    have n1 : x ≠ nb + 3 + 2 * i := fun z => by rw [z, e1] at hx; cases hx
    have n2 : x ≠ ed' := fun z => by
      have hxl := (g1 _ _ hx).2
      rcases h2b with y | y
      · rcases r1.2.2 with ⟨hc, -⟩ | ⟨-, f2, e2, -⟩
        · omega
        · rw [z, y.2.2.1, e2] at hx; cases hx
      · omega
    rw [h2a x n1 n2]; exact hx
  have hw1 : w.1 ≤ w'.1 ∧ w'.1 ≤ w.1 + 1 := by omega
  refine h w' ⟨fun x e hx => ⟨?_, h2c x e hx⟩, g2, by omega, by rw [h2a _ (by omega) (by omega)]; exact g4, ⟨f, by rw [h2a _ (by omega) (by omega)]; exact g5, g6⟩, fun j hj => by rw [h2a _ (by omega) (by omega)]; exact g7 j hj, g8, va_up ed i ed', va_up cap i cap', fun j hj => ?_, fun j hj => ?_, fun j l hj hl hne => ?_, fun j hj => ?_, ?_, ?_⟩ ⟨fun x x1 x2 x3 => h2a x (x3 i hi) (by omega), ham⟩
  · by_cases n1 : x = nb + 3 + 2 * i
    · omega
    · by_cases n2 : x = ed'
      · omega
      · rw [h2a x n1 n2] at hx; exact (g1 x e hx).1
  · by_cases hji : j = i
    · subst hji
      rw [va_up_self, va_up_self, va_up_self]
      refine ⟨as ++ [m], h1, by simp [r2], fun l x hx => ?_⟩
      by_cases hl : l < as.length
      · rw [List.getElem?_append_left hl] at hx
        obtain ⟨mg2, t1, t2⟩ := r3 l x hx
        exact ⟨mg2, by rw [List.getElem?_append_left (by omega)]; exact t1, ham _ _ t2⟩
      · have hl2 : l = as.length := by
          have := (List.getElem?_eq_some_iff.mp hx).1
          rw [List.length_append, List.length_singleton] at this
          omega
        subst hl2
        have hxm : x = m := by simpa using hx.symm
        subst hxm
        exact ⟨mg, by rw [r2]; simp, ham _ _ hm⟩
    · rw [va_up_ne _ _ hji, va_up_ne _ _ hji, va_up_ne _ _ hji]
      have hj2 := k2 j hj
      refine (k1 j hj).kept (h2a _ (by omega) (by omega)) (fun hc => h2a _ (by omega) (fun z => ?_)) ham
      rcases h2b with y | y
      · have := k3 j i hj hi hji (by omega); omega
      · omega
  · by_cases hji : j = i
    · subst hji
      rw [va_up_self, va_up_self]
      omega
    · rw [va_up_ne _ _ hji, va_up_ne _ _ hji]
      have := k2 j hj
      omega
  · intro he
    by_cases hji : j = i
    · subst hji
      rw [va_up_self, va_up_ne _ _ (Ne.symm hne)] at he
      have hl2 := k2 l hl
      rcases h2b with y | y
      · have := k3 j l hj hl hne (by omega); omega
      · omega
    · by_cases hli : l = i
      · subst hli
        rw [va_up_self, va_up_ne _ _ hji] at he
        have hj2 := k2 j hj
        rcases h2b with y | y
        · have := k3 j l hj hl hne (by omega); omega
        · omega
      · rw [va_up_ne _ _ hji, va_up_ne _ _ hli] at he ⊢
        exact k3 j l hj hl hne he
  · by_cases hji : j = i
    · subst hji
      rw [va_up_self, va_up_self, List.length_append, List.length_singleton]
      omega
    · rw [va_up_ne _ _ hji, va_up_ne _ _ hji]
      exact k4 j hj
  · rcases lt4 hi with rfl | rfl | rfl | rfl <;> simp only [va_up, if_true, if_false, Nat.reduceEqDiff] <;> (try simp) <;> omega
  · rcases lt4 hi with rfl | rfl | rfl | rfl <;> simp only [va_up, if_true, if_false, Nat.reduceEqDiff] <;> (try simp) <;> omega
theorem s_Nt_sendToOne (hX : xS X sb L xs tI tE mi) {nn : Int32} {i m : Nat} {mg : sMg} (hnn : nn = nI i) (hi : i < 4) (hmo : mo < 100000) (hR : rNt X tE nb dyn c0 s0 mo q w) (hm : w.2.2 m = some (.inr (3, fMs mg))) (hql : (q i).length < mo) (h : ∀ w', rNt X tE nb dyn c0 s0 mo (va_up q i (q i ++ [mg])) w' → frN X nb dyn w w' → P none w') : xE (xGG X) 7 m_Nt_sendToOne 0 [(0, .ref nb), (1, .int nn), (2, .ref m)] [] w P := by
  subst hnn
  have hR0 := hR
  obtain ⟨g1, g2, g3, g4, ⟨f, g5, g6⟩, g7, g8, ed, cap, k1, k2, k3, k4, k5, k6⟩ := hR
  obtain ⟨as, ⟨⟨mc, e1⟩, r1b⟩, r2, r3⟩ := k1 i hi
  refine x_aload_n 1 rfl d_Nt_sendToOne_0 rfl ?_
  refine x_get 4 rfl f_Nt_11 d_Nt_sendToOne_1 g4 rfl ?_
  refine x_iload_n 5 rfl d_Nt_sendToOne_4 rfl ?_
  refine x_aald 6 rfl d_Nt_sendToOne_5 g5 (t0 := 2) rfl (vp_in_nI hi (by decide)) (by rw [nI_clamp (by omega)]; exact g6 i hi) ?_
  refine x_get 9 rfl f_Nt_18 d_Nt_sendToOne_6 (g7 i hi) rfl ?_
  refine x_aload_n 10 rfl d_Nt_sendToOne_9 rfl ?_
  refine y_callV 13 rfl [_] _ rfl d_Nt_sendToOne_10 e1 rfl c_Nt_22 rfl (Nat.le_of_ble_eq_true rfl) (Nat.le_of_ble_eq_true rfl) (Nat.le_of_ble_eq_true rfl) (s_Nt_addTo hX hi hmo hR0 hm hql (fun w' h1 h2 => ?_))
  refine x_pop 14 rfl d_Nt_sendToOne_13 rfl ?_
  refine x_vret d_Nt_sendToOne_14 rfl ?_
  exact h w' h1 h2
/-- the messages behind sending one to all -/
def qAll (q : Nat → List sMg) (mg : sMg) : Nat → List sMg := fun i => q i ++ [mg]
theorem rNt.congr {q' : Nat → List sMg} (h : rNt X tE nb dyn c0 s0 mo q w) (e : ∀ i, i < 4 → q i = q' i) : rNt X tE nb dyn c0 s0 mo q' w := by
  obtain ⟨g1, g2, g3, g4, g5, g7, g8, ed, cap, k1, k2, k3, k4, k5, k6⟩ := h
  exact ⟨g1, g2, g3, g4, g5, g7, g8, ed, cap, fun i hi => by rw [← e i hi]; exact k1 i hi, k2, k3, fun i hi => by rw [← e i hi]; exact k4 i hi, k5, k6⟩
theorem s_Nt_sendToAll (hX : xS X sb L xs tI tE mi) {m : Nat} {mg : sMg} (hmo : mo < 100000) (hR : rNt X tE nb dyn c0 s0 mo q w) (hm : w.2.2 m = some (.inr (3, fMs mg))) (hql : ∀ i, i < 4 → (q i).length < mo) (h : ∀ w', rNt X tE nb dyn c0 s0 mo (qAll q mg) w' → frN X nb dyn w w' → P none w') : xE (xGG X) 7 m_Nt_sendToAll 0 [(0, .ref nb), (1, .ref m)] [] w P := by
  have loop : ∀ (n i : Nat) (cc : Int32) (w1 : xW), cc = nI i → i + n = 4 → rNt X tE nb dyn c0 s0 mo (fun j => if j < i then q j ++ [mg] else q j) w1 → frN X nb dyn w w1 → xE (xGG X) 7 m_Nt_sendToAll 2 [(0, .ref nb), (1, .ref m), (2, .int cc)] [] w1 P := by
    intro n
    induction n with
    | zero =>
      intro i cc w1 hcc hin hR1 hf1
      have hi4 : i = 4 := by omega
      subst hi4 hcc
      refine x_iload_n 3 rfl d_Nt_sendToAll_2 rfl ?_
      refine x_iconst 4 rfl d_Nt_sendToAll_3 4 (by decide) ?_
      refine x_icmp_ge 27 7 rfl d_Nt_sendToAll_4 (by decide) (fun hc => ?_) (fun hc => absurd (by decide) hc)
      refine x_vret d_Nt_sendToAll_27 rfl ?_
      exact h w1 (hR1.congr (fun j hj => by rw [if_pos hj]; rfl)) hf1
    | succ n ih =>
      intro i cc w1 hcc hin hR1 hf1
      subst hcc
      have hi : i < 4 := by omega
      have hR0 := hR1
      obtain ⟨g1, g2, g3, g4, ⟨f, g5, g6⟩, g7, g8, ed, cap, k1, k2, k3, k4, k5, k6⟩ := hR1
      obtain ⟨as, ⟨⟨mc, e1⟩, r1b⟩, r2, r3⟩ := k1 i hi
      refine x_iload_n 3 rfl d_Nt_sendToAll_2 rfl ?_
      refine x_iconst 4 rfl d_Nt_sendToAll_3 4 (by decide) ?_
      refine x_icmp_ge 27 7 rfl d_Nt_sendToAll_4 (by decide) (fun hc => absurd hc (nI_ge (a := i) (b := 4) (by omega) (by decide))) (fun hc => ?_)
      refine x_aload_n 8 rfl d_Nt_sendToAll_7 rfl ?_
      refine x_get 11 rfl f_Nt_11 d_Nt_sendToAll_8 g4 rfl ?_
      refine x_iload_n 12 rfl d_Nt_sendToAll_11 rfl ?_
      refine x_aald 13 rfl d_Nt_sendToAll_12 g5 (t0 := 2) rfl (vp_in_nI hi (by decide)) (by rw [nI_clamp (by omega)]; exact g6 i hi) ?_
      refine x_get 16 rfl f_Nt_18 d_Nt_sendToAll_13 (g7 i hi) rfl ?_
      refine x_aload_n 17 rfl d_Nt_sendToAll_16 rfl ?_
      refine y_callV 20 rfl [_] _ rfl d_Nt_sendToAll_17 e1 rfl c_Nt_22 rfl (Nat.le_of_ble_eq_true rfl) (Nat.le_of_ble_eq_true rfl) (Nat.le_of_ble_eq_true rfl) (s_Nt_addTo hX hi hmo hR0 (hf1.2 _ _ hm) (by simp only [Nat.lt_irrefl, if_false]; exact hql i hi) (fun w' h1 h2 => ?_))
      refine x_pop 21 rfl d_Nt_sendToAll_20 rfl ?_
      refine x_iinc 24 rfl d_Nt_sendToAll_21 rfl 1 (by decide) (by decide) ?_
      refine x_goto d_Nt_sendToAll_24 2 (by decide) ?_
      refine xE.fit (ih (i + 1) _ w' (nI_succ i).symm (by omega) (h1.congr (fun j hj => ?_)) (hf1.tr h2)) rfl
      by_cases hji : j = i
      · subst hji; rw [va_up_self]; simp
      · rw [va_up_ne _ _ hji]
        by_cases z : j < i
        · rw [if_pos z, if_pos (by omega)]
        · rw [if_neg z, if_neg (by omega)]
  refine x_iconst 1 rfl d_Nt_sendToAll_0 0 (by decide) ?_
  refine x_istore_n 2 rfl d_Nt_sendToAll_1 (by decide) ?_
  exact xE.fit (loop 4 0 0 w rfl rfl (hR.congr (fun j hj => by simp)) (frN.rf _ _ _ _)) rfl
theorem s_Nt_countFor {nn : Int32} {i : Nat} (hnn : nn = nI i) (hi : i < 4) (hR : rNt X tE nb dyn c0 s0 mo q w) (h : P (some (.int (nI (q i).length))) w) : xE (xGG X) 1 m_Nt_countFor 0 [(0, .ref nb), (1, .int nn)] [] w P := by
  subst hnn
  obtain ⟨g1, g2, g3, g4, ⟨f, g5, g6⟩, g7, g8, ed, cap, k1, k2, k3, k4, k5, k6⟩ := hR
  obtain ⟨as, r1, r2, r3⟩ := k1 i hi
  obtain ⟨mc, e1⟩ := r1.1
  refine x_aload_n 1 rfl d_Nt_countFor_0 rfl ?_
  refine x_get 4 rfl f_Nt_11 d_Nt_countFor_1 g4 rfl ?_
  refine x_iload_n 5 rfl d_Nt_countFor_4 rfl ?_
  refine x_aald 6 rfl d_Nt_countFor_5 g5 (t0 := 2) rfl (vp_in_nI hi (by decide)) (by rw [nI_clamp (by omega)]; exact g6 i hi) ?_
  refine x_get 9 rfl f_Nt_18 d_Nt_countFor_6 (g7 i hi) rfl ?_
  refine y_callV 12 rfl [] _ rfl d_Nt_countFor_9 e1 rfl c_Nt_28 rfl (Nat.le_of_ble_eq_true rfl) (Nat.le_of_ble_eq_true rfl) (Nat.le_of_ble_eq_true rfl) (s_Al_size r1 ?_)
  refine x_iret d_Nt_countFor_12 rfl ?_
  rw [r2]
  exact h
theorem s_Nt_remove (hX : xS X sb L xs tI tE mi) {nn kk : Int32} {i k : Nat} {mg : sMg} (hnn : nn = nI i) (hkk : kk = nI k) (hi : i < 4) (hmo : mo < 100000) (hR : rNt X tE nb dyn c0 s0 mo q w) (hk : (q i)[k]? = some mg) (h : ∀ w' m, rNt X tE nb dyn c0 s0 mo (va_up q i ((q i).eraseIdx k)) w' → w'.2.2 m = some (.inr (3, fMs mg)) → frN X nb dyn w w' → w'.1 = w.1 → P (some (.ref m)) w') : xE (xGG X) 3 m_Nt_remove 0 [(0, .ref nb), (1, .int nn), (2, .int kk)] [] w P := by
  subst hnn hkk
  obtain ⟨g1, g2, g3, g4, ⟨f, g5, g6⟩, g7, g8, ed, cap, k1, k2, k3, k4, k5, k6⟩ := hR
  obtain ⟨as, r1, r2, r3⟩ := k1 i hi
  obtain ⟨mc, e1⟩ := r1.1
  have hk4 := k4 i hi
  have hk2 := k2 i hi
  have hlt : k < as.length := by have := (List.getElem?_eq_some_iff.mp hk).1; omega
  obtain ⟨m, hm⟩ : ∃ m, as[k]? = some m := ⟨_, List.getElem?_eq_getElem hlt⟩
  obtain ⟨mg2, t1, t2⟩ := r3 k m hm
  cases hk.symm.trans t1
  have hcap : 2 ≤ cap i ∧ dyn ≤ ed i := by
    rcases r1.2.2 with z | z
    · have := r1.2.1; omega
    · have := z.1; omega
  refine x_aload_n 1 rfl d_Nt_remove_0 rfl ?_
  refine x_get 4 rfl f_Nt_11 d_Nt_remove_1 g4 rfl ?_
  refine x_iload_n 5 rfl d_Nt_remove_4 rfl ?_
  refine x_aald 6 rfl d_Nt_remove_5 g5 (t0 := 2) rfl (vp_in_nI hi (by decide)) (by rw [nI_clamp (by omega)]; exact g6 i hi) ?_
  refine x_get 9 rfl f_Nt_18 d_Nt_remove_6 (g7 i hi) rfl ?_
  refine x_iload_n 10 rfl d_Nt_remove_9 rfl ?_
  refine y_callV 13 rfl [_] _ rfl d_Nt_remove_10 e1 rfl c_Nt_32 rfl (Nat.le_of_ble_eq_true rfl) (Nat.le_of_ble_eq_true rfl) (Nat.le_of_ble_eq_true rfl) (s_Al_remove hX rfl r1 hm (by omega) (fun w' h1 h2 h3 h4 => ?_))
  have ham : ∀ x fs, w.2.2 x = some (.inr (3, fs)) → w'.2.2 x = some (.inr (3, fs)) := by
    intro x fs hx
    rw [h4 x (fun z => by rw [z, e1] at hx; cases hx) (fun z => ?_)]
    · exact hx
    · rcases r1.2.2 with y | ⟨-, f2, e2, -⟩
      · omega
      · rw [z, e2] at hx; cases hx
  refine x_cast 16 rfl d_Nt_remove_13 q_Nt_36 (ham _ _ t2) rfl (Or.inl rfl) ?_
  refine x_aret d_Nt_remove_16 rfl (by first | exact Or.inl ⟨_, rfl⟩ | exact Or.inr ⟨_, rfl⟩) ?_
  refine h w' m ⟨fun x e hx => ?_, g2, by omega, by rw [h4 _ (by omega) (by omega)]; exact g4, ⟨f, by rw [h4 _ (by omega) (by omega)]; exact g5, g6⟩, fun j hj => by rw [h4 _ (by omega) (by omega)]; exact g7 j hj, g8, ed, cap, fun j hj => ?_, fun j hj => by have := k2 j hj; omega, k3, fun j hj => ?_, by omega, by omega⟩ (ham _ _ t2) ⟨fun x x1 x2 x3 => h4 x (x3 i hi) (by omega), ham⟩ h2
  · by_cases n1 : x = nb + 3 + 2 * i
    · omega
    · by_cases n2 : x = ed i
      · omega
      · rw [h4 x n1 n2] at hx; have := g1 x e hx; omega
  · by_cases hji : j = i
    · subst hji
      rw [va_up_self]
      refine ⟨as.eraseIdx k, h1, by rw [List.length_eraseIdx_of_lt hlt, List.length_eraseIdx_of_lt (by omega), r2], fun l x hx => ?_⟩
      rw [List.getElem?_eraseIdx] at hx ⊢
      split at hx
      · rename_i z
        obtain ⟨mg3, u1, u2⟩ := r3 l x hx
        rw [if_pos z]
        exact ⟨mg3, u1, ham _ _ u2⟩
      · rename_i z
        obtain ⟨mg3, u1, u2⟩ := r3 (l + 1) x hx
        rw [if_neg z]
        exact ⟨mg3, u1, ham _ _ u2⟩
    · rw [va_up_ne _ _ hji]
      have hj2 := k2 j hj
      refine (k1 j hj).kept (h4 _ (by omega) (by omega)) (fun hc => h4 _ (by omega) (fun z => ?_)) ham
      have := k3 j i hj hi hji z
      omega
  · by_cases hji : j = i
    · subst hji
      rw [va_up_self, List.length_eraseIdx_of_lt (by omega)]
      omega
    · rw [va_up_ne _ _ hji]
      exact k4 j hj
end NT
end
section
/-! BROADCASTS: flags 0 has the value, 1 echo sent, 2 ready sent, 8 + s echo of s, 16 + s ready of s; values 0 value's root, 1 its witness, 2 proposal, 8 + s echo's root, 16 + s echo's byte, 24 + s ready's root -/
abbrev sB : Type := (Nat → Bool) × (Nat → Int32)
def fBc (nb me e i a : Nat) (β : sB) : List Value := [.ref nb, .int (nI me), .int (nI e), .int (nI i), .int (nB (β.1 0)), .int (β.2 0), .int (β.2 1), .ref (a + 1), .ref (a + 3), .ref (a + 4), .int (nB (β.1 1)), .int (nB (β.1 2)), .int (β.2 2)]
def rBc (X : xPar) (nb me e i a : Nat) (β : sB) (w : xW) : Prop := w.2.2 a = some (.inr (1, fBc nb me e i a β)) ∧ rRt X w (a + 1) (fun s => β.1 (8 + s)) (fun s => β.2 (8 + s)) ∧ aI X w (a + 3) 4 (fun s => β.2 (16 + s)) ∧ rRt X w (a + 4) (fun s => β.1 (16 + s)) (fun s => β.2 (24 + s)) ∧ ∀ s, s < 4 → cUn (β.2 (16 + s)) < 256
theorem fBc_congr {nb me e i a : Nat} {β β' : sB} (h1 : ∀ s, s < 8 → β.1 s = β'.1 s) (h2 : ∀ s, s < 8 → β.2 s = β'.2 s) : fBc nb me e i a β = fBc nb me e i a β' := by
  unfold fBc
  rw [h1 0 (by decide), h1 1 (by decide), h1 2 (by decide), h2 0 (by decide), h2 1 (by decide), h2 2 (by decide)]
theorem rBc.kept {X : xPar} {nb me e i a : Nat} {β : sB} {w w' : xW} (h : rBc X nb me e i a β w) (hk : ∀ x, a ≤ x → x < a + 6 → w'.2.2 x = w.2.2 x) : rBc X nb me e i a β w' := by
  obtain ⟨h1, h2, h3, h4, h5⟩ := h
  exact ⟨(hk a (by omega) (by omega)).trans h1, h2.kept (hk _ (by omega) (by omega)) (hk _ (by omega) (by omega)), h3.kept (hk _ (by omega) (by omega)), h4.kept (hk _ (by omega) (by omega)) (hk _ (by omega) (by omega)), h5⟩
/-- the object alone is written -/
theorem rBc.obj {X : xPar} {nb me e i a : Nat} {β β' : sB} {w w' : xW} (h : rBc X nb me e i a β w) (h1 : w'.2.2 a = some (.inr (1, fBc nb me e i a β'))) (hk : ∀ x, x ≠ a → w'.2.2 x = w.2.2 x) (e1 : ∀ s, 8 ≤ s → β.1 s = β'.1 s) (e2 : ∀ s, 8 ≤ s → β.2 s = β'.2 s) : rBc X nb me e i a β' w' := by
  obtain ⟨-, h2, h3, h4, h5⟩ := h
  obtain ⟨f, h6, h7⟩ := h3
  exact ⟨h1, (h2.kept (hk _ (by omega)) (hk _ (by omega))).congr (fun s _ => e1 _ (by omega)) (fun s _ => e2 _ (by omega)), ⟨f, (hk _ (by omega)).trans h6, fun j hj => (h7 j hj).trans (e2 _ (by omega))⟩, (h4.kept (hk _ (by omega)) (hk _ (by omega))).congr (fun s _ => e1 _ (by omega)) (fun s _ => e2 _ (by omega)), fun s hs => by rw [← e2 _ (by omega)]; exact h5 s hs⟩
theorem rBc.cells {X : xPar} {nb me e i a : Nat} {β : sB} {w : xW} (h : rBc X nb me e i a β w) : ∀ x, a ≤ x → x < a + 6 → ∃ z, w.2.2 x = some z ∧ ∀ fs, z ≠ .inr (3, fs) := by
  obtain ⟨h1, h2, ⟨f3, h3, -⟩, h4, -⟩ := h
  obtain ⟨f2, h2b, -⟩ := h2.2
  obtain ⟨f4, h4b, -⟩ := h4.2
  intro x h5 h6
  rcases (show x = a ∨ x = a + 1 ∨ x = a + 2 ∨ x = a + 3 ∨ x = a + 4 ∨ x = a + 5 by omega) with rfl | rfl | rfl | rfl | rfl | rfl
  · exact ⟨_, h1, fun fs z => by cases z⟩
  · exact ⟨_, h2.1, fun fs z => by cases z⟩
  · exact ⟨_, h2b, fun fs z => by cases z⟩
  · exact ⟨_, h3, fun fs z => by cases z⟩
  · exact ⟨_, h4.1, fun fs z => by cases z⟩
  · exact ⟨_, h4b, fun fs z => by cases z⟩
/-- own cells, of which none is a message, are written: the network stays -/
theorem rNt.own {X : xPar} {tE nb dyn c0 s0 mo lo hi : Nat} {q : Nat → List sMg} {w w' : xW} (h : rNt X tE nb dyn c0 s0 mo q w) (hf : fr w w' lo hi) (hc : ∀ x, lo ≤ x → x < hi → ∃ z, w.2.2 x = some z ∧ ∀ fs, z ≠ .inr (3, fs)) (h1 : nb + 10 ≤ lo) (h2 : hi ≤ dyn) : rNt X tE nb dyn c0 s0 mo q w' := by
  refine h.kept hf.1 hf.2.1 (fun x hx => ?_) (fun x h3 h4 => hf.2.2 x (by omega)) (fun x h3 => hf.2.2 x (by omega)) (fun m fs hm => ?_)
  · rw [hf.2.2 x]
    · exact hx
    · by_cases z : lo ≤ x ∧ x < hi
      · obtain ⟨y, h5, -⟩ := hc x z.1 z.2
        rw [hx] at h5; cases h5
      · omega
  · rw [hf.2.2 m]
    · exact hm
    · by_cases z : lo ≤ m ∧ m < hi
      · obtain ⟨y, h5, h6⟩ := hc m z.1 z.2
        rw [hm] at h5
        exact absurd (Option.some.inj h5).symm (h6 fs)
      · omega
/-- what a method that sends leaves: its own cells [lo, hi) and the network apart -/
def frS (X : xPar) (nb dyn lo hi : Nat) (w w' : xW) : Prop := (∀ x, X.2.1 ≤ x → x < dyn → (x < lo ∨ hi ≤ x) → (∀ i, i < 4 → x ≠ nb + 3 + 2 * i) → w'.2.2 x = w.2.2 x) ∧ (∀ m fs, w.2.2 m = some (.inr (3, fs)) → w'.2.2 m = some (.inr (3, fs)))
theorem frS.rf (X : xPar) (nb dyn lo hi : Nat) (w : xW) : frS X nb dyn lo hi w w := ⟨fun _ _ _ _ _ => rfl, fun _ _ h => h⟩
theorem frS.tr {X : xPar} {nb dyn lo hi : Nat} {w w' w'' : xW} (h : frS X nb dyn lo hi w w') (h2 : frS X nb dyn lo hi w' w'') : frS X nb dyn lo hi w w'' := ⟨fun x a b c d => (h2.1 x a b c d).trans (h.1 x a b c d), fun m fs z => h2.2 m fs (h.2 m fs z)⟩
theorem frS.wide {X : xPar} {nb dyn lo hi lo' hi' : Nat} {w w' : xW} (h : frS X nb dyn lo hi w w') (h1 : lo' ≤ lo) (h2 : hi ≤ hi') : frS X nb dyn lo' hi' w w' := ⟨fun x a b c d => h.1 x a b (by omega) d, h.2⟩
theorem frN.S {X : xPar} {nb dyn : Nat} {w w' : xW} (lo hi : Nat) (h : frN X nb dyn w w') : frS X nb dyn lo hi w w' := ⟨fun x a b _ d => h.1 x a b d, h.2⟩
theorem fr.S {X : xPar} {lo hi : Nat} {w w' : xW} (nb dyn : Nat) (hf : fr w w' lo hi) (hc : ∀ x, lo ≤ x → x < hi → ∃ z, w.2.2 x = some z ∧ ∀ fs, z ≠ .inr (3, fs)) : frS X nb dyn lo hi w w' := by
  refine ⟨fun x _ _ h _ => hf.2.2 x h, fun m fs hm => ?_⟩
  rw [hf.2.2 m]
  · exact hm
  · by_cases z : lo ≤ m ∧ m < hi
    · obtain ⟨y, h5, h6⟩ := hc m z.1 z.2
      rw [hm] at h5
      exact absurd (Option.some.inj h5).symm (h6 fs)
    · omega
def bKv (me i : Nat) (β : sB) (m : sMg) : sB := if (!β.1 0 && decide (m.1 = i) && cRight m.2.2.2.2.1 (cUn m.2.2.2.2.2) me) = true then (va_up β.1 0 true, va_up (va_up β.2 0 m.2.2.2.2.1) 1 m.2.2.2.2.2) else β
def bKe (β : sB) (m : sMg) : sB := if (!β.1 (8 + m.1) && cRight m.2.2.2.2.1 (cUn m.2.2.2.2.2) m.1) = true then (va_up β.1 (8 + m.1) true, va_up (va_up β.2 (8 + m.1) m.2.2.2.2.1) (16 + m.1) (nI (cUn m.2.2.2.2.2 % 256))) else β
def bKr (β : sB) (m : sMg) : sB := if (!β.1 (16 + m.1)) = true then (va_up β.1 (16 + m.1) true, va_up β.2 (24 + m.1) m.2.2.2.2.1) else β
def bKeep (me i : Nat) (β : sB) (m : sMg) : sB := if m.2.2.2.1 = 0 then bKv me i β m else if m.2.2.2.1 = 1 then bKe β m else bKr β m
def bGvR (β : sB) (root : Int32) : Nat := cGv (fun s => β.1 (8 + s) && decide (β.2 (8 + s) = root)) (fun s => cUn (β.2 (16 + s)))
def bMk (β : sB) (root : Int32) : Bool := decide (cRoot (bGvR β root % 256) (bGvR β root / 256) = root)
def bRd2 (β : sB) : Option Int32 := (cFs (fun s => β.1 (16 + s)) (fun s => β.2 (24 + s)) 2).map (fun s => β.2 (24 + s))
def bReady (β : sB) : Option Int32 := match cFs (fun s => β.1 (8 + s)) (fun s => β.2 (8 + s)) 3 with
  | some s => if bMk β (β.2 (8 + s)) = true then some (β.2 (8 + s)) else bRd2 β
  | none => bRd2 β
def bProp (β : sB) : Option Nat := match cFs (fun s => β.1 (16 + s)) (fun s => β.2 (24 + s)) 3 with
  | some s => if 2 ≤ cCt (fun s => β.1 (8 + s)) (fun s => β.2 (8 + s)) (β.2 (24 + s)) then some (if bMk β (β.2 (24 + s)) = true then bGvR β (β.2 (24 + s)) else 0) else none
  | none => none
theorem cFs_lt {h : Nat → Bool} {r : Nat → Int32} {n s : Nat} (e : cFs h r n = some s) : s < 4 := by
  unfold cFs at e
  exact List.mem_range.mp (List.mem_of_find?_eq_some e)
theorem cGv_lt {g : Nat → Bool} {eb : Nat → Nat} (h : ∀ s, s < 4 → eb s < 256) : cGv g eb < 65536 := by
  unfold cGv
  split
  · rename_i k l t e
    have hk : k ∈ (List.range 4).filter g := by rw [e]; exact List.mem_cons_self
    have hl : l ∈ (List.range 4).filter g := by rw [e]; exact List.mem_cons_of_mem _ List.mem_cons_self
    have hk4 := List.mem_range.mp (List.mem_filter.mp hk).1
    have hl4 := List.mem_range.mp (List.mem_filter.mp hl).1
    have hnd : ((List.range 4).filter g).Nodup := List.Pairwise.filter _ List.nodup_range
    rw [e] at hnd
    have hne : k ≠ l := fun z => (List.nodup_cons.mp hnd).1 (by rw [z]; exact List.mem_cons_self)
    exact cSv_lt hk4 hl4 hne (h k hk4) (h l hl4)
  · decide
theorem bGvR_lt {β : sB} {root : Int32} (h : ∀ s, s < 4 → cUn (β.2 (16 + s)) < 256) : bGvR β root < 65536 := cGv_lt h
theorem iO_ne {o : Option Nat} (h : ∀ s, o = some s → s < 4) : iO o = -1 ↔ o = none := by
  cases o with
  | none => exact ⟨fun _ => rfl, fun _ => rfl⟩
  | some s =>
    have := h s rfl
    refine ⟨fun z => ?_, fun z => by cases z⟩
    exact absurd z ((by decide +kernel : ∀ s, s < 4 → ¬ iO (some s) = -1) s this)
theorem nB_ne {b : Bool} (h : ¬ nB b = 0) : b = true := by
  cases b with
  | true => rfl
  | false => exact absurd rfl h
section BC
variable {X : xPar} {sb L : Nat} {xs : Nat → Int32} {tI tE mi nb dyn c0 s0 mo me e i a : Nat} {q : Nat → List sMg} {β : sB} {w : xW} {P : Option Value → xW → Prop}
theorem s_Bc_keepValue {m : Nat} {mg : sMg} (hme : me < 4) (hi : i < 4) (hs : mg.1 < 4) (hR : rBc X nb me e i a β w) (hm : w.2.2 m = some (.inr (3, fMs mg))) (h : ∀ w', rBc X nb me e i a (bKv me i β mg) w' → fr w w' a (a + 6) → P none w') : xE (xGG X) 2 m_Bc_keepValue 0 [(0, .ref a), (1, .ref m)] [] w P := by
  have g1 := hR.1
  have same : (!β.1 0 && decide (mg.1 = i) && cRight mg.2.2.2.2.1 (cUn mg.2.2.2.2.2) me) = false → P none w := fun z => h w (by rw [bKv, if_neg (by rw [z]; decide)]; exact hR) (fr.rf _ _ _)
  refine x_aload_n 1 rfl d_Bc_keepValue_0 rfl ?_
  refine x_get 4 rfl f_Bc_68 d_Bc_keepValue_1 g1 rfl ?_
  refine x_if_ne 57 7 rfl d_Bc_keepValue_4 (by decide) (fun hc => ?_) (fun hc => ?_)
  · refine x_vret d_Bc_keepValue_57 rfl ?_
    exact same (by rw [nB_ne hc]; rfl)
  refine x_aload_n 8 rfl d_Bc_keepValue_7 rfl ?_
  refine x_get 11 rfl f_Bc_54 d_Bc_keepValue_8 hm rfl ?_
  refine x_aload_n 12 rfl d_Bc_keepValue_11 rfl ?_
  refine x_get 15 rfl f_Bc_39 d_Bc_keepValue_12 g1 rfl ?_
  refine x_icmp_ne 57 18 rfl d_Bc_keepValue_15 (by decide) (fun hc2 => ?_) (fun hc2 => ?_)
  · refine x_vret d_Bc_keepValue_57 rfl ?_
    exact same (by rw [decide_eq_false (fun z => hc2 (by rw [z]))]; simp)
  have hsi : mg.1 = i := (nI_eq (by omega) (by omega)).mp hc2
  refine x_aload_n 19 rfl d_Bc_keepValue_18 rfl ?_
  refine x_get 22 rfl f_Bc_33 d_Bc_keepValue_19 g1 rfl ?_
  refine x_aload_n 23 rfl d_Bc_keepValue_22 rfl ?_
  refine x_get 26 rfl f_Bc_61 d_Bc_keepValue_23 hm rfl ?_
  refine x_aload_n 27 rfl d_Bc_keepValue_26 rfl ?_
  refine x_get 30 rfl f_Bc_72 d_Bc_keepValue_27 hm rfl ?_
  refine y_call 33 rfl [_, _, _] _ rfl d_Bc_keepValue_30 c_Bc_75 rfl (Nat.le_of_ble_eq_true rfl) (Nat.le_of_ble_eq_true rfl) (Nat.le_of_ble_eq_true rfl) (s_Co_isRight rfl (nI_cUn _).symm hme (cUn_lt _) ?_)
  refine x_if_eq 57 36 rfl d_Bc_keepValue_33 (by decide) (fun hc3 => ?_) (fun hc3 => ?_)
  · refine x_vret d_Bc_keepValue_57 rfl ?_
    exact same (by rw [(nB_0 _).mp hc3]; simp)
  have hc0 : β.1 0 = false := (nB_0 _).mp hc
  have hm2 : ∀ z, (xset w a z).2.2 m = some (.inr (3, fMs mg)) := fun z => by rw [xset_ne _ _ (fun y => by rw [y, g1] at hm; cases hm)]; exact hm
  have hm3 : ∀ z y, (xset (xset w a z) a y).2.2 m = some (.inr (3, fMs mg)) := fun z y => by rw [xset_ne _ _ (fun y => by rw [y, g1] at hm; cases hm)]; exact hm2 z
  refine x_aload_n 37 rfl d_Bc_keepValue_36 rfl ?_
  refine x_iconst 38 rfl d_Bc_keepValue_37 1 (by decide) ?_
  refine x_put 41 rfl p_Bc_68 (fun _ => by first | rfl | contradiction) d_Bc_keepValue_38 g1 rfl rfl (Nat.le_of_ble_eq_true rfl) ?_
  refine x_aload_n 42 rfl d_Bc_keepValue_41 rfl ?_
  refine x_aload_n 43 rfl d_Bc_keepValue_42 rfl ?_
  refine x_get 46 rfl f_Bc_61 d_Bc_keepValue_43 (hm2 _) rfl ?_
  refine x_put 49 rfl p_Bc_81 (fun _ => by first | rfl | contradiction) d_Bc_keepValue_46 (xset_at _ _ _) rfl rfl (Nat.le_of_ble_eq_true rfl) ?_
  refine x_aload_n 50 rfl d_Bc_keepValue_49 rfl ?_
  refine x_aload_n 51 rfl d_Bc_keepValue_50 rfl ?_
  refine x_get 54 rfl f_Bc_72 d_Bc_keepValue_51 (hm3 _ _) rfl ?_
  refine x_put 57 rfl p_Bc_84 (fun _ => by first | rfl | contradiction) d_Bc_keepValue_54 (xset_at _ _ _) rfl rfl (Nat.le_of_ble_eq_true rfl) ?_
  refine x_vret d_Bc_keepValue_57 rfl ?_
  refine h _ ?_ ((((fr.rf w a (a + 6)).set _ (by omega) (by omega)).set _ (by omega) (by omega)).set _ (by omega) (by omega))
  rw [bKv, if_pos (by rw [hc0, decide_eq_true hsi, nB_ne hc3]; rfl)]
  refine hR.obj ?_ (fun x hx => by rw [xset_ne _ _ hx, xset_ne _ _ hx, xset_ne _ _ hx]) (fun s hs => by simp only [va_up]; rw [if_neg (by omega)]) (fun s hs => by simp only [va_up]; rw [if_neg (by omega), if_neg (by omega)])
  rw [xset_at]
  rfl
theorem s_Bc_keepEcho {m : Nat} {mg : sMg} (hs : mg.1 < 4) (hR : rBc X nb me e i a β w) (hm : w.2.2 m = some (.inr (3, fMs mg))) (h : ∀ w', rBc X nb me e i a (bKe β mg) w' → fr w w' a (a + 6) → P none w') : xE (xGG X) 2 m_Bc_keepEcho 0 [(0, .ref a), (1, .ref m)] [] w P := by
  have hR0 := hR
  have hcells := hR.cells
  obtain ⟨g1, g2, ⟨f, g3, g3b⟩, g4, g5⟩ := hR
  have same : (!β.1 (8 + mg.1) && cRight mg.2.2.2.2.1 (cUn mg.2.2.2.2.2) mg.1) = false → P none w := fun z => h w (by rw [bKe, if_neg (by rw [z]; decide)]; exact hR0) (fr.rf _ _ _)
  refine x_aload_n 1 rfl d_Bc_keepEcho_0 rfl ?_
  refine x_get 4 rfl f_Bc_54 d_Bc_keepEcho_1 hm rfl ?_
  refine x_istore_n 5 rfl d_Bc_keepEcho_4 (by decide) ?_
  refine x_aload_n 6 rfl d_Bc_keepEcho_5 rfl ?_
  refine x_get 9 rfl f_Bc_12 d_Bc_keepEcho_6 g1 rfl ?_
  refine x_iload_n 10 rfl d_Bc_keepEcho_9 rfl ?_
  refine y_callV 13 rfl [_] _ rfl d_Bc_keepEcho_10 g2.1 rfl c_Bc_57 rfl (Nat.le_of_ble_eq_true rfl) (Nat.le_of_ble_eq_true rfl) (Nat.le_of_ble_eq_true rfl) (s_Rt_isFrom rfl hs g2 ?_)
  refine x_if_ne 57 16 rfl d_Bc_keepEcho_13 (by decide) (fun hc => ?_) (fun hc => ?_)
  · refine x_vret d_Bc_keepEcho_57 rfl ?_
    exact same (by rw [nB_ne hc]; rfl)
  refine x_iload_n 17 rfl d_Bc_keepEcho_16 rfl ?_
  refine x_aload_n 18 rfl d_Bc_keepEcho_17 rfl ?_
  refine x_get 21 rfl f_Bc_61 d_Bc_keepEcho_18 hm rfl ?_
  refine x_aload_n 22 rfl d_Bc_keepEcho_21 rfl ?_
  refine x_get 25 rfl f_Bc_72 d_Bc_keepEcho_22 hm rfl ?_
  refine y_call 28 rfl [_, _, _] _ rfl d_Bc_keepEcho_25 c_Bc_75 rfl (Nat.le_of_ble_eq_true rfl) (Nat.le_of_ble_eq_true rfl) (Nat.le_of_ble_eq_true rfl) (s_Co_isRight rfl (nI_cUn _).symm hs (cUn_lt _) ?_)
  refine x_if_eq 57 31 rfl d_Bc_keepEcho_28 (by decide) (fun hc3 => ?_) (fun hc3 => ?_)
  · refine x_vret d_Bc_keepEcho_57 rfl ?_
    exact same (by rw [(nB_0 _).mp hc3]; simp)
  have hmo : ∀ x, a ≤ x → x < a + 6 → m ≠ x := fun x h1 h2 z => by
    obtain ⟨y, h5, h6⟩ := hcells x h1 h2
    rw [← z, hm] at h5
    exact absurd (Option.some.inj h5).symm (h6 _)
  refine x_aload_n 32 rfl d_Bc_keepEcho_31 rfl ?_
  refine x_get 35 rfl f_Bc_12 d_Bc_keepEcho_32 g1 rfl ?_
  refine x_iload_n 36 rfl d_Bc_keepEcho_35 rfl ?_
  refine x_aload_n 37 rfl d_Bc_keepEcho_36 rfl ?_
  refine x_get 40 rfl f_Bc_61 d_Bc_keepEcho_37 hm rfl ?_
  refine y_callV 43 rfl [_, _] _ rfl d_Bc_keepEcho_40 g2.1 rfl c_Bc_64 rfl (Nat.le_of_ble_eq_true rfl) (Nat.le_of_ble_eq_true rfl) (Nat.le_of_ble_eq_true rfl) (s_Rt_put rfl hs g2 (fun w1 k1 k2 => ?_))
  have l1 : w1.2.2 a = some (.inr (1, fBc nb me e i a β)) := (k2.2.2 a (by omega)).trans g1
  have l3 : w1.2.2 (a + 3) = some (.inl (X.2.2.2.1 0, 4, .inl f)) := (k2.2.2 (a + 3) (by omega)).trans g3
  have lm : w1.2.2 m = some (.inr (3, fMs mg)) := by
    rw [k2.2.2 m]
    · exact hm
    · have h7 := hmo (a + 1) (by omega) (by omega)
      have h8 := hmo (a + 2) (by omega) (by omega)
      omega
  have e255 : mg.2.2.2.2.2 &&& 255 = nI (cUn mg.2.2.2.2.2 % 256) := by
    have := i255 (cUn_lt mg.2.2.2.2.2)
    rw [nI_cUn] at this
    exact this
  refine x_aload_n 44 rfl d_Bc_keepEcho_43 rfl ?_
  refine x_get 47 rfl f_Bc_18 d_Bc_keepEcho_44 l1 rfl ?_
  refine x_iload_n 48 rfl d_Bc_keepEcho_47 rfl ?_
  refine x_aload_n 49 rfl d_Bc_keepEcho_48 rfl ?_
  refine x_get 52 rfl f_Bc_72 d_Bc_keepEcho_49 lm rfl ?_
  refine x_sipush 55 rfl d_Bc_keepEcho_52 255 (by decide) ?_
  refine x_iand 56 rfl d_Bc_keepEcho_55 ?_
  rw [e255]
  refine x_iast 57 rfl d_Bc_keepEcho_56 l3 (t0 := 0) rfl (vp_in_nI hs (by decide)) ?_
  refine x_vret d_Bc_keepEcho_57 rfl ?_
  rw [nI_clamp (by omega)]
  have hc0 : β.1 (8 + mg.1) = false := (nB_0 _).mp hc
  refine h _ ?_ ((k2.wide (by omega) (by omega)).set _ (by omega) (by omega))
  rw [bKe, if_pos (by rw [hc0, nB_ne hc3]; rfl)]
  refine ⟨?_, ?_, ⟨upd f mg.1 (nI (cUn mg.2.2.2.2.2 % 256)), xset_at _ _ _, fun j hj => ?_⟩, ?_, fun s hs2 => ?_⟩
  · rw [xset_ne _ _ (by omega), l1, fBc_congr]
    · intro s hs2; simp only [va_up]; rw [if_neg (by omega)]
    · intro s hs2; simp only [va_up]; rw [if_neg (by omega), if_neg (by omega)]
  · refine (k1.kept (xset_ne _ _ (by omega)) (xset_ne _ _ (by omega))).congr (fun s hs2 => ?_) (fun s hs2 => ?_)
    · simp only [va_up]
      by_cases z : s = mg.1
      · rw [if_pos z, if_pos (by omega)]
      · rw [if_neg z, if_neg (by omega)]
    · simp only [va_up]
      by_cases z : s = mg.1
      · rw [if_pos z, if_neg (by omega), if_pos (by omega)]
      · rw [if_neg z, if_neg (by omega), if_neg (by omega)]
  · simp only [upd, va_up]
    by_cases z : j = mg.1
    · rw [if_pos z, if_pos (by omega)]
    · rw [if_neg z, if_neg (by omega), if_neg (by omega)]
      exact g3b j hj
  · refine (g4.kept ?_ ?_).congr (fun s hs2 => ?_) (fun s hs2 => ?_)
    · rw [xset_ne _ _ (by omega), k2.2.2 _ (by omega)]
    · rw [xset_ne _ _ (by omega), k2.2.2 _ (by omega)]
    · simp only [va_up]; rw [if_neg (by omega)]
    · simp only [va_up]; rw [if_neg (by omega), if_neg (by omega)]
  · simp only [va_up]
    by_cases z : s = mg.1
    · rw [if_pos (by omega)]
      have := pk_tn (n := cUn mg.2.2.2.2.2 % 256) (by omega)
      show (nI (cUn mg.2.2.2.2.2 % 256)).toBitVec.toNat < 256
      omega
    · rw [if_neg (by omega), if_neg (by omega)]
      exact g5 s hs2
theorem s_Bc_keep {m : Nat} {mg : sMg} (hme : me < 4) (hi : i < 4) (hs : mg.1 < 4) (hkd : mg.2.2.2.1 < 3) (hR : rBc X nb me e i a β w) (hm : w.2.2 m = some (.inr (3, fMs mg))) (h : ∀ w', rBc X nb me e i a (bKeep me i β mg) w' → fr w w' a (a + 6) → P none w') : xE (xGG X) 3 m_Bc_keep 0 [(0, .ref a), (1, .ref m)] [] w P := by
  have hR0 := hR
  obtain ⟨g1, g2, g3, g4, g5⟩ := hR
  refine x_aload_n 1 rfl d_Bc_keep_0 rfl ?_
  refine x_get 4 rfl f_Bc_42 d_Bc_keep_1 hm rfl ?_
  refine x_if_ne 15 7 rfl d_Bc_keep_4 (by decide) (fun hc => ?_) (fun hc => ?_)
  · have hk0 : ¬ mg.2.2.2.1 = 0 := fun z => hc (by rw [z]; rfl)
    refine x_aload_n 16 rfl d_Bc_keep_15 rfl ?_
    refine x_get 19 rfl f_Bc_42 d_Bc_keep_16 hm rfl ?_
    refine x_iconst 20 rfl d_Bc_keep_19 1 (by decide) ?_
    refine x_icmp_ne 31 23 rfl d_Bc_keep_20 (by decide) (fun hc2 => ?_) (fun hc2 => ?_)
    · have hk1 : ¬ mg.2.2.2.1 = 1 := fun z => hc2 (by rw [z]; rfl)
      have ek : bKeep me i β mg = bKr β mg := by rw [bKeep, if_neg hk0, if_neg hk1]
      rw [ek] at h
      refine x_aload_n 32 rfl d_Bc_keep_31 rfl ?_
      refine x_get 35 rfl f_Bc_22 d_Bc_keep_32 g1 rfl ?_
      refine x_aload_n 36 rfl d_Bc_keep_35 rfl ?_
      refine x_get 39 rfl f_Bc_54 d_Bc_keep_36 hm rfl ?_
      refine y_callV 42 rfl [_] _ rfl d_Bc_keep_39 g4.1 rfl c_Bc_57 rfl (Nat.le_of_ble_eq_true rfl) (Nat.le_of_ble_eq_true rfl) (Nat.le_of_ble_eq_true rfl) (s_Rt_isFrom rfl hs g4 ?_)
      refine x_if_ne 60 45 rfl d_Bc_keep_42 (by decide) (fun hc3 => ?_) (fun hc3 => ?_)
      · refine x_vret d_Bc_keep_60 rfl ?_
        exact h w (by rw [bKr, if_neg (by rw [nB_ne hc3]; decide)]; exact hR0) (fr.rf _ _ _)
      · have hc0 : β.1 (16 + mg.1) = false := (nB_0 _).mp hc3
        refine x_aload_n 46 rfl d_Bc_keep_45 rfl ?_
        refine x_get 49 rfl f_Bc_22 d_Bc_keep_46 g1 rfl ?_
        refine x_aload_n 50 rfl d_Bc_keep_49 rfl ?_
        refine x_get 53 rfl f_Bc_54 d_Bc_keep_50 hm rfl ?_
        refine x_aload_n 54 rfl d_Bc_keep_53 rfl ?_
        refine x_get 57 rfl f_Bc_61 d_Bc_keep_54 hm rfl ?_
        refine y_callV 60 rfl [_, _] _ rfl d_Bc_keep_57 g4.1 rfl c_Bc_64 rfl (Nat.le_of_ble_eq_true rfl) (Nat.le_of_ble_eq_true rfl) (Nat.le_of_ble_eq_true rfl) (s_Rt_put rfl hs g4 (fun w1 k1 k2 => ?_))
        refine x_vret d_Bc_keep_60 rfl ?_
        refine h w1 ?_ (k2.wide (by omega) (by omega))
        rw [bKr, if_pos (by rw [hc0]; rfl)]
        obtain ⟨f, g3a, g3b⟩ := g3
        refine ⟨?_, ?_, ⟨f, (k2.2.2 _ (by omega)).trans g3a, fun j hj => ?_⟩, ?_, fun s hs2 => ?_⟩
        · rw [k2.2.2 a (by omega), g1, fBc_congr]
          · intro s hs2; simp only [va_up]; rw [if_neg (by omega)]
          · intro s hs2; simp only [va_up]; rw [if_neg (by omega)]
        · refine (g2.kept (k2.2.2 _ (by omega)) (k2.2.2 _ (by omega))).congr (fun s hs2 => ?_) (fun s hs2 => ?_)
          · simp only [va_up]; rw [if_neg (by omega)]
          · simp only [va_up]; rw [if_neg (by omega)]
        · simp only [va_up]; rw [if_neg (by omega)]; exact g3b j hj
        · refine k1.congr (fun s hs2 => ?_) (fun s hs2 => ?_)
          · simp only [va_up]
            by_cases z : s = mg.1
            · rw [if_pos z, if_pos (by omega)]
            · rw [if_neg z, if_neg (by omega)]
          · simp only [va_up]
            by_cases z : s = mg.1
            · rw [if_pos z, if_pos (by omega)]
            · rw [if_neg z, if_neg (by omega)]
        · simp only [va_up]; rw [if_neg (by omega)]; exact g5 s hs2
    · have hk1 : mg.2.2.2.1 = 1 := (nI_eq (by omega) (by decide)).mp hc2
      have ek : bKeep me i β mg = bKe β mg := by rw [bKeep, if_neg hk0, if_pos hk1]
      rw [ek] at h
      refine x_aload_n 24 rfl d_Bc_keep_23 rfl ?_
      refine x_aload_n 25 rfl d_Bc_keep_24 rfl ?_
      refine y_callV 28 rfl [_] _ rfl d_Bc_keep_25 g1 rfl c_Bc_51 rfl (Nat.le_of_ble_eq_true rfl) (Nat.le_of_ble_eq_true rfl) (Nat.le_of_ble_eq_true rfl) (s_Bc_keepEcho hs hR0 hm (fun w1 k1 k2 => ?_))
      refine x_goto d_Bc_keep_28 60 (by decide) ?_
      refine x_vret d_Bc_keep_60 rfl ?_
      exact h w1 k1 k2
  · have hk0 : mg.2.2.2.1 = 0 := (nI_eq (by omega) (by decide)).mp hc
    have ek : bKeep me i β mg = bKv me i β mg := by rw [bKeep, if_pos hk0]
    rw [ek] at h
    refine x_aload_n 8 rfl d_Bc_keep_7 rfl ?_
    refine x_aload_n 9 rfl d_Bc_keep_8 rfl ?_
    refine y_callV 12 rfl [_] _ rfl d_Bc_keep_9 g1 rfl c_Bc_47 rfl (Nat.le_of_ble_eq_true rfl) (Nat.le_of_ble_eq_true rfl) (Nat.le_of_ble_eq_true rfl) (s_Bc_keepValue hme hi hs hR0 hm (fun w1 k1 k2 => ?_))
    refine x_goto d_Bc_keep_12 60 (by decide) ?_
    refine x_vret d_Bc_keep_60 rfl ?_
    exact h w1 k1 k2
end BC
end
section
/-! BROADCASTS SEND -/
section BS
variable {X : xPar} {sb L : Nat} {xs : Nat → Int32} {tI tE mi nb dyn c0 s0 mo me e i a : Nat} {q : Nat → List sMg} {β : sB} {w : xW} {P : Option Value → xW → Prop}
theorem s_Bc_proposalOf (hX : xS X sb L xs tI tE mi) {mm : Int32} {g : Nat → Bool} (hmm : mm = nI (cMk g)) (hR : rBc X nb me e i a β w) (h : P (some (.int (nI (cGv g (fun s => cUn (β.2 (16 + s))))))) w) : xE (xGG X) 2 m_Bc_proposalOf 0 [(0, .ref a), (1, .int mm)] [] w P := by
  subst hmm
  obtain ⟨g1, g2, ⟨f, g3, g3b⟩, g4, g5⟩ := hR
  have fe : ∀ s, s < 4 → f s = nI (cUn (β.2 (16 + s))) := fun s hs => (g3b s hs).trans (nI_cUn _).symm
  have rs : ∀ j, (List.range (j + 1)).filter g = (List.range j).filter g ++ (if g j = true then [j] else []) := fun j => by
    rw [List.range_succ, List.filter_append]
    by_cases z : g j = true
    · simp [z]
    · simp [z]
  have loop : ∀ (n j : Nat) (cc ll : Int32), cc = nI j → j + n = 4 → (((List.range j).filter g = [] ∧ ll = -1) ∨ ∃ k, (List.range j).filter g = [k] ∧ ll = nI k ∧ k < j) → xE (xGG X) 2 m_Bc_proposalOf 4 [(0, .ref a), (1, .int (nI (cMk g))), (2, .int ll), (3, .int cc)] [] w P := by
    intro n
    induction n with
    | zero =>
      intro j cc ll hcc hj hst
      have hj4 : j = 4 := by omega
      subst hj4 hcc
      have e0 : cGv g (fun s => cUn (β.2 (16 + s))) = 0 := by
        unfold cGv
        rcases hst with ⟨z, -⟩ | ⟨k, z, -⟩ <;> rw [z]
      refine x_iload_n 5 rfl d_Bc_proposalOf_4 rfl ?_
      refine x_iconst 6 rfl d_Bc_proposalOf_5 4 (by decide) ?_
      refine x_icmp_ge 49 9 rfl d_Bc_proposalOf_6 (by decide) (fun hc => ?_) (fun hc => absurd (by decide) hc)
      refine x_iconst 50 rfl d_Bc_proposalOf_49 0 (by decide) ?_
      refine x_iret d_Bc_proposalOf_50 rfl ?_
      rw [e0] at h
      exact h
    | succ n ih =>
      intro j cc ll hcc hj hst
      subst hcc
      have hj4 : j < 4 := by omega
      refine x_iload_n 5 rfl d_Bc_proposalOf_4 rfl ?_
      refine x_iconst 6 rfl d_Bc_proposalOf_5 4 (by decide) ?_
      refine x_icmp_ge 49 9 rfl d_Bc_proposalOf_6 (by decide) (fun hc => absurd hc (nI_ge (a := j) (b := 4) (by omega) (by decide))) (fun hc => ?_)
      refine x_iload_n 10 rfl d_Bc_proposalOf_9 rfl ?_
      refine x_iload_n 11 rfl d_Bc_proposalOf_10 rfl ?_
      refine x_ishr 12 rfl d_Bc_proposalOf_11 ?_
      refine x_iconst 13 rfl d_Bc_proposalOf_12 1 (by decide) ?_
      refine x_iand 14 rfl d_Bc_proposalOf_13 ?_
      refine x_iconst 15 rfl d_Bc_proposalOf_14 1 (by decide) ?_
      rw [bM1 g hj4]
      refine x_icmp_ne 43 18 rfl d_Bc_proposalOf_15 (by decide) (fun hc => ?_) (fun hc => ?_)
      · have hgj : ¬ g j = true := fun z => hc (by rw [z]; rfl)
        refine x_iinc 46 rfl d_Bc_proposalOf_43 rfl 1 (by decide) (by decide) ?_
        refine x_goto d_Bc_proposalOf_46 4 (by decide) ?_
        refine xE.fit (ih (j + 1) _ _ (nI_succ j).symm (by omega) ?_) rfl
        rw [rs j, if_neg hgj, List.append_nil]
        rcases hst with z | ⟨k, z1, z2, z3⟩
        · exact Or.inl z
        · exact Or.inr ⟨k, z1, z2, by omega⟩
      · have hgj : g j = true := (nB_1 _).mp hc
        refine x_iload_n 19 rfl d_Bc_proposalOf_18 rfl ?_
        refine x_iconst 20 rfl d_Bc_proposalOf_19 (-1) (by decide) ?_
        rcases hst with ⟨z1, rfl⟩ | ⟨k, z1, rfl, z3⟩
        · refine x_icmp_eq 41 23 rfl d_Bc_proposalOf_20 (by decide) (fun hc => ?_) (fun hc => absurd rfl hc)
          refine x_iload_n 42 rfl d_Bc_proposalOf_41 rfl ?_
          refine x_istore_n 43 rfl d_Bc_proposalOf_42 (by decide) ?_
          refine x_iinc 46 rfl d_Bc_proposalOf_43 rfl 1 (by decide) (by decide) ?_
          refine x_goto d_Bc_proposalOf_46 4 (by decide) ?_
          refine xE.fit (ih (j + 1) _ _ (nI_succ j).symm (by omega) (Or.inr ⟨j, ?_, rfl, by omega⟩)) rfl
          rw [rs j, if_pos hgj, z1]; rfl
        · refine x_icmp_eq 41 23 rfl d_Bc_proposalOf_20 (by decide) (fun hc => absurd hc ((by decide +kernel : ∀ s, s < 4 → ¬ nI s = -1) k (by omega))) (fun hc => ?_)
          refine x_iload_n 24 rfl d_Bc_proposalOf_23 rfl ?_
          refine x_aload_n 25 rfl d_Bc_proposalOf_24 rfl ?_
          refine x_get 28 rfl f_Bc_18 d_Bc_proposalOf_25 g1 rfl ?_
          refine x_iload_n 29 rfl d_Bc_proposalOf_28 rfl ?_
          refine x_iald 30 rfl d_Bc_proposalOf_29 g3 (t0 := 0) rfl (vp_in_nI (by omega) (by decide)) ?_
          refine x_iload_n 31 rfl d_Bc_proposalOf_30 rfl ?_
          refine x_aload_n 32 rfl d_Bc_proposalOf_31 rfl ?_
          refine x_get 35 rfl f_Bc_18 d_Bc_proposalOf_32 g1 rfl ?_
          refine x_iload_n 36 rfl d_Bc_proposalOf_35 rfl ?_
          rw [nI_clamp (by omega), fe k (by omega)]
          refine x_iald 37 rfl d_Bc_proposalOf_36 g3 (t0 := 0) rfl (vp_in_nI (by omega) (by decide)) ?_
          rw [nI_clamp (by omega), fe j hj4]
          refine y_call 40 rfl [_, _, _, _] _ rfl d_Bc_proposalOf_37 c_Bc_126 rfl (Nat.le_of_ble_eq_true rfl) (Nat.le_of_ble_eq_true rfl) (Nat.le_of_ble_eq_true rfl) (s_Co_proposalWith hX rfl rfl rfl rfl (by omega) hj4 (by omega) (g5 k (by omega)) (g5 j hj4) ?_)
          refine x_iret d_Bc_proposalOf_40 rfl ?_
          have hfil : ∃ t, (List.range 4).filter g = k :: j :: t := by
            have h5 : (List.range (j + 1)).filter g = [k, j] := by rw [rs j, if_pos hgj, z1]; rfl
            have h6 : List.range 4 = List.range (j + 1) ++ (List.range 4).drop (j + 1) := by
              rcases lt4 hj4 with rfl | rfl | rfl | rfl <;> rfl
            rw [h6, List.filter_append, h5]
            exact ⟨_, rfl⟩
          obtain ⟨t, ht⟩ := hfil
          have e0 : cGv g (fun s => cUn (β.2 (16 + s))) = cSv k (cUn (β.2 (16 + k))) j (cUn (β.2 (16 + j))) := by
            unfold cGv
            rw [ht]
          rw [e0] at h
          exact h
  refine x_iconst 1 rfl d_Bc_proposalOf_0 (-1) (by decide) ?_
  refine x_istore_n 2 rfl d_Bc_proposalOf_1 (by decide) ?_
  refine x_iconst 3 rfl d_Bc_proposalOf_2 0 (by decide) ?_
  refine x_istore_n 4 rfl d_Bc_proposalOf_3 (by decide) ?_
  exact xE.fit (loop 4 0 0 (-1) rfl rfl (Or.inl ⟨rfl, rfl⟩)) rfl
theorem s_Bc_sendReady (hX : xS X sb L xs tI tE mi) {root : Int32} (hmo : mo < 90000) (hN : rNt X tE nb dyn c0 s0 mo q w) (hR : rBc X nb me e i a β w) (ha : nb + 10 ≤ a) (had : a + 6 ≤ dyn) (h : ∀ w', rNt X tE nb dyn c0 s0 (mo + 1) (qAll q (me, e, i, 2, root, 0)) w' → rBc X nb me e i a (va_up β.1 2 true, β.2) w' → frS X nb dyn a (a + 6) w w' → P none w') : xE (xGG X) 8 m_Bc_sendReady 0 [(0, .ref a), (1, .int root)] [] w P := by
  have g1 := hR.1
  have hql := hN.2.2.2.2.2.2.2
  have hb := hN.2.2.2.2.2.2.1
  have hdw := hN.2.2.1
  refine x_aload_n 1 rfl d_Bc_sendReady_0 rfl ?_
  refine x_iconst 2 rfl d_Bc_sendReady_1 1 (by decide) ?_
  refine x_put 5 rfl p_Bc_98 (fun h => nomatch h) d_Bc_sendReady_2 g1 rfl rfl (Nat.le_of_ble_eq_true rfl) ?_
  generalize hw1 : xset w a _ = w1
  have f1 : fr w w1 a (a + 6) := by rw [← hw1]; exact (fr.rf w a (a + 6)).set _ (by omega) (by omega)
  have hN1 := hN.own f1 hR.cells ha had
  have hR1 : rBc X nb me e i a (va_up β.1 2 true, β.2) w1 := by
    refine hR.obj ?_ (fun x hx => by rw [← hw1, xset_ne _ _ hx]) (fun s hs => by simp only [va_up]; rw [if_neg (by omega)]) (fun s hs => rfl)
    rw [← hw1, xset_at]; rfl
  have k1 := hR1.1
  refine x_aload_n 6 rfl d_Bc_sendReady_5 rfl ?_
  refine x_get 9 rfl f_Bc_29 d_Bc_sendReady_6 k1 rfl ?_
  refine x_new 12 rfl d_Bc_sendReady_9 (ci := 3) (ty := t_Ms) (fs := [.int 0, .int 0, .int 0, .int 0, .int 0, .int 0]) rfl l_Ms t_Ms_ok q_Bc_43 i_Ms z_Ms (by decide) ?_
  have k1' : (xnew w1 6 (.inr (3, [.int 0, .int 0, .int 0, .int 0, .int 0, .int 0]))).2.2 a = some (.inr (1, fBc nb me e i a (va_up β.1 2 true, β.2))) := by rw [xnew_ne _ _ _ (by have := f1.1; omega)]; exact k1
  refine x_dup 13 rfl d_Bc_sendReady_12 rfl ?_
  refine x_aload_n 14 rfl d_Bc_sendReady_13 rfl ?_
  refine x_get 17 rfl f_Bc_33 d_Bc_sendReady_14 k1' rfl ?_
  refine x_aload_n 18 rfl d_Bc_sendReady_17 rfl ?_
  refine x_get 21 rfl f_Bc_36 d_Bc_sendReady_18 k1' rfl ?_
  refine x_aload_n 22 rfl d_Bc_sendReady_21 rfl ?_
  refine x_get 25 rfl f_Bc_39 d_Bc_sendReady_22 k1' rfl ?_
  refine x_iconst 26 rfl d_Bc_sendReady_25 2 (by decide) ?_
  refine x_iload_n 27 rfl d_Bc_sendReady_26 rfl ?_
  refine x_iconst 28 rfl d_Bc_sendReady_27 0 (by decide) ?_
  refine y_callI 31 rfl [_, _, _, _, _, _] _ rfl d_Bc_sendReady_28 c_Bc_90 rfl (Nat.le_of_ble_eq_true rfl) (Nat.le_of_ble_eq_true rfl) (Nat.le_of_ble_eq_true rfl) (s_Ms_init (mg := (me, e, i, 2, root, 0)) rfl (xnew_at _ _ _) rfl (fun w2 j1 j2 j3 j4 => ?_))
  have j5 : ∀ x, x ≠ w1.1 → w2.2.2 x = w1.2.2 x := fun x hx => by rw [j4 x hx, xnew_ne _ _ _ hx]
  have hN2 := hN1.msg j1 j2 j5
  obtain ⟨ed, cap, -, -, -, hk4, -, -⟩ := hql
  refine y_callV 34 rfl [_] _ rfl d_Bc_sendReady_31 hN2.2.2.2.1 rfl c_Bc_93 rfl (Nat.le_of_ble_eq_true rfl) (Nat.le_of_ble_eq_true rfl) (Nat.le_of_ble_eq_true rfl) (s_Nt_sendToAll hX (by omega) hN2 j3 (fun j hj => by have := hk4 j hj; omega) (fun w3 m1 m2 => ?_))
  refine x_vret d_Bc_sendReady_34 rfl ?_
  have fin : ∀ x, X.2.1 ≤ x → x < dyn → (∀ j, j < 4 → x ≠ nb + 3 + 2 * j) → w3.2.2 x = w1.2.2 x := fun x x1 x2 x3 => (m2.1 x x1 x2 x3).trans (j5 x (by have := f1.1; omega))
  refine h w3 m1 (hR1.kept (fun x x1 x2 => fin x (by omega) (by omega) (fun j hj => by omega))) ⟨fun x x1 x2 x3 x4 => (fin x x1 x2 x4).trans (f1.2.2 x x3), fun m fs hm => ?_⟩
  have hm1 := (fr.S (X := X) nb dyn f1 hR.cells).2 m fs hm
  exact m2.2 m fs (by rw [j5 m (by have := hN1.1 _ _ hm1; omega)]; exact hm1)
theorem s_Bc_sendEchoIfDue (hX : xS X sb L xs tI tE mi) (hmo : mo < 90000) (hN : rNt X tE nb dyn c0 s0 mo q w) (hR : rBc X nb me e i a β w) (ha : nb + 10 ≤ a) (had : a + 6 ≤ dyn) (h : ∀ w', (if (β.1 0 && !β.1 1) = true then rNt X tE nb dyn c0 s0 (mo + 1) (qAll q (me, e, i, 1, β.2 0, β.2 1)) w' ∧ rBc X nb me e i a (va_up β.1 1 true, β.2) w' else rNt X tE nb dyn c0 s0 mo q w' ∧ rBc X nb me e i a β w') → frS X nb dyn a (a + 6) w w' → P none w') : xE (xGG X) 8 m_Bc_sendEchoIfDue 0 [(0, .ref a)] [] w P := by
  have g1 := hR.1
  have hql := hN.2.2.2.2.2.2.2
  have hb := hN.2.2.2.2.2.2.1
  have hdw := hN.2.2.1
  refine x_aload_n 1 rfl d_Bc_sendEchoIfDue_0 rfl ?_
  refine x_get 4 rfl f_Bc_68 d_Bc_sendEchoIfDue_1 g1 rfl ?_
  refine x_if_eq 54 7 rfl d_Bc_sendEchoIfDue_4 (by decide) (fun hc => ?_) (fun hc => ?_)
  · refine x_vret d_Bc_sendEchoIfDue_54 rfl ?_
    exact h w (by rw [if_neg (by rw [(nB_0 _).mp hc]; simp)]; exact ⟨hN, hR⟩) (frS.rf _ _ _ _ _ _)
  refine x_aload_n 8 rfl d_Bc_sendEchoIfDue_7 rfl ?_
  refine x_get 11 rfl f_Bc_87 d_Bc_sendEchoIfDue_8 g1 rfl ?_
  refine x_if_ne 54 14 rfl d_Bc_sendEchoIfDue_11 (by decide) (fun hc2 => ?_) (fun hc2 => ?_)
  · refine x_vret d_Bc_sendEchoIfDue_54 rfl ?_
    exact h w (by rw [if_neg (by rw [nB_ne hc2]; simp)]; exact ⟨hN, hR⟩) (frS.rf _ _ _ _ _ _)
  refine x_aload_n 15 rfl d_Bc_sendEchoIfDue_14 rfl ?_
  refine x_iconst 16 rfl d_Bc_sendEchoIfDue_15 1 (by decide) ?_
  refine x_put 19 rfl p_Bc_87 (fun h => nomatch h) d_Bc_sendEchoIfDue_16 g1 rfl rfl (Nat.le_of_ble_eq_true rfl) ?_
  generalize hw1 : xset w a _ = w1
  have f1 : fr w w1 a (a + 6) := by rw [← hw1]; exact (fr.rf w a (a + 6)).set _ (by omega) (by omega)
  have hN1 := hN.own f1 hR.cells ha had
  have hR1 : rBc X nb me e i a (va_up β.1 1 true, β.2) w1 := by
    refine hR.obj ?_ (fun x hx => by rw [← hw1, xset_ne _ _ hx]) (fun s hs => by simp only [va_up]; rw [if_neg (by omega)]) (fun s hs => rfl)
    rw [← hw1, xset_at]; rfl
  have k1 := hR1.1
  refine x_aload_n 20 rfl d_Bc_sendEchoIfDue_19 rfl ?_
  refine x_get 23 rfl f_Bc_29 d_Bc_sendEchoIfDue_20 k1 rfl ?_
  refine x_new 26 rfl d_Bc_sendEchoIfDue_23 (ci := 3) (ty := t_Ms) (fs := [.int 0, .int 0, .int 0, .int 0, .int 0, .int 0]) rfl l_Ms t_Ms_ok q_Bc_43 i_Ms z_Ms (by decide) ?_
  have k1' : (xnew w1 6 (.inr (3, [.int 0, .int 0, .int 0, .int 0, .int 0, .int 0]))).2.2 a = some (.inr (1, fBc nb me e i a (va_up β.1 1 true, β.2))) := by rw [xnew_ne _ _ _ (by have := f1.1; omega)]; exact k1
  refine x_dup 27 rfl d_Bc_sendEchoIfDue_26 rfl ?_
  refine x_aload_n 28 rfl d_Bc_sendEchoIfDue_27 rfl ?_
  refine x_get 31 rfl f_Bc_33 d_Bc_sendEchoIfDue_28 k1' rfl ?_
  refine x_aload_n 32 rfl d_Bc_sendEchoIfDue_31 rfl ?_
  refine x_get 35 rfl f_Bc_36 d_Bc_sendEchoIfDue_32 k1' rfl ?_
  refine x_aload_n 36 rfl d_Bc_sendEchoIfDue_35 rfl ?_
  refine x_get 39 rfl f_Bc_39 d_Bc_sendEchoIfDue_36 k1' rfl ?_
  refine x_iconst 40 rfl d_Bc_sendEchoIfDue_39 1 (by decide) ?_
  refine x_aload_n 41 rfl d_Bc_sendEchoIfDue_40 rfl ?_
  refine x_get 44 rfl f_Bc_81 d_Bc_sendEchoIfDue_41 k1' rfl ?_
  refine x_aload_n 45 rfl d_Bc_sendEchoIfDue_44 rfl ?_
  refine x_get 48 rfl f_Bc_84 d_Bc_sendEchoIfDue_45 k1' rfl ?_
  refine y_callI 51 rfl [_, _, _, _, _, _] _ rfl d_Bc_sendEchoIfDue_48 c_Bc_90 rfl (Nat.le_of_ble_eq_true rfl) (Nat.le_of_ble_eq_true rfl) (Nat.le_of_ble_eq_true rfl) (s_Ms_init (mg := (me, e, i, 1, β.2 0, β.2 1)) rfl (xnew_at _ _ _) rfl (fun w2 j1 j2 j3 j4 => ?_))
  have j5 : ∀ x, x ≠ w1.1 → w2.2.2 x = w1.2.2 x := fun x hx => by rw [j4 x hx, xnew_ne _ _ _ hx]
  have hN2 := hN1.msg j1 j2 j5
  obtain ⟨ed, cap, -, -, -, hk4, -, -⟩ := hql
  refine y_callV 54 rfl [_] _ rfl d_Bc_sendEchoIfDue_51 hN2.2.2.2.1 rfl c_Bc_93 rfl (Nat.le_of_ble_eq_true rfl) (Nat.le_of_ble_eq_true rfl) (Nat.le_of_ble_eq_true rfl) (s_Nt_sendToAll hX (by omega) hN2 j3 (fun j hj => by have := hk4 j hj; omega) (fun w3 m1 m2 => ?_))
  refine x_vret d_Bc_sendEchoIfDue_54 rfl ?_
  have fin : ∀ x, X.2.1 ≤ x → x < dyn → (∀ j, j < 4 → x ≠ nb + 3 + 2 * j) → w3.2.2 x = w1.2.2 x := fun x x1 x2 x3 => (m2.1 x x1 x2 x3).trans (j5 x (by have := f1.1; omega))
  refine h w3 (by rw [if_pos (by rw [nB_ne hc, (nB_0 _).mp hc2]; rfl)]; exact ⟨m1, hR1.kept (fun x x1 x2 => fin x (by omega) (by omega) (fun j hj => by omega))⟩) ⟨fun x x1 x2 x3 x4 => (fin x x1 x2 x4).trans (f1.2.2 x x3), fun m fs hm => ?_⟩
  have hm1 := (fr.S (X := X) nb dyn f1 hR.cells).2 m fs hm
  exact m2.2 m fs (by rw [j5 m (by have := hN1.1 _ _ hm1; omega)]; exact hm1)
/-- what 'ready if due' sends -/
def oR (X : xPar) (tE nb dyn c0 s0 mo me e i a : Nat) (q : Nat → List sMg) (β : sB) (o : Option Int32) (w' : xW) : Prop := match o with
  | some root => rNt X tE nb dyn c0 s0 (mo + 1) (qAll q (me, e, i, 2, root, 0)) w' ∧ rBc X nb me e i a (va_up β.1 2 true, β.2) w'
  | none => rNt X tE nb dyn c0 s0 mo q w' ∧ rBc X nb me e i a β w'
theorem s_Bc_ready2 (hX : xS X sb L xs tI tE mi) (hmo : mo < 90000) (hN : rNt X tE nb dyn c0 s0 mo q w) (hR : rBc X nb me e i a β w) (ha : nb + 10 ≤ a) (had : a + 6 ≤ dyn) (h : ∀ w', oR X tE nb dyn c0 s0 mo me e i a q β (bRd2 β) w' → frS X nb dyn a (a + 6) w w' → P none w') : xE (xGG X) 9 m_Bc_sendReadyIfDue 57 [(0, .ref a)] [] w P := by
  have hR0 := hR
  obtain ⟨g1, g2, g3, g4, g5⟩ := hR
  refine x_aload_n 58 rfl d_Bc_sendReadyIfDue_57 rfl ?_
  refine x_get 61 rfl f_Bc_22 d_Bc_sendReadyIfDue_58 g1 rfl ?_
  refine x_iconst 62 rfl d_Bc_sendReadyIfDue_61 2 (by decide) ?_
  refine y_callV 65 rfl [_] _ rfl d_Bc_sendReadyIfDue_62 g4.1 rfl c_Bc_101 rfl (Nat.le_of_ble_eq_true rfl) (Nat.le_of_ble_eq_true rfl) (Nat.le_of_ble_eq_true rfl) (s_Rt_leastOfShared (n := 2) rfl (by decide) g4 ?_)
  refine x_istore_n 66 rfl d_Bc_sendReadyIfDue_65 (by decide) ?_
  refine x_iload_n 67 rfl d_Bc_sendReadyIfDue_66 rfl ?_
  refine x_iconst 68 rfl d_Bc_sendReadyIfDue_67 (-1) (by decide) ?_
  refine x_icmp_eq 84 71 rfl d_Bc_sendReadyIfDue_68 (by decide) (fun hc => ?_) (fun hc => ?_)
  · refine x_vret d_Bc_sendReadyIfDue_84 rfl ?_
    have h5 := (iO_ne (fun s hs => cFs_lt hs)).mp hc
    have h6 : bRd2 β = none := by rw [bRd2, h5]; rfl
    exact h w (by rw [h6]; exact ⟨hN, hR0⟩) (frS.rf _ _ _ _ _ _)
  · cases h5 : cFs (fun s => β.1 (16 + s)) (fun s => β.2 (24 + s)) 2 with
    | none => rw [h5] at hc; exact absurd rfl hc
    | some s =>
      have hs4 := cFs_lt h5
      have h6 : bRd2 β = some (β.2 (24 + s)) := by rw [bRd2, h5]; rfl
      obtain ⟨f, g6, g7⟩ := g4.2
      refine x_aload_n 72 rfl d_Bc_sendReadyIfDue_71 rfl ?_
      refine x_aload_n 73 rfl d_Bc_sendReadyIfDue_72 rfl ?_
      refine x_get 76 rfl f_Bc_22 d_Bc_sendReadyIfDue_73 g1 rfl ?_
      refine x_get 79 rfl f_Bc_105 d_Bc_sendReadyIfDue_76 g4.1 rfl ?_
      refine x_iload_n 80 rfl d_Bc_sendReadyIfDue_79 rfl ?_
      refine x_iald 81 rfl d_Bc_sendReadyIfDue_80 g6 (t0 := 0) rfl (vp_in_nI hs4 (by decide)) ?_
      rw [show f (iO (some s)).toNatClampNeg = β.2 (24 + s) by show f (nI s).toNatClampNeg = _; rw [nI_clamp (by omega)]; exact g7 s hs4]
      refine y_callV 84 rfl [_] _ rfl d_Bc_sendReadyIfDue_81 g1 rfl c_Bc_117 rfl (Nat.le_of_ble_eq_true rfl) (Nat.le_of_ble_eq_true rfl) (Nat.le_of_ble_eq_true rfl) (s_Bc_sendReady hX hmo hN hR0 ha had (fun w' h7 h8 h9 => ?_))
      refine x_vret d_Bc_sendReadyIfDue_84 rfl ?_
      exact h w' (by rw [h6]; exact ⟨h7, h8⟩) h9
theorem bReady_n {β : sB} (h : cFs (fun s => β.1 (8 + s)) (fun s => β.2 (8 + s)) 3 = none) : bReady β = bRd2 β := by rw [bReady, h]
theorem bReady_f {β : sB} {s : Nat} (h : cFs (fun s => β.1 (8 + s)) (fun s => β.2 (8 + s)) 3 = some s) (h2 : ¬ bMk β (β.2 (8 + s)) = true) : bReady β = bRd2 β := by rw [bReady, h]; simp [h2]
theorem bReady_t {β : sB} {s : Nat} (h : cFs (fun s => β.1 (8 + s)) (fun s => β.2 (8 + s)) 3 = some s) (h2 : bMk β (β.2 (8 + s)) = true) : bReady β = some (β.2 (8 + s)) := by rw [bReady, h]; simp only [h2, if_true]
theorem bMk_iff {β : sB} {root : Int32} : bMk β root = true ↔ cRoot (bGvR β root % 256) (bGvR β root / 256) = root := by unfold bMk; exact decide_eq_true_iff
theorem s_Bc_sendReadyIfDue (hX : xS X sb L xs tI tE mi) (hmo : mo < 90000) (hN : rNt X tE nb dyn c0 s0 mo q w) (hR : rBc X nb me e i a β w) (ha : nb + 10 ≤ a) (had : a + 6 ≤ dyn) (h : ∀ w', oR X tE nb dyn c0 s0 mo me e i a q β (if β.1 2 = true then none else bReady β) w' → frS X nb dyn a (a + 6) w w' → P none w') : xE (xGG X) 9 m_Bc_sendReadyIfDue 0 [(0, .ref a)] [] w P := by
  have hR0 := hR
  obtain ⟨g1, g2, g3, g4, g5⟩ := hR
  refine x_aload_n 1 rfl d_Bc_sendReadyIfDue_0 rfl ?_
  refine x_get 4 rfl f_Bc_98 d_Bc_sendReadyIfDue_1 g1 rfl ?_
  refine x_if_eq 8 7 rfl d_Bc_sendReadyIfDue_4 (by decide) (fun hc => ?_) (fun hc => ?_)
  rotate_left
  · refine x_vret d_Bc_sendReadyIfDue_7 rfl ?_
    exact h w (by rw [if_pos (nB_ne hc)]; exact ⟨hN, hR0⟩) (frS.rf _ _ _ _ _ _)
  have hs0 : ¬ β.1 2 = true := by rw [(nB_0 _).mp hc]; decide
  rw [if_neg hs0] at h
  refine x_aload_n 9 rfl d_Bc_sendReadyIfDue_8 rfl ?_
  refine x_get 12 rfl f_Bc_12 d_Bc_sendReadyIfDue_9 g1 rfl ?_
  refine x_iconst 13 rfl d_Bc_sendReadyIfDue_12 3 (by decide) ?_
  refine y_callV 16 rfl [_] _ rfl d_Bc_sendReadyIfDue_13 g2.1 rfl c_Bc_101 rfl (Nat.le_of_ble_eq_true rfl) (Nat.le_of_ble_eq_true rfl) (Nat.le_of_ble_eq_true rfl) (s_Rt_leastOfShared (n := 3) rfl (by decide) g2 ?_)
  refine x_istore_n 17 rfl d_Bc_sendReadyIfDue_16 (by decide) ?_
  refine x_iload_n 18 rfl d_Bc_sendReadyIfDue_17 rfl ?_
  refine x_iconst 19 rfl d_Bc_sendReadyIfDue_18 (-1) (by decide) ?_
  refine x_icmp_eq 57 22 rfl d_Bc_sendReadyIfDue_19 (by decide) (fun hc => ?_) (fun hc => ?_)
  · have h5 := (iO_ne (fun s hs => cFs_lt hs)).mp hc
    rw [bReady_n h5] at h
    exact xE.fit (s_Bc_ready2 hX hmo hN hR0 ha had h) rfl
  · cases h5 : cFs (fun s => β.1 (8 + s)) (fun s => β.2 (8 + s)) 3 with
    | none => rw [h5] at hc; exact absurd rfl hc
    | some s =>
      have hs4 := cFs_lt h5
      obtain ⟨f, g6, g7⟩ := g2.2
      refine x_aload_n 23 rfl d_Bc_sendReadyIfDue_22 rfl ?_
      refine x_get 26 rfl f_Bc_12 d_Bc_sendReadyIfDue_23 g1 rfl ?_
      refine x_get 29 rfl f_Bc_105 d_Bc_sendReadyIfDue_26 g2.1 rfl ?_
      refine x_iload_n 30 rfl d_Bc_sendReadyIfDue_29 rfl ?_
      refine x_iald 31 rfl d_Bc_sendReadyIfDue_30 g6 (t0 := 0) rfl (vp_in_nI hs4 (by decide)) ?_
      rw [show f (iO (some s)).toNatClampNeg = β.2 (8 + s) by show f (nI s).toNatClampNeg = _; rw [nI_clamp (by omega)]; exact g7 s hs4]
      have hgl : bGvR β (β.2 (8 + s)) < 65536 := bGvR_lt g5
      refine x_istore_n 32 rfl d_Bc_sendReadyIfDue_31 (by decide) ?_
      refine x_aload_n 33 rfl d_Bc_sendReadyIfDue_32 rfl ?_
      refine x_aload_n 34 rfl d_Bc_sendReadyIfDue_33 rfl ?_
      refine x_get 37 rfl f_Bc_12 d_Bc_sendReadyIfDue_34 g1 rfl ?_
      refine x_iload_n 38 rfl d_Bc_sendReadyIfDue_37 rfl ?_
      refine y_callV 41 rfl [_] _ rfl d_Bc_sendReadyIfDue_38 g2.1 rfl c_Bc_108 rfl (Nat.le_of_ble_eq_true rfl) (Nat.le_of_ble_eq_true rfl) (Nat.le_of_ble_eq_true rfl) (s_Rt_sendersOf g2 ?_)
      refine y_callV 44 rfl [_] _ rfl d_Bc_sendReadyIfDue_41 g1 rfl c_Bc_111 rfl (Nat.le_of_ble_eq_true rfl) (Nat.le_of_ble_eq_true rfl) (Nat.le_of_ble_eq_true rfl) (s_Bc_proposalOf hX rfl hR0 ?_)
      rw [show cGv (fun s_1 => β.1 (8 + s_1) && decide (β.2 (8 + s_1) = β.2 (8 + s))) (fun s => cUn (β.2 (16 + s))) = bGvR β (β.2 (8 + s)) from rfl]
      generalize hgv : bGvR β (β.2 (8 + s)) = gv at hgl ⊢
      refine y_call 47 rfl [_] _ rfl d_Bc_sendReadyIfDue_44 c_Bc_114 rfl (Nat.le_of_ble_eq_true rfl) (Nat.le_of_ble_eq_true rfl) (Nat.le_of_ble_eq_true rfl) (s_Co_rootOf rfl hgl ?_)
      refine x_iload_n 48 rfl d_Bc_sendReadyIfDue_47 rfl ?_
      refine x_icmp_ne 57 51 rfl d_Bc_sendReadyIfDue_48 (by decide) (fun hc2 => ?_) (fun hc2 => ?_)
      · have h6 : ¬ bMk β (β.2 (8 + s)) = true := fun z => hc2 (by have := bMk_iff.mp z; rw [hgv] at this; exact this)
        rw [bReady_f h5 h6] at h
        exact xE.fit (s_Bc_ready2 hX hmo hN hR0 ha had h) rfl
      · have h6 : bMk β (β.2 (8 + s)) = true := bMk_iff.mpr (by rw [hgv]; exact hc2)
        rw [bReady_t h5 h6] at h
        refine x_aload_n 52 rfl d_Bc_sendReadyIfDue_51 rfl ?_
        refine x_iload_n 53 rfl d_Bc_sendReadyIfDue_52 rfl ?_
        refine y_callV 56 rfl [_] _ rfl d_Bc_sendReadyIfDue_53 g1 rfl c_Bc_117 rfl (Nat.le_of_ble_eq_true rfl) (Nat.le_of_ble_eq_true rfl) (Nat.le_of_ble_eq_true rfl) (s_Bc_sendReady hX hmo hN hR0 ha had (fun w' h7 h8 h9 => ?_))
        refine x_vret d_Bc_sendReadyIfDue_56 rfl ?_
        exact h w' ⟨h7, h8⟩ h9
set_option maxRecDepth 100000 in
/-- the proposal as the class holds it -/
theorem s_Bc_takeProposalIfDue (hX : xS X sb L xs tI tE mi) (hR : rBc X nb me e i a β w) (h : ∀ w', rBc X nb me e i a (match (if β.2 2 = -1 then bProp β else none) with
      | some n => (β.1, va_up β.2 2 (nI n))
      | none => β) w' → fr w w' a (a + 6) → P none w') : xE (xGG X) 3 m_Bc_takeProposalIfDue 0 [(0, .ref a)] [] w P := by
  have hR0 := hR
  obtain ⟨g1, g2, g3, g4, g5⟩ := hR
  refine x_aload_n 1 rfl d_Bc_takeProposalIfDue_0 rfl ?_
  refine x_get 4 rfl f_Bc_25 d_Bc_takeProposalIfDue_1 g1 rfl ?_
  refine x_iconst 5 rfl d_Bc_takeProposalIfDue_4 (-1) (by decide) ?_
  refine x_icmp_eq 9 8 rfl d_Bc_takeProposalIfDue_5 (by decide) (fun hc => ?_) (fun hc => ?_)
  rotate_left
  · refine x_vret d_Bc_takeProposalIfDue_8 rfl ?_
    exact h w (by rw [if_neg hc]; exact hR0) (fr.rf _ _ _)
  rw [if_pos hc] at h
  have same : bProp β = none → P none w := fun z => h w (by rw [z]; exact hR0) (fr.rf _ _ _)
  refine x_aload_n 10 rfl d_Bc_takeProposalIfDue_9 rfl ?_
  refine x_get 13 rfl f_Bc_22 d_Bc_takeProposalIfDue_10 g1 rfl ?_
  refine x_iconst 14 rfl d_Bc_takeProposalIfDue_13 3 (by decide) ?_
  refine y_callV 17 rfl [_] _ rfl d_Bc_takeProposalIfDue_14 g4.1 rfl c_Bc_101 rfl (Nat.le_of_ble_eq_true rfl) (Nat.le_of_ble_eq_true rfl) (Nat.le_of_ble_eq_true rfl) (s_Rt_leastOfShared (n := 3) rfl (by decide) g4 ?_)
  refine x_istore_n 18 rfl d_Bc_takeProposalIfDue_17 (by decide) ?_
  refine x_iload_n 19 rfl d_Bc_takeProposalIfDue_18 rfl ?_
  refine x_iconst 20 rfl d_Bc_takeProposalIfDue_19 (-1) (by decide) ?_
  refine x_icmp_ne 24 23 rfl d_Bc_takeProposalIfDue_20 (by decide) (fun hc => ?_) (fun hc => ?_)
  rotate_left
  · refine x_vret d_Bc_takeProposalIfDue_23 rfl ?_
    have h5 := (iO_ne (fun s hs => cFs_lt hs)).mp hc
    exact same (by rw [bProp, h5])
  cases h5 : cFs (fun s => β.1 (16 + s)) (fun s => β.2 (24 + s)) 3 with
  | none => rw [h5] at hc; exact absurd rfl hc
  | some s =>
    have hs4 := cFs_lt h5
    obtain ⟨f, g6, g7⟩ := g4.2
    refine x_aload_n 25 rfl d_Bc_takeProposalIfDue_24 rfl ?_
    refine x_get 28 rfl f_Bc_22 d_Bc_takeProposalIfDue_25 g1 rfl ?_
    refine x_get 31 rfl f_Bc_105 d_Bc_takeProposalIfDue_28 g4.1 rfl ?_
    refine x_iload_n 32 rfl d_Bc_takeProposalIfDue_31 rfl ?_
    refine x_iald 33 rfl d_Bc_takeProposalIfDue_32 g6 (t0 := 0) rfl (vp_in_nI hs4 (by decide)) ?_
    rw [show f (iO (some s)).toNatClampNeg = β.2 (24 + s) by show f (nI s).toNatClampNeg = _; rw [nI_clamp (by omega)]; exact g7 s hs4]
    refine x_istore_n 34 rfl d_Bc_takeProposalIfDue_33 (by decide) ?_
    refine x_aload_n 35 rfl d_Bc_takeProposalIfDue_34 rfl ?_
    refine x_get 38 rfl f_Bc_12 d_Bc_takeProposalIfDue_35 g1 rfl ?_
    refine x_iload_n 39 rfl d_Bc_takeProposalIfDue_38 rfl ?_
    refine y_callV 42 rfl [_] _ rfl d_Bc_takeProposalIfDue_39 g2.1 rfl c_Bc_108 rfl (Nat.le_of_ble_eq_true rfl) (Nat.le_of_ble_eq_true rfl) (Nat.le_of_ble_eq_true rfl) (s_Rt_sendersOf g2 ?_)
    refine x_istore_n 43 rfl d_Bc_takeProposalIfDue_42 (by decide) ?_
    refine x_iload_n 44 rfl d_Bc_takeProposalIfDue_43 rfl ?_
    refine y_call 47 rfl [_] _ rfl d_Bc_takeProposalIfDue_44 c_Bc_121 rfl (Nat.le_of_ble_eq_true rfl) (Nat.le_of_ble_eq_true rfl) (Nat.le_of_ble_eq_true rfl) (s_It_bitCount rfl (cMk_lt _) ?_)
    refine x_iconst 48 rfl d_Bc_takeProposalIfDue_47 2 (by decide) ?_
    have hle := cPop_le (cMk (fun s_1 => β.1 (8 + s_1) && decide (β.2 (8 + s_1) = β.2 (24 + s))))
    refine x_icmp_lt 77 51 rfl d_Bc_takeProposalIfDue_48 (by decide) (fun hc2 => ?_) (fun hc2 => ?_)
    · refine x_vret d_Bc_takeProposalIfDue_77 rfl ?_
      have h6 := (nI_ltI (b := 2) (by omega) (by decide)).mp hc2
      refine same ?_
      rw [bProp, h5]
      exact if_neg (Nat.not_le.mpr h6)
    · have h6 : 2 ≤ cCt (fun s => β.1 (8 + s)) (fun s => β.2 (8 + s)) (β.2 (24 + s)) := by
        by_cases z : 2 ≤ cCt (fun s => β.1 (8 + s)) (fun s => β.2 (8 + s)) (β.2 (24 + s))
        · exact z
        · exact absurd (nI_lt (b := 2) (Nat.not_le.mp z) (by decide)) hc2
      have hpr : bProp β = some (if bMk β (β.2 (24 + s)) = true then bGvR β (β.2 (24 + s)) else 0) := by
        rw [bProp, h5]
        exact if_pos h6
      rw [hpr] at h
      clear hpr same
      have hgl : bGvR β (β.2 (24 + s)) < 65536 := bGvR_lt g5
      refine x_aload_n 52 rfl d_Bc_takeProposalIfDue_51 rfl ?_
      refine x_iload_n 53 rfl d_Bc_takeProposalIfDue_52 rfl ?_
      refine y_callV 56 rfl [_] _ rfl d_Bc_takeProposalIfDue_53 g1 rfl c_Bc_111 rfl (Nat.le_of_ble_eq_true rfl) (Nat.le_of_ble_eq_true rfl) (Nat.le_of_ble_eq_true rfl) (s_Bc_proposalOf hX rfl hR0 ?_)
      rw [show cGv (fun s_1 => β.1 (8 + s_1) && decide (β.2 (8 + s_1) = β.2 (24 + s))) (fun s => cUn (β.2 (16 + s))) = bGvR β (β.2 (24 + s)) from rfl]
      have hmk := bMk_iff (β := β) (root := β.2 (24 + s))
      generalize hgv : bGvR β (β.2 (24 + s)) = gv at hgl hmk h ⊢
      refine x_istore 58 rfl d_Bc_takeProposalIfDue_56 (by decide) ?_
      refine x_aload_n 59 rfl d_Bc_takeProposalIfDue_58 rfl ?_
      refine x_iload 61 rfl d_Bc_takeProposalIfDue_59 rfl ?_
      refine y_call 64 rfl [_] _ rfl d_Bc_takeProposalIfDue_61 c_Bc_114 rfl (Nat.le_of_ble_eq_true rfl) (Nat.le_of_ble_eq_true rfl) (Nat.le_of_ble_eq_true rfl) (s_Co_rootOf rfl hgl ?_)
      refine x_iload_n 65 rfl d_Bc_takeProposalIfDue_64 rfl ?_
      refine x_icmp_ne 73 68 rfl d_Bc_takeProposalIfDue_65 (by decide) (fun hc3 => ?_) (fun hc3 => ?_)
      · have h7 : ¬ bMk β (β.2 (24 + s)) = true := by
          rw [hmk]
          exact hc3
        refine x_iconst 74 rfl d_Bc_takeProposalIfDue_73 0 (by decide) ?_
        refine x_put 77 rfl p_Bc_25 (fun h => nomatch h) d_Bc_takeProposalIfDue_74 g1 rfl rfl (Nat.le_of_ble_eq_true rfl) ?_
        refine x_vret d_Bc_takeProposalIfDue_77 rfl ?_
        rw [if_neg h7] at h
        refine h _ (hR0.obj ?_ (fun x hx => xset_ne _ _ hx) (fun s _ => rfl) (fun s hs => by simp only [va_up]; rw [if_neg (by omega)])) ((fr.rf w a (a + 6)).set _ (by omega) (by omega))
        rw [xset_at]; rfl
      · have h7 : bMk β (β.2 (24 + s)) = true := by
          rw [hmk]
          exact hc3
        refine x_iload 70 rfl d_Bc_takeProposalIfDue_68 rfl ?_
        refine x_goto d_Bc_takeProposalIfDue_70 74 (by decide) ?_
        refine x_put 77 rfl p_Bc_25 (fun h => nomatch h) d_Bc_takeProposalIfDue_74 g1 rfl rfl (Nat.le_of_ble_eq_true rfl) ?_
        refine x_vret d_Bc_takeProposalIfDue_77 rfl ?_
        rw [if_pos h7] at h
        refine h _ (hR0.obj ?_ (fun x hx => xset_ne _ _ hx) (fun s _ => rfl) (fun s hs => by simp only [va_up]; rw [if_neg (by omega)])) ((fr.rf w a (a + 6)).set _ (by omega) (by omega))
        rw [xset_at]; rfl
theorem s_Bc_progress (hR : rBc X nb me e i a β w) (h : P (some (.int ((if β.1 1 = true then 1 else 0) + (if β.1 2 = true then 2 else 0) + (if β.2 2 = -1 then 0 else 4)))) w) : xE (xGG X) 0 m_Bc_progress 0 [(0, .ref a)] [] w P := by
  have g1 := hR.1
  refine x_aload_n 1 rfl d_Bc_progress_0 rfl ?_
  refine x_get 4 rfl f_Bc_87 d_Bc_progress_1 g1 rfl ?_
  refine x_if_eq 11 7 rfl d_Bc_progress_4 (by decide) (fun hc4 => ?_) (fun hc4 => ?_)
  · refine x_iconst 12 rfl d_Bc_progress_11 0 (by decide) ?_
    refine x_aload_n 13 rfl d_Bc_progress_12 rfl ?_
    refine x_get 16 rfl f_Bc_98 d_Bc_progress_13 g1 rfl ?_
    refine x_if_eq 23 19 rfl d_Bc_progress_16 (by decide) (fun hc16 => ?_) (fun hc16 => ?_)
    · refine x_iconst 24 rfl d_Bc_progress_23 0 (by decide) ?_
      refine x_iadd 25 rfl d_Bc_progress_24 ?_
      refine x_aload_n 26 rfl d_Bc_progress_25 rfl ?_
      refine x_get 29 rfl f_Bc_25 d_Bc_progress_26 g1 rfl ?_
      refine x_iconst 30 rfl d_Bc_progress_29 (-1) (by decide) ?_
      refine x_icmp_eq 37 33 rfl d_Bc_progress_30 (by decide) (fun hc30 => ?_) (fun hc30 => ?_)
      · refine x_iconst 38 rfl d_Bc_progress_37 0 (by decide) ?_
        refine x_iadd 39 rfl d_Bc_progress_38 ?_
        refine x_iret d_Bc_progress_39 rfl ?_
        (first | simpa [nB_0, *] using h | (simp [nB_0] at *; simp_all))
      · refine x_iconst 34 rfl d_Bc_progress_33 4 (by decide) ?_
        refine x_goto d_Bc_progress_34 38 (by decide) ?_
        refine x_iadd 39 rfl d_Bc_progress_38 ?_
        refine x_iret d_Bc_progress_39 rfl ?_
        (first | simpa [nB_0, *] using h | (simp [nB_0] at *; simp_all))
    · refine x_iconst 20 rfl d_Bc_progress_19 2 (by decide) ?_
      refine x_goto d_Bc_progress_20 24 (by decide) ?_
      refine x_iadd 25 rfl d_Bc_progress_24 ?_
      refine x_aload_n 26 rfl d_Bc_progress_25 rfl ?_
      refine x_get 29 rfl f_Bc_25 d_Bc_progress_26 g1 rfl ?_
      refine x_iconst 30 rfl d_Bc_progress_29 (-1) (by decide) ?_
      refine x_icmp_eq 37 33 rfl d_Bc_progress_30 (by decide) (fun hc30 => ?_) (fun hc30 => ?_)
      · refine x_iconst 38 rfl d_Bc_progress_37 0 (by decide) ?_
        refine x_iadd 39 rfl d_Bc_progress_38 ?_
        refine x_iret d_Bc_progress_39 rfl ?_
        (first | simpa [nB_0, *] using h | (simp [nB_0] at *; simp_all))
      · refine x_iconst 34 rfl d_Bc_progress_33 4 (by decide) ?_
        refine x_goto d_Bc_progress_34 38 (by decide) ?_
        refine x_iadd 39 rfl d_Bc_progress_38 ?_
        refine x_iret d_Bc_progress_39 rfl ?_
        (first | simpa [nB_0, *] using h | (simp [nB_0] at *; simp_all))
  · refine x_iconst 8 rfl d_Bc_progress_7 1 (by decide) ?_
    refine x_goto d_Bc_progress_8 12 (by decide) ?_
    refine x_aload_n 13 rfl d_Bc_progress_12 rfl ?_
    refine x_get 16 rfl f_Bc_98 d_Bc_progress_13 g1 rfl ?_
    refine x_if_eq 23 19 rfl d_Bc_progress_16 (by decide) (fun hc16 => ?_) (fun hc16 => ?_)
    · refine x_iconst 24 rfl d_Bc_progress_23 0 (by decide) ?_
      refine x_iadd 25 rfl d_Bc_progress_24 ?_
      refine x_aload_n 26 rfl d_Bc_progress_25 rfl ?_
      refine x_get 29 rfl f_Bc_25 d_Bc_progress_26 g1 rfl ?_
      refine x_iconst 30 rfl d_Bc_progress_29 (-1) (by decide) ?_
      refine x_icmp_eq 37 33 rfl d_Bc_progress_30 (by decide) (fun hc30 => ?_) (fun hc30 => ?_)
      · refine x_iconst 38 rfl d_Bc_progress_37 0 (by decide) ?_
        refine x_iadd 39 rfl d_Bc_progress_38 ?_
        refine x_iret d_Bc_progress_39 rfl ?_
        (first | simpa [nB_0, *] using h | (simp [nB_0] at *; simp_all))
      · refine x_iconst 34 rfl d_Bc_progress_33 4 (by decide) ?_
        refine x_goto d_Bc_progress_34 38 (by decide) ?_
        refine x_iadd 39 rfl d_Bc_progress_38 ?_
        refine x_iret d_Bc_progress_39 rfl ?_
        (first | simpa [nB_0, *] using h | (simp [nB_0] at *; simp_all))
    · refine x_iconst 20 rfl d_Bc_progress_19 2 (by decide) ?_
      refine x_goto d_Bc_progress_20 24 (by decide) ?_
      refine x_iadd 25 rfl d_Bc_progress_24 ?_
      refine x_aload_n 26 rfl d_Bc_progress_25 rfl ?_
      refine x_get 29 rfl f_Bc_25 d_Bc_progress_26 g1 rfl ?_
      refine x_iconst 30 rfl d_Bc_progress_29 (-1) (by decide) ?_
      refine x_icmp_eq 37 33 rfl d_Bc_progress_30 (by decide) (fun hc30 => ?_) (fun hc30 => ?_)
      · refine x_iconst 38 rfl d_Bc_progress_37 0 (by decide) ?_
        refine x_iadd 39 rfl d_Bc_progress_38 ?_
        refine x_iret d_Bc_progress_39 rfl ?_
        (first | simpa [nB_0, *] using h | (simp [nB_0] at *; simp_all))
      · refine x_iconst 34 rfl d_Bc_progress_33 4 (by decide) ?_
        refine x_goto d_Bc_progress_34 38 (by decide) ?_
        refine x_iadd 39 rfl d_Bc_progress_38 ?_
        refine x_iret d_Bc_progress_39 rfl ?_
        (first | simpa [nB_0, *] using h | (simp [nB_0] at *; simp_all))
end BS
end
section
/-! AGREEMENTS: flags 0 has input, 1 done, 8 + r sure sent in round r, 32 + 8 r + 2 s + bit vote of s; numbers 0 round, 1 estimate, 2 decided (0 none, bit + 1), 3 good bits, 4 the first good one, 8 + r bits voted, 32 + 4 r + s sure of s (0 none, bit + 1) -/
abbrev sA : Type := (Nat → Bool) × (Nat → Nat)
def iD (n : Nat) : Int32 := if n = 0 then -1 else nI (n - 1)
def iR (b : Bool) (n : Nat) : Int32 := if b = true then nI n else -1
def fAg (nb me e i : Nat) (t : Int32) (a : Nat) (α : sA) : List Value := [.ref nb, .int (nI me), .int (nI e), .int (nI i), .int t, .ref (a + 1), .ref (a + 2), .int (iR (α.1 0) (α.2 0)), .int (iR (α.1 0) (α.2 1)), .int (iD (α.2 2)), .int (nB (α.1 1)), .int (nI (α.2 3)), .int (nI (α.2 (8 + α.2 0))), .int (nB (α.1 (8 + α.2 0)))]
def aOk (α : sA) : Prop := α.2 0 < 6 ∧ α.2 1 < 2 ∧ α.2 2 < 3 ∧ α.2 3 < 4 ∧ (∀ r, r < 6 → α.2 (8 + r) < 4) ∧ (∀ r s, r < 6 → s < 4 → α.2 (32 + 4 * r + s) < 3) ∧ (∀ r, α.2 0 < r → r < 6 → α.2 (8 + r) = 0 ∧ α.1 (8 + r) = false) ∧ (α.1 0 = false → α.2 0 = 0)
def aVs (α : sA) (r bit : Nat) : Nat → Bool := fun s => α.1 (32 + 8 * r + 2 * s + bit)
def aSs (α : sA) (r bit : Nat) : Nat → Bool := fun s => decide (α.2 (32 + 4 * r + s) = bit + 1)
theorem aSs_eq {α α' : sA} {r bit s : Nat} (h : α.2 (32 + 4 * r + s) = bit + 1 ↔ α'.2 (32 + 4 * r + s) = bit + 1) : aSs α r bit s = aSs α' r bit s := decide_eq_decide.mpr h
/-- the arrays of votes and sures -/
def rVs (X : xPar) (w : xW) (a : Nat) (α : sA) : Prop := ∃ f : Nat → Int32, w.2.2 a = some (.inl (X.2.2.2.1 0, 12, .inl f)) ∧ ∀ r bit, r < 6 → bit < 2 → f (2 * r + bit) = nI (cMk (aVs α r bit))
def rSs (X : xPar) (w : xW) (a : Nat) (α : sA) : Prop := ∃ f : Nat → Int32, w.2.2 a = some (.inl (X.2.2.2.1 0, 12, .inl f)) ∧ ∀ r bit, r < 6 → bit < 2 → f (2 * r + bit) = nI (cMk (aSs α r bit))
def rAg (X : xPar) (nb me e i : Nat) (t : Int32) (a : Nat) (α : sA) (w : xW) : Prop := w.2.2 a = some (.inr (0, fAg nb me e i t a α)) ∧ rVs X w (a + 1) α ∧ rSs X w (a + 2) α ∧ aOk α
theorem rAg.kept {X : xPar} {nb me e i a : Nat} {t : Int32} {α : sA} {w w' : xW} (h : rAg X nb me e i t a α w) (hk : ∀ x, a ≤ x → x < a + 3 → w'.2.2 x = w.2.2 x) : rAg X nb me e i t a α w' := by
  obtain ⟨h1, ⟨f, h2, h3⟩, ⟨g, h4, h5⟩, h6⟩ := h
  exact ⟨(hk a (by omega) (by omega)).trans h1, ⟨f, (hk _ (by omega) (by omega)).trans h2, h3⟩, ⟨g, (hk _ (by omega) (by omega)).trans h4, h5⟩, h6⟩
theorem rAg.cells {X : xPar} {nb me e i a : Nat} {t : Int32} {α : sA} {w : xW} (h : rAg X nb me e i t a α w) : ∀ x, a ≤ x → x < a + 3 → ∃ z, w.2.2 x = some z ∧ ∀ fs, z ≠ .inr (3, fs) := by
  obtain ⟨h1, ⟨f, h2, h3⟩, ⟨g, h4, h5⟩, h6⟩ := h
  intro x h5 h6
  rcases (show x = a ∨ x = a + 1 ∨ x = a + 2 by omega) with rfl | rfl | rfl
  · exact ⟨_, h1, fun fs z => by cases z⟩
  · exact ⟨_, h2, fun fs z => by cases z⟩
  · exact ⟨_, h4, fun fs z => by cases z⟩
/-- the object alone is written -/
theorem rAg.obj {X : xPar} {nb me e i a : Nat} {t : Int32} {α α' : sA} {w w' : xW} (h : rAg X nb me e i t a α w) (h1 : w'.2.2 a = some (.inr (0, fAg nb me e i t a α'))) (hk : ∀ x, x ≠ a → w'.2.2 x = w.2.2 x) (e1 : ∀ s, 32 ≤ s → α.1 s = α'.1 s) (e2 : ∀ s, 32 ≤ s → α.2 s = α'.2 s) (hok : aOk α') : rAg X nb me e i t a α' w' := by
  obtain ⟨-, ⟨f, h2, h3⟩, ⟨g, h4, h5⟩, -⟩ := h
  refine ⟨h1, ⟨f, (hk _ (by omega)).trans h2, fun r bit hr hb => (h3 r bit hr hb).trans ?_⟩, ⟨g, (hk _ (by omega)).trans h4, fun r bit hr hb => (h5 r bit hr hb).trans ?_⟩, hok⟩
  · congr 1; exact cMk_congr (fun s hs => e1 _ (by omega))
  · congr 1; exact cMk_congr (fun s hs => aSs_eq (by rw [e2 _ (by omega)]))
def qMs (q : Nat → List sMg) (ms : List sMg) : Nat → List sMg := fun i => q i ++ ms
theorem qMs_nil (q : Nat → List sMg) : qMs q [] = q := by funext i; simp [qMs]
theorem qMs_app (q : Nat → List sMg) (a b : List sMg) : qMs (qMs q a) b = qMs q (a ++ b) := by funext i; simp [qMs, List.append_assoc]
/-- how many voted, in this round -/
def aV (α : sA) (bit : Nat) : Nat := cPop (cMk (aVs α (α.2 0) bit))
def aSent (α : sA) (bit : Nat) : Bool := decide (α.2 (8 + α.2 0) / 2 ^ bit % 2 = 1)
def aVote (α : sA) (bit : Nat) : sA := (α.1, va_up α.2 (8 + α.2 0) (α.2 (8 + α.2 0) + 2 ^ bit))
def aGd (α : sA) (bit : Nat) : Bool := decide (α.2 3 / 2 ^ bit % 2 = 1)
def aSetG (α : sA) (bit : Nat) : sA := (α.1, va_up α.2 3 (if α.2 3 / 2 ^ bit % 2 = 1 then α.2 3 else α.2 3 + 2 ^ bit))
def aGs (α : sA) (bit : Nat) : Nat := if aGd α bit = true then cPop (cMk (aSs α (α.2 0) bit)) else 0
/-- the class's steps: what becomes of the agreement, what is sent -/
def aCv (me e i : Nat) (α : sA) (bit : Nat) : sA × List sMg := if aSent α bit = true then (α, []) else (aVote α bit, [(me, e, i, 3, nI (α.2 0), nI bit)])
def aCg (me e i : Nat) (α : sA) (bit : Nat) : sA × List sMg := if α.1 (8 + α.2 0) = true then (aSetG α bit, []) else ((va_up α.1 (8 + α.2 0) true, (aSetG α bit).2), [(me, e, i, 4, nI (α.2 0), nI bit)])
def aEs (t : Int32) (e i : Nat) (α : sA) : Nat := if 0 < aGs α 0 ∧ 0 < aGs α 1 then cCoin t e i (α.2 0) else if 0 < aGs α 1 then 1 else 0
def aDe (t : Int32) (e i : Nat) (α : sA) : Nat := if ¬ (0 < aGs α 0 ∧ 0 < aGs α 1) ∧ aEs t e i α = cCoin t e i (α.2 0) ∧ α.2 2 = 0 then cCoin t e i (α.2 0) + 1 else α.2 2
def aFin (t : Int32) (e i : Nat) (α : sA) : sA := if α.2 2 = cCoin t e i (α.2 0) + 1 ∨ α.2 0 = 5 then (va_up α.1 1 true, va_up (va_up α.2 1 (aEs t e i α)) 2 (aDe t e i α)) else (α.1, va_up (va_up (va_up (va_up (va_up α.2 1 (aEs t e i α)) 2 (aDe t e i α)) 0 (α.2 0 + 1)) 3 0) 4 0)
theorem nb2 : ∀ n, n < 4 → ∀ b, b < 2 → nI n >>> (nI b &&& 31) &&& 1 = nI (n / 2 ^ b % 2) := by decide +kernel
theorem no2 : ∀ n, n < 4 → ∀ b, b < 2 → nI n ||| ((1 : Int32) <<< (nI b &&& 31)) = nI (if n / 2 ^ b % 2 = 1 then n else n + 2 ^ b) := by decide +kernel
theorem nlt2 : ∀ n, n < 4 → ∀ b, b < 2 → (if n / 2 ^ b % 2 = 1 then n else n + 2 ^ b) < 4 := by decide +kernel
theorem lt2 {b : Nat} (h : b < 2) : b = 0 ∨ b = 1 := by omega
theorem cM4_two : ∀ a b c d a' b' c' d' : Bool, ∀ s, s < 4 → ((nI (cM4 a b c d) ||| nI (cM4 a' b' c' d')) &&& ((1 : Int32) <<< (nI s &&& 31)) = 0 ↔ ([a, b, c, d].getD s false || [a', b', c', d'].getD s false) = false) := by decide +kernel
theorem bM3 (h g : Nat → Bool) {s : Nat} (hs : s < 4) : (nI (cMk h) ||| nI (cMk g)) &&& ((1 : Int32) <<< (nI s &&& 31)) = 0 ↔ (h s || g s) = false := by
  rw [cMk_4, cMk_4, cM4_two _ _ _ _ _ _ _ _ s hs, h4 h hs, h4 g hs]
def aKeep (α : sA) (s kd r bit : Nat) : sA := if kd = 3 then (va_up α.1 (32 + 8 * r + 2 * s + bit) true, α.2) else if α.2 (32 + 4 * r + s) = 0 then (α.1, va_up α.2 (32 + 4 * r + s) (bit + 1)) else α
section AG
variable {X : xPar} {sb L : Nat} {xs : Nat → Int32} {tI tE mi nb dyn c0 s0 mo me e i a : Nat} {t : Int32} {q : Nat → List sMg} {α : sA} {w : xW} {P : Option Value → xW → Prop}
theorem s_Ag_hasInput (hR : rAg X nb me e i t a α w) (h : P (some (.int (nB (α.1 0)))) w) : xE (xGG X) 0 m_Ag_hasInput 0 [(0, .ref a)] [] w P := by
  have g1 := hR.1
  have hr := hR.2.2.2.1
  refine x_aload_n 1 rfl d_Ag_hasInput_0 rfl ?_
  refine x_get 4 rfl f_Ag_18 d_Ag_hasInput_1 g1 rfl ?_
  refine x_iconst 5 rfl d_Ag_hasInput_4 (-1) (by decide) ?_
  cases hb : α.1 0 with
  | true =>
    rw [hb] at h
    refine x_icmp_eq 12 8 rfl d_Ag_hasInput_5 (by decide) (fun hc => absurd hc ((by decide +kernel : ∀ n, n < 6 → ¬ iR true n = -1) _ hr)) (fun hc => ?_)
    refine x_iconst 9 rfl d_Ag_hasInput_8 1 (by decide) ?_
    refine x_goto d_Ag_hasInput_9 13 (by decide) ?_
    refine x_zret d_Ag_hasInput_13 rfl (by decide) ?_
    exact h
  | false =>
    rw [hb] at h
    refine x_icmp_eq 12 8 rfl d_Ag_hasInput_5 (by decide) (fun hc => ?_) (fun hc => absurd rfl hc)
    refine x_iconst 13 rfl d_Ag_hasInput_12 0 (by decide) ?_
    refine x_zret d_Ag_hasInput_13 rfl (by decide) ?_
    exact h
theorem s_Ag_giveInput {bb : Int32} {bit : Nat} (hbb : bb = nI bit) (hb : bit < 2) (hR : rAg X nb me e i t a α w) (h : ∀ w', rAg X nb me e i t a (if α.1 0 = true then α else (va_up α.1 0 true, va_up α.2 1 bit)) w' → fr w w' a (a + 3) → P none w') : xE (xGG X) 1 m_Ag_giveInput 0 [(0, .ref a), (1, .int bb)] [] w P := by
  subst hbb
  have g1 := hR.1
  refine x_aload_n 1 rfl d_Ag_giveInput_0 rfl ?_
  refine y_callV 4 rfl [] _ rfl d_Ag_giveInput_1 g1 rfl c_Ag_58 rfl (Nat.le_of_ble_eq_true rfl) (Nat.le_of_ble_eq_true rfl) (Nat.le_of_ble_eq_true rfl) (s_Ag_hasInput hR ?_)
  refine x_if_ne 17 7 rfl d_Ag_giveInput_4 (by decide) (fun hc => ?_) (fun hc => ?_)
  · refine x_vret d_Ag_giveInput_17 rfl ?_
    exact h w (by rw [if_pos (nB_ne hc)]; exact hR) (fr.rf _ _ _)
  · have hb0 := (nB_0 _).mp hc
    obtain ⟨o1, o2, o3, o4, o5, o6, o7, o8⟩ := hR.2.2.2
    have hr0 := o8 hb0
    refine x_aload_n 8 rfl d_Ag_giveInput_7 rfl ?_
    refine x_iconst 9 rfl d_Ag_giveInput_8 0 (by decide) ?_
    refine x_put 12 rfl p_Ag_18 (fun h => nomatch h) d_Ag_giveInput_9 g1 rfl rfl (Nat.le_of_ble_eq_true rfl) ?_
    refine x_aload_n 13 rfl d_Ag_giveInput_12 rfl ?_
    refine x_iload_n 14 rfl d_Ag_giveInput_13 rfl ?_
    refine x_put 17 rfl p_Ag_22 (fun h => nomatch h) d_Ag_giveInput_14 (xset_at _ _ _) rfl rfl (Nat.le_of_ble_eq_true rfl) ?_
    refine x_vret d_Ag_giveInput_17 rfl ?_
    refine h _ ?_ (((fr.rf w a (a + 3)).set _ (by omega) (by omega)).set _ (by omega) (by omega))
    rw [if_neg (by rw [hb0]; decide)]
    have ok : aOk (va_up α.1 0 true, va_up α.2 1 bit) := by
      refine ⟨?_, ?_, ?_, ?_, fun r hr => ?_, fun r s hr hs => ?_, fun r hr hr6 => ?_, fun z => ?_⟩
      · simp only [va_up]; rw [if_neg (by decide)]; exact o1
      · simp only [va_up, if_true]; exact hb
      · simp only [va_up]; rw [if_neg (by decide)]; exact o3
      · simp only [va_up]; rw [if_neg (by decide)]; exact o4
      · simp only [va_up]; rw [if_neg (by omega)]; exact o5 r hr
      · simp only [va_up]; rw [if_neg (by omega)]; exact o6 r s hr hs
      · simp only [va_up] at hr ⊢; rw [if_neg (by decide)] at hr; rw [if_neg (by omega), if_neg (by omega)]; exact o7 r hr hr6
      · simp [va_up] at z
    refine hR.obj ?_ (fun x hx => by rw [xset_ne _ _ hx, xset_ne _ _ hx]) (fun s hs => by simp only [va_up]; rw [if_neg (by omega)]) (fun s hs => by simp only [va_up]; rw [if_neg (by omega)]) ok
    rw [xset_at]
    simp only [fAg, va_up, List.set_cons_succ, List.set_cons_zero, if_true, if_neg (show ¬ (0 : Nat) = 1 by decide), if_neg (show ¬ (2 : Nat) = 1 by decide), if_neg (show ¬ (3 : Nat) = 1 by decide), if_neg (show ¬ (1 : Nat) = 0 by decide), hr0, iR, if_neg (show ¬ 8 + 0 = 1 by decide), if_neg (show ¬ 8 + 0 = 0 by decide)]
    rfl
theorem s_Ag_voters {bb : Int32} {bit : Nat} (hbb : bb = nI bit) (hb : bit < 2) (hin : α.1 0 = true) (hR : rAg X nb me e i t a α w) (h : P (some (.int (nI (aV α bit)))) w) : xE (xGG X) 1 m_Ag_voters 0 [(0, .ref a), (1, .int bb)] [] w P := by
  subst hbb
  obtain ⟨g1, ⟨f, g2, g3⟩, -, ok⟩ := hR
  have hr := ok.1
  have e1 : (2 : Int32) * iR (α.1 0) (α.2 0) + nI bit = nI (2 * α.2 0 + bit) := by
    rw [hin]
    show (2 : Int32) * nI (α.2 0) + nI bit = _
    rw [show (2 : Int32) = nI 2 from rfl, pk_mul, nI_add]
  refine x_aload_n 1 rfl d_Ag_voters_0 rfl ?_
  refine x_get 4 rfl f_Ag_9 d_Ag_voters_1 g1 rfl ?_
  refine x_iconst 5 rfl d_Ag_voters_4 2 (by decide) ?_
  refine x_aload_n 6 rfl d_Ag_voters_5 rfl ?_
  refine x_get 9 rfl f_Ag_18 d_Ag_voters_6 g1 rfl ?_
  refine x_imul 10 rfl d_Ag_voters_9 ?_
  refine x_iload_n 11 rfl d_Ag_voters_10 rfl ?_
  refine x_iadd 12 rfl d_Ag_voters_11 ?_
  rw [e1]
  refine x_iald 13 rfl d_Ag_voters_12 g2 (t0 := 0) rfl (vp_in_nI (by omega) (by decide)) ?_
  rw [nI_clamp (by omega), g3 _ _ hr hb]
  refine y_call 16 rfl [_] _ rfl d_Ag_voters_13 c_Ag_83 rfl (Nat.le_of_ble_eq_true rfl) (Nat.le_of_ble_eq_true rfl) (Nat.le_of_ble_eq_true rfl) (s_It_bitCount rfl (cMk_lt _) ?_)
  refine x_iret d_Ag_voters_16 rfl ?_
  exact h
theorem s_Ag_goodSures {bb : Int32} {bit : Nat} (hbb : bb = nI bit) (hb : bit < 2) (hin : α.1 0 = true) (hR : rAg X nb me e i t a α w) (h : P (some (.int (nI (aGs α bit)))) w) : xE (xGG X) 1 m_Ag_goodSures 0 [(0, .ref a), (1, .int bb)] [] w P := by
  subst hbb
  obtain ⟨g1, -, ⟨f, g2, g3⟩, ok⟩ := hR
  have hr := ok.1
  have hg := ok.2.2.2.1
  have e1 : (2 : Int32) * iR (α.1 0) (α.2 0) + nI bit = nI (2 * α.2 0 + bit) := by
    rw [hin]
    show (2 : Int32) * nI (α.2 0) + nI bit = _
    rw [show (2 : Int32) = nI 2 from rfl, pk_mul, nI_add]
  refine x_aload_n 1 rfl d_Ag_goodSures_0 rfl ?_
  refine x_get 4 rfl f_Ag_100 d_Ag_goodSures_1 g1 rfl ?_
  refine x_iload_n 5 rfl d_Ag_goodSures_4 rfl ?_
  refine x_ishr 6 rfl d_Ag_goodSures_5 ?_
  refine x_iconst 7 rfl d_Ag_goodSures_6 1 (by decide) ?_
  refine x_iand 8 rfl d_Ag_goodSures_7 ?_
  rw [nb2 _ hg _ hb]
  refine x_if_ne 15 11 rfl d_Ag_goodSures_8 (by decide) (fun hc => ?_) (fun hc => ?_)
  · have h5 : aGd α bit = true := by
      unfold aGd
      rw [decide_eq_true_iff]
      by_cases z : α.2 3 / 2 ^ bit % 2 = 0
      · exact absurd (by rw [z]; rfl) hc
      · omega
    rw [aGs, if_pos h5] at h
    refine x_aload_n 16 rfl d_Ag_goodSures_15 rfl ?_
    refine x_get 19 rfl f_Ag_15 d_Ag_goodSures_16 g1 rfl ?_
    refine x_iconst 20 rfl d_Ag_goodSures_19 2 (by decide) ?_
    refine x_aload_n 21 rfl d_Ag_goodSures_20 rfl ?_
    refine x_get 24 rfl f_Ag_18 d_Ag_goodSures_21 g1 rfl ?_
    refine x_imul 25 rfl d_Ag_goodSures_24 ?_
    refine x_iload_n 26 rfl d_Ag_goodSures_25 rfl ?_
    refine x_iadd 27 rfl d_Ag_goodSures_26 ?_
    rw [e1]
    refine x_iald 28 rfl d_Ag_goodSures_27 g2 (t0 := 0) rfl (vp_in_nI (by omega) (by decide)) ?_
    rw [nI_clamp (by omega), g3 _ _ hr hb]
    refine y_call 31 rfl [_] _ rfl d_Ag_goodSures_28 c_Ag_83 rfl (Nat.le_of_ble_eq_true rfl) (Nat.le_of_ble_eq_true rfl) (Nat.le_of_ble_eq_true rfl) (s_It_bitCount rfl (cMk_lt _) ?_)
    refine x_iret d_Ag_goodSures_31 rfl ?_
    exact h
  · have h5 : ¬ aGd α bit = true := by
      unfold aGd
      rw [decide_eq_true_iff]
      intro z
      rw [z] at hc
      exact absurd hc (by decide)
    rw [aGs, if_neg h5] at h
    refine x_iconst 12 rfl d_Ag_goodSures_11 0 (by decide) ?_
    refine x_goto d_Ag_goodSures_12 31 (by decide) ?_
    refine x_iret d_Ag_goodSures_31 rfl ?_
    exact h
theorem s_Ag_keep {m : Nat} {mg : sMg} {r bit : Nat} (hs : mg.1 < 4) (hkd : mg.2.2.2.1 = 3 ∨ mg.2.2.2.1 = 4) (har : mg.2.2.2.2.1 = nI r) (hbr : mg.2.2.2.2.2 = nI bit) (hr : r < 6) (hb : bit < 2) (hR : rAg X nb me e i t a α w) (hm : w.2.2 m = some (.inr (3, fMs mg))) (h : ∀ w', rAg X nb me e i t a (aKeep α mg.1 mg.2.2.2.1 r bit) w' → fr w w' a (a + 3) → P none w') : xE (xGG X) 0 m_Ag_keep 0 [(0, .ref a), (1, .ref m)] [] w P := by
  have hR0 := hR
  obtain ⟨g1, ⟨f, g2, g3⟩, ⟨g, g4, g5⟩, ok⟩ := hR
  have e1 : (2 : Int32) * nI r + nI bit = nI (2 * r + bit) := by rw [show (2 : Int32) = nI 2 from rfl, pk_mul, nI_add]
  have e2 : (2 : Int32) * nI r = nI (2 * r + 0) := by rw [show (2 : Int32) = nI 2 from rfl, pk_mul]; rfl
  have e3 : (2 : Int32) * nI r + 1 = nI (2 * r + 1) := by rw [show (2 : Int32) = nI 2 from rfl, pk_mul, nI_1]
  have hmf : fMs mg = [.int (nI mg.1), .int (nI mg.2.1), .int (nI mg.2.2.1), .int (nI mg.2.2.2.1), .int (nI r), .int (nI bit)] := by unfold fMs; rw [har, hbr]
  rw [hmf] at hm
  refine x_iconst 1 rfl d_Ag_keep_0 2 (by decide) ?_
  refine x_aload_n 2 rfl d_Ag_keep_1 rfl ?_
  refine x_get 5 rfl f_Ag_44 d_Ag_keep_2 hm rfl ?_
  refine x_imul 6 rfl d_Ag_keep_5 ?_
  refine x_aload_n 7 rfl d_Ag_keep_6 rfl ?_
  refine x_get 10 rfl f_Ag_49 d_Ag_keep_7 hm rfl ?_
  refine x_iadd 11 rfl d_Ag_keep_10 ?_
  rw [e1]
  refine x_istore_n 12 rfl d_Ag_keep_11 (by decide) ?_
  refine x_iconst 13 rfl d_Ag_keep_12 1 (by decide) ?_
  refine x_aload_n 14 rfl d_Ag_keep_13 rfl ?_
  refine x_get 17 rfl f_Ag_52 d_Ag_keep_14 hm rfl ?_
  refine x_ishl 18 rfl d_Ag_keep_17 ?_
  refine x_istore_n 19 rfl d_Ag_keep_18 (by decide) ?_
  refine x_aload_n 20 rfl d_Ag_keep_19 rfl ?_
  refine x_get 23 rfl f_Ag_55 d_Ag_keep_20 hm rfl ?_
  refine x_iconst 24 rfl d_Ag_keep_23 3 (by decide) ?_
  refine x_icmp_ne 40 27 rfl d_Ag_keep_24 (by decide) (fun hc => ?_) (fun hc => ?_)
  · have hk4 : mg.2.2.2.1 = 4 := by
      rcases hkd with z | z
      · exact absurd (by rw [z]; rfl) hc
      · exact z
    refine x_aload_n 41 rfl d_Ag_keep_40 rfl ?_
    refine x_get 44 rfl f_Ag_15 d_Ag_keep_41 g1 rfl ?_
    refine x_iconst 45 rfl d_Ag_keep_44 2 (by decide) ?_
    refine x_aload_n 46 rfl d_Ag_keep_45 rfl ?_
    refine x_get 49 rfl f_Ag_44 d_Ag_keep_46 hm rfl ?_
    refine x_imul 50 rfl d_Ag_keep_49 ?_
    rw [e2]
    refine x_iald 51 rfl d_Ag_keep_50 g4 (t0 := 0) rfl (vp_in_nI (by omega) (by decide)) ?_
    rw [nI_clamp (by omega), g5 r 0 hr (by decide)]
    refine x_aload_n 52 rfl d_Ag_keep_51 rfl ?_
    refine x_get 55 rfl f_Ag_15 d_Ag_keep_52 g1 rfl ?_
    refine x_iconst 56 rfl d_Ag_keep_55 2 (by decide) ?_
    refine x_aload_n 57 rfl d_Ag_keep_56 rfl ?_
    refine x_get 60 rfl f_Ag_44 d_Ag_keep_57 hm rfl ?_
    refine x_imul 61 rfl d_Ag_keep_60 ?_
    refine x_iconst 62 rfl d_Ag_keep_61 1 (by decide) ?_
    refine x_iadd 63 rfl d_Ag_keep_62 ?_
    rw [e3]
    refine x_iald 64 rfl d_Ag_keep_63 g4 (t0 := 0) rfl (vp_in_nI (by omega) (by decide)) ?_
    rw [nI_clamp (by omega), g5 r 1 hr (by decide)]
    refine x_ior 65 rfl d_Ag_keep_64 ?_
    refine x_iload_n 66 rfl d_Ag_keep_65 rfl ?_
    refine x_iand 67 rfl d_Ag_keep_66 ?_
    have hsu := ok.2.2.2.2.2.1 r mg.1 hr hs
    refine x_if_ne 80 70 rfl d_Ag_keep_67 (by decide) (fun hc2 => ?_) (fun hc2 => ?_)
    · refine x_vret d_Ag_keep_80 rfl ?_
      refine h w ?_ (fr.rf _ _ _)
      have hne : ¬ α.2 (32 + 4 * r + mg.1) = 0 := fun z => hc2 ((bM3 _ _ hs).mpr (by simp [aSs, z]))
      rw [aKeep, if_neg (by omega), if_neg hne]
      exact hR0
    · have h0 := (bM3 _ _ hs).mp hc2
      have hz : α.2 (32 + 4 * r + mg.1) = 0 := by
        simp [aSs] at h0
        omega
      refine x_aload_n 71 rfl d_Ag_keep_70 rfl ?_
      refine x_get 74 rfl f_Ag_15 d_Ag_keep_71 g1 rfl ?_
      refine x_iload_n 75 rfl d_Ag_keep_74 rfl ?_
      refine x_dup2 76 rfl d_Ag_keep_75 rfl rfl ?_
      refine x_iald 77 rfl d_Ag_keep_76 g4 (t0 := 0) rfl (vp_in_nI (by omega) (by decide)) ?_
      rw [nI_clamp (by omega), g5 r bit hr hb]
      refine x_iload_n 78 rfl d_Ag_keep_77 rfl ?_
      refine x_ior 79 rfl d_Ag_keep_78 ?_
      rw [bM2 _ hs]
      refine x_iast 80 rfl d_Ag_keep_79 g4 (t0 := 0) rfl (vp_in_nI (by omega) (by decide)) ?_
      rw [nI_clamp (by omega)]
      refine x_vret d_Ag_keep_80 rfl ?_
      refine h _ ?_ ((fr.rf w a (a + 3)).set _ (by omega) (by omega))
      rw [aKeep, if_neg (by omega), if_pos hz]
      obtain ⟨o1, o2, o3, o4, o5, o6, o7, o8⟩ := ok
      have ev : ∀ x, x < 32 → va_up α.2 (32 + 4 * r + mg.1) (bit + 1) x = α.2 x := fun x hx => va_up_ne _ _ (by omega)
      refine ⟨?_, ⟨f, by rw [xset_ne _ _ (by omega)]; exact g2, g3⟩, ⟨_, xset_at _ _ _, fun r2 b2 hr2 hb2 => ?_⟩, ⟨?_, ?_, ?_, ?_, fun r2 hr2 => ?_, fun r2 s2 hr2 hs2 => ?_, fun r2 h1 h2 => ?_, fun z => ?_⟩⟩
      · rw [xset_ne _ _ (by omega), g1]
        simp only [fAg, ev 0 (by decide), ev 1 (by decide), ev 2 (by decide), ev 3 (by decide), ev (8 + α.2 0) (by omega)]
      · simp only [upd]
        by_cases z : 2 * r2 + b2 = 2 * r + bit
        · have z1 : r2 = r := by omega
          have z2 : b2 = bit := by omega
          subst z1 z2
          rw [if_pos rfl]
          congr 1
          refine cMk_congr (fun s hs2 => ?_)
          by_cases y : s = mg.1
          · subst y; rw [va_up_self]; exact (decide_eq_true (by show va_up α.2 _ _ _ = _; rw [va_up_self])).symm
          · rw [va_up_ne _ _ y]; exact aSs_eq (by show _ ↔ va_up α.2 _ _ _ = _; rw [va_up_ne _ _ (by omega)])
        · rw [if_neg z, g5 r2 b2 hr2 hb2]
          congr 1
          refine cMk_congr (fun s hs2 => ?_)
          by_cases y : 32 + 4 * r2 + s = 32 + 4 * r + mg.1
          · refine aSs_eq ⟨fun h => ?_, fun h => ?_⟩
            · rw [y, hz] at h; omega
            · have h' : va_up α.2 (32 + 4 * r + mg.1) (bit + 1) (32 + 4 * r2 + s) = b2 + 1 := h
              rw [y, va_up_self] at h'; omega
          · exact aSs_eq (by show _ ↔ va_up α.2 _ _ _ = _; rw [va_up_ne _ _ y])
      · show va_up _ _ _ _ < _; rw [ev 0 (by decide)]; exact o1
      · show va_up _ _ _ _ < _; rw [ev 1 (by decide)]; exact o2
      · show va_up _ _ _ _ < _; rw [ev 2 (by decide)]; exact o3
      · show va_up _ _ _ _ < _; rw [ev 3 (by decide)]; exact o4
      · show va_up _ _ _ _ < _; rw [ev (8 + r2) (by omega)]; exact o5 r2 hr2
      · show va_up _ _ _ _ < _
        simp only [va_up]
        split
        · omega
        · exact o6 r2 s2 hr2 hs2
      · have h1' : α.2 0 < r2 := by rw [← ev 0 (by decide)]; exact h1
        refine ⟨?_, (o7 r2 h1' h2).2⟩
        show va_up _ _ _ _ = _
        rw [ev (8 + r2) (by omega)]; exact (o7 r2 h1' h2).1
      · show va_up _ _ _ _ = _; rw [ev 0 (by decide)]; exact o8 z
  · have hk3 : mg.2.2.2.1 = 3 := (nI_eq (by omega) (by decide)).mp hc
    refine x_aload_n 28 rfl d_Ag_keep_27 rfl ?_
    refine x_get 31 rfl f_Ag_9 d_Ag_keep_28 g1 rfl ?_
    refine x_iload_n 32 rfl d_Ag_keep_31 rfl ?_
    refine x_dup2 33 rfl d_Ag_keep_32 rfl rfl ?_
    refine x_iald 34 rfl d_Ag_keep_33 g2 (t0 := 0) rfl (vp_in_nI (by omega) (by decide)) ?_
    rw [nI_clamp (by omega), g3 r bit hr hb]
    refine x_iload_n 35 rfl d_Ag_keep_34 rfl ?_
    refine x_ior 36 rfl d_Ag_keep_35 ?_
    rw [bM2 _ hs]
    refine x_iast 37 rfl d_Ag_keep_36 g2 (t0 := 0) rfl (vp_in_nI (by omega) (by decide)) ?_
    rw [nI_clamp (by omega)]
    refine x_goto d_Ag_keep_37 80 (by decide) ?_
    refine x_vret d_Ag_keep_80 rfl ?_
    refine h _ ?_ ((fr.rf w a (a + 3)).set _ (by omega) (by omega))
    rw [aKeep, if_pos hk3]
    obtain ⟨o1, o2, o3, o4, o5, o6, o7, o8⟩ := ok
    have ev : ∀ x, x < 32 → va_up α.1 (32 + 8 * r + 2 * mg.1 + bit) true x = α.1 x := fun x hx => va_up_ne _ _ (by omega)
    refine ⟨?_, ⟨_, xset_at _ _ _, fun r2 b2 hr2 hb2 => ?_⟩, ⟨g, by rw [xset_ne _ _ (by omega)]; exact g4, g5⟩, ⟨o1, o2, o3, o4, o5, o6, fun r2 h1 h2 => ⟨(o7 r2 h1 h2).1, by show va_up _ _ _ _ = _; rw [ev (8 + r2) (by omega)]; exact (o7 r2 h1 h2).2⟩, fun z => o8 (by rw [← ev 0 (by decide)]; exact z)⟩⟩
    · rw [xset_ne _ _ (by omega), g1]
      simp only [fAg, ev 0 (by decide), ev 1 (by decide), ev (8 + α.2 0) (by omega)]
    · simp only [upd]
      by_cases z : 2 * r2 + b2 = 2 * r + bit
      · have z1 : r2 = r := by omega
        have z2 : b2 = bit := by omega
        subst z1 z2
        rw [if_pos rfl]
        congr 1
        refine cMk_congr (fun s hs2 => ?_)
        unfold aVs
        simp only [va_up]
        by_cases y : s = mg.1
        · subst y; simp
        · rw [if_neg y, if_neg (by omega)]
      · rw [if_neg z, g3 r2 b2 hr2 hb2]
        congr 1
        refine cMk_congr (fun s hs2 => ?_)
        unfold aVs
        simp only [va_up]
        rw [if_neg (by omega)]
end AG
end
