/-! THE CORE: a judgement 'xE' over the machine that hides the machine's context, the cells written and the room; the world is ONE map from addresses to cells, so that no frame is cut out or joined. -/
abbrev xM : Type := MethodName × ByteArray × Nat × Option FieldType
abbrev xW : Type := Nat × Nat × (Nat → Option va_E)
/-- fixed in the whole run: launch, base (cells below it are never written), classes' numbers and slots, classes, array classes, words, nest words, what holds of the cells below the base -/
abbrev xG : Type := Launch × Nat × va_G × List vw_C × List (ClassId × FieldType) × List Cond × List Cond × (State → Heap → Prop)
abbrev xl (G : xG) : Launch := G.1
abbrev xb (G : xG) : Nat := G.2.1
abbrev xD (G : xG) : va_G := G.2.2.1
abbrev xcl (G : xG) : List vw_C := G.2.2.2.1
abbrev xty (G : xG) : List (ClassId × FieldType) := G.2.2.2.2.1
abbrev xws (G : xG) : List Cond := G.2.2.2.2.2.1
abbrev xnw (G : xG) : List Cond := G.2.2.2.2.2.2.1
abbrev xz (G : xG) : State → Heap → Prop := G.2.2.2.2.2.2.2
def xnest : Cond → Bool
  | .fieldLinkNest .. => true
  | .methodLinkNest .. => true
  | .castable .. => true
  | .arrayOver (.object _) => true
  | _ => false
theorem xnest_warm {w : Cond} {s U : State} (hn : xnest w = true) (hW : s.WarmedH U.vm) (h : va_Nw w s) : va_Nw w U := by
  cases w
  case fieldLinkNest => exact va_Nw.warmF hW h
  case methodLinkNest => exact va_Nw.warmM hW h
  case castable => exact va_Nw.warmC hW h
  case arrayOver ty =>
    cases ty
    case object C => exact va_AO.moved hW.alike h
    all_goals simp [xnest] at hn
  all_goals simp [xnest] at hn
def xK (G : xG) (U : State) : Prop := va_K (xD G) (xcl G) (xty G) U ∧ ∀ w ∈ xnw G, xnest w = true ∧ va_Nw w U
theorem xK.warm {G : xG} {s U : State} (h : xK G s) (hW : s.WarmedH U.vm) : xK G U :=
  ⟨va_K.moved hW.alike h.1, fun w hw => ⟨(h.2 w hw).1, xnest_warm (h.2 w hw).1 hW (h.2 w hw).2⟩⟩
/-- the world w is what the heap H holds -/
def xR (G : xG) (w : xW) (U : State) (H : Heap) : Prop :=
  H.size = w.1 ∧ xb G ≤ w.1 ∧ (∀ (a : Nat) (e : va_E), w.2.2 a = some e → xb G ≤ a ∧ va_at (xD G) (xcl G) (a, e) H) ∧ xz G U H ∧
  (∀ (U : State) (H H1 : Heap), xz G U H → (∀ a : Nat, a < xb G → H1[a]? = H[a]?) → xz G U H1) ∧ (∀ (u U : State) (H : Heap), u.vm.Alike U.vm → xz G u H → xz G U H)
theorem xR.moved {G : xG} {w : xW} {u U : State} {H : Heap} (hvm : u.vm.Alike U.vm) (h : xR G w u H) : xR G w U H :=
  ⟨h.1, h.2.1, h.2.2.1, h.2.2.2.2.2 u U H hvm h.2.2.2.1, h.2.2.2.2⟩
def xset (w : xW) (a : Nat) (e : va_E) : xW := (w.1, w.2.1, va_up w.2.2 a (some e))
def xnew (w : xW) (n : Nat) (e : va_E) : xW := (w.1 + 1, w.2.1 + n, va_up w.2.2 w.1 (some e))
theorem xR.set {G : xG} {w : xW} {U : State} {H H1 : Heap} {a : Nat} {e0 e : va_E} (h : xR G w U H) (ha : w.2.2 a = some e0) (he : va_at (xD G) (xcl G) (a, e) H1) (z : H1.size = H.size) (oq : ∀ q : Nat, q ≠ a → H1[q]? = H[q]?) : xR G (xset w a e) U H1 := by
  obtain ⟨h1, h2, h3, h4, h5, h6⟩ := h
  have hb := (h3 a e0 ha).1
  refine ⟨z.trans h1, h2, fun q x hx => ?_, h5 U H H1 h4 (fun q hq => oq q (by omega)), h5, h6⟩
  by_cases hq : q = a
  · subst hq
    have hx' : some e = some x := by
      have := hx
      simpa [xset, va_up] using this
    cases hx'
    exact ⟨hb, he⟩
  · have hx' : w.2.2 q = some x := by simpa [xset, va_up, hq] using hx
    exact ⟨(h3 q x hx').1, (h3 q x hx').2.kept (oq q hq)⟩
theorem xR.push {G : xG} {w : xW} {U : State} {H H1 : Heap} {n : Nat} {e : va_E} (h : xR G w U H) (he : va_at (xD G) (xcl G) (H.size, e) H1) (z : H1.size = H.size + 1) (oq : ∀ q : Nat, q < H.size → H1[q]? = H[q]?) : xR G (xnew w n e) U H1 := by
  obtain ⟨h1, h2, h3, h4, h5, h6⟩ := h
  refine ⟨by rw [z, h1]; rfl, Nat.le_succ_of_le h2, fun q x hx => ?_, h5 U H H1 h4 (fun q hq => oq q (by omega)), h5, h6⟩
  by_cases hq : q = w.1
  · subst hq
    have hx' : some e = some x := by
      have := hx
      simpa [xnew, va_up] using this
    cases hx'
    exact ⟨h2, by rw [← h1]; exact he⟩
  · have hx' : w.2.2 q = some x := by simpa [xnew, va_up, hq] using hx
    exact ⟨(h3 q x hx').1, (h3 q x hx').2.kept (oq q (h3 q x hx').2.lt)⟩
theorem xR.one {G : xG} {w : xW} {U : State} {H : Heap} {a : Nat} {e : va_E} (h : xR G w U H) (ha : w.2.2 a = some e) : va_P (xD G) (xcl G) [(a, e)] H := by
  intro k q hk
  cases k with
  | zero =>
    simp at hk
    subst hk
    exact (h.2.2.1 a e ha).2
  | succ k => simp at hk
/-- what is known inside a method's body -/
def xC (G : xG) (d : Nat) (k : xM) (p : Program) (R : Room) (s : State) (m : MethodId) (args : Array Value) (meth : Method) (c : Code) : Prop :=
  p.tables.exec = Jvm.exec ∧ c.code = k.2.1 ∧ c.maxLocals = k.2.2.1 ∧ meth.sig.returnType = k.2.2.2 ∧ meth.locks = false ∧ meth.name = k.1.name ∧ s.vm.findClass k.1.cls = some m.cls ∧ (∀ w ∈ xws G, w.before args s = true) ∧ xK G s ∧ d ≤ R.frames ∧ 42 * d ≤ R.locals
def xQ (G : xG) (v : Option Value) (w' : xW) : Array Value → State → Outcome → State → Prop := fun _ _ oc t => oc = .returned v ∧ xR G w' t t.heap
/-- from pc, with locals lc, stack st, world w, method k ends: it returns v, and the world is w' -/
def xV (G : xG) (d : Nat) (k : xM) (pc : Nat) (lc : List (Nat × Value)) (st : List Value) (w : xW) (v : Option Value) (w' : xW) : Prop :=
  w.1 ≤ w'.1 ∧ w.2.1 ≤ w'.2.1 ∧ ∀ (p : Program) (e : Env) (R : Room) (s : State) (m : MethodId) (args : Array Value) (below : List Frame) (meth : Method) (c : Code) (H : Heap) (locs : List Loc) (cells slots : Nat) (ls : Array Slot),
    xC G d k p R s m args meth c → xR G w s H → lv_has ls k.2.2.1 lc → (∀ q ∈ locs, xb G ≤ q.base) → cells + (w'.1 - w.1) = R.cells → slots + (w'.2.1 - w.2.1) = R.slots →
    W p (xl G) e R s m args below meth c H locs cells slots (MQ below (xQ G v w') args s R.cells R.slots (fun q => xb G ≤ q)) (F0 m pc ls st)
def xE (G : xG) (d : Nat) (k : xM) (pc : Nat) (lc : List (Nat × Value)) (st : List Value) (w : xW) (P : Option Value → xW → Prop) : Prop :=
  ∃ (v : Option Value) (w' : xW), P v w' ∧ xV G d k pc lc st w v w'
theorem xE.mono {G : xG} {d d' : Nat} {k : xM} {pc : Nat} {lc : List (Nat × Value)} {st : List Value} {w : xW} {P Q : Option Value → xW → Prop} (h : xE G d k pc lc st w P) (hd : d ≤ d') (hPQ : ∀ v w', P v w' → Q v w') : xE G d' k pc lc st w Q := by
  obtain ⟨v, w', hP, h1, h2, h3⟩ := h
  refine ⟨v, w', hPQ v w' hP, h1, h2, fun p e R s m args below meth c H locs cells slots ls C => h3 p e R s m args below meth c H locs cells slots ls ?_⟩
  obtain ⟨c1, c2, c3, c4, c5, c6, c7, c8, c9, c10, c11⟩ := C
  exact ⟨c1, c2, c3, c4, c5, c6, c7, c8, c9, by omega, by omega⟩
section XS
variable {G : xG} {d : Nat} {k : xM} {pc pc' : Nat} {lc lc' : List (Nat × Value)} {st st' : List Value} {w : xW} {P : Option Value → xW → Prop}
theorem xE.s1 (h : xE G d k pc' lc st' w P)
    (row : ∀ (p : Program) (e : Env) (R : Room) (s : State) (m : MethodId) (args : Array Value) (below : List Frame) (meth : Method) (c : Code) (H : Heap) (locs : List Loc) (cells slots : Nat) (ls : Array Slot) (Q : State → Prop),
      xC G d k p R s m args meth c → xR G w s H → lv_has ls k.2.2.1 lc → W p (xl G) e R s m args below meth c H locs cells slots Q (F0 m pc' ls st') → W p (xl G) e R s m args below meth c H locs cells slots Q (F0 m pc ls st)) : xE G d k pc lc st w P := by
  obtain ⟨v, w', hP, h1, h2, h3⟩ := h
  exact ⟨v, w', hP, h1, h2, fun p e R s m args below meth c H locs cells slots ls C r hl hL hc hs => row p e R s m args below meth c H locs cells slots ls _ C r hl (h3 p e R s m args below meth c H locs cells slots ls C r hl hL hc hs)⟩
theorem xE.s2 (h : xE G d k pc' lc' st' w P)
    (row : ∀ (p : Program) (e : Env) (R : Room) (s : State) (m : MethodId) (args : Array Value) (below : List Frame) (meth : Method) (c : Code) (H : Heap) (locs : List Loc) (cells slots : Nat) (ls : Array Slot) (Q : State → Prop),
      xC G d k p R s m args meth c → xR G w s H → lv_has ls k.2.2.1 lc → (∀ ls' : Array Slot, lv_has ls' k.2.2.1 lc' → W p (xl G) e R s m args below meth c H locs cells slots Q (F0 m pc' ls' st')) → W p (xl G) e R s m args below meth c H locs cells slots Q (F0 m pc ls st)) : xE G d k pc lc st w P := by
  obtain ⟨v, w', hP, h1, h2, h3⟩ := h
  exact ⟨v, w', hP, h1, h2, fun p e R s m args below meth c H locs cells slots ls C r hl hL hc hs => row p e R s m args below meth c H locs cells slots ls _ C r hl (fun ls' hl' => h3 p e R s m args below meth c H locs cells slots ls' C r hl' hL hc hs)⟩
theorem xE.s3 {a : Nat} {e0 e1 : va_E} (ha : w.2.2 a = some e0) (h : xE G d k pc' lc st' (xset w a e1) P)
    (row : ∀ (p : Program) (e : Env) (R : Room) (s : State) (m : MethodId) (args : Array Value) (below : List Frame) (meth : Method) (c : Code) (H : Heap) (locs : List Loc) (cells slots : Nat) (ls : Array Slot) (Q : State → Prop),
      xC G d k p R s m args meth c → xR G w s H → lv_has ls k.2.2.1 lc →
      (∀ (H1 : Heap) (i : Nat), va_at (xD G) (xcl G) (a, e1) H1 → H1.size = H.size → (∀ q : Nat, q ≠ a → H1[q]? = H[q]?) → W p (xl G) e R s m args below meth c H1 (locs ++ [⟨a, i⟩]) cells slots Q (F0 m pc' ls st')) →
      W p (xl G) e R s m args below meth c H locs cells slots Q (F0 m pc ls st)) : xE G d k pc lc st w P := by
  obtain ⟨v, w', hP, h1, h2, h3⟩ := h
  refine ⟨v, w', hP, h1, h2, fun p e R s m args below meth c H locs cells slots ls C r hl hL hc hs => row p e R s m args below meth c H locs cells slots ls _ C r hl (fun H1 i hat z oq => h3 p e R s m args below meth c H1 (locs ++ [⟨a, i⟩]) cells slots ls C (r.set ha hat z oq) hl (fun q hq => ?_) hc hs)⟩
  rcases List.mem_append.mp hq with h | h
  · exact hL q h
  · rw [List.mem_singleton.mp h]
    exact (r.2.2.1 a e0 ha).1
theorem xE.s4 {n : Nat} {e1 : va_E} (h : xE G d k pc' lc st' (xnew w n e1) P)
    (row : ∀ (p : Program) (e : Env) (R : Room) (s : State) (m : MethodId) (args : Array Value) (below : List Frame) (meth : Method) (c : Code) (H : Heap) (locs : List Loc) (cells slots : Nat) (ls : Array Slot) (Q : State → Prop),
      xC G d k p R s m args meth c → xR G w s H → lv_has ls k.2.2.1 lc → cells + 1 ≤ R.cells → slots + n ≤ R.slots →
      (∀ (H1 : Heap), va_at (xD G) (xcl G) (H.size, e1) H1 → H1.size = H.size + 1 → (∀ q : Nat, q < H.size → H1[q]? = H[q]?) → W p (xl G) e R s m args below meth c H1 locs (cells + 1) (slots + n) Q (F0 m pc' ls st')) →
      W p (xl G) e R s m args below meth c H locs cells slots Q (F0 m pc ls st)) : xE G d k pc lc st w P := by
  obtain ⟨v, w', hP, h1, h2, h3⟩ := h
  have h1' : w.1 + 1 ≤ w'.1 := h1
  have h2' : w.2.1 + n ≤ w'.2.1 := h2
  refine ⟨v, w', hP, by omega, by omega, fun p e R s m args below meth c H locs cells slots ls C r hl hL hc hs => row p e R s m args below meth c H locs cells slots ls _ C r hl (by omega) (by omega) (fun H1 hat z oq => h3 p e R s m args below meth c H1 locs (cells + 1) (slots + n) ls C (r.push hat z oq) hl hL ?_ ?_)⟩
  · show cells + 1 + (w'.1 - (w.1 + 1)) = _
    omega
  · show slots + n + (w'.2.1 - (w.2.1 + n)) = _
    omega
end XS
