/-! CALLS -/
section XM
variable {G : xG} {d : Nat} {k kc : xM} {pc dc : Nat} {lc : List (Nat × Value)} {st : List Value} {w w1 : xW} {v : Option Value} {P Pc : Option Value → xW → Prop}
def xPc (G : xG) (av : List Value) (w : xW) : Array Value → State → Prop := fun a U => a = av.toArray ∧ xK G U ∧ xR G w U U.heap
theorem xPc.blind {av : List Value} : FrameBlind (xPc G av w) := by
  intro a U g mk h
  obtain ⟨h1, h2, h3⟩ := h
  exact ⟨h1, h2.warm (U := U.calling g mk a) (State.WarmedH.refl U), xR.moved (U := U.calling g mk a) (Vm.Alike.refl U.vm) h3⟩
/-- the room that a method of depth dc is given -/
abbrev xrm (dc : Nat) (w w1 : xW) : Room := { frames := dc, cells := w1.1 - w.1, slots := w1.2.1 - w.2.1, locals := 42 * dc }
theorem xV.met {av : List Value} (hy : plainName kc.1.cls = true ∨ plainFor kc.1 = true) (hlen : (lg_sl av).length ≤ kc.2.2.1) (h : xV G dc kc 0 (lv_args 0 av) [] w v w1) :
    Met (xl G) kc.1 (Cond.code kc.1 kc.2.1 kc.2.2.1 kc.2.2.2 :: xws G) (xrm dc w w1) (xPc G av w) (xQ G v w1) (w1.1 - w.1) (w1.2.1 - w.2.1) (fun q => xb G ≤ q) := by
  have body : ∀ p e s m args below meth c s₁, BodyLoose p (xl G) kc.1 (headSpec (Cond.code kc.1 kc.2.1 kc.2.2.1 kc.2.2.2 :: xws G) (xrm dc w w1)) kc.2.1 kc.2.2.1 kc.2.2.2 e s m args below meth c s₁ → c.maxLocals = kc.2.2.1 → xPc G av w args s →
      W p (xl G) e (headSpec (Cond.code kc.1 kc.2.1 kc.2.2.1 kc.2.2.2 :: xws G) (xrm dc w w1)).room s m args below meth c s.heap [] 0 0 (MQ below (xQ G v w1) args s (w1.1 - w.1) (w1.2.1 - w.2.1) (fun q => xb G ≤ q)) (entryFrame m args kc.2.2.1) := by
    intro p e s m args below meth c s₁ B hml hv
    obtain ⟨rfl, hK, hR⟩ := hv
    have hts := atoms_spec (ws := Cond.code kc.1 kc.2.1 kc.2.2.1 kc.2.2.2 :: xws G) B.pre
    rw [lg_entry_eq]
    exact h.2.2 p e (xrm dc w w1) s m av.toArray below meth c s.heap [] 0 0 _ ⟨B.exec, B.bytes, hml, B.returns, B.notSynchronized, (name_of_methodNamed B.named B.method).1, findClass_of_methodNamed B.named, fun x hx => hts x (List.mem_cons_of_mem _ hx), hK, Nat.le_refl _, Nat.le_refl _⟩ hR (lv_entry av hlen) (fun q hq => by cases hq) (Nat.zero_add _) (Nat.zero_add _)
  rcases hy with hy | hy
  · exact Met.ofW (cc := kc.2.1) (maxL := kc.2.2.1) (ret := kc.2.2.2) hy rfl body
  · exact va_MetF (cc := kc.2.1) (maxL := kc.2.2.1) (ret := kc.2.2.2) hy rfl body
end XM
section XN
variable {p : Program} {l : Launch} {e : Env} {R : Room} {s : State} {m : MethodId} {args : Array Value} {below : List Frame} {meth : Method} {c : Code} {H : Heap} {locs : List Loc} {cells slots : Nat} {Q : State → Prop}
/-- behind a call -/
theorem xRun {G : xG} {w1 : xW} {v : Option Value} {mc ms pc : Nat} {ls : Array Slot} {st rest : List Value} {a : Array Value} (hr : va_Run p l e R s m args below meth c H locs cells slots mc ms (F0 m pc ls st) rest (xQ G v w1 a) (fun q => xb G ≤ q)) (hL : ∀ q ∈ locs, xb G ≤ q.base)
    (kk : ∀ (H1 : Heap) (locs1 : List Loc), xR G w1 s H1 → (∀ q ∈ locs1, xb G ≤ q.base) → W p l e R s m args below meth c H1 locs1 (cells + mc) (slots + ms) Q (F0 m (pc + 3) ls (v.toList ++ rest))) : W p l e R s m args below meth c H locs cells slots Q (F0 m pc ls st) := by
  intro T hT X
  obtain ⟨v', st₀, t, T', L, h0, X', hL', e1, e2, ⟨hv, hb⟩, stp⟩ := hr T hT X
  cases hv
  have hvm : t.vm.Alike s.vm := by
    rw [← e2]
    exact X'.warmed.alike.symm
  obtain ⟨t2, a1, b1⟩ := kk T'.heap (locs ++ L) (by rw [e1]; exact hb.moved hvm) (fun q hq => by
    rcases List.mem_append.mp hq with h | h
    · exact hL q h
    · exact hL' q h) T' rfl X'
  exact ⟨t2, stp t2 a1, b1⟩
end XN
/-- what every call asks of the callee -/
def xLc (G : xG) (kc : xM) (n : Nat) : Prop :=
  Cond.initialized kc.1.cls ∈ xws G ∧ Cond.code kc.1 kc.2.1 kc.2.2.1 kc.2.2.2 ∈ xws G ∧ (kc.1.cls ≠ "java/lang/invoke/MethodHandle" ∧ kc.1.cls ≠ "java/lang/invoke/VarHandle" ∧ (parseMethodDescriptor kc.1.desc).map (fun d => d.parameters.length) = some n) ∧ (plainName kc.1.cls = true ∨ plainFor kc.1 = true) ∧ kc.2.2.1 ≤ 23 ∧ (∀ w ∈ xws G, goodWord w = true)
def xLS (G : xG) (own : String) (idx : Nat) (kc : xM) (n : Nat) : Prop := xLc G kc n ∧ Cond.methodLink own idx kc.1 ∈ xws G ∧ Cond.static kc.1 ∈ xws G
def xLSN (G : xG) (own : String) (idx : Nat) (kc : xM) (n : Nat) : Prop := xLc G kc n ∧ (∃ host : String, Cond.methodLinkNest own idx kc.1 host ∈ xnw G) ∧ Cond.static kc.1 ∈ xws G
def xLI (G : xG) (own : String) (idx : Nat) (kc : xM) (n : Nat) : Prop := xLc G kc n ∧ Cond.methodLink own idx kc.1 ∈ xws G ∧ Cond.instanceMethod kc.1 ∈ xws G ∧ kc.1.name = "<init>" ∧ kc.2.2.2 = none
def xLIN (G : xG) (own : String) (idx : Nat) (kc : xM) (n : Nat) : Prop := xLc G kc n ∧ (∃ host : String, Cond.methodLinkNest own idx kc.1 host ∈ xnw G) ∧ Cond.instanceMethod kc.1 ∈ xws G ∧ kc.1.name = "<init>" ∧ kc.2.2.2 = none
def xLV (G : xG) (own C : String) (idx : Nat) (kc : xM) (n : Nat) : Prop := xLc G kc n ∧ Cond.methodLink own idx kc.1 ∈ xws G ∧ Cond.instanceMethod kc.1 ∈ xws G ∧ Cond.selects C kc.1 kc.1 ∈ xws G
def xLVN (G : xG) (own C : String) (idx : Nat) (kc : xM) (n : Nat) : Prop := xLc G kc n ∧ (∃ host : String, Cond.methodLinkNest own idx kc.1 host ∈ xnw G) ∧ Cond.instanceMethod kc.1 ∈ xws G ∧ Cond.selects C kc.1 kc.1 ∈ xws G
theorem xLc.good {G : xG} {kc : xM} {n : Nat} (h : xLc G kc n) : GoodIn (xws G) (Cond.code kc.1 kc.2.1 kc.2.2.1 kc.2.2.2 :: xws G) := by
  intro x hx
  have hm : x ∈ xws G := by
    rcases List.mem_cons.mp hx with rfl | hx
    · exact h.2.1
    · exact hx
  exact ⟨hm, good_of_word (h.2.2.2.2.2 x hm)⟩
section XCL
variable {G : xG} {d : Nat} {k kc : xM} {pc dc : Nat} {lc : List (Nat × Value)} {st : List Value} {w : xW} {P Pc : Option Value → xW → Prop}
theorem x_call {idx n : Nat} (q : Nat) (hq : pc + 3 = q) (As rest : List Value) (hS : st = As.reverse ++ rest) (hd : decode k.2.1 pc = .ok (.invokestatic idx, 3)) (hk : xLS G k.1.cls idx kc n ∨ xLSN G k.1.cls idx kc n) (hn : As.length = n) (hr : (rest.map fun v => v.category).sum ≤ 8) (hls : (lg_sl As).length ≤ kc.2.2.1) (hdd : dc + 1 ≤ d) (hc : xE G dc kc 0 (lv_args 0 As) [] w Pc) (kk : ∀ v w1, Pc v w1 → xE G d k q lc (v.toList ++ rest) w1 P) : xE G d k pc lc st w P := by
  subst hq
  subst hS
  obtain ⟨v, w1, hP1, hV1⟩ := hc
  obtain ⟨v', w', hP', h1, h2, h3⟩ := kk v w1 hP1
  have g1 := hV1.1
  have g2 := hV1.2.1
  refine ⟨v', w', hP', by omega, by omega, fun p e R s m args below meth c H locs cells slots ls C r hl hL hc hs => ?_⟩
  have C' := C
  obtain ⟨c1, c2, c3, c4, c5, c6, c7, c8, c9, c10, c11⟩ := C
  have hcc : cells + (w1.1 - w.1) + (w'.1 - w1.1) = R.cells := by omega
  have hss : slots + (w1.2.1 - w.2.1) + (w'.2.1 - w1.2.1) = R.slots := by omega
  have hp : PreS s H (xPc G As w) As := ⟨xPc.blind, fun U hU hW => ⟨rfl, c9.warm hW, by rw [hU]; exact r.moved hW.alike⟩⟩
  have hR : (xrm dc w w1).frames + 1 ≤ R.frames ∧ 8 + (kc.2.2.1 + 11) + (xrm dc w w1).locals ≤ R.locals := by
    have hm : kc.2.2.1 ≤ 23 := by
      rcases hk with hk | hk
      · exact hk.1.2.2.2.2.1
      · exact hk.1.2.2.2.2.1
    show dc + 1 ≤ _ ∧ 8 + (kc.2.2.1 + 11) + 42 * dc ≤ _
    omega
  refine xRun (G := G) (w1 := w1) (v := v) (mc := w1.1 - w.1) (ms := w1.2.1 - w.2.1) (rest := rest) (a := As.toArray) ?_ hL (fun H1 locs1 r1 hL1 => h3 p e R s m args below meth c H1 locs1 _ _ ls C' r1 hl hL1 hcc hss)
  rcases hk with ⟨hk, hk1, hk2⟩ | ⟨hk, ⟨host, hk1⟩, hk2⟩
  · have hM := hV1.met hk.2.2.2.1 hls
    exact va_runS ⟨c1, c2, c3, c7, c8⟩ hM ⟨callB_of n c8 hk.good rfl rfl rfl (c8 _ hk.1) (c8 _ hk1) hk.2.2.1 hR, c8 _ hk2⟩ hp rfl hn hl.1 rfl (lv_room hr) hd ⟨by omega, by omega⟩
  · have hM := hV1.met hk.2.2.2.1 hls
    exact va_runSN ⟨c1, c2, c3, c7, c8⟩ hM ⟨va_cnB n c8 hk.good rfl rfl rfl (c9.2 _ hk1).2 (c8 _ hk.1) hk.2.2.1 hR, c8 _ hk2, trivial⟩ hp rfl hn hl.1 rfl (lv_room hr) hd ⟨by omega, by omega⟩
theorem x_callI {idx n b : Nat} (q : Nat) (hq : pc + 3 = q) (As rest : List Value) (hS : st = As.reverse ++ .ref b :: rest) (hd : decode k.2.1 pc = .ok (.invokespecial idx, 3)) (hk : xLI G k.1.cls idx kc n ∨ xLIN G k.1.cls idx kc n) (hn : As.length = n) (hr : (rest.map fun v => v.category).sum ≤ 8) (hls : (lg_sl (.ref b :: As)).length ≤ kc.2.2.1) (hdd : dc + 1 ≤ d) (hc : xE G dc kc 0 (lv_args 0 (.ref b :: As)) [] w Pc) (kk : ∀ v w1, Pc v w1 → xE G d k q lc (v.toList ++ rest) w1 P) : xE G d k pc lc st w P := by
  subst hq
  subst hS
  obtain ⟨v, w1, hP1, hV1⟩ := hc
  obtain ⟨v', w', hP', h1, h2, h3⟩ := kk v w1 hP1
  have g1 := hV1.1
  have g2 := hV1.2.1
  refine ⟨v', w', hP', by omega, by omega, fun p e R s m args below meth c H locs cells slots ls C r hl hL hc hs => ?_⟩
  have C' := C
  obtain ⟨c1, c2, c3, c4, c5, c6, c7, c8, c9, c10, c11⟩ := C
  have hcc : cells + (w1.1 - w.1) + (w'.1 - w1.1) = R.cells := by omega
  have hss : slots + (w1.2.1 - w.2.1) + (w'.2.1 - w1.2.1) = R.slots := by omega
  have hp : PreS s H (xPc G (.ref b :: As) w) (.ref b :: As) := ⟨xPc.blind, fun U hU hW => ⟨rfl, c9.warm hW, by rw [hU]; exact r.moved hW.alike⟩⟩
  have hR : (xrm dc w w1).frames + 1 ≤ R.frames ∧ 8 + (kc.2.2.1 + 11) + (xrm dc w w1).locals ≤ R.locals := by
    have hm : kc.2.2.1 ≤ 23 := by
      rcases hk with hk | hk
      · exact hk.1.2.2.2.2.1
      · exact hk.1.2.2.2.2.1
    show dc + 1 ≤ _ ∧ 8 + (kc.2.2.1 + 11) + 42 * dc ≤ _
    omega
  refine xRun (G := G) (w1 := w1) (v := v) (mc := w1.1 - w.1) (ms := w1.2.1 - w.2.1) (rest := rest) (a := (Value.ref b :: As).toArray) ?_ hL (fun H1 locs1 r1 hL1 => h3 p e R s m args below meth c H1 locs1 _ _ ls C' r1 hl hL1 hcc hss)
  rcases hk with ⟨hk, hk1, hk2, hk3, hk4⟩ | ⟨hk, ⟨host, hk1⟩, hk2, hk3, hk4⟩
  · have hM := hV1.met hk.2.2.2.1 hls
    have hcb := callB_of (R := R) n c8 hk.good rfl rfl rfl (c8 _ hk.1) (c8 _ hk1) hk.2.2.1 hR
    rw [hk4] at hcb hM
    exact va_runI ⟨c1, c2, c3, c7, c8⟩ hM ⟨hcb, hk3, c8 _ hk2⟩ hp rfl hn hl.1 rfl (lv_room hr) hd ⟨by omega, by omega⟩
  · have hM := hV1.met hk.2.2.2.1 hls
    have hcb := va_cnB (R := R) n c8 hk.good rfl rfl rfl (c9.2 _ hk1).2 (c8 _ hk.1) hk.2.2.1 hR
    rw [hk4] at hcb hM
    exact va_runIN ⟨c1, c2, c3, c7, c8⟩ hM ⟨hcb, hk3, c8 _ hk2⟩ hp rfl hn hl.1 rfl (lv_room hr) hd ⟨by omega, by omega⟩
theorem x_callV {idx n b ci : Nat} {r0 : vw_C} {fs : List Value} (q : Nat) (hq : pc + 3 = q) (As rest : List Value) (hS : st = As.reverse ++ .ref b :: rest) (hd : decode k.2.1 pc = .ok (.invokevirtual idx, 3)) (hb : w.2.2 b = some (.inr (ci, fs))) (hci : (xcl G)[ci]? = some r0) (hk : xLV G k.1.cls r0.1 idx kc n ∨ xLVN G k.1.cls r0.1 idx kc n) (hn : As.length = n) (hr : (rest.map fun v => v.category).sum ≤ 8) (hls : (lg_sl (.ref b :: As)).length ≤ kc.2.2.1) (hdd : dc + 1 ≤ d) (hc : xE G dc kc 0 (lv_args 0 (.ref b :: As)) [] w Pc) (kk : ∀ v w1, Pc v w1 → xE G d k q lc (v.toList ++ rest) w1 P) : xE G d k pc lc st w P := by
  subst hq
  subst hS
  obtain ⟨v, w1, hP1, hV1⟩ := hc
  obtain ⟨v', w', hP', h1, h2, h3⟩ := kk v w1 hP1
  have g1 := hV1.1
  have g2 := hV1.2.1
  refine ⟨v', w', hP', by omega, by omega, fun p e R s m args below meth c H locs cells slots ls C r hl hL hc hs => ?_⟩
  have C' := C
  obtain ⟨c1, c2, c3, c4, c5, c6, c7, c8, c9, c10, c11⟩ := C
  have hcc : cells + (w1.1 - w.1) + (w'.1 - w1.1) = R.cells := by omega
  have hss : slots + (w1.2.1 - w.2.1) + (w'.2.1 - w1.2.1) = R.slots := by omega
  have hp : PreV s H r0.1 b (xPc G (.ref b :: As) w) As := ⟨xPc.blind, va_recv c9.1 (r.one hb) hci (q0 := 0) rfl, fun U hU hW => ⟨rfl, c9.warm hW, by rw [hU]; exact r.moved hW.alike⟩⟩
  have hR : (xrm dc w w1).frames + 1 ≤ R.frames ∧ 8 + (kc.2.2.1 + 11) + (xrm dc w w1).locals ≤ R.locals := by
    have hm : kc.2.2.1 ≤ 23 := by
      rcases hk with hk | hk
      · exact hk.1.2.2.2.2.1
      · exact hk.1.2.2.2.2.1
    show dc + 1 ≤ _ ∧ 8 + (kc.2.2.1 + 11) + 42 * dc ≤ _
    omega
  refine xRun (G := G) (w1 := w1) (v := v) (mc := w1.1 - w.1) (ms := w1.2.1 - w.2.1) (rest := rest) (a := (Value.ref b :: As).toArray) ?_ hL (fun H1 locs1 r1 hL1 => h3 p e R s m args below meth c H1 locs1 _ _ ls C' r1 hl hL1 hcc hss)
  rcases hk with ⟨hk, hk1, hk2, hk3⟩ | ⟨hk, ⟨host, hk1⟩, hk2, hk3⟩
  · have hM := hV1.met hk.2.2.2.1 hls
    exact va_runV ⟨c1, c2, c3, c7, c8⟩ hM ⟨callB_of n c8 hk.good rfl rfl rfl (c8 _ hk.1) (c8 _ hk1) hk.2.2.1 hR, c8 _ hk2, c8 _ hk3⟩ hp rfl hn hl.1 rfl (lv_room hr) hd ⟨by omega, by omega⟩
  · have hM := hV1.met hk.2.2.2.1 hls
    exact va_runVN ⟨c1, c2, c3, c7, c8⟩ hM ⟨va_cnB n c8 hk.good rfl rfl rfl (c9.2 _ hk1).2 (c8 _ hk.1) hk.2.2.1 hR, c8 _ hk2, c8 _ hk3⟩ hp rfl hn hl.1 rfl (lv_room hr) hd ⟨by omega, by omega⟩
end XCL

/-! CALLS, by contracts that take what comes behind: 'xkk' is the rest of the caller -/
def xkk (G : xG) (d : Nat) (k : xM) (q : Nat) (lc : List (Nat × Value)) (rest : List Value) (P : Option Value → xW → Prop) : Option Value → xW → Prop := fun v w1 => match v with
  | some x => xE G d k q lc (x :: rest) w1 P
  | none => xE G d k q lc rest w1 P
section XCK
variable {G : xG} {d : Nat} {k kc : xM} {pc dc : Nat} {lc : List (Nat × Value)} {st : List Value} {w : xW} {P : Option Value → xW → Prop}
theorem y_call {idx n : Nat} (q : Nat) (hq : pc + 3 = q) (As rest : List Value) (hS : st = As.reverse ++ rest) (hd : decode k.2.1 pc = .ok (.invokestatic idx, 3)) (hk : xLS G k.1.cls idx kc n ∨ xLSN G k.1.cls idx kc n) (hn : As.length = n) (hr : (rest.map fun v => v.category).sum ≤ 8) (hls : (lg_sl As).length ≤ kc.2.2.1) (hdd : dc + 1 ≤ d) (hc : xE G dc kc 0 (lv_args 0 As) [] w (xkk G d k q lc rest P)) : xE G d k pc lc st w P :=
  x_call q hq As rest hS hd hk hn hr hls hdd hc (fun v w1 h => by cases v <;> exact h)
theorem y_callI {idx n b : Nat} (q : Nat) (hq : pc + 3 = q) (As rest : List Value) (hS : st = As.reverse ++ .ref b :: rest) (hd : decode k.2.1 pc = .ok (.invokespecial idx, 3)) (hk : xLI G k.1.cls idx kc n ∨ xLIN G k.1.cls idx kc n) (hn : As.length = n) (hr : (rest.map fun v => v.category).sum ≤ 8) (hls : (lg_sl (.ref b :: As)).length ≤ kc.2.2.1) (hdd : dc + 1 ≤ d) (hc : xE G dc kc 0 (lv_args 0 (.ref b :: As)) [] w (xkk G d k q lc rest P)) : xE G d k pc lc st w P :=
  x_callI q hq As rest hS hd hk hn hr hls hdd hc (fun v w1 h => by cases v <;> exact h)
theorem y_callV {idx n b ci : Nat} {r0 : vw_C} {fs : List Value} (q : Nat) (hq : pc + 3 = q) (As rest : List Value) (hS : st = As.reverse ++ .ref b :: rest) (hd : decode k.2.1 pc = .ok (.invokevirtual idx, 3)) (hb : w.2.2 b = some (.inr (ci, fs))) (hci : (xcl G)[ci]? = some r0) (hk : xLV G k.1.cls r0.1 idx kc n ∨ xLVN G k.1.cls r0.1 idx kc n) (hn : As.length = n) (hr : (rest.map fun v => v.category).sum ≤ 8) (hls : (lg_sl (.ref b :: As)).length ≤ kc.2.2.1) (hdd : dc + 1 ≤ d) (hc : xE G dc kc 0 (lv_args 0 (.ref b :: As)) [] w (xkk G d k q lc rest P)) : xE G d k pc lc st w P :=
  x_callV q hq As rest hS hd hb hci hk hn hr hls hdd hc (fun v w1 h => by cases v <;> exact h)
end XCK
