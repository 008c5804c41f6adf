/-! THE ROWS: one for each kind of instruction -/
def xlk (lc : List (Nat × Value)) (i : Nat) : Option Value := (lc.find? (fun q => q.1 == i)).map (fun q => q.2)
theorem xlk_mem {lc : List (Nat × Value)} {i : Nat} {v : Value} (h : xlk lc i = some v) : (i, v) ∈ lc := by
  unfold xlk at h
  cases hf : lc.find? (fun q => q.1 == i) with
  | none => rw [hf] at h; cases h
  | some q =>
    rw [hf] at h
    cases h
    have h1 := List.find?_some hf
    have h2 := List.mem_of_find?_eq_some hf
    have h3 : q.1 = i := by simpa using h1
    subst h3
    exact h2
theorem xlk_at {ls : Array Slot} {n : Nat} {lc : List (Nat × Value)} {i : Nat} {v : Value} (hl : lv_has ls n lc) (h : xlk lc i = some v) : ls[i]? = some (.val v) := hl.2.2 (i, v) (xlk_mem h)
def xst (lc : List (Nat × Value)) (i : Nat) (v : Value) : List (Nat × Value) := (i, v) :: lc.filter (fun q => !(q.1 == i) && !(q.1 + 1 == i && q.2.category == 2))
section XR
variable {G : xG} {d : Nat} {k : xM} {pc : Nat} {lc : List (Nat × Value)} {st : List Value} {w : xW} {P : Option Value → xW → Prop}
/-- the same place, written otherwise -/
theorem xE.at {pc' : Nat} {lc' : List (Nat × Value)} {st' : List Value} {w' : xW} (h : xE G d k pc' lc' st' w' P) (h1 : pc = pc' := by rfl) (h2 : lc = lc' := by rfl) (h3 : st = st' := by rfl) (h4 : w = w' := by rfl) : xE G d k pc lc st w P := by
  subst h1; subst h2; subst h3; subst h4; exact h
/-- fewer locals -/
theorem xE.few {lc' : List (Nat × Value)} (h : xE G d k pc lc' st w P) (hs : ∀ q ∈ lc', q ∈ lc) : xE G d k pc lc st w P := by
  obtain ⟨v, w', hP, h1, h2, h3⟩ := h
  exact ⟨v, w', hP, h1, h2, fun p e R s m args below meth c H locs cells slots ls C r hl hL hc hs' => h3 p e R s m args below meth c H locs cells slots ls C r ⟨hl.1, hl.2.1, fun q hq => hl.2.2 q (hs q hq)⟩ hL hc hs'⟩
theorem x_iadd {x y : Int32} (q : Nat) (hq : pc + 1 = q) (hd : decode k.2.1 pc = .ok (.iadd, 1))  (h : xE G d k q lc (.int (x + y) :: st) w P) : xE G d k pc lc (.int y :: .int x :: st) w P := by
  subst hq
  exact h.s1 (fun _ _ _ _ _ _ _ _ _ _ _ _ _ _ _ C _ hl kk => lv_iadd C.1 C.2.1 hd kk)
theorem x_isub {x y : Int32} (q : Nat) (hq : pc + 1 = q) (hd : decode k.2.1 pc = .ok (.isub, 1))  (h : xE G d k q lc (.int (x - y) :: st) w P) : xE G d k pc lc (.int y :: .int x :: st) w P := by
  subst hq
  exact h.s1 (fun _ _ _ _ _ _ _ _ _ _ _ _ _ _ _ C _ hl kk => lv_isub C.1 C.2.1 hd kk)
theorem x_imul {x y : Int32} (q : Nat) (hq : pc + 1 = q) (hd : decode k.2.1 pc = .ok (.imul, 1))  (h : xE G d k q lc (.int (x * y) :: st) w P) : xE G d k pc lc (.int y :: .int x :: st) w P := by
  subst hq
  exact h.s1 (fun _ _ _ _ _ _ _ _ _ _ _ _ _ _ _ C _ hl kk => lv_imul C.1 C.2.1 hd kk)
theorem x_iand {x y : Int32} (q : Nat) (hq : pc + 1 = q) (hd : decode k.2.1 pc = .ok (.iand, 1))  (h : xE G d k q lc (.int (x &&& y) :: st) w P) : xE G d k pc lc (.int y :: .int x :: st) w P := by
  subst hq
  exact h.s1 (fun _ _ _ _ _ _ _ _ _ _ _ _ _ _ _ C _ hl kk => lv_iand C.1 C.2.1 hd kk)
theorem x_ior {x y : Int32} (q : Nat) (hq : pc + 1 = q) (hd : decode k.2.1 pc = .ok (.ior, 1))  (h : xE G d k q lc (.int (x ||| y) :: st) w P) : xE G d k pc lc (.int y :: .int x :: st) w P := by
  subst hq
  exact h.s1 (fun _ _ _ _ _ _ _ _ _ _ _ _ _ _ _ C _ hl kk => lv_ior C.1 C.2.1 hd kk)
theorem x_ixor {x y : Int32} (q : Nat) (hq : pc + 1 = q) (hd : decode k.2.1 pc = .ok (.ixor, 1))  (h : xE G d k q lc (.int (x ^^^ y) :: st) w P) : xE G d k pc lc (.int y :: .int x :: st) w P := by
  subst hq
  exact h.s1 (fun _ _ _ _ _ _ _ _ _ _ _ _ _ _ _ C _ hl kk => lv_ixor C.1 C.2.1 hd kk)
theorem x_ishl {x y : Int32} (q : Nat) (hq : pc + 1 = q) (hd : decode k.2.1 pc = .ok (.ishl, 1))  (h : xE G d k q lc (.int (x <<< (y &&& 31)) :: st) w P) : xE G d k pc lc (.int y :: .int x :: st) w P := by
  subst hq
  exact h.s1 (fun _ _ _ _ _ _ _ _ _ _ _ _ _ _ _ C _ hl kk => lv_ishl C.1 C.2.1 hd kk)
theorem x_ishr {x y : Int32} (q : Nat) (hq : pc + 1 = q) (hd : decode k.2.1 pc = .ok (.ishr, 1))  (h : xE G d k q lc (.int (x >>> (y &&& 31)) :: st) w P) : xE G d k pc lc (.int y :: .int x :: st) w P := by
  subst hq
  exact h.s1 (fun _ _ _ _ _ _ _ _ _ _ _ _ _ _ _ C _ hl kk => lv_ishr C.1 C.2.1 hd kk)
theorem x_iushr {x y : Int32} (q : Nat) (hq : pc + 1 = q) (hd : decode k.2.1 pc = .ok (.iushr, 1))  (h : xE G d k q lc (.int (x.toUInt32 >>> (y.toUInt32 &&& Int32.toUInt32 31)).toInt32 :: st) w P) : xE G d k pc lc (.int y :: .int x :: st) w P := by
  subst hq
  exact h.s1 (fun _ _ _ _ _ _ _ _ _ _ _ _ _ _ _ C _ hl kk => lv_iushr C.1 C.2.1 hd rfl kk)
theorem x_ineg {x : Int32} (q : Nat) (hq : pc + 1 = q) (hd : decode k.2.1 pc = .ok (.ineg, 1))  (h : xE G d k q lc (.int (-x) :: st) w P) : xE G d k pc lc (.int x :: st) w P := by
  subst hq
  exact h.s1 (fun _ _ _ _ _ _ _ _ _ _ _ _ _ _ _ C _ hl kk => lv_ineg C.1 C.2.1 hd kk)
theorem x_idiv {x y : Int32} (q : Nat) (hq : pc + 1 = q) (hd : decode k.2.1 pc = .ok (.idiv, 1)) (hne : ¬ y = 0) (h : xE G d k q lc (.int (x / y) :: st) w P) : xE G d k pc lc (.int y :: .int x :: st) w P := by
  subst hq
  exact h.s1 (fun _ _ _ _ _ _ _ _ _ _ _ _ _ _ _ C _ hl kk => lv_idiv C.1 C.2.1 hd hne kk)
theorem x_irem {x y : Int32} (q : Nat) (hq : pc + 1 = q) (hd : decode k.2.1 pc = .ok (.irem, 1)) (hne : ¬ y = 0) (h : xE G d k q lc (.int (x - x / y * y) :: st) w P) : xE G d k pc lc (.int y :: .int x :: st) w P := by
  subst hq
  exact h.s1 (fun _ _ _ _ _ _ _ _ _ _ _ _ _ _ _ C _ hl kk => lv_irem C.1 C.2.1 hd hne kk)
theorem x_ladd {x y : Int64} (q : Nat) (hq : pc + 1 = q) (hd : decode k.2.1 pc = .ok (.ladd, 1))  (h : xE G d k q lc (.long (x + y) :: st) w P) : xE G d k pc lc (.long y :: .long x :: st) w P := by
  subst hq
  exact h.s1 (fun _ _ _ _ _ _ _ _ _ _ _ _ _ _ _ C _ hl kk => lv_ladd C.1 C.2.1 hd kk)
theorem x_lsub {x y : Int64} (q : Nat) (hq : pc + 1 = q) (hd : decode k.2.1 pc = .ok (.lsub, 1))  (h : xE G d k q lc (.long (x - y) :: st) w P) : xE G d k pc lc (.long y :: .long x :: st) w P := by
  subst hq
  exact h.s1 (fun _ _ _ _ _ _ _ _ _ _ _ _ _ _ _ C _ hl kk => lv_lsub C.1 C.2.1 hd kk)
theorem x_lmul {x y : Int64} (q : Nat) (hq : pc + 1 = q) (hd : decode k.2.1 pc = .ok (.lmul, 1))  (h : xE G d k q lc (.long (x * y) :: st) w P) : xE G d k pc lc (.long y :: .long x :: st) w P := by
  subst hq
  exact h.s1 (fun _ _ _ _ _ _ _ _ _ _ _ _ _ _ _ C _ hl kk => lv_lmul C.1 C.2.1 hd kk)
theorem x_land {x y : Int64} (q : Nat) (hq : pc + 1 = q) (hd : decode k.2.1 pc = .ok (.land, 1))  (h : xE G d k q lc (.long (x &&& y) :: st) w P) : xE G d k pc lc (.long y :: .long x :: st) w P := by
  subst hq
  exact h.s1 (fun _ _ _ _ _ _ _ _ _ _ _ _ _ _ _ C _ hl kk => lv_land C.1 C.2.1 hd kk)
theorem x_lor {x y : Int64} (q : Nat) (hq : pc + 1 = q) (hd : decode k.2.1 pc = .ok (.lor, 1))  (h : xE G d k q lc (.long (x ||| y) :: st) w P) : xE G d k pc lc (.long y :: .long x :: st) w P := by
  subst hq
  exact h.s1 (fun _ _ _ _ _ _ _ _ _ _ _ _ _ _ _ C _ hl kk => lv_lor C.1 C.2.1 hd kk)
theorem x_lxor {x y : Int64} (q : Nat) (hq : pc + 1 = q) (hd : decode k.2.1 pc = .ok (.lxor, 1))  (h : xE G d k q lc (.long (x ^^^ y) :: st) w P) : xE G d k pc lc (.long y :: .long x :: st) w P := by
  subst hq
  exact h.s1 (fun _ _ _ _ _ _ _ _ _ _ _ _ _ _ _ C _ hl kk => lv_lxor C.1 C.2.1 hd kk)
theorem x_ldiv {x y : Int64} (q : Nat) (hq : pc + 1 = q) (hd : decode k.2.1 pc = .ok (.ldiv, 1)) (hne : ¬ y = 0) (h : xE G d k q lc (.long (x / y) :: st) w P) : xE G d k pc lc (.long y :: .long x :: st) w P := by
  subst hq
  exact h.s1 (fun _ _ _ _ _ _ _ _ _ _ _ _ _ _ _ C _ hl kk => lv_ldiv C.1 C.2.1 hd hne kk)
theorem x_lrem {x y : Int64} (q : Nat) (hq : pc + 1 = q) (hd : decode k.2.1 pc = .ok (.lrem, 1)) (hne : ¬ y = 0) (h : xE G d k q lc (.long (x - x / y * y) :: st) w P) : xE G d k pc lc (.long y :: .long x :: st) w P := by
  subst hq
  exact h.s1 (fun _ _ _ _ _ _ _ _ _ _ _ _ _ _ _ C _ hl kk => lv_lrem C.1 C.2.1 hd hne kk)
theorem x_i2l {x : Int32} (q : Nat) (hq : pc + 1 = q) (hd : decode k.2.1 pc = .ok (.i2l, 1))  (h : xE G d k q lc (.long x.toInt64 :: st) w P) : xE G d k pc lc (.int x :: st) w P := by
  subst hq
  exact h.s1 (fun _ _ _ _ _ _ _ _ _ _ _ _ _ _ _ C _ hl kk => lv_i2l C.1 C.2.1 hd rfl kk)
theorem x_l2i {x : Int64} (q : Nat) (hq : pc + 1 = q) (hd : decode k.2.1 pc = .ok (.l2i, 1))  (h : xE G d k q lc (.int x.toInt32 :: st) w P) : xE G d k pc lc (.long x :: st) w P := by
  subst hq
  exact h.s1 (fun _ _ _ _ _ _ _ _ _ _ _ _ _ _ _ C _ hl kk => lv_l2i C.1 C.2.1 hd rfl kk)
theorem x_i2b {x : Int32} (q : Nat) (hq : pc + 1 = q) (hd : decode k.2.1 pc = .ok (.i2b, 1))  (h : xE G d k q lc (.int x.toInt8.toInt32 :: st) w P) : xE G d k pc lc (.int x :: st) w P := by
  subst hq
  exact h.s1 (fun _ _ _ _ _ _ _ _ _ _ _ _ _ _ _ C _ hl kk => lv_i2b C.1 C.2.1 hd rfl kk)
theorem x_iconst {n : Int} (q : Nat) (hq : pc + 1 = q) (hd : decode k.2.1 pc = .ok (.iconst n, 1)) (v : Int32) (hv : Int32.ofInt n = v) (h : xE G d k q lc (.int v :: st) w P) : xE G d k pc lc (st) w P := by
  subst hq
  exact h.s1 (fun _ _ _ _ _ _ _ _ _ _ _ _ _ _ _ C _ hl kk => lv_iconst C.1 C.2.1 hd hv kk)
theorem x_bipush {n : Int} (q : Nat) (hq : pc + 2 = q) (hd : decode k.2.1 pc = .ok (.bipush n, 2)) (v : Int32) (hv : (Int8.ofInt n).toInt32 = v) (h : xE G d k q lc (.int v :: st) w P) : xE G d k pc lc (st) w P := by
  subst hq
  exact h.s1 (fun _ _ _ _ _ _ _ _ _ _ _ _ _ _ _ C _ hl kk => lv_bipush C.1 C.2.1 hd hv kk)
theorem x_sipush {n : Int} (q : Nat) (hq : pc + 3 = q) (hd : decode k.2.1 pc = .ok (.sipush n, 3)) (v : Int32) (hv : (Int16.ofInt n).toInt32 = v) (h : xE G d k q lc (.int v :: st) w P) : xE G d k pc lc (st) w P := by
  subst hq
  exact h.s1 (fun _ _ _ _ _ _ _ _ _ _ _ _ _ _ _ C _ hl kk => lv_sipush C.1 C.2.1 hd hv kk)
theorem x_null  (q : Nat) (hq : pc + 1 = q) (hd : decode k.2.1 pc = .ok (.aconst_null, 1))  (h : xE G d k q lc (.null :: st) w P) : xE G d k pc lc (st) w P := by
  subst hq
  exact h.s1 (fun _ _ _ _ _ _ _ _ _ _ _ _ _ _ _ C _ hl kk => lv_null C.1 C.2.1 hd kk)
theorem x_iload_n {j : Fin 4} {x : Int32} (q : Nat) (hq : pc + 1 = q) (hd : decode k.2.1 pc = .ok (.iload_n j, 1)) (hx : xlk lc (j : Nat) = some (.int x)) (h : xE G d k q lc (.int x :: st) w P) : xE G d k pc lc (st) w P := by
  subst hq
  exact h.s1 (fun _ _ _ _ _ _ _ _ _ _ _ _ _ _ _ C _ hl kk => lv_iload_n C.1 C.2.1 hd rfl (xlk_at hl hx) kk)
theorem x_iload {j : Nat} {x : Int32} (q : Nat) (hq : pc + 2 = q) (hd : decode k.2.1 pc = .ok (.iload j, 2)) (hx : xlk lc j = some (.int x)) (h : xE G d k q lc (.int x :: st) w P) : xE G d k pc lc (st) w P := by
  subst hq
  exact h.s1 (fun _ _ _ _ _ _ _ _ _ _ _ _ _ _ _ C _ hl kk => lv_iload C.1 C.2.1 hd (xlk_at hl hx) kk)
theorem x_aload_n {j : Fin 4} {x : Nat} (q : Nat) (hq : pc + 1 = q) (hd : decode k.2.1 pc = .ok (.aload_n j, 1)) (hx : xlk lc (j : Nat) = some (.ref x)) (h : xE G d k q lc (.ref x :: st) w P) : xE G d k pc lc (st) w P := by
  subst hq
  exact h.s1 (fun _ _ _ _ _ _ _ _ _ _ _ _ _ _ _ C _ hl kk => lv_aload_n C.1 C.2.1 hd rfl (xlk_at hl hx) kk)
theorem x_aload {j : Nat} {x : Nat} (q : Nat) (hq : pc + 2 = q) (hd : decode k.2.1 pc = .ok (.aload j, 2)) (hx : xlk lc j = some (.ref x)) (h : xE G d k q lc (.ref x :: st) w P) : xE G d k pc lc (st) w P := by
  subst hq
  exact h.s1 (fun _ _ _ _ _ _ _ _ _ _ _ _ _ _ _ C _ hl kk => lv_aload C.1 C.2.1 hd (xlk_at hl hx) kk)
theorem x_aload_nN {j : Fin 4} (q : Nat) (hq : pc + 1 = q) (hd : decode k.2.1 pc = .ok (.aload_n j, 1)) (hx : xlk lc (j : Nat) = some .null) (h : xE G d k q lc (.null :: st) w P) : xE G d k pc lc (st) w P := by
  subst hq
  exact h.s1 (fun _ _ _ _ _ _ _ _ _ _ _ _ _ _ _ C _ hl kk => lv_aload_nN C.1 C.2.1 hd rfl (xlk_at hl hx) kk)
theorem x_aloadN {j : Nat} (q : Nat) (hq : pc + 2 = q) (hd : decode k.2.1 pc = .ok (.aload j, 2)) (hx : xlk lc j = some .null) (h : xE G d k q lc (.null :: st) w P) : xE G d k pc lc (st) w P := by
  subst hq
  exact h.s1 (fun _ _ _ _ _ _ _ _ _ _ _ _ _ _ _ C _ hl kk => lv_aloadN C.1 C.2.1 hd (xlk_at hl hx) kk)
theorem x_dup {va : Value} (q : Nat) (hq : pc + 1 = q) (hd : decode k.2.1 pc = .ok (.dup, 1)) (h1 : va.category = 1) (h : xE G d k q lc (va :: va :: st) w P) : xE G d k pc lc (va :: st) w P := by
  subst hq
  exact h.s1 (fun _ _ _ _ _ _ _ _ _ _ _ _ _ _ _ C _ hl kk => lv_dup C.1 C.2.1 hd h1 kk)
theorem x_pop {va : Value} (q : Nat) (hq : pc + 1 = q) (hd : decode k.2.1 pc = .ok (.pop, 1)) (h1 : va.category = 1) (h : xE G d k q lc (st) w P) : xE G d k pc lc (va :: st) w P := by
  subst hq
  exact h.s1 (fun _ _ _ _ _ _ _ _ _ _ _ _ _ _ _ C _ hl kk => lv_pop C.1 C.2.1 hd h1 kk)
theorem x_dup_x1 {va vb : Value} (q : Nat) (hq : pc + 1 = q) (hd : decode k.2.1 pc = .ok (.dup_x1, 1)) (h1 : va.category = 1) (h2 : vb.category = 1) (h : xE G d k q lc (va :: vb :: va :: st) w P) : xE G d k pc lc (va :: vb :: st) w P := by
  subst hq
  exact h.s1 (fun _ _ _ _ _ _ _ _ _ _ _ _ _ _ _ C _ hl kk => lv_dup_x1 C.1 C.2.1 hd h1 h2 kk)
theorem x_dup_x2 {va vb vd : Value} (q : Nat) (hq : pc + 1 = q) (hd : decode k.2.1 pc = .ok (.dup_x2, 1)) (h1 : va.category = 1) (h2 : vb.category = 1) (h3 : vd.category = 1) (h : xE G d k q lc (va :: vb :: vd :: va :: st) w P) : xE G d k pc lc (va :: vb :: vd :: st) w P := by
  subst hq
  exact h.s1 (fun _ _ _ _ _ _ _ _ _ _ _ _ _ _ _ C _ hl kk => lv_dup_x2 C.1 C.2.1 hd h1 h2 h3 kk)
theorem x_dup2 {va vb : Value} (q : Nat) (hq : pc + 1 = q) (hd : decode k.2.1 pc = .ok (.dup2, 1)) (h1 : va.category = 1) (h2 : vb.category = 1) (h : xE G d k q lc (va :: vb :: va :: vb :: st) w P) : xE G d k pc lc (va :: vb :: st) w P := by
  subst hq
  exact h.s1 (fun _ _ _ _ _ _ _ _ _ _ _ _ _ _ _ C _ hl kk => lv_dup2_11 C.1 C.2.1 hd h1 h2 kk)
theorem x_goto {off : Int} (hd : decode k.2.1 pc = .ok (.goto off, 3)) (tgt : Nat) (ht : (pc : Int) + off = (tgt : Int)) (h : xE G d k (tgt) lc (st) w P) : xE G d k pc lc (st) w P := h.s1 (fun _ _ _ _ _ _ _ _ _ _ _ _ _ _ _ C _ hl kk => lv_goto C.1 C.2.1 hd ht kk)
theorem x_castN {idx : Nat} (q : Nat) (hq : pc + 3 = q) (hd : decode k.2.1 pc = .ok (.checkcast idx, 3))  (h : xE G d k q lc (.null :: st) w P) : xE G d k pc lc (.null :: st) w P := by
  subst hq
  exact h.s1 (fun _ _ _ _ _ _ _ _ _ _ _ _ _ _ _ C _ hl kk => lv_castN C.1 C.2.1 hd kk)
theorem x_ifnullN {off : Int} (hd : decode k.2.1 pc = .ok (.ifnull off, 3)) (tgt : Nat) (ht : (pc : Int) + off = (tgt : Int)) (h : xE G d k (tgt) lc (st) w P) : xE G d k pc lc (.null :: st) w P := h.s1 (fun _ _ _ _ _ _ _ _ _ _ _ _ _ _ _ C _ hl kk => lv_ifnullN C.1 C.2.1 hd ht kk)
theorem x_ifnull {off : Int} {x : Nat} (q : Nat) (hq : pc + 3 = q) (hd : decode k.2.1 pc = .ok (.ifnull off, 3))  (h : xE G d k q lc (st) w P) : xE G d k pc lc (.ref x :: st) w P := by
  subst hq
  exact h.s1 (fun _ _ _ _ _ _ _ _ _ _ _ _ _ _ _ C _ hl kk => lv_ifnull C.1 C.2.1 hd kk)
theorem x_ifnonnullN {off : Int} (q : Nat) (hq : pc + 3 = q) (hd : decode k.2.1 pc = .ok (.ifnonnull off, 3))  (h : xE G d k q lc (st) w P) : xE G d k pc lc (.null :: st) w P := by
  subst hq
  exact h.s1 (fun _ _ _ _ _ _ _ _ _ _ _ _ _ _ _ C _ hl kk => lv_ifnonnullN C.1 C.2.1 hd kk)
theorem x_ifnonnull {off : Int} {x : Nat} (hd : decode k.2.1 pc = .ok (.ifnonnull off, 3)) (tgt : Nat) (ht : (pc : Int) + off = (tgt : Int)) (h : xE G d k (tgt) lc (st) w P) : xE G d k pc lc (.ref x :: st) w P := h.s1 (fun _ _ _ _ _ _ _ _ _ _ _ _ _ _ _ C _ hl kk => lv_ifnonnull C.1 C.2.1 hd ht kk)
theorem x_istore_n {j : Fin 4} {x : Int32} (q : Nat) (hq : pc + 1 = q) (hd : decode k.2.1 pc = .ok (.istore_n j, 1)) (hn : (j : Nat) < k.2.2.1) (h : xE G d k q (xst lc (j : Nat) (.int x)) st w P) : xE G d k pc lc (.int x :: st) w P := by
  subst hq
  exact h.s2 (fun _ _ _ _ _ _ _ _ _ _ _ _ _ _ _ C _ hl kk => lv_istore_n C.1 C.2.1 hd rfl hl hn rfl kk)
theorem x_istore {j : Nat} {x : Int32} (q : Nat) (hq : pc + 2 = q) (hd : decode k.2.1 pc = .ok (.istore j, 2)) (hn : (j : Nat) < k.2.2.1) (h : xE G d k q (xst lc (j : Nat) (.int x)) st w P) : xE G d k pc lc (.int x :: st) w P := by
  subst hq
  exact h.s2 (fun _ _ _ _ _ _ _ _ _ _ _ _ _ _ _ C _ hl kk => lv_istore C.1 C.2.1 hd hl hn rfl kk)
theorem x_astore_n {j : Fin 4} {x : Nat} (q : Nat) (hq : pc + 1 = q) (hd : decode k.2.1 pc = .ok (.astore_n j, 1)) (hn : (j : Nat) < k.2.2.1) (h : xE G d k q (xst lc (j : Nat) (.ref x)) st w P) : xE G d k pc lc (.ref x :: st) w P := by
  subst hq
  exact h.s2 (fun _ _ _ _ _ _ _ _ _ _ _ _ _ _ _ C _ hl kk => lv_astore_n C.1 C.2.1 hd rfl hl hn rfl kk)
theorem x_astore {j : Nat} {x : Nat} (q : Nat) (hq : pc + 2 = q) (hd : decode k.2.1 pc = .ok (.astore j, 2)) (hn : (j : Nat) < k.2.2.1) (h : xE G d k q (xst lc (j : Nat) (.ref x)) st w P) : xE G d k pc lc (.ref x :: st) w P := by
  subst hq
  exact h.s2 (fun _ _ _ _ _ _ _ _ _ _ _ _ _ _ _ C _ hl kk => lv_astore C.1 C.2.1 hd hl hn rfl kk)
theorem x_astore_nN {j : Fin 4} (q : Nat) (hq : pc + 1 = q) (hd : decode k.2.1 pc = .ok (.astore_n j, 1)) (hn : (j : Nat) < k.2.2.1) (h : xE G d k q (xst lc (j : Nat) (.null)) st w P) : xE G d k pc lc (.null :: st) w P := by
  subst hq
  exact h.s2 (fun _ _ _ _ _ _ _ _ _ _ _ _ _ _ _ C _ hl kk => lv_astore_nN C.1 C.2.1 hd rfl hl hn rfl kk)
theorem x_astoreN {j : Nat} (q : Nat) (hq : pc + 2 = q) (hd : decode k.2.1 pc = .ok (.astore j, 2)) (hn : (j : Nat) < k.2.2.1) (h : xE G d k q (xst lc (j : Nat) (.null)) st w P) : xE G d k pc lc (.null :: st) w P := by
  subst hq
  exact h.s2 (fun _ _ _ _ _ _ _ _ _ _ _ _ _ _ _ C _ hl kk => lv_astoreN C.1 C.2.1 hd hl hn rfl kk)
theorem x_iinc {j : Nat} {n : Int} {x : Int32} (q : Nat) (hq : pc + 3 = q) (hd : decode k.2.1 pc = .ok (.iinc j n, 3)) (hx : xlk lc j = some (.int x)) (v : Int32) (hv : Int32.ofInt n = v) (hn : j < k.2.2.1) (h : xE G d k q (xst lc j (.int (x + v))) st w P) : xE G d k pc lc st w P := by
  subst hq
  subst hv
  obtain ⟨q, hq⟩ := List.getElem?_of_mem (xlk_mem hx)
  exact h.s2 (fun _ _ _ _ _ _ _ _ _ _ _ _ _ _ _ C _ hl kk => lv_iinc C.1 C.2.1 hd hl hq rfl hn rfl kk)
theorem x_if_eq {x : Int32} {off : Int} (tgt q : Nat) (hq : pc + 3 = q) (hd : decode k.2.1 pc = .ok (.ifCond .eq off, 3)) (ht : (pc : Int) + off = (tgt : Int)) (kt : x = 0 → xE G d k tgt lc st w P) (kf : ¬ x = 0 → xE G d k q lc st w P) : xE G d k pc lc (.int x :: st) w P := by
  subst hq
  by_cases hc : x = 0
  · exact (kt hc).s1 (fun _ _ _ _ _ _ _ _ _ _ _ _ _ _ _ C _ _ kk => lv_if_eq C.1 C.2.1 hd ht (fun _ => kk) (fun z => absurd hc (by first | exact z | simpa using z)))
  · exact (kf (by first | exact hc | simpa using hc)).s1 (fun _ _ _ _ _ _ _ _ _ _ _ _ _ _ _ C _ _ kk => lv_if_eq C.1 C.2.1 hd ht (fun z => absurd z hc) (fun _ => kk))
theorem x_if_ne {x : Int32} {off : Int} (tgt q : Nat) (hq : pc + 3 = q) (hd : decode k.2.1 pc = .ok (.ifCond .ne off, 3)) (ht : (pc : Int) + off = (tgt : Int)) (kt : ¬ x = 0 → xE G d k tgt lc st w P) (kf : x = 0 → xE G d k q lc st w P) : xE G d k pc lc (.int x :: st) w P := by
  subst hq
  by_cases hc : ¬ x = 0
  · exact (kt hc).s1 (fun _ _ _ _ _ _ _ _ _ _ _ _ _ _ _ C _ _ kk => lv_if_ne C.1 C.2.1 hd ht (fun _ => kk) (fun z => absurd hc (by first | exact z | simpa using z)))
  · exact (kf (by first | exact hc | simpa using hc)).s1 (fun _ _ _ _ _ _ _ _ _ _ _ _ _ _ _ C _ _ kk => lv_if_ne C.1 C.2.1 hd ht (fun z => absurd z hc) (fun _ => kk))
theorem x_if_lt {x : Int32} {off : Int} (tgt q : Nat) (hq : pc + 3 = q) (hd : decode k.2.1 pc = .ok (.ifCond .lt off, 3)) (ht : (pc : Int) + off = (tgt : Int)) (kt : x < 0 → xE G d k tgt lc st w P) (kf : ¬ x < 0 → xE G d k q lc st w P) : xE G d k pc lc (.int x :: st) w P := by
  subst hq
  by_cases hc : x < 0
  · exact (kt hc).s1 (fun _ _ _ _ _ _ _ _ _ _ _ _ _ _ _ C _ _ kk => lv_if_lt C.1 C.2.1 hd ht (fun _ => kk) (fun z => absurd hc (by first | exact z | simpa using z)))
  · exact (kf (by first | exact hc | simpa using hc)).s1 (fun _ _ _ _ _ _ _ _ _ _ _ _ _ _ _ C _ _ kk => lv_if_lt C.1 C.2.1 hd ht (fun z => absurd z hc) (fun _ => kk))
theorem x_if_ge {x : Int32} {off : Int} (tgt q : Nat) (hq : pc + 3 = q) (hd : decode k.2.1 pc = .ok (.ifCond .ge off, 3)) (ht : (pc : Int) + off = (tgt : Int)) (kt : 0 ≤ x → xE G d k tgt lc st w P) (kf : ¬ 0 ≤ x → xE G d k q lc st w P) : xE G d k pc lc (.int x :: st) w P := by
  subst hq
  by_cases hc : 0 ≤ x
  · exact (kt hc).s1 (fun _ _ _ _ _ _ _ _ _ _ _ _ _ _ _ C _ _ kk => lv_if_ge C.1 C.2.1 hd ht (fun _ => kk) (fun z => absurd hc (by first | exact z | simpa using z)))
  · exact (kf (by first | exact hc | simpa using hc)).s1 (fun _ _ _ _ _ _ _ _ _ _ _ _ _ _ _ C _ _ kk => lv_if_ge C.1 C.2.1 hd ht (fun z => absurd z hc) (fun _ => kk))
theorem x_if_gt {x : Int32} {off : Int} (tgt q : Nat) (hq : pc + 3 = q) (hd : decode k.2.1 pc = .ok (.ifCond .gt off, 3)) (ht : (pc : Int) + off = (tgt : Int)) (kt : 0 < x → xE G d k tgt lc st w P) (kf : ¬ 0 < x → xE G d k q lc st w P) : xE G d k pc lc (.int x :: st) w P := by
  subst hq
  by_cases hc : 0 < x
  · exact (kt hc).s1 (fun _ _ _ _ _ _ _ _ _ _ _ _ _ _ _ C _ _ kk => lv_if_gt C.1 C.2.1 hd ht (fun _ => kk) (fun z => absurd hc (by first | exact z | simpa using z)))
  · exact (kf (by first | exact hc | simpa using hc)).s1 (fun _ _ _ _ _ _ _ _ _ _ _ _ _ _ _ C _ _ kk => lv_if_gt C.1 C.2.1 hd ht (fun z => absurd z hc) (fun _ => kk))
theorem x_if_le {x : Int32} {off : Int} (tgt q : Nat) (hq : pc + 3 = q) (hd : decode k.2.1 pc = .ok (.ifCond .le off, 3)) (ht : (pc : Int) + off = (tgt : Int)) (kt : x ≤ 0 → xE G d k tgt lc st w P) (kf : ¬ x ≤ 0 → xE G d k q lc st w P) : xE G d k pc lc (.int x :: st) w P := by
  subst hq
  by_cases hc : x ≤ 0
  · exact (kt hc).s1 (fun _ _ _ _ _ _ _ _ _ _ _ _ _ _ _ C _ _ kk => lv_if_le C.1 C.2.1 hd ht (fun _ => kk) (fun z => absurd hc (by first | exact z | simpa using z)))
  · exact (kf (by first | exact hc | simpa using hc)).s1 (fun _ _ _ _ _ _ _ _ _ _ _ _ _ _ _ C _ _ kk => lv_if_le C.1 C.2.1 hd ht (fun z => absurd z hc) (fun _ => kk))
theorem x_icmp_eq {x y : Int32} {off : Int} (tgt q : Nat) (hq : pc + 3 = q) (hd : decode k.2.1 pc = .ok (.if_icmp .eq off, 3)) (ht : (pc : Int) + off = (tgt : Int)) (kt : x = y → xE G d k tgt lc st w P) (kf : ¬ x = y → xE G d k q lc st w P) : xE G d k pc lc (.int y :: .int x :: st) w P := by
  subst hq
  by_cases hc : x = y
  · exact (kt hc).s1 (fun _ _ _ _ _ _ _ _ _ _ _ _ _ _ _ C _ _ kk => lv_icmp_eq C.1 C.2.1 hd ht (fun _ => kk) (fun z => absurd hc (by first | exact z | simpa using z)))
  · exact (kf (by first | exact hc | simpa using hc)).s1 (fun _ _ _ _ _ _ _ _ _ _ _ _ _ _ _ C _ _ kk => lv_icmp_eq C.1 C.2.1 hd ht (fun z => absurd z hc) (fun _ => kk))
theorem x_icmp_ne {x y : Int32} {off : Int} (tgt q : Nat) (hq : pc + 3 = q) (hd : decode k.2.1 pc = .ok (.if_icmp .ne off, 3)) (ht : (pc : Int) + off = (tgt : Int)) (kt : ¬ x = y → xE G d k tgt lc st w P) (kf : x = y → xE G d k q lc st w P) : xE G d k pc lc (.int y :: .int x :: st) w P := by
  subst hq
  by_cases hc : ¬ x = y
  · exact (kt hc).s1 (fun _ _ _ _ _ _ _ _ _ _ _ _ _ _ _ C _ _ kk => lv_icmp_ne C.1 C.2.1 hd ht (fun _ => kk) (fun z => absurd hc (by first | exact z | simpa using z)))
  · exact (kf (by first | exact hc | simpa using hc)).s1 (fun _ _ _ _ _ _ _ _ _ _ _ _ _ _ _ C _ _ kk => lv_icmp_ne C.1 C.2.1 hd ht (fun z => absurd z hc) (fun _ => kk))
theorem x_icmp_lt {x y : Int32} {off : Int} (tgt q : Nat) (hq : pc + 3 = q) (hd : decode k.2.1 pc = .ok (.if_icmp .lt off, 3)) (ht : (pc : Int) + off = (tgt : Int)) (kt : x < y → xE G d k tgt lc st w P) (kf : ¬ x < y → xE G d k q lc st w P) : xE G d k pc lc (.int y :: .int x :: st) w P := by
  subst hq
  by_cases hc : x < y
  · exact (kt hc).s1 (fun _ _ _ _ _ _ _ _ _ _ _ _ _ _ _ C _ _ kk => lv_icmp_lt C.1 C.2.1 hd ht (fun _ => kk) (fun z => absurd hc (by first | exact z | simpa using z)))
  · exact (kf (by first | exact hc | simpa using hc)).s1 (fun _ _ _ _ _ _ _ _ _ _ _ _ _ _ _ C _ _ kk => lv_icmp_lt C.1 C.2.1 hd ht (fun z => absurd z hc) (fun _ => kk))
theorem x_icmp_ge {x y : Int32} {off : Int} (tgt q : Nat) (hq : pc + 3 = q) (hd : decode k.2.1 pc = .ok (.if_icmp .ge off, 3)) (ht : (pc : Int) + off = (tgt : Int)) (kt : y ≤ x → xE G d k tgt lc st w P) (kf : ¬ y ≤ x → xE G d k q lc st w P) : xE G d k pc lc (.int y :: .int x :: st) w P := by
  subst hq
  by_cases hc : y ≤ x
  · exact (kt hc).s1 (fun _ _ _ _ _ _ _ _ _ _ _ _ _ _ _ C _ _ kk => lv_icmp_ge C.1 C.2.1 hd ht (fun _ => kk) (fun z => absurd hc (by first | exact z | simpa using z)))
  · exact (kf (by first | exact hc | simpa using hc)).s1 (fun _ _ _ _ _ _ _ _ _ _ _ _ _ _ _ C _ _ kk => lv_icmp_ge C.1 C.2.1 hd ht (fun z => absurd z hc) (fun _ => kk))
theorem x_icmp_gt {x y : Int32} {off : Int} (tgt q : Nat) (hq : pc + 3 = q) (hd : decode k.2.1 pc = .ok (.if_icmp .gt off, 3)) (ht : (pc : Int) + off = (tgt : Int)) (kt : y < x → xE G d k tgt lc st w P) (kf : ¬ y < x → xE G d k q lc st w P) : xE G d k pc lc (.int y :: .int x :: st) w P := by
  subst hq
  by_cases hc : y < x
  · exact (kt hc).s1 (fun _ _ _ _ _ _ _ _ _ _ _ _ _ _ _ C _ _ kk => lv_icmp_gt C.1 C.2.1 hd ht (fun _ => kk) (fun z => absurd hc (by first | exact z | simpa using z)))
  · exact (kf (by first | exact hc | simpa using hc)).s1 (fun _ _ _ _ _ _ _ _ _ _ _ _ _ _ _ C _ _ kk => lv_icmp_gt C.1 C.2.1 hd ht (fun z => absurd z hc) (fun _ => kk))
theorem x_icmp_le {x y : Int32} {off : Int} (tgt q : Nat) (hq : pc + 3 = q) (hd : decode k.2.1 pc = .ok (.if_icmp .le off, 3)) (ht : (pc : Int) + off = (tgt : Int)) (kt : x ≤ y → xE G d k tgt lc st w P) (kf : ¬ x ≤ y → xE G d k q lc st w P) : xE G d k pc lc (.int y :: .int x :: st) w P := by
  subst hq
  by_cases hc : x ≤ y
  · exact (kt hc).s1 (fun _ _ _ _ _ _ _ _ _ _ _ _ _ _ _ C _ _ kk => lv_icmp_le C.1 C.2.1 hd ht (fun _ => kk) (fun z => absurd hc (by first | exact z | simpa using z)))
  · exact (kf (by first | exact hc | simpa using hc)).s1 (fun _ _ _ _ _ _ _ _ _ _ _ _ _ _ _ C _ _ kk => lv_icmp_le C.1 C.2.1 hd ht (fun z => absurd z hc) (fun _ => kk))
theorem x_acmp_eq {x y : Nat} {off : Int} (tgt q : Nat) (hq : pc + 3 = q) (hd : decode k.2.1 pc = .ok (.if_acmp .eq off, 3)) (ht : (pc : Int) + off = (tgt : Int)) (kt : x = y → xE G d k tgt lc st w P) (kf : ¬ x = y → xE G d k q lc st w P) : xE G d k pc lc (.ref y :: .ref x :: st) w P := by
  subst hq
  by_cases hc : x = y
  · exact (kt hc).s1 (fun _ _ _ _ _ _ _ _ _ _ _ _ _ _ _ C _ _ kk => lv_acmp_eq (rx := some x) (ry := some y) C.1 C.2.1 hd ht (fun _ => kk) (fun z => absurd hc (by simpa using z)))
  · exact (kf (by first | exact hc | simpa using hc)).s1 (fun _ _ _ _ _ _ _ _ _ _ _ _ _ _ _ C _ _ kk => lv_acmp_eq (rx := some x) (ry := some y) C.1 C.2.1 hd ht (fun z => absurd (by simpa using z) hc) (fun _ => kk))
theorem x_acmp_ne {x y : Nat} {off : Int} (tgt q : Nat) (hq : pc + 3 = q) (hd : decode k.2.1 pc = .ok (.if_acmp .ne off, 3)) (ht : (pc : Int) + off = (tgt : Int)) (kt : ¬ x = y → xE G d k tgt lc st w P) (kf : x = y → xE G d k q lc st w P) : xE G d k pc lc (.ref y :: .ref x :: st) w P := by
  subst hq
  by_cases hc : ¬ x = y
  · exact (kt hc).s1 (fun _ _ _ _ _ _ _ _ _ _ _ _ _ _ _ C _ _ kk => lv_acmp_ne (rx := some x) (ry := some y) C.1 C.2.1 hd ht (fun _ => kk) (fun z => absurd hc (by simpa using z)))
  · exact (kf (by first | exact hc | simpa using hc)).s1 (fun _ _ _ _ _ _ _ _ _ _ _ _ _ _ _ C _ _ kk => lv_acmp_ne (rx := some x) (ry := some y) C.1 C.2.1 hd ht (fun z => absurd (by simpa using z) hc) (fun _ => kk))
end XR
