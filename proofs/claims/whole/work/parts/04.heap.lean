/-! THE ROWS THAT READ AND WRITE CELLS, MAKE THEM, CALL AND RETURN -/
/-- field j of class ci, as class 'own' names it by its pool entry idx -/
def xFl (G : xG) (own : String) (idx ci j : Nat) (C : String) (T : u_T) (N : Nat) : Prop :=
  (xcl G)[ci]? = some (C, T, N) ∧ (∀ w ∈ u_ws C T N, w ∈ xws G) ∧ j < N ∧
  (Cond.fieldLink own idx (T j).1 (T j).2.1 (T j).2.2.1 ∈ xws G ∨ (∃ ref : String, Cond.fieldLink own idx ref (T j).2.1 (T j).2.2.1 ∈ xws G ∧ Cond.sameField ref (T j).1 (T j).2.1 (T j).2.2.1 ∈ xws G) ∨ ∃ host : String, Cond.fieldLinkNest own idx (T j).1 (T j).2.1 (T j).2.2.1 host ∈ xnw G)
/-- .. and it may be written there -/
def xFp (G : xG) (own : String) (idx ci j : Nat) (C : String) (T : u_T) (N : Nat) (ty : Nat → FieldType) (ini : Bool) : Prop :=
  xFl G own idx ci j C T N ∧ (∀ k, k < N → parseFieldDescriptor (T k).2.2.1 = some (ty k)) ∧ (∀ a, a < N → ∀ b, b < N → a ≠ b → (T a).2.1 ≠ (T b).2.1) ∧
  ((T j).2.2.2 = false ∨ ((T j).2.2.2 = true ∧ ini = true ∧ (T j).1 = own ∧ Cond.fieldLink own idx (T j).1 (T j).2.1 (T j).2.2.1 ∈ xws G))
section XPW
variable {p : Program} {l : Launch} {e : Env} {R : Room} {s : State} {m : MethodId} {args : Array Value} {below : List Frame} {meth : Method} {c : Code} {H : Heap} {locs : List Loc} {cells slots : Nat} {Q : State → Prop}
variable {cc : ByteArray} {pc : Nat} {ls : Array Slot} {rest : List Value} {D : va_G} {cl : List vw_C} {a : Nat} {tys : List (ClassId × FieldType)}
theorem xw_put (hexec : p.tables.exec = Jvm.exec) (hb : c.code = cc) {own ref C : String} {T : u_T} {N ci index : Nat} {Ts : List Cond} (hts : ∀ w ∈ Ts, w.before args s = true) (hin : ∀ w ∈ u_ws C T N, w ∈ Ts) (ty0 : Nat → FieldType) (hty : ∀ k, k < N → parseFieldDescriptor (T k).2.2.1 = some (ty0 k)) (hnm : ∀ a, a < N → ∀ b, b < N → a ≠ b → (T a).2.1 ≠ (T b).2.1) (hown : s.vm.findClass own = some m.cls) (hK : va_K D cl tys s) {fs : List Value} (he : va_at D cl (a, .inr (ci, fs)) H) (hc : cl[ci]? = some (C, T, N)) (k : Nat) (hk : k < N) (hlink : (Cond.fieldLink own index ref (T k).2.1 (T k).2.2.1).before args s = true) (hsame : ∀ x, s.fieldFound? (T k).1 (T k).2.1 (T k).2.2.1 = some x → s.fieldFound? ref (T k).2.1 (T k).2.2.1 = some x) (hfin : (T k).2.2.2 = false) {v : Value} (hn : narrow (ty0 k) v = v) (hfit : fits (ty0 k) v = true) (hl : k < fs.length)
    (hdg : decode cc pc = .ok (.putfield index, 3)) (kk : ∀ (H1 : Heap) (i : Nat), va_at D cl (a, .inr (ci, fs.set k v)) H1 → H1.size = H.size → (∀ q : Nat, q ≠ a → H1[q]? = H[q]?) → W p l e R s m args below meth c H1 (locs ++ [⟨a, i⟩]) cells slots Q (F0 m (pc + 3) ls rest)) : W p l e R s m args below meth c H locs cells slots Q (F0 m pc ls (v :: .ref a :: rest)) := by
  have hap := va_apart (own := own) hts hin ty0 hty hnm hK hc
  obtain ⟨r, h1, cell, q1, q2, q3, q4⟩ := he
  have hr : r = (C, T, N) := Option.some.inj (h1.symm.trans hc)
  subst hr
  obtain ⟨hS, hfc, kC, hkC, hkind⟩ := hK.1 ci _ hc
  obtain ⟨cf, kf, fi, f, hi, hsl⟩ := hS k hk
  have hlay := hts _ (hin _ (u_in_lay hk))
  unfold u_lay at hlay
  rw [if_neg (by rw [hfin]; decide)] at hlay
  have hst := (u_facts hfc hkC (u_lays hts hin hk) hi).1
  have h6 := u_store hfc hkC hkind hlay hi (hty k hk) hn hfit
  refine W.putK hexec hb (f := f) ⟨hown, hlink, ⟨_, _, _, hsame _ hi⟩, hst⟩ (by rw [q2]; exact h6) q1 q3 (by rw [hsl]; exact k2_hasslot (q4 k hk)) rfl rfl hdg fun H' e1 e2 e3 => ?_
  rw [hsl] at e1 ⊢
  exact kk H' _ ⟨_, hc, t_OB.to (V := updV (vp_V fs) k v) ⟨_, e1, q2, q3, t_set q4 hap hk v⟩ (fun j _ => vp_updV_set hl v j)⟩ e2 e3
theorem xw_putN (hexec : p.tables.exec = Jvm.exec) (hb : c.code = cc) {own ref C host : String} {T : u_T} {N ci index : Nat} {Ts : List Cond} (hts : ∀ w ∈ Ts, w.before args s = true) (hin : ∀ w ∈ u_ws C T N, w ∈ Ts) (ty0 : Nat → FieldType) (hty : ∀ k, k < N → parseFieldDescriptor (T k).2.2.1 = some (ty0 k)) (hnm : ∀ a, a < N → ∀ b, b < N → a ≠ b → (T a).2.1 ≠ (T b).2.1) (hown : s.vm.findClass own = some m.cls) (hK : va_K D cl tys s) {fs : List Value} (he : va_at D cl (a, .inr (ci, fs)) H) (hc : cl[ci]? = some (C, T, N)) (k : Nat) (hk : k < N) (hlink : (Cond.fieldLinkNest own index ref (T k).2.1 (T k).2.2.1 host).before args s = true) (hsame : ∀ x, s.fieldFound? (T k).1 (T k).2.1 (T k).2.2.1 = some x → s.fieldFound? ref (T k).2.1 (T k).2.2.1 = some x) (hfin : (T k).2.2.2 = false) {v : Value} (hn : narrow (ty0 k) v = v) (hfit : fits (ty0 k) v = true) (hl : k < fs.length)
    (hdg : decode cc pc = .ok (.putfield index, 3)) (kk : ∀ (H1 : Heap) (i : Nat), va_at D cl (a, .inr (ci, fs.set k v)) H1 → H1.size = H.size → (∀ q : Nat, q ≠ a → H1[q]? = H[q]?) → W p l e R s m args below meth c H1 (locs ++ [⟨a, i⟩]) cells slots Q (F0 m (pc + 3) ls rest)) : W p l e R s m args below meth c H locs cells slots Q (F0 m pc ls (v :: .ref a :: rest)) := by
  have hap := va_apart (own := own) hts hin ty0 hty hnm hK hc
  obtain ⟨r, h1, cell, q1, q2, q3, q4⟩ := he
  have hr : r = (C, T, N) := Option.some.inj (h1.symm.trans hc)
  subst hr
  obtain ⟨hS, hfc, kC, hkC, hkind⟩ := hK.1 ci _ hc
  obtain ⟨cf, kf, fi, f, hi, hsl⟩ := hS k hk
  have hlay := hts _ (hin _ (u_in_lay hk))
  unfold u_lay at hlay
  rw [if_neg (by rw [hfin]; decide)] at hlay
  have hst := (u_facts hfc hkC (u_lays hts hin hk) hi).1
  have h6 := u_store hfc hkC hkind hlay hi (hty k hk) hn hfit
  refine va_WputK hexec hb (f := f) hown hlink (hsame _ hi) hst (by rw [q2]; exact h6) q1 q3 (by rw [hsl]; exact k2_hasslot (q4 k hk)) rfl rfl hdg fun H' e1 e2 e3 => ?_
  rw [hsl] at e1 ⊢
  exact kk H' _ ⟨_, hc, t_OB.to (V := updV (vp_V fs) k v) ⟨_, e1, q2, q3, t_set q4 hap hk v⟩ (fun j _ => vp_updV_set hl v j)⟩ e2 e3
theorem xw_putF (hexec : p.tables.exec = Jvm.exec) (hb : c.code = cc) {own ref C : String} {T : u_T} {N ci index : Nat} {Ts : List Cond} (hts : ∀ w ∈ Ts, w.before args s = true) (hin : ∀ w ∈ u_ws C T N, w ∈ Ts) (ty0 : Nat → FieldType) (hty : ∀ k, k < N → parseFieldDescriptor (T k).2.2.1 = some (ty0 k)) (hnm : ∀ a, a < N → ∀ b, b < N → a ≠ b → (T a).2.1 ≠ (T b).2.1) (hown : s.vm.findClass own = some m.cls) (hK : va_K D cl tys s) {fs : List Value} (he : va_at D cl (a, .inr (ci, fs)) H) (hc : cl[ci]? = some (C, T, N)) (k : Nat) (hk : k < N) (hlink : (Cond.fieldLink own index ref (T k).2.1 (T k).2.2.1).before args s = true) (hsame : ∀ x, s.fieldFound? (T k).1 (T k).2.1 (T k).2.2.1 = some x → s.fieldFound? ref (T k).2.1 (T k).2.2.1 = some x) (hfin : (T k).2.2.2 = true) (hin2 : meth.name = "<init>") (hdecl : (T k).1 = own) {v : Value} (hn : narrow (ty0 k) v = v) (hfit : fits (ty0 k) v = true) (hl : k < fs.length)
    (hdg : decode cc pc = .ok (.putfield index, 3)) (kk : ∀ (H1 : Heap) (i : Nat), va_at D cl (a, .inr (ci, fs.set k v)) H1 → H1.size = H.size → (∀ q : Nat, q ≠ a → H1[q]? = H[q]?) → W p l e R s m args below meth c H1 (locs ++ [⟨a, i⟩]) cells slots Q (F0 m (pc + 3) ls rest)) : W p l e R s m args below meth c H locs cells slots Q (F0 m pc ls (v :: .ref a :: rest)) := by
  have hap := va_apart (own := own) hts hin ty0 hty hnm hK hc
  obtain ⟨r, h1, cell, q1, q2, q3, q4⟩ := he
  have hr : r = (C, T, N) := Option.some.inj (h1.symm.trans hc)
  subst hr
  obtain ⟨hS, hfc, kC, hkC, hkind⟩ := hK.1 ci _ hc
  obtain ⟨cf, kf, fi, f, hi, hsl⟩ := hS k hk
  have hlay := hts _ (hin _ (u_in_lay hk))
  unfold u_lay at hlay
  rw [if_pos hfin] at hlay
  have hst := (u_facts hfc hkC (u_lays hts hin hk) hi).1
  have hcf : m.cls = cf := by
    obtain ⟨_, _, c', _, _, _, -, -, hf', -, -, -, hown2, -⟩ := Cond.laysFinal_spec hlay
    have e1 : c' = cf := by have := hi.symm.trans hf'; simp at this; exact this.1.symm
    rw [hdecl] at hown2
    rw [← e1]; exact Option.some.inj (hown.symm.trans hown2)
  have h6 := u_fits hfc hkC hkind (Or.inr hlay) hi (hty k hk) hn hfit
  refine W.putFinK hexec hb hown hlink (hsame _ hi) hst hcf hin2 (by rw [q2]; exact h6) q1 q3 (by rw [hsl]; exact k2_hasslot (q4 k hk)) rfl rfl hdg fun H' e1 e2 e3 => ?_
  rw [hsl] at e1 ⊢
  exact kk H' _ ⟨_, hc, t_OB.to (V := updV (vp_V fs) k v) ⟨_, e1, q2, q3, t_set q4 hap hk v⟩ (fun j _ => vp_updV_set hl v j)⟩ e2 e3
end XPW
section XH
variable {G : xG} {d : Nat} {k : xM} {pc : Nat} {lc : List (Nat × Value)} {st : List Value} {w : xW} {P : Option Value → xW → Prop}
theorem x_get {idx ci j : Nat} {C : String} {T : u_T} {N a : Nat} {fs : List Value} {v : Value} (q : Nat) (hq : pc + 3 = q) (hf : xFl G k.1.cls idx ci j C T N) (hd : decode k.2.1 pc = .ok (.getfield idx, 3)) (ha : w.2.2 a = some (.inr (ci, fs))) (hv : fs[j]? = some v) (h : xE G d k q lc (v :: st) w P) : xE G d k pc lc (.ref a :: st) w P := by
  subst hq
  obtain ⟨h1, h2, h3, h4⟩ := hf
  refine h.s1 (fun p e R s m args below meth c H locs cells slots ls Q C r hl kk => ?_)
  obtain ⟨c1, c2, c3, c4, c5, c6, c7, c8, c9, c10, c11⟩ := C
  rcases h4 with h4 | ⟨ref, h4, h5⟩ | ⟨host, h4⟩
  · exact va_get c1 c2 c8 h2 c7 c9.1 (r.one ha) 0 rfl h1 j h3 (c8 _ h4) (fun _ z => z) hv hd kk
  · exact va_get c1 c2 c8 h2 c7 c9.1 (r.one ha) 0 rfl h1 j h3 (c8 _ h4) (fun x z => u_same (c8 _ h5) x z) hv hd kk
  · exact va_getN c1 c2 c8 h2 c7 c9.1 (r.one ha) 0 rfl h1 j h3 (va_Nw.use rfl (c9.2 _ h4).2) (fun _ z => z) hv hd kk
theorem x_put {idx ci j : Nat} {C : String} {T : u_T} {N a : Nat} {ty : Nat → FieldType} {ini : Bool} {fs : List Value} {v : Value} (q : Nat) (hq : pc + 3 = q) (hf : xFp G k.1.cls idx ci j C T N ty ini) (hi : ini = true → k.1.name = "<init>") (hd : decode k.2.1 pc = .ok (.putfield idx, 3)) (ha : w.2.2 a = some (.inr (ci, fs))) (hn : narrow (ty j) v = v) (hfit : fits (ty j) v = true) (hl : j < fs.length) (h : xE G d k q lc st (xset w a (.inr (ci, fs.set j v))) P) : xE G d k pc lc (v :: .ref a :: st) w P := by
  subst hq
  obtain ⟨⟨h1, h2, h3, h4⟩, h5, h6, h7⟩ := hf
  refine h.s3 ha (fun p e R s m args below meth c H locs cells slots ls Q C r hl kk => ?_)
  obtain ⟨c1, c2, c3, c4, c5, c6, c7, c8, c9, c10, c11⟩ := C
  have hat := (r.2.2.1 a _ ha).2
  rcases h7 with h7 | ⟨h7, h8, h9, h10⟩
  · rcases h4 with h4 | ⟨ref, h4, h11⟩ | ⟨host, h4⟩
    · exact xw_put c1 c2 c8 h2 ty h5 h6 c7 c9.1 hat h1 j h3 (c8 _ h4) (fun _ z => z) h7 hn hfit (by assumption) hd kk
    · exact xw_put c1 c2 c8 h2 ty h5 h6 c7 c9.1 hat h1 j h3 (c8 _ h4) (fun x z => u_same (c8 _ h11) x z) h7 hn hfit (by assumption) hd kk
    · exact xw_putN c1 c2 c8 h2 ty h5 h6 c7 c9.1 hat h1 j h3 (va_Nw.use rfl (c9.2 _ h4).2) (fun _ z => z) h7 hn hfit (by assumption) hd kk
  · exact xw_putF c1 c2 c8 h2 ty h5 h6 c7 c9.1 hat h1 j h3 (c8 _ h10) (fun _ z => z) h7 (c6.trans (hi h8)) h9 hn hfit (by assumption) hd kk
/-! arrays -/
theorem x_iald {a t0 n : Nat} {cA : ClassId} {f : Nat → Int32} {i : Int32} (q : Nat) (hq : pc + 1 = q) (hd : decode k.2.1 pc = .ok (.iaload, 1)) (ha : w.2.2 a = some (.inl (cA, n, .inl f))) (ht : (xty G)[t0]? = some (cA, .int)) (hin : vp_in i n) (h : xE G d k q lc (.int (f i.toNatClampNeg) :: st) w P) : xE G d k pc lc (.int i :: .ref a :: st) w P := by
  subst hq
  exact h.s1 (fun _ _ _ _ _ _ _ _ _ _ _ _ _ _ _ C r _ kk => va_iald C.1 C.2.1 C.2.2.2.2.2.2.2.2.1.1 (r.one ha) 0 t0 rfl ht hin hd kk)
theorem x_zald {a t0 n : Nat} {cA : ClassId} {f : Nat → Int32} {i : Int32} (q : Nat) (hq : pc + 1 = q) (hd : decode k.2.1 pc = .ok (.baload, 1)) (ha : w.2.2 a = some (.inl (cA, n, .inl f))) (ht : (xty G)[t0]? = some (cA, .boolean)) (hin : vp_in i n) (h : xE G d k q lc (.int (f i.toNatClampNeg) :: st) w P) : xE G d k pc lc (.int i :: .ref a :: st) w P := by
  subst hq
  exact h.s1 (fun _ _ _ _ _ _ _ _ _ _ _ _ _ _ _ C r _ kk => va_zald C.1 C.2.1 C.2.2.2.2.2.2.2.2.1.1 (r.one ha) 0 t0 rfl ht hin hd kk)
theorem x_aald {a t0 n x : Nat} {cA : ClassId} {B : String} {f : Nat → Option Nat} {i : Int32} (q : Nat) (hq : pc + 1 = q) (hd : decode k.2.1 pc = .ok (.aaload, 1)) (ha : w.2.2 a = some (.inl (cA, n, .inr (.inr (.inr (.inr f)))))) (ht : (xty G)[t0]? = some (cA, .object B)) (hin : vp_in i n) (hx : f i.toNatClampNeg = some x) (h : xE G d k q lc (.ref x :: st) w P) : xE G d k pc lc (.int i :: .ref a :: st) w P := by
  subst hq
  exact h.s1 (fun _ _ _ _ _ _ _ _ _ _ _ _ _ _ _ C r _ kk => va_aldq C.1 C.2.1 C.2.2.2.2.2.2.2.2.1.1 (r.one ha) 0 t0 rfl ht hin hd (by rw [hx]; exact kk))
theorem x_alen {a t0 : Nat} {cA : ClassId} {x : vp_A} {ty : FieldType} {v : Int32} (q : Nat) (hq : pc + 1 = q) (hd : decode k.2.1 pc = .ok (.arraylength, 1)) (ha : w.2.2 a = some (.inl (cA, x))) (ht : (xty G)[t0]? = some (cA, ty)) (hv : Int32.ofNat x.1 = v) (h : xE G d k q lc (.int v :: st) w P) : xE G d k pc lc (.ref a :: st) w P := by
  subst hq
  exact h.s1 (fun _ _ _ _ _ _ _ _ _ _ _ _ _ _ _ C r _ kk => va_alen C.1 C.2.1 C.2.2.2.2.2.2.2.2.1.1 (r.one ha) 0 t0 rfl ht hv hd kk)
theorem x_iast {a t0 n : Nat} {cA : ClassId} {f : Nat → Int32} {i x : Int32} (q : Nat) (hq : pc + 1 = q) (hd : decode k.2.1 pc = .ok (.iastore, 1)) (ha : w.2.2 a = some (.inl (cA, n, .inl f))) (ht : (xty G)[t0]? = some (cA, .int)) (hin : vp_in i n) (h : xE G d k q lc st (xset w a (.inl (cA, n, .inl (upd f i.toNatClampNeg x)))) P) : xE G d k pc lc (.int x :: .int i :: .ref a :: st) w P := by
  subst hq
  refine h.s3 ha (fun p e R s m args below meth c H locs cells slots ls Q C r hl kk => ?_)
  refine W.iast C.1 C.2.1 (r.2.2.1 a _ ha).2 ((C.2.2.2.2.2.2.2.2.1.1.2 t0 _ ht).1 n (fun j => .int (f j))) (fun q => by cases q) (by show ¬ (i < 0 ∨ (arrV _ _ _).slots.size ≤ _); rw [arrV_size]; exact hin) rfl rfl hd fun H1 e1 z oq => kk H1 _ ?_ z oq
  show H1[a]? = some (vp_cell _ _)
  rw [e1]
  rw [vp_cell_i, vp_cell_i, arrV_store]
  congr 2
  funext q
  by_cases hq : q = i.toNatClampNeg
  · subst hq
    simp [updV, upd]
  · simp [updV, upd, hq]
theorem x_zast {a t0 n : Nat} {cA : ClassId} {f : Nat → Int32} {i x : Int32} (q : Nat) (hq : pc + 1 = q) (hd : decode k.2.1 pc = .ok (.bastore, 1)) (ha : w.2.2 a = some (.inl (cA, n, .inl f))) (ht : (xty G)[t0]? = some (cA, .boolean)) (hin : vp_in i n) (hx : narrow .boolean (.int x) = .int x) (h : xE G d k q lc st (xset w a (.inl (cA, n, .inl (upd f i.toNatClampNeg x)))) P) : xE G d k pc lc (.int x :: .int i :: .ref a :: st) w P := by
  subst hq
  refine h.s3 ha (fun p e R s m args below meth c H locs cells slots ls Q C r hl kk => ?_)
  refine W.zast C.1 C.2.1 (r.2.2.1 a _ ha).2 ((C.2.2.2.2.2.2.2.2.1.1.2 t0 _ ht).1 n (fun j => .int (f j))) (fun q => by cases q) (by show ¬ (i < 0 ∨ (arrV _ _ _).slots.size ≤ _); rw [arrV_size]; exact hin) rfl rfl hd fun H1 e1 z oq => kk H1 _ ?_ z oq
  show H1[a]? = some (vp_cell _ _)
  rw [e1, hx]
  rw [vp_cell_i, vp_cell_i, arrV_store]
  congr 2
  funext q
  by_cases hq : q = i.toNatClampNeg
  · subst hq
    simp [updV, upd]
  · simp [updV, upd, hq]
/-- a reference to an object of class ci into an array of its class, or of a class that it can be cast to -/
theorem x_aast {a t0 n v ci : Nat} {cA : ClassId} {B : String} {r0 : vw_C} {f : Nat → Option Nat} {vs : List Value} {i : Int32} (q : Nat) (hq : pc + 1 = q) (hd : decode k.2.1 pc = .ok (.aastore, 1)) (ha : w.2.2 a = some (.inl (cA, n, .inr (.inr (.inr (.inr f)))))) (ht : (xty G)[t0]? = some (cA, .object B)) (hv : w.2.2 v = some (.inr (ci, vs))) (hc : (xcl G)[ci]? = some r0) (hB : r0.1 = B ∨ Cond.castable r0.1 B ∈ xnw G) (hin : vp_in i n) (h : xE G d k q lc st (xset w a (.inl (cA, n, .inr (.inr (.inr (.inr (va_up f i.toNatClampNeg (some v)))))))) P) : xE G d k pc lc (.ref v :: .int i :: .ref a :: st) w P := by
  subst hq
  refine h.s3 ha (fun p e R s m args below meth c H locs cells slots ls Q C r hl kk => ?_)
  have hK := C.2.2.2.2.2.2.2.2.1
  have hlt : i.toNatClampNeg < n := Nat.not_le.mp fun q => hin (Or.inr q)
  have h0 : ¬ i < 0 := fun q => hin (Or.inl q)
  obtain ⟨r', hr', cellV, g1, g2, g3, -⟩ := (r.2.2.1 v _ hv).2
  have hcls := (hK.1.1 ci r0 hc).2
  obtain ⟨kA, comp, k1, k2, k3, -⟩ := (hK.1.2 t0 _ ht).2
  obtain ⟨kE, hkE, -⟩ := Vm.findClass_spec k3
  obtain ⟨kC, hkC, -⟩ := hcls.2
  have hasg : s.vm.assignable ((xD G).1 ci) comp = true := by
    rcases hB with hB | hB
    · subst hB
      have : comp = (xD G).1 ci := Option.some.inj (k3.symm.trans hcls.1)
      subst this
      exact va_assign hcls
    · obtain ⟨c0, t1, f1, f2, f3⟩ := Cond.castable_spec (va_Nw.use (A := args) rfl (hK.2 _ hB).2)
      cases hcls.1.symm.trans f1
      cases k3.symm.trans f2
      exact f3
  refine W.aast C.1 C.2.1 (r.2.2.1 a _ ha).2 (fun q h => by cases h) (fun h => by cases h) k1 k2 rfl hkE ⟨h0, by show _ < (arrV _ _ _).slots.size; rw [arrV_size]; exact hlt⟩ g1 (fun q h => by rw [g3] at h; cases h) (by rw [g2]; exact hkC) (by rw [g2]; exact hasg) rfl rfl hd fun H1 e1 z oq => kk H1 _ ?_ z oq
  show H1[a]? = some (vp_cell _ _)
  rw [e1]
  rw [vp_cell_q, vp_cell_q, arrV_store]
  congr 2
  funext q
  by_cases hq : q = i.toNatClampNeg
  · subst hq
    simp [updV, va_up, va_rf]
  · simp [updV, va_up, hq]
theorem x_aastN {a t0 n : Nat} {cA : ClassId} {B : String} {f : Nat → Option Nat} {i : Int32} (q : Nat) (hq : pc + 1 = q) (hd : decode k.2.1 pc = .ok (.aastore, 1)) (ha : w.2.2 a = some (.inl (cA, n, .inr (.inr (.inr (.inr f)))))) (ht : (xty G)[t0]? = some (cA, .object B)) (hin : vp_in i n) (h : xE G d k q lc st (xset w a (.inl (cA, n, .inr (.inr (.inr (.inr (va_up f i.toNatClampNeg none))))))) P) : xE G d k pc lc (.null :: .int i :: .ref a :: st) w P := by
  subst hq
  refine h.s3 ha (fun p e R s m args below meth c H locs cells slots ls Q C r hl kk => ?_)
  have hK := C.2.2.2.2.2.2.2.2.1
  refine va_WaastN (C := B) C.1 C.2.1 (r.2.2.1 a _ ha).2 ((hK.1.2 t0 _ ht).1 n (fun j => va_rf (f j))) (fun h => by cases h) (by show ¬ (i < 0 ∨ (arrV _ _ _).slots.size ≤ _); rw [arrV_size]; exact hin) rfl rfl hd fun H1 e1 z oq => kk H1 _ ?_ z oq
  show H1[a]? = some (vp_cell _ _)
  rw [e1]
  rw [vp_cell_q, vp_cell_q, arrV_store]
  congr 2
  funext q
  by_cases hq : q = i.toNatClampNeg
  · subst hq
    simp [updV, va_up, va_rf]
  · simp [updV, va_up, hq]
/-! making cells -/
theorem x_new {idx ci : Nat} {C : String} {T : u_T} {N : Nat} {ty : Nat → FieldType} {fs : List Value} (q : Nat) (hq : pc + 3 = q) (hd : decode k.2.1 pc = .ok (.new idx, 3)) (hc : (xcl G)[ci]? = some (C, T, N)) (hin : ∀ w ∈ u_ws C T N, w ∈ xws G) (hty : ∀ k, k < N → parseFieldDescriptor (T k).2.2.1 = some (ty k)) (hcl : Cond.classLink k.1.cls idx C ∈ xws G) (hinst : Cond.instantiable C N ∈ xws G) (hini : Cond.initialized C ∈ xws G) (hfs : ∀ j, j < N → defaultValue (ty j) = vp_V fs j)
    (h : xE G d k q lc (.ref w.1 :: st) (xnew w N (.inr (ci, fs))) P) : xE G d k pc lc st w P := by
  subst hq
  refine h.s4 (fun p e R s m args below meth c H locs cells slots ls Q C r hl hcells hslots kk => ?_)
  obtain ⟨c1, c2, c3, c4, c5, c6, c7, c8, c9, c10, c11⟩ := C
  have hKn := c9.1.1 ci _ hc
  refine W.newcK c1 c2 c7 (c8 _ hcl) (c8 _ hinst) (c8 _ hini) rfl hd hcells hslots hKn.2.1 rfl fun H1 kC hkC e1 z1 o1 => ?_
  have := kk H1 ⟨_, hc, (u_born ty c8 hin hKn hkC e1 hty).to hfs⟩ z1 o1
  rw [← r.1] at this
  exact this
theorem x_newa {at0 : ArrayType} {t0 N' : Nat} {cA : ClassId} {ty : FieldType} {n : Int32} (q : Nat) (hq : pc + 2 = q) (hd : decode k.2.1 pc = .ok (.newarray at0, 2)) (hty : newarray.typeOf at0 = ty) (harr : Cond.arrayClass ty ∈ xws G) (ht : (xty G)[t0]? = some (cA, ty)) (hp : ty = .int ∨ ty = .boolean) (hn : ¬ n < 0) (hN : n.toNatClampNeg = N') (hb : N' * 4 ≤ 536870912)
    (h : xE G d k q lc (.ref w.1 :: st) (xnew w N' (.inl (cA, N', .inl (fun _ => 0)))) P) : xE G d k pc lc (.int n :: st) w P := by
  subst hq
  refine h.s4 (fun p e R s m args below meth c H locs cells slots ls Q C r hl hcells hslots kk => ?_)
  obtain ⟨c1, c2, c3, c4, c5, c6, c7, c8, c9, c10, c11⟩ := C
  subst hty
  have hbytes : N' * componentBytes (newarray.typeOf at0) ≤ 536870912 := by
    rcases hp with hp | hp
    · rw [hp]; simpa [componentBytes] using hb
    · rw [hp]; simp [componentBytes]; omega
  refine va_newaK c1 c2 (c8 _ harr) rfl hd rfl hn hN hbytes hcells hslots rfl fun H1 cA' e1 z1 o1 hAr hNm => ?_
  have hRA := (c9.1.2 t0 _ ht).2
  have hcA : s.vm.findClass ("[" ++ (newarray.typeOf at0).toString) = some cA := by
    rcases hp with hp | hp
    · rw [hp] at hRA ⊢; exact hRA
    · rw [hp] at hRA ⊢; exact hRA
  have hce : cA' = cA := Option.some.inj (hNm.symm.trans hcA)
  subst hce
  have hd0 : defaultValue (newarray.typeOf at0) = .int 0 := by
    rcases hp with hp | hp
    · rw [hp]; rfl
    · rw [hp]; rfl
  rw [hd0] at e1
  have := kk H1 e1 z1 o1
  rw [← r.1] at this
  exact this
theorem x_newq {idx t0 N' : Nat} {cA : ClassId} {B : String} {n : Int32} (q : Nat) (hq : pc + 3 = q) (hd : decode k.2.1 pc = .ok (.anewarray idx, 3)) (hcl : Cond.classLink k.1.cls idx B ∈ xws G) (hov : Cond.arrayOver (.object B) ∈ xnw G) (ht : (xty G)[t0]? = some (cA, .object B)) (hn : ¬ n < 0) (hN : n.toNatClampNeg = N') (hb : N' * 4 ≤ 536870912)
    (h : xE G d k q lc (.ref w.1 :: st) (xnew w N' (.inl (cA, N', .inr (.inr (.inr (.inr (fun _ => none))))))) P) : xE G d k pc lc (.int n :: st) w P := by
  subst hq
  refine h.s4 (fun p e R s m args below meth c H locs cells slots ls Q C r hl hcells hslots kk => ?_)
  obtain ⟨c1, c2, c3, c4, c5, c6, c7, c8, c9, c10, c11⟩ := C
  subst hN
  refine W.anew c1 c2 c7 (c8 _ hcl) (va_AO.use (c9.2 _ hov).2) rfl hd rfl hn hb hcells hslots fun cA' kA comp f1 f2 f3 f4 => ?_
  have hRA := (c9.1.2 t0 _ ht).2
  obtain ⟨-, -, -, -, -, hnm⟩ := hRA
  have hce : cA' = cA := Option.some.inj (f1.symm.trans hnm)
  subst hce
  generalize hH1 : H.push ({ cls := cA', slots := Array.replicate n.toNatClampNeg .null, vm := .none } : Cell) = H1
  have z1 : H1.size = H.size + 1 := by rw [← hH1, Array.size_push]
  have e1 : H1[H.size]? = some (arrV cA' n.toNatClampNeg (fun _ => .null)) := by rw [← hH1, Array.getElem?_push_size, ← arrV_new]
  have o1 : ∀ q : Nat, q < H.size → H1[q]? = H[q]? := fun q hq => by rw [← hH1, Array.getElem?_push, if_neg (Nat.ne_of_lt hq)]
  have := kk H1 e1 z1 o1
  rw [← r.1] at this
  exact this
/-! constants -/
theorem x_ldc {idx : Nat} {v : Int32} (q : Nat) (hq : pc + 2 = q) (hd : decode k.2.1 pc = .ok (.ldc idx, 2)) (hc : Cond.constant k.1.cls idx v ∈ xws G) (h : xE G d k q lc (.int v :: st) w P) : xE G d k pc lc st w P := by
  subst hq
  exact h.s1 (fun _ _ _ _ _ _ _ _ _ _ _ _ _ _ _ C _ _ kk => lv_ldc C.1 C.2.1 C.2.2.2.2.2.2.1 (C.2.2.2.2.2.2.2.1 _ hc) hd kk)
theorem x_ldcw {idx : Nat} {v : Int32} (q : Nat) (hq : pc + 3 = q) (hd : decode k.2.1 pc = .ok (.ldc_w idx, 3)) (hc : Cond.constant k.1.cls idx v ∈ xws G) (h : xE G d k q lc (.int v :: st) w P) : xE G d k pc lc st w P := by
  subst hq
  exact h.s1 (fun _ _ _ _ _ _ _ _ _ _ _ _ _ _ _ C _ _ kk => lv_ldcw C.1 C.2.1 C.2.2.2.2.2.2.1 (C.2.2.2.2.2.2.2.1 _ hc) hd kk)
theorem x_ldc2 {idx : Nat} {v : Int64} (q : Nat) (hq : pc + 3 = q) (hd : decode k.2.1 pc = .ok (.ldc2_w idx, 3)) (hc : Cond.constantLong k.1.cls idx v ∈ xws G) (h : xE G d k q lc (.long v :: st) w P) : xE G d k pc lc st w P := by
  subst hq
  exact h.s1 (fun _ _ _ _ _ _ _ _ _ _ _ _ _ _ _ C _ _ kk => lv_ldc2 C.1 C.2.1 C.2.2.2.2.2.2.1 (C.2.2.2.2.2.2.2.1 _ hc) hd kk)
/-! switches -/
theorem x_tableOut {dflt lo hi : Int} {offs : Array Int} {len : Nat} {x : Int32} {tgt : Nat} (hd : decode k.2.1 pc = .ok (.tableswitch dflt lo hi offs, len)) (hx : x.toInt < lo ∨ hi < x.toInt) (ht : (pc : Int) + dflt = (tgt : Int)) (h : xE G d k tgt lc st w P) : xE G d k pc lc (.int x :: st) w P :=
  h.s1 (fun _ _ _ _ _ _ _ _ _ _ _ _ _ _ _ C _ _ kk => lv_tableOut C.1 C.2.1 hd hx ht kk)
theorem x_tableIn {dflt lo hi : Int} {offs : Array Int} {len : Nat} {x : Int32} {off : Int} {tgt : Nat} (hd : decode k.2.1 pc = .ok (.tableswitch dflt lo hi offs, len)) (h1 : ¬ x.toInt < lo) (h2 : ¬ hi < x.toInt) (ho : offs[(x.toInt - lo).toNat]? = some off) (ht : (pc : Int) + off = (tgt : Int)) (h : xE G d k tgt lc st w P) : xE G d k pc lc (.int x :: st) w P :=
  h.s1 (fun _ _ _ _ _ _ _ _ _ _ _ _ _ _ _ C _ _ kk => lv_tableIn C.1 C.2.1 hd h1 h2 ho ht kk)
/-! casts -/
theorem x_cast {idx a ci : Nat} {r0 : vw_C} {fs : List Value} {B : String} (q : Nat) (hq : pc + 3 = q) (hd : decode k.2.1 pc = .ok (.checkcast idx, 3)) (hl : Cond.classLink k.1.cls idx B ∈ xws G) (ha : w.2.2 a = some (.inr (ci, fs))) (hc : (xcl G)[ci]? = some r0) (hB : r0.1 = B ∨ Cond.castable r0.1 B ∈ xnw G) (h : xE G d k q lc (.ref a :: st) w P) : xE G d k pc lc (.ref a :: st) w P := by
  subst hq
  refine h.s1 (fun p e R s m args below meth c H locs cells slots ls Q C r hl' kk => ?_)
  obtain ⟨c1, c2, c3, c4, c5, c6, c7, c8, c9, c10, c11⟩ := C
  have hr := va_recv c9.1 (r.one ha) hc (q0 := 0) rfl
  rcases hB with hB | hB
  · subst hB
    exact va_castS c1 c2 c7 (c8 _ hl) (c9.1.1 ci r0 hc).2 hr hd kk
  · exact va_castY c1 c2 c7 (c8 _ hl) (c9.2 _ hB).2 hr hd kk
/-! returns -/
theorem x_iret {v : Int32} (hd : decode k.2.1 pc = .ok (.ireturn, 1)) (hr : k.2.2.2 = some .int) (h : P (some (.int v)) w) : xE G d k pc lc [.int v] w P := by
  refine ⟨_, w, h, Nat.le_refl _, Nat.le_refl _, fun p e R s m args below meth c H locs cells slots ls C r hl hL hc hs => ?_⟩
  obtain ⟨c1, c2, c3, c4, c5, c6, c7, c8, c9, c10, c11⟩ := C
  have e1 : cells = R.cells := by omega
  have e2 : slots = R.slots := by omega
  rw [e1, e2]
  exact W.iret c1 c2 (c4.trans hr) (fun t ht hW => ⟨rfl, by rw [ht]; exact r.moved hW.alike⟩) hL hd c5
theorem x_zret {v : Int32} (hd : decode k.2.1 pc = .ok (.ireturn, 1)) (hr : k.2.2.2 = some .boolean) (hn : narrow .boolean (.int v) = .int v) (h : P (some (.int v)) w) : xE G d k pc lc [.int v] w P := by
  refine ⟨_, w, h, Nat.le_refl _, Nat.le_refl _, fun p e R s m args below meth c H locs cells slots ls C r hl hL hc hs => ?_⟩
  obtain ⟨c1, c2, c3, c4, c5, c6, c7, c8, c9, c10, c11⟩ := C
  have e1 : cells = R.cells := by omega
  have e2 : slots = R.slots := by omega
  rw [e1, e2]
  exact W.zret c1 c2 (c4.trans hr) hn (fun t ht hW => ⟨rfl, by rw [ht]; exact r.moved hW.alike⟩) hL hd c5
theorem x_vret (hd : decode k.2.1 pc = .ok (.return_, 1)) (hr : k.2.2.2 = none) (h : P none w) : xE G d k pc lc [] w P := by
  refine ⟨_, w, h, Nat.le_refl _, Nat.le_refl _, fun p e R s m args below meth c H locs cells slots ls C r hl hL hc hs => ?_⟩
  obtain ⟨c1, c2, c3, c4, c5, c6, c7, c8, c9, c10, c11⟩ := C
  have e1 : cells = R.cells := by omega
  have e2 : slots = R.slots := by omega
  rw [e1, e2]
  exact W.vret c1 c2 (c4.trans hr) (fun t ht hW => ⟨rfl, by rw [ht]; exact r.moved hW.alike⟩) hL hd c5
theorem x_aret {v : Nat} {rt : FieldType} (hd : decode k.2.1 pc = .ok (.areturn, 1)) (hr : k.2.2.2 = some rt) (hrt : (∃ n, rt = .object n) ∨ ∃ t, rt = .array t) (h : P (some (.ref v)) w) : xE G d k pc lc [.ref v] w P := by
  refine ⟨_, w, h, Nat.le_refl _, Nat.le_refl _, fun p e R s m args below meth c H locs cells slots ls C r hl hL hc hs => ?_⟩
  obtain ⟨c1, c2, c3, c4, c5, c6, c7, c8, c9, c10, c11⟩ := C
  have e1 : cells = R.cells := by omega
  have e2 : slots = R.slots := by omega
  rw [e1, e2]
  exact W.aret c1 c2 (c4.trans hr) hrt (Or.inr ⟨v, rfl⟩) (fun t ht hW => ⟨rfl, by rw [ht]; exact r.moved hW.alike⟩) hL hd c5
/-! Object.<init> -/
theorem x_objInit {idx a : Nat} (q : Nat) (hq : pc + 3 = q) (hd : decode k.2.1 pc = .ok (.invokespecial idx, 3)) (h1 : Cond.methodLink k.1.cls idx Lib.objectInit ∈ xws G) (h2 : Cond.instanceMethod Lib.objectInit ∈ xws G) (h3 : Cond.code Lib.objectInit ⟨#[0xb1]⟩ 1 none ∈ xws G) (hst : (st.map fun v => v.category).sum ≤ 8) (hdd : 1 ≤ d) (h : xE G d k q lc st w P) : xE G d k pc lc (.ref a :: st) w P := by
  subst hq
  refine h.s1 (fun p e R s m args below meth c H locs cells slots ls Q C r hl kk => ?_)
  obtain ⟨c1, c2, c3, c4, c5, c6, c7, c8, c9, c10, c11⟩ := C
  exact W.objInit c1 c2 c7 (c8 _ h1) (c8 _ h2) (c8 _ h3) rfl (by rw [c3]; exact hl.1) rfl hd (by omega) (by show 2 * 0 + _ + 12 ≤ _; omega) kk
end XH
