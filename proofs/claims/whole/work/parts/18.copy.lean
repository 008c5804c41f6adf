/-! arraycopy of references, getClass, the mirror of a class -/
section XCP
variable {G : xG} {d : Nat} {k : xM} {pc : Nat} {lc : List (Nat × Value)} {w : xW} {P : Option Value → xW → Prop}
theorem x_copyq {idx a0 a n0 n1 t0 t1 : Nat} {c0 c1 : ClassId} {f g : Nat → Option Nat} {E0 E1 : String} {sp dp n : Int32} {rest : List Value} (q : Nat) (hq : pc + 3 = q) (hd : decode k.2.1 pc = .ok (.invokestatic idx, 3)) (hlink : Cond.methodLink k.1.cls idx arraycopyName ∈ xws G) (hnat : Cond.native arraycopyName ∈ xws G) (hstat : Cond.static arraycopyName ∈ xws G) (hini : Cond.initialized "java/lang/System" ∈ xws G)
    (ha0 : w.2.2 a0 = some (.inl (c0, n0, .inr (.inr (.inr (.inr f)))))) (ha1 : w.2.2 a = some (.inl (c1, n1, .inr (.inr (.inr (.inr g)))))) (ht0 : (xty G)[t0]? = some (c0, .object E0)) (ht1 : (xty G)[t1]? = some (c1, .object E1)) (h1 : ¬ sp < 0) (h2 : ¬ dp < 0) (h3 : ¬ n < 0) (h4 : sp.toNatClampNeg + n.toNatClampNeg ≤ n0) (h5 : dp.toNatClampNeg + n.toNatClampNeg ≤ n1)
    (hel : ∀ i : Nat, i < n.toNatClampNeg → ∀ y : Nat, f (sp.toNatClampNeg + i) = some y → ∃ (ci : Nat) (fs : List Value) (r0 : vw_C), w.2.2 y = some (.inr (ci, fs)) ∧ (xcl G)[ci]? = some r0 ∧ Cond.castable r0.1 E1 ∈ xnw G) (hW : (rest.map fun v => v.category).sum ≤ 8) (hdd : 1 ≤ d)
    (h : xE G d k q lc rest (xset w a (.inl (c1, n1, .inr (.inr (.inr (.inr (va_cpy f g sp.toNatClampNeg dp.toNatClampNeg n.toNatClampNeg))))))) P) : xE G d k pc lc (.int n :: .int dp :: .ref a :: .int sp :: .ref a0 :: rest) w P := by
  subst hq
  have nn : ∀ z : Int32, ¬ z < 0 → z.toInt = (z.toNatClampNeg : Int) := by
    intro z hz
    have hz0 : (0 : Int) ≤ z.toInt := by
      have := Int32.not_lt.mp hz
      simpa using Int32.le_iff_toInt_le.mp this
    show z.toInt = ((z.toInt.toNat : Nat) : Int)
    omega
  obtain ⟨v, w', hP, g1, g2, g3⟩ := h
  refine ⟨v, w', hP, g1, g2, fun p e R s m args below meth c H locs cells slots ls C r hl hL hc hs => ?_⟩
  have C' := C
  obtain ⟨c1', c2', c3', c4', c5', c6', c7', c8', c9', c10', c11'⟩ := C
  intro T hT X
  have hc0 : H[a0]? = some (vp_cell c0 (n0, .inr (.inr (.inr (.inr f))))) := (r.2.2.1 a0 _ ha0).2
  have hc1 : H[a]? = some (vp_cell c1 (n1, .inr (.inr (.inr (.inr g))))) := (r.2.2.1 a _ ha1).2
  obtain ⟨-, k0, hk0, cm0, hkk0⟩ := (c9'.1.2 t0 _ ht0).1 n0 (fun j => va_rf (f j))
  obtain ⟨-, k1, hk1, cm1, hkk1⟩ := (c9'.1.2 t1 _ ht1).1 n1 (fun j => va_rf (g j))
  have hnw : nativeFrameWords "java/lang/System" "arraycopy" 5 ≤ 20 := by decide
  obtain ⟨vm', X', step⟩ := X.arraycopy c1' c7' (c8' _ hlink) (c8' _ hnat) (c8' _ hstat) (c8' _ hini) (src := a0) (dst := a) (cs := vp_cell c0 (n0, .inr (.inr (.inr (.inr f))))) (cd := vp_cell c1 (n1, .inr (.inr (.inr (.inr g))))) (srcPos := sp) (destPos := dp) (n := n) (by rw [hT]; exact hc0) (by rw [hT]; exact hc1)
    (fun _ h => by cases h) (fun _ h => by cases h) (fun h => by cases h) (fun h => by cases h) hk0 hk1 hkk0 hkk1 rfl h1 h2 h3
    (by rw [nn sp h1, nn n h3]; show ¬ _ > ((arrV c0 n0 (fun j => va_rf (f j))).slots.size : Int); rw [arrV_size]; omega)
    (by rw [nn dp h2, nn n h3]; show ¬ _ > ((arrV c1 n1 (fun j => va_rf (g j))).slots.size : Int); rw [arrV_size]; omega)
    (fun vm₁ hal i hi => by
      have e : (vp_cell c0 (n0, .inr (.inr (.inr (.inr f))))).slots.getD (sp.toNatClampNeg + i) .null = va_rf (f (sp.toNatClampNeg + i)) := by
        show (arrV c0 n0 (fun j => va_rf (f j))).slots.getD _ _ = _
        rw [Array.getD_eq_getD_getElem?, arrV_read _ _ (by omega)]
        rfl
      rw [e]
      cases hy : f (sp.toNatClampNeg + i) with
      | none => exact ⟨rfl, trivial⟩
      | some y =>
        obtain ⟨ci, fs, r0, gy1, gy2, gy3⟩ := hel i hi y hy
        obtain ⟨cellV, g1, g2, g3⟩ := va_recv c9'.1 (r.one gy1) gy2 (q0 := 0) rfl
        obtain ⟨kA, comp, r1, r2, r3, -⟩ := (c9'.1.2 t1 _ ht1).2
        cases hk1.symm.trans r1
        cases hkk1.symm.trans r2
        obtain ⟨kC, hkC, -⟩ := Vm.findClass_spec g3
        obtain ⟨kE, hkE, -⟩ := Vm.findClass_spec r3
        obtain ⟨kC', hkC', -⟩ := hal.2.2 _ _ hkC
        obtain ⟨kE', hkE', -⟩ := hal.2.2 _ _ hkE
        refine ⟨rfl, cellV, (show T.heap[y]? = some cellV by rw [hT]; exact g1), (fun q h => by rw [h] at g2; cases g2), ⟨kC', hkC'⟩, ?_, ?_⟩
        · exact ⟨kE', hkE'⟩
        · show vm₁.assignable _ _ = true
          rw [hal.assignable]
          obtain ⟨c0, t1, f1, f2, f3⟩ := Cond.castable_spec (va_Nw.use (A := args) rfl (c9'.2 _ gy3).2)
          cases g3.symm.trans f1
          cases r3.symm.trans f2
          exact f3)
    (g := F0 m pc ls (.int n :: .int dp :: .ref a :: .int sp :: .ref a0 :: rest)) rfl (by rw [c3']; exact hl.1) (rest := rest) rfl (by rw [c2']; exact hd) (by omega) (by show 2 * 0 + _ + _ ≤ _; omega)
  have e1 : copied (vp_cell c0 (n0, .inr (.inr (.inr (.inr f))))) (vp_cell c1 (n1, .inr (.inr (.inr (.inr g))))) sp dp n = vp_cell c1 (n1, .inr (.inr (.inr (.inr (va_cpy f g sp.toNatClampNeg dp.toNatClampNeg n.toNatClampNeg))))) := by
    rw [vp_cell_q, vp_cell_q, vp_cell_q]
    exact va_copied (fun z => va_rf z) c0 c1 f g h4
  rw [e1] at X' step
  have hl2 : a < H.size := (Array.getElem?_eq_some_iff.mp hc1).1
  have hheap : ((T.setVm vm').setCell a (vp_cell c1 (n1, .inr (.inr (.inr (.inr (va_cpy f g sp.toNatClampNeg dp.toNatClampNeg n.toNatClampNeg))))))).heap = H.setIfInBounds a (vp_cell c1 (n1, .inr (.inr (.inr (.inr (va_cpy f g sp.toNatClampNeg dp.toNatClampNeg n.toNatClampNeg)))))) := by rw [← hT]; rfl
  have oq : ∀ q : Nat, q ≠ a → (H.setIfInBounds a (vp_cell c1 (n1, .inr (.inr (.inr (.inr (va_cpy f g sp.toNatClampNeg dp.toNatClampNeg n.toNatClampNeg)))))))[q]? = H[q]? := fun q hq => by simp [Array.getElem?_setIfInBounds, Ne.symm hq]
  have hr : xR G (xset w a (.inl (c1, n1, .inr (.inr (.inr (.inr (va_cpy f g sp.toNatClampNeg dp.toNatClampNeg n.toNatClampNeg))))))) s (H.setIfInBounds a (vp_cell c1 (n1, .inr (.inr (.inr (.inr (va_cpy f g sp.toNatClampNeg dp.toNatClampNeg n.toNatClampNeg))))))) := r.set ha1 (show (H.setIfInBounds a _)[a]? = some _ by simp [Array.getElem?_setIfInBounds, hl2]) (by simp) oq
  obtain ⟨t, a1, b1⟩ := g3 p e R s m args below meth c _ _ cells slots ls C' hr hl (fun q hq => by
      rcases List.mem_append.mp hq with h | h
      · exact hL q h
      · obtain ⟨z, -, hz⟩ := List.mem_map.mp h
        rw [← hz]
        exact (r.2.2.1 a _ ha1).1) hc hs _ hheap X'
  exact ⟨t, step t a1, b1⟩
theorem x_getC {idx a n t0 mi : Nat} {cA : ClassId} {f : Nat → Option Nat} {rest : List Value} (q : Nat) (hq : pc + 3 = q) (hd : decode k.2.1 pc = .ok (.invokevirtual idx, 3)) (hlink : Cond.methodLink k.1.cls idx ⟨"java/lang/Object", "getClass", "()Ljava/lang/Class;"⟩ ∈ xws G) (hsel : Cond.selects "[Ljava/lang/Object;" ⟨"java/lang/Object", "getClass", "()Ljava/lang/Class;"⟩ ⟨"java/lang/Object", "getClass", "()Ljava/lang/Class;"⟩ ∈ xws G) (hinst : Cond.instanceMethod ⟨"java/lang/Object", "getClass", "()Ljava/lang/Class;"⟩ ∈ xws G) (hnat : Cond.native ⟨"java/lang/Object", "getClass", "()Ljava/lang/Class;"⟩ ∈ xws G)
    (hz : ∀ U H, xz G U H → va_Mi "[Ljava/lang/Object;" mi U ∧ va_Dc U) (ha : w.2.2 a = some (.inl (cA, n, .inr (.inr (.inr (.inr f)))))) (ht : (xty G)[t0]? = some (cA, .object "java/lang/Object")) (hW : (rest.map fun v => v.category).sum ≤ 8) (hdd : 1 ≤ d) (h : xE G d k q lc (.ref mi :: rest) w P) : xE G d k pc lc (.ref a :: rest) w P := by
  subst hq
  refine h.s1 (fun p e R s m args below meth c H locs cells slots ls Q C r hl kk => ?_)
  obtain ⟨c1, c2, c3, c4, c5, c6, c7, c8, c9, c10, c11⟩ := C
  obtain ⟨z1, z2⟩ := hz s H r.2.2.2.1
  have hnm : s.vm.findClass "[Ljava/lang/Object;" = some cA := va_nmO (c9.1.2 t0 _ ht).2 (by decide)
  exact va_getC c1 c2 (by rw [c3]; exact hl.1.symm) c7 (c8 _ hlink) (va_Dc.use z2) (c8 _ hsel) (c8 _ hinst) (c8 _ hnat) z1 ⟨_, (r.2.2.1 a _ ha).2, rfl, hnm⟩ (by omega) (by omega) hd kk
theorem x_ldcM {idx mi : Nat} {B : String} {st : List Value} (q : Nat) (hq : pc + 2 = q) (hd : decode k.2.1 pc = .ok (.ldc idx, 2)) (hlink : Cond.classLink k.1.cls idx B ∈ xws G) (hz : ∀ U H, xz G U H → va_Mi B mi U) (h : xE G d k q lc (.ref mi :: st) w P) : xE G d k pc lc st w P := by
  subst hq
  refine h.s1 (fun p e R s m args below meth c H locs cells slots ls Q C r hl kk => ?_)
  obtain ⟨c1, c2, c3, c4, c5, c6, c7, c8, c9, c10, c11⟩ := C
  exact va_ldcM c1 c2 c7 (c8 _ hlink) (hz s H r.2.2.2.1) hd kk
end XCP
