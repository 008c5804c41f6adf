/-! ===== Int32 by its bits: bt x i ===== -/
def bt (x : Int32) (i : Nat) : Bool := x.toBitVec.getLsbD i
theorem b_ext {x y : Int32} (h : ∀ i, i < 32 → bt x i = bt y i) : x = y := Int32.toBitVec_inj.mp (BitVec.eq_of_getLsbD_eq (fun i hi => h i hi))
theorem b_or (x y : Int32) (i : Nat) : bt (x ||| y) i = (bt x i || bt y i) := by unfold bt; rw [Int32.toBitVec_or, BitVec.getLsbD_or]
theorem b_and (x y : Int32) (i : Nat) : bt (x &&& y) i = (bt x i && bt y i) := by unfold bt; rw [Int32.toBitVec_and, BitVec.getLsbD_and]
theorem b_xor (x y : Int32) (i : Nat) : bt (x ^^^ y) i = (bt x i ^^ bt y i) := by unfold bt; rw [Int32.toBitVec_xor, BitVec.getLsbD_xor]
theorem b_big {x : Int32} {i : Nat} (h : 32 ≤ i) : bt x i = false := BitVec.getLsbD_of_ge _ _ h
theorem b_255 (i : Nat) : bt 255 i = decide (i < 8) := by
  rcases Nat.lt_or_ge i 32 with h | h
  · exact (by decide +kernel : ∀ i, i < 32 → bt 255 i = decide (i < 8)) i h
  · rw [b_big h, decide_eq_false (by omega)]
theorem b_65535 (i : Nat) : bt 65535 i = decide (i < 16) := by
  rcases Nat.lt_or_ge i 32 with h | h
  · exact (by decide +kernel : ∀ i, i < 32 → bt 65535 i = decide (i < 16)) i h
  · rw [b_big h, decide_eq_false (by omega)]
theorem b_m1 : ∀ i, i < 32 → bt (-1) i = true := by decide +kernel
theorem b_0 (i : Nat) : bt 0 i = false := BitVec.getLsbD_zero
theorem s_l : ∀ n, n < 32 → ((nI n &&& 31).toBitVec.smod 32).toNat = n := by decide +kernel
theorem s_u : ∀ n, n < 32 → (((nI n).toUInt32 &&& Int32.toUInt32 31).toBitVec % 32).toNat = n := by decide +kernel
theorem b_shl (n : Nat) (hn : n < 32) (x : Int32) {i : Nat} (hi : i < 32) : bt (x <<< (nI n &&& 31)) i = (decide (n ≤ i) && bt x (i - n)) := by
  unfold bt
  rw [Int32.toBitVec_shiftLeft]
  show (x.toBitVec <<< ((nI n &&& 31).toBitVec.smod 32).toNat).getLsbD i = _
  rw [s_l n hn, BitVec.getLsbD_shiftLeft]
  rcases Nat.lt_or_ge i n with h | h
  · simp [h, Nat.not_le.mpr h]
  · simp [hi, h, Nat.not_lt.mpr h]
theorem b_ushr (n : Nat) (hn : n < 32) (x : Int32) (i : Nat) : bt ((x.toUInt32 >>> ((nI n).toUInt32 &&& Int32.toUInt32 31)).toInt32) i = bt x (n + i) := by
  show (x.toUInt32 >>> ((nI n).toUInt32 &&& Int32.toUInt32 31)).toBitVec.getLsbD i = x.toUInt32.toBitVec.getLsbD (n + i)
  rw [UInt32.toBitVec_shiftRight]
  show (x.toUInt32.toBitVec >>> (((nI n).toUInt32 &&& Int32.toUInt32 31).toBitVec % 32).toNat).getLsbD i = _
  rw [s_u n hn, BitVec.getLsbD_ushiftRight]
theorem b_sshr (n : Nat) (hn : n < 32) (x : Int32) {i : Nat} (hi : i < 32) : bt (x >>> (nI n &&& 31)) i = if n + i < 32 then bt x (n + i) else bt x 31 := by
  unfold bt
  rw [Int32.toBitVec_shiftRight]
  show (x.toBitVec.sshiftRight ((nI n &&& 31).toBitVec.smod 32).toNat).getLsbD i = _
  rw [s_l n hn, BitVec.getLsbD_sshiftRight, BitVec.msb_eq_getLsbD_last]
  simp [hi]
theorem b_shl8 (x : Int32) {i : Nat} (hi : i < 32) : bt (x <<< ((8 : Int32) &&& 31)) i = (decide (8 ≤ i) && bt x (i - 8)) := b_shl 8 (by omega) x hi
theorem b_shl16 (x : Int32) {i : Nat} (hi : i < 32) : bt (x <<< ((16 : Int32) &&& 31)) i = (decide (16 ≤ i) && bt x (i - 16)) := b_shl 16 (by omega) x hi
theorem b_shl24 (x : Int32) {i : Nat} (hi : i < 32) : bt (x <<< ((24 : Int32) &&& 31)) i = (decide (24 ≤ i) && bt x (i - 24)) := b_shl 24 (by omega) x hi
theorem b_sshr8 (x : Int32) {i : Nat} (hi : i < 32) : bt (x >>> ((8 : Int32) &&& 31)) i = if 8 + i < 32 then bt x (8 + i) else bt x 31 := b_sshr 8 (by omega) x hi
theorem b_1 : ∀ i, i < 32 → bt 1 i = decide (i = 0) := by decide +kernel
/-- a bit, by either shift -/
theorem b_bit (x : Int32) (n : Nat) (hn : n < 32) : x >>> (nI n &&& 31) &&& 1 = (x.toUInt32 >>> ((nI n).toUInt32 &&& Int32.toUInt32 31)).toInt32 &&& 1 := by
  apply b_ext
  intro i hi
  rw [b_and, b_and, b_1 i hi, b_sshr n hn x hi, b_ushr n hn]
  by_cases h0 : i = 0
  · subst h0
    simp [hn]
  · simp [h0]
def cCoin (t : Int32) (e i r : Nat) : Nat := cUn t / 2 ^ ((24 * e + 6 * i + r) % 31) % 2
theorem cCoin_lt (t : Int32) (e i r : Nat) : cCoin t e i r < 2 := Nat.mod_lt _ (by decide)
theorem i1 {n : Nat} (h : n < 2 ^ 32) : nI n &&& 1 = nI (n % 2) := by
  have := pk_andN h (m := 1) 1 (by decide)
  rw [this]
theorem iCoin (t : Int32) (e i r : Nat) : (t.toUInt32 >>> ((nI ((24 * e + 6 * i + r) % 31)).toUInt32 &&& Int32.toUInt32 31)).toInt32 &&& 1 = nI (cCoin t e i r) := by
  have h := cUn_lt t
  have hj : (24 * e + 6 * i + r) % 31 < 32 := by omega
  have e1 : (t.toUInt32 >>> ((nI ((24 * e + 6 * i + r) % 31)).toUInt32 &&& Int32.toUInt32 31)).toInt32 = nI (cUn t / 2 ^ ((24 * e + 6 * i + r) % 31)) := by
    have := pk_ushrN h (nI ((24 * e + 6 * i + r) % 31)) _ (s_u _ hj)
    rw [nI_cUn] at this
    exact this
  rw [e1, i1 (Nat.lt_of_le_of_lt (Nat.div_le_self _ _) h)]
  rfl
theorem iNn {e i r : Nat} (he : e < 4) (hi : i < 4) (hr : r < 6) : nI (24 * e + 6 * i + r) - nI (24 * e + 6 * i + r) / 31 * 31 = nI ((24 * e + 6 * i + r) % 31) := pk_rem (d := 31) (by omega) (by decide) (by decide)
/-! cells below the base, that nobody writes -/
section XRO
variable {G : xG} {d : Nat} {k : xM} {pc : Nat} {lc : List (Nat × Value)} {st : List Value} {w : xW} {P : Option Value → xW → Prop}
theorem x_gets {idx : Nat} {C n ds : String} {v : Value} (q : Nat) (hq : pc + 3 = q) (hd : decode k.2.1 pc = .ok (.getstatic idx, 3)) (hlink : Cond.fieldLink k.1.cls idx C n ds ∈ xws G) (hz : ∀ U H, xz G U H → va_Z C n ds v (fun q => xb G ≤ q) U H) (h : xE G d k q lc (v :: st) w P) : xE G d k pc lc st w P := by
  subst hq
  refine h.s1 (fun p e R s m args below meth c H locs cells slots ls Q C r hl kk => ?_)
  obtain ⟨c1, c2, c3, c4, c5, c6, c7, c8, c9, c10, c11⟩ := C
  obtain ⟨cf, kf, fi, f, a, cell, h1, h2, h3, h4, h5, h6, h7, h8⟩ := hz s H r.2.2.2.1
  exact W.gets c1 c2 c7 (c8 _ hlink) h1 h2 h3 h4 h5 (fun e => by rw [e] at h6; cases h6) h7 rfl hd kk
theorem x_iaT {t N : Nat} {f : Nat → Value} {i : Int32} {v : Value} (q : Nat) (hq : pc + 1 = q) (hd : decode k.2.1 pc = .ok (.iaload, 1)) (hz : ∀ U H, xz G U H → va_T .int t N f (fun q => xb G ≤ q) U H) (hin : vp_in i N) (hv : f i.toNatClampNeg = v) (h : xE G d k q lc (v :: st) w P) : xE G d k pc lc (.int i :: .ref t :: st) w P := by
  subst hq
  refine h.s1 (fun p e R s m args below meth c H locs cells slots ls Q C r hl kk => ?_)
  obtain ⟨cell, h1, h2, h3, h4, h5, h6, h7⟩ := hz s H r.2.2.2.1
  have hlt : i.toNatClampNeg < N := Nat.not_le.mp fun q => hin (Or.inr q)
  refine W.iald (v := v) C.1 C.2.1 h1 h2 h3 (fun q => ?_) (by rw [h6 _ hlt, hv]) rfl rfl hd kk
  rcases q with q | q
  · exact hin (Or.inl q)
  · omega
theorem x_lenT {t N : Nat} {ty : FieldType} {f : Nat → Value} (q : Nat) (hq : pc + 1 = q) (hd : decode k.2.1 pc = .ok (.arraylength, 1)) (hz : ∀ U H, xz G U H → va_T ty t N f (fun q => xb G ≤ q) U H) (h : xE G d k q lc (.int (nI N) :: st) w P) : xE G d k pc lc (.ref t :: st) w P := by
  subst hq
  refine h.s1 (fun p e R s m args below meth c H locs cells slots ls Q C r hl kk => ?_)
  obtain ⟨cell, h1, h2, h3, h4, h5, h6, h7⟩ := hz s H r.2.2.2.1
  exact W.alen (n := nI N) C.1 C.2.1 h1 h2 h5 rfl rfl hd kk
theorem x_iaX {b L : Nat} {xs : Nat → Int32} {i : Int32} (q : Nat) (hq : pc + 1 = q) (hd : decode k.2.1 pc = .ok (.iaload, 1)) (hz : ∀ U H, xz G U H → va_X b L xs U H) (hin : vp_in i L) (h : xE G d k q lc (.int (xs i.toNatClampNeg) :: st) w P) : xE G d k pc lc (.int i :: .ref b :: st) w P := by
  subst hq
  refine h.s1 (fun p e R s m args below meth c H locs cells slots ls Q C r hl kk => ?_)
  obtain ⟨scr, h1, h2, h3, h4, h5⟩ := hz s H r.2.2.2.1
  have hlt : i.toNatClampNeg < L := Nat.not_le.mp fun q => hin (Or.inr q)
  exact W.iald (v := .int (xs i.toNatClampNeg)) C.1 C.2.1 h1 h2 h3 (by rw [h4]; exact hin) (h5 _ hlt) rfl rfl hd kk
theorem x_lenX {b L : Nat} {xs : Nat → Int32} (q : Nat) (hq : pc + 1 = q) (hd : decode k.2.1 pc = .ok (.arraylength, 1)) (hz : ∀ U H, xz G U H → va_X b L xs U H) (h : xE G d k q lc (.int (nI L) :: st) w P) : xE G d k pc lc (.ref b :: st) w P := by
  subst hq
  refine h.s1 (fun p e R s m args below meth c H locs cells slots ls Q C r hl kk => ?_)
  obtain ⟨scr, h1, h2, h3, h4, h5⟩ := hz s H r.2.2.2.1
  exact W.alen (n := Int32.ofNat L) C.1 C.2.1 h1 h2 (by rw [h4] <;> rfl) rfl rfl hd kk
end XRO
/-- what lies below the base: the script of L ints xs at sb, the class's table of inverses at tI, ArrayList's empty array at tE, the mirror of Object[] at mi -/
def xS (X : xPar) (sb L : Nat) (xs : Nat → Int32) (tI tE mi : Nat) : Prop := ∀ U H, X.2.2.2.2 U H → va_X sb L xs U H ∧
  va_Z "EpochLedger$Coding" "INVERSES" "[I" (.ref tI) (fun q => X.2.1 ≤ q) U H ∧ va_T .int tI 4 (fun j => .int (nI (cIv j))) (fun q => X.2.1 ≤ q) U H ∧
  va_Z "java/util/ArrayList" "DEFAULTCAPACITY_EMPTY_ELEMENTDATA" "[Ljava/lang/Object;" (.ref tE) (fun q => X.2.1 ≤ q) U H ∧ va_T (.object "java/lang/Object") tE 0 (fun _ => .null) (fun q => X.2.1 ≤ q) U H ∧
  va_Mi "[Ljava/lang/Object;" mi U ∧ va_Dc U ∧ tE < X.2.1 ∧ (∃ cell : Cell, H[tE]? = some cell ∧ cell.vm.isStatics = false ∧ U.vm.findClass "[Ljava/lang/Object;" = some cell.cls)
