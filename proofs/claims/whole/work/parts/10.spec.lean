/-! WHAT BOTH SIDES COMPUTE: the coding, in natural numbers -/
def cTw (b : Nat) : Nat := if b ≤ 127 then 2 * b else ((2 * b) ^^^ 27) % 256
def cTm (k b : Nat) : Nat := if k = 0 then 0 else if k = 1 then b else if k = 2 then cTw b else cTw b ^^^ b
def cPt (p q k : Nat) : Nat := p ^^^ cTm k (p ^^^ q)
def cLf (x k : Nat) : Nat := (x * 167 + 59 * k) % 256
def cHf (x y : Nat) : Nat := ((256 * x + y) * 40503 + 977) % 65536
def cRt (x y : Nat) : Int32 := nI (65536 * x + y) * (-1640531527) + 7
def cRoot (p q : Nat) : Int32 := cRt (cHf (cLf (cPt p q 0) 0) (cLf (cPt p q 1) 1)) (cHf (cLf (cPt p q 2) 2) (cLf (cPt p q 3) 3))
def cUn (w : Int32) : Nat := w.toBitVec.toNat
theorem cUn_lt (w : Int32) : cUn w < 2 ^ 32 := w.toBitVec.isLt
theorem nI_cUn (w : Int32) : nI (cUn w) = w := by
  apply Int32.toBitVec_inj.mp
  show (Int32.ofNat _).toBitVec = _
  simp [cUn, Int32.toBitVec_ofNat']
/-- the product's loop, on ints -/
def pIt (f : Int32) : Nat → Nat → Int32 → Int32 → Int32
  | 0, _, s, _ => s
  | n + 1, i, s, t => pIt f n (i + 1) (if ¬ (f >>> (nI i &&& 31)) &&& 1 = 1 then s else s ^^^ t) (if t ≤ 127 then t * 2 else (t * 2 ^^^ 27) &&& 255)
def cIv (m : Nat) : Nat := if m = 1 then 1 else if m = 2 then 141 else if m = 3 then 246 else 0
/-- the byte that, times m, is y -/
def cDv (m y : Nat) : Nat := cUn (pIt (nI (cIv m)) 8 0 0 (nI y))
def cSvP (k x l y : Nat) : Nat := x ^^^ cTm k (cDv (k ^^^ l) (x ^^^ y))
def cSv (k x l y : Nat) : Nat := cSvP k x l y + 256 * (cSvP k x l y ^^^ cDv (k ^^^ l) (x ^^^ y))
theorem pIt_Tm : ∀ f, f < 4 → ∀ b, b < 256 → pIt (nI f) 8 0 0 (nI b) = nI (cTm f b) := by decide +kernel
theorem cDv_ok : ∀ m, m < 4 → 0 < m → ∀ y, y < 256 → cDv m y < 256 ∧ cTm m (cDv m y) = y ∧ cDv m (cTm m y) = y ∧ cTm m y < 256 := by decide +kernel
theorem cTm_lt : ∀ m, m < 4 → ∀ y, y < 256 → cTm m y < 256 := by decide +kernel
theorem x_lt {a b : Nat} (ha : a < 256) (hb : b < 256) : a ^^^ b < 256 := Nat.xor_lt_two_pow (n := 8) ha hb
theorem i255 {n : Nat} (h : n < 2 ^ 32) : nI n &&& 255 = nI (n % 256) := pk_andN h 8 (by decide)
theorem i65535 {n : Nat} (h : n < 2 ^ 32) : nI n &&& 65535 = nI (n % 65536) := pk_andN h 16 (by decide)
theorem nIx (a b : Nat) : nI a ^^^ nI b = nI (a ^^^ b) := by
  apply Int32.toBitVec_inj.mp
  show (Int32.ofNat a).toBitVec ^^^ (Int32.ofNat b).toBitVec = (Int32.ofNat (a ^^^ b)).toBitVec
  simp only [Int32.toBitVec_ofNat']
  apply BitVec.eq_of_getLsbD_eq
  intro i hi
  simp [BitVec.getLsbD_xor, BitVec.getLsbD_ofNat, Nat.testBit_xor, hi]
theorem iLf {a k : Nat} (ha : a < 256) (hk : k < 4) : (nI a * 167 + 59 * nI k) &&& 255 = nI (cLf a k) := by
  rw [show (167 : Int32) = nI 167 from rfl, show (59 : Int32) = nI 59 from rfl, pk_mul, pk_mul, nI_add, i255 (by omega)]
  rfl
theorem iHf {x y : Nat} (hx : x < 256) (hy : y < 256) : ((256 * nI x + nI y) * 40503 + 977) &&& 65535 = nI (cHf x y) := by
  rw [show (256 : Int32) = nI 256 from rfl, show (40503 : Int32) = nI 40503 from rfl, show (977 : Int32) = nI 977 from rfl, pk_mul, nI_add, pk_mul, nI_add, i65535 (by omega)]
  rfl
theorem iRt (x y : Nat) : (65536 * nI x + nI y) * (-1640531527) + 7 = cRt x y := by
  rw [show (65536 : Int32) = nI 65536 from rfl, pk_mul, nI_add]
  rfl
