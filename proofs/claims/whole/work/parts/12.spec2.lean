/-! the coding, further -/
/-- the other half of node k's witness -/
def cOh (p q k : Nat) : Nat := if k < 2 then cHf (cLf (cPt p q 2) 2) (cLf (cPt p q 3) 3) else cHf (cLf (cPt p q 0) 0) (cLf (cPt p q 1) 1)
def cWn (p q k : Nat) : Nat := cPt p q k + 256 * cLf (cPt p q (k ^^^ 1)) (k ^^^ 1) + 65536 * cOh p q k
def cNr (u k : Nat) : Nat := if k % 2 = 0 then cHf (cLf (u % 256) k) (u / 256 % 256) else cHf (u / 256 % 256) (cLf (u % 256) k)
/-- a witness u (as an unsigned number) for node k is right under a root -/
def cRight (root : Int32) (u k : Nat) : Bool := decide (root = if k < 2 then cRt (cNr u k) (u / 65536) else cRt (u / 65536) (cNr u k))
def nB (b : Bool) : Int32 := if b then 1 else 0
theorem nB_ok (b : Bool) : narrow .boolean (.int (nB b)) = .int (nB b) := by cases b <;> decide
theorem nB_fit (b : Bool) : fits .boolean (.int (nB b)) = true := by cases b <;> decide
theorem cPt_lt {p q k : Nat} (hp : p < 256) (hq : q < 256) (hk : k < 4) : cPt p q k < 256 := x_lt hp (cTm_lt k hk _ (x_lt hp hq))
theorem cLf_lt (x k : Nat) : cLf x k < 256 := Nat.mod_lt _ (by decide)
theorem cHf_lt (x y : Nat) : cHf x y < 65536 := Nat.mod_lt _ (by decide)
theorem cOh_lt (p q k : Nat) : cOh p q k < 65536 := by unfold cOh; split <;> exact cHf_lt _ _
theorem cNr_lt (u k : Nat) : cNr u k < 65536 := by unfold cNr; split <;> exact cHf_lt _ _
theorem k1_lt : ∀ k, k < 4 → k ^^^ 1 < 4 := by decide
theorem cWn_lt {p q k : Nat} (hp : p < 256) (hq : q < 256) (hk : k < 4) : cWn p q k < 2 ^ 32 := by
  have h1 := cPt_lt hp hq hk
  have h2 := cLf_lt (cPt p q (k ^^^ 1)) (k ^^^ 1)
  have h3 := cOh_lt p q k
  unfold cWn
  omega
theorem iPt {p q k : Nat} (hp : p < 256) (hq : q < 256) (hk : k < 4) : nI p ^^^ pIt (nI k) 8 0 0 (nI p ^^^ nI q) = nI (cPt p q k) := by
  rw [nIx p q, pIt_Tm k hk _ (x_lt hp hq), nIx]
  rfl
theorem iTm {f b : Nat} (hf : f < 4) (hb : b < 256) : pIt (nI f) 8 0 0 (nI b) = nI (cTm f b) := pIt_Tm f hf b hb
theorem iP {n : Nat} (h : n < 65536) : nI n &&& 255 = nI (n % 256) := i255 (by omega)
theorem iQ {n : Nat} (h : n < 65536) : nI n >>> ((8 : Int32) &&& 31) &&& 255 = nI (n / 256) := by
  rw [pk_shrN (by omega) _ 8 (by decide), show (2 : Nat) ^ 8 = 256 from rfl, i255 (by omega), Nat.mod_eq_of_lt (by omega)]
theorem iU8 {u : Nat} (h : u < 2 ^ 32) : ((nI u).toUInt32 >>> ((8 : Int32).toUInt32 &&& Int32.toUInt32 31)).toInt32 &&& 255 = nI (u / 256 % 256) := by
  rw [pk_ushrN h _ 8 (by decide), show (2 : Nat) ^ 8 = 256 from rfl, i255 (by omega)]
theorem iU16 {u : Nat} (h : u < 2 ^ 32) : ((nI u).toUInt32 >>> ((16 : Int32).toUInt32 &&& Int32.toUInt32 31)).toInt32 = nI (u / 65536) := by
  rw [pk_ushrN h _ 16 (by decide)]
theorem iS8 {u : Nat} (h : u < 2 ^ 32) : nI u >>> ((8 : Int32) &&& 31) &&& 255 = nI (u / 256 % 256) := by
  rw [pk_and _ 8 (by decide)]
  congr 1
  have h1 := pk_shr (nI u) ((8 : Int32) &&& 31) 8 (by decide)
  have h2 : (nI u).toBitVec.toNat = u := pk_tn h
  have h3 : ∀ x : Int32, x.toInt = if 2 * x.toBitVec.toNat < 2 ^ 32 then (x.toBitVec.toNat : Int) else (x.toBitVec.toNat : Int) - 2 ^ 32 := fun x => BitVec.toInt_eq_toNat_cond _
  rw [h3, h3, h2, Int.shiftRight_eq_div_pow] at h1
  have h4 := (nI u >>> ((8 : Int32) &&& 31)).toBitVec.isLt
  split at h1 <;> split at h1 <;> omega
theorem iK1 {k : Nat} (hk : k < 4) : nI k ^^^ 1 = nI (k ^^^ 1) := nIx k 1
theorem iKa : ∀ k, k < 4 → nI k &&& 1 = nI (k % 2) := by decide +kernel
