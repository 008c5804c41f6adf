/-! THE REFERENCE: LOOK, COUNTING -/
def aN (g : Nat → Bool) : Nat → Bool
  | 0 => true
  | n + 1 => aN g n && g n
theorem r'4 : List.range' 0 4 = [0, 1, 2, 3] := rfl
theorem cN_len (p : Nat → Bool) : cN p 4 = ((List.range' 0 4).filter p).length := by
  rw [r'4]
  show 0 + cond (p 0) 1 0 + cond (p 1) 1 0 + cond (p 2) 1 0 + cond (p 3) 1 0 = _
  simp only [List.filter_cons, List.filter_nil]
  cases p 0 <;> cases p 1 <;> cases p 2 <;> cases p 3 <;> rfl
theorem may_8 : ∀ a b c d a' b' c' d' : Bool, (a && a' && (b && b' && (c && c' && (d && d' && true)))) = (decide (0 + cond a 1 0 + cond b 1 0 + cond c 1 0 + cond d 1 0 = 4) && (true && a' && b' && c' && d')) := by decide +kernel
theorem may_iff (p q : Nat → Bool) : (List.range 4).all (fun i => p i && q i) = (decide (cN p 4 = 4) && aN q 4) := may_8 (p 0) (p 1) (p 2) (p 3) (q 0) (q 1) (q 2) (q 3)
theorem fnd_at {p : Nat → Bool} {j : Nat} (hj : j < 4) (h : ∀ k, k < j → p k = false) (h2 : p j = true) : (List.range' 0 4).find? p = some j := by
  rw [r'4]
  rcases lt4 hj with rfl | rfl | rfl | rfl
  · simp [List.find?, h2]
  · simp [List.find?, h2, h 0 (by decide)]
  · simp [List.find?, h2, h 0 (by decide), h 1 (by decide)]
  · simp [List.find?, h2, h 0 (by decide), h 1 (by decide), h 2 (by decide)]
theorem fnd_nn {p : Nat → Bool} (h : ∀ k, k < 4 → p k = false) : (List.range' 0 4).find? p = none := by
  rw [r'4]
  simp [List.find?, h 0 (by decide), h 1 (by decide), h 2 (by decide), h 3 (by decide)]
theorem gD {l : List Int32} {k : Nat} (h : k < l.length) : l[k]? = some (l.getD k 0) := by
  rw [List.getD_eq_getElem?_getD, List.getElem?_eq_getElem h]; rfl
theorem gD_mem {l : List Int32} {x : Int32} : x ∈ l ↔ ∃ k, k < l.length ∧ l.getD k 0 = x := by
  rw [List.mem_iff_getElem?]
  constructor
  · intro ⟨k, hk⟩
    have h1 := (List.getElem?_eq_some_iff.mp hk).1
    rw [gD h1] at hk
    exact ⟨k, h1, Option.some.inj hk⟩
  · intro ⟨k, h1, h2⟩
    exact ⟨k, by rw [gD h1, h2]⟩
theorem i40 (a c : Nat) : (40 : Int32) * nI a + nI c = nI (40 * a + c) := by rw [show (40 : Int32) = nI 40 from rfl, pk_mul, nI_add]
theorem i12 (a c : Nat) : (12 : Int32) * nI a + nI c = nI (12 * a + c) := by rw [show (12 : Int32) = nI 12 from rfl, pk_mul, nI_add]
theorem i4' (a : Nat) : (4 : Int32) * nI a = nI (4 * a) := by rw [show (4 : Int32) = nI 4 from rfl, pk_mul]
theorem i12' (a : Nat) : (12 : Int32) * nI a = nI (12 * a) := by rw [show (12 : Int32) = nI 12 from rfl, pk_mul]
/-- a transaction in a proposal, as the reference and as the class look for it -/
theorem acc_v {v : Int32} {tt : Nat} (ht : tt < 256) (h : v = -1 ∨ cUn v < 65536) : (v &&& 255 = nI tt ∨ v >>> ((8 : Int32) &&& 31) = nI tt) ↔ (cUn v % 256 = tt ∨ cUn v / 256 % 256 = tt) := by
  rcases h with h | h
  · subst h
    have e1 : (-1 : Int32) &&& 255 = nI 255 := by decide
    have e2 : (-1 : Int32) >>> ((8 : Int32) &&& 31) = -1 := by decide
    have e3 : cUn (-1) = 4294967295 := rfl
    rw [e1, e2, e3, nI_eq (by decide) (by omega)]
    constructor
    · intro z
      rcases z with z | z
      · omega
      · have := congrArg cUn z
        rw [cUn_nI (by omega), e3] at this
        omega
    · intro z; left; omega
  · have e0 : v = nI (cUn v) := (nI_cUn v).symm
    generalize cUn v = u at e0 h
    subst e0
    rw [i255 (by omega), pk_shrN (by omega) _ 8 (by decide), nI_eq (by omega) (by omega), nI_eq (by omega) (by omega), show (2 : Nat) ^ 8 = 256 from rfl, Nat.mod_eq_of_lt (a := u / 256) (by omega)]
