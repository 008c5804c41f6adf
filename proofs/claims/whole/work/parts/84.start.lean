/-! BOTH SIDES: THE START -/
theorem b0_s {s : Nat} (h : s ≠ 2) : b0.2 s = 0 := by show (if s = 2 then (-1 : Int32) else 0) = 0; rw [if_neg h]
theorem n0_inv : nInv n0 := by
  refine ⟨fun k _ => ⟨a0_ok, Or.inl rfl, fun s _ => ?_, Or.inl rfl⟩, fun k _ _ => ⟨rfl, rfl, rfl, rfl, rfl, rfl, rfl⟩, by show 0 ≤ 12; decide, by show 0 ≤ 5; decide, ⟨fun x hx => absurd (show x ∈ ([] : List Int32) from hx) List.not_mem_nil, Nat.zero_le _⟩, fun k _ => a0_ok⟩
  show cUn (b0.2 (16 + s)) < 256
  rw [b0_s (by omega)]
  decide
theorem n0_rel {n : Nat} (hn : n < 4) : nRel eA n n0 (fun _ => 0) := by
  refine ⟨?_, ⟨rfl, fun k hk => absurd hk (Nat.not_lt_zero _), rfl, fun k hk => absurd hk (Nat.not_lt_zero _)⟩, fun k _ j idx h1 h2 _ => ?_, fun e he => ?_, fun _ => by show 0 < 2; decide⟩
  · rcases lt4 hn with rfl | rfl | rfl | rfl <;> rfl
  · rcases jc h1 h2 with rfl | rfl | rfl | rfl | rfl | rfl | rfl | rfl | rfl | rfl | rfl | rfl | rfl | rfl
    · rfl
    · rfl
    · rfl
    · rfl
    · show (0 : Int32) = b0.2 (8 + idx % 4); rw [b0_s (by omega)]
    · show (0 : Int32) = b0.2 (16 + idx % 4); rw [b0_s (by omega)]
    · rfl
    · show (0 : Int32) = b0.2 (24 + idx % 4); rw [b0_s (by omega)]
    · rfl
    · rfl
    · rfl
    · rfl
    · rfl
    · rfl
  · have : 0 = e + 1 := he
    omega
def s0L : sL := (0, fun _ => n0, fun _ => [])
theorem pot0 : lPot s0L = 1596 := by decide +kernel
theorem gRL_0 : gRL s0L (false, 0, 0, 0, 0, 0) [] eA := ⟨⟨by decide, fun j p hj => (by cases hj)⟩, fun n hn => ⟨_, n0_rel hn⟩, fun _ _ => n0_inv, fun _ _ => rfl, fun n _ => by show false = (decide (n = 3) && false); rw [Bool.and_false], rfl, by decide, by rw [pot0]; decide, fun p hp => (by cases hp)⟩
theorem lInv_0 : lInv s0L 0 := ⟨fun n _ => ⟨n0_inv.2.2.2, fun m hm => (by cases hm)⟩, by rw [pot0]; decide, by decide⟩
section FK
variable {X : xPar} {tE b dyn c0 s0 mo m0 : Nat} {t : Int32} {σ σ2 : sL} {w w' : xW}
/-- the reference's cells are not the class's -/
theorem mG.kept (h : mG X m0 t σ w) (hk : ∀ x, m0 ≤ x → x < m0 + 31 → w'.2.2 x = w.2.2 x) : mG X m0 t σ w' := by
  obtain ⟨s, lg, M, ⟨a1, a2⟩, hG⟩ := h
  exact ⟨s, lg, M, ⟨(hk _ (Nat.le_refl _) (by omega)).trans a1, fun j hj => (hk _ (by omega) (by omega)).trans (a2 j hj)⟩, hG⟩
theorem mG.some (h : mG X m0 t σ w) {x : Nat} (h1 : m0 ≤ x) (h2 : x < m0 + 31) : ∃ z, w.2.2 x = Option.some z ∧ ∀ fs, z ≠ .inr (3, fs) := by
  obtain ⟨s, lg, M, ⟨a1, a2⟩, hG⟩ := h
  by_cases z : x = m0
  · rw [z]
    exact ⟨_, a1, fun fs y => (by cases y)⟩
  · have := a2 (x - m0 - 1) (by omega)
    rw [show m0 + 1 + (x - m0 - 1) = x from by omega] at this
    exact ⟨_, this, fun fs y => (by cases y)⟩
theorem rLd.kept (hL : rLd X tE b dyn c0 s0 mo t σ w) (hm : mG X m0 t σ2 w) (hm0 : b + 616 ≤ m0) (hd : m0 + 31 ≤ dyn) (hf : fr w w' m0 (m0 + 31)) : rLd X tE b dyn c0 s0 mo t σ w' := by
  obtain ⟨h1, h2, h3, ⟨f, h4, h5⟩, h6, h7⟩ := hL
  have lo : ∀ x, x < m0 → w'.2.2 x = w.2.2 x := fun x hx => hf.2.2 x (Or.inl hx)
  refine ⟨h1, h2, (lo _ (by omega)).trans h3, ⟨f, (lo _ (by omega)).trans h4, h5⟩, fun n hn => (h6 n hn).kept (fun x x1 x2 => lo x (by omega)), h7.kept hf.1 hf.2.1 (fun x hx => ?_) (fun x x1 x2 => lo x (by omega)) (fun x hx => hf.2.2 x (Or.inr (by omega))) (fun m fs hx => ?_)⟩
  · by_cases z : m0 ≤ x ∧ x < m0 + 31
    · obtain ⟨y, y1, -⟩ := hm.some z.1 z.2
      rw [hx] at y1; cases y1
    · rw [hf.2.2 x (by omega)]; exact hx
  · by_cases z : m0 ≤ m ∧ m < m0 + 31
    · obtain ⟨y, y1, y2⟩ := hm.some z.1 z.2
      rw [hx] at y1
      exact absurd (Option.some.inj y1).symm (y2 fs)
    · rw [hf.2.2 m (by omega)]; exact hx
theorem mG.S (h : mG X m0 t σ w) (hf : frS X (b + 1) dyn b (b + 616) w w') (hX : X.2.1 ≤ b) (hm0 : b + 616 ≤ m0) (hd : m0 + 31 ≤ dyn) : mG X m0 t σ w' := h.kept (fun x x1 x2 => hf.1 x (by omega) (by omega) (by omega) (fun i hi => by omega))
theorem mG.inv (h : mG X m0 t σ w) (hp : mo + 4 * lPot σ ≤ 8000) : lInv σ mo := by
  obtain ⟨s, lg, M, -, hG⟩ := h
  refine ⟨fun n hn => ⟨(hG.2.2.1 n hn).2.2.2, fun m hm => ?_⟩, hp, hG.2.2.2.2.2.2.1⟩
  rw [hG.2.2.2.1 n hn] at hm
  unfold gQ at hm
  obtain ⟨p, k1, k2⟩ := List.mem_map.mp hm
  obtain ⟨j, hj⟩ := List.mem_iff_getElem?.mp (List.mem_filter.mp k1).1
  have ok := (hG.1.2 j p hj).1.1
  rw [← k2]
  unfold pV
  split
  · exact ok
  · exact mOk_vw ok
/-- the fresh ledger is one of the states -/
theorem rL0.rLd (h : rL0 X tE b t w) (hX : X.2.1 ≤ b) (htE : tE < X.2.1) (hd : b + 616 ≤ dyn) (hd2 : dyn ≤ w.1) (dom : ∀ x e, w.2.2 x = some e → X.2.1 ≤ x ∧ x < w.1) : rLd X tE b dyn w.1 w.2.1 0 t s0L w := by
  obtain ⟨h1, ⟨n1, n2, n3, n4⟩, h3, h4⟩ := h
  refine ⟨hX, hd, h1, h3, h4, dom, by omega, hd2, n1, n2, n3, by omega, fun _ => tE, fun _ => 0, fun i hi => ⟨[], ⟨⟨0, n4 i hi⟩, Nat.zero_le _, Or.inl ⟨rfl, rfl⟩⟩, rfl, fun j m hj => (by cases hj)⟩, fun i hi => Or.inl ⟨htE, rfl⟩, fun _ _ _ _ _ _ => ⟨rfl, rfl⟩, fun i hi => ⟨Nat.zero_le _, Nat.zero_le _⟩, by omega, by omega⟩
theorem nSub_pot {ν : sN} {x : Int32} : nPot (nSub ν x) = nPot ν := by unfold nSub; split <;> rfl
theorem lSub_pot {nn x : Int32} : lPot (lSub σ nn x).1 = lPot σ := by
  unfold lSub
  split
  · rename_i z
    rw [Bool.and_eq_true] at z
    have := lNd_pot (σ := σ) (n := cUn nn) (ν := nSub (σ.2.1 (cUn nn)) x) (q := σ.2.2) (lNode_lt z.1)
    rw [nSub_pot] at this
    dsimp only
    omega
  · rfl
theorem lBet_pot : lPot (lBet σ).1 = lPot σ := by
  unfold lBet
  split
  · rfl
  · have := lNd_pot (σ := σ) (n := 3) (ν := ((σ.2.1 3).1, true, (σ.2.1 3).2.2)) (q := σ.2.2) (by decide)
    have hp2 : nPot ((σ.2.1 3).1, true, (σ.2.1 3).2.2) = nPot (σ.2.1 3) := rfl
    dsimp only
    omega
end FK
