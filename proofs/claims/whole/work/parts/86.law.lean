/-! THE LAW -/
section LA
variable {X : xPar} {sb L : Nat} {xs : Nat → Int32} {tI tE mi b c0 s0 : Nat} {t : Int32} {w : xW} {P : Option Value → xW → Prop}
theorem m7 {L i : Nat} (hL : L ≤ 3585) (hi : i < 8000) : nI L - 7 < nI i ↔ L < i + 7 := by
  by_cases z : 7 ≤ L
  · rw [nI_p7 z, nI_ltI (by omega) (by omega)]
    omega
  · have h1 : nI L - 7 < 0 := (by decide +kernel : ∀ L, L < 7 → nI L - 7 < 0) L (by omega)
    have h2 : (0 : Int32) ≤ nI i := nI_le (a := 0) (b := i) (by omega) (by omega)
    exact ⟨fun _ => by omega, fun _ => Int32.lt_of_lt_of_le h1 h2⟩
theorem iV15 (v : Int32) : v &&& 15 = nI (cUn v % 16) := by
  have := pk_andN (cUn_lt v) (m := 15) 4 (by decide)
  rw [nI_cUn] at this
  exact this
theorem s_Lw_cell (hX : xS X sb L xs tI tE mi) (hL3 : L ≤ 3585) (h : P (some (.int (if 0 < L then xs 0 else 0))) w) : xE (xGG X) 0 m_Lw_cell 0 [(0, .ref sb), (1, .int 0)] [] w P := by
  refine x_iload_n 1 rfl d_Lw_cell_0 rfl ?_
  refine x_aload_n 2 rfl d_Lw_cell_1 rfl ?_
  refine x_lenX 3 rfl d_Lw_cell_2 (fun U H z => (hX U H z).1) ?_
  refine x_icmp_ge 12 6 rfl d_Lw_cell_3 (by decide) (fun hc => ?_) (fun hc => ?_)
  · have z : ¬ 0 < L := fun z => absurd hc (nI_ge (a := 0) (b := L) z (by omega))
    rw [if_neg z] at h
    refine x_iconst 13 rfl d_Lw_cell_12 0 (by decide) ?_
    refine x_iret d_Lw_cell_13 rfl ?_
    exact h
  · have z : 0 < L := by
      by_cases z : 0 < L
      · exact z
      · exact absurd (nI_le (a := L) (b := 0) (by omega) (by decide)) hc
    rw [if_pos z] at h
    refine x_aload_n 7 rfl d_Lw_cell_6 rfl ?_
    refine x_iload_n 8 rfl d_Lw_cell_7 rfl ?_
    refine x_iaX 9 rfl d_Lw_cell_8 (fun U H z => (hX U H z).1) (vp_in_nI (n := 0) z (by omega)) ?_
    refine x_goto d_Lw_cell_9 13 (by decide) ?_
    refine x_iret d_Lw_cell_13 rfl ?_
    exact h
theorem s_Lw_loop (hX : xS X sb L xs tI tE mi) (hL3 : L ≤ 3585) (h : ∀ w', lwI X tE b c0 s0 t w' → P (some (.int 1)) w') : ∀ (f i : Nat) (cc : Int32) (w : xW), cc = nI i → i < 4000 → L < i + 7 + f → lwI X tE b c0 s0 t w → xE (xGG X) 14 m_Lw_law 28 [(0, .ref sb), (1, .ref b), (2, .ref (b + 616)), (3, .int cc)] [] w P := by
  intro f
  induction f with
  | zero =>
    intro i cc w hcc hi hf hI
    subst hcc
    refine x_iload_n 29 rfl d_Lw_law_28 rfl ?_
    refine x_aload_n 30 rfl d_Lw_law_29 rfl ?_
    refine x_lenX 31 rfl d_Lw_law_30 (fun U H z => (hX U H z).1) ?_
    refine x_bipush 33 rfl d_Lw_law_31 7 (by decide) ?_
    refine x_isub 34 rfl d_Lw_law_33 ?_
    refine x_icmp_gt 555 37 rfl d_Lw_law_34 (by decide) (fun hc => ?_) (fun hc => absurd ((m7 hL3 (by omega)).mpr (by omega)) hc)
    refine x_iconst 556 rfl d_Lw_law_555 1 (by decide) ?_
    refine x_zret d_Lw_law_556 rfl (by decide) ?_
    exact h w hI
  | succ f ih =>
    intro i cc w hcc hi hf hI
    subst hcc
    have hI0 := hI
    obtain ⟨σ, mo, hLd, hLI, hM⟩ := hI
    refine x_iload_n 29 rfl d_Lw_law_28 rfl ?_
    refine x_aload_n 30 rfl d_Lw_law_29 rfl ?_
    refine x_lenX 31 rfl d_Lw_law_30 (fun U H z => (hX U H z).1) ?_
    refine x_bipush 33 rfl d_Lw_law_31 7 (by decide) ?_
    refine x_isub 34 rfl d_Lw_law_33 ?_
    refine x_icmp_gt 555 37 rfl d_Lw_law_34 (by decide) (fun hc => ?_) (fun hc => ?_)
    · refine x_iconst 556 rfl d_Lw_law_555 1 (by decide) ?_
      refine x_zret d_Lw_law_556 rfl (by decide) ?_
      exact h w hI0
    have hi7 : i + 7 ≤ L := by
      by_cases z : L < i + 7
      · exact absurd ((m7 hL3 (by omega)).mpr z) hc
      · omega
    have nx : ∀ w', lwI X tE b c0 s0 t w' → xE (xGG X) 14 m_Lw_law 549 [(0, .ref sb), (1, .ref b), (2, .ref (b + 616)), (3, .int (nI i))] [] w' P := by
      intro w' hI'
      refine x_iinc 552 rfl d_Lw_law_549 rfl 7 (by decide) (by decide) ?_
      refine x_goto d_Lw_law_552 28 (by decide) ?_
      rw [show nI i + 7 = nI (i + 7) from nI_add i 7]
      exact xE.fit (ih (i + 7) _ w' rfl (by omega) (by omega) hI') rfl
    refine x_aload_n 38 rfl d_Lw_law_37 rfl ?_
    refine x_iload_n 39 rfl d_Lw_law_38 rfl ?_
    refine x_iaX 40 rfl d_Lw_law_39 (fun U H z => (hX U H z).1) (vp_in_nI (by omega) (by omega)) ?_
    refine x_bipush 42 rfl d_Lw_law_40 15 (by decide) ?_
    refine x_iand 43 rfl d_Lw_law_42 ?_
    rw [iV15]
    generalize xs (nI i).toNatClampNeg = x0
    have hu : cUn x0 % 16 < 16 := Nat.mod_lt _ (by decide)
    generalize cUn x0 % 16 = u at hu
    have hcases : u = 0 ∨ u = 1 ∨ u = 2 ∨ u = 3 ∨ u = 4 ∨ u = 5 ∨ u = 6 ∨ u = 7 ∨ u = 8 ∨ u = 9 ∨ u = 10 ∨ u = 11 ∨ u = 12 ∨ u = 13 ∨ u = 14 ∨ u = 15 := by omega
    rcases hcases with z | z | z | z | z | z | z | z | z | z | z | z | z | z | z | z <;> subst z
    · exact x_tableIn (off := 65) (tgt := 108) d_Lw_law_43 (by decide) (by decide) rfl rfl (s_Lw_submit hX hi7 hL3 hLd hLI hM nx)
    · exact x_tableIn (off := 98) (tgt := 141) d_Lw_law_43 (by decide) (by decide) rfl rfl (s_Lw_begin hX hi7 hL3 hLd hLI hM nx)
    · exact x_tableIn (off := 121) (tgt := 164) d_Lw_law_43 (by decide) (by decide) rfl rfl (s_Lw_run hX hi7 hL3 hLd hLI hM nx)
    · exact x_tableIn (off := 154) (tgt := 197) d_Lw_law_43 (by decide) (by decide) rfl rfl (s_Lw_deliver hX hi7 hL3 hLd hLI hM nx)
    · exact x_tableIn (off := 187) (tgt := 230) d_Lw_law_43 (by decide) (by decide) rfl rfl (s_Lw_betray hX hi7 hL3 hLd hLI hM nx)
    · exact x_tableIn (off := 200) (tgt := 243) d_Lw_law_43 (by decide) (by decide) rfl rfl (s_Lw_speak hX hi7 hL3 hLd hLI hM nx)
    · exact x_tableIn (off := 275) (tgt := 318) d_Lw_law_43 (by decide) (by decide) rfl rfl (s_Lw_epoch hX hi7 hL3 hLd hLI hM nx)
    · exact x_tableIn (off := 298) (tgt := 341) d_Lw_law_43 (by decide) (by decide) rfl rfl (s_Lw_ledger hX hi7 hL3 hLd hLI hM nx)
    · exact x_tableIn (off := 331) (tgt := 374) d_Lw_law_43 (by decide) (by decide) rfl rfl (s_Lw_queue hX hi7 hL3 hLd hLI hM nx)
    · exact x_tableIn (off := 364) (tgt := 407) d_Lw_law_43 (by decide) (by decide) rfl rfl (s_Lw_waiting hX hi7 hL3 hLd hLI hM nx)
    · exact x_tableIn (off := 387) (tgt := 430) d_Lw_law_43 (by decide) (by decide) rfl rfl (s_Lw_instance hX hi7 hL3 hLd hLI hM nx)
    · exact x_tableIn (off := 430) (tgt := 473) d_Lw_law_43 (by decide) (by decide) rfl rfl (s_Lw_coin hX hi7 hL3 hLd hLI hM nx)
    · exact x_tableIn (off := 473) (tgt := 516) d_Lw_law_43 (by decide) (by decide) rfl rfl (s_Lw_root hX hi7 hL3 hLd hLI hM nx)
    · exact x_tableOut (tgt := 549) d_Lw_law_43 (Or.inr (by decide)) rfl (nx w hI0)
    · exact x_tableOut (tgt := 549) d_Lw_law_43 (Or.inr (by decide)) rfl (nx w hI0)
    · exact x_tableOut (tgt := 549) d_Lw_law_43 (Or.inr (by decide)) rfl (nx w hI0)
/-- what the end leaves -/
theorem s_Lw_law (hX : xS X sb L xs tI tE mi) (hL3 : L ≤ 3585) (htE : tE < X.2.1) (hb : X.2.1 ≤ w.1) (hw : ∀ x, w.2.2 x = none) (h : ∀ w' mo, mo ≤ 8000 → w'.1 ≤ w.1 + 647 + mo + 4 * (10 + 2 * mo) → w'.2.1 ≤ w.2.1 + 16000 + 6 * mo + 16 * (10 + 2 * mo) → P (some (.int 1)) w') : xE (xGG X) 14 m_Lw_law 0 [(0, .ref sb)] [] w P := by
  refine x_new 3 rfl d_Lw_law_0 (ci := 8) (ty := t_El) (fs := [.int 0, .null, .null, .int 0]) rfl l_El t_El_ok q_Lw_7 i_El z_El (by decide) ?_
  generalize hw1 : xnew w _ _ = w1
  have a1 : w1.2.2 w.1 = some (.inr (8, [.int 0, .null, .null, .int 0])) := by rw [← hw1, xnew_at]
  have a2 : w1.1 = w.1 + 1 := by rw [← hw1]; rfl
  have a3 : w1.2.1 = w.2.1 + 4 := by rw [← hw1]; rfl
  have a4 : ∀ x, x ≠ w.1 → w1.2.2 x = none := fun x hx => by rw [← hw1, xnew_ne _ _ _ hx]; exact hw x
  refine x_dup 4 rfl d_Lw_law_3 rfl ?_
  refine x_aload_n 5 rfl d_Lw_law_4 rfl ?_
  refine x_iconst 6 rfl d_Lw_law_5 0 (by decide) ?_
  refine y_call 9 rfl [_, _] _ rfl d_Lw_law_6 c_Lw_9 rfl (Nat.le_of_ble_eq_true rfl) (Nat.le_of_ble_eq_true rfl) (Nat.le_of_ble_eq_true rfl) (s_Lw_cell hX hL3 ?_)
  refine y_callI 12 rfl [_] _ rfl d_Lw_law_9 c_Lw_15 rfl (Nat.le_of_ble_eq_true rfl) (Nat.le_of_ble_eq_true rfl) (Nat.le_of_ble_eq_true rfl) (s_El_init hX a1 a2 (fun w2 k1 k2 => ?_))
  obtain ⟨b1, b2, b3⟩ := k1
  refine x_astore_n 13 rfl d_Lw_law_12 (by decide) ?_
  refine x_new 16 rfl d_Lw_law_13 (ci := 9) (ty := t_Mo) (fs := fJ 0 0) rfl l_Mo t_Mo_ok q_Lw_18 i_Mo z_Mo (by decide) ?_
  generalize hw3 : xnew w2 _ _ = w3
  have e1 : w2.1 = w.1 + 616 := by omega
  rw [e1]
  have d1 : w3.2.2 (w.1 + 616) = some (.inr (9, fJ (w.1 + 616) 0)) := by rw [← hw3, ← e1, xnew_at]; rfl
  have d2 : w3.1 = w.1 + 616 + 1 := by rw [← hw3]; show w2.1 + 1 = _; omega
  have d3 : w3.2.1 = w2.2.1 + 37 := by rw [← hw3]; rfl
  have d4 : ∀ x, x ≠ w.1 + 616 → w3.2.2 x = w2.2.2 x := fun x hx => by rw [← hw3, xnew_ne _ _ _ (by omega)]
  refine x_dup 17 rfl d_Lw_law_16 rfl ?_
  refine x_aload_n 18 rfl d_Lw_law_17 rfl ?_
  refine x_iconst 19 rfl d_Lw_law_18 0 (by decide) ?_
  refine y_call 22 rfl [_, _] _ rfl d_Lw_law_19 c_Lw_9 rfl (Nat.le_of_ble_eq_true rfl) (Nat.le_of_ble_eq_true rfl) (Nat.le_of_ble_eq_true rfl) (s_Lw_cell hX hL3 ?_)
  refine y_callI 25 rfl [_] _ rfl d_Lw_law_22 c_Lw_20 rfl (Nat.le_of_ble_eq_true rfl) (Nat.le_of_ble_eq_true rfl) (Nat.le_of_ble_eq_true rfl) (s_Mo_init d1 d2 (fun w4 k3 k4 => ?_))
  obtain ⟨f1, f2, f3⟩ := k3
  have hkeep : ∀ x, x < w.1 + 616 → w4.2.2 x = w2.2.2 x := fun x hx => (f3 x (by omega) (by omega)).trans (d4 x (by omega))
  have L0 : rL0 X tE w.1 (cSd (if 0 < L then xs 0 else 0)) w4 := by
    obtain ⟨g1, g2, ⟨f, g3, g4⟩, g5⟩ := k2
    exact ⟨(hkeep _ (by omega)).trans g1, g2.kept (fun x x1 x2 => hkeep x (by omega)), ⟨f, (hkeep _ (by omega)).trans g3, g4⟩, fun n hn => (g5 n hn).kept (fun x x1 x2 => hkeep x (by omega))⟩
  have dom : ∀ x e, w4.2.2 x = some e → X.2.1 ≤ x ∧ x < w4.1 := by
    intro x e hx
    by_cases z : w.1 ≤ x ∧ x < w4.1
    · omega
    · have q1 : w4.2.2 x = w3.2.2 x := f3 x (by omega) (by omega)
      have q2 : w3.2.2 x = w2.2.2 x := d4 x (by omega)
      have q3 : w2.2.2 x = w1.2.2 x := b3 x (by omega) (by omega)
      rw [q1, q2, q3, a4 x (by omega)] at hx
      cases hx
  have hld := L0.rLd (dyn := w.1 + 647) hb htE (by omega) (by omega) dom
  refine x_astore_n 26 rfl d_Lw_law_25 (by decide) ?_
  refine x_iconst 27 rfl d_Lw_law_26 1 (by decide) ?_
  refine x_istore_n 28 rfl d_Lw_law_27 (by decide) ?_
  refine xE.fit (s_Lw_loop (c0 := w4.1) (s0 := w4.2.1) hX hL3 (fun w' hI => ?_) L 1 1 w4 rfl (by omega) (by omega) ⟨s0L, 0, hld, lInv_0, ⟨(false, 0, 0, 0, 0, 0), [], eA, k4, gRL_0⟩⟩) rfl
  obtain ⟨σ, mo, hLd, hLI, -⟩ := hI
  obtain ⟨ed, cap, -, -, -, p1, p2, p3⟩ := hLd.2.2.2.2.2.2.2.2.2.2.2.2
  have c0 := (p1 0 (by decide)).2
  have c1 := (p1 1 (by decide)).2
  have c2 := (p1 2 (by decide)).2
  have c3 := (p1 3 (by decide)).2
  have hmo := hLI.2.1
  exact h w' mo (by omega) (by omega) (by omega)
end LA
