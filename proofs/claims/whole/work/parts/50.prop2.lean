/-! THE REFERENCE: PROPOSAL -/
def bP3 (β : sB) (k : Nat) : Bool := β.1 (16 + k) && decide (3 ≤ cCt (fun s => β.1 (16 + s)) (fun s => β.2 (24 + s)) (β.2 (24 + k))) && decide (2 ≤ cCt (fun s => β.1 (8 + s)) (fun s => β.2 (8 + s)) (β.2 (24 + k)))
/-- as the reference looks for it -/
def mProp (β : sB) : Option Nat := match (List.range 4).find? (bP3 β) with
  | some k => some (if bMk β (β.2 (24 + k)) = true then bGvR β (β.2 (24 + k)) else 0)
  | none => none
section PR2
variable {X : xPar} {m0 : Nat} {t : Int32} {n e i : Nat} {s : sS} {M0 : Nat → Nat → Int32} {lg : List sPo} {β : sB} {α : sA} {gf : Nat} {w0 w : xW} {P : Option Value → xW → Prop}
theorem s_Mo_proposal {aa xx : Int32} (q4 : aa = nI (16 * n + 4 * e + i)) (q5 : xx = nI (4 * n + i)) (hn : n < 4) (he : e < 4) (hi : i < 4) (hb : ∀ k, k < 4 → cUn (β.2 (16 + k)) < 256) (hI : mI X m0 t n e i s M0 lg β α gf w0 w) (h1 : ∀ v w', mProp β = some v → mI X m0 t n e i s M0 lg (β.1, va_up β.2 2 (nI v)) α gf w0 w' → P (some (.int 1)) w') (h0 : mProp β = none → P (some (.int 0)) w) : xE (xGG X) 4 m_Mo_proposal 0 [(0, .ref m0), (1, .int aa), (2, .int xx)] [] w P := by
  subst q4 q5
  have hI0 := hI
  obtain ⟨gv, M, hR, hg, hp, hd, hf, hw⟩ := hI
  have g1 := hR.1
  have g14 := hR.a14
  have g15 := hR.a15
  have loop : ∀ (m j : Nat) (cc : Int32), cc = nI j → j + m = 4 → (∀ k, k < j → bP3 β k = false) → xE (xGG X) 4 m_Mo_proposal 2 [(0, .ref m0), (1, .int (nI (16 * n + 4 * e + i))), (2, .int (nI (4 * n + i))), (3, .int cc)] [] w P := by
    intro m
    induction m with
    | zero =>
      intro j cc hcc hj hk
      have hj4 : j = 4 := by omega
      subst hj4 hcc
      refine x_iload_n 3 rfl d_Mo_proposal_2 rfl ?_
      refine x_iconst 4 rfl d_Mo_proposal_3 4 (by decide) ?_
      refine x_icmp_ge 86 7 rfl d_Mo_proposal_4 (by decide) (fun hc => ?_) (fun hc => absurd (by decide) hc)
      refine x_iconst 87 rfl d_Mo_proposal_86 0 (by decide) ?_
      refine x_zret d_Mo_proposal_87 rfl (by decide) ?_
      refine h0 ?_
      unfold mProp
      rw [fndN hk]
    | succ m ih =>
      intro j cc hcc hj hk
      subst hcc
      have hj4 : j < 4 := by omega
      have hle := cCt_le (fun s => β.1 (16 + s)) (fun s => β.2 (24 + s)) (β.2 (24 + j))
      have hle2 := cCt_le (fun s => β.1 (8 + s)) (fun s => β.2 (8 + s)) (β.2 (24 + j))
      have skip : bP3 β j = false → ∀ lc, xlk lc 0 = some (.ref m0) → xlk lc 1 = some (.int (nI (16 * n + 4 * e + i))) → xlk lc 2 = some (.int (nI (4 * n + i))) → xlk lc 3 = some (.int (nI j)) → xE (xGG X) 4 m_Mo_proposal 80 lc [] w P := by
        intro z lc l0 l1 l2 l3
        refine xE.fit (lc' := [(0, .ref m0), (1, .int (nI (16 * n + 4 * e + i))), (2, .int (nI (4 * n + i))), (3, .int (nI j))]) ?_ (by simp only [List.map_cons, List.map_nil, l0, l1, l2, l3])
        refine x_iinc 83 rfl d_Mo_proposal_80 rfl 1 (by decide) (by decide) ?_
        refine x_goto d_Mo_proposal_83 2 (by decide) ?_
        rw [nI_1]
        refine xE.fit (ih (j + 1) _ rfl (by omega) (fun k hk2 => ?_)) rfl
        by_cases zz : k = j
        · subst zz; exact z
        · exact hk k (by omega)
      refine x_iload_n 3 rfl d_Mo_proposal_2 rfl ?_
      refine x_iconst 4 rfl d_Mo_proposal_3 4 (by decide) ?_
      refine x_icmp_ge 86 7 rfl d_Mo_proposal_4 (by decide) (fun hc => absurd hc (nI_ge (a := j) (b := 4) hj4 (by decide))) (fun hc => ?_)
      refine x_aload_n 8 rfl d_Mo_proposal_7 rfl ?_
      refine x_get 11 rfl f_Mo_56 d_Mo_proposal_8 g1 rfl ?_
      refine x_iconst 12 rfl d_Mo_proposal_11 4 (by decide) ?_
      refine x_iload_n 13 rfl d_Mo_proposal_12 rfl ?_
      refine x_imul 14 rfl d_Mo_proposal_13 ?_
      refine x_iload_n 15 rfl d_Mo_proposal_14 rfl ?_
      refine x_iadd 16 rfl d_Mo_proposal_15 ?_
      rw [i4]
      refine x_iald 17 rfl d_Mo_proposal_16 g15 (t0 := 0) rfl (vp_in_nI (by omega) (by decide)) ?_
      rw [nI_clamp (by omega), hp.c15 hj4]
      refine x_istore 19 rfl d_Mo_proposal_17 (by decide) ?_
      refine x_aload_n 20 rfl d_Mo_proposal_19 rfl ?_
      refine x_get 23 rfl f_Mo_53 d_Mo_proposal_20 g1 rfl ?_
      refine x_iconst 24 rfl d_Mo_proposal_23 4 (by decide) ?_
      refine x_iload_n 25 rfl d_Mo_proposal_24 rfl ?_
      refine x_imul 26 rfl d_Mo_proposal_25 ?_
      refine x_iload_n 27 rfl d_Mo_proposal_26 rfl ?_
      refine x_iadd 28 rfl d_Mo_proposal_27 ?_
      rw [i4]
      refine x_zald 29 rfl d_Mo_proposal_28 g14 (t0 := 1) rfl (vp_in_nI (by omega) (by decide)) ?_
      rw [nI_clamp (by omega), hp.c14 hj4]
      refine x_if_eq 80 32 rfl d_Mo_proposal_29 (by decide) (fun hc => ?_) (fun hc => ?_)
      · exact skip (by unfold bP3; rw [(nB_0 _).mp hc]; rfl) _ rfl rfl rfl rfl
      have y1 := nB_ne hc
      refine x_aload_n 33 rfl d_Mo_proposal_32 rfl ?_
      refine x_iload_n 34 rfl d_Mo_proposal_33 rfl ?_
      refine x_iload 36 rfl d_Mo_proposal_34 rfl ?_
      refine y_callV 39 rfl [_, _] _ rfl d_Mo_proposal_36 g1 rfl c_Mo_226 rfl (Nat.le_of_ble_eq_true rfl) (Nat.le_of_ble_eq_true rfl) (Nat.le_of_ble_eq_true rfl) (s_Mo_readies (g := fun s => β.1 (16 + s)) (r := fun s => β.2 (24 + s)) rfl (by omega) hR (fun k hk => hp.c14 hk) (fun k hk => hp.c15 hk) ?_)
      refine x_iconst 40 rfl d_Mo_proposal_39 3 (by decide) ?_
      refine x_icmp_lt 80 43 rfl d_Mo_proposal_40 (by decide) (fun hc => ?_) (fun hc => ?_)
      · have z := (nI_ltI (b := 3) (by omega) (by decide)).mp hc
        exact skip (by unfold bP3; rw [decide_eq_false (by omega : ¬ 3 ≤ cCt (fun s => β.1 (16 + s)) (fun s => β.2 (24 + s)) (β.2 (24 + j))), Bool.and_false]; rfl) _ rfl rfl rfl rfl
      have z : 3 ≤ cCt (fun s => β.1 (16 + s)) (fun s => β.2 (24 + s)) (β.2 (24 + j)) := by
        by_cases z : 3 ≤ cCt (fun s => β.1 (16 + s)) (fun s => β.2 (24 + s)) (β.2 (24 + j))
        · exact z
        · exact absurd (nI_lt (b := 3) (by omega) (by decide)) hc
      refine x_aload_n 44 rfl d_Mo_proposal_43 rfl ?_
      refine x_iload_n 45 rfl d_Mo_proposal_44 rfl ?_
      refine x_iload 47 rfl d_Mo_proposal_45 rfl ?_
      refine y_callV 50 rfl [_, _] _ rfl d_Mo_proposal_47 g1 rfl c_Mo_220 rfl (Nat.le_of_ble_eq_true rfl) (Nat.le_of_ble_eq_true rfl) (Nat.le_of_ble_eq_true rfl) (s_Mo_echoes (g := fun s => β.1 (8 + s)) (r := fun s => β.2 (8 + s)) rfl (by omega) hR (fun k hk => hp.c11 hk) (fun k hk => hp.c12 hk) ?_)
      refine x_iconst 51 rfl d_Mo_proposal_50 2 (by decide) ?_
      refine x_icmp_lt 80 54 rfl d_Mo_proposal_51 (by decide) (fun hc => ?_) (fun hc => ?_)
      · have z2 := (nI_ltI (b := 2) (by omega) (by decide)).mp hc
        exact skip (by unfold bP3; rw [decide_eq_false (by omega : ¬ 2 ≤ cCt (fun s => β.1 (8 + s)) (fun s => β.2 (8 + s)) (β.2 (24 + j))), Bool.and_false]) _ rfl rfl rfl rfl
      have z2 : 2 ≤ cCt (fun s => β.1 (8 + s)) (fun s => β.2 (8 + s)) (β.2 (24 + j)) := by
        by_cases z : 2 ≤ cCt (fun s => β.1 (8 + s)) (fun s => β.2 (8 + s)) (β.2 (24 + j))
        · exact z
        · exact absurd (nI_lt (b := 2) (by omega) (by decide)) hc
      have eP : mProp β = some (if bMk β (β.2 (24 + j)) = true then bGvR β (β.2 (24 + j)) else 0) := by
        unfold mProp
        rw [fnd hj4 hk (by unfold bP3; rw [y1, decide_eq_true z, decide_eq_true z2]; rfl)]
      refine x_aload_n 55 rfl d_Mo_proposal_54 rfl ?_
      refine x_get 58 rfl f_Mo_77 d_Mo_proposal_55 g1 rfl ?_
      refine x_iload_n 59 rfl d_Mo_proposal_58 rfl ?_
      refine x_aload_n 60 rfl d_Mo_proposal_59 rfl ?_
      refine x_iload_n 61 rfl d_Mo_proposal_60 rfl ?_
      refine x_iload 63 rfl d_Mo_proposal_61 rfl ?_
      refine y_callV 66 rfl [_, _] _ rfl d_Mo_proposal_63 g1 rfl c_Mo_223 rfl (Nat.le_of_ble_eq_true rfl) (Nat.le_of_ble_eq_true rfl) (Nat.le_of_ble_eq_true rfl) (s_Mo_makes (g := fun s => β.1 (8 + s)) (r := fun s => β.2 (8 + s)) (eb := fun s => cUn (β.2 (16 + s))) rfl (by omega) hR (fun k hk => hp.c11 hk) (fun k hk => hp.c12 hk) (fun k hk => (hp.c13 hk).trans (nI_cUn _).symm) hb z2 (fun R2 => ?_))
      have eb : decide (cRoot (cGv (fun k => β.1 (8 + k) && decide (β.2 (8 + k) = β.2 (24 + j))) (fun s => cUn (β.2 (16 + s))) % 256) (cGv (fun k => β.1 (8 + k) && decide (β.2 (8 + k) = β.2 (24 + j))) (fun s => cUn (β.2 (16 + s))) / 256) = β.2 (24 + j)) = bMk β (β.2 (24 + j)) := rfl
      have ev : cGv (fun k => β.1 (8 + k) && decide (β.2 (8 + k) = β.2 (24 + j))) (fun s => cUn (β.2 (16 + s))) = bGvR β (β.2 (24 + j)) := rfl
      dsimp only at R2 eb ev ⊢
      rw [eb]
      rw [ev] at R2 ⊢
      generalize hv : bGvR β (β.2 (24 + j)) = v at R2 eP ⊢
      have f2 : fr w0 (xset w m0 (.inr (9, fMo m0 t (s.1, s.2.1, nI lg.length, nI v, s.2.2.2.2)))) m0 (m0 + 31) := hw.set _ (by omega) (by omega)
      generalize xset w m0 _ = w2 at R2 f2 ⊢
      -- the cell is written
      have fin : ∀ (u : Nat) (lc : List (Nat × Value)), mProp β = some u → xE (xGG X) 4 m_Mo_proposal 77 lc [.int (nI u), .int (nI (4 * n + i)), .ref (m0 + 1 + 22)] w2 P := by
        intro u lc hu
        have g22 := R2.a22
        refine x_iast 78 rfl d_Mo_proposal_77 g22 (t0 := 0) rfl (vp_in_nI (by omega) (by decide)) ?_
        refine x_iconst 79 rfl d_Mo_proposal_78 1 (by decide) ?_
        refine x_zret d_Mo_proposal_79 rfl (by decide) ?_
        rw [nI_clamp (by omega)]
        refine h1 u _ hu ⟨_, _, R2.put (j := 22) (i := 4 * n + i) (x := nI u) (by decide), hg.up (by decide), hp.oth (by decide) (fun j idx k1 k2 => pVal_c (β := β) (β' := (β.1, va_up β.2 2 (nI u))) (α := α) (α' := α) (fun k => rfl) (fun k hk => by dsimp only; rw [va_up_ne _ _ hk]) (fun k hk => rfl) (fun k hk => rfl) k1 k2), hd.up ?_ (fun j k1 k2 k3 => ?_), hf.upD (by decide), f2.set _ (by omega) (by omega)⟩
        · show va_up β.2 2 (nI u) 2 = nI u
          rw [va_up_self]
        · rcases dc k1 k2 with rfl | rfl | rfl | rfl | rfl | rfl | rfl | rfl
          · exact absurd rfl k3
          all_goals rfl
      refine x_if_eq 76 69 rfl d_Mo_proposal_66 (by decide) (fun hc => ?_) (fun hc => ?_)
      · rw [(nB_0 _).mp hc, if_neg (by decide)] at eP
        refine x_iconst 77 rfl d_Mo_proposal_76 0 (by decide) ?_
        exact fin 0 _ eP
      · rw [nB_ne hc, if_pos rfl] at eP
        have g1' := R2.1
        refine x_aload_n 70 rfl d_Mo_proposal_69 rfl ?_
        refine x_get 73 rfl f_Mo_217 d_Mo_proposal_70 g1' rfl ?_
        refine x_goto d_Mo_proposal_73 77 (by decide) ?_
        exact fin v _ eP
  refine x_iconst 1 rfl d_Mo_proposal_0 0 (by decide) ?_
  refine x_istore_n 2 rfl d_Mo_proposal_1 (by decide) ?_
  exact xE.fit (loop 4 0 0 rfl rfl (fun k hk => absurd hk (by omega))) rfl
end PR2
