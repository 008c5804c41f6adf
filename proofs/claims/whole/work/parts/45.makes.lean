/-! THE REFERENCE: MAKES, VOTERS, POST -/
theorem f2lt {g : Nat → Bool} {k l : Nat} {tl : List Nat} (h : (List.range' 0 4).filter g = k :: l :: tl) : k < 4 ∧ l < 4 ∧ k ≠ l := by
  rw [show List.range' 0 4 = [0, 1, 2, 3] from rfl] at h
  cases h0 : g 0 <;> cases h1 : g 1 <;> cases h2 : g 2 <;> cases h3 : g 3 <;> simp [List.filter, h0, h1, h2, h3] at h <;> omega
theorem f2ex {g : Nat → Bool} (h : 2 ≤ cPop (cMk g)) : ∃ k l tl, (List.range' 0 4).filter g = k :: l :: tl := by
  have e1 : ((List.range' 0 4).filter g).length = cPop (cMk g) := by
    unfold cMk cPop
    rw [show List.range' 0 4 = [0, 1, 2, 3] from rfl]
    simp only [List.filter]
    cases g 0 <;> cases g 1 <;> cases g 2 <;> cases g 3 <;> rfl
  match hl : (List.range' 0 4).filter g with
  | [] => rw [hl] at e1; simp at e1; omega
  | [x] => rw [hl] at e1; simp at e1; omega
  | k :: l :: tl => exact ⟨k, l, tl, rfl⟩
section MK
variable {X : xPar} {m0 : Nat} {t : Int32} {s : sS} {M : Nat → Nat → Int32} {w : xW} {P : Option Value → xW → Prop}
theorem s_Mo_makes {aa root : Int32} {a : Nat} {g : Nat → Bool} {r : Nat → Int32} {eb : Nat → Nat} (haa : aa = nI a) (ha : a < 64) (hR : rMo X m0 t s M w) (hg : ∀ k, k < 4 → M 11 (4 * a + k) = nB (g k)) (hr : ∀ k, k < 4 → M 12 (4 * a + k) = r k) (he : ∀ k, k < 4 → M 13 (4 * a + k) = nI (eb k)) (hb : ∀ k, k < 4 → eb k < 256) (h2 : 2 ≤ cCt g r root) (h : rMo X m0 t (s.1, s.2.1, s.2.2.1, nI (cGv (fun k => g k && decide (r k = root)) eb), s.2.2.2.2) M (xset w m0 (.inr (9, fMo m0 t (s.1, s.2.1, s.2.2.1, nI (cGv (fun k => g k && decide (r k = root)) eb), s.2.2.2.2)))) → P (some (.int (nB (decide (cRoot (cGv (fun k => g k && decide (r k = root)) eb % 256) (cGv (fun k => g k && decide (r k = root)) eb / 256) = root))))) (xset w m0 (.inr (9, fMo m0 t (s.1, s.2.1, s.2.2.1, nI (cGv (fun k => g k && decide (r k = root)) eb), s.2.2.2.2))))) : xE (xGG X) 3 m_Mo_makes 0 [(0, .ref m0), (1, .int aa), (2, .int root)] [] w P := by
  subst haa
  have g1 := hR.1
  have g11 := hR.a11
  have g12 := hR.a12
  have g13 := hR.a13
  have loop : ∀ (j m : Nat) (cc : Int32), cc = iD j → j + m = 4 → xE (xGG X) 3 m_Mo_makes 8 [(0, .ref m0), (1, .int (nI a)), (2, .int root), (3, .int (iO ((List.range' j m).filter (fun k => g k && decide (r k = root)))[0]?)), (4, .int (iO ((List.range' j m).filter (fun k => g k && decide (r k = root)))[1]?)), (5, .int cc)] [] w P := by
    intro j
    induction j with
    | zero =>
      intro m cc hcc hm
      have hm4 : m = 4 := by omega
      subst hm4 hcc
      obtain ⟨k, l, tl, hf⟩ := f2ex h2
      obtain ⟨hk, hl, hkl⟩ := f2lt hf
      have hv : cGv (fun k => g k && decide (r k = root)) eb = cSv k (eb k) l (eb l) := by
        unfold cGv
        rw [show List.range 4 = List.range' 0 4 from rfl, hf]
      have hlt := cGv_lt (g := fun k => g k && decide (r k = root)) hb
      generalize cGv (fun k => g k && decide (r k = root)) eb = v at hv hlt h
      rw [hf, show (k :: l :: tl)[0]? = some k from rfl, show (k :: l :: tl)[1]? = some l from rfl]
      refine x_iload 10 rfl d_Mo_makes_8 rfl ?_
      refine x_if_lt 54 13 rfl d_Mo_makes_10 (by decide) (fun hc => ?_) (fun hc => absurd (by decide) hc)
      refine x_iload 56 rfl d_Mo_makes_54 rfl ?_
      refine x_if_ge 61 59 rfl d_Mo_makes_56 (by decide) (fun hc => ?_) (fun hc => absurd (nI_pos' (by omega)) hc)
      refine x_aload_n 62 rfl d_Mo_makes_61 rfl ?_
      refine x_iload_n 63 rfl d_Mo_makes_62 rfl ?_
      refine x_aload_n 64 rfl d_Mo_makes_63 rfl ?_
      refine x_get 67 rfl f_Mo_50 d_Mo_makes_64 g1 rfl ?_
      refine x_iconst 68 rfl d_Mo_makes_67 4 (by decide) ?_
      refine x_iload_n 69 rfl d_Mo_makes_68 rfl ?_
      refine x_imul 70 rfl d_Mo_makes_69 ?_
      refine x_iload_n 71 rfl d_Mo_makes_70 rfl ?_
      refine x_iadd 72 rfl d_Mo_makes_71 ?_
      rw [show iO (some k) = nI k from rfl, show iO (some l) = nI l from rfl, i4]
      refine x_iald 73 rfl d_Mo_makes_72 g13 (t0 := 0) rfl (vp_in_nI (by omega) (by decide)) ?_
      refine x_iload 75 rfl d_Mo_makes_73 rfl ?_
      refine x_aload_n 76 rfl d_Mo_makes_75 rfl ?_
      refine x_get 79 rfl f_Mo_50 d_Mo_makes_76 g1 rfl ?_
      refine x_iconst 80 rfl d_Mo_makes_79 4 (by decide) ?_
      refine x_iload_n 81 rfl d_Mo_makes_80 rfl ?_
      refine x_imul 82 rfl d_Mo_makes_81 ?_
      refine x_iload 84 rfl d_Mo_makes_82 rfl ?_
      refine x_iadd 85 rfl d_Mo_makes_84 ?_
      rw [nI_clamp (by omega), he k hk]
      rw [i4]
      refine x_iald 86 rfl d_Mo_makes_85 g13 (t0 := 0) rfl (vp_in_nI (by omega) (by decide)) ?_
      rw [nI_clamp (by omega), he l hl]
      refine y_call 89 rfl [_, _, _, _] _ rfl d_Mo_makes_86 c_Mo_213 rfl (Nat.le_of_ble_eq_true rfl) (Nat.le_of_ble_eq_true rfl) (Nat.le_of_ble_eq_true rfl) (s_Mo_solve rfl rfl rfl rfl hk hl hkl (hb k hk) (hb l hl) ?_)
      rw [← hv]
      refine x_put 92 rfl p_Mo_217 (fun h => nomatch h) d_Mo_makes_89 g1 rfl rfl (Nat.le_of_ble_eq_true rfl) ?_
      have h' := h hR.fld
      have e1 : (fMo m0 t s).set 34 (.int (nI v)) = fMo m0 t (s.1, s.2.1, s.2.2.1, nI v, s.2.2.2.2) := rfl
      rw [e1]
      have g1' := (hR.fld (s' := (s.1, s.2.1, s.2.2.1, nI v, s.2.2.2.2))).1
      refine x_aload_n 93 rfl d_Mo_makes_92 rfl ?_
      refine x_get 96 rfl f_Mo_217 d_Mo_makes_93 g1' rfl ?_
      refine x_sipush 99 rfl d_Mo_makes_96 255 (by decide) ?_
      refine x_iand 100 rfl d_Mo_makes_99 ?_
      refine x_aload_n 101 rfl d_Mo_makes_100 rfl ?_
      refine x_get 104 rfl f_Mo_217 d_Mo_makes_101 g1' rfl ?_
      refine x_bipush 106 rfl d_Mo_makes_104 8 (by decide) ?_
      refine x_ishr 107 rfl d_Mo_makes_106 ?_
      rw [iP (by omega), pk_shrN (by omega) _ 8 (by decide), show (2 : Nat) ^ 8 = 256 from rfl]
      refine y_call 110 rfl [_, _] _ rfl d_Mo_makes_107 c_Mo_133 rfl (Nat.le_of_ble_eq_true rfl) (Nat.le_of_ble_eq_true rfl) (Nat.le_of_ble_eq_true rfl) (s_Mo_rootOfProposal rfl rfl (by omega) (by omega) ?_)
      refine x_iload_n 111 rfl d_Mo_makes_110 rfl ?_
      refine x_icmp_ne 118 114 rfl d_Mo_makes_111 (by decide) (fun hc => ?_) (fun hc => ?_)
      · refine x_iconst 119 rfl d_Mo_makes_118 0 (by decide) ?_
        refine x_zret d_Mo_makes_119 rfl (by decide) ?_
        rw [decide_eq_false hc] at h'
        exact h'
      · refine x_iconst 115 rfl d_Mo_makes_114 1 (by decide) ?_
        refine x_goto d_Mo_makes_115 119 (by decide) ?_
        refine x_zret d_Mo_makes_119 rfl (by decide) ?_
        rw [decide_eq_true hc] at h'
        exact h'
    | succ j ih =>
      intro m cc hcc hm
      subst hcc
      have hj : j < 4 := by omega
      have ih' := ih (m + 1) (iD j) rfl (by omega)
      rw [show List.range' j (m + 1) = j :: List.range' (j + 1) m from rfl, List.filter_cons] at ih'
      generalize (List.range' (j + 1) m).filter (fun k => g k && decide (r k = root)) = F at ih' ⊢
      have skip : (g j && decide (r j = root)) = false → ∀ lc, xlk lc 0 = some (.ref m0) → xlk lc 1 = some (.int (nI a)) → xlk lc 2 = some (.int root) → xlk lc 3 = some (.int (iO F[0]?)) → xlk lc 4 = some (.int (iO F[1]?)) → xlk lc 5 = some (.int (nI j)) → xE (xGG X) 3 m_Mo_makes 48 lc [] w P := by
        intro z lc l0 l1 l2 l3 l4 l5
        refine xE.fit (lc' := [(0, .ref m0), (1, .int (nI a)), (2, .int root), (3, .int (iO F[0]?)), (4, .int (iO F[1]?)), (5, .int (nI j))]) ?_ (by simp only [List.map_cons, List.map_nil, l0, l1, l2, l3, l4, l5])
        rw [z, if_neg (by decide)] at ih'
        refine x_iinc 51 rfl d_Mo_makes_48 rfl (-1) (by decide) (by decide) ?_
        refine x_goto d_Mo_makes_51 8 (by decide) ?_
        rw [iDm j (by omega)]
        exact xE.fit ih' rfl
      rw [show iD (j + 1) = nI j from rfl]
      refine x_iload 10 rfl d_Mo_makes_8 rfl ?_
      refine x_if_lt 54 13 rfl d_Mo_makes_10 (by decide) (fun hc => absurd hc (nIn0 j (by omega))) (fun hc => ?_)
      refine x_aload_n 14 rfl d_Mo_makes_13 rfl ?_
      refine x_get 17 rfl f_Mo_44 d_Mo_makes_14 g1 rfl ?_
      refine x_iconst 18 rfl d_Mo_makes_17 4 (by decide) ?_
      refine x_iload_n 19 rfl d_Mo_makes_18 rfl ?_
      refine x_imul 20 rfl d_Mo_makes_19 ?_
      refine x_iload 22 rfl d_Mo_makes_20 rfl ?_
      refine x_iadd 23 rfl d_Mo_makes_22 ?_
      rw [i4]
      refine x_zald 24 rfl d_Mo_makes_23 g11 (t0 := 1) rfl (vp_in_nI (by omega) (by decide)) ?_
      rw [nI_clamp (by omega), hg j hj]
      refine x_if_eq 48 27 rfl d_Mo_makes_24 (by decide) (fun hc => ?_) (fun hc => ?_)
      · exact skip (by rw [(nB_0 _).mp hc]; rfl) _ rfl rfl rfl rfl rfl rfl
      have y1 := nB_ne hc
      refine x_aload_n 28 rfl d_Mo_makes_27 rfl ?_
      refine x_get 31 rfl f_Mo_47 d_Mo_makes_28 g1 rfl ?_
      refine x_iconst 32 rfl d_Mo_makes_31 4 (by decide) ?_
      refine x_iload_n 33 rfl d_Mo_makes_32 rfl ?_
      refine x_imul 34 rfl d_Mo_makes_33 ?_
      refine x_iload 36 rfl d_Mo_makes_34 rfl ?_
      refine x_iadd 37 rfl d_Mo_makes_36 ?_
      rw [i4]
      refine x_iald 38 rfl d_Mo_makes_37 g12 (t0 := 0) rfl (vp_in_nI (by omega) (by decide)) ?_
      refine x_iload_n 39 rfl d_Mo_makes_38 rfl ?_
      rw [nI_clamp (by omega), hr j hj]
      refine x_icmp_ne 48 42 rfl d_Mo_makes_39 (by decide) (fun hc => ?_) (fun hc => ?_)
      · exact skip (by rw [decide_eq_false hc, Bool.and_false]) _ rfl rfl rfl rfl rfl rfl
      rw [show (g j && decide (r j = root)) = true from by rw [y1, decide_eq_true hc]; rfl, if_pos rfl] at ih'
      refine x_iload_n 43 rfl d_Mo_makes_42 rfl ?_
      refine x_istore 45 rfl d_Mo_makes_43 (by decide) ?_
      refine x_iload 47 rfl d_Mo_makes_45 rfl ?_
      refine x_istore_n 48 rfl d_Mo_makes_47 (by decide) ?_
      refine x_iinc 51 rfl d_Mo_makes_48 rfl (-1) (by decide) (by decide) ?_
      refine x_goto d_Mo_makes_51 8 (by decide) ?_
      rw [iDm j (by omega)]
      exact xE.fit ih' rfl
  refine x_iconst 1 rfl d_Mo_makes_0 (-1) (by decide) ?_
  refine x_istore_n 2 rfl d_Mo_makes_1 (by decide) ?_
  refine x_iconst 3 rfl d_Mo_makes_2 (-1) (by decide) ?_
  refine x_istore 5 rfl d_Mo_makes_3 (by decide) ?_
  refine x_iconst 6 rfl d_Mo_makes_5 3 (by decide) ?_
  refine x_istore 8 rfl d_Mo_makes_6 (by decide) ?_
  exact xE.fit (loop 4 0 3 rfl rfl) rfl
/-- votes of a cell: 1 for the bit 0, 2 for the bit 1 -/
def cV2 (a b : Bool) : Nat := cond a 1 0 + cond b 2 0
theorem cV2_b : ∀ a b : Bool, ∀ bit, bit < 2 → nI (cV2 a b) >>> (nI bit &&& 31) &&& 1 = nB ([a, b].getD bit false) := by decide +kernel
theorem s_Mo_voters {aa bb : Int32} {a bit : Nat} {v : Nat → Nat → Bool} (haa : aa = nI a) (hbb : bb = nI bit) (ha : a + 4 ≤ 1536) (hbit : bit < 2) (hR : rMo X m0 t s M w) (hv : ∀ k, k < 4 → M 16 (a + k) = nI (cV2 (v 0 k) (v 1 k))) (h : P (some (.int (nI (cPop (cMk (v bit)))))) w) : xE (xGG X) 0 m_Mo_voters 0 [(0, .ref m0), (1, .int aa), (2, .int bb)] [] w P := by
  subst haa hbb
  have g1 := hR.1
  have g16 := hR.a16
  have loop : ∀ (n j : Nat) (cc : Int32), cc = nI j → j + n = 4 → xE (xGG X) 0 m_Mo_voters 5 [(0, .ref m0), (1, .int (nI a)), (2, .int (nI bit)), (3, .int (nI (cN (v bit) j))), (4, .int cc)] [] w P := by
    intro n
    induction n with
    | zero =>
      intro j cc hcc hj
      have hj4 : j = 4 := by omega
      subst hj4 hcc
      refine x_iload 7 rfl d_Mo_voters_5 rfl ?_
      refine x_iconst 8 rfl d_Mo_voters_7 4 (by decide) ?_
      refine x_icmp_ge 42 11 rfl d_Mo_voters_8 (by decide) (fun hc => ?_) (fun hc => absurd (by decide) hc)
      refine x_iload_n 43 rfl d_Mo_voters_42 rfl ?_
      refine x_iret d_Mo_voters_43 rfl ?_
      rw [cN_4]
      exact h
    | succ n ih =>
      intro j cc hcc hj
      subst hcc
      have hj4 : j < 4 := by omega
      have ih' := ih (j + 1) _ rfl (by omega)
      rw [cN] at ih'
      generalize cN (v bit) j = c at ih' ⊢
      have e2 : [v 0 j, v 1 j].getD bit false = v bit j := by
        rcases lt2 hbit with rfl | rfl <;> rfl
      refine x_iload 7 rfl d_Mo_voters_5 rfl ?_
      refine x_iconst 8 rfl d_Mo_voters_7 4 (by decide) ?_
      refine x_icmp_ge 42 11 rfl d_Mo_voters_8 (by decide) (fun hc => absurd hc (nI_ge (a := j) (b := 4) hj4 (by decide))) (fun hc => ?_)
      refine x_aload_n 12 rfl d_Mo_voters_11 rfl ?_
      refine x_get 15 rfl f_Mo_59 d_Mo_voters_12 g1 rfl ?_
      refine x_iload_n 16 rfl d_Mo_voters_15 rfl ?_
      refine x_iload 18 rfl d_Mo_voters_16 rfl ?_
      refine x_iadd 19 rfl d_Mo_voters_18 ?_
      rw [nI_add]
      refine x_iald 20 rfl d_Mo_voters_19 g16 (t0 := 0) rfl (vp_in_nI (by omega) (by decide)) ?_
      rw [nI_clamp (by omega), hv j hj4]
      refine x_iload_n 21 rfl d_Mo_voters_20 rfl ?_
      refine x_ishr 22 rfl d_Mo_voters_21 ?_
      refine x_iconst 23 rfl d_Mo_voters_22 1 (by decide) ?_
      refine x_iand 24 rfl d_Mo_voters_23 ?_
      refine x_iconst 25 rfl d_Mo_voters_24 1 (by decide) ?_
      rw [cV2_b _ _ bit hbit, e2]
      refine x_icmp_ne 34 28 rfl d_Mo_voters_25 (by decide) (fun hc => ?_) (fun hc => ?_)
      · have z : v bit j = false := by
          cases zz : v bit j
          · rfl
          · rw [zz] at hc; exact absurd rfl hc
        rw [z] at ih'
        refine x_iload_n 35 rfl d_Mo_voters_34 rfl ?_
        refine x_istore_n 36 rfl d_Mo_voters_35 (by decide) ?_
        refine x_iinc 39 rfl d_Mo_voters_36 rfl 1 (by decide) (by decide) ?_
        refine x_goto d_Mo_voters_39 5 (by decide) ?_
        rw [nI_1]
        exact xE.fit ih' rfl
      · rw [(nB_1 _).mp hc] at ih'
        refine x_iload_n 29 rfl d_Mo_voters_28 rfl ?_
        refine x_iconst 30 rfl d_Mo_voters_29 1 (by decide) ?_
        refine x_iadd 31 rfl d_Mo_voters_30 ?_
        refine x_goto d_Mo_voters_31 35 (by decide) ?_
        refine x_istore_n 36 rfl d_Mo_voters_35 (by decide) ?_
        refine x_iinc 39 rfl d_Mo_voters_36 rfl 1 (by decide) (by decide) ?_
        refine x_goto d_Mo_voters_39 5 (by decide) ?_
        rw [nI_1, nI_1]
        exact xE.fit ih' rfl
  refine x_iconst 1 rfl d_Mo_voters_0 0 (by decide) ?_
  refine x_istore_n 2 rfl d_Mo_voters_1 (by decide) ?_
  refine x_iconst 3 rfl d_Mo_voters_2 0 (by decide) ?_
  refine x_istore 5 rfl d_Mo_voters_3 (by decide) ?_
  exact xE.fit (loop 4 0 0 rfl rfl) rfl
end MK
