/-! THE REFERENCE: SETTLE'S RULES -/
/-- the reference, seen from one node -/
def mN (X : xPar) (m0 : Nat) (t : Int32) (n : Nat) (s : sS) (M0 : Nat → Nat → Int32) (lg : List sPo) (ν : sN) (w0 w : xW) : Prop :=
  ∃ gv g M, rMo X m0 t (s.1, s.2.1, nI lg.length, gv, s.2.2.2.2) M w ∧ gRel lg M ∧ nRel M n ν g ∧ nFr M0 M n ∧ fr w0 w m0 (m0 + 31) ∧ nInv ν
def pMs (ms : List sMg) : List sPo := ms.map (fun m => (m, 0))
theorem pMs_app (a b : List sMg) : pMs (a ++ b) = pMs a ++ pMs b := List.map_append
theorem pMs_len (a : List sMg) : (pMs a).length = a.length := List.length_map _
theorem pMs_nil (lg : List sPo) : lg ++ pMs [] = lg := List.append_nil _
theorem nI_ep : ∀ e, iD (e + 1) = nI e := fun e => by unfold iD; rw [if_neg (by omega)]; rfl
section SE
variable {X : xPar} {m0 : Nat} {t : Int32} {n e i : Nat} {s : sS} {M0 : Nat → Nat → Int32} {lg : List sPo} {ν : sN} {w0 w : xW} {P : Option Value → xW → Prop}
theorem s_set_rules (hn : n < 4) (he : e < 4) (hi : i < 4) {b : sB × sA × Nat} (hs : rStep n e i t b.1 b.2.1 b.2.2 = none) (h3 : M0 3 n = nI e) : ∀ (k g : Nat) (a : sB × sA × Nat) (ms : List sMg) (lg : List sPo) (w : xW) (cc : Int32), cc = nI g → g + k < 300 → rTo n e i t k a ms b → rInv a → lg.length + ms.length < 1700 → mI X m0 t n e i s M0 lg a.1 a.2.1 a.2.2 w0 w → (∀ w', mI X m0 t n e i s M0 (lg ++ pMs ms) b.1 b.2.1 b.2.2 w0 w' → xE (xGG X) 6 m_Mo_settle 78 [(0, .ref m0), (1, .int (nI n))] [] w' P) → xE (xGG X) 6 m_Mo_settle 56 [(0, .ref m0), (1, .int (nI n)), (2, .int (nI i)), (3, .int cc)] [] w P := by
  intro k
  induction k with
  | zero =>
    intro g a ms lg w cc hcc hg hr hI hl hm h
    obtain ⟨ha, hms⟩ := hr
    subst ha hms hcc
    have g1 : ∃ s', w.2.2 m0 = some (.inr (9, fMo m0 t s')) := by
      obtain ⟨gv, M, hR, -⟩ := hm
      exact ⟨_, hR.1⟩
    obtain ⟨s', g1⟩ := g1
    refine x_iload_n 57 rfl d_Mo_settle_56 rfl ?_
    refine x_sipush 60 rfl d_Mo_settle_57 300 (by decide) ?_
    refine x_icmp_ge 78 63 rfl d_Mo_settle_60 (by decide) (fun hc => absurd hc (nI_ge (a := g) (b := 300) (by omega) (by decide))) (fun hc => ?_)
    refine x_aload_n 64 rfl d_Mo_settle_63 rfl ?_
    refine x_iload_n 65 rfl d_Mo_settle_64 rfl ?_
    refine x_iload_n 66 rfl d_Mo_settle_65 rfl ?_
    refine y_callV 69 rfl [_, _] _ rfl d_Mo_settle_66 g1 rfl c_Mo_196 rfl (Nat.le_of_ble_eq_true rfl) (Nat.le_of_ble_eq_true rfl) (Nat.le_of_ble_eq_true rfl) (s_Mo_rule rfl rfl hn he hi hI.1 hI.2.1 hI.2.2.1 hI.2.2.2 h3 (by omega) hm (fun y ms' w' k1 k2 => ?_) (fun w' k1 k2 => ?_))
    · rw [hs] at k1; cases k1
    · refine x_if_eq 78 72 rfl d_Mo_settle_69 (by decide) (fun hc => ?_) (fun hc => absurd rfl hc)
      exact xE.fit (h w' (by rw [pMs_nil]; exact k2)) rfl
  | succ k ih =>
    intro g a ms lg w cc hcc hg hr hI hl hm h
    obtain ⟨y, m1, m2, h4, h5, h6⟩ := hr
    subst hcc h6
    rw [List.length_append] at hl
    have g1 : ∃ s', w.2.2 m0 = some (.inr (9, fMo m0 t s')) := by
      obtain ⟨gv, M, hR, -⟩ := hm
      exact ⟨_, hR.1⟩
    obtain ⟨s', g1⟩ := g1
    refine x_iload_n 57 rfl d_Mo_settle_56 rfl ?_
    refine x_sipush 60 rfl d_Mo_settle_57 300 (by decide) ?_
    refine x_icmp_ge 78 63 rfl d_Mo_settle_60 (by decide) (fun hc => absurd hc (nI_ge (a := g) (b := 300) (by omega) (by decide))) (fun hc => ?_)
    refine x_aload_n 64 rfl d_Mo_settle_63 rfl ?_
    refine x_iload_n 65 rfl d_Mo_settle_64 rfl ?_
    refine x_iload_n 66 rfl d_Mo_settle_65 rfl ?_
    refine y_callV 69 rfl [_, _] _ rfl d_Mo_settle_66 g1 rfl c_Mo_196 rfl (Nat.le_of_ble_eq_true rfl) (Nat.le_of_ble_eq_true rfl) (Nat.le_of_ble_eq_true rfl) (s_Mo_rule rfl rfl hn he hi hI.1 hI.2.1 hI.2.2.1 hI.2.2.2 h3 (by omega) hm (fun y' ms' w' k1 k2 => ?_) (fun w' k1 k2 => ?_))
    · rw [h4] at k1
      injection k1 with k1
      injection k1 with k1 k1'
      subst k1 k1'
      refine x_if_eq 78 72 rfl d_Mo_settle_69 (by decide) (fun hc => absurd hc (by decide)) (fun hc => ?_)
      refine x_iinc 75 rfl d_Mo_settle_72 rfl 1 (by decide) (by decide) ?_
      refine x_goto d_Mo_settle_75 56 (by decide) ?_
      rw [nI_1]
      refine xE.fit (ih (g + 1) y m2 (lg ++ pMs m1) w' _ rfl (by omega) h5 (rStep_inv hI h4) (by rw [List.length_append, pMs_len]; omega) k2 (fun w2 k3 => h w2 ?_)) rfl
      rw [pMs_app, ← List.append_assoc]
      exact k3
    · rw [h4] at k1; cases k1
/-- one instance goes on -/
theorem s_set_one (hn : n < 4) (he : e < 4) (hi : i < 4) (hep : ν.1 = e + 1) (hl : lg.length + nPot ν < 1700) (hm : mN X m0 t n s M0 lg ν w0 w) (h : ∀ w', mN X m0 t n s M0 (lg ++ pMs (nOne n t e i ν).2) (nOne n t e i ν).1 w0 w' → xE (xGG X) 6 m_Mo_settle 78 [(0, .ref m0), (1, .int (nI n))] [] w' P) : xE (xGG X) 6 m_Mo_settle 56 [(0, .ref m0), (1, .int (nI n)), (2, .int (nI i)), (3, .int 0)] [] w P := by
  obtain ⟨gv, g, M, hR, hg, hN, hF, hw, hI⟩ := hm
  have k := hI.1 (4 * e + i) (by omega)
  have hpot := nOne_pot (t := t) hn he hi (fun k hk => (hI.1 k hk).1)
  obtain ⟨k', gf', hk, hgf, r, s5, g5⟩ := run_all (t := t) (gf := g i) hn he hi k.1 k.2.1 (hN.2.2.2.2 i) k.2.2.1
  have hq : (ν.2.2.2.2.1 (4 * e + i)).2 2 = -1 ∨ 0 ≤ (ν.2.2.2.2.1 (4 * e + i)).2 2 := by
    rcases k.2.2.2 with z | z
    · exact Or.inl z
    · right
      have := nI_nn z
      rw [nI_cUn] at this
      exact this
  have hp0 := hN.2.2.1 (4 * e + i) (by omega)
  rw [← Nat.add_assoc] at hp0
  refine s_set_rules (M0 := M) (w0 := w) (s := s) hn he hi s5 (hN.1.trans (by rw [hep, nI_ep])) k' 0 _ _ lg w 0 rfl (by omega) r ⟨hN.2.2.2.2 i, k.1, k.2.2.1, hq⟩ ?_ ⟨gv, M, hR, hg, hp0, hN.2.2.2.1 e hep he i hi, iFr.rf _ _ _, fr.rf _ _ _⟩ (fun w' k1 => ?_)
  · have : (nOne n t e i ν).2 = iM n e i t (ν.2.2.2.2.1 (4 * e + i)) (ν.2.2.2.2.2 (4 * e + i)) := rfl
    rw [this] at hpot
    omega
  · obtain ⟨gv', M', R', G', p', d', f', fw'⟩ := k1
    exact h w' ⟨gv', va_up g i gf', M', R', G', hN.inst he hi hep p' d' hgf f', hF.tr (iFr.N (k := 4 * e + i) (by omega) hi (by rw [← Nat.add_assoc]; exact f')), hw.tr fw', nOne_inv hn he hi hep hI g5⟩
end SE
