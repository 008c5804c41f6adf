/-! THE REFERENCE: REACH -/
theorem one_shl : ∀ n, n < 4 → ((1 : Int32) <<< ((9 + nI n) &&& 31)) = nI (512 * 2 ^ n) := by decide +kernel
theorem hN_set {n : Nat} {p : sPo} (h : pOk p) (hn : n < 4) (hw : pW n p = true) : nI (hN p) ||| ((1 : Int32) <<< ((9 + nI n) &&& 31)) = nI (hN (p.1, p.2 + 2 ^ n)) := by
  have hw := of_decide_eq_true hw
  obtain ⟨⟨h1, h2, h3, h4, -⟩, h5⟩ := h
  rw [one_shl n hn, nIo]
  congr 1
  unfold hN
  dsimp only
  rw [or_hi (by omega), (or_bit _ h5 n hn hw).1]
theorem pOk_set {n : Nat} {p : sPo} (h : pOk p) (hn : n < 4) (hw : pW n p = true) : pOk (p.1, p.2 + 2 ^ n) := ⟨h.1, (or_bit _ h.2 n hn (of_decide_eq_true hw)).2.1⟩
theorem gRel.set {lg : List sPo} {M : Nat → Nat → Int32} {j n : Nat} {p : sPo} (hg : gRel lg M) (hj : lg[j]? = some p) (hn : n < 4) (hw : pW n p = true) : gRel (lg.set j (p.1, p.2 + 2 ^ n)) (va_up M 0 (upd (M 0) j (nI (hN (p.1, p.2 + 2 ^ n))))) := by
  have hlt : j < lg.length := (List.getElem?_eq_some_iff.mp hj).1
  refine ⟨by rw [List.length_set]; exact hg.1, fun k pk hk => ?_⟩
  rw [va_up_self, va_up_ne _ _ (by decide), va_up_ne _ _ (by decide)]
  by_cases z : k = j
  · subst z
    rw [List.getElem?_set_self hlt] at hk
    injection hk with hk
    subst hk
    obtain ⟨a1, a2, a3, a4⟩ := hg.2 k p hj
    rw [upd_at]
    exact ⟨pOk_set a1 hn hw, rfl, a3, a4⟩
  · rw [List.getElem?_set_ne (Ne.symm z)] at hk
    rw [upd_ne _ _ z]
    exact hg.2 k pk hk
theorem nRel.cg {M M' : Nat → Nat → Int32} {n : Nat} {ν : sN} {g : Nat → Nat} (h : nRel M n ν g) (e : ∀ j, 3 ≤ j → M' j = M j) : nRel M' n ν g := ⟨by rw [e 3 (by decide)]; exact h.1, h.2.1.c (fun j a _ => e j (by omega)), fun k hk => (h.2.2.1 k hk).cg e, fun e' z1 z2 i hi => (h.2.2.2.1 e' z1 z2 i hi).cg e, h.2.2.2.2⟩
theorem pV_f {n : Nat} {p : sPo} : (pV n p).1 = p.1.1 ∧ (pV n p).2.1 = p.1.2.1 ∧ (pV n p).2.2.1 = p.1.2.2.1 ∧ (pV n p).2.2.2.1 = p.1.2.2.2.1 := by
  unfold pV vw
  split
  · exact ⟨rfl, rfl, rfl, rfl⟩
  · split
    · rename_i z; exact ⟨rfl, rfl, rfl, z.symm⟩
    · exact ⟨rfl, rfl, rfl, rfl⟩
theorem cV2_set : ∀ a b : Bool, ∀ bit, bit < 2 → nI (cV2 a b) ||| ((1 : Int32) <<< (nI bit &&& 31)) = nI (cV2 (a || decide (bit = 0)) (b || decide (bit = 1))) := by decide +kernel
theorem i24 (a r s : Nat) : (24 : Int32) * nI a + 4 * nI r + nI s = nI (24 * a + 4 * r + s) := by rw [show (24 : Int32) = nI 24 from rfl, show (4 : Int32) = nI 4 from rfl, pk_mul, pk_mul, nI_add, nI_add]
theorem i16 (a r s : Nat) : (16 : Int32) * nI a + 4 * nI r + nI s = nI (16 * a + 4 * r + s) := by rw [show (16 : Int32) = nI 16 from rfl, show (4 : Int32) = nI 4 from rfl, pk_mul, pk_mul, nI_add, nI_add]
theorem nI_0' {v : Nat} (h : v < 2 ^ 31) : nI v = 0 ↔ v = 0 := nI_eq (a := v) (b := 0) (by omega) (by decide)
section RE
variable {X : xPar} {m0 : Nat} {t : Int32} {n e i j a r bit sd kd : Nat} {s : sS} {M0 M : Nat → Nat → Int32} {lg : List sPo} {p : sPo} {ν : sN} {β : sB} {α : sA} {w0 w : xW} {P : Option Value → xW → Prop}
/-- votes and SUREs -/
theorem s_reach_votes (hn : n < 4) (ha : a < 64) (hr : r < 6) (hb : bit < 2) (hs : sd < 4) (hkd : kd = 3 ∨ kd = 4) (hj : j < 1700) (m1 : M 1 j = nI r) (m2 : M 2 j = nI bit) (ok : aOk α) (hR : rMo X m0 t s M w) (hp : pRel M a β α) (h : ∀ w' M' lc, xlk lc 0 = some (.ref m0) → xlk lc 1 = some (.int (nI n)) → xlk lc 4 = some (.int (nI e)) → xlk lc 5 = some (.int (nI i)) → rMo X m0 t s M' w' → pRel M' a β (aKeep α sd kd r bit) → pFr M M' a → fr w w' m0 (m0 + 31) → xE (xGG X) 7 m_Mo_reach 276 lc [] w' P) : ∀ lc, xlk lc 0 = some (.ref m0) → xlk lc 1 = some (.int (nI n)) → xlk lc 2 = some (.int (nI j)) → xlk lc 3 = some (.int (nI sd)) → xlk lc 4 = some (.int (nI e)) → xlk lc 5 = some (.int (nI i)) → xlk lc 6 = some (.int (nI kd)) → xlk lc 8 = some (.int (nI a)) → xE (xGG X) 7 m_Mo_reach 178 lc [] w P := by
  intro lc l0 l1 l2 l3 l4 l5 l6 l8
  refine xE.fit (lc' := [(0, .ref m0), (1, .int (nI n)), (2, .int (nI j)), (3, .int (nI sd)), (4, .int (nI e)), (5, .int (nI i)), (6, .int (nI kd)), (8, .int (nI a))]) ?_ (by simp only [List.map_cons, List.map_nil, l0, l1, l2, l3, l4, l5, l6, l8])
  have g1 := hR.1
  have b1 := hR.a1
  have b2 := hR.a2
  have b16 := hR.a16
  have D := d24 (a := a) hr hs
  have c16 := hp.c16 hr hs
  have hv := ok.2.2.2.2.2.1 r sd hr hs
  -- the SUREs
  have two : ∀ (α1 : sA) (M1 : Nat → Nat → Int32) (w1 : xW) (lc : List (Nat × Value)), (α1 = if kd = 3 then (va_up α.1 (32 + 8 * r + 2 * sd + bit) true, α.2) else α) → rMo X m0 t s M1 w1 → pRel M1 a β α1 → pFr M M1 a → fr w w1 m0 (m0 + 31) → M1 2 j = nI bit → xlk lc 0 = some (.ref m0) → xlk lc 1 = some (.int (nI n)) → xlk lc 2 = some (.int (nI j)) → xlk lc 4 = some (.int (nI e)) → xlk lc 5 = some (.int (nI i)) → xlk lc 6 = some (.int (nI kd)) → xlk lc 9 = some (.int (nI (24 * a + 4 * r + sd))) → xE (xGG X) 7 m_Mo_reach 235 lc [] w1 P := by
    intro α1 M1 w1 lc hα R1 p1 F1 f1 m2' l0 l1 l2 l4 l5 l6 l9
    refine xE.fit (lc' := [(0, .ref m0), (1, .int (nI n)), (2, .int (nI j)), (4, .int (nI e)), (5, .int (nI i)), (6, .int (nI kd)), (9, .int (nI (24 * a + 4 * r + sd)))]) ?_ (by simp only [List.map_cons, List.map_nil, l0, l1, l2, l4, l5, l6, l9])
    have k1 := R1.1
    have k2 := R1.a2
    have k17 := R1.a17
    have c17 := p1.c17 hr hs
    have e2 : α1.2 = α.2 := by rw [hα]; split <;> rfl
    rw [e2] at c17
    have C275 : ∀ (v : Nat) (lc : List (Nat × Value)), aKeep α sd kd r bit = (α1.1, va_up α1.2 (32 + 4 * r + sd) v) → xlk lc 0 = some (.ref m0) → xlk lc 1 = some (.int (nI n)) → xlk lc 4 = some (.int (nI e)) → xlk lc 5 = some (.int (nI i)) → xE (xGG X) 7 m_Mo_reach 275 lc [.int (nI v), .int (nI (24 * a + 4 * r + sd)), .ref (m0 + 1 + 17)] w1 P := by
      intro v lc hv l0 l1 l4 l5
      refine xE.fit (lc' := [(0, .ref m0), (1, .int (nI n)), (4, .int (nI e)), (5, .int (nI i))]) ?_ (by simp only [List.map_cons, List.map_nil, l0, l1, l4, l5])
      refine x_iast 276 rfl d_Mo_reach_275 k17 (t0 := 0) rfl (vp_in_nI (by omega) (by decide)) ?_
      rw [nI_clamp (by omega)]
      refine h _ _ _ rfl rfl rfl rfl (R1.put (j := 17) (i := 24 * a + 4 * r + sd) (x := nI v) (by decide)) ?_ (F1.up (by decide) (by decide) D.1) (f1.set _ (by omega) (by omega))
      rw [hv]
      refine p1.up ?_ (fun j idx h1 h2 h3 h4 => pv_a2 h1 h2 (fun z => ?_) (fun _ => by omega))
      · show nI (va_up α1.2 (32 + 4 * r + sd) v (32 + 4 * ((24 * a + 4 * r + sd) % 24 / 4) + (24 * a + 4 * r + sd) % 4)) = nI v
        rw [D.2.1, D.2.2, va_up_self]
      · subst z
        have h3' : idx / 24 = a := h3
        have := h4 rfl
        omega
    have same : ∀ (f : Nat → Nat) (c : Nat), va_up f c (f c) = f := by
      intro f c
      funext x
      by_cases z : x = c
      · rw [z, va_up_self]
      · rw [va_up_ne _ _ z]
    have no : ¬ (kd = 4 ∧ α.2 (32 + 4 * r + sd) = 0) → aKeep α sd kd r bit = (α1.1, va_up α1.2 (32 + 4 * r + sd) (α.2 (32 + 4 * r + sd))) := by
      intro z
      rw [e2, same]
      unfold aKeep
      rcases hkd with y | y
      · rw [if_pos y, hα, if_pos y]
      · rw [if_neg (by omega), if_neg (fun q => z ⟨y, q⟩), hα, if_neg (by omega)]
    refine x_aload_n 236 rfl d_Mo_reach_235 rfl ?_
    refine x_get 239 rfl f_Mo_62 d_Mo_reach_236 k1 rfl ?_
    refine x_iload 241 rfl d_Mo_reach_239 rfl ?_
    refine x_iload 243 rfl d_Mo_reach_241 rfl ?_
    refine x_iconst 244 rfl d_Mo_reach_243 4 (by decide) ?_
    refine x_icmp_ne 268 247 rfl d_Mo_reach_244 (by decide) (fun hc => ?_) (fun hc => ?_)
    · refine x_aload_n 269 rfl d_Mo_reach_268 rfl ?_
      refine x_get 272 rfl f_Mo_62 d_Mo_reach_269 k1 rfl ?_
      refine x_iload 274 rfl d_Mo_reach_272 rfl ?_
      refine x_iald 275 rfl d_Mo_reach_274 k17 (t0 := 0) rfl (vp_in_nI (by omega) (by decide)) ?_
      rw [nI_clamp (by omega), c17]
      exact C275 _ _ (no (fun z => hc (by rw [z.1]; rfl))) rfl rfl rfl rfl
    have y4 : kd = 4 := (nI_eq (a := kd) (b := 4) (by omega) (by decide)).mp hc
    refine x_aload_n 248 rfl d_Mo_reach_247 rfl ?_
    refine x_get 251 rfl f_Mo_62 d_Mo_reach_248 k1 rfl ?_
    refine x_iload 253 rfl d_Mo_reach_251 rfl ?_
    refine x_iald 254 rfl d_Mo_reach_253 k17 (t0 := 0) rfl (vp_in_nI (by omega) (by decide)) ?_
    rw [nI_clamp (by omega), c17]
    refine x_if_ne 268 257 rfl d_Mo_reach_254 (by decide) (fun hc => ?_) (fun hc => ?_)
    · refine x_aload_n 269 rfl d_Mo_reach_268 rfl ?_
      refine x_get 272 rfl f_Mo_62 d_Mo_reach_269 k1 rfl ?_
      refine x_iload 274 rfl d_Mo_reach_272 rfl ?_
      refine x_iald 275 rfl d_Mo_reach_274 k17 (t0 := 0) rfl (vp_in_nI (by omega) (by decide)) ?_
      rw [nI_clamp (by omega), c17]
      exact C275 _ _ (no (fun z => hc (by rw [z.2]; rfl))) rfl rfl rfl rfl
    have y0 : α.2 (32 + 4 * r + sd) = 0 := (nI_0' (by omega)).mp hc
    refine x_iconst 258 rfl d_Mo_reach_257 1 (by decide) ?_
    refine x_aload_n 259 rfl d_Mo_reach_258 rfl ?_
    refine x_get 262 rfl f_Mo_16 d_Mo_reach_259 k1 rfl ?_
    refine x_iload_n 263 rfl d_Mo_reach_262 rfl ?_
    refine x_iald 264 rfl d_Mo_reach_263 k2 (t0 := 0) rfl (vp_in_nI (by omega) (by decide)) ?_
    rw [nI_clamp (by omega), m2']
    refine x_iadd 265 rfl d_Mo_reach_264 ?_
    refine x_goto d_Mo_reach_265 275 (by decide) ?_
    rw [show (1 : Int32) + nI bit = nI (bit + 1) from by rw [show (1 : Int32) = nI 1 from rfl, nI_add, Nat.add_comm]]
    refine C275 (bit + 1) _ ?_ rfl rfl rfl rfl
    unfold aKeep
    rw [if_neg (by omega), if_pos y0, e2, hα, if_neg (by omega)]
  -- the votes
  have C234 : ∀ (x : Int32) (α1 : sA) (lc : List (Nat × Value)), (α1 = if kd = 3 then (va_up α.1 (32 + 8 * r + 2 * sd + bit) true, α.2) else α) → pVal β α1 16 (24 * a + 4 * r + sd) = x → xlk lc 0 = some (.ref m0) → xlk lc 1 = some (.int (nI n)) → xlk lc 2 = some (.int (nI j)) → xlk lc 4 = some (.int (nI e)) → xlk lc 5 = some (.int (nI i)) → xlk lc 6 = some (.int (nI kd)) → xlk lc 9 = some (.int (nI (24 * a + 4 * r + sd))) → xE (xGG X) 7 m_Mo_reach 234 lc [.int x, .int (nI (24 * a + 4 * r + sd)), .ref (m0 + 1 + 16)] w P := by
    intro x α1 lc hα hx l0 l1 l2 l4 l5 l6 l9
    refine xE.fit (lc' := [(0, .ref m0), (1, .int (nI n)), (2, .int (nI j)), (4, .int (nI e)), (5, .int (nI i)), (6, .int (nI kd)), (9, .int (nI (24 * a + 4 * r + sd)))]) ?_ (by simp only [List.map_cons, List.map_nil, l0, l1, l2, l4, l5, l6, l9])
    refine x_iast 235 rfl d_Mo_reach_234 b16 (t0 := 0) rfl (vp_in_nI (by omega) (by decide)) ?_
    rw [nI_clamp (by omega)]
    refine two α1 _ _ _ hα (hR.put (j := 16) (i := 24 * a + 4 * r + sd) (x := x) (by decide)) (hp.up hx (fun j idx h1 h2 h3 h4 => ?_)) ((pFr.rf M a).up (by decide) (by decide) D.1) ((fr.rf w _ _).set _ (by omega) (by omega)) (by rw [va_up_ne _ _ (by decide)]; exact m2) rfl rfl rfl rfl rfl rfl rfl
    rw [hα]
    split
    · refine pv_a1 h1 h2 (fun z => ?_) (fun z => ?_)
      · subst z
        have h3' : idx / 24 = a := h3
        have := h4 rfl
        omega
      · omega
    · rfl
  refine x_bipush 180 rfl d_Mo_reach_178 24 (by decide) ?_
  refine x_iload 182 rfl d_Mo_reach_180 rfl ?_
  refine x_imul 183 rfl d_Mo_reach_182 ?_
  refine x_iconst 184 rfl d_Mo_reach_183 4 (by decide) ?_
  refine x_aload_n 185 rfl d_Mo_reach_184 rfl ?_
  refine x_get 188 rfl f_Mo_13 d_Mo_reach_185 g1 rfl ?_
  refine x_iload_n 189 rfl d_Mo_reach_188 rfl ?_
  refine x_iald 190 rfl d_Mo_reach_189 b1 (t0 := 0) rfl (vp_in_nI (by omega) (by decide)) ?_
  rw [nI_clamp (by omega), m1]
  refine x_imul 191 rfl d_Mo_reach_190 ?_
  refine x_iadd 192 rfl d_Mo_reach_191 ?_
  refine x_iload_n 193 rfl d_Mo_reach_192 rfl ?_
  refine x_iadd 194 rfl d_Mo_reach_193 ?_
  rw [i24]
  refine x_istore 196 rfl d_Mo_reach_194 (by decide) ?_
  refine x_aload_n 197 rfl d_Mo_reach_196 rfl ?_
  refine x_get 200 rfl f_Mo_59 d_Mo_reach_197 g1 rfl ?_
  refine x_iload 202 rfl d_Mo_reach_200 rfl ?_
  refine x_iload 204 rfl d_Mo_reach_202 rfl ?_
  refine x_iconst 205 rfl d_Mo_reach_204 3 (by decide) ?_
  refine x_icmp_ne 227 208 rfl d_Mo_reach_205 (by decide) (fun hc => ?_) (fun hc => ?_)
  · refine x_aload_n 228 rfl d_Mo_reach_227 rfl ?_
    refine x_get 231 rfl f_Mo_59 d_Mo_reach_228 g1 rfl ?_
    refine x_iload 233 rfl d_Mo_reach_231 rfl ?_
    refine x_iald 234 rfl d_Mo_reach_233 b16 (t0 := 0) rfl (vp_in_nI (by omega) (by decide)) ?_
    rw [nI_clamp (by omega)]
    have y3 : ¬ kd = 3 := fun z => hc (by rw [z]; rfl)
    refine C234 _ α _ (by rw [if_neg y3]) ?_ rfl rfl rfl rfl rfl rfl rfl
    exact (hp 16 _ (by decide) (by decide) D.1).symm
  have y3 : kd = 3 := (nI_eq (a := kd) (b := 3) (by omega) (by decide)).mp hc
  refine x_aload_n 209 rfl d_Mo_reach_208 rfl ?_
  refine x_get 212 rfl f_Mo_59 d_Mo_reach_209 g1 rfl ?_
  refine x_iload 214 rfl d_Mo_reach_212 rfl ?_
  refine x_iald 215 rfl d_Mo_reach_214 b16 (t0 := 0) rfl (vp_in_nI (by omega) (by decide)) ?_
  rw [nI_clamp (by omega), c16]
  refine x_iconst 216 rfl d_Mo_reach_215 1 (by decide) ?_
  refine x_aload_n 217 rfl d_Mo_reach_216 rfl ?_
  refine x_get 220 rfl f_Mo_16 d_Mo_reach_217 g1 rfl ?_
  refine x_iload_n 221 rfl d_Mo_reach_220 rfl ?_
  refine x_iald 222 rfl d_Mo_reach_221 b2 (t0 := 0) rfl (vp_in_nI (by omega) (by decide)) ?_
  rw [nI_clamp (by omega), m2]
  refine x_ishl 223 rfl d_Mo_reach_222 ?_
  refine x_ior 224 rfl d_Mo_reach_223 ?_
  refine x_goto d_Mo_reach_224 234 (by decide) ?_
  rw [cV2_set _ _ bit hb]
  refine C234 _ (va_up α.1 (32 + 8 * r + 2 * sd + bit) true, α.2) _ (by rw [if_pos y3]) ?_ rfl rfl rfl rfl rfl rfl rfl
  show nI (cV2 (va_up α.1 (32 + 8 * r + 2 * sd + bit) true (32 + 8 * ((24 * a + 4 * r + sd) % 24 / 4) + 2 * ((24 * a + 4 * r + sd) % 4))) (va_up α.1 (32 + 8 * r + 2 * sd + bit) true (32 + 8 * ((24 * a + 4 * r + sd) % 24 / 4) + 2 * ((24 * a + 4 * r + sd) % 4) + 1))) = _
  rw [D.2.1, D.2.2]
  unfold aVs
  rcases lt2 hb with z | z
  · subst z
    rw [Nat.add_zero, va_up_self, va_up_ne _ _ (by omega)]
    simp
  · subst z
    rw [va_up_self, va_up_ne _ _ (by omega)]
    simp
end RE
