/-! THE LAW, CASE BY CASE -/
theorem lw_in {L i c : Nat} (h : i + 7 ≤ L) (hL : L ≤ 3585) (hc : c < 7) : vp_in (nI i + nI c) L := by
  rw [nI_add]
  exact vp_in_nI (by omega) (by omega)
section LW
variable {X : xPar} {sb L : Nat} {xs : Nat → Int32} {tI tE mi b c0 s0 mo i : Nat} {t : Int32} {σ : sL} {w : xW} {P : Option Value → xW → Prop}
def lwI (X : xPar) (tE b c0 s0 : Nat) (t : Int32) (w : xW) : Prop := ∃ σ mo, rLd X tE b (b + 647) c0 s0 mo t σ w ∧ lInv σ mo ∧ mG X (b + 616) t σ w
theorem s_Lw_submit (hX : xS X sb L xs tI tE mi) (hi : i + 7 ≤ L) (hL3 : L ≤ 3585) (hLd : rLd X tE b (b + 647) c0 s0 mo t σ w) (hI : lInv σ mo) (hM : mG X (b + 616) t σ w) (h : ∀ w', lwI X tE b c0 s0 t w' → xE (xGG X) 14 m_Lw_law 549 [(0, .ref sb), (1, .ref b), (2, .ref (b + 616)), (3, .int (nI i))] [] w' P) : xE (xGG X) 14 m_Lw_law 108 [(0, .ref sb), (1, .ref b), (2, .ref (b + 616)), (3, .int (nI i))] [] w P := by
  refine x_aload_n 109 rfl d_Lw_law_108 rfl ?_
  refine x_aload_n 110 rfl d_Lw_law_109 rfl ?_
  refine x_iload_n 111 rfl d_Lw_law_110 rfl ?_
  refine x_iconst 112 rfl d_Lw_law_111 1 (by decide) ?_
  refine x_iadd 113 rfl d_Lw_law_112 ?_
  refine x_iaX 114 rfl d_Lw_law_113 (fun U H z => (hX U H z).1) (lw_in (c := 1) hi hL3 (by decide)) ?_
  refine x_aload_n 115 rfl d_Lw_law_114 rfl ?_
  refine x_iload_n 116 rfl d_Lw_law_115 rfl ?_
  refine x_iconst 117 rfl d_Lw_law_116 2 (by decide) ?_
  refine x_iadd 118 rfl d_Lw_law_117 ?_
  refine x_iaX 119 rfl d_Lw_law_118 (fun U H z => (hX U H z).1) (lw_in (c := 2) hi hL3 (by decide)) ?_
  refine y_callV 122 rfl [_, _] _ rfl d_Lw_law_119 hLd.2.2.1 rfl c_Lw_21 rfl (Nat.le_of_ble_eq_true rfl) (Nat.le_of_ble_eq_true rfl) (Nat.le_of_ble_eq_true rfl) (s_El_submit hLd (fun w1 k2 k3 => ?_))
  have hM1 := hM.S k3 hLd.1 (Nat.le_refl _) (Nat.le_refl _)
  obtain ⟨s1, lg1, M1, hR1, -⟩ := id hM1
  have g2 := hR1.1
  refine x_aload_n 123 rfl d_Lw_law_122 rfl ?_
  refine x_aload_n 124 rfl d_Lw_law_123 rfl ?_
  refine x_iload_n 125 rfl d_Lw_law_124 rfl ?_
  refine x_iconst 126 rfl d_Lw_law_125 1 (by decide) ?_
  refine x_iadd 127 rfl d_Lw_law_126 ?_
  refine x_iaX 128 rfl d_Lw_law_127 (fun U H z => (hX U H z).1) (lw_in (c := 1) hi hL3 (by decide)) ?_
  refine x_aload_n 129 rfl d_Lw_law_128 rfl ?_
  refine x_iload_n 130 rfl d_Lw_law_129 rfl ?_
  refine x_iconst 131 rfl d_Lw_law_130 2 (by decide) ?_
  refine x_iadd 132 rfl d_Lw_law_131 ?_
  refine x_iaX 133 rfl d_Lw_law_132 (fun U H z => (hX U H z).1) (lw_in (c := 2) hi hL3 (by decide)) ?_
  refine y_callV 136 rfl [_, _] _ rfl d_Lw_law_133 g2 rfl c_Lw_25 rfl (Nat.le_of_ble_eq_true rfl) (Nat.le_of_ble_eq_true rfl) (Nat.le_of_ble_eq_true rfl) (s_Mo_submit hM1 (fun w2 a1 a2 => ?_))
  refine x_icmp_eq 549 139 rfl d_Lw_law_136 (by decide) (fun hc => ?_) (fun hc => absurd rfl hc)
  exact xE.fit (h w2 ⟨_, mo, k2.kept hM1 (Nat.le_refl _) (Nat.le_refl _) a2, a1.inv (by rw [lSub_pot]; exact hI.2.1), a1⟩) rfl
theorem s_Lw_begin (hX : xS X sb L xs tI tE mi) (hi : i + 7 ≤ L) (hL3 : L ≤ 3585) (hLd : rLd X tE b (b + 647) c0 s0 mo t σ w) (hI : lInv σ mo) (hM : mG X (b + 616) t σ w) (h : ∀ w', lwI X tE b c0 s0 t w' → xE (xGG X) 14 m_Lw_law 549 [(0, .ref sb), (1, .ref b), (2, .ref (b + 616)), (3, .int (nI i))] [] w' P) : xE (xGG X) 14 m_Lw_law 141 [(0, .ref sb), (1, .ref b), (2, .ref (b + 616)), (3, .int (nI i))] [] w P := by
  refine x_aload_n 142 rfl d_Lw_law_141 rfl ?_
  refine x_aload_n 143 rfl d_Lw_law_142 rfl ?_
  refine x_iload_n 144 rfl d_Lw_law_143 rfl ?_
  refine x_iconst 145 rfl d_Lw_law_144 1 (by decide) ?_
  refine x_iadd 146 rfl d_Lw_law_145 ?_
  refine x_iaX 147 rfl d_Lw_law_146 (fun U H z => (hX U H z).1) (lw_in (c := 1) hi hL3 (by decide)) ?_
  refine y_callV 150 rfl [_] _ rfl d_Lw_law_147 hLd.2.2.1 rfl c_Lw_26 rfl (Nat.le_of_ble_eq_true rfl) (Nat.le_of_ble_eq_true rfl) (Nat.le_of_ble_eq_true rfl) (s_El_begin hX hLd hI (fun w1 mo1 k1 k2 k3 => ?_))
  have hM1 := hM.S k3 hLd.1 (Nat.le_refl _) (Nat.le_refl _)
  obtain ⟨s1, lg1, M1, hR1, -⟩ := id hM1
  have g2 := hR1.1
  refine x_aload_n 151 rfl d_Lw_law_150 rfl ?_
  refine x_aload_n 152 rfl d_Lw_law_151 rfl ?_
  refine x_iload_n 153 rfl d_Lw_law_152 rfl ?_
  refine x_iconst 154 rfl d_Lw_law_153 1 (by decide) ?_
  refine x_iadd 155 rfl d_Lw_law_154 ?_
  refine x_iaX 156 rfl d_Lw_law_155 (fun U H z => (hX U H z).1) (lw_in (c := 1) hi hL3 (by decide)) ?_
  refine y_callV 159 rfl [_] _ rfl d_Lw_law_156 g2 rfl c_Lw_30 rfl (Nat.le_of_ble_eq_true rfl) (Nat.le_of_ble_eq_true rfl) (Nat.le_of_ble_eq_true rfl) (s_Mo_begin hM1 (fun w2 a1 a2 => ?_))
  refine x_icmp_eq 549 162 rfl d_Lw_law_159 (by decide) (fun hc => ?_) (fun hc => absurd rfl hc)
  exact xE.fit (h w2 ⟨_, mo1, k2.kept hM1 (Nat.le_refl _) (Nat.le_refl _) a2, a1.inv (by have := hI.2.1; omega), a1⟩) rfl
theorem s_Lw_run (hX : xS X sb L xs tI tE mi) (hi : i + 7 ≤ L) (hL3 : L ≤ 3585) (hLd : rLd X tE b (b + 647) c0 s0 mo t σ w) (hI : lInv σ mo) (hM : mG X (b + 616) t σ w) (h : ∀ w', lwI X tE b c0 s0 t w' → xE (xGG X) 14 m_Lw_law 549 [(0, .ref sb), (1, .ref b), (2, .ref (b + 616)), (3, .int (nI i))] [] w' P) : xE (xGG X) 14 m_Lw_law 164 [(0, .ref sb), (1, .ref b), (2, .ref (b + 616)), (3, .int (nI i))] [] w P := by
  refine x_aload_n 165 rfl d_Lw_law_164 rfl ?_
  refine x_aload_n 166 rfl d_Lw_law_165 rfl ?_
  refine x_iload_n 167 rfl d_Lw_law_166 rfl ?_
  refine x_iconst 168 rfl d_Lw_law_167 1 (by decide) ?_
  refine x_iadd 169 rfl d_Lw_law_168 ?_
  refine x_iaX 170 rfl d_Lw_law_169 (fun U H z => (hX U H z).1) (lw_in (c := 1) hi hL3 (by decide)) ?_
  refine x_aload_n 171 rfl d_Lw_law_170 rfl ?_
  refine x_iload_n 172 rfl d_Lw_law_171 rfl ?_
  refine x_iconst 173 rfl d_Lw_law_172 2 (by decide) ?_
  refine x_iadd 174 rfl d_Lw_law_173 ?_
  refine x_iaX 175 rfl d_Lw_law_174 (fun U H z => (hX U H z).1) (lw_in (c := 2) hi hL3 (by decide)) ?_
  refine y_callV 178 rfl [_, _] _ rfl d_Lw_law_175 hLd.2.2.1 rfl c_Lw_31 rfl (Nat.le_of_ble_eq_true rfl) (Nat.le_of_ble_eq_true rfl) (Nat.le_of_ble_eq_true rfl) (s_El_run hX hLd hI (fun w1 mo1 k1 k2 k3 => ?_))
  have hM1 := hM.S k3 hLd.1 (Nat.le_refl _) (Nat.le_refl _)
  obtain ⟨s1, lg1, M1, hR1, -⟩ := id hM1
  have g2 := hR1.1
  refine x_aload_n 179 rfl d_Lw_law_178 rfl ?_
  refine x_aload_n 180 rfl d_Lw_law_179 rfl ?_
  refine x_iload_n 181 rfl d_Lw_law_180 rfl ?_
  refine x_iconst 182 rfl d_Lw_law_181 1 (by decide) ?_
  refine x_iadd 183 rfl d_Lw_law_182 ?_
  refine x_iaX 184 rfl d_Lw_law_183 (fun U H z => (hX U H z).1) (lw_in (c := 1) hi hL3 (by decide)) ?_
  refine x_aload_n 185 rfl d_Lw_law_184 rfl ?_
  refine x_iload_n 186 rfl d_Lw_law_185 rfl ?_
  refine x_iconst 187 rfl d_Lw_law_186 2 (by decide) ?_
  refine x_iadd 188 rfl d_Lw_law_187 ?_
  refine x_iaX 189 rfl d_Lw_law_188 (fun U H z => (hX U H z).1) (lw_in (c := 2) hi hL3 (by decide)) ?_
  refine y_callV 192 rfl [_, _] _ rfl d_Lw_law_189 g2 rfl c_Lw_35 rfl (Nat.le_of_ble_eq_true rfl) (Nat.le_of_ble_eq_true rfl) (Nat.le_of_ble_eq_true rfl) (s_Mo_run hM1 (fun w2 a1 a2 => ?_))
  refine x_icmp_eq 549 195 rfl d_Lw_law_192 (by decide) (fun hc => ?_) (fun hc => absurd rfl hc)
  exact xE.fit (h w2 ⟨_, mo1, k2.kept hM1 (Nat.le_refl _) (Nat.le_refl _) a2, a1.inv (by have := hI.2.1; omega), a1⟩) rfl
theorem s_Lw_deliver (hX : xS X sb L xs tI tE mi) (hi : i + 7 ≤ L) (hL3 : L ≤ 3585) (hLd : rLd X tE b (b + 647) c0 s0 mo t σ w) (hI : lInv σ mo) (hM : mG X (b + 616) t σ w) (h : ∀ w', lwI X tE b c0 s0 t w' → xE (xGG X) 14 m_Lw_law 549 [(0, .ref sb), (1, .ref b), (2, .ref (b + 616)), (3, .int (nI i))] [] w' P) : xE (xGG X) 14 m_Lw_law 197 [(0, .ref sb), (1, .ref b), (2, .ref (b + 616)), (3, .int (nI i))] [] w P := by
  refine x_aload_n 198 rfl d_Lw_law_197 rfl ?_
  refine x_aload_n 199 rfl d_Lw_law_198 rfl ?_
  refine x_iload_n 200 rfl d_Lw_law_199 rfl ?_
  refine x_iconst 201 rfl d_Lw_law_200 1 (by decide) ?_
  refine x_iadd 202 rfl d_Lw_law_201 ?_
  refine x_iaX 203 rfl d_Lw_law_202 (fun U H z => (hX U H z).1) (lw_in (c := 1) hi hL3 (by decide)) ?_
  refine x_aload_n 204 rfl d_Lw_law_203 rfl ?_
  refine x_iload_n 205 rfl d_Lw_law_204 rfl ?_
  refine x_iconst 206 rfl d_Lw_law_205 2 (by decide) ?_
  refine x_iadd 207 rfl d_Lw_law_206 ?_
  refine x_iaX 208 rfl d_Lw_law_207 (fun U H z => (hX U H z).1) (lw_in (c := 2) hi hL3 (by decide)) ?_
  refine y_callV 211 rfl [_, _] _ rfl d_Lw_law_208 hLd.2.2.1 rfl c_Lw_36 rfl (Nat.le_of_ble_eq_true rfl) (Nat.le_of_ble_eq_true rfl) (Nat.le_of_ble_eq_true rfl) (s_El_deliver hX hLd hI (fun w1 mo1 k1 k2 k3 => ?_))
  have hM1 := hM.S k3 hLd.1 (Nat.le_refl _) (Nat.le_refl _)
  obtain ⟨s1, lg1, M1, hR1, -⟩ := id hM1
  have g2 := hR1.1
  refine x_aload_n 212 rfl d_Lw_law_211 rfl ?_
  refine x_aload_n 213 rfl d_Lw_law_212 rfl ?_
  refine x_iload_n 214 rfl d_Lw_law_213 rfl ?_
  refine x_iconst 215 rfl d_Lw_law_214 1 (by decide) ?_
  refine x_iadd 216 rfl d_Lw_law_215 ?_
  refine x_iaX 217 rfl d_Lw_law_216 (fun U H z => (hX U H z).1) (lw_in (c := 1) hi hL3 (by decide)) ?_
  refine x_aload_n 218 rfl d_Lw_law_217 rfl ?_
  refine x_iload_n 219 rfl d_Lw_law_218 rfl ?_
  refine x_iconst 220 rfl d_Lw_law_219 2 (by decide) ?_
  refine x_iadd 221 rfl d_Lw_law_220 ?_
  refine x_iaX 222 rfl d_Lw_law_221 (fun U H z => (hX U H z).1) (lw_in (c := 2) hi hL3 (by decide)) ?_
  refine y_callV 225 rfl [_, _] _ rfl d_Lw_law_222 g2 rfl c_Lw_39 rfl (Nat.le_of_ble_eq_true rfl) (Nat.le_of_ble_eq_true rfl) (Nat.le_of_ble_eq_true rfl) (s_Mo_deliver hM1 (fun w2 a1 a2 => ?_))
  refine x_icmp_eq 549 228 rfl d_Lw_law_225 (by decide) (fun hc => ?_) (fun hc => absurd rfl hc)
  exact xE.fit (h w2 ⟨_, mo1, k2.kept hM1 (Nat.le_refl _) (Nat.le_refl _) a2, a1.inv (by have := hI.2.1; omega), a1⟩) rfl
theorem s_Lw_betray (hX : xS X sb L xs tI tE mi) (hi : i + 7 ≤ L) (hL3 : L ≤ 3585) (hLd : rLd X tE b (b + 647) c0 s0 mo t σ w) (hI : lInv σ mo) (hM : mG X (b + 616) t σ w) (h : ∀ w', lwI X tE b c0 s0 t w' → xE (xGG X) 14 m_Lw_law 549 [(0, .ref sb), (1, .ref b), (2, .ref (b + 616)), (3, .int (nI i))] [] w' P) : xE (xGG X) 14 m_Lw_law 230 [(0, .ref sb), (1, .ref b), (2, .ref (b + 616)), (3, .int (nI i))] [] w P := by
  refine x_aload_n 231 rfl d_Lw_law_230 rfl ?_
  refine y_callV 234 rfl [] _ rfl d_Lw_law_231 hLd.2.2.1 rfl c_Lw_40 rfl (Nat.le_of_ble_eq_true rfl) (Nat.le_of_ble_eq_true rfl) (Nat.le_of_ble_eq_true rfl) (s_El_betray hLd (fun w1 k2 k3 => ?_))
  have hM1 := hM.S k3 hLd.1 (Nat.le_refl _) (Nat.le_refl _)
  obtain ⟨s1, lg1, M1, hR1, -⟩ := id hM1
  have g2 := hR1.1
  refine x_aload_n 235 rfl d_Lw_law_234 rfl ?_
  refine y_callV 238 rfl [] _ rfl d_Lw_law_235 g2 rfl c_Lw_44 rfl (Nat.le_of_ble_eq_true rfl) (Nat.le_of_ble_eq_true rfl) (Nat.le_of_ble_eq_true rfl) (s_Mo_betray hM1 (fun w2 a1 a2 => ?_))
  refine x_icmp_eq 549 241 rfl d_Lw_law_238 (by decide) (fun hc => ?_) (fun hc => absurd rfl hc)
  exact xE.fit (h w2 ⟨_, mo, k2.kept hM1 (Nat.le_refl _) (Nat.le_refl _) a2, a1.inv (by rw [lBet_pot]; exact hI.2.1), a1⟩) rfl
theorem s_Lw_speak (hX : xS X sb L xs tI tE mi) (hi : i + 7 ≤ L) (hL3 : L ≤ 3585) (hLd : rLd X tE b (b + 647) c0 s0 mo t σ w) (hI : lInv σ mo) (hM : mG X (b + 616) t σ w) (h : ∀ w', lwI X tE b c0 s0 t w' → xE (xGG X) 14 m_Lw_law 549 [(0, .ref sb), (1, .ref b), (2, .ref (b + 616)), (3, .int (nI i))] [] w' P) : xE (xGG X) 14 m_Lw_law 243 [(0, .ref sb), (1, .ref b), (2, .ref (b + 616)), (3, .int (nI i))] [] w P := by
  refine x_aload_n 244 rfl d_Lw_law_243 rfl ?_
  refine x_aload_n 245 rfl d_Lw_law_244 rfl ?_
  refine x_iload_n 246 rfl d_Lw_law_245 rfl ?_
  refine x_iconst 247 rfl d_Lw_law_246 1 (by decide) ?_
  refine x_iadd 248 rfl d_Lw_law_247 ?_
  refine x_iaX 249 rfl d_Lw_law_248 (fun U H z => (hX U H z).1) (lw_in (c := 1) hi hL3 (by decide)) ?_
  refine x_aload_n 250 rfl d_Lw_law_249 rfl ?_
  refine x_iload_n 251 rfl d_Lw_law_250 rfl ?_
  refine x_iconst 252 rfl d_Lw_law_251 2 (by decide) ?_
  refine x_iadd 253 rfl d_Lw_law_252 ?_
  refine x_iaX 254 rfl d_Lw_law_253 (fun U H z => (hX U H z).1) (lw_in (c := 2) hi hL3 (by decide)) ?_
  refine x_aload_n 255 rfl d_Lw_law_254 rfl ?_
  refine x_iload_n 256 rfl d_Lw_law_255 rfl ?_
  refine x_iconst 257 rfl d_Lw_law_256 3 (by decide) ?_
  refine x_iadd 258 rfl d_Lw_law_257 ?_
  refine x_iaX 259 rfl d_Lw_law_258 (fun U H z => (hX U H z).1) (lw_in (c := 3) hi hL3 (by decide)) ?_
  refine x_aload_n 260 rfl d_Lw_law_259 rfl ?_
  refine x_iload_n 261 rfl d_Lw_law_260 rfl ?_
  refine x_iconst 262 rfl d_Lw_law_261 4 (by decide) ?_
  refine x_iadd 263 rfl d_Lw_law_262 ?_
  refine x_iaX 264 rfl d_Lw_law_263 (fun U H z => (hX U H z).1) (lw_in (c := 4) hi hL3 (by decide)) ?_
  refine x_aload_n 265 rfl d_Lw_law_264 rfl ?_
  refine x_iload_n 266 rfl d_Lw_law_265 rfl ?_
  refine x_iconst 267 rfl d_Lw_law_266 5 (by decide) ?_
  refine x_iadd 268 rfl d_Lw_law_267 ?_
  refine x_iaX 269 rfl d_Lw_law_268 (fun U H z => (hX U H z).1) (lw_in (c := 5) hi hL3 (by decide)) ?_
  refine x_aload_n 270 rfl d_Lw_law_269 rfl ?_
  refine x_iload_n 271 rfl d_Lw_law_270 rfl ?_
  refine x_bipush 273 rfl d_Lw_law_271 6 (by decide) ?_
  refine x_iadd 274 rfl d_Lw_law_273 ?_
  refine x_iaX 275 rfl d_Lw_law_274 (fun U H z => (hX U H z).1) (lw_in (c := 6) hi hL3 (by decide)) ?_
  refine y_callV 278 rfl [_, _, _, _, _, _] _ rfl d_Lw_law_275 hLd.2.2.1 rfl c_Lw_45 rfl (Nat.le_of_ble_eq_true rfl) (Nat.le_of_ble_eq_true rfl) (Nat.le_of_ble_eq_true rfl) (s_El_speak hX hLd hI (fun w1 k2 k3 => ?_))
  have hM1 := hM.S k3 hLd.1 (Nat.le_refl _) (Nat.le_refl _)
  obtain ⟨s1, lg1, M1, hR1, -⟩ := id hM1
  have g2 := hR1.1
  refine x_aload_n 279 rfl d_Lw_law_278 rfl ?_
  refine x_aload_n 280 rfl d_Lw_law_279 rfl ?_
  refine x_iload_n 281 rfl d_Lw_law_280 rfl ?_
  refine x_iconst 282 rfl d_Lw_law_281 1 (by decide) ?_
  refine x_iadd 283 rfl d_Lw_law_282 ?_
  refine x_iaX 284 rfl d_Lw_law_283 (fun U H z => (hX U H z).1) (lw_in (c := 1) hi hL3 (by decide)) ?_
  refine x_aload_n 285 rfl d_Lw_law_284 rfl ?_
  refine x_iload_n 286 rfl d_Lw_law_285 rfl ?_
  refine x_iconst 287 rfl d_Lw_law_286 2 (by decide) ?_
  refine x_iadd 288 rfl d_Lw_law_287 ?_
  refine x_iaX 289 rfl d_Lw_law_288 (fun U H z => (hX U H z).1) (lw_in (c := 2) hi hL3 (by decide)) ?_
  refine x_aload_n 290 rfl d_Lw_law_289 rfl ?_
  refine x_iload_n 291 rfl d_Lw_law_290 rfl ?_
  refine x_iconst 292 rfl d_Lw_law_291 3 (by decide) ?_
  refine x_iadd 293 rfl d_Lw_law_292 ?_
  refine x_iaX 294 rfl d_Lw_law_293 (fun U H z => (hX U H z).1) (lw_in (c := 3) hi hL3 (by decide)) ?_
  refine x_aload_n 295 rfl d_Lw_law_294 rfl ?_
  refine x_iload_n 296 rfl d_Lw_law_295 rfl ?_
  refine x_iconst 297 rfl d_Lw_law_296 4 (by decide) ?_
  refine x_iadd 298 rfl d_Lw_law_297 ?_
  refine x_iaX 299 rfl d_Lw_law_298 (fun U H z => (hX U H z).1) (lw_in (c := 4) hi hL3 (by decide)) ?_
  refine x_aload_n 300 rfl d_Lw_law_299 rfl ?_
  refine x_iload_n 301 rfl d_Lw_law_300 rfl ?_
  refine x_iconst 302 rfl d_Lw_law_301 5 (by decide) ?_
  refine x_iadd 303 rfl d_Lw_law_302 ?_
  refine x_iaX 304 rfl d_Lw_law_303 (fun U H z => (hX U H z).1) (lw_in (c := 5) hi hL3 (by decide)) ?_
  refine x_aload_n 305 rfl d_Lw_law_304 rfl ?_
  refine x_iload_n 306 rfl d_Lw_law_305 rfl ?_
  refine x_bipush 308 rfl d_Lw_law_306 6 (by decide) ?_
  refine x_iadd 309 rfl d_Lw_law_308 ?_
  refine x_iaX 310 rfl d_Lw_law_309 (fun U H z => (hX U H z).1) (lw_in (c := 6) hi hL3 (by decide)) ?_
  refine y_callV 313 rfl [_, _, _, _, _, _] _ rfl d_Lw_law_310 g2 rfl c_Lw_49 rfl (Nat.le_of_ble_eq_true rfl) (Nat.le_of_ble_eq_true rfl) (Nat.le_of_ble_eq_true rfl) (s_Mo_speak hM1 (fun w2 a1 a2 => ?_))
  refine x_icmp_eq 549 316 rfl d_Lw_law_313 (by decide) (fun hc => ?_) (fun hc => absurd rfl hc)
  exact xE.fit (h w2 ⟨_, _, k2.kept hM1 (Nat.le_refl _) (Nat.le_refl _) a2, (lSpk_ok hI).1, a1⟩) rfl
theorem s_Lw_epoch (hX : xS X sb L xs tI tE mi) (hi : i + 7 ≤ L) (hL3 : L ≤ 3585) (hLd : rLd X tE b (b + 647) c0 s0 mo t σ w) (hI : lInv σ mo) (hM : mG X (b + 616) t σ w) (h : ∀ w', lwI X tE b c0 s0 t w' → xE (xGG X) 14 m_Lw_law 549 [(0, .ref sb), (1, .ref b), (2, .ref (b + 616)), (3, .int (nI i))] [] w' P) : xE (xGG X) 14 m_Lw_law 318 [(0, .ref sb), (1, .ref b), (2, .ref (b + 616)), (3, .int (nI i))] [] w P := by
  refine x_aload_n 319 rfl d_Lw_law_318 rfl ?_
  refine x_aload_n 320 rfl d_Lw_law_319 rfl ?_
  refine x_iload_n 321 rfl d_Lw_law_320 rfl ?_
  refine x_iconst 322 rfl d_Lw_law_321 1 (by decide) ?_
  refine x_iadd 323 rfl d_Lw_law_322 ?_
  refine x_iaX 324 rfl d_Lw_law_323 (fun U H z => (hX U H z).1) (lw_in (c := 1) hi hL3 (by decide)) ?_
  refine y_callV 327 rfl [_] _ rfl d_Lw_law_324 hLd.2.2.1 rfl c_Lw_50 rfl (Nat.le_of_ble_eq_true rfl) (Nat.le_of_ble_eq_true rfl) (Nat.le_of_ble_eq_true rfl) (s_El_epoch hLd ?_)
  obtain ⟨s1, lg1, M1, hR1, -⟩ := id hM
  have g2 := hR1.1
  refine x_aload_n 328 rfl d_Lw_law_327 rfl ?_
  refine x_aload_n 329 rfl d_Lw_law_328 rfl ?_
  refine x_iload_n 330 rfl d_Lw_law_329 rfl ?_
  refine x_iconst 331 rfl d_Lw_law_330 1 (by decide) ?_
  refine x_iadd 332 rfl d_Lw_law_331 ?_
  refine x_iaX 333 rfl d_Lw_law_332 (fun U H z => (hX U H z).1) (lw_in (c := 1) hi hL3 (by decide)) ?_
  refine y_callV 336 rfl [_] _ rfl d_Lw_law_333 g2 rfl c_Lw_54 rfl (Nat.le_of_ble_eq_true rfl) (Nat.le_of_ble_eq_true rfl) (Nat.le_of_ble_eq_true rfl) (s_Mo_epoch hM ?_)
  refine x_icmp_eq 549 339 rfl d_Lw_law_336 (by decide) (fun hc => ?_) (fun hc => absurd rfl hc)
  exact xE.fit (h w ⟨_, mo, hLd, hI, hM⟩) rfl
theorem s_Lw_ledger (hX : xS X sb L xs tI tE mi) (hi : i + 7 ≤ L) (hL3 : L ≤ 3585) (hLd : rLd X tE b (b + 647) c0 s0 mo t σ w) (hI : lInv σ mo) (hM : mG X (b + 616) t σ w) (h : ∀ w', lwI X tE b c0 s0 t w' → xE (xGG X) 14 m_Lw_law 549 [(0, .ref sb), (1, .ref b), (2, .ref (b + 616)), (3, .int (nI i))] [] w' P) : xE (xGG X) 14 m_Lw_law 341 [(0, .ref sb), (1, .ref b), (2, .ref (b + 616)), (3, .int (nI i))] [] w P := by
  refine x_aload_n 342 rfl d_Lw_law_341 rfl ?_
  refine x_aload_n 343 rfl d_Lw_law_342 rfl ?_
  refine x_iload_n 344 rfl d_Lw_law_343 rfl ?_
  refine x_iconst 345 rfl d_Lw_law_344 1 (by decide) ?_
  refine x_iadd 346 rfl d_Lw_law_345 ?_
  refine x_iaX 347 rfl d_Lw_law_346 (fun U H z => (hX U H z).1) (lw_in (c := 1) hi hL3 (by decide)) ?_
  refine x_aload_n 348 rfl d_Lw_law_347 rfl ?_
  refine x_iload_n 349 rfl d_Lw_law_348 rfl ?_
  refine x_iconst 350 rfl d_Lw_law_349 2 (by decide) ?_
  refine x_iadd 351 rfl d_Lw_law_350 ?_
  refine x_iaX 352 rfl d_Lw_law_351 (fun U H z => (hX U H z).1) (lw_in (c := 2) hi hL3 (by decide)) ?_
  refine y_callV 355 rfl [_, _] _ rfl d_Lw_law_352 hLd.2.2.1 rfl c_Lw_55 rfl (Nat.le_of_ble_eq_true rfl) (Nat.le_of_ble_eq_true rfl) (Nat.le_of_ble_eq_true rfl) (s_El_ledger hLd ?_)
  obtain ⟨s1, lg1, M1, hR1, -⟩ := id hM
  have g2 := hR1.1
  refine x_aload_n 356 rfl d_Lw_law_355 rfl ?_
  refine x_aload_n 357 rfl d_Lw_law_356 rfl ?_
  refine x_iload_n 358 rfl d_Lw_law_357 rfl ?_
  refine x_iconst 359 rfl d_Lw_law_358 1 (by decide) ?_
  refine x_iadd 360 rfl d_Lw_law_359 ?_
  refine x_iaX 361 rfl d_Lw_law_360 (fun U H z => (hX U H z).1) (lw_in (c := 1) hi hL3 (by decide)) ?_
  refine x_aload_n 362 rfl d_Lw_law_361 rfl ?_
  refine x_iload_n 363 rfl d_Lw_law_362 rfl ?_
  refine x_iconst 364 rfl d_Lw_law_363 2 (by decide) ?_
  refine x_iadd 365 rfl d_Lw_law_364 ?_
  refine x_iaX 366 rfl d_Lw_law_365 (fun U H z => (hX U H z).1) (lw_in (c := 2) hi hL3 (by decide)) ?_
  refine y_callV 369 rfl [_, _] _ rfl d_Lw_law_366 g2 rfl c_Lw_58 rfl (Nat.le_of_ble_eq_true rfl) (Nat.le_of_ble_eq_true rfl) (Nat.le_of_ble_eq_true rfl) (s_Mo_ledger hM ?_)
  refine x_icmp_eq 549 372 rfl d_Lw_law_369 (by decide) (fun hc => ?_) (fun hc => absurd rfl hc)
  exact xE.fit (h w ⟨_, mo, hLd, hI, hM⟩) rfl
theorem s_Lw_queue (hX : xS X sb L xs tI tE mi) (hi : i + 7 ≤ L) (hL3 : L ≤ 3585) (hLd : rLd X tE b (b + 647) c0 s0 mo t σ w) (hI : lInv σ mo) (hM : mG X (b + 616) t σ w) (h : ∀ w', lwI X tE b c0 s0 t w' → xE (xGG X) 14 m_Lw_law 549 [(0, .ref sb), (1, .ref b), (2, .ref (b + 616)), (3, .int (nI i))] [] w' P) : xE (xGG X) 14 m_Lw_law 374 [(0, .ref sb), (1, .ref b), (2, .ref (b + 616)), (3, .int (nI i))] [] w P := by
  refine x_aload_n 375 rfl d_Lw_law_374 rfl ?_
  refine x_aload_n 376 rfl d_Lw_law_375 rfl ?_
  refine x_iload_n 377 rfl d_Lw_law_376 rfl ?_
  refine x_iconst 378 rfl d_Lw_law_377 1 (by decide) ?_
  refine x_iadd 379 rfl d_Lw_law_378 ?_
  refine x_iaX 380 rfl d_Lw_law_379 (fun U H z => (hX U H z).1) (lw_in (c := 1) hi hL3 (by decide)) ?_
  refine x_aload_n 381 rfl d_Lw_law_380 rfl ?_
  refine x_iload_n 382 rfl d_Lw_law_381 rfl ?_
  refine x_iconst 383 rfl d_Lw_law_382 2 (by decide) ?_
  refine x_iadd 384 rfl d_Lw_law_383 ?_
  refine x_iaX 385 rfl d_Lw_law_384 (fun U H z => (hX U H z).1) (lw_in (c := 2) hi hL3 (by decide)) ?_
  refine y_callV 388 rfl [_, _] _ rfl d_Lw_law_385 hLd.2.2.1 rfl c_Lw_59 rfl (Nat.le_of_ble_eq_true rfl) (Nat.le_of_ble_eq_true rfl) (Nat.le_of_ble_eq_true rfl) (s_El_queue hLd ?_)
  obtain ⟨s1, lg1, M1, hR1, -⟩ := id hM
  have g2 := hR1.1
  refine x_aload_n 389 rfl d_Lw_law_388 rfl ?_
  refine x_aload_n 390 rfl d_Lw_law_389 rfl ?_
  refine x_iload_n 391 rfl d_Lw_law_390 rfl ?_
  refine x_iconst 392 rfl d_Lw_law_391 1 (by decide) ?_
  refine x_iadd 393 rfl d_Lw_law_392 ?_
  refine x_iaX 394 rfl d_Lw_law_393 (fun U H z => (hX U H z).1) (lw_in (c := 1) hi hL3 (by decide)) ?_
  refine x_aload_n 395 rfl d_Lw_law_394 rfl ?_
  refine x_iload_n 396 rfl d_Lw_law_395 rfl ?_
  refine x_iconst 397 rfl d_Lw_law_396 2 (by decide) ?_
  refine x_iadd 398 rfl d_Lw_law_397 ?_
  refine x_iaX 399 rfl d_Lw_law_398 (fun U H z => (hX U H z).1) (lw_in (c := 2) hi hL3 (by decide)) ?_
  refine y_callV 402 rfl [_, _] _ rfl d_Lw_law_399 g2 rfl c_Lw_62 rfl (Nat.le_of_ble_eq_true rfl) (Nat.le_of_ble_eq_true rfl) (Nat.le_of_ble_eq_true rfl) (s_Mo_queue hM ?_)
  refine x_icmp_eq 549 405 rfl d_Lw_law_402 (by decide) (fun hc => ?_) (fun hc => absurd rfl hc)
  exact xE.fit (h w ⟨_, mo, hLd, hI, hM⟩) rfl
theorem s_Lw_waiting (hX : xS X sb L xs tI tE mi) (hi : i + 7 ≤ L) (hL3 : L ≤ 3585) (hLd : rLd X tE b (b + 647) c0 s0 mo t σ w) (hI : lInv σ mo) (hM : mG X (b + 616) t σ w) (h : ∀ w', lwI X tE b c0 s0 t w' → xE (xGG X) 14 m_Lw_law 549 [(0, .ref sb), (1, .ref b), (2, .ref (b + 616)), (3, .int (nI i))] [] w' P) : xE (xGG X) 14 m_Lw_law 407 [(0, .ref sb), (1, .ref b), (2, .ref (b + 616)), (3, .int (nI i))] [] w P := by
  refine x_aload_n 408 rfl d_Lw_law_407 rfl ?_
  refine x_aload_n 409 rfl d_Lw_law_408 rfl ?_
  refine x_iload_n 410 rfl d_Lw_law_409 rfl ?_
  refine x_iconst 411 rfl d_Lw_law_410 1 (by decide) ?_
  refine x_iadd 412 rfl d_Lw_law_411 ?_
  refine x_iaX 413 rfl d_Lw_law_412 (fun U H z => (hX U H z).1) (lw_in (c := 1) hi hL3 (by decide)) ?_
  refine y_callV 416 rfl [_] _ rfl d_Lw_law_413 hLd.2.2.1 rfl c_Lw_63 rfl (Nat.le_of_ble_eq_true rfl) (Nat.le_of_ble_eq_true rfl) (Nat.le_of_ble_eq_true rfl) (s_El_waiting hLd ?_)
  obtain ⟨s1, lg1, M1, hR1, -⟩ := id hM
  have g2 := hR1.1
  refine x_aload_n 417 rfl d_Lw_law_416 rfl ?_
  refine x_aload_n 418 rfl d_Lw_law_417 rfl ?_
  refine x_iload_n 419 rfl d_Lw_law_418 rfl ?_
  refine x_iconst 420 rfl d_Lw_law_419 1 (by decide) ?_
  refine x_iadd 421 rfl d_Lw_law_420 ?_
  refine x_iaX 422 rfl d_Lw_law_421 (fun U H z => (hX U H z).1) (lw_in (c := 1) hi hL3 (by decide)) ?_
  refine y_callV 425 rfl [_] _ rfl d_Lw_law_422 g2 rfl c_Lw_66 rfl (Nat.le_of_ble_eq_true rfl) (Nat.le_of_ble_eq_true rfl) (Nat.le_of_ble_eq_true rfl) (s_Mo_waiting' hM ?_)
  refine x_icmp_eq 549 428 rfl d_Lw_law_425 (by decide) (fun hc => ?_) (fun hc => absurd rfl hc)
  exact xE.fit (h w ⟨_, mo, hLd, hI, hM⟩) rfl
theorem s_Lw_instance (hX : xS X sb L xs tI tE mi) (hi : i + 7 ≤ L) (hL3 : L ≤ 3585) (hLd : rLd X tE b (b + 647) c0 s0 mo t σ w) (hI : lInv σ mo) (hM : mG X (b + 616) t σ w) (h : ∀ w', lwI X tE b c0 s0 t w' → xE (xGG X) 14 m_Lw_law 549 [(0, .ref sb), (1, .ref b), (2, .ref (b + 616)), (3, .int (nI i))] [] w' P) : xE (xGG X) 14 m_Lw_law 430 [(0, .ref sb), (1, .ref b), (2, .ref (b + 616)), (3, .int (nI i))] [] w P := by
  refine x_aload_n 431 rfl d_Lw_law_430 rfl ?_
  refine x_aload_n 432 rfl d_Lw_law_431 rfl ?_
  refine x_iload_n 433 rfl d_Lw_law_432 rfl ?_
  refine x_iconst 434 rfl d_Lw_law_433 1 (by decide) ?_
  refine x_iadd 435 rfl d_Lw_law_434 ?_
  refine x_iaX 436 rfl d_Lw_law_435 (fun U H z => (hX U H z).1) (lw_in (c := 1) hi hL3 (by decide)) ?_
  refine x_aload_n 437 rfl d_Lw_law_436 rfl ?_
  refine x_iload_n 438 rfl d_Lw_law_437 rfl ?_
  refine x_iconst 439 rfl d_Lw_law_438 2 (by decide) ?_
  refine x_iadd 440 rfl d_Lw_law_439 ?_
  refine x_iaX 441 rfl d_Lw_law_440 (fun U H z => (hX U H z).1) (lw_in (c := 2) hi hL3 (by decide)) ?_
  refine x_aload_n 442 rfl d_Lw_law_441 rfl ?_
  refine x_iload_n 443 rfl d_Lw_law_442 rfl ?_
  refine x_iconst 444 rfl d_Lw_law_443 3 (by decide) ?_
  refine x_iadd 445 rfl d_Lw_law_444 ?_
  refine x_iaX 446 rfl d_Lw_law_445 (fun U H z => (hX U H z).1) (lw_in (c := 3) hi hL3 (by decide)) ?_
  refine y_callV 449 rfl [_, _, _] _ rfl d_Lw_law_446 hLd.2.2.1 rfl c_Lw_67 rfl (Nat.le_of_ble_eq_true rfl) (Nat.le_of_ble_eq_true rfl) (Nat.le_of_ble_eq_true rfl) (s_El_instance hLd (fun n hn => (hI.1 n hn).1.1) ?_)
  obtain ⟨s1, lg1, M1, hR1, -⟩ := id hM
  have g2 := hR1.1
  refine x_aload_n 450 rfl d_Lw_law_449 rfl ?_
  refine x_aload_n 451 rfl d_Lw_law_450 rfl ?_
  refine x_iload_n 452 rfl d_Lw_law_451 rfl ?_
  refine x_iconst 453 rfl d_Lw_law_452 1 (by decide) ?_
  refine x_iadd 454 rfl d_Lw_law_453 ?_
  refine x_iaX 455 rfl d_Lw_law_454 (fun U H z => (hX U H z).1) (lw_in (c := 1) hi hL3 (by decide)) ?_
  refine x_aload_n 456 rfl d_Lw_law_455 rfl ?_
  refine x_iload_n 457 rfl d_Lw_law_456 rfl ?_
  refine x_iconst 458 rfl d_Lw_law_457 2 (by decide) ?_
  refine x_iadd 459 rfl d_Lw_law_458 ?_
  refine x_iaX 460 rfl d_Lw_law_459 (fun U H z => (hX U H z).1) (lw_in (c := 2) hi hL3 (by decide)) ?_
  refine x_aload_n 461 rfl d_Lw_law_460 rfl ?_
  refine x_iload_n 462 rfl d_Lw_law_461 rfl ?_
  refine x_iconst 463 rfl d_Lw_law_462 3 (by decide) ?_
  refine x_iadd 464 rfl d_Lw_law_463 ?_
  refine x_iaX 465 rfl d_Lw_law_464 (fun U H z => (hX U H z).1) (lw_in (c := 3) hi hL3 (by decide)) ?_
  refine y_callV 468 rfl [_, _, _] _ rfl d_Lw_law_465 g2 rfl c_Lw_71 rfl (Nat.le_of_ble_eq_true rfl) (Nat.le_of_ble_eq_true rfl) (Nat.le_of_ble_eq_true rfl) (s_Mo_instance hM ?_)
  refine x_icmp_eq 549 471 rfl d_Lw_law_468 (by decide) (fun hc => ?_) (fun hc => absurd rfl hc)
  exact xE.fit (h w ⟨_, mo, hLd, hI, hM⟩) rfl
theorem s_Lw_coin (hX : xS X sb L xs tI tE mi) (hi : i + 7 ≤ L) (hL3 : L ≤ 3585) (hLd : rLd X tE b (b + 647) c0 s0 mo t σ w) (hI : lInv σ mo) (hM : mG X (b + 616) t σ w) (h : ∀ w', lwI X tE b c0 s0 t w' → xE (xGG X) 14 m_Lw_law 549 [(0, .ref sb), (1, .ref b), (2, .ref (b + 616)), (3, .int (nI i))] [] w' P) : xE (xGG X) 14 m_Lw_law 473 [(0, .ref sb), (1, .ref b), (2, .ref (b + 616)), (3, .int (nI i))] [] w P := by
  refine x_aload_n 474 rfl d_Lw_law_473 rfl ?_
  refine x_aload_n 475 rfl d_Lw_law_474 rfl ?_
  refine x_iload_n 476 rfl d_Lw_law_475 rfl ?_
  refine x_iconst 477 rfl d_Lw_law_476 1 (by decide) ?_
  refine x_iadd 478 rfl d_Lw_law_477 ?_
  refine x_iaX 479 rfl d_Lw_law_478 (fun U H z => (hX U H z).1) (lw_in (c := 1) hi hL3 (by decide)) ?_
  refine x_aload_n 480 rfl d_Lw_law_479 rfl ?_
  refine x_iload_n 481 rfl d_Lw_law_480 rfl ?_
  refine x_iconst 482 rfl d_Lw_law_481 2 (by decide) ?_
  refine x_iadd 483 rfl d_Lw_law_482 ?_
  refine x_iaX 484 rfl d_Lw_law_483 (fun U H z => (hX U H z).1) (lw_in (c := 2) hi hL3 (by decide)) ?_
  refine x_aload_n 485 rfl d_Lw_law_484 rfl ?_
  refine x_iload_n 486 rfl d_Lw_law_485 rfl ?_
  refine x_iconst 487 rfl d_Lw_law_486 3 (by decide) ?_
  refine x_iadd 488 rfl d_Lw_law_487 ?_
  refine x_iaX 489 rfl d_Lw_law_488 (fun U H z => (hX U H z).1) (lw_in (c := 3) hi hL3 (by decide)) ?_
  refine y_callV 492 rfl [_, _, _] _ rfl d_Lw_law_489 hLd.2.2.1 rfl c_Lw_72 rfl (Nat.le_of_ble_eq_true rfl) (Nat.le_of_ble_eq_true rfl) (Nat.le_of_ble_eq_true rfl) (s_El_coin hLd ?_)
  obtain ⟨s1, lg1, M1, hR1, -⟩ := id hM
  have g2 := hR1.1
  refine x_aload_n 493 rfl d_Lw_law_492 rfl ?_
  refine x_aload_n 494 rfl d_Lw_law_493 rfl ?_
  refine x_iload_n 495 rfl d_Lw_law_494 rfl ?_
  refine x_iconst 496 rfl d_Lw_law_495 1 (by decide) ?_
  refine x_iadd 497 rfl d_Lw_law_496 ?_
  refine x_iaX 498 rfl d_Lw_law_497 (fun U H z => (hX U H z).1) (lw_in (c := 1) hi hL3 (by decide)) ?_
  refine x_aload_n 499 rfl d_Lw_law_498 rfl ?_
  refine x_iload_n 500 rfl d_Lw_law_499 rfl ?_
  refine x_iconst 501 rfl d_Lw_law_500 2 (by decide) ?_
  refine x_iadd 502 rfl d_Lw_law_501 ?_
  refine x_iaX 503 rfl d_Lw_law_502 (fun U H z => (hX U H z).1) (lw_in (c := 2) hi hL3 (by decide)) ?_
  refine x_aload_n 504 rfl d_Lw_law_503 rfl ?_
  refine x_iload_n 505 rfl d_Lw_law_504 rfl ?_
  refine x_iconst 506 rfl d_Lw_law_505 3 (by decide) ?_
  refine x_iadd 507 rfl d_Lw_law_506 ?_
  refine x_iaX 508 rfl d_Lw_law_507 (fun U H z => (hX U H z).1) (lw_in (c := 3) hi hL3 (by decide)) ?_
  refine y_callV 511 rfl [_, _, _] _ rfl d_Lw_law_508 g2 rfl c_Lw_75 rfl (Nat.le_of_ble_eq_true rfl) (Nat.le_of_ble_eq_true rfl) (Nat.le_of_ble_eq_true rfl) (s_Mo_coin' hM ?_)
  refine x_icmp_eq 549 514 rfl d_Lw_law_511 (by decide) (fun hc => ?_) (fun hc => absurd rfl hc)
  exact xE.fit (h w ⟨_, mo, hLd, hI, hM⟩) rfl
theorem s_Lw_root (hX : xS X sb L xs tI tE mi) (hi : i + 7 ≤ L) (hL3 : L ≤ 3585) (hLd : rLd X tE b (b + 647) c0 s0 mo t σ w) (hI : lInv σ mo) (hM : mG X (b + 616) t σ w) (h : ∀ w', lwI X tE b c0 s0 t w' → xE (xGG X) 14 m_Lw_law 549 [(0, .ref sb), (1, .ref b), (2, .ref (b + 616)), (3, .int (nI i))] [] w' P) : xE (xGG X) 14 m_Lw_law 516 [(0, .ref sb), (1, .ref b), (2, .ref (b + 616)), (3, .int (nI i))] [] w P := by
  refine x_aload_n 517 rfl d_Lw_law_516 rfl ?_
  refine x_aload_n 518 rfl d_Lw_law_517 rfl ?_
  refine x_iload_n 519 rfl d_Lw_law_518 rfl ?_
  refine x_iconst 520 rfl d_Lw_law_519 1 (by decide) ?_
  refine x_iadd 521 rfl d_Lw_law_520 ?_
  refine x_iaX 522 rfl d_Lw_law_521 (fun U H z => (hX U H z).1) (lw_in (c := 1) hi hL3 (by decide)) ?_
  refine x_aload_n 523 rfl d_Lw_law_522 rfl ?_
  refine x_iload_n 524 rfl d_Lw_law_523 rfl ?_
  refine x_iconst 525 rfl d_Lw_law_524 2 (by decide) ?_
  refine x_iadd 526 rfl d_Lw_law_525 ?_
  refine x_iaX 527 rfl d_Lw_law_526 (fun U H z => (hX U H z).1) (lw_in (c := 2) hi hL3 (by decide)) ?_
  refine y_callV 530 rfl [_, _] _ rfl d_Lw_law_527 hLd.2.2.1 rfl c_Lw_76 rfl (Nat.le_of_ble_eq_true rfl) (Nat.le_of_ble_eq_true rfl) (Nat.le_of_ble_eq_true rfl) (s_El_root ?_)
  obtain ⟨s1, lg1, M1, hR1, -⟩ := id hM
  have g2 := hR1.1
  refine x_aload_n 531 rfl d_Lw_law_530 rfl ?_
  refine x_aload_n 532 rfl d_Lw_law_531 rfl ?_
  refine x_iload_n 533 rfl d_Lw_law_532 rfl ?_
  refine x_iconst 534 rfl d_Lw_law_533 1 (by decide) ?_
  refine x_iadd 535 rfl d_Lw_law_534 ?_
  refine x_iaX 536 rfl d_Lw_law_535 (fun U H z => (hX U H z).1) (lw_in (c := 1) hi hL3 (by decide)) ?_
  refine x_aload_n 537 rfl d_Lw_law_536 rfl ?_
  refine x_iload_n 538 rfl d_Lw_law_537 rfl ?_
  refine x_iconst 539 rfl d_Lw_law_538 2 (by decide) ?_
  refine x_iadd 540 rfl d_Lw_law_539 ?_
  refine x_iaX 541 rfl d_Lw_law_540 (fun U H z => (hX U H z).1) (lw_in (c := 2) hi hL3 (by decide)) ?_
  refine y_callV 544 rfl [_, _] _ rfl d_Lw_law_541 g2 rfl c_Lw_79 rfl (Nat.le_of_ble_eq_true rfl) (Nat.le_of_ble_eq_true rfl) (Nat.le_of_ble_eq_true rfl) (s_Mo_root ?_)
  refine x_icmp_eq 549 547 rfl d_Lw_law_544 (by decide) (fun hc => ?_) (fun hc => absurd rfl hc)
  exact xE.fit (h w ⟨_, mo, hLd, hI, hM⟩) rfl
end LW
