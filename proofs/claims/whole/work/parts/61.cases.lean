/-! a round of the law, by what is called -/
section LAC
variable {l : Launch} {g : va_G} {y : Nat → ClassId} {Z : Nat → Nat → va_W → Nat → List (Nat × Value) → List Value → Prop} {b L i k n ao : Nat} {xs : Nat → Int32} {aC aR : Nat → Nat} {σ τ : stT} {ρ : rtT} {f : Nat → Int64}
set_option maxHeartbeats 4000000 in
set_option maxRecDepth 100000 in
theorem law_0 (hst : l.stackTraces = false) (hL : L ≤ 3072) (hZ : w_IsL l g y Z b L xs) (hi : i + 6 ≤ L) (hk : k + 1 ≤ room_1.cells) (hn : n + 6 ≤ room_1.slots) (hI0 : Inv σ τ ρ) (next : ∀ (k2 n2 : Nat) (σ2 τ2 : stT) (ρ2 : rtT) (f2 : Nat → Int64), Inv σ2 τ2 ρ2 → k2 ≤ k + 1 → n2 ≤ n + 6 → Z k2 n2 (hw aC y σ2 ao f2 ++ rw aR y τ2 ρ2) 1367 [(0, .ref b), (1, .ref (aC 0)), (2, .ref (aR 0)), (3, .ref ao), (4, .int (nI i))] []) : Z k n (hw aC y σ ao f ++ rw aR y τ ρ) 136 [(0, .ref b), (1, .ref (aC 0)), (2, .ref (aR 0)), (3, .ref ao), (4, .int (nI i))] [] := by
  have hI := hZ.e.is
  obtain ⟨kk, σ2, f2, bb, τ2, ρ2, d, hk3, hd8, hH, hR, hth, hcv, hI2⟩ := st_input (l := l) (g := g) (y := y) (aC := aC) (aR := aR) (ao := ao) (f := f) hst hI0
  have fin : Z (k + 1) (n + 6) (hw aC y σ2 ao f2 ++ rw aR y τ2 ρ2) 177 [(0, .ref b), (1, .ref (aC 0)), (2, .ref (aR 0)), (3, .ref ao), (4, .int (nI i)), (5, .int (nI kk)), (6, .int bb)] [] := by
    refine r_goto 1367 hI dL_law_177 (by decide) ?_
    refine r_lvs [(0, .ref b), (1, .ref (aC 0)), (2, .ref (aR 0)), (3, .ref ao), (4, .int (nI i))] [0, 1, 2, 3, 4] hZ rfl ?_
    exact next _ _ _ _ _ _ hI2 (Nat.le_refl _) (Nat.le_refl _)
  refine r_aload_n 137 hI 1 dL_law_136 rfl rfl rfl ?_
  refine r_aload_n 138 hI 3 dL_law_137 rfl rfl rfl ?_
  refine r_callHA hH wh_input rfl wL_L_76 hZ rfl ⟨by decide, by decide⟩ ⟨hk, hn⟩ (by rfl) rfl dL_law_138 ?_
  refine r_istN (q := 0) 143 [(0, .ref b), (1, .ref (aC 0)), (2, .ref (aR 0)), (3, .ref ao), (4, .int (nI i)), (5, .int (nI kk))] hI dL_law_141 rfl (by decide) rfl rfl ?_
  refine r_aload_n 144 hI 2 dL_law_143 rfl rfl rfl ?_
  refine r_callVB hR wM_X8_input wL_L_81 hI rfl ⟨by show d + 1 ≤ 10; omega, by show 8 + (3 + 11) + 34 * d ≤ 384; omega⟩ 0 8 rfl rfl rfl rfl dL_law_144 ?_
  refine r_istN (q := 0) 149 [(0, .ref b), (1, .ref (aC 0)), (2, .ref (aR 0)), (3, .ref ao), (4, .int (nI i)), (5, .int (nI kk)), (6, .int bb)] hI dL_law_147 rfl (by decide) rfl rfl ?_
  refine r_aload_n 150 hI 2 dL_law_149 rfl rfl rfl ?_
  refine r_callVB (av := []) (c_X8_thrown l g y aR τ2 ρ2) wM_X8_thrown wL_L_82 hI rfl ⟨by decide, by decide⟩ 0 8 rfl rfl rfl rfl dL_law_150 ?_
  rw [hth]
  refine r_iload 155 hI 5 dL_law_153 rfl rfl ?_
  refine r_icmp_eq 160 158 hI dL_law_155 (by decide) rfl (fun _ => ?_) (fun h => absurd rfl h)
  refine r_iload 162 hI 5 dL_law_160 rfl rfl ?_
  refine r_if_ne 177 165 hI dL_law_162 (by decide) rfl (fun _ => fin) (fun h0 => ?_)
  have hk0 : kk = 0 := nI_eqq (b := 0) (by omega) (by decide) (h0.trans rfl)
  have hc0 := hcv hk0
  refine r_aload_n 166 hI 3 dL_law_165 rfl rfl rfl ?_
  refine r_iconst (v := 0) 167 hI dL_law_166 rfl (by decide) ?_
  refine r_lald 168 67 hI (hwr67 aC aR σ2 ao f2 τ2 ρ2) (by unfold vp_in; decide) dL_law_167 rfl ?_
  refine r_iload 170 hI 6 dL_law_168 rfl rfl ?_
  refine r_i2l 171 hI dL_law_170 rfl ?_
  refine r_lcmp 172 hI dL_law_171 rfl ?_
  rw [show f2 (Int32.toNatClampNeg 0) = Int32.toInt64 bb from hc0]
  refine r_if_eq 177 175 hI dL_law_172 (by decide) rfl (fun _ => fin) (fun h => absurd (lg_cmp_self _) h)
set_option maxHeartbeats 4000000 in
set_option maxRecDepth 100000 in
theorem law_1 (hst : l.stackTraces = false) (hL : L ≤ 3072) (hZ : w_IsL l g y Z b L xs) (hi : i + 6 ≤ L) (hk : k + 1 ≤ room_1.cells) (hn : n + 6 ≤ room_1.slots) (hI0 : Inv σ τ ρ) (next : ∀ (k2 n2 : Nat) (σ2 τ2 : stT) (ρ2 : rtT) (f2 : Nat → Int64), Inv σ2 τ2 ρ2 → k2 ≤ k + 1 → n2 ≤ n + 6 → Z k2 n2 (hw aC y σ2 ao f2 ++ rw aR y τ2 ρ2) 1367 [(0, .ref b), (1, .ref (aC 0)), (2, .ref (aR 0)), (3, .ref ao), (4, .int (nI i))] []) : Z k n (hw aC y σ ao f ++ rw aR y τ ρ) 180 [(0, .ref b), (1, .ref (aC 0)), (2, .ref (aR 0)), (3, .ref ao), (4, .int (nI i))] [] := by
  have hI := hZ.e.is
  obtain ⟨kk, σ2, f2, bb, τ2, ρ2, d, hk3, hd8, hH, hR, hth, hcv, hI2⟩ := st_old (l := l) (g := g) (y := y) (aC := aC) (aR := aR) (ao := ao) (f := f) hst hI0 (xs (i + 1)) (xs (i + 2))
  have fin : Z (k + 1) (n + 6) (hw aC y σ2 ao f2 ++ rw aR y τ2 ρ2) 245 [(0, .ref b), (1, .ref (aC 0)), (2, .ref (aR 0)), (3, .ref ao), (4, .int (nI i)), (5, .int (nI kk)), (6, .int bb)] [] := by
    refine r_goto 1367 hI dL_law_245 (by decide) ?_
    refine r_lvs [(0, .ref b), (1, .ref (aC 0)), (2, .ref (aR 0)), (3, .ref ao), (4, .int (nI i))] [0, 1, 2, 3, 4] hZ rfl ?_
    exact next _ _ _ _ _ _ hI2 (Nat.le_refl _) (Nat.le_refl _)
  refine r_aload_n 181 hI 1 dL_law_180 rfl rfl rfl ?_
  refine r_aload_n 182 hI 0 dL_law_181 rfl rfl rfl ?_
  refine r_iload 184 hI 4 dL_law_182 rfl rfl ?_
  refine r_iconst (v := 1) 185 hI dL_law_184 rfl (by decide) ?_
  refine r_iadd 186 hI dL_law_185 rfl ?_
  refine r_sld 187 1 hZ rfl (by omega) hL dL_law_186 rfl ?_
  refine r_aload_n 188 hI 0 dL_law_187 rfl rfl rfl ?_
  refine r_iload 190 hI 4 dL_law_188 rfl rfl ?_
  refine r_iconst (v := 2) 191 hI dL_law_190 rfl (by decide) ?_
  refine r_iadd 192 hI dL_law_191 rfl ?_
  refine r_sld 193 2 hZ rfl (by omega) hL dL_law_192 rfl ?_
  refine r_aload_n 194 hI 3 dL_law_193 rfl rfl rfl ?_
  refine r_callHA hH wh_old rfl wL_L_85 hZ rfl ⟨by decide, by decide⟩ ⟨hk, hn⟩ (by rfl) rfl dL_law_194 ?_
  refine r_istN (q := 0) 199 [(0, .ref b), (1, .ref (aC 0)), (2, .ref (aR 0)), (3, .ref ao), (4, .int (nI i)), (5, .int (nI kk))] hI dL_law_197 rfl (by decide) rfl rfl ?_
  refine r_aload_n 200 hI 2 dL_law_199 rfl rfl rfl ?_
  refine r_aload_n 201 hI 0 dL_law_200 rfl rfl rfl ?_
  refine r_iload 203 hI 4 dL_law_201 rfl rfl ?_
  refine r_iconst (v := 1) 204 hI dL_law_203 rfl (by decide) ?_
  refine r_iadd 205 hI dL_law_204 rfl ?_
  refine r_sld 206 1 hZ rfl (by omega) hL dL_law_205 rfl ?_
  refine r_aload_n 207 hI 0 dL_law_206 rfl rfl rfl ?_
  refine r_iload 209 hI 4 dL_law_207 rfl rfl ?_
  refine r_iconst (v := 2) 210 hI dL_law_209 rfl (by decide) ?_
  refine r_iadd 211 hI dL_law_210 rfl ?_
  refine r_sld 212 2 hZ rfl (by omega) hL dL_law_211 rfl ?_
  refine r_callVB hR wM_X8_old wL_L_88 hI rfl ⟨by show d + 1 ≤ 10; omega, by show 8 + (4 + 11) + 34 * d ≤ 384; omega⟩ 0 8 rfl rfl rfl rfl dL_law_212 ?_
  refine r_istN (q := 0) 217 [(0, .ref b), (1, .ref (aC 0)), (2, .ref (aR 0)), (3, .ref ao), (4, .int (nI i)), (5, .int (nI kk)), (6, .int bb)] hI dL_law_215 rfl (by decide) rfl rfl ?_
  refine r_aload_n 218 hI 2 dL_law_217 rfl rfl rfl ?_
  refine r_callVB (av := []) (c_X8_thrown l g y aR τ2 ρ2) wM_X8_thrown wL_L_82 hI rfl ⟨by decide, by decide⟩ 0 8 rfl rfl rfl rfl dL_law_218 ?_
  rw [hth]
  refine r_iload 223 hI 5 dL_law_221 rfl rfl ?_
  refine r_icmp_eq 228 226 hI dL_law_223 (by decide) rfl (fun _ => ?_) (fun h => absurd rfl h)
  refine r_iload 230 hI 5 dL_law_228 rfl rfl ?_
  refine r_if_ne 245 233 hI dL_law_230 (by decide) rfl (fun _ => fin) (fun h0 => ?_)
  have hk0 : kk = 0 := nI_eqq (b := 0) (by omega) (by decide) (h0.trans rfl)
  have hc0 := hcv hk0
  refine r_aload_n 234 hI 3 dL_law_233 rfl rfl rfl ?_
  refine r_iconst (v := 0) 235 hI dL_law_234 rfl (by decide) ?_
  refine r_lald 236 67 hI (hwr67 aC aR σ2 ao f2 τ2 ρ2) (by unfold vp_in; decide) dL_law_235 rfl ?_
  refine r_iload 238 hI 6 dL_law_236 rfl rfl ?_
  refine r_i2l 239 hI dL_law_238 rfl ?_
  refine r_lcmp 240 hI dL_law_239 rfl ?_
  rw [show f2 (Int32.toNatClampNeg 0) = Int32.toInt64 bb from hc0]
  refine r_if_eq 245 243 hI dL_law_240 (by decide) rfl (fun _ => fin) (fun h => absurd (lg_cmp_self _) h)
set_option maxHeartbeats 4000000 in
set_option maxRecDepth 100000 in
theorem law_2 (hst : l.stackTraces = false) (hL : L ≤ 3072) (hZ : w_IsL l g y Z b L xs) (hi : i + 6 ≤ L) (hk : k + 1 ≤ room_1.cells) (hn : n + 6 ≤ room_1.slots) (hI0 : Inv σ τ ρ) (next : ∀ (k2 n2 : Nat) (σ2 τ2 : stT) (ρ2 : rtT) (f2 : Nat → Int64), Inv σ2 τ2 ρ2 → k2 ≤ k + 1 → n2 ≤ n + 6 → Z k2 n2 (hw aC y σ2 ao f2 ++ rw aR y τ2 ρ2) 1367 [(0, .ref b), (1, .ref (aC 0)), (2, .ref (aR 0)), (3, .ref ao), (4, .int (nI i))] []) : Z k n (hw aC y σ ao f ++ rw aR y τ ρ) 248 [(0, .ref b), (1, .ref (aC 0)), (2, .ref (aR 0)), (3, .ref ao), (4, .int (nI i))] [] := by
  have hI := hZ.e.is
  obtain ⟨kk, σ2, f2, bb, τ2, ρ2, d, hk3, hd8, hH, hR, hth, hcv, hI2⟩ := st_asked (l := l) (g := g) (y := y) (aC := aC) (aR := aR) (ao := ao) (f := f) hst hI0 (xs (i + 1)) (xs (i + 2))
  have fin : Z (k + 1) (n + 6) (hw aC y σ2 ao f2 ++ rw aR y τ2 ρ2) 313 [(0, .ref b), (1, .ref (aC 0)), (2, .ref (aR 0)), (3, .ref ao), (4, .int (nI i)), (5, .int (nI kk)), (6, .int bb)] [] := by
    refine r_goto 1367 hI dL_law_313 (by decide) ?_
    refine r_lvs [(0, .ref b), (1, .ref (aC 0)), (2, .ref (aR 0)), (3, .ref ao), (4, .int (nI i))] [0, 1, 2, 3, 4] hZ rfl ?_
    exact next _ _ _ _ _ _ hI2 (Nat.le_refl _) (Nat.le_refl _)
  refine r_aload_n 249 hI 1 dL_law_248 rfl rfl rfl ?_
  refine r_aload_n 250 hI 0 dL_law_249 rfl rfl rfl ?_
  refine r_iload 252 hI 4 dL_law_250 rfl rfl ?_
  refine r_iconst (v := 1) 253 hI dL_law_252 rfl (by decide) ?_
  refine r_iadd 254 hI dL_law_253 rfl ?_
  refine r_sld 255 1 hZ rfl (by omega) hL dL_law_254 rfl ?_
  refine r_aload_n 256 hI 0 dL_law_255 rfl rfl rfl ?_
  refine r_iload 258 hI 4 dL_law_256 rfl rfl ?_
  refine r_iconst (v := 2) 259 hI dL_law_258 rfl (by decide) ?_
  refine r_iadd 260 hI dL_law_259 rfl ?_
  refine r_sld 261 2 hZ rfl (by omega) hL dL_law_260 rfl ?_
  refine r_aload_n 262 hI 3 dL_law_261 rfl rfl rfl ?_
  refine r_callHA hH wh_asked rfl wL_L_89 hZ rfl ⟨by decide, by decide⟩ ⟨hk, hn⟩ (by rfl) rfl dL_law_262 ?_
  refine r_istN (q := 0) 267 [(0, .ref b), (1, .ref (aC 0)), (2, .ref (aR 0)), (3, .ref ao), (4, .int (nI i)), (5, .int (nI kk))] hI dL_law_265 rfl (by decide) rfl rfl ?_
  refine r_aload_n 268 hI 2 dL_law_267 rfl rfl rfl ?_
  refine r_aload_n 269 hI 0 dL_law_268 rfl rfl rfl ?_
  refine r_iload 271 hI 4 dL_law_269 rfl rfl ?_
  refine r_iconst (v := 1) 272 hI dL_law_271 rfl (by decide) ?_
  refine r_iadd 273 hI dL_law_272 rfl ?_
  refine r_sld 274 1 hZ rfl (by omega) hL dL_law_273 rfl ?_
  refine r_aload_n 275 hI 0 dL_law_274 rfl rfl rfl ?_
  refine r_iload 277 hI 4 dL_law_275 rfl rfl ?_
  refine r_iconst (v := 2) 278 hI dL_law_277 rfl (by decide) ?_
  refine r_iadd 279 hI dL_law_278 rfl ?_
  refine r_sld 280 2 hZ rfl (by omega) hL dL_law_279 rfl ?_
  refine r_callVB hR wM_X8_asked wL_L_91 hI rfl ⟨by show d + 1 ≤ 10; omega, by show 8 + (4 + 11) + 34 * d ≤ 384; omega⟩ 0 8 rfl rfl rfl rfl dL_law_280 ?_
  refine r_istN (q := 0) 285 [(0, .ref b), (1, .ref (aC 0)), (2, .ref (aR 0)), (3, .ref ao), (4, .int (nI i)), (5, .int (nI kk)), (6, .int bb)] hI dL_law_283 rfl (by decide) rfl rfl ?_
  refine r_aload_n 286 hI 2 dL_law_285 rfl rfl rfl ?_
  refine r_callVB (av := []) (c_X8_thrown l g y aR τ2 ρ2) wM_X8_thrown wL_L_82 hI rfl ⟨by decide, by decide⟩ 0 8 rfl rfl rfl rfl dL_law_286 ?_
  rw [hth]
  refine r_iload 291 hI 5 dL_law_289 rfl rfl ?_
  refine r_icmp_eq 296 294 hI dL_law_291 (by decide) rfl (fun _ => ?_) (fun h => absurd rfl h)
  refine r_iload 298 hI 5 dL_law_296 rfl rfl ?_
  refine r_if_ne 313 301 hI dL_law_298 (by decide) rfl (fun _ => fin) (fun h0 => ?_)
  have hk0 : kk = 0 := nI_eqq (b := 0) (by omega) (by decide) (h0.trans rfl)
  have hc0 := hcv hk0
  refine r_aload_n 302 hI 3 dL_law_301 rfl rfl rfl ?_
  refine r_iconst (v := 0) 303 hI dL_law_302 rfl (by decide) ?_
  refine r_lald 304 67 hI (hwr67 aC aR σ2 ao f2 τ2 ρ2) (by unfold vp_in; decide) dL_law_303 rfl ?_
  refine r_iload 306 hI 6 dL_law_304 rfl rfl ?_
  refine r_i2l 307 hI dL_law_306 rfl ?_
  refine r_lcmp 308 hI dL_law_307 rfl ?_
  rw [show f2 (Int32.toNatClampNeg 0) = Int32.toInt64 bb from hc0]
  refine r_if_eq 313 311 hI dL_law_308 (by decide) rfl (fun _ => fin) (fun h => absurd (lg_cmp_self _) h)
set_option maxHeartbeats 4000000 in
set_option maxRecDepth 100000 in
theorem law_3 (hst : l.stackTraces = false) (hL : L ≤ 3072) (hZ : w_IsL l g y Z b L xs) (hi : i + 6 ≤ L) (hk : k + 1 ≤ room_1.cells) (hn : n + 6 ≤ room_1.slots) (hI0 : Inv σ τ ρ) (next : ∀ (k2 n2 : Nat) (σ2 τ2 : stT) (ρ2 : rtT) (f2 : Nat → Int64), Inv σ2 τ2 ρ2 → k2 ≤ k + 1 → n2 ≤ n + 6 → Z k2 n2 (hw aC y σ2 ao f2 ++ rw aR y τ2 ρ2) 1367 [(0, .ref b), (1, .ref (aC 0)), (2, .ref (aR 0)), (3, .ref ao), (4, .int (nI i))] []) : Z k n (hw aC y σ ao f ++ rw aR y τ ρ) 316 [(0, .ref b), (1, .ref (aC 0)), (2, .ref (aR 0)), (3, .ref ao), (4, .int (nI i))] [] := by
  have hI := hZ.e.is
  obtain ⟨kk, σ2, f2, bb, τ2, ρ2, d, hk3, hd8, hH, hR, hth, hcv, hI2⟩ := st_output (l := l) (g := g) (y := y) (aC := aC) (aR := aR) (ao := ao) (f := f) hst hI0 (xs (i + 1)) (xs (i + 2))
  have fin : Z (k + 1) (n + 6) (hw aC y σ2 ao f2 ++ rw aR y τ2 ρ2) 381 [(0, .ref b), (1, .ref (aC 0)), (2, .ref (aR 0)), (3, .ref ao), (4, .int (nI i)), (5, .int (nI kk)), (6, .int bb)] [] := by
    refine r_goto 1367 hI dL_law_381 (by decide) ?_
    refine r_lvs [(0, .ref b), (1, .ref (aC 0)), (2, .ref (aR 0)), (3, .ref ao), (4, .int (nI i))] [0, 1, 2, 3, 4] hZ rfl ?_
    exact next _ _ _ _ _ _ hI2 (Nat.le_refl _) (Nat.le_refl _)
  refine r_aload_n 317 hI 1 dL_law_316 rfl rfl rfl ?_
  refine r_aload_n 318 hI 0 dL_law_317 rfl rfl rfl ?_
  refine r_iload 320 hI 4 dL_law_318 rfl rfl ?_
  refine r_iconst (v := 1) 321 hI dL_law_320 rfl (by decide) ?_
  refine r_iadd 322 hI dL_law_321 rfl ?_
  refine r_sld 323 1 hZ rfl (by omega) hL dL_law_322 rfl ?_
  refine r_aload_n 324 hI 0 dL_law_323 rfl rfl rfl ?_
  refine r_iload 326 hI 4 dL_law_324 rfl rfl ?_
  refine r_iconst (v := 2) 327 hI dL_law_326 rfl (by decide) ?_
  refine r_iadd 328 hI dL_law_327 rfl ?_
  refine r_sld 329 2 hZ rfl (by omega) hL dL_law_328 rfl ?_
  refine r_aload_n 330 hI 3 dL_law_329 rfl rfl rfl ?_
  refine r_callHA hH wh_output rfl wL_L_92 hZ rfl ⟨by decide, by decide⟩ ⟨hk, hn⟩ (by rfl) rfl dL_law_330 ?_
  refine r_istN (q := 0) 335 [(0, .ref b), (1, .ref (aC 0)), (2, .ref (aR 0)), (3, .ref ao), (4, .int (nI i)), (5, .int (nI kk))] hI dL_law_333 rfl (by decide) rfl rfl ?_
  refine r_aload_n 336 hI 2 dL_law_335 rfl rfl rfl ?_
  refine r_aload_n 337 hI 0 dL_law_336 rfl rfl rfl ?_
  refine r_iload 339 hI 4 dL_law_337 rfl rfl ?_
  refine r_iconst (v := 1) 340 hI dL_law_339 rfl (by decide) ?_
  refine r_iadd 341 hI dL_law_340 rfl ?_
  refine r_sld 342 1 hZ rfl (by omega) hL dL_law_341 rfl ?_
  refine r_aload_n 343 hI 0 dL_law_342 rfl rfl rfl ?_
  refine r_iload 345 hI 4 dL_law_343 rfl rfl ?_
  refine r_iconst (v := 2) 346 hI dL_law_345 rfl (by decide) ?_
  refine r_iadd 347 hI dL_law_346 rfl ?_
  refine r_sld 348 2 hZ rfl (by omega) hL dL_law_347 rfl ?_
  refine r_callVB hR wM_X8_output wL_L_94 hI rfl ⟨by show d + 1 ≤ 10; omega, by show 8 + (4 + 11) + 34 * d ≤ 384; omega⟩ 0 8 rfl rfl rfl rfl dL_law_348 ?_
  refine r_istN (q := 0) 353 [(0, .ref b), (1, .ref (aC 0)), (2, .ref (aR 0)), (3, .ref ao), (4, .int (nI i)), (5, .int (nI kk)), (6, .int bb)] hI dL_law_351 rfl (by decide) rfl rfl ?_
  refine r_aload_n 354 hI 2 dL_law_353 rfl rfl rfl ?_
  refine r_callVB (av := []) (c_X8_thrown l g y aR τ2 ρ2) wM_X8_thrown wL_L_82 hI rfl ⟨by decide, by decide⟩ 0 8 rfl rfl rfl rfl dL_law_354 ?_
  rw [hth]
  refine r_iload 359 hI 5 dL_law_357 rfl rfl ?_
  refine r_icmp_eq 364 362 hI dL_law_359 (by decide) rfl (fun _ => ?_) (fun h => absurd rfl h)
  refine r_iload 366 hI 5 dL_law_364 rfl rfl ?_
  refine r_if_ne 381 369 hI dL_law_366 (by decide) rfl (fun _ => fin) (fun h0 => ?_)
  have hk0 : kk = 0 := nI_eqq (b := 0) (by omega) (by decide) (h0.trans rfl)
  have hc0 := hcv hk0
  refine r_aload_n 370 hI 3 dL_law_369 rfl rfl rfl ?_
  refine r_iconst (v := 0) 371 hI dL_law_370 rfl (by decide) ?_
  refine r_lald 372 67 hI (hwr67 aC aR σ2 ao f2 τ2 ρ2) (by unfold vp_in; decide) dL_law_371 rfl ?_
  refine r_iload 374 hI 6 dL_law_372 rfl rfl ?_
  refine r_i2l 375 hI dL_law_374 rfl ?_
  refine r_lcmp 376 hI dL_law_375 rfl ?_
  rw [show f2 (Int32.toNatClampNeg 0) = Int32.toInt64 bb from hc0]
  refine r_if_eq 381 379 hI dL_law_376 (by decide) rfl (fun _ => fin) (fun h => absurd (lg_cmp_self _) h)
set_option maxHeartbeats 4000000 in
set_option maxRecDepth 100000 in
theorem law_4 (hst : l.stackTraces = false) (hL : L ≤ 3072) (hZ : w_IsL l g y Z b L xs) (hi : i + 6 ≤ L) (hk : k + 1 ≤ room_1.cells) (hn : n + 6 ≤ room_1.slots) (hI0 : Inv σ τ ρ) (next : ∀ (k2 n2 : Nat) (σ2 τ2 : stT) (ρ2 : rtT) (f2 : Nat → Int64), Inv σ2 τ2 ρ2 → k2 ≤ k + 1 → n2 ≤ n + 6 → Z k2 n2 (hw aC y σ2 ao f2 ++ rw aR y τ2 ρ2) 1367 [(0, .ref b), (1, .ref (aC 0)), (2, .ref (aR 0)), (3, .ref ao), (4, .int (nI i))] []) : Z k n (hw aC y σ ao f ++ rw aR y τ ρ) 384 [(0, .ref b), (1, .ref (aC 0)), (2, .ref (aR 0)), (3, .ref ao), (4, .int (nI i))] [] := by
  have hI := hZ.e.is
  obtain ⟨kk, σ2, f2, bb, τ2, ρ2, d, hk3, hd8, hH, hR, hth, hcv, hI2⟩ := st_value (l := l) (g := g) (y := y) (aC := aC) (aR := aR) (ao := ao) (f := f) hst hI0 (xs (i + 1)) (xs (i + 2))
  have fin : Z (k + 1) (n + 6) (hw aC y σ2 ao f2 ++ rw aR y τ2 ρ2) 449 [(0, .ref b), (1, .ref (aC 0)), (2, .ref (aR 0)), (3, .ref ao), (4, .int (nI i)), (5, .int (nI kk)), (6, .int bb)] [] := by
    refine r_goto 1367 hI dL_law_449 (by decide) ?_
    refine r_lvs [(0, .ref b), (1, .ref (aC 0)), (2, .ref (aR 0)), (3, .ref ao), (4, .int (nI i))] [0, 1, 2, 3, 4] hZ rfl ?_
    exact next _ _ _ _ _ _ hI2 (Nat.le_refl _) (Nat.le_refl _)
  refine r_aload_n 385 hI 1 dL_law_384 rfl rfl rfl ?_
  refine r_aload_n 386 hI 0 dL_law_385 rfl rfl rfl ?_
  refine r_iload 388 hI 4 dL_law_386 rfl rfl ?_
  refine r_iconst (v := 1) 389 hI dL_law_388 rfl (by decide) ?_
  refine r_iadd 390 hI dL_law_389 rfl ?_
  refine r_sld 391 1 hZ rfl (by omega) hL dL_law_390 rfl ?_
  refine r_aload_n 392 hI 0 dL_law_391 rfl rfl rfl ?_
  refine r_iload 394 hI 4 dL_law_392 rfl rfl ?_
  refine r_iconst (v := 2) 395 hI dL_law_394 rfl (by decide) ?_
  refine r_iadd 396 hI dL_law_395 rfl ?_
  refine r_sld 397 2 hZ rfl (by omega) hL dL_law_396 rfl ?_
  refine r_aload_n 398 hI 3 dL_law_397 rfl rfl rfl ?_
  refine r_callHA hH wh_value rfl wL_L_95 hZ rfl ⟨by decide, by decide⟩ ⟨hk, hn⟩ (by rfl) rfl dL_law_398 ?_
  refine r_istN (q := 0) 403 [(0, .ref b), (1, .ref (aC 0)), (2, .ref (aR 0)), (3, .ref ao), (4, .int (nI i)), (5, .int (nI kk))] hI dL_law_401 rfl (by decide) rfl rfl ?_
  refine r_aload_n 404 hI 2 dL_law_403 rfl rfl rfl ?_
  refine r_aload_n 405 hI 0 dL_law_404 rfl rfl rfl ?_
  refine r_iload 407 hI 4 dL_law_405 rfl rfl ?_
  refine r_iconst (v := 1) 408 hI dL_law_407 rfl (by decide) ?_
  refine r_iadd 409 hI dL_law_408 rfl ?_
  refine r_sld 410 1 hZ rfl (by omega) hL dL_law_409 rfl ?_
  refine r_aload_n 411 hI 0 dL_law_410 rfl rfl rfl ?_
  refine r_iload 413 hI 4 dL_law_411 rfl rfl ?_
  refine r_iconst (v := 2) 414 hI dL_law_413 rfl (by decide) ?_
  refine r_iadd 415 hI dL_law_414 rfl ?_
  refine r_sld 416 2 hZ rfl (by omega) hL dL_law_415 rfl ?_
  refine r_callVB hR wM_X8_value wL_L_97 hI rfl ⟨by show d + 1 ≤ 10; omega, by show 8 + (4 + 11) + 34 * d ≤ 384; omega⟩ 0 8 rfl rfl rfl rfl dL_law_416 ?_
  refine r_istN (q := 0) 421 [(0, .ref b), (1, .ref (aC 0)), (2, .ref (aR 0)), (3, .ref ao), (4, .int (nI i)), (5, .int (nI kk)), (6, .int bb)] hI dL_law_419 rfl (by decide) rfl rfl ?_
  refine r_aload_n 422 hI 2 dL_law_421 rfl rfl rfl ?_
  refine r_callVB (av := []) (c_X8_thrown l g y aR τ2 ρ2) wM_X8_thrown wL_L_82 hI rfl ⟨by decide, by decide⟩ 0 8 rfl rfl rfl rfl dL_law_422 ?_
  rw [hth]
  refine r_iload 427 hI 5 dL_law_425 rfl rfl ?_
  refine r_icmp_eq 432 430 hI dL_law_427 (by decide) rfl (fun _ => ?_) (fun h => absurd rfl h)
  refine r_iload 434 hI 5 dL_law_432 rfl rfl ?_
  refine r_if_ne 449 437 hI dL_law_434 (by decide) rfl (fun _ => fin) (fun h0 => ?_)
  have hk0 : kk = 0 := nI_eqq (b := 0) (by omega) (by decide) (h0.trans rfl)
  have hc0 := hcv hk0
  refine r_aload_n 438 hI 3 dL_law_437 rfl rfl rfl ?_
  refine r_iconst (v := 0) 439 hI dL_law_438 rfl (by decide) ?_
  refine r_lald 440 67 hI (hwr67 aC aR σ2 ao f2 τ2 ρ2) (by unfold vp_in; decide) dL_law_439 rfl ?_
  refine r_iload 442 hI 6 dL_law_440 rfl rfl ?_
  refine r_i2l 443 hI dL_law_442 rfl ?_
  refine r_lcmp 444 hI dL_law_443 rfl ?_
  rw [show f2 (Int32.toNatClampNeg 0) = Int32.toInt64 bb from hc0]
  refine r_if_eq 449 447 hI dL_law_444 (by decide) rfl (fun _ => fin) (fun h => absurd (lg_cmp_self _) h)
set_option maxHeartbeats 4000000 in
set_option maxRecDepth 100000 in
theorem law_5 (hst : l.stackTraces = false) (hL : L ≤ 3072) (hZ : w_IsL l g y Z b L xs) (hi : i + 6 ≤ L) (hk : k + 1 ≤ room_1.cells) (hn : n + 6 ≤ room_1.slots) (hI0 : Inv σ τ ρ) (next : ∀ (k2 n2 : Nat) (σ2 τ2 : stT) (ρ2 : rtT) (f2 : Nat → Int64), Inv σ2 τ2 ρ2 → k2 ≤ k + 1 → n2 ≤ n + 6 → Z k2 n2 (hw aC y σ2 ao f2 ++ rw aR y τ2 ρ2) 1367 [(0, .ref b), (1, .ref (aC 0)), (2, .ref (aR 0)), (3, .ref ao), (4, .int (nI i))] []) : Z k n (hw aC y σ ao f ++ rw aR y τ ρ) 452 [(0, .ref b), (1, .ref (aC 0)), (2, .ref (aR 0)), (3, .ref ao), (4, .int (nI i))] [] := by
  have hI := hZ.e.is
  obtain ⟨v, hA, hB, hI2⟩ := st_dif (l := l) (g := g) (y := y) (aC := aC) (aR := aR) hI0
  refine r_aload_n 453 hI 1 dL_law_452 rfl rfl rfl ?_
  refine w_eqW (ws2 := cw aC y σ ++ ([(ao, .inl (y 3, 1, .inr (.inl f)))] ++ rw aR y τ ρ)) (List.append_assoc _ _ _) ?_
  refine r_callVA (av := []) (rest := []) hA wM_X7_differing wL_L_98 hI rfl ⟨by decide, by decide⟩ 0 7 rfl rfl rfl rfl dL_law_453 ?_
  refine w_eqW (ws2 := hw aC y σ ao f ++ rw aR y τ ρ) (List.append_assoc _ _ _).symm ?_
  refine r_aload_n 457 hI 2 dL_law_456 rfl rfl rfl ?_
  refine r_callVB (av := []) (rest := [.int v]) hB wM_X8_differing wL_L_101 hI rfl ⟨by decide, by decide⟩ 0 8 rfl rfl rfl rfl dL_law_457 ?_
  refine r_icmp_eq 1367 463 hI dL_law_460 (by decide) rfl (fun _ => ?_) (fun h => absurd rfl h)
  exact next _ _ _ _ _ _ hI2 (Nat.le_succ _) (Nat.le_add_right _ _)
set_option maxHeartbeats 4000000 in
set_option maxRecDepth 100000 in
theorem law_6 (hst : l.stackTraces = false) (hL : L ≤ 3072) (hZ : w_IsL l g y Z b L xs) (hi : i + 6 ≤ L) (hk : k + 1 ≤ room_1.cells) (hn : n + 6 ≤ room_1.slots) (hI0 : Inv σ τ ρ) (next : ∀ (k2 n2 : Nat) (σ2 τ2 : stT) (ρ2 : rtT) (f2 : Nat → Int64), Inv σ2 τ2 ρ2 → k2 ≤ k + 1 → n2 ≤ n + 6 → Z k2 n2 (hw aC y σ2 ao f2 ++ rw aR y τ2 ρ2) 1367 [(0, .ref b), (1, .ref (aC 0)), (2, .ref (aR 0)), (3, .ref ao), (4, .int (nI i))] []) : Z k n (hw aC y σ ao f ++ rw aR y τ ρ) 465 [(0, .ref b), (1, .ref (aC 0)), (2, .ref (aR 0)), (3, .ref ao), (4, .int (nI i))] [] := by
  have hI := hZ.e.is
  obtain ⟨kk, σ2, f2, bb, τ2, ρ2, d, hk3, hd8, hH, hR, hth, hcv, hI2⟩ := st_witness (l := l) (g := g) (y := y) (aC := aC) (aR := aR) (ao := ao) (f := f) hst hI0 (xs (i + 1))
  have fin : Z (k + 1) (n + 6) (hw aC y σ2 ao f2 ++ rw aR y τ2 ρ2) 518 [(0, .ref b), (1, .ref (aC 0)), (2, .ref (aR 0)), (3, .ref ao), (4, .int (nI i)), (5, .int (nI kk)), (6, .int bb)] [] := by
    refine r_goto 1367 hI dL_law_518 (by decide) ?_
    refine r_lvs [(0, .ref b), (1, .ref (aC 0)), (2, .ref (aR 0)), (3, .ref ao), (4, .int (nI i))] [0, 1, 2, 3, 4] hZ rfl ?_
    exact next _ _ _ _ _ _ hI2 (Nat.le_refl _) (Nat.le_refl _)
  refine r_aload_n 466 hI 1 dL_law_465 rfl rfl rfl ?_
  refine r_aload_n 467 hI 0 dL_law_466 rfl rfl rfl ?_
  refine r_iload 469 hI 4 dL_law_467 rfl rfl ?_
  refine r_iconst (v := 1) 470 hI dL_law_469 rfl (by decide) ?_
  refine r_iadd 471 hI dL_law_470 rfl ?_
  refine r_sld 472 1 hZ rfl (by omega) hL dL_law_471 rfl ?_
  refine r_aload_n 473 hI 3 dL_law_472 rfl rfl rfl ?_
  refine r_callHA hH wh_witness rfl wL_L_102 hZ rfl ⟨by decide, by decide⟩ ⟨hk, hn⟩ (by rfl) rfl dL_law_473 ?_
  refine r_istN (q := 0) 478 [(0, .ref b), (1, .ref (aC 0)), (2, .ref (aR 0)), (3, .ref ao), (4, .int (nI i)), (5, .int (nI kk))] hI dL_law_476 rfl (by decide) rfl rfl ?_
  refine r_aload_n 479 hI 2 dL_law_478 rfl rfl rfl ?_
  refine r_aload_n 480 hI 0 dL_law_479 rfl rfl rfl ?_
  refine r_iload 482 hI 4 dL_law_480 rfl rfl ?_
  refine r_iconst (v := 1) 483 hI dL_law_482 rfl (by decide) ?_
  refine r_iadd 484 hI dL_law_483 rfl ?_
  refine r_sld 485 1 hZ rfl (by omega) hL dL_law_484 rfl ?_
  refine r_callVB hR wM_X8_witness wL_L_105 hI rfl ⟨by show d + 1 ≤ 10; omega, by show 8 + (4 + 11) + 34 * d ≤ 384; omega⟩ 0 8 rfl rfl rfl rfl dL_law_485 ?_
  refine r_istN (q := 0) 490 [(0, .ref b), (1, .ref (aC 0)), (2, .ref (aR 0)), (3, .ref ao), (4, .int (nI i)), (5, .int (nI kk)), (6, .int bb)] hI dL_law_488 rfl (by decide) rfl rfl ?_
  refine r_aload_n 491 hI 2 dL_law_490 rfl rfl rfl ?_
  refine r_callVB (av := []) (c_X8_thrown l g y aR τ2 ρ2) wM_X8_thrown wL_L_82 hI rfl ⟨by decide, by decide⟩ 0 8 rfl rfl rfl rfl dL_law_491 ?_
  rw [hth]
  refine r_iload 496 hI 5 dL_law_494 rfl rfl ?_
  refine r_icmp_eq 501 499 hI dL_law_496 (by decide) rfl (fun _ => ?_) (fun h => absurd rfl h)
  refine r_iload 503 hI 5 dL_law_501 rfl rfl ?_
  refine r_if_ne 518 506 hI dL_law_503 (by decide) rfl (fun _ => fin) (fun h0 => ?_)
  have hk0 : kk = 0 := nI_eqq (b := 0) (by omega) (by decide) (h0.trans rfl)
  have hc0 := hcv hk0
  refine r_aload_n 507 hI 3 dL_law_506 rfl rfl rfl ?_
  refine r_iconst (v := 0) 508 hI dL_law_507 rfl (by decide) ?_
  refine r_lald 509 67 hI (hwr67 aC aR σ2 ao f2 τ2 ρ2) (by unfold vp_in; decide) dL_law_508 rfl ?_
  refine r_iload 511 hI 6 dL_law_509 rfl rfl ?_
  refine r_i2l 512 hI dL_law_511 rfl ?_
  refine r_lcmp 513 hI dL_law_512 rfl ?_
  rw [show f2 (Int32.toNatClampNeg 0) = Int32.toInt64 bb from hc0]
  refine r_if_eq 518 516 hI dL_law_513 (by decide) rfl (fun _ => fin) (fun h => absurd (lg_cmp_self _) h)
set_option maxHeartbeats 4000000 in
set_option maxRecDepth 100000 in
theorem law_7 (hst : l.stackTraces = false) (hL : L ≤ 3072) (hZ : w_IsL l g y Z b L xs) (hi : i + 6 ≤ L) (hk : k + 1 ≤ room_1.cells) (hn : n + 6 ≤ room_1.slots) (hI0 : Inv σ τ ρ) (next : ∀ (k2 n2 : Nat) (σ2 τ2 : stT) (ρ2 : rtT) (f2 : Nat → Int64), Inv σ2 τ2 ρ2 → k2 ≤ k + 1 → n2 ≤ n + 6 → Z k2 n2 (hw aC y σ2 ao f2 ++ rw aR y τ2 ρ2) 1367 [(0, .ref b), (1, .ref (aC 0)), (2, .ref (aR 0)), (3, .ref ao), (4, .int (nI i))] []) : Z k n (hw aC y σ ao f ++ rw aR y τ ρ) 521 [(0, .ref b), (1, .ref (aC 0)), (2, .ref (aR 0)), (3, .ref ao), (4, .int (nI i))] [] := by
  have hI := hZ.e.is
  obtain ⟨kk, σ2, f2, bb, τ2, ρ2, d, hk3, hd8, hH, hR, hth, hcv, hI2⟩ := st_matched (l := l) (g := g) (y := y) (aC := aC) (aR := aR) (ao := ao) (f := f) hst hI0 (xs (i + 1))
  have fin : Z (k + 1) (n + 6) (hw aC y σ2 ao f2 ++ rw aR y τ2 ρ2) 574 [(0, .ref b), (1, .ref (aC 0)), (2, .ref (aR 0)), (3, .ref ao), (4, .int (nI i)), (5, .int (nI kk)), (6, .int bb)] [] := by
    refine r_goto 1367 hI dL_law_574 (by decide) ?_
    refine r_lvs [(0, .ref b), (1, .ref (aC 0)), (2, .ref (aR 0)), (3, .ref ao), (4, .int (nI i))] [0, 1, 2, 3, 4] hZ rfl ?_
    exact next _ _ _ _ _ _ hI2 (Nat.le_refl _) (Nat.le_refl _)
  refine r_aload_n 522 hI 1 dL_law_521 rfl rfl rfl ?_
  refine r_aload_n 523 hI 0 dL_law_522 rfl rfl rfl ?_
  refine r_iload 525 hI 4 dL_law_523 rfl rfl ?_
  refine r_iconst (v := 1) 526 hI dL_law_525 rfl (by decide) ?_
  refine r_iadd 527 hI dL_law_526 rfl ?_
  refine r_sld 528 1 hZ rfl (by omega) hL dL_law_527 rfl ?_
  refine r_aload_n 529 hI 3 dL_law_528 rfl rfl rfl ?_
  refine r_callHA hH wh_matched rfl wL_L_106 hZ rfl ⟨by decide, by decide⟩ ⟨hk, hn⟩ (by rfl) rfl dL_law_529 ?_
  refine r_istN (q := 0) 534 [(0, .ref b), (1, .ref (aC 0)), (2, .ref (aR 0)), (3, .ref ao), (4, .int (nI i)), (5, .int (nI kk))] hI dL_law_532 rfl (by decide) rfl rfl ?_
  refine r_aload_n 535 hI 2 dL_law_534 rfl rfl rfl ?_
  refine r_aload_n 536 hI 0 dL_law_535 rfl rfl rfl ?_
  refine r_iload 538 hI 4 dL_law_536 rfl rfl ?_
  refine r_iconst (v := 1) 539 hI dL_law_538 rfl (by decide) ?_
  refine r_iadd 540 hI dL_law_539 rfl ?_
  refine r_sld 541 1 hZ rfl (by omega) hL dL_law_540 rfl ?_
  refine r_callVB hR wM_X8_matched wL_L_108 hI rfl ⟨by show d + 1 ≤ 10; omega, by show 8 + (3 + 11) + 34 * d ≤ 384; omega⟩ 0 8 rfl rfl rfl rfl dL_law_541 ?_
  refine r_istN (q := 0) 546 [(0, .ref b), (1, .ref (aC 0)), (2, .ref (aR 0)), (3, .ref ao), (4, .int (nI i)), (5, .int (nI kk)), (6, .int bb)] hI dL_law_544 rfl (by decide) rfl rfl ?_
  refine r_aload_n 547 hI 2 dL_law_546 rfl rfl rfl ?_
  refine r_callVB (av := []) (c_X8_thrown l g y aR τ2 ρ2) wM_X8_thrown wL_L_82 hI rfl ⟨by decide, by decide⟩ 0 8 rfl rfl rfl rfl dL_law_547 ?_
  rw [hth]
  refine r_iload 552 hI 5 dL_law_550 rfl rfl ?_
  refine r_icmp_eq 557 555 hI dL_law_552 (by decide) rfl (fun _ => ?_) (fun h => absurd rfl h)
  refine r_iload 559 hI 5 dL_law_557 rfl rfl ?_
  refine r_if_ne 574 562 hI dL_law_559 (by decide) rfl (fun _ => fin) (fun h0 => ?_)
  have hk0 : kk = 0 := nI_eqq (b := 0) (by omega) (by decide) (h0.trans rfl)
  have hc0 := hcv hk0
  refine r_aload_n 563 hI 3 dL_law_562 rfl rfl rfl ?_
  refine r_iconst (v := 0) 564 hI dL_law_563 rfl (by decide) ?_
  refine r_lald 565 67 hI (hwr67 aC aR σ2 ao f2 τ2 ρ2) (by unfold vp_in; decide) dL_law_564 rfl ?_
  refine r_iload 567 hI 6 dL_law_565 rfl rfl ?_
  refine r_i2l 568 hI dL_law_567 rfl ?_
  refine r_lcmp 569 hI dL_law_568 rfl ?_
  rw [show f2 (Int32.toNatClampNeg 0) = Int32.toInt64 bb from hc0]
  refine r_if_eq 574 572 hI dL_law_569 (by decide) rfl (fun _ => fin) (fun h => absurd (lg_cmp_self _) h)
set_option maxHeartbeats 4000000 in
set_option maxRecDepth 100000 in
theorem law_8 (hst : l.stackTraces = false) (hL : L ≤ 3072) (hZ : w_IsL l g y Z b L xs) (hi : i + 6 ≤ L) (hk : k + 1 ≤ room_1.cells) (hn : n + 6 ≤ room_1.slots) (hI0 : Inv σ τ ρ) (next : ∀ (k2 n2 : Nat) (σ2 τ2 : stT) (ρ2 : rtT) (f2 : Nat → Int64), Inv σ2 τ2 ρ2 → k2 ≤ k + 1 → n2 ≤ n + 6 → Z k2 n2 (hw aC y σ2 ao f2 ++ rw aR y τ2 ρ2) 1367 [(0, .ref b), (1, .ref (aC 0)), (2, .ref (aR 0)), (3, .ref ao), (4, .int (nI i))] []) : Z k n (hw aC y σ ao f ++ rw aR y τ ρ) 577 [(0, .ref b), (1, .ref (aC 0)), (2, .ref (aR 0)), (3, .ref ao), (4, .int (nI i))] [] := by
  have hI := hZ.e.is
  by_cases hz : xs (i + 2) = 0
  · obtain ⟨kk, σ2, f2, bb, τ2, ρ2, d, hk3, hd8, hH, hR, hth, hcv, hI2⟩ := st_keep (l := l) (g := g) (y := y) (aC := aC) (aR := aR) (ao := ao) (f := f) hst hI0 (xs (i + 1)) 0 (Or.inl rfl)
    have fin : Z (k + 1) (n + 6) (hw aC y σ2 ao f2 ++ rw aR y τ2 ρ2) 665 [(0, .ref b), (1, .ref (aC 0)), (2, .ref (aR 0)), (3, .ref ao), (4, .int (nI i)), (5, .int (nI kk)), (6, .int bb)] [] := by
      refine r_goto 1367 hI dL_law_665 (by decide) ?_
      refine r_lvs [(0, .ref b), (1, .ref (aC 0)), (2, .ref (aR 0)), (3, .ref ao), (4, .int (nI i))] [0, 1, 2, 3, 4] hZ rfl ?_
      exact next _ _ _ _ _ _ hI2 (Nat.le_refl _) (Nat.le_refl _)
    refine r_aload_n 578 hI 1 dL_law_577 rfl rfl rfl ?_
    refine r_aload_n 579 hI 0 dL_law_578 rfl rfl rfl ?_
    refine r_iload 581 hI 4 dL_law_579 rfl rfl ?_
    refine r_iconst (v := 1) 582 hI dL_law_581 rfl (by decide) ?_
    refine r_iadd 583 hI dL_law_582 rfl ?_
    refine r_sld 584 1 hZ rfl (by omega) hL dL_law_583 rfl ?_
    refine r_aload_n 585 hI 0 dL_law_584 rfl rfl rfl ?_
    refine r_iload 587 hI 4 dL_law_585 rfl rfl ?_
    refine r_iconst (v := 2) 588 hI dL_law_587 rfl (by decide) ?_
    refine r_iadd 589 hI dL_law_588 rfl ?_
    refine r_sld 590 2 hZ rfl (by omega) hL dL_law_589 rfl ?_
    refine r_if_eq 597 593 hI dL_law_590 (by decide) rfl (fun _ => ?_) (fun h => absurd hz h)
    refine r_iconst (v := 0) 598 hI dL_law_597 rfl (by decide) ?_
    refine r_aload_n 599 hI 3 dL_law_598 rfl rfl rfl ?_
    refine r_callHA hH wh_keep rfl wL_L_109 hZ rfl ⟨by decide, by decide⟩ ⟨hk, hn⟩ (by rfl) rfl dL_law_599 ?_
    refine r_istN (q := 0) 604 [(0, .ref b), (1, .ref (aC 0)), (2, .ref (aR 0)), (3, .ref ao), (4, .int (nI i)), (5, .int (nI kk))] hI dL_law_602 rfl (by decide) rfl rfl ?_
    refine r_aload_n 605 hI 2 dL_law_604 rfl rfl rfl ?_
    refine r_aload_n 606 hI 0 dL_law_605 rfl rfl rfl ?_
    refine r_iload 608 hI 4 dL_law_606 rfl rfl ?_
    refine r_iconst (v := 1) 609 hI dL_law_608 rfl (by decide) ?_
    refine r_iadd 610 hI dL_law_609 rfl ?_
    refine r_sld 611 1 hZ rfl (by omega) hL dL_law_610 rfl ?_
    refine r_aload_n 612 hI 0 dL_law_611 rfl rfl rfl ?_
    refine r_iload 614 hI 4 dL_law_612 rfl rfl ?_
    refine r_iconst (v := 2) 615 hI dL_law_614 rfl (by decide) ?_
    refine r_iadd 616 hI dL_law_615 rfl ?_
    refine r_sld 617 2 hZ rfl (by omega) hL dL_law_616 rfl ?_
    refine r_if_eq 624 620 hI dL_law_617 (by decide) rfl (fun _ => ?_) (fun h => absurd hz h)
    refine r_iconst (v := 0) 625 hI dL_law_624 rfl (by decide) ?_
    refine r_callVB hR wM_X8_keep wL_L_112 hI rfl ⟨by show d + 1 ≤ 10; omega, by show 8 + (3 + 11) + 34 * d ≤ 384; omega⟩ 0 8 rfl rfl rfl rfl dL_law_625 ?_
    refine r_istN (q := 0) 630 [(0, .ref b), (1, .ref (aC 0)), (2, .ref (aR 0)), (3, .ref ao), (4, .int (nI i)), (5, .int (nI kk)), (6, .int bb)] hI dL_law_628 rfl (by decide) rfl rfl ?_
    refine r_aload_n 631 hI 2 dL_law_630 rfl rfl rfl ?_
    refine r_callVB (av := []) (c_X8_thrown l g y aR τ2 ρ2) wM_X8_thrown wL_L_82 hI rfl ⟨by decide, by decide⟩ 0 8 rfl rfl rfl rfl dL_law_631 ?_
    rw [hth]
    refine r_iload 636 hI 5 dL_law_634 rfl rfl ?_
    refine r_icmp_eq 641 639 hI dL_law_636 (by decide) rfl (fun _ => ?_) (fun h => absurd rfl h)
    refine r_iload 643 hI 5 dL_law_641 rfl rfl ?_
    refine r_if_ne 665 646 hI dL_law_643 (by decide) rfl (fun _ => fin) (fun h0 => ?_)
    have hk0 : kk = 0 := nI_eqq (b := 0) (by omega) (by decide) (h0.trans rfl)
    have hc0 := hcv hk0
    refine r_aload_n 647 hI 3 dL_law_646 rfl rfl rfl ?_
    refine r_iconst (v := 0) 648 hI dL_law_647 rfl (by decide) ?_
    refine r_lald 649 67 hI (hwr67 aC aR σ2 ao f2 τ2 ρ2) (by unfold vp_in; decide) dL_law_648 rfl ?_
    refine r_iload 651 hI 6 dL_law_649 rfl rfl ?_
    by_cases hb0 : bb = 0
    · refine r_if_eq 658 654 hI dL_law_651 (by decide) rfl (fun _ => ?_) (fun h => absurd hb0 h)
      refine r_lconst (v := 0) 659 hI dL_law_658 rfl (by decide) ?_
      refine r_lcmp 660 hI dL_law_659 rfl ?_
      rw [show f2 (Int32.toNatClampNeg 0) = 0 from hc0.trans (if_pos hb0)]
      refine r_if_eq 665 663 hI dL_law_660 (by decide) rfl (fun _ => fin) (fun h => absurd (lg_cmp_self _) h)
    · refine r_if_eq 658 654 hI dL_law_651 (by decide) rfl (fun h => absurd h hb0) (fun _ => ?_)
      refine r_lconst (v := 1) 655 hI dL_law_654 rfl (by decide) ?_
      refine r_goto 659 hI dL_law_655 (by decide) ?_
      refine r_lcmp 660 hI dL_law_659 rfl ?_
      rw [show f2 (Int32.toNatClampNeg 0) = 1 from hc0.trans (if_neg hb0)]
      refine r_if_eq 665 663 hI dL_law_660 (by decide) rfl (fun _ => fin) (fun h => absurd (lg_cmp_self _) h)
  · obtain ⟨kk, σ2, f2, bb, τ2, ρ2, d, hk3, hd8, hH, hR, hth, hcv, hI2⟩ := st_keep (l := l) (g := g) (y := y) (aC := aC) (aR := aR) (ao := ao) (f := f) hst hI0 (xs (i + 1)) 1 (Or.inr rfl)
    have fin : Z (k + 1) (n + 6) (hw aC y σ2 ao f2 ++ rw aR y τ2 ρ2) 665 [(0, .ref b), (1, .ref (aC 0)), (2, .ref (aR 0)), (3, .ref ao), (4, .int (nI i)), (5, .int (nI kk)), (6, .int bb)] [] := by
      refine r_goto 1367 hI dL_law_665 (by decide) ?_
      refine r_lvs [(0, .ref b), (1, .ref (aC 0)), (2, .ref (aR 0)), (3, .ref ao), (4, .int (nI i))] [0, 1, 2, 3, 4] hZ rfl ?_
      exact next _ _ _ _ _ _ hI2 (Nat.le_refl _) (Nat.le_refl _)
    refine r_aload_n 578 hI 1 dL_law_577 rfl rfl rfl ?_
    refine r_aload_n 579 hI 0 dL_law_578 rfl rfl rfl ?_
    refine r_iload 581 hI 4 dL_law_579 rfl rfl ?_
    refine r_iconst (v := 1) 582 hI dL_law_581 rfl (by decide) ?_
    refine r_iadd 583 hI dL_law_582 rfl ?_
    refine r_sld 584 1 hZ rfl (by omega) hL dL_law_583 rfl ?_
    refine r_aload_n 585 hI 0 dL_law_584 rfl rfl rfl ?_
    refine r_iload 587 hI 4 dL_law_585 rfl rfl ?_
    refine r_iconst (v := 2) 588 hI dL_law_587 rfl (by decide) ?_
    refine r_iadd 589 hI dL_law_588 rfl ?_
    refine r_sld 590 2 hZ rfl (by omega) hL dL_law_589 rfl ?_
    refine r_if_eq 597 593 hI dL_law_590 (by decide) rfl (fun h => absurd h hz) (fun _ => ?_)
    refine r_iconst (v := 1) 594 hI dL_law_593 rfl (by decide) ?_
    refine r_goto 598 hI dL_law_594 (by decide) ?_
    refine r_aload_n 599 hI 3 dL_law_598 rfl rfl rfl ?_
    refine r_callHA hH wh_keep rfl wL_L_109 hZ rfl ⟨by decide, by decide⟩ ⟨hk, hn⟩ (by rfl) rfl dL_law_599 ?_
    refine r_istN (q := 0) 604 [(0, .ref b), (1, .ref (aC 0)), (2, .ref (aR 0)), (3, .ref ao), (4, .int (nI i)), (5, .int (nI kk))] hI dL_law_602 rfl (by decide) rfl rfl ?_
    refine r_aload_n 605 hI 2 dL_law_604 rfl rfl rfl ?_
    refine r_aload_n 606 hI 0 dL_law_605 rfl rfl rfl ?_
    refine r_iload 608 hI 4 dL_law_606 rfl rfl ?_
    refine r_iconst (v := 1) 609 hI dL_law_608 rfl (by decide) ?_
    refine r_iadd 610 hI dL_law_609 rfl ?_
    refine r_sld 611 1 hZ rfl (by omega) hL dL_law_610 rfl ?_
    refine r_aload_n 612 hI 0 dL_law_611 rfl rfl rfl ?_
    refine r_iload 614 hI 4 dL_law_612 rfl rfl ?_
    refine r_iconst (v := 2) 615 hI dL_law_614 rfl (by decide) ?_
    refine r_iadd 616 hI dL_law_615 rfl ?_
    refine r_sld 617 2 hZ rfl (by omega) hL dL_law_616 rfl ?_
    refine r_if_eq 624 620 hI dL_law_617 (by decide) rfl (fun h => absurd h hz) (fun _ => ?_)
    refine r_iconst (v := 1) 621 hI dL_law_620 rfl (by decide) ?_
    refine r_goto 625 hI dL_law_621 (by decide) ?_
    refine r_callVB hR wM_X8_keep wL_L_112 hI rfl ⟨by show d + 1 ≤ 10; omega, by show 8 + (3 + 11) + 34 * d ≤ 384; omega⟩ 0 8 rfl rfl rfl rfl dL_law_625 ?_
    refine r_istN (q := 0) 630 [(0, .ref b), (1, .ref (aC 0)), (2, .ref (aR 0)), (3, .ref ao), (4, .int (nI i)), (5, .int (nI kk)), (6, .int bb)] hI dL_law_628 rfl (by decide) rfl rfl ?_
    refine r_aload_n 631 hI 2 dL_law_630 rfl rfl rfl ?_
    refine r_callVB (av := []) (c_X8_thrown l g y aR τ2 ρ2) wM_X8_thrown wL_L_82 hI rfl ⟨by decide, by decide⟩ 0 8 rfl rfl rfl rfl dL_law_631 ?_
    rw [hth]
    refine r_iload 636 hI 5 dL_law_634 rfl rfl ?_
    refine r_icmp_eq 641 639 hI dL_law_636 (by decide) rfl (fun _ => ?_) (fun h => absurd rfl h)
    refine r_iload 643 hI 5 dL_law_641 rfl rfl ?_
    refine r_if_ne 665 646 hI dL_law_643 (by decide) rfl (fun _ => fin) (fun h0 => ?_)
    have hk0 : kk = 0 := nI_eqq (b := 0) (by omega) (by decide) (h0.trans rfl)
    have hc0 := hcv hk0
    refine r_aload_n 647 hI 3 dL_law_646 rfl rfl rfl ?_
    refine r_iconst (v := 0) 648 hI dL_law_647 rfl (by decide) ?_
    refine r_lald 649 67 hI (hwr67 aC aR σ2 ao f2 τ2 ρ2) (by unfold vp_in; decide) dL_law_648 rfl ?_
    refine r_iload 651 hI 6 dL_law_649 rfl rfl ?_
    by_cases hb0 : bb = 0
    · refine r_if_eq 658 654 hI dL_law_651 (by decide) rfl (fun _ => ?_) (fun h => absurd hb0 h)
      refine r_lconst (v := 0) 659 hI dL_law_658 rfl (by decide) ?_
      refine r_lcmp 660 hI dL_law_659 rfl ?_
      rw [show f2 (Int32.toNatClampNeg 0) = 0 from hc0.trans (if_pos hb0)]
      refine r_if_eq 665 663 hI dL_law_660 (by decide) rfl (fun _ => fin) (fun h => absurd (lg_cmp_self _) h)
    · refine r_if_eq 658 654 hI dL_law_651 (by decide) rfl (fun h => absurd h hb0) (fun _ => ?_)
      refine r_lconst (v := 1) 655 hI dL_law_654 rfl (by decide) ?_
      refine r_goto 659 hI dL_law_655 (by decide) ?_
      refine r_lcmp 660 hI dL_law_659 rfl ?_
      rw [show f2 (Int32.toNatClampNeg 0) = 1 from hc0.trans (if_neg hb0)]
      refine r_if_eq 665 663 hI dL_law_660 (by decide) rfl (fun _ => fin) (fun h => absurd (lg_cmp_self _) h)
set_option maxHeartbeats 4000000 in
set_option maxRecDepth 100000 in
theorem law_9 (hst : l.stackTraces = false) (hL : L ≤ 3072) (hZ : w_IsL l g y Z b L xs) (hi : i + 6 ≤ L) (hk : k + 1 ≤ room_1.cells) (hn : n + 6 ≤ room_1.slots) (hI0 : Inv σ τ ρ) (next : ∀ (k2 n2 : Nat) (σ2 τ2 : stT) (ρ2 : rtT) (f2 : Nat → Int64), Inv σ2 τ2 ρ2 → k2 ≤ k + 1 → n2 ≤ n + 6 → Z k2 n2 (hw aC y σ2 ao f2 ++ rw aR y τ2 ρ2) 1367 [(0, .ref b), (1, .ref (aC 0)), (2, .ref (aR 0)), (3, .ref ao), (4, .int (nI i))] []) : Z k n (hw aC y σ ao f ++ rw aR y τ ρ) 668 [(0, .ref b), (1, .ref (aC 0)), (2, .ref (aR 0)), (3, .ref ao), (4, .int (nI i))] [] := by
  have hI := hZ.e.is
  obtain ⟨kk, σ2, f2, bb, τ2, ρ2, d, hk3, hd8, hH, hR, hth, hcv, hI2⟩ := st_place (l := l) (g := g) (y := y) (aC := aC) (aR := aR) (ao := ao) (f := f) hst hI0 (xs (i + 1)) (((Int32.toInt64 (xs (i + 2))) <<< (Int32.toInt64 32 &&& 63)) ||| ((Int32.toInt64 (xs (i + 3))) &&& 4294967295)) (((Int32.toInt64 (xs (i + 4))) <<< (Int32.toInt64 32 &&& 63)) ||| ((Int32.toInt64 (xs (i + 5))) &&& 4294967295))
  have fin : Z (k + 1) (n + 6) (hw aC y σ2 ao f2 ++ rw aR y τ2 ρ2) 816 [(0, .ref b), (1, .ref (aC 0)), (2, .ref (aR 0)), (3, .ref ao), (4, .int (nI i)), (5, .int (nI kk)), (6, .int bb)] [] := by
    refine r_goto 1367 hI dL_law_816 (by decide) ?_
    refine r_lvs [(0, .ref b), (1, .ref (aC 0)), (2, .ref (aR 0)), (3, .ref ao), (4, .int (nI i))] [0, 1, 2, 3, 4] hZ rfl ?_
    exact next _ _ _ _ _ _ hI2 (Nat.le_refl _) (Nat.le_refl _)
  refine r_aload_n 669 hI 1 dL_law_668 rfl rfl rfl ?_
  refine r_aload_n 670 hI 0 dL_law_669 rfl rfl rfl ?_
  refine r_iload 672 hI 4 dL_law_670 rfl rfl ?_
  refine r_iconst (v := 1) 673 hI dL_law_672 rfl (by decide) ?_
  refine r_iadd 674 hI dL_law_673 rfl ?_
  refine r_sld 675 1 hZ rfl (by omega) hL dL_law_674 rfl ?_
  refine r_aload_n 676 hI 0 dL_law_675 rfl rfl rfl ?_
  refine r_iload 678 hI 4 dL_law_676 rfl rfl ?_
  refine r_iconst (v := 2) 679 hI dL_law_678 rfl (by decide) ?_
  refine r_iadd 680 hI dL_law_679 rfl ?_
  refine r_sld 681 2 hZ rfl (by omega) hL dL_law_680 rfl ?_
  refine r_i2l 682 hI dL_law_681 rfl ?_
  refine r_bipush (v := 32) 684 hI dL_law_682 rfl (by decide) ?_
  refine r_lshl 685 hI dL_law_684 rfl ?_
  refine r_aload_n 686 hI 0 dL_law_685 rfl rfl rfl ?_
  refine r_iload 688 hI 4 dL_law_686 rfl rfl ?_
  refine r_iconst (v := 3) 689 hI dL_law_688 rfl (by decide) ?_
  refine r_iadd 690 hI dL_law_689 rfl ?_
  refine r_sld 691 3 hZ rfl (by omega) hL dL_law_690 rfl ?_
  refine r_i2l 692 hI dL_law_691 rfl ?_
  refine r_ldc2 695 hI dL_law_692 rfl wK_L_113 ?_
  refine r_land 696 hI dL_law_695 rfl ?_
  refine r_lor 697 hI dL_law_696 rfl ?_
  refine r_aload_n 698 hI 0 dL_law_697 rfl rfl rfl ?_
  refine r_iload 700 hI 4 dL_law_698 rfl rfl ?_
  refine r_iconst (v := 4) 701 hI dL_law_700 rfl (by decide) ?_
  refine r_iadd 702 hI dL_law_701 rfl ?_
  refine r_sld 703 4 hZ rfl (by omega) hL dL_law_702 rfl ?_
  refine r_i2l 704 hI dL_law_703 rfl ?_
  refine r_bipush (v := 32) 706 hI dL_law_704 rfl (by decide) ?_
  refine r_lshl 707 hI dL_law_706 rfl ?_
  refine r_aload_n 708 hI 0 dL_law_707 rfl rfl rfl ?_
  refine r_iload 710 hI 4 dL_law_708 rfl rfl ?_
  refine r_iconst (v := 5) 711 hI dL_law_710 rfl (by decide) ?_
  refine r_iadd 712 hI dL_law_711 rfl ?_
  refine r_sld 713 5 hZ rfl (by omega) hL dL_law_712 rfl ?_
  refine r_i2l 714 hI dL_law_713 rfl ?_
  refine r_ldc2 717 hI dL_law_714 rfl wK_L_113 ?_
  refine r_land 718 hI dL_law_717 rfl ?_
  refine r_lor 719 hI dL_law_718 rfl ?_
  refine r_aload_n 720 hI 3 dL_law_719 rfl rfl rfl ?_
  refine r_callHA hH wh_place rfl wL_L_115 hZ rfl ⟨by decide, by decide⟩ ⟨hk, hn⟩ (by rfl) rfl dL_law_720 ?_
  refine r_istN (q := 0) 725 [(0, .ref b), (1, .ref (aC 0)), (2, .ref (aR 0)), (3, .ref ao), (4, .int (nI i)), (5, .int (nI kk))] hI dL_law_723 rfl (by decide) rfl rfl ?_
  refine r_aload_n 726 hI 2 dL_law_725 rfl rfl rfl ?_
  refine r_aload_n 727 hI 0 dL_law_726 rfl rfl rfl ?_
  refine r_iload 729 hI 4 dL_law_727 rfl rfl ?_
  refine r_iconst (v := 1) 730 hI dL_law_729 rfl (by decide) ?_
  refine r_iadd 731 hI dL_law_730 rfl ?_
  refine r_sld 732 1 hZ rfl (by omega) hL dL_law_731 rfl ?_
  refine r_aload_n 733 hI 0 dL_law_732 rfl rfl rfl ?_
  refine r_iload 735 hI 4 dL_law_733 rfl rfl ?_
  refine r_iconst (v := 2) 736 hI dL_law_735 rfl (by decide) ?_
  refine r_iadd 737 hI dL_law_736 rfl ?_
  refine r_sld 738 2 hZ rfl (by omega) hL dL_law_737 rfl ?_
  refine r_i2l 739 hI dL_law_738 rfl ?_
  refine r_bipush (v := 32) 741 hI dL_law_739 rfl (by decide) ?_
  refine r_lshl 742 hI dL_law_741 rfl ?_
  refine r_aload_n 743 hI 0 dL_law_742 rfl rfl rfl ?_
  refine r_iload 745 hI 4 dL_law_743 rfl rfl ?_
  refine r_iconst (v := 3) 746 hI dL_law_745 rfl (by decide) ?_
  refine r_iadd 747 hI dL_law_746 rfl ?_
  refine r_sld 748 3 hZ rfl (by omega) hL dL_law_747 rfl ?_
  refine r_i2l 749 hI dL_law_748 rfl ?_
  refine r_ldc2 752 hI dL_law_749 rfl wK_L_113 ?_
  refine r_land 753 hI dL_law_752 rfl ?_
  refine r_lor 754 hI dL_law_753 rfl ?_
  refine r_aload_n 755 hI 0 dL_law_754 rfl rfl rfl ?_
  refine r_iload 757 hI 4 dL_law_755 rfl rfl ?_
  refine r_iconst (v := 4) 758 hI dL_law_757 rfl (by decide) ?_
  refine r_iadd 759 hI dL_law_758 rfl ?_
  refine r_sld 760 4 hZ rfl (by omega) hL dL_law_759 rfl ?_
  refine r_i2l 761 hI dL_law_760 rfl ?_
  refine r_bipush (v := 32) 763 hI dL_law_761 rfl (by decide) ?_
  refine r_lshl 764 hI dL_law_763 rfl ?_
  refine r_aload_n 765 hI 0 dL_law_764 rfl rfl rfl ?_
  refine r_iload 767 hI 4 dL_law_765 rfl rfl ?_
  refine r_iconst (v := 5) 768 hI dL_law_767 rfl (by decide) ?_
  refine r_iadd 769 hI dL_law_768 rfl ?_
  refine r_sld 770 5 hZ rfl (by omega) hL dL_law_769 rfl ?_
  refine r_i2l 771 hI dL_law_770 rfl ?_
  refine r_ldc2 774 hI dL_law_771 rfl wK_L_113 ?_
  refine r_land 775 hI dL_law_774 rfl ?_
  refine r_lor 776 hI dL_law_775 rfl ?_
  refine r_callVB hR wM_X8_place wL_L_118 hI rfl ⟨by show d + 1 ≤ 10; omega, by show 8 + (6 + 11) + 34 * d ≤ 384; omega⟩ 0 8 rfl rfl rfl rfl dL_law_776 ?_
  refine r_istN (q := 0) 781 [(0, .ref b), (1, .ref (aC 0)), (2, .ref (aR 0)), (3, .ref ao), (4, .int (nI i)), (5, .int (nI kk)), (6, .int bb)] hI dL_law_779 rfl (by decide) rfl rfl ?_
  refine r_aload_n 782 hI 2 dL_law_781 rfl rfl rfl ?_
  refine r_callVB (av := []) (c_X8_thrown l g y aR τ2 ρ2) wM_X8_thrown wL_L_82 hI rfl ⟨by decide, by decide⟩ 0 8 rfl rfl rfl rfl dL_law_782 ?_
  rw [hth]
  refine r_iload 787 hI 5 dL_law_785 rfl rfl ?_
  refine r_icmp_eq 792 790 hI dL_law_787 (by decide) rfl (fun _ => ?_) (fun h => absurd rfl h)
  refine r_iload 794 hI 5 dL_law_792 rfl rfl ?_
  refine r_if_ne 816 797 hI dL_law_794 (by decide) rfl (fun _ => fin) (fun h0 => ?_)
  have hk0 : kk = 0 := nI_eqq (b := 0) (by omega) (by decide) (h0.trans rfl)
  have hc0 := hcv hk0
  refine r_aload_n 798 hI 3 dL_law_797 rfl rfl rfl ?_
  refine r_iconst (v := 0) 799 hI dL_law_798 rfl (by decide) ?_
  refine r_lald 800 67 hI (hwr67 aC aR σ2 ao f2 τ2 ρ2) (by unfold vp_in; decide) dL_law_799 rfl ?_
  refine r_iload 802 hI 6 dL_law_800 rfl rfl ?_
  by_cases hb0 : bb = 0
  · refine r_if_eq 809 805 hI dL_law_802 (by decide) rfl (fun _ => ?_) (fun h => absurd hb0 h)
    refine r_lconst (v := 0) 810 hI dL_law_809 rfl (by decide) ?_
    refine r_lcmp 811 hI dL_law_810 rfl ?_
    rw [show f2 (Int32.toNatClampNeg 0) = 0 from hc0.trans (if_pos hb0)]
    refine r_if_eq 816 814 hI dL_law_811 (by decide) rfl (fun _ => fin) (fun h => absurd (lg_cmp_self _) h)
  · refine r_if_eq 809 805 hI dL_law_802 (by decide) rfl (fun h => absurd h hb0) (fun _ => ?_)
    refine r_lconst (v := 1) 806 hI dL_law_805 rfl (by decide) ?_
    refine r_goto 810 hI dL_law_806 (by decide) ?_
    refine r_lcmp 811 hI dL_law_810 rfl ?_
    rw [show f2 (Int32.toNatClampNeg 0) = 1 from hc0.trans (if_neg hb0)]
    refine r_if_eq 816 814 hI dL_law_811 (by decide) rfl (fun _ => fin) (fun h => absurd (lg_cmp_self _) h)
set_option maxHeartbeats 4000000 in
set_option maxRecDepth 100000 in
theorem law_10 (hst : l.stackTraces = false) (hL : L ≤ 3072) (hZ : w_IsL l g y Z b L xs) (hi : i + 6 ≤ L) (hk : k + 1 ≤ room_1.cells) (hn : n + 6 ≤ room_1.slots) (hI0 : Inv σ τ ρ) (next : ∀ (k2 n2 : Nat) (σ2 τ2 : stT) (ρ2 : rtT) (f2 : Nat → Int64), Inv σ2 τ2 ρ2 → k2 ≤ k + 1 → n2 ≤ n + 6 → Z k2 n2 (hw aC y σ2 ao f2 ++ rw aR y τ2 ρ2) 1367 [(0, .ref b), (1, .ref (aC 0)), (2, .ref (aR 0)), (3, .ref ao), (4, .int (nI i))] []) : Z k n (hw aC y σ ao f ++ rw aR y τ ρ) 819 [(0, .ref b), (1, .ref (aC 0)), (2, .ref (aR 0)), (3, .ref ao), (4, .int (nI i))] [] := by
  have hI := hZ.e.is
  obtain ⟨kk, σ2, f2, bb, τ2, ρ2, d, hk3, hd8, hH, hR, hth, hcv, hI2⟩ := st_spare (l := l) (g := g) (y := y) (aC := aC) (aR := aR) (ao := ao) (f := f) hst hI0 (((Int32.toInt64 (xs (i + 1))) <<< (Int32.toInt64 32 &&& 63)) ||| ((Int32.toInt64 (xs (i + 2))) &&& 4294967295)) (((Int32.toInt64 (xs (i + 3))) <<< (Int32.toInt64 32 &&& 63)) ||| ((Int32.toInt64 (xs (i + 4))) &&& 4294967295))
  have fin : Z (k + 1) (n + 6) (hw aC y σ2 ao f2 ++ rw aR y τ2 ρ2) 948 [(0, .ref b), (1, .ref (aC 0)), (2, .ref (aR 0)), (3, .ref ao), (4, .int (nI i)), (5, .int (nI kk)), (6, .int bb)] [] := by
    refine r_goto 1367 hI dL_law_948 (by decide) ?_
    refine r_lvs [(0, .ref b), (1, .ref (aC 0)), (2, .ref (aR 0)), (3, .ref ao), (4, .int (nI i))] [0, 1, 2, 3, 4] hZ rfl ?_
    exact next _ _ _ _ _ _ hI2 (Nat.le_refl _) (Nat.le_refl _)
  refine r_aload_n 820 hI 1 dL_law_819 rfl rfl rfl ?_
  refine r_aload_n 821 hI 0 dL_law_820 rfl rfl rfl ?_
  refine r_iload 823 hI 4 dL_law_821 rfl rfl ?_
  refine r_iconst (v := 1) 824 hI dL_law_823 rfl (by decide) ?_
  refine r_iadd 825 hI dL_law_824 rfl ?_
  refine r_sld 826 1 hZ rfl (by omega) hL dL_law_825 rfl ?_
  refine r_i2l 827 hI dL_law_826 rfl ?_
  refine r_bipush (v := 32) 829 hI dL_law_827 rfl (by decide) ?_
  refine r_lshl 830 hI dL_law_829 rfl ?_
  refine r_aload_n 831 hI 0 dL_law_830 rfl rfl rfl ?_
  refine r_iload 833 hI 4 dL_law_831 rfl rfl ?_
  refine r_iconst (v := 2) 834 hI dL_law_833 rfl (by decide) ?_
  refine r_iadd 835 hI dL_law_834 rfl ?_
  refine r_sld 836 2 hZ rfl (by omega) hL dL_law_835 rfl ?_
  refine r_i2l 837 hI dL_law_836 rfl ?_
  refine r_ldc2 840 hI dL_law_837 rfl wK_L_113 ?_
  refine r_land 841 hI dL_law_840 rfl ?_
  refine r_lor 842 hI dL_law_841 rfl ?_
  refine r_aload_n 843 hI 0 dL_law_842 rfl rfl rfl ?_
  refine r_iload 845 hI 4 dL_law_843 rfl rfl ?_
  refine r_iconst (v := 3) 846 hI dL_law_845 rfl (by decide) ?_
  refine r_iadd 847 hI dL_law_846 rfl ?_
  refine r_sld 848 3 hZ rfl (by omega) hL dL_law_847 rfl ?_
  refine r_i2l 849 hI dL_law_848 rfl ?_
  refine r_bipush (v := 32) 851 hI dL_law_849 rfl (by decide) ?_
  refine r_lshl 852 hI dL_law_851 rfl ?_
  refine r_aload_n 853 hI 0 dL_law_852 rfl rfl rfl ?_
  refine r_iload 855 hI 4 dL_law_853 rfl rfl ?_
  refine r_iconst (v := 4) 856 hI dL_law_855 rfl (by decide) ?_
  refine r_iadd 857 hI dL_law_856 rfl ?_
  refine r_sld 858 4 hZ rfl (by omega) hL dL_law_857 rfl ?_
  refine r_i2l 859 hI dL_law_858 rfl ?_
  refine r_ldc2 862 hI dL_law_859 rfl wK_L_113 ?_
  refine r_land 863 hI dL_law_862 rfl ?_
  refine r_lor 864 hI dL_law_863 rfl ?_
  refine r_aload_n 865 hI 3 dL_law_864 rfl rfl rfl ?_
  refine r_callHA hH wh_spare rfl wL_L_119 hZ rfl ⟨by decide, by decide⟩ ⟨hk, hn⟩ (by rfl) rfl dL_law_865 ?_
  refine r_istN (q := 0) 870 [(0, .ref b), (1, .ref (aC 0)), (2, .ref (aR 0)), (3, .ref ao), (4, .int (nI i)), (5, .int (nI kk))] hI dL_law_868 rfl (by decide) rfl rfl ?_
  refine r_aload_n 871 hI 2 dL_law_870 rfl rfl rfl ?_
  refine r_aload_n 872 hI 0 dL_law_871 rfl rfl rfl ?_
  refine r_iload 874 hI 4 dL_law_872 rfl rfl ?_
  refine r_iconst (v := 1) 875 hI dL_law_874 rfl (by decide) ?_
  refine r_iadd 876 hI dL_law_875 rfl ?_
  refine r_sld 877 1 hZ rfl (by omega) hL dL_law_876 rfl ?_
  refine r_i2l 878 hI dL_law_877 rfl ?_
  refine r_bipush (v := 32) 880 hI dL_law_878 rfl (by decide) ?_
  refine r_lshl 881 hI dL_law_880 rfl ?_
  refine r_aload_n 882 hI 0 dL_law_881 rfl rfl rfl ?_
  refine r_iload 884 hI 4 dL_law_882 rfl rfl ?_
  refine r_iconst (v := 2) 885 hI dL_law_884 rfl (by decide) ?_
  refine r_iadd 886 hI dL_law_885 rfl ?_
  refine r_sld 887 2 hZ rfl (by omega) hL dL_law_886 rfl ?_
  refine r_i2l 888 hI dL_law_887 rfl ?_
  refine r_ldc2 891 hI dL_law_888 rfl wK_L_113 ?_
  refine r_land 892 hI dL_law_891 rfl ?_
  refine r_lor 893 hI dL_law_892 rfl ?_
  refine r_aload_n 894 hI 0 dL_law_893 rfl rfl rfl ?_
  refine r_iload 896 hI 4 dL_law_894 rfl rfl ?_
  refine r_iconst (v := 3) 897 hI dL_law_896 rfl (by decide) ?_
  refine r_iadd 898 hI dL_law_897 rfl ?_
  refine r_sld 899 3 hZ rfl (by omega) hL dL_law_898 rfl ?_
  refine r_i2l 900 hI dL_law_899 rfl ?_
  refine r_bipush (v := 32) 902 hI dL_law_900 rfl (by decide) ?_
  refine r_lshl 903 hI dL_law_902 rfl ?_
  refine r_aload_n 904 hI 0 dL_law_903 rfl rfl rfl ?_
  refine r_iload 906 hI 4 dL_law_904 rfl rfl ?_
  refine r_iconst (v := 4) 907 hI dL_law_906 rfl (by decide) ?_
  refine r_iadd 908 hI dL_law_907 rfl ?_
  refine r_sld 909 4 hZ rfl (by omega) hL dL_law_908 rfl ?_
  refine r_i2l 910 hI dL_law_909 rfl ?_
  refine r_ldc2 913 hI dL_law_910 rfl wK_L_113 ?_
  refine r_land 914 hI dL_law_913 rfl ?_
  refine r_lor 915 hI dL_law_914 rfl ?_
  refine r_callVB hR wM_X8_spare wL_L_122 hI rfl ⟨by show d + 1 ≤ 10; omega, by show 8 + (5 + 11) + 34 * d ≤ 384; omega⟩ 0 8 rfl rfl rfl rfl dL_law_915 ?_
  refine r_istN (q := 0) 920 [(0, .ref b), (1, .ref (aC 0)), (2, .ref (aR 0)), (3, .ref ao), (4, .int (nI i)), (5, .int (nI kk)), (6, .int bb)] hI dL_law_918 rfl (by decide) rfl rfl ?_
  refine r_aload_n 921 hI 2 dL_law_920 rfl rfl rfl ?_
  refine r_callVB (av := []) (c_X8_thrown l g y aR τ2 ρ2) wM_X8_thrown wL_L_82 hI rfl ⟨by decide, by decide⟩ 0 8 rfl rfl rfl rfl dL_law_921 ?_
  rw [hth]
  refine r_iload 926 hI 5 dL_law_924 rfl rfl ?_
  refine r_icmp_eq 931 929 hI dL_law_926 (by decide) rfl (fun _ => ?_) (fun h => absurd rfl h)
  refine r_iload 933 hI 5 dL_law_931 rfl rfl ?_
  refine r_if_ne 948 936 hI dL_law_933 (by decide) rfl (fun _ => fin) (fun h0 => ?_)
  have hk0 : kk = 0 := nI_eqq (b := 0) (by omega) (by decide) (h0.trans rfl)
  have hc0 := hcv hk0
  refine r_aload_n 937 hI 3 dL_law_936 rfl rfl rfl ?_
  refine r_iconst (v := 0) 938 hI dL_law_937 rfl (by decide) ?_
  refine r_lald 939 67 hI (hwr67 aC aR σ2 ao f2 τ2 ρ2) (by unfold vp_in; decide) dL_law_938 rfl ?_
  refine r_iload 941 hI 6 dL_law_939 rfl rfl ?_
  refine r_i2l 942 hI dL_law_941 rfl ?_
  refine r_lcmp 943 hI dL_law_942 rfl ?_
  rw [show f2 (Int32.toNatClampNeg 0) = Int32.toInt64 bb from hc0]
  refine r_if_eq 948 946 hI dL_law_943 (by decide) rfl (fun _ => fin) (fun h => absurd (lg_cmp_self _) h)
set_option maxHeartbeats 4000000 in
set_option maxRecDepth 100000 in
theorem law_11 (hst : l.stackTraces = false) (hL : L ≤ 3072) (hZ : w_IsL l g y Z b L xs) (hi : i + 6 ≤ L) (hk : k + 1 ≤ room_1.cells) (hn : n + 6 ≤ room_1.slots) (hI0 : Inv σ τ ρ) (next : ∀ (k2 n2 : Nat) (σ2 τ2 : stT) (ρ2 : rtT) (f2 : Nat → Int64), Inv σ2 τ2 ρ2 → k2 ≤ k + 1 → n2 ≤ n + 6 → Z k2 n2 (hw aC y σ2 ao f2 ++ rw aR y τ2 ρ2) 1367 [(0, .ref b), (1, .ref (aC 0)), (2, .ref (aR 0)), (3, .ref ao), (4, .int (nI i))] []) : Z k n (hw aC y σ ao f ++ rw aR y τ ρ) 951 [(0, .ref b), (1, .ref (aC 0)), (2, .ref (aR 0)), (3, .ref ao), (4, .int (nI i))] [] := by
  have hI := hZ.e.is
  obtain ⟨kk, σ2, f2, bb, τ2, ρ2, d, hk3, hd8, hH, hR, hth, hcv, hI2⟩ := st_run (l := l) (g := g) (y := y) (aC := aC) (aR := aR) (ao := ao) (f := f) hst hI0 (xs (i + 1))
  have fin : Z (k + 1) (n + 6) (hw aC y σ2 ao f2 ++ rw aR y τ2 ρ2) 1004 [(0, .ref b), (1, .ref (aC 0)), (2, .ref (aR 0)), (3, .ref ao), (4, .int (nI i)), (5, .int (nI kk)), (6, .int bb)] [] := by
    refine r_goto 1367 hI dL_law_1004 (by decide) ?_
    refine r_lvs [(0, .ref b), (1, .ref (aC 0)), (2, .ref (aR 0)), (3, .ref ao), (4, .int (nI i))] [0, 1, 2, 3, 4] hZ rfl ?_
    exact next _ _ _ _ _ _ hI2 (Nat.le_refl _) (Nat.le_refl _)
  refine r_aload_n 952 hI 1 dL_law_951 rfl rfl rfl ?_
  refine r_aload_n 953 hI 0 dL_law_952 rfl rfl rfl ?_
  refine r_iload 955 hI 4 dL_law_953 rfl rfl ?_
  refine r_iconst (v := 1) 956 hI dL_law_955 rfl (by decide) ?_
  refine r_iadd 957 hI dL_law_956 rfl ?_
  refine r_sld 958 1 hZ rfl (by omega) hL dL_law_957 rfl ?_
  refine r_aload_n 959 hI 3 dL_law_958 rfl rfl rfl ?_
  refine r_callHA hH wh_run rfl wL_L_123 hZ rfl ⟨by decide, by decide⟩ ⟨hk, hn⟩ (by rfl) rfl dL_law_959 ?_
  refine r_istN (q := 0) 964 [(0, .ref b), (1, .ref (aC 0)), (2, .ref (aR 0)), (3, .ref ao), (4, .int (nI i)), (5, .int (nI kk))] hI dL_law_962 rfl (by decide) rfl rfl ?_
  refine r_aload_n 965 hI 2 dL_law_964 rfl rfl rfl ?_
  refine r_aload_n 966 hI 0 dL_law_965 rfl rfl rfl ?_
  refine r_iload 968 hI 4 dL_law_966 rfl rfl ?_
  refine r_iconst (v := 1) 969 hI dL_law_968 rfl (by decide) ?_
  refine r_iadd 970 hI dL_law_969 rfl ?_
  refine r_sld 971 1 hZ rfl (by omega) hL dL_law_970 rfl ?_
  refine r_callVB hR wM_X8_run wL_L_125 hI rfl ⟨by show d + 1 ≤ 10; omega, by show 8 + (3 + 11) + 34 * d ≤ 384; omega⟩ 0 8 rfl rfl rfl rfl dL_law_971 ?_
  refine r_istN (q := 0) 976 [(0, .ref b), (1, .ref (aC 0)), (2, .ref (aR 0)), (3, .ref ao), (4, .int (nI i)), (5, .int (nI kk)), (6, .int bb)] hI dL_law_974 rfl (by decide) rfl rfl ?_
  refine r_aload_n 977 hI 2 dL_law_976 rfl rfl rfl ?_
  refine r_callVB (av := []) (c_X8_thrown l g y aR τ2 ρ2) wM_X8_thrown wL_L_82 hI rfl ⟨by decide, by decide⟩ 0 8 rfl rfl rfl rfl dL_law_977 ?_
  rw [hth]
  refine r_iload 982 hI 5 dL_law_980 rfl rfl ?_
  refine r_icmp_eq 987 985 hI dL_law_982 (by decide) rfl (fun _ => ?_) (fun h => absurd rfl h)
  refine r_iload 989 hI 5 dL_law_987 rfl rfl ?_
  refine r_if_ne 1004 992 hI dL_law_989 (by decide) rfl (fun _ => fin) (fun h0 => ?_)
  have hk0 : kk = 0 := nI_eqq (b := 0) (by omega) (by decide) (h0.trans rfl)
  have hc0 := hcv hk0
  refine r_aload_n 993 hI 3 dL_law_992 rfl rfl rfl ?_
  refine r_iconst (v := 0) 994 hI dL_law_993 rfl (by decide) ?_
  refine r_lald 995 67 hI (hwr67 aC aR σ2 ao f2 τ2 ρ2) (by unfold vp_in; decide) dL_law_994 rfl ?_
  refine r_iload 997 hI 6 dL_law_995 rfl rfl ?_
  refine r_i2l 998 hI dL_law_997 rfl ?_
  refine r_lcmp 999 hI dL_law_998 rfl ?_
  rw [show f2 (Int32.toNatClampNeg 0) = Int32.toInt64 bb from hc0]
  refine r_if_eq 1004 1002 hI dL_law_999 (by decide) rfl (fun _ => fin) (fun h => absurd (lg_cmp_self _) h)
set_option maxHeartbeats 4000000 in
set_option maxRecDepth 100000 in
theorem law_12 (hst : l.stackTraces = false) (hL : L ≤ 3072) (hZ : w_IsL l g y Z b L xs) (hi : i + 6 ≤ L) (hk : k + 1 ≤ room_1.cells) (hn : n + 6 ≤ room_1.slots) (hI0 : Inv σ τ ρ) (next : ∀ (k2 n2 : Nat) (σ2 τ2 : stT) (ρ2 : rtT) (f2 : Nat → Int64), Inv σ2 τ2 ρ2 → k2 ≤ k + 1 → n2 ≤ n + 6 → Z k2 n2 (hw aC y σ2 ao f2 ++ rw aR y τ2 ρ2) 1367 [(0, .ref b), (1, .ref (aC 0)), (2, .ref (aR 0)), (3, .ref ao), (4, .int (nI i))] []) : Z k n (hw aC y σ ao f ++ rw aR y τ ρ) 1007 [(0, .ref b), (1, .ref (aC 0)), (2, .ref (aR 0)), (3, .ref ao), (4, .int (nI i))] [] := by
  have hI := hZ.e.is
  obtain ⟨kk, σ2, f2, bb, τ2, ρ2, d, hk3, hd8, hH, hR, hth, hcv, hI2⟩ := st_edit (l := l) (g := g) (y := y) (aC := aC) (aR := aR) (ao := ao) (f := f) hst hI0 (xs (i + 1)) (xs (i + 2))
  have fin : Z (k + 1) (n + 6) (hw aC y σ2 ao f2 ++ rw aR y τ2 ρ2) 1072 [(0, .ref b), (1, .ref (aC 0)), (2, .ref (aR 0)), (3, .ref ao), (4, .int (nI i)), (5, .int (nI kk)), (6, .int bb)] [] := by
    refine r_goto 1367 hI dL_law_1072 (by decide) ?_
    refine r_lvs [(0, .ref b), (1, .ref (aC 0)), (2, .ref (aR 0)), (3, .ref ao), (4, .int (nI i))] [0, 1, 2, 3, 4] hZ rfl ?_
    exact next _ _ _ _ _ _ hI2 (Nat.le_refl _) (Nat.le_refl _)
  refine r_aload_n 1008 hI 1 dL_law_1007 rfl rfl rfl ?_
  refine r_aload_n 1009 hI 0 dL_law_1008 rfl rfl rfl ?_
  refine r_iload 1011 hI 4 dL_law_1009 rfl rfl ?_
  refine r_iconst (v := 1) 1012 hI dL_law_1011 rfl (by decide) ?_
  refine r_iadd 1013 hI dL_law_1012 rfl ?_
  refine r_sld 1014 1 hZ rfl (by omega) hL dL_law_1013 rfl ?_
  refine r_aload_n 1015 hI 0 dL_law_1014 rfl rfl rfl ?_
  refine r_iload 1017 hI 4 dL_law_1015 rfl rfl ?_
  refine r_iconst (v := 2) 1018 hI dL_law_1017 rfl (by decide) ?_
  refine r_iadd 1019 hI dL_law_1018 rfl ?_
  refine r_sld 1020 2 hZ rfl (by omega) hL dL_law_1019 rfl ?_
  refine r_aload_n 1021 hI 3 dL_law_1020 rfl rfl rfl ?_
  refine r_callHA hH wh_edit rfl wL_L_126 hZ rfl ⟨by decide, by decide⟩ ⟨hk, hn⟩ (by rfl) rfl dL_law_1021 ?_
  refine r_istN (q := 0) 1026 [(0, .ref b), (1, .ref (aC 0)), (2, .ref (aR 0)), (3, .ref ao), (4, .int (nI i)), (5, .int (nI kk))] hI dL_law_1024 rfl (by decide) rfl rfl ?_
  refine r_aload_n 1027 hI 2 dL_law_1026 rfl rfl rfl ?_
  refine r_aload_n 1028 hI 0 dL_law_1027 rfl rfl rfl ?_
  refine r_iload 1030 hI 4 dL_law_1028 rfl rfl ?_
  refine r_iconst (v := 1) 1031 hI dL_law_1030 rfl (by decide) ?_
  refine r_iadd 1032 hI dL_law_1031 rfl ?_
  refine r_sld 1033 1 hZ rfl (by omega) hL dL_law_1032 rfl ?_
  refine r_aload_n 1034 hI 0 dL_law_1033 rfl rfl rfl ?_
  refine r_iload 1036 hI 4 dL_law_1034 rfl rfl ?_
  refine r_iconst (v := 2) 1037 hI dL_law_1036 rfl (by decide) ?_
  refine r_iadd 1038 hI dL_law_1037 rfl ?_
  refine r_sld 1039 2 hZ rfl (by omega) hL dL_law_1038 rfl ?_
  refine r_callVB hR wM_X8_edit wL_L_128 hI rfl ⟨by show d + 1 ≤ 10; omega, by show 8 + (3 + 11) + 34 * d ≤ 384; omega⟩ 0 8 rfl rfl rfl rfl dL_law_1039 ?_
  refine r_istN (q := 0) 1044 [(0, .ref b), (1, .ref (aC 0)), (2, .ref (aR 0)), (3, .ref ao), (4, .int (nI i)), (5, .int (nI kk)), (6, .int bb)] hI dL_law_1042 rfl (by decide) rfl rfl ?_
  refine r_aload_n 1045 hI 2 dL_law_1044 rfl rfl rfl ?_
  refine r_callVB (av := []) (c_X8_thrown l g y aR τ2 ρ2) wM_X8_thrown wL_L_82 hI rfl ⟨by decide, by decide⟩ 0 8 rfl rfl rfl rfl dL_law_1045 ?_
  rw [hth]
  refine r_iload 1050 hI 5 dL_law_1048 rfl rfl ?_
  refine r_icmp_eq 1055 1053 hI dL_law_1050 (by decide) rfl (fun _ => ?_) (fun h => absurd rfl h)
  refine r_iload 1057 hI 5 dL_law_1055 rfl rfl ?_
  refine r_if_ne 1072 1060 hI dL_law_1057 (by decide) rfl (fun _ => fin) (fun h0 => ?_)
  have hk0 : kk = 0 := nI_eqq (b := 0) (by omega) (by decide) (h0.trans rfl)
  have hc0 := hcv hk0
  refine r_aload_n 1061 hI 3 dL_law_1060 rfl rfl rfl ?_
  refine r_iconst (v := 0) 1062 hI dL_law_1061 rfl (by decide) ?_
  refine r_lald 1063 67 hI (hwr67 aC aR σ2 ao f2 τ2 ρ2) (by unfold vp_in; decide) dL_law_1062 rfl ?_
  refine r_iload 1065 hI 6 dL_law_1063 rfl rfl ?_
  refine r_i2l 1066 hI dL_law_1065 rfl ?_
  refine r_lcmp 1067 hI dL_law_1066 rfl ?_
  rw [show f2 (Int32.toNatClampNeg 0) = Int32.toInt64 bb from hc0]
  refine r_if_eq 1072 1070 hI dL_law_1067 (by decide) rfl (fun _ => fin) (fun h => absurd (lg_cmp_self _) h)
set_option maxHeartbeats 4000000 in
set_option maxRecDepth 100000 in
theorem law_13 (hst : l.stackTraces = false) (hL : L ≤ 3072) (hZ : w_IsL l g y Z b L xs) (hi : i + 6 ≤ L) (hk : k + 1 ≤ room_1.cells) (hn : n + 6 ≤ room_1.slots) (hI0 : Inv σ τ ρ) (next : ∀ (k2 n2 : Nat) (σ2 τ2 : stT) (ρ2 : rtT) (f2 : Nat → Int64), Inv σ2 τ2 ρ2 → k2 ≤ k + 1 → n2 ≤ n + 6 → Z k2 n2 (hw aC y σ2 ao f2 ++ rw aR y τ2 ρ2) 1367 [(0, .ref b), (1, .ref (aC 0)), (2, .ref (aR 0)), (3, .ref ao), (4, .int (nI i))] []) : Z k n (hw aC y σ ao f ++ rw aR y τ ρ) 1075 [(0, .ref b), (1, .ref (aC 0)), (2, .ref (aR 0)), (3, .ref ao), (4, .int (nI i))] [] := by
  have hI := hZ.e.is
  obtain ⟨kk, σ2, f2, bb, τ2, ρ2, d, hk3, hd8, hH, hR, hth, hcv, hI2⟩ := st_used (l := l) (g := g) (y := y) (aC := aC) (aR := aR) (ao := ao) (f := f) hst hI0 (xs (i + 1))
  have fin : Z (k + 1) (n + 6) (hw aC y σ2 ao f2 ++ rw aR y τ2 ρ2) 1128 [(0, .ref b), (1, .ref (aC 0)), (2, .ref (aR 0)), (3, .ref ao), (4, .int (nI i)), (5, .int (nI kk)), (6, .int bb)] [] := by
    refine r_goto 1367 hI dL_law_1128 (by decide) ?_
    refine r_lvs [(0, .ref b), (1, .ref (aC 0)), (2, .ref (aR 0)), (3, .ref ao), (4, .int (nI i))] [0, 1, 2, 3, 4] hZ rfl ?_
    exact next _ _ _ _ _ _ hI2 (Nat.le_refl _) (Nat.le_refl _)
  refine r_aload_n 1076 hI 1 dL_law_1075 rfl rfl rfl ?_
  refine r_aload_n 1077 hI 0 dL_law_1076 rfl rfl rfl ?_
  refine r_iload 1079 hI 4 dL_law_1077 rfl rfl ?_
  refine r_iconst (v := 1) 1080 hI dL_law_1079 rfl (by decide) ?_
  refine r_iadd 1081 hI dL_law_1080 rfl ?_
  refine r_sld 1082 1 hZ rfl (by omega) hL dL_law_1081 rfl ?_
  refine r_aload_n 1083 hI 3 dL_law_1082 rfl rfl rfl ?_
  refine r_callHA hH wh_used rfl wL_L_129 hZ rfl ⟨by decide, by decide⟩ ⟨hk, hn⟩ (by rfl) rfl dL_law_1083 ?_
  refine r_istN (q := 0) 1088 [(0, .ref b), (1, .ref (aC 0)), (2, .ref (aR 0)), (3, .ref ao), (4, .int (nI i)), (5, .int (nI kk))] hI dL_law_1086 rfl (by decide) rfl rfl ?_
  refine r_aload_n 1089 hI 2 dL_law_1088 rfl rfl rfl ?_
  refine r_aload_n 1090 hI 0 dL_law_1089 rfl rfl rfl ?_
  refine r_iload 1092 hI 4 dL_law_1090 rfl rfl ?_
  refine r_iconst (v := 1) 1093 hI dL_law_1092 rfl (by decide) ?_
  refine r_iadd 1094 hI dL_law_1093 rfl ?_
  refine r_sld 1095 1 hZ rfl (by omega) hL dL_law_1094 rfl ?_
  refine r_callVB hR wM_X8_used wL_L_131 hI rfl ⟨by show d + 1 ≤ 10; omega, by show 8 + (2 + 11) + 34 * d ≤ 384; omega⟩ 0 8 rfl rfl rfl rfl dL_law_1095 ?_
  refine r_istN (q := 0) 1100 [(0, .ref b), (1, .ref (aC 0)), (2, .ref (aR 0)), (3, .ref ao), (4, .int (nI i)), (5, .int (nI kk)), (6, .int bb)] hI dL_law_1098 rfl (by decide) rfl rfl ?_
  refine r_aload_n 1101 hI 2 dL_law_1100 rfl rfl rfl ?_
  refine r_callVB (av := []) (c_X8_thrown l g y aR τ2 ρ2) wM_X8_thrown wL_L_82 hI rfl ⟨by decide, by decide⟩ 0 8 rfl rfl rfl rfl dL_law_1101 ?_
  rw [hth]
  refine r_iload 1106 hI 5 dL_law_1104 rfl rfl ?_
  refine r_icmp_eq 1111 1109 hI dL_law_1106 (by decide) rfl (fun _ => ?_) (fun h => absurd rfl h)
  refine r_iload 1113 hI 5 dL_law_1111 rfl rfl ?_
  refine r_if_ne 1128 1116 hI dL_law_1113 (by decide) rfl (fun _ => fin) (fun h0 => ?_)
  have hk0 : kk = 0 := nI_eqq (b := 0) (by omega) (by decide) (h0.trans rfl)
  have hc0 := hcv hk0
  refine r_aload_n 1117 hI 3 dL_law_1116 rfl rfl rfl ?_
  refine r_iconst (v := 0) 1118 hI dL_law_1117 rfl (by decide) ?_
  refine r_lald 1119 67 hI (hwr67 aC aR σ2 ao f2 τ2 ρ2) (by unfold vp_in; decide) dL_law_1118 rfl ?_
  refine r_iload 1121 hI 6 dL_law_1119 rfl rfl ?_
  refine r_i2l 1122 hI dL_law_1121 rfl ?_
  refine r_lcmp 1123 hI dL_law_1122 rfl ?_
  rw [show f2 (Int32.toNatClampNeg 0) = Int32.toInt64 bb from hc0]
  refine r_if_eq 1128 1126 hI dL_law_1123 (by decide) rfl (fun _ => fin) (fun h => absurd (lg_cmp_self _) h)
set_option maxHeartbeats 4000000 in
set_option maxRecDepth 100000 in
theorem law_14 (hst : l.stackTraces = false) (hL : L ≤ 3072) (hZ : w_IsL l g y Z b L xs) (hi : i + 6 ≤ L) (hk : k + 1 ≤ room_1.cells) (hn : n + 6 ≤ room_1.slots) (hI0 : Inv σ τ ρ) (next : ∀ (k2 n2 : Nat) (σ2 τ2 : stT) (ρ2 : rtT) (f2 : Nat → Int64), Inv σ2 τ2 ρ2 → k2 ≤ k + 1 → n2 ≤ n + 6 → Z k2 n2 (hw aC y σ2 ao f2 ++ rw aR y τ2 ρ2) 1367 [(0, .ref b), (1, .ref (aC 0)), (2, .ref (aR 0)), (3, .ref ao), (4, .int (nI i))] []) : Z k n (hw aC y σ ao f ++ rw aR y τ ρ) 1131 [(0, .ref b), (1, .ref (aC 0)), (2, .ref (aR 0)), (3, .ref ao), (4, .int (nI i))] [] := by
  have hI := hZ.e.is
  obtain ⟨kk, σ2, f2, bb, τ2, ρ2, d, hk3, hd8, hH, hR, hth, hcv, hI2⟩ := st_length (l := l) (g := g) (y := y) (aC := aC) (aR := aR) (ao := ao) (f := f) hst hI0
  have fin : Z (k + 1) (n + 6) (hw aC y σ2 ao f2 ++ rw aR y τ2 ρ2) 1172 [(0, .ref b), (1, .ref (aC 0)), (2, .ref (aR 0)), (3, .ref ao), (4, .int (nI i)), (5, .int (nI kk)), (6, .int bb)] [] := by
    refine r_goto 1367 hI dL_law_1172 (by decide) ?_
    refine r_lvs [(0, .ref b), (1, .ref (aC 0)), (2, .ref (aR 0)), (3, .ref ao), (4, .int (nI i))] [0, 1, 2, 3, 4] hZ rfl ?_
    exact next _ _ _ _ _ _ hI2 (Nat.le_refl _) (Nat.le_refl _)
  refine r_aload_n 1132 hI 1 dL_law_1131 rfl rfl rfl ?_
  refine r_aload_n 1133 hI 3 dL_law_1132 rfl rfl rfl ?_
  refine r_callHA hH wh_length rfl wL_L_132 hZ rfl ⟨by decide, by decide⟩ ⟨hk, hn⟩ (by rfl) rfl dL_law_1133 ?_
  refine r_istN (q := 0) 1138 [(0, .ref b), (1, .ref (aC 0)), (2, .ref (aR 0)), (3, .ref ao), (4, .int (nI i)), (5, .int (nI kk))] hI dL_law_1136 rfl (by decide) rfl rfl ?_
  refine r_aload_n 1139 hI 2 dL_law_1138 rfl rfl rfl ?_
  refine r_callVB hR wM_X8_length wL_L_134 hI rfl ⟨by show d + 1 ≤ 10; omega, by show 8 + (1 + 11) + 34 * d ≤ 384; omega⟩ 0 8 rfl rfl rfl rfl dL_law_1139 ?_
  refine r_istN (q := 0) 1144 [(0, .ref b), (1, .ref (aC 0)), (2, .ref (aR 0)), (3, .ref ao), (4, .int (nI i)), (5, .int (nI kk)), (6, .int bb)] hI dL_law_1142 rfl (by decide) rfl rfl ?_
  refine r_aload_n 1145 hI 2 dL_law_1144 rfl rfl rfl ?_
  refine r_callVB (av := []) (c_X8_thrown l g y aR τ2 ρ2) wM_X8_thrown wL_L_82 hI rfl ⟨by decide, by decide⟩ 0 8 rfl rfl rfl rfl dL_law_1145 ?_
  rw [hth]
  refine r_iload 1150 hI 5 dL_law_1148 rfl rfl ?_
  refine r_icmp_eq 1155 1153 hI dL_law_1150 (by decide) rfl (fun _ => ?_) (fun h => absurd rfl h)
  refine r_iload 1157 hI 5 dL_law_1155 rfl rfl ?_
  refine r_if_ne 1172 1160 hI dL_law_1157 (by decide) rfl (fun _ => fin) (fun h0 => ?_)
  have hk0 : kk = 0 := nI_eqq (b := 0) (by omega) (by decide) (h0.trans rfl)
  have hc0 := hcv hk0
  refine r_aload_n 1161 hI 3 dL_law_1160 rfl rfl rfl ?_
  refine r_iconst (v := 0) 1162 hI dL_law_1161 rfl (by decide) ?_
  refine r_lald 1163 67 hI (hwr67 aC aR σ2 ao f2 τ2 ρ2) (by unfold vp_in; decide) dL_law_1162 rfl ?_
  refine r_iload 1165 hI 6 dL_law_1163 rfl rfl ?_
  refine r_i2l 1166 hI dL_law_1165 rfl ?_
  refine r_lcmp 1167 hI dL_law_1166 rfl ?_
  rw [show f2 (Int32.toNatClampNeg 0) = Int32.toInt64 bb from hc0]
  refine r_if_eq 1172 1170 hI dL_law_1167 (by decide) rfl (fun _ => fin) (fun h => absurd (lg_cmp_self _) h)
set_option maxHeartbeats 4000000 in
set_option maxRecDepth 100000 in
theorem law_15 (hst : l.stackTraces = false) (hL : L ≤ 3072) (hZ : w_IsL l g y Z b L xs) (hi : i + 6 ≤ L) (hk : k + 1 ≤ room_1.cells) (hn : n + 6 ≤ room_1.slots) (hI0 : Inv σ τ ρ) (next : ∀ (k2 n2 : Nat) (σ2 τ2 : stT) (ρ2 : rtT) (f2 : Nat → Int64), Inv σ2 τ2 ρ2 → k2 ≤ k + 1 → n2 ≤ n + 6 → Z k2 n2 (hw aC y σ2 ao f2 ++ rw aR y τ2 ρ2) 1367 [(0, .ref b), (1, .ref (aC 0)), (2, .ref (aR 0)), (3, .ref ao), (4, .int (nI i))] []) : Z k n (hw aC y σ ao f ++ rw aR y τ ρ) 1175 [(0, .ref b), (1, .ref (aC 0)), (2, .ref (aR 0)), (3, .ref ao), (4, .int (nI i))] [] := by
  have hI := hZ.e.is
  obtain ⟨kk, σ2, f2, bb, τ2, ρ2, d, hk3, hd8, hH, hR, hth, hcv, hI2⟩ := st_make (l := l) (g := g) (y := y) (aC := aC) (aR := aR) (ao := ao) (f := f) hst hI0
  have fin : Z (k + 1) (n + 6) (hw aC y σ2 ao f2 ++ rw aR y τ2 ρ2) 1216 [(0, .ref b), (1, .ref (aC 0)), (2, .ref (aR 0)), (3, .ref ao), (4, .int (nI i)), (5, .int (nI kk)), (6, .int bb)] [] := by
    refine r_goto 1367 hI dL_law_1216 (by decide) ?_
    refine r_lvs [(0, .ref b), (1, .ref (aC 0)), (2, .ref (aR 0)), (3, .ref ao), (4, .int (nI i))] [0, 1, 2, 3, 4] hZ rfl ?_
    exact next _ _ _ _ _ _ hI2 (Nat.le_refl _) (Nat.le_refl _)
  refine r_aload_n 1176 hI 1 dL_law_1175 rfl rfl rfl ?_
  refine r_aload_n 1177 hI 3 dL_law_1176 rfl rfl rfl ?_
  refine r_callHA hH wh_make rfl wL_L_135 hZ rfl ⟨by decide, by decide⟩ ⟨hk, hn⟩ (by rfl) rfl dL_law_1177 ?_
  refine r_istN (q := 0) 1182 [(0, .ref b), (1, .ref (aC 0)), (2, .ref (aR 0)), (3, .ref ao), (4, .int (nI i)), (5, .int (nI kk))] hI dL_law_1180 rfl (by decide) rfl rfl ?_
  refine r_aload_n 1183 hI 2 dL_law_1182 rfl rfl rfl ?_
  refine r_callVB hR wM_X8_make wL_L_137 hI rfl ⟨by show d + 1 ≤ 10; omega, by show 8 + (3 + 11) + 34 * d ≤ 384; omega⟩ 0 8 rfl rfl rfl rfl dL_law_1183 ?_
  refine r_istN (q := 0) 1188 [(0, .ref b), (1, .ref (aC 0)), (2, .ref (aR 0)), (3, .ref ao), (4, .int (nI i)), (5, .int (nI kk)), (6, .int bb)] hI dL_law_1186 rfl (by decide) rfl rfl ?_
  refine r_aload_n 1189 hI 2 dL_law_1188 rfl rfl rfl ?_
  refine r_callVB (av := []) (c_X8_thrown l g y aR τ2 ρ2) wM_X8_thrown wL_L_82 hI rfl ⟨by decide, by decide⟩ 0 8 rfl rfl rfl rfl dL_law_1189 ?_
  rw [hth]
  refine r_iload 1194 hI 5 dL_law_1192 rfl rfl ?_
  refine r_icmp_eq 1199 1197 hI dL_law_1194 (by decide) rfl (fun _ => ?_) (fun h => absurd rfl h)
  refine r_iload 1201 hI 5 dL_law_1199 rfl rfl ?_
  refine r_if_ne 1216 1204 hI dL_law_1201 (by decide) rfl (fun _ => fin) (fun h0 => ?_)
  have hk0 : kk = 0 := nI_eqq (b := 0) (by omega) (by decide) (h0.trans rfl)
  have hc0 := hcv hk0
  refine r_aload_n 1205 hI 3 dL_law_1204 rfl rfl rfl ?_
  refine r_iconst (v := 0) 1206 hI dL_law_1205 rfl (by decide) ?_
  refine r_lald 1207 67 hI (hwr67 aC aR σ2 ao f2 τ2 ρ2) (by unfold vp_in; decide) dL_law_1206 rfl ?_
  refine r_iload 1209 hI 6 dL_law_1207 rfl rfl ?_
  refine r_i2l 1210 hI dL_law_1209 rfl ?_
  refine r_lcmp 1211 hI dL_law_1210 rfl ?_
  rw [show f2 (Int32.toNatClampNeg 0) = Int32.toInt64 bb from hc0]
  refine r_if_eq 1216 1214 hI dL_law_1211 (by decide) rfl (fun _ => fin) (fun h => absurd (lg_cmp_self _) h)
set_option maxHeartbeats 4000000 in
set_option maxRecDepth 100000 in
theorem law_16 (hst : l.stackTraces = false) (hL : L ≤ 3072) (hZ : w_IsL l g y Z b L xs) (hi : i + 6 ≤ L) (hk : k + 1 ≤ room_1.cells) (hn : n + 6 ≤ room_1.slots) (hI0 : Inv σ τ ρ) (next : ∀ (k2 n2 : Nat) (σ2 τ2 : stT) (ρ2 : rtT) (f2 : Nat → Int64), Inv σ2 τ2 ρ2 → k2 ≤ k + 1 → n2 ≤ n + 6 → Z k2 n2 (hw aC y σ2 ao f2 ++ rw aR y τ2 ρ2) 1367 [(0, .ref b), (1, .ref (aC 0)), (2, .ref (aR 0)), (3, .ref ao), (4, .int (nI i))] []) : Z k n (hw aC y σ ao f ++ rw aR y τ ρ) 1219 [(0, .ref b), (1, .ref (aC 0)), (2, .ref (aR 0)), (3, .ref ao), (4, .int (nI i))] [] := by
  have hI := hZ.e.is
  obtain ⟨v, σ2, τ2, d, hd4, hA, hB, hI2⟩ := st_undo (l := l) (g := g) (y := y) (aC := aC) (aR := aR) hI0
  refine r_aload_n 1220 hI 1 dL_law_1219 rfl rfl rfl ?_
  refine w_eqW (ws2 := cw aC y σ ++ ([(ao, .inl (y 3, 1, .inr (.inl f)))] ++ rw aR y τ ρ)) (List.append_assoc _ _ _) ?_
  refine r_callVA (av := []) (rest := []) hA wM_X7_undo wL_L_138 hI rfl ⟨by decide, by decide⟩ 0 7 rfl rfl rfl rfl dL_law_1220 ?_
  refine w_eqW (ws2 := hw aC y σ2 ao f ++ rw aR y τ ρ) (List.append_assoc _ _ _).symm ?_
  refine r_aload_n 1224 hI 2 dL_law_1223 rfl rfl rfl ?_
  refine r_callVB (av := []) (rest := [.int v]) hB wM_X8_undo wL_L_142 hI rfl ⟨by show d + 1 ≤ 10; omega, by show 8 + (3 + 11) + 34 * d ≤ 384; omega⟩ 0 8 rfl rfl rfl rfl dL_law_1224 ?_
  refine r_icmp_eq 1367 1230 hI dL_law_1227 (by decide) rfl (fun _ => ?_) (fun h => absurd rfl h)
  exact next _ _ _ _ _ _ hI2 (Nat.le_succ _) (Nat.le_add_right _ _)
set_option maxHeartbeats 4000000 in
set_option maxRecDepth 100000 in
theorem law_17 (hst : l.stackTraces = false) (hL : L ≤ 3072) (hZ : w_IsL l g y Z b L xs) (hi : i + 6 ≤ L) (hk : k + 1 ≤ room_1.cells) (hn : n + 6 ≤ room_1.slots) (hI0 : Inv σ τ ρ) (next : ∀ (k2 n2 : Nat) (σ2 τ2 : stT) (ρ2 : rtT) (f2 : Nat → Int64), Inv σ2 τ2 ρ2 → k2 ≤ k + 1 → n2 ≤ n + 6 → Z k2 n2 (hw aC y σ2 ao f2 ++ rw aR y τ2 ρ2) 1367 [(0, .ref b), (1, .ref (aC 0)), (2, .ref (aR 0)), (3, .ref ao), (4, .int (nI i))] []) : Z k n (hw aC y σ ao f ++ rw aR y τ ρ) 1232 [(0, .ref b), (1, .ref (aC 0)), (2, .ref (aR 0)), (3, .ref ao), (4, .int (nI i))] [] := by
  have hI := hZ.e.is
  obtain ⟨kk, σ2, f2, bb, τ2, ρ2, d, hk3, hd8, hH, hR, hth, hcv, hI2⟩ := st_literal (l := l) (g := g) (y := y) (aC := aC) (aR := aR) (ao := ao) (f := f) hst hI0 (xs (i + 1)) (xs (i + 2))
  have fin : Z (k + 1) (n + 6) (hw aC y σ2 ao f2 ++ rw aR y τ2 ρ2) 1297 [(0, .ref b), (1, .ref (aC 0)), (2, .ref (aR 0)), (3, .ref ao), (4, .int (nI i)), (5, .int (nI kk)), (6, .int bb)] [] := by
    refine r_goto 1367 hI dL_law_1297 (by decide) ?_
    refine r_lvs [(0, .ref b), (1, .ref (aC 0)), (2, .ref (aR 0)), (3, .ref ao), (4, .int (nI i))] [0, 1, 2, 3, 4] hZ rfl ?_
    exact next _ _ _ _ _ _ hI2 (Nat.le_refl _) (Nat.le_refl _)
  refine r_aload_n 1233 hI 1 dL_law_1232 rfl rfl rfl ?_
  refine r_aload_n 1234 hI 0 dL_law_1233 rfl rfl rfl ?_
  refine r_iload 1236 hI 4 dL_law_1234 rfl rfl ?_
  refine r_iconst (v := 1) 1237 hI dL_law_1236 rfl (by decide) ?_
  refine r_iadd 1238 hI dL_law_1237 rfl ?_
  refine r_sld 1239 1 hZ rfl (by omega) hL dL_law_1238 rfl ?_
  refine r_aload_n 1240 hI 0 dL_law_1239 rfl rfl rfl ?_
  refine r_iload 1242 hI 4 dL_law_1240 rfl rfl ?_
  refine r_iconst (v := 2) 1243 hI dL_law_1242 rfl (by decide) ?_
  refine r_iadd 1244 hI dL_law_1243 rfl ?_
  refine r_sld 1245 2 hZ rfl (by omega) hL dL_law_1244 rfl ?_
  refine r_aload_n 1246 hI 3 dL_law_1245 rfl rfl rfl ?_
  refine r_callHA hH wh_literal rfl wL_L_143 hZ rfl ⟨by decide, by decide⟩ ⟨hk, hn⟩ (by rfl) rfl dL_law_1246 ?_
  refine r_istN (q := 0) 1251 [(0, .ref b), (1, .ref (aC 0)), (2, .ref (aR 0)), (3, .ref ao), (4, .int (nI i)), (5, .int (nI kk))] hI dL_law_1249 rfl (by decide) rfl rfl ?_
  refine r_aload_n 1252 hI 2 dL_law_1251 rfl rfl rfl ?_
  refine r_aload_n 1253 hI 0 dL_law_1252 rfl rfl rfl ?_
  refine r_iload 1255 hI 4 dL_law_1253 rfl rfl ?_
  refine r_iconst (v := 1) 1256 hI dL_law_1255 rfl (by decide) ?_
  refine r_iadd 1257 hI dL_law_1256 rfl ?_
  refine r_sld 1258 1 hZ rfl (by omega) hL dL_law_1257 rfl ?_
  refine r_aload_n 1259 hI 0 dL_law_1258 rfl rfl rfl ?_
  refine r_iload 1261 hI 4 dL_law_1259 rfl rfl ?_
  refine r_iconst (v := 2) 1262 hI dL_law_1261 rfl (by decide) ?_
  refine r_iadd 1263 hI dL_law_1262 rfl ?_
  refine r_sld 1264 2 hZ rfl (by omega) hL dL_law_1263 rfl ?_
  refine r_callVB hR wM_X8_literal wL_L_145 hI rfl ⟨by show d + 1 ≤ 10; omega, by show 8 + (3 + 11) + 34 * d ≤ 384; omega⟩ 0 8 rfl rfl rfl rfl dL_law_1264 ?_
  refine r_istN (q := 0) 1269 [(0, .ref b), (1, .ref (aC 0)), (2, .ref (aR 0)), (3, .ref ao), (4, .int (nI i)), (5, .int (nI kk)), (6, .int bb)] hI dL_law_1267 rfl (by decide) rfl rfl ?_
  refine r_aload_n 1270 hI 2 dL_law_1269 rfl rfl rfl ?_
  refine r_callVB (av := []) (c_X8_thrown l g y aR τ2 ρ2) wM_X8_thrown wL_L_82 hI rfl ⟨by decide, by decide⟩ 0 8 rfl rfl rfl rfl dL_law_1270 ?_
  rw [hth]
  refine r_iload 1275 hI 5 dL_law_1273 rfl rfl ?_
  refine r_icmp_eq 1280 1278 hI dL_law_1275 (by decide) rfl (fun _ => ?_) (fun h => absurd rfl h)
  refine r_iload 1282 hI 5 dL_law_1280 rfl rfl ?_
  refine r_if_ne 1297 1285 hI dL_law_1282 (by decide) rfl (fun _ => fin) (fun h0 => ?_)
  have hk0 : kk = 0 := nI_eqq (b := 0) (by omega) (by decide) (h0.trans rfl)
  have hc0 := hcv hk0
  refine r_aload_n 1286 hI 3 dL_law_1285 rfl rfl rfl ?_
  refine r_iconst (v := 0) 1287 hI dL_law_1286 rfl (by decide) ?_
  refine r_lald 1288 67 hI (hwr67 aC aR σ2 ao f2 τ2 ρ2) (by unfold vp_in; decide) dL_law_1287 rfl ?_
  refine r_iload 1290 hI 6 dL_law_1288 rfl rfl ?_
  refine r_i2l 1291 hI dL_law_1290 rfl ?_
  refine r_lcmp 1292 hI dL_law_1291 rfl ?_
  rw [show f2 (Int32.toNatClampNeg 0) = Int32.toInt64 bb from hc0]
  refine r_if_eq 1297 1295 hI dL_law_1292 (by decide) rfl (fun _ => fin) (fun h => absurd (lg_cmp_self _) h)
set_option maxHeartbeats 4000000 in
set_option maxRecDepth 100000 in
theorem law_18 (hst : l.stackTraces = false) (hL : L ≤ 3072) (hZ : w_IsL l g y Z b L xs) (hi : i + 6 ≤ L) (hk : k + 1 ≤ room_1.cells) (hn : n + 6 ≤ room_1.slots) (hI0 : Inv σ τ ρ) (next : ∀ (k2 n2 : Nat) (σ2 τ2 : stT) (ρ2 : rtT) (f2 : Nat → Int64), Inv σ2 τ2 ρ2 → k2 ≤ k + 1 → n2 ≤ n + 6 → Z k2 n2 (hw aC y σ2 ao f2 ++ rw aR y τ2 ρ2) 1367 [(0, .ref b), (1, .ref (aC 0)), (2, .ref (aR 0)), (3, .ref ao), (4, .int (nI i))] []) : Z k n (hw aC y σ ao f ++ rw aR y τ ρ) 1300 [(0, .ref b), (1, .ref (aC 0)), (2, .ref (aR 0)), (3, .ref ao), (4, .int (nI i))] [] := by
  have hI := hZ.e.is
  obtain ⟨kk, σ2, f2, bb, τ2, ρ2, d, hk3, hd8, hH, hR, hth, hcv, hI2⟩ := st_count (l := l) (g := g) (y := y) (aC := aC) (aR := aR) (ao := ao) (f := f) hst hI0 (xs (i + 1))
  have fin : Z (k + 1) (n + 6) (hw aC y σ2 ao f2 ++ rw aR y τ2 ρ2) 1353 [(0, .ref b), (1, .ref (aC 0)), (2, .ref (aR 0)), (3, .ref ao), (4, .int (nI i)), (5, .int (nI kk)), (6, .int bb)] [] := by
    refine r_goto 1367 hI dL_law_1353 (by decide) ?_
    refine r_lvs [(0, .ref b), (1, .ref (aC 0)), (2, .ref (aR 0)), (3, .ref ao), (4, .int (nI i))] [0, 1, 2, 3, 4] hZ rfl ?_
    exact next _ _ _ _ _ _ hI2 (Nat.le_refl _) (Nat.le_refl _)
  refine r_aload_n 1301 hI 1 dL_law_1300 rfl rfl rfl ?_
  refine r_aload_n 1302 hI 0 dL_law_1301 rfl rfl rfl ?_
  refine r_iload 1304 hI 4 dL_law_1302 rfl rfl ?_
  refine r_iconst (v := 1) 1305 hI dL_law_1304 rfl (by decide) ?_
  refine r_iadd 1306 hI dL_law_1305 rfl ?_
  refine r_sld 1307 1 hZ rfl (by omega) hL dL_law_1306 rfl ?_
  refine r_aload_n 1308 hI 3 dL_law_1307 rfl rfl rfl ?_
  refine r_callHA hH wh_count rfl wL_L_146 hZ rfl ⟨by decide, by decide⟩ ⟨hk, hn⟩ (by rfl) rfl dL_law_1308 ?_
  refine r_istN (q := 0) 1313 [(0, .ref b), (1, .ref (aC 0)), (2, .ref (aR 0)), (3, .ref ao), (4, .int (nI i)), (5, .int (nI kk))] hI dL_law_1311 rfl (by decide) rfl rfl ?_
  refine r_aload_n 1314 hI 2 dL_law_1313 rfl rfl rfl ?_
  refine r_aload_n 1315 hI 0 dL_law_1314 rfl rfl rfl ?_
  refine r_iload 1317 hI 4 dL_law_1315 rfl rfl ?_
  refine r_iconst (v := 1) 1318 hI dL_law_1317 rfl (by decide) ?_
  refine r_iadd 1319 hI dL_law_1318 rfl ?_
  refine r_sld 1320 1 hZ rfl (by omega) hL dL_law_1319 rfl ?_
  refine r_callVB hR wM_X8_count wL_L_148 hI rfl ⟨by show d + 1 ≤ 10; omega, by show 8 + (4 + 11) + 34 * d ≤ 384; omega⟩ 0 8 rfl rfl rfl rfl dL_law_1320 ?_
  refine r_istN (q := 0) 1325 [(0, .ref b), (1, .ref (aC 0)), (2, .ref (aR 0)), (3, .ref ao), (4, .int (nI i)), (5, .int (nI kk)), (6, .int bb)] hI dL_law_1323 rfl (by decide) rfl rfl ?_
  refine r_aload_n 1326 hI 2 dL_law_1325 rfl rfl rfl ?_
  refine r_callVB (av := []) (c_X8_thrown l g y aR τ2 ρ2) wM_X8_thrown wL_L_82 hI rfl ⟨by decide, by decide⟩ 0 8 rfl rfl rfl rfl dL_law_1326 ?_
  rw [hth]
  refine r_iload 1331 hI 5 dL_law_1329 rfl rfl ?_
  refine r_icmp_eq 1336 1334 hI dL_law_1331 (by decide) rfl (fun _ => ?_) (fun h => absurd rfl h)
  refine r_iload 1338 hI 5 dL_law_1336 rfl rfl ?_
  refine r_if_ne 1353 1341 hI dL_law_1338 (by decide) rfl (fun _ => fin) (fun h0 => ?_)
  have hk0 : kk = 0 := nI_eqq (b := 0) (by omega) (by decide) (h0.trans rfl)
  have hc0 := hcv hk0
  refine r_aload_n 1342 hI 3 dL_law_1341 rfl rfl rfl ?_
  refine r_iconst (v := 0) 1343 hI dL_law_1342 rfl (by decide) ?_
  refine r_lald 1344 67 hI (hwr67 aC aR σ2 ao f2 τ2 ρ2) (by unfold vp_in; decide) dL_law_1343 rfl ?_
  refine r_iload 1346 hI 6 dL_law_1344 rfl rfl ?_
  refine r_i2l 1347 hI dL_law_1346 rfl ?_
  refine r_lcmp 1348 hI dL_law_1347 rfl ?_
  rw [show f2 (Int32.toNatClampNeg 0) = Int32.toInt64 bb from hc0]
  refine r_if_eq 1353 1351 hI dL_law_1348 (by decide) rfl (fun _ => fin) (fun h => absurd (lg_cmp_self _) h)
set_option maxHeartbeats 4000000 in
set_option maxRecDepth 100000 in
theorem law_19 (hst : l.stackTraces = false) (hL : L ≤ 3072) (hZ : w_IsL l g y Z b L xs) (hi : i + 6 ≤ L) (hk : k + 1 ≤ room_1.cells) (hn : n + 6 ≤ room_1.slots) (hI0 : Inv σ τ ρ) (next : ∀ (k2 n2 : Nat) (σ2 τ2 : stT) (ρ2 : rtT) (f2 : Nat → Int64), Inv σ2 τ2 ρ2 → k2 ≤ k + 1 → n2 ≤ n + 6 → Z k2 n2 (hw aC y σ2 ao f2 ++ rw aR y τ2 ρ2) 1367 [(0, .ref b), (1, .ref (aC 0)), (2, .ref (aR 0)), (3, .ref ao), (4, .int (nI i))] []) : Z k n (hw aC y σ ao f ++ rw aR y τ ρ) 1356 [(0, .ref b), (1, .ref (aC 0)), (2, .ref (aR 0)), (3, .ref ao), (4, .int (nI i))] [] := by
  have hI := hZ.e.is
  refine r_aload_n 1357 hI 1 dL_law_1356 rfl rfl rfl ?_
  refine w_eqW (ws2 := cw aC y σ ++ ([(ao, .inl (y 3, 1, .inr (.inl f)))] ++ rw aR y τ ρ)) (List.append_assoc _ _ _) ?_
  refine r_callVA (av := []) (rest := []) (c_X7_clear l g y aC σ) wM_X7_clear wL_L_149 hI rfl ⟨by decide, by decide⟩ 0 7 rfl rfl rfl rfl dL_law_1357 ?_
  refine w_eqW (ws2 := hw aC y (clearC σ) ao f ++ rw aR y τ ρ) (List.append_assoc _ _ _).symm ?_
  refine r_aload_n 1361 hI 2 dL_law_1360 rfl rfl rfl ?_
  refine r_callVB (av := []) (rest := []) (c_X8_clear l g y aR τ ρ) wM_X8_clear wL_L_152 hI rfl ⟨by decide, by decide⟩ 0 8 rfl rfl rfl rfl dL_law_1361 ?_
  refine r_goto 1367 hI dL_law_1364 (by decide) ?_
  exact next _ _ _ _ _ _ (st_clear hI0) (Nat.le_succ _) (Nat.le_add_right _ _)
end LAC
