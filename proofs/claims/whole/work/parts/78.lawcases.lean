set_option maxHeartbeats 1000000 in
theorem law_c0 (l : Launch) {G : zG} {I : zM → Prop} {M : zM} {X : zX} {Q : State → Prop} {cells slots n k b0 : Nat} {xs : Nat → Int32} (hX : zOk G X yL_law.cls cL_law 8) (hEx : zEx X.2.2.2.2.1) (hNc : va_Nc zIAE zNSE X.2.2.2.2.1) (hR : X.2.2.2.1 = room_1) (hl : X.2.1 = l) (hxs : va_X b0 n xs X.2.2.2.2.1 X.2.2.2.2.1.heap) (hb : b0 < X.2.2.2.2.1.heap.size ∧ ¬ zA G X.2.2.2.2.1.heap.size b0 ∧ G.1 4003 = b0) (hk : 6 * k + 6 ≤ n) (hn : n ≤ 3072) (hcs : cells + 15 ≤ 601024 ∧ slots + 90 ≤ 7293034) (hop : opI l G I yL_group cL_group 5 [(0, 10, 13, 13)] yX11_group cX11_group 4 [.int (xs (6 * k + 1)), .int (xs (6 * k + 2))] M) (kk : ∀ (M2 : zM) (v5 v6 v7 : Value), I M2 → zV G X Q 8 (cells + 15) (slots + 90) 2446 [.ref (4003 : Nat), .ref (0 : Nat), .ref (300 : Nat), .ref (220 : Nat), .int (nI (6 * k)), v5, v6, v7] [] M2) : ∀ v5 v6 v7 : Value, zV G X Q 8 cells slots 196 [.ref (4003 : Nat), .ref (0 : Nat), .ref (300 : Nat), .ref (220 : Nat), .int (nI (6 * k)), v5, v6, v7] [] M := by
  intro v5 v6 v7
  obtain ⟨e, d9, mc, ms, b, M1, M2, hk3, hd9, hmc, hms, hC1, hC2, ht, he, hI⟩ := hop
  refine zV_aload_n hX dL_law_196 rfl ?_
  refine zV_aload_n hX dL_law_197 rfl ?_
  refine zV_iload hX dL_law_198 rfl ?_
  refine zV_iconst hX (v := nI 1) dL_law_200 (by decide) ?_
  refine zV_iaddN hX dL_law_201 ?_
  refine zV_sld hX hxs hb dL_law_202 rfl ⟨by omega, by omega⟩ ?_
  refine zV_aload_n hX dL_law_203 rfl ?_
  refine zV_iload hX dL_law_204 rfl ?_
  refine zV_iconst hX (v := nI 2) dL_law_206 (by decide) ?_
  refine zV_iaddN hX dL_law_207 ?_
  refine zV_sld hX hxs hb dL_law_208 rfl ⟨by omega, by omega⟩ ?_
  refine zV_aload_n hX dL_law_209 rfl ?_
  refine zN_cW4 hX hEx hNc hR hl dL_law_210 hC1 ⟨zcw_L_group, zin_L, by decide, by decide +kernel, zst_L_group⟩ rfl zml_L_113 (by decide) (Nat.le_of_ble_eq_true rfl) (by omega) ?_
  dsimp only [Option.toList, List.cons_append, List.nil_append]
  refine zV_istore hX dL_law_213 (by decide) ?_
  dsimp only [zst1, zst2, zclr, zc2]
  refine zV_aload_n hX dL_law_215 rfl ?_
  refine zV_aload_n hX dL_law_216 rfl ?_
  refine zV_iload hX dL_law_217 rfl ?_
  refine zV_iconst hX (v := nI 1) dL_law_219 (by decide) ?_
  refine zV_iaddN hX dL_law_220 ?_
  refine zV_sld hX hxs hb dL_law_221 rfl ⟨by omega, by omega⟩ ?_
  refine zV_aload_n hX dL_law_222 rfl ?_
  refine zV_iload hX dL_law_223 rfl ?_
  refine zV_iconst hX (v := nI 2) dL_law_225 (by decide) ?_
  refine zV_iaddN hX dL_law_226 ?_
  refine zV_sld hX hxs hb dL_law_227 rfl ⟨by omega, by omega⟩ ?_
  refine zN_cV2 hX hR hl dL_law_228 hC2 zt_X11_group rfl zml_L_118 zo300.1 ⟨by decide, by omega⟩ (Nat.le_of_ble_eq_true rfl) (by omega) ?_
  dsimp only [Option.toList, List.cons_append, List.nil_append]
  refine zV_istore hX dL_law_231 (by decide) ?_
  dsimp only [zst1, zst2, zclr, zc2]
  refine zV_aload_n hX dL_law_233 rfl ?_
  refine zN_cV0 hX hR hl dL_law_234 (zCk.of (zc_mthrown l G M2)) zt_X11_thrown rfl zml_L_119 zo300.1 ⟨by decide, by decide⟩ (Nat.le_of_ble_eq_true rfl) (by omega) ?_
  dsimp only [Option.toList, List.cons_append, List.nil_append]
  refine zV_topi (nI e) ht ?_
  refine zV_iload hX dL_law_237 rfl ?_
  refine zV_icmp_eqN hX (tgt := 244) dL_law_239 (by decide) ⟨by omega, by omega⟩ (fun c_239 => ?_) (fun c_239 => absurd c_239 (fun q => q rfl))
  refine zV_iload hX dL_law_244 rfl ?_
  refine zV_if_neN hX (tgt := 261) dL_law_246 (by decide) (by omega) (fun c_246 => ?_) (fun c_246 => ?_)
  · refine zV_goto hX (tgt := 2446) dL_law_261 (by decide) ?_
    refine zV_widen (c1 := cells + 15) (s1 := slots + 90) (by omega) (by omega) ?_
    exact kk _ _ _ _ hI
  · have he9 := he (by omega)
    refine zV_aload_n hX dL_law_249 rfl ?_
    refine zV_iconst hX (v := nI 0) dL_law_250 (by decide) ?_
    refine zV_lald hX (v := b.toInt64) dL_law_251 (rfl : zSh 220 = (23, 1)) (rfl) ⟨by decide, by omega⟩ (he9) ?_
    refine zV_iload hX dL_law_252 rfl ?_
    refine zV_i2l hX dL_law_254 ?_
    refine zV_lcmp hX dL_law_255 ?_
    refine zV_topi (nI 0) (lg_self _) ?_
    refine zV_if_eqN hX (tgt := 261) dL_law_256 (by decide) (by decide) (fun c_256 => ?_) (fun c_256 => absurd c_256 (by decide))
    refine zV_goto hX (tgt := 2446) dL_law_261 (by decide) ?_
    refine zV_widen (c1 := cells + 15) (s1 := slots + 90) (by omega) (by omega) ?_
    exact kk _ _ _ _ hI
set_option maxHeartbeats 1000000 in
theorem law_c1 (l : Launch) {G : zG} {I : zM → Prop} {M : zM} {X : zX} {Q : State → Prop} {cells slots n k b0 : Nat} {xs : Nat → Int32} (hX : zOk G X yL_law.cls cL_law 8) (hEx : zEx X.2.2.2.2.1) (hNc : va_Nc zIAE zNSE X.2.2.2.2.1) (hR : X.2.2.2.1 = room_1) (hl : X.2.1 = l) (hxs : va_X b0 n xs X.2.2.2.2.1 X.2.2.2.2.1.heap) (hb : b0 < X.2.2.2.2.1.heap.size ∧ ¬ zA G X.2.2.2.2.1.heap.size b0 ∧ G.1 4003 = b0) (hk : 6 * k + 6 ≤ n) (hn : n ≤ 3072) (hcs : cells + 15 ≤ 601024 ∧ slots + 90 ≤ 7293034) (hop : opI l G I yL_value cL_value 6 [(0, 12, 15, 19), (0, 12, 19, 13)] yX11_value cX11_value 5 [.int (xs (6 * k + 1)), .int (xs (6 * k + 2)), .int (xs (6 * k + 3))] M) (kk : ∀ (M2 : zM) (v5 v6 v7 : Value), I M2 → zV G X Q 8 (cells + 15) (slots + 90) 2446 [.ref (4003 : Nat), .ref (0 : Nat), .ref (300 : Nat), .ref (220 : Nat), .int (nI (6 * k)), v5, v6, v7] [] M2) : ∀ v5 v6 v7 : Value, zV G X Q 8 cells slots 264 [.ref (4003 : Nat), .ref (0 : Nat), .ref (300 : Nat), .ref (220 : Nat), .int (nI (6 * k)), v5, v6, v7] [] M := by
  intro v5 v6 v7
  obtain ⟨e, d9, mc, ms, b, M1, M2, hk3, hd9, hmc, hms, hC1, hC2, ht, he, hI⟩ := hop
  refine zV_aload_n hX dL_law_264 rfl ?_
  refine zV_aload_n hX dL_law_265 rfl ?_
  refine zV_iload hX dL_law_266 rfl ?_
  refine zV_iconst hX (v := nI 1) dL_law_268 (by decide) ?_
  refine zV_iaddN hX dL_law_269 ?_
  refine zV_sld hX hxs hb dL_law_270 rfl ⟨by omega, by omega⟩ ?_
  refine zV_aload_n hX dL_law_271 rfl ?_
  refine zV_iload hX dL_law_272 rfl ?_
  refine zV_iconst hX (v := nI 2) dL_law_274 (by decide) ?_
  refine zV_iaddN hX dL_law_275 ?_
  refine zV_sld hX hxs hb dL_law_276 rfl ⟨by omega, by omega⟩ ?_
  refine zV_aload_n hX dL_law_277 rfl ?_
  refine zV_iload hX dL_law_278 rfl ?_
  refine zV_iconst hX (v := nI 3) dL_law_280 (by decide) ?_
  refine zV_iaddN hX dL_law_281 ?_
  refine zV_sld hX hxs hb dL_law_282 rfl ⟨by omega, by omega⟩ ?_
  refine zV_aload_n hX dL_law_283 rfl ?_
  refine zN_cW5 hX hEx hNc hR hl dL_law_284 hC1 ⟨zcw_L_value, zin_L, by decide, by decide +kernel, zst_L_value⟩ rfl zml_L_123 (by decide) (Nat.le_of_ble_eq_true rfl) (by omega) ?_
  dsimp only [Option.toList, List.cons_append, List.nil_append]
  refine zV_istore hX dL_law_287 (by decide) ?_
  dsimp only [zst1, zst2, zclr, zc2]
  refine zV_aload_n hX dL_law_289 rfl ?_
  refine zV_aload_n hX dL_law_290 rfl ?_
  refine zV_iload hX dL_law_291 rfl ?_
  refine zV_iconst hX (v := nI 1) dL_law_293 (by decide) ?_
  refine zV_iaddN hX dL_law_294 ?_
  refine zV_sld hX hxs hb dL_law_295 rfl ⟨by omega, by omega⟩ ?_
  refine zV_aload_n hX dL_law_296 rfl ?_
  refine zV_iload hX dL_law_297 rfl ?_
  refine zV_iconst hX (v := nI 2) dL_law_299 (by decide) ?_
  refine zV_iaddN hX dL_law_300 ?_
  refine zV_sld hX hxs hb dL_law_301 rfl ⟨by omega, by omega⟩ ?_
  refine zV_aload_n hX dL_law_302 rfl ?_
  refine zV_iload hX dL_law_303 rfl ?_
  refine zV_iconst hX (v := nI 3) dL_law_305 (by decide) ?_
  refine zV_iaddN hX dL_law_306 ?_
  refine zV_sld hX hxs hb dL_law_307 rfl ⟨by omega, by omega⟩ ?_
  refine zN_cV3 hX hR hl dL_law_308 hC2 zt_X11_value rfl zml_L_126 zo300.1 ⟨by decide, by omega⟩ (Nat.le_of_ble_eq_true rfl) (by omega) ?_
  dsimp only [Option.toList, List.cons_append, List.nil_append]
  refine zV_istore hX dL_law_311 (by decide) ?_
  dsimp only [zst1, zst2, zclr, zc2]
  refine zV_aload_n hX dL_law_313 rfl ?_
  refine zN_cV0 hX hR hl dL_law_314 (zCk.of (zc_mthrown l G M2)) zt_X11_thrown rfl zml_L_119 zo300.1 ⟨by decide, by decide⟩ (Nat.le_of_ble_eq_true rfl) (by omega) ?_
  dsimp only [Option.toList, List.cons_append, List.nil_append]
  refine zV_topi (nI e) ht ?_
  refine zV_iload hX dL_law_317 rfl ?_
  refine zV_icmp_eqN hX (tgt := 324) dL_law_319 (by decide) ⟨by omega, by omega⟩ (fun c_319 => ?_) (fun c_319 => absurd c_319 (fun q => q rfl))
  refine zV_iload hX dL_law_324 rfl ?_
  refine zV_if_neN hX (tgt := 341) dL_law_326 (by decide) (by omega) (fun c_326 => ?_) (fun c_326 => ?_)
  · refine zV_goto hX (tgt := 2446) dL_law_341 (by decide) ?_
    refine zV_widen (c1 := cells + 15) (s1 := slots + 90) (by omega) (by omega) ?_
    exact kk _ _ _ _ hI
  · have he9 := he (by omega)
    refine zV_aload_n hX dL_law_329 rfl ?_
    refine zV_iconst hX (v := nI 0) dL_law_330 (by decide) ?_
    refine zV_lald hX (v := b.toInt64) dL_law_331 (rfl : zSh 220 = (23, 1)) (rfl) ⟨by decide, by omega⟩ (he9) ?_
    refine zV_iload hX dL_law_332 rfl ?_
    refine zV_i2l hX dL_law_334 ?_
    refine zV_lcmp hX dL_law_335 ?_
    refine zV_topi (nI 0) (lg_self _) ?_
    refine zV_if_eqN hX (tgt := 341) dL_law_336 (by decide) (by decide) (fun c_336 => ?_) (fun c_336 => absurd c_336 (by decide))
    refine zV_goto hX (tgt := 2446) dL_law_341 (by decide) ?_
    refine zV_widen (c1 := cells + 15) (s1 := slots + 90) (by omega) (by omega) ?_
    exact kk _ _ _ _ hI
set_option maxHeartbeats 1000000 in
theorem law_c2 (l : Launch) {G : zG} {I : zM → Prop} {M : zM} {X : zX} {Q : State → Prop} {cells slots n k b0 : Nat} {xs : Nat → Int32} (hX : zOk G X yL_law.cls cL_law 8) (hEx : zEx X.2.2.2.2.1) (hNc : va_Nc zIAE zNSE X.2.2.2.2.1) (hR : X.2.2.2.1 = room_1) (hl : X.2.1 = l) (hxs : va_X b0 n xs X.2.2.2.2.1 X.2.2.2.2.1.heap) (hb : b0 < X.2.2.2.2.1.heap.size ∧ ¬ zA G X.2.2.2.2.1.heap.size b0 ∧ G.1 4003 = b0) (hk : 6 * k + 6 ≤ n) (hn : n ≤ 3072) (hcs : cells + 15 ≤ 601024 ∧ slots + 90 ≤ 7293034) (hop : opI l G I yL_missing cL_missing 5 [(0, 10, 13, 13)] yX11_missing cX11_missing 4 [.int (xs (6 * k + 1)), .int (xs (6 * k + 2))] M) (kk : ∀ (M2 : zM) (v5 v6 v7 : Value), I M2 → zV G X Q 8 (cells + 15) (slots + 90) 2446 [.ref (4003 : Nat), .ref (0 : Nat), .ref (300 : Nat), .ref (220 : Nat), .int (nI (6 * k)), v5, v6, v7] [] M2) : ∀ v5 v6 v7 : Value, zV G X Q 8 cells slots 344 [.ref (4003 : Nat), .ref (0 : Nat), .ref (300 : Nat), .ref (220 : Nat), .int (nI (6 * k)), v5, v6, v7] [] M := by
  intro v5 v6 v7
  obtain ⟨e, d9, mc, ms, b, M1, M2, hk3, hd9, hmc, hms, hC1, hC2, ht, he, hI⟩ := hop
  refine zV_aload_n hX dL_law_344 rfl ?_
  refine zV_aload_n hX dL_law_345 rfl ?_
  refine zV_iload hX dL_law_346 rfl ?_
  refine zV_iconst hX (v := nI 1) dL_law_348 (by decide) ?_
  refine zV_iaddN hX dL_law_349 ?_
  refine zV_sld hX hxs hb dL_law_350 rfl ⟨by omega, by omega⟩ ?_
  refine zV_aload_n hX dL_law_351 rfl ?_
  refine zV_iload hX dL_law_352 rfl ?_
  refine zV_iconst hX (v := nI 2) dL_law_354 (by decide) ?_
  refine zV_iaddN hX dL_law_355 ?_
  refine zV_sld hX hxs hb dL_law_356 rfl ⟨by omega, by omega⟩ ?_
  refine zV_aload_n hX dL_law_357 rfl ?_
  refine zN_cW4 hX hEx hNc hR hl dL_law_358 hC1 ⟨zcw_L_missing, zin_L, by decide, by decide +kernel, zst_L_missing⟩ rfl zml_L_127 (by decide) (Nat.le_of_ble_eq_true rfl) (by omega) ?_
  dsimp only [Option.toList, List.cons_append, List.nil_append]
  refine zV_istore hX dL_law_361 (by decide) ?_
  dsimp only [zst1, zst2, zclr, zc2]
  refine zV_aload_n hX dL_law_363 rfl ?_
  refine zV_aload_n hX dL_law_364 rfl ?_
  refine zV_iload hX dL_law_365 rfl ?_
  refine zV_iconst hX (v := nI 1) dL_law_367 (by decide) ?_
  refine zV_iaddN hX dL_law_368 ?_
  refine zV_sld hX hxs hb dL_law_369 rfl ⟨by omega, by omega⟩ ?_
  refine zV_aload_n hX dL_law_370 rfl ?_
  refine zV_iload hX dL_law_371 rfl ?_
  refine zV_iconst hX (v := nI 2) dL_law_373 (by decide) ?_
  refine zV_iaddN hX dL_law_374 ?_
  refine zV_sld hX hxs hb dL_law_375 rfl ⟨by omega, by omega⟩ ?_
  refine zN_cV2 hX hR hl dL_law_376 hC2 zt_X11_missing rfl zml_L_129 zo300.1 ⟨by decide, by omega⟩ (Nat.le_of_ble_eq_true rfl) (by omega) ?_
  dsimp only [Option.toList, List.cons_append, List.nil_append]
  refine zV_istore hX dL_law_379 (by decide) ?_
  dsimp only [zst1, zst2, zclr, zc2]
  refine zV_aload_n hX dL_law_381 rfl ?_
  refine zN_cV0 hX hR hl dL_law_382 (zCk.of (zc_mthrown l G M2)) zt_X11_thrown rfl zml_L_119 zo300.1 ⟨by decide, by decide⟩ (Nat.le_of_ble_eq_true rfl) (by omega) ?_
  dsimp only [Option.toList, List.cons_append, List.nil_append]
  refine zV_topi (nI e) ht ?_
  refine zV_iload hX dL_law_385 rfl ?_
  refine zV_icmp_eqN hX (tgt := 392) dL_law_387 (by decide) ⟨by omega, by omega⟩ (fun c_387 => ?_) (fun c_387 => absurd c_387 (fun q => q rfl))
  refine zV_iload hX dL_law_392 rfl ?_
  refine zV_if_neN hX (tgt := 409) dL_law_394 (by decide) (by omega) (fun c_394 => ?_) (fun c_394 => ?_)
  · refine zV_goto hX (tgt := 2446) dL_law_409 (by decide) ?_
    refine zV_widen (c1 := cells + 15) (s1 := slots + 90) (by omega) (by omega) ?_
    exact kk _ _ _ _ hI
  · have he9 := he (by omega)
    refine zV_aload_n hX dL_law_397 rfl ?_
    refine zV_iconst hX (v := nI 0) dL_law_398 (by decide) ?_
    refine zV_lald hX (v := b.toInt64) dL_law_399 (rfl : zSh 220 = (23, 1)) (rfl) ⟨by decide, by omega⟩ (he9) ?_
    refine zV_iload hX dL_law_400 rfl ?_
    refine zV_i2l hX dL_law_402 ?_
    refine zV_lcmp hX dL_law_403 ?_
    refine zV_topi (nI 0) (lg_self _) ?_
    refine zV_if_eqN hX (tgt := 409) dL_law_404 (by decide) (by decide) (fun c_404 => ?_) (fun c_404 => absurd c_404 (by decide))
    refine zV_goto hX (tgt := 2446) dL_law_409 (by decide) ?_
    refine zV_widen (c1 := cells + 15) (s1 := slots + 90) (by omega) (by omega) ?_
    exact kk _ _ _ _ hI
set_option maxHeartbeats 1000000 in
theorem law_c3 (l : Launch) {G : zG} {I : zM → Prop} {M : zM} {X : zX} {Q : State → Prop} {cells slots n k b0 : Nat} {xs : Nat → Int32} (hX : zOk G X yL_law.cls cL_law 8) (hEx : zEx X.2.2.2.2.1) (hNc : va_Nc zIAE zNSE X.2.2.2.2.1) (hR : X.2.2.2.1 = room_1) (hl : X.2.1 = l) (hxs : va_X b0 n xs X.2.2.2.2.1 X.2.2.2.2.1.heap) (hb : b0 < X.2.2.2.2.1.heap.size ∧ ¬ zA G X.2.2.2.2.1.heap.size b0 ∧ G.1 4003 = b0) (hk : 6 * k + 6 ≤ n) (hn : n ≤ 3072) (hcs : cells + 15 ≤ 601024 ∧ slots + 90 ≤ 7293034) (hop : opP l G I (Option.some Jvm.ClassFile.FieldType.int) yX10_feed cX10_feed 6 yX11_feed cX11_feed 8 [.int (xs (6 * k + 1)), .int (xs (6 * k + 2)), .int (xs (6 * k + 3)), .int (xs (6 * k + 4)), .int (xs (6 * k + 5))] M) (kk : ∀ (M2 : zM) (v5 v6 v7 : Value), I M2 → zV G X Q 8 (cells + 15) (slots + 90) 2446 [.ref (4003 : Nat), .ref (0 : Nat), .ref (300 : Nat), .ref (220 : Nat), .int (nI (6 * k)), v5, v6, v7] [] M2) : ∀ v5 v6 v7 : Value, zV G X Q 8 cells slots 412 [.ref (4003 : Nat), .ref (0 : Nat), .ref (300 : Nat), .ref (220 : Nat), .int (nI (6 * k)), v5, v6, v7] [] M := by
  intro v5 v6 v7
  obtain ⟨d9, mc, ms, b, M1, M2, hd9, hmc, hms, hC1, hC2, hI⟩ := hop
  refine zV_aload_n hX dL_law_412 rfl ?_
  refine zV_aload_n hX dL_law_413 rfl ?_
  refine zV_iload hX dL_law_414 rfl ?_
  refine zV_iconst hX (v := nI 1) dL_law_416 (by decide) ?_
  refine zV_iaddN hX dL_law_417 ?_
  refine zV_sld hX hxs hb dL_law_418 rfl ⟨by omega, by omega⟩ ?_
  refine zV_aload_n hX dL_law_419 rfl ?_
  refine zV_iload hX dL_law_420 rfl ?_
  refine zV_iconst hX (v := nI 2) dL_law_422 (by decide) ?_
  refine zV_iaddN hX dL_law_423 ?_
  refine zV_sld hX hxs hb dL_law_424 rfl ⟨by omega, by omega⟩ ?_
  refine zV_aload_n hX dL_law_425 rfl ?_
  refine zV_iload hX dL_law_426 rfl ?_
  refine zV_iconst hX (v := nI 3) dL_law_428 (by decide) ?_
  refine zV_iaddN hX dL_law_429 ?_
  refine zV_sld hX hxs hb dL_law_430 rfl ⟨by omega, by omega⟩ ?_
  refine zV_aload_n hX dL_law_431 rfl ?_
  refine zV_iload hX dL_law_432 rfl ?_
  refine zV_iconst hX (v := nI 4) dL_law_434 (by decide) ?_
  refine zV_iaddN hX dL_law_435 ?_
  refine zV_sld hX hxs hb dL_law_436 rfl ⟨by omega, by omega⟩ ?_
  refine zV_aload_n hX dL_law_437 rfl ?_
  refine zV_iload hX dL_law_438 rfl ?_
  refine zV_iconst hX (v := nI 5) dL_law_440 (by decide) ?_
  refine zV_iaddN hX dL_law_441 ?_
  refine zV_sld hX hxs hb dL_law_442 rfl ⟨by omega, by omega⟩ ?_
  refine zN_cV5 hX hR hl dL_law_443 (zCk.of hC1) zt_X10_feed rfl zml_L_130 zo0.1 ⟨by decide, by decide⟩ (Nat.le_of_ble_eq_true rfl) (by omega) ?_
  dsimp only [Option.toList, List.cons_append, List.nil_append]
  refine zV_aload_n hX dL_law_446 rfl ?_
  refine zV_aload_n hX dL_law_447 rfl ?_
  refine zV_iload hX dL_law_448 rfl ?_
  refine zV_iconst hX (v := nI 1) dL_law_450 (by decide) ?_
  refine zV_iaddN hX dL_law_451 ?_
  refine zV_sld hX hxs hb dL_law_452 rfl ⟨by omega, by omega⟩ ?_
  refine zV_aload_n hX dL_law_453 rfl ?_
  refine zV_iload hX dL_law_454 rfl ?_
  refine zV_iconst hX (v := nI 2) dL_law_456 (by decide) ?_
  refine zV_iaddN hX dL_law_457 ?_
  refine zV_sld hX hxs hb dL_law_458 rfl ⟨by omega, by omega⟩ ?_
  refine zV_aload_n hX dL_law_459 rfl ?_
  refine zV_iload hX dL_law_460 rfl ?_
  refine zV_iconst hX (v := nI 3) dL_law_462 (by decide) ?_
  refine zV_iaddN hX dL_law_463 ?_
  refine zV_sld hX hxs hb dL_law_464 rfl ⟨by omega, by omega⟩ ?_
  refine zV_aload_n hX dL_law_465 rfl ?_
  refine zV_iload hX dL_law_466 rfl ?_
  refine zV_iconst hX (v := nI 4) dL_law_468 (by decide) ?_
  refine zV_iaddN hX dL_law_469 ?_
  refine zV_sld hX hxs hb dL_law_470 rfl ⟨by omega, by omega⟩ ?_
  refine zV_aload_n hX dL_law_471 rfl ?_
  refine zV_iload hX dL_law_472 rfl ?_
  refine zV_iconst hX (v := nI 5) dL_law_474 (by decide) ?_
  refine zV_iaddN hX dL_law_475 ?_
  refine zV_sld hX hxs hb dL_law_476 rfl ⟨by omega, by omega⟩ ?_
  refine zN_cV5 hX hR hl dL_law_477 hC2 zt_X11_feed rfl zml_L_133 zo300.1 ⟨by decide, by omega⟩ (Nat.le_of_ble_eq_true rfl) (by omega) ?_
  dsimp only [Option.toList, List.cons_append, List.nil_append]
  refine zV_icmp_eq hX (tgt := 2446) dL_law_480 (by decide) (fun c_480 => ?_) (fun c_480 => absurd c_480 (fun q => q rfl))
  refine zV_widen (c1 := cells + 15) (s1 := slots + 90) (by omega) (by omega) ?_
  exact kk _ _ _ _ hI
set_option maxHeartbeats 1000000 in
theorem law_c4 (l : Launch) {G : zG} {I : zM → Prop} {M : zM} {X : zX} {Q : State → Prop} {cells slots n k b0 : Nat} {xs : Nat → Int32} (hX : zOk G X yL_law.cls cL_law 8) (hEx : zEx X.2.2.2.2.1) (hNc : va_Nc zIAE zNSE X.2.2.2.2.1) (hR : X.2.2.2.1 = room_1) (hl : X.2.1 = l) (hxs : va_X b0 n xs X.2.2.2.2.1 X.2.2.2.2.1.heap) (hb : b0 < X.2.2.2.2.1.heap.size ∧ ¬ zA G X.2.2.2.2.1.heap.size b0 ∧ G.1 4003 = b0) (hk : 6 * k + 6 ≤ n) (hn : n ≤ 3072) (hcs : cells + 15 ≤ 601024 ∧ slots + 90 ≤ 7293034) (hop : opI l G I yL_lies cL_lies 4 [(0, 9, 12, 13)] yX11_lies cX11_lies 5 [.int (xs (6 * k + 1))] M) (kk : ∀ (M2 : zM) (v5 v6 v7 : Value), I M2 → zV G X Q 8 (cells + 15) (slots + 90) 2446 [.ref (4003 : Nat), .ref (0 : Nat), .ref (300 : Nat), .ref (220 : Nat), .int (nI (6 * k)), v5, v6, v7] [] M2) : ∀ v5 v6 v7 : Value, zV G X Q 8 cells slots 485 [.ref (4003 : Nat), .ref (0 : Nat), .ref (300 : Nat), .ref (220 : Nat), .int (nI (6 * k)), v5, v6, v7] [] M := by
  intro v5 v6 v7
  obtain ⟨e, d9, mc, ms, b, M1, M2, hk3, hd9, hmc, hms, hC1, hC2, ht, he, hI⟩ := hop
  refine zV_aload_n hX dL_law_485 rfl ?_
  refine zV_aload_n hX dL_law_486 rfl ?_
  refine zV_iload hX dL_law_487 rfl ?_
  refine zV_iconst hX (v := nI 1) dL_law_489 (by decide) ?_
  refine zV_iaddN hX dL_law_490 ?_
  refine zV_sld hX hxs hb dL_law_491 rfl ⟨by omega, by omega⟩ ?_
  refine zV_aload_n hX dL_law_492 rfl ?_
  refine zN_cW3 hX hEx hNc hR hl dL_law_493 hC1 ⟨zcw_L_lies, zin_L, by decide, by decide +kernel, zst_L_lies⟩ rfl zml_L_134 (by decide) (Nat.le_of_ble_eq_true rfl) (by omega) ?_
  dsimp only [Option.toList, List.cons_append, List.nil_append]
  refine zV_istore hX dL_law_496 (by decide) ?_
  dsimp only [zst1, zst2, zclr, zc2]
  refine zV_aload_n hX dL_law_498 rfl ?_
  refine zV_aload_n hX dL_law_499 rfl ?_
  refine zV_iload hX dL_law_500 rfl ?_
  refine zV_iconst hX (v := nI 1) dL_law_502 (by decide) ?_
  refine zV_iaddN hX dL_law_503 ?_
  refine zV_sld hX hxs hb dL_law_504 rfl ⟨by omega, by omega⟩ ?_
  refine zN_cV1 hX hR hl dL_law_505 hC2 zt_X11_lies rfl zml_L_137 zo300.1 ⟨by decide, by omega⟩ (Nat.le_of_ble_eq_true rfl) (by omega) ?_
  dsimp only [Option.toList, List.cons_append, List.nil_append]
  refine zV_istore hX dL_law_508 (by decide) ?_
  dsimp only [zst1, zst2, zclr, zc2]
  refine zV_aload_n hX dL_law_510 rfl ?_
  refine zN_cV0 hX hR hl dL_law_511 (zCk.of (zc_mthrown l G M2)) zt_X11_thrown rfl zml_L_119 zo300.1 ⟨by decide, by decide⟩ (Nat.le_of_ble_eq_true rfl) (by omega) ?_
  dsimp only [Option.toList, List.cons_append, List.nil_append]
  refine zV_topi (nI e) ht ?_
  refine zV_iload hX dL_law_514 rfl ?_
  refine zV_icmp_eqN hX (tgt := 521) dL_law_516 (by decide) ⟨by omega, by omega⟩ (fun c_516 => ?_) (fun c_516 => absurd c_516 (fun q => q rfl))
  refine zV_iload hX dL_law_521 rfl ?_
  refine zV_if_neN hX (tgt := 538) dL_law_523 (by decide) (by omega) (fun c_523 => ?_) (fun c_523 => ?_)
  · refine zV_goto hX (tgt := 2446) dL_law_538 (by decide) ?_
    refine zV_widen (c1 := cells + 15) (s1 := slots + 90) (by omega) (by omega) ?_
    exact kk _ _ _ _ hI
  · have he9 := he (by omega)
    refine zV_aload_n hX dL_law_526 rfl ?_
    refine zV_iconst hX (v := nI 0) dL_law_527 (by decide) ?_
    refine zV_lald hX (v := b.toInt64) dL_law_528 (rfl : zSh 220 = (23, 1)) (rfl) ⟨by decide, by omega⟩ (he9) ?_
    refine zV_iload hX dL_law_529 rfl ?_
    refine zV_i2l hX dL_law_531 ?_
    refine zV_lcmp hX dL_law_532 ?_
    refine zV_topi (nI 0) (lg_self _) ?_
    refine zV_if_eqN hX (tgt := 538) dL_law_533 (by decide) (by decide) (fun c_533 => ?_) (fun c_533 => absurd c_533 (by decide))
    refine zV_goto hX (tgt := 2446) dL_law_538 (by decide) ?_
    refine zV_widen (c1 := cells + 15) (s1 := slots + 90) (by omega) (by omega) ?_
    exact kk _ _ _ _ hI
set_option maxHeartbeats 1000000 in
theorem law_c5 (l : Launch) {G : zG} {I : zM → Prop} {M : zM} {X : zX} {Q : State → Prop} {cells slots n k b0 : Nat} {xs : Nat → Int32} (hX : zOk G X yL_law.cls cL_law 8) (hEx : zEx X.2.2.2.2.1) (hNc : va_Nc zIAE zNSE X.2.2.2.2.1) (hR : X.2.2.2.1 = room_1) (hl : X.2.1 = l) (hxs : va_X b0 n xs X.2.2.2.2.1 X.2.2.2.2.1.heap) (hb : b0 < X.2.2.2.2.1.heap.size ∧ ¬ zA G X.2.2.2.2.1.heap.size b0 ∧ G.1 4003 = b0) (hk : 6 * k + 6 ≤ n) (hn : n ≤ 3072) (hcs : cells + 15 ≤ 601024 ∧ slots + 90 ≤ 7293034) (hop : opP l G I (Option.some Jvm.ClassFile.FieldType.int) yX10_fault cX10_fault 1 yX11_fault cX11_fault 1 [] M) (kk : ∀ (M2 : zM) (v5 v6 v7 : Value), I M2 → zV G X Q 8 (cells + 15) (slots + 90) 2446 [.ref (4003 : Nat), .ref (0 : Nat), .ref (300 : Nat), .ref (220 : Nat), .int (nI (6 * k)), v5, v6, v7] [] M2) : ∀ v5 v6 v7 : Value, zV G X Q 8 cells slots 541 [.ref (4003 : Nat), .ref (0 : Nat), .ref (300 : Nat), .ref (220 : Nat), .int (nI (6 * k)), v5, v6, v7] [] M := by
  intro v5 v6 v7
  obtain ⟨d9, mc, ms, b, M1, M2, hd9, hmc, hms, hC1, hC2, hI⟩ := hop
  refine zV_aload_n hX dL_law_541 rfl ?_
  refine zN_cV0 hX hR hl dL_law_542 (zCk.of hC1) zt_X10_fault rfl zml_L_138 zo0.1 ⟨by decide, by decide⟩ (Nat.le_of_ble_eq_true rfl) (by omega) ?_
  dsimp only [Option.toList, List.cons_append, List.nil_append]
  refine zV_aload_n hX dL_law_545 rfl ?_
  refine zN_cV0 hX hR hl dL_law_546 hC2 zt_X11_fault rfl zml_L_141 zo300.1 ⟨by decide, by omega⟩ (Nat.le_of_ble_eq_true rfl) (by omega) ?_
  dsimp only [Option.toList, List.cons_append, List.nil_append]
  refine zV_icmp_eq hX (tgt := 2446) dL_law_549 (by decide) (fun c_549 => ?_) (fun c_549 => absurd c_549 (fun q => q rfl))
  refine zV_widen (c1 := cells + 15) (s1 := slots + 90) (by omega) (by omega) ?_
  exact kk _ _ _ _ hI
set_option maxHeartbeats 1000000 in
theorem law_c6 (l : Launch) {G : zG} {I : zM → Prop} {M : zM} {X : zX} {Q : State → Prop} {cells slots n k b0 : Nat} {xs : Nat → Int32} (hX : zOk G X yL_law.cls cL_law 8) (hEx : zEx X.2.2.2.2.1) (hNc : va_Nc zIAE zNSE X.2.2.2.2.1) (hR : X.2.2.2.1 = room_1) (hl : X.2.1 = l) (hxs : va_X b0 n xs X.2.2.2.2.1 X.2.2.2.2.1.heap) (hb : b0 < X.2.2.2.2.1.heap.size ∧ ¬ zA G X.2.2.2.2.1.heap.size b0 ∧ G.1 4003 = b0) (hk : 6 * k + 6 ≤ n) (hn : n ≤ 3072) (hcs : cells + 15 ≤ 601024 ∧ slots + 90 ≤ 7293034) (hop : opI l G I yL_run cL_run 4 [(0, 9, 12, 19)] yX11_run cX11_run 2 [.int (xs (6 * k + 1))] M) (kk : ∀ (M2 : zM) (v5 v6 v7 : Value), I M2 → zV G X Q 8 (cells + 15) (slots + 90) 2446 [.ref (4003 : Nat), .ref (0 : Nat), .ref (300 : Nat), .ref (220 : Nat), .int (nI (6 * k)), v5, v6, v7] [] M2) : ∀ v5 v6 v7 : Value, zV G X Q 8 cells slots 554 [.ref (4003 : Nat), .ref (0 : Nat), .ref (300 : Nat), .ref (220 : Nat), .int (nI (6 * k)), v5, v6, v7] [] M := by
  intro v5 v6 v7
  obtain ⟨e, d9, mc, ms, b, M1, M2, hk3, hd9, hmc, hms, hC1, hC2, ht, he, hI⟩ := hop
  refine zV_aload_n hX dL_law_554 rfl ?_
  refine zV_aload_n hX dL_law_555 rfl ?_
  refine zV_iload hX dL_law_556 rfl ?_
  refine zV_iconst hX (v := nI 1) dL_law_558 (by decide) ?_
  refine zV_iaddN hX dL_law_559 ?_
  refine zV_sld hX hxs hb dL_law_560 rfl ⟨by omega, by omega⟩ ?_
  refine zV_aload_n hX dL_law_561 rfl ?_
  refine zN_cW3 hX hEx hNc hR hl dL_law_562 hC1 ⟨zcw_L_run, zin_L, by decide, by decide +kernel, zst_L_run⟩ rfl zml_L_142 (by decide) (Nat.le_of_ble_eq_true rfl) (by omega) ?_
  dsimp only [Option.toList, List.cons_append, List.nil_append]
  refine zV_istore hX dL_law_565 (by decide) ?_
  dsimp only [zst1, zst2, zclr, zc2]
  refine zV_aload_n hX dL_law_567 rfl ?_
  refine zV_aload_n hX dL_law_568 rfl ?_
  refine zV_iload hX dL_law_569 rfl ?_
  refine zV_iconst hX (v := nI 1) dL_law_571 (by decide) ?_
  refine zV_iaddN hX dL_law_572 ?_
  refine zV_sld hX hxs hb dL_law_573 rfl ⟨by omega, by omega⟩ ?_
  refine zN_cV1 hX hR hl dL_law_574 hC2 zt_X11_run rfl zml_L_144 zo300.1 ⟨by decide, by omega⟩ (Nat.le_of_ble_eq_true rfl) (by omega) ?_
  dsimp only [Option.toList, List.cons_append, List.nil_append]
  refine zV_istore hX dL_law_577 (by decide) ?_
  dsimp only [zst1, zst2, zclr, zc2]
  refine zV_aload_n hX dL_law_579 rfl ?_
  refine zN_cV0 hX hR hl dL_law_580 (zCk.of (zc_mthrown l G M2)) zt_X11_thrown rfl zml_L_119 zo300.1 ⟨by decide, by decide⟩ (Nat.le_of_ble_eq_true rfl) (by omega) ?_
  dsimp only [Option.toList, List.cons_append, List.nil_append]
  refine zV_topi (nI e) ht ?_
  refine zV_iload hX dL_law_583 rfl ?_
  refine zV_icmp_eqN hX (tgt := 590) dL_law_585 (by decide) ⟨by omega, by omega⟩ (fun c_585 => ?_) (fun c_585 => absurd c_585 (fun q => q rfl))
  refine zV_iload hX dL_law_590 rfl ?_
  refine zV_if_neN hX (tgt := 607) dL_law_592 (by decide) (by omega) (fun c_592 => ?_) (fun c_592 => ?_)
  · refine zV_goto hX (tgt := 2446) dL_law_607 (by decide) ?_
    refine zV_widen (c1 := cells + 15) (s1 := slots + 90) (by omega) (by omega) ?_
    exact kk _ _ _ _ hI
  · have he9 := he (by omega)
    refine zV_aload_n hX dL_law_595 rfl ?_
    refine zV_iconst hX (v := nI 0) dL_law_596 (by decide) ?_
    refine zV_lald hX (v := b.toInt64) dL_law_597 (rfl : zSh 220 = (23, 1)) (rfl) ⟨by decide, by omega⟩ (he9) ?_
    refine zV_iload hX dL_law_598 rfl ?_
    refine zV_i2l hX dL_law_600 ?_
    refine zV_lcmp hX dL_law_601 ?_
    refine zV_topi (nI 0) (lg_self _) ?_
    refine zV_if_eqN hX (tgt := 607) dL_law_602 (by decide) (by decide) (fun c_602 => ?_) (fun c_602 => absurd c_602 (by decide))
    refine zV_goto hX (tgt := 2446) dL_law_607 (by decide) ?_
    refine zV_widen (c1 := cells + 15) (s1 := slots + 90) (by omega) (by omega) ?_
    exact kk _ _ _ _ hI
set_option maxHeartbeats 1000000 in
theorem law_c7 (l : Launch) {G : zG} {I : zM → Prop} {M : zM} {X : zX} {Q : State → Prop} {cells slots n k b0 : Nat} {xs : Nat → Int32} (hX : zOk G X yL_law.cls cL_law 8) (hEx : zEx X.2.2.2.2.1) (hNc : va_Nc zIAE zNSE X.2.2.2.2.1) (hR : X.2.2.2.1 = room_1) (hl : X.2.1 = l) (hxs : va_X b0 n xs X.2.2.2.2.1 X.2.2.2.2.1.heap) (hb : b0 < X.2.2.2.2.1.heap.size ∧ ¬ zA G X.2.2.2.2.1.heap.size b0 ∧ G.1 4003 = b0) (hk : 6 * k + 6 ≤ n) (hn : n ≤ 3072) (hcs : cells + 15 ≤ 601024 ∧ slots + 90 ≤ 7293034) (hop : opI l G I yL_told cL_told 4 [(0, 9, 12, 13)] yX11_told cX11_told 2 [.int (xs (6 * k + 1))] M) (kk : ∀ (M2 : zM) (v5 v6 v7 : Value), I M2 → zV G X Q 8 (cells + 15) (slots + 90) 2446 [.ref (4003 : Nat), .ref (0 : Nat), .ref (300 : Nat), .ref (220 : Nat), .int (nI (6 * k)), v5, v6, v7] [] M2) : ∀ v5 v6 v7 : Value, zV G X Q 8 cells slots 610 [.ref (4003 : Nat), .ref (0 : Nat), .ref (300 : Nat), .ref (220 : Nat), .int (nI (6 * k)), v5, v6, v7] [] M := by
  intro v5 v6 v7
  obtain ⟨e, d9, mc, ms, b, M1, M2, hk3, hd9, hmc, hms, hC1, hC2, ht, he, hI⟩ := hop
  refine zV_aload_n hX dL_law_610 rfl ?_
  refine zV_aload_n hX dL_law_611 rfl ?_
  refine zV_iload hX dL_law_612 rfl ?_
  refine zV_iconst hX (v := nI 1) dL_law_614 (by decide) ?_
  refine zV_iaddN hX dL_law_615 ?_
  refine zV_sld hX hxs hb dL_law_616 rfl ⟨by omega, by omega⟩ ?_
  refine zV_aload_n hX dL_law_617 rfl ?_
  refine zN_cW3 hX hEx hNc hR hl dL_law_618 hC1 ⟨zcw_L_told, zin_L, by decide, by decide +kernel, zst_L_told⟩ rfl zml_L_145 (by decide) (Nat.le_of_ble_eq_true rfl) (by omega) ?_
  dsimp only [Option.toList, List.cons_append, List.nil_append]
  refine zV_istore hX dL_law_621 (by decide) ?_
  dsimp only [zst1, zst2, zclr, zc2]
  refine zV_aload_n hX dL_law_623 rfl ?_
  refine zV_aload_n hX dL_law_624 rfl ?_
  refine zV_iload hX dL_law_625 rfl ?_
  refine zV_iconst hX (v := nI 1) dL_law_627 (by decide) ?_
  refine zV_iaddN hX dL_law_628 ?_
  refine zV_sld hX hxs hb dL_law_629 rfl ⟨by omega, by omega⟩ ?_
  refine zN_cV1 hX hR hl dL_law_630 hC2 zt_X11_told rfl zml_L_147 zo300.1 ⟨by decide, by omega⟩ (Nat.le_of_ble_eq_true rfl) (by omega) ?_
  dsimp only [Option.toList, List.cons_append, List.nil_append]
  refine zV_istore hX dL_law_633 (by decide) ?_
  dsimp only [zst1, zst2, zclr, zc2]
  refine zV_aload_n hX dL_law_635 rfl ?_
  refine zN_cV0 hX hR hl dL_law_636 (zCk.of (zc_mthrown l G M2)) zt_X11_thrown rfl zml_L_119 zo300.1 ⟨by decide, by decide⟩ (Nat.le_of_ble_eq_true rfl) (by omega) ?_
  dsimp only [Option.toList, List.cons_append, List.nil_append]
  refine zV_topi (nI e) ht ?_
  refine zV_iload hX dL_law_639 rfl ?_
  refine zV_icmp_eqN hX (tgt := 646) dL_law_641 (by decide) ⟨by omega, by omega⟩ (fun c_641 => ?_) (fun c_641 => absurd c_641 (fun q => q rfl))
  refine zV_iload hX dL_law_646 rfl ?_
  refine zV_if_neN hX (tgt := 663) dL_law_648 (by decide) (by omega) (fun c_648 => ?_) (fun c_648 => ?_)
  · refine zV_goto hX (tgt := 2446) dL_law_663 (by decide) ?_
    refine zV_widen (c1 := cells + 15) (s1 := slots + 90) (by omega) (by omega) ?_
    exact kk _ _ _ _ hI
  · have he9 := he (by omega)
    refine zV_aload_n hX dL_law_651 rfl ?_
    refine zV_iconst hX (v := nI 0) dL_law_652 (by decide) ?_
    refine zV_lald hX (v := b.toInt64) dL_law_653 (rfl : zSh 220 = (23, 1)) (rfl) ⟨by decide, by omega⟩ (he9) ?_
    refine zV_iload hX dL_law_654 rfl ?_
    refine zV_i2l hX dL_law_656 ?_
    refine zV_lcmp hX dL_law_657 ?_
    refine zV_topi (nI 0) (lg_self _) ?_
    refine zV_if_eqN hX (tgt := 663) dL_law_658 (by decide) (by decide) (fun c_658 => ?_) (fun c_658 => absurd c_658 (by decide))
    refine zV_goto hX (tgt := 2446) dL_law_663 (by decide) ?_
    refine zV_widen (c1 := cells + 15) (s1 := slots + 90) (by omega) (by omega) ?_
    exact kk _ _ _ _ hI
set_option maxHeartbeats 1000000 in
theorem law_c8 (l : Launch) {G : zG} {I : zM → Prop} {M : zM} {X : zX} {Q : State → Prop} {cells slots n k b0 : Nat} {xs : Nat → Int32} (hX : zOk G X yL_law.cls cL_law 8) (hEx : zEx X.2.2.2.2.1) (hNc : va_Nc zIAE zNSE X.2.2.2.2.1) (hR : X.2.2.2.1 = room_1) (hl : X.2.1 = l) (hxs : va_X b0 n xs X.2.2.2.2.1 X.2.2.2.2.1.heap) (hb : b0 < X.2.2.2.2.1.heap.size ∧ ¬ zA G X.2.2.2.2.1.heap.size b0 ∧ G.1 4003 = b0) (hk : 6 * k + 6 ≤ n) (hn : n ≤ 3072) (hcs : cells + 15 ≤ 601024 ∧ slots + 90 ≤ 7293034) (hop : opI l G I yL_member cL_member 5 [(0, 10, 13, 19), (0, 10, 17, 13)] yX11_member cX11_member 3 [.int (xs (6 * k + 1)), .int (xs (6 * k + 2))] M) (kk : ∀ (M2 : zM) (v5 v6 v7 : Value), I M2 → zV G X Q 8 (cells + 15) (slots + 90) 2446 [.ref (4003 : Nat), .ref (0 : Nat), .ref (300 : Nat), .ref (220 : Nat), .int (nI (6 * k)), v5, v6, v7] [] M2) : ∀ v5 v6 v7 : Value, zV G X Q 8 cells slots 666 [.ref (4003 : Nat), .ref (0 : Nat), .ref (300 : Nat), .ref (220 : Nat), .int (nI (6 * k)), v5, v6, v7] [] M := by
  intro v5 v6 v7
  obtain ⟨e, d9, mc, ms, b, M1, M2, hk3, hd9, hmc, hms, hC1, hC2, ht, he, hI⟩ := hop
  refine zV_aload_n hX dL_law_666 rfl ?_
  refine zV_aload_n hX dL_law_667 rfl ?_
  refine zV_iload hX dL_law_668 rfl ?_
  refine zV_iconst hX (v := nI 1) dL_law_670 (by decide) ?_
  refine zV_iaddN hX dL_law_671 ?_
  refine zV_sld hX hxs hb dL_law_672 rfl ⟨by omega, by omega⟩ ?_
  refine zV_aload_n hX dL_law_673 rfl ?_
  refine zV_iload hX dL_law_674 rfl ?_
  refine zV_iconst hX (v := nI 2) dL_law_676 (by decide) ?_
  refine zV_iaddN hX dL_law_677 ?_
  refine zV_sld hX hxs hb dL_law_678 rfl ⟨by omega, by omega⟩ ?_
  refine zV_aload_n hX dL_law_679 rfl ?_
  refine zN_cW4 hX hEx hNc hR hl dL_law_680 hC1 ⟨zcw_L_member, zin_L, by decide, by decide +kernel, zst_L_member⟩ rfl zml_L_148 (by decide) (Nat.le_of_ble_eq_true rfl) (by omega) ?_
  dsimp only [Option.toList, List.cons_append, List.nil_append]
  refine zV_istore hX dL_law_683 (by decide) ?_
  dsimp only [zst1, zst2, zclr, zc2]
  refine zV_aload_n hX dL_law_685 rfl ?_
  refine zV_aload_n hX dL_law_686 rfl ?_
  refine zV_iload hX dL_law_687 rfl ?_
  refine zV_iconst hX (v := nI 1) dL_law_689 (by decide) ?_
  refine zV_iaddN hX dL_law_690 ?_
  refine zV_sld hX hxs hb dL_law_691 rfl ⟨by omega, by omega⟩ ?_
  refine zV_aload_n hX dL_law_692 rfl ?_
  refine zV_iload hX dL_law_693 rfl ?_
  refine zV_iconst hX (v := nI 2) dL_law_695 (by decide) ?_
  refine zV_iaddN hX dL_law_696 ?_
  refine zV_sld hX hxs hb dL_law_697 rfl ⟨by omega, by omega⟩ ?_
  refine zN_cV2 hX hR hl dL_law_698 hC2 zt_X11_member rfl zml_L_150 zo300.1 ⟨by decide, by omega⟩ (Nat.le_of_ble_eq_true rfl) (by omega) ?_
  dsimp only [Option.toList, List.cons_append, List.nil_append]
  refine zV_istore hX dL_law_701 (by decide) ?_
  dsimp only [zst1, zst2, zclr, zc2]
  refine zV_aload_n hX dL_law_703 rfl ?_
  refine zN_cV0 hX hR hl dL_law_704 (zCk.of (zc_mthrown l G M2)) zt_X11_thrown rfl zml_L_119 zo300.1 ⟨by decide, by decide⟩ (Nat.le_of_ble_eq_true rfl) (by omega) ?_
  dsimp only [Option.toList, List.cons_append, List.nil_append]
  refine zV_topi (nI e) ht ?_
  refine zV_iload hX dL_law_707 rfl ?_
  refine zV_icmp_eqN hX (tgt := 714) dL_law_709 (by decide) ⟨by omega, by omega⟩ (fun c_709 => ?_) (fun c_709 => absurd c_709 (fun q => q rfl))
  refine zV_iload hX dL_law_714 rfl ?_
  refine zV_if_neN hX (tgt := 731) dL_law_716 (by decide) (by omega) (fun c_716 => ?_) (fun c_716 => ?_)
  · refine zV_goto hX (tgt := 2446) dL_law_731 (by decide) ?_
    refine zV_widen (c1 := cells + 15) (s1 := slots + 90) (by omega) (by omega) ?_
    exact kk _ _ _ _ hI
  · have he9 := he (by omega)
    refine zV_aload_n hX dL_law_719 rfl ?_
    refine zV_iconst hX (v := nI 0) dL_law_720 (by decide) ?_
    refine zV_lald hX (v := b.toInt64) dL_law_721 (rfl : zSh 220 = (23, 1)) (rfl) ⟨by decide, by omega⟩ (he9) ?_
    refine zV_iload hX dL_law_722 rfl ?_
    refine zV_i2l hX dL_law_724 ?_
    refine zV_lcmp hX dL_law_725 ?_
    refine zV_topi (nI 0) (lg_self _) ?_
    refine zV_if_eqN hX (tgt := 731) dL_law_726 (by decide) (by decide) (fun c_726 => ?_) (fun c_726 => absurd c_726 (by decide))
    refine zV_goto hX (tgt := 2446) dL_law_731 (by decide) ?_
    refine zV_widen (c1 := cells + 15) (s1 := slots + 90) (by omega) (by omega) ?_
    exact kk _ _ _ _ hI
set_option maxHeartbeats 1000000 in
theorem law_c9 (l : Launch) {G : zG} {I : zM → Prop} {M : zM} {X : zX} {Q : State → Prop} {cells slots n k b0 : Nat} {xs : Nat → Int32} (hX : zOk G X yL_law.cls cL_law 8) (hEx : zEx X.2.2.2.2.1) (hNc : va_Nc zIAE zNSE X.2.2.2.2.1) (hR : X.2.2.2.1 = room_1) (hl : X.2.1 = l) (hxs : va_X b0 n xs X.2.2.2.2.1 X.2.2.2.2.1.heap) (hb : b0 < X.2.2.2.2.1.heap.size ∧ ¬ zA G X.2.2.2.2.1.heap.size b0 ∧ G.1 4003 = b0) (hk : 6 * k + 6 ≤ n) (hn : n ≤ 3072) (hcs : cells + 15 ≤ 601024 ∧ slots + 90 ≤ 7293034) (hop : opI l G I yL_heard cL_heard 8 [(0, 16, 19, 19), (0, 16, 23, 13)] yX11_heard cX11_heard 8 [.int (xs (6 * k + 1)), .int (xs (6 * k + 2)), .int (xs (6 * k + 3)), .int (xs (6 * k + 4)), .int (xs (6 * k + 5))] M) (kk : ∀ (M2 : zM) (v5 v6 v7 : Value), I M2 → zV G X Q 8 (cells + 15) (slots + 90) 2446 [.ref (4003 : Nat), .ref (0 : Nat), .ref (300 : Nat), .ref (220 : Nat), .int (nI (6 * k)), v5, v6, v7] [] M2) : ∀ v5 v6 v7 : Value, zV G X Q 8 cells slots 734 [.ref (4003 : Nat), .ref (0 : Nat), .ref (300 : Nat), .ref (220 : Nat), .int (nI (6 * k)), v5, v6, v7] [] M := by
  intro v5 v6 v7
  obtain ⟨e, d9, mc, ms, b, M1, M2, hk3, hd9, hmc, hms, hC1, hC2, ht, he, hI⟩ := hop
  refine zV_aload_n hX dL_law_734 rfl ?_
  refine zV_aload_n hX dL_law_735 rfl ?_
  refine zV_iload hX dL_law_736 rfl ?_
  refine zV_iconst hX (v := nI 1) dL_law_738 (by decide) ?_
  refine zV_iaddN hX dL_law_739 ?_
  refine zV_sld hX hxs hb dL_law_740 rfl ⟨by omega, by omega⟩ ?_
  refine zV_aload_n hX dL_law_741 rfl ?_
  refine zV_iload hX dL_law_742 rfl ?_
  refine zV_iconst hX (v := nI 2) dL_law_744 (by decide) ?_
  refine zV_iaddN hX dL_law_745 ?_
  refine zV_sld hX hxs hb dL_law_746 rfl ⟨by omega, by omega⟩ ?_
  refine zV_aload_n hX dL_law_747 rfl ?_
  refine zV_iload hX dL_law_748 rfl ?_
  refine zV_iconst hX (v := nI 3) dL_law_750 (by decide) ?_
  refine zV_iaddN hX dL_law_751 ?_
  refine zV_sld hX hxs hb dL_law_752 rfl ⟨by omega, by omega⟩ ?_
  refine zV_aload_n hX dL_law_753 rfl ?_
  refine zV_iload hX dL_law_754 rfl ?_
  refine zV_iconst hX (v := nI 4) dL_law_756 (by decide) ?_
  refine zV_iaddN hX dL_law_757 ?_
  refine zV_sld hX hxs hb dL_law_758 rfl ⟨by omega, by omega⟩ ?_
  refine zV_aload_n hX dL_law_759 rfl ?_
  refine zV_iload hX dL_law_760 rfl ?_
  refine zV_iconst hX (v := nI 5) dL_law_762 (by decide) ?_
  refine zV_iaddN hX dL_law_763 ?_
  refine zV_sld hX hxs hb dL_law_764 rfl ⟨by omega, by omega⟩ ?_
  refine zV_aload_n hX dL_law_765 rfl ?_
  refine zN_cW7 hX hEx hNc hR hl dL_law_766 hC1 ⟨zcw_L_heard, zin_L, by decide, by decide +kernel, zst_L_heard⟩ rfl zml_L_151 (by decide) (Nat.le_of_ble_eq_true rfl) (by omega) ?_
  dsimp only [Option.toList, List.cons_append, List.nil_append]
  refine zV_istore hX dL_law_769 (by decide) ?_
  dsimp only [zst1, zst2, zclr, zc2]
  refine zV_aload_n hX dL_law_771 rfl ?_
  refine zV_aload_n hX dL_law_772 rfl ?_
  refine zV_iload hX dL_law_773 rfl ?_
  refine zV_iconst hX (v := nI 1) dL_law_775 (by decide) ?_
  refine zV_iaddN hX dL_law_776 ?_
  refine zV_sld hX hxs hb dL_law_777 rfl ⟨by omega, by omega⟩ ?_
  refine zV_aload_n hX dL_law_778 rfl ?_
  refine zV_iload hX dL_law_779 rfl ?_
  refine zV_iconst hX (v := nI 2) dL_law_781 (by decide) ?_
  refine zV_iaddN hX dL_law_782 ?_
  refine zV_sld hX hxs hb dL_law_783 rfl ⟨by omega, by omega⟩ ?_
  refine zV_aload_n hX dL_law_784 rfl ?_
  refine zV_iload hX dL_law_785 rfl ?_
  refine zV_iconst hX (v := nI 3) dL_law_787 (by decide) ?_
  refine zV_iaddN hX dL_law_788 ?_
  refine zV_sld hX hxs hb dL_law_789 rfl ⟨by omega, by omega⟩ ?_
  refine zV_aload_n hX dL_law_790 rfl ?_
  refine zV_iload hX dL_law_791 rfl ?_
  refine zV_iconst hX (v := nI 4) dL_law_793 (by decide) ?_
  refine zV_iaddN hX dL_law_794 ?_
  refine zV_sld hX hxs hb dL_law_795 rfl ⟨by omega, by omega⟩ ?_
  refine zV_aload_n hX dL_law_796 rfl ?_
  refine zV_iload hX dL_law_797 rfl ?_
  refine zV_iconst hX (v := nI 5) dL_law_799 (by decide) ?_
  refine zV_iaddN hX dL_law_800 ?_
  refine zV_sld hX hxs hb dL_law_801 rfl ⟨by omega, by omega⟩ ?_
  refine zN_cV5 hX hR hl dL_law_802 hC2 zt_X11_heard rfl zml_L_154 zo300.1 ⟨by decide, by omega⟩ (Nat.le_of_ble_eq_true rfl) (by omega) ?_
  dsimp only [Option.toList, List.cons_append, List.nil_append]
  refine zV_istore hX dL_law_805 (by decide) ?_
  dsimp only [zst1, zst2, zclr, zc2]
  refine zV_aload_n hX dL_law_807 rfl ?_
  refine zN_cV0 hX hR hl dL_law_808 (zCk.of (zc_mthrown l G M2)) zt_X11_thrown rfl zml_L_119 zo300.1 ⟨by decide, by decide⟩ (Nat.le_of_ble_eq_true rfl) (by omega) ?_
  dsimp only [Option.toList, List.cons_append, List.nil_append]
  refine zV_topi (nI e) ht ?_
  refine zV_iload hX dL_law_811 rfl ?_
  refine zV_icmp_eqN hX (tgt := 818) dL_law_813 (by decide) ⟨by omega, by omega⟩ (fun c_813 => ?_) (fun c_813 => absurd c_813 (fun q => q rfl))
  refine zV_iload hX dL_law_818 rfl ?_
  refine zV_if_neN hX (tgt := 835) dL_law_820 (by decide) (by omega) (fun c_820 => ?_) (fun c_820 => ?_)
  · refine zV_goto hX (tgt := 2446) dL_law_835 (by decide) ?_
    refine zV_widen (c1 := cells + 15) (s1 := slots + 90) (by omega) (by omega) ?_
    exact kk _ _ _ _ hI
  · have he9 := he (by omega)
    refine zV_aload_n hX dL_law_823 rfl ?_
    refine zV_iconst hX (v := nI 0) dL_law_824 (by decide) ?_
    refine zV_lald hX (v := b.toInt64) dL_law_825 (rfl : zSh 220 = (23, 1)) (rfl) ⟨by decide, by omega⟩ (he9) ?_
    refine zV_iload hX dL_law_826 rfl ?_
    refine zV_i2l hX dL_law_828 ?_
    refine zV_lcmp hX dL_law_829 ?_
    refine zV_topi (nI 0) (lg_self _) ?_
    refine zV_if_eqN hX (tgt := 835) dL_law_830 (by decide) (by decide) (fun c_830 => ?_) (fun c_830 => absurd c_830 (by decide))
    refine zV_goto hX (tgt := 2446) dL_law_835 (by decide) ?_
    refine zV_widen (c1 := cells + 15) (s1 := slots + 90) (by omega) (by omega) ?_
    exact kk _ _ _ _ hI
set_option maxHeartbeats 1000000 in
theorem law_c10 (l : Launch) {G : zG} {I : zM → Prop} {M : zM} {X : zX} {Q : State → Prop} {cells slots n k b0 : Nat} {xs : Nat → Int32} (hX : zOk G X yL_law.cls cL_law 8) (hEx : zEx X.2.2.2.2.1) (hNc : va_Nc zIAE zNSE X.2.2.2.2.1) (hR : X.2.2.2.1 = room_1) (hl : X.2.1 = l) (hxs : va_X b0 n xs X.2.2.2.2.1 X.2.2.2.2.1.heap) (hb : b0 < X.2.2.2.2.1.heap.size ∧ ¬ zA G X.2.2.2.2.1.heap.size b0 ∧ G.1 4003 = b0) (hk : 6 * k + 6 ≤ n) (hn : n ≤ 3072) (hcs : cells + 15 ≤ 601024 ∧ slots + 90 ≤ 7293034) (hop : opI l G I yL_cut cL_cut 5 [(0, 10, 13, 19), (0, 10, 17, 13)] yX11_cut cX11_cut 3 [.int (xs (6 * k + 1)), .int (xs (6 * k + 2))] M) (kk : ∀ (M2 : zM) (v5 v6 v7 : Value), I M2 → zV G X Q 8 (cells + 15) (slots + 90) 2446 [.ref (4003 : Nat), .ref (0 : Nat), .ref (300 : Nat), .ref (220 : Nat), .int (nI (6 * k)), v5, v6, v7] [] M2) : ∀ v5 v6 v7 : Value, zV G X Q 8 cells slots 838 [.ref (4003 : Nat), .ref (0 : Nat), .ref (300 : Nat), .ref (220 : Nat), .int (nI (6 * k)), v5, v6, v7] [] M := by
  intro v5 v6 v7
  obtain ⟨e, d9, mc, ms, b, M1, M2, hk3, hd9, hmc, hms, hC1, hC2, ht, he, hI⟩ := hop
  refine zV_aload_n hX dL_law_838 rfl ?_
  refine zV_aload_n hX dL_law_839 rfl ?_
  refine zV_iload hX dL_law_840 rfl ?_
  refine zV_iconst hX (v := nI 1) dL_law_842 (by decide) ?_
  refine zV_iaddN hX dL_law_843 ?_
  refine zV_sld hX hxs hb dL_law_844 rfl ⟨by omega, by omega⟩ ?_
  refine zV_aload_n hX dL_law_845 rfl ?_
  refine zV_iload hX dL_law_846 rfl ?_
  refine zV_iconst hX (v := nI 2) dL_law_848 (by decide) ?_
  refine zV_iaddN hX dL_law_849 ?_
  refine zV_sld hX hxs hb dL_law_850 rfl ⟨by omega, by omega⟩ ?_
  refine zV_aload_n hX dL_law_851 rfl ?_
  refine zN_cW4 hX hEx hNc hR hl dL_law_852 hC1 ⟨zcw_L_cut, zin_L, by decide, by decide +kernel, zst_L_cut⟩ rfl zml_L_155 (by decide) (Nat.le_of_ble_eq_true rfl) (by omega) ?_
  dsimp only [Option.toList, List.cons_append, List.nil_append]
  refine zV_istore hX dL_law_855 (by decide) ?_
  dsimp only [zst1, zst2, zclr, zc2]
  refine zV_aload_n hX dL_law_857 rfl ?_
  refine zV_aload_n hX dL_law_858 rfl ?_
  refine zV_iload hX dL_law_859 rfl ?_
  refine zV_iconst hX (v := nI 1) dL_law_861 (by decide) ?_
  refine zV_iaddN hX dL_law_862 ?_
  refine zV_sld hX hxs hb dL_law_863 rfl ⟨by omega, by omega⟩ ?_
  refine zV_aload_n hX dL_law_864 rfl ?_
  refine zV_iload hX dL_law_865 rfl ?_
  refine zV_iconst hX (v := nI 2) dL_law_867 (by decide) ?_
  refine zV_iaddN hX dL_law_868 ?_
  refine zV_sld hX hxs hb dL_law_869 rfl ⟨by omega, by omega⟩ ?_
  refine zN_cV2 hX hR hl dL_law_870 hC2 zt_X11_cut rfl zml_L_157 zo300.1 ⟨by decide, by omega⟩ (Nat.le_of_ble_eq_true rfl) (by omega) ?_
  dsimp only [Option.toList, List.cons_append, List.nil_append]
  refine zV_istore hX dL_law_873 (by decide) ?_
  dsimp only [zst1, zst2, zclr, zc2]
  refine zV_aload_n hX dL_law_875 rfl ?_
  refine zN_cV0 hX hR hl dL_law_876 (zCk.of (zc_mthrown l G M2)) zt_X11_thrown rfl zml_L_119 zo300.1 ⟨by decide, by decide⟩ (Nat.le_of_ble_eq_true rfl) (by omega) ?_
  dsimp only [Option.toList, List.cons_append, List.nil_append]
  refine zV_topi (nI e) ht ?_
  refine zV_iload hX dL_law_879 rfl ?_
  refine zV_icmp_eqN hX (tgt := 886) dL_law_881 (by decide) ⟨by omega, by omega⟩ (fun c_881 => ?_) (fun c_881 => absurd c_881 (fun q => q rfl))
  refine zV_iload hX dL_law_886 rfl ?_
  refine zV_if_neN hX (tgt := 903) dL_law_888 (by decide) (by omega) (fun c_888 => ?_) (fun c_888 => ?_)
  · refine zV_goto hX (tgt := 2446) dL_law_903 (by decide) ?_
    refine zV_widen (c1 := cells + 15) (s1 := slots + 90) (by omega) (by omega) ?_
    exact kk _ _ _ _ hI
  · have he9 := he (by omega)
    refine zV_aload_n hX dL_law_891 rfl ?_
    refine zV_iconst hX (v := nI 0) dL_law_892 (by decide) ?_
    refine zV_lald hX (v := b.toInt64) dL_law_893 (rfl : zSh 220 = (23, 1)) (rfl) ⟨by decide, by omega⟩ (he9) ?_
    refine zV_iload hX dL_law_894 rfl ?_
    refine zV_i2l hX dL_law_896 ?_
    refine zV_lcmp hX dL_law_897 ?_
    refine zV_topi (nI 0) (lg_self _) ?_
    refine zV_if_eqN hX (tgt := 903) dL_law_898 (by decide) (by decide) (fun c_898 => ?_) (fun c_898 => absurd c_898 (by decide))
    refine zV_goto hX (tgt := 2446) dL_law_903 (by decide) ?_
    refine zV_widen (c1 := cells + 15) (s1 := slots + 90) (by omega) (by omega) ?_
    exact kk _ _ _ _ hI
set_option maxHeartbeats 1000000 in
theorem law_c11 (l : Launch) {G : zG} {I : zM → Prop} {M : zM} {X : zX} {Q : State → Prop} {cells slots n k b0 : Nat} {xs : Nat → Int32} (hX : zOk G X yL_law.cls cL_law 8) (hEx : zEx X.2.2.2.2.1) (hNc : va_Nc zIAE zNSE X.2.2.2.2.1) (hR : X.2.2.2.1 = room_1) (hl : X.2.1 = l) (hxs : va_X b0 n xs X.2.2.2.2.1 X.2.2.2.2.1.heap) (hb : b0 < X.2.2.2.2.1.heap.size ∧ ¬ zA G X.2.2.2.2.1.heap.size b0 ∧ G.1 4003 = b0) (hk : 6 * k + 6 ≤ n) (hn : n ≤ 3072) (hcs : cells + 15 ≤ 601024 ∧ slots + 90 ≤ 7293034) (hop : opZ l G I yL_common cL_common 6 [(0, 19, 22, 19)] yX11_common cX11_common 4 [.int (xs (6 * k + 1)), .int (xs (6 * k + 2)), .int (xs (6 * k + 3))] M) (kk : ∀ (M2 : zM) (v5 v6 v7 : Value), I M2 → zV G X Q 8 (cells + 15) (slots + 90) 2446 [.ref (4003 : Nat), .ref (0 : Nat), .ref (300 : Nat), .ref (220 : Nat), .int (nI (6 * k)), v5, v6, v7] [] M2) : ∀ v5 v6 v7 : Value, zV G X Q 8 cells slots 906 [.ref (4003 : Nat), .ref (0 : Nat), .ref (300 : Nat), .ref (220 : Nat), .int (nI (6 * k)), v5, v6, v7] [] M := by
  intro v5 v6 v7
  obtain ⟨e, d9, mc, ms, b, M1, M2, hk3, hd9, hmc, hms, hC1, hC2, ht, he, hI⟩ := hop
  refine zV_aload_n hX dL_law_906 rfl ?_
  refine zV_aload_n hX dL_law_907 rfl ?_
  refine zV_iload hX dL_law_908 rfl ?_
  refine zV_iconst hX (v := nI 1) dL_law_910 (by decide) ?_
  refine zV_iaddN hX dL_law_911 ?_
  refine zV_sld hX hxs hb dL_law_912 rfl ⟨by omega, by omega⟩ ?_
  refine zV_aload_n hX dL_law_913 rfl ?_
  refine zV_iload hX dL_law_914 rfl ?_
  refine zV_iconst hX (v := nI 2) dL_law_916 (by decide) ?_
  refine zV_iaddN hX dL_law_917 ?_
  refine zV_sld hX hxs hb dL_law_918 rfl ⟨by omega, by omega⟩ ?_
  refine zV_aload_n hX dL_law_919 rfl ?_
  refine zV_iload hX dL_law_920 rfl ?_
  refine zV_iconst hX (v := nI 3) dL_law_922 (by decide) ?_
  refine zV_iaddN hX dL_law_923 ?_
  refine zV_sld hX hxs hb dL_law_924 rfl ⟨by omega, by omega⟩ ?_
  refine zV_aload_n hX dL_law_925 rfl ?_
  refine zN_cW5 hX hEx hNc hR hl dL_law_926 hC1 ⟨zcw_L_common, zin_L, by decide, by decide +kernel, zst_L_common⟩ rfl zml_L_158 (by decide) (Nat.le_of_ble_eq_true rfl) (by omega) ?_
  dsimp only [Option.toList, List.cons_append, List.nil_append]
  refine zV_istore hX dL_law_929 (by decide) ?_
  dsimp only [zst1, zst2, zclr, zc2]
  refine zV_aload_n hX dL_law_931 rfl ?_
  refine zV_aload_n hX dL_law_932 rfl ?_
  refine zV_iload hX dL_law_933 rfl ?_
  refine zV_iconst hX (v := nI 1) dL_law_935 (by decide) ?_
  refine zV_iaddN hX dL_law_936 ?_
  refine zV_sld hX hxs hb dL_law_937 rfl ⟨by omega, by omega⟩ ?_
  refine zV_aload_n hX dL_law_938 rfl ?_
  refine zV_iload hX dL_law_939 rfl ?_
  refine zV_iconst hX (v := nI 2) dL_law_941 (by decide) ?_
  refine zV_iaddN hX dL_law_942 ?_
  refine zV_sld hX hxs hb dL_law_943 rfl ⟨by omega, by omega⟩ ?_
  refine zV_aload_n hX dL_law_944 rfl ?_
  refine zV_iload hX dL_law_945 rfl ?_
  refine zV_iconst hX (v := nI 3) dL_law_947 (by decide) ?_
  refine zV_iaddN hX dL_law_948 ?_
  refine zV_sld hX hxs hb dL_law_949 rfl ⟨by omega, by omega⟩ ?_
  refine zN_cV3 hX hR hl dL_law_950 hC2 zt_X11_common rfl zml_L_160 zo300.1 ⟨by decide, by omega⟩ (Nat.le_of_ble_eq_true rfl) (by omega) ?_
  dsimp only [Option.toList, List.cons_append, List.nil_append]
  refine zV_istore hX dL_law_953 (by decide) ?_
  dsimp only [zst1, zst2, zclr, zc2]
  refine zV_aload_n hX dL_law_955 rfl ?_
  refine zN_cV0 hX hR hl dL_law_956 (zCk.of (zc_mthrown l G M2)) zt_X11_thrown rfl zml_L_119 zo300.1 ⟨by decide, by decide⟩ (Nat.le_of_ble_eq_true rfl) (by omega) ?_
  dsimp only [Option.toList, List.cons_append, List.nil_append]
  refine zV_topi (nI e) ht ?_
  refine zV_iload hX dL_law_959 rfl ?_
  refine zV_icmp_eqN hX (tgt := 966) dL_law_961 (by decide) ⟨by omega, by omega⟩ (fun c_961 => ?_) (fun c_961 => absurd c_961 (fun q => q rfl))
  refine zV_iload hX dL_law_966 rfl ?_
  refine zV_if_neN hX (tgt := 990) dL_law_968 (by decide) (by omega) (fun c_968 => ?_) (fun c_968 => ?_)
  · refine zV_goto hX (tgt := 2446) dL_law_990 (by decide) ?_
    refine zV_widen (c1 := cells + 15) (s1 := slots + 90) (by omega) (by omega) ?_
    exact kk _ _ _ _ hI
  · have he9 := he (by omega)
    refine zV_aload_n hX dL_law_971 rfl ?_
    refine zV_iconst hX (v := nI 0) dL_law_972 (by decide) ?_
    refine zV_lald hX (v := (if b = true then 1 else 0)) dL_law_973 (rfl : zSh 220 = (23, 1)) (rfl) ⟨by decide, by omega⟩ (he9) ?_
    refine zV_iload hX dL_law_974 rfl ?_
    refine zV_if_eqB hX (tgt := 983) dL_law_976 (by decide) (fun c_976 => ?_) (fun c_976 => ?_)
    · refine zV_lconst hX (v := 0) dL_law_983 rfl ?_
      refine zV_lcmp hX dL_law_984 ?_
      refine zV_topi (nI 0) (by first | (rw [if_pos c_976]; exact lg_self _) | (rw [if_neg (by rw [c_976]; decide)]; exact lg_self _)) ?_
      refine zV_if_eqN hX (tgt := 990) dL_law_985 (by decide) (by decide) (fun c_985 => ?_) (fun c_985 => absurd c_985 (by decide))
      refine zV_goto hX (tgt := 2446) dL_law_990 (by decide) ?_
      refine zV_widen (c1 := cells + 15) (s1 := slots + 90) (by omega) (by omega) ?_
      exact kk _ _ _ _ hI
    · refine zV_lconst hX (v := 1) dL_law_979 rfl ?_
      refine zV_goto hX (tgt := 984) dL_law_980 (by decide) ?_
      refine zV_lcmp hX dL_law_984 ?_
      refine zV_topi (nI 0) (by first | (rw [if_pos c_976]; exact lg_self _) | (rw [if_neg (by rw [c_976]; decide)]; exact lg_self _)) ?_
      refine zV_if_eqN hX (tgt := 990) dL_law_985 (by decide) (by decide) (fun c_985 => ?_) (fun c_985 => absurd c_985 (by decide))
      refine zV_goto hX (tgt := 2446) dL_law_990 (by decide) ?_
      refine zV_widen (c1 := cells + 15) (s1 := slots + 90) (by omega) (by omega) ?_
      exact kk _ _ _ _ hI
set_option maxHeartbeats 1000000 in
theorem law_c12 (l : Launch) {G : zG} {I : zM → Prop} {M : zM} {X : zX} {Q : State → Prop} {cells slots n k b0 : Nat} {xs : Nat → Int32} (hX : zOk G X yL_law.cls cL_law 8) (hEx : zEx X.2.2.2.2.1) (hNc : va_Nc zIAE zNSE X.2.2.2.2.1) (hR : X.2.2.2.1 = room_1) (hl : X.2.1 = l) (hxs : va_X b0 n xs X.2.2.2.2.1 X.2.2.2.2.1.heap) (hb : b0 < X.2.2.2.2.1.heap.size ∧ ¬ zA G X.2.2.2.2.1.heap.size b0 ∧ G.1 4003 = b0) (hk : 6 * k + 6 ≤ n) (hn : n ≤ 3072) (hcs : cells + 15 ≤ 601024 ∧ slots + 90 ≤ 7293034) (hop : opI l G I yL_commons cL_commons 4 [(0, 9, 12, 13)] yX11_commons cX11_commons 4 [.int (xs (6 * k + 1))] M) (kk : ∀ (M2 : zM) (v5 v6 v7 : Value), I M2 → zV G X Q 8 (cells + 15) (slots + 90) 2446 [.ref (4003 : Nat), .ref (0 : Nat), .ref (300 : Nat), .ref (220 : Nat), .int (nI (6 * k)), v5, v6, v7] [] M2) : ∀ v5 v6 v7 : Value, zV G X Q 8 cells slots 993 [.ref (4003 : Nat), .ref (0 : Nat), .ref (300 : Nat), .ref (220 : Nat), .int (nI (6 * k)), v5, v6, v7] [] M := by
  intro v5 v6 v7
  obtain ⟨e, d9, mc, ms, b, M1, M2, hk3, hd9, hmc, hms, hC1, hC2, ht, he, hI⟩ := hop
  refine zV_aload_n hX dL_law_993 rfl ?_
  refine zV_aload_n hX dL_law_994 rfl ?_
  refine zV_iload hX dL_law_995 rfl ?_
  refine zV_iconst hX (v := nI 1) dL_law_997 (by decide) ?_
  refine zV_iaddN hX dL_law_998 ?_
  refine zV_sld hX hxs hb dL_law_999 rfl ⟨by omega, by omega⟩ ?_
  refine zV_aload_n hX dL_law_1000 rfl ?_
  refine zN_cW3 hX hEx hNc hR hl dL_law_1001 hC1 ⟨zcw_L_commons, zin_L, by decide, by decide +kernel, zst_L_commons⟩ rfl zml_L_161 (by decide) (Nat.le_of_ble_eq_true rfl) (by omega) ?_
  dsimp only [Option.toList, List.cons_append, List.nil_append]
  refine zV_istore hX dL_law_1004 (by decide) ?_
  dsimp only [zst1, zst2, zclr, zc2]
  refine zV_aload_n hX dL_law_1006 rfl ?_
  refine zV_aload_n hX dL_law_1007 rfl ?_
  refine zV_iload hX dL_law_1008 rfl ?_
  refine zV_iconst hX (v := nI 1) dL_law_1010 (by decide) ?_
  refine zV_iaddN hX dL_law_1011 ?_
  refine zV_sld hX hxs hb dL_law_1012 rfl ⟨by omega, by omega⟩ ?_
  refine zN_cV1 hX hR hl dL_law_1013 hC2 zt_X11_commons rfl zml_L_163 zo300.1 ⟨by decide, by omega⟩ (Nat.le_of_ble_eq_true rfl) (by omega) ?_
  dsimp only [Option.toList, List.cons_append, List.nil_append]
  refine zV_istore hX dL_law_1016 (by decide) ?_
  dsimp only [zst1, zst2, zclr, zc2]
  refine zV_aload_n hX dL_law_1018 rfl ?_
  refine zN_cV0 hX hR hl dL_law_1019 (zCk.of (zc_mthrown l G M2)) zt_X11_thrown rfl zml_L_119 zo300.1 ⟨by decide, by decide⟩ (Nat.le_of_ble_eq_true rfl) (by omega) ?_
  dsimp only [Option.toList, List.cons_append, List.nil_append]
  refine zV_topi (nI e) ht ?_
  refine zV_iload hX dL_law_1022 rfl ?_
  refine zV_icmp_eqN hX (tgt := 1029) dL_law_1024 (by decide) ⟨by omega, by omega⟩ (fun c_1024 => ?_) (fun c_1024 => absurd c_1024 (fun q => q rfl))
  refine zV_iload hX dL_law_1029 rfl ?_
  refine zV_if_neN hX (tgt := 1046) dL_law_1031 (by decide) (by omega) (fun c_1031 => ?_) (fun c_1031 => ?_)
  · refine zV_goto hX (tgt := 2446) dL_law_1046 (by decide) ?_
    refine zV_widen (c1 := cells + 15) (s1 := slots + 90) (by omega) (by omega) ?_
    exact kk _ _ _ _ hI
  · have he9 := he (by omega)
    refine zV_aload_n hX dL_law_1034 rfl ?_
    refine zV_iconst hX (v := nI 0) dL_law_1035 (by decide) ?_
    refine zV_lald hX (v := b.toInt64) dL_law_1036 (rfl : zSh 220 = (23, 1)) (rfl) ⟨by decide, by omega⟩ (he9) ?_
    refine zV_iload hX dL_law_1037 rfl ?_
    refine zV_i2l hX dL_law_1039 ?_
    refine zV_lcmp hX dL_law_1040 ?_
    refine zV_topi (nI 0) (lg_self _) ?_
    refine zV_if_eqN hX (tgt := 1046) dL_law_1041 (by decide) (by decide) (fun c_1041 => ?_) (fun c_1041 => absurd c_1041 (by decide))
    refine zV_goto hX (tgt := 2446) dL_law_1046 (by decide) ?_
    refine zV_widen (c1 := cells + 15) (s1 := slots + 90) (by omega) (by omega) ?_
    exact kk _ _ _ _ hI
set_option maxHeartbeats 1000000 in
theorem law_c13 (l : Launch) {G : zG} {I : zM → Prop} {M : zM} {X : zX} {Q : State → Prop} {cells slots n k b0 : Nat} {xs : Nat → Int32} (hX : zOk G X yL_law.cls cL_law 8) (hEx : zEx X.2.2.2.2.1) (hNc : va_Nc zIAE zNSE X.2.2.2.2.1) (hR : X.2.2.2.1 = room_1) (hl : X.2.1 = l) (hxs : va_X b0 n xs X.2.2.2.2.1 X.2.2.2.2.1.heap) (hb : b0 < X.2.2.2.2.1.heap.size ∧ ¬ zA G X.2.2.2.2.1.heap.size b0 ∧ G.1 4003 = b0) (hk : 6 * k + 6 ≤ n) (hn : n ≤ 3072) (hcs : cells + 15 ≤ 601024 ∧ slots + 90 ≤ 7293034) (hop : opP l G I (Option.some Jvm.ClassFile.FieldType.boolean) yX10_covered cX10_covered 1 yX11_covered cX11_covered 3 [] M) (kk : ∀ (M2 : zM) (v5 v6 v7 : Value), I M2 → zV G X Q 8 (cells + 15) (slots + 90) 2446 [.ref (4003 : Nat), .ref (0 : Nat), .ref (300 : Nat), .ref (220 : Nat), .int (nI (6 * k)), v5, v6, v7] [] M2) : ∀ v5 v6 v7 : Value, zV G X Q 8 cells slots 1049 [.ref (4003 : Nat), .ref (0 : Nat), .ref (300 : Nat), .ref (220 : Nat), .int (nI (6 * k)), v5, v6, v7] [] M := by
  intro v5 v6 v7
  obtain ⟨d9, mc, ms, b, M1, M2, hd9, hmc, hms, hC1, hC2, hI⟩ := hop
  refine zV_aload_n hX dL_law_1049 rfl ?_
  refine zN_cV0 hX hR hl dL_law_1050 (zCk.of hC1) zt_X10_covered rfl zml_L_164 zo0.1 ⟨by decide, by decide⟩ (Nat.le_of_ble_eq_true rfl) (by omega) ?_
  dsimp only [Option.toList, List.cons_append, List.nil_append]
  refine zV_aload_n hX dL_law_1053 rfl ?_
  refine zN_cV0 hX hR hl dL_law_1054 hC2 zt_X11_covered rfl zml_L_168 zo300.1 ⟨by decide, by omega⟩ (Nat.le_of_ble_eq_true rfl) (by omega) ?_
  dsimp only [Option.toList, List.cons_append, List.nil_append]
  refine zV_icmp_eq hX (tgt := 2446) dL_law_1057 (by decide) (fun c_1057 => ?_) (fun c_1057 => absurd c_1057 (fun q => q rfl))
  refine zV_widen (c1 := cells + 15) (s1 := slots + 90) (by omega) (by omega) ?_
  exact kk _ _ _ _ hI
set_option maxHeartbeats 1000000 in
theorem law_c14 (l : Launch) {G : zG} {I : zM → Prop} {M : zM} {X : zX} {Q : State → Prop} {cells slots n k b0 : Nat} {xs : Nat → Int32} (hX : zOk G X yL_law.cls cL_law 8) (hEx : zEx X.2.2.2.2.1) (hNc : va_Nc zIAE zNSE X.2.2.2.2.1) (hR : X.2.2.2.1 = room_1) (hl : X.2.1 = l) (hxs : va_X b0 n xs X.2.2.2.2.1 X.2.2.2.2.1.heap) (hb : b0 < X.2.2.2.2.1.heap.size ∧ ¬ zA G X.2.2.2.2.1.heap.size b0 ∧ G.1 4003 = b0) (hk : 6 * k + 6 ≤ n) (hn : n ≤ 3072) (hcs : cells + 15 ≤ 601024 ∧ slots + 90 ≤ 7293034) (hop : opZ l G I yL_agreed cL_agreed 4 [(0, 16, 19, 13)] yX11_agreed cX11_agreed 2 [.int (xs (6 * k + 1))] M) (kk : ∀ (M2 : zM) (v5 v6 v7 : Value), I M2 → zV G X Q 8 (cells + 15) (slots + 90) 2446 [.ref (4003 : Nat), .ref (0 : Nat), .ref (300 : Nat), .ref (220 : Nat), .int (nI (6 * k)), v5, v6, v7] [] M2) : ∀ v5 v6 v7 : Value, zV G X Q 8 cells slots 1062 [.ref (4003 : Nat), .ref (0 : Nat), .ref (300 : Nat), .ref (220 : Nat), .int (nI (6 * k)), v5, v6, v7] [] M := by
  intro v5 v6 v7
  obtain ⟨e, d9, mc, ms, b, M1, M2, hk3, hd9, hmc, hms, hC1, hC2, ht, he, hI⟩ := hop
  refine zV_aload_n hX dL_law_1062 rfl ?_
  refine zV_aload_n hX dL_law_1063 rfl ?_
  refine zV_iload hX dL_law_1064 rfl ?_
  refine zV_iconst hX (v := nI 1) dL_law_1066 (by decide) ?_
  refine zV_iaddN hX dL_law_1067 ?_
  refine zV_sld hX hxs hb dL_law_1068 rfl ⟨by omega, by omega⟩ ?_
  refine zV_aload_n hX dL_law_1069 rfl ?_
  refine zN_cW3 hX hEx hNc hR hl dL_law_1070 hC1 ⟨zcw_L_agreed, zin_L, by decide, by decide +kernel, zst_L_agreed⟩ rfl zml_L_169 (by decide) (Nat.le_of_ble_eq_true rfl) (by omega) ?_
  dsimp only [Option.toList, List.cons_append, List.nil_append]
  refine zV_istore hX dL_law_1073 (by decide) ?_
  dsimp only [zst1, zst2, zclr, zc2]
  refine zV_aload_n hX dL_law_1075 rfl ?_
  refine zV_aload_n hX dL_law_1076 rfl ?_
  refine zV_iload hX dL_law_1077 rfl ?_
  refine zV_iconst hX (v := nI 1) dL_law_1079 (by decide) ?_
  refine zV_iaddN hX dL_law_1080 ?_
  refine zV_sld hX hxs hb dL_law_1081 rfl ⟨by omega, by omega⟩ ?_
  refine zN_cV1 hX hR hl dL_law_1082 hC2 zt_X11_agreed rfl zml_L_171 zo300.1 ⟨by decide, by omega⟩ (Nat.le_of_ble_eq_true rfl) (by omega) ?_
  dsimp only [Option.toList, List.cons_append, List.nil_append]
  refine zV_istore hX dL_law_1085 (by decide) ?_
  dsimp only [zst1, zst2, zclr, zc2]
  refine zV_aload_n hX dL_law_1087 rfl ?_
  refine zN_cV0 hX hR hl dL_law_1088 (zCk.of (zc_mthrown l G M2)) zt_X11_thrown rfl zml_L_119 zo300.1 ⟨by decide, by decide⟩ (Nat.le_of_ble_eq_true rfl) (by omega) ?_
  dsimp only [Option.toList, List.cons_append, List.nil_append]
  refine zV_topi (nI e) ht ?_
  refine zV_iload hX dL_law_1091 rfl ?_
  refine zV_icmp_eqN hX (tgt := 1098) dL_law_1093 (by decide) ⟨by omega, by omega⟩ (fun c_1093 => ?_) (fun c_1093 => absurd c_1093 (fun q => q rfl))
  refine zV_iload hX dL_law_1098 rfl ?_
  refine zV_if_neN hX (tgt := 1122) dL_law_1100 (by decide) (by omega) (fun c_1100 => ?_) (fun c_1100 => ?_)
  · refine zV_goto hX (tgt := 2446) dL_law_1122 (by decide) ?_
    refine zV_widen (c1 := cells + 15) (s1 := slots + 90) (by omega) (by omega) ?_
    exact kk _ _ _ _ hI
  · have he9 := he (by omega)
    refine zV_aload_n hX dL_law_1103 rfl ?_
    refine zV_iconst hX (v := nI 0) dL_law_1104 (by decide) ?_
    refine zV_lald hX (v := (if b = true then 1 else 0)) dL_law_1105 (rfl : zSh 220 = (23, 1)) (rfl) ⟨by decide, by omega⟩ (he9) ?_
    refine zV_iload hX dL_law_1106 rfl ?_
    refine zV_if_eqB hX (tgt := 1115) dL_law_1108 (by decide) (fun c_1108 => ?_) (fun c_1108 => ?_)
    · refine zV_lconst hX (v := 0) dL_law_1115 rfl ?_
      refine zV_lcmp hX dL_law_1116 ?_
      refine zV_topi (nI 0) (by first | (rw [if_pos c_1108]; exact lg_self _) | (rw [if_neg (by rw [c_1108]; decide)]; exact lg_self _)) ?_
      refine zV_if_eqN hX (tgt := 1122) dL_law_1117 (by decide) (by decide) (fun c_1117 => ?_) (fun c_1117 => absurd c_1117 (by decide))
      refine zV_goto hX (tgt := 2446) dL_law_1122 (by decide) ?_
      refine zV_widen (c1 := cells + 15) (s1 := slots + 90) (by omega) (by omega) ?_
      exact kk _ _ _ _ hI
    · refine zV_lconst hX (v := 1) dL_law_1111 rfl ?_
      refine zV_goto hX (tgt := 1116) dL_law_1112 (by decide) ?_
      refine zV_lcmp hX dL_law_1116 ?_
      refine zV_topi (nI 0) (by first | (rw [if_pos c_1108]; exact lg_self _) | (rw [if_neg (by rw [c_1108]; decide)]; exact lg_self _)) ?_
      refine zV_if_eqN hX (tgt := 1122) dL_law_1117 (by decide) (by decide) (fun c_1117 => ?_) (fun c_1117 => absurd c_1117 (by decide))
      refine zV_goto hX (tgt := 2446) dL_law_1122 (by decide) ?_
      refine zV_widen (c1 := cells + 15) (s1 := slots + 90) (by omega) (by omega) ?_
      exact kk _ _ _ _ hI
set_option maxHeartbeats 1000000 in
theorem law_c15 (l : Launch) {G : zG} {I : zM → Prop} {M : zM} {X : zX} {Q : State → Prop} {cells slots n k b0 : Nat} {xs : Nat → Int32} (hX : zOk G X yL_law.cls cL_law 8) (hEx : zEx X.2.2.2.2.1) (hNc : va_Nc zIAE zNSE X.2.2.2.2.1) (hR : X.2.2.2.1 = room_1) (hl : X.2.1 = l) (hxs : va_X b0 n xs X.2.2.2.2.1 X.2.2.2.2.1.heap) (hb : b0 < X.2.2.2.2.1.heap.size ∧ ¬ zA G X.2.2.2.2.1.heap.size b0 ∧ G.1 4003 = b0) (hk : 6 * k + 6 ≤ n) (hn : n ≤ 3072) (hcs : cells + 15 ≤ 601024 ∧ slots + 90 ≤ 7293034) (hop : opI l G I yL_order cL_order 5 [(0, 10, 13, 19)] yX11_order cX11_order 3 [.int (xs (6 * k + 1)), .int (xs (6 * k + 2))] M) (kk : ∀ (M2 : zM) (v5 v6 v7 : Value), I M2 → zV G X Q 8 (cells + 15) (slots + 90) 2446 [.ref (4003 : Nat), .ref (0 : Nat), .ref (300 : Nat), .ref (220 : Nat), .int (nI (6 * k)), v5, v6, v7] [] M2) : ∀ v5 v6 v7 : Value, zV G X Q 8 cells slots 1125 [.ref (4003 : Nat), .ref (0 : Nat), .ref (300 : Nat), .ref (220 : Nat), .int (nI (6 * k)), v5, v6, v7] [] M := by
  intro v5 v6 v7
  obtain ⟨e, d9, mc, ms, b, M1, M2, hk3, hd9, hmc, hms, hC1, hC2, ht, he, hI⟩ := hop
  refine zV_aload_n hX dL_law_1125 rfl ?_
  refine zV_aload_n hX dL_law_1126 rfl ?_
  refine zV_iload hX dL_law_1127 rfl ?_
  refine zV_iconst hX (v := nI 1) dL_law_1129 (by decide) ?_
  refine zV_iaddN hX dL_law_1130 ?_
  refine zV_sld hX hxs hb dL_law_1131 rfl ⟨by omega, by omega⟩ ?_
  refine zV_aload_n hX dL_law_1132 rfl ?_
  refine zV_iload hX dL_law_1133 rfl ?_
  refine zV_iconst hX (v := nI 2) dL_law_1135 (by decide) ?_
  refine zV_iaddN hX dL_law_1136 ?_
  refine zV_sld hX hxs hb dL_law_1137 rfl ⟨by omega, by omega⟩ ?_
  refine zV_aload_n hX dL_law_1138 rfl ?_
  refine zN_cW4 hX hEx hNc hR hl dL_law_1139 hC1 ⟨zcw_L_order, zin_L, by decide, by decide +kernel, zst_L_order⟩ rfl zml_L_172 (by decide) (Nat.le_of_ble_eq_true rfl) (by omega) ?_
  dsimp only [Option.toList, List.cons_append, List.nil_append]
  refine zV_istore hX dL_law_1142 (by decide) ?_
  dsimp only [zst1, zst2, zclr, zc2]
  refine zV_aload_n hX dL_law_1144 rfl ?_
  refine zV_aload_n hX dL_law_1145 rfl ?_
  refine zV_iload hX dL_law_1146 rfl ?_
  refine zV_iconst hX (v := nI 1) dL_law_1148 (by decide) ?_
  refine zV_iaddN hX dL_law_1149 ?_
  refine zV_sld hX hxs hb dL_law_1150 rfl ⟨by omega, by omega⟩ ?_
  refine zV_aload_n hX dL_law_1151 rfl ?_
  refine zV_iload hX dL_law_1152 rfl ?_
  refine zV_iconst hX (v := nI 2) dL_law_1154 (by decide) ?_
  refine zV_iaddN hX dL_law_1155 ?_
  refine zV_sld hX hxs hb dL_law_1156 rfl ⟨by omega, by omega⟩ ?_
  refine zN_cV2 hX hR hl dL_law_1157 hC2 zt_X11_order rfl zml_L_174 zo300.1 ⟨by decide, by omega⟩ (Nat.le_of_ble_eq_true rfl) (by omega) ?_
  dsimp only [Option.toList, List.cons_append, List.nil_append]
  refine zV_istore hX dL_law_1160 (by decide) ?_
  dsimp only [zst1, zst2, zclr, zc2]
  refine zV_aload_n hX dL_law_1162 rfl ?_
  refine zN_cV0 hX hR hl dL_law_1163 (zCk.of (zc_mthrown l G M2)) zt_X11_thrown rfl zml_L_119 zo300.1 ⟨by decide, by decide⟩ (Nat.le_of_ble_eq_true rfl) (by omega) ?_
  dsimp only [Option.toList, List.cons_append, List.nil_append]
  refine zV_topi (nI e) ht ?_
  refine zV_iload hX dL_law_1166 rfl ?_
  refine zV_icmp_eqN hX (tgt := 1173) dL_law_1168 (by decide) ⟨by omega, by omega⟩ (fun c_1168 => ?_) (fun c_1168 => absurd c_1168 (fun q => q rfl))
  refine zV_iload hX dL_law_1173 rfl ?_
  refine zV_if_neN hX (tgt := 1190) dL_law_1175 (by decide) (by omega) (fun c_1175 => ?_) (fun c_1175 => ?_)
  · refine zV_goto hX (tgt := 2446) dL_law_1190 (by decide) ?_
    refine zV_widen (c1 := cells + 15) (s1 := slots + 90) (by omega) (by omega) ?_
    exact kk _ _ _ _ hI
  · have he9 := he (by omega)
    refine zV_aload_n hX dL_law_1178 rfl ?_
    refine zV_iconst hX (v := nI 0) dL_law_1179 (by decide) ?_
    refine zV_lald hX (v := b.toInt64) dL_law_1180 (rfl : zSh 220 = (23, 1)) (rfl) ⟨by decide, by omega⟩ (he9) ?_
    refine zV_iload hX dL_law_1181 rfl ?_
    refine zV_i2l hX dL_law_1183 ?_
    refine zV_lcmp hX dL_law_1184 ?_
    refine zV_topi (nI 0) (lg_self _) ?_
    refine zV_if_eqN hX (tgt := 1190) dL_law_1185 (by decide) (by decide) (fun c_1185 => ?_) (fun c_1185 => absurd c_1185 (by decide))
    refine zV_goto hX (tgt := 2446) dL_law_1190 (by decide) ?_
    refine zV_widen (c1 := cells + 15) (s1 := slots + 90) (by omega) (by omega) ?_
    exact kk _ _ _ _ hI
set_option maxHeartbeats 1000000 in
theorem law_c16 (l : Launch) {G : zG} {I : zM → Prop} {M : zM} {X : zX} {Q : State → Prop} {cells slots n k b0 : Nat} {xs : Nat → Int32} (hX : zOk G X yL_law.cls cL_law 8) (hEx : zEx X.2.2.2.2.1) (hNc : va_Nc zIAE zNSE X.2.2.2.2.1) (hR : X.2.2.2.1 = room_1) (hl : X.2.1 = l) (hxs : va_X b0 n xs X.2.2.2.2.1 X.2.2.2.2.1.heap) (hb : b0 < X.2.2.2.2.1.heap.size ∧ ¬ zA G X.2.2.2.2.1.heap.size b0 ∧ G.1 4003 = b0) (hk : 6 * k + 6 ≤ n) (hn : n ≤ 3072) (hcs : cells + 15 ≤ 601024 ∧ slots + 90 ≤ 7293034) (hop : opI l G I yL_most cL_most 5 [(0, 10, 13, 19), (0, 10, 17, 13)] yX11_most cX11_most 8 [.int (xs (6 * k + 1)), .int (xs (6 * k + 2))] M) (kk : ∀ (M2 : zM) (v5 v6 v7 : Value), I M2 → zV G X Q 8 (cells + 15) (slots + 90) 2446 [.ref (4003 : Nat), .ref (0 : Nat), .ref (300 : Nat), .ref (220 : Nat), .int (nI (6 * k)), v5, v6, v7] [] M2) : ∀ v5 v6 v7 : Value, zV G X Q 8 cells slots 1193 [.ref (4003 : Nat), .ref (0 : Nat), .ref (300 : Nat), .ref (220 : Nat), .int (nI (6 * k)), v5, v6, v7] [] M := by
  intro v5 v6 v7
  obtain ⟨e, d9, mc, ms, b, M1, M2, hk3, hd9, hmc, hms, hC1, hC2, ht, he, hI⟩ := hop
  refine zV_aload_n hX dL_law_1193 rfl ?_
  refine zV_aload_n hX dL_law_1194 rfl ?_
  refine zV_iload hX dL_law_1195 rfl ?_
  refine zV_iconst hX (v := nI 1) dL_law_1197 (by decide) ?_
  refine zV_iaddN hX dL_law_1198 ?_
  refine zV_sld hX hxs hb dL_law_1199 rfl ⟨by omega, by omega⟩ ?_
  refine zV_aload_n hX dL_law_1200 rfl ?_
  refine zV_iload hX dL_law_1201 rfl ?_
  refine zV_iconst hX (v := nI 2) dL_law_1203 (by decide) ?_
  refine zV_iaddN hX dL_law_1204 ?_
  refine zV_sld hX hxs hb dL_law_1205 rfl ⟨by omega, by omega⟩ ?_
  refine zV_aload_n hX dL_law_1206 rfl ?_
  refine zN_cW4 hX hEx hNc hR hl dL_law_1207 hC1 ⟨zcw_L_most, zin_L, by decide, by decide +kernel, zst_L_most⟩ rfl zml_L_175 (by decide) (Nat.le_of_ble_eq_true rfl) (by omega) ?_
  dsimp only [Option.toList, List.cons_append, List.nil_append]
  refine zV_istore hX dL_law_1210 (by decide) ?_
  dsimp only [zst1, zst2, zclr, zc2]
  refine zV_aload_n hX dL_law_1212 rfl ?_
  refine zV_aload_n hX dL_law_1213 rfl ?_
  refine zV_iload hX dL_law_1214 rfl ?_
  refine zV_iconst hX (v := nI 1) dL_law_1216 (by decide) ?_
  refine zV_iaddN hX dL_law_1217 ?_
  refine zV_sld hX hxs hb dL_law_1218 rfl ⟨by omega, by omega⟩ ?_
  refine zV_aload_n hX dL_law_1219 rfl ?_
  refine zV_iload hX dL_law_1220 rfl ?_
  refine zV_iconst hX (v := nI 2) dL_law_1222 (by decide) ?_
  refine zV_iaddN hX dL_law_1223 ?_
  refine zV_sld hX hxs hb dL_law_1224 rfl ⟨by omega, by omega⟩ ?_
  refine zN_cV2 hX hR hl dL_law_1225 hC2 zt_X11_most rfl zml_L_177 zo300.1 ⟨by decide, by omega⟩ (Nat.le_of_ble_eq_true rfl) (by omega) ?_
  dsimp only [Option.toList, List.cons_append, List.nil_append]
  refine zV_istore hX dL_law_1228 (by decide) ?_
  dsimp only [zst1, zst2, zclr, zc2]
  refine zV_aload_n hX dL_law_1230 rfl ?_
  refine zN_cV0 hX hR hl dL_law_1231 (zCk.of (zc_mthrown l G M2)) zt_X11_thrown rfl zml_L_119 zo300.1 ⟨by decide, by decide⟩ (Nat.le_of_ble_eq_true rfl) (by omega) ?_
  dsimp only [Option.toList, List.cons_append, List.nil_append]
  refine zV_topi (nI e) ht ?_
  refine zV_iload hX dL_law_1234 rfl ?_
  refine zV_icmp_eqN hX (tgt := 1241) dL_law_1236 (by decide) ⟨by omega, by omega⟩ (fun c_1236 => ?_) (fun c_1236 => absurd c_1236 (fun q => q rfl))
  refine zV_iload hX dL_law_1241 rfl ?_
  refine zV_if_neN hX (tgt := 1258) dL_law_1243 (by decide) (by omega) (fun c_1243 => ?_) (fun c_1243 => ?_)
  · refine zV_goto hX (tgt := 2446) dL_law_1258 (by decide) ?_
    refine zV_widen (c1 := cells + 15) (s1 := slots + 90) (by omega) (by omega) ?_
    exact kk _ _ _ _ hI
  · have he9 := he (by omega)
    refine zV_aload_n hX dL_law_1246 rfl ?_
    refine zV_iconst hX (v := nI 0) dL_law_1247 (by decide) ?_
    refine zV_lald hX (v := b.toInt64) dL_law_1248 (rfl : zSh 220 = (23, 1)) (rfl) ⟨by decide, by omega⟩ (he9) ?_
    refine zV_iload hX dL_law_1249 rfl ?_
    refine zV_i2l hX dL_law_1251 ?_
    refine zV_lcmp hX dL_law_1252 ?_
    refine zV_topi (nI 0) (lg_self _) ?_
    refine zV_if_eqN hX (tgt := 1258) dL_law_1253 (by decide) (by decide) (fun c_1253 => ?_) (fun c_1253 => absurd c_1253 (by decide))
    refine zV_goto hX (tgt := 2446) dL_law_1258 (by decide) ?_
    refine zV_widen (c1 := cells + 15) (s1 := slots + 90) (by omega) (by omega) ?_
    exact kk _ _ _ _ hI
set_option maxHeartbeats 1000000 in
theorem law_c17 (l : Launch) {G : zG} {I : zM → Prop} {M : zM} {X : zX} {Q : State → Prop} {cells slots n k b0 : Nat} {xs : Nat → Int32} (hX : zOk G X yL_law.cls cL_law 8) (hEx : zEx X.2.2.2.2.1) (hNc : va_Nc zIAE zNSE X.2.2.2.2.1) (hR : X.2.2.2.1 = room_1) (hl : X.2.1 = l) (hxs : va_X b0 n xs X.2.2.2.2.1 X.2.2.2.2.1.heap) (hb : b0 < X.2.2.2.2.1.heap.size ∧ ¬ zA G X.2.2.2.2.1.heap.size b0 ∧ G.1 4003 = b0) (hk : 6 * k + 6 ≤ n) (hn : n ≤ 3072) (hcs : cells + 15 ≤ 601024 ∧ slots + 90 ≤ 7293034) (hop : opP l G I (Option.some Jvm.ClassFile.FieldType.int) yX10_agreeing cX10_agreeing 3 yX11_agreeing cX11_agreeing 3 [] M) (kk : ∀ (M2 : zM) (v5 v6 v7 : Value), I M2 → zV G X Q 8 (cells + 15) (slots + 90) 2446 [.ref (4003 : Nat), .ref (0 : Nat), .ref (300 : Nat), .ref (220 : Nat), .int (nI (6 * k)), v5, v6, v7] [] M2) : ∀ v5 v6 v7 : Value, zV G X Q 8 cells slots 1261 [.ref (4003 : Nat), .ref (0 : Nat), .ref (300 : Nat), .ref (220 : Nat), .int (nI (6 * k)), v5, v6, v7] [] M := by
  intro v5 v6 v7
  obtain ⟨d9, mc, ms, b, M1, M2, hd9, hmc, hms, hC1, hC2, hI⟩ := hop
  refine zV_aload_n hX dL_law_1261 rfl ?_
  refine zN_cV0 hX hR hl dL_law_1262 (zCk.of hC1) zt_X10_agreeing rfl zml_L_178 zo0.1 ⟨by decide, by decide⟩ (Nat.le_of_ble_eq_true rfl) (by omega) ?_
  dsimp only [Option.toList, List.cons_append, List.nil_append]
  refine zV_aload_n hX dL_law_1265 rfl ?_
  refine zN_cV0 hX hR hl dL_law_1266 hC2 zt_X11_agreeing rfl zml_L_181 zo300.1 ⟨by decide, by omega⟩ (Nat.le_of_ble_eq_true rfl) (by omega) ?_
  dsimp only [Option.toList, List.cons_append, List.nil_append]
  refine zV_icmp_eq hX (tgt := 2446) dL_law_1269 (by decide) (fun c_1269 => ?_) (fun c_1269 => absurd c_1269 (fun q => q rfl))
  refine zV_widen (c1 := cells + 15) (s1 := slots + 90) (by omega) (by omega) ?_
  exact kk _ _ _ _ hI
set_option maxHeartbeats 1000000 in
theorem law_c18 (l : Launch) {G : zG} {I : zM → Prop} {M : zM} {X : zX} {Q : State → Prop} {cells slots n k b0 : Nat} {xs : Nat → Int32} (hX : zOk G X yL_law.cls cL_law 8) (hEx : zEx X.2.2.2.2.1) (hNc : va_Nc zIAE zNSE X.2.2.2.2.1) (hR : X.2.2.2.1 = room_1) (hl : X.2.1 = l) (hxs : va_X b0 n xs X.2.2.2.2.1 X.2.2.2.2.1.heap) (hb : b0 < X.2.2.2.2.1.heap.size ∧ ¬ zA G X.2.2.2.2.1.heap.size b0 ∧ G.1 4003 = b0) (hk : 6 * k + 6 ≤ n) (hn : n ≤ 3072) (hcs : cells + 15 ≤ 601024 ∧ slots + 90 ≤ 7293034) (hop : opI l G I yL_signed cL_signed 5 [(0, 10, 13, 19), (0, 10, 17, 13)] yX11_signed cX11_signed 3 [.int (xs (6 * k + 1)), .int (xs (6 * k + 2))] M) (kk : ∀ (M2 : zM) (v5 v6 v7 : Value), I M2 → zV G X Q 8 (cells + 15) (slots + 90) 2446 [.ref (4003 : Nat), .ref (0 : Nat), .ref (300 : Nat), .ref (220 : Nat), .int (nI (6 * k)), v5, v6, v7] [] M2) : ∀ v5 v6 v7 : Value, zV G X Q 8 cells slots 1274 [.ref (4003 : Nat), .ref (0 : Nat), .ref (300 : Nat), .ref (220 : Nat), .int (nI (6 * k)), v5, v6, v7] [] M := by
  intro v5 v6 v7
  obtain ⟨e, d9, mc, ms, b, M1, M2, hk3, hd9, hmc, hms, hC1, hC2, ht, he, hI⟩ := hop
  refine zV_aload_n hX dL_law_1274 rfl ?_
  refine zV_aload_n hX dL_law_1275 rfl ?_
  refine zV_iload hX dL_law_1276 rfl ?_
  refine zV_iconst hX (v := nI 1) dL_law_1278 (by decide) ?_
  refine zV_iaddN hX dL_law_1279 ?_
  refine zV_sld hX hxs hb dL_law_1280 rfl ⟨by omega, by omega⟩ ?_
  refine zV_aload_n hX dL_law_1281 rfl ?_
  refine zV_iload hX dL_law_1282 rfl ?_
  refine zV_iconst hX (v := nI 2) dL_law_1284 (by decide) ?_
  refine zV_iaddN hX dL_law_1285 ?_
  refine zV_sld hX hxs hb dL_law_1286 rfl ⟨by omega, by omega⟩ ?_
  refine zV_aload_n hX dL_law_1287 rfl ?_
  refine zN_cW4 hX hEx hNc hR hl dL_law_1288 hC1 ⟨zcw_L_signed, zin_L, by decide, by decide +kernel, zst_L_signed⟩ rfl zml_L_182 (by decide) (Nat.le_of_ble_eq_true rfl) (by omega) ?_
  dsimp only [Option.toList, List.cons_append, List.nil_append]
  refine zV_istore hX dL_law_1291 (by decide) ?_
  dsimp only [zst1, zst2, zclr, zc2]
  refine zV_aload_n hX dL_law_1293 rfl ?_
  refine zV_aload_n hX dL_law_1294 rfl ?_
  refine zV_iload hX dL_law_1295 rfl ?_
  refine zV_iconst hX (v := nI 1) dL_law_1297 (by decide) ?_
  refine zV_iaddN hX dL_law_1298 ?_
  refine zV_sld hX hxs hb dL_law_1299 rfl ⟨by omega, by omega⟩ ?_
  refine zV_aload_n hX dL_law_1300 rfl ?_
  refine zV_iload hX dL_law_1301 rfl ?_
  refine zV_iconst hX (v := nI 2) dL_law_1303 (by decide) ?_
  refine zV_iaddN hX dL_law_1304 ?_
  refine zV_sld hX hxs hb dL_law_1305 rfl ⟨by omega, by omega⟩ ?_
  refine zN_cV2 hX hR hl dL_law_1306 hC2 zt_X11_signed rfl zml_L_184 zo300.1 ⟨by decide, by omega⟩ (Nat.le_of_ble_eq_true rfl) (by omega) ?_
  dsimp only [Option.toList, List.cons_append, List.nil_append]
  refine zV_istore hX dL_law_1309 (by decide) ?_
  dsimp only [zst1, zst2, zclr, zc2]
  refine zV_aload_n hX dL_law_1311 rfl ?_
  refine zN_cV0 hX hR hl dL_law_1312 (zCk.of (zc_mthrown l G M2)) zt_X11_thrown rfl zml_L_119 zo300.1 ⟨by decide, by decide⟩ (Nat.le_of_ble_eq_true rfl) (by omega) ?_
  dsimp only [Option.toList, List.cons_append, List.nil_append]
  refine zV_topi (nI e) ht ?_
  refine zV_iload hX dL_law_1315 rfl ?_
  refine zV_icmp_eqN hX (tgt := 1322) dL_law_1317 (by decide) ⟨by omega, by omega⟩ (fun c_1317 => ?_) (fun c_1317 => absurd c_1317 (fun q => q rfl))
  refine zV_iload hX dL_law_1322 rfl ?_
  refine zV_if_neN hX (tgt := 1339) dL_law_1324 (by decide) (by omega) (fun c_1324 => ?_) (fun c_1324 => ?_)
  · refine zV_goto hX (tgt := 2446) dL_law_1339 (by decide) ?_
    refine zV_widen (c1 := cells + 15) (s1 := slots + 90) (by omega) (by omega) ?_
    exact kk _ _ _ _ hI
  · have he9 := he (by omega)
    refine zV_aload_n hX dL_law_1327 rfl ?_
    refine zV_iconst hX (v := nI 0) dL_law_1328 (by decide) ?_
    refine zV_lald hX (v := b.toInt64) dL_law_1329 (rfl : zSh 220 = (23, 1)) (rfl) ⟨by decide, by omega⟩ (he9) ?_
    refine zV_iload hX dL_law_1330 rfl ?_
    refine zV_i2l hX dL_law_1332 ?_
    refine zV_lcmp hX dL_law_1333 ?_
    refine zV_topi (nI 0) (lg_self _) ?_
    refine zV_if_eqN hX (tgt := 1339) dL_law_1334 (by decide) (by decide) (fun c_1334 => ?_) (fun c_1334 => absurd c_1334 (by decide))
    refine zV_goto hX (tgt := 2446) dL_law_1339 (by decide) ?_
    refine zV_widen (c1 := cells + 15) (s1 := slots + 90) (by omega) (by omega) ?_
    exact kk _ _ _ _ hI
set_option maxHeartbeats 1000000 in
theorem law_c19 (l : Launch) {G : zG} {I : zM → Prop} {M : zM} {X : zX} {Q : State → Prop} {cells slots n k b0 : Nat} {xs : Nat → Int32} (hX : zOk G X yL_law.cls cL_law 8) (hEx : zEx X.2.2.2.2.1) (hNc : va_Nc zIAE zNSE X.2.2.2.2.1) (hR : X.2.2.2.1 = room_1) (hl : X.2.1 = l) (hxs : va_X b0 n xs X.2.2.2.2.1 X.2.2.2.2.1.heap) (hb : b0 < X.2.2.2.2.1.heap.size ∧ ¬ zA G X.2.2.2.2.1.heap.size b0 ∧ G.1 4003 = b0) (hk : 6 * k + 6 ≤ n) (hn : n ≤ 3072) (hcs : cells + 15 ≤ 601024 ∧ slots + 90 ≤ 7293034) (hop : opI l G I yL_signedOf cL_signedOf 6 [(0, 12, 15, 19), (0, 12, 19, 13)] yX11_signedOf cX11_signedOf 4 [.int (xs (6 * k + 1)), .int (xs (6 * k + 2)), .int (xs (6 * k + 3))] M) (kk : ∀ (M2 : zM) (v5 v6 v7 : Value), I M2 → zV G X Q 8 (cells + 15) (slots + 90) 2446 [.ref (4003 : Nat), .ref (0 : Nat), .ref (300 : Nat), .ref (220 : Nat), .int (nI (6 * k)), v5, v6, v7] [] M2) : ∀ v5 v6 v7 : Value, zV G X Q 8 cells slots 1342 [.ref (4003 : Nat), .ref (0 : Nat), .ref (300 : Nat), .ref (220 : Nat), .int (nI (6 * k)), v5, v6, v7] [] M := by
  intro v5 v6 v7
  obtain ⟨e, d9, mc, ms, b, M1, M2, hk3, hd9, hmc, hms, hC1, hC2, ht, he, hI⟩ := hop
  refine zV_aload_n hX dL_law_1342 rfl ?_
  refine zV_aload_n hX dL_law_1343 rfl ?_
  refine zV_iload hX dL_law_1344 rfl ?_
  refine zV_iconst hX (v := nI 1) dL_law_1346 (by decide) ?_
  refine zV_iaddN hX dL_law_1347 ?_
  refine zV_sld hX hxs hb dL_law_1348 rfl ⟨by omega, by omega⟩ ?_
  refine zV_aload_n hX dL_law_1349 rfl ?_
  refine zV_iload hX dL_law_1350 rfl ?_
  refine zV_iconst hX (v := nI 2) dL_law_1352 (by decide) ?_
  refine zV_iaddN hX dL_law_1353 ?_
  refine zV_sld hX hxs hb dL_law_1354 rfl ⟨by omega, by omega⟩ ?_
  refine zV_aload_n hX dL_law_1355 rfl ?_
  refine zV_iload hX dL_law_1356 rfl ?_
  refine zV_iconst hX (v := nI 3) dL_law_1358 (by decide) ?_
  refine zV_iaddN hX dL_law_1359 ?_
  refine zV_sld hX hxs hb dL_law_1360 rfl ⟨by omega, by omega⟩ ?_
  refine zV_aload_n hX dL_law_1361 rfl ?_
  refine zN_cW5 hX hEx hNc hR hl dL_law_1362 hC1 ⟨zcw_L_signedOf, zin_L, by decide, by decide +kernel, zst_L_signedOf⟩ rfl zml_L_185 (by decide) (Nat.le_of_ble_eq_true rfl) (by omega) ?_
  dsimp only [Option.toList, List.cons_append, List.nil_append]
  refine zV_istore hX dL_law_1365 (by decide) ?_
  dsimp only [zst1, zst2, zclr, zc2]
  refine zV_aload_n hX dL_law_1367 rfl ?_
  refine zV_aload_n hX dL_law_1368 rfl ?_
  refine zV_iload hX dL_law_1369 rfl ?_
  refine zV_iconst hX (v := nI 1) dL_law_1371 (by decide) ?_
  refine zV_iaddN hX dL_law_1372 ?_
  refine zV_sld hX hxs hb dL_law_1373 rfl ⟨by omega, by omega⟩ ?_
  refine zV_aload_n hX dL_law_1374 rfl ?_
  refine zV_iload hX dL_law_1375 rfl ?_
  refine zV_iconst hX (v := nI 2) dL_law_1377 (by decide) ?_
  refine zV_iaddN hX dL_law_1378 ?_
  refine zV_sld hX hxs hb dL_law_1379 rfl ⟨by omega, by omega⟩ ?_
  refine zV_aload_n hX dL_law_1380 rfl ?_
  refine zV_iload hX dL_law_1381 rfl ?_
  refine zV_iconst hX (v := nI 3) dL_law_1383 (by decide) ?_
  refine zV_iaddN hX dL_law_1384 ?_
  refine zV_sld hX hxs hb dL_law_1385 rfl ⟨by omega, by omega⟩ ?_
  refine zN_cV3 hX hR hl dL_law_1386 hC2 zt_X11_signedOf rfl zml_L_187 zo300.1 ⟨by decide, by omega⟩ (Nat.le_of_ble_eq_true rfl) (by omega) ?_
  dsimp only [Option.toList, List.cons_append, List.nil_append]
  refine zV_istore hX dL_law_1389 (by decide) ?_
  dsimp only [zst1, zst2, zclr, zc2]
  refine zV_aload_n hX dL_law_1391 rfl ?_
  refine zN_cV0 hX hR hl dL_law_1392 (zCk.of (zc_mthrown l G M2)) zt_X11_thrown rfl zml_L_119 zo300.1 ⟨by decide, by decide⟩ (Nat.le_of_ble_eq_true rfl) (by omega) ?_
  dsimp only [Option.toList, List.cons_append, List.nil_append]
  refine zV_topi (nI e) ht ?_
  refine zV_iload hX dL_law_1395 rfl ?_
  refine zV_icmp_eqN hX (tgt := 1402) dL_law_1397 (by decide) ⟨by omega, by omega⟩ (fun c_1397 => ?_) (fun c_1397 => absurd c_1397 (fun q => q rfl))
  refine zV_iload hX dL_law_1402 rfl ?_
  refine zV_if_neN hX (tgt := 1419) dL_law_1404 (by decide) (by omega) (fun c_1404 => ?_) (fun c_1404 => ?_)
  · refine zV_goto hX (tgt := 2446) dL_law_1419 (by decide) ?_
    refine zV_widen (c1 := cells + 15) (s1 := slots + 90) (by omega) (by omega) ?_
    exact kk _ _ _ _ hI
  · have he9 := he (by omega)
    refine zV_aload_n hX dL_law_1407 rfl ?_
    refine zV_iconst hX (v := nI 0) dL_law_1408 (by decide) ?_
    refine zV_lald hX (v := b.toInt64) dL_law_1409 (rfl : zSh 220 = (23, 1)) (rfl) ⟨by decide, by omega⟩ (he9) ?_
    refine zV_iload hX dL_law_1410 rfl ?_
    refine zV_i2l hX dL_law_1412 ?_
    refine zV_lcmp hX dL_law_1413 ?_
    refine zV_topi (nI 0) (lg_self _) ?_
    refine zV_if_eqN hX (tgt := 1419) dL_law_1414 (by decide) (by decide) (fun c_1414 => ?_) (fun c_1414 => absurd c_1414 (by decide))
    refine zV_goto hX (tgt := 2446) dL_law_1419 (by decide) ?_
    refine zV_widen (c1 := cells + 15) (s1 := slots + 90) (by omega) (by omega) ?_
    exact kk _ _ _ _ hI
set_option maxHeartbeats 1000000 in
theorem law_c20 (l : Launch) {G : zG} {I : zM → Prop} {M : zM} {X : zX} {Q : State → Prop} {cells slots n k b0 : Nat} {xs : Nat → Int32} (hX : zOk G X yL_law.cls cL_law 8) (hEx : zEx X.2.2.2.2.1) (hNc : va_Nc zIAE zNSE X.2.2.2.2.1) (hR : X.2.2.2.1 = room_1) (hl : X.2.1 = l) (hxs : va_X b0 n xs X.2.2.2.2.1 X.2.2.2.2.1.heap) (hb : b0 < X.2.2.2.2.1.heap.size ∧ ¬ zA G X.2.2.2.2.1.heap.size b0 ∧ G.1 4003 = b0) (hk : 6 * k + 6 ≤ n) (hn : n ≤ 3072) (hcs : cells + 15 ≤ 601024 ∧ slots + 90 ≤ 7293034) (hop : opI l G I yL_taken cL_taken 7 [(0, 14, 17, 19), (0, 14, 21, 13)] yX11_taken cX11_taken 6 [.int (xs (6 * k + 1)), .int (xs (6 * k + 2)), .int (xs (6 * k + 3)), .int (xs (6 * k + 4))] M) (kk : ∀ (M2 : zM) (v5 v6 v7 : Value), I M2 → zV G X Q 8 (cells + 15) (slots + 90) 2446 [.ref (4003 : Nat), .ref (0 : Nat), .ref (300 : Nat), .ref (220 : Nat), .int (nI (6 * k)), v5, v6, v7] [] M2) : ∀ v5 v6 v7 : Value, zV G X Q 8 cells slots 1422 [.ref (4003 : Nat), .ref (0 : Nat), .ref (300 : Nat), .ref (220 : Nat), .int (nI (6 * k)), v5, v6, v7] [] M := by
  intro v5 v6 v7
  obtain ⟨e, d9, mc, ms, b, M1, M2, hk3, hd9, hmc, hms, hC1, hC2, ht, he, hI⟩ := hop
  refine zV_aload_n hX dL_law_1422 rfl ?_
  refine zV_aload_n hX dL_law_1423 rfl ?_
  refine zV_iload hX dL_law_1424 rfl ?_
  refine zV_iconst hX (v := nI 1) dL_law_1426 (by decide) ?_
  refine zV_iaddN hX dL_law_1427 ?_
  refine zV_sld hX hxs hb dL_law_1428 rfl ⟨by omega, by omega⟩ ?_
  refine zV_aload_n hX dL_law_1429 rfl ?_
  refine zV_iload hX dL_law_1430 rfl ?_
  refine zV_iconst hX (v := nI 2) dL_law_1432 (by decide) ?_
  refine zV_iaddN hX dL_law_1433 ?_
  refine zV_sld hX hxs hb dL_law_1434 rfl ⟨by omega, by omega⟩ ?_
  refine zV_aload_n hX dL_law_1435 rfl ?_
  refine zV_iload hX dL_law_1436 rfl ?_
  refine zV_iconst hX (v := nI 3) dL_law_1438 (by decide) ?_
  refine zV_iaddN hX dL_law_1439 ?_
  refine zV_sld hX hxs hb dL_law_1440 rfl ⟨by omega, by omega⟩ ?_
  refine zV_aload_n hX dL_law_1441 rfl ?_
  refine zV_iload hX dL_law_1442 rfl ?_
  refine zV_iconst hX (v := nI 4) dL_law_1444 (by decide) ?_
  refine zV_iaddN hX dL_law_1445 ?_
  refine zV_sld hX hxs hb dL_law_1446 rfl ⟨by omega, by omega⟩ ?_
  refine zV_aload_n hX dL_law_1447 rfl ?_
  refine zN_cW6 hX hEx hNc hR hl dL_law_1448 hC1 ⟨zcw_L_taken, zin_L, by decide, by decide +kernel, zst_L_taken⟩ rfl zml_L_188 (by decide) (Nat.le_of_ble_eq_true rfl) (by omega) ?_
  dsimp only [Option.toList, List.cons_append, List.nil_append]
  refine zV_istore hX dL_law_1451 (by decide) ?_
  dsimp only [zst1, zst2, zclr, zc2]
  refine zV_aload_n hX dL_law_1453 rfl ?_
  refine zV_aload_n hX dL_law_1454 rfl ?_
  refine zV_iload hX dL_law_1455 rfl ?_
  refine zV_iconst hX (v := nI 1) dL_law_1457 (by decide) ?_
  refine zV_iaddN hX dL_law_1458 ?_
  refine zV_sld hX hxs hb dL_law_1459 rfl ⟨by omega, by omega⟩ ?_
  refine zV_aload_n hX dL_law_1460 rfl ?_
  refine zV_iload hX dL_law_1461 rfl ?_
  refine zV_iconst hX (v := nI 2) dL_law_1463 (by decide) ?_
  refine zV_iaddN hX dL_law_1464 ?_
  refine zV_sld hX hxs hb dL_law_1465 rfl ⟨by omega, by omega⟩ ?_
  refine zV_aload_n hX dL_law_1466 rfl ?_
  refine zV_iload hX dL_law_1467 rfl ?_
  refine zV_iconst hX (v := nI 3) dL_law_1469 (by decide) ?_
  refine zV_iaddN hX dL_law_1470 ?_
  refine zV_sld hX hxs hb dL_law_1471 rfl ⟨by omega, by omega⟩ ?_
  refine zV_aload_n hX dL_law_1472 rfl ?_
  refine zV_iload hX dL_law_1473 rfl ?_
  refine zV_iconst hX (v := nI 4) dL_law_1475 (by decide) ?_
  refine zV_iaddN hX dL_law_1476 ?_
  refine zV_sld hX hxs hb dL_law_1477 rfl ⟨by omega, by omega⟩ ?_
  refine zN_cV4 hX hR hl dL_law_1478 hC2 zt_X11_taken rfl zml_L_191 zo300.1 ⟨by decide, by omega⟩ (Nat.le_of_ble_eq_true rfl) (by omega) ?_
  dsimp only [Option.toList, List.cons_append, List.nil_append]
  refine zV_istore hX dL_law_1481 (by decide) ?_
  dsimp only [zst1, zst2, zclr, zc2]
  refine zV_aload_n hX dL_law_1483 rfl ?_
  refine zN_cV0 hX hR hl dL_law_1484 (zCk.of (zc_mthrown l G M2)) zt_X11_thrown rfl zml_L_119 zo300.1 ⟨by decide, by decide⟩ (Nat.le_of_ble_eq_true rfl) (by omega) ?_
  dsimp only [Option.toList, List.cons_append, List.nil_append]
  refine zV_topi (nI e) ht ?_
  refine zV_iload hX dL_law_1487 rfl ?_
  refine zV_icmp_eqN hX (tgt := 1494) dL_law_1489 (by decide) ⟨by omega, by omega⟩ (fun c_1489 => ?_) (fun c_1489 => absurd c_1489 (fun q => q rfl))
  refine zV_iload hX dL_law_1494 rfl ?_
  refine zV_if_neN hX (tgt := 1511) dL_law_1496 (by decide) (by omega) (fun c_1496 => ?_) (fun c_1496 => ?_)
  · refine zV_goto hX (tgt := 2446) dL_law_1511 (by decide) ?_
    refine zV_widen (c1 := cells + 15) (s1 := slots + 90) (by omega) (by omega) ?_
    exact kk _ _ _ _ hI
  · have he9 := he (by omega)
    refine zV_aload_n hX dL_law_1499 rfl ?_
    refine zV_iconst hX (v := nI 0) dL_law_1500 (by decide) ?_
    refine zV_lald hX (v := b.toInt64) dL_law_1501 (rfl : zSh 220 = (23, 1)) (rfl) ⟨by decide, by omega⟩ (he9) ?_
    refine zV_iload hX dL_law_1502 rfl ?_
    refine zV_i2l hX dL_law_1504 ?_
    refine zV_lcmp hX dL_law_1505 ?_
    refine zV_topi (nI 0) (lg_self _) ?_
    refine zV_if_eqN hX (tgt := 1511) dL_law_1506 (by decide) (by decide) (fun c_1506 => ?_) (fun c_1506 => absurd c_1506 (by decide))
    refine zV_goto hX (tgt := 2446) dL_law_1511 (by decide) ?_
    refine zV_widen (c1 := cells + 15) (s1 := slots + 90) (by omega) (by omega) ?_
    exact kk _ _ _ _ hI
set_option maxHeartbeats 1000000 in
theorem law_c21 (l : Launch) {G : zG} {I : zM → Prop} {M : zM} {X : zX} {Q : State → Prop} {cells slots n k b0 : Nat} {xs : Nat → Int32} (hX : zOk G X yL_law.cls cL_law 8) (hEx : zEx X.2.2.2.2.1) (hNc : va_Nc zIAE zNSE X.2.2.2.2.1) (hR : X.2.2.2.1 = room_1) (hl : X.2.1 = l) (hxs : va_X b0 n xs X.2.2.2.2.1 X.2.2.2.2.1.heap) (hb : b0 < X.2.2.2.2.1.heap.size ∧ ¬ zA G X.2.2.2.2.1.heap.size b0 ∧ G.1 4003 = b0) (hk : 6 * k + 6 ≤ n) (hn : n ≤ 3072) (hcs : cells + 15 ≤ 601024 ∧ slots + 90 ≤ 7293034) (hop : opP l G I (Option.some Jvm.ClassFile.FieldType.int) yX10_gains cX10_gains 3 yX11_gains cX11_gains 4 [] M) (kk : ∀ (M2 : zM) (v5 v6 v7 : Value), I M2 → zV G X Q 8 (cells + 15) (slots + 90) 2446 [.ref (4003 : Nat), .ref (0 : Nat), .ref (300 : Nat), .ref (220 : Nat), .int (nI (6 * k)), v5, v6, v7] [] M2) : ∀ v5 v6 v7 : Value, zV G X Q 8 cells slots 1514 [.ref (4003 : Nat), .ref (0 : Nat), .ref (300 : Nat), .ref (220 : Nat), .int (nI (6 * k)), v5, v6, v7] [] M := by
  intro v5 v6 v7
  obtain ⟨d9, mc, ms, b, M1, M2, hd9, hmc, hms, hC1, hC2, hI⟩ := hop
  refine zV_aload_n hX dL_law_1514 rfl ?_
  refine zN_cV0 hX hR hl dL_law_1515 (zCk.of hC1) zt_X10_gains rfl zml_L_192 zo0.1 ⟨by decide, by decide⟩ (Nat.le_of_ble_eq_true rfl) (by omega) ?_
  dsimp only [Option.toList, List.cons_append, List.nil_append]
  refine zV_aload_n hX dL_law_1518 rfl ?_
  refine zN_cV0 hX hR hl dL_law_1519 hC2 zt_X11_gains rfl zml_L_195 zo300.1 ⟨by decide, by omega⟩ (Nat.le_of_ble_eq_true rfl) (by omega) ?_
  dsimp only [Option.toList, List.cons_append, List.nil_append]
  refine zV_icmp_eq hX (tgt := 2446) dL_law_1522 (by decide) (fun c_1522 => ?_) (fun c_1522 => absurd c_1522 (fun q => q rfl))
  refine zV_widen (c1 := cells + 15) (s1 := slots + 90) (by omega) (by omega) ?_
  exact kk _ _ _ _ hI
set_option maxHeartbeats 1000000 in
theorem law_c22 (l : Launch) {G : zG} {I : zM → Prop} {M : zM} {X : zX} {Q : State → Prop} {cells slots n k b0 : Nat} {xs : Nat → Int32} (hX : zOk G X yL_law.cls cL_law 8) (hEx : zEx X.2.2.2.2.1) (hNc : va_Nc zIAE zNSE X.2.2.2.2.1) (hR : X.2.2.2.1 = room_1) (hl : X.2.1 = l) (hxs : va_X b0 n xs X.2.2.2.2.1 X.2.2.2.2.1.heap) (hb : b0 < X.2.2.2.2.1.heap.size ∧ ¬ zA G X.2.2.2.2.1.heap.size b0 ∧ G.1 4003 = b0) (hk : 6 * k + 6 ≤ n) (hn : n ≤ 3072) (hcs : cells + 15 ≤ 601024 ∧ slots + 90 ≤ 7293034) (hop : opI l G I yL_king cL_king 5 [(0, 10, 13, 19), (0, 10, 17, 13)] yX11_king cX11_king 4 [.int (xs (6 * k + 1)), .int (xs (6 * k + 2))] M) (kk : ∀ (M2 : zM) (v5 v6 v7 : Value), I M2 → zV G X Q 8 (cells + 15) (slots + 90) 2446 [.ref (4003 : Nat), .ref (0 : Nat), .ref (300 : Nat), .ref (220 : Nat), .int (nI (6 * k)), v5, v6, v7] [] M2) : ∀ v5 v6 v7 : Value, zV G X Q 8 cells slots 1527 [.ref (4003 : Nat), .ref (0 : Nat), .ref (300 : Nat), .ref (220 : Nat), .int (nI (6 * k)), v5, v6, v7] [] M := by
  intro v5 v6 v7
  obtain ⟨e, d9, mc, ms, b, M1, M2, hk3, hd9, hmc, hms, hC1, hC2, ht, he, hI⟩ := hop
  refine zV_aload_n hX dL_law_1527 rfl ?_
  refine zV_aload_n hX dL_law_1528 rfl ?_
  refine zV_iload hX dL_law_1529 rfl ?_
  refine zV_iconst hX (v := nI 1) dL_law_1531 (by decide) ?_
  refine zV_iaddN hX dL_law_1532 ?_
  refine zV_sld hX hxs hb dL_law_1533 rfl ⟨by omega, by omega⟩ ?_
  refine zV_aload_n hX dL_law_1534 rfl ?_
  refine zV_iload hX dL_law_1535 rfl ?_
  refine zV_iconst hX (v := nI 2) dL_law_1537 (by decide) ?_
  refine zV_iaddN hX dL_law_1538 ?_
  refine zV_sld hX hxs hb dL_law_1539 rfl ⟨by omega, by omega⟩ ?_
  refine zV_aload_n hX dL_law_1540 rfl ?_
  refine zN_cW4 hX hEx hNc hR hl dL_law_1541 hC1 ⟨zcw_L_king, zin_L, by decide, by decide +kernel, zst_L_king⟩ rfl zml_L_196 (by decide) (Nat.le_of_ble_eq_true rfl) (by omega) ?_
  dsimp only [Option.toList, List.cons_append, List.nil_append]
  refine zV_istore hX dL_law_1544 (by decide) ?_
  dsimp only [zst1, zst2, zclr, zc2]
  refine zV_aload_n hX dL_law_1546 rfl ?_
  refine zV_aload_n hX dL_law_1547 rfl ?_
  refine zV_iload hX dL_law_1548 rfl ?_
  refine zV_iconst hX (v := nI 1) dL_law_1550 (by decide) ?_
  refine zV_iaddN hX dL_law_1551 ?_
  refine zV_sld hX hxs hb dL_law_1552 rfl ⟨by omega, by omega⟩ ?_
  refine zV_aload_n hX dL_law_1553 rfl ?_
  refine zV_iload hX dL_law_1554 rfl ?_
  refine zV_iconst hX (v := nI 2) dL_law_1556 (by decide) ?_
  refine zV_iaddN hX dL_law_1557 ?_
  refine zV_sld hX hxs hb dL_law_1558 rfl ⟨by omega, by omega⟩ ?_
  refine zN_cV2 hX hR hl dL_law_1559 hC2 zt_X11_king rfl zml_L_198 zo300.1 ⟨by decide, by omega⟩ (Nat.le_of_ble_eq_true rfl) (by omega) ?_
  dsimp only [Option.toList, List.cons_append, List.nil_append]
  refine zV_istore hX dL_law_1562 (by decide) ?_
  dsimp only [zst1, zst2, zclr, zc2]
  refine zV_aload_n hX dL_law_1564 rfl ?_
  refine zN_cV0 hX hR hl dL_law_1565 (zCk.of (zc_mthrown l G M2)) zt_X11_thrown rfl zml_L_119 zo300.1 ⟨by decide, by decide⟩ (Nat.le_of_ble_eq_true rfl) (by omega) ?_
  dsimp only [Option.toList, List.cons_append, List.nil_append]
  refine zV_topi (nI e) ht ?_
  refine zV_iload hX dL_law_1568 rfl ?_
  refine zV_icmp_eqN hX (tgt := 1575) dL_law_1570 (by decide) ⟨by omega, by omega⟩ (fun c_1570 => ?_) (fun c_1570 => absurd c_1570 (fun q => q rfl))
  refine zV_iload hX dL_law_1575 rfl ?_
  refine zV_if_neN hX (tgt := 1592) dL_law_1577 (by decide) (by omega) (fun c_1577 => ?_) (fun c_1577 => ?_)
  · refine zV_goto hX (tgt := 2446) dL_law_1592 (by decide) ?_
    refine zV_widen (c1 := cells + 15) (s1 := slots + 90) (by omega) (by omega) ?_
    exact kk _ _ _ _ hI
  · have he9 := he (by omega)
    refine zV_aload_n hX dL_law_1580 rfl ?_
    refine zV_iconst hX (v := nI 0) dL_law_1581 (by decide) ?_
    refine zV_lald hX (v := b.toInt64) dL_law_1582 (rfl : zSh 220 = (23, 1)) (rfl) ⟨by decide, by omega⟩ (he9) ?_
    refine zV_iload hX dL_law_1583 rfl ?_
    refine zV_i2l hX dL_law_1585 ?_
    refine zV_lcmp hX dL_law_1586 ?_
    refine zV_topi (nI 0) (lg_self _) ?_
    refine zV_if_eqN hX (tgt := 1592) dL_law_1587 (by decide) (by decide) (fun c_1587 => ?_) (fun c_1587 => absurd c_1587 (by decide))
    refine zV_goto hX (tgt := 2446) dL_law_1592 (by decide) ?_
    refine zV_widen (c1 := cells + 15) (s1 := slots + 90) (by omega) (by omega) ?_
    exact kk _ _ _ _ hI
set_option maxHeartbeats 1000000 in
theorem law_c23 (l : Launch) {G : zG} {I : zM → Prop} {M : zM} {X : zX} {Q : State → Prop} {cells slots n k b0 : Nat} {xs : Nat → Int32} (hX : zOk G X yL_law.cls cL_law 8) (hEx : zEx X.2.2.2.2.1) (hNc : va_Nc zIAE zNSE X.2.2.2.2.1) (hR : X.2.2.2.1 = room_1) (hl : X.2.1 = l) (hxs : va_X b0 n xs X.2.2.2.2.1 X.2.2.2.2.1.heap) (hb : b0 < X.2.2.2.2.1.heap.size ∧ ¬ zA G X.2.2.2.2.1.heap.size b0 ∧ G.1 4003 = b0) (hk : 6 * k + 6 ≤ n) (hn : n ≤ 3072) (hcs : cells + 15 ≤ 601024 ∧ slots + 90 ≤ 7293034) (hop : opI l G I yL_kings cL_kings 4 [(0, 9, 12, 13)] yX11_kings cX11_kings 5 [.int (xs (6 * k + 1))] M) (kk : ∀ (M2 : zM) (v5 v6 v7 : Value), I M2 → zV G X Q 8 (cells + 15) (slots + 90) 2446 [.ref (4003 : Nat), .ref (0 : Nat), .ref (300 : Nat), .ref (220 : Nat), .int (nI (6 * k)), v5, v6, v7] [] M2) : ∀ v5 v6 v7 : Value, zV G X Q 8 cells slots 1595 [.ref (4003 : Nat), .ref (0 : Nat), .ref (300 : Nat), .ref (220 : Nat), .int (nI (6 * k)), v5, v6, v7] [] M := by
  intro v5 v6 v7
  obtain ⟨e, d9, mc, ms, b, M1, M2, hk3, hd9, hmc, hms, hC1, hC2, ht, he, hI⟩ := hop
  refine zV_aload_n hX dL_law_1595 rfl ?_
  refine zV_aload_n hX dL_law_1596 rfl ?_
  refine zV_iload hX dL_law_1597 rfl ?_
  refine zV_iconst hX (v := nI 1) dL_law_1599 (by decide) ?_
  refine zV_iaddN hX dL_law_1600 ?_
  refine zV_sld hX hxs hb dL_law_1601 rfl ⟨by omega, by omega⟩ ?_
  refine zV_aload_n hX dL_law_1602 rfl ?_
  refine zN_cW3 hX hEx hNc hR hl dL_law_1603 hC1 ⟨zcw_L_kings, zin_L, by decide, by decide +kernel, zst_L_kings⟩ rfl zml_L_199 (by decide) (Nat.le_of_ble_eq_true rfl) (by omega) ?_
  dsimp only [Option.toList, List.cons_append, List.nil_append]
  refine zV_istore hX dL_law_1606 (by decide) ?_
  dsimp only [zst1, zst2, zclr, zc2]
  refine zV_aload_n hX dL_law_1608 rfl ?_
  refine zV_aload_n hX dL_law_1609 rfl ?_
  refine zV_iload hX dL_law_1610 rfl ?_
  refine zV_iconst hX (v := nI 1) dL_law_1612 (by decide) ?_
  refine zV_iaddN hX dL_law_1613 ?_
  refine zV_sld hX hxs hb dL_law_1614 rfl ⟨by omega, by omega⟩ ?_
  refine zN_cV1 hX hR hl dL_law_1615 hC2 zt_X11_kings rfl zml_L_201 zo300.1 ⟨by decide, by omega⟩ (Nat.le_of_ble_eq_true rfl) (by omega) ?_
  dsimp only [Option.toList, List.cons_append, List.nil_append]
  refine zV_istore hX dL_law_1618 (by decide) ?_
  dsimp only [zst1, zst2, zclr, zc2]
  refine zV_aload_n hX dL_law_1620 rfl ?_
  refine zN_cV0 hX hR hl dL_law_1621 (zCk.of (zc_mthrown l G M2)) zt_X11_thrown rfl zml_L_119 zo300.1 ⟨by decide, by decide⟩ (Nat.le_of_ble_eq_true rfl) (by omega) ?_
  dsimp only [Option.toList, List.cons_append, List.nil_append]
  refine zV_topi (nI e) ht ?_
  refine zV_iload hX dL_law_1624 rfl ?_
  refine zV_icmp_eqN hX (tgt := 1631) dL_law_1626 (by decide) ⟨by omega, by omega⟩ (fun c_1626 => ?_) (fun c_1626 => absurd c_1626 (fun q => q rfl))
  refine zV_iload hX dL_law_1631 rfl ?_
  refine zV_if_neN hX (tgt := 1648) dL_law_1633 (by decide) (by omega) (fun c_1633 => ?_) (fun c_1633 => ?_)
  · refine zV_goto hX (tgt := 2446) dL_law_1648 (by decide) ?_
    refine zV_widen (c1 := cells + 15) (s1 := slots + 90) (by omega) (by omega) ?_
    exact kk _ _ _ _ hI
  · have he9 := he (by omega)
    refine zV_aload_n hX dL_law_1636 rfl ?_
    refine zV_iconst hX (v := nI 0) dL_law_1637 (by decide) ?_
    refine zV_lald hX (v := b.toInt64) dL_law_1638 (rfl : zSh 220 = (23, 1)) (rfl) ⟨by decide, by omega⟩ (he9) ?_
    refine zV_iload hX dL_law_1639 rfl ?_
    refine zV_i2l hX dL_law_1641 ?_
    refine zV_lcmp hX dL_law_1642 ?_
    refine zV_topi (nI 0) (lg_self _) ?_
    refine zV_if_eqN hX (tgt := 1648) dL_law_1643 (by decide) (by decide) (fun c_1643 => ?_) (fun c_1643 => absurd c_1643 (by decide))
    refine zV_goto hX (tgt := 2446) dL_law_1648 (by decide) ?_
    refine zV_widen (c1 := cells + 15) (s1 := slots + 90) (by omega) (by omega) ?_
    exact kk _ _ _ _ hI
set_option maxHeartbeats 1000000 in
theorem law_c24 (l : Launch) {G : zG} {I : zM → Prop} {M : zM} {X : zX} {Q : State → Prop} {cells slots n k b0 : Nat} {xs : Nat → Int32} (hX : zOk G X yL_law.cls cL_law 8) (hEx : zEx X.2.2.2.2.1) (hNc : va_Nc zIAE zNSE X.2.2.2.2.1) (hR : X.2.2.2.1 = room_1) (hl : X.2.1 = l) (hxs : va_X b0 n xs X.2.2.2.2.1 X.2.2.2.2.1.heap) (hb : b0 < X.2.2.2.2.1.heap.size ∧ ¬ zA G X.2.2.2.2.1.heap.size b0 ∧ G.1 4003 = b0) (hk : 6 * k + 6 ≤ n) (hn : n ≤ 3072) (hcs : cells + 15 ≤ 601024 ∧ slots + 90 ≤ 7293034) (hop : opI l G I yL_echoes cL_echoes 5 [(0, 10, 13, 19), (0, 10, 17, 13)] yX11_echoes cX11_echoes 3 [.int (xs (6 * k + 1)), .int (xs (6 * k + 2))] M) (kk : ∀ (M2 : zM) (v5 v6 v7 : Value), I M2 → zV G X Q 8 (cells + 15) (slots + 90) 2446 [.ref (4003 : Nat), .ref (0 : Nat), .ref (300 : Nat), .ref (220 : Nat), .int (nI (6 * k)), v5, v6, v7] [] M2) : ∀ v5 v6 v7 : Value, zV G X Q 8 cells slots 1651 [.ref (4003 : Nat), .ref (0 : Nat), .ref (300 : Nat), .ref (220 : Nat), .int (nI (6 * k)), v5, v6, v7] [] M := by
  intro v5 v6 v7
  obtain ⟨e, d9, mc, ms, b, M1, M2, hk3, hd9, hmc, hms, hC1, hC2, ht, he, hI⟩ := hop
  refine zV_aload_n hX dL_law_1651 rfl ?_
  refine zV_aload_n hX dL_law_1652 rfl ?_
  refine zV_iload hX dL_law_1653 rfl ?_
  refine zV_iconst hX (v := nI 1) dL_law_1655 (by decide) ?_
  refine zV_iaddN hX dL_law_1656 ?_
  refine zV_sld hX hxs hb dL_law_1657 rfl ⟨by omega, by omega⟩ ?_
  refine zV_aload_n hX dL_law_1658 rfl ?_
  refine zV_iload hX dL_law_1659 rfl ?_
  refine zV_iconst hX (v := nI 2) dL_law_1661 (by decide) ?_
  refine zV_iaddN hX dL_law_1662 ?_
  refine zV_sld hX hxs hb dL_law_1663 rfl ⟨by omega, by omega⟩ ?_
  refine zV_aload_n hX dL_law_1664 rfl ?_
  refine zN_cW4 hX hEx hNc hR hl dL_law_1665 hC1 ⟨zcw_L_echoes, zin_L, by decide, by decide +kernel, zst_L_echoes⟩ rfl zml_L_202 (by decide) (Nat.le_of_ble_eq_true rfl) (by omega) ?_
  dsimp only [Option.toList, List.cons_append, List.nil_append]
  refine zV_istore hX dL_law_1668 (by decide) ?_
  dsimp only [zst1, zst2, zclr, zc2]
  refine zV_aload_n hX dL_law_1670 rfl ?_
  refine zV_aload_n hX dL_law_1671 rfl ?_
  refine zV_iload hX dL_law_1672 rfl ?_
  refine zV_iconst hX (v := nI 1) dL_law_1674 (by decide) ?_
  refine zV_iaddN hX dL_law_1675 ?_
  refine zV_sld hX hxs hb dL_law_1676 rfl ⟨by omega, by omega⟩ ?_
  refine zV_aload_n hX dL_law_1677 rfl ?_
  refine zV_iload hX dL_law_1678 rfl ?_
  refine zV_iconst hX (v := nI 2) dL_law_1680 (by decide) ?_
  refine zV_iaddN hX dL_law_1681 ?_
  refine zV_sld hX hxs hb dL_law_1682 rfl ⟨by omega, by omega⟩ ?_
  refine zN_cV2 hX hR hl dL_law_1683 hC2 zt_X11_echoes rfl zml_L_204 zo300.1 ⟨by decide, by omega⟩ (Nat.le_of_ble_eq_true rfl) (by omega) ?_
  dsimp only [Option.toList, List.cons_append, List.nil_append]
  refine zV_istore hX dL_law_1686 (by decide) ?_
  dsimp only [zst1, zst2, zclr, zc2]
  refine zV_aload_n hX dL_law_1688 rfl ?_
  refine zN_cV0 hX hR hl dL_law_1689 (zCk.of (zc_mthrown l G M2)) zt_X11_thrown rfl zml_L_119 zo300.1 ⟨by decide, by decide⟩ (Nat.le_of_ble_eq_true rfl) (by omega) ?_
  dsimp only [Option.toList, List.cons_append, List.nil_append]
  refine zV_topi (nI e) ht ?_
  refine zV_iload hX dL_law_1692 rfl ?_
  refine zV_icmp_eqN hX (tgt := 1699) dL_law_1694 (by decide) ⟨by omega, by omega⟩ (fun c_1694 => ?_) (fun c_1694 => absurd c_1694 (fun q => q rfl))
  refine zV_iload hX dL_law_1699 rfl ?_
  refine zV_if_neN hX (tgt := 1716) dL_law_1701 (by decide) (by omega) (fun c_1701 => ?_) (fun c_1701 => ?_)
  · refine zV_goto hX (tgt := 2446) dL_law_1716 (by decide) ?_
    refine zV_widen (c1 := cells + 15) (s1 := slots + 90) (by omega) (by omega) ?_
    exact kk _ _ _ _ hI
  · have he9 := he (by omega)
    refine zV_aload_n hX dL_law_1704 rfl ?_
    refine zV_iconst hX (v := nI 0) dL_law_1705 (by decide) ?_
    refine zV_lald hX (v := b.toInt64) dL_law_1706 (rfl : zSh 220 = (23, 1)) (rfl) ⟨by decide, by omega⟩ (he9) ?_
    refine zV_iload hX dL_law_1707 rfl ?_
    refine zV_i2l hX dL_law_1709 ?_
    refine zV_lcmp hX dL_law_1710 ?_
    refine zV_topi (nI 0) (lg_self _) ?_
    refine zV_if_eqN hX (tgt := 1716) dL_law_1711 (by decide) (by decide) (fun c_1711 => ?_) (fun c_1711 => absurd c_1711 (by decide))
    refine zV_goto hX (tgt := 2446) dL_law_1716 (by decide) ?_
    refine zV_widen (c1 := cells + 15) (s1 := slots + 90) (by omega) (by omega) ?_
    exact kk _ _ _ _ hI
set_option maxHeartbeats 1000000 in
theorem law_c25 (l : Launch) {G : zG} {I : zM → Prop} {M : zM} {X : zX} {Q : State → Prop} {cells slots n k b0 : Nat} {xs : Nat → Int32} (hX : zOk G X yL_law.cls cL_law 8) (hEx : zEx X.2.2.2.2.1) (hNc : va_Nc zIAE zNSE X.2.2.2.2.1) (hR : X.2.2.2.1 = room_1) (hl : X.2.1 = l) (hxs : va_X b0 n xs X.2.2.2.2.1 X.2.2.2.2.1.heap) (hb : b0 < X.2.2.2.2.1.heap.size ∧ ¬ zA G X.2.2.2.2.1.heap.size b0 ∧ G.1 4003 = b0) (hk : 6 * k + 6 ≤ n) (hn : n ≤ 3072) (hcs : cells + 15 ≤ 601024 ∧ slots + 90 ≤ 7293034) (hop : opI l G I yL_echoesOf cL_echoesOf 6 [(0, 12, 15, 19), (0, 12, 19, 13)] yX11_echoesOf cX11_echoesOf 4 [.int (xs (6 * k + 1)), .int (xs (6 * k + 2)), .int (xs (6 * k + 3))] M) (kk : ∀ (M2 : zM) (v5 v6 v7 : Value), I M2 → zV G X Q 8 (cells + 15) (slots + 90) 2446 [.ref (4003 : Nat), .ref (0 : Nat), .ref (300 : Nat), .ref (220 : Nat), .int (nI (6 * k)), v5, v6, v7] [] M2) : ∀ v5 v6 v7 : Value, zV G X Q 8 cells slots 1719 [.ref (4003 : Nat), .ref (0 : Nat), .ref (300 : Nat), .ref (220 : Nat), .int (nI (6 * k)), v5, v6, v7] [] M := by
  intro v5 v6 v7
  obtain ⟨e, d9, mc, ms, b, M1, M2, hk3, hd9, hmc, hms, hC1, hC2, ht, he, hI⟩ := hop
  refine zV_aload_n hX dL_law_1719 rfl ?_
  refine zV_aload_n hX dL_law_1720 rfl ?_
  refine zV_iload hX dL_law_1721 rfl ?_
  refine zV_iconst hX (v := nI 1) dL_law_1723 (by decide) ?_
  refine zV_iaddN hX dL_law_1724 ?_
  refine zV_sld hX hxs hb dL_law_1725 rfl ⟨by omega, by omega⟩ ?_
  refine zV_aload_n hX dL_law_1726 rfl ?_
  refine zV_iload hX dL_law_1727 rfl ?_
  refine zV_iconst hX (v := nI 2) dL_law_1729 (by decide) ?_
  refine zV_iaddN hX dL_law_1730 ?_
  refine zV_sld hX hxs hb dL_law_1731 rfl ⟨by omega, by omega⟩ ?_
  refine zV_aload_n hX dL_law_1732 rfl ?_
  refine zV_iload hX dL_law_1733 rfl ?_
  refine zV_iconst hX (v := nI 3) dL_law_1735 (by decide) ?_
  refine zV_iaddN hX dL_law_1736 ?_
  refine zV_sld hX hxs hb dL_law_1737 rfl ⟨by omega, by omega⟩ ?_
  refine zV_aload_n hX dL_law_1738 rfl ?_
  refine zN_cW5 hX hEx hNc hR hl dL_law_1739 hC1 ⟨zcw_L_echoesOf, zin_L, by decide, by decide +kernel, zst_L_echoesOf⟩ rfl zml_L_205 (by decide) (Nat.le_of_ble_eq_true rfl) (by omega) ?_
  dsimp only [Option.toList, List.cons_append, List.nil_append]
  refine zV_istore hX dL_law_1742 (by decide) ?_
  dsimp only [zst1, zst2, zclr, zc2]
  refine zV_aload_n hX dL_law_1744 rfl ?_
  refine zV_aload_n hX dL_law_1745 rfl ?_
  refine zV_iload hX dL_law_1746 rfl ?_
  refine zV_iconst hX (v := nI 1) dL_law_1748 (by decide) ?_
  refine zV_iaddN hX dL_law_1749 ?_
  refine zV_sld hX hxs hb dL_law_1750 rfl ⟨by omega, by omega⟩ ?_
  refine zV_aload_n hX dL_law_1751 rfl ?_
  refine zV_iload hX dL_law_1752 rfl ?_
  refine zV_iconst hX (v := nI 2) dL_law_1754 (by decide) ?_
  refine zV_iaddN hX dL_law_1755 ?_
  refine zV_sld hX hxs hb dL_law_1756 rfl ⟨by omega, by omega⟩ ?_
  refine zV_aload_n hX dL_law_1757 rfl ?_
  refine zV_iload hX dL_law_1758 rfl ?_
  refine zV_iconst hX (v := nI 3) dL_law_1760 (by decide) ?_
  refine zV_iaddN hX dL_law_1761 ?_
  refine zV_sld hX hxs hb dL_law_1762 rfl ⟨by omega, by omega⟩ ?_
  refine zN_cV3 hX hR hl dL_law_1763 hC2 zt_X11_echoesOf rfl zml_L_207 zo300.1 ⟨by decide, by omega⟩ (Nat.le_of_ble_eq_true rfl) (by omega) ?_
  dsimp only [Option.toList, List.cons_append, List.nil_append]
  refine zV_istore hX dL_law_1766 (by decide) ?_
  dsimp only [zst1, zst2, zclr, zc2]
  refine zV_aload_n hX dL_law_1768 rfl ?_
  refine zN_cV0 hX hR hl dL_law_1769 (zCk.of (zc_mthrown l G M2)) zt_X11_thrown rfl zml_L_119 zo300.1 ⟨by decide, by decide⟩ (Nat.le_of_ble_eq_true rfl) (by omega) ?_
  dsimp only [Option.toList, List.cons_append, List.nil_append]
  refine zV_topi (nI e) ht ?_
  refine zV_iload hX dL_law_1772 rfl ?_
  refine zV_icmp_eqN hX (tgt := 1779) dL_law_1774 (by decide) ⟨by omega, by omega⟩ (fun c_1774 => ?_) (fun c_1774 => absurd c_1774 (fun q => q rfl))
  refine zV_iload hX dL_law_1779 rfl ?_
  refine zV_if_neN hX (tgt := 1796) dL_law_1781 (by decide) (by omega) (fun c_1781 => ?_) (fun c_1781 => ?_)
  · refine zV_goto hX (tgt := 2446) dL_law_1796 (by decide) ?_
    refine zV_widen (c1 := cells + 15) (s1 := slots + 90) (by omega) (by omega) ?_
    exact kk _ _ _ _ hI
  · have he9 := he (by omega)
    refine zV_aload_n hX dL_law_1784 rfl ?_
    refine zV_iconst hX (v := nI 0) dL_law_1785 (by decide) ?_
    refine zV_lald hX (v := b.toInt64) dL_law_1786 (rfl : zSh 220 = (23, 1)) (rfl) ⟨by decide, by omega⟩ (he9) ?_
    refine zV_iload hX dL_law_1787 rfl ?_
    refine zV_i2l hX dL_law_1789 ?_
    refine zV_lcmp hX dL_law_1790 ?_
    refine zV_topi (nI 0) (lg_self _) ?_
    refine zV_if_eqN hX (tgt := 1796) dL_law_1791 (by decide) (by decide) (fun c_1791 => ?_) (fun c_1791 => absurd c_1791 (by decide))
    refine zV_goto hX (tgt := 2446) dL_law_1796 (by decide) ?_
    refine zV_widen (c1 := cells + 15) (s1 := slots + 90) (by omega) (by omega) ?_
    exact kk _ _ _ _ hI
set_option maxHeartbeats 1000000 in
theorem law_c26 (l : Launch) {G : zG} {I : zM → Prop} {M : zM} {X : zX} {Q : State → Prop} {cells slots n k b0 : Nat} {xs : Nat → Int32} (hX : zOk G X yL_law.cls cL_law 8) (hEx : zEx X.2.2.2.2.1) (hNc : va_Nc zIAE zNSE X.2.2.2.2.1) (hR : X.2.2.2.1 = room_1) (hl : X.2.1 = l) (hxs : va_X b0 n xs X.2.2.2.2.1 X.2.2.2.2.1.heap) (hb : b0 < X.2.2.2.2.1.heap.size ∧ ¬ zA G X.2.2.2.2.1.heap.size b0 ∧ G.1 4003 = b0) (hk : 6 * k + 6 ≤ n) (hn : n ≤ 3072) (hcs : cells + 15 ≤ 601024 ∧ slots + 90 ≤ 7293034) (hop : opI l G I yL_messages cL_messages 5 [(0, 10, 13, 13)] yX11_messages cX11_messages 3 [.int (xs (6 * k + 1)), .int (xs (6 * k + 2))] M) (kk : ∀ (M2 : zM) (v5 v6 v7 : Value), I M2 → zV G X Q 8 (cells + 15) (slots + 90) 2446 [.ref (4003 : Nat), .ref (0 : Nat), .ref (300 : Nat), .ref (220 : Nat), .int (nI (6 * k)), v5, v6, v7] [] M2) : ∀ v5 v6 v7 : Value, zV G X Q 8 cells slots 1799 [.ref (4003 : Nat), .ref (0 : Nat), .ref (300 : Nat), .ref (220 : Nat), .int (nI (6 * k)), v5, v6, v7] [] M := by
  intro v5 v6 v7
  obtain ⟨e, d9, mc, ms, b, M1, M2, hk3, hd9, hmc, hms, hC1, hC2, ht, he, hI⟩ := hop
  refine zV_aload_n hX dL_law_1799 rfl ?_
  refine zV_aload_n hX dL_law_1800 rfl ?_
  refine zV_iload hX dL_law_1801 rfl ?_
  refine zV_iconst hX (v := nI 1) dL_law_1803 (by decide) ?_
  refine zV_iaddN hX dL_law_1804 ?_
  refine zV_sld hX hxs hb dL_law_1805 rfl ⟨by omega, by omega⟩ ?_
  refine zV_aload_n hX dL_law_1806 rfl ?_
  refine zV_iload hX dL_law_1807 rfl ?_
  refine zV_iconst hX (v := nI 2) dL_law_1809 (by decide) ?_
  refine zV_iaddN hX dL_law_1810 ?_
  refine zV_sld hX hxs hb dL_law_1811 rfl ⟨by omega, by omega⟩ ?_
  refine zV_aload_n hX dL_law_1812 rfl ?_
  refine zN_cW4 hX hEx hNc hR hl dL_law_1813 hC1 ⟨zcw_L_messages, zin_L, by decide, by decide +kernel, zst_L_messages⟩ rfl zml_L_208 (by decide) (Nat.le_of_ble_eq_true rfl) (by omega) ?_
  dsimp only [Option.toList, List.cons_append, List.nil_append]
  refine zV_istore hX dL_law_1816 (by decide) ?_
  dsimp only [zst1, zst2, zclr, zc2]
  refine zV_aload_n hX dL_law_1818 rfl ?_
  refine zV_aload_n hX dL_law_1819 rfl ?_
  refine zV_iload hX dL_law_1820 rfl ?_
  refine zV_iconst hX (v := nI 1) dL_law_1822 (by decide) ?_
  refine zV_iaddN hX dL_law_1823 ?_
  refine zV_sld hX hxs hb dL_law_1824 rfl ⟨by omega, by omega⟩ ?_
  refine zV_aload_n hX dL_law_1825 rfl ?_
  refine zV_iload hX dL_law_1826 rfl ?_
  refine zV_iconst hX (v := nI 2) dL_law_1828 (by decide) ?_
  refine zV_iaddN hX dL_law_1829 ?_
  refine zV_sld hX hxs hb dL_law_1830 rfl ⟨by omega, by omega⟩ ?_
  refine zN_cV2 hX hR hl dL_law_1831 hC2 zt_X11_messages rfl zml_L_210 zo300.1 ⟨by decide, by omega⟩ (Nat.le_of_ble_eq_true rfl) (by omega) ?_
  dsimp only [Option.toList, List.cons_append, List.nil_append]
  refine zV_istore hX dL_law_1834 (by decide) ?_
  dsimp only [zst1, zst2, zclr, zc2]
  refine zV_aload_n hX dL_law_1836 rfl ?_
  refine zN_cV0 hX hR hl dL_law_1837 (zCk.of (zc_mthrown l G M2)) zt_X11_thrown rfl zml_L_119 zo300.1 ⟨by decide, by decide⟩ (Nat.le_of_ble_eq_true rfl) (by omega) ?_
  dsimp only [Option.toList, List.cons_append, List.nil_append]
  refine zV_topi (nI e) ht ?_
  refine zV_iload hX dL_law_1840 rfl ?_
  refine zV_icmp_eqN hX (tgt := 1847) dL_law_1842 (by decide) ⟨by omega, by omega⟩ (fun c_1842 => ?_) (fun c_1842 => absurd c_1842 (fun q => q rfl))
  refine zV_iload hX dL_law_1847 rfl ?_
  refine zV_if_neN hX (tgt := 1864) dL_law_1849 (by decide) (by omega) (fun c_1849 => ?_) (fun c_1849 => ?_)
  · refine zV_goto hX (tgt := 2446) dL_law_1864 (by decide) ?_
    refine zV_widen (c1 := cells + 15) (s1 := slots + 90) (by omega) (by omega) ?_
    exact kk _ _ _ _ hI
  · have he9 := he (by omega)
    refine zV_aload_n hX dL_law_1852 rfl ?_
    refine zV_iconst hX (v := nI 0) dL_law_1853 (by decide) ?_
    refine zV_lald hX (v := b.toInt64) dL_law_1854 (rfl : zSh 220 = (23, 1)) (rfl) ⟨by decide, by omega⟩ (he9) ?_
    refine zV_iload hX dL_law_1855 rfl ?_
    refine zV_i2l hX dL_law_1857 ?_
    refine zV_lcmp hX dL_law_1858 ?_
    refine zV_topi (nI 0) (lg_self _) ?_
    refine zV_if_eqN hX (tgt := 1864) dL_law_1859 (by decide) (by decide) (fun c_1859 => ?_) (fun c_1859 => absurd c_1859 (by decide))
    refine zV_goto hX (tgt := 2446) dL_law_1864 (by decide) ?_
    refine zV_widen (c1 := cells + 15) (s1 := slots + 90) (by omega) (by omega) ?_
    exact kk _ _ _ _ hI
set_option maxHeartbeats 1000000 in
theorem law_c27 (l : Launch) {G : zG} {I : zM → Prop} {M : zM} {X : zX} {Q : State → Prop} {cells slots n k b0 : Nat} {xs : Nat → Int32} (hX : zOk G X yL_law.cls cL_law 8) (hEx : zEx X.2.2.2.2.1) (hNc : va_Nc zIAE zNSE X.2.2.2.2.1) (hR : X.2.2.2.1 = room_1) (hl : X.2.1 = l) (hxs : va_X b0 n xs X.2.2.2.2.1 X.2.2.2.2.1.heap) (hb : b0 < X.2.2.2.2.1.heap.size ∧ ¬ zA G X.2.2.2.2.1.heap.size b0 ∧ G.1 4003 = b0) (hk : 6 * k + 6 ≤ n) (hn : n ≤ 3072) (hcs : cells + 15 ≤ 601024 ∧ slots + 90 ≤ 7293034) (hop : opI l G I yL_nearer cL_nearer 6 [(0, 12, 15, 19), (0, 12, 19, 13)] yX11_nearer cX11_nearer 4 [.int (xs (6 * k + 1)), .int (xs (6 * k + 2)), .int (xs (6 * k + 3))] M) (kk : ∀ (M2 : zM) (v5 v6 v7 : Value), I M2 → zV G X Q 8 (cells + 15) (slots + 90) 2446 [.ref (4003 : Nat), .ref (0 : Nat), .ref (300 : Nat), .ref (220 : Nat), .int (nI (6 * k)), v5, v6, v7] [] M2) : ∀ v5 v6 v7 : Value, zV G X Q 8 cells slots 1867 [.ref (4003 : Nat), .ref (0 : Nat), .ref (300 : Nat), .ref (220 : Nat), .int (nI (6 * k)), v5, v6, v7] [] M := by
  intro v5 v6 v7
  obtain ⟨e, d9, mc, ms, b, M1, M2, hk3, hd9, hmc, hms, hC1, hC2, ht, he, hI⟩ := hop
  refine zV_aload_n hX dL_law_1867 rfl ?_
  refine zV_aload_n hX dL_law_1868 rfl ?_
  refine zV_iload hX dL_law_1869 rfl ?_
  refine zV_iconst hX (v := nI 1) dL_law_1871 (by decide) ?_
  refine zV_iaddN hX dL_law_1872 ?_
  refine zV_sld hX hxs hb dL_law_1873 rfl ⟨by omega, by omega⟩ ?_
  refine zV_aload_n hX dL_law_1874 rfl ?_
  refine zV_iload hX dL_law_1875 rfl ?_
  refine zV_iconst hX (v := nI 2) dL_law_1877 (by decide) ?_
  refine zV_iaddN hX dL_law_1878 ?_
  refine zV_sld hX hxs hb dL_law_1879 rfl ⟨by omega, by omega⟩ ?_
  refine zV_aload_n hX dL_law_1880 rfl ?_
  refine zV_iload hX dL_law_1881 rfl ?_
  refine zV_iconst hX (v := nI 3) dL_law_1883 (by decide) ?_
  refine zV_iaddN hX dL_law_1884 ?_
  refine zV_sld hX hxs hb dL_law_1885 rfl ⟨by omega, by omega⟩ ?_
  refine zV_aload_n hX dL_law_1886 rfl ?_
  refine zN_cW5 hX hEx hNc hR hl dL_law_1887 hC1 ⟨zcw_L_nearer, zin_L, by decide, by decide +kernel, zst_L_nearer⟩ rfl zml_L_211 (by decide) (Nat.le_of_ble_eq_true rfl) (by omega) ?_
  dsimp only [Option.toList, List.cons_append, List.nil_append]
  refine zV_istore hX dL_law_1890 (by decide) ?_
  dsimp only [zst1, zst2, zclr, zc2]
  refine zV_aload_n hX dL_law_1892 rfl ?_
  refine zV_aload_n hX dL_law_1893 rfl ?_
  refine zV_iload hX dL_law_1894 rfl ?_
  refine zV_iconst hX (v := nI 1) dL_law_1896 (by decide) ?_
  refine zV_iaddN hX dL_law_1897 ?_
  refine zV_sld hX hxs hb dL_law_1898 rfl ⟨by omega, by omega⟩ ?_
  refine zV_aload_n hX dL_law_1899 rfl ?_
  refine zV_iload hX dL_law_1900 rfl ?_
  refine zV_iconst hX (v := nI 2) dL_law_1902 (by decide) ?_
  refine zV_iaddN hX dL_law_1903 ?_
  refine zV_sld hX hxs hb dL_law_1904 rfl ⟨by omega, by omega⟩ ?_
  refine zV_aload_n hX dL_law_1905 rfl ?_
  refine zV_iload hX dL_law_1906 rfl ?_
  refine zV_iconst hX (v := nI 3) dL_law_1908 (by decide) ?_
  refine zV_iaddN hX dL_law_1909 ?_
  refine zV_sld hX hxs hb dL_law_1910 rfl ⟨by omega, by omega⟩ ?_
  refine zN_cV3 hX hR hl dL_law_1911 hC2 zt_X11_nearer rfl zml_L_213 zo300.1 ⟨by decide, by omega⟩ (Nat.le_of_ble_eq_true rfl) (by omega) ?_
  dsimp only [Option.toList, List.cons_append, List.nil_append]
  refine zV_istore hX dL_law_1914 (by decide) ?_
  dsimp only [zst1, zst2, zclr, zc2]
  refine zV_aload_n hX dL_law_1916 rfl ?_
  refine zN_cV0 hX hR hl dL_law_1917 (zCk.of (zc_mthrown l G M2)) zt_X11_thrown rfl zml_L_119 zo300.1 ⟨by decide, by decide⟩ (Nat.le_of_ble_eq_true rfl) (by omega) ?_
  dsimp only [Option.toList, List.cons_append, List.nil_append]
  refine zV_topi (nI e) ht ?_
  refine zV_iload hX dL_law_1920 rfl ?_
  refine zV_icmp_eqN hX (tgt := 1927) dL_law_1922 (by decide) ⟨by omega, by omega⟩ (fun c_1922 => ?_) (fun c_1922 => absurd c_1922 (fun q => q rfl))
  refine zV_iload hX dL_law_1927 rfl ?_
  refine zV_if_neN hX (tgt := 1944) dL_law_1929 (by decide) (by omega) (fun c_1929 => ?_) (fun c_1929 => ?_)
  · refine zV_goto hX (tgt := 2446) dL_law_1944 (by decide) ?_
    refine zV_widen (c1 := cells + 15) (s1 := slots + 90) (by omega) (by omega) ?_
    exact kk _ _ _ _ hI
  · have he9 := he (by omega)
    refine zV_aload_n hX dL_law_1932 rfl ?_
    refine zV_iconst hX (v := nI 0) dL_law_1933 (by decide) ?_
    refine zV_lald hX (v := b.toInt64) dL_law_1934 (rfl : zSh 220 = (23, 1)) (rfl) ⟨by decide, by omega⟩ (he9) ?_
    refine zV_iload hX dL_law_1935 rfl ?_
    refine zV_i2l hX dL_law_1937 ?_
    refine zV_lcmp hX dL_law_1938 ?_
    refine zV_topi (nI 0) (lg_self _) ?_
    refine zV_if_eqN hX (tgt := 1944) dL_law_1939 (by decide) (by decide) (fun c_1939 => ?_) (fun c_1939 => absurd c_1939 (by decide))
    refine zV_goto hX (tgt := 2446) dL_law_1944 (by decide) ?_
    refine zV_widen (c1 := cells + 15) (s1 := slots + 90) (by omega) (by omega) ?_
    exact kk _ _ _ _ hI
set_option maxHeartbeats 1000000 in
theorem law_c28 (l : Launch) {G : zG} {I : zM → Prop} {M : zM} {X : zX} {Q : State → Prop} {cells slots n k b0 : Nat} {xs : Nat → Int32} (hX : zOk G X yL_law.cls cL_law 8) (hEx : zEx X.2.2.2.2.1) (hNc : va_Nc zIAE zNSE X.2.2.2.2.1) (hR : X.2.2.2.1 = room_1) (hl : X.2.1 = l) (hxs : va_X b0 n xs X.2.2.2.2.1 X.2.2.2.2.1.heap) (hb : b0 < X.2.2.2.2.1.heap.size ∧ ¬ zA G X.2.2.2.2.1.heap.size b0 ∧ G.1 4003 = b0) (hk : 6 * k + 6 ≤ n) (hn : n ≤ 3072) (hcs : cells + 15 ≤ 601024 ∧ slots + 90 ≤ 7293034) (hop : opI l G I yL_spread cL_spread 5 [(0, 10, 13, 13)] yX11_spread cX11_spread 3 [.int (xs (6 * k + 1)), .int (xs (6 * k + 2))] M) (kk : ∀ (M2 : zM) (v5 v6 v7 : Value), I M2 → zV G X Q 8 (cells + 15) (slots + 90) 2446 [.ref (4003 : Nat), .ref (0 : Nat), .ref (300 : Nat), .ref (220 : Nat), .int (nI (6 * k)), v5, v6, v7] [] M2) : ∀ v5 v6 v7 : Value, zV G X Q 8 cells slots 1947 [.ref (4003 : Nat), .ref (0 : Nat), .ref (300 : Nat), .ref (220 : Nat), .int (nI (6 * k)), v5, v6, v7] [] M := by
  intro v5 v6 v7
  obtain ⟨e, d9, mc, ms, b, M1, M2, hk3, hd9, hmc, hms, hC1, hC2, ht, he, hI⟩ := hop
  refine zV_aload_n hX dL_law_1947 rfl ?_
  refine zV_aload_n hX dL_law_1948 rfl ?_
  refine zV_iload hX dL_law_1949 rfl ?_
  refine zV_iconst hX (v := nI 1) dL_law_1951 (by decide) ?_
  refine zV_iaddN hX dL_law_1952 ?_
  refine zV_sld hX hxs hb dL_law_1953 rfl ⟨by omega, by omega⟩ ?_
  refine zV_aload_n hX dL_law_1954 rfl ?_
  refine zV_iload hX dL_law_1955 rfl ?_
  refine zV_iconst hX (v := nI 2) dL_law_1957 (by decide) ?_
  refine zV_iaddN hX dL_law_1958 ?_
  refine zV_sld hX hxs hb dL_law_1959 rfl ⟨by omega, by omega⟩ ?_
  refine zV_aload_n hX dL_law_1960 rfl ?_
  refine zN_cW4 hX hEx hNc hR hl dL_law_1961 hC1 ⟨zcw_L_spread, zin_L, by decide, by decide +kernel, zst_L_spread⟩ rfl zml_L_214 (by decide) (Nat.le_of_ble_eq_true rfl) (by omega) ?_
  dsimp only [Option.toList, List.cons_append, List.nil_append]
  refine zV_istore hX dL_law_1964 (by decide) ?_
  dsimp only [zst1, zst2, zclr, zc2]
  refine zV_aload_n hX dL_law_1966 rfl ?_
  refine zV_aload_n hX dL_law_1967 rfl ?_
  refine zV_iload hX dL_law_1968 rfl ?_
  refine zV_iconst hX (v := nI 1) dL_law_1970 (by decide) ?_
  refine zV_iaddN hX dL_law_1971 ?_
  refine zV_sld hX hxs hb dL_law_1972 rfl ⟨by omega, by omega⟩ ?_
  refine zV_aload_n hX dL_law_1973 rfl ?_
  refine zV_iload hX dL_law_1974 rfl ?_
  refine zV_iconst hX (v := nI 2) dL_law_1976 (by decide) ?_
  refine zV_iaddN hX dL_law_1977 ?_
  refine zV_sld hX hxs hb dL_law_1978 rfl ⟨by omega, by omega⟩ ?_
  refine zN_cV2 hX hR hl dL_law_1979 hC2 zt_X11_spread rfl zml_L_216 zo300.1 ⟨by decide, by omega⟩ (Nat.le_of_ble_eq_true rfl) (by omega) ?_
  dsimp only [Option.toList, List.cons_append, List.nil_append]
  refine zV_istore hX dL_law_1982 (by decide) ?_
  dsimp only [zst1, zst2, zclr, zc2]
  refine zV_aload_n hX dL_law_1984 rfl ?_
  refine zN_cV0 hX hR hl dL_law_1985 (zCk.of (zc_mthrown l G M2)) zt_X11_thrown rfl zml_L_119 zo300.1 ⟨by decide, by decide⟩ (Nat.le_of_ble_eq_true rfl) (by omega) ?_
  dsimp only [Option.toList, List.cons_append, List.nil_append]
  refine zV_topi (nI e) ht ?_
  refine zV_iload hX dL_law_1988 rfl ?_
  refine zV_icmp_eqN hX (tgt := 1995) dL_law_1990 (by decide) ⟨by omega, by omega⟩ (fun c_1990 => ?_) (fun c_1990 => absurd c_1990 (fun q => q rfl))
  refine zV_iload hX dL_law_1995 rfl ?_
  refine zV_if_neN hX (tgt := 2012) dL_law_1997 (by decide) (by omega) (fun c_1997 => ?_) (fun c_1997 => ?_)
  · refine zV_goto hX (tgt := 2446) dL_law_2012 (by decide) ?_
    refine zV_widen (c1 := cells + 15) (s1 := slots + 90) (by omega) (by omega) ?_
    exact kk _ _ _ _ hI
  · have he9 := he (by omega)
    refine zV_aload_n hX dL_law_2000 rfl ?_
    refine zV_iconst hX (v := nI 0) dL_law_2001 (by decide) ?_
    refine zV_lald hX (v := b.toInt64) dL_law_2002 (rfl : zSh 220 = (23, 1)) (rfl) ⟨by decide, by omega⟩ (he9) ?_
    refine zV_iload hX dL_law_2003 rfl ?_
    refine zV_i2l hX dL_law_2005 ?_
    refine zV_lcmp hX dL_law_2006 ?_
    refine zV_topi (nI 0) (lg_self _) ?_
    refine zV_if_eqN hX (tgt := 2012) dL_law_2007 (by decide) (by decide) (fun c_2007 => ?_) (fun c_2007 => absurd c_2007 (by decide))
    refine zV_goto hX (tgt := 2446) dL_law_2012 (by decide) ?_
    refine zV_widen (c1 := cells + 15) (s1 := slots + 90) (by omega) (by omega) ?_
    exact kk _ _ _ _ hI
set_option maxHeartbeats 1000000 in
theorem law_c29 (l : Launch) {G : zG} {I : zM → Prop} {M : zM} {X : zX} {Q : State → Prop} {cells slots n k b0 : Nat} {xs : Nat → Int32} (hX : zOk G X yL_law.cls cL_law 8) (hEx : zEx X.2.2.2.2.1) (hNc : va_Nc zIAE zNSE X.2.2.2.2.1) (hR : X.2.2.2.1 = room_1) (hl : X.2.1 = l) (hxs : va_X b0 n xs X.2.2.2.2.1 X.2.2.2.2.1.heap) (hb : b0 < X.2.2.2.2.1.heap.size ∧ ¬ zA G X.2.2.2.2.1.heap.size b0 ∧ G.1 4003 = b0) (hk : 6 * k + 6 ≤ n) (hn : n ≤ 3072) (hcs : cells + 15 ≤ 601024 ∧ slots + 90 ≤ 7293034) (hop : opI l G I yL_steps cL_steps 6 [(0, 12, 15, 13)] yX11_steps cX11_steps 5 [.int (xs (6 * k + 1)), .int (xs (6 * k + 2)), .int (xs (6 * k + 3))] M) (kk : ∀ (M2 : zM) (v5 v6 v7 : Value), I M2 → zV G X Q 8 (cells + 15) (slots + 90) 2446 [.ref (4003 : Nat), .ref (0 : Nat), .ref (300 : Nat), .ref (220 : Nat), .int (nI (6 * k)), v5, v6, v7] [] M2) : ∀ v5 v6 v7 : Value, zV G X Q 8 cells slots 2015 [.ref (4003 : Nat), .ref (0 : Nat), .ref (300 : Nat), .ref (220 : Nat), .int (nI (6 * k)), v5, v6, v7] [] M := by
  intro v5 v6 v7
  obtain ⟨e, d9, mc, ms, b, M1, M2, hk3, hd9, hmc, hms, hC1, hC2, ht, he, hI⟩ := hop
  refine zV_aload_n hX dL_law_2015 rfl ?_
  refine zV_aload_n hX dL_law_2016 rfl ?_
  refine zV_iload hX dL_law_2017 rfl ?_
  refine zV_iconst hX (v := nI 1) dL_law_2019 (by decide) ?_
  refine zV_iaddN hX dL_law_2020 ?_
  refine zV_sld hX hxs hb dL_law_2021 rfl ⟨by omega, by omega⟩ ?_
  refine zV_aload_n hX dL_law_2022 rfl ?_
  refine zV_iload hX dL_law_2023 rfl ?_
  refine zV_iconst hX (v := nI 2) dL_law_2025 (by decide) ?_
  refine zV_iaddN hX dL_law_2026 ?_
  refine zV_sld hX hxs hb dL_law_2027 rfl ⟨by omega, by omega⟩ ?_
  refine zV_aload_n hX dL_law_2028 rfl ?_
  refine zV_iload hX dL_law_2029 rfl ?_
  refine zV_iconst hX (v := nI 3) dL_law_2031 (by decide) ?_
  refine zV_iaddN hX dL_law_2032 ?_
  refine zV_sld hX hxs hb dL_law_2033 rfl ⟨by omega, by omega⟩ ?_
  refine zV_aload_n hX dL_law_2034 rfl ?_
  refine zN_cW5 hX hEx hNc hR hl dL_law_2035 hC1 ⟨zcw_L_steps, zin_L, by decide, by decide +kernel, zst_L_steps⟩ rfl zml_L_217 (by decide) (Nat.le_of_ble_eq_true rfl) (by omega) ?_
  dsimp only [Option.toList, List.cons_append, List.nil_append]
  refine zV_istore hX dL_law_2038 (by decide) ?_
  dsimp only [zst1, zst2, zclr, zc2]
  refine zV_aload_n hX dL_law_2040 rfl ?_
  refine zV_aload_n hX dL_law_2041 rfl ?_
  refine zV_iload hX dL_law_2042 rfl ?_
  refine zV_iconst hX (v := nI 1) dL_law_2044 (by decide) ?_
  refine zV_iaddN hX dL_law_2045 ?_
  refine zV_sld hX hxs hb dL_law_2046 rfl ⟨by omega, by omega⟩ ?_
  refine zV_aload_n hX dL_law_2047 rfl ?_
  refine zV_iload hX dL_law_2048 rfl ?_
  refine zV_iconst hX (v := nI 2) dL_law_2050 (by decide) ?_
  refine zV_iaddN hX dL_law_2051 ?_
  refine zV_sld hX hxs hb dL_law_2052 rfl ⟨by omega, by omega⟩ ?_
  refine zV_aload_n hX dL_law_2053 rfl ?_
  refine zV_iload hX dL_law_2054 rfl ?_
  refine zV_iconst hX (v := nI 3) dL_law_2056 (by decide) ?_
  refine zV_iaddN hX dL_law_2057 ?_
  refine zV_sld hX hxs hb dL_law_2058 rfl ⟨by omega, by omega⟩ ?_
  refine zN_cV3 hX hR hl dL_law_2059 hC2 zt_X11_steps rfl zml_L_219 zo300.1 ⟨by decide, by omega⟩ (Nat.le_of_ble_eq_true rfl) (by omega) ?_
  dsimp only [Option.toList, List.cons_append, List.nil_append]
  refine zV_istore hX dL_law_2062 (by decide) ?_
  dsimp only [zst1, zst2, zclr, zc2]
  refine zV_aload_n hX dL_law_2064 rfl ?_
  refine zN_cV0 hX hR hl dL_law_2065 (zCk.of (zc_mthrown l G M2)) zt_X11_thrown rfl zml_L_119 zo300.1 ⟨by decide, by decide⟩ (Nat.le_of_ble_eq_true rfl) (by omega) ?_
  dsimp only [Option.toList, List.cons_append, List.nil_append]
  refine zV_topi (nI e) ht ?_
  refine zV_iload hX dL_law_2068 rfl ?_
  refine zV_icmp_eqN hX (tgt := 2075) dL_law_2070 (by decide) ⟨by omega, by omega⟩ (fun c_2070 => ?_) (fun c_2070 => absurd c_2070 (fun q => q rfl))
  refine zV_iload hX dL_law_2075 rfl ?_
  refine zV_if_neN hX (tgt := 2092) dL_law_2077 (by decide) (by omega) (fun c_2077 => ?_) (fun c_2077 => ?_)
  · refine zV_goto hX (tgt := 2446) dL_law_2092 (by decide) ?_
    refine zV_widen (c1 := cells + 15) (s1 := slots + 90) (by omega) (by omega) ?_
    exact kk _ _ _ _ hI
  · have he9 := he (by omega)
    refine zV_aload_n hX dL_law_2080 rfl ?_
    refine zV_iconst hX (v := nI 0) dL_law_2081 (by decide) ?_
    refine zV_lald hX (v := b.toInt64) dL_law_2082 (rfl : zSh 220 = (23, 1)) (rfl) ⟨by decide, by omega⟩ (he9) ?_
    refine zV_iload hX dL_law_2083 rfl ?_
    refine zV_i2l hX dL_law_2085 ?_
    refine zV_lcmp hX dL_law_2086 ?_
    refine zV_topi (nI 0) (lg_self _) ?_
    refine zV_if_eqN hX (tgt := 2092) dL_law_2087 (by decide) (by decide) (fun c_2087 => ?_) (fun c_2087 => absurd c_2087 (by decide))
    refine zV_goto hX (tgt := 2446) dL_law_2092 (by decide) ?_
    refine zV_widen (c1 := cells + 15) (s1 := slots + 90) (by omega) (by omega) ?_
    exact kk _ _ _ _ hI
set_option maxHeartbeats 1000000 in
theorem law_c30 (l : Launch) {G : zG} {I : zM → Prop} {M : zM} {X : zX} {Q : State → Prop} {cells slots n k b0 : Nat} {xs : Nat → Int32} (hX : zOk G X yL_law.cls cL_law 8) (hEx : zEx X.2.2.2.2.1) (hNc : va_Nc zIAE zNSE X.2.2.2.2.1) (hR : X.2.2.2.1 = room_1) (hl : X.2.1 = l) (hxs : va_X b0 n xs X.2.2.2.2.1 X.2.2.2.2.1.heap) (hb : b0 < X.2.2.2.2.1.heap.size ∧ ¬ zA G X.2.2.2.2.1.heap.size b0 ∧ G.1 4003 = b0) (hk : 6 * k + 6 ≤ n) (hn : n ≤ 3072) (hcs : cells + 15 ≤ 601024 ∧ slots + 90 ≤ 7293034) (hop : opJ l G I yL_total cL_total 5 [(0, 9, 12, 13)] yX11_total cX11_total 6 [.int (xs (6 * k + 1)), .int (xs (6 * k + 2))] M) (kk : ∀ (M2 : zM) (v5 v6 v7 : Value), I M2 → zV G X Q 8 (cells + 15) (slots + 90) 2446 [.ref (4003 : Nat), .ref (0 : Nat), .ref (300 : Nat), .ref (220 : Nat), .int (nI (6 * k)), v5, v6, v7] [] M2) : ∀ v5 v6 v7 : Value, zV G X Q 8 cells slots 2095 [.ref (4003 : Nat), .ref (0 : Nat), .ref (300 : Nat), .ref (220 : Nat), .int (nI (6 * k)), v5, v6, v7] [] M := by
  intro v5 v6 v7
  obtain ⟨e, d9, mc, ms, b, M1, M2, hk3, hd9, hmc, hms, hC1, hC2, ht, he, hI⟩ := hop
  refine zV_aload_n hX dL_law_2095 rfl ?_
  refine zV_aload_n hX dL_law_2096 rfl ?_
  refine zV_iload hX dL_law_2097 rfl ?_
  refine zV_iconst hX (v := nI 1) dL_law_2099 (by decide) ?_
  refine zV_iaddN hX dL_law_2100 ?_
  refine zV_sld hX hxs hb dL_law_2101 rfl ⟨by omega, by omega⟩ ?_
  refine zV_aload_n hX dL_law_2102 rfl ?_
  refine zV_iload hX dL_law_2103 rfl ?_
  refine zV_iconst hX (v := nI 2) dL_law_2105 (by decide) ?_
  refine zV_iaddN hX dL_law_2106 ?_
  refine zV_sld hX hxs hb dL_law_2107 rfl ⟨by omega, by omega⟩ ?_
  refine zV_aload_n hX dL_law_2108 rfl ?_
  refine zN_cW4 hX hEx hNc hR hl dL_law_2109 hC1 ⟨zcw_L_total, zin_L, by decide, by decide +kernel, zst_L_total⟩ rfl zml_L_220 (by decide) (Nat.le_of_ble_eq_true rfl) (by omega) ?_
  dsimp only [Option.toList, List.cons_append, List.nil_append]
  refine zV_istore hX dL_law_2112 (by decide) ?_
  dsimp only [zst1, zst2, zclr, zc2]
  refine zV_aload_n hX dL_law_2114 rfl ?_
  refine zV_aload_n hX dL_law_2115 rfl ?_
  refine zV_iload hX dL_law_2116 rfl ?_
  refine zV_iconst hX (v := nI 1) dL_law_2118 (by decide) ?_
  refine zV_iaddN hX dL_law_2119 ?_
  refine zV_sld hX hxs hb dL_law_2120 rfl ⟨by omega, by omega⟩ ?_
  refine zV_aload_n hX dL_law_2121 rfl ?_
  refine zV_iload hX dL_law_2122 rfl ?_
  refine zV_iconst hX (v := nI 2) dL_law_2124 (by decide) ?_
  refine zV_iaddN hX dL_law_2125 ?_
  refine zV_sld hX hxs hb dL_law_2126 rfl ⟨by omega, by omega⟩ ?_
  refine zN_cV2 hX hR hl dL_law_2127 hC2 zt_X11_total rfl zml_L_222 zo300.1 ⟨by decide, by omega⟩ (Nat.le_of_ble_eq_true rfl) (by omega) ?_
  dsimp only [Option.toList, List.cons_append, List.nil_append]
  refine zV_lstore hX dL_law_2130 (by decide) ?_
  dsimp only [zst1, zst2, zclr, zc2]
  refine zV_aload_n hX dL_law_2132 rfl ?_
  refine zN_cV0 hX hR hl dL_law_2133 (zCk.of (zc_mthrown l G M2)) zt_X11_thrown rfl zml_L_119 zo300.1 ⟨by decide, by decide⟩ (Nat.le_of_ble_eq_true rfl) (by omega) ?_
  dsimp only [Option.toList, List.cons_append, List.nil_append]
  refine zV_topi (nI e) ht ?_
  refine zV_iload hX dL_law_2136 rfl ?_
  refine zV_icmp_eqN hX (tgt := 2143) dL_law_2138 (by decide) ⟨by omega, by omega⟩ (fun c_2138 => ?_) (fun c_2138 => absurd c_2138 (fun q => q rfl))
  refine zV_iload hX dL_law_2143 rfl ?_
  refine zV_if_neN hX (tgt := 2159) dL_law_2145 (by decide) (by omega) (fun c_2145 => ?_) (fun c_2145 => ?_)
  · refine zV_goto hX (tgt := 2446) dL_law_2159 (by decide) ?_
    refine zV_widen (c1 := cells + 15) (s1 := slots + 90) (by omega) (by omega) ?_
    exact kk _ _ _ _ hI
  · have he9 := he (by omega)
    refine zV_aload_n hX dL_law_2148 rfl ?_
    refine zV_iconst hX (v := nI 0) dL_law_2149 (by decide) ?_
    refine zV_lald hX (v := b) dL_law_2150 (rfl : zSh 220 = (23, 1)) (rfl) ⟨by decide, by omega⟩ (he9) ?_
    refine zV_lload hX dL_law_2151 rfl ?_
    refine zV_lcmp hX dL_law_2153 ?_
    refine zV_topi (nI 0) (lg_self _) ?_
    refine zV_if_eqN hX (tgt := 2159) dL_law_2154 (by decide) (by decide) (fun c_2154 => ?_) (fun c_2154 => absurd c_2154 (by decide))
    refine zV_goto hX (tgt := 2446) dL_law_2159 (by decide) ?_
    refine zV_widen (c1 := cells + 15) (s1 := slots + 90) (by omega) (by omega) ?_
    exact kk _ _ _ _ hI
set_option maxHeartbeats 1000000 in
theorem law_c31 (l : Launch) {G : zG} {I : zM → Prop} {M : zM} {X : zX} {Q : State → Prop} {cells slots n k b0 : Nat} {xs : Nat → Int32} (hX : zOk G X yL_law.cls cL_law 8) (hEx : zEx X.2.2.2.2.1) (hNc : va_Nc zIAE zNSE X.2.2.2.2.1) (hR : X.2.2.2.1 = room_1) (hl : X.2.1 = l) (hxs : va_X b0 n xs X.2.2.2.2.1 X.2.2.2.2.1.heap) (hb : b0 < X.2.2.2.2.1.heap.size ∧ ¬ zA G X.2.2.2.2.1.heap.size b0 ∧ G.1 4003 = b0) (hk : 6 * k + 6 ≤ n) (hn : n ≤ 3072) (hcs : cells + 15 ≤ 601024 ∧ slots + 90 ≤ 7293034) (hop : opI l G I yL_attacks cL_attacks 7 [(0, 14, 17, 19), (0, 14, 21, 13)] yX11_attacks cX11_attacks 10 [.int (xs (6 * k + 1)), .int (xs (6 * k + 2)), .int (xs (6 * k + 3)), .int (xs (6 * k + 4))] M) (kk : ∀ (M2 : zM) (v5 v6 v7 : Value), I M2 → zV G X Q 8 (cells + 15) (slots + 90) 2446 [.ref (4003 : Nat), .ref (0 : Nat), .ref (300 : Nat), .ref (220 : Nat), .int (nI (6 * k)), v5, v6, v7] [] M2) : ∀ v5 v6 v7 : Value, zV G X Q 8 cells slots 2162 [.ref (4003 : Nat), .ref (0 : Nat), .ref (300 : Nat), .ref (220 : Nat), .int (nI (6 * k)), v5, v6, v7] [] M := by
  intro v5 v6 v7
  obtain ⟨e, d9, mc, ms, b, M1, M2, hk3, hd9, hmc, hms, hC1, hC2, ht, he, hI⟩ := hop
  refine zV_aload_n hX dL_law_2162 rfl ?_
  refine zV_aload_n hX dL_law_2163 rfl ?_
  refine zV_iload hX dL_law_2164 rfl ?_
  refine zV_iconst hX (v := nI 1) dL_law_2166 (by decide) ?_
  refine zV_iaddN hX dL_law_2167 ?_
  refine zV_sld hX hxs hb dL_law_2168 rfl ⟨by omega, by omega⟩ ?_
  refine zV_aload_n hX dL_law_2169 rfl ?_
  refine zV_iload hX dL_law_2170 rfl ?_
  refine zV_iconst hX (v := nI 2) dL_law_2172 (by decide) ?_
  refine zV_iaddN hX dL_law_2173 ?_
  refine zV_sld hX hxs hb dL_law_2174 rfl ⟨by omega, by omega⟩ ?_
  refine zV_aload_n hX dL_law_2175 rfl ?_
  refine zV_iload hX dL_law_2176 rfl ?_
  refine zV_iconst hX (v := nI 3) dL_law_2178 (by decide) ?_
  refine zV_iaddN hX dL_law_2179 ?_
  refine zV_sld hX hxs hb dL_law_2180 rfl ⟨by omega, by omega⟩ ?_
  refine zV_aload_n hX dL_law_2181 rfl ?_
  refine zV_iload hX dL_law_2182 rfl ?_
  refine zV_iconst hX (v := nI 4) dL_law_2184 (by decide) ?_
  refine zV_iaddN hX dL_law_2185 ?_
  refine zV_sld hX hxs hb dL_law_2186 rfl ⟨by omega, by omega⟩ ?_
  refine zV_aload_n hX dL_law_2187 rfl ?_
  refine zN_cW6 hX hEx hNc hR hl dL_law_2188 hC1 ⟨zcw_L_attacks, zin_L, by decide, by decide +kernel, zst_L_attacks⟩ rfl zml_L_223 (by decide) (Nat.le_of_ble_eq_true rfl) (by omega) ?_
  dsimp only [Option.toList, List.cons_append, List.nil_append]
  refine zV_istore hX dL_law_2191 (by decide) ?_
  dsimp only [zst1, zst2, zclr, zc2]
  refine zV_aload_n hX dL_law_2193 rfl ?_
  refine zV_aload_n hX dL_law_2194 rfl ?_
  refine zV_iload hX dL_law_2195 rfl ?_
  refine zV_iconst hX (v := nI 1) dL_law_2197 (by decide) ?_
  refine zV_iaddN hX dL_law_2198 ?_
  refine zV_sld hX hxs hb dL_law_2199 rfl ⟨by omega, by omega⟩ ?_
  refine zV_aload_n hX dL_law_2200 rfl ?_
  refine zV_iload hX dL_law_2201 rfl ?_
  refine zV_iconst hX (v := nI 2) dL_law_2203 (by decide) ?_
  refine zV_iaddN hX dL_law_2204 ?_
  refine zV_sld hX hxs hb dL_law_2205 rfl ⟨by omega, by omega⟩ ?_
  refine zV_aload_n hX dL_law_2206 rfl ?_
  refine zV_iload hX dL_law_2207 rfl ?_
  refine zV_iconst hX (v := nI 3) dL_law_2209 (by decide) ?_
  refine zV_iaddN hX dL_law_2210 ?_
  refine zV_sld hX hxs hb dL_law_2211 rfl ⟨by omega, by omega⟩ ?_
  refine zV_aload_n hX dL_law_2212 rfl ?_
  refine zV_iload hX dL_law_2213 rfl ?_
  refine zV_iconst hX (v := nI 4) dL_law_2215 (by decide) ?_
  refine zV_iaddN hX dL_law_2216 ?_
  refine zV_sld hX hxs hb dL_law_2217 rfl ⟨by omega, by omega⟩ ?_
  refine zN_cV4 hX hR hl dL_law_2218 hC2 zt_X11_attacks rfl zml_L_225 zo300.1 ⟨by decide, by omega⟩ (Nat.le_of_ble_eq_true rfl) (by omega) ?_
  dsimp only [Option.toList, List.cons_append, List.nil_append]
  refine zV_istore hX dL_law_2221 (by decide) ?_
  dsimp only [zst1, zst2, zclr, zc2]
  refine zV_aload_n hX dL_law_2223 rfl ?_
  refine zN_cV0 hX hR hl dL_law_2224 (zCk.of (zc_mthrown l G M2)) zt_X11_thrown rfl zml_L_119 zo300.1 ⟨by decide, by decide⟩ (Nat.le_of_ble_eq_true rfl) (by omega) ?_
  dsimp only [Option.toList, List.cons_append, List.nil_append]
  refine zV_topi (nI e) ht ?_
  refine zV_iload hX dL_law_2227 rfl ?_
  refine zV_icmp_eqN hX (tgt := 2234) dL_law_2229 (by decide) ⟨by omega, by omega⟩ (fun c_2229 => ?_) (fun c_2229 => absurd c_2229 (fun q => q rfl))
  refine zV_iload hX dL_law_2234 rfl ?_
  refine zV_if_neN hX (tgt := 2251) dL_law_2236 (by decide) (by omega) (fun c_2236 => ?_) (fun c_2236 => ?_)
  · refine zV_goto hX (tgt := 2446) dL_law_2251 (by decide) ?_
    refine zV_widen (c1 := cells + 15) (s1 := slots + 90) (by omega) (by omega) ?_
    exact kk _ _ _ _ hI
  · have he9 := he (by omega)
    refine zV_aload_n hX dL_law_2239 rfl ?_
    refine zV_iconst hX (v := nI 0) dL_law_2240 (by decide) ?_
    refine zV_lald hX (v := b.toInt64) dL_law_2241 (rfl : zSh 220 = (23, 1)) (rfl) ⟨by decide, by omega⟩ (he9) ?_
    refine zV_iload hX dL_law_2242 rfl ?_
    refine zV_i2l hX dL_law_2244 ?_
    refine zV_lcmp hX dL_law_2245 ?_
    refine zV_topi (nI 0) (lg_self _) ?_
    refine zV_if_eqN hX (tgt := 2251) dL_law_2246 (by decide) (by decide) (fun c_2246 => ?_) (fun c_2246 => absurd c_2246 (by decide))
    refine zV_goto hX (tgt := 2446) dL_law_2251 (by decide) ?_
    refine zV_widen (c1 := cells + 15) (s1 := slots + 90) (by omega) (by omega) ?_
    exact kk _ _ _ _ hI
set_option maxHeartbeats 1000000 in
theorem law_c32 (l : Launch) {G : zG} {I : zM → Prop} {M : zM} {X : zX} {Q : State → Prop} {cells slots n k b0 : Nat} {xs : Nat → Int32} (hX : zOk G X yL_law.cls cL_law 8) (hEx : zEx X.2.2.2.2.1) (hNc : va_Nc zIAE zNSE X.2.2.2.2.1) (hR : X.2.2.2.1 = room_1) (hl : X.2.1 = l) (hxs : va_X b0 n xs X.2.2.2.2.1 X.2.2.2.2.1.heap) (hb : b0 < X.2.2.2.2.1.heap.size ∧ ¬ zA G X.2.2.2.2.1.heap.size b0 ∧ G.1 4003 = b0) (hk : 6 * k + 6 ≤ n) (hn : n ≤ 3072) (hcs : cells + 15 ≤ 601024 ∧ slots + 90 ≤ 7293034) (hop : opZ l G I yL_breaks cL_breaks 7 [(0, 21, 24, 19), (0, 21, 28, 13)] yX11_breaks cX11_breaks 5 [.int (xs (6 * k + 1)), .int (xs (6 * k + 2)), .int (xs (6 * k + 3)), .int (xs (6 * k + 4))] M) (kk : ∀ (M2 : zM) (v5 v6 v7 : Value), I M2 → zV G X Q 8 (cells + 15) (slots + 90) 2446 [.ref (4003 : Nat), .ref (0 : Nat), .ref (300 : Nat), .ref (220 : Nat), .int (nI (6 * k)), v5, v6, v7] [] M2) : ∀ v5 v6 v7 : Value, zV G X Q 8 cells slots 2254 [.ref (4003 : Nat), .ref (0 : Nat), .ref (300 : Nat), .ref (220 : Nat), .int (nI (6 * k)), v5, v6, v7] [] M := by
  intro v5 v6 v7
  obtain ⟨e, d9, mc, ms, b, M1, M2, hk3, hd9, hmc, hms, hC1, hC2, ht, he, hI⟩ := hop
  refine zV_aload_n hX dL_law_2254 rfl ?_
  refine zV_aload_n hX dL_law_2255 rfl ?_
  refine zV_iload hX dL_law_2256 rfl ?_
  refine zV_iconst hX (v := nI 1) dL_law_2258 (by decide) ?_
  refine zV_iaddN hX dL_law_2259 ?_
  refine zV_sld hX hxs hb dL_law_2260 rfl ⟨by omega, by omega⟩ ?_
  refine zV_aload_n hX dL_law_2261 rfl ?_
  refine zV_iload hX dL_law_2262 rfl ?_
  refine zV_iconst hX (v := nI 2) dL_law_2264 (by decide) ?_
  refine zV_iaddN hX dL_law_2265 ?_
  refine zV_sld hX hxs hb dL_law_2266 rfl ⟨by omega, by omega⟩ ?_
  refine zV_aload_n hX dL_law_2267 rfl ?_
  refine zV_iload hX dL_law_2268 rfl ?_
  refine zV_iconst hX (v := nI 3) dL_law_2270 (by decide) ?_
  refine zV_iaddN hX dL_law_2271 ?_
  refine zV_sld hX hxs hb dL_law_2272 rfl ⟨by omega, by omega⟩ ?_
  refine zV_aload_n hX dL_law_2273 rfl ?_
  refine zV_iload hX dL_law_2274 rfl ?_
  refine zV_iconst hX (v := nI 4) dL_law_2276 (by decide) ?_
  refine zV_iaddN hX dL_law_2277 ?_
  refine zV_sld hX hxs hb dL_law_2278 rfl ⟨by omega, by omega⟩ ?_
  refine zV_aload_n hX dL_law_2279 rfl ?_
  refine zN_cW6 hX hEx hNc hR hl dL_law_2280 hC1 ⟨zcw_L_breaks, zin_L, by decide, by decide +kernel, zst_L_breaks⟩ rfl zml_L_226 (by decide) (Nat.le_of_ble_eq_true rfl) (by omega) ?_
  dsimp only [Option.toList, List.cons_append, List.nil_append]
  refine zV_istore hX dL_law_2283 (by decide) ?_
  dsimp only [zst1, zst2, zclr, zc2]
  refine zV_aload_n hX dL_law_2285 rfl ?_
  refine zV_aload_n hX dL_law_2286 rfl ?_
  refine zV_iload hX dL_law_2287 rfl ?_
  refine zV_iconst hX (v := nI 1) dL_law_2289 (by decide) ?_
  refine zV_iaddN hX dL_law_2290 ?_
  refine zV_sld hX hxs hb dL_law_2291 rfl ⟨by omega, by omega⟩ ?_
  refine zV_aload_n hX dL_law_2292 rfl ?_
  refine zV_iload hX dL_law_2293 rfl ?_
  refine zV_iconst hX (v := nI 2) dL_law_2295 (by decide) ?_
  refine zV_iaddN hX dL_law_2296 ?_
  refine zV_sld hX hxs hb dL_law_2297 rfl ⟨by omega, by omega⟩ ?_
  refine zV_aload_n hX dL_law_2298 rfl ?_
  refine zV_iload hX dL_law_2299 rfl ?_
  refine zV_iconst hX (v := nI 3) dL_law_2301 (by decide) ?_
  refine zV_iaddN hX dL_law_2302 ?_
  refine zV_sld hX hxs hb dL_law_2303 rfl ⟨by omega, by omega⟩ ?_
  refine zV_aload_n hX dL_law_2304 rfl ?_
  refine zV_iload hX dL_law_2305 rfl ?_
  refine zV_iconst hX (v := nI 4) dL_law_2307 (by decide) ?_
  refine zV_iaddN hX dL_law_2308 ?_
  refine zV_sld hX hxs hb dL_law_2309 rfl ⟨by omega, by omega⟩ ?_
  refine zN_cV4 hX hR hl dL_law_2310 hC2 zt_X11_breaks rfl zml_L_228 zo300.1 ⟨by decide, by omega⟩ (Nat.le_of_ble_eq_true rfl) (by omega) ?_
  dsimp only [Option.toList, List.cons_append, List.nil_append]
  refine zV_istore hX dL_law_2313 (by decide) ?_
  dsimp only [zst1, zst2, zclr, zc2]
  refine zV_aload_n hX dL_law_2315 rfl ?_
  refine zN_cV0 hX hR hl dL_law_2316 (zCk.of (zc_mthrown l G M2)) zt_X11_thrown rfl zml_L_119 zo300.1 ⟨by decide, by decide⟩ (Nat.le_of_ble_eq_true rfl) (by omega) ?_
  dsimp only [Option.toList, List.cons_append, List.nil_append]
  refine zV_topi (nI e) ht ?_
  refine zV_iload hX dL_law_2319 rfl ?_
  refine zV_icmp_eqN hX (tgt := 2326) dL_law_2321 (by decide) ⟨by omega, by omega⟩ (fun c_2321 => ?_) (fun c_2321 => absurd c_2321 (fun q => q rfl))
  refine zV_iload hX dL_law_2326 rfl ?_
  refine zV_if_neN hX (tgt := 2350) dL_law_2328 (by decide) (by omega) (fun c_2328 => ?_) (fun c_2328 => ?_)
  · refine zV_goto hX (tgt := 2446) dL_law_2350 (by decide) ?_
    refine zV_widen (c1 := cells + 15) (s1 := slots + 90) (by omega) (by omega) ?_
    exact kk _ _ _ _ hI
  · have he9 := he (by omega)
    refine zV_aload_n hX dL_law_2331 rfl ?_
    refine zV_iconst hX (v := nI 0) dL_law_2332 (by decide) ?_
    refine zV_lald hX (v := (if b = true then 1 else 0)) dL_law_2333 (rfl : zSh 220 = (23, 1)) (rfl) ⟨by decide, by omega⟩ (he9) ?_
    refine zV_iload hX dL_law_2334 rfl ?_
    refine zV_if_eqB hX (tgt := 2343) dL_law_2336 (by decide) (fun c_2336 => ?_) (fun c_2336 => ?_)
    · refine zV_lconst hX (v := 0) dL_law_2343 rfl ?_
      refine zV_lcmp hX dL_law_2344 ?_
      refine zV_topi (nI 0) (by first | (rw [if_pos c_2336]; exact lg_self _) | (rw [if_neg (by rw [c_2336]; decide)]; exact lg_self _)) ?_
      refine zV_if_eqN hX (tgt := 2350) dL_law_2345 (by decide) (by decide) (fun c_2345 => ?_) (fun c_2345 => absurd c_2345 (by decide))
      refine zV_goto hX (tgt := 2446) dL_law_2350 (by decide) ?_
      refine zV_widen (c1 := cells + 15) (s1 := slots + 90) (by omega) (by omega) ?_
      exact kk _ _ _ _ hI
    · refine zV_lconst hX (v := 1) dL_law_2339 rfl ?_
      refine zV_goto hX (tgt := 2344) dL_law_2340 (by decide) ?_
      refine zV_lcmp hX dL_law_2344 ?_
      refine zV_topi (nI 0) (by first | (rw [if_pos c_2336]; exact lg_self _) | (rw [if_neg (by rw [c_2336]; decide)]; exact lg_self _)) ?_
      refine zV_if_eqN hX (tgt := 2350) dL_law_2345 (by decide) (by decide) (fun c_2345 => ?_) (fun c_2345 => absurd c_2345 (by decide))
      refine zV_goto hX (tgt := 2446) dL_law_2350 (by decide) ?_
      refine zV_widen (c1 := cells + 15) (s1 := slots + 90) (by omega) (by omega) ?_
      exact kk _ _ _ _ hI
set_option maxHeartbeats 1000000 in
theorem law_c33 (l : Launch) {G : zG} {I : zM → Prop} {M : zM} {X : zX} {Q : State → Prop} {cells slots n k b0 : Nat} {xs : Nat → Int32} (hX : zOk G X yL_law.cls cL_law 8) (hEx : zEx X.2.2.2.2.1) (hNc : va_Nc zIAE zNSE X.2.2.2.2.1) (hR : X.2.2.2.1 = room_1) (hl : X.2.1 = l) (hxs : va_X b0 n xs X.2.2.2.2.1 X.2.2.2.2.1.heap) (hb : b0 < X.2.2.2.2.1.heap.size ∧ ¬ zA G X.2.2.2.2.1.heap.size b0 ∧ G.1 4003 = b0) (hk : 6 * k + 6 ≤ n) (hn : n ≤ 3072) (hcs : cells + 15 ≤ 601024 ∧ slots + 90 ≤ 7293034) (hop : opI l G I yL_fewest cL_fewest 5 [(0, 10, 13, 13)] yX11_fewest cX11_fewest 4 [.int (xs (6 * k + 1)), .int (xs (6 * k + 2))] M) (kk : ∀ (M2 : zM) (v5 v6 v7 : Value), I M2 → zV G X Q 8 (cells + 15) (slots + 90) 2446 [.ref (4003 : Nat), .ref (0 : Nat), .ref (300 : Nat), .ref (220 : Nat), .int (nI (6 * k)), v5, v6, v7] [] M2) : ∀ v5 v6 v7 : Value, zV G X Q 8 cells slots 2353 [.ref (4003 : Nat), .ref (0 : Nat), .ref (300 : Nat), .ref (220 : Nat), .int (nI (6 * k)), v5, v6, v7] [] M := by
  intro v5 v6 v7
  obtain ⟨e, d9, mc, ms, b, M1, M2, hk3, hd9, hmc, hms, hC1, hC2, ht, he, hI⟩ := hop
  refine zV_aload_n hX dL_law_2353 rfl ?_
  refine zV_aload_n hX dL_law_2354 rfl ?_
  refine zV_iload hX dL_law_2355 rfl ?_
  refine zV_iconst hX (v := nI 1) dL_law_2357 (by decide) ?_
  refine zV_iaddN hX dL_law_2358 ?_
  refine zV_sld hX hxs hb dL_law_2359 rfl ⟨by omega, by omega⟩ ?_
  refine zV_aload_n hX dL_law_2360 rfl ?_
  refine zV_iload hX dL_law_2361 rfl ?_
  refine zV_iconst hX (v := nI 2) dL_law_2363 (by decide) ?_
  refine zV_iaddN hX dL_law_2364 ?_
  refine zV_sld hX hxs hb dL_law_2365 rfl ⟨by omega, by omega⟩ ?_
  refine zV_aload_n hX dL_law_2366 rfl ?_
  refine zN_cW4 hX hEx hNc hR hl dL_law_2367 hC1 ⟨zcw_L_fewest, zin_L, by decide, by decide +kernel, zst_L_fewest⟩ rfl zml_L_229 (by decide) (Nat.le_of_ble_eq_true rfl) (by omega) ?_
  dsimp only [Option.toList, List.cons_append, List.nil_append]
  refine zV_istore hX dL_law_2370 (by decide) ?_
  dsimp only [zst1, zst2, zclr, zc2]
  refine zV_aload_n hX dL_law_2372 rfl ?_
  refine zV_aload_n hX dL_law_2373 rfl ?_
  refine zV_iload hX dL_law_2374 rfl ?_
  refine zV_iconst hX (v := nI 1) dL_law_2376 (by decide) ?_
  refine zV_iaddN hX dL_law_2377 ?_
  refine zV_sld hX hxs hb dL_law_2378 rfl ⟨by omega, by omega⟩ ?_
  refine zV_aload_n hX dL_law_2379 rfl ?_
  refine zV_iload hX dL_law_2380 rfl ?_
  refine zV_iconst hX (v := nI 2) dL_law_2382 (by decide) ?_
  refine zV_iaddN hX dL_law_2383 ?_
  refine zV_sld hX hxs hb dL_law_2384 rfl ⟨by omega, by omega⟩ ?_
  refine zN_cV2 hX hR hl dL_law_2385 hC2 zt_X11_fewest rfl zml_L_231 zo300.1 ⟨by decide, by omega⟩ (Nat.le_of_ble_eq_true rfl) (by omega) ?_
  dsimp only [Option.toList, List.cons_append, List.nil_append]
  refine zV_istore hX dL_law_2388 (by decide) ?_
  dsimp only [zst1, zst2, zclr, zc2]
  refine zV_aload_n hX dL_law_2390 rfl ?_
  refine zN_cV0 hX hR hl dL_law_2391 (zCk.of (zc_mthrown l G M2)) zt_X11_thrown rfl zml_L_119 zo300.1 ⟨by decide, by decide⟩ (Nat.le_of_ble_eq_true rfl) (by omega) ?_
  dsimp only [Option.toList, List.cons_append, List.nil_append]
  refine zV_topi (nI e) ht ?_
  refine zV_iload hX dL_law_2394 rfl ?_
  refine zV_icmp_eqN hX (tgt := 2401) dL_law_2396 (by decide) ⟨by omega, by omega⟩ (fun c_2396 => ?_) (fun c_2396 => absurd c_2396 (fun q => q rfl))
  refine zV_iload hX dL_law_2401 rfl ?_
  refine zV_if_neN hX (tgt := 2418) dL_law_2403 (by decide) (by omega) (fun c_2403 => ?_) (fun c_2403 => ?_)
  · refine zV_goto hX (tgt := 2446) dL_law_2418 (by decide) ?_
    refine zV_widen (c1 := cells + 15) (s1 := slots + 90) (by omega) (by omega) ?_
    exact kk _ _ _ _ hI
  · have he9 := he (by omega)
    refine zV_aload_n hX dL_law_2406 rfl ?_
    refine zV_iconst hX (v := nI 0) dL_law_2407 (by decide) ?_
    refine zV_lald hX (v := b.toInt64) dL_law_2408 (rfl : zSh 220 = (23, 1)) (rfl) ⟨by decide, by omega⟩ (he9) ?_
    refine zV_iload hX dL_law_2409 rfl ?_
    refine zV_i2l hX dL_law_2411 ?_
    refine zV_lcmp hX dL_law_2412 ?_
    refine zV_topi (nI 0) (lg_self _) ?_
    refine zV_if_eqN hX (tgt := 2418) dL_law_2413 (by decide) (by decide) (fun c_2413 => ?_) (fun c_2413 => absurd c_2413 (by decide))
    refine zV_goto hX (tgt := 2446) dL_law_2418 (by decide) ?_
    refine zV_widen (c1 := cells + 15) (s1 := slots + 90) (by omega) (by omega) ?_
    exact kk _ _ _ _ hI
set_option maxHeartbeats 1000000 in
theorem law_c34 (l : Launch) {G : zG} {I : zM → Prop} {M : zM} {X : zX} {Q : State → Prop} {cells slots n k b0 : Nat} {xs : Nat → Int32} (hX : zOk G X yL_law.cls cL_law 8) (hEx : zEx X.2.2.2.2.1) (hNc : va_Nc zIAE zNSE X.2.2.2.2.1) (hR : X.2.2.2.1 = room_1) (hl : X.2.1 = l) (hxs : va_X b0 n xs X.2.2.2.2.1 X.2.2.2.2.1.heap) (hb : b0 < X.2.2.2.2.1.heap.size ∧ ¬ zA G X.2.2.2.2.1.heap.size b0 ∧ G.1 4003 = b0) (hk : 6 * k + 6 ≤ n) (hn : n ≤ 3072) (hcs : cells + 15 ≤ 601024 ∧ slots + 90 ≤ 7293034) (hop : opP l G I (Option.some Jvm.ClassFile.FieldType.int) yX10_status cX10_status 2 yX11_status cX11_status 2 [.int (xs (6 * k + 1))] M) (kk : ∀ (M2 : zM) (v5 v6 v7 : Value), I M2 → zV G X Q 8 (cells + 15) (slots + 90) 2446 [.ref (4003 : Nat), .ref (0 : Nat), .ref (300 : Nat), .ref (220 : Nat), .int (nI (6 * k)), v5, v6, v7] [] M2) : ∀ v5 v6 v7 : Value, zV G X Q 8 cells slots 2421 [.ref (4003 : Nat), .ref (0 : Nat), .ref (300 : Nat), .ref (220 : Nat), .int (nI (6 * k)), v5, v6, v7] [] M := by
  intro v5 v6 v7
  obtain ⟨d9, mc, ms, b, M1, M2, hd9, hmc, hms, hC1, hC2, hI⟩ := hop
  refine zV_aload_n hX dL_law_2421 rfl ?_
  refine zV_aload_n hX dL_law_2422 rfl ?_
  refine zV_iload hX dL_law_2423 rfl ?_
  refine zV_iconst hX (v := nI 1) dL_law_2425 (by decide) ?_
  refine zV_iaddN hX dL_law_2426 ?_
  refine zV_sld hX hxs hb dL_law_2427 rfl ⟨by omega, by omega⟩ ?_
  refine zN_cV1 hX hR hl dL_law_2428 (zCk.of hC1) zt_X10_status rfl zml_L_232 zo0.1 ⟨by decide, by decide⟩ (Nat.le_of_ble_eq_true rfl) (by omega) ?_
  dsimp only [Option.toList, List.cons_append, List.nil_append]
  refine zV_aload_n hX dL_law_2431 rfl ?_
  refine zV_aload_n hX dL_law_2432 rfl ?_
  refine zV_iload hX dL_law_2433 rfl ?_
  refine zV_iconst hX (v := nI 1) dL_law_2435 (by decide) ?_
  refine zV_iaddN hX dL_law_2436 ?_
  refine zV_sld hX hxs hb dL_law_2437 rfl ⟨by omega, by omega⟩ ?_
  refine zN_cV1 hX hR hl dL_law_2438 hC2 zt_X11_status rfl zml_L_235 zo300.1 ⟨by decide, by omega⟩ (Nat.le_of_ble_eq_true rfl) (by omega) ?_
  dsimp only [Option.toList, List.cons_append, List.nil_append]
  refine zV_icmp_eq hX (tgt := 2446) dL_law_2441 (by decide) (fun c_2441 => ?_) (fun c_2441 => absurd c_2441 (fun q => q rfl))
  refine zV_widen (c1 := cells + 15) (s1 := slots + 90) (by omega) (by omega) ?_
  exact kk _ _ _ _ hI
