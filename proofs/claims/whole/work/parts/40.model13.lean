theorem mEz_set (m : Nat) (M : zM) (s : Nat) : ∀ k, s < k → (mEz m k M).1 (1000 + 16 * 51 + m) s = nI 0
  | 0, h => absurd h (Nat.not_lt_zero _)
  | k + 1, h => by
    show (zw (zw (mEz m k M) (1000 + 16 * 51 + m) k (nI 0)) (1000 + 16 * 52 + m) k (nI 0)).1 _ _ = _
    rw [zw_ne (by omega), zw_at]
    by_cases e : s = k
    · rw [if_pos ⟨rfl, e⟩]
    · rw [if_neg (fun q => e q.2)]
      exact mEz_set m M s k (by omega)
theorem mEz_ne {m x : Nat} (h : x ≠ m) (hx : x < 7) (hm : m < 7) (M : zM) (s : Nat) : ∀ k, (mEz m k M).1 (1000 + 16 * 51 + x) s = M.1 (1000 + 16 * 51 + x) s
  | 0 => rfl
  | k + 1 => by
    show (zw (zw (mEz m k M) (1000 + 16 * 51 + m) k (nI 0)) (1000 + 16 * 52 + m) k (nI 0)).1 _ _ = _
    rw [zw_ne (by omega), zw_ne (by omega)]
    exact mEz_ne h hx hm M s k
theorem mEb_r {c m a j : Nat} (h : 359 ≤ a) (M : zM) : (mEb c m M).1 a j = M.1 a j := by
  unfold mEb
  rw [zw_ne (by omega), zw_ne (by omega), zw_ne (by omega), zw_ne (by omega), zw_ne (by omega)]
theorem mEa_0 {c n x s : Nat} (hs : s < n) (M : zM) : ∀ k, k ≤ 7 → x < k → (mEa c n k M).1 (1000 + 16 * 51 + x) s = nI 0
  | 0, _, h => absurd h (Nat.not_lt_zero _)
  | k + 1, hk, h => by
    show (mEz k n (mEb c k (mEa c n k M))).1 _ _ = _
    by_cases e : x = k
    · subst e; exact mEz_set x _ s n hs
    · rw [mEz_ne e (by omega) (by omega), mEb_r (by omega)]
      exact mEa_0 hs M k (by omega) (by omega)
theorem m01_a {c n : Nat} (hn : n ≤ 7) (M : zM) : m01 n 51 (mEa c n n M) := fun x s hx hs => Or.inl (mEa_0 hs M n hn hx)
theorem m01_x {n ka kb c r s x : Nat} (hab : mKab ka kb) (hx : x < 7) (mn : Nat → Option Nat) {M : zM} (hn : n ≤ 7) (h : m01 n kb M) : m01 n kb (mCx mn c r ka kb s x M) := fun y z hy hz => by
  unfold mCx
  rw [zw_at (a := 1000 + 16 * kb + y)]
  split
  · exact zb_01 _
  · have e : ∀ w v, (zw (mCm mn c r s x M) (1000 + 16 * ka + x) w v).1 (1000 + 16 * kb + y) z = M.1 (1000 + 16 * kb + y) z := fun w v => by
      rw [zw_ne (by rcases hab with ⟨rfl, rfl⟩ | ⟨rfl, rfl⟩ <;> omega)]
      unfold mCm
      split
      · rw [zw_ne (by omega)]
      · unfold mCt mSb
        rw [zw_ne (by omega), zw_ne (by omega), zw_ne (by omega), zw_ne (by omega)]
    rw [e]
    exact h y z hy hz
theorem m01_calls {n ka kb c r : Nat} (hab : mKab ka kb) (mn : Nat → Option Nat) (hn : n ≤ 7) : ∀ (k : Nat) {M : zM}, m01 n kb M → m01 n kb (mCalls n mn c r ka kb k M)
  | 0, _, h => h
  | k + 1, M, h => by
    show m01 n kb (mCs n mn c r ka kb k (mCalls n mn c r ka kb k M))
    have h1 := m01_calls hab mn hn k h (c := c) (r := r)
    unfold mCs
    split
    · exact h1
    · have h2 : ∀ j, j ≤ 7 → m01 n kb (mCX mn c r ka kb k j (mCalls n mn c r ka kb k M)) := fun j => by
        induction j with
        | zero => exact fun _ => h1
        | succ j ih => exact fun hj => m01_x hab (by omega) mn hn (ih (by omega))
      exact h2 n hn
theorem m01_d {n c : Nat} : ∀ (k : Nat) {M : zM}, k ≤ 7 → m01 n 51 M → m01 n 51 (mEd c k M)
  | 0, _, _, h => h
  | k + 1, M, hk, h => fun x s hx hs => by
    have h1 := m01_d (c := c) k (by omega) h
    show (zw (zw (zw (mEd c k M) (300 + 1 + 57) k _) (300 + 1 + 54) k _) (1000 + 16 * 51 + k) c (nI 0)).1 _ _ = _ ∨ (zw (zw (zw (mEd c k M) (300 + 1 + 57) k _) (300 + 1 + 54) k _) (1000 + 16 * 51 + k) c (nI 0)).1 _ _ = _
    rw [zw_at (a := 1000 + 16 * 51 + x)]
    split
    · exact Or.inl rfl
    · rw [zw_ne (by omega), zw_ne (by omega)]
      exact h1 x s hx hs
theorem m01_c {n c : Nat} (hn : n ≤ 7) (mn : Nat → Option Nat) (M : zM) : m01 n 51 (mEc n c mn M) := m01_calls (Or.inl ⟨rfl, rfl⟩) mn hn n (m01_a hn M)
set_option maxRecDepth 4000 in
set_option maxHeartbeats 1000000 in
theorem zc_goesRound (l : Launch) (G : zG) (M : zM) (n c t : Nat) (mn : Nat → Option Nat) (hn : M.1 300 9 = nI n) (hn7 : n ≤ 7) (ht : M.1 300 10 = nI t) (ht2 : t ≤ 2) (hcn : c < n) (hmn : mLn 0 M mn) : zC l G 3 yX11_goesRound cX11_goesRound 4 (Option.none : Option Jvm.ClassFile.FieldType) [.ref (300 : Nat), .int (nI c)] M (zP none (mEcho n c t mn 4 M)) := by
  refine zC_of (by decide) (Nat.le_of_ble_eq_true rfl) (fun X Q hQ hX hl hR hr => ?_)
  refine zV_loc (L' := [.ref (300 : Nat), .int (nI c), .null, .null]) rfl ?_
  have J192 : ∀ v3 : Value, zV G X Q 4 0 0 192 [.ref (300 : Nat), .int (nI c), .int (nI 3), v3] [] (mEe n c mn M) := by
    intro v3
    have L192 : ∀ (f9 q : Nat) (v3 : Value), 4 - q < f9 → q ≤ 4 → zV G X Q 4 0 0 192 [.ref (300 : Nat), .int (nI c), .int (nI (q + 3)), v3] [] (mEcho n c t mn q M) := by
      intro f9
      induction f9 with
      | zero => intro q v3 hq1 hq2; exact absurd hq1 (Nat.not_lt_zero _)
      | succ f9 ih =>
        intro q v3 hq1 hq2
        have hH := mEcho_E hn7 c t mn q M
        have J400 : q < 4 → ∀ v3 : Value, zV G X Q 4 0 0 400 [.ref (300 : Nat), .int (nI c), .int (nI (q + 3)), v3] [] (mEcho n c t mn (q + 1) M) := by
          intro hq9 v3
          refine zV_iincN hX (b := 1) dX11_goesRound_400 rfl (by decide) ?_
          dsimp only [zst1, zst2, zclr, zc2]
          refine zV_goto hX (tgt := 192) dX11_goesRound_403 (by decide) ?_
          exact ih (q + 1) _ (by omega) (by omega)
        have L332 : q < 4 → ∀ (f9 m : Nat), n - m < f9 → m ≤ n → zV G X Q 4 0 0 332 [.ref (300 : Nat), .int (nI c), .int (nI (q + 3)), .int (nI m)] [] (mEg n t (q + 3) m (mCalls n mn c 3 50 52 n (mEf n t (q + 3) n (mEcho n c t mn q M)))) := by
          intro hq9
          intro f9
          induction f9 with
          | zero => intro m hm1 hm2; exact absurd hm1 (Nat.not_lt_zero _)
          | succ f9 ih2 =>
            intro m hm1 hm2
            have hG := ((hH.tr (mEf_E n t (q + 3) n (mEcho n c t mn q M))).tr (mCalls_E (k := n) (r := 3) (c := c) (Or.inr ⟨rfl, rfl⟩) hn7 mn _)).tr (mEg_E n t (q + 3) m (mCalls n mn c 3 50 52 n (mEf n t (q + 3) n (mEcho n c t mn q M))))
            refine zV_iload_n hX dX11_goesRound_332 rfl ?_
            refine zV_aload_n hX dX11_goesRound_333 rfl ?_
            refine zV_geti hX dX11_goesRound_334 zf_X11_20 zo300.1 rfl (hG.at hn (by unfold mFrE; omega)) ?_
            refine zV_icmp_geN hX (tgt := 400) dX11_goesRound_337 (by decide) ⟨by omega, by omega⟩ (fun c_337 => ?_) (fun c_337 => ?_)
            · have hmn9 : m = n := by omega
              refine zV_mem (show _ = mEcho n c t mn (q + 1) M by rw [hmn9]; rfl) (J400 hq9 _)
            · refine zV_aload_n hX dX11_goesRound_340 rfl ?_
              refine zV_geta hX dX11_goesRound_341 zf_X11_122 zo300.1 rfl ?_
              refine zV_iload_n hX dX11_goesRound_344 rfl ?_
              refine zV_iald hX dX11_goesRound_345 (zo300.a 56 rfl) (rfl) ⟨by omega, by omega⟩ (rfl) ?_
              refine zV_if_gt hX (tgt := 394) dX11_goesRound_346 (by decide) (fun c_346 => ?_) (fun c_346 => ?_)
              · have e9 : mEg1 n t (q + 3) m (mEg n t (q + 3) m (mCalls n mn c 3 50 52 n (mEf n t (q + 3) n (mEcho n c t mn q M)))) = (mEg n t (q + 3) m (mCalls n mn c 3 50 52 n (mEf n t (q + 3) n (mEcho n c t mn q M)))) := if_pos c_346
                refine zV_iincN hX (b := 1) dX11_goesRound_394 rfl (by decide) ?_
                dsimp only [zst1, zst2, zclr, zc2]
                refine zV_goto hX (tgt := 332) dX11_goesRound_397 (by decide) ?_
                have h9 := ih2 (m + 1) (by omega) (by omega)
                rw [show mEg n t (q + 3) (m + 1) (mCalls n mn c 3 50 52 n (mEf n t (q + 3) n (mEcho n c t mn q M))) = mEg1 n t (q + 3) m (mEg n t (q + 3) m (mCalls n mn c 3 50 52 n (mEf n t (q + 3) n (mEcho n c t mn q M)))) from rfl, e9] at h9
                exact h9
              · refine zV_aload_n hX dX11_goesRound_349 rfl ?_
                refine zV_aload_n hX dX11_goesRound_350 rfl ?_
                refine zV_geta hX dX11_goesRound_351 zf_X11_104 zo300.1 rfl ?_
                refine zV_iload_n hX dX11_goesRound_354 rfl ?_
                refine zV_aald hX dX11_goesRound_355 (t := 0) (zo300.a 50 rfl) (by decide) (rfl) ⟨by omega, by omega⟩ (mRow 50 (by decide)) ?_
                refine zV_aload_n hX dX11_goesRound_356 rfl ?_
                refine zV_geta hX dX11_goesRound_357 zf_X11_110 zo300.1 rfl ?_
                refine zV_iload_n hX dX11_goesRound_360 rfl ?_
                refine zV_aald hX dX11_goesRound_361 (t := 1) (zo300.a 52 rfl) (by decide) (rfl) ⟨by omega, by omega⟩ (mRow 52 (by decide)) ?_
                refine zV_iconst hX (v := nI 2) dX11_goesRound_362 (by decide) ?_
                refine zV_aload_n hX dX11_goesRound_363 rfl ?_
                refine zV_geti hX dX11_goesRound_364 zf_X11_23 zo300.1 rfl (hG.at ht (by unfold mFrE; omega)) ?_
                refine zV_imulN hX dX11_goesRound_367 ?_
                refine zV_cV3p hX hR hl dX11_goesRound_368 (zc_hasMore l G (mEg n t (q + 3) m (mCalls n mn c 3 50 52 n (mEf n t (q + 3) n (mEcho n c t mn q M)))) n (1000 + 16 * 50 + m) (1000 + 16 * 52 + m) (2 * t) (hG.at hn (by unfold mFrE; omega)) hn7 (mSh50 (by omega)) (mSh52 (by omega)) (by omega)) zt_X11_hasMore rfl zml_X11_468 zo300.1 ⟨by decide, by decide⟩ (Nat.le_of_ble_eq_true rfl) ?_
                dsimp only [Option.toList, List.cons_append, List.nil_append]
                refine zV_if_neB hX (tgt := 377) dX11_goesRound_371 (by decide) (fun c_371 => ?_) (fun c_371 => ?_)
                · have e9 : mEg1 n t (q + 3) m (mEg n t (q + 3) m (mCalls n mn c 3 50 52 n (mEf n t (q + 3) n (mEcho n c t mn q M)))) = zw (zw (mHm (1000 + 16 * 50 + m) (1000 + 16 * 52 + m) n (2 * t) (mEg n t (q + 3) m (mCalls n mn c 3 50 52 n (mEf n t (q + 3) n (mEcho n c t mn q M))))) (300 + 1 + 55) m ((mHm (1000 + 16 * 50 + m) (1000 + 16 * 52 + m) n (2 * t) (mEg n t (q + 3) m (mCalls n mn c 3 50 52 n (mEf n t (q + 3) n (mEcho n c t mn q M))))).1 300 58)) (300 + 1 + 56) m (nI (q + 3)) := by unfold mEg1; rw [if_neg c_346, if_pos c_371]
                  refine zV_aload_n hX dX11_goesRound_377 rfl ?_
                  refine zV_geta hX dX11_goesRound_378 zf_X11_119 zo300.1 rfl ?_
                  refine zV_iload_n hX dX11_goesRound_381 rfl ?_
                  refine zV_aload_n hX dX11_goesRound_382 rfl ?_
                  refine zV_geti hX dX11_goesRound_383 zf_X11_461 zo300.1 rfl rfl ?_
                  refine zV_iast hX dX11_goesRound_386 (zo300.a 55 rfl) (rfl) ⟨by omega, by omega⟩ ?_
                  refine zV_aload_n hX dX11_goesRound_387 rfl ?_
                  refine zV_geta hX dX11_goesRound_388 zf_X11_122 zo300.1 rfl ?_
                  refine zV_iload_n hX dX11_goesRound_391 rfl ?_
                  refine zV_iload_n hX dX11_goesRound_392 rfl ?_
                  refine zV_iast hX dX11_goesRound_393 (zo300.a 56 rfl) (rfl) ⟨by omega, by omega⟩ ?_
                  refine zV_iincN hX (b := 1) dX11_goesRound_394 rfl (by decide) ?_
                  dsimp only [zst1, zst2, zclr, zc2]
                  refine zV_goto hX (tgt := 332) dX11_goesRound_397 (by decide) ?_
                  have h9 := ih2 (m + 1) (by omega) (by omega)
                  rw [show mEg n t (q + 3) (m + 1) (mCalls n mn c 3 50 52 n (mEf n t (q + 3) n (mEcho n c t mn q M))) = mEg1 n t (q + 3) m (mEg n t (q + 3) m (mCalls n mn c 3 50 52 n (mEf n t (q + 3) n (mEcho n c t mn q M)))) from rfl, e9] at h9
                  exact h9
                · have e9 : mEg1 n t (q + 3) m (mEg n t (q + 3) m (mCalls n mn c 3 50 52 n (mEf n t (q + 3) n (mEcho n c t mn q M)))) = (mEg n t (q + 3) m (mCalls n mn c 3 50 52 n (mEf n t (q + 3) n (mEcho n c t mn q M)))) := by unfold mEg1; rw [if_neg c_346, if_neg (by rw [c_371]; decide)]
                  refine zV_mem (mHm_none c_371) ?_
                  refine zV_goto hX (tgt := 394) dX11_goesRound_374 (by decide) ?_
                  refine zV_iincN hX (b := 1) dX11_goesRound_394 rfl (by decide) ?_
                  dsimp only [zst1, zst2, zclr, zc2]
                  refine zV_goto hX (tgt := 332) dX11_goesRound_397 (by decide) ?_
                  have h9 := ih2 (m + 1) (by omega) (by omega)
                  rw [show mEg n t (q + 3) (m + 1) (mCalls n mn c 3 50 52 n (mEf n t (q + 3) n (mEcho n c t mn q M))) = mEg1 n t (q + 3) m (mEg n t (q + 3) m (mCalls n mn c 3 50 52 n (mEf n t (q + 3) n (mEcho n c t mn q M)))) from rfl, e9] at h9
                  exact h9
        have J316 : q < 4 → ∀ v3 : Value, zV G X Q 4 0 0 316 [.ref (300 : Nat), .int (nI c), .int (nI (q + 3)), v3] [] (mEf n t (q + 3) n (mEcho n c t mn q M)) := by
          intro hq9 v3
          refine zV_aload_n hX dX11_goesRound_316 rfl ?_
          refine zV_iconst hX (v := nI 3) dX11_goesRound_317 (by decide) ?_
          refine zV_iload_n hX dX11_goesRound_318 rfl ?_
          refine zV_aload_n hX dX11_goesRound_319 rfl ?_
          refine zV_geta hX dX11_goesRound_320 zf_X11_104 zo300.1 rfl ?_
          refine zV_aload_n hX dX11_goesRound_323 rfl ?_
          refine zV_geta hX dX11_goesRound_324 zf_X11_110 zo300.1 rfl ?_
          refine zV_cV4p hX hR hl dX11_goesRound_327 (zc_calls l G (mEf n t (q + 3) n (mEcho n c t mn q M)) n c 3 50 52 mn ((hH.tr (mEf_E n t (q + 3) n (mEcho n c t mn q M))).at hn (by unfold mFrE; omega)) hn7 (Or.inr ⟨rfl, rfl⟩) (kE.ln (hH.tr (mEf_E n t (q + 3) n (mEcho n c t mn q M))) hmn)) zt_X11_calls rfl zml_X11_464 zo300.1 ⟨by decide, by decide⟩ (Nat.le_of_ble_eq_true rfl) ?_
          dsimp only [Option.toList, List.cons_append, List.nil_append]
          refine zV_iconst hX (v := nI 0) dX11_goesRound_330 (by decide) ?_
          refine zV_istore_n hX dX11_goesRound_331 (by decide) ?_
          dsimp only [zst1, zst2, zclr, zc2]
          exact L332 hq9 (n + 1) 0 (by omega) (by omega)
        have L200 : q < 4 → ∀ (f9 m : Nat), n - m < f9 → m ≤ n → zV G X Q 4 0 0 200 [.ref (300 : Nat), .int (nI c), .int (nI (q + 3)), .int (nI m)] [] (mEf n t (q + 3) m (mEcho n c t mn q M)) := by
          intro hq9
          intro f9
          induction f9 with
          | zero => intro m hm1 hm2; exact absurd hm1 (Nat.not_lt_zero _)
          | succ f9 ih2 =>
            intro m hm1 hm2
            have hF := hH.tr (mEf_E n t (q + 3) m (mEcho n c t mn q M))
            have J280b : m < n → ∀ M9 : zM, mEf1 n t (q + 3) m (mEf n t (q + 3) m (mEcho n c t mn q M)) = mEu (q + 3) m M9 → zV G X Q 4 0 0 280 [.ref (300 : Nat), .int (nI c), .int (nI (q + 3)), .int (nI m)] [.int (nI 1), .int (nI m), .ref (300 + 1 + 57)] M9 := by
              intro c_205 M9 e9
              refine zV_zast hX dX11_goesRound_280 (zo300.a 57 rfl) (rfl) ⟨by omega, by omega⟩ (by first | exact Or.inl rfl | exact Or.inr rfl) ?_
              refine zV_aload_n hX dX11_goesRound_281 rfl ?_
              refine zV_geta hX dX11_goesRound_282 zf_X11_125 zo300.1 rfl ?_
              refine zV_iload_n hX dX11_goesRound_285 rfl ?_
              refine zV_zald hX (v := nI 1) dX11_goesRound_286 (zo300.a 57 rfl) (rfl) ⟨by omega, by omega⟩ (zw_same) ?_
              refine zV_if_neN hX (tgt := 293) dX11_goesRound_287 (by decide) (by omega) (fun c_287 => ?_) (fun c_287 => absurd c_287 (by decide))
              refine zV_aload_n hX dX11_goesRound_293 rfl ?_
              refine zV_geta hX dX11_goesRound_294 zf_X11_116 zo300.1 rfl ?_
              refine zV_iload_n hX dX11_goesRound_297 rfl ?_
              refine zV_aload_n hX dX11_goesRound_298 rfl ?_
              refine zV_geti hX (x := M9.1 300 58) dX11_goesRound_299 zf_X11_461 zo300.1 rfl (by rw [zw_ne (by omega)]) ?_
              refine zV_iast hX dX11_goesRound_302 (zo300.a 54 rfl) (rfl) ⟨by omega, by omega⟩ ?_
              refine zV_aload_n hX dX11_goesRound_303 rfl ?_
              refine zV_geta hX dX11_goesRound_304 zf_X11_113 zo300.1 rfl ?_
              refine zV_iload_n hX dX11_goesRound_307 rfl ?_
              refine zV_iload_n hX dX11_goesRound_308 rfl ?_
              refine zV_iast hX dX11_goesRound_309 (zo300.a 53 rfl) (rfl) ⟨by omega, by omega⟩ ?_
              refine zV_iincN hX (b := 1) dX11_goesRound_310 rfl (by decide) ?_
              dsimp only [zst1, zst2, zclr, zc2]
              refine zV_goto hX (tgt := 200) dX11_goesRound_313 (by decide) ?_
              have h9 := ih2 (m + 1) (by omega) (by omega)
              rw [show mEf n t (q + 3) (m + 1) (mEcho n c t mn q M) = mEf1 n t (q + 3) m (mEf n t (q + 3) m (mEcho n c t mn q M)) from rfl, e9] at h9
              exact h9
            have J280 : m < n → mEf1 n t (q + 3) m (mEf n t (q + 3) m (mEcho n c t mn q M)) = zw (mEf n t (q + 3) m (mEcho n c t mn q M)) (300 + 1 + 57) m (nI 0) → zV G X Q 4 0 0 280 [.ref (300 : Nat), .int (nI c), .int (nI (q + 3)), .int (nI m)] [.int (nI 0), .int (nI m), .ref (300 + 1 + 57)] (mEf n t (q + 3) m (mEcho n c t mn q M)) := by
              intro c_205 e9
              refine zV_zast hX dX11_goesRound_280 (zo300.a 57 rfl) (rfl) ⟨by omega, by omega⟩ (by first | exact Or.inl rfl | exact Or.inr rfl) ?_
              refine zV_aload_n hX dX11_goesRound_281 rfl ?_
              refine zV_geta hX dX11_goesRound_282 zf_X11_125 zo300.1 rfl ?_
              refine zV_iload_n hX dX11_goesRound_285 rfl ?_
              refine zV_zald hX (v := nI 0) dX11_goesRound_286 (zo300.a 57 rfl) (rfl) ⟨by omega, by omega⟩ (zw_same) ?_
              refine zV_if_neN hX (tgt := 293) dX11_goesRound_287 (by decide) (by omega) (fun c_287 => absurd c_287 (by decide)) (fun c_287 => ?_)
              refine zV_goto hX (tgt := 310) dX11_goesRound_290 (by decide) ?_
              refine zV_iincN hX (b := 1) dX11_goesRound_310 rfl (by decide) ?_
              dsimp only [zst1, zst2, zclr, zc2]
              refine zV_goto hX (tgt := 200) dX11_goesRound_313 (by decide) ?_
              have h9 := ih2 (m + 1) (by omega) (by omega)
              rw [show mEf n t (q + 3) (m + 1) (mEcho n c t mn q M) = mEf1 n t (q + 3) m (mEf n t (q + 3) m (mEcho n c t mn q M)) from rfl, e9] at h9
              exact h9
            refine zV_iload_n hX dX11_goesRound_200 rfl ?_
            refine zV_aload_n hX dX11_goesRound_201 rfl ?_
            refine zV_geti hX dX11_goesRound_202 zf_X11_20 zo300.1 rfl (hF.at hn (by unfold mFrE; omega)) ?_
            refine zV_icmp_geN hX (tgt := 316) dX11_goesRound_205 (by decide) ⟨by omega, by omega⟩ (fun c_205 => ?_) (fun c_205 => ?_)
            · have hmn9 : m = n := by omega
              rw [hmn9]
              exact J316 hq9 _
            · refine zV_aload_n hX dX11_goesRound_208 rfl ?_
              refine zV_geta hX dX11_goesRound_209 zf_X11_125 zo300.1 rfl ?_
              refine zV_iload_n hX dX11_goesRound_212 rfl ?_
              refine zV_aload_n hX dX11_goesRound_213 rfl ?_
              refine zV_geta hX dX11_goesRound_214 zf_X11_113 zo300.1 rfl ?_
              refine zV_iload_n hX dX11_goesRound_217 rfl ?_
              refine zV_iald hX dX11_goesRound_218 (zo300.a 53 rfl) (rfl) ⟨by omega, by omega⟩ (rfl) ?_
              refine zV_if_ne hX (tgt := 279) dX11_goesRound_219 (by decide) (fun c_219 => ?_) (fun c_219 => ?_)
              · have e9 : mEf1 n t (q + 3) m (mEf n t (q + 3) m (mEcho n c t mn q M)) = zw (mEf n t (q + 3) m (mEcho n c t mn q M)) (300 + 1 + 57) m (nI 0) := if_pos c_219
                refine zV_iconst hX (v := nI 0) dX11_goesRound_279 (by decide) ?_
                first | exact J280 c_205 e9 | exact J280b c_205 _ e9
              · have e0 := c_219
                refine zV_aload_n hX dX11_goesRound_222 rfl ?_
                refine zV_aload_n hX dX11_goesRound_223 rfl ?_
                refine zV_geta hX dX11_goesRound_224 zf_X11_101 zo300.1 rfl ?_
                refine zV_iload_n hX dX11_goesRound_227 rfl ?_
                refine zV_aald hX dX11_goesRound_228 (t := 0) (zo300.a 49 rfl) (by decide) (rfl) ⟨by omega, by omega⟩ (mRow 49 (by decide)) ?_
                refine zV_aload_n hX dX11_goesRound_229 rfl ?_
                refine zV_geta hX dX11_goesRound_230 zf_X11_107 zo300.1 rfl ?_
                refine zV_iload_n hX dX11_goesRound_233 rfl ?_
                refine zV_aald hX dX11_goesRound_234 (t := 1) (zo300.a 51 rfl) (by decide) (rfl) ⟨by omega, by omega⟩ (mRow 51 (by decide)) ?_
                refine zV_aload_n hX dX11_goesRound_235 rfl ?_
                refine zV_geti hX dX11_goesRound_236 zf_X11_20 zo300.1 rfl (hF.at hn (by unfold mFrE; omega)) ?_
                refine zV_aload_n hX dX11_goesRound_239 rfl ?_
                refine zV_geti hX dX11_goesRound_240 zf_X11_23 zo300.1 rfl (hF.at ht (by unfold mFrE; omega)) ?_
                refine zV_iaddN hX dX11_goesRound_243 ?_
                refine zV_iconst hX (v := nI 2) dX11_goesRound_244 (by decide) ?_
                refine zV_idivN hX dX11_goesRound_245 ⟨by omega, by decide, by decide⟩ ?_
                refine zV_cV3p hX hR hl dX11_goesRound_246 (zc_hasMore l G (mEf n t (q + 3) m (mEcho n c t mn q M)) n (1000 + 16 * 49 + m) (1000 + 16 * 51 + m) ((n + t) / 2) (hF.at hn (by unfold mFrE; omega)) hn7 (mSh49 (by omega)) (mSh51 (by omega)) (by omega)) zt_X11_hasMore rfl zml_X11_468 zo300.1 ⟨by decide, by decide⟩ (Nat.le_of_ble_eq_true rfl) ?_
                dsimp only [Option.toList, List.cons_append, List.nil_append]
                refine zV_if_neB hX (tgt := 275) dX11_goesRound_249 (by decide) (fun c_249 => ?_) (fun c_249 => ?_)
                · have e9 : mEf1 n t (q + 3) m (mEf n t (q + 3) m (mEcho n c t mn q M)) = mEu (q + 3) m (mHm (1000 + 16 * 49 + m) (1000 + 16 * 51 + m) n ((n + t) / 2) (mEf n t (q + 3) m (mEcho n c t mn q M))) := by unfold mEf1; rw [if_neg (not_not_intro c_219), if_pos c_249]
                  refine zV_iconst hX (v := nI 1) dX11_goesRound_275 (by decide) ?_
                  refine zV_goto hX (tgt := 280) dX11_goesRound_276 (by decide) ?_
                  first | exact J280 c_205 e9 | exact J280b c_205 _ e9
                · refine zV_mem (mHm_none c_249) ?_
                  refine zV_aload_n hX dX11_goesRound_252 rfl ?_
                  refine zV_aload_n hX dX11_goesRound_253 rfl ?_
                  refine zV_geta hX dX11_goesRound_254 zf_X11_104 zo300.1 rfl ?_
                  refine zV_iload_n hX dX11_goesRound_257 rfl ?_
                  refine zV_aald hX dX11_goesRound_258 (t := 0) (zo300.a 50 rfl) (by decide) (rfl) ⟨by omega, by omega⟩ (mRow 50 (by decide)) ?_
                  refine zV_aload_n hX dX11_goesRound_259 rfl ?_
                  refine zV_geta hX dX11_goesRound_260 zf_X11_110 zo300.1 rfl ?_
                  refine zV_iload_n hX dX11_goesRound_263 rfl ?_
                  refine zV_aald hX dX11_goesRound_264 (t := 1) (zo300.a 52 rfl) (by decide) (rfl) ⟨by omega, by omega⟩ (mRow 52 (by decide)) ?_
                  refine zV_aload_n hX dX11_goesRound_265 rfl ?_
                  refine zV_geti hX dX11_goesRound_266 zf_X11_23 zo300.1 rfl (hF.at ht (by unfold mFrE; omega)) ?_
                  refine zV_cV3p hX hR hl dX11_goesRound_269 (zc_hasMore l G (mEf n t (q + 3) m (mEcho n c t mn q M)) n (1000 + 16 * 50 + m) (1000 + 16 * 52 + m) t (hF.at hn (by unfold mFrE; omega)) hn7 (mSh50 (by omega)) (mSh52 (by omega)) (by omega)) zt_X11_hasMore rfl zml_X11_468 zo300.1 ⟨by decide, by decide⟩ (Nat.le_of_ble_eq_true rfl) ?_
                  dsimp only [Option.toList, List.cons_append, List.nil_append]
                  refine zV_if_eqB hX (tgt := 279) dX11_goesRound_272 (by decide) (fun c_272 => ?_) (fun c_272 => ?_)
                  · have e9 : mEf1 n t (q + 3) m (mEf n t (q + 3) m (mEcho n c t mn q M)) = zw (mEf n t (q + 3) m (mEcho n c t mn q M)) (300 + 1 + 57) m (nI 0) := by unfold mEf1; rw [if_neg (not_not_intro c_219), if_neg (by rw [c_249]; decide), if_neg (by rw [c_272]; decide)]
                    refine zV_mem (mHm_none c_272) ?_
                    refine zV_iconst hX (v := nI 0) dX11_goesRound_279 (by decide) ?_
                    first | exact J280 c_205 e9 | exact J280b c_205 _ e9
                  · have e9 : mEf1 n t (q + 3) m (mEf n t (q + 3) m (mEcho n c t mn q M)) = mEu (q + 3) m (mHm (1000 + 16 * 50 + m) (1000 + 16 * 52 + m) n t (mEf n t (q + 3) m (mEcho n c t mn q M))) := by unfold mEf1; rw [if_neg (not_not_intro c_219), if_neg (by rw [c_249]; decide), if_pos c_272]
                    refine zV_iconst hX (v := nI 1) dX11_goesRound_275 (by decide) ?_
                    refine zV_goto hX (tgt := 280) dX11_goesRound_276 (by decide) ?_
                    first | exact J280 c_205 e9 | exact J280b c_205 _ e9
        refine zV_iload_n hX dX11_goesRound_192 rfl ?_
        refine zV_bipush hX (v := nI 6) dX11_goesRound_193 (by decide) ?_
        refine zV_icmp_gtN hX (tgt := 406) dX11_goesRound_195 (by decide) ⟨by omega, by omega⟩ (fun c_195 => ?_) (fun c_195 => ?_)
        · exact zV_retv hX hQ hr (⟨rfl, by rw [show q = 4 by omega]⟩) dX11_goesRound_406
        · refine zV_iconst hX (v := nI 0) dX11_goesRound_198 (by decide) ?_
          refine zV_istore_n hX dX11_goesRound_199 (by decide) ?_
          dsimp only [zst1, zst2, zclr, zc2]
          exact L200 (by omega) (n + 1) 0 (by omega) (by omega)
    exact L192 5 0 v3 (by omega) (by omega)
  have J176 : ∀ v2 v3 : Value, zV G X Q 4 0 0 176 [.ref (300 : Nat), .int (nI c), v2, v3] [] (mEd c n (mEc n c mn M)) := by
    intro v2 v3
    refine zV_aload_n hX dX11_goesRound_176 rfl ?_
    refine zV_iconst hX (v := nI 2) dX11_goesRound_177 (by decide) ?_
    refine zV_iload_n hX dX11_goesRound_178 rfl ?_
    refine zV_aload_n hX dX11_goesRound_179 rfl ?_
    refine zV_geta hX dX11_goesRound_180 zf_X11_101 zo300.1 rfl ?_
    refine zV_aload_n hX dX11_goesRound_183 rfl ?_
    refine zV_geta hX dX11_goesRound_184 zf_X11_107 zo300.1 rfl ?_
    refine zV_cV4p hX hR hl dX11_goesRound_187 (zc_calls l G (mEd c n (mEc n c mn M)) n c 2 49 51 mn (((mEc_E (c := c) hn7 mn M).tr (mEd_E (c := c) (k := n) hn7 (mEc n c mn M))).at hn (by unfold mFrE; omega)) hn7 (Or.inl ⟨rfl, rfl⟩) (kE.ln ((mEc_E (c := c) hn7 mn M).tr (mEd_E (c := c) (k := n) hn7 (mEc n c mn M))) hmn)) zt_X11_calls rfl zml_X11_464 zo300.1 ⟨by decide, by decide⟩ (Nat.le_of_ble_eq_true rfl) ?_
    dsimp only [Option.toList, List.cons_append, List.nil_append]
    refine zV_mem (show _ = mEe n c mn M from rfl) ?_
    refine zV_iconst hX (v := nI 3) dX11_goesRound_190 (by decide) ?_
    refine zV_istore_n hX dX11_goesRound_191 (by decide) ?_
    dsimp only [zst1, zst2, zclr, zc2]
    exact J192 _
  have J125 : ∀ v3 : Value, zV G X Q 4 0 0 125 [.ref (300 : Nat), .int (nI c), .int (nI 0), v3] [] (mEc n c mn M) := by
    intro v3
    have L125 : ∀ (f9 m : Nat), n - m < f9 → m ≤ n → zV G X Q 4 0 0 125 [.ref (300 : Nat), .int (nI c), .int (nI m), v3] [] (mEd c m (mEc n c mn M)) := by
      intro f9
      induction f9 with
      | zero => intro m hm1 hm2; exact absurd hm1 (Nat.not_lt_zero _)
      | succ f9 ih =>
        intro m hm1 hm2
        have hD := (mEc_E (c := c) hn7 mn M).tr (mEd_E (c := c) (k := m) (by omega) _)
        have h01 := m01_d (c := c) m (by omega) (m01_c (c := c) hn7 mn M)
        refine zV_iload_n hX dX11_goesRound_125 rfl ?_
        refine zV_aload_n hX dX11_goesRound_126 rfl ?_
        refine zV_geti hX dX11_goesRound_127 zf_X11_20 zo300.1 rfl (hD.at hn (by unfold mFrE; omega)) ?_
        refine zV_icmp_geN hX (tgt := 176) dX11_goesRound_130 (by decide) ⟨by omega, by omega⟩ (fun c_130 => ?_) (fun c_130 => ?_)
        · have hmn9 : m = n := by omega
          rw [hmn9]
          exact J176 _ _
        · refine zV_aload_n hX dX11_goesRound_133 rfl ?_
          refine zV_geta hX dX11_goesRound_134 zf_X11_125 zo300.1 rfl ?_
          refine zV_iload_n hX dX11_goesRound_137 rfl ?_
          refine zV_aload_n hX dX11_goesRound_138 rfl ?_
          refine zV_geta hX dX11_goesRound_139 zf_X11_107 zo300.1 rfl ?_
          refine zV_iload_n hX dX11_goesRound_142 rfl ?_
          refine zV_aald hX dX11_goesRound_143 (t := 1) (zo300.a 51 rfl) (by decide) (rfl) ⟨by omega, by omega⟩ (mRow 51 (by decide)) ?_
          refine zV_iload_n hX dX11_goesRound_144 rfl ?_
          refine zV_zald hX dX11_goesRound_145 (mSh51 (by omega)) (rfl) ⟨by omega, by omega⟩ (rfl) ?_
          refine zV_zast hX dX11_goesRound_146 (zo300.a 57 rfl) (rfl) ⟨by omega, by omega⟩ (h01 m c (by omega) (by omega)) ?_
          refine zV_aload_n hX dX11_goesRound_147 rfl ?_
          refine zV_geta hX dX11_goesRound_148 zf_X11_116 zo300.1 rfl ?_
          refine zV_iload_n hX dX11_goesRound_151 rfl ?_
          refine zV_aload_n hX dX11_goesRound_152 rfl ?_
          refine zV_geta hX dX11_goesRound_153 zf_X11_101 zo300.1 rfl ?_
          refine zV_iload_n hX dX11_goesRound_156 rfl ?_
          refine zV_aald hX dX11_goesRound_157 (t := 0) (zo300.a 49 rfl) (by decide) (rfl) ⟨by omega, by omega⟩ (mRow 49 (by decide)) ?_
          refine zV_iload_n hX dX11_goesRound_158 rfl ?_
          refine zV_iald hX (v := (mEd c m (mEc n c mn M)).1 (1000 + 16 * 49 + m) c) dX11_goesRound_159 (mSh49 (by omega)) (rfl) ⟨by omega, by omega⟩ (by rw [zw_ne (by omega)]) ?_
          refine zV_iast hX dX11_goesRound_160 (zo300.a 54 rfl) (rfl) ⟨by omega, by omega⟩ ?_
          refine zV_aload_n hX dX11_goesRound_161 rfl ?_
          refine zV_geta hX dX11_goesRound_162 zf_X11_107 zo300.1 rfl ?_
          refine zV_iload_n hX dX11_goesRound_165 rfl ?_
          refine zV_aald hX dX11_goesRound_166 (t := 1) (zo300.a 51 rfl) (by decide) (rfl) ⟨by omega, by omega⟩ (mRow 51 (by decide)) ?_
          refine zV_iload_n hX dX11_goesRound_167 rfl ?_
          refine zV_iconst hX (v := nI 0) dX11_goesRound_168 (by decide) ?_
          refine zV_zast hX dX11_goesRound_169 (mSh51 (by omega)) (rfl) ⟨by omega, by omega⟩ (Or.inl rfl) ?_
          refine zV_iincN hX (b := 1) dX11_goesRound_170 rfl (by decide) ?_
          dsimp only [zst1, zst2, zclr, zc2]
          refine zV_goto hX (tgt := 125) dX11_goesRound_173 (by decide) ?_
          exact ih (m + 1) (by omega) (by omega)
    exact L125 (n + 1) 0 (by omega) (by omega)
  have J109 : ∀ v2 v3 : Value, zV G X Q 4 0 0 109 [.ref (300 : Nat), .int (nI c), v2, v3] [] (mEa c n n M) := by
    intro v2 v3
    refine zV_aload_n hX dX11_goesRound_109 rfl ?_
    refine zV_iconst hX (v := nI 1) dX11_goesRound_110 (by decide) ?_
    refine zV_iload_n hX dX11_goesRound_111 rfl ?_
    refine zV_aload_n hX dX11_goesRound_112 rfl ?_
    refine zV_geta hX dX11_goesRound_113 zf_X11_101 zo300.1 rfl ?_
    refine zV_aload_n hX dX11_goesRound_116 rfl ?_
    refine zV_geta hX dX11_goesRound_117 zf_X11_107 zo300.1 rfl ?_
    refine zV_cV4p hX hR hl dX11_goesRound_120 (zc_calls l G (mEa c n n M) n c 1 49 51 mn ((mEa_E (c := c) (n := n) (k := n) hn7 M).at hn (by unfold mFrE; omega)) hn7 (Or.inl ⟨rfl, rfl⟩) (kE.ln (mEa_E (c := c) (n := n) (k := n) hn7 M) hmn)) zt_X11_calls rfl zml_X11_464 zo300.1 ⟨by decide, by decide⟩ (Nat.le_of_ble_eq_true rfl) ?_
    dsimp only [Option.toList, List.cons_append, List.nil_append]
    refine zV_mem (show _ = mEc n c mn M from rfl) ?_
    refine zV_iconst hX (v := nI 0) dX11_goesRound_123 (by decide) ?_
    refine zV_istore_n hX dX11_goesRound_124 (by decide) ?_
    dsimp only [zst1, zst2, zclr, zc2]
    exact J125 _
  have L12 : ∀ (f9 m : Nat) (v3 : Value), n - m < f9 → m ≤ n → zV G X Q 4 0 0 12 [.ref (300 : Nat), .int (nI c), .int (nI m), v3] [] (mEa c n m M) := by
    intro f9
    induction f9 with
    | zero => intro m v3 hm1 hm2; exact absurd hm1 (Nat.not_lt_zero _)
    | succ f9 ih =>
      intro m v3 hm1 hm2
      have hA := mEa_E (c := c) (n := n) (k := m) (by omega) M
      have J103 : m < n → ∀ v3 : Value, zV G X Q 4 0 0 103 [.ref (300 : Nat), .int (nI c), .int (nI m), v3] [] (mEa c n (m + 1) M) := by
        intro c_17 v3
        refine zV_iincN hX (b := 1) dX11_goesRound_103 rfl (by decide) ?_
        dsimp only [zst1, zst2, zclr, zc2]
        refine zV_goto hX (tgt := 12) dX11_goesRound_106 (by decide) ?_
        exact ih (m + 1) _ (by omega) (by omega)
      have L71 : m < n → ∀ (f9 e : Nat), n - e < f9 → e ≤ n → zV G X Q 4 0 0 71 [.ref (300 : Nat), .int (nI c), .int (nI m), .int (nI e)] [] (mEz m e (mEb c m (mEa c n m M))) := by
        intro c_17
        intro f9
        induction f9 with
        | zero => intro e he1 he2; exact absurd he1 (Nat.not_lt_zero _)
        | succ f9 ih2 =>
          intro e he1 he2
          have hZ := hA.tr ((mEb_E (c := c) (m := m) (mEa c n m M)).tr (mEz_E (m := m) (k := e) (by omega) _))
          refine zV_iload_n hX dX11_goesRound_71 rfl ?_
          refine zV_aload_n hX dX11_goesRound_72 rfl ?_
          refine zV_geti hX dX11_goesRound_73 zf_X11_20 zo300.1 rfl (hZ.at hn (by unfold mFrE; omega)) ?_
          refine zV_icmp_geN hX (tgt := 103) dX11_goesRound_76 (by decide) ⟨by omega, by omega⟩ (fun c_76 => ?_) (fun c_76 => ?_)
          · have hen : e = n := by omega
            refine zV_mem (show _ = mEa c n (m + 1) M by rw [hen]; rfl) (J103 c_17 _)
          · refine zV_aload_n hX dX11_goesRound_79 rfl ?_
            refine zV_geta hX dX11_goesRound_80 zf_X11_107 zo300.1 rfl ?_
            refine zV_iload_n hX dX11_goesRound_83 rfl ?_
            refine zV_aald hX dX11_goesRound_84 (t := 1) (zo300.a 51 rfl) (by decide) (rfl) ⟨by omega, by omega⟩ (mRow 51 (by decide)) ?_
            refine zV_iload_n hX dX11_goesRound_85 rfl ?_
            refine zV_iconst hX (v := nI 0) dX11_goesRound_86 (by decide) ?_
            refine zV_zast hX dX11_goesRound_87 (mSh51 (by omega)) (rfl) ⟨by omega, by omega⟩ (Or.inl rfl) ?_
            refine zV_aload_n hX dX11_goesRound_88 rfl ?_
            refine zV_geta hX dX11_goesRound_89 zf_X11_110 zo300.1 rfl ?_
            refine zV_iload_n hX dX11_goesRound_92 rfl ?_
            refine zV_aald hX dX11_goesRound_93 (t := 1) (zo300.a 52 rfl) (by decide) (rfl) ⟨by omega, by omega⟩ (mRow 52 (by decide)) ?_
            refine zV_iload_n hX dX11_goesRound_94 rfl ?_
            refine zV_iconst hX (v := nI 0) dX11_goesRound_95 (by decide) ?_
            refine zV_zast hX dX11_goesRound_96 (mSh52 (by omega)) (rfl) ⟨by omega, by omega⟩ (Or.inl rfl) ?_
            refine zV_iincN hX (b := 1) dX11_goesRound_97 rfl (by decide) ?_
            dsimp only [zst1, zst2, zclr, zc2]
            refine zV_goto hX (tgt := 71) dX11_goesRound_100 (by decide) ?_
            exact ih2 (e + 1) (by omega) (by omega)
      have J35 : m < n → ∀ v3 : Value, zV G X Q 4 0 0 35 [.ref (300 : Nat), .int (nI c), .int (nI m), v3] [.int (zb (decide (m = c))), .int (nI m), .ref (300 + 1 + 57)] (mEa c n m M) := by
        intro c_17 v3
        refine zV_zast hX dX11_goesRound_35 (zo300.a 57 rfl) (rfl) ⟨by omega, by omega⟩ (zb_01 _) ?_
        refine zV_aload_n hX dX11_goesRound_36 rfl ?_
        refine zV_geta hX dX11_goesRound_37 zf_X11_116 zo300.1 rfl ?_
        refine zV_iload_n hX dX11_goesRound_40 rfl ?_
        refine zV_aload_n hX dX11_goesRound_41 rfl ?_
        refine zV_geta hX dX11_goesRound_42 zf_X11_26 zo300.1 rfl ?_
        refine zV_iload_n hX dX11_goesRound_45 rfl ?_
        refine zV_iald hX (v := (mEa c n m M).1 (300 + 1 + 12) m) dX11_goesRound_46 (zo300.a 12 rfl) (rfl) ⟨by omega, by omega⟩ (by rw [zw_ne (by omega)]) ?_
        refine zV_iast hX dX11_goesRound_47 (zo300.a 54 rfl) (rfl) ⟨by omega, by omega⟩ ?_
        refine zV_aload_n hX dX11_goesRound_48 rfl ?_
        refine zV_geta hX dX11_goesRound_49 zf_X11_113 zo300.1 rfl ?_
        refine zV_iload_n hX dX11_goesRound_52 rfl ?_
        refine zV_iconst hX (v := nI 0) dX11_goesRound_53 (by decide) ?_
        refine zV_iast hX dX11_goesRound_54 (zo300.a 53 rfl) (rfl) ⟨by omega, by omega⟩ ?_
        refine zV_aload_n hX dX11_goesRound_55 rfl ?_
        refine zV_geta hX dX11_goesRound_56 zf_X11_119 zo300.1 rfl ?_
        refine zV_iload_n hX dX11_goesRound_59 rfl ?_
        refine zV_iconst hX (v := nI 0) dX11_goesRound_60 (by decide) ?_
        refine zV_iast hX dX11_goesRound_61 (zo300.a 55 rfl) (rfl) ⟨by omega, by omega⟩ ?_
        refine zV_aload_n hX dX11_goesRound_62 rfl ?_
        refine zV_geta hX dX11_goesRound_63 zf_X11_122 zo300.1 rfl ?_
        refine zV_iload_n hX dX11_goesRound_66 rfl ?_
        refine zV_iconst hX (v := nI 0) dX11_goesRound_67 (by decide) ?_
        refine zV_iast hX dX11_goesRound_68 (zo300.a 56 rfl) (rfl) ⟨by omega, by omega⟩ ?_
        refine zV_iconst hX (v := nI 0) dX11_goesRound_69 (by decide) ?_
        refine zV_istore_n hX dX11_goesRound_70 (by decide) ?_
        dsimp only [zst1, zst2, zclr, zc2]
        exact L71 c_17 (n + 1) 0 (by omega) (by omega)
      refine zV_iload_n hX dX11_goesRound_12 rfl ?_
      refine zV_aload_n hX dX11_goesRound_13 rfl ?_
      refine zV_geti hX dX11_goesRound_14 zf_X11_20 zo300.1 rfl (hA.at hn (by unfold mFrE; omega)) ?_
      refine zV_icmp_geN hX (tgt := 109) dX11_goesRound_17 (by decide) ⟨by omega, by omega⟩ (fun c_17 => ?_) (fun c_17 => ?_)
      · have hmn9 : m = n := by omega
        rw [hmn9]
        exact J109 _ _
      · refine zV_aload_n hX dX11_goesRound_20 rfl ?_
        refine zV_geta hX dX11_goesRound_21 zf_X11_125 zo300.1 rfl ?_
        refine zV_iload_n hX dX11_goesRound_24 rfl ?_
        refine zV_iload_n hX dX11_goesRound_25 rfl ?_
        refine zV_iload_n hX dX11_goesRound_26 rfl ?_
        refine zV_icmp_neN hX (tgt := 34) dX11_goesRound_27 (by decide) ⟨by omega, by omega⟩ (fun c_27 => ?_) (fun c_27 => ?_)
        · have e8 : zb (decide (m = c)) = nI 0 := by rw [decide_eq_false c_27]; rfl
          refine zV_iconst hX (v := nI 0) dX11_goesRound_34 (by decide) ?_
          refine zV_topi _ e8.symm ?_
          exact J35 c_17 _
        · have e8 : zb (decide (m = c)) = nI 1 := by rw [decide_eq_true c_27]; rfl
          refine zV_iconst hX (v := nI 1) dX11_goesRound_30 (by decide) ?_
          refine zV_goto hX (tgt := 35) dX11_goesRound_31 (by decide) ?_
          refine zV_topi _ e8.symm ?_
          exact J35 c_17 _
  refine zV_aload_n hX dX11_goesRound_0 rfl ?_
  refine zV_iconst hX (v := nI 0) dX11_goesRound_1 (by decide) ?_
  refine zV_puti hX dX11_goesRound_2 zf_X11_441 zp_9_47 zo300.1 rfl ?_
  refine zV_aload_n hX dX11_goesRound_5 rfl ?_
  refine zV_iconst hX (v := nI 0) dX11_goesRound_6 (by decide) ?_
  refine zV_puti hX dX11_goesRound_7 zf_X11_444 zp_9_48 zo300.1 rfl ?_
  refine zV_iconst hX (v := nI 0) dX11_goesRound_10 (by decide) ?_
  refine zV_istore_n hX dX11_goesRound_11 (by decide) ?_
  dsimp only [zst1, zst2, zclr, zc2]
  exact L12 (n + 1) 0 _ (by omega) (by omega)
