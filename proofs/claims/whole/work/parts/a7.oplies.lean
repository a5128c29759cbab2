section zLiG
variable {l : Launch} {G : zG} {rc e n k q a : Nat} {A A1 B B1 M W D : zM}
theorem uB4_f (he : k ≤ 300) (hn : 1 ≤ n ∧ n ≤ 7) (h9 : B.1 300 9 = nI n) : (∀ a j, a ≠ 1208 → a ≠ 1209 → (a < 3100 ∨ 3282 ≤ a) → (a ≠ 300 ∨ (8 ≤ j ∧ j ≠ 15)) → (uB4 k n B).1 a j = B.1 a j) ∧ (uB4 k n B).1 300 0 = nI 0 ∧ (uB4 k n B).1 300 2 = nI 0 ∧ (uB4 k n B).1 300 5 = (uB2 k n B).1 300 7 ∧ (uB4 k n B).2 = B.2 ∧ (∀ s, s < 7 → zN ((uB2 k n B).1 1209 s) ≤ 12) ∧ (∀ a j, 3100 ≤ a → a < 3191 → (uB2 k n B).1 a j = B.1 a j) := by
  have hK : zKf uFq (uB1 k B) (uB2 k n B) := uLo_F hn 301
  obtain ⟨c1, c2, c3, c4, c5, c6, c7⟩ := uB1_c (k := k) (M := B)
  have hc : ∀ s, s < 7 → zN ((uB2 k n B).1 1209 s) ≤ 12 := fun s hs => by
    have hiv : uIv k n (uB2 k n B) := uLo_iv he hn.1 hn.2 301 (uB1_iv he h9)
    rcases hiv.2 s hs with h | h
    · rw [h]
      exact (by decide : zN (-1) ≤ 12)
    · exact h.2
  have h3 : ∀ a j, ¬ (a = 300 ∧ j = 5) → (uB3 k n B).1 a j = (uB2 k n B).1 a j := fun a j h => zw_ne (by omega)
  have h4 : kCp (uB3 k n B) (uB4 k n B) := by
    unfold uB4
    split
    · exact uCm_k (fun s hs => by rw [h3 _ _ (by omega)]; exact hc s hs) 7 (Nat.le_refl 7)
    · exact zKf.rf
  refine ⟨fun a j e1 e2 e3 e4 => ?_, ?_, ?_, ?_, ?_, hc, fun a j e1 e2 => ?_⟩
  · rw [h4.1 a j (by unfold uFc; omega), h3 a j (by omega), hK.1 a j (by unfold uFq uFr; omega), c6 a j (by omega) e2]
  · rw [h4.1 _ _ (by unfold uFc; omega), h3 _ _ (by omega), hK.1 _ _ (by unfold uFq uFr; omega), c1]
  · rw [h4.1 _ _ (by unfold uFc; omega), h3 _ _ (by omega), hK.1 _ _ (by unfold uFq uFr; omega), c2]
  · rw [h4.1 _ _ (by unfold uFc; omega)]
    exact zw_same
  · rw [h4.2]
    exact hK.2.trans c7
  · rw [hK.1 a j (by unfold uFq uFr; omega), c6 a j (by omega) (by omega)]
theorem zIl_same2 {c n : Nat} {M M2 : zM} {cn : Nat → Nat} {lb : Nat → Bool} (h : zIl c n M cn lb) (hc : ∀ a k, c ≤ a → a ≤ c + 8 → M2.1 a k = M.1 a k) (h1 : ∀ k, M2.1 1208 k = M.1 1208 k) (h2 : ∀ a k, 3100 ≤ a → a < 3191 → M2.1 a k = M.1 a k) : zIl c n M2 cn lb := by
  obtain ⟨g1, g2, g3⟩ := h
  refine ⟨fun m hm => ?_, by rw [hc c 0 (by omega) (by omega)]; exact g2, fun m k hm hk => ?_⟩
  · rw [hc (c + 1 + 1) _ (by omega) (by omega), hc c 0 (by omega) (by omega), h1]
    exact g1 m hm
  · have hk12 : k < 12 := Nat.lt_of_lt_of_le hk (g1 m hm).2.1
    have hq : ∀ j, M2.1 (mLc m k) j = M.1 (mLc m k) j := fun j => h2 _ _ (by unfold mLc; omega) (by unfold mLc; omega)
    unfold zLie
    rw [hc (c + 1 + 2) _ (by omega) (by omega), hc (c + 1 + 3) _ (by omega) (by omega), hc (c + 1 + 4) _ (by omega) (by omega), hc (c + 1 + 5) _ (by omega) (by omega), hc (c + 1 + 6) _ (by omega) (by omega), hc (c + 1 + 7) _ (by omega) (by omega), hq, hq, hq, hq, hq, hq]
    exact g3 m k hm hk
theorem ls_begin (hy : lyR rc) (he : k ≤ 300) (hp : M.1 20 2 = nI rc) (h9 : W.1 300 9 = nI n) (ht : ∀ j, j < 300 → M.1 24 j = W.1 309 j ∧ ¬ W.1 309 j = -1) : rR rc k n (rBe rc k n M) (uB1 k W) ∧ rD rc n (rBe rc k n M) (uB1 k W) := by
  have hr := hy.2.1
  obtain ⟨c1, c2, c3, c4, c5, c6, c7⟩ := uB1_c (k := k) (M := W)
  obtain ⟨d1, d2, d3, d4, d5⟩ := rBe_0 (e := k) (n := n) (A := M) hy
  have hF := rBe_F (e := k) (n := n) (A := M) hy
  refine ⟨⟨rBe_st hy hp, (uB1_iv he h9).1, fun j hj => ?_, by rw [d3, c4], by rw [d2, c5], fun _ => ?_⟩, fun m hm => ?_, fun b h1 h2 => ?_⟩
  · rw [hF.1.1 24 j (by unfold rFr; omega), c6 309 j (by omega) (by omega)]
    exact ht j hj
  · unfold rA uA
    rw [d4, c3]
  · have e1 : (rBe rc k n M).1 (rc + 1 + 1) m = nI 0 := by
      unfold rBe
      exact lClear_k hm
    refine ⟨Or.inl ⟨mEmp_at 1 _ hm, e1, ?_⟩, fun k' hk' => ?_⟩
    · rw [d5]
      exact bt_0 m
    · unfold lyK at hk'
      rw [e1] at hk'
      exact absurd hk' (by rw [zN_nI (by decide)]; exact Nat.not_lt_zero _)
  · rw [d5]
    exact bt_0 b
set_option maxHeartbeats 2000000 in
theorem op_lies (hst : l.stackTraces = false) (hI : zInv M) (v1 : Int32) : opI l G zInv yL_lies cL_lies 4 [(0, 9, 12, 13)] yX11_lies cX11_lies 5 [.int v1] M := by
  obtain ⟨hg, hc, hr, hp, hv, ht⟩ := id hI
  have hk := hI.keeps
  obtain ⟨n, t, a1, a2, a3, a4, a5, a6, a7, a8⟩ := id hg
  obtain ⟨lc, lt, rc, n2, cn, lb, p1, p2, p3, p4, p5, p6, p7, p8, p9, q1, q2, q3, q4, q5⟩ := hp
  obtain ⟨s, r1, r2, r3, r4, r5⟩ := hr
  have en : n = n2 := nI_inj (by omega) (by omega) (a3.symm.trans q3)
  subst en
  cases hw : mIn v1 (nI 0) (nI s) with
  | false => exact opI_ba hg hc hk (by decide) (by decide) (zh_liesI l G M (mBa M) v1 (zf_liesK l G M hst s v1 r2 r1 hw)) (d := 9) (by decide) (zc_mlies0 l G (mBa M) s v1 ((zw_ne (by omega)).trans r3) r1 hw)
  | true =>
    obtain ⟨k, -, hks, rfl⟩ := mIn_ex hw (by decide) (by omega)
    have hn : 1 ≤ n ∧ n ≤ 7 := ⟨by omega, a1.2⟩
    have hlc : 180 ≤ lc ∧ lc ≤ 200 := by unfold lyL at p1; omega
    have hrc : 180 ≤ rc ∧ rc ≤ 200 ∧ (lc + 10 ≤ rc ∨ rc + 10 ≤ lc) := by unfold lyL at p1 p3; omega
    have hy : lyR rc := ⟨p3.o, by omega, by omega⟩
    have he : k ≤ 300 := by omega
    obtain ⟨hF, hV⟩ := rRead_F (e := k) (n := n) (A := M) hy he hn p9
    have h20 : (rRead rc k n M).1 20 0 = nI 0 := (rLo_0 hy he hn 301 (rBe_st hy p9)).trans (rBe_0 hy).1
    -- what both come to, whatever the class leaves behind
    have both : ∀ W : zM, W.1 300 9 = nI n → (∀ j, W.1 309 j = M.1 309 j) → rR rc k n (rRead rc k n M) (uB2 k n W) ∧ ((rRead rc k n M).1 20 7 = 0 → rD rc n (rRead rc k n M) (uB2 k n W)) := fun W h9 h3 => by
      obtain ⟨b1, b2⟩ := ls_begin (rc := rc) (n := n) (k := k) hy he p9 h9 (fun j hj => by rw [h3]; exact r5 j hj)
      exact ls_Lo hy he hn 301 b1 (fun _ => b2)
    have hZ1 := @zf_lies1 l G M lc rc n s k a3 a1 p7 p1 p9 p3 r2 r1 hks
    have hZ0 := @zf_lies0 l G M lc rc n s k a3 a1 p7 p1 p9 p3 r2 r1 hks
    obtain ⟨R, hR⟩ : ∃ R, R = rRead rc k n M := ⟨_, rfl⟩
    rw [← hR] at hF hV h20 both hZ1 hZ0
    -- what the two memories have in common
    have fin : ∀ (V : Int32) (M1 : zM), zC l G 9 yX10_lies cX10_lies 4 (Option.some Jvm.ClassFile.FieldType.int) [.ref (0 : Nat), .int (nI k)] M (zP (some (.int V)) M1) → (∀ a j, ¬ (a = 40 ∧ j = 3) → ¬ (a = 20 ∧ j = 2) → M1.1 a j = R.1 a j) → uB5 k n (zwL M1 220 0 V.toInt64) = V → zIp (uB4 k n (zwL M1 220 0 V.toInt64)) → mlV (uB4 k n (zwL M1 220 0 V.toInt64)) → opI l G zInv yL_lies cL_lies 4 [(0, 9, 12, 13)] yX11_lies cX11_lies 5 [.int (nI k)] M := fun V M1 hC hM1 h5 hp' hv' => by
      have hG : ∀ a j, ¬ (a = 40 ∧ j = 3) → a ≠ 20 → ¬ (rc ≤ a ∧ a ≤ rc + 8) → (zwL M1 220 0 V.toInt64).1 a j = M.1 a j := fun a j e1 e2 e3 => by
        rw [zwL_1, hM1 a j e1 (by omega)]
        exact hF.1 _ _ (by unfold rFr; omega)
      have hW9 : (zwL M1 220 0 V.toInt64).1 300 9 = nI n := (hG _ _ (by omega) (by omega) (by omega)).trans a4
      have h2 := zc_mlies1 l G (zwL M1 220 0 V.toInt64) s k n ((hG _ _ (by omega) (by omega) (by omega)).trans r3) r1 hks hW9 hn.1 hn.2
      rw [h5] at h2
      obtain ⟨g1, g2⟩ := both (zwL M1 220 0 V.toInt64) hW9 (fun j => hG _ _ (by omega) (by omega) (by omega))
      obtain ⟨f1, f2, f3, f4, f5, f6, f7⟩ := uB4_f (B := zwL M1 220 0 V.toInt64) he hn hW9
      have h20' : ∀ j, ¬ j = 2 → (zwL M1 220 0 V.toInt64).1 20 j = R.1 20 j := fun j hj => by rw [zwL_1]; exact hM1 _ _ (by omega) (by omega)
      have h22 : (zwL M1 220 0 V.toInt64).2 220 0 = V.toInt64 := zwL_22 (M := M1)
      generalize hW : zwL M1 220 0 V.toInt64 = W at *
      have G9 : ∀ a j, ¬ (a = 40 ∧ j = 3) → a ≠ 20 → ¬ (rc ≤ a ∧ a ≤ rc + 8) → a ≠ 1208 → a ≠ 1209 → (a < 3100 ∨ 3282 ≤ a) → (a ≠ 300 ∨ (8 ≤ j ∧ j ≠ 15)) → (uB4 k n W).1 a j = M.1 a j := fun a j e1 e2 e3 e4 e5 e6 e7 => (f1 a j e4 e5 e6 e7).trans (hG a j e1 e2 e3)
      refine ⟨0, 9, 0, 0, V, _, _, by decide, by decide, by decide, by decide, zh_lies l G M _ (nI k) _ hC, ?_, f2, fun _ => by rw [f5]; exact h22, ?_, ⟨?_, ?_⟩, ⟨0, by omega, ?_, f3, ?_, fun j hj => ?_⟩, hp', hv', ?_⟩
      · rw [hW]
        exact zCk.of h2
      · exact zIg_same hg (G9 _ _ (by omega) (by omega) (by omega) (by omega) (by omega) (by omega) (by omega)) (G9 _ _ (by omega) (by omega) (by omega) (by omega) (by omega) (by omega) (by omega)) (G9 _ _ (by omega) (by omega) (by omega) (by omega) (by omega) (by omega) (by omega)) (G9 _ _ (by omega) (by omega) (by omega) (by omega) (by omega) (by omega) (by omega)) (G9 _ _ (by omega) (by omega) (by omega) (by omega) (by omega) (by omega) (by omega)) (G9 _ _ (by omega) (by omega) (by omega) (by omega) (by omega) (by omega) (by omega)) (fun j => ⟨G9 _ _ (by omega) (by omega) (by omega) (by omega) (by omega) (by omega) (by omega), G9 _ _ (by omega) (by omega) (by omega) (by omega) (by omega) (by omega) (by omega)⟩)
      · rw [G9 _ _ (by omega) (by omega) (by omega) (by omega) (by omega) (by omega) (by omega), G9 _ _ (by omega) (by omega) (by omega) (by omega) (by omega) (by omega) (by omega)]; exact hc.1
      · rw [G9 _ _ (by omega) (by omega) (by omega) (by omega) (by omega) (by omega) (by omega), G9 _ _ (by omega) (by omega) (by omega) (by omega) (by omega) (by omega) (by omega)]; exact hc.2
      · rw [f1 _ _ (by omega) (by omega) (by omega) (by omega), h20' _ (by omega)]; exact h20
      · rw [f1 20 _ (by omega) (by omega) (by omega) (by omega), h20' _ (by omega), f4]; exact g1.2.2.2.2.1
      · rw [G9 24 _ (by omega) (by omega) (by omega) (by omega) (by omega) (by omega) (by omega), G9 309 _ (by omega) (by omega) (by omega) (by omega) (by omega) (by omega) (by omega)]; exact r5 j hj
      · rcases ht with h | h
        · exact Or.inl (zIt0_same h (fun a k h1 h2 => G9 _ _ (by omega) (by omega) (by omega) (by omega) (by omega) (by omega) (by omega)) (fun k h1 h2 => G9 _ _ (by omega) (by omega) (by omega) (by omega) (by omega) (by omega) (by omega)))
        · exact Or.inr (zIt1_same h (fun a k h => by unfold zKt at h; exact G9 _ _ (by omega) (by omega) (by omega) (by omega) (by omega) (by omega) (by omega)))
    have h3 : ∀ (W : zM) a j, ¬ (a = 300 ∧ j = 5) → (uB3 k n W).1 a j = (uB2 k n W).1 a j := fun W a j h => zw_ne (by omega)
    by_cases z : R.1 20 7 = 0
    · have hM1 : ∀ a j, ¬ (a = 40 ∧ j = 3) → ¬ (a = 20 ∧ j = 2) → (zw (zw R 40 3 (nI rc)) 20 2 (nI lc)).1 a j = R.1 a j := fun a j e1 e2 => by rw [zw_ne (by omega), zw_ne (by omega)]
      refine fin (zpop (R.1 rc 0)) _ (hZ1 z) hM1 ?_ ?_ ?_ <;> clear fin hZ1 hZ0
      all_goals
        obtain ⟨W, hW⟩ : ∃ W, W = zwL (zw (zw R 40 3 (nI rc)) 20 2 (nI lc)) 220 0 (zpop (R.1 rc 0)).toInt64 := ⟨_, rfl⟩
        rw [← hW]
        have hWR : ∀ a j, ¬ (a = 40 ∧ j = 3) → ¬ (a = 20 ∧ j = 2) → W.1 a j = R.1 a j := fun a j e1 e2 => by rw [hW, zwL_1]; exact hM1 a j e1 e2
        have hG : ∀ a j, ¬ (a = 40 ∧ j = 3) → a ≠ 20 → ¬ (rc ≤ a ∧ a ≤ rc + 8) → W.1 a j = M.1 a j := fun a j e1 e2 e3 => by
          rw [hWR a j e1 (by omega)]
          exact hF.1 _ _ (by unfold rFr; omega)
        have hW9 : W.1 300 9 = nI n := (hG _ _ (by omega) (by omega) (by omega)).trans a4
        have hW40 : W.1 40 3 = nI rc := by rw [hW, zwL_1, zw_ne (by omega), zw_same]
        have hW20 : W.1 20 2 = nI lc := by rw [hW, zwL_1, zw_same]
        clear hW
        obtain ⟨g1, g2⟩ := both W hW9 (fun j => hG _ _ (by omega) (by omega) (by omega))
        have hD := g2 z
        obtain ⟨f1, f2, f3, f4, f5, f6, f7⟩ := uB4_f (B := W) he hn hW9
        have hU : (uB3 k n W).1 300 6 = 0 := (h3 W _ _ (by omega)).trans (g1.b0 z)
        have e4 : uB4 k n W = uCm 7 (uB3 k n W) := if_pos hU
        obtain ⟨m1, m2⟩ := uCm_at (M := uB3 k n W) (fun s hs => by rw [h3 W _ _ (by omega)]; exact f6 s hs) 7 (Nat.le_refl 7)
        rw [← e4] at m1 m2
        have hC : lyC rc R := g1.1.2.2.2.2.2
        have hzN : ∀ m, m < 7 → zN ((uB3 k n W).1 1209 m) = lyK rc m R := fun m hm => by
          rw [h3 W _ _ (by omega)]
          unfold lyK
          rcases (hD.1 m hm).1 with ⟨x1, x2, x3⟩ | ⟨x1, x2, x3⟩
          · rw [x1, x2]; decide
          · rw [x2]
        have hD8 : ∀ m, m < 7 → (uB4 k n W).1 1208 m = (uB2 k n W).1 1209 m := fun m hm => by rw [m1 m hm, if_pos hm, h3 W _ _ (by omega)]
        have hDL : ∀ m i j, m < 7 → i < lyK rc m R → j < 6 → (uB4 k n W).1 (mLc m i) j = (uB2 k n W).1 (uCl m i) j := fun m i j hm hi hj => by
          have h12 := (hC m hm).2
          rw [m2 m i j hm (by unfold lyK at hi; omega), if_pos ⟨hm, by rw [hzN m hm]; exact hi, hj⟩, h3 W _ _ (by unfold uCl; omega)]
        have hDA : ∀ b i, rc ≤ b → b ≤ rc + 8 → (uB4 k n W).1 b i = R.1 b i := fun b i e1 e2 => (f1 b i (by omega) (by omega) (by omega) (by omega)).trans (hWR b i (by omega) (by omega))
        have hIl := zIl_read (cn := fun m => lyK rc m R) (lb := fun m => !decide ((uB2 k n W).1 1209 m = -1)) (fun _ => rfl) (fun _ => rfl) hC hn.2 hD hDA hD8 hDL
      · have e5 : uB5 k n W = nI (zcnt (fun m => mLiar (uB4 k n W) m) n) := if_pos hU
        rw [e5, zpop_cnt hD.2]
        congr 1
        have hbit : ∀ m, m < 7 → bit (R.1 rc 0) m = !decide ((uB2 k n W).1 1209 m = -1) := fun m hm => by
          rw [← hDA rc 0 (by omega) (by omega)]
          exact (hIl.1 m hm).2.2.2.2.2
        have key := zcnt_ext (p := fun i => bit (R.1 rc 0) i) (q := fun m => mLiar (uB4 k n W) m) (n := n) (fun i hi => by
          rw [hbit i (by omega)]
          unfold mLiar
          rw [hD8 i (by omega)]) (7 - n) (fun i h1 h2 => by
          rw [hbit i (by omega)]
          exact (hIl.1 i (by omega)).2.2.2.1 h1)
        rw [show n + (7 - n) = 7 by omega] at key
        exact key.symm
      · refine ⟨rc, lt, lc, n, _, _, p3, p2, p1, p6.symm, p5.symm, p4.symm, ?_, ?_, ?_, fun a ha => ?_, fun a ha => ?_, ?_, hn.2, hIl⟩
        · rw [f1 _ _ (by omega) (by omega) (by omega) (by omega)]; exact hW40
        · rw [f1 _ _ (by omega) (by omega) (by omega) (by omega), hG _ _ (by omega) (by omega) (by omega)]; exact p8
        · rw [f1 _ _ (by omega) (by omega) (by omega) (by omega)]; exact hW20
        · rw [hDA _ _ (by omega) (by omega), hDA _ _ (by omega) (by omega)]; exact hV q2 a ha
        · rw [f1 _ _ (by omega) (by omega) (by omega) (by omega), f1 _ _ (by omega) (by omega) (by omega) (by omega), hG _ _ (by omega) (by omega) (by omega), hG _ _ (by omega) (by omega) (by omega)]; exact q1 a ha
        · rw [f1 _ _ (by omega) (by omega) (by omega) (by omega), hG _ _ (by omega) (by omega) (by omega)]; exact a3
      · intro s i hs hi
        by_cases hlt : i < lyK rc s R
        · rw [hDL s i 4 hs hlt (by decide), hDL s i 5 hs hlt (by decide)]
          exact ((hD.1 s hs).2 i hlt).2.2.2.2.2.2
        · have hold : ∀ j, (uB4 k n W).1 (mLc s i) j = M.1 (mLc s i) j := fun j => by
            rw [m2 s i j hs hi, if_neg (fun w => hlt (by rw [← hzN s hs]; exact w.2.1)), h3 W _ _ (by unfold mLc; omega), f7 _ _ (by unfold mLc; omega) (by unfold mLc; omega), hG _ _ (by unfold mLc; omega) (by unfold mLc; omega) (by unfold mLc; omega)]
          rw [hold, hold]
          exact hv s i hs hi
    · refine fin (R.1 20 7 - nI 10) R (hZ0 z) (fun _ _ _ _ => rfl) ?_ ?_ ?_ <;> clear fin hZ1 hZ0
      all_goals
        obtain ⟨W, hW⟩ : ∃ W, W = zwL R 220 0 (R.1 20 7 - nI 10).toInt64 := ⟨_, rfl⟩
        rw [← hW]
        have hWR : ∀ a j, W.1 a j = R.1 a j := fun a j => by rw [hW, zwL_1]
        have hG : ∀ a j, a ≠ 20 → ¬ (rc ≤ a ∧ a ≤ rc + 8) → W.1 a j = M.1 a j := fun a j e2 e3 => by
          rw [hWR a j]
          exact hF.1 _ _ (by unfold rFr; omega)
        have hW9 : W.1 300 9 = nI n := (hG _ _ (by omega) (by omega)).trans a4
        have hW20 : W.1 20 2 = nI rc := by rw [hWR, hF.1 20 2 (by unfold rFr; omega)]; exact p9
        clear hW
        obtain ⟨g1, g2⟩ := both W hW9 (fun j => hG _ _ (by omega) (by omega))
        obtain ⟨f1, f2, f3, f4, f5, f6, f7⟩ := uB4_f (B := W) he hn hW9
        have hU : ¬ (uB3 k n W).1 300 6 = 0 := fun w => z (g1.2.2.2.1.trans ((h3 W _ _ (by omega)).symm.trans w))
        have e4 : uB4 k n W = uB3 k n W := if_neg hU
        have hL : ∀ a j, 3100 ≤ a → a < 3191 → (uB4 k n W).1 a j = M.1 a j := fun a j e1 e2 => by
          rw [e4, h3 W _ _ (by omega), f7 a j e1 e2, hG _ _ (by omega) (by omega)]
      · have e5 : uB5 k n W = (uB3 k n W).1 300 6 - nI 10 := if_neg hU
        rw [e5, h3 W _ _ (by omega), ← g1.2.2.2.1]
      · have h8 : ∀ j, (uB4 k n W).1 1208 j = M.1 1208 j := fun j => by
          have hK : zKf uFq (uB1 k W) (uB2 k n W) := uLo_F hn 301
          rw [e4, h3 W _ _ (by omega), hK.1 _ _ (by unfold uFq uFr; omega), (uB1_c (k := k) (M := W)).2.2.2.2.2.1 _ _ (by omega) (by omega), hG _ _ (by omega) (by omega)]
        refine ⟨lc, lt, rc, n, cn, lb, p1, p2, p3, p4, p5, p6, ?_, ?_, ?_, fun a ha => ?_, fun a ha => ?_, ?_, hn.2, zIl_same2 q5 (fun a j e1 e2 => ?_) h8 hL⟩
        · rw [f1 _ _ (by omega) (by omega) (by omega) (by omega), hG _ _ (by omega) (by omega)]; exact p7
        · rw [f1 _ _ (by omega) (by omega) (by omega) (by omega), hG _ _ (by omega) (by omega)]; exact p8
        · rw [f1 _ _ (by omega) (by omega) (by omega) (by omega)]; exact hW20
        · rw [f1 _ _ (by omega) (by omega) (by omega) (by omega), f1 _ _ (by omega) (by omega) (by omega) (by omega), hG _ _ (by omega) (by omega), hG _ _ (by omega) (by omega)]; exact q1 a ha
        · rw [f1 _ _ (by omega) (by omega) (by omega) (by omega), f1 _ _ (by omega) (by omega) (by omega) (by omega), hWR, hWR]; exact hV q2 a ha
        · rw [f1 _ _ (by omega) (by omega) (by omega) (by omega), hG _ _ (by omega) (by omega)]; exact a3
        · rw [f1 _ _ (by omega) (by omega) (by omega) (by omega), hG _ _ (by omega) (by omega)]
      · intro s i hs hi
        rw [hL _ _ (by unfold mLc; omega) (by unfold mLc; omega), hL _ _ (by unfold mLc; omega) (by unfold mLc; omega)]
        exact hv s i hs hi
end zLiG
