section zOrd2
variable {l : Launch} {G : zG} {I : zM → Prop} {M : zM} {n c t lc : Nat} {cn : Nat → Nat} {mn : Nat → Option Nat} {lb : Nat → Bool}
theorem opI_baK {d mc ms nLL nLM : Nat} {yL yM : MethodName} {cL cM : ByteArray} {hh : List (Nat × Nat × Nat × Nat)} {av : List Value} (hg : zIg M) (hc : zIc M) (hk : zKeeps I M) {k : Nat} {b : Int32} (hk3 : k < 3) (hk0 : k ≠ 0) (h1 : zCw l G 10 1 6 yL cL nLL (some .int) hh (.ref (0 : Nat) :: av ++ [.ref (220 : Nat)]) M (zP (some (.int (nI k))) (mBa M))) (hd : d < 20) (hmc : mc ≤ 14) (hms : ms ≤ 84) (h2 : zCk l G d mc ms yM cM nLM (some .int) (.ref (300 : Nat) :: av) (mBa M) (zP (some (.int b)) (mTw (nI k) (nI 1) (mBa M)))) : opI l G I yL cL nLL hh yM cM nLM av M := by
  obtain ⟨b1, b2, b3, b4⟩ := zI_ba (w := nI k) hg hc
  exact ⟨k, d, mc, ms, b, _, _, hk3, hd, hmc, hms, h1, h2, b4, fun e => absurd e hk0, hk _ b1 b2 b3⟩
theorem opI_bsK {d mc ms nLL nLM : Nat} {yL yM : MethodName} {cL cM : ByteArray} {hh : List (Nat × Nat × Nat × Nat)} {av : List Value} (hg : zIg M) (hc : zIc M) (hk : zKeeps I M) {k : Nat} {b : Int32} (hk3 : k < 3) (hk0 : k ≠ 0) (h1 : zCw l G 10 1 6 yL cL nLL (some .int) hh (.ref (0 : Nat) :: av ++ [.ref (220 : Nat)]) M (zP (some (.int (nI k))) (mBs M))) (hd : d < 20) (hmc : mc ≤ 14) (hms : ms ≤ 84) (h2 : zCk l G d mc ms yM cM nLM (some .int) (.ref (300 : Nat) :: av) (mBs M) (zP (some (.int b)) (mTw (nI k) (nI 0) (mBs M)))) : opI l G I yL cL nLL hh yM cM nLM av M := by
  obtain ⟨b1, b2, b3, b4⟩ := zI_bs (w := nI k) hg hc
  exact ⟨k, d, mc, ms, b, _, _, hk3, hd, hmc, hms, h1, h2, b4, fun e => absurd e hk0, hk _ b1 b2 b3⟩
/-- what the plays in thought begin with -/
theorem ordS (hP : zPl M lc n t cn lb) {B : zM} (hB : ∀ a j, (a = 40 ∨ a = 45 ∨ (180 ≤ a ∧ a ≤ 208) ∨ (a = 300 ∧ j = 11) ∨ a = 313 ∨ a = 1208 ∨ 3100 ≤ a) → B.1 a j = M.1 a j) : zS lc cn (zMn cn lb) lb M B ∧ (∀ j, j < 7 → M.1 45 j = B.1 313 j) := by
  obtain ⟨a1, a2, a3, a4, a5, a6, a7, a8, a9, b1, b2, b3, b4⟩ := hP
  exact ⟨(zIl_S b4 a8).keep (fun _ _ _ _ => rfl) rfl (fun c i h => hB _ _ (by omega)) (hB _ _ (by omega)), fun j hj => by rw [hB _ _ (by omega)]; exact (a9 j hj).1⟩
theorem orDone_agr {A D : zM} (hn : 3 ≤ n ∧ n ≤ 7) (h : orDone 90 lc n c t cn mn A D) : decide (zunl (A.1 (90 + 1 + 16)) (A.1 90 10) n ≤ 1) = mAgr D n c t := by
  obtain ⟨-, -, d3, -, -, d6⟩ := h
  rw [zunl_le1]
  unfold mAgr
  refine zcom_congr n (fun i hi => ?_) (fun i hi _ => d3 i hi)
  unfold mAq mTrue
  rw [d6 i hi]
  simp
theorem op_order (hst : l.stackTraces = false) (hI : zInv M) (v1 v2 : Int32) : opI l G zInv yL_order cL_order 5 [(0, 10, 13, 19)] yX11_order cX11_order 3 [.int v1, .int v2] M := by
  obtain ⟨hg, hc, -, hp, -, -⟩ := id hI
  have hk := hI.keeps
  obtain ⟨lc, n, t, cn, lb, hP⟩ := zPl_of hg hp
  obtain ⟨a1, a2, a3, a4, a5, a6, a7, a8, a9, b1, b2, b3, b4⟩ := id hP
  have hl : 180 ≤ lc ∧ lc ≤ 200 := by unfold lyL at a3; omega
  cases hm : zmem v1 n with
  | false => exact opI_bsK hg hc hk (by decide) (by decide) (zh_orderS l G M (mBs M) v1 v2 (zf_orderX l G M hst n v1 v2 a4 a1.2 hm)) (d := 7) (mc := 2) (ms := 12) (by decide) (by decide) (by decide) (zc_morderX l G (mBs M) n v1 v2 (by simp [mBs, zw_at, a5]) a1.2 (by omega) hm)
  | true =>
    obtain ⟨j, hj, rfl⟩ := zmem_ex hm (by omega)
    cases hm2 : zmem v2 n with
    | false => exact opI_bsK hg hc hk (by decide) (by decide) (zh_orderS l G M (mBs M) (nI j) v2 (zf_orderZ l G M hst n j v2 a4 a1.2 hj hm2)) (d := 7) (mc := 2) (ms := 12) (by decide) (by decide) (by decide) (zc_morderZ l G (mBs M) n j v2 (by simp [mBs, zw_at, a5]) a1.2 (by omega) hj hm2)
    | true =>
      obtain ⟨i, hi, rfl⟩ := zmem_ex hm2 (by omega)
      have hC := zf_order l G M lc n t cn j i a4 a1.2 a6 a2 b1 a3 b2 hj hi
      obtain ⟨R, hR⟩ : ∃ R, R = oPlay 90 40 lc n t i cn M := ⟨_, rfl⟩
      have hcl : ∀ a k, a < 90 ∨ 110 < a → R.1 a k = M.1 a k := fun a k h => by rw [hR]; exact oPlay_out 90 lc n t i cn M a k (by omega)
      rw [← hR] at hC
      obtain ⟨V, hV⟩ : ∃ V, V = R.1 107 j := ⟨_, rfl⟩
      rw [← hV] at hC
      have h2 := zc_morder l G (zwL R 220 0 V.toInt64) n t j i (zMn cn lb) (by rw [zwL_1, hcl _ _ (by omega)]; exact a5) a1.2 (by omega) (by rw [zwL_1, hcl _ _ (by omega)]; exact a7) a2 (by omega) (zIl_ln b4 (fun i => by rw [zwL_1]; exact hcl _ _ (by omega))) hj hi
      obtain ⟨B, hB⟩ : ∃ B, B = m0 (zwL R 220 0 V.toInt64) := ⟨_, rfl⟩
      rw [← hB] at h2
      have hBM : ∀ a k, ¬ (a = 300 ∧ k = 0) → (a < 90 ∨ 110 < a) → B.1 a k = M.1 a k := fun a k h1 h3 => by rw [hB]; exact (m0W h1).trans (hcl a k h3)
      obtain ⟨s1, s2⟩ := ordS hP (B := B) (fun a k h => hBM a k (by omega) (by omega))
      have p1 := ordPlay (t := t) a1 hi a2 hl s1 s2
      have h107 : (oPlay 90 40 lc n t i cn M).1 107 j = mDec (mOg i n t (zMn cn lb) B) n i (t + 1) j := p1.2.2.1 j hj
      rw [← hR, ← hV] at h107
      rw [← h107] at h2
      have hO := mOrd_O (c := i) (n := n) (by omega) a1.2 t (zMn cn lb) B
      have hbk := mOrd_back (c := i) (n := n) (t := t) (mn := zMn cn lb) (by omega) a1.2 B
      obtain ⟨D, hD⟩ : ∃ D, D = mOrd i n t (zMn cn lb) B := ⟨_, rfl⟩
      rw [← hD] at h2 hO hbk
      refine ⟨0, 7, 2, 12, V, _, _, by decide, by decide, by decide, by decide, zh_order l G M _ (nI j) (nI i) _ hC, h2, ?_, fun _ => ?_, hI.back ((zBk.rf (fun a k h => hBM a k (by omega) (by omega))).tr hbk) (fun a k h => ?_)⟩
      · rw [hO.1 _ _ (by unfold mFrO; omega), hB]; exact zw_same
      · rw [hO.2, hB]; exact zwL_22 (M := R)
      · rw [hO.1 _ _ (by unfold mFrO; omega)]; exact hBM a k (by omega) (by omega)
theorem i32_beq (a b : Int32) : (a == b) = decide (a = b) := by
  rw [Bool.eq_iff_iff, beq_iff_eq, decide_eq_true_eq]
theorem mMo_zfm {row : Nat → Int32} {D : zM} (hr : ∀ i, i < n → row i = D.1 331 i) : ∀ k, k ≤ n → (mMo D n k).2 = (zfm (fun p => zcnt (fun q => row q == row p) n) k).2 ∧ (0 < k → (mMo D n k).1 = row (zfm (fun p => zcnt (fun q => row q == row p) n) k).1)
  | 0, _ => ⟨rfl, fun h => absurd h (Nat.lt_irrefl 0)⟩
  | k + 1, hk => by
    obtain ⟨h1, h2⟩ := mMo_zfm hr k (by omega)
    have hs : mSam D n k = zcnt (fun q => row q == row k) n := by
      unfold mSam
      refine zcnt_congr n (fun q hq => ?_)
      rw [hr q hq, hr k (by omega)]
      exact (i32_beq _ _).symm
    show ((if (mMo D n k).2 < mSam D n k then (D.1 331 k, mSam D n k) else mMo D n k).2 = (if (zfm (fun p => zcnt (fun q => row q == row p) n) k).2 < zcnt (fun q => row q == row k) n then (k, zcnt (fun q => row q == row k) n) else zfm (fun p => zcnt (fun q => row q == row p) n) k).2) ∧ (0 < k + 1 → (if (mMo D n k).2 < mSam D n k then (D.1 331 k, mSam D n k) else mMo D n k).1 = row (if (zfm (fun p => zcnt (fun q => row q == row p) n) k).2 < zcnt (fun q => row q == row k) n then (k, zcnt (fun q => row q == row k) n) else zfm (fun p => zcnt (fun q => row q == row p) n) k).1)
    rw [h1, hs]
    by_cases e : (zfm (fun p => zcnt (fun q => row q == row p) n) k).2 < zcnt (fun q => row q == row k) n
    · rw [if_pos e, if_pos e]
      exact ⟨rfl, fun _ => (hr k (by omega)).symm⟩
    · rw [if_neg e, if_neg e]
      refine ⟨h1, fun _ => h2 ?_⟩
      rcases Nat.eq_zero_or_pos k with e0 | e0
      · subst e0
        exact absurd (zcnt_pos (p := fun q => row q == row 0) (m := 0) (by simp) n (by omega)) e
      · exact e0
theorem op_most (hst : l.stackTraces = false) (hI : zInv M) (v1 v2 : Int32) : opI l G zInv yL_most cL_most 5 [(0, 10, 13, 19), (0, 10, 17, 13)] yX11_most cX11_most 8 [.int v1, .int v2] M := by
  obtain ⟨hg, hc, -, hp, -, -⟩ := id hI
  have hk := hI.keeps
  obtain ⟨lc, n, t, cn, lb, hP⟩ := zPl_of hg hp
  obtain ⟨a1, a2, a3, a4, a5, a6, a7, a8, a9, b1, b2, b3, b4⟩ := id hP
  have hl : 180 ≤ lc ∧ lc ≤ 200 := by unfold lyL at a3; omega
  cases hm : zmem v1 n with
  | false => exact opI_bsK hg hc hk (by decide) (by decide) (zh_mostS l G M (mBs M) v1 v2 (zf_mostX l G M hst n v1 v2 a4 a1.2 hm)) (d := 7) (mc := 14) (ms := 84) (by decide) (by decide) (by decide) (zc_mmostX l G (mBs M) n v1 v2 (by simp [mBs, zw_at, a5]) a1.2 (by omega) hm)
  | true =>
    obtain ⟨j, hj, rfl⟩ := zmem_ex hm (by omega)
    cases hw : mIn v2 (nI 0) (nI 1) with
    | false => exact opI_baK hg hc hk (by decide) (by decide) (zh_mostI l G M (mBa M) (nI j) v2 (zf_mostK l G M hst n j v2 a4 a1.2 hj hw)) (d := 7) (mc := 14) (ms := 84) (by decide) (by decide) (by decide) (zc_mmostK l G (mBa M) n j v2 (by simp [mBa, zw_at, a5]) a1.2 (by omega) hj hw)
    | true =>
      obtain ⟨k, -, hk9, rfl⟩ := mIn_ex hw (by decide) (by decide)
      have hC := zf_most l G M lc n t cn j k a4 a1.2 a6 a2 b1 a3 b2 hj (by omega)
      have hcl : ∀ e a i, ¬ (a = 10 ∨ (90 ≤ a ∧ a ≤ 110)) → (fMo lc n t j cn e M).1 a i = M.1 a i := fun e a i h => fMo_out lc n t j e cn M a i h
      obtain ⟨R, hR⟩ : ∃ R, R = fMo lc n t j cn n M := ⟨_, rfl⟩
      rw [← hR] at hC
      obtain ⟨V, hV⟩ : ∃ V, V = (if k = 0 then R.1 10 (zfm (fun p => zcnt (fun q => R.1 10 q == R.1 10 p) n) n).1 else nI (zcnt (fun q => R.1 10 (q + 0) == R.1 10 (zfm (fun p => zcnt (fun q => R.1 10 q == R.1 10 p) n) n).1) n)) := ⟨_, rfl⟩
      rw [← hV] at hC
      have hcR : ∀ a i, ¬ (a = 10 ∨ (90 ≤ a ∧ a ≤ 110)) → R.1 a i = M.1 a i := fun a i h => by rw [hR]; exact hcl n a i h
      have h2 := zc_mmost l G (zwL R 220 0 V.toInt64) n t j k (zMn cn lb) (by rw [zwL_1, hcR _ _ (by omega)]; exact a5) a1.2 (by omega) (by rw [zwL_1, hcR _ _ (by omega)]; exact a7) a2 (by omega) (zIl_ln b4 (fun i => by rw [zwL_1]; exact hcR _ _ (by omega))) hj (by omega)
      obtain ⟨B, hB⟩ : ∃ B, B = m0 (zwL R 220 0 V.toInt64) := ⟨_, rfl⟩
      rw [← hB] at h2
      have hBM : ∀ a i, ¬ (a = 300 ∧ i = 0) → ¬ (a = 10 ∨ (90 ≤ a ∧ a ≤ 110)) → B.1 a i = M.1 a i := fun a i h1 h3 => by rw [hB]; exact (m0W h1).trans (hcR a i h3)
      obtain ⟨s1, s2⟩ := ordS hP (B := B) (fun a i h => hBM a i (by omega) (by omega))
      have key := zfor_pair (R := fun e A2 B2 => (∀ a i, ¬ (a = 10 ∨ (90 ≤ a ∧ a ≤ 110)) → A2.1 a i = M.1 a i) ∧ zKf mFrP B B2 ∧ zBk B B2 ∧ ∀ i, i < e → A2.1 10 i = B2.1 331 i) (f := fun i A => zw (oPlay 90 40 lc n t i cn A) 10 i ((oPlay 90 40 lc n t i cn A).1 107 j)) (g := fun c A => zw (mOrd c n t (zMn cn lb) A) 331 c (mDec (mOg c n t (zMn cn lb) A) n c (t + 1) j)) (n := n) (A := M) (B := B) (fun i A2 B2 hi hR2 => ?_) ⟨fun _ _ _ => rfl, zKf.rf, zBk.rf (fun _ _ _ => rfl), fun i h => absurd h (Nat.not_lt_zero _)⟩ n (Nat.le_refl n)
      · have key' : (∀ a i, ¬ (a = 10 ∨ (90 ≤ a ∧ a ≤ 110)) → R.1 a i = M.1 a i) ∧ zKf mFrP B (mMs n t j (zMn cn lb) n B) ∧ zBk B (mMs n t j (zMn cn lb) n B) ∧ ∀ i, i < n → R.1 10 i = (mMs n t j (zMn cn lb) n B).1 331 i := by
          rw [hR]
          exact key
        obtain ⟨-, k2, k3, k4⟩ := key'
        obtain ⟨D, hD⟩ : ∃ D, D = mMs n t j (zMn cn lb) n B := ⟨_, rfl⟩
        rw [← hD] at h2 k2 k3 k4
        obtain ⟨m1, m2⟩ := mMo_zfm (row := R.1 10) (D := D) k4 n (Nat.le_refl n)
        have hv : (if k = 0 then (mMo D n n).1 else nI (mMo D n n).2) = V := by
          rw [hV, m1, m2 (by omega)]
          have hpos : 0 < (zfm (fun p => zcnt (fun q => R.1 10 q == R.1 10 p) n) n).2 := Nat.lt_of_lt_of_le (zcnt_pos (p := fun q => R.1 10 q == R.1 10 0) (m := 0) (by simp) n (by omega)) (zfm_ge (fun p => zcnt (fun q => R.1 10 q == R.1 10 p) n) n 0 (by omega))
          rw [zfm_val _ n hpos]
          rfl
        rw [hv] at h2
        refine ⟨0, 7, 14, 84, V, _, _, by decide, by decide, by decide, by decide, zh_most l G M _ (nI j) (nI k) _ hC, h2, ?_, fun _ => ?_, hI.back ((zBk.rf (fun a i h => hBM a i (by omega) (by omega))).tr k3) (fun a i h => ?_)⟩
        · rw [k2.1 _ _ (by unfold mFrP mFrO; omega), hB]; exact zw_same
        · rw [k2.2, hB]; exact zwL_22 (M := R)
        · rw [k2.1 _ _ (by unfold mFrP mFrO; omega)]; exact hBM a i (by omega) (by omega)
      · obtain ⟨r1, r2, r3, r4⟩ := hR2
        have hS2 : zS lc cn (zMn cn lb) lb A2 B2 := s1.keep (fun a k h1 h2 => r1 a k (by omega)) (r1 _ _ (by omega)) (fun a k h => r2.1 _ _ (by unfold mFrP mFrO; omega)) (r2.1 _ _ (by unfold mFrP mFrO; omega))
        have hv2 : ∀ j, j < 7 → A2.1 45 j = B2.1 313 j := fun j hj => by rw [r1 _ _ (by omega), r2.1 _ _ (by unfold mFrP mFrO; omega)]; exact s2 j hj
        have p1 := ordPlay (t := t) a1 hi a2 hl hS2 hv2
        have hO := mOrd_O (c := i) (n := n) (by omega) a1.2 t (zMn cn lb) B2
        refine ⟨fun a e h => ?_, (r2.tr (hO.mono (fun _ _ h => Or.inl h))).w (Or.inr rfl), (r3.tr (mOrd_back (by omega) a1.2 B2)).tr (zBk.rf (fun a k h => zw_ne (by omega))), fun e he => ?_⟩
        · rw [zw_ne (by omega), oPlay_out 90 lc n t i cn A2 a e (by omega)]; exact r1 a e h
        · by_cases ee : e = i
          · subst ee
            rw [zw_same, zw_same]
            exact p1.2.2.1 j hj
          · rw [zw_ne (by omega), zw_ne (by omega), oPlay_out 90 lc n t i cn A2 10 e (by omega), hO.1 _ _ (by unfold mFrO; omega)]
            exact r4 e (by omega)
theorem op_agreeing (hI : zInv M) : opP l G zInv (Option.some Jvm.ClassFile.FieldType.int) yX10_agreeing cX10_agreeing 3 yX11_agreeing cX11_agreeing 3 [] M := by
  obtain ⟨hg, hc, -, hp, -, -⟩ := id hI
  obtain ⟨lc, n, t, cn, lb, hP⟩ := zPl_of hg hp
  obtain ⟨a1, a2, a3, a4, a5, a6, a7, a8, a9, b1, b2, b3, b4⟩ := id hP
  have hl : 180 ≤ lc ∧ lc ≤ 200 := by unfold lyL at a3; omega
  have hC := zf_agreeing l G M lc n t cn a4 a1.2 a6 a2 b1 a3 b2
  have hcl : ∀ e a i, ¬ (90 ≤ a ∧ a ≤ 110) → (fAg lc n t cn e M).1 a i = M.1 a i := fun e a i h => fAg_out lc n t e cn M a i h
  obtain ⟨R, hR⟩ : ∃ R, R = fAg lc n t cn n M := ⟨_, rfl⟩
  have hcR : ∀ a i, ¬ (90 ≤ a ∧ a ≤ 110) → R.1 a i = M.1 a i := fun a i h => by rw [hR]; exact hcl n a i h
  rw [← hR] at hC
  have h2 := zc_magreeing l G R n t (zMn cn lb) (by rw [hcR _ _ (by omega)]; exact a5) a1.2 (by omega) (by rw [hcR _ _ (by omega)]; exact a7) a2 (by omega) (zIl_ln b4 (fun i => hcR _ _ (by omega)))
  obtain ⟨B, hB⟩ : ∃ B, B = m0 R := ⟨_, rfl⟩
  rw [← hB] at h2
  have hBM : ∀ a i, ¬ (a = 300 ∧ i = 0) → ¬ (90 ≤ a ∧ a ≤ 110) → B.1 a i = M.1 a i := fun a i h1 h3 => by rw [hB, zw_ne (by omega)]; exact hcR a i h3
  obtain ⟨s1, s2⟩ := ordS hP (B := B) (fun a i h => hBM a i (by omega) (by omega))
  have key : ∀ e, e ≤ n → zKf mFrO B (mAg n t (zMn cn lb) e B) ∧ zBk B (mAg n t (zMn cn lb) e B) := fun e he => by
    refine ⟨mAg_O a1.2 t _ e he B, ?_⟩
    induction e with
    | zero => exact zBk.rf (fun _ _ _ => rfl)
    | succ e ih =>
      rw [mAg_s]
      exact (ih (by omega)).tr (mOrd_back (by omega) a1.2 _)
  have hv : mAgC n t (zMn cn lb) B n = zcnt (fAgB lc n t cn M) n := by
    unfold mAgC
    refine zcnt_congr n (fun i hi => ?_)
    obtain ⟨k1, -⟩ := key i (by omega)
    have hS2 : zS lc cn (zMn cn lb) lb (fAg lc n t cn i M) (mAg n t (zMn cn lb) i B) := s1.keep (fun a k h1 h2 => hcl i a k (by omega)) (hcl i _ _ (by omega)) (fun a k h => k1.1 _ _ (by unfold mFrO; omega)) (k1.1 _ _ (by unfold mFrO; omega))
    have hv2 : ∀ j, j < 7 → (fAg lc n t cn i M).1 45 j = (mAg n t (zMn cn lb) i B).1 313 j := fun j hj => by rw [hcl i _ _ (by omega), k1.1 _ _ (by unfold mFrO; omega)]; exact s2 j hj
    have p1 := ordPlay (t := t) a1 hi a2 hl hS2 hv2
    unfold fAgB
    rw [fAg_s]
    exact (orDone_agr a1 p1).symm
  rw [hv] at h2
  obtain ⟨k1, k2⟩ := key n (Nat.le_refl n)
  refine ⟨7, 14, 84, nI (zcnt (fAgB lc n t cn M) n), R, _, by decide, by decide, by decide, hC, h2, hI.back ((zBk.rf (fun a i h => hBM a i (by omega) (by omega))).tr k2) (fun a i h => ?_)⟩
  rw [k1.1 _ _ (by unfold mFrO; omega)]
  exact hBM a i (by omega) (by omega)
theorem gn_lt : ∀ x, x < 8 → decide (x < 2) = !decide (nI 1 < nI x) := by decide
theorem op_gains (hI : zInv M) : opP l G zInv (Option.some Jvm.ClassFile.FieldType.int) yX10_gains cX10_gains 3 yX11_gains cX11_gains 4 [] M := by
  obtain ⟨hg, hc, -, hp, -, -⟩ := id hI
  obtain ⟨lc, n, t, cn, lb, hP⟩ := zPl_of hg hp
  obtain ⟨a1, a2, a3, a4, a5, a6, a7, a8, a9, b1, b2, b3, b4⟩ := id hP
  have hl : 180 ≤ lc ∧ lc ≤ 200 := by unfold lyL at a3; omega
  have hC := zf_gains l G M lc n t cn a4 a1.2 a6 a2 b1 a3 b2
  have hcl : ∀ e a i, ¬ (90 ≤ a ∧ a ≤ 132) → (fGn lc n t cn e M).1 a i = M.1 a i := fun e a i h => fGn_out lc n t e cn M a i h
  obtain ⟨R, hR⟩ : ∃ R, R = fGn lc n t cn n M := ⟨_, rfl⟩
  have hcR : ∀ a i, ¬ (90 ≤ a ∧ a ≤ 132) → R.1 a i = M.1 a i := fun a i h => by rw [hR]; exact hcl n a i h
  rw [← hR] at hC
  have h2 := zc_mgains l G R n t (zMn cn lb) (by rw [hcR _ _ (by omega)]; exact a5) a1.2 (by omega) (by rw [hcR _ _ (by omega)]; exact a7) a2 (by omega) (zIl_ln b4 (fun i => hcR _ _ (by omega)))
  obtain ⟨B, hB⟩ : ∃ B, B = m0 R := ⟨_, rfl⟩
  rw [← hB] at h2
  have hBM : ∀ a i, ¬ (a = 300 ∧ i = 0) → ¬ (90 ≤ a ∧ a ≤ 132) → B.1 a i = M.1 a i := fun a i h1 h3 => by rw [hB, zw_ne (by omega)]; exact hcR a i h3
  obtain ⟨s1, s2⟩ := ordS hP (B := B) (fun a i h => hBM a i (by omega) (by omega))
  have key : ∀ e, e ≤ n → zKf mFrG B (mGn n t (zMn cn lb) e B) ∧ zBk B (mGn n t (zMn cn lb) e B) := fun e he => by
    refine ⟨mGn_G a1.2 t _ e he B, ?_⟩
    induction e with
    | zero => exact zBk.rf (fun _ _ _ => rfl)
    | succ e ih =>
      rw [mGn_s]
      refine ((ih (by omega)).tr (mOrd_back (c := e) (n := n) (t := t) (mn := zMn cn lb) (by omega) a1.2 _)).tr ?_
      exact zBk.rf (fun a k h => (mSigns_S (c := e) (k := t) a1.2 (zMn cn lb) _).1 _ _ (by unfold mFrS; omega))
  have hv : mGnC n t (zMn cn lb) B n = zcnt (fGnB lc n t cn M) n := by
    unfold mGnC
    refine zcnt_congr n (fun i hi => ?_)
    obtain ⟨k1, -⟩ := key i (by omega)
    have hS2 : zS lc cn (zMn cn lb) lb (fGn lc n t cn i M) (mGn n t (zMn cn lb) i B) := s1.keep (fun a k h1 h2 => hcl i a k (by omega)) (hcl i _ _ (by omega)) (fun a k h => k1.1 _ _ (by unfold mFrG mFrO mFrS; omega)) (k1.1 _ _ (by unfold mFrG mFrO mFrS; omega))
    have hv2 : ∀ j, j < 7 → (fGn lc n t cn i M).1 45 j = (mGn n t (zMn cn lb) i B).1 313 j := fun j hj => by rw [hcl i _ _ (by omega), k1.1 _ _ (by unfold mFrG mFrO mFrS; omega)]; exact s2 j hj
    have p1 := ordPlay (t := t) a1 hi a2 hl hS2 hv2
    unfold mGnB fGnB
    rw [fGn_s, mGn_s]
    generalize fGn lc n t cn i M = A at *
    generalize mGn n t (zMn cn lb) i B = B2 at *
    have hO := mOrd_O (c := i) (n := n) (by omega) a1.2 t (zMn cn lb) B2
    have hS3 : zS lc cn (zMn cn lb) lb (oPlay 90 40 lc n t i cn A) (mOrd i n t (zMn cn lb) B2) := hS2.keep (fun a k h1 h2 => oPlay_out 90 lc n t i cn A a k (by omega)) (oPlay_out 90 lc n t i cn A _ _ (by omega)) (fun a k h => hO.1 _ _ (by unfold mFrO; omega)) (hO.1 _ _ (by unfold mFrO; omega))
    obtain ⟨-, -, -, g4⟩ := sgPlay (t := t) hl hi a1.2 hS3 (fun j hj => by rw [oPlay_out 90 lc n t i cn A _ _ (by omega), hO.1 _ _ (by unfold mFrO; omega)]; exact hv2 j hj)
    have hsp : ∀ a j, ¬ (120 ≤ a ∧ a ≤ 132) → (sPlay 120 40 lc n t i cn (oPlay 90 40 lc n t i cn A)).1 a j = (oPlay 90 40 lc n t i cn A).1 a j := fun a j h => sPlay_out 120 lc n t i cn _ a j (by omega)
    have e107 : (sPlay 120 40 lc n t i cn (oPlay 90 40 lc n t i cn A)).1 (90 + 1 + 16) = (oPlay 90 40 lc n t i cn A).1 (90 + 1 + 16) := funext fun j => hsp _ _ (by omega)
    rw [e107, hsp 90 10 (by omega), g4]
    have h9 := orDone_agr a1 p1
    have hu : mUq (mLiar (mSigns i n (zMn cn lb) t (mOrd i n t (zMn cn lb) B2))) (mSgB (mSigns i n (zMn cn lb) t (mOrd i n t (zMn cn lb) B2)) i) n ≤ 7 := Nat.le_trans (mUq_le _ _ n) a1.2
    rw [← h9, Bool.and_comm]
    congr 1
    · exact gn_lt _ (by omega)
    · rw [← decide_not, decide_eq_decide]
      omega
  rw [hv] at h2
  obtain ⟨k1, k2⟩ := key n (Nat.le_refl n)
  refine ⟨7, 14, 84, nI (zcnt (fGnB lc n t cn M) n), R, _, by decide, by decide, by decide, hC, h2, hI.back ((zBk.rf (fun a i h => hBM a i (by omega) (by omega))).tr k2) (fun a i h => ?_)⟩
  rw [k1.1 _ _ (by unfold mFrG mFrO mFrS; omega)]
  exact hBM a i (by omega) (by omega)
end zOrd2
