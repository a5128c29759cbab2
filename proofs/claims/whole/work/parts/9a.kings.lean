section zKings
theorem zany_all (p : Nat → Bool) : ∀ i, (!zany p i) = zall (fun k => !p k) i
  | 0 => rfl
  | i + 1 => by
    show (!(zany p i || p i)) = (zall (fun k => !p k) i && !p i)
    rw [← zany_all p i]
    cases zany p i <;> cases p i <;> rfl
theorem zall_congr {p q : Nat → Bool} : ∀ n, (∀ i, i < n → p i = q i) → zall p n = zall q n
  | 0, _ => rfl
  | n + 1, h => by
    show (zall p n && p n) = (zall q n && q n)
    rw [zall_congr n (fun i hi => h i (by omega)), h n (by omega)]
theorem zunl_mUq {row v : Nat → Int32} {lo : Int32} {li : Nat → Bool} {n : Nat} (h1 : ∀ i, i < n → bit lo i = li i) (h2 : ∀ i, i < n → row i = v i) : zunl row lo n = mUq li v n := by
  unfold zunl mUq
  refine zcnt_congr n (fun i hi => ?_)
  rw [Bool.not_or, zany_all, h1 i hi]
  congr 1
  refine zall_congr i (fun k hk => ?_)
  rw [h1 k (by omega), h2 k (by omega), h2 i hi, Bool.not_and, Bool.not_not]
variable {lc n t : Nat} {cn : Nat → Nat}
theorem kH_147 {m k : Nat} {A : zM} {j : Nat} : (kH 140 40 lc cn m k A).1 147 j = A.1 147 j := by
  unfold kH
  refine zfor_at (fun i M => ?_) k A
  unfold kH1
  split
  · exact zw_ne (Or.inl (by decide))
  · rw [zw_ne (Or.inl (by decide)), kCnt_o (by decide)]
theorem kC_147 {k : Nat} {A : zM} {j : Nat} : (kC 140 40 lc n cn k A).1 147 j = A.1 147 j := by
  unfold kC
  refine zfor_at (fun i M => ?_) k A
  unfold kC1
  rw [zw_ne (Or.inl (by decide)), zw_ne (Or.inl (by decide)), kH_147]
theorem kF_147 {kg k : Nat} {A : zM} {j : Nat} : (kF 140 40 lc n t cn kg k A).1 147 j = A.1 147 j := by
  unfold kF
  refine zfor_at (fun i M => ?_) k A
  unfold kF1
  split
  · exact zw_ne (Or.inl (by decide))
  · rw [zw_ne (Or.inl (by decide)), kCnt_o (by decide)]
theorem kP_147 (hl : 180 ≤ lc) {A : zM} : ∀ k i, i ≤ k → (kP 140 40 lc n t cn k A).1 147 i = nI (zunl ((kP 140 40 lc n t cn i A).1 143) (A.1 lc 0) n)
  | 0, i, hi => by
    have e : i = 0 := by omega
    subst e
    show (zw (kH0 140 40 7 A) 147 0 (nI (zunl ((kH0 140 40 7 A).1 143) ((kH0 140 40 7 A).1 lc 0) n))).1 147 0 = nI (zunl ((zw (kH0 140 40 7 A) 147 0 _).1 143) (A.1 lc 0) n)
    rw [zw_same, (kH0_at 7).2.2.2 lc 0 (by omega) (by omega), show (zw (kH0 140 40 7 A) 147 0 (nI (zunl ((kH0 140 40 7 A).1 143) (A.1 lc 0) n))).1 143 = (kH0 140 40 7 A).1 143 from funext fun j => zw_ne (Or.inl (by decide))]
  | k + 1, i, hi => by
    have hZ := kP_Z 140 40 lc n t cn k A
    have hC := (kC_Z 140 40 lc n cn n (kP 140 40 lc n t cn k A))
    have hF := (kF_Z 140 40 lc n t cn k n (kC 140 40 lc n cn n (kP 140 40 lc n t cn k A)))
    show (zw (kF 140 40 lc n t cn k n (kC 140 40 lc n cn n (kP 140 40 lc n t cn k A))) 147 (k + 1) (nI (zunl ((kF 140 40 lc n t cn k n (kC 140 40 lc n cn n (kP 140 40 lc n t cn k A))).1 143) ((kF 140 40 lc n t cn k n (kC 140 40 lc n cn n (kP 140 40 lc n t cn k A))).1 lc 0) n))).1 147 i = _
    by_cases e : i = k + 1
    · subst e
      rw [zw_same, hF _ _ (by omega), hC _ _ (by omega), hZ _ _ (by omega)]
      congr 2
    · rw [zw_ne (Or.inr e), kF_147, kC_147]
      exact kP_147 hl k i (by omega)
theorem kFir_mKf {row : Nat → Int32} {u : Nat → Nat} {F : Nat → Int32} (hF0 : F 0 = if u 0 < 2 then nI 0 else -1) (hFs : ∀ i, F (i + 1) = if u (i + 1) < 2 then (if F i = -1 then nI (i + 1) else F i) else -1) (T : Nat) (hT : T < 100) (hr : ∀ i, i ≤ T → row i = nI (u i) ∧ u i ≤ 7) : ∀ k, k ≤ T → ∀ f, kFir row (k + 1) f = if F k = -1 then f else F k
  | 0, hk, f => by
    show (if nI 1 < row 0 then f else nI 0) = _
    obtain ⟨h1, h2⟩ := hr 0 (by omega)
    rw [h1, hF0]
    by_cases h : u 0 < 2
    · rw [if_neg (fun e => by have := (nI_ltI (by omega) (by omega)).mp e; omega), if_pos h, if_neg (by decide)]
    · rw [if_pos ((nI_ltI (by omega) (by omega)).mpr (by omega)), if_neg h, if_pos rfl]
  | k + 1, hk, f => by
    show (if nI 1 < row (k + 1) then f else kFir row (k + 1) (nI (k + 1))) = _
    obtain ⟨h1, h2⟩ := hr (k + 1) hk
    rw [h1, hFs, kFir_mKf hF0 hFs T hT hr k (by omega)]
    by_cases h : u (k + 1) < 2
    · rw [if_neg (fun e => by have := (nI_ltI (by omega) (by omega)).mp e; omega), if_pos h]
      by_cases h3 : F k = -1
      · rw [if_pos h3, if_neg (nI_m1 (by omega))]
      · rw [if_neg h3, if_neg h3]
    · rw [if_pos ((nI_ltI (by omega) (by omega)).mpr (by omega)), if_neg h, if_pos rfl]
variable {l : Launch} {G : zG} {I : zM → Prop} {M : zM}
theorem op_kings (hst : l.stackTraces = false) (hg : zIg M) (hc : zIc M) (hp : zIp M) (hk : zKeeps I M) (v1 : Int32) : opI l G I yL_kings cL_kings 4 [(0, 9, 12, 13)] yX11_kings cX11_kings 5 [.int v1] M := by
  obtain ⟨lc, n, t, cn, lb, a1, a2, a3, a4, a5, a6, a7, a8, a9, b1, b2, b3, b4⟩ := zPl_of hg hp
  have hl : 180 ≤ lc ∧ lc ≤ 200 := by unfold lyL at a3; omega
  cases hw : mIn v1 (nI 0) (nI 3) with
  | false => exact opI_ba hg hc hk (by decide) (by decide) (zh_kingsI l G M (mBa M) v1 (zf_kingsK l G M hst v1 hw)) (by decide) (zc_mkingsX l G (mBa M) v1 hw)
  | true =>
    obtain ⟨k, -, hk9, rfl⟩ := mIn_ex hw (by decide) (by decide)
    have hC := zf_kings l G M lc n t cn k a4 a1.2 a6 a2 b1 a3 b2 hk9
    have hZ := kP_Z 140 40 lc n t cn (t + 1) M
    obtain ⟨v, hv⟩ : ∃ v, v = fKs t (kP 140 40 lc n t cn (t + 1) M) k := ⟨_, rfl⟩
    have hcl : ∀ c i, c < 140 ∨ 147 < c → (zwL (kP 140 40 lc n t cn (t + 1) M) 220 0 v.toInt64).1 c i = M.1 c i := fun c i h => hZ c i h
    have h2 := zc_mkings l G (zwL (kP 140 40 lc n t cn (t + 1) M) 220 0 v.toInt64) n t k (zMn cn lb) (by rw [hcl _ _ (by omega)]; exact a5) a1.2 (by omega) (by rw [hcl _ _ (by omega)]; exact a7) a2 hk9 (zIl_ln b4 (fun i => hcl _ _ (by omega)))
    have hS : zS lc cn (zMn cn lb) lb M (m0 (zwL (kP 140 40 lc n t cn (t + 1) M) 220 0 v.toInt64)) := (zIl_S b4 a8).keep (fun _ _ _ _ => rfl) rfl (fun c i h => by rw [zw_ne (by omega)]; exact hcl _ _ (by omega)) (by rw [zw_ne (by omega)]; exact hcl _ _ (by omega))
    have hP : ∀ i, i ≤ n → kgR lc n cn (zMn cn lb) lb (kP 140 40 lc n t cn i M) (mKg n t (zMn cn lb) i (m0 (zwL (kP 140 40 lc n t cn (t + 1) M) 220 0 v.toInt64))) ∧ kgV n (kP 140 40 lc n t cn i M) (mKg n t (zMn cn lb) i (m0 (zwL (kP 140 40 lc n t cn (t + 1) M) 220 0 v.toInt64))) := fun i hi => kgP (t := t) (k := i) hl.1 a1.2 hi hS (fun i hi => by rw [zw_ne (by omega), hcl _ _ (by omega)]; exact (a9 i hi).1)
    have hK := mKg_K n t (zMn cn lb) (t + 1) (m0 (zwL (kP 140 40 lc n t cn (t + 1) M) 220 0 v.toInt64))
    have hrow : ∀ i, i ≤ t + 1 → (kP 140 40 lc n t cn (t + 1) M).1 147 i = nI (mKu n (mKg n t (zMn cn lb) i (m0 (zwL (kP 140 40 lc n t cn (t + 1) M) 220 0 v.toInt64)))) ∧ mKu n (mKg n t (zMn cn lb) i (m0 (zwL (kP 140 40 lc n t cn (t + 1) M) 220 0 v.toInt64))) ≤ 7 := fun i hi => by
      obtain ⟨q1, q2⟩ := hP i (by omega)
      refine ⟨?_, Nat.le_trans (mUq_le _ _ n) a1.2⟩
      rw [kP_147 hl.1 (t + 1) i hi]
      congr 1
      exact zunl_mUq (fun m hm => by rw [(hS.2.2 m (by omega)).1, (q1.2.2.2.2 m (by omega)).2]) q2
    have hvv : (if k = 0 then nI (mKu n (mKg n t (zMn cn lb) (t + 1) (m0 (zwL (kP 140 40 lc n t cn (t + 1) M) 220 0 v.toInt64)))) else if k = 1 then (mKf n t (zMn cn lb) (m0 (zwL (kP 140 40 lc n t cn (t + 1) M) 220 0 v.toInt64)) (t + 1)) else if k = 2 then (mKg n t (zMn cn lb) (t + 1) (m0 (zwL (kP 140 40 lc n t cn (t + 1) M) 220 0 v.toInt64))).1 300 47 else (mKg n t (zMn cn lb) (t + 1) (m0 (zwL (kP 140 40 lc n t cn (t + 1) M) 220 0 v.toInt64))).1 300 48) = v := by
      generalize m0 (zwL (kP 140 40 lc n t cn (t + 1) M) 220 0 v.toInt64) = B at hP hrow ⊢
      rw [hv]
      obtain ⟨q1, q2⟩ := hP (t + 1) (by omega)
      match k, hk9 with
      | 0, _ => exact (hrow (t + 1) (Nat.le_refl _)).1.symm
      | 1, _ =>
        show mKf n t (zMn cn lb) B (t + 1) = kFir ((kP 140 40 lc n t cn (t + 1) M).1 147) (t + 1 + 1) (-1)
        rw [kFir_mKf (u := fun i => mKu n (mKg n t (zMn cn lb) i B)) (F := mKf n t (zMn cn lb) B) rfl (fun i => rfl) (t + 1) (by omega) hrow (t + 1) (Nat.le_refl _)]
        split
        · assumption
        · rfl
      | 2, _ => exact q1.1.symm
      | 3, _ => exact q1.2.1.symm
    rw [hvv] at h2
    refine ⟨0, 4, 0, 0, v, _, _, by decide, by decide, by decide, by decide, zh_kings l G M _ (nI k) _ (by rw [hv]; exact hC), zCk.of h2, ?_, fun _ => ?_, zKeeps.go hg hc hk (fun c i h => ?_)⟩
    · rw [hK.1 _ _ (by unfold mFrK; omega)]; exact zw_same
    · rw [hK.2]; exact zwL_22 (M := kP 140 40 lc n t cn (t + 1) M)
    · unfold zKp at h
      rw [hK.1 _ _ (by unfold mFrK; omega), zw_ne (by omega), hcl _ _ (by omega)]
end zKings
