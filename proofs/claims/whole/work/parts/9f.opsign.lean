section zSign5
variable {l : Launch} {G : zG} {I : zM → Prop} {M : zM} {lc n t : Nat} {cn : Nat → Nat} {lb : Nat → Bool}
/-- the signed trial by the class, then by the reference -/
theorem sgBoth (hP : zPl M lc n t cn lb) {j : Nat} (hj : j < n) {R : zM} (hR : R = sPlay 120 40 lc n t j cn M) {B : zM} (hB : ∀ c k, c ≠ 0 → c ≠ 302 → ¬ (c = 300 ∧ k = 0) → B.1 c k = R.1 c k) :
    (∀ c i, c < 120 ∨ 132 < c → R.1 c i = M.1 c i) ∧ mLn 0 B (zMn cn lb) ∧ sgR lc cn (zMn cn lb) lb R (mSigns j n (zMn cn lb) t B) ∧ (∀ i, i < n → R.1 127 i = mSgB (mSigns j n (zMn cn lb) t B) j i) ∧ R.1 120 0 = nI (mUq (mLiar (mSigns j n (zMn cn lb) t B)) (mSgB (mSigns j n (zMn cn lb) t B) j) n) ∧ (∀ x, x < 7 → R.1 125 x = nI (mTk9 (mSigns j n (zMn cn lb) t B) x) ∧ mTk9 (mSigns j n (zMn cn lb) t B) x ≤ 6) ∧ kS B (mSigns j n (zMn cn lb) t B) := by
  obtain ⟨a1, a2, a3, a4, a5, a6, a7, a8, a9, b1, b2, b3, b4⟩ := hP
  have hl : 180 ≤ lc ∧ lc ≤ 200 := by unfold lyL at a3; omega
  have hcl : ∀ c i, c < 120 ∨ 132 < c → R.1 c i = M.1 c i := fun c i h => by rw [hR]; exact sPlay_out 120 lc n t j cn M c i (by omega)
  have hS : zS lc cn (zMn cn lb) lb M B := (zIl_S b4 a8).keep (fun _ _ _ _ => rfl) rfl (fun c i h => by rw [hB _ _ (by omega) (by omega) (by omega)]; exact hcl _ _ (by omega)) (by rw [hB _ _ (by omega) (by omega) (by omega)]; exact hcl _ _ (by omega))
  obtain ⟨p1, p2, p3, p4⟩ := sgPlay (t := t) hl hj a1.2 hS (fun i hi => by rw [hB _ _ (by omega) (by omega) (by omega), hcl _ _ (by omega)]; exact (a9 i hi).1)
  rw [← hR] at p1 p3 p4
  refine ⟨hcl, zIl_ln b4 (fun i => by rw [hB _ _ (by omega) (by omega) (by omega)]; exact hcl _ _ (by omega)), p1, p3, p4, fun x hx => ⟨?_, p2.le6 (by omega) hx⟩, mSigns_S a1.2 _ B⟩
  rw [(p1.1 x hx).1]
  exact (p2 x hx).1
theorem zKeeps.sg (hg : zIg M) (hc : zIc M) (hk : zKeeps I M) {R D : zM} {W : Int64} (hcl : ∀ c i, c < 120 ∨ 132 < c → R.1 c i = M.1 c i) (hK : kS (m0 (zwL R 220 0 W)) D) : I D ∧ D.1 300 0 = nI 0 ∧ D.2 220 0 = W := by
  refine ⟨zKeeps.go hg hc hk (fun c i h => ?_), ?_, ?_⟩
  · unfold zKp at h
    rw [hK.1 _ _ (by unfold mFrS; omega), zw_ne (by omega)]
    exact hcl _ _ (by omega)
  · rw [hK.1 _ _ (by unfold mFrS; omega)]; exact zw_same
  · rw [hK.2]; exact zwL_22 (M := R)
theorem op_signed (hst : l.stackTraces = false) (hg : zIg M) (hc : zIc M) (hp : zIp M) (hk : zKeeps I M) (v1 v2 : Int32) : opI l G I yL_signed cL_signed 5 [(0, 10, 13, 19), (0, 10, 17, 13)] yX11_signed cX11_signed 3 [.int v1, .int v2] M := by
  obtain ⟨lc, n, t, cn, lb, hP⟩ := zPl_of hg hp
  obtain ⟨a1, a2, a3, a4, a5, a6, a7, a8, a9, b1, b2, b3, b4⟩ := id hP
  cases hm : zmem v1 n with
  | false => exact opI_bs hg hc hk (by decide) (by decide) (zh_signedS l G M (mBs M) v1 v2 (zf_signedX l G M hst n v1 v2 a4 a1.2 hm)) (by decide) (zc_msignedX l G (mBs M) n v1 v2 (by simp [mBs, zw_at, a5]) a1.2 (by omega) hm)
  | true =>
    obtain ⟨j, hj, rfl⟩ := zmem_ex hm (by omega)
    cases hw : mIn v2 (nI 0) (nI 3) with
    | false => exact opI_ba hg hc hk (by decide) (by decide) (zh_signedI l G M (mBa M) (nI j) v2 (zf_signedK l G M hst n j v2 a4 a1.2 hj hw)) (by decide) (zc_msignedK l G (mBa M) n j v2 (by simp [mBa, zw_at, a5]) a1.2 (by omega) hj hw)
    | true =>
      obtain ⟨k, -, hk9, rfl⟩ := mIn_ex hw (by decide) (by decide)
      obtain ⟨R, hR⟩ : ∃ R, R = sPlay 120 40 lc n t j cn M := ⟨_, rfl⟩
      have hC := zf_signed l G M lc n t cn j k a4 a1.2 a6 a2 b1 a3 b2 hj hk9
      rw [← hR] at hC
      obtain ⟨hcl, hln, p1, p2, p3, p4, hK⟩ := sgBoth hP hj hR (B := m0 (zwL R 220 0 (fSg R k).toInt64)) (fun c i _ _ h => zw_ne (by omega))
      have h2 := zc_msigned l G (zwL R 220 0 (fSg R k).toInt64) n t j k (zMn cn lb) (by rw [zwL_1, hcl _ _ (by omega)]; exact a5) a1.2 (by omega) (by rw [zwL_1, hcl _ _ (by omega)]; exact a7) a2 hj hk9 (zIl_ln b4 (fun i => by rw [zwL_1]; exact hcl _ _ (by omega)))
      obtain ⟨k1, k2, k3⟩ := zKeeps.sg hg hc hk hcl hK
      have hv : ∀ D : zM, sgR lc cn (zMn cn lb) lb R D → R.1 120 0 = nI (mUq (mLiar D) (mSgB D j) n) → (if k = 0 then nI (mUq (mLiar D) (mSgB D j) n) else if k = 1 then D.1 300 38 else if k = 2 then D.1 300 39 else D.1 300 40) = fSg R k := fun D q1 q2 => by
        match k, hk9 with
        | 0, _ => exact q2.symm
        | 1, _ => exact q1.2.1.symm
        | 2, _ => exact q1.2.2.1.symm
        | 3, _ => exact q1.2.2.2.1.symm
      rw [hv _ p1 p3] at h2
      exact ⟨0, 4, 0, 0, fSg R k, _, _, by decide, by decide, by decide, by decide, zh_signed l G M _ (nI j) (nI k) _ hC, zCk.of h2, k2, fun _ => k3, k1⟩
theorem op_signedOf (hst : l.stackTraces = false) (hg : zIg M) (hc : zIc M) (hp : zIp M) (hk : zKeeps I M) (v1 v2 v3 : Int32) : opI l G I yL_signedOf cL_signedOf 6 [(0, 12, 15, 19), (0, 12, 19, 13)] yX11_signedOf cX11_signedOf 4 [.int v1, .int v2, .int v3] M := by
  obtain ⟨lc, n, t, cn, lb, hP⟩ := zPl_of hg hp
  obtain ⟨a1, a2, a3, a4, a5, a6, a7, a8, a9, b1, b2, b3, b4⟩ := id hP
  cases hm : zmem v1 n with
  | false => exact opI_bs hg hc hk (by decide) (by decide) (zh_signedOfS l G M (mBs M) v1 v2 v3 (zf_signedOfX l G M hst n v1 v2 v3 a4 a1.2 hm)) (by decide) (zc_msignedOfX l G (mBs M) n v1 v2 v3 (by simp [mBs, zw_at, a5]) a1.2 (by omega) hm)
  | true =>
    obtain ⟨j, hj, rfl⟩ := zmem_ex hm (by omega)
    cases hm2 : zmem v2 n with
    | false => exact opI_bs hg hc hk (by decide) (by decide) (zh_signedOfS l G M (mBs M) (nI j) v2 v3 (zf_signedOfZ l G M hst n j v2 v3 a4 a1.2 hj hm2)) (by decide) (zc_msignedOfZ l G (mBs M) n j v2 v3 (by simp [mBs, zw_at, a5]) a1.2 (by omega) hj hm2)
    | true =>
      obtain ⟨i, hi, rfl⟩ := zmem_ex hm2 (by omega)
      cases hw : mIn v3 (nI 0) (nI 3) with
      | false => exact opI_ba hg hc hk (by decide) (by decide) (zh_signedOfI l G M (mBa M) (nI j) (nI i) v3 (zf_signedOfK l G M hst n j i v3 a4 a1.2 hj hi hw)) (by decide) (zc_msignedOfK l G (mBa M) n j i v3 (by simp [mBa, zw_at, a5]) a1.2 (by omega) hj hi hw)
      | true =>
        obtain ⟨k, -, hk9, rfl⟩ := mIn_ex hw (by decide) (by decide)
        obtain ⟨R, hR⟩ : ∃ R, R = sPlay 120 40 lc n t j cn M := ⟨_, rfl⟩
        obtain ⟨q, hq, eq⟩ := sPlay_k7 120 lc n t j cn M i (by omega)
        have hC := zf_signedOf l G M lc n t cn j i k q a4 a1.2 a6 a2 b1 a3 b2 hj hi hk9 eq hq
        rw [← hR] at hC
        have eq2 : R.1 125 i = nI q := by rw [hR]; exact eq
        obtain ⟨hcl, hln, p1, p2, p3, p4, hK⟩ := sgBoth hP hj hR (B := m0 (zwL R 220 0 (fSo R i q k).toInt64)) (fun c i _ _ h => zw_ne (by omega))
        have h2 := zc_msignedOf l G (zwL R 220 0 (fSo R i q k).toInt64) n t j i k (zMn cn lb) (by rw [zwL_1, hcl _ _ (by omega)]; exact a5) a1.2 (by omega) (by rw [zwL_1, hcl _ _ (by omega)]; exact a7) a2 hj hi hk9 (zIl_ln b4 (fun i => by rw [zwL_1]; exact hcl _ _ (by omega)))
        obtain ⟨k1, k2, k3⟩ := zKeeps.sg hg hc hk hcl hK
        have hv : ∀ D : zM, sgR lc cn (zMn cn lb) lb R D → R.1 127 i = mSgB D j i → R.1 125 i = nI (mTk9 D i) ∧ mTk9 D i ≤ 6 → (if k = 0 then mSgB D j i else if k = 1 then D.1 332 i else if k = 2 then D.1 333 i else D.1 334 i) = fSo R i q k := fun D q1 q2 q3 => by
          obtain ⟨g1, g2, g3, g4⟩ := q1.1 i (by omega)
          have e : q = mTk9 D i := nI_inj (by omega) (by omega) (eq2.symm.trans q3.1)
          match k, hk9 with
          | 0, _ => exact q2.symm
          | 1, _ => exact g1.symm
          | 2, _ => exact g4.symm
          | 3, _ =>
            show D.1 334 i = (if q = 0 then nI 0 else R.1 132 (i * 7 + q - 1))
            rw [e]; exact g3
        rw [hv _ p1 (p2 i hi) (p4 i (by omega))] at h2
        exact ⟨0, 4, 0, 0, fSo R i q k, _, _, by decide, by decide, by decide, by decide, zh_signedOf l G M _ (nI j) (nI i) (nI k) _ hC, zCk.of h2, k2, fun _ => k3, k1⟩
end zSign5
