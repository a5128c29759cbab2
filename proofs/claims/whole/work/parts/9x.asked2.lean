section zAsk2
variable {n c t : Nat} {M : zM}
theorem mPop_tab : ∀ v, v < 128 → mPop 31 v = zcnt (fun i => v.testBit i) 7 := by decide +kernel
theorem hi_nat {x : Int32} (h : ∀ b, 7 ≤ b → b < 32 → bt x b = false) : x.toBitVec.toNat < 128 ∧ x = nI x.toBitVec.toNat ∧ mPop 31 x.toBitVec.toNat = zcnt (fun i => bit x i) 7 := by
  have hv : x.toBitVec.toNat < 2 ^ 7 := Nat.lt_pow_two_of_testBit _ (fun i hi => by
    rw [← bt_tn]
    rcases Nat.lt_or_ge i 32 with h1 | h1
    · exact h i hi h1
    · exact b_big h1)
  refine ⟨hv, b_ext (fun i hi => by rw [bt_nI (by omega), bt_tn]), ?_⟩
  rw [mPop_tab _ hv]
  exact zcnt_congr 7 (fun i hi => by rw [bit_bt (by omega), bt_tn])
theorem mStop_is {fs : Nat → Nat} {s : Nat} (hs : ¬ (s < t + 1 ∧ s < 2 + mPop 31 (fs s))) : ∀ f r, r ≤ s → s ≤ r + f → (∀ q, r ≤ q → q < s → q < t + 1 ∧ q < 2 + mPop 31 (fs q)) → mStop fs t f r = s
  | 0, r, h1, h2, _ => by
    show r = s
    omega
  | f + 1, r, h1, h2, h3 => by
    unfold mStop
    by_cases e : r = s
    · subst e
      rw [if_neg hs]
    · rw [if_pos (h3 r (Nat.le_refl r) (by omega))]
      exact mStop_is hs f (r + 1) (by omega) (by omega) (fun q q1 q2 => h3 q (by omega) q2)
/-- the round in which one could stop, as the reference finds it -/
theorem orStop_is {B : zM} {m : Nat} (h : orStop 60 t (t + 1) m M B) (ht : t ≤ 2) (hhi : ∀ q, q < 5 → ∀ b, 7 ≤ b → b < 32 → bt (B.1 (1000 + 16 * 22 + m) q) b = false) : ∃ s, M.1 65 m = nI s ∧ 1 ≤ s ∧ s ≤ t + 1 ∧ mStop (fun r => (B.1 (1000 + 16 * 22 + m) r).toBitVec.toNat) t 4 1 = s := by
  obtain ⟨s, s1, s2, s3⟩ := h
  rcases s3 with ⟨-, g⟩ | ⟨g1, g2, g3, g4⟩
  · exact absurd (Or.inr rfl) (g (t + 1) (by omega) (Nat.le_refl _))
  · refine ⟨s, s1, g1, g2, mStop_is ?_ 4 1 g1 (by omega) (fun q q1 q2 => ?_)⟩
    · show ¬ (s < t + 1 ∧ s < 2 + mPop 31 (B.1 (1000 + 16 * 22 + m) s).toBitVec.toNat)
      rw [(hi_nat (hhi s (by omega))).2.2]
      rintro ⟨z1, z2⟩
      rcases g3 with z | z
      · omega
      · omega
    · show q < t + 1 ∧ q < 2 + mPop 31 (B.1 (1000 + 16 * 22 + m) q).toBitVec.toNat
      rw [(hi_nat (hhi q (by omega))).2.2]
      have h9 := g4 q q1 q2
      unfold enB at h9
      constructor
      · omega
      · omega
theorem zInv.mem (h : zInv M) {M2 : zM} (H : ∀ a k, a ≠ 78 → a ≠ 80 → ¬ (a = 300 ∧ k = 0) → M2.1 a k = M.1 a k) : zInv M2 := by
  obtain ⟨hg, hc, hr, hp, hv, ht⟩ := h
  have G9 : ∀ a k, ¬ (a = 78 ∨ a = 80 ∨ (a = 300 ∧ k = 0)) → M2.1 a k = M.1 a k := fun a k h => H a k (by omega) (by omega) (by omega)
  refine ⟨zIg_same hg (G9 _ _ (by omega)) (G9 _ _ (by omega)) (G9 _ _ (by omega)) (G9 _ _ (by omega)) (G9 _ _ (by omega)) (G9 _ _ (by omega)) (fun j => ⟨G9 _ _ (by omega), G9 _ _ (by omega)⟩), ⟨?_, ?_⟩, zIr_same hr (fun c k h => G9 c k (by omega)), zIp_same hp (G9 _ _ (by omega)) (G9 _ _ (by omega)) (G9 _ _ (by omega)) (G9 _ _ (by omega)) (fun a k h1 h2 => G9 a k (by omega)) (fun k => G9 _ _ (by omega)) (fun a k h => G9 a k (by omega)), mlV_of hv (fun a k h => G9 a k (by omega)), ?_⟩
  · rw [G9 0 10 (by omega), G9 302 0 (by omega)]; exact hc.1
  · rw [G9 0 11 (by omega), G9 302 1 (by omega)]; exact hc.2
  · rcases ht with h | h
    · refine Or.inl ?_
      obtain ⟨a1, a2, a3, a4, a5, a6, a7, n6, t6, a8, a9, b1, b2⟩ := h
      refine ⟨by rw [G9 _ _ (by omega), a1], by rw [G9 _ _ (by omega), a2], by rw [G9 _ _ (by omega), a3], by rw [G9 _ _ (by omega), a4], by rw [G9 _ _ (by omega), a5], by rw [G9 _ _ (by omega), a6], fun j hj => ?_, n6, t6, by rw [G9 _ _ (by omega), a8], a9, by rw [G9 _ _ (by omega), b1], b2⟩
      rw [G9 _ _ (by omega), G9 _ _ (by omega), G9 _ _ (by omega), G9 _ _ (by omega), G9 _ _ (by omega), G9 _ _ (by omega)]
      exact a7 j hj
    · exact Or.inr (zIt1_same h (fun c k h => G9 c k (by unfold zKt at h; omega)))
/-- a path cut -/
theorem zTr.res (hn : 3 ≤ n ∧ n ≤ 7) (hc : c < n) (ht : t ≤ 2) (h : zTr n c t M) {m k : Nat} (hm : m < n) (hmc : m ≠ c) (hk : 1 ≤ k ∧ k ≤ t + 1) : (∀ a j, a ≠ 78 → a ≠ 80 → (oRes 60 n c m k 17 0 k M).1 a j = M.1 a j) ∧ (oRes 60 n c m k 17 0 k M).1 78 0 = mDec M n c k m := by
  obtain ⟨t1, t2, t3, t4, t5, t6, -⟩ := h
  obtain ⟨h1, h2⟩ := oRes_at (lc := 180) (t := t) ⟨by omega, by omega, by omega⟩ hn hc (m := m) (cut := k) (jc := 17) (row := 0) hm hmc ⟨hk.1, by omega⟩ hk.2 (Or.inr rfl) (A := M) (B := M) t1 t2 (fun p hp hh => (t6 m p hm hp hh).1) k (Nat.le_refl k)
  refine ⟨fun a j ha hb => h1 a j (by omega) (by omega), ?_⟩
  have h3 := h2 0 (by decide) (mHas_iff.mpr ⟨rfl, hmc, by show 1 ≤ t + 1; omega, Or.inl (by
    unfold mIsIn
    rw [decide_eq_false hmc]
    rfl)⟩) (by show k - k < 1; omega) hk.1
  unfold mDec
  rw [if_neg hmc]
  exact h3
theorem zunl_zcom {row : Nat → Int32} {lo : Int32} : ∀ n, (zfst (fun i => !bit lo i) n = none → zunl row lo n = 0) ∧ (∀ a, zfst (fun i => !bit lo i) n = some a → 1 ≤ zunl row lo n) ∧ (zcom (fun i => !bit lo i) row n = true → zunl row lo n ≤ 1 ∧ ∀ a, zfst (fun i => !bit lo i) n = some a → ∀ i, i < n → bit lo i = false → row i = row a) ∧ (zcom (fun i => !bit lo i) row n = false → 2 ≤ zunl row lo n)
  | 0 => ⟨fun _ => rfl, fun a h => (by cases h), fun _ => ⟨Nat.zero_le _, fun a h => (by cases h)⟩, fun h => (by cases h)⟩
  | n + 1 => by
    obtain ⟨h1, h2, h3, h4⟩ := zunl_zcom (row := row) (lo := lo) n
    have eu : zunl row lo (n + 1) = zunl row lo n + (if (!(bit lo n || zany (fun k => !bit lo k && row k == row n) n)) = true then 1 else 0) := rfl
    have ec : zcom (fun i => !bit lo i) row (n + 1) = (zcom (fun i => !bit lo i) row n && (!(!bit lo n) || (match zfst (fun i => !bit lo i) (n + 1) with
      | some a => row n == row a
      | none => true))) := rfl
    rw [eu, ec]
    cases hb : bit lo n with
    | true =>
      have ez : zfst (fun i => !bit lo i) (n + 1) = zfst (fun i => !bit lo i) n := zfst_keep (by show (!bit lo n) = false; rw [hb]; rfl)
      rw [ez]
      simp only [Bool.true_or, Bool.not_true, Bool.false_eq_true, if_false, Nat.add_zero, Bool.not_false, Bool.and_true]
      refine ⟨h1, h2, fun h => ⟨(h3 h).1, fun a ha i hi hbi => ?_⟩, h4⟩
      rcases Nat.lt_or_ge i n with q | q
      · exact (h3 h).2 a ha i q hbi
      · rw [show i = n by omega, hb] at hbi; cases hbi
    | false =>
      simp only [Bool.false_or, Bool.not_false, Bool.not_true]
      cases hz : zfst (fun i => !bit lo i) n with
      | none =>
        have ez : zfst (fun i => !bit lo i) (n + 1) = some n := zfst_new hz (by show (!bit lo n) = true; rw [hb]; rfl)
        rw [ez]
        have hall : ∀ i, i < n → bit lo i = true := fun i hi => by
          cases hbi : bit lo i with
          | true => rfl
          | false =>
            have : ∀ k, i < k → k ≤ n → ∃ a, zfst (fun i => !bit lo i) k = some a := by
              intro k
              induction k with
              | zero => intro q _; exact absurd q (Nat.not_lt_zero _)
              | succ k ih =>
                intro q1 q2
                cases hz2 : zfst (fun i => !bit lo i) k with
                | some a => exact ⟨a, zfst_old hz2⟩
                | none =>
                  rcases Nat.lt_or_ge i k with q | q
                  · obtain ⟨a, ha⟩ := ih q (by omega)
                    rw [hz2] at ha; cases ha
                  · exact ⟨k, zfst_new hz2 (by show (!bit lo k) = true; rw [show k = i by omega, hbi]; rfl)⟩
            obtain ⟨a, ha⟩ := this n hi (Nat.le_refl n)
            rw [hz] at ha; cases ha
        have hany : zany (fun k => !bit lo k && row k == row n) n = false := zany_none n (fun i hi => by rw [hall i hi]; rfl)
        have hcom : zcom (fun i => !bit lo i) row n = true := by
          cases hcm : zcom (fun i => !bit lo i) row n with
          | true => rfl
          | false => have := h4 hcm; rw [h1 hz] at this; omega
        rw [hany, h1 hz, hcom]
        simp only [Bool.not_false, if_true, beq_self_eq_true, Bool.and_self]
        refine ⟨fun h => (by cases h), fun a _ => (by omega), fun _ => ⟨by omega, fun a ha i hi hbi => ?_⟩, fun h => (by cases h)⟩
        cases ha
        rcases Nat.lt_or_ge i n with q | q
        · rw [hall i q] at hbi; cases hbi
        · rw [show i = n by omega]
      | some a =>
        have ez : zfst (fun i => !bit lo i) (n + 1) = some a := zfst_old hz
        have haq : bit lo a = false := by
          have h9 := zfst_true hz
          simpa using h9
        have han := zfst_lt hz
        rw [ez]
        simp only []
        have g2 := h2 a hz
        refine ⟨fun h => (by cases h), fun _ _ => (by omega), fun h => ?_, fun h => ?_⟩
        · rw [Bool.and_eq_true, beq_iff_eq] at h
          obtain ⟨q1, q2⟩ := h3 h.1
          have hany : zany (fun k => !bit lo k && row k == row n) n = true := (zany_iff n).mpr ⟨a, han, by rw [haq, h.2]; simp⟩
          rw [hany]
          simp only [Bool.not_true, Bool.false_eq_true, if_false, Nat.add_zero]
          refine ⟨q1, fun a2 ha2 i hi hbi => ?_⟩
          cases ha2
          rcases Nat.lt_or_ge i n with q | q
          · exact q2 a hz i q hbi
          · rw [show i = n by omega]; exact h.2
        · cases hcm : zcom (fun i => !bit lo i) row n with
          | false => have := h4 hcm; omega
          | true =>
            rw [hcm, Bool.true_and, beq_eq_false_iff_ne] at h
            obtain ⟨q1, q2⟩ := h3 hcm
            have hany : zany (fun k => !bit lo k && row k == row n) n = false := by
              cases hz9 : zany (fun k => !bit lo k && row k == row n) n with
              | false => rfl
              | true =>
                obtain ⟨k, hk, h9⟩ := (zany_iff n).mp hz9
                simp only [Bool.and_eq_true, Bool.not_eq_true', beq_iff_eq] at h9
                exact absurd (h9.2.symm.trans (q2 a hz k hk h9.1)) h
            rw [hany]
            simp only [Bool.not_false, if_true]
            omega
theorem zunl_le1 {row : Nat → Int32} {lo : Int32} (n : Nat) : decide (zunl row lo n ≤ 1) = zcom (fun i => !bit lo i) row n := by
  obtain ⟨-, -, h3, h4⟩ := zunl_zcom (row := row) (lo := lo) n
  cases hcm : zcom (fun i => !bit lo i) row n with
  | true => exact decide_eq_true (h3 hcm).1
  | false => exact decide_eq_false (by have := h4 hcm; omega)
variable {l : Launch} {G : zG}
theorem op_cut (hst : l.stackTraces = false) (hI : zInv M) (v1 v2 : Int32) : opI l G zInv yL_cut cL_cut 5 [(0, 10, 13, 19), (0, 10, 17, 13)] yX11_cut cX11_cut 3 [.int v1, .int v2] M := by
  obtain ⟨hg, hc, -, -, -, ht⟩ := id hI
  have hk := hI.keeps
  obtain ⟨n, t, a1, a2, a3, a4, a5, a6, -⟩ := id hg
  cases hm : zmem v1 n with
  | false => exact opI_bs hg hc hk (by decide) (by decide) (zh_cutS l G M (mBs M) v1 v2 (zf_cutX l G M hst n v1 v2 a3 a1.2 hm)) (by decide) (zc_mcutX l G (mBs M) n v1 v2 (by simp [mBs, zw_at, a4]) a1.2 (by omega) hm)
  | true =>
    obtain ⟨j, hj, rfl⟩ := zmem_ex hm (by omega)
    cases hw : mIn v2 (nI 1) (nI (t + 1)) with
    | false => exact opI_ba hg hc hk (by decide) (by decide) (zh_cutI l G M (mBa M) (nI j) v2 (zf_cutK l G M hst n t j v2 a3 a1.2 a5 a2 hj hw)) (by decide) (zc_mcutK l G (mBa M) n t j v2 (by simp [mBa, zw_at, a4]) a1.2 (by omega) (by simp [mBa, zw_at, a6]) a2 hj hw)
    | true =>
      obtain ⟨k, hk1, hk9, rfl⟩ := mIn_ex hw (by decide) (by omega)
      rcases ht with ht | ht
      · obtain ⟨q1, q2, q3, q4, q5, q6, q7, -⟩ := ht
        have hC := zf_cuta l G M n t j k a3 a1.2 a5 a2 hj q1 hk1 hk9
        rw [(q7 j (by omega)).2.2.2.2.2] at hC
        exact opI_m0 (d := 6) hg hc hk (zh_cut l G M M (nI j) (nI k) _ hC) (by decide) (zc_mcutN l G (zwL M 220 0 (nI 0).toInt64) n t j k a4 a1.2 (by omega) a6 a2 q2 hj hk1 hk9)
      · obtain ⟨n, t', c, d1, d2, d3, d4, d5, d6, d7, d8, d9, e1, e2, hT⟩ := ht.at hg
        have en := nI_inj (by omega) (by omega) (a3.symm.trans d4)
        have et := nI_inj (by omega) (by omega) (a5.symm.trans d6)
        subst en et
        by_cases hjc : j = c
        · have hC := zf_cutb l G M n t j k a3 a1.2 a5 a2 hj (by rw [hjc]; exact d8) hk1 hk9
          have h2 := zc_mcut l G (zwL M 220 0 (M.1 77 j).toInt64) n c t j k d5 a1.2 (by omega) d7 d2 d9 (by omega) hj hk1 hk9
          have hv : mDec (m0 (zwL M 220 0 (M.1 77 j).toInt64)) n c k j = M.1 77 j := by
            rw [hT.2.2.2.2.2.2.2.2.1 j hj]
            unfold mDec
            rw [if_pos hjc, if_pos hjc]
            exact m0W (by omega)
          rw [hv] at h2
          exact opI_m0 (d := 6) hg hc hk (zh_cut l G M M (nI j) (nI k) _ hC) (by decide) h2
        · have hC := zf_cutc l G M n t n c j k a3 a1.2 a5 a2 hj d8 (by omega) e1 a1.2 hjc hk1 hk9
          obtain ⟨f1, f2⟩ := hT.res d1 d3 d2 hj hjc ⟨hk1, hk9⟩
          generalize oRes 60 n c j k 17 0 k M = R at *
          rw [f2] at hC
          obtain ⟨V, hV⟩ : ∃ V, V = mDec M n c k j := ⟨_, rfl⟩
          rw [← hV] at hC
          have h2 := zc_mcut l G (zwL R 220 0 V.toInt64) n c t j k (by rw [zwL_1, f1 _ _ (by omega) (by omega)]; exact d5) a1.2 (by omega) (by rw [zwL_1, f1 _ _ (by omega) (by omega)]; exact d7) d2 (by rw [zwL_1, f1 _ _ (by omega) (by omega)]; exact d9) (by omega) hj hk1 hk9
          have H : ∀ a i, a ≠ 78 → a ≠ 80 → ¬ (a = 300 ∧ i = 0) → (m0 (zwL R 220 0 V.toInt64)).1 a i = M.1 a i := fun a i h1 h2 h3 => (m0W (by omega)).trans (f1 a i h1 h2)
          have hv : mDec (m0 (zwL R 220 0 V.toInt64)) n c k j = V := by
            rw [hV]
            exact mDec_same (H _ _ (by omega) (by omega) (by omega)) (H _ _ (by omega) (by omega) (by omega)) (fun i => H _ _ (by omega) (by omega) (by omega))
          rw [hv] at h2
          exact ⟨0, 6, 0, 0, V, _, _, by decide, by decide, by decide, by decide, zh_cut l G M _ (nI j) (nI k) _ hC, zCk.of h2, zw_same, fun _ => zwL_22 (M := R), hI.mem H⟩
theorem op_member (hst : l.stackTraces = false) (hI : zInv M) (v1 v2 : Int32) : opI l G zInv yL_member cL_member 5 [(0, 10, 13, 19), (0, 10, 17, 13)] yX11_member cX11_member 3 [.int v1, .int v2] M := by
  obtain ⟨hg, hc, -, hp, -, ht⟩ := id hI
  have hk := hI.keeps
  obtain ⟨lc, n, t, cn, lb, hP⟩ := zPl_of hg hp
  obtain ⟨a1, a2, a3, a4, a5, a6, a7, a8, a9, b1, b2, b3, b4⟩ := id hP
  have hl : 180 ≤ lc ∧ lc ≤ 200 := by unfold lyL at a3; omega
  cases hm : zmem v1 n with
  | false => exact opI_bs hg hc hk (by decide) (by decide) (zh_memberS l G M (mBs M) v1 v2 (zf_memberX l G M hst n v1 v2 a4 a1.2 hm)) (by decide) (zc_mmemberX l G (mBs M) n v1 v2 (by simp [mBs, zw_at, a5]) a1.2 (by omega) hm)
  | true =>
    obtain ⟨j, hj, rfl⟩ := zmem_ex hm (by omega)
    cases hw : mIn v2 (nI 0) (nI 7) with
    | false => exact opI_ba hg hc hk (by decide) (by decide) (zh_memberI l G M (mBa M) (nI j) v2 (zf_memberK l G M hst n j v2 a4 a1.2 hj hw)) (by decide) (zc_mmemberK l G (mBa M) n j v2 (by simp [mBa, zw_at, a5]) a1.2 (by omega) hj hw)
    | true =>
      obtain ⟨k, -, hk9, rfl⟩ := mIn_ex hw (by decide) (by decide)
      have hCk := fun h5 => zf_member l G M lc n t cn j k a4 a1.2 a6 a2 b1 a3 b2 hj hk9 h5
      by_cases k0 : k = 0
      · subst k0
        have hC : zC l G 9 yX10_member cX10_member 3 (Option.some Jvm.ClassFile.FieldType.int) [.ref (0 : Nat), .int (nI j), .int (nI 0)] M (zP (some (.int (M.1 45 j))) M) := hCk (by decide)
        have h2 := zc_mmember0 l G (zwL M 220 0 (M.1 45 j).toInt64) n j a5 a1.2 (by omega) hj
        rw [show (zwL M 220 0 (M.1 45 j).toInt64).1 313 j = M.1 45 j from (a9 j (by omega)).1.symm] at h2
        exact opI_m0 (d := 6) hg hc hk (zh_member l G M M (nI j) (nI 0) _ hC) (by decide) h2
      by_cases k1 : k = 1
      · subst k1
        have hC : zC l G 9 yX10_member cX10_member 3 (Option.some Jvm.ClassFile.FieldType.int) [.ref (0 : Nat), .int (nI j), .int (nI 1)] M (zP (some (.int (zb (bit (M.1 lc 0) j)))) M) := hCk (by decide)
        have h2 := zc_mmember1 l G (zwL M 220 0 (zb (bit (M.1 lc 0) j)).toInt64) n j a5 a1.2 (by omega) hj
        have hS := zIl_S b4 a8
        have hv : mLiar (m0 (zwL M 220 0 (zb (bit (M.1 lc 0) j)).toInt64)) j = bit (M.1 lc 0) j := by
          rw [(hS.2.2 j (by omega)).1, ← (hS.2.2 j (by omega)).2]
          unfold mLiar
          rw [m0W (by omega)]
        rw [hv] at h2
        exact opI_m0 (d := 6) hg hc hk (zh_member l G M M (nI j) (nI 1) _ hC) (by decide) h2
      have hk2 : 2 ≤ k := by omega
      rcases ht with ht | ht
      · obtain ⟨q1, q2, q3, q4, q5, q6, q7, -⟩ := ht
        obtain ⟨w64, w76, w65, w66, w67, w77⟩ := q7 j (by omega)
        have hC : zC l G 9 yX10_member cX10_member 3 (Option.some Jvm.ClassFile.FieldType.int) [.ref (0 : Nat), .int (nI j), .int (nI k)] M (zP (some (.int (nI 0))) M) := by
          by_cases k5 : k = 5
          · subst k5
            have h9 := zf_member5a l G M n j a4 a1.2 hj q1
            rw [w77] at h9
            exact h9
          · have h9 := hCk k5
            have hv : fMe lc j M k = nI 0 := by
              match k, hk2, hk9, k5 with
              | 2, _, _, _ => exact w77
              | 3, _, _, _ => exact w64
              | 4, _, _, _ => exact w65
              | 6, _, _, _ => exact w66
              | 7, _, _, _ => exact w67
            rw [hv] at h9
            exact h9
        exact opI_m0 (d := 6) hg hc hk (zh_member l G M M (nI j) (nI k) _ hC) (by decide) (zc_mmemberN l G (zwL M 220 0 (nI 0).toInt64) n j k a5 a1.2 (by omega) q2 hj hk2 hk9)
      · obtain ⟨n, t', c, d1, d2, d3, d4, d5, d6, d7, d8, d9, e1, e2, hT⟩ := ht.at hg
        have en := nI_inj (by omega) (by omega) (a4.symm.trans d4)
        have et := nI_inj (by omega) (by omega) (a6.symm.trans d6)
        subst en et
        obtain ⟨t1, t2, t3, t4, t5, t6, t7, t8, t9, u1, u2, u3, u4, u5⟩ := id hT
        obtain ⟨fs, hfs⟩ : ∃ fs : Nat → Nat, fs = fun r => (M.1 (1000 + 16 * 22 + j) r).toBitVec.toNat := ⟨_, rfl⟩
        have hfsr : ∀ r, r < 5 → M.1 (1000 + 16 * 22 + j) r = nI (fs r) ∧ fs r < 2 ^ 31 := fun r hr => by
          have h9 := hi_nat (u5 j hj r hr)
          rw [hfs]
          exact ⟨h9.2.1, by have := h9.1; simp only []; omega⟩
        have h2 := fun W => zc_mmember l G (zwL M 220 0 W) n c t j k fs d5 a1.2 (by omega) d7 d2 d9 (by omega) hj hk2 hk9 hfsr
        have hD : ∀ (W : Int64) cut, mDec (m0 (m0 (zwL M 220 0 W))) n c cut j = mDec M n c cut j := fun W cut => by
          refine mDec_same ?_ ?_ (fun i => ?_)
          · rw [zw_ne (by omega)]; exact m0W (by omega)
          · rw [zw_ne (by omega)]; exact m0W (by omega)
          · rw [zw_ne (by omega)]; exact m0W (by omega)
        have hD1 : ∀ (W : Int64) cut, mDec (m0 (zwL M 220 0 W)) n c cut j = mDec M n c cut j := fun W cut => mDec_same (m0W (by omega)) (m0W (by omega)) (fun i => m0W (by omega))
        have hstop : ∃ s, M.1 65 j = nI s ∧ 1 ≤ s ∧ s ≤ t + 1 ∧ mSt1 c t j fs = s := by
          unfold mSt1
          by_cases hjc : j = c
          · exact ⟨1, by rw [hjc]; exact u4, by omega, by omega, by rw [if_pos hjc]⟩
          · obtain ⟨s, s1, s2, s3, s4⟩ := orStop_is (t8 j hj hjc).2 d2 (u5 j hj)
            exact ⟨s, s1, s2, s3, by rw [if_neg hjc, hfs]; exact s4⟩
        obtain ⟨s, s1, s2, s3, s4⟩ := hstop
        by_cases k5 : k = 5
        · subst k5
          by_cases hjc : j = c
          · have hC := zf_member5b l G M n j a4 a1.2 hj (by rw [hjc]; exact d8)
            have h3 := h2 (M.1 77 j).toInt64
            have hv : mMe n c t j fs (zwL M 220 0 (M.1 77 j).toInt64) 5 = M.1 77 j := by
              show mDec (m0 (zwL M 220 0 (M.1 77 j).toInt64)) n c (mSt1 c t j fs) j = _
              rw [hD1, t9 j hj]
              unfold mDec
              rw [if_pos hjc, if_pos hjc]
            rw [hv] at h3
            exact opI_m0 (d := 6) hg hc hk (zh_member l G M M (nI j) (nI 5) _ hC) (by decide) h3
          · have hC := zf_member5c l G M n n c s j a4 a1.2 hj d8 (by omega) e1 a1.2 hjc s1 (by omega)
            obtain ⟨f1, f2⟩ := hT.res d1 d3 d2 hj hjc ⟨s2, s3⟩
            generalize oRes 60 n c j s 17 0 s M = R at *
            rw [f2] at hC
            obtain ⟨V, hV⟩ : ∃ V, V = mDec M n c s j := ⟨_, rfl⟩
            rw [← hV] at hC
            have H : ∀ a i, a ≠ 78 → a ≠ 80 → ¬ (a = 300 ∧ i = 0) → (m0 (zwL R 220 0 V.toInt64)).1 a i = M.1 a i := fun a i h1 h2 h3 => (m0W (by omega)).trans (f1 a i h1 h2)
            have h3 := zc_mmember l G (zwL R 220 0 V.toInt64) n c t j 5 fs (by rw [zwL_1, f1 _ _ (by omega) (by omega)]; exact d5) a1.2 (by omega) (by rw [zwL_1, f1 _ _ (by omega) (by omega)]; exact d7) d2 (by rw [zwL_1, f1 _ _ (by omega) (by omega)]; exact d9) (by omega) hj hk2 hk9 (fun r hr => by rw [zwL_1, f1 _ _ (by omega) (by omega)]; exact hfsr r hr)
            have hv : mMe n c t j fs (zwL R 220 0 V.toInt64) 5 = V := by
              show mDec (m0 (zwL R 220 0 V.toInt64)) n c (mSt1 c t j fs) j = _
              rw [s4, hV]
              exact mDec_same (H _ _ (by omega) (by omega) (by omega)) (H _ _ (by omega) (by omega) (by omega)) (fun i => H _ _ (by omega) (by omega) (by omega))
            rw [hv] at h3
            exact ⟨0, 6, 0, 0, V, _, _, by decide, by decide, by decide, by decide, zh_member l G M _ (nI j) (nI 5) _ hC, zCk.of h3, zw_same, fun _ => zwL_22 (M := R), hI.mem H⟩
        · have hC := hCk k5
          have hv : ∀ W : Int64, mMe n c t j fs (zwL M 220 0 W) k = fMe lc j M k := fun W => by
            match k, hk2, hk9, k5 with
            | 2, _, _, _ =>
              show mDec (m0 (zwL M 220 0 W)) n c (t + 1) j = M.1 77 j
              rw [hD1, t9 j hj]
            | 3, _, _, _ =>
              show (if j = c then nI 0 else M.1 (1000 + 16 * 22 + j) (t + 1)) = M.1 64 j
              by_cases hjc : j = c
              · rw [if_pos hjc, hjc]; exact u3.symm
              · rw [if_neg hjc]; exact (t8 j hj hjc).1.symm
            | 4, _, _, _ =>
              show nI (mSt1 c t j fs) = M.1 65 j
              rw [s4, s1]
            | 6, _, _, _ =>
              show nI (zcnt (fun p => mHas n c t j p && !decide ((m0 (zwL M 220 0 W)).1 (1000 + 16 * 21 + j) p = 0)) 57) = M.1 66 j
              rw [t7 j hj]
              congr 1
              exact zcnt_congr 57 (fun p hp => by rw [m0W (by omega)])
            | 7, _, _, _ => exact (t5 j hj).symm
          have h3 := h2 (fMe lc j M k).toInt64
          rw [hv] at h3
          exact opI_m0 (d := 6) hg hc hk (zh_member l G M M (nI j) (nI k) _ hC) (by decide) h3
end zAsk2
