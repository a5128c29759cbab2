section zAsk3
variable {n c t : Nat} {M : zM} {l : Launch} {G : zG}
theorem op_common (hst : l.stackTraces = false) (hI : zInv M) (v1 v2 v3 : Int32) : opZ l G zInv yL_common cL_common 6 [(0, 19, 22, 19)] yX11_common cX11_common 4 [.int v1, .int v2, .int v3] M := by
  obtain ⟨hg, hc, -, -, -, ht⟩ := id hI
  have hk := hI.keeps
  have b9 : ∀ a k, ¬ (a = 0 ∧ k = 10) → (mBs M).1 a k = M.1 a k := fun a k h => by unfold mBs; rw [zw_ne (by omega)]
  rcases ht with ht | ht
  · obtain ⟨q1, q2, q3, q4, q5, q6, q7, n6, t6, q8, q9, qa, qb⟩ := ht
    exact opZ_bs hg hc hk (by decide) (by decide) (zh_commonS l G M (mBs M) v1 v2 v3 (zf_commonN l G M hst n6 t6 v1 v2 v3 q8 q9 qa qb (oPof_m1 q1))) (by decide) (zc_mcommonN l G (mBs M) v1 v2 v3 (by rw [b9 _ _ (by omega)]; exact q2))
  · obtain ⟨n, t, c, d1, d2, d3, d4, d5, d6, d7, d8, d9, e1, e2, hT⟩ := ht.at hg
    cases hTo : mTold n c t v1 v2 v3 with
    | false => exact opZ_bs hg hc hk (by decide) (by decide) (zh_commonS l G M (mBs M) v1 v2 v3 (zf_commonN l G M hst n t v1 v2 v3 e1 d1.2 e2 d2 (oPof_no d1 d3 d8 hT.1 hTo))) (by decide) (zc_mcommonX l G (mBs M) n c t v1 v2 v3 (by rw [b9 _ _ (by omega)]; exact d5) d1.2 (by omega) (by rw [b9 _ _ (by omega)]; exact d7) d2 (by rw [b9 _ _ (by omega)]; exact d9) (by omega) hTo)
    | true =>
      obtain ⟨p1, p2, p3, p4, p5⟩ := oPof_yes d1 d3 d8 hT.1 hTo
      generalize mPn v2 v3 = p at *
      have hC := zf_common l G M n t p v1 v2 v3 e1 d1.2 e2 d2 p1 p2
      have h2 := zc_mcommon l G (zwL M 220 0 (if oCom 60 n p M = true then 1 else 0)) n c t p v1 v2 v3 d5 d1.2 (by omega) d7 d2 d9 (by omega) hTo p5 p2
      rw [← oCom_mCom d1 d3 hT (M2 := m0 (zwL M 220 0 (if oCom 60 n p M = true then 1 else 0))) (fun a j h => m0W h) p2 p3 p4] at h2
      exact opZ_m0 (d := 6) hg hc hk (zh_common l G M M v1 v2 v3 _ hC) (by decide) h2
theorem op_commons (hst : l.stackTraces = false) (hI : zInv M) (v1 : Int32) : opI l G zInv yL_commons cL_commons 4 [(0, 9, 12, 13)] yX11_commons cX11_commons 4 [.int v1] M := by
  obtain ⟨hg, hc, -, -, -, ht⟩ := id hI
  have hk := hI.keeps
  obtain ⟨n, t, a1, a2, a3, a4, a5, a6, -⟩ := id hg
  cases hw : mIn v1 (nI 1) (nI (t + 1)) with
  | false => exact opI_ba hg hc hk (by decide) (by decide) (zh_commonsI l G M (mBa M) v1 (zf_commonsK l G M hst t v1 a5 a2 hw)) (by decide) (zc_mcommonsX l G (mBa M) n t v1 (by simp [mBa, zw_at, a4]) a1.2 (by omega) (by simp [mBa, zw_at, a6]) a2 hw)
  | true =>
    obtain ⟨k, hk1, hk9, rfl⟩ := mIn_ex hw (by decide) (by omega)
    rcases ht with ht | ht
    · obtain ⟨q1, q2, q3, q4, q5, q6, q7, n6, t6, q8, q9, qa, qb⟩ := ht
      have hC := zf_commons l G M t n6 k a5 a2 q8 q9 hk1 hk9
      rw [if_pos q1] at hC
      exact opI_m0 (d := 6) hg hc hk (zh_commons l G M M (nI k) _ hC) (by decide) (zc_mcommonsN l G (zwL M 220 0 (nI 0).toInt64) n t k a4 a1.2 (by omega) a6 a2 q2 hk1 hk9)
    · obtain ⟨n, t', c, d1, d2, d3, d4, d5, d6, d7, d8, d9, e1, e2, hT⟩ := ht.at hg
      have et := nI_inj (by omega) (by omega) (a5.symm.trans d6)
      subst et
      have hC := zf_commons l G M t n k a5 a2 e1 d1.2 hk1 hk9
      rw [if_neg (by rw [d8]; exact nI_m1 (by omega))] at hC
      have h2 := fun W => zc_mcommons l G (zwL M 220 0 W) n c t k d5 d1.2 (by omega) d7 d2 d9 (by omega) hk1 hk9
      have hv : ∀ W : Int64, zcnt (fun p => decide (zlen p = k) && (mPath n c p && mCom (m0 (zwL M 220 0 W)) n c t p)) 57 = oOnes 60 n k M := fun W => by
        have hfr : zfr k ≤ zfr (k + 1) ∧ zfr (k + 1) ≤ 57 := by rcases (show k = 1 ∨ k = 2 ∨ k = 3 by omega) with rfl | rfl | rfl <;> decide
        unfold oOnes
        rw [zcnt_range (a := zfr k) (b := zfr (k + 1)) hfr.1 hfr.2 (fun i hi => by
          rw [decide_eq_false (fun e => by have := (zfr_len (L := k) ⟨hk1, by omega⟩ (by omega)).mpr e; omega)]; rfl) (fun i hi1 hi2 => by
          rw [decide_eq_false (fun e => by have := (zfr_len (L := k) ⟨hk1, by omega⟩ hi2).mpr e; omega)]; rfl)]
        refine zcnt_congr _ (fun i hi => ?_)
        have hp : zfr k + i < 57 := by omega
        have hl := (zfr_len (L := k) (p := zfr k + i) ⟨hk1, by omega⟩ hp).mp ⟨by omega, by omega⟩
        show (decide (zlen (zfr k + i) = k) && (mPath n c (zfr k + i) && mCom (m0 (zwL M 220 0 W)) n c t (zfr k + i))) = (oPath 60 M (zfr k + i) && oCom 60 n (zfr k + i) M)
        rw [decide_eq_true hl, Bool.true_and, hT.1.path d1 d3 hp]
        cases hpp : mPath n c (zfr k + i) with
        | false => rfl
        | true => rw [Bool.true_and, Bool.true_and, oCom_mCom d1 d3 hT (M2 := m0 (zwL M 220 0 W)) (fun a j h => m0W h) hp hpp (by omega)]
      have h3 := h2 (nI (oOnes 60 n k M)).toInt64
      rw [hv] at h3
      exact opI_m0 (d := 6) hg hc hk (zh_commons l G M M (nI k) _ hC) (by decide) h3
theorem op_covered (hI : zInv M) : opP l G zInv (Option.some Jvm.ClassFile.FieldType.boolean) yX10_covered cX10_covered 1 yX11_covered cX11_covered 3 [] M := by
  obtain ⟨hg, hc, -, -, -, ht⟩ := id hI
  have hk := hI.keeps
  obtain ⟨k1, k2, k3⟩ := zI_m0 hg hc
  rcases ht with ht | ht
  · obtain ⟨q1, q2, q3, q4, q5, q6, q7, n6, t6, q8, q9, qa, qb⟩ := ht
    have hC := zf_covered l G M n6 t6 q8 q9 qa qb
    rw [if_pos q1] at hC
    exact ⟨6, 0, 0, zb false, M, m0 M, by decide, by decide, by decide, hC, zCk.of (zc_mcoveredN l G M q2), hk _ k1 k2 k3⟩
  · obtain ⟨n, t, c, d1, d2, d3, d4, d5, d6, d7, d8, d9, e1, e2, hT⟩ := ht.at hg
    have hC := zf_covered l G M n t e1 d1.2 e2 d2
    rw [if_neg (by rw [d8]; exact nI_m1 (by omega))] at hC
    have h2 := zc_mcovered l G M n c t d5 d1.2 (by omega) d7 d2 d9 (by omega)
    have hM2 : ∀ a j, ¬ (a = 300 ∧ j = 0) → (m0 M).1 a j = M.1 a j := fun a j h => zw_ne (by omega)
    have h0 : oCom 60 n 0 M = mCom (m0 M) n c t 0 := oCom_mCom d1 d3 hT hM2 (by decide) rfl (by show 1 ≤ t + 1; omega)
    have hone : ∀ p, p < 57 → mPath n c p = true → zlen p = t + 1 → oHcp 60 n p M = (mCom (m0 M) n c t 0 || (mCom (m0 M) n c t p || (decide (zlen p = 3) && mCom (m0 M) n c t (1 + zsec p)))) := fun p hp hpp hpl => by
      unfold oHcp
      rw [h0, oCom_mCom d1 d3 hT hM2 hp hpp (by omega)]
      have h8 : decide (8 ≤ p) = decide (zlen p = 3) := by
        rw [decide_eq_decide]
        unfold zlen
        split
        · omega
        · split <;> omega
      rw [h8]
      cases h3 : decide (zlen p = 3) with
      | false => simp
      | true =>
        have hl3 := of_decide_eq_true h3
        have h9 := path_q n (by omega) c (by omega) p hp d1.1 d3 hpp (by omega)
        have hpre : zpre p = 1 + zsec p := by
          have h8 : 8 ≤ p := of_decide_eq_true (h8.trans h3)
          unfold zpre zsec
          rw [if_neg (by omega), if_neg (by omega)]
        rw [hpre] at h9
        rw [oCom_mCom d1 d3 hT hM2 (by omega) h9.2.2.2.1 (by omega)]
        simp [Bool.or_assoc]
    have hv : zall (fun p => !(mPath n c p && decide (zlen p = t + 1)) || (mCom (m0 M) n c t 0 || (mCom (m0 M) n c t p || (decide (zlen p = 3) && mCom (m0 M) n c t (1 + zsec p))))) 57 = oCov 60 n t M := by
      have hfr : zfr (t + 1) ≤ zfr (t + 2) ∧ zfr (t + 2) ≤ 57 := by rcases (show t = 0 ∨ t = 1 ∨ t = 2 by omega) with rfl | rfl | rfl <;> decide
      have hr : ∀ p, p < 57 → ((zfr (t + 1) ≤ p ∧ p < zfr (t + 2)) ↔ zlen p = t + 1) := fun p hp => zfr_len (L := t + 1) ⟨by omega, by omega⟩ hp
      unfold oCov
      rw [Bool.eq_iff_iff, zall_iff, zall_iff]
      constructor
      · intro h i hi
        have hp : zfr (t + 1) + i < 57 := by omega
        have h9 := h (zfr (t + 1) + i) hp
        have hl := (hr _ hp).mp ⟨by omega, by omega⟩
        rw [hT.1.path d1 d3 hp]
        cases hpp : mPath n c (zfr (t + 1) + i) with
        | false => rfl
        | true =>
          rw [hpp, decide_eq_true hl] at h9
          rw [hone _ hp hpp hl]
          exact h9
      · intro h p hp
        by_cases hpl : mPath n c p = true ∧ zlen p = t + 1
        · have h8 := (hr p hp).mpr hpl.2
          have h9 := h (p - zfr (t + 1)) (by omega)
          rw [show zfr (t + 1) + (p - zfr (t + 1)) = p by omega, hT.1.path d1 d3 hp, hpl.1, hone p hp hpl.1 hpl.2] at h9
          rw [hpl.1, decide_eq_true hpl.2]
          exact h9
        · have h7 : (mPath n c p && decide (zlen p = t + 1)) = false := by
            cases hb : mPath n c p && decide (zlen p = t + 1) with
            | false => rfl
            | true =>
              rw [Bool.and_eq_true, decide_eq_true_eq] at hb
              exact absurd hb hpl
          rw [h7]
          rfl
    rw [hv] at h2
    exact ⟨6, 0, 0, zb (oCov 60 n t M), M, m0 M, by decide, by decide, by decide, hC, zCk.of h2, hk _ k1 k2 k3⟩
theorem op_agreed (hst : l.stackTraces = false) (hI : zInv M) (v1 : Int32) : opZ l G zInv yL_agreed cL_agreed 4 [(0, 16, 19, 13)] yX11_agreed cX11_agreed 2 [.int v1] M := by
  obtain ⟨hg, hc, -, -, -, ht⟩ := id hI
  have hk := hI.keeps
  cases hw : mIn v1 (nI 0) (nI 1) with
  | false => exact opZ_ba hg hc hk (by decide) (by decide) (zh_agreedI l G M (mBa M) v1 (zf_agreedX l G M hst v1 hw)) (by decide) (zc_magreedX l G (mBa M) v1 hw)
  | true =>
    obtain ⟨k, -, hk9, rfl⟩ := mIn_ex hw (by decide) (by decide)
    rcases ht with ht | ht
    · obtain ⟨q1, q2, q3, q4, q5, q6, q7, n6, t6, q8, q9, qa, qb⟩ := ht
      have hC := zf_agreedN l G M k q1 (by omega)
      exact opZ_m0 (d := 7) hg hc hk (zh_agreed l G M M (nI k) _ hC) (by decide) (zc_magreedN l G (zwL M 220 0 (if false = true then 1 else 0)) k q2 (by omega))
    · obtain ⟨n, t, c, d1, d2, d3, d4, d5, d6, d7, d8, d9, e1, e2, hT⟩ := ht.at hg
      obtain ⟨t1, t2, t3, t4, t5, t6, t7, t8, t9, u1, u2, u3, u4, u5⟩ := id hT
      have hD : ∀ (W : Int64) m, m < n → mDec (m0 (zwL M 220 0 W)) n c (t + 1) m = M.1 77 m := fun W m hm => by
        rw [t9 m hm]
        exact mDec_same (m0W (by omega)) (m0W (by omega)) (fun i => m0W (by omega))
      have hTr : ∀ (W : Int64) m, m < n → mTrue (m0 (zwL M 220 0 W)) m = !bit (M.1 60 10) m := fun W m hm => by
        unfold mTrue
        rw [u2 m hm, m0W (by omega)]
      rcases (show k = 0 ∨ k = 1 by omega) with rfl | rfl
      · have hC := zf_agreed0 l G M n c d8 (by omega) e1 d1.2
        have h2 := fun W => zc_magreed0 l G (zwL M 220 0 W) n c t d5 d1.2 (by omega) d7 d2 d9 (by omega)
        have hv : ∀ W : Int64, mAgr (m0 (zwL M 220 0 W)) n c t = decide (zunl (M.1 (60 + 1 + 16)) (M.1 60 10) n ≤ 1) := fun W => by
          rw [zunl_le1]
          unfold mAgr
          refine zcom_congr n (fun i hi => ?_) (fun i hi _ => hD W i hi)
          unfold mAq
          rw [hTr W i hi]
          simp
        have h3 := h2 (if decide (zunl (M.1 (60 + 1 + 16)) (M.1 60 10) n ≤ 1) = true then 1 else 0)
        rw [hv] at h3
        exact opZ_m0 (d := 7) hg hc hk (zh_agreed l G M M (nI 0) _ hC) (by decide) h3
      · have hC := zf_agreed1 l G M n c d8 (by omega) e1 d1.2
        have h2 := fun W => zc_magreed1 l G (zwL M 220 0 W) n c t d5 d1.2 (by omega) d7 d2 d9 (by omega)
        have hv : ∀ W : Int64, (!mTrue (m0 (zwL M 220 0 W)) c || mObe (m0 (zwL M 220 0 W)) n c t) = oObeyed 60 n c M := fun W => by
          unfold oObeyed mObe
          rw [hTr W c d3, Bool.not_not]
          congr 1
          refine zall_congr n (fun i hi => ?_)
          rw [hD W i hi, m0W (by omega)]
          unfold mAq
          rw [hTr W i hi]
          show (!(!bit (M.1 60 10) i && !(true && decide (i = c))) || M.1 77 i == M.1 300 26) = (bit (M.1 60 10) i || M.1 77 i == M.1 60 11)
          rw [u1]
          by_cases e : i = c
          · have e9 : M.1 77 i = M.1 300 26 := by
              rw [t9 i hi]
              unfold mDec
              rw [if_pos e]
            rw [e9]
            simp
          · rw [decide_eq_false e]
            simp
        have h3 := h2 (if oObeyed 60 n c M = true then 1 else 0)
        rw [hv] at h3
        exact opZ_m0 (d := 7) hg hc hk (zh_agreed l G M M (nI 1) _ hC) (by decide) h3
end zAsk3
