section zAtk4
variable {l : Launch} {G : zG} {lt n r i w k : Nat} {M M2 : zM}
theorem zInv.thought (h : zInv M) : ∃ lt, lyL lt ∧ M.1 50 3 = nI lt := by
  obtain ⟨lc, lt, rc, n, cn, lb, p1, p2, p3, p4, p5, p6, p7, p8, -⟩ := h.2.2.2.1
  exact ⟨lt, p2, p8⟩
theorem zInv.keepsA (h : zInv M) (hL : lyL lt) (h53 : M.1 50 3 = nI lt) (hh : ∀ a j, ¬ fAx lt a j → ¬ (90 ≤ a ∧ a ≤ 110) → ¬ (a = 363 ∨ a = 364) → ¬ (a = 300 ∧ j = 0) → M2.1 a j = M.1 a j) : zInv M2 := by
  obtain ⟨hg, hc, hr, hp, hv, ht⟩ := h
  obtain ⟨lc, lt2, rc, n, cn, lb, p1, p2, p3, p4, p5, p6, p7, p8, p9, q1, q2, q3, q4, q5⟩ := hp
  have e : lt2 = lt := nI_inj p2.lt hL.lt (p8.symm.trans h53)
  subst e
  have hlr : 180 ≤ lc ∧ lc ≤ 200 ∧ 180 ≤ rc ∧ rc ≤ 200 ∧ 180 ≤ lt2 ∧ lt2 ≤ 200 ∧ (lt2 + 10 ≤ lc ∨ lc + 10 ≤ lt2) ∧ (lt2 + 10 ≤ rc ∨ rc + 10 ≤ lt2) := by unfold lyL at p1 p2 p3; omega
  have H : ∀ a j, ¬ ((a = 50 ∧ j ≤ 2) ∨ a = 55 ∨ (lt2 ≤ a ∧ a ≤ lt2 + 8) ∨ (90 ≤ a ∧ a ≤ 110) ∨ (a = 363 ∨ a = 364) ∨ (a = 300 ∧ j = 0)) → M2.1 a j = M.1 a j := fun a j g => hh a j (by unfold fAx; omega) (by omega) (by omega) (by omega)
  refine ⟨zIg_same hg (H _ _ (by omega)) (H _ _ (by omega)) (H _ _ (by omega)) (H _ _ (by omega)) (H _ _ (by omega)) (H _ _ (by omega)) (fun j => ⟨H _ _ (by omega), H _ _ (by omega)⟩), ⟨?_, ?_⟩, zIr_same hr (fun c k h => H c k (by omega)), ⟨lc, lt2, rc, n, cn, lb, p1, p2, p3, p4, p5, p6, ?_, ?_, ?_, fun a ha => ?_, fun a ha => ?_, ?_, q4, zIl_same q5 (fun a k h1 h2 => H _ _ (by omega)) (fun k => H _ _ (by omega)) (fun a k h => H _ _ (by omega))⟩, mlV_of hv (fun a k h => H a k (by omega)), ?_⟩
  · rw [H 0 10 (by omega), H 302 0 (by omega)]; exact hc.1
  · rw [H 0 11 (by omega), H 302 1 (by omega)]; exact hc.2
  · rw [H _ _ (by omega)]; exact p7
  · rw [H _ _ (by omega)]; exact p8
  · rw [H _ _ (by omega)]; exact p9
  · rw [H (lc + 1 + 6) _ (by omega), H (lc + 1 + 7) _ (by omega)]; exact q1 a ha
  · rw [H (rc + 1 + 6) _ (by omega), H (rc + 1 + 7) _ (by omega)]; exact q2 a ha
  · rw [H _ _ (by omega)]; exact q3
  · rcases ht with h | h
    · exact Or.inl (zIt0_same h (fun a k h1 h2 => H a k (by omega)) (fun k h1 h2 => H _ _ (by omega)))
    · exact Or.inr (zIt1_same h (fun c k h => H c k (by unfold zKt at h; omega)))
theorem mIn_p {v : Int32} {n : Nat} (h0 : 1 ≤ n) (hn : n < 2 ^ 31) : mIn v (nI 0) (nI (n - 1)) = zmem v n := by
  rw [← mIn_mem h0 hn, show nI n - nI 1 = nI (n - 1) from pk_sub h0]
theorem op_breaks (hst : l.stackTraces = false) (hI : zInv M) (v1 v2 v3 v4 : Int32) : opZ l G zInv yL_breaks cL_breaks 7 [(0, 21, 24, 19), (0, 21, 28, 13)] yX11_breaks cX11_breaks 5 [.int v1, .int v2, .int v3, .int v4] M := by
  obtain ⟨hg, hc, -⟩ := id hI
  have hk := hI.keeps
  obtain ⟨lt, hL, h53⟩ := hI.thought
  cases h1 : mIn v1 (nI 3) (nI 4) with
  | false => exact opZ_ba hg hc hk (by decide) (by decide) (zh_breaksI l G M (mBa M) v1 v2 v3 v4 (zf_breaksN l G M hst v1 v2 v3 v4 h1)) (d := 3) (by decide) (zc_mbreaksA l G (mBa M) v1 v2 v3 v4 h1)
  | true =>
    obtain ⟨n, n3, n4, rfl⟩ := mIn_ex h1 (by decide) (by decide)
    cases h3 : zmem v3 n with
    | false => exact opZ_bs hg hc hk (by decide) (by decide) (zh_breaksS l G M (mBs M) (nI n) v2 v3 v4 (zf_breaksI l G M hst n v2 v3 v4 ⟨n3, n4⟩ h3)) (d := 3) (by decide) (zc_mbreaksX l G (mBs M) n v2 v3 v4 n3 n4 (by rw [mIn_p (by omega) (by omega)]; exact h3))
    | true =>
      obtain ⟨i, hi, rfl⟩ := zmem_ex h3 (by omega)
      cases h2 : mIn v2 (nI 1) (nI 2) with
      | false => exact opZ_ba hg hc hk (by decide) (by decide) (zh_breaksI l G M (mBa M) (nI n) v2 (nI i) v4 (zf_breaksR l G M hst n i v2 v4 ⟨n3, n4⟩ hi h2)) (d := 3) (by decide) (zc_mbreaksB l G (mBa M) n i v2 v4 n3 n4 hi h2)
      | true =>
        obtain ⟨r, r1, r2, rfl⟩ := mIn_ex h2 (by decide) (by decide)
        have hW := p3_le (fWl_le (n := n) (r := r) (i := i) n4)
        cases h4 : zmem v4 (3 ^ fWl n r i) with
        | false => exact opZ_ba hg hc hk (by decide) (by decide) (zh_breaksI l G M (mBa M) (nI n) (nI r) (nI i) v4 (zf_breaksW l G M hst n r i v4 ⟨n3, n4⟩ ⟨r1, r2⟩ hi h4)) (d := 3) (by decide) (zc_mbreaksC l G (mBa M) n r i v4 n3 n4 hi r1 r2 (by show mIn v4 (nI 0) (nI (3 ^ fWl n r i - 1)) = false; rw [mIn_p (by omega) (by omega)]; exact h4))
        | true =>
          obtain ⟨w, hw, rfl⟩ := zmem_ex h4 (by omega)
          obtain ⟨f1, -, f3⟩ := fAt_v (w := w) hL h53 ⟨n3, n4⟩ ⟨r1, r2⟩ hi
          have hC := zf_breaks l G M lt n r i w ⟨n3, n4⟩ ⟨r1, r2⟩ hi hw h53 hL
          rw [f1, (v_ok ⟨n3, n4⟩ ⟨r1, r2⟩ hi hw).2] at hC
          generalize hb : aBk (aOd n r i w) n i = b at hC
          have h2 := zc_mbreaks l G (zwL (fAt lt n r i w M) 220 0 (if b = true then 1 else 0)) n r i w n3 n4 hi r1 r2 hw
          rw [hb] at h2
          have hK := aTry_k n r i w (m0 (zwL (fAt lt n r i w M) 220 0 (if b = true then 1 else 0)))
          refine ⟨0, 3, 0, 0, b, _, _, by decide, by decide, by decide, by decide, zh_breaks l G M _ (nI n) (nI r) (nI i) (nI w) b hC, zCk.of h2, ?_, fun _ => ?_, hI.keepsA hL h53 (fun a j e1 e2 e3 e4 => ?_)⟩
          · rw [hK.1 _ _ (by omega)]; exact zw_same
          · rw [hK.2]; exact zwL_22 (M := fAt lt n r i w M)
          · rw [hK.1 _ _ e3]
            exact (m0W (by omega)).trans (f3 a j e1 e2)
theorem fAL_at (hL : lyL lt) (h53 : M.1 50 3 = nI lt) (hn : 3 ≤ n ∧ n ≤ 4) (hr : 1 ≤ r ∧ r ≤ 2) (hi : i < n) : ∀ p, p ≤ 3 ^ fWl n r i → (fAL lt n r i M p).1 + zcnt (vBr n r i) (3 ^ fWl n r i - p) = zcnt (vBr n r i) (3 ^ fWl n r i) ∧ (zfst (vBr n r i) (3 ^ fWl n r i) = match zfst (vBr n r i) (3 ^ fWl n r i - p) with | some a => some a | none => (fAL lt n r i M p).2.1) ∧ ∀ a j, ¬ fAx lt a j → ¬ (90 ≤ a ∧ a ≤ 110) → (fAL lt n r i M p).2.2.1 a j = M.1 a j
  | 0, _ => by
    refine ⟨Nat.zero_add _, ?_, fun _ _ _ _ => rfl⟩
    show zfst (vBr n r i) (3 ^ fWl n r i) = match zfst (vBr n r i) (3 ^ fWl n r i) with | some a => some a | none => none
    cases zfst (vBr n r i) (3 ^ fWl n r i) <;> rfl
  | p + 1, hp => by
    obtain ⟨h1, h2, h3⟩ := fAL_at hL h53 hn hr hi p (by omega)
    have hl : 180 ≤ lt := by unfold lyL at hL; omega
    have h5 : (fAL lt n r i M p).2.2.1 50 3 = nI lt := (h3 50 3 (by unfold fAx; omega) (by omega)).trans h53
    obtain ⟨f1, -, f3⟩ := fAt_v (w := 3 ^ fWl n r i - 1 - p) hL h5 hn hr hi
    have ex : 3 ^ fWl n r i - p = (3 ^ fWl n r i - 1 - p) + 1 := by omega
    have ey : 3 ^ fWl n r i - (p + 1) = 3 ^ fWl n r i - 1 - p := by omega
    rw [ex, zcnt_s] at h1
    rw [ex] at h2
    have hs : zfst (vBr n r i) (3 ^ fWl n r i - 1 - p + 1) = match zfst (vBr n r i) (3 ^ fWl n r i - 1 - p) with | some a => some a | none => if vBr n r i (3 ^ fWl n r i - 1 - p) then some (3 ^ fWl n r i - 1 - p) else none := rfl
    rw [hs] at h2
    rw [ey]
    cases hb : vBr n r i (3 ^ fWl n r i - 1 - p) with
    | true =>
      rw [fAL_t (f1.trans hb)]
      rw [hb] at h1 h2
      refine ⟨?_, ?_, fun a j e1 e2 => (f3 a j e1 e2).trans (h3 a j e1 e2)⟩
      · rw [if_pos rfl] at h1
        show (fAL lt n r i M p).1 + 1 + _ = _
        omega
      · rw [h2]
        cases zfst (vBr n r i) (3 ^ fWl n r i - 1 - p) <;> rfl
    | false =>
      rw [fAL_f (f1.trans hb)]
      rw [hb] at h1 h2
      refine ⟨?_, ?_, fun a j e1 e2 => (f3 a j e1 e2).trans (h3 a j e1 e2)⟩
      · rw [if_neg (by decide)] at h1
        exact h1
      · rw [h2]
        cases zfst (vBr n r i) (3 ^ fWl n r i - 1 - p) <;> rfl
theorem op_attacks (hst : l.stackTraces = false) (hI : zInv M) (v1 v2 v3 v4 : Int32) : opI l G zInv yL_attacks cL_attacks 7 [(0, 14, 17, 19), (0, 14, 21, 13)] yX11_attacks cX11_attacks 10 [.int v1, .int v2, .int v3, .int v4] M := by
  obtain ⟨hg, hc, -⟩ := id hI
  have hk := hI.keeps
  obtain ⟨lt, hL, h53⟩ := hI.thought
  cases h1 : mIn v1 (nI 3) (nI 4) with
  | false => exact opI_ba hg hc hk (by decide) (by decide) (zh_attacksI l G M (mBa M) v1 v2 v3 v4 (zf_attacksN l G M hst v1 v2 v3 v4 h1)) (d := 3) (by decide) (zc_mattacksA l G (mBa M) v1 v2 v3 v4 h1)
  | true =>
    obtain ⟨n, n3, n4, rfl⟩ := mIn_ex h1 (by decide) (by decide)
    cases h3 : zmem v3 n with
    | false => exact opI_bs hg hc hk (by decide) (by decide) (zh_attacksS l G M (mBs M) (nI n) v2 v3 v4 (zf_attacksI l G M hst n v2 v3 v4 ⟨n3, n4⟩ h3)) (d := 3) (by decide) (zc_mattacksX l G (mBs M) n v2 v3 v4 n3 n4 (by rw [mIn_p (by omega) (by omega)]; exact h3))
    | true =>
      obtain ⟨i, hi, rfl⟩ := zmem_ex h3 (by omega)
      cases h2 : mIn v2 (nI 1) (nI 2) with
      | false => exact opI_ba hg hc hk (by decide) (by decide) (zh_attacksI l G M (mBa M) (nI n) v2 (nI i) v4 (zf_attacksR l G M hst n i v2 v4 ⟨n3, n4⟩ hi h2)) (d := 3) (by decide) (zc_mattacksB l G (mBa M) n i v2 v4 n3 n4 hi h2)
      | true =>
        obtain ⟨r, r1, r2, rfl⟩ := mIn_ex h2 (by decide) (by decide)
        cases h4 : mIn v4 (nI 0) (nI 3) with
        | false => exact opI_ba hg hc hk (by decide) (by decide) (zh_attacksI l G M (mBa M) (nI n) (nI r) (nI i) v4 (zf_attacksW l G M hst n r i v4 ⟨n3, n4⟩ ⟨r1, r2⟩ hi h4)) (d := 3) (by decide) (zc_mattacksC l G (mBa M) n r i v4 n3 n4 hi r1 r2 h4)
        | true =>
          obtain ⟨k, -, hk3, rfl⟩ := mIn_ex h4 (by decide) (by decide)
          obtain ⟨a1, a2, a3⟩ := fAL_at (M := M) hL h53 ⟨n3, n4⟩ ⟨r1, r2⟩ hi (3 ^ fWl n r i) (Nat.le_refl _)
          rw [Nat.sub_self] at a1 a2
          have hl : 180 ≤ lt := by unfold lyL at hL; omega
          obtain ⟨b, l9, R, hB⟩ : ∃ b l9 R, fAL lt n r i M (3 ^ fWl n r i) = (b, l9, R) := ⟨_, _, _, rfl⟩
          rw [hB] at a1 a2 a3
          have b1 : b = zcnt (fun w => aBk (aOd n r i w) n i) (3 ^ fWl n r i) := (show b + 0 = _ from a1).trans (zcnt_congr _ (fun w hw => (v_ok ⟨n3, n4⟩ ⟨r1, r2⟩ hi hw).2))
          have b2 : l9 = zfst (fun w => aBk (aOd n r i w) n i) (3 ^ fWl n r i) := by
            rw [← zfst_congr _ (fun w hw => (v_ok ⟨n3, n4⟩ ⟨r1, r2⟩ hi hw).2)]
            exact a2.symm
          have fin : ∀ (V : Int32) (M1 : zM), zC l G 9 yX10_attacks cX10_attacks 9 (Option.some Jvm.ClassFile.FieldType.int) [.ref (0 : Nat), .int (nI n), .int (nI r), .int (nI i), .int (nI k)] M (zP (some (.int V)) M1) → V = (if k = 0 then nI (aPw n r i) else if k = 1 then nI (zcnt (fun w => aBk (aOd n r i w) n i) (aPw n r i)) else if k = 2 then zfv (fun w => aBk (aOd n r i w) n i) (aPw n r i) else nI (aKf n r i (zfst (fun w => aBk (aOd n r i w) n i) (aPw n r i)))) → (∀ a j, ¬ fAx lt a j → ¬ (90 ≤ a ∧ a ≤ 110) → M1.1 a j = M.1 a j) → opI l G zInv yL_attacks cL_attacks 7 [(0, 14, 17, 19), (0, 14, 21, 13)] yX11_attacks cX11_attacks 10 [.int (nI n), .int (nI r), .int (nI i), .int (nI k)] M := fun V M1 hC hV hM1 => by
            have h2 := zc_mattacks l G (zwL M1 220 0 V.toInt64) n r i k n3 n4 hi r1 r2 hk3
            rw [← hV] at h2
            have hK : kA (m0 (zwL M1 220 0 V.toInt64)) (aAll n r i (aPw n r i) (m0 (zwL M1 220 0 V.toInt64))) := zKf.for _ _ (fun w D _ => aTry_k n r i w D)
            refine ⟨0, 3, 0, 0, V, _, _, by decide, by decide, by decide, by decide, zh_attacks l G M _ (nI n) (nI r) (nI i) (nI k) V hC, zCk.of h2, ?_, fun _ => ?_, hI.keepsA hL h53 (fun a j e1 e2 e3 e4 => ?_)⟩
            · rw [hK.1 _ _ (by omega)]; exact zw_same
            · rw [hK.2]; exact zwL_22 (M := M1)
            · rw [hK.1 _ _ e3]
              exact (m0W (by omega)).trans (hM1 a j e1 e2)
          by_cases k3 : k = 3
          · subst k3
            cases hl9 : l9 with
            | none =>
              refine fin (nI 0) R (zf_attacks3a l G M lt n r i ⟨n3, n4⟩ ⟨r1, r2⟩ hi h53 hL b l9 R hB hl9) ?_ a3
              rw [if_neg (by decide), if_neg (by decide), if_neg (by decide), show zfst (fun w => aBk (aOd n r i w) n i) (aPw n r i) = none from b2.symm.trans hl9]
              rfl
            | some a =>
              have ha : a < 3 ^ fWl n r i := zfst_lt (b2.symm.trans hl9)
              have h5 : R.1 50 3 = nI lt := (a3 50 3 (by unfold fAx; omega) (by omega)).trans h53
              obtain ⟨-, f2, f3⟩ := fAt_v (w := a) hL h5 ⟨n3, n4⟩ ⟨r1, r2⟩ hi
              refine fin _ _ (zf_attacks3b l G M lt n r i a ⟨n3, n4⟩ ⟨r1, r2⟩ hi h53 hL b l9 R hB hl9 ha) ?_ (fun a j e1 e2 => (f3 a j e1 e2).trans (a3 a j e1 e2))
              rw [if_neg (by decide), if_neg (by decide), if_neg (by decide), show zfst (fun w => aBk (aOd n r i w) n i) (aPw n r i) = some a from b2.symm.trans hl9, f2, (v_ok ⟨n3, n4⟩ ⟨r1, r2⟩ hi ha).1]
              rfl
          · refine fin _ R (zf_attacks l G M lt n r i k ⟨n3, n4⟩ ⟨r1, r2⟩ hi h53 hL b l9 R hB (by omega)) ?_ a3
            rcases (show k = 0 ∨ k = 1 ∨ k = 2 by omega) with rfl | rfl | rfl
            · rfl
            · rw [b1]; rfl
            · rw [b2]
              show zoi (zfst (fun w => aBk (aOd n r i w) n i) (3 ^ fWl n r i)) = zfv (fun w => aBk (aOd n r i w) n i) (3 ^ fWl n r i)
              unfold zfv
              cases zfst (fun w => aBk (aOd n r i w) n i) (3 ^ fWl n r i) <;> rfl
end zAtk4
