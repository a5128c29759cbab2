def nLeB (w x : UInt32) : Bool := decide (¬ 0 < Op.cmpValue (FP.fcmp w x) .g)
def nLs (o g lc n t md : Nat) (cn : Nat → Nat) (lim : UInt32) : Nat → Nat → zM → Int32 × zM
  | 0, _, M => (-1, M)
  | f + 1, k, M => if nLeB (nWd (M.1 (o + 1 + 0)) (M.1 lc 0) n) lim then (nI k, M) else nLs o g lc n t md cn lim f (k + 1) (nStep o g lc n t md cn M)
set_option maxHeartbeats 1000000 in
theorem zc_leastSteps (l : Launch) (G : zG) (M : zM) (o g lc n t md : Nat) (lim : UInt32) (cn : Nat → Nat) (hO : zOb 4 o) (hG : zOb 1 g) (h0 : nI0 o g lc n t cn M) (hn7 : n ≤ 7) (ht2 : t ≤ 2) (hlc : lc < 2 ^ 31) (hL : lyF lc o (o + 3)) (hgo : g + 5 < o ∨ o + 3 < g) (hmd2 : md < 2) : zC l G 5 yX5_leastSteps cX5_leastSteps 5 (Option.some Jvm.ClassFile.FieldType.int) [.ref o, .ref g, .float lim, .int (nI md)] M (zP (some (.int (nLs o g lc n t md cn lim 61 0 (nBeg o g 7 M)).1)) (nLs o g lc n t md cn lim 61 0 (nBeg o g 7 M)).2) := by
  refine zC_of (by decide) (Nat.le_of_ble_eq_true rfl) (fun X Q hQ hX hl hR hr => ?_)
  refine zV_loc (L' := [.ref o, .ref g, .float lim, .int (nI md), .null]) rfl ?_
  have L8 : ∀ (f9 k : Nat) (M9 : zM), 61 - k < f9 → k ≤ 61 → nIv o g lc n t cn M9 → nLs o g lc n t md cn lim (61 - k) k M9 = nLs o g lc n t md cn lim 61 0 (nBeg o g 7 M) → zV G X Q 5 0 0 8 [.ref o, .ref g, .float lim, .int (nI md), .int (nI k)] [] M9 := by
    intro f9
    induction f9 with
    | zero => intro k M9 hk1 hk2 h9 he; exact absurd hk1 (Nat.not_lt_zero _)
    | succ f9 ih =>
      intro k M9 hk1 hk2 h9 he
      refine zV_iload hX dX5_leastSteps_8 rfl ?_
      refine zV_bipush hX (v := nI 60) dX5_leastSteps_10 (by decide) ?_
      refine zV_icmp_gtN hX (tgt := 40) dX5_leastSteps_12 (by decide) ⟨by omega, by omega⟩ (fun c_12 => ?_) (fun c_12 => ?_)
      · have e8 : nLs o g lc n t md cn lim (61 - k) k M9 = (-1, M9) := by rw [show 61 - k = 0 by omega]; rfl
        refine zV_iconst hX (v := (-1)) dX5_leastSteps_40 (by decide) ?_
        exact zV_reti hX hQ hr (⟨by rw [← he, e8], by rw [← he, e8]⟩) dX5_leastSteps_41
      · obtain ⟨fu, hfu⟩ : ∃ fu, 61 - k = fu + 1 := ⟨60 - k, by omega⟩
        refine zV_aload_n hX dX5_leastSteps_15 rfl ?_
        refine zV_aload_n hX dX5_leastSteps_16 rfl ?_
        refine zV_cV1p hX hR hl dX5_leastSteps_17 (zc_width l G _ o g lc n t cn hO hG h9 hn7 ht2 hlc hL hgo) zt_X5_width rfl zml_X5_29 hO.1 ⟨by decide, by decide⟩ (Nat.le_of_ble_eq_true rfl) ?_
        dsimp only [Option.toList, List.cons_append, List.nil_append]
        refine zV_fload_n hX dX5_leastSteps_20 rfl ?_
        refine zV_fcmp hX dX5_leastSteps_21 ?_
        refine zV_if_gt hX (tgt := 28) dX5_leastSteps_22 (by decide) (fun c_22 => ?_) (fun c_22 => ?_)
        · have e8 : nLs o g lc n t md cn lim (61 - (k + 1)) (k + 1) (nStep o g lc n t md cn M9) = nLs o g lc n t md cn lim (61 - k) k M9 := by rw [hfu, show 61 - (k + 1) = fu by omega]; exact (if_neg (fun q => absurd c_22 (of_decide_eq_true q))).symm
          refine zV_aload_n hX dX5_leastSteps_28 rfl ?_
          refine zV_aload_n hX dX5_leastSteps_29 rfl ?_
          refine zV_iload_n hX dX5_leastSteps_30 rfl ?_
          refine zV_cV2p hX hR hl dX5_leastSteps_31 (zc_nstep l G _ o g lc n t md cn hO hG h9 hn7 ht2 hlc hL hgo hmd2) zt_X5_step rfl zml_X5_25 hO.1 ⟨by decide, by decide⟩ (Nat.le_of_ble_eq_true rfl) ?_
          dsimp only [Option.toList, List.cons_append, List.nil_append]
          have h10 := nStep_iv (md := md) h9 hL hgo hn7
          refine zV_iincN hX (b := 1) dX5_leastSteps_34 rfl (by decide) ?_
          dsimp only [zst1, zst2, zclr, zc2]
          refine zV_goto hX (tgt := 8) dX5_leastSteps_37 (by decide) ?_
          exact ih (k + 1) _ (by omega) (by omega) h10 (e8.trans he)
        · have e8 : nLs o g lc n t md cn lim (61 - k) k M9 = (nI k, M9) := by rw [hfu]; exact if_pos (decide_eq_true c_22)
          refine zV_iload hX dX5_leastSteps_25 rfl ?_
          exact zV_reti hX hQ hr (⟨by rw [← he, e8], by rw [← he, e8]⟩) dX5_leastSteps_27
  refine zV_aload_n hX dX5_leastSteps_0 rfl ?_
  refine zV_aload_n hX dX5_leastSteps_1 rfl ?_
  refine zV_cV1p hX hR hl dX5_leastSteps_2 (zc_nbegin l G M o g hO hG hgo h0.2.2.2.2.1) zt_X5_begin rfl zml_X5_21 hO.1 ⟨by decide, by decide⟩ (Nat.le_of_ble_eq_true rfl) ?_
  dsimp only [Option.toList, List.cons_append, List.nil_append]
  refine zV_iconst hX (v := nI 0) dX5_leastSteps_5 (by decide) ?_
  refine zV_istore hX dX5_leastSteps_6 (by decide) ?_
  dsimp only [zst1, zst2, zclr, zc2]
  exact L8 62 0 _ (by omega) (by omega) (nBeg_iv h0 hL hgo) rfl
