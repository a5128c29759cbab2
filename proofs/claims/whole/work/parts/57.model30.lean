def mLq (n t md : Nat) (mn : Nat → Option Nat) (lim : UInt32) : Nat → Nat → zM → Int32 × zM
  | 0, _, M => (-1, M)
  | f + 1, k, M => if nLeB (mSpr n M) lim then (nI k, M) else mLq n t md mn lim f (k + 1) (mNst n t md mn M)
abbrev aLim (a b : Nat) : UInt32 := FP.fdiv (FP.i2f (nI a)) (FP.i2f (nI b))
set_option maxHeartbeats 1000000 in
theorem zc_msteps (l : Launch) (G : zG) (M : zM) (n t a b md : Nat) (mn : Nat → Option Nat) (hn : M.1 300 9 = nI n) (hn7 : n ≤ 7) (h0 : 1 ≤ n) (ht : M.1 300 10 = nI t) (ht2 : t ≤ 2) (ha : a ≤ 99999) (hb1 : 1 ≤ b) (hb : b ≤ 999) (hmd2 : md < 2) (hmn : mLn 0 M mn) (hlv : mlV M) (hv : ∀ m, m < 7 → okV (M.1 313 m)) : zC l G 5 yX11_steps cX11_steps 5 (Option.some Jvm.ClassFile.FieldType.int) [.ref (300 : Nat), .int (nI a), .int (nI b), .int (nI md)] M (zP (some (.int ((mLq n t md mn (aLim a b) 61 0 (mNb n (m0 M))).1))) ((mLq n t md mn (aLim a b) 61 0 (mNb n (m0 M))).2)) := by
  refine zC_of (by decide) (Nat.le_of_ble_eq_true rfl) (fun X Q hQ hX hl hR hr => ?_)
  refine zV_loc (L' := [.ref (300 : Nat), .int (nI a), .int (nI b), .int (nI md), .null]) rfl ?_
  have hmn0 : mLn 0 (m0 M) mn := hmn
  have hlv0 : mlV (m0 M) := fun s i hs hi => by have hq : 3100 ≤ mLc s i := (by unfold mLc; omega); rw [zw_ne (by omega), zw_ne (by omega)]; exact hlv s i hs hi
  have hv0 : ∀ m, m < 7 → okV ((m0 M).1 313 m) := hv
  obtain ⟨s9, N9, hsq⟩ := frac_sq (a := nI a) (b := nI b) (A := a) (B := b) (by rw [toInt_nI' (by omega)]; omega) (by omega) (toInt_nI' (by omega)) hb1 hb
  have L58 : ∀ (f9 k : Nat) (M9 : zM), 61 - k < f9 → k ≤ 61 → kN (m0 M) M9 → mHb n M9 → mLq n t md mn (aLim a b) (61 - k) k M9 = (mLq n t md mn (aLim a b) 61 0 (mNb n (m0 M))) → zV G X Q 5 0 0 58 [.ref (300 : Nat), .int (nI a), .int (nI b), .int (nI md), .int (nI k)] [] M9 := by
    intro f9
    induction f9 with
    | zero => intro k M9 hk1 hk2 hK hH he9; exact absurd hk1 (Nat.not_lt_zero _)
    | succ f9 ih =>
      intro k M9 hk1 hk2 hK hH he9
      refine zV_iload hX dX11_steps_58 rfl ?_
      refine zV_bipush hX (v := nI 60) dX11_steps_60 (by decide) ?_
      refine zV_icmp_gtN hX (tgt := 92) dX11_steps_62 (by decide) ⟨by omega, by omega⟩ (fun c_62 => ?_) (fun c_62 => ?_)
      · have e8 : mLq n t md mn (aLim a b) (61 - k) k M9 = (-1, M9) := by rw [show 61 - k = 0 by omega]; rfl
        refine zV_iconst hX (v := (-1)) dX11_steps_92 (by decide) ?_
        exact zV_reti hX hQ hr (⟨by rw [← he9, e8], by rw [← he9, e8]⟩) dX11_steps_93
      · obtain ⟨fu, hfu⟩ : ∃ fu, 61 - k = fu + 1 := ⟨60 - k, by omega⟩
        refine zV_aload_n hX dX11_steps_65 rfl ?_
        refine zV_cV0p hX hR hl dX11_steps_66 (zc_spreadNow l G M9 n (hK.at ((zw_ne (by omega)).trans hn) (by unfold mFrN; omega)) hn7 hH) zt_X11_spreadNow rfl zml_X11_504 zo300.1 ⟨by decide, by decide⟩ (Nat.le_of_ble_eq_true rfl) ?_
        dsimp only [Option.toList, List.cons_append, List.nil_append]
        refine zV_iload_n hX dX11_steps_69 rfl ?_
        refine zV_i2f hX dX11_steps_70 ?_
        refine zV_iload_n hX dX11_steps_71 rfl ?_
        refine zV_i2f hX dX11_steps_72 ?_
        refine zV_fdiv hX dX11_steps_73 (sq_n hsq) ?_
        refine zV_fcmp hX dX11_steps_74 ?_
        refine zV_if_gt hX (tgt := 81) dX11_steps_75 (by decide) (fun c_75 => ?_) (fun c_75 => ?_)
        · have e8 : mLq n t md mn (aLim a b) (61 - (k + 1)) (k + 1) (mNst n t md mn M9) = mLq n t md mn (aLim a b) (61 - k) k M9 := by rw [hfu, show 61 - (k + 1) = fu by omega]; exact (if_neg (fun q => absurd c_75 (of_decide_eq_true q))).symm
          refine zV_aload_n hX dX11_steps_81 rfl ?_
          refine zV_iload_n hX dX11_steps_82 rfl ?_
          refine zV_cV1p hX hR hl dX11_steps_83 (zc_stepsOn l G M9 n t md mn (hK.at ((zw_ne (by omega)).trans hn) (by unfold mFrN; omega)) hn7 (hK.at ((zw_ne (by omega)).trans ht) (by unfold mFrN; omega)) ht2 hmd2 (hK.ln hmn0) (kN.lv hK hlv0) hH) zt_X11_stepsOn rfl zml_X11_498 zo300.1 ⟨by decide, by decide⟩ (Nat.le_of_ble_eq_true rfl) ?_
          dsimp only [Option.toList, List.cons_append, List.nil_append]
          refine zV_iincN hX (b := 1) dX11_steps_86 rfl (by decide) ?_
          dsimp only [zst1, zst2, zclr, zc2]
          refine zV_goto hX (tgt := 58) dX11_steps_89 (by decide) ?_
          exact ih (k + 1) _ (by omega) (by omega) (hK.tr (mNst_N n t md mn _)) (mNst_hb (t := t) (md := md) hH (kN.lv hK hlv0) (hK.ln hmn0) hn7) (e8.trans he9)
        · have e8 : mLq n t md mn (aLim a b) (61 - k) k M9 = (nI k, M9) := by rw [hfu]; exact if_pos (decide_eq_true c_75)
          refine zV_iload hX dX11_steps_78 rfl ?_
          exact zV_reti hX hQ hr (⟨by rw [← he9, e8], by rw [← he9, e8]⟩) dX11_steps_80
  refine zV_aload_n hX dX11_steps_0 rfl ?_
  refine zV_iconst hX (v := nI 0) dX11_steps_1 (by decide) ?_
  refine zV_puti hX dX11_steps_2 zf_X11_149 zp_9_0 zo300.1 rfl ?_
  refine zV_aload_n hX dX11_steps_5 rfl ?_
  refine zV_iload_n hX dX11_steps_6 rfl ?_
  refine zV_iconst hX (v := nI 0) dX11_steps_7 (by decide) ?_
  refine zV_ldc hX dX11_steps_8 zkc_X11_184 ?_
  refine zV_topi (nI 99999) (by decide) ?_
  refine zV_cS3p hX hR hl dX11_steps_10 (zc_min l G _ _ _ _) zt_X11_in rfl zml_X11_162 (by decide) (Nat.le_of_ble_eq_true rfl) ?_
  dsimp only [Option.toList, List.cons_append, List.nil_append]
  refine zV_topi (zb true) (by rw [mIn_nI (by omega) (by omega) (by omega), decide_eq_false (by omega), Bool.not_false]) ?_
  refine zV_if_eqB hX (tgt := 36) dX11_steps_13 (by decide) (fun c_13 => absurd c_13 (by decide)) (fun c_13 => ?_)
  refine zV_iload_n hX dX11_steps_16 rfl ?_
  refine zV_iconst hX (v := nI 1) dX11_steps_17 (by decide) ?_
  refine zV_sipush hX (v := nI 999) dX11_steps_18 (by decide) ?_
  refine zV_cS3p hX hR hl dX11_steps_21 (zc_min l G _ _ _ _) zt_X11_in rfl zml_X11_162 (by decide) (Nat.le_of_ble_eq_true rfl) ?_
  dsimp only [Option.toList, List.cons_append, List.nil_append]
  refine zV_topi (zb true) (by rw [mIn_nI (by omega) (by omega) (by omega), decide_eq_false (by omega), Bool.not_false]) ?_
  refine zV_if_eqB hX (tgt := 36) dX11_steps_24 (by decide) (fun c_24 => absurd c_24 (by decide)) (fun c_24 => ?_)
  refine zV_iload_n hX dX11_steps_27 rfl ?_
  refine zV_iconst hX (v := nI 0) dX11_steps_28 (by decide) ?_
  refine zV_iconst hX (v := nI 1) dX11_steps_29 (by decide) ?_
  refine zV_cS3p hX hR hl dX11_steps_30 (zc_min l G _ _ _ _) zt_X11_in rfl zml_X11_162 (by decide) (Nat.le_of_ble_eq_true rfl) ?_
  dsimp only [Option.toList, List.cons_append, List.nil_append]
  refine zV_topi (zb true) (by rw [mIn_nI (by omega) (by omega) (by omega), decide_eq_false (by omega), Bool.not_false]) ?_
  refine zV_if_neB hX (tgt := 40) dX11_steps_33 (by decide) (fun c_33 => ?_) (fun c_33 => absurd c_33 (by decide))
  refine zV_iconst hX (v := nI 0) dX11_steps_40 (by decide) ?_
  refine zV_iconst hX (v := nI 1) dX11_steps_41 (by decide) ?_
  refine zV_iconst hX (v := nI 1) dX11_steps_42 (by decide) ?_
  refine zV_cV3p hX hR hl dX11_steps_43 (zc_badF1 l G _ _ zw_same) zt_X11_bad rfl zml_X11_166 zo300.1 ⟨by decide, by decide⟩ (Nat.le_of_ble_eq_true rfl) ?_
  dsimp only [Option.toList, List.cons_append, List.nil_append]
  refine zV_if_eqB hX (tgt := 51) dX11_steps_46 (by decide) (fun c_46 => ?_) (fun c_46 => absurd c_46 (by decide))
  refine zV_aload_n hX dX11_steps_51 rfl ?_
  refine zV_cV0p hX hR hl dX11_steps_52 (zc_beginsNearer l G (m0 M) n ((zw_ne (by omega)).trans hn) hn7 hv0) zt_X11_beginsNearer rfl zml_X11_495 zo300.1 ⟨by decide, by decide⟩ (Nat.le_of_ble_eq_true rfl) ?_
  dsimp only [Option.toList, List.cons_append, List.nil_append]
  refine zV_iconst hX (v := nI 0) dX11_steps_55 (by decide) ?_
  refine zV_istore hX dX11_steps_56 (by decide) ?_
  dsimp only [zst1, zst2, zclr, zc2]
  exact L58 62 0 _ (by omega) (by omega) (mNb_N n _) (mNb_hb hv0 hn7) rfl
set_option maxHeartbeats 1000000 in
theorem zc_mstepsA (l : Launch) (G : zG) (M : zM) (a b c : Int32) (ha : mIn a (nI 0) (nI 99999) = false) : zC l G 5 yX11_steps cX11_steps 5 (Option.some Jvm.ClassFile.FieldType.int) [.ref (300 : Nat), .int a, .int b, .int c] M (zP (some (.int (nI 0))) (mTw (nI 1) (nI 1) M)) := by
  refine zC_of (by decide) (Nat.le_of_ble_eq_true rfl) (fun X Q hQ hX hl hR hr => ?_)
  refine zV_loc (L' := [.ref (300 : Nat), .int a, .int b, .int c, .null]) rfl ?_
  refine zV_aload_n hX dX11_steps_0 rfl ?_
  refine zV_iconst hX (v := nI 0) dX11_steps_1 (by decide) ?_
  refine zV_puti hX dX11_steps_2 zf_X11_149 zp_9_0 zo300.1 rfl ?_
  refine zV_aload_n hX dX11_steps_5 rfl ?_
  refine zV_iload_n hX dX11_steps_6 rfl ?_
  refine zV_iconst hX (v := nI 0) dX11_steps_7 (by decide) ?_
  refine zV_ldc hX dX11_steps_8 zkc_X11_184 ?_
  refine zV_topi (nI 99999) (by decide) ?_
  refine zV_cS3p hX hR hl dX11_steps_10 (zc_min l G _ _ _ _) zt_X11_in rfl zml_X11_162 (by decide) (Nat.le_of_ble_eq_true rfl) ?_
  dsimp only [Option.toList, List.cons_append, List.nil_append]
  refine zV_topi (zb false) (by rw [ha]) ?_
  refine zV_if_eqB hX (tgt := 36) dX11_steps_13 (by decide) (fun c_13 => ?_) (fun c_13 => absurd c_13 (by decide))
  refine zV_iconst hX (v := nI 1) dX11_steps_36 (by decide) ?_
  refine zV_goto hX (tgt := 41) dX11_steps_37 (by decide) ?_
  refine zV_iconst hX (v := nI 1) dX11_steps_41 (by decide) ?_
  refine zV_iconst hX (v := nI 1) dX11_steps_42 (by decide) ?_
  refine zV_cV3p hX hR hl dX11_steps_43 (zc_badT1 l G _ _ zw_same (by decide)) zt_X11_bad rfl zml_X11_166 zo300.1 ⟨by decide, by decide⟩ (Nat.le_of_ble_eq_true rfl) ?_
  dsimp only [Option.toList, List.cons_append, List.nil_append]
  refine zV_if_eqB hX (tgt := 51) dX11_steps_46 (by decide) (fun c_46 => absurd c_46 (by decide)) (fun c_46 => ?_)
  refine zV_iconst hX (v := nI 0) dX11_steps_49 (by decide) ?_
  exact zV_reti hX hQ hr (⟨rfl, rfl⟩) dX11_steps_50
set_option maxHeartbeats 1000000 in
theorem zc_mstepsB (l : Launch) (G : zG) (M : zM) (a b c : Int32) (ha : mIn a (nI 0) (nI 99999) = true) (hb : mIn b (nI 1) (nI 999) = false) : zC l G 5 yX11_steps cX11_steps 5 (Option.some Jvm.ClassFile.FieldType.int) [.ref (300 : Nat), .int a, .int b, .int c] M (zP (some (.int (nI 0))) (mTw (nI 1) (nI 1) M)) := by
  refine zC_of (by decide) (Nat.le_of_ble_eq_true rfl) (fun X Q hQ hX hl hR hr => ?_)
  refine zV_loc (L' := [.ref (300 : Nat), .int a, .int b, .int c, .null]) rfl ?_
  refine zV_aload_n hX dX11_steps_0 rfl ?_
  refine zV_iconst hX (v := nI 0) dX11_steps_1 (by decide) ?_
  refine zV_puti hX dX11_steps_2 zf_X11_149 zp_9_0 zo300.1 rfl ?_
  refine zV_aload_n hX dX11_steps_5 rfl ?_
  refine zV_iload_n hX dX11_steps_6 rfl ?_
  refine zV_iconst hX (v := nI 0) dX11_steps_7 (by decide) ?_
  refine zV_ldc hX dX11_steps_8 zkc_X11_184 ?_
  refine zV_topi (nI 99999) (by decide) ?_
  refine zV_cS3p hX hR hl dX11_steps_10 (zc_min l G _ _ _ _) zt_X11_in rfl zml_X11_162 (by decide) (Nat.le_of_ble_eq_true rfl) ?_
  dsimp only [Option.toList, List.cons_append, List.nil_append]
  refine zV_topi (zb true) (by rw [ha]) ?_
  refine zV_if_eqB hX (tgt := 36) dX11_steps_13 (by decide) (fun c_13 => absurd c_13 (by decide)) (fun c_13 => ?_)
  refine zV_iload_n hX dX11_steps_16 rfl ?_
  refine zV_iconst hX (v := nI 1) dX11_steps_17 (by decide) ?_
  refine zV_sipush hX (v := nI 999) dX11_steps_18 (by decide) ?_
  refine zV_cS3p hX hR hl dX11_steps_21 (zc_min l G _ _ _ _) zt_X11_in rfl zml_X11_162 (by decide) (Nat.le_of_ble_eq_true rfl) ?_
  dsimp only [Option.toList, List.cons_append, List.nil_append]
  refine zV_topi (zb false) (by rw [hb]) ?_
  refine zV_if_eqB hX (tgt := 36) dX11_steps_24 (by decide) (fun c_24 => ?_) (fun c_24 => absurd c_24 (by decide))
  refine zV_iconst hX (v := nI 1) dX11_steps_36 (by decide) ?_
  refine zV_goto hX (tgt := 41) dX11_steps_37 (by decide) ?_
  refine zV_iconst hX (v := nI 1) dX11_steps_41 (by decide) ?_
  refine zV_iconst hX (v := nI 1) dX11_steps_42 (by decide) ?_
  refine zV_cV3p hX hR hl dX11_steps_43 (zc_badT1 l G _ _ zw_same (by decide)) zt_X11_bad rfl zml_X11_166 zo300.1 ⟨by decide, by decide⟩ (Nat.le_of_ble_eq_true rfl) ?_
  dsimp only [Option.toList, List.cons_append, List.nil_append]
  refine zV_if_eqB hX (tgt := 51) dX11_steps_46 (by decide) (fun c_46 => absurd c_46 (by decide)) (fun c_46 => ?_)
  refine zV_iconst hX (v := nI 0) dX11_steps_49 (by decide) ?_
  exact zV_reti hX hQ hr (⟨rfl, rfl⟩) dX11_steps_50
set_option maxHeartbeats 1000000 in
theorem zc_mstepsC (l : Launch) (G : zG) (M : zM) (a b c : Int32) (ha : mIn a (nI 0) (nI 99999) = true) (hb : mIn b (nI 1) (nI 999) = true) (hc : mIn c (nI 0) (nI 1) = false) : zC l G 5 yX11_steps cX11_steps 5 (Option.some Jvm.ClassFile.FieldType.int) [.ref (300 : Nat), .int a, .int b, .int c] M (zP (some (.int (nI 0))) (mTw (nI 1) (nI 1) M)) := by
  refine zC_of (by decide) (Nat.le_of_ble_eq_true rfl) (fun X Q hQ hX hl hR hr => ?_)
  refine zV_loc (L' := [.ref (300 : Nat), .int a, .int b, .int c, .null]) rfl ?_
  refine zV_aload_n hX dX11_steps_0 rfl ?_
  refine zV_iconst hX (v := nI 0) dX11_steps_1 (by decide) ?_
  refine zV_puti hX dX11_steps_2 zf_X11_149 zp_9_0 zo300.1 rfl ?_
  refine zV_aload_n hX dX11_steps_5 rfl ?_
  refine zV_iload_n hX dX11_steps_6 rfl ?_
  refine zV_iconst hX (v := nI 0) dX11_steps_7 (by decide) ?_
  refine zV_ldc hX dX11_steps_8 zkc_X11_184 ?_
  refine zV_topi (nI 99999) (by decide) ?_
  refine zV_cS3p hX hR hl dX11_steps_10 (zc_min l G _ _ _ _) zt_X11_in rfl zml_X11_162 (by decide) (Nat.le_of_ble_eq_true rfl) ?_
  dsimp only [Option.toList, List.cons_append, List.nil_append]
  refine zV_topi (zb true) (by rw [ha]) ?_
  refine zV_if_eqB hX (tgt := 36) dX11_steps_13 (by decide) (fun c_13 => absurd c_13 (by decide)) (fun c_13 => ?_)
  refine zV_iload_n hX dX11_steps_16 rfl ?_
  refine zV_iconst hX (v := nI 1) dX11_steps_17 (by decide) ?_
  refine zV_sipush hX (v := nI 999) dX11_steps_18 (by decide) ?_
  refine zV_cS3p hX hR hl dX11_steps_21 (zc_min l G _ _ _ _) zt_X11_in rfl zml_X11_162 (by decide) (Nat.le_of_ble_eq_true rfl) ?_
  dsimp only [Option.toList, List.cons_append, List.nil_append]
  refine zV_topi (zb true) (by rw [hb]) ?_
  refine zV_if_eqB hX (tgt := 36) dX11_steps_24 (by decide) (fun c_24 => absurd c_24 (by decide)) (fun c_24 => ?_)
  refine zV_iload_n hX dX11_steps_27 rfl ?_
  refine zV_iconst hX (v := nI 0) dX11_steps_28 (by decide) ?_
  refine zV_iconst hX (v := nI 1) dX11_steps_29 (by decide) ?_
  refine zV_cS3p hX hR hl dX11_steps_30 (zc_min l G _ _ _ _) zt_X11_in rfl zml_X11_162 (by decide) (Nat.le_of_ble_eq_true rfl) ?_
  dsimp only [Option.toList, List.cons_append, List.nil_append]
  refine zV_topi (zb false) (by rw [hc]) ?_
  refine zV_if_neB hX (tgt := 40) dX11_steps_33 (by decide) (fun c_33 => absurd c_33 (by decide)) (fun c_33 => ?_)
  refine zV_iconst hX (v := nI 1) dX11_steps_36 (by decide) ?_
  refine zV_goto hX (tgt := 41) dX11_steps_37 (by decide) ?_
  refine zV_iconst hX (v := nI 1) dX11_steps_41 (by decide) ?_
  refine zV_iconst hX (v := nI 1) dX11_steps_42 (by decide) ?_
  refine zV_cV3p hX hR hl dX11_steps_43 (zc_badT1 l G _ _ zw_same (by decide)) zt_X11_bad rfl zml_X11_166 zo300.1 ⟨by decide, by decide⟩ (Nat.le_of_ble_eq_true rfl) ?_
  dsimp only [Option.toList, List.cons_append, List.nil_append]
  refine zV_if_eqB hX (tgt := 51) dX11_steps_46 (by decide) (fun c_46 => absurd c_46 (by decide)) (fun c_46 => ?_)
  refine zV_iconst hX (v := nI 0) dX11_steps_49 (by decide) ?_
  exact zV_reti hX hQ hr (⟨rfl, rfl⟩) dX11_steps_50
