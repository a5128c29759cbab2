set_option maxHeartbeats 1000000 in
theorem zc_mtaken (l : Launch) (G : zG) (M : zM) (n t j i k z : Nat) (mn : Nat → Option Nat) (hn : M.1 300 9 = nI n) (hn7 : n ≤ 7) (h0 : 1 ≤ n) (ht : M.1 300 10 = nI t) (ht2 : t ≤ 2) (hj : j < n) (hi : i < n) (hz : z < 2) (hmn : mLn 0 M mn) (hk : k < mTk9 (mSigns j n mn t (m0 M)) i) : zC l G 4 yX11_taken cX11_taken 6 (Option.some Jvm.ClassFile.FieldType.int) [.ref (300 : Nat), .int (nI j), .int (nI i), .int (nI k), .int (nI z)] M (zP (some (.int (if z = 0 then (mSigns j n mn t (m0 M)).1 (1000 + 16 * 34 + i) k else (mSigns j n mn t (m0 M)).1 (1000 + 16 * 35 + i) k))) ((mSigns j n mn t (m0 M)))) := by
  refine zC_of (by decide) (Nat.le_of_ble_eq_true rfl) (fun X Q hQ hX hl hR hr => ?_)
  refine zV_loc (L' := [.ref (300 : Nat), .int (nI j), .int (nI i), .int (nI k), .int (nI z), .null]) rfl ?_
  have hmn0 : mLn 0 (m0 M) mn := hmn
  have hS := mSigns_S (c := j) (k := t) hn7 mn (m0 M)
  have hok := mSigns_ok (c := j) (k := t) (by omega) hn7 mn (m0 M)
  have h00 : (mSigns j n mn t (m0 M)).1 300 0 = nI 0 := hS.at zw_same (by unfold mFrS; omega)
  obtain ⟨R, hR9⟩ : ∃ R, R = (mSigns j n mn t (m0 M)) := ⟨_, rfl⟩
  rw [← hR9] at hS hok h00
  obtain ⟨hq1, hq2⟩ := hok.tok i (by omega)
  rw [← hR9] at hk
  refine zV_aload_n hX dX11_taken_0 rfl ?_
  refine zV_iconst hX (v := nI 0) dX11_taken_1 (by decide) ?_
  refine zV_puti hX dX11_taken_2 zf_X11_149 zp_9_0 zo300.1 rfl ?_
  refine zV_aload_n hX dX11_taken_5 rfl ?_
  refine zV_iload_n hX dX11_taken_6 rfl ?_
  refine zV_cV1p hX hR hl dX11_taken_7 (zc_isMember l G _ n _ ((zw_ne (by omega)).trans hn) hn7 h0) zt_X11_isMember rfl zml_X11_179 zo300.1 ⟨by decide, by decide⟩ (Nat.le_of_ble_eq_true rfl) ?_
  dsimp only [Option.toList, List.cons_append, List.nil_append]
  refine zV_topi (zb true) (by rw [zmem_nI (by omega) (by omega), decide_eq_true hj]) ?_
  refine zV_if_eqB hX (tgt := 25) dX11_taken_10 (by decide) (fun c_10 => absurd c_10 (by decide)) (fun c_10 => ?_)
  refine zV_aload_n hX dX11_taken_13 rfl ?_
  refine zV_iload_n hX dX11_taken_14 rfl ?_
  refine zV_cV1p hX hR hl dX11_taken_15 (zc_isMember l G _ n _ ((zw_ne (by omega)).trans hn) hn7 h0) zt_X11_isMember rfl zml_X11_179 zo300.1 ⟨by decide, by decide⟩ (Nat.le_of_ble_eq_true rfl) ?_
  dsimp only [Option.toList, List.cons_append, List.nil_append]
  refine zV_topi (zb true) (by rw [zmem_nI (by omega) (by omega), decide_eq_true hi]) ?_
  refine zV_if_eqB hX (tgt := 25) dX11_taken_18 (by decide) (fun c_18 => absurd c_18 (by decide)) (fun c_18 => ?_)
  refine zV_iconst hX (v := nI 1) dX11_taken_21 (by decide) ?_
  refine zV_goto hX (tgt := 26) dX11_taken_22 (by decide) ?_
  refine zV_istore hX dX11_taken_26 (by decide) ?_
  dsimp only [zst1, zst2, zclr, zc2]
  refine zV_iload hX dX11_taken_28 rfl ?_
  refine zV_if_eqN hX (tgt := 38) dX11_taken_30 (by decide) (by decide) (fun c_30 => absurd c_30 (by decide)) (fun c_30 => ?_)
  refine zV_aload_n hX dX11_taken_33 rfl ?_
  refine zV_iload_n hX dX11_taken_34 rfl ?_
  refine zV_cV1p hX hR hl dX11_taken_35 (zc_signs l G (m0 M) n j t mn ((zw_ne (by omega)).trans hn) hn7 ((zw_ne (by omega)).trans ht) ht2 (by omega) hmn0) zt_X11_signs rfl zml_X11_435 zo300.1 ⟨by decide, by decide⟩ (Nat.le_of_ble_eq_true rfl) ?_
  dsimp only [Option.toList, List.cons_append, List.nil_append]
  refine zV_mem hR9.symm ?_
  refine zV_aload_n hX dX11_taken_38 rfl ?_
  refine zV_iload hX dX11_taken_39 rfl ?_
  refine zV_if_eqN hX (tgt := 60) dX11_taken_41 (by decide) (by decide) (fun c_41 => absurd c_41 (by decide)) (fun c_41 => ?_)
  refine zV_iload_n hX dX11_taken_44 rfl ?_
  refine zV_iconst hX (v := nI 0) dX11_taken_45 (by decide) ?_
  refine zV_aload_n hX dX11_taken_46 rfl ?_
  refine zV_geta hX dX11_taken_47 zf_X11_65 zo300.1 rfl ?_
  refine zV_iload_n hX dX11_taken_50 rfl ?_
  refine zV_iald hX (v := nI (mTk9 R i)) dX11_taken_51 (zo300.a 31 rfl) (rfl) ⟨by omega, by omega⟩ (hq1) ?_
  refine zV_iconst hX (v := nI 1) dX11_taken_52 (by decide) ?_
  refine zV_isubN hX dX11_taken_53 (by omega) ?_
  refine zV_cS3p hX hR hl dX11_taken_54 (zc_min l G _ _ _ _) zt_X11_in rfl zml_X11_162 (by decide) (Nat.le_of_ble_eq_true rfl) ?_
  dsimp only [Option.toList, List.cons_append, List.nil_append]
  refine zV_topi (zb true) (by rw [mIn_nI (by omega) (by omega) (by omega), decide_eq_false (by omega), Bool.not_false]) ?_
  refine zV_if_neB hX (tgt := 64) dX11_taken_57 (by decide) (fun c_57 => ?_) (fun c_57 => absurd c_57 (by decide))
  refine zV_iconst hX (v := nI 0) dX11_taken_64 (by decide) ?_
  refine zV_iconst hX (v := nI 1) dX11_taken_65 (by decide) ?_
  refine zV_iconst hX (v := nI 0) dX11_taken_66 (by decide) ?_
  refine zV_cV3p hX hR hl dX11_taken_67 (zc_badF0 l G R _ h00) zt_X11_bad rfl zml_X11_166 zo300.1 ⟨by decide, by decide⟩ (Nat.le_of_ble_eq_true rfl) ?_
  dsimp only [Option.toList, List.cons_append, List.nil_append]
  refine zV_if_neB hX (tgt := 97) dX11_taken_70 (by decide) (fun c_70 => absurd c_70 (by decide)) (fun c_70 => ?_)
  refine zV_aload_n hX dX11_taken_73 rfl ?_
  refine zV_iload hX dX11_taken_74 rfl ?_
  refine zV_iconst hX (v := nI 0) dX11_taken_76 (by decide) ?_
  refine zV_iconst hX (v := nI 1) dX11_taken_77 (by decide) ?_
  refine zV_cS3p hX hR hl dX11_taken_78 (zc_min l G _ _ _ _) zt_X11_in rfl zml_X11_162 (by decide) (Nat.le_of_ble_eq_true rfl) ?_
  dsimp only [Option.toList, List.cons_append, List.nil_append]
  refine zV_topi (zb true) (by rw [mIn_nI (by omega) (by omega) (by omega), decide_eq_false (by omega), Bool.not_false]) ?_
  refine zV_if_neB hX (tgt := 88) dX11_taken_81 (by decide) (fun c_81 => ?_) (fun c_81 => absurd c_81 (by decide))
  refine zV_iconst hX (v := nI 0) dX11_taken_88 (by decide) ?_
  refine zV_iconst hX (v := nI 2) dX11_taken_89 (by decide) ?_
  refine zV_iconst hX (v := nI 1) dX11_taken_90 (by decide) ?_
  refine zV_cV3p hX hR hl dX11_taken_91 (zc_badF1 l G R _ h00) zt_X11_bad rfl zml_X11_166 zo300.1 ⟨by decide, by decide⟩ (Nat.le_of_ble_eq_true rfl) ?_
  dsimp only [Option.toList, List.cons_append, List.nil_append]
  refine zV_if_eqB hX (tgt := 99) dX11_taken_94 (by decide) (fun c_94 => ?_) (fun c_94 => absurd c_94 (by decide))
  refine zV_iload hX dX11_taken_99 rfl ?_
  refine zV_if_neN hX (tgt := 115) dX11_taken_101 (by decide) (by omega) (fun c_101 => ?_) (fun c_101 => ?_)
  · refine zV_aload_n hX dX11_taken_115 rfl ?_
    refine zV_geta hX dX11_taken_116 zf_X11_77 zo300.1 rfl ?_
    refine zV_iload_n hX dX11_taken_119 rfl ?_
    refine zV_aald hX dX11_taken_120 (t := 0) (zo300.a 35 rfl) (by decide) (rfl) ⟨by omega, by omega⟩ (mRow 35 (by decide)) ?_
    refine zV_iload_n hX dX11_taken_121 rfl ?_
    refine zV_iald hX dX11_taken_122 (mSh35 (by omega)) (rfl) ⟨by omega, by omega⟩ (rfl) ?_
    exact zV_reti hX hQ hr (⟨by first | (rw [← hR9, if_pos c_101]; done) | (rw [← hR9, if_neg (by omega)]; done), hR9⟩) dX11_taken_123
  · refine zV_aload_n hX dX11_taken_104 rfl ?_
    refine zV_geta hX dX11_taken_105 zf_X11_74 zo300.1 rfl ?_
    refine zV_iload_n hX dX11_taken_108 rfl ?_
    refine zV_aald hX dX11_taken_109 (t := 0) (zo300.a 34 rfl) (by decide) (rfl) ⟨by omega, by omega⟩ (mRow 34 (by decide)) ?_
    refine zV_iload_n hX dX11_taken_110 rfl ?_
    refine zV_iald hX dX11_taken_111 (mSh34 (by omega)) (rfl) ⟨by omega, by omega⟩ (rfl) ?_
    refine zV_goto hX (tgt := 123) dX11_taken_112 (by decide) ?_
    exact zV_reti hX hQ hr (⟨by first | (rw [← hR9, if_pos c_101]; done) | (rw [← hR9, if_neg (by omega)]; done), hR9⟩) dX11_taken_123
set_option maxHeartbeats 1000000 in
theorem zc_mtakenX (l : Launch) (G : zG) (M : zM) (n : Nat) (x i k z : Int32) (hn : M.1 300 9 = nI n) (hn7 : n ≤ 7) (h0 : 1 ≤ n) (hx : zmem x n = false) : zC l G 4 yX11_taken cX11_taken 6 (Option.some Jvm.ClassFile.FieldType.int) [.ref (300 : Nat), .int x, .int i, .int k, .int z] M (zP (some (.int (nI 0))) (mTw (nI 1) (nI 0) M)) := by
  refine zC_of (by decide) (Nat.le_of_ble_eq_true rfl) (fun X Q hQ hX hl hR hr => ?_)
  refine zV_loc (L' := [.ref (300 : Nat), .int x, .int i, .int k, .int z, .null]) rfl ?_
  refine zV_aload_n hX dX11_taken_0 rfl ?_
  refine zV_iconst hX (v := nI 0) dX11_taken_1 (by decide) ?_
  refine zV_puti hX dX11_taken_2 zf_X11_149 zp_9_0 zo300.1 rfl ?_
  refine zV_aload_n hX dX11_taken_5 rfl ?_
  refine zV_iload_n hX dX11_taken_6 rfl ?_
  refine zV_cV1p hX hR hl dX11_taken_7 (zc_isMember l G _ n _ ((zw_ne (by omega)).trans hn) hn7 h0) zt_X11_isMember rfl zml_X11_179 zo300.1 ⟨by decide, by decide⟩ (Nat.le_of_ble_eq_true rfl) ?_
  dsimp only [Option.toList, List.cons_append, List.nil_append]
  refine zV_topi (zb false) (by rw [hx]) ?_
  refine zV_if_eqB hX (tgt := 25) dX11_taken_10 (by decide) (fun c_10 => ?_) (fun c_10 => absurd c_10 (by decide))
  refine zV_iconst hX (v := nI 0) dX11_taken_25 (by decide) ?_
  refine zV_istore hX dX11_taken_26 (by decide) ?_
  dsimp only [zst1, zst2, zclr, zc2]
  refine zV_iload hX dX11_taken_28 rfl ?_
  refine zV_if_eqN hX (tgt := 38) dX11_taken_30 (by decide) (by decide) (fun c_30 => ?_) (fun c_30 => absurd c_30 (by decide))
  refine zV_aload_n hX dX11_taken_38 rfl ?_
  refine zV_iload hX dX11_taken_39 rfl ?_
  refine zV_if_eqN hX (tgt := 60) dX11_taken_41 (by decide) (by decide) (fun c_41 => ?_) (fun c_41 => absurd c_41 (by decide))
  refine zV_iconst hX (v := nI 1) dX11_taken_60 (by decide) ?_
  refine zV_goto hX (tgt := 65) dX11_taken_61 (by decide) ?_
  refine zV_iconst hX (v := nI 1) dX11_taken_65 (by decide) ?_
  refine zV_iconst hX (v := nI 0) dX11_taken_66 (by decide) ?_
  refine zV_cV3p hX hR hl dX11_taken_67 (zc_badT0 l G _ _ zw_same (by decide)) zt_X11_bad rfl zml_X11_166 zo300.1 ⟨by decide, by decide⟩ (Nat.le_of_ble_eq_true rfl) ?_
  dsimp only [Option.toList, List.cons_append, List.nil_append]
  refine zV_if_neB hX (tgt := 97) dX11_taken_70 (by decide) (fun c_70 => ?_) (fun c_70 => absurd c_70 (by decide))
  refine zV_iconst hX (v := nI 0) dX11_taken_97 (by decide) ?_
  exact zV_reti hX hQ hr (⟨rfl, rfl⟩) dX11_taken_98
set_option maxHeartbeats 1000000 in
theorem zc_mtakenZ (l : Launch) (G : zG) (M : zM) (n j : Nat) (x k z : Int32) (hn : M.1 300 9 = nI n) (hn7 : n ≤ 7) (h0 : 1 ≤ n) (hj : j < n) (hx : zmem x n = false) : zC l G 4 yX11_taken cX11_taken 6 (Option.some Jvm.ClassFile.FieldType.int) [.ref (300 : Nat), .int (nI j), .int x, .int k, .int z] M (zP (some (.int (nI 0))) (mTw (nI 1) (nI 0) M)) := by
  refine zC_of (by decide) (Nat.le_of_ble_eq_true rfl) (fun X Q hQ hX hl hR hr => ?_)
  refine zV_loc (L' := [.ref (300 : Nat), .int (nI j), .int x, .int k, .int z, .null]) rfl ?_
  refine zV_aload_n hX dX11_taken_0 rfl ?_
  refine zV_iconst hX (v := nI 0) dX11_taken_1 (by decide) ?_
  refine zV_puti hX dX11_taken_2 zf_X11_149 zp_9_0 zo300.1 rfl ?_
  refine zV_aload_n hX dX11_taken_5 rfl ?_
  refine zV_iload_n hX dX11_taken_6 rfl ?_
  refine zV_cV1p hX hR hl dX11_taken_7 (zc_isMember l G _ n _ ((zw_ne (by omega)).trans hn) hn7 h0) zt_X11_isMember rfl zml_X11_179 zo300.1 ⟨by decide, by decide⟩ (Nat.le_of_ble_eq_true rfl) ?_
  dsimp only [Option.toList, List.cons_append, List.nil_append]
  refine zV_topi (zb true) (by rw [zmem_nI (by omega) (by omega), decide_eq_true hj]) ?_
  refine zV_if_eqB hX (tgt := 25) dX11_taken_10 (by decide) (fun c_10 => absurd c_10 (by decide)) (fun c_10 => ?_)
  refine zV_aload_n hX dX11_taken_13 rfl ?_
  refine zV_iload_n hX dX11_taken_14 rfl ?_
  refine zV_cV1p hX hR hl dX11_taken_15 (zc_isMember l G _ n _ ((zw_ne (by omega)).trans hn) hn7 h0) zt_X11_isMember rfl zml_X11_179 zo300.1 ⟨by decide, by decide⟩ (Nat.le_of_ble_eq_true rfl) ?_
  dsimp only [Option.toList, List.cons_append, List.nil_append]
  refine zV_topi (zb false) (by rw [hx]) ?_
  refine zV_if_eqB hX (tgt := 25) dX11_taken_18 (by decide) (fun c_18 => ?_) (fun c_18 => absurd c_18 (by decide))
  refine zV_iconst hX (v := nI 0) dX11_taken_25 (by decide) ?_
  refine zV_istore hX dX11_taken_26 (by decide) ?_
  dsimp only [zst1, zst2, zclr, zc2]
  refine zV_iload hX dX11_taken_28 rfl ?_
  refine zV_if_eqN hX (tgt := 38) dX11_taken_30 (by decide) (by decide) (fun c_30 => ?_) (fun c_30 => absurd c_30 (by decide))
  refine zV_aload_n hX dX11_taken_38 rfl ?_
  refine zV_iload hX dX11_taken_39 rfl ?_
  refine zV_if_eqN hX (tgt := 60) dX11_taken_41 (by decide) (by decide) (fun c_41 => ?_) (fun c_41 => absurd c_41 (by decide))
  refine zV_iconst hX (v := nI 1) dX11_taken_60 (by decide) ?_
  refine zV_goto hX (tgt := 65) dX11_taken_61 (by decide) ?_
  refine zV_iconst hX (v := nI 1) dX11_taken_65 (by decide) ?_
  refine zV_iconst hX (v := nI 0) dX11_taken_66 (by decide) ?_
  refine zV_cV3p hX hR hl dX11_taken_67 (zc_badT0 l G _ _ zw_same (by decide)) zt_X11_bad rfl zml_X11_166 zo300.1 ⟨by decide, by decide⟩ (Nat.le_of_ble_eq_true rfl) ?_
  dsimp only [Option.toList, List.cons_append, List.nil_append]
  refine zV_if_neB hX (tgt := 97) dX11_taken_70 (by decide) (fun c_70 => ?_) (fun c_70 => absurd c_70 (by decide))
  refine zV_iconst hX (v := nI 0) dX11_taken_97 (by decide) ?_
  exact zV_reti hX hQ hr (⟨rfl, rfl⟩) dX11_taken_98
set_option maxHeartbeats 1000000 in
theorem zc_mtakenK (l : Launch) (G : zG) (M : zM) (n t j i : Nat) (k z : Int32) (mn : Nat → Option Nat) (hn : M.1 300 9 = nI n) (hn7 : n ≤ 7) (h0 : 1 ≤ n) (ht : M.1 300 10 = nI t) (ht2 : t ≤ 2) (hj : j < n) (hi : i < n) (hmn : mLn 0 M mn) (hk : mIn k (nI 0) (nI (mTk9 (mSigns j n mn t (m0 M)) i) - nI 1) = false) : zC l G 4 yX11_taken cX11_taken 6 (Option.some Jvm.ClassFile.FieldType.int) [.ref (300 : Nat), .int (nI j), .int (nI i), .int k, .int z] M (zP (some (.int (nI 0))) (mBad true (nI 1) (nI 0) (mSigns j n mn t (m0 M)))) := by
  refine zC_of (by decide) (Nat.le_of_ble_eq_true rfl) (fun X Q hQ hX hl hR hr => ?_)
  refine zV_loc (L' := [.ref (300 : Nat), .int (nI j), .int (nI i), .int k, .int z, .null]) rfl ?_
  have hmn0 : mLn 0 (m0 M) mn := hmn
  have hS := mSigns_S (c := j) (k := t) hn7 mn (m0 M)
  have hok := mSigns_ok (c := j) (k := t) (by omega) hn7 mn (m0 M)
  have h00 : (mSigns j n mn t (m0 M)).1 300 0 = nI 0 := hS.at zw_same (by unfold mFrS; omega)
  obtain ⟨R, hR9⟩ : ∃ R, R = (mSigns j n mn t (m0 M)) := ⟨_, rfl⟩
  rw [← hR9] at hS hok h00
  obtain ⟨hq1, hq2⟩ := hok.tok i (by omega)
  rw [← hR9] at hk
  refine zV_aload_n hX dX11_taken_0 rfl ?_
  refine zV_iconst hX (v := nI 0) dX11_taken_1 (by decide) ?_
  refine zV_puti hX dX11_taken_2 zf_X11_149 zp_9_0 zo300.1 rfl ?_
  refine zV_aload_n hX dX11_taken_5 rfl ?_
  refine zV_iload_n hX dX11_taken_6 rfl ?_
  refine zV_cV1p hX hR hl dX11_taken_7 (zc_isMember l G _ n _ ((zw_ne (by omega)).trans hn) hn7 h0) zt_X11_isMember rfl zml_X11_179 zo300.1 ⟨by decide, by decide⟩ (Nat.le_of_ble_eq_true rfl) ?_
  dsimp only [Option.toList, List.cons_append, List.nil_append]
  refine zV_topi (zb true) (by rw [zmem_nI (by omega) (by omega), decide_eq_true hj]) ?_
  refine zV_if_eqB hX (tgt := 25) dX11_taken_10 (by decide) (fun c_10 => absurd c_10 (by decide)) (fun c_10 => ?_)
  refine zV_aload_n hX dX11_taken_13 rfl ?_
  refine zV_iload_n hX dX11_taken_14 rfl ?_
  refine zV_cV1p hX hR hl dX11_taken_15 (zc_isMember l G _ n _ ((zw_ne (by omega)).trans hn) hn7 h0) zt_X11_isMember rfl zml_X11_179 zo300.1 ⟨by decide, by decide⟩ (Nat.le_of_ble_eq_true rfl) ?_
  dsimp only [Option.toList, List.cons_append, List.nil_append]
  refine zV_topi (zb true) (by rw [zmem_nI (by omega) (by omega), decide_eq_true hi]) ?_
  refine zV_if_eqB hX (tgt := 25) dX11_taken_18 (by decide) (fun c_18 => absurd c_18 (by decide)) (fun c_18 => ?_)
  refine zV_iconst hX (v := nI 1) dX11_taken_21 (by decide) ?_
  refine zV_goto hX (tgt := 26) dX11_taken_22 (by decide) ?_
  refine zV_istore hX dX11_taken_26 (by decide) ?_
  dsimp only [zst1, zst2, zclr, zc2]
  refine zV_iload hX dX11_taken_28 rfl ?_
  refine zV_if_eqN hX (tgt := 38) dX11_taken_30 (by decide) (by decide) (fun c_30 => absurd c_30 (by decide)) (fun c_30 => ?_)
  refine zV_aload_n hX dX11_taken_33 rfl ?_
  refine zV_iload_n hX dX11_taken_34 rfl ?_
  refine zV_cV1p hX hR hl dX11_taken_35 (zc_signs l G (m0 M) n j t mn ((zw_ne (by omega)).trans hn) hn7 ((zw_ne (by omega)).trans ht) ht2 (by omega) hmn0) zt_X11_signs rfl zml_X11_435 zo300.1 ⟨by decide, by decide⟩ (Nat.le_of_ble_eq_true rfl) ?_
  dsimp only [Option.toList, List.cons_append, List.nil_append]
  refine zV_mem hR9.symm ?_
  refine zV_aload_n hX dX11_taken_38 rfl ?_
  refine zV_iload hX dX11_taken_39 rfl ?_
  refine zV_if_eqN hX (tgt := 60) dX11_taken_41 (by decide) (by decide) (fun c_41 => absurd c_41 (by decide)) (fun c_41 => ?_)
  refine zV_iload_n hX dX11_taken_44 rfl ?_
  refine zV_iconst hX (v := nI 0) dX11_taken_45 (by decide) ?_
  refine zV_aload_n hX dX11_taken_46 rfl ?_
  refine zV_geta hX dX11_taken_47 zf_X11_65 zo300.1 rfl ?_
  refine zV_iload_n hX dX11_taken_50 rfl ?_
  refine zV_iald hX (v := nI (mTk9 R i)) dX11_taken_51 (zo300.a 31 rfl) (rfl) ⟨by omega, by omega⟩ (hq1) ?_
  refine zV_iconst hX (v := nI 1) dX11_taken_52 (by decide) ?_
  refine zV_isub hX dX11_taken_53 ?_
  refine zV_cS3p hX hR hl dX11_taken_54 (zc_min l G _ _ _ _) zt_X11_in rfl zml_X11_162 (by decide) (Nat.le_of_ble_eq_true rfl) ?_
  dsimp only [Option.toList, List.cons_append, List.nil_append]
  refine zV_topi (zb false) (by rw [hk]) ?_
  refine zV_if_neB hX (tgt := 64) dX11_taken_57 (by decide) (fun c_57 => absurd c_57 (by decide)) (fun c_57 => ?_)
  refine zV_iconst hX (v := nI 1) dX11_taken_60 (by decide) ?_
  refine zV_goto hX (tgt := 65) dX11_taken_61 (by decide) ?_
  refine zV_iconst hX (v := nI 1) dX11_taken_65 (by decide) ?_
  refine zV_iconst hX (v := nI 0) dX11_taken_66 (by decide) ?_
  refine zV_cV3p hX hR hl dX11_taken_67 (zc_badT0 l G R _ h00 (by decide)) zt_X11_bad rfl zml_X11_166 zo300.1 ⟨by decide, by decide⟩ (Nat.le_of_ble_eq_true rfl) ?_
  dsimp only [Option.toList, List.cons_append, List.nil_append]
  refine zV_if_neB hX (tgt := 97) dX11_taken_70 (by decide) (fun c_70 => ?_) (fun c_70 => absurd c_70 (by decide))
  refine zV_iconst hX (v := nI 0) dX11_taken_97 (by decide) ?_
  exact zV_reti hX hQ hr (⟨rfl, by rw [hR9]⟩) dX11_taken_98
set_option maxHeartbeats 1000000 in
theorem zc_mtakenW (l : Launch) (G : zG) (M : zM) (n t j i k : Nat) (z : Int32) (mn : Nat → Option Nat) (hn : M.1 300 9 = nI n) (hn7 : n ≤ 7) (h0 : 1 ≤ n) (ht : M.1 300 10 = nI t) (ht2 : t ≤ 2) (hj : j < n) (hi : i < n) (hmn : mLn 0 M mn) (hz : mIn z (nI 0) (nI 1) = false) (hk : k < mTk9 (mSigns j n mn t (m0 M)) i) : zC l G 4 yX11_taken cX11_taken 6 (Option.some Jvm.ClassFile.FieldType.int) [.ref (300 : Nat), .int (nI j), .int (nI i), .int (nI k), .int z] M (zP (some (.int (nI 0))) (mBad true (nI 2) (nI 1) (mSigns j n mn t (m0 M)))) := by
  refine zC_of (by decide) (Nat.le_of_ble_eq_true rfl) (fun X Q hQ hX hl hR hr => ?_)
  refine zV_loc (L' := [.ref (300 : Nat), .int (nI j), .int (nI i), .int (nI k), .int z, .null]) rfl ?_
  have hmn0 : mLn 0 (m0 M) mn := hmn
  have hS := mSigns_S (c := j) (k := t) hn7 mn (m0 M)
  have hok := mSigns_ok (c := j) (k := t) (by omega) hn7 mn (m0 M)
  have h00 : (mSigns j n mn t (m0 M)).1 300 0 = nI 0 := hS.at zw_same (by unfold mFrS; omega)
  obtain ⟨R, hR9⟩ : ∃ R, R = (mSigns j n mn t (m0 M)) := ⟨_, rfl⟩
  rw [← hR9] at hS hok h00
  obtain ⟨hq1, hq2⟩ := hok.tok i (by omega)
  rw [← hR9] at hk
  refine zV_aload_n hX dX11_taken_0 rfl ?_
  refine zV_iconst hX (v := nI 0) dX11_taken_1 (by decide) ?_
  refine zV_puti hX dX11_taken_2 zf_X11_149 zp_9_0 zo300.1 rfl ?_
  refine zV_aload_n hX dX11_taken_5 rfl ?_
  refine zV_iload_n hX dX11_taken_6 rfl ?_
  refine zV_cV1p hX hR hl dX11_taken_7 (zc_isMember l G _ n _ ((zw_ne (by omega)).trans hn) hn7 h0) zt_X11_isMember rfl zml_X11_179 zo300.1 ⟨by decide, by decide⟩ (Nat.le_of_ble_eq_true rfl) ?_
  dsimp only [Option.toList, List.cons_append, List.nil_append]
  refine zV_topi (zb true) (by rw [zmem_nI (by omega) (by omega), decide_eq_true hj]) ?_
  refine zV_if_eqB hX (tgt := 25) dX11_taken_10 (by decide) (fun c_10 => absurd c_10 (by decide)) (fun c_10 => ?_)
  refine zV_aload_n hX dX11_taken_13 rfl ?_
  refine zV_iload_n hX dX11_taken_14 rfl ?_
  refine zV_cV1p hX hR hl dX11_taken_15 (zc_isMember l G _ n _ ((zw_ne (by omega)).trans hn) hn7 h0) zt_X11_isMember rfl zml_X11_179 zo300.1 ⟨by decide, by decide⟩ (Nat.le_of_ble_eq_true rfl) ?_
  dsimp only [Option.toList, List.cons_append, List.nil_append]
  refine zV_topi (zb true) (by rw [zmem_nI (by omega) (by omega), decide_eq_true hi]) ?_
  refine zV_if_eqB hX (tgt := 25) dX11_taken_18 (by decide) (fun c_18 => absurd c_18 (by decide)) (fun c_18 => ?_)
  refine zV_iconst hX (v := nI 1) dX11_taken_21 (by decide) ?_
  refine zV_goto hX (tgt := 26) dX11_taken_22 (by decide) ?_
  refine zV_istore hX dX11_taken_26 (by decide) ?_
  dsimp only [zst1, zst2, zclr, zc2]
  refine zV_iload hX dX11_taken_28 rfl ?_
  refine zV_if_eqN hX (tgt := 38) dX11_taken_30 (by decide) (by decide) (fun c_30 => absurd c_30 (by decide)) (fun c_30 => ?_)
  refine zV_aload_n hX dX11_taken_33 rfl ?_
  refine zV_iload_n hX dX11_taken_34 rfl ?_
  refine zV_cV1p hX hR hl dX11_taken_35 (zc_signs l G (m0 M) n j t mn ((zw_ne (by omega)).trans hn) hn7 ((zw_ne (by omega)).trans ht) ht2 (by omega) hmn0) zt_X11_signs rfl zml_X11_435 zo300.1 ⟨by decide, by decide⟩ (Nat.le_of_ble_eq_true rfl) ?_
  dsimp only [Option.toList, List.cons_append, List.nil_append]
  refine zV_mem hR9.symm ?_
  refine zV_aload_n hX dX11_taken_38 rfl ?_
  refine zV_iload hX dX11_taken_39 rfl ?_
  refine zV_if_eqN hX (tgt := 60) dX11_taken_41 (by decide) (by decide) (fun c_41 => absurd c_41 (by decide)) (fun c_41 => ?_)
  refine zV_iload_n hX dX11_taken_44 rfl ?_
  refine zV_iconst hX (v := nI 0) dX11_taken_45 (by decide) ?_
  refine zV_aload_n hX dX11_taken_46 rfl ?_
  refine zV_geta hX dX11_taken_47 zf_X11_65 zo300.1 rfl ?_
  refine zV_iload_n hX dX11_taken_50 rfl ?_
  refine zV_iald hX (v := nI (mTk9 R i)) dX11_taken_51 (zo300.a 31 rfl) (rfl) ⟨by omega, by omega⟩ (hq1) ?_
  refine zV_iconst hX (v := nI 1) dX11_taken_52 (by decide) ?_
  refine zV_isubN hX dX11_taken_53 (by omega) ?_
  refine zV_cS3p hX hR hl dX11_taken_54 (zc_min l G _ _ _ _) zt_X11_in rfl zml_X11_162 (by decide) (Nat.le_of_ble_eq_true rfl) ?_
  dsimp only [Option.toList, List.cons_append, List.nil_append]
  refine zV_topi (zb true) (by rw [mIn_nI (by omega) (by omega) (by omega), decide_eq_false (by omega), Bool.not_false]) ?_
  refine zV_if_neB hX (tgt := 64) dX11_taken_57 (by decide) (fun c_57 => ?_) (fun c_57 => absurd c_57 (by decide))
  refine zV_iconst hX (v := nI 0) dX11_taken_64 (by decide) ?_
  refine zV_iconst hX (v := nI 1) dX11_taken_65 (by decide) ?_
  refine zV_iconst hX (v := nI 0) dX11_taken_66 (by decide) ?_
  refine zV_cV3p hX hR hl dX11_taken_67 (zc_badF0 l G R _ h00) zt_X11_bad rfl zml_X11_166 zo300.1 ⟨by decide, by decide⟩ (Nat.le_of_ble_eq_true rfl) ?_
  dsimp only [Option.toList, List.cons_append, List.nil_append]
  refine zV_if_neB hX (tgt := 97) dX11_taken_70 (by decide) (fun c_70 => absurd c_70 (by decide)) (fun c_70 => ?_)
  refine zV_aload_n hX dX11_taken_73 rfl ?_
  refine zV_iload hX dX11_taken_74 rfl ?_
  refine zV_iconst hX (v := nI 0) dX11_taken_76 (by decide) ?_
  refine zV_iconst hX (v := nI 1) dX11_taken_77 (by decide) ?_
  refine zV_cS3p hX hR hl dX11_taken_78 (zc_min l G _ _ _ _) zt_X11_in rfl zml_X11_162 (by decide) (Nat.le_of_ble_eq_true rfl) ?_
  dsimp only [Option.toList, List.cons_append, List.nil_append]
  refine zV_topi (zb false) (by rw [hz]) ?_
  refine zV_if_neB hX (tgt := 88) dX11_taken_81 (by decide) (fun c_81 => absurd c_81 (by decide)) (fun c_81 => ?_)
  refine zV_iconst hX (v := nI 1) dX11_taken_84 (by decide) ?_
  refine zV_goto hX (tgt := 89) dX11_taken_85 (by decide) ?_
  refine zV_iconst hX (v := nI 2) dX11_taken_89 (by decide) ?_
  refine zV_iconst hX (v := nI 1) dX11_taken_90 (by decide) ?_
  refine zV_cV3p hX hR hl dX11_taken_91 (zc_badT1 l G R _ h00 (by decide)) zt_X11_bad rfl zml_X11_166 zo300.1 ⟨by decide, by decide⟩ (Nat.le_of_ble_eq_true rfl) ?_
  dsimp only [Option.toList, List.cons_append, List.nil_append]
  refine zV_if_eqB hX (tgt := 99) dX11_taken_94 (by decide) (fun c_94 => absurd c_94 (by decide)) (fun c_94 => ?_)
  refine zV_iconst hX (v := nI 0) dX11_taken_97 (by decide) ?_
  exact zV_reti hX hQ hr (⟨rfl, by rw [hR9]⟩) dX11_taken_98
set_option maxHeartbeats 1000000 in
theorem zc_mheard (l : Launch) (G : zG) (M : zM) (n c t j p k : Nat) (a b d : Int32) (hn : M.1 300 9 = nI n) (hn7 : n ≤ 7) (h0 : 1 ≤ n) (ht : M.1 300 10 = nI t) (ht2 : t ≤ 2) (hcm : M.1 300 17 = nI c) (hc7 : c < 7) (hj : j < n) (hT : mTold n c t a b d = true) (hp : mPo b d = nI p) (hp7 : p < 57) (hH : mHas n c t j p = true) (hk : k ≤ 2) : zC l G 5 yX11_heard cX11_heard 8 (Option.some Jvm.ClassFile.FieldType.int) [.ref (300 : Nat), .int (nI j), .int a, .int b, .int d, .int (nI k)] M (zP (some (.int (if k = 0 then M.1 (1000 + 16 * 20 + j) p else if k = 1 then (if M.1 (1000 + 16 * 21 + j) p = 0 then nI 0 else nI 1) else mR (m0 M) n c j (t + 1) p))) (m0 M)) := by
  refine zC_of (by decide) (Nat.le_of_ble_eq_true rfl) (fun X Q hQ hX hl hR hr => ?_)
  refine zV_loc (L' := [.ref (300 : Nat), .int (nI j), .int a, .int b, .int d, .int (nI k), .null, .null]) rfl ?_
  refine zV_aload_n hX dX11_heard_0 rfl ?_
  refine zV_iconst hX (v := nI 0) dX11_heard_1 (by decide) ?_
  refine zV_puti hX dX11_heard_2 zf_X11_149 zp_9_0 zo300.1 rfl ?_
  refine zV_aload_n hX dX11_heard_5 rfl ?_
  refine zV_iload_n hX dX11_heard_6 rfl ?_
  refine zV_cV1p hX hR hl dX11_heard_7 (zc_isMember l G _ n _ ((zw_ne (by omega)).trans hn) hn7 h0) zt_X11_isMember rfl zml_X11_179 zo300.1 ⟨by decide, by decide⟩ (Nat.le_of_ble_eq_true rfl) ?_
  dsimp only [Option.toList, List.cons_append, List.nil_append]
  refine zV_topi (zb true) (by rw [zmem_nI (by omega) (by omega), decide_eq_true hj]) ?_
  refine zV_if_eqB hX (tgt := 42) dX11_heard_10 (by decide) (fun c_10 => absurd c_10 (by decide)) (fun c_10 => ?_)
  refine zV_aload_n hX dX11_heard_13 rfl ?_
  refine zV_iload_n hX dX11_heard_14 rfl ?_
  refine zV_iload_n hX dX11_heard_15 rfl ?_
  refine zV_iload hX dX11_heard_16 rfl ?_
  refine zV_cV3p hX hR hl dX11_heard_18 (zc_isTold l G (m0 M) n c t a b d ((zw_ne (by omega)).trans hn) hn7 ((zw_ne (by omega)).trans hcm) hc7 ((zw_ne (by omega)).trans ht) ht2 h0) zt_X11_isTold rfl zml_X11_390 zo300.1 ⟨by decide, by decide⟩ (Nat.le_of_ble_eq_true rfl) ?_
  dsimp only [Option.toList, List.cons_append, List.nil_append]
  refine zV_topi (zb true) (by rw [hT]) ?_
  refine zV_if_eqB hX (tgt := 42) dX11_heard_21 (by decide) (fun c_21 => absurd c_21 (by decide)) (fun c_21 => ?_)
  refine zV_aload_n hX dX11_heard_24 rfl ?_
  refine zV_iload_n hX dX11_heard_25 rfl ?_
  refine zV_iload_n hX dX11_heard_26 rfl ?_
  refine zV_iload hX dX11_heard_27 rfl ?_
  refine zV_cS2p hX hR hl dX11_heard_29 (zc_mpathOf l G (m0 M) b d p hp) zt_X11_pathOf rfl zml_X11_387 (by decide) (Nat.le_of_ble_eq_true rfl) ?_
  dsimp only [Option.toList, List.cons_append, List.nil_append]
  refine zV_cV2p hX hR hl dX11_heard_32 (zc_hasHeard l G (m0 M) n c t j p ((zw_ne (by omega)).trans hn) hn7 ((zw_ne (by omega)).trans hcm) hc7 ((zw_ne (by omega)).trans ht) ht2 h0 (by omega) hp7) zt_X11_hasHeard rfl zml_X11_337 zo300.1 ⟨by decide, by decide⟩ (Nat.le_of_ble_eq_true rfl) ?_
  dsimp only [Option.toList, List.cons_append, List.nil_append]
  refine zV_topi (zb true) (by rw [hH]) ?_
  refine zV_if_eqB hX (tgt := 42) dX11_heard_35 (by decide) (fun c_35 => absurd c_35 (by decide)) (fun c_35 => ?_)
  refine zV_iconst hX (v := nI 1) dX11_heard_38 (by decide) ?_
  refine zV_goto hX (tgt := 43) dX11_heard_39 (by decide) ?_
  refine zV_istore hX dX11_heard_43 (by decide) ?_
  dsimp only [zst1, zst2, zclr, zc2]
  refine zV_aload_n hX dX11_heard_45 rfl ?_
  refine zV_iload hX dX11_heard_46 rfl ?_
  refine zV_if_neN hX (tgt := 55) dX11_heard_48 (by decide) (by decide) (fun c_48 => ?_) (fun c_48 => absurd c_48 (by decide))
  refine zV_iconst hX (v := nI 0) dX11_heard_55 (by decide) ?_
  refine zV_iconst hX (v := nI 1) dX11_heard_56 (by decide) ?_
  refine zV_iconst hX (v := nI 0) dX11_heard_57 (by decide) ?_
  refine zV_cV3p hX hR hl dX11_heard_58 (zc_badF0 l G _ _ zw_same) zt_X11_bad rfl zml_X11_166 zo300.1 ⟨by decide, by decide⟩ (Nat.le_of_ble_eq_true rfl) ?_
  dsimp only [Option.toList, List.cons_append, List.nil_append]
  refine zV_if_neB hX (tgt := 88) dX11_heard_61 (by decide) (fun c_61 => absurd c_61 (by decide)) (fun c_61 => ?_)
  refine zV_aload_n hX dX11_heard_64 rfl ?_
  refine zV_iload hX dX11_heard_65 rfl ?_
  refine zV_iconst hX (v := nI 0) dX11_heard_67 (by decide) ?_
  refine zV_iconst hX (v := nI 2) dX11_heard_68 (by decide) ?_
  refine zV_cS3p hX hR hl dX11_heard_69 (zc_min l G _ _ _ _) zt_X11_in rfl zml_X11_162 (by decide) (Nat.le_of_ble_eq_true rfl) ?_
  dsimp only [Option.toList, List.cons_append, List.nil_append]
  refine zV_topi (zb true) (by rw [mIn_nI (by omega) (by omega) (by omega), decide_eq_false (by omega), Bool.not_false]) ?_
  refine zV_if_neB hX (tgt := 79) dX11_heard_72 (by decide) (fun c_72 => ?_) (fun c_72 => absurd c_72 (by decide))
  refine zV_iconst hX (v := nI 0) dX11_heard_79 (by decide) ?_
  refine zV_iconst hX (v := nI 2) dX11_heard_80 (by decide) ?_
  refine zV_iconst hX (v := nI 1) dX11_heard_81 (by decide) ?_
  refine zV_cV3p hX hR hl dX11_heard_82 (zc_badF1 l G _ _ zw_same) zt_X11_bad rfl zml_X11_166 zo300.1 ⟨by decide, by decide⟩ (Nat.le_of_ble_eq_true rfl) ?_
  dsimp only [Option.toList, List.cons_append, List.nil_append]
  refine zV_if_eqB hX (tgt := 90) dX11_heard_85 (by decide) (fun c_85 => ?_) (fun c_85 => absurd c_85 (by decide))
  refine zV_iload_n hX dX11_heard_90 rfl ?_
  refine zV_iload hX dX11_heard_91 rfl ?_
  refine zV_cS2p hX hR hl dX11_heard_93 (zc_mpathOf l G (m0 M) b d p hp) zt_X11_pathOf rfl zml_X11_387 (by decide) (Nat.le_of_ble_eq_true rfl) ?_
  dsimp only [Option.toList, List.cons_append, List.nil_append]
  refine zV_istore hX dX11_heard_96 (by decide) ?_
  dsimp only [zst1, zst2, zclr, zc2]
  refine zV_iload hX dX11_heard_98 rfl ?_
  refine zV_if_neN hX (tgt := 115) dX11_heard_100 (by decide) (by omega) (fun c_100 => ?_) (fun c_100 => ?_)
  · refine zV_iload hX dX11_heard_115 rfl ?_
    refine zV_iconst hX (v := nI 1) dX11_heard_117 (by decide) ?_
    refine zV_icmp_neN hX (tgt := 141) dX11_heard_118 (by decide) ⟨by omega, by omega⟩ (fun c_118 => ?_) (fun c_118 => ?_)
    · refine zV_aload_n hX dX11_heard_141 rfl ?_
      refine zV_iload_n hX dX11_heard_142 rfl ?_
      refine zV_iload hX dX11_heard_143 rfl ?_
      refine zV_aload_n hX dX11_heard_145 rfl ?_
      refine zV_geti hX dX11_heard_146 zf_X11_23 zo300.1 rfl ((zw_ne (by omega)).trans ht) ?_
      refine zV_iconst hX (v := nI 1) dX11_heard_149 (by decide) ?_
      refine zV_iaddN hX dX11_heard_150 ?_
      refine zV_cV3p hX hR hl dX11_heard_151 (zc_resolved l G (m0 M) n c j (t + 1) p ((zw_ne (by omega)).trans hn) hn7 ((zw_ne (by omega)).trans hcm) hc7 (by omega) (by omega) hp7) zt_X11_resolved rfl zml_X11_355 zo300.1 ⟨by decide, by decide⟩ (Nat.le_of_ble_eq_true rfl) ?_
      dsimp only [Option.toList, List.cons_append, List.nil_append]
      exact zV_reti hX hQ hr (⟨by first | (rw [if_pos c_100]; done) | (rw [if_neg (by omega), if_pos c_118, if_pos c_130]; done) | (rw [if_neg (by omega), if_pos c_118, if_neg c_130]; done) | (rw [if_neg (by omega), if_neg (by omega)]; done), rfl⟩) dX11_heard_154
    · refine zV_aload_n hX dX11_heard_121 rfl ?_
      refine zV_geta hX dX11_heard_122 zf_X11_47 zo300.1 rfl ?_
      refine zV_iload_n hX dX11_heard_125 rfl ?_
      refine zV_aald hX dX11_heard_126 (t := 1) (zo300.a 21 rfl) (by decide) (rfl) ⟨by omega, by omega⟩ (mRow 21 (by decide)) ?_
      refine zV_iload hX dX11_heard_127 rfl ?_
      refine zV_zald hX (v := M.1 (1000 + 16 * 21 + j) p) dX11_heard_129 (mSh21 (by omega)) (rfl) ⟨by omega, by omega⟩ (zw_ne (by omega)) ?_
      refine zV_if_eq hX (tgt := 137) dX11_heard_130 (by decide) (fun c_130 => ?_) (fun c_130 => ?_)
      · refine zV_iconst hX (v := nI 0) dX11_heard_137 (by decide) ?_
        refine zV_goto hX (tgt := 154) dX11_heard_138 (by decide) ?_
        exact zV_reti hX hQ hr (⟨by first | (rw [if_pos c_100]; done) | (rw [if_neg (by omega), if_pos c_118, if_pos c_130]; done) | (rw [if_neg (by omega), if_pos c_118, if_neg c_130]; done) | (rw [if_neg (by omega), if_neg (by omega)]; done), rfl⟩) dX11_heard_154
      · refine zV_iconst hX (v := nI 1) dX11_heard_133 (by decide) ?_
        refine zV_goto hX (tgt := 154) dX11_heard_134 (by decide) ?_
        exact zV_reti hX hQ hr (⟨by first | (rw [if_pos c_100]; done) | (rw [if_neg (by omega), if_pos c_118, if_pos c_130]; done) | (rw [if_neg (by omega), if_pos c_118, if_neg c_130]; done) | (rw [if_neg (by omega), if_neg (by omega)]; done), rfl⟩) dX11_heard_154
  · refine zV_aload_n hX dX11_heard_103 rfl ?_
    refine zV_geta hX dX11_heard_104 zf_X11_42 zo300.1 rfl ?_
    refine zV_iload_n hX dX11_heard_107 rfl ?_
    refine zV_aald hX dX11_heard_108 (t := 0) (zo300.a 20 rfl) (by decide) (rfl) ⟨by omega, by omega⟩ (mRow 20 (by decide)) ?_
    refine zV_iload hX dX11_heard_109 rfl ?_
    refine zV_iald hX (v := M.1 (1000 + 16 * 20 + j) p) dX11_heard_111 (mSh20 (by omega)) (rfl) ⟨by omega, by omega⟩ (zw_ne (by omega)) ?_
    refine zV_goto hX (tgt := 154) dX11_heard_112 (by decide) ?_
    exact zV_reti hX hQ hr (⟨by first | (rw [if_pos c_100]; done) | (rw [if_neg (by omega), if_pos c_118, if_pos c_130]; done) | (rw [if_neg (by omega), if_pos c_118, if_neg c_130]; done) | (rw [if_neg (by omega), if_neg (by omega)]; done), rfl⟩) dX11_heard_154
set_option maxHeartbeats 1000000 in
theorem zc_mheardX (l : Launch) (G : zG) (M : zM) (n : Nat) (x a b d k : Int32) (hn : M.1 300 9 = nI n) (hn7 : n ≤ 7) (h0 : 1 ≤ n) (hx : zmem x n = false) : zC l G 5 yX11_heard cX11_heard 8 (Option.some Jvm.ClassFile.FieldType.int) [.ref (300 : Nat), .int x, .int a, .int b, .int d, .int k] M (zP (some (.int (nI 0))) (mTw (nI 1) (nI 0) M)) := by
  refine zC_of (by decide) (Nat.le_of_ble_eq_true rfl) (fun X Q hQ hX hl hR hr => ?_)
  refine zV_loc (L' := [.ref (300 : Nat), .int x, .int a, .int b, .int d, .int k, .null, .null]) rfl ?_
  refine zV_aload_n hX dX11_heard_0 rfl ?_
  refine zV_iconst hX (v := nI 0) dX11_heard_1 (by decide) ?_
  refine zV_puti hX dX11_heard_2 zf_X11_149 zp_9_0 zo300.1 rfl ?_
  refine zV_aload_n hX dX11_heard_5 rfl ?_
  refine zV_iload_n hX dX11_heard_6 rfl ?_
  refine zV_cV1p hX hR hl dX11_heard_7 (zc_isMember l G _ n _ ((zw_ne (by omega)).trans hn) hn7 h0) zt_X11_isMember rfl zml_X11_179 zo300.1 ⟨by decide, by decide⟩ (Nat.le_of_ble_eq_true rfl) ?_
  dsimp only [Option.toList, List.cons_append, List.nil_append]
  refine zV_topi (zb false) (by rw [hx]) ?_
  refine zV_if_eqB hX (tgt := 42) dX11_heard_10 (by decide) (fun c_10 => ?_) (fun c_10 => absurd c_10 (by decide))
  refine zV_iconst hX (v := nI 0) dX11_heard_42 (by decide) ?_
  refine zV_istore hX dX11_heard_43 (by decide) ?_
  dsimp only [zst1, zst2, zclr, zc2]
  refine zV_aload_n hX dX11_heard_45 rfl ?_
  refine zV_iload hX dX11_heard_46 rfl ?_
  refine zV_if_neN hX (tgt := 55) dX11_heard_48 (by decide) (by decide) (fun c_48 => absurd c_48 (by decide)) (fun c_48 => ?_)
  refine zV_iconst hX (v := nI 1) dX11_heard_51 (by decide) ?_
  refine zV_goto hX (tgt := 56) dX11_heard_52 (by decide) ?_
  refine zV_iconst hX (v := nI 1) dX11_heard_56 (by decide) ?_
  refine zV_iconst hX (v := nI 0) dX11_heard_57 (by decide) ?_
  refine zV_cV3p hX hR hl dX11_heard_58 (zc_badT0 l G _ _ zw_same (by decide)) zt_X11_bad rfl zml_X11_166 zo300.1 ⟨by decide, by decide⟩ (Nat.le_of_ble_eq_true rfl) ?_
  dsimp only [Option.toList, List.cons_append, List.nil_append]
  refine zV_if_neB hX (tgt := 88) dX11_heard_61 (by decide) (fun c_61 => ?_) (fun c_61 => absurd c_61 (by decide))
  refine zV_iconst hX (v := nI 0) dX11_heard_88 (by decide) ?_
  exact zV_reti hX hQ hr (⟨rfl, rfl⟩) dX11_heard_89
set_option maxHeartbeats 1000000 in
theorem zc_mheardT (l : Launch) (G : zG) (M : zM) (n c t j : Nat) (a b d k : Int32) (hn : M.1 300 9 = nI n) (hn7 : n ≤ 7) (h0 : 1 ≤ n) (ht : M.1 300 10 = nI t) (ht2 : t ≤ 2) (hcm : M.1 300 17 = nI c) (hc7 : c < 7) (hj : j < n) (hT : mTold n c t a b d = false) : zC l G 5 yX11_heard cX11_heard 8 (Option.some Jvm.ClassFile.FieldType.int) [.ref (300 : Nat), .int (nI j), .int a, .int b, .int d, .int k] M (zP (some (.int (nI 0))) (mTw (nI 1) (nI 0) M)) := by
  refine zC_of (by decide) (Nat.le_of_ble_eq_true rfl) (fun X Q hQ hX hl hR hr => ?_)
  refine zV_loc (L' := [.ref (300 : Nat), .int (nI j), .int a, .int b, .int d, .int k, .null, .null]) rfl ?_
  refine zV_aload_n hX dX11_heard_0 rfl ?_
  refine zV_iconst hX (v := nI 0) dX11_heard_1 (by decide) ?_
  refine zV_puti hX dX11_heard_2 zf_X11_149 zp_9_0 zo300.1 rfl ?_
  refine zV_aload_n hX dX11_heard_5 rfl ?_
  refine zV_iload_n hX dX11_heard_6 rfl ?_
  refine zV_cV1p hX hR hl dX11_heard_7 (zc_isMember l G _ n _ ((zw_ne (by omega)).trans hn) hn7 h0) zt_X11_isMember rfl zml_X11_179 zo300.1 ⟨by decide, by decide⟩ (Nat.le_of_ble_eq_true rfl) ?_
  dsimp only [Option.toList, List.cons_append, List.nil_append]
  refine zV_topi (zb true) (by rw [zmem_nI (by omega) (by omega), decide_eq_true hj]) ?_
  refine zV_if_eqB hX (tgt := 42) dX11_heard_10 (by decide) (fun c_10 => absurd c_10 (by decide)) (fun c_10 => ?_)
  refine zV_aload_n hX dX11_heard_13 rfl ?_
  refine zV_iload_n hX dX11_heard_14 rfl ?_
  refine zV_iload_n hX dX11_heard_15 rfl ?_
  refine zV_iload hX dX11_heard_16 rfl ?_
  refine zV_cV3p hX hR hl dX11_heard_18 (zc_isTold l G (m0 M) n c t a b d ((zw_ne (by omega)).trans hn) hn7 ((zw_ne (by omega)).trans hcm) hc7 ((zw_ne (by omega)).trans ht) ht2 h0) zt_X11_isTold rfl zml_X11_390 zo300.1 ⟨by decide, by decide⟩ (Nat.le_of_ble_eq_true rfl) ?_
  dsimp only [Option.toList, List.cons_append, List.nil_append]
  refine zV_topi (zb false) (by rw [hT]) ?_
  refine zV_if_eqB hX (tgt := 42) dX11_heard_21 (by decide) (fun c_21 => ?_) (fun c_21 => absurd c_21 (by decide))
  refine zV_iconst hX (v := nI 0) dX11_heard_42 (by decide) ?_
  refine zV_istore hX dX11_heard_43 (by decide) ?_
  dsimp only [zst1, zst2, zclr, zc2]
  refine zV_aload_n hX dX11_heard_45 rfl ?_
  refine zV_iload hX dX11_heard_46 rfl ?_
  refine zV_if_neN hX (tgt := 55) dX11_heard_48 (by decide) (by decide) (fun c_48 => absurd c_48 (by decide)) (fun c_48 => ?_)
  refine zV_iconst hX (v := nI 1) dX11_heard_51 (by decide) ?_
  refine zV_goto hX (tgt := 56) dX11_heard_52 (by decide) ?_
  refine zV_iconst hX (v := nI 1) dX11_heard_56 (by decide) ?_
  refine zV_iconst hX (v := nI 0) dX11_heard_57 (by decide) ?_
  refine zV_cV3p hX hR hl dX11_heard_58 (zc_badT0 l G _ _ zw_same (by decide)) zt_X11_bad rfl zml_X11_166 zo300.1 ⟨by decide, by decide⟩ (Nat.le_of_ble_eq_true rfl) ?_
  dsimp only [Option.toList, List.cons_append, List.nil_append]
  refine zV_if_neB hX (tgt := 88) dX11_heard_61 (by decide) (fun c_61 => ?_) (fun c_61 => absurd c_61 (by decide))
  refine zV_iconst hX (v := nI 0) dX11_heard_88 (by decide) ?_
  exact zV_reti hX hQ hr (⟨rfl, rfl⟩) dX11_heard_89
set_option maxHeartbeats 1000000 in
theorem zc_mheardN (l : Launch) (G : zG) (M : zM) (n j : Nat) (a b d k : Int32) (hn : M.1 300 9 = nI n) (hn7 : n ≤ 7) (h0 : 1 ≤ n) (hcm : M.1 300 17 = -1) (hj : j < n) : zC l G 5 yX11_heard cX11_heard 8 (Option.some Jvm.ClassFile.FieldType.int) [.ref (300 : Nat), .int (nI j), .int a, .int b, .int d, .int k] M (zP (some (.int (nI 0))) (mTw (nI 1) (nI 0) M)) := by
  refine zC_of (by decide) (Nat.le_of_ble_eq_true rfl) (fun X Q hQ hX hl hR hr => ?_)
  refine zV_loc (L' := [.ref (300 : Nat), .int (nI j), .int a, .int b, .int d, .int k, .null, .null]) rfl ?_
  refine zV_aload_n hX dX11_heard_0 rfl ?_
  refine zV_iconst hX (v := nI 0) dX11_heard_1 (by decide) ?_
  refine zV_puti hX dX11_heard_2 zf_X11_149 zp_9_0 zo300.1 rfl ?_
  refine zV_aload_n hX dX11_heard_5 rfl ?_
  refine zV_iload_n hX dX11_heard_6 rfl ?_
  refine zV_cV1p hX hR hl dX11_heard_7 (zc_isMember l G _ n _ ((zw_ne (by omega)).trans hn) hn7 h0) zt_X11_isMember rfl zml_X11_179 zo300.1 ⟨by decide, by decide⟩ (Nat.le_of_ble_eq_true rfl) ?_
  dsimp only [Option.toList, List.cons_append, List.nil_append]
  refine zV_topi (zb true) (by rw [zmem_nI (by omega) (by omega), decide_eq_true hj]) ?_
  refine zV_if_eqB hX (tgt := 42) dX11_heard_10 (by decide) (fun c_10 => absurd c_10 (by decide)) (fun c_10 => ?_)
  refine zV_aload_n hX dX11_heard_13 rfl ?_
  refine zV_iload_n hX dX11_heard_14 rfl ?_
  refine zV_iload_n hX dX11_heard_15 rfl ?_
  refine zV_iload hX dX11_heard_16 rfl ?_
  refine zV_cV3p hX hR hl dX11_heard_18 (zc_isTold0 l G (m0 M) a b d ((zw_ne (by omega)).trans hcm)) zt_X11_isTold rfl zml_X11_390 zo300.1 ⟨by decide, by decide⟩ (Nat.le_of_ble_eq_true rfl) ?_
  dsimp only [Option.toList, List.cons_append, List.nil_append]
  refine zV_if_eqB hX (tgt := 42) dX11_heard_21 (by decide) (fun c_21 => ?_) (fun c_21 => absurd c_21 (by decide))
  refine zV_iconst hX (v := nI 0) dX11_heard_42 (by decide) ?_
  refine zV_istore hX dX11_heard_43 (by decide) ?_
  dsimp only [zst1, zst2, zclr, zc2]
  refine zV_aload_n hX dX11_heard_45 rfl ?_
  refine zV_iload hX dX11_heard_46 rfl ?_
  refine zV_if_neN hX (tgt := 55) dX11_heard_48 (by decide) (by decide) (fun c_48 => absurd c_48 (by decide)) (fun c_48 => ?_)
  refine zV_iconst hX (v := nI 1) dX11_heard_51 (by decide) ?_
  refine zV_goto hX (tgt := 56) dX11_heard_52 (by decide) ?_
  refine zV_iconst hX (v := nI 1) dX11_heard_56 (by decide) ?_
  refine zV_iconst hX (v := nI 0) dX11_heard_57 (by decide) ?_
  refine zV_cV3p hX hR hl dX11_heard_58 (zc_badT0 l G _ _ zw_same (by decide)) zt_X11_bad rfl zml_X11_166 zo300.1 ⟨by decide, by decide⟩ (Nat.le_of_ble_eq_true rfl) ?_
  dsimp only [Option.toList, List.cons_append, List.nil_append]
  refine zV_if_neB hX (tgt := 88) dX11_heard_61 (by decide) (fun c_61 => ?_) (fun c_61 => absurd c_61 (by decide))
  refine zV_iconst hX (v := nI 0) dX11_heard_88 (by decide) ?_
  exact zV_reti hX hQ hr (⟨rfl, rfl⟩) dX11_heard_89
set_option maxHeartbeats 1000000 in
theorem zc_mheardH (l : Launch) (G : zG) (M : zM) (n c t j p : Nat) (a b d k : Int32) (hn : M.1 300 9 = nI n) (hn7 : n ≤ 7) (h0 : 1 ≤ n) (ht : M.1 300 10 = nI t) (ht2 : t ≤ 2) (hcm : M.1 300 17 = nI c) (hc7 : c < 7) (hj : j < n) (hT : mTold n c t a b d = true) (hp : mPo b d = nI p) (hp7 : p < 57) (hH : mHas n c t j p = false) : zC l G 5 yX11_heard cX11_heard 8 (Option.some Jvm.ClassFile.FieldType.int) [.ref (300 : Nat), .int (nI j), .int a, .int b, .int d, .int k] M (zP (some (.int (nI 0))) (mTw (nI 1) (nI 0) M)) := by
  refine zC_of (by decide) (Nat.le_of_ble_eq_true rfl) (fun X Q hQ hX hl hR hr => ?_)
  refine zV_loc (L' := [.ref (300 : Nat), .int (nI j), .int a, .int b, .int d, .int k, .null, .null]) rfl ?_
  refine zV_aload_n hX dX11_heard_0 rfl ?_
  refine zV_iconst hX (v := nI 0) dX11_heard_1 (by decide) ?_
  refine zV_puti hX dX11_heard_2 zf_X11_149 zp_9_0 zo300.1 rfl ?_
  refine zV_aload_n hX dX11_heard_5 rfl ?_
  refine zV_iload_n hX dX11_heard_6 rfl ?_
  refine zV_cV1p hX hR hl dX11_heard_7 (zc_isMember l G _ n _ ((zw_ne (by omega)).trans hn) hn7 h0) zt_X11_isMember rfl zml_X11_179 zo300.1 ⟨by decide, by decide⟩ (Nat.le_of_ble_eq_true rfl) ?_
  dsimp only [Option.toList, List.cons_append, List.nil_append]
  refine zV_topi (zb true) (by rw [zmem_nI (by omega) (by omega), decide_eq_true hj]) ?_
  refine zV_if_eqB hX (tgt := 42) dX11_heard_10 (by decide) (fun c_10 => absurd c_10 (by decide)) (fun c_10 => ?_)
  refine zV_aload_n hX dX11_heard_13 rfl ?_
  refine zV_iload_n hX dX11_heard_14 rfl ?_
  refine zV_iload_n hX dX11_heard_15 rfl ?_
  refine zV_iload hX dX11_heard_16 rfl ?_
  refine zV_cV3p hX hR hl dX11_heard_18 (zc_isTold l G (m0 M) n c t a b d ((zw_ne (by omega)).trans hn) hn7 ((zw_ne (by omega)).trans hcm) hc7 ((zw_ne (by omega)).trans ht) ht2 h0) zt_X11_isTold rfl zml_X11_390 zo300.1 ⟨by decide, by decide⟩ (Nat.le_of_ble_eq_true rfl) ?_
  dsimp only [Option.toList, List.cons_append, List.nil_append]
  refine zV_topi (zb true) (by rw [hT]) ?_
  refine zV_if_eqB hX (tgt := 42) dX11_heard_21 (by decide) (fun c_21 => absurd c_21 (by decide)) (fun c_21 => ?_)
  refine zV_aload_n hX dX11_heard_24 rfl ?_
  refine zV_iload_n hX dX11_heard_25 rfl ?_
  refine zV_iload_n hX dX11_heard_26 rfl ?_
  refine zV_iload hX dX11_heard_27 rfl ?_
  refine zV_cS2p hX hR hl dX11_heard_29 (zc_mpathOf l G (m0 M) b d p hp) zt_X11_pathOf rfl zml_X11_387 (by decide) (Nat.le_of_ble_eq_true rfl) ?_
  dsimp only [Option.toList, List.cons_append, List.nil_append]
  refine zV_cV2p hX hR hl dX11_heard_32 (zc_hasHeard l G (m0 M) n c t j p ((zw_ne (by omega)).trans hn) hn7 ((zw_ne (by omega)).trans hcm) hc7 ((zw_ne (by omega)).trans ht) ht2 h0 (by omega) hp7) zt_X11_hasHeard rfl zml_X11_337 zo300.1 ⟨by decide, by decide⟩ (Nat.le_of_ble_eq_true rfl) ?_
  dsimp only [Option.toList, List.cons_append, List.nil_append]
  refine zV_topi (zb false) (by rw [hH]) ?_
  refine zV_if_eqB hX (tgt := 42) dX11_heard_35 (by decide) (fun c_35 => ?_) (fun c_35 => absurd c_35 (by decide))
  refine zV_iconst hX (v := nI 0) dX11_heard_42 (by decide) ?_
  refine zV_istore hX dX11_heard_43 (by decide) ?_
  dsimp only [zst1, zst2, zclr, zc2]
  refine zV_aload_n hX dX11_heard_45 rfl ?_
  refine zV_iload hX dX11_heard_46 rfl ?_
  refine zV_if_neN hX (tgt := 55) dX11_heard_48 (by decide) (by decide) (fun c_48 => absurd c_48 (by decide)) (fun c_48 => ?_)
  refine zV_iconst hX (v := nI 1) dX11_heard_51 (by decide) ?_
  refine zV_goto hX (tgt := 56) dX11_heard_52 (by decide) ?_
  refine zV_iconst hX (v := nI 1) dX11_heard_56 (by decide) ?_
  refine zV_iconst hX (v := nI 0) dX11_heard_57 (by decide) ?_
  refine zV_cV3p hX hR hl dX11_heard_58 (zc_badT0 l G _ _ zw_same (by decide)) zt_X11_bad rfl zml_X11_166 zo300.1 ⟨by decide, by decide⟩ (Nat.le_of_ble_eq_true rfl) ?_
  dsimp only [Option.toList, List.cons_append, List.nil_append]
  refine zV_if_neB hX (tgt := 88) dX11_heard_61 (by decide) (fun c_61 => ?_) (fun c_61 => absurd c_61 (by decide))
  refine zV_iconst hX (v := nI 0) dX11_heard_88 (by decide) ?_
  exact zV_reti hX hQ hr (⟨rfl, rfl⟩) dX11_heard_89
set_option maxHeartbeats 1000000 in
theorem zc_mheardK (l : Launch) (G : zG) (M : zM) (n c t j p : Nat) (a b d k : Int32) (hn : M.1 300 9 = nI n) (hn7 : n ≤ 7) (h0 : 1 ≤ n) (ht : M.1 300 10 = nI t) (ht2 : t ≤ 2) (hcm : M.1 300 17 = nI c) (hc7 : c < 7) (hj : j < n) (hT : mTold n c t a b d = true) (hp : mPo b d = nI p) (hp7 : p < 57) (hH : mHas n c t j p = true) (hk : mIn k (nI 0) (nI 2) = false) : zC l G 5 yX11_heard cX11_heard 8 (Option.some Jvm.ClassFile.FieldType.int) [.ref (300 : Nat), .int (nI j), .int a, .int b, .int d, .int k] M (zP (some (.int (nI 0))) (mTw (nI 2) (nI 1) M)) := by
  refine zC_of (by decide) (Nat.le_of_ble_eq_true rfl) (fun X Q hQ hX hl hR hr => ?_)
  refine zV_loc (L' := [.ref (300 : Nat), .int (nI j), .int a, .int b, .int d, .int k, .null, .null]) rfl ?_
  refine zV_aload_n hX dX11_heard_0 rfl ?_
  refine zV_iconst hX (v := nI 0) dX11_heard_1 (by decide) ?_
  refine zV_puti hX dX11_heard_2 zf_X11_149 zp_9_0 zo300.1 rfl ?_
  refine zV_aload_n hX dX11_heard_5 rfl ?_
  refine zV_iload_n hX dX11_heard_6 rfl ?_
  refine zV_cV1p hX hR hl dX11_heard_7 (zc_isMember l G _ n _ ((zw_ne (by omega)).trans hn) hn7 h0) zt_X11_isMember rfl zml_X11_179 zo300.1 ⟨by decide, by decide⟩ (Nat.le_of_ble_eq_true rfl) ?_
  dsimp only [Option.toList, List.cons_append, List.nil_append]
  refine zV_topi (zb true) (by rw [zmem_nI (by omega) (by omega), decide_eq_true hj]) ?_
  refine zV_if_eqB hX (tgt := 42) dX11_heard_10 (by decide) (fun c_10 => absurd c_10 (by decide)) (fun c_10 => ?_)
  refine zV_aload_n hX dX11_heard_13 rfl ?_
  refine zV_iload_n hX dX11_heard_14 rfl ?_
  refine zV_iload_n hX dX11_heard_15 rfl ?_
  refine zV_iload hX dX11_heard_16 rfl ?_
  refine zV_cV3p hX hR hl dX11_heard_18 (zc_isTold l G (m0 M) n c t a b d ((zw_ne (by omega)).trans hn) hn7 ((zw_ne (by omega)).trans hcm) hc7 ((zw_ne (by omega)).trans ht) ht2 h0) zt_X11_isTold rfl zml_X11_390 zo300.1 ⟨by decide, by decide⟩ (Nat.le_of_ble_eq_true rfl) ?_
  dsimp only [Option.toList, List.cons_append, List.nil_append]
  refine zV_topi (zb true) (by rw [hT]) ?_
  refine zV_if_eqB hX (tgt := 42) dX11_heard_21 (by decide) (fun c_21 => absurd c_21 (by decide)) (fun c_21 => ?_)
  refine zV_aload_n hX dX11_heard_24 rfl ?_
  refine zV_iload_n hX dX11_heard_25 rfl ?_
  refine zV_iload_n hX dX11_heard_26 rfl ?_
  refine zV_iload hX dX11_heard_27 rfl ?_
  refine zV_cS2p hX hR hl dX11_heard_29 (zc_mpathOf l G (m0 M) b d p hp) zt_X11_pathOf rfl zml_X11_387 (by decide) (Nat.le_of_ble_eq_true rfl) ?_
  dsimp only [Option.toList, List.cons_append, List.nil_append]
  refine zV_cV2p hX hR hl dX11_heard_32 (zc_hasHeard l G (m0 M) n c t j p ((zw_ne (by omega)).trans hn) hn7 ((zw_ne (by omega)).trans hcm) hc7 ((zw_ne (by omega)).trans ht) ht2 h0 (by omega) hp7) zt_X11_hasHeard rfl zml_X11_337 zo300.1 ⟨by decide, by decide⟩ (Nat.le_of_ble_eq_true rfl) ?_
  dsimp only [Option.toList, List.cons_append, List.nil_append]
  refine zV_topi (zb true) (by rw [hH]) ?_
  refine zV_if_eqB hX (tgt := 42) dX11_heard_35 (by decide) (fun c_35 => absurd c_35 (by decide)) (fun c_35 => ?_)
  refine zV_iconst hX (v := nI 1) dX11_heard_38 (by decide) ?_
  refine zV_goto hX (tgt := 43) dX11_heard_39 (by decide) ?_
  refine zV_istore hX dX11_heard_43 (by decide) ?_
  dsimp only [zst1, zst2, zclr, zc2]
  refine zV_aload_n hX dX11_heard_45 rfl ?_
  refine zV_iload hX dX11_heard_46 rfl ?_
  refine zV_if_neN hX (tgt := 55) dX11_heard_48 (by decide) (by decide) (fun c_48 => ?_) (fun c_48 => absurd c_48 (by decide))
  refine zV_iconst hX (v := nI 0) dX11_heard_55 (by decide) ?_
  refine zV_iconst hX (v := nI 1) dX11_heard_56 (by decide) ?_
  refine zV_iconst hX (v := nI 0) dX11_heard_57 (by decide) ?_
  refine zV_cV3p hX hR hl dX11_heard_58 (zc_badF0 l G _ _ zw_same) zt_X11_bad rfl zml_X11_166 zo300.1 ⟨by decide, by decide⟩ (Nat.le_of_ble_eq_true rfl) ?_
  dsimp only [Option.toList, List.cons_append, List.nil_append]
  refine zV_if_neB hX (tgt := 88) dX11_heard_61 (by decide) (fun c_61 => absurd c_61 (by decide)) (fun c_61 => ?_)
  refine zV_aload_n hX dX11_heard_64 rfl ?_
  refine zV_iload hX dX11_heard_65 rfl ?_
  refine zV_iconst hX (v := nI 0) dX11_heard_67 (by decide) ?_
  refine zV_iconst hX (v := nI 2) dX11_heard_68 (by decide) ?_
  refine zV_cS3p hX hR hl dX11_heard_69 (zc_min l G _ _ _ _) zt_X11_in rfl zml_X11_162 (by decide) (Nat.le_of_ble_eq_true rfl) ?_
  dsimp only [Option.toList, List.cons_append, List.nil_append]
  refine zV_topi (zb false) (by rw [hk]) ?_
  refine zV_if_neB hX (tgt := 79) dX11_heard_72 (by decide) (fun c_72 => absurd c_72 (by decide)) (fun c_72 => ?_)
  refine zV_iconst hX (v := nI 1) dX11_heard_75 (by decide) ?_
  refine zV_goto hX (tgt := 80) dX11_heard_76 (by decide) ?_
  refine zV_iconst hX (v := nI 2) dX11_heard_80 (by decide) ?_
  refine zV_iconst hX (v := nI 1) dX11_heard_81 (by decide) ?_
  refine zV_cV3p hX hR hl dX11_heard_82 (zc_badT1 l G _ _ zw_same (by decide)) zt_X11_bad rfl zml_X11_166 zo300.1 ⟨by decide, by decide⟩ (Nat.le_of_ble_eq_true rfl) ?_
  dsimp only [Option.toList, List.cons_append, List.nil_append]
  refine zV_if_eqB hX (tgt := 90) dX11_heard_85 (by decide) (fun c_85 => absurd c_85 (by decide)) (fun c_85 => ?_)
  refine zV_iconst hX (v := nI 0) dX11_heard_88 (by decide) ?_
  exact zV_reti hX hQ hr (⟨rfl, rfl⟩) dX11_heard_89
