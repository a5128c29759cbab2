theorem td9 (j : Nat) (hj : j ≤ 9) (h0 : nI j ≠ nI 0) (h1 : nI j ≠ nI 1) (h2 : nI j ≠ nI 2) (h3 : nI j ≠ nI 3) (h4 : nI j ≠ nI 4) (h5 : nI j ≠ nI 5) (h6 : nI j ≠ nI 6) (h7 : nI j ≠ nI 7) (h8 : nI j ≠ nI 8) : j = 9 := by
  rcases Nat.lt_or_ge j 9 with q | q
  · exfalso
    match j, q with
    | 0, _ => exact h0 rfl
    | 1, _ => exact h1 rfl
    | 2, _ => exact h2 rfl
    | 3, _ => exact h3 rfl
    | 4, _ => exact h4 rfl
    | 5, _ => exact h5 rfl
    | 6, _ => exact h6 rfl
    | 7, _ => exact h7 rfl
    | 8, _ => exact h8 rfl
    | _ + 9, q => omega
  · omega
def mTd (n : Nat) (M : zM) : Nat → Int32
  | 0 => M.1 300 9 | 1 => M.1 300 10 | 2 => M.1 300 10 + nI 1 | 3 => mLiB (m0 M) n | 4 => M.1 300 17 | 5 => M.1 300 18 | 6 => M.1 300 19 | 7 => mLiN (m0 M) n | 8 => M.1 300 2 | _ => M.1 300 11
set_option maxHeartbeats 1000000 in
theorem zc_mtold (l : Launch) (G : zG) (M : zM) (n j : Nat) (hn : M.1 300 9 = nI n) (hn7 : n ≤ 7) (h0 : 1 ≤ n) (hj : j ≤ 9) : zC l G 2 yX11_told cX11_told 2 (Option.some Jvm.ClassFile.FieldType.int) [.ref (300 : Nat), .int (nI j)] M (zP (some (.int (mTd n M j))) (m0 M)) := by
  refine zC_of (by decide) (Nat.le_of_ble_eq_true rfl) (fun X Q hQ hX hl hR hr => ?_)
  refine zV_loc (L' := [.ref (300 : Nat), .int (nI j)]) rfl ?_
  refine zV_aload_n hX dX11_told_0 rfl ?_
  refine zV_iconst hX (v := nI 0) dX11_told_1 (by decide) ?_
  refine zV_puti hX dX11_told_2 zf_X11_149 zp_9_0 zo300.1 rfl ?_
  refine zV_aload_n hX dX11_told_5 rfl ?_
  refine zV_iload_n hX dX11_told_6 rfl ?_
  refine zV_iconst hX (v := nI 0) dX11_told_7 (by decide) ?_
  refine zV_bipush hX (v := nI 9) dX11_told_8 (by decide) ?_
  refine zV_cS3p hX hR hl dX11_told_10 (zc_min l G _ _ _ _) zt_X11_in rfl zml_X11_162 (by decide) (Nat.le_of_ble_eq_true rfl) ?_
  dsimp only [Option.toList, List.cons_append, List.nil_append]
  refine zV_topi (zb true) (by rw [mIn_nI (by omega) (by omega) (by omega), decide_eq_false (by omega), Bool.not_false]) ?_
  refine zV_if_neB hX (tgt := 20) dX11_told_13 (by decide) (fun c_13 => ?_) (fun c_13 => absurd c_13 (by decide))
  refine zV_iconst hX (v := nI 0) dX11_told_20 (by decide) ?_
  refine zV_iconst hX (v := nI 1) dX11_told_21 (by decide) ?_
  refine zV_iconst hX (v := nI 1) dX11_told_22 (by decide) ?_
  refine zV_cV3p hX hR hl dX11_told_23 (zc_badF1 l G _ _ zw_same) zt_X11_bad rfl zml_X11_166 zo300.1 ⟨by decide, by decide⟩ (Nat.le_of_ble_eq_true rfl) ?_
  dsimp only [Option.toList, List.cons_append, List.nil_append]
  refine zV_if_eqB hX (tgt := 31) dX11_told_26 (by decide) (fun c_26 => ?_) (fun c_26 => absurd c_26 (by decide))
  refine zV_iload_n hX dX11_told_31 rfl ?_
  refine zV_case 0 (fun s_0 => ?_) (fun s_0 => ?_)
  · refine zV_tin hX (tgt := 84) dX11_told_32 (by decide) (by decide) (off := 52) (by decide) (by decide) ?_
    refine zV_aload_n hX dX11_told_84 rfl ?_
    refine zV_geti hX (x := M.1 300 9) dX11_told_85 zf_X11_20 zo300.1 rfl (zw_ne (by omega)) ?_
    exact zV_reti hX hQ hr (⟨by (first | rw [show j = 0 from (nI_eq (by omega) (by decide)).mp s_0] | rw [show j = 1 from (nI_eq (by omega) (by decide)).mp s_1] | rw [show j = 2 from (nI_eq (by omega) (by decide)).mp s_2] | rw [show j = 3 from (nI_eq (by omega) (by decide)).mp s_3] | rw [show j = 4 from (nI_eq (by omega) (by decide)).mp s_4] | rw [show j = 5 from (nI_eq (by omega) (by decide)).mp s_5] | rw [show j = 6 from (nI_eq (by omega) (by decide)).mp s_6] | rw [show j = 7 from (nI_eq (by omega) (by decide)).mp s_7] | rw [show j = 8 from (nI_eq (by omega) (by decide)).mp s_8] | rw [td9 j hj s_0 s_1 s_2 s_3 s_4 s_5 s_6 s_7 s_8]); rfl, rfl⟩) dX11_told_88
  refine zV_case 1 (fun s_1 => ?_) (fun s_1 => ?_)
  · refine zV_tin hX (tgt := 89) dX11_told_32 (by decide) (by decide) (off := 57) (by decide) (by decide) ?_
    refine zV_aload_n hX dX11_told_89 rfl ?_
    refine zV_geti hX (x := M.1 300 10) dX11_told_90 zf_X11_23 zo300.1 rfl (zw_ne (by omega)) ?_
    exact zV_reti hX hQ hr (⟨by (first | rw [show j = 0 from (nI_eq (by omega) (by decide)).mp s_0] | rw [show j = 1 from (nI_eq (by omega) (by decide)).mp s_1] | rw [show j = 2 from (nI_eq (by omega) (by decide)).mp s_2] | rw [show j = 3 from (nI_eq (by omega) (by decide)).mp s_3] | rw [show j = 4 from (nI_eq (by omega) (by decide)).mp s_4] | rw [show j = 5 from (nI_eq (by omega) (by decide)).mp s_5] | rw [show j = 6 from (nI_eq (by omega) (by decide)).mp s_6] | rw [show j = 7 from (nI_eq (by omega) (by decide)).mp s_7] | rw [show j = 8 from (nI_eq (by omega) (by decide)).mp s_8] | rw [td9 j hj s_0 s_1 s_2 s_3 s_4 s_5 s_6 s_7 s_8]); rfl, rfl⟩) dX11_told_93
  refine zV_case 2 (fun s_2 => ?_) (fun s_2 => ?_)
  · refine zV_tin hX (tgt := 94) dX11_told_32 (by decide) (by decide) (off := 62) (by decide) (by decide) ?_
    refine zV_aload_n hX dX11_told_94 rfl ?_
    refine zV_geti hX (x := M.1 300 10) dX11_told_95 zf_X11_23 zo300.1 rfl (zw_ne (by omega)) ?_
    refine zV_iconst hX (v := nI 1) dX11_told_98 (by decide) ?_
    refine zV_iadd hX dX11_told_99 ?_
    exact zV_reti hX hQ hr (⟨by (first | rw [show j = 0 from (nI_eq (by omega) (by decide)).mp s_0] | rw [show j = 1 from (nI_eq (by omega) (by decide)).mp s_1] | rw [show j = 2 from (nI_eq (by omega) (by decide)).mp s_2] | rw [show j = 3 from (nI_eq (by omega) (by decide)).mp s_3] | rw [show j = 4 from (nI_eq (by omega) (by decide)).mp s_4] | rw [show j = 5 from (nI_eq (by omega) (by decide)).mp s_5] | rw [show j = 6 from (nI_eq (by omega) (by decide)).mp s_6] | rw [show j = 7 from (nI_eq (by omega) (by decide)).mp s_7] | rw [show j = 8 from (nI_eq (by omega) (by decide)).mp s_8] | rw [td9 j hj s_0 s_1 s_2 s_3 s_4 s_5 s_6 s_7 s_8]); rfl, rfl⟩) dX11_told_100
  refine zV_case 3 (fun s_3 => ?_) (fun s_3 => ?_)
  · refine zV_tin hX (tgt := 101) dX11_told_32 (by decide) (by decide) (off := 69) (by decide) (by decide) ?_
    refine zV_aload_n hX dX11_told_101 rfl ?_
    refine zV_cV0p hX hR hl dX11_told_102 (zc_liarBits l G (m0 M) n ((zw_ne (by omega)).trans hn) hn7) zt_X11_liarBits rfl zml_X11_372 zo300.1 ⟨by decide, by decide⟩ (Nat.le_of_ble_eq_true rfl) ?_
    dsimp only [Option.toList, List.cons_append, List.nil_append]
    exact zV_reti hX hQ hr (⟨by (first | rw [show j = 0 from (nI_eq (by omega) (by decide)).mp s_0] | rw [show j = 1 from (nI_eq (by omega) (by decide)).mp s_1] | rw [show j = 2 from (nI_eq (by omega) (by decide)).mp s_2] | rw [show j = 3 from (nI_eq (by omega) (by decide)).mp s_3] | rw [show j = 4 from (nI_eq (by omega) (by decide)).mp s_4] | rw [show j = 5 from (nI_eq (by omega) (by decide)).mp s_5] | rw [show j = 6 from (nI_eq (by omega) (by decide)).mp s_6] | rw [show j = 7 from (nI_eq (by omega) (by decide)).mp s_7] | rw [show j = 8 from (nI_eq (by omega) (by decide)).mp s_8] | rw [td9 j hj s_0 s_1 s_2 s_3 s_4 s_5 s_6 s_7 s_8]); rfl, rfl⟩) dX11_told_105
  refine zV_case 4 (fun s_4 => ?_) (fun s_4 => ?_)
  · refine zV_tin hX (tgt := 106) dX11_told_32 (by decide) (by decide) (off := 74) (by decide) (by decide) ?_
    refine zV_aload_n hX dX11_told_106 rfl ?_
    refine zV_geti hX (x := M.1 300 17) dX11_told_107 zf_X11_39 zo300.1 rfl (zw_ne (by omega)) ?_
    exact zV_reti hX hQ hr (⟨by (first | rw [show j = 0 from (nI_eq (by omega) (by decide)).mp s_0] | rw [show j = 1 from (nI_eq (by omega) (by decide)).mp s_1] | rw [show j = 2 from (nI_eq (by omega) (by decide)).mp s_2] | rw [show j = 3 from (nI_eq (by omega) (by decide)).mp s_3] | rw [show j = 4 from (nI_eq (by omega) (by decide)).mp s_4] | rw [show j = 5 from (nI_eq (by omega) (by decide)).mp s_5] | rw [show j = 6 from (nI_eq (by omega) (by decide)).mp s_6] | rw [show j = 7 from (nI_eq (by omega) (by decide)).mp s_7] | rw [show j = 8 from (nI_eq (by omega) (by decide)).mp s_8] | rw [td9 j hj s_0 s_1 s_2 s_3 s_4 s_5 s_6 s_7 s_8]); rfl, rfl⟩) dX11_told_110
  refine zV_case 5 (fun s_5 => ?_) (fun s_5 => ?_)
  · refine zV_tin hX (tgt := 111) dX11_told_32 (by decide) (by decide) (off := 79) (by decide) (by decide) ?_
    refine zV_aload_n hX dX11_told_111 rfl ?_
    refine zV_geti hX (x := M.1 300 18) dX11_told_112 zf_X11_173 zo300.1 rfl (zw_ne (by omega)) ?_
    exact zV_reti hX hQ hr (⟨by (first | rw [show j = 0 from (nI_eq (by omega) (by decide)).mp s_0] | rw [show j = 1 from (nI_eq (by omega) (by decide)).mp s_1] | rw [show j = 2 from (nI_eq (by omega) (by decide)).mp s_2] | rw [show j = 3 from (nI_eq (by omega) (by decide)).mp s_3] | rw [show j = 4 from (nI_eq (by omega) (by decide)).mp s_4] | rw [show j = 5 from (nI_eq (by omega) (by decide)).mp s_5] | rw [show j = 6 from (nI_eq (by omega) (by decide)).mp s_6] | rw [show j = 7 from (nI_eq (by omega) (by decide)).mp s_7] | rw [show j = 8 from (nI_eq (by omega) (by decide)).mp s_8] | rw [td9 j hj s_0 s_1 s_2 s_3 s_4 s_5 s_6 s_7 s_8]); rfl, rfl⟩) dX11_told_115
  refine zV_case 6 (fun s_6 => ?_) (fun s_6 => ?_)
  · refine zV_tin hX (tgt := 116) dX11_told_32 (by decide) (by decide) (off := 84) (by decide) (by decide) ?_
    refine zV_aload_n hX dX11_told_116 rfl ?_
    refine zV_geti hX (x := M.1 300 19) dX11_told_117 zf_X11_176 zo300.1 rfl (zw_ne (by omega)) ?_
    exact zV_reti hX hQ hr (⟨by (first | rw [show j = 0 from (nI_eq (by omega) (by decide)).mp s_0] | rw [show j = 1 from (nI_eq (by omega) (by decide)).mp s_1] | rw [show j = 2 from (nI_eq (by omega) (by decide)).mp s_2] | rw [show j = 3 from (nI_eq (by omega) (by decide)).mp s_3] | rw [show j = 4 from (nI_eq (by omega) (by decide)).mp s_4] | rw [show j = 5 from (nI_eq (by omega) (by decide)).mp s_5] | rw [show j = 6 from (nI_eq (by omega) (by decide)).mp s_6] | rw [show j = 7 from (nI_eq (by omega) (by decide)).mp s_7] | rw [show j = 8 from (nI_eq (by omega) (by decide)).mp s_8] | rw [td9 j hj s_0 s_1 s_2 s_3 s_4 s_5 s_6 s_7 s_8]); rfl, rfl⟩) dX11_told_120
  refine zV_case 7 (fun s_7 => ?_) (fun s_7 => ?_)
  · refine zV_tin hX (tgt := 121) dX11_told_32 (by decide) (by decide) (off := 89) (by decide) (by decide) ?_
    refine zV_aload_n hX dX11_told_121 rfl ?_
    refine zV_cV0p hX hR hl dX11_told_122 (zc_lieCount l G (m0 M) n ((zw_ne (by omega)).trans hn) hn7) zt_X11_lieCount rfl zml_X11_375 zo300.1 ⟨by decide, by decide⟩ (Nat.le_of_ble_eq_true rfl) ?_
    dsimp only [Option.toList, List.cons_append, List.nil_append]
    exact zV_reti hX hQ hr (⟨by (first | rw [show j = 0 from (nI_eq (by omega) (by decide)).mp s_0] | rw [show j = 1 from (nI_eq (by omega) (by decide)).mp s_1] | rw [show j = 2 from (nI_eq (by omega) (by decide)).mp s_2] | rw [show j = 3 from (nI_eq (by omega) (by decide)).mp s_3] | rw [show j = 4 from (nI_eq (by omega) (by decide)).mp s_4] | rw [show j = 5 from (nI_eq (by omega) (by decide)).mp s_5] | rw [show j = 6 from (nI_eq (by omega) (by decide)).mp s_6] | rw [show j = 7 from (nI_eq (by omega) (by decide)).mp s_7] | rw [show j = 8 from (nI_eq (by omega) (by decide)).mp s_8] | rw [td9 j hj s_0 s_1 s_2 s_3 s_4 s_5 s_6 s_7 s_8]); rfl, rfl⟩) dX11_told_125
  refine zV_case 8 (fun s_8 => ?_) (fun s_8 => ?_)
  · refine zV_tin hX (tgt := 126) dX11_told_32 (by decide) (by decide) (off := 94) (by decide) (by decide) ?_
    refine zV_aload_n hX dX11_told_126 rfl ?_
    refine zV_geti hX (x := M.1 300 2) dX11_told_127 zf_X11_189 zo300.1 rfl (zw_ne (by omega)) ?_
    exact zV_reti hX hQ hr (⟨by (first | rw [show j = 0 from (nI_eq (by omega) (by decide)).mp s_0] | rw [show j = 1 from (nI_eq (by omega) (by decide)).mp s_1] | rw [show j = 2 from (nI_eq (by omega) (by decide)).mp s_2] | rw [show j = 3 from (nI_eq (by omega) (by decide)).mp s_3] | rw [show j = 4 from (nI_eq (by omega) (by decide)).mp s_4] | rw [show j = 5 from (nI_eq (by omega) (by decide)).mp s_5] | rw [show j = 6 from (nI_eq (by omega) (by decide)).mp s_6] | rw [show j = 7 from (nI_eq (by omega) (by decide)).mp s_7] | rw [show j = 8 from (nI_eq (by omega) (by decide)).mp s_8] | rw [td9 j hj s_0 s_1 s_2 s_3 s_4 s_5 s_6 s_7 s_8]); rfl, rfl⟩) dX11_told_130
  refine zV_tout hX (tgt := 131) dX11_told_32 (zsw_out 8 (by decide) (fun j hj => by match j, hj with | 0, _ => exact s_0 | 1, _ => exact s_1 | 2, _ => exact s_2 | 3, _ => exact s_3 | 4, _ => exact s_4 | 5, _ => exact s_5 | 6, _ => exact s_6 | 7, _ => exact s_7 | 8, _ => exact s_8 | _ + 9, h => omega)) (by decide) ?_
  refine zV_aload_n hX dX11_told_131 rfl ?_
  refine zV_geti hX (x := M.1 300 11) dX11_told_132 zf_X11_170 zo300.1 rfl (zw_ne (by omega)) ?_
  exact zV_reti hX hQ hr (⟨by (first | rw [show j = 0 from (nI_eq (by omega) (by decide)).mp s_0] | rw [show j = 1 from (nI_eq (by omega) (by decide)).mp s_1] | rw [show j = 2 from (nI_eq (by omega) (by decide)).mp s_2] | rw [show j = 3 from (nI_eq (by omega) (by decide)).mp s_3] | rw [show j = 4 from (nI_eq (by omega) (by decide)).mp s_4] | rw [show j = 5 from (nI_eq (by omega) (by decide)).mp s_5] | rw [show j = 6 from (nI_eq (by omega) (by decide)).mp s_6] | rw [show j = 7 from (nI_eq (by omega) (by decide)).mp s_7] | rw [show j = 8 from (nI_eq (by omega) (by decide)).mp s_8] | rw [td9 j hj s_0 s_1 s_2 s_3 s_4 s_5 s_6 s_7 s_8]); rfl, rfl⟩) dX11_told_135
set_option maxHeartbeats 1000000 in
theorem zc_mtoldX (l : Launch) (G : zG) (M : zM) (x : Int32) (hx : mIn x (nI 0) (nI 9) = false) : zC l G 2 yX11_told cX11_told 2 (Option.some Jvm.ClassFile.FieldType.int) [.ref (300 : Nat), .int x] M (zP (some (.int (nI 0))) (mTw (nI 1) (nI 1) M)) := by
  refine zC_of (by decide) (Nat.le_of_ble_eq_true rfl) (fun X Q hQ hX hl hR hr => ?_)
  refine zV_loc (L' := [.ref (300 : Nat), .int x]) rfl ?_
  refine zV_aload_n hX dX11_told_0 rfl ?_
  refine zV_iconst hX (v := nI 0) dX11_told_1 (by decide) ?_
  refine zV_puti hX dX11_told_2 zf_X11_149 zp_9_0 zo300.1 rfl ?_
  refine zV_aload_n hX dX11_told_5 rfl ?_
  refine zV_iload_n hX dX11_told_6 rfl ?_
  refine zV_iconst hX (v := nI 0) dX11_told_7 (by decide) ?_
  refine zV_bipush hX (v := nI 9) dX11_told_8 (by decide) ?_
  refine zV_cS3p hX hR hl dX11_told_10 (zc_min l G _ _ _ _) zt_X11_in rfl zml_X11_162 (by decide) (Nat.le_of_ble_eq_true rfl) ?_
  dsimp only [Option.toList, List.cons_append, List.nil_append]
  refine zV_topi (zb false) (by rw [hx]) ?_
  refine zV_if_neB hX (tgt := 20) dX11_told_13 (by decide) (fun c_13 => absurd c_13 (by decide)) (fun c_13 => ?_)
  refine zV_iconst hX (v := nI 1) dX11_told_16 (by decide) ?_
  refine zV_goto hX (tgt := 21) dX11_told_17 (by decide) ?_
  refine zV_iconst hX (v := nI 1) dX11_told_21 (by decide) ?_
  refine zV_iconst hX (v := nI 1) dX11_told_22 (by decide) ?_
  refine zV_cV3p hX hR hl dX11_told_23 (zc_badT1 l G _ _ zw_same (by decide)) zt_X11_bad rfl zml_X11_166 zo300.1 ⟨by decide, by decide⟩ (Nat.le_of_ble_eq_true rfl) ?_
  dsimp only [Option.toList, List.cons_append, List.nil_append]
  refine zV_if_eqB hX (tgt := 31) dX11_told_26 (by decide) (fun c_26 => absurd c_26 (by decide)) (fun c_26 => ?_)
  refine zV_iconst hX (v := nI 0) dX11_told_29 (by decide) ?_
  exact zV_reti hX hQ hr (⟨rfl, rfl⟩) dX11_told_30
set_option maxHeartbeats 1000000 in
theorem zc_mcut (l : Launch) (G : zG) (M : zM) (n c t j k : Nat) (hn : M.1 300 9 = nI n) (hn7 : n ≤ 7) (h0 : 1 ≤ n) (ht : M.1 300 10 = nI t) (ht2 : t ≤ 2) (hcm : M.1 300 17 = nI c) (hc7 : c < 7) (hj : j < n) (hk1 : 1 ≤ k) (hk : k ≤ t + 1) : zC l G 6 yX11_cut cX11_cut 3 (Option.some Jvm.ClassFile.FieldType.int) [.ref (300 : Nat), .int (nI j), .int (nI k)] M (zP (some (.int (mDec (m0 M) n c k j))) (m0 M)) := by
  refine zC_of (by decide) (Nat.le_of_ble_eq_true rfl) (fun X Q hQ hX hl hR hr => ?_)
  refine zV_loc (L' := [.ref (300 : Nat), .int (nI j), .int (nI k)]) rfl ?_
  refine zV_aload_n hX dX11_cut_0 rfl ?_
  refine zV_iconst hX (v := nI 0) dX11_cut_1 (by decide) ?_
  refine zV_puti hX dX11_cut_2 zf_X11_149 zp_9_0 zo300.1 rfl ?_
  refine zV_aload_n hX dX11_cut_5 rfl ?_
  refine zV_aload_n hX dX11_cut_6 rfl ?_
  refine zV_iload_n hX dX11_cut_7 rfl ?_
  refine zV_cV1p hX hR hl dX11_cut_8 (zc_isMember l G _ n _ ((zw_ne (by omega)).trans hn) hn7 h0) zt_X11_isMember rfl zml_X11_179 zo300.1 ⟨by decide, by decide⟩ (Nat.le_of_ble_eq_true rfl) ?_
  dsimp only [Option.toList, List.cons_append, List.nil_append]
  refine zV_topi (zb true) (by rw [zmem_nI (by omega) (by omega), decide_eq_true hj]) ?_
  refine zV_if_neB hX (tgt := 18) dX11_cut_11 (by decide) (fun c_11 => ?_) (fun c_11 => absurd c_11 (by decide))
  refine zV_iconst hX (v := nI 0) dX11_cut_18 (by decide) ?_
  refine zV_iconst hX (v := nI 1) dX11_cut_19 (by decide) ?_
  refine zV_iconst hX (v := nI 0) dX11_cut_20 (by decide) ?_
  refine zV_cV3p hX hR hl dX11_cut_21 (zc_badF0 l G _ _ zw_same) zt_X11_bad rfl zml_X11_166 zo300.1 ⟨by decide, by decide⟩ (Nat.le_of_ble_eq_true rfl) ?_
  dsimp only [Option.toList, List.cons_append, List.nil_append]
  refine zV_if_neB hX (tgt := 55) dX11_cut_24 (by decide) (fun c_24 => absurd c_24 (by decide)) (fun c_24 => ?_)
  refine zV_aload_n hX dX11_cut_27 rfl ?_
  refine zV_iload_n hX dX11_cut_28 rfl ?_
  refine zV_iconst hX (v := nI 1) dX11_cut_29 (by decide) ?_
  refine zV_aload_n hX dX11_cut_30 rfl ?_
  refine zV_geti hX dX11_cut_31 zf_X11_23 zo300.1 rfl ((zw_ne (by omega)).trans ht) ?_
  refine zV_iconst hX (v := nI 1) dX11_cut_34 (by decide) ?_
  refine zV_iaddN hX dX11_cut_35 ?_
  refine zV_cS3p hX hR hl dX11_cut_36 (zc_min l G _ _ _ _) zt_X11_in rfl zml_X11_162 (by decide) (Nat.le_of_ble_eq_true rfl) ?_
  dsimp only [Option.toList, List.cons_append, List.nil_append]
  refine zV_topi (zb true) (by rw [mIn_nI (by omega) (by omega) (by omega), decide_eq_false (by omega), Bool.not_false]) ?_
  refine zV_if_neB hX (tgt := 46) dX11_cut_39 (by decide) (fun c_39 => ?_) (fun c_39 => absurd c_39 (by decide))
  refine zV_iconst hX (v := nI 0) dX11_cut_46 (by decide) ?_
  refine zV_iconst hX (v := nI 2) dX11_cut_47 (by decide) ?_
  refine zV_iconst hX (v := nI 1) dX11_cut_48 (by decide) ?_
  refine zV_cV3p hX hR hl dX11_cut_49 (zc_badF1 l G _ _ zw_same) zt_X11_bad rfl zml_X11_166 zo300.1 ⟨by decide, by decide⟩ (Nat.le_of_ble_eq_true rfl) ?_
  dsimp only [Option.toList, List.cons_append, List.nil_append]
  refine zV_if_eqB hX (tgt := 57) dX11_cut_52 (by decide) (fun c_52 => ?_) (fun c_52 => absurd c_52 (by decide))
  refine zV_aload_n hX dX11_cut_57 rfl ?_
  refine zV_geti hX dX11_cut_58 zf_X11_39 zo300.1 rfl ((zw_ne (by omega)).trans hcm) ?_
  refine zV_iconst hX (v := (-1)) dX11_cut_61 (by decide) ?_
  refine zV_icmp_ne hX (tgt := 69) dX11_cut_62 (by decide) (fun c_62 => ?_) (fun c_62 => absurd c_62 ((by decide : ∀ a, a < 7 → ¬ nI a = -1) c hc7))
  refine zV_aload_n hX dX11_cut_69 rfl ?_
  refine zV_iload_n hX dX11_cut_70 rfl ?_
  refine zV_iload_n hX dX11_cut_71 rfl ?_
  refine zV_cV2p hX hR hl dX11_cut_72 (zc_mdecided l G (m0 M) n c k j ((zw_ne (by omega)).trans hn) hn7 ((zw_ne (by omega)).trans hcm) hc7 (by omega) (by omega)) zt_X11_decided rfl zml_X11_362 zo300.1 ⟨by decide, by decide⟩ (Nat.le_of_ble_eq_true rfl) ?_
  dsimp only [Option.toList, List.cons_append, List.nil_append]
  exact zV_reti hX hQ hr (⟨rfl, rfl⟩) dX11_cut_75
set_option maxHeartbeats 1000000 in
theorem zc_mcutN (l : Launch) (G : zG) (M : zM) (n t j k : Nat) (hn : M.1 300 9 = nI n) (hn7 : n ≤ 7) (h0 : 1 ≤ n) (ht : M.1 300 10 = nI t) (ht2 : t ≤ 2) (hcm : M.1 300 17 = -1) (hj : j < n) (hk1 : 1 ≤ k) (hk : k ≤ t + 1) : zC l G 6 yX11_cut cX11_cut 3 (Option.some Jvm.ClassFile.FieldType.int) [.ref (300 : Nat), .int (nI j), .int (nI k)] M (zP (some (.int (nI 0))) (m0 M)) := by
  refine zC_of (by decide) (Nat.le_of_ble_eq_true rfl) (fun X Q hQ hX hl hR hr => ?_)
  refine zV_loc (L' := [.ref (300 : Nat), .int (nI j), .int (nI k)]) rfl ?_
  refine zV_aload_n hX dX11_cut_0 rfl ?_
  refine zV_iconst hX (v := nI 0) dX11_cut_1 (by decide) ?_
  refine zV_puti hX dX11_cut_2 zf_X11_149 zp_9_0 zo300.1 rfl ?_
  refine zV_aload_n hX dX11_cut_5 rfl ?_
  refine zV_aload_n hX dX11_cut_6 rfl ?_
  refine zV_iload_n hX dX11_cut_7 rfl ?_
  refine zV_cV1p hX hR hl dX11_cut_8 (zc_isMember l G _ n _ ((zw_ne (by omega)).trans hn) hn7 h0) zt_X11_isMember rfl zml_X11_179 zo300.1 ⟨by decide, by decide⟩ (Nat.le_of_ble_eq_true rfl) ?_
  dsimp only [Option.toList, List.cons_append, List.nil_append]
  refine zV_topi (zb true) (by rw [zmem_nI (by omega) (by omega), decide_eq_true hj]) ?_
  refine zV_if_neB hX (tgt := 18) dX11_cut_11 (by decide) (fun c_11 => ?_) (fun c_11 => absurd c_11 (by decide))
  refine zV_iconst hX (v := nI 0) dX11_cut_18 (by decide) ?_
  refine zV_iconst hX (v := nI 1) dX11_cut_19 (by decide) ?_
  refine zV_iconst hX (v := nI 0) dX11_cut_20 (by decide) ?_
  refine zV_cV3p hX hR hl dX11_cut_21 (zc_badF0 l G _ _ zw_same) zt_X11_bad rfl zml_X11_166 zo300.1 ⟨by decide, by decide⟩ (Nat.le_of_ble_eq_true rfl) ?_
  dsimp only [Option.toList, List.cons_append, List.nil_append]
  refine zV_if_neB hX (tgt := 55) dX11_cut_24 (by decide) (fun c_24 => absurd c_24 (by decide)) (fun c_24 => ?_)
  refine zV_aload_n hX dX11_cut_27 rfl ?_
  refine zV_iload_n hX dX11_cut_28 rfl ?_
  refine zV_iconst hX (v := nI 1) dX11_cut_29 (by decide) ?_
  refine zV_aload_n hX dX11_cut_30 rfl ?_
  refine zV_geti hX dX11_cut_31 zf_X11_23 zo300.1 rfl ((zw_ne (by omega)).trans ht) ?_
  refine zV_iconst hX (v := nI 1) dX11_cut_34 (by decide) ?_
  refine zV_iaddN hX dX11_cut_35 ?_
  refine zV_cS3p hX hR hl dX11_cut_36 (zc_min l G _ _ _ _) zt_X11_in rfl zml_X11_162 (by decide) (Nat.le_of_ble_eq_true rfl) ?_
  dsimp only [Option.toList, List.cons_append, List.nil_append]
  refine zV_topi (zb true) (by rw [mIn_nI (by omega) (by omega) (by omega), decide_eq_false (by omega), Bool.not_false]) ?_
  refine zV_if_neB hX (tgt := 46) dX11_cut_39 (by decide) (fun c_39 => ?_) (fun c_39 => absurd c_39 (by decide))
  refine zV_iconst hX (v := nI 0) dX11_cut_46 (by decide) ?_
  refine zV_iconst hX (v := nI 2) dX11_cut_47 (by decide) ?_
  refine zV_iconst hX (v := nI 1) dX11_cut_48 (by decide) ?_
  refine zV_cV3p hX hR hl dX11_cut_49 (zc_badF1 l G _ _ zw_same) zt_X11_bad rfl zml_X11_166 zo300.1 ⟨by decide, by decide⟩ (Nat.le_of_ble_eq_true rfl) ?_
  dsimp only [Option.toList, List.cons_append, List.nil_append]
  refine zV_if_eqB hX (tgt := 57) dX11_cut_52 (by decide) (fun c_52 => ?_) (fun c_52 => absurd c_52 (by decide))
  refine zV_aload_n hX dX11_cut_57 rfl ?_
  refine zV_geti hX dX11_cut_58 zf_X11_39 zo300.1 rfl ((zw_ne (by omega)).trans hcm) ?_
  refine zV_iconst hX (v := (-1)) dX11_cut_61 (by decide) ?_
  refine zV_icmp_ne hX (tgt := 69) dX11_cut_62 (by decide) (fun c_62 => absurd c_62 (not_not_intro rfl)) (fun c_62 => ?_)
  refine zV_iconst hX (v := nI 0) dX11_cut_65 (by decide) ?_
  refine zV_goto hX (tgt := 75) dX11_cut_66 (by decide) ?_
  exact zV_reti hX hQ hr (⟨rfl, rfl⟩) dX11_cut_75
set_option maxHeartbeats 1000000 in
theorem zc_mcutX (l : Launch) (G : zG) (M : zM) (n : Nat) (x k : Int32) (hn : M.1 300 9 = nI n) (hn7 : n ≤ 7) (h0 : 1 ≤ n) (hx : zmem x n = false) : zC l G 6 yX11_cut cX11_cut 3 (Option.some Jvm.ClassFile.FieldType.int) [.ref (300 : Nat), .int x, .int k] M (zP (some (.int (nI 0))) (mTw (nI 1) (nI 0) M)) := by
  refine zC_of (by decide) (Nat.le_of_ble_eq_true rfl) (fun X Q hQ hX hl hR hr => ?_)
  refine zV_loc (L' := [.ref (300 : Nat), .int x, .int k]) rfl ?_
  refine zV_aload_n hX dX11_cut_0 rfl ?_
  refine zV_iconst hX (v := nI 0) dX11_cut_1 (by decide) ?_
  refine zV_puti hX dX11_cut_2 zf_X11_149 zp_9_0 zo300.1 rfl ?_
  refine zV_aload_n hX dX11_cut_5 rfl ?_
  refine zV_aload_n hX dX11_cut_6 rfl ?_
  refine zV_iload_n hX dX11_cut_7 rfl ?_
  refine zV_cV1p hX hR hl dX11_cut_8 (zc_isMember l G _ n _ ((zw_ne (by omega)).trans hn) hn7 h0) zt_X11_isMember rfl zml_X11_179 zo300.1 ⟨by decide, by decide⟩ (Nat.le_of_ble_eq_true rfl) ?_
  dsimp only [Option.toList, List.cons_append, List.nil_append]
  refine zV_topi (zb false) (by rw [hx]) ?_
  refine zV_if_neB hX (tgt := 18) dX11_cut_11 (by decide) (fun c_11 => absurd c_11 (by decide)) (fun c_11 => ?_)
  refine zV_iconst hX (v := nI 1) dX11_cut_14 (by decide) ?_
  refine zV_goto hX (tgt := 19) dX11_cut_15 (by decide) ?_
  refine zV_iconst hX (v := nI 1) dX11_cut_19 (by decide) ?_
  refine zV_iconst hX (v := nI 0) dX11_cut_20 (by decide) ?_
  refine zV_cV3p hX hR hl dX11_cut_21 (zc_badT0 l G _ _ zw_same (by decide)) zt_X11_bad rfl zml_X11_166 zo300.1 ⟨by decide, by decide⟩ (Nat.le_of_ble_eq_true rfl) ?_
  dsimp only [Option.toList, List.cons_append, List.nil_append]
  refine zV_if_neB hX (tgt := 55) dX11_cut_24 (by decide) (fun c_24 => ?_) (fun c_24 => absurd c_24 (by decide))
  refine zV_iconst hX (v := nI 0) dX11_cut_55 (by decide) ?_
  exact zV_reti hX hQ hr (⟨rfl, rfl⟩) dX11_cut_56
set_option maxHeartbeats 1000000 in
theorem zc_mcutK (l : Launch) (G : zG) (M : zM) (n t j : Nat) (k : Int32) (hn : M.1 300 9 = nI n) (hn7 : n ≤ 7) (h0 : 1 ≤ n) (ht : M.1 300 10 = nI t) (ht2 : t ≤ 2) (hj : j < n) (hk : mIn k (nI 1) (nI (t + 1)) = false) : zC l G 6 yX11_cut cX11_cut 3 (Option.some Jvm.ClassFile.FieldType.int) [.ref (300 : Nat), .int (nI j), .int k] M (zP (some (.int (nI 0))) (mTw (nI 2) (nI 1) M)) := by
  refine zC_of (by decide) (Nat.le_of_ble_eq_true rfl) (fun X Q hQ hX hl hR hr => ?_)
  refine zV_loc (L' := [.ref (300 : Nat), .int (nI j), .int k]) rfl ?_
  refine zV_aload_n hX dX11_cut_0 rfl ?_
  refine zV_iconst hX (v := nI 0) dX11_cut_1 (by decide) ?_
  refine zV_puti hX dX11_cut_2 zf_X11_149 zp_9_0 zo300.1 rfl ?_
  refine zV_aload_n hX dX11_cut_5 rfl ?_
  refine zV_aload_n hX dX11_cut_6 rfl ?_
  refine zV_iload_n hX dX11_cut_7 rfl ?_
  refine zV_cV1p hX hR hl dX11_cut_8 (zc_isMember l G _ n _ ((zw_ne (by omega)).trans hn) hn7 h0) zt_X11_isMember rfl zml_X11_179 zo300.1 ⟨by decide, by decide⟩ (Nat.le_of_ble_eq_true rfl) ?_
  dsimp only [Option.toList, List.cons_append, List.nil_append]
  refine zV_topi (zb true) (by rw [zmem_nI (by omega) (by omega), decide_eq_true hj]) ?_
  refine zV_if_neB hX (tgt := 18) dX11_cut_11 (by decide) (fun c_11 => ?_) (fun c_11 => absurd c_11 (by decide))
  refine zV_iconst hX (v := nI 0) dX11_cut_18 (by decide) ?_
  refine zV_iconst hX (v := nI 1) dX11_cut_19 (by decide) ?_
  refine zV_iconst hX (v := nI 0) dX11_cut_20 (by decide) ?_
  refine zV_cV3p hX hR hl dX11_cut_21 (zc_badF0 l G _ _ zw_same) zt_X11_bad rfl zml_X11_166 zo300.1 ⟨by decide, by decide⟩ (Nat.le_of_ble_eq_true rfl) ?_
  dsimp only [Option.toList, List.cons_append, List.nil_append]
  refine zV_if_neB hX (tgt := 55) dX11_cut_24 (by decide) (fun c_24 => absurd c_24 (by decide)) (fun c_24 => ?_)
  refine zV_aload_n hX dX11_cut_27 rfl ?_
  refine zV_iload_n hX dX11_cut_28 rfl ?_
  refine zV_iconst hX (v := nI 1) dX11_cut_29 (by decide) ?_
  refine zV_aload_n hX dX11_cut_30 rfl ?_
  refine zV_geti hX dX11_cut_31 zf_X11_23 zo300.1 rfl ((zw_ne (by omega)).trans ht) ?_
  refine zV_iconst hX (v := nI 1) dX11_cut_34 (by decide) ?_
  refine zV_iaddN hX dX11_cut_35 ?_
  refine zV_cS3p hX hR hl dX11_cut_36 (zc_min l G _ _ _ _) zt_X11_in rfl zml_X11_162 (by decide) (Nat.le_of_ble_eq_true rfl) ?_
  dsimp only [Option.toList, List.cons_append, List.nil_append]
  refine zV_topi (zb false) (by rw [hk]) ?_
  refine zV_if_neB hX (tgt := 46) dX11_cut_39 (by decide) (fun c_39 => absurd c_39 (by decide)) (fun c_39 => ?_)
  refine zV_iconst hX (v := nI 1) dX11_cut_42 (by decide) ?_
  refine zV_goto hX (tgt := 47) dX11_cut_43 (by decide) ?_
  refine zV_iconst hX (v := nI 2) dX11_cut_47 (by decide) ?_
  refine zV_iconst hX (v := nI 1) dX11_cut_48 (by decide) ?_
  refine zV_cV3p hX hR hl dX11_cut_49 (zc_badT1 l G _ _ zw_same (by decide)) zt_X11_bad rfl zml_X11_166 zo300.1 ⟨by decide, by decide⟩ (Nat.le_of_ble_eq_true rfl) ?_
  dsimp only [Option.toList, List.cons_append, List.nil_append]
  refine zV_if_eqB hX (tgt := 57) dX11_cut_52 (by decide) (fun c_52 => absurd c_52 (by decide)) (fun c_52 => ?_)
  refine zV_iconst hX (v := nI 0) dX11_cut_55 (by decide) ?_
  exact zV_reti hX hQ hr (⟨rfl, rfl⟩) dX11_cut_56
set_option maxHeartbeats 1000000 in
theorem zc_mcommon (l : Launch) (G : zG) (M : zM) (n c t p : Nat) (a b d : Int32) (hn : M.1 300 9 = nI n) (hn7 : n ≤ 7) (h0 : 1 ≤ n) (ht : M.1 300 10 = nI t) (ht2 : t ≤ 2) (hcm : M.1 300 17 = nI c) (hc7 : c < 7) (hT : mTold n c t a b d = true) (hp : mPo b d = nI p) (hp7 : p < 57) : zC l G 6 yX11_common cX11_common 4 (Option.some Jvm.ClassFile.FieldType.boolean) [.ref (300 : Nat), .int a, .int b, .int d] M (zP (some (.int (zb (mCom (m0 M) n c t p)))) (m0 M)) := by
  refine zC_of (by decide) (Nat.le_of_ble_eq_true rfl) (fun X Q hQ hX hl hR hr => ?_)
  refine zV_loc (L' := [.ref (300 : Nat), .int a, .int b, .int d]) rfl ?_
  refine zV_aload_n hX dX11_common_0 rfl ?_
  refine zV_iconst hX (v := nI 0) dX11_common_1 (by decide) ?_
  refine zV_puti hX dX11_common_2 zf_X11_149 zp_9_0 zo300.1 rfl ?_
  refine zV_aload_n hX dX11_common_5 rfl ?_
  refine zV_aload_n hX dX11_common_6 rfl ?_
  refine zV_iload_n hX dX11_common_7 rfl ?_
  refine zV_iload_n hX dX11_common_8 rfl ?_
  refine zV_iload_n hX dX11_common_9 rfl ?_
  refine zV_cV3p hX hR hl dX11_common_10 (zc_isTold l G (m0 M) n c t a b d ((zw_ne (by omega)).trans hn) hn7 ((zw_ne (by omega)).trans hcm) hc7 ((zw_ne (by omega)).trans ht) ht2 h0) zt_X11_isTold rfl zml_X11_390 zo300.1 ⟨by decide, by decide⟩ (Nat.le_of_ble_eq_true rfl) ?_
  dsimp only [Option.toList, List.cons_append, List.nil_append]
  refine zV_topi (zb true) (by rw [hT]) ?_
  refine zV_if_neB hX (tgt := 20) dX11_common_13 (by decide) (fun c_13 => ?_) (fun c_13 => absurd c_13 (by decide))
  refine zV_iconst hX (v := nI 0) dX11_common_20 (by decide) ?_
  refine zV_iconst hX (v := nI 1) dX11_common_21 (by decide) ?_
  refine zV_iconst hX (v := nI 0) dX11_common_22 (by decide) ?_
  refine zV_cV3p hX hR hl dX11_common_23 (zc_badF0 l G _ _ zw_same) zt_X11_bad rfl zml_X11_166 zo300.1 ⟨by decide, by decide⟩ (Nat.le_of_ble_eq_true rfl) ?_
  dsimp only [Option.toList, List.cons_append, List.nil_append]
  refine zV_if_eqB hX (tgt := 31) dX11_common_26 (by decide) (fun c_26 => ?_) (fun c_26 => absurd c_26 (by decide))
  refine zV_aload_n hX dX11_common_31 rfl ?_
  refine zV_iload_n hX dX11_common_32 rfl ?_
  refine zV_iload_n hX dX11_common_33 rfl ?_
  refine zV_cS2p hX hR hl dX11_common_34 (zc_mpathOf l G (m0 M) b d p hp) zt_X11_pathOf rfl zml_X11_387 (by decide) (Nat.le_of_ble_eq_true rfl) ?_
  dsimp only [Option.toList, List.cons_append, List.nil_append]
  refine zV_cV1p hX hR hl dX11_common_37 (zc_misCommon l G (m0 M) n c t p ((zw_ne (by omega)).trans hn) hn7 ((zw_ne (by omega)).trans hcm) hc7 ((zw_ne (by omega)).trans ht) ht2 hp7) zt_X11_isCommon rfl zml_X11_393 zo300.1 ⟨by decide, by decide⟩ (Nat.le_of_ble_eq_true rfl) ?_
  dsimp only [Option.toList, List.cons_append, List.nil_append]
  exact zV_retz hX hQ hr (zb_nar _) (⟨rfl, rfl⟩) dX11_common_40
set_option maxHeartbeats 1000000 in
theorem zc_mcommonX (l : Launch) (G : zG) (M : zM) (n c t : Nat) (a b d : Int32) (hn : M.1 300 9 = nI n) (hn7 : n ≤ 7) (h0 : 1 ≤ n) (ht : M.1 300 10 = nI t) (ht2 : t ≤ 2) (hcm : M.1 300 17 = nI c) (hc7 : c < 7) (hT : mTold n c t a b d = false) : zC l G 6 yX11_common cX11_common 4 (Option.some Jvm.ClassFile.FieldType.boolean) [.ref (300 : Nat), .int a, .int b, .int d] M (zP (some (.int (zb false))) (mTw (nI 1) (nI 0) M)) := by
  refine zC_of (by decide) (Nat.le_of_ble_eq_true rfl) (fun X Q hQ hX hl hR hr => ?_)
  refine zV_loc (L' := [.ref (300 : Nat), .int a, .int b, .int d]) rfl ?_
  refine zV_aload_n hX dX11_common_0 rfl ?_
  refine zV_iconst hX (v := nI 0) dX11_common_1 (by decide) ?_
  refine zV_puti hX dX11_common_2 zf_X11_149 zp_9_0 zo300.1 rfl ?_
  refine zV_aload_n hX dX11_common_5 rfl ?_
  refine zV_aload_n hX dX11_common_6 rfl ?_
  refine zV_iload_n hX dX11_common_7 rfl ?_
  refine zV_iload_n hX dX11_common_8 rfl ?_
  refine zV_iload_n hX dX11_common_9 rfl ?_
  refine zV_cV3p hX hR hl dX11_common_10 (zc_isTold l G (m0 M) n c t a b d ((zw_ne (by omega)).trans hn) hn7 ((zw_ne (by omega)).trans hcm) hc7 ((zw_ne (by omega)).trans ht) ht2 h0) zt_X11_isTold rfl zml_X11_390 zo300.1 ⟨by decide, by decide⟩ (Nat.le_of_ble_eq_true rfl) ?_
  dsimp only [Option.toList, List.cons_append, List.nil_append]
  refine zV_topi (zb false) (by rw [hT]) ?_
  refine zV_if_neB hX (tgt := 20) dX11_common_13 (by decide) (fun c_13 => absurd c_13 (by decide)) (fun c_13 => ?_)
  refine zV_iconst hX (v := nI 1) dX11_common_16 (by decide) ?_
  refine zV_goto hX (tgt := 21) dX11_common_17 (by decide) ?_
  refine zV_iconst hX (v := nI 1) dX11_common_21 (by decide) ?_
  refine zV_iconst hX (v := nI 0) dX11_common_22 (by decide) ?_
  refine zV_cV3p hX hR hl dX11_common_23 (zc_badT0 l G _ _ zw_same (by decide)) zt_X11_bad rfl zml_X11_166 zo300.1 ⟨by decide, by decide⟩ (Nat.le_of_ble_eq_true rfl) ?_
  dsimp only [Option.toList, List.cons_append, List.nil_append]
  refine zV_if_eqB hX (tgt := 31) dX11_common_26 (by decide) (fun c_26 => absurd c_26 (by decide)) (fun c_26 => ?_)
  refine zV_iconst hX (v := nI 0) dX11_common_29 (by decide) ?_
  exact zV_retz hX hQ hr (rfl) (⟨rfl, rfl⟩) dX11_common_30
set_option maxHeartbeats 1000000 in
theorem zc_mcommonN (l : Launch) (G : zG) (M : zM) (a b d : Int32) (hcm : M.1 300 17 = -1) : zC l G 6 yX11_common cX11_common 4 (Option.some Jvm.ClassFile.FieldType.boolean) [.ref (300 : Nat), .int a, .int b, .int d] M (zP (some (.int (zb false))) (mTw (nI 1) (nI 0) M)) := by
  refine zC_of (by decide) (Nat.le_of_ble_eq_true rfl) (fun X Q hQ hX hl hR hr => ?_)
  refine zV_loc (L' := [.ref (300 : Nat), .int a, .int b, .int d]) rfl ?_
  refine zV_aload_n hX dX11_common_0 rfl ?_
  refine zV_iconst hX (v := nI 0) dX11_common_1 (by decide) ?_
  refine zV_puti hX dX11_common_2 zf_X11_149 zp_9_0 zo300.1 rfl ?_
  refine zV_aload_n hX dX11_common_5 rfl ?_
  refine zV_aload_n hX dX11_common_6 rfl ?_
  refine zV_iload_n hX dX11_common_7 rfl ?_
  refine zV_iload_n hX dX11_common_8 rfl ?_
  refine zV_iload_n hX dX11_common_9 rfl ?_
  refine zV_cV3p hX hR hl dX11_common_10 (zc_isTold0 l G (m0 M) a b d ((zw_ne (by omega)).trans hcm)) zt_X11_isTold rfl zml_X11_390 zo300.1 ⟨by decide, by decide⟩ (Nat.le_of_ble_eq_true rfl) ?_
  dsimp only [Option.toList, List.cons_append, List.nil_append]
  refine zV_if_neB hX (tgt := 20) dX11_common_13 (by decide) (fun c_13 => absurd c_13 (by decide)) (fun c_13 => ?_)
  refine zV_iconst hX (v := nI 1) dX11_common_16 (by decide) ?_
  refine zV_goto hX (tgt := 21) dX11_common_17 (by decide) ?_
  refine zV_iconst hX (v := nI 1) dX11_common_21 (by decide) ?_
  refine zV_iconst hX (v := nI 0) dX11_common_22 (by decide) ?_
  refine zV_cV3p hX hR hl dX11_common_23 (zc_badT0 l G _ _ zw_same (by decide)) zt_X11_bad rfl zml_X11_166 zo300.1 ⟨by decide, by decide⟩ (Nat.le_of_ble_eq_true rfl) ?_
  dsimp only [Option.toList, List.cons_append, List.nil_append]
  refine zV_if_eqB hX (tgt := 31) dX11_common_26 (by decide) (fun c_26 => absurd c_26 (by decide)) (fun c_26 => ?_)
  refine zV_iconst hX (v := nI 0) dX11_common_29 (by decide) ?_
  exact zV_retz hX hQ hr (rfl) (⟨rfl, rfl⟩) dX11_common_30
theorem mIn_01 : mIn (nI 0) (nI 0) (nI 1) = true ∧ mIn (nI 1) (nI 0) (nI 1) = true := by decide
set_option maxHeartbeats 1000000 in
theorem zc_magreedN (l : Launch) (G : zG) (M : zM) (k : Nat) (hcm : M.1 300 17 = -1) (hk : k < 2) : zC l G 7 yX11_agreed cX11_agreed 2 (Option.some Jvm.ClassFile.FieldType.boolean) [.ref (300 : Nat), .int (nI k)] M (zP (some (.int (zb false))) (m0 M)) := by
  refine zC_of (by decide) (Nat.le_of_ble_eq_true rfl) (fun X Q hQ hX hl hR hr => ?_)
  refine zV_loc (L' := [.ref (300 : Nat), .int (nI k)]) rfl ?_
  refine zV_aload_n hX dX11_agreed_0 rfl ?_
  refine zV_iconst hX (v := nI 0) dX11_agreed_1 (by decide) ?_
  refine zV_puti hX dX11_agreed_2 zf_X11_149 zp_9_0 zo300.1 rfl ?_
  refine zV_aload_n hX dX11_agreed_5 rfl ?_
  refine zV_iload_n hX dX11_agreed_6 rfl ?_
  refine zV_iconst hX (v := nI 0) dX11_agreed_7 (by decide) ?_
  refine zV_iconst hX (v := nI 1) dX11_agreed_8 (by decide) ?_
  refine zV_cS3p hX hR hl dX11_agreed_9 (zc_min l G _ _ _ _) zt_X11_in rfl zml_X11_162 (by decide) (Nat.le_of_ble_eq_true rfl) ?_
  dsimp only [Option.toList, List.cons_append, List.nil_append]
  refine zV_topi (zb true) (by rw [mIn_nI (by omega) (by omega) (by omega), decide_eq_false (by omega), Bool.not_false]) ?_
  refine zV_if_neB hX (tgt := 19) dX11_agreed_12 (by decide) (fun c_12 => ?_) (fun c_12 => absurd c_12 (by decide))
  refine zV_iconst hX (v := nI 0) dX11_agreed_19 (by decide) ?_
  refine zV_iconst hX (v := nI 1) dX11_agreed_20 (by decide) ?_
  refine zV_iconst hX (v := nI 1) dX11_agreed_21 (by decide) ?_
  refine zV_cV3p hX hR hl dX11_agreed_22 (zc_badF1 l G _ _ zw_same) zt_X11_bad rfl zml_X11_166 zo300.1 ⟨by decide, by decide⟩ (Nat.le_of_ble_eq_true rfl) ?_
  dsimp only [Option.toList, List.cons_append, List.nil_append]
  refine zV_if_eqB hX (tgt := 30) dX11_agreed_25 (by decide) (fun c_25 => ?_) (fun c_25 => absurd c_25 (by decide))
  refine zV_aload_n hX dX11_agreed_30 rfl ?_
  refine zV_geti hX dX11_agreed_31 zf_X11_39 zo300.1 rfl ((zw_ne (by omega)).trans hcm) ?_
  refine zV_iconst hX (v := (-1)) dX11_agreed_34 (by decide) ?_
  refine zV_icmp_eq hX (tgt := 66) dX11_agreed_35 (by decide) (fun c_35 => ?_) (fun c_35 => absurd c_35 ((fun q => q rfl)))
  refine zV_iconst hX (v := nI 0) dX11_agreed_66 (by decide) ?_
  exact zV_retz hX hQ hr (rfl) (⟨rfl, rfl⟩) dX11_agreed_67
set_option maxHeartbeats 1000000 in
theorem zc_magreedX (l : Launch) (G : zG) (M : zM) (x : Int32) (hx : mIn x (nI 0) (nI 1) = false) : zC l G 7 yX11_agreed cX11_agreed 2 (Option.some Jvm.ClassFile.FieldType.boolean) [.ref (300 : Nat), .int x] M (zP (some (.int (zb false))) (mTw (nI 1) (nI 1) M)) := by
  refine zC_of (by decide) (Nat.le_of_ble_eq_true rfl) (fun X Q hQ hX hl hR hr => ?_)
  refine zV_loc (L' := [.ref (300 : Nat), .int x]) rfl ?_
  refine zV_aload_n hX dX11_agreed_0 rfl ?_
  refine zV_iconst hX (v := nI 0) dX11_agreed_1 (by decide) ?_
  refine zV_puti hX dX11_agreed_2 zf_X11_149 zp_9_0 zo300.1 rfl ?_
  refine zV_aload_n hX dX11_agreed_5 rfl ?_
  refine zV_iload_n hX dX11_agreed_6 rfl ?_
  refine zV_iconst hX (v := nI 0) dX11_agreed_7 (by decide) ?_
  refine zV_iconst hX (v := nI 1) dX11_agreed_8 (by decide) ?_
  refine zV_cS3p hX hR hl dX11_agreed_9 (zc_min l G _ _ _ _) zt_X11_in rfl zml_X11_162 (by decide) (Nat.le_of_ble_eq_true rfl) ?_
  dsimp only [Option.toList, List.cons_append, List.nil_append]
  refine zV_topi (zb false) (by rw [hx]) ?_
  refine zV_if_neB hX (tgt := 19) dX11_agreed_12 (by decide) (fun c_12 => absurd c_12 (by decide)) (fun c_12 => ?_)
  refine zV_iconst hX (v := nI 1) dX11_agreed_15 (by decide) ?_
  refine zV_goto hX (tgt := 20) dX11_agreed_16 (by decide) ?_
  refine zV_iconst hX (v := nI 1) dX11_agreed_20 (by decide) ?_
  refine zV_iconst hX (v := nI 1) dX11_agreed_21 (by decide) ?_
  refine zV_cV3p hX hR hl dX11_agreed_22 (zc_badT1 l G _ _ zw_same (by decide)) zt_X11_bad rfl zml_X11_166 zo300.1 ⟨by decide, by decide⟩ (Nat.le_of_ble_eq_true rfl) ?_
  dsimp only [Option.toList, List.cons_append, List.nil_append]
  refine zV_if_eqB hX (tgt := 30) dX11_agreed_25 (by decide) (fun c_25 => absurd c_25 (by decide)) (fun c_25 => ?_)
  refine zV_iconst hX (v := nI 0) dX11_agreed_28 (by decide) ?_
  exact zV_retz hX hQ hr (rfl) (⟨rfl, rfl⟩) dX11_agreed_29
