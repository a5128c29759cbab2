set_option maxHeartbeats 1000000 in
theorem zc_mstatus (l : Launch) (G : zG) (M : zM) (j : Nat) (hj : j < 2) : zC l G 1 yX11_status cX11_status 2 (Option.some Jvm.ClassFile.FieldType.int) [.ref (300 : Nat), .int (nI j)] M (zP (some (.int (M.1 302 j))) (m0 M)) := by
  refine zC_of (by decide) (Nat.le_of_ble_eq_true rfl) (fun X Q hQ hX hl hR hr => ?_)
  refine zV_loc (L' := [.ref (300 : Nat), .int (nI j)]) rfl ?_
  refine zV_aload_n hX dX11_status_0 rfl ?_
  refine zV_iconst hX (v := nI 0) dX11_status_1 (by decide) ?_
  refine zV_puti hX dX11_status_2 zf_X11_149 zp_9_0 zo300.1 rfl ?_
  refine zV_iload_n hX dX11_status_5 rfl ?_
  refine zV_iconst hX (v := nI 0) dX11_status_6 (by decide) ?_
  refine zV_iconst hX (v := nI 1) dX11_status_7 (by decide) ?_
  refine zV_cS3p hX hR hl dX11_status_8 (zc_min l G _ _ _ _) zt_X11_in rfl zml_X11_162 (by decide) (Nat.le_of_ble_eq_true rfl) ?_
  dsimp only [Option.toList, List.cons_append, List.nil_append]
  refine zV_topi (zb true) (by rw [mIn_nI (by omega) (by omega) (by omega), decide_eq_false (by omega), Bool.not_false]) ?_
  refine zV_if_eqB hX (tgt := 23) dX11_status_11 (by decide) (fun c_11 => absurd c_11 (by decide)) (fun c_11 => ?_)
  refine zV_aload_n hX dX11_status_14 rfl ?_
  refine zV_geta hX dX11_status_15 zf_X11_7 zo300.1 rfl ?_
  refine zV_iload_n hX dX11_status_18 rfl ?_
  refine zV_iald hX (v := M.1 302 j) dX11_status_19 (zo300.a 1 rfl) (rfl) ⟨by omega, by omega⟩ (zw_ne (by omega)) ?_
  refine zV_goto hX (tgt := 24) dX11_status_20 (by decide) ?_
  exact zV_reti hX hQ hr (⟨rfl, rfl⟩) dX11_status_24
set_option maxHeartbeats 1000000 in
theorem zc_mstatusX (l : Launch) (G : zG) (M : zM) (x : Int32) (hx : mIn x (nI 0) (nI 1) = false) : zC l G 1 yX11_status cX11_status 2 (Option.some Jvm.ClassFile.FieldType.int) [.ref (300 : Nat), .int x] M (zP (some (.int (-1))) (m0 M)) := by
  refine zC_of (by decide) (Nat.le_of_ble_eq_true rfl) (fun X Q hQ hX hl hR hr => ?_)
  refine zV_loc (L' := [.ref (300 : Nat), .int x]) rfl ?_
  refine zV_aload_n hX dX11_status_0 rfl ?_
  refine zV_iconst hX (v := nI 0) dX11_status_1 (by decide) ?_
  refine zV_puti hX dX11_status_2 zf_X11_149 zp_9_0 zo300.1 rfl ?_
  refine zV_iload_n hX dX11_status_5 rfl ?_
  refine zV_iconst hX (v := nI 0) dX11_status_6 (by decide) ?_
  refine zV_iconst hX (v := nI 1) dX11_status_7 (by decide) ?_
  refine zV_cS3p hX hR hl dX11_status_8 (zc_min l G _ _ _ _) zt_X11_in rfl zml_X11_162 (by decide) (Nat.le_of_ble_eq_true rfl) ?_
  dsimp only [Option.toList, List.cons_append, List.nil_append]
  refine zV_topi (zb false) (by rw [hx]) ?_
  refine zV_if_eqB hX (tgt := 23) dX11_status_11 (by decide) (fun c_11 => ?_) (fun c_11 => absurd c_11 (by decide))
  refine zV_iconst hX (v := (-1)) dX11_status_23 (by decide) ?_
  exact zV_reti hX hQ hr (⟨rfl, rfl⟩) dX11_status_24
set_option maxHeartbeats 1000000 in
theorem zc_mmessages (l : Launch) (G : zG) (M : zM) (a b : Nat) (ha3 : 3 ≤ a) (ha : a ≤ 7) (hb1 : 1 ≤ b) (hb : b ≤ 3) : zC l G 1 yX11_messages cX11_messages 3 (Option.some Jvm.ClassFile.FieldType.int) [.ref (300 : Nat), .int (nI a), .int (nI b)] M (zP (some (.int ((aMs a (b - 1)).2))) (m0 M)) := by
  refine zC_of (by decide) (Nat.le_of_ble_eq_true rfl) (fun X Q hQ hX hl hR hr => ?_)
  refine zV_loc (L' := [.ref (300 : Nat), .int (nI a), .int (nI b)]) rfl ?_
  refine zV_aload_n hX dX11_messages_0 rfl ?_
  refine zV_iconst hX (v := nI 0) dX11_messages_1 (by decide) ?_
  refine zV_puti hX dX11_messages_2 zf_X11_149 zp_9_0 zo300.1 rfl ?_
  refine zV_aload_n hX dX11_messages_5 rfl ?_
  refine zV_iload_n hX dX11_messages_6 rfl ?_
  refine zV_iconst hX (v := nI 3) dX11_messages_7 (by decide) ?_
  refine zV_bipush hX (v := nI 7) dX11_messages_8 (by decide) ?_
  refine zV_cS3p hX hR hl dX11_messages_10 (zc_min l G _ _ _ _) zt_X11_in rfl zml_X11_162 (by decide) (Nat.le_of_ble_eq_true rfl) ?_
  dsimp only [Option.toList, List.cons_append, List.nil_append]
  refine zV_topi (zb true) (by rw [mIn_nI (by omega) (by omega) (by omega), decide_eq_false (by omega), Bool.not_false]) ?_
  refine zV_if_eqB hX (tgt := 25) dX11_messages_13 (by decide) (fun c_13 => absurd c_13 (by decide)) (fun c_13 => ?_)
  refine zV_iload_n hX dX11_messages_16 rfl ?_
  refine zV_iconst hX (v := nI 1) dX11_messages_17 (by decide) ?_
  refine zV_iconst hX (v := nI 3) dX11_messages_18 (by decide) ?_
  refine zV_cS3p hX hR hl dX11_messages_19 (zc_min l G _ _ _ _) zt_X11_in rfl zml_X11_162 (by decide) (Nat.le_of_ble_eq_true rfl) ?_
  dsimp only [Option.toList, List.cons_append, List.nil_append]
  refine zV_topi (zb true) (by rw [mIn_nI (by omega) (by omega) (by omega), decide_eq_false (by omega), Bool.not_false]) ?_
  refine zV_if_neB hX (tgt := 29) dX11_messages_22 (by decide) (fun c_22 => ?_) (fun c_22 => absurd c_22 (by decide))
  refine zV_iconst hX (v := nI 0) dX11_messages_29 (by decide) ?_
  refine zV_iconst hX (v := nI 1) dX11_messages_30 (by decide) ?_
  refine zV_iconst hX (v := nI 1) dX11_messages_31 (by decide) ?_
  refine zV_cV3p hX hR hl dX11_messages_32 (zc_badF1 l G _ _ zw_same) zt_X11_bad rfl zml_X11_166 zo300.1 ⟨by decide, by decide⟩ (Nat.le_of_ble_eq_true rfl) ?_
  dsimp only [Option.toList, List.cons_append, List.nil_append]
  refine zV_if_eqB hX (tgt := 40) dX11_messages_35 (by decide) (fun c_35 => ?_) (fun c_35 => absurd c_35 (by decide))
  refine zV_iload_n hX dX11_messages_40 rfl ?_
  refine zV_iload_n hX dX11_messages_41 rfl ?_
  refine zV_cS2p hX hR hl dX11_messages_42 (zc_mmsgOf l G (m0 M) a b (by omega) (by omega) (by omega)) zt_X11_messagesOf rfl zml_X11_482 (by decide) (Nat.le_of_ble_eq_true rfl) ?_
  dsimp only [Option.toList, List.cons_append, List.nil_append]
  exact zV_reti hX hQ hr (⟨rfl, rfl⟩) dX11_messages_45
set_option maxHeartbeats 1000000 in
theorem zc_mmessagesA (l : Launch) (G : zG) (M : zM) (a b : Int32) (ha : mIn a (nI 3) (nI 7) = false) : zC l G 1 yX11_messages cX11_messages 3 (Option.some Jvm.ClassFile.FieldType.int) [.ref (300 : Nat), .int a, .int b] M (zP (some (.int (nI 0))) (mTw (nI 1) (nI 1) M)) := by
  refine zC_of (by decide) (Nat.le_of_ble_eq_true rfl) (fun X Q hQ hX hl hR hr => ?_)
  refine zV_loc (L' := [.ref (300 : Nat), .int a, .int b]) rfl ?_
  refine zV_aload_n hX dX11_messages_0 rfl ?_
  refine zV_iconst hX (v := nI 0) dX11_messages_1 (by decide) ?_
  refine zV_puti hX dX11_messages_2 zf_X11_149 zp_9_0 zo300.1 rfl ?_
  refine zV_aload_n hX dX11_messages_5 rfl ?_
  refine zV_iload_n hX dX11_messages_6 rfl ?_
  refine zV_iconst hX (v := nI 3) dX11_messages_7 (by decide) ?_
  refine zV_bipush hX (v := nI 7) dX11_messages_8 (by decide) ?_
  refine zV_cS3p hX hR hl dX11_messages_10 (zc_min l G _ _ _ _) zt_X11_in rfl zml_X11_162 (by decide) (Nat.le_of_ble_eq_true rfl) ?_
  dsimp only [Option.toList, List.cons_append, List.nil_append]
  refine zV_topi (zb false) (by rw [ha]) ?_
  refine zV_if_eqB hX (tgt := 25) dX11_messages_13 (by decide) (fun c_13 => ?_) (fun c_13 => absurd c_13 (by decide))
  refine zV_iconst hX (v := nI 1) dX11_messages_25 (by decide) ?_
  refine zV_goto hX (tgt := 30) dX11_messages_26 (by decide) ?_
  refine zV_iconst hX (v := nI 1) dX11_messages_30 (by decide) ?_
  refine zV_iconst hX (v := nI 1) dX11_messages_31 (by decide) ?_
  refine zV_cV3p hX hR hl dX11_messages_32 (zc_badT1 l G _ _ zw_same (by decide)) zt_X11_bad rfl zml_X11_166 zo300.1 ⟨by decide, by decide⟩ (Nat.le_of_ble_eq_true rfl) ?_
  dsimp only [Option.toList, List.cons_append, List.nil_append]
  refine zV_if_eqB hX (tgt := 40) dX11_messages_35 (by decide) (fun c_35 => absurd c_35 (by decide)) (fun c_35 => ?_)
  refine zV_iconst hX (v := nI 0) dX11_messages_38 (by decide) ?_
  exact zV_reti hX hQ hr (⟨rfl, rfl⟩) dX11_messages_39
set_option maxHeartbeats 1000000 in
theorem zc_mmessagesB (l : Launch) (G : zG) (M : zM) (a b : Int32) (ha : mIn a (nI 3) (nI 7) = true) (hb : mIn b (nI 1) (nI 3) = false) : zC l G 1 yX11_messages cX11_messages 3 (Option.some Jvm.ClassFile.FieldType.int) [.ref (300 : Nat), .int a, .int b] M (zP (some (.int (nI 0))) (mTw (nI 1) (nI 1) M)) := by
  refine zC_of (by decide) (Nat.le_of_ble_eq_true rfl) (fun X Q hQ hX hl hR hr => ?_)
  refine zV_loc (L' := [.ref (300 : Nat), .int a, .int b]) rfl ?_
  refine zV_aload_n hX dX11_messages_0 rfl ?_
  refine zV_iconst hX (v := nI 0) dX11_messages_1 (by decide) ?_
  refine zV_puti hX dX11_messages_2 zf_X11_149 zp_9_0 zo300.1 rfl ?_
  refine zV_aload_n hX dX11_messages_5 rfl ?_
  refine zV_iload_n hX dX11_messages_6 rfl ?_
  refine zV_iconst hX (v := nI 3) dX11_messages_7 (by decide) ?_
  refine zV_bipush hX (v := nI 7) dX11_messages_8 (by decide) ?_
  refine zV_cS3p hX hR hl dX11_messages_10 (zc_min l G _ _ _ _) zt_X11_in rfl zml_X11_162 (by decide) (Nat.le_of_ble_eq_true rfl) ?_
  dsimp only [Option.toList, List.cons_append, List.nil_append]
  refine zV_topi (zb true) (by rw [ha]) ?_
  refine zV_if_eqB hX (tgt := 25) dX11_messages_13 (by decide) (fun c_13 => absurd c_13 (by decide)) (fun c_13 => ?_)
  refine zV_iload_n hX dX11_messages_16 rfl ?_
  refine zV_iconst hX (v := nI 1) dX11_messages_17 (by decide) ?_
  refine zV_iconst hX (v := nI 3) dX11_messages_18 (by decide) ?_
  refine zV_cS3p hX hR hl dX11_messages_19 (zc_min l G _ _ _ _) zt_X11_in rfl zml_X11_162 (by decide) (Nat.le_of_ble_eq_true rfl) ?_
  dsimp only [Option.toList, List.cons_append, List.nil_append]
  refine zV_topi (zb false) (by rw [hb]) ?_
  refine zV_if_neB hX (tgt := 29) dX11_messages_22 (by decide) (fun c_22 => absurd c_22 (by decide)) (fun c_22 => ?_)
  refine zV_iconst hX (v := nI 1) dX11_messages_25 (by decide) ?_
  refine zV_goto hX (tgt := 30) dX11_messages_26 (by decide) ?_
  refine zV_iconst hX (v := nI 1) dX11_messages_30 (by decide) ?_
  refine zV_iconst hX (v := nI 1) dX11_messages_31 (by decide) ?_
  refine zV_cV3p hX hR hl dX11_messages_32 (zc_badT1 l G _ _ zw_same (by decide)) zt_X11_bad rfl zml_X11_166 zo300.1 ⟨by decide, by decide⟩ (Nat.le_of_ble_eq_true rfl) ?_
  dsimp only [Option.toList, List.cons_append, List.nil_append]
  refine zV_if_eqB hX (tgt := 40) dX11_messages_35 (by decide) (fun c_35 => absurd c_35 (by decide)) (fun c_35 => ?_)
  refine zV_iconst hX (v := nI 0) dX11_messages_38 (by decide) ?_
  exact zV_reti hX hQ hr (⟨rfl, rfl⟩) dX11_messages_39
def aFw (t : Nat) : Nat := if t = 0 then 3 else 3 * t + 1
set_option maxHeartbeats 1000000 in
theorem zc_mfewest (l : Launch) (G : zG) (M : zM) (t k : Nat) (ht : t ≤ 2) (hk : k < 2) : zC l G 1 yX11_fewest cX11_fewest 4 (Option.some Jvm.ClassFile.FieldType.int) [.ref (300 : Nat), .int (nI t), .int (nI k)] M (zP (some (.int (if k = 0 then nI (aFw t) else (aMs (aFw t) t).2))) (m0 M)) := by
  refine zC_of (by decide) (Nat.le_of_ble_eq_true rfl) (fun X Q hQ hX hl hR hr => ?_)
  refine zV_loc (L' := [.ref (300 : Nat), .int (nI t), .int (nI k), .null]) rfl ?_
  have hfw : aFw t ≤ 7 := by unfold aFw; split <;> omega
  have J52 : zV G X Q 4 0 0 52 [.ref (300 : Nat), .int (nI t), .int (nI k), .null] [.int (nI (aFw t))] (m0 M) := by
    refine zV_istore_n hX dX11_fewest_52 (by decide) ?_
    dsimp only [zst1, zst2, zclr, zc2]
    refine zV_iload_n hX dX11_fewest_53 rfl ?_
    refine zV_if_neN hX (tgt := 61) dX11_fewest_54 (by decide) (by omega) (fun c_54 => ?_) (fun c_54 => ?_)
    · refine zV_iload_n hX dX11_fewest_61 rfl ?_
      refine zV_iload_n hX dX11_fewest_62 rfl ?_
      refine zV_iconst hX (v := nI 1) dX11_fewest_63 (by decide) ?_
      refine zV_iaddN hX dX11_fewest_64 ?_
      refine zV_cS2p hX hR hl dX11_fewest_65 (zc_mmsgOf l G (m0 M) (aFw t) (t + 1) (by omega) (by omega) (by omega)) zt_X11_messagesOf rfl zml_X11_482 (by decide) (Nat.le_of_ble_eq_true rfl) ?_
      dsimp only [Option.toList, List.cons_append, List.nil_append]
      exact zV_reti hX hQ hr (⟨by first | rw [if_pos c_54] | (rw [if_neg (by omega)]; rfl), rfl⟩) dX11_fewest_68
    · refine zV_iload_n hX dX11_fewest_57 rfl ?_
      refine zV_goto hX (tgt := 68) dX11_fewest_58 (by decide) ?_
      exact zV_reti hX hQ hr (⟨by first | rw [if_pos c_54] | (rw [if_neg (by omega)]; rfl), rfl⟩) dX11_fewest_68
  refine zV_aload_n hX dX11_fewest_0 rfl ?_
  refine zV_iconst hX (v := nI 0) dX11_fewest_1 (by decide) ?_
  refine zV_puti hX dX11_fewest_2 zf_X11_149 zp_9_0 zo300.1 rfl ?_
  refine zV_aload_n hX dX11_fewest_5 rfl ?_
  refine zV_iload_n hX dX11_fewest_6 rfl ?_
  refine zV_iconst hX (v := nI 0) dX11_fewest_7 (by decide) ?_
  refine zV_iconst hX (v := nI 2) dX11_fewest_8 (by decide) ?_
  refine zV_cS3p hX hR hl dX11_fewest_9 (zc_min l G _ _ _ _) zt_X11_in rfl zml_X11_162 (by decide) (Nat.le_of_ble_eq_true rfl) ?_
  dsimp only [Option.toList, List.cons_append, List.nil_append]
  refine zV_topi (zb true) (by rw [mIn_nI (by omega) (by omega) (by omega), decide_eq_false (by omega), Bool.not_false]) ?_
  refine zV_if_eqB hX (tgt := 24) dX11_fewest_12 (by decide) (fun c_12 => absurd c_12 (by decide)) (fun c_12 => ?_)
  refine zV_iload_n hX dX11_fewest_15 rfl ?_
  refine zV_iconst hX (v := nI 0) dX11_fewest_16 (by decide) ?_
  refine zV_iconst hX (v := nI 1) dX11_fewest_17 (by decide) ?_
  refine zV_cS3p hX hR hl dX11_fewest_18 (zc_min l G _ _ _ _) zt_X11_in rfl zml_X11_162 (by decide) (Nat.le_of_ble_eq_true rfl) ?_
  dsimp only [Option.toList, List.cons_append, List.nil_append]
  refine zV_topi (zb true) (by rw [mIn_nI (by omega) (by omega) (by omega), decide_eq_false (by omega), Bool.not_false]) ?_
  refine zV_if_neB hX (tgt := 28) dX11_fewest_21 (by decide) (fun c_21 => ?_) (fun c_21 => absurd c_21 (by decide))
  refine zV_iconst hX (v := nI 0) dX11_fewest_28 (by decide) ?_
  refine zV_iconst hX (v := nI 1) dX11_fewest_29 (by decide) ?_
  refine zV_iconst hX (v := nI 1) dX11_fewest_30 (by decide) ?_
  refine zV_cV3p hX hR hl dX11_fewest_31 (zc_badF1 l G _ _ zw_same) zt_X11_bad rfl zml_X11_166 zo300.1 ⟨by decide, by decide⟩ (Nat.le_of_ble_eq_true rfl) ?_
  dsimp only [Option.toList, List.cons_append, List.nil_append]
  refine zV_if_eqB hX (tgt := 39) dX11_fewest_34 (by decide) (fun c_34 => ?_) (fun c_34 => absurd c_34 (by decide))
  refine zV_iload_n hX dX11_fewest_39 rfl ?_
  refine zV_if_neN hX (tgt := 47) dX11_fewest_40 (by decide) (by omega) (fun c_40 => ?_) (fun c_40 => ?_)
  · refine zV_iconst hX (v := nI 3) dX11_fewest_47 (by decide) ?_
    refine zV_iload_n hX dX11_fewest_48 rfl ?_
    refine zV_imulN hX dX11_fewest_49 ?_
    refine zV_iconst hX (v := nI 1) dX11_fewest_50 (by decide) ?_
    refine zV_iaddN hX dX11_fewest_51 ?_
    refine zV_topi (nI (aFw t)) (by unfold aFw; first | rw [if_pos c_40] | rw [if_neg (by omega)]) ?_
    exact J52
  · refine zV_iconst hX (v := nI 3) dX11_fewest_43 (by decide) ?_
    refine zV_goto hX (tgt := 52) dX11_fewest_44 (by decide) ?_
    refine zV_topi (nI (aFw t)) (by unfold aFw; first | rw [if_pos c_40] | rw [if_neg (by omega)]) ?_
    exact J52
set_option maxHeartbeats 1000000 in
theorem zc_mfewestA (l : Launch) (G : zG) (M : zM) (a b : Int32) (ha : mIn a (nI 0) (nI 2) = false) : zC l G 1 yX11_fewest cX11_fewest 4 (Option.some Jvm.ClassFile.FieldType.int) [.ref (300 : Nat), .int a, .int b] M (zP (some (.int (nI 0))) (mTw (nI 1) (nI 1) M)) := by
  refine zC_of (by decide) (Nat.le_of_ble_eq_true rfl) (fun X Q hQ hX hl hR hr => ?_)
  refine zV_loc (L' := [.ref (300 : Nat), .int a, .int b, .null]) rfl ?_
  refine zV_aload_n hX dX11_fewest_0 rfl ?_
  refine zV_iconst hX (v := nI 0) dX11_fewest_1 (by decide) ?_
  refine zV_puti hX dX11_fewest_2 zf_X11_149 zp_9_0 zo300.1 rfl ?_
  refine zV_aload_n hX dX11_fewest_5 rfl ?_
  refine zV_iload_n hX dX11_fewest_6 rfl ?_
  refine zV_iconst hX (v := nI 0) dX11_fewest_7 (by decide) ?_
  refine zV_iconst hX (v := nI 2) dX11_fewest_8 (by decide) ?_
  refine zV_cS3p hX hR hl dX11_fewest_9 (zc_min l G _ _ _ _) zt_X11_in rfl zml_X11_162 (by decide) (Nat.le_of_ble_eq_true rfl) ?_
  dsimp only [Option.toList, List.cons_append, List.nil_append]
  refine zV_topi (zb false) (by rw [ha]) ?_
  refine zV_if_eqB hX (tgt := 24) dX11_fewest_12 (by decide) (fun c_12 => ?_) (fun c_12 => absurd c_12 (by decide))
  refine zV_iconst hX (v := nI 1) dX11_fewest_24 (by decide) ?_
  refine zV_goto hX (tgt := 29) dX11_fewest_25 (by decide) ?_
  refine zV_iconst hX (v := nI 1) dX11_fewest_29 (by decide) ?_
  refine zV_iconst hX (v := nI 1) dX11_fewest_30 (by decide) ?_
  refine zV_cV3p hX hR hl dX11_fewest_31 (zc_badT1 l G _ _ zw_same (by decide)) zt_X11_bad rfl zml_X11_166 zo300.1 ⟨by decide, by decide⟩ (Nat.le_of_ble_eq_true rfl) ?_
  dsimp only [Option.toList, List.cons_append, List.nil_append]
  refine zV_if_eqB hX (tgt := 39) dX11_fewest_34 (by decide) (fun c_34 => absurd c_34 (by decide)) (fun c_34 => ?_)
  refine zV_iconst hX (v := nI 0) dX11_fewest_37 (by decide) ?_
  exact zV_reti hX hQ hr (⟨rfl, rfl⟩) dX11_fewest_38
set_option maxHeartbeats 1000000 in
theorem zc_mfewestB (l : Launch) (G : zG) (M : zM) (a b : Int32) (ha : mIn a (nI 0) (nI 2) = true) (hb : mIn b (nI 0) (nI 1) = false) : zC l G 1 yX11_fewest cX11_fewest 4 (Option.some Jvm.ClassFile.FieldType.int) [.ref (300 : Nat), .int a, .int b] M (zP (some (.int (nI 0))) (mTw (nI 1) (nI 1) M)) := by
  refine zC_of (by decide) (Nat.le_of_ble_eq_true rfl) (fun X Q hQ hX hl hR hr => ?_)
  refine zV_loc (L' := [.ref (300 : Nat), .int a, .int b, .null]) rfl ?_
  refine zV_aload_n hX dX11_fewest_0 rfl ?_
  refine zV_iconst hX (v := nI 0) dX11_fewest_1 (by decide) ?_
  refine zV_puti hX dX11_fewest_2 zf_X11_149 zp_9_0 zo300.1 rfl ?_
  refine zV_aload_n hX dX11_fewest_5 rfl ?_
  refine zV_iload_n hX dX11_fewest_6 rfl ?_
  refine zV_iconst hX (v := nI 0) dX11_fewest_7 (by decide) ?_
  refine zV_iconst hX (v := nI 2) dX11_fewest_8 (by decide) ?_
  refine zV_cS3p hX hR hl dX11_fewest_9 (zc_min l G _ _ _ _) zt_X11_in rfl zml_X11_162 (by decide) (Nat.le_of_ble_eq_true rfl) ?_
  dsimp only [Option.toList, List.cons_append, List.nil_append]
  refine zV_topi (zb true) (by rw [ha]) ?_
  refine zV_if_eqB hX (tgt := 24) dX11_fewest_12 (by decide) (fun c_12 => absurd c_12 (by decide)) (fun c_12 => ?_)
  refine zV_iload_n hX dX11_fewest_15 rfl ?_
  refine zV_iconst hX (v := nI 0) dX11_fewest_16 (by decide) ?_
  refine zV_iconst hX (v := nI 1) dX11_fewest_17 (by decide) ?_
  refine zV_cS3p hX hR hl dX11_fewest_18 (zc_min l G _ _ _ _) zt_X11_in rfl zml_X11_162 (by decide) (Nat.le_of_ble_eq_true rfl) ?_
  dsimp only [Option.toList, List.cons_append, List.nil_append]
  refine zV_topi (zb false) (by rw [hb]) ?_
  refine zV_if_neB hX (tgt := 28) dX11_fewest_21 (by decide) (fun c_21 => absurd c_21 (by decide)) (fun c_21 => ?_)
  refine zV_iconst hX (v := nI 1) dX11_fewest_24 (by decide) ?_
  refine zV_goto hX (tgt := 29) dX11_fewest_25 (by decide) ?_
  refine zV_iconst hX (v := nI 1) dX11_fewest_29 (by decide) ?_
  refine zV_iconst hX (v := nI 1) dX11_fewest_30 (by decide) ?_
  refine zV_cV3p hX hR hl dX11_fewest_31 (zc_badT1 l G _ _ zw_same (by decide)) zt_X11_bad rfl zml_X11_166 zo300.1 ⟨by decide, by decide⟩ (Nat.le_of_ble_eq_true rfl) ?_
  dsimp only [Option.toList, List.cons_append, List.nil_append]
  refine zV_if_eqB hX (tgt := 39) dX11_fewest_34 (by decide) (fun c_34 => absurd c_34 (by decide)) (fun c_34 => ?_)
  refine zV_iconst hX (v := nI 0) dX11_fewest_37 (by decide) ?_
  exact zV_reti hX hQ hr (⟨rfl, rfl⟩) dX11_fewest_38
set_option maxHeartbeats 1000000 in
theorem zc_mnearer (l : Launch) (G : zG) (M : zM) (n t md st j : Nat) (mn : Nat → Option Nat) (hn : M.1 300 9 = nI n) (hn7 : n ≤ 7) (h0 : 1 ≤ n) (ht : M.1 300 10 = nI t) (ht2 : t ≤ 2) (hst : st ≤ 60) (hmd2 : md < 2) (hmn : mLn 0 M mn) (hlv : mlV M) (hv : ∀ m, m < 7 → okV (M.1 313 m)) (hj : j < n) : zC l G 5 yX11_nearer cX11_nearer 4 (Option.some Jvm.ClassFile.FieldType.int) [.ref (300 : Nat), .int (nI st), .int (nI md), .int (nI j)] M (zP (some (.int ((mNg n t md mn st (m0 M)).1 360 j))) ((mNg n t md mn st (m0 M)))) := by
  refine zC_of (by decide) (Nat.le_of_ble_eq_true rfl) (fun X Q hQ hX hl hR hr => ?_)
  refine zV_loc (L' := [.ref (300 : Nat), .int (nI st), .int (nI md), .int (nI j)]) rfl ?_
  have hmn0 : mLn 0 (m0 M) mn := hmn
  have hlv0 : mlV (m0 M) := fun s i hs hi => by have hq : 3100 ≤ mLc s i := (by unfold mLc; omega); rw [zw_ne (by omega), zw_ne (by omega)]; exact hlv s i hs hi
  have hv0 : ∀ m, m < 7 → okV ((m0 M).1 313 m) := hv
  have hI := mNg_iv (t := t) (md := md) hv0 hlv0 hmn0 hn7 st
  have hng : (mNg n t md mn st (m0 M)).1 300 9 = nI n := hI.1.at ((zw_ne (by omega)).trans hn) (by unfold mFrN; omega)
  obtain ⟨R, hR9⟩ : ∃ R, R = (mNg n t md mn st (m0 M)) := ⟨_, rfl⟩
  rw [← hR9] at hI hng
  obtain ⟨s9, N9, hsq, -⟩ := hI.2 j hj
  refine zV_aload_n hX dX11_nearer_0 rfl ?_
  refine zV_iconst hX (v := nI 0) dX11_nearer_1 (by decide) ?_
  refine zV_puti hX dX11_nearer_2 zf_X11_149 zp_9_0 zo300.1 rfl ?_
  refine zV_aload_n hX dX11_nearer_5 rfl ?_
  refine zV_aload_n hX dX11_nearer_6 rfl ?_
  refine zV_iload_n hX dX11_nearer_7 rfl ?_
  refine zV_cV1p hX hR hl dX11_nearer_8 (zc_isMember l G _ n _ ((zw_ne (by omega)).trans hn) hn7 h0) zt_X11_isMember rfl zml_X11_179 zo300.1 ⟨by decide, by decide⟩ (Nat.le_of_ble_eq_true rfl) ?_
  dsimp only [Option.toList, List.cons_append, List.nil_append]
  refine zV_topi (zb true) (by rw [zmem_nI (by omega) (by omega), decide_eq_true hj]) ?_
  refine zV_if_neB hX (tgt := 18) dX11_nearer_11 (by decide) (fun c_11 => ?_) (fun c_11 => absurd c_11 (by decide))
  refine zV_iconst hX (v := nI 0) dX11_nearer_18 (by decide) ?_
  refine zV_iconst hX (v := nI 1) dX11_nearer_19 (by decide) ?_
  refine zV_iconst hX (v := nI 0) dX11_nearer_20 (by decide) ?_
  refine zV_cV3p hX hR hl dX11_nearer_21 (zc_badF0 l G _ _ zw_same) zt_X11_bad rfl zml_X11_166 zo300.1 ⟨by decide, by decide⟩ (Nat.le_of_ble_eq_true rfl) ?_
  dsimp only [Option.toList, List.cons_append, List.nil_append]
  refine zV_if_neB hX (tgt := 60) dX11_nearer_24 (by decide) (fun c_24 => absurd c_24 (by decide)) (fun c_24 => ?_)
  refine zV_aload_n hX dX11_nearer_27 rfl ?_
  refine zV_iload_n hX dX11_nearer_28 rfl ?_
  refine zV_iconst hX (v := nI 0) dX11_nearer_29 (by decide) ?_
  refine zV_bipush hX (v := nI 60) dX11_nearer_30 (by decide) ?_
  refine zV_cS3p hX hR hl dX11_nearer_32 (zc_min l G _ _ _ _) zt_X11_in rfl zml_X11_162 (by decide) (Nat.le_of_ble_eq_true rfl) ?_
  dsimp only [Option.toList, List.cons_append, List.nil_append]
  refine zV_topi (zb true) (by rw [mIn_nI (by omega) (by omega) (by omega), decide_eq_false (by omega), Bool.not_false]) ?_
  refine zV_if_eqB hX (tgt := 47) dX11_nearer_35 (by decide) (fun c_35 => absurd c_35 (by decide)) (fun c_35 => ?_)
  refine zV_iload_n hX dX11_nearer_38 rfl ?_
  refine zV_iconst hX (v := nI 0) dX11_nearer_39 (by decide) ?_
  refine zV_iconst hX (v := nI 1) dX11_nearer_40 (by decide) ?_
  refine zV_cS3p hX hR hl dX11_nearer_41 (zc_min l G _ _ _ _) zt_X11_in rfl zml_X11_162 (by decide) (Nat.le_of_ble_eq_true rfl) ?_
  dsimp only [Option.toList, List.cons_append, List.nil_append]
  refine zV_topi (zb true) (by rw [mIn_nI (by omega) (by omega) (by omega), decide_eq_false (by omega), Bool.not_false]) ?_
  refine zV_if_neB hX (tgt := 51) dX11_nearer_44 (by decide) (fun c_44 => ?_) (fun c_44 => absurd c_44 (by decide))
  refine zV_iconst hX (v := nI 0) dX11_nearer_51 (by decide) ?_
  refine zV_iconst hX (v := nI 2) dX11_nearer_52 (by decide) ?_
  refine zV_iconst hX (v := nI 1) dX11_nearer_53 (by decide) ?_
  refine zV_cV3p hX hR hl dX11_nearer_54 (zc_badF1 l G _ _ zw_same) zt_X11_bad rfl zml_X11_166 zo300.1 ⟨by decide, by decide⟩ (Nat.le_of_ble_eq_true rfl) ?_
  dsimp only [Option.toList, List.cons_append, List.nil_append]
  refine zV_if_eqB hX (tgt := 62) dX11_nearer_57 (by decide) (fun c_57 => ?_) (fun c_57 => absurd c_57 (by decide))
  refine zV_aload_n hX dX11_nearer_62 rfl ?_
  refine zV_iload_n hX dX11_nearer_63 rfl ?_
  refine zV_iload_n hX dX11_nearer_64 rfl ?_
  refine zV_cV2p hX hR hl dX11_nearer_65 (zc_mgoes l G (m0 M) n t md st mn ((zw_ne (by omega)).trans hn) hn7 ((zw_ne (by omega)).trans ht) ht2 hmd2 (by omega) hmn0 hlv0 hv0) zt_X11_goes rfl zml_X11_501 zo300.1 ⟨by decide, by decide⟩ (Nat.le_of_ble_eq_true rfl) ?_
  dsimp only [Option.toList, List.cons_append, List.nil_append]
  refine zV_mem hR9.symm ?_
  refine zV_aload_n hX dX11_nearer_68 rfl ?_
  refine zV_geta hX dX11_nearer_69 zf_X11_129 zo300.1 rfl ?_
  refine zV_iload_n hX dX11_nearer_72 rfl ?_
  refine zV_fald hX dX11_nearer_73 (zo300.a 59 rfl) (rfl) ⟨by omega, by omega⟩ (rfl) ?_
  refine zV_cS1p hX hR hl dX11_nearer_74 (zc_bitsf l G _ _ _ _ hsq) zt_Jxf58ca_floatToIntBits_5c35a rfl zml_X11_152 (by decide) (Nat.le_of_ble_eq_true rfl) ?_
  dsimp only [Option.toList, List.cons_append, List.nil_append]
  exact zV_reti hX hQ hr (⟨by rw [hR9, Int32.toInt32_toUInt32], hR9⟩) dX11_nearer_77
set_option maxHeartbeats 1000000 in
theorem zc_mnearerX (l : Launch) (G : zG) (M : zM) (n : Nat) (a b x : Int32) (hn : M.1 300 9 = nI n) (hn7 : n ≤ 7) (h0 : 1 ≤ n) (hx : zmem x n = false) : zC l G 5 yX11_nearer cX11_nearer 4 (Option.some Jvm.ClassFile.FieldType.int) [.ref (300 : Nat), .int a, .int b, .int x] M (zP (some (.int (nI 0))) (mTw (nI 1) (nI 0) M)) := by
  refine zC_of (by decide) (Nat.le_of_ble_eq_true rfl) (fun X Q hQ hX hl hR hr => ?_)
  refine zV_loc (L' := [.ref (300 : Nat), .int a, .int b, .int x]) rfl ?_
  refine zV_aload_n hX dX11_nearer_0 rfl ?_
  refine zV_iconst hX (v := nI 0) dX11_nearer_1 (by decide) ?_
  refine zV_puti hX dX11_nearer_2 zf_X11_149 zp_9_0 zo300.1 rfl ?_
  refine zV_aload_n hX dX11_nearer_5 rfl ?_
  refine zV_aload_n hX dX11_nearer_6 rfl ?_
  refine zV_iload_n hX dX11_nearer_7 rfl ?_
  refine zV_cV1p hX hR hl dX11_nearer_8 (zc_isMember l G _ n _ ((zw_ne (by omega)).trans hn) hn7 h0) zt_X11_isMember rfl zml_X11_179 zo300.1 ⟨by decide, by decide⟩ (Nat.le_of_ble_eq_true rfl) ?_
  dsimp only [Option.toList, List.cons_append, List.nil_append]
  refine zV_topi (zb false) (by rw [hx]) ?_
  refine zV_if_neB hX (tgt := 18) dX11_nearer_11 (by decide) (fun c_11 => absurd c_11 (by decide)) (fun c_11 => ?_)
  refine zV_iconst hX (v := nI 1) dX11_nearer_14 (by decide) ?_
  refine zV_goto hX (tgt := 19) dX11_nearer_15 (by decide) ?_
  refine zV_iconst hX (v := nI 1) dX11_nearer_19 (by decide) ?_
  refine zV_iconst hX (v := nI 0) dX11_nearer_20 (by decide) ?_
  refine zV_cV3p hX hR hl dX11_nearer_21 (zc_badT0 l G _ _ zw_same (by decide)) zt_X11_bad rfl zml_X11_166 zo300.1 ⟨by decide, by decide⟩ (Nat.le_of_ble_eq_true rfl) ?_
  dsimp only [Option.toList, List.cons_append, List.nil_append]
  refine zV_if_neB hX (tgt := 60) dX11_nearer_24 (by decide) (fun c_24 => ?_) (fun c_24 => absurd c_24 (by decide))
  refine zV_iconst hX (v := nI 0) dX11_nearer_60 (by decide) ?_
  exact zV_reti hX hQ hr (⟨rfl, rfl⟩) dX11_nearer_61
set_option maxHeartbeats 1000000 in
theorem zc_mnearerA (l : Launch) (G : zG) (M : zM) (n j : Nat) (a b : Int32) (hn : M.1 300 9 = nI n) (hn7 : n ≤ 7) (h0 : 1 ≤ n) (hj : j < n) (ha : mIn a (nI 0) (nI 60) = false) : zC l G 5 yX11_nearer cX11_nearer 4 (Option.some Jvm.ClassFile.FieldType.int) [.ref (300 : Nat), .int a, .int b, .int (nI j)] M (zP (some (.int (nI 0))) (mTw (nI 2) (nI 1) M)) := by
  refine zC_of (by decide) (Nat.le_of_ble_eq_true rfl) (fun X Q hQ hX hl hR hr => ?_)
  refine zV_loc (L' := [.ref (300 : Nat), .int a, .int b, .int (nI j)]) rfl ?_
  refine zV_aload_n hX dX11_nearer_0 rfl ?_
  refine zV_iconst hX (v := nI 0) dX11_nearer_1 (by decide) ?_
  refine zV_puti hX dX11_nearer_2 zf_X11_149 zp_9_0 zo300.1 rfl ?_
  refine zV_aload_n hX dX11_nearer_5 rfl ?_
  refine zV_aload_n hX dX11_nearer_6 rfl ?_
  refine zV_iload_n hX dX11_nearer_7 rfl ?_
  refine zV_cV1p hX hR hl dX11_nearer_8 (zc_isMember l G _ n _ ((zw_ne (by omega)).trans hn) hn7 h0) zt_X11_isMember rfl zml_X11_179 zo300.1 ⟨by decide, by decide⟩ (Nat.le_of_ble_eq_true rfl) ?_
  dsimp only [Option.toList, List.cons_append, List.nil_append]
  refine zV_topi (zb true) (by rw [zmem_nI (by omega) (by omega), decide_eq_true hj]) ?_
  refine zV_if_neB hX (tgt := 18) dX11_nearer_11 (by decide) (fun c_11 => ?_) (fun c_11 => absurd c_11 (by decide))
  refine zV_iconst hX (v := nI 0) dX11_nearer_18 (by decide) ?_
  refine zV_iconst hX (v := nI 1) dX11_nearer_19 (by decide) ?_
  refine zV_iconst hX (v := nI 0) dX11_nearer_20 (by decide) ?_
  refine zV_cV3p hX hR hl dX11_nearer_21 (zc_badF0 l G _ _ zw_same) zt_X11_bad rfl zml_X11_166 zo300.1 ⟨by decide, by decide⟩ (Nat.le_of_ble_eq_true rfl) ?_
  dsimp only [Option.toList, List.cons_append, List.nil_append]
  refine zV_if_neB hX (tgt := 60) dX11_nearer_24 (by decide) (fun c_24 => absurd c_24 (by decide)) (fun c_24 => ?_)
  refine zV_aload_n hX dX11_nearer_27 rfl ?_
  refine zV_iload_n hX dX11_nearer_28 rfl ?_
  refine zV_iconst hX (v := nI 0) dX11_nearer_29 (by decide) ?_
  refine zV_bipush hX (v := nI 60) dX11_nearer_30 (by decide) ?_
  refine zV_cS3p hX hR hl dX11_nearer_32 (zc_min l G _ _ _ _) zt_X11_in rfl zml_X11_162 (by decide) (Nat.le_of_ble_eq_true rfl) ?_
  dsimp only [Option.toList, List.cons_append, List.nil_append]
  refine zV_topi (zb false) (by rw [ha]) ?_
  refine zV_if_eqB hX (tgt := 47) dX11_nearer_35 (by decide) (fun c_35 => ?_) (fun c_35 => absurd c_35 (by decide))
  refine zV_iconst hX (v := nI 1) dX11_nearer_47 (by decide) ?_
  refine zV_goto hX (tgt := 52) dX11_nearer_48 (by decide) ?_
  refine zV_iconst hX (v := nI 2) dX11_nearer_52 (by decide) ?_
  refine zV_iconst hX (v := nI 1) dX11_nearer_53 (by decide) ?_
  refine zV_cV3p hX hR hl dX11_nearer_54 (zc_badT1 l G _ _ zw_same (by decide)) zt_X11_bad rfl zml_X11_166 zo300.1 ⟨by decide, by decide⟩ (Nat.le_of_ble_eq_true rfl) ?_
  dsimp only [Option.toList, List.cons_append, List.nil_append]
  refine zV_if_eqB hX (tgt := 62) dX11_nearer_57 (by decide) (fun c_57 => absurd c_57 (by decide)) (fun c_57 => ?_)
  refine zV_iconst hX (v := nI 0) dX11_nearer_60 (by decide) ?_
  exact zV_reti hX hQ hr (⟨rfl, rfl⟩) dX11_nearer_61
set_option maxHeartbeats 1000000 in
theorem zc_mnearerB (l : Launch) (G : zG) (M : zM) (n j : Nat) (a b : Int32) (hn : M.1 300 9 = nI n) (hn7 : n ≤ 7) (h0 : 1 ≤ n) (hj : j < n) (ha : mIn a (nI 0) (nI 60) = true) (hb : mIn b (nI 0) (nI 1) = false) : zC l G 5 yX11_nearer cX11_nearer 4 (Option.some Jvm.ClassFile.FieldType.int) [.ref (300 : Nat), .int a, .int b, .int (nI j)] M (zP (some (.int (nI 0))) (mTw (nI 2) (nI 1) M)) := by
  refine zC_of (by decide) (Nat.le_of_ble_eq_true rfl) (fun X Q hQ hX hl hR hr => ?_)
  refine zV_loc (L' := [.ref (300 : Nat), .int a, .int b, .int (nI j)]) rfl ?_
  refine zV_aload_n hX dX11_nearer_0 rfl ?_
  refine zV_iconst hX (v := nI 0) dX11_nearer_1 (by decide) ?_
  refine zV_puti hX dX11_nearer_2 zf_X11_149 zp_9_0 zo300.1 rfl ?_
  refine zV_aload_n hX dX11_nearer_5 rfl ?_
  refine zV_aload_n hX dX11_nearer_6 rfl ?_
  refine zV_iload_n hX dX11_nearer_7 rfl ?_
  refine zV_cV1p hX hR hl dX11_nearer_8 (zc_isMember l G _ n _ ((zw_ne (by omega)).trans hn) hn7 h0) zt_X11_isMember rfl zml_X11_179 zo300.1 ⟨by decide, by decide⟩ (Nat.le_of_ble_eq_true rfl) ?_
  dsimp only [Option.toList, List.cons_append, List.nil_append]
  refine zV_topi (zb true) (by rw [zmem_nI (by omega) (by omega), decide_eq_true hj]) ?_
  refine zV_if_neB hX (tgt := 18) dX11_nearer_11 (by decide) (fun c_11 => ?_) (fun c_11 => absurd c_11 (by decide))
  refine zV_iconst hX (v := nI 0) dX11_nearer_18 (by decide) ?_
  refine zV_iconst hX (v := nI 1) dX11_nearer_19 (by decide) ?_
  refine zV_iconst hX (v := nI 0) dX11_nearer_20 (by decide) ?_
  refine zV_cV3p hX hR hl dX11_nearer_21 (zc_badF0 l G _ _ zw_same) zt_X11_bad rfl zml_X11_166 zo300.1 ⟨by decide, by decide⟩ (Nat.le_of_ble_eq_true rfl) ?_
  dsimp only [Option.toList, List.cons_append, List.nil_append]
  refine zV_if_neB hX (tgt := 60) dX11_nearer_24 (by decide) (fun c_24 => absurd c_24 (by decide)) (fun c_24 => ?_)
  refine zV_aload_n hX dX11_nearer_27 rfl ?_
  refine zV_iload_n hX dX11_nearer_28 rfl ?_
  refine zV_iconst hX (v := nI 0) dX11_nearer_29 (by decide) ?_
  refine zV_bipush hX (v := nI 60) dX11_nearer_30 (by decide) ?_
  refine zV_cS3p hX hR hl dX11_nearer_32 (zc_min l G _ _ _ _) zt_X11_in rfl zml_X11_162 (by decide) (Nat.le_of_ble_eq_true rfl) ?_
  dsimp only [Option.toList, List.cons_append, List.nil_append]
  refine zV_topi (zb true) (by rw [ha]) ?_
  refine zV_if_eqB hX (tgt := 47) dX11_nearer_35 (by decide) (fun c_35 => absurd c_35 (by decide)) (fun c_35 => ?_)
  refine zV_iload_n hX dX11_nearer_38 rfl ?_
  refine zV_iconst hX (v := nI 0) dX11_nearer_39 (by decide) ?_
  refine zV_iconst hX (v := nI 1) dX11_nearer_40 (by decide) ?_
  refine zV_cS3p hX hR hl dX11_nearer_41 (zc_min l G _ _ _ _) zt_X11_in rfl zml_X11_162 (by decide) (Nat.le_of_ble_eq_true rfl) ?_
  dsimp only [Option.toList, List.cons_append, List.nil_append]
  refine zV_topi (zb false) (by rw [hb]) ?_
  refine zV_if_neB hX (tgt := 51) dX11_nearer_44 (by decide) (fun c_44 => absurd c_44 (by decide)) (fun c_44 => ?_)
  refine zV_iconst hX (v := nI 1) dX11_nearer_47 (by decide) ?_
  refine zV_goto hX (tgt := 52) dX11_nearer_48 (by decide) ?_
  refine zV_iconst hX (v := nI 2) dX11_nearer_52 (by decide) ?_
  refine zV_iconst hX (v := nI 1) dX11_nearer_53 (by decide) ?_
  refine zV_cV3p hX hR hl dX11_nearer_54 (zc_badT1 l G _ _ zw_same (by decide)) zt_X11_bad rfl zml_X11_166 zo300.1 ⟨by decide, by decide⟩ (Nat.le_of_ble_eq_true rfl) ?_
  dsimp only [Option.toList, List.cons_append, List.nil_append]
  refine zV_if_eqB hX (tgt := 62) dX11_nearer_57 (by decide) (fun c_57 => absurd c_57 (by decide)) (fun c_57 => ?_)
  refine zV_iconst hX (v := nI 0) dX11_nearer_60 (by decide) ?_
  exact zV_reti hX hQ hr (⟨rfl, rfl⟩) dX11_nearer_61
set_option maxHeartbeats 1000000 in
theorem zc_mspread (l : Launch) (G : zG) (M : zM) (n t md st : Nat) (mn : Nat → Option Nat) (hn : M.1 300 9 = nI n) (hn7 : n ≤ 7) (h0 : 1 ≤ n) (ht : M.1 300 10 = nI t) (ht2 : t ≤ 2) (hst : st ≤ 60) (hmd2 : md < 2) (hmn : mLn 0 M mn) (hlv : mlV M) (hv : ∀ m, m < 7 → okV (M.1 313 m)) : zC l G 5 yX11_spread cX11_spread 3 (Option.some Jvm.ClassFile.FieldType.int) [.ref (300 : Nat), .int (nI st), .int (nI md)] M (zP (some (.int ((mSpr n (mNg n t md mn st (m0 M))).toInt32))) ((mNg n t md mn st (m0 M)))) := by
  refine zC_of (by decide) (Nat.le_of_ble_eq_true rfl) (fun X Q hQ hX hl hR hr => ?_)
  refine zV_loc (L' := [.ref (300 : Nat), .int (nI st), .int (nI md)]) rfl ?_
  have hmn0 : mLn 0 (m0 M) mn := hmn
  have hlv0 : mlV (m0 M) := fun s i hs hi => by have hq : 3100 ≤ mLc s i := (by unfold mLc; omega); rw [zw_ne (by omega), zw_ne (by omega)]; exact hlv s i hs hi
  have hv0 : ∀ m, m < 7 → okV ((m0 M).1 313 m) := hv
  have hI := mNg_iv (t := t) (md := md) hv0 hlv0 hmn0 hn7 st
  have hng : (mNg n t md mn st (m0 M)).1 300 9 = nI n := hI.1.at ((zw_ne (by omega)).trans hn) (by unfold mFrN; omega)
  obtain ⟨R, hR9⟩ : ∃ R, R = (mNg n t md mn st (m0 M)) := ⟨_, rfl⟩
  rw [← hR9] at hI hng
  obtain ⟨s9, N9, hsq, -⟩ := fb_sub (mMst_fb hI.2 n (Nat.le_refl n)) (mLst_fb hI.2 n (Nat.le_refl n)) (by decide)
  refine zV_aload_n hX dX11_spread_0 rfl ?_
  refine zV_iconst hX (v := nI 0) dX11_spread_1 (by decide) ?_
  refine zV_puti hX dX11_spread_2 zf_X11_149 zp_9_0 zo300.1 rfl ?_
  refine zV_aload_n hX dX11_spread_5 rfl ?_
  refine zV_iload_n hX dX11_spread_6 rfl ?_
  refine zV_iconst hX (v := nI 0) dX11_spread_7 (by decide) ?_
  refine zV_bipush hX (v := nI 60) dX11_spread_8 (by decide) ?_
  refine zV_cS3p hX hR hl dX11_spread_10 (zc_min l G _ _ _ _) zt_X11_in rfl zml_X11_162 (by decide) (Nat.le_of_ble_eq_true rfl) ?_
  dsimp only [Option.toList, List.cons_append, List.nil_append]
  refine zV_topi (zb true) (by rw [mIn_nI (by omega) (by omega) (by omega), decide_eq_false (by omega), Bool.not_false]) ?_
  refine zV_if_eqB hX (tgt := 25) dX11_spread_13 (by decide) (fun c_13 => absurd c_13 (by decide)) (fun c_13 => ?_)
  refine zV_iload_n hX dX11_spread_16 rfl ?_
  refine zV_iconst hX (v := nI 0) dX11_spread_17 (by decide) ?_
  refine zV_iconst hX (v := nI 1) dX11_spread_18 (by decide) ?_
  refine zV_cS3p hX hR hl dX11_spread_19 (zc_min l G _ _ _ _) zt_X11_in rfl zml_X11_162 (by decide) (Nat.le_of_ble_eq_true rfl) ?_
  dsimp only [Option.toList, List.cons_append, List.nil_append]
  refine zV_topi (zb true) (by rw [mIn_nI (by omega) (by omega) (by omega), decide_eq_false (by omega), Bool.not_false]) ?_
  refine zV_if_neB hX (tgt := 29) dX11_spread_22 (by decide) (fun c_22 => ?_) (fun c_22 => absurd c_22 (by decide))
  refine zV_iconst hX (v := nI 0) dX11_spread_29 (by decide) ?_
  refine zV_iconst hX (v := nI 1) dX11_spread_30 (by decide) ?_
  refine zV_iconst hX (v := nI 1) dX11_spread_31 (by decide) ?_
  refine zV_cV3p hX hR hl dX11_spread_32 (zc_badF1 l G _ _ zw_same) zt_X11_bad rfl zml_X11_166 zo300.1 ⟨by decide, by decide⟩ (Nat.le_of_ble_eq_true rfl) ?_
  dsimp only [Option.toList, List.cons_append, List.nil_append]
  refine zV_if_eqB hX (tgt := 40) dX11_spread_35 (by decide) (fun c_35 => ?_) (fun c_35 => absurd c_35 (by decide))
  refine zV_aload_n hX dX11_spread_40 rfl ?_
  refine zV_iload_n hX dX11_spread_41 rfl ?_
  refine zV_iload_n hX dX11_spread_42 rfl ?_
  refine zV_cV2p hX hR hl dX11_spread_43 (zc_mgoes l G (m0 M) n t md st mn ((zw_ne (by omega)).trans hn) hn7 ((zw_ne (by omega)).trans ht) ht2 hmd2 (by omega) hmn0 hlv0 hv0) zt_X11_goes rfl zml_X11_501 zo300.1 ⟨by decide, by decide⟩ (Nat.le_of_ble_eq_true rfl) ?_
  dsimp only [Option.toList, List.cons_append, List.nil_append]
  refine zV_mem hR9.symm ?_
  refine zV_aload_n hX dX11_spread_46 rfl ?_
  refine zV_cV0p hX hR hl dX11_spread_47 (zc_spreadNow l G R n hng hn7 hI.2) zt_X11_spreadNow rfl zml_X11_504 zo300.1 ⟨by decide, by decide⟩ (Nat.le_of_ble_eq_true rfl) ?_
  dsimp only [Option.toList, List.cons_append, List.nil_append]
  refine zV_cS1p hX hR hl dX11_spread_50 (zc_bitsf l G _ _ _ _ hsq) zt_Jxf58ca_floatToIntBits_5c35a rfl zml_X11_152 (by decide) (Nat.le_of_ble_eq_true rfl) ?_
  dsimp only [Option.toList, List.cons_append, List.nil_append]
  exact zV_reti hX hQ hr (⟨by rw [← hR9], hR9⟩) dX11_spread_53
set_option maxHeartbeats 1000000 in
theorem zc_mspreadA (l : Launch) (G : zG) (M : zM) (a b : Int32) (ha : mIn a (nI 0) (nI 60) = false) : zC l G 5 yX11_spread cX11_spread 3 (Option.some Jvm.ClassFile.FieldType.int) [.ref (300 : Nat), .int a, .int b] M (zP (some (.int (nI 0))) (mTw (nI 1) (nI 1) M)) := by
  refine zC_of (by decide) (Nat.le_of_ble_eq_true rfl) (fun X Q hQ hX hl hR hr => ?_)
  refine zV_loc (L' := [.ref (300 : Nat), .int a, .int b]) rfl ?_
  refine zV_aload_n hX dX11_spread_0 rfl ?_
  refine zV_iconst hX (v := nI 0) dX11_spread_1 (by decide) ?_
  refine zV_puti hX dX11_spread_2 zf_X11_149 zp_9_0 zo300.1 rfl ?_
  refine zV_aload_n hX dX11_spread_5 rfl ?_
  refine zV_iload_n hX dX11_spread_6 rfl ?_
  refine zV_iconst hX (v := nI 0) dX11_spread_7 (by decide) ?_
  refine zV_bipush hX (v := nI 60) dX11_spread_8 (by decide) ?_
  refine zV_cS3p hX hR hl dX11_spread_10 (zc_min l G _ _ _ _) zt_X11_in rfl zml_X11_162 (by decide) (Nat.le_of_ble_eq_true rfl) ?_
  dsimp only [Option.toList, List.cons_append, List.nil_append]
  refine zV_topi (zb false) (by rw [ha]) ?_
  refine zV_if_eqB hX (tgt := 25) dX11_spread_13 (by decide) (fun c_13 => ?_) (fun c_13 => absurd c_13 (by decide))
  refine zV_iconst hX (v := nI 1) dX11_spread_25 (by decide) ?_
  refine zV_goto hX (tgt := 30) dX11_spread_26 (by decide) ?_
  refine zV_iconst hX (v := nI 1) dX11_spread_30 (by decide) ?_
  refine zV_iconst hX (v := nI 1) dX11_spread_31 (by decide) ?_
  refine zV_cV3p hX hR hl dX11_spread_32 (zc_badT1 l G _ _ zw_same (by decide)) zt_X11_bad rfl zml_X11_166 zo300.1 ⟨by decide, by decide⟩ (Nat.le_of_ble_eq_true rfl) ?_
  dsimp only [Option.toList, List.cons_append, List.nil_append]
  refine zV_if_eqB hX (tgt := 40) dX11_spread_35 (by decide) (fun c_35 => absurd c_35 (by decide)) (fun c_35 => ?_)
  refine zV_iconst hX (v := nI 0) dX11_spread_38 (by decide) ?_
  exact zV_reti hX hQ hr (⟨rfl, rfl⟩) dX11_spread_39
set_option maxHeartbeats 1000000 in
theorem zc_mspreadB (l : Launch) (G : zG) (M : zM) (a b : Int32) (ha : mIn a (nI 0) (nI 60) = true) (hb : mIn b (nI 0) (nI 1) = false) : zC l G 5 yX11_spread cX11_spread 3 (Option.some Jvm.ClassFile.FieldType.int) [.ref (300 : Nat), .int a, .int b] M (zP (some (.int (nI 0))) (mTw (nI 1) (nI 1) M)) := by
  refine zC_of (by decide) (Nat.le_of_ble_eq_true rfl) (fun X Q hQ hX hl hR hr => ?_)
  refine zV_loc (L' := [.ref (300 : Nat), .int a, .int b]) rfl ?_
  refine zV_aload_n hX dX11_spread_0 rfl ?_
  refine zV_iconst hX (v := nI 0) dX11_spread_1 (by decide) ?_
  refine zV_puti hX dX11_spread_2 zf_X11_149 zp_9_0 zo300.1 rfl ?_
  refine zV_aload_n hX dX11_spread_5 rfl ?_
  refine zV_iload_n hX dX11_spread_6 rfl ?_
  refine zV_iconst hX (v := nI 0) dX11_spread_7 (by decide) ?_
  refine zV_bipush hX (v := nI 60) dX11_spread_8 (by decide) ?_
  refine zV_cS3p hX hR hl dX11_spread_10 (zc_min l G _ _ _ _) zt_X11_in rfl zml_X11_162 (by decide) (Nat.le_of_ble_eq_true rfl) ?_
  dsimp only [Option.toList, List.cons_append, List.nil_append]
  refine zV_topi (zb true) (by rw [ha]) ?_
  refine zV_if_eqB hX (tgt := 25) dX11_spread_13 (by decide) (fun c_13 => absurd c_13 (by decide)) (fun c_13 => ?_)
  refine zV_iload_n hX dX11_spread_16 rfl ?_
  refine zV_iconst hX (v := nI 0) dX11_spread_17 (by decide) ?_
  refine zV_iconst hX (v := nI 1) dX11_spread_18 (by decide) ?_
  refine zV_cS3p hX hR hl dX11_spread_19 (zc_min l G _ _ _ _) zt_X11_in rfl zml_X11_162 (by decide) (Nat.le_of_ble_eq_true rfl) ?_
  dsimp only [Option.toList, List.cons_append, List.nil_append]
  refine zV_topi (zb false) (by rw [hb]) ?_
  refine zV_if_neB hX (tgt := 29) dX11_spread_22 (by decide) (fun c_22 => absurd c_22 (by decide)) (fun c_22 => ?_)
  refine zV_iconst hX (v := nI 1) dX11_spread_25 (by decide) ?_
  refine zV_goto hX (tgt := 30) dX11_spread_26 (by decide) ?_
  refine zV_iconst hX (v := nI 1) dX11_spread_30 (by decide) ?_
  refine zV_iconst hX (v := nI 1) dX11_spread_31 (by decide) ?_
  refine zV_cV3p hX hR hl dX11_spread_32 (zc_badT1 l G _ _ zw_same (by decide)) zt_X11_bad rfl zml_X11_166 zo300.1 ⟨by decide, by decide⟩ (Nat.le_of_ble_eq_true rfl) ?_
  dsimp only [Option.toList, List.cons_append, List.nil_append]
  refine zV_if_eqB hX (tgt := 40) dX11_spread_35 (by decide) (fun c_35 => absurd c_35 (by decide)) (fun c_35 => ?_)
  refine zV_iconst hX (v := nI 0) dX11_spread_38 (by decide) ?_
  exact zV_reti hX hQ hr (⟨rfl, rfl⟩) dX11_spread_39
def mDs (M : zM) : Nat → UInt64
  | 0 => FP.dconst0
  | k + 1 => FP.dadd (mDs M k) (if mLiar M k then FP.dconst0 else FP.f2d (M.1 360 k).toUInt32)
theorem mDs_db {n : Nat} {M : zM} (h : mHb n M) : ∀ k, k ≤ n → n ≤ 7 → db k (mDs M k)
  | 0, _, _ => db_0
  | k + 1, hk, hn => by
    unfold mDs
    split
    · exact db_z (mDs_db h k (by omega) hn) (by omega)
    · exact db_f (mDs_db h k (by omega) hn) (h k (by omega)) (by omega)
set_option maxHeartbeats 1000000 in
theorem zc_mtotal (l : Launch) (G : zG) (M : zM) (n t md st : Nat) (mn : Nat → Option Nat) (hn : M.1 300 9 = nI n) (hn7 : n ≤ 7) (h0 : 1 ≤ n) (ht : M.1 300 10 = nI t) (ht2 : t ≤ 2) (hst : st ≤ 60) (hmd2 : md < 2) (hmn : mLn 0 M mn) (hlv : mlV M) (hv : ∀ m, m < 7 → okV (M.1 313 m)) : zC l G 5 yX11_total cX11_total 6 (Option.some Jvm.ClassFile.FieldType.long) [.ref (300 : Nat), .int (nI st), .int (nI md)] M (zP (some (.long ((mDs (mNg n t md mn st (m0 M)) n).toInt64))) ((mNg n t md mn st (m0 M)))) := by
  refine zC_of (by decide) (Nat.le_of_ble_eq_true rfl) (fun X Q hQ hX hl hR hr => ?_)
  refine zV_loc (L' := [.ref (300 : Nat), .int (nI st), .int (nI md), .null, .null, .null]) rfl ?_
  have hmn0 : mLn 0 (m0 M) mn := hmn
  have hlv0 : mlV (m0 M) := fun s i hs hi => by have hq : 3100 ≤ mLc s i := (by unfold mLc; omega); rw [zw_ne (by omega), zw_ne (by omega)]; exact hlv s i hs hi
  have hv0 : ∀ m, m < 7 → okV ((m0 M).1 313 m) := hv
  have hI := mNg_iv (t := t) (md := md) hv0 hlv0 hmn0 hn7 st
  have hng : (mNg n t md mn st (m0 M)).1 300 9 = nI n := hI.1.at ((zw_ne (by omega)).trans hn) (by unfold mFrN; omega)
  obtain ⟨R, hR9⟩ : ∃ R, R = (mNg n t md mn st (m0 M)) := ⟨_, rfl⟩
  rw [← hR9] at hI hng
  have L51 : ∀ (f9 k : Nat), n - k < f9 → k ≤ n → zV G X Q 6 0 0 51 [.ref (300 : Nat), .int (nI st), .int (nI md), .double (mDs R k), .null, .int (nI k)] [] R := by
    intro f9
    induction f9 with
    | zero => intro k hk1 hk2; exact absurd hk1 (Nat.not_lt_zero _)
    | succ f9 ih =>
      intro k hk1 hk2
      refine zV_iload hX dX11_total_51 rfl ?_
      refine zV_aload_n hX dX11_total_53 rfl ?_
      refine zV_geti hX dX11_total_54 zf_X11_20 zo300.1 rfl (hng) ?_
      refine zV_icmp_geN hX (tgt := 90) dX11_total_57 (by decide) ⟨by omega, by omega⟩ (fun c_57 => ?_) (fun c_57 => ?_)
      · have hkn : k = n := by omega
        subst hkn
        obtain ⟨s9, N9, hdq, -⟩ := mDs_db hI.2 k (Nat.le_refl k) hn7
        refine zV_dload_n hX dX11_total_90 rfl ?_
        refine zV_cS1p hX hR hl dX11_total_91 (zc_bitsd l G _ _ _ _ hdq) zt_Jxe99ae_doubleToLongBits_ccdee rfl zml_X11_508 (by decide) (Nat.le_of_ble_eq_true rfl) ?_
        dsimp only [Option.toList, List.cons_append, List.nil_append]
        exact zV_retl hX hQ hr (⟨by rw [← hR9], hR9⟩) dX11_total_94
      · refine zV_dload_n hX dX11_total_60 rfl ?_
        refine zV_aload_n hX dX11_total_61 rfl ?_
        refine zV_iload hX dX11_total_62 rfl ?_
        refine zV_cV1p hX hR hl dX11_total_64 (zc_misLiar l G R k (by omega)) zt_X11_isLiar rfl zml_X11_295 zo300.1 ⟨by decide, by decide⟩ (Nat.le_of_ble_eq_true rfl) ?_
        dsimp only [Option.toList, List.cons_append, List.nil_append]
        refine zV_if_eqB hX (tgt := 74) dX11_total_67 (by decide) (fun c_67 => ?_) (fun c_67 => ?_)
        · have e9 : (mDs R (k + 1)) = FP.dadd (mDs R k) (FP.f2d (R.1 360 k).toUInt32) := by rw [mDs, if_neg (by rw [c_67]; decide)]
          have hd9 := mDs_db hI.2 (k + 1) (by omega) hn7
          rw [e9] at hd9
          have hf9 := hI.2 k (by omega)
          have hn9 : vf_n64 (FP.f2d (R.1 360 k).toUInt32) := by obtain ⟨s8, N8, h81, -⟩ := hf9; exact dq_n (dq_f2d h81)
          refine zV_aload_n hX dX11_total_74 rfl ?_
          refine zV_geta hX dX11_total_75 zf_X11_129 zo300.1 rfl ?_
          refine zV_iload hX dX11_total_78 rfl ?_
          refine zV_fald hX dX11_total_80 (zo300.a 59 rfl) (rfl) ⟨by omega, by omega⟩ (rfl) ?_
          refine zV_f2d hX dX11_total_81 (hn9) ?_
          refine zV_dadd hX dX11_total_82 (db_n hd9) ?_
          refine zV_dstore_n hX dX11_total_83 (by decide) ?_
          dsimp only [zst1, zst2, zclr, zc2]
          refine zV_iincN hX (b := 1) dX11_total_84 rfl (by decide) ?_
          dsimp only [zst1, zst2, zclr, zc2]
          refine zV_goto hX (tgt := 51) dX11_total_87 (by decide) ?_
          have h8 := ih (k + 1) (by omega) (by omega)
          rw [e9] at h8
          exact h8
        · have e9 : (mDs R (k + 1)) = FP.dadd (mDs R k) FP.dconst0 := by rw [mDs, if_pos c_67]
          have hd9 := mDs_db hI.2 (k + 1) (by omega) hn7
          rw [e9] at hd9
          refine zV_dconst0 hX dX11_total_70 ?_
          refine zV_goto hX (tgt := 82) dX11_total_71 (by decide) ?_
          refine zV_dadd hX dX11_total_82 (db_n hd9) ?_
          refine zV_dstore_n hX dX11_total_83 (by decide) ?_
          dsimp only [zst1, zst2, zclr, zc2]
          refine zV_iincN hX (b := 1) dX11_total_84 rfl (by decide) ?_
          dsimp only [zst1, zst2, zclr, zc2]
          refine zV_goto hX (tgt := 51) dX11_total_87 (by decide) ?_
          have h8 := ih (k + 1) (by omega) (by omega)
          rw [e9] at h8
          exact h8
  refine zV_aload_n hX dX11_total_0 rfl ?_
  refine zV_iconst hX (v := nI 0) dX11_total_1 (by decide) ?_
  refine zV_puti hX dX11_total_2 zf_X11_149 zp_9_0 zo300.1 rfl ?_
  refine zV_aload_n hX dX11_total_5 rfl ?_
  refine zV_iload_n hX dX11_total_6 rfl ?_
  refine zV_iconst hX (v := nI 0) dX11_total_7 (by decide) ?_
  refine zV_bipush hX (v := nI 60) dX11_total_8 (by decide) ?_
  refine zV_cS3p hX hR hl dX11_total_10 (zc_min l G _ _ _ _) zt_X11_in rfl zml_X11_162 (by decide) (Nat.le_of_ble_eq_true rfl) ?_
  dsimp only [Option.toList, List.cons_append, List.nil_append]
  refine zV_topi (zb true) (by rw [mIn_nI (by omega) (by omega) (by omega), decide_eq_false (by omega), Bool.not_false]) ?_
  refine zV_if_eqB hX (tgt := 25) dX11_total_13 (by decide) (fun c_13 => absurd c_13 (by decide)) (fun c_13 => ?_)
  refine zV_iload_n hX dX11_total_16 rfl ?_
  refine zV_iconst hX (v := nI 0) dX11_total_17 (by decide) ?_
  refine zV_iconst hX (v := nI 1) dX11_total_18 (by decide) ?_
  refine zV_cS3p hX hR hl dX11_total_19 (zc_min l G _ _ _ _) zt_X11_in rfl zml_X11_162 (by decide) (Nat.le_of_ble_eq_true rfl) ?_
  dsimp only [Option.toList, List.cons_append, List.nil_append]
  refine zV_topi (zb true) (by rw [mIn_nI (by omega) (by omega) (by omega), decide_eq_false (by omega), Bool.not_false]) ?_
  refine zV_if_neB hX (tgt := 29) dX11_total_22 (by decide) (fun c_22 => ?_) (fun c_22 => absurd c_22 (by decide))
  refine zV_iconst hX (v := nI 0) dX11_total_29 (by decide) ?_
  refine zV_iconst hX (v := nI 1) dX11_total_30 (by decide) ?_
  refine zV_iconst hX (v := nI 1) dX11_total_31 (by decide) ?_
  refine zV_cV3p hX hR hl dX11_total_32 (zc_badF1 l G _ _ zw_same) zt_X11_bad rfl zml_X11_166 zo300.1 ⟨by decide, by decide⟩ (Nat.le_of_ble_eq_true rfl) ?_
  dsimp only [Option.toList, List.cons_append, List.nil_append]
  refine zV_if_eqB hX (tgt := 40) dX11_total_35 (by decide) (fun c_35 => ?_) (fun c_35 => absurd c_35 (by decide))
  refine zV_aload_n hX dX11_total_40 rfl ?_
  refine zV_iload_n hX dX11_total_41 rfl ?_
  refine zV_iload_n hX dX11_total_42 rfl ?_
  refine zV_cV2p hX hR hl dX11_total_43 (zc_mgoes l G (m0 M) n t md st mn ((zw_ne (by omega)).trans hn) hn7 ((zw_ne (by omega)).trans ht) ht2 hmd2 (by omega) hmn0 hlv0 hv0) zt_X11_goes rfl zml_X11_501 zo300.1 ⟨by decide, by decide⟩ (Nat.le_of_ble_eq_true rfl) ?_
  dsimp only [Option.toList, List.cons_append, List.nil_append]
  refine zV_mem hR9.symm ?_
  refine zV_dconst0 hX dX11_total_46 ?_
  refine zV_dstore_n hX dX11_total_47 (by decide) ?_
  dsimp only [zst1, zst2, zclr, zc2]
  refine zV_iconst hX (v := nI 0) dX11_total_48 (by decide) ?_
  refine zV_istore hX dX11_total_49 (by decide) ?_
  dsimp only [zst1, zst2, zclr, zc2]
  exact L51 (n + 1) 0 (by omega) (by omega)
set_option maxHeartbeats 1000000 in
theorem zc_mtotalA (l : Launch) (G : zG) (M : zM) (a b : Int32) (ha : mIn a (nI 0) (nI 60) = false) : zC l G 5 yX11_total cX11_total 6 (Option.some Jvm.ClassFile.FieldType.long) [.ref (300 : Nat), .int a, .int b] M (zP (some (.long 0)) (mTw (nI 1) (nI 1) M)) := by
  refine zC_of (by decide) (Nat.le_of_ble_eq_true rfl) (fun X Q hQ hX hl hR hr => ?_)
  refine zV_loc (L' := [.ref (300 : Nat), .int a, .int b, .null, .null, .null]) rfl ?_
  refine zV_aload_n hX dX11_total_0 rfl ?_
  refine zV_iconst hX (v := nI 0) dX11_total_1 (by decide) ?_
  refine zV_puti hX dX11_total_2 zf_X11_149 zp_9_0 zo300.1 rfl ?_
  refine zV_aload_n hX dX11_total_5 rfl ?_
  refine zV_iload_n hX dX11_total_6 rfl ?_
  refine zV_iconst hX (v := nI 0) dX11_total_7 (by decide) ?_
  refine zV_bipush hX (v := nI 60) dX11_total_8 (by decide) ?_
  refine zV_cS3p hX hR hl dX11_total_10 (zc_min l G _ _ _ _) zt_X11_in rfl zml_X11_162 (by decide) (Nat.le_of_ble_eq_true rfl) ?_
  dsimp only [Option.toList, List.cons_append, List.nil_append]
  refine zV_topi (zb false) (by rw [ha]) ?_
  refine zV_if_eqB hX (tgt := 25) dX11_total_13 (by decide) (fun c_13 => ?_) (fun c_13 => absurd c_13 (by decide))
  refine zV_iconst hX (v := nI 1) dX11_total_25 (by decide) ?_
  refine zV_goto hX (tgt := 30) dX11_total_26 (by decide) ?_
  refine zV_iconst hX (v := nI 1) dX11_total_30 (by decide) ?_
  refine zV_iconst hX (v := nI 1) dX11_total_31 (by decide) ?_
  refine zV_cV3p hX hR hl dX11_total_32 (zc_badT1 l G _ _ zw_same (by decide)) zt_X11_bad rfl zml_X11_166 zo300.1 ⟨by decide, by decide⟩ (Nat.le_of_ble_eq_true rfl) ?_
  dsimp only [Option.toList, List.cons_append, List.nil_append]
  refine zV_if_eqB hX (tgt := 40) dX11_total_35 (by decide) (fun c_35 => absurd c_35 (by decide)) (fun c_35 => ?_)
  refine zV_lconst hX (v := 0) dX11_total_38 rfl ?_
  exact zV_retl hX hQ hr (⟨rfl, rfl⟩) dX11_total_39
set_option maxHeartbeats 1000000 in
theorem zc_mtotalB (l : Launch) (G : zG) (M : zM) (a b : Int32) (ha : mIn a (nI 0) (nI 60) = true) (hb : mIn b (nI 0) (nI 1) = false) : zC l G 5 yX11_total cX11_total 6 (Option.some Jvm.ClassFile.FieldType.long) [.ref (300 : Nat), .int a, .int b] M (zP (some (.long 0)) (mTw (nI 1) (nI 1) M)) := by
  refine zC_of (by decide) (Nat.le_of_ble_eq_true rfl) (fun X Q hQ hX hl hR hr => ?_)
  refine zV_loc (L' := [.ref (300 : Nat), .int a, .int b, .null, .null, .null]) rfl ?_
  refine zV_aload_n hX dX11_total_0 rfl ?_
  refine zV_iconst hX (v := nI 0) dX11_total_1 (by decide) ?_
  refine zV_puti hX dX11_total_2 zf_X11_149 zp_9_0 zo300.1 rfl ?_
  refine zV_aload_n hX dX11_total_5 rfl ?_
  refine zV_iload_n hX dX11_total_6 rfl ?_
  refine zV_iconst hX (v := nI 0) dX11_total_7 (by decide) ?_
  refine zV_bipush hX (v := nI 60) dX11_total_8 (by decide) ?_
  refine zV_cS3p hX hR hl dX11_total_10 (zc_min l G _ _ _ _) zt_X11_in rfl zml_X11_162 (by decide) (Nat.le_of_ble_eq_true rfl) ?_
  dsimp only [Option.toList, List.cons_append, List.nil_append]
  refine zV_topi (zb true) (by rw [ha]) ?_
  refine zV_if_eqB hX (tgt := 25) dX11_total_13 (by decide) (fun c_13 => absurd c_13 (by decide)) (fun c_13 => ?_)
  refine zV_iload_n hX dX11_total_16 rfl ?_
  refine zV_iconst hX (v := nI 0) dX11_total_17 (by decide) ?_
  refine zV_iconst hX (v := nI 1) dX11_total_18 (by decide) ?_
  refine zV_cS3p hX hR hl dX11_total_19 (zc_min l G _ _ _ _) zt_X11_in rfl zml_X11_162 (by decide) (Nat.le_of_ble_eq_true rfl) ?_
  dsimp only [Option.toList, List.cons_append, List.nil_append]
  refine zV_topi (zb false) (by rw [hb]) ?_
  refine zV_if_neB hX (tgt := 29) dX11_total_22 (by decide) (fun c_22 => absurd c_22 (by decide)) (fun c_22 => ?_)
  refine zV_iconst hX (v := nI 1) dX11_total_25 (by decide) ?_
  refine zV_goto hX (tgt := 30) dX11_total_26 (by decide) ?_
  refine zV_iconst hX (v := nI 1) dX11_total_30 (by decide) ?_
  refine zV_iconst hX (v := nI 1) dX11_total_31 (by decide) ?_
  refine zV_cV3p hX hR hl dX11_total_32 (zc_badT1 l G _ _ zw_same (by decide)) zt_X11_bad rfl zml_X11_166 zo300.1 ⟨by decide, by decide⟩ (Nat.le_of_ble_eq_true rfl) ?_
  dsimp only [Option.toList, List.cons_append, List.nil_append]
  refine zV_if_eqB hX (tgt := 40) dX11_total_35 (by decide) (fun c_35 => absurd c_35 (by decide)) (fun c_35 => ?_)
  refine zV_lconst hX (v := 0) dX11_total_38 rfl ?_
  exact zV_retl hX hQ hr (⟨rfl, rfl⟩) dX11_total_39
