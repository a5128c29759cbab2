set_option maxHeartbeats 1000000 in
theorem zc_mechoes (l : Launch) (G : zG) (M : zM) (n t j k : Nat) (mn : Nat → Option Nat) (hn : M.1 300 9 = nI n) (hn7 : n ≤ 7) (h0 : 1 ≤ n) (ht : M.1 300 10 = nI t) (ht2 : t ≤ 2) (hj : j < n) (hk : k ≤ 4) (hmn : mLn 0 M mn) : zC l G 4 yX11_echoes cX11_echoes 3 (Option.some Jvm.ClassFile.FieldType.int) [.ref (300 : Nat), .int (nI j), .int (nI k)] M (zP (some (.int (if k < 3 then mAcO (mEcho n j t mn 4 (m0 M)) n k else if k = 3 then (mEcho n j t mn 4 (m0 M)).1 300 47 else (mEcho n j t mn 4 (m0 M)).1 300 48))) ((mEcho n j t mn 4 (m0 M)))) := by
  refine zC_of (by decide) (Nat.le_of_ble_eq_true rfl) (fun X Q hQ hX hl hR hr => ?_)
  refine zV_loc (L' := [.ref (300 : Nat), .int (nI j), .int (nI k)]) rfl ?_
  have hmn0 : mLn 0 (m0 M) mn := hmn
  have hE := mEcho_E hn7 j t mn 4 (m0 M)
  have h9 : (mEcho n j t mn 4 (m0 M)).1 300 9 = nI n := hE.at ((zw_ne (by omega)).trans hn) (by unfold mFrE; omega)
  obtain ⟨R, hR9⟩ : ∃ R, R = (mEcho n j t mn 4 (m0 M)) := ⟨_, rfl⟩
  rw [← hR9] at hE h9
  refine zV_aload_n hX dX11_echoes_0 rfl ?_
  refine zV_iconst hX (v := nI 0) dX11_echoes_1 (by decide) ?_
  refine zV_puti hX dX11_echoes_2 zf_X11_149 zp_9_0 zo300.1 rfl ?_
  refine zV_aload_n hX dX11_echoes_5 rfl ?_
  refine zV_aload_n hX dX11_echoes_6 rfl ?_
  refine zV_iload_n hX dX11_echoes_7 rfl ?_
  refine zV_cV1p hX hR hl dX11_echoes_8 (zc_isMember l G _ n _ ((zw_ne (by omega)).trans hn) hn7 h0) zt_X11_isMember rfl zml_X11_179 zo300.1 ⟨by decide, by decide⟩ (Nat.le_of_ble_eq_true rfl) ?_
  dsimp only [Option.toList, List.cons_append, List.nil_append]
  refine zV_topi (zb true) (by rw [zmem_nI (by omega) (by omega), decide_eq_true hj]) ?_
  refine zV_if_neB hX (tgt := 18) dX11_echoes_11 (by decide) (fun c_11 => ?_) (fun c_11 => absurd c_11 (by decide))
  refine zV_iconst hX (v := nI 0) dX11_echoes_18 (by decide) ?_
  refine zV_iconst hX (v := nI 1) dX11_echoes_19 (by decide) ?_
  refine zV_iconst hX (v := nI 0) dX11_echoes_20 (by decide) ?_
  refine zV_cV3p hX hR hl dX11_echoes_21 (zc_badF0 l G _ _ zw_same) zt_X11_bad rfl zml_X11_166 zo300.1 ⟨by decide, by decide⟩ (Nat.le_of_ble_eq_true rfl) ?_
  dsimp only [Option.toList, List.cons_append, List.nil_append]
  refine zV_if_neB hX (tgt := 50) dX11_echoes_24 (by decide) (fun c_24 => absurd c_24 (by decide)) (fun c_24 => ?_)
  refine zV_aload_n hX dX11_echoes_27 rfl ?_
  refine zV_iload_n hX dX11_echoes_28 rfl ?_
  refine zV_iconst hX (v := nI 0) dX11_echoes_29 (by decide) ?_
  refine zV_iconst hX (v := nI 4) dX11_echoes_30 (by decide) ?_
  refine zV_cS3p hX hR hl dX11_echoes_31 (zc_min l G _ _ _ _) zt_X11_in rfl zml_X11_162 (by decide) (Nat.le_of_ble_eq_true rfl) ?_
  dsimp only [Option.toList, List.cons_append, List.nil_append]
  refine zV_topi (zb true) (by rw [mIn_nI (by omega) (by omega) (by omega), decide_eq_false (by omega), Bool.not_false]) ?_
  refine zV_if_neB hX (tgt := 41) dX11_echoes_34 (by decide) (fun c_34 => ?_) (fun c_34 => absurd c_34 (by decide))
  refine zV_iconst hX (v := nI 0) dX11_echoes_41 (by decide) ?_
  refine zV_iconst hX (v := nI 2) dX11_echoes_42 (by decide) ?_
  refine zV_iconst hX (v := nI 1) dX11_echoes_43 (by decide) ?_
  refine zV_cV3p hX hR hl dX11_echoes_44 (zc_badF1 l G _ _ zw_same) zt_X11_bad rfl zml_X11_166 zo300.1 ⟨by decide, by decide⟩ (Nat.le_of_ble_eq_true rfl) ?_
  dsimp only [Option.toList, List.cons_append, List.nil_append]
  refine zV_if_eqB hX (tgt := 52) dX11_echoes_47 (by decide) (fun c_47 => ?_) (fun c_47 => absurd c_47 (by decide))
  refine zV_aload_n hX dX11_echoes_52 rfl ?_
  refine zV_iload_n hX dX11_echoes_53 rfl ?_
  refine zV_cV1p hX hR hl dX11_echoes_54 (zc_goesRound l G (m0 M) n j t mn ((zw_ne (by omega)).trans hn) hn7 ((zw_ne (by omega)).trans ht) ht2 hj hmn0) zt_X11_goesRound rfl zml_X11_472 zo300.1 ⟨by decide, by decide⟩ (Nat.le_of_ble_eq_true rfl) ?_
  dsimp only [Option.toList, List.cons_append, List.nil_append]
  refine zV_mem hR9.symm ?_
  refine zV_iload_n hX dX11_echoes_57 rfl ?_
  refine zV_iconst hX (v := nI 3) dX11_echoes_58 (by decide) ?_
  refine zV_icmp_geN hX (tgt := 70) dX11_echoes_59 (by decide) ⟨by omega, by omega⟩ (fun c_59 => ?_) (fun c_59 => ?_)
  · refine zV_iload_n hX dX11_echoes_70 rfl ?_
    refine zV_iconst hX (v := nI 3) dX11_echoes_71 (by decide) ?_
    refine zV_icmp_neN hX (tgt := 82) dX11_echoes_72 (by decide) ⟨by omega, by omega⟩ (fun c_72 => ?_) (fun c_72 => ?_)
    · refine zV_aload_n hX dX11_echoes_82 rfl ?_
      refine zV_geti hX (x := R.1 300 48) dX11_echoes_83 zf_X11_444 zo300.1 rfl (rfl) ?_
      exact zV_reti hX hQ hr (⟨by first | (rw [← hR9, if_pos (by omega)]; done) | (rw [← hR9, if_neg (by omega), if_pos (by omega)]; done) | (rw [← hR9, if_neg (by omega), if_neg (by omega)]; done), hR9⟩) dX11_echoes_86
    · refine zV_aload_n hX dX11_echoes_75 rfl ?_
      refine zV_geti hX (x := R.1 300 47) dX11_echoes_76 zf_X11_441 zo300.1 rfl (rfl) ?_
      refine zV_goto hX (tgt := 86) dX11_echoes_79 (by decide) ?_
      exact zV_reti hX hQ hr (⟨by first | (rw [← hR9, if_pos (by omega)]; done) | (rw [← hR9, if_neg (by omega), if_pos (by omega)]; done) | (rw [← hR9, if_neg (by omega), if_neg (by omega)]; done), hR9⟩) dX11_echoes_86
  · refine zV_aload_n hX dX11_echoes_62 rfl ?_
    refine zV_iload_n hX dX11_echoes_63 rfl ?_
    refine zV_cV1p hX hR hl dX11_echoes_64 (zc_acceptedOf l G R n k h9 hn7 (by omega)) zt_X11_acceptedOf rfl zml_X11_475 zo300.1 ⟨by decide, by decide⟩ (Nat.le_of_ble_eq_true rfl) ?_
    dsimp only [Option.toList, List.cons_append, List.nil_append]
    refine zV_goto hX (tgt := 86) dX11_echoes_67 (by decide) ?_
    exact zV_reti hX hQ hr (⟨by first | (rw [← hR9, if_pos (by omega)]; done) | (rw [← hR9, if_neg (by omega), if_pos (by omega)]; done) | (rw [← hR9, if_neg (by omega), if_neg (by omega)]; done), hR9⟩) dX11_echoes_86
set_option maxHeartbeats 1000000 in
theorem zc_mechoesX (l : Launch) (G : zG) (M : zM) (n : Nat) (x k : Int32) (hn : M.1 300 9 = nI n) (hn7 : n ≤ 7) (h0 : 1 ≤ n) (hx : zmem x n = false) : zC l G 4 yX11_echoes cX11_echoes 3 (Option.some Jvm.ClassFile.FieldType.int) [.ref (300 : Nat), .int x, .int k] M (zP (some (.int (nI 0))) (mTw (nI 1) (nI 0) M)) := by
  refine zC_of (by decide) (Nat.le_of_ble_eq_true rfl) (fun X Q hQ hX hl hR hr => ?_)
  refine zV_loc (L' := [.ref (300 : Nat), .int x, .int k]) rfl ?_
  refine zV_aload_n hX dX11_echoes_0 rfl ?_
  refine zV_iconst hX (v := nI 0) dX11_echoes_1 (by decide) ?_
  refine zV_puti hX dX11_echoes_2 zf_X11_149 zp_9_0 zo300.1 rfl ?_
  refine zV_aload_n hX dX11_echoes_5 rfl ?_
  refine zV_aload_n hX dX11_echoes_6 rfl ?_
  refine zV_iload_n hX dX11_echoes_7 rfl ?_
  refine zV_cV1p hX hR hl dX11_echoes_8 (zc_isMember l G _ n _ ((zw_ne (by omega)).trans hn) hn7 h0) zt_X11_isMember rfl zml_X11_179 zo300.1 ⟨by decide, by decide⟩ (Nat.le_of_ble_eq_true rfl) ?_
  dsimp only [Option.toList, List.cons_append, List.nil_append]
  refine zV_topi (zb false) (by rw [hx]) ?_
  refine zV_if_neB hX (tgt := 18) dX11_echoes_11 (by decide) (fun c_11 => absurd c_11 (by decide)) (fun c_11 => ?_)
  refine zV_iconst hX (v := nI 1) dX11_echoes_14 (by decide) ?_
  refine zV_goto hX (tgt := 19) dX11_echoes_15 (by decide) ?_
  refine zV_iconst hX (v := nI 1) dX11_echoes_19 (by decide) ?_
  refine zV_iconst hX (v := nI 0) dX11_echoes_20 (by decide) ?_
  refine zV_cV3p hX hR hl dX11_echoes_21 (zc_badT0 l G _ _ zw_same (by decide)) zt_X11_bad rfl zml_X11_166 zo300.1 ⟨by decide, by decide⟩ (Nat.le_of_ble_eq_true rfl) ?_
  dsimp only [Option.toList, List.cons_append, List.nil_append]
  refine zV_if_neB hX (tgt := 50) dX11_echoes_24 (by decide) (fun c_24 => ?_) (fun c_24 => absurd c_24 (by decide))
  refine zV_iconst hX (v := nI 0) dX11_echoes_50 (by decide) ?_
  exact zV_reti hX hQ hr (⟨rfl, rfl⟩) dX11_echoes_51
set_option maxHeartbeats 1000000 in
theorem zc_mechoesK (l : Launch) (G : zG) (M : zM) (n j : Nat) (k : Int32) (hn : M.1 300 9 = nI n) (hn7 : n ≤ 7) (h0 : 1 ≤ n) (hj : j < n) (hk : mIn k (nI 0) (nI 4) = false) : zC l G 4 yX11_echoes cX11_echoes 3 (Option.some Jvm.ClassFile.FieldType.int) [.ref (300 : Nat), .int (nI j), .int k] M (zP (some (.int (nI 0))) (mTw (nI 2) (nI 1) M)) := by
  refine zC_of (by decide) (Nat.le_of_ble_eq_true rfl) (fun X Q hQ hX hl hR hr => ?_)
  refine zV_loc (L' := [.ref (300 : Nat), .int (nI j), .int k]) rfl ?_
  refine zV_aload_n hX dX11_echoes_0 rfl ?_
  refine zV_iconst hX (v := nI 0) dX11_echoes_1 (by decide) ?_
  refine zV_puti hX dX11_echoes_2 zf_X11_149 zp_9_0 zo300.1 rfl ?_
  refine zV_aload_n hX dX11_echoes_5 rfl ?_
  refine zV_aload_n hX dX11_echoes_6 rfl ?_
  refine zV_iload_n hX dX11_echoes_7 rfl ?_
  refine zV_cV1p hX hR hl dX11_echoes_8 (zc_isMember l G _ n _ ((zw_ne (by omega)).trans hn) hn7 h0) zt_X11_isMember rfl zml_X11_179 zo300.1 ⟨by decide, by decide⟩ (Nat.le_of_ble_eq_true rfl) ?_
  dsimp only [Option.toList, List.cons_append, List.nil_append]
  refine zV_topi (zb true) (by rw [zmem_nI (by omega) (by omega), decide_eq_true hj]) ?_
  refine zV_if_neB hX (tgt := 18) dX11_echoes_11 (by decide) (fun c_11 => ?_) (fun c_11 => absurd c_11 (by decide))
  refine zV_iconst hX (v := nI 0) dX11_echoes_18 (by decide) ?_
  refine zV_iconst hX (v := nI 1) dX11_echoes_19 (by decide) ?_
  refine zV_iconst hX (v := nI 0) dX11_echoes_20 (by decide) ?_
  refine zV_cV3p hX hR hl dX11_echoes_21 (zc_badF0 l G _ _ zw_same) zt_X11_bad rfl zml_X11_166 zo300.1 ⟨by decide, by decide⟩ (Nat.le_of_ble_eq_true rfl) ?_
  dsimp only [Option.toList, List.cons_append, List.nil_append]
  refine zV_if_neB hX (tgt := 50) dX11_echoes_24 (by decide) (fun c_24 => absurd c_24 (by decide)) (fun c_24 => ?_)
  refine zV_aload_n hX dX11_echoes_27 rfl ?_
  refine zV_iload_n hX dX11_echoes_28 rfl ?_
  refine zV_iconst hX (v := nI 0) dX11_echoes_29 (by decide) ?_
  refine zV_iconst hX (v := nI 4) dX11_echoes_30 (by decide) ?_
  refine zV_cS3p hX hR hl dX11_echoes_31 (zc_min l G _ _ _ _) zt_X11_in rfl zml_X11_162 (by decide) (Nat.le_of_ble_eq_true rfl) ?_
  dsimp only [Option.toList, List.cons_append, List.nil_append]
  refine zV_topi (zb false) (by rw [hk]) ?_
  refine zV_if_neB hX (tgt := 41) dX11_echoes_34 (by decide) (fun c_34 => absurd c_34 (by decide)) (fun c_34 => ?_)
  refine zV_iconst hX (v := nI 1) dX11_echoes_37 (by decide) ?_
  refine zV_goto hX (tgt := 42) dX11_echoes_38 (by decide) ?_
  refine zV_iconst hX (v := nI 2) dX11_echoes_42 (by decide) ?_
  refine zV_iconst hX (v := nI 1) dX11_echoes_43 (by decide) ?_
  refine zV_cV3p hX hR hl dX11_echoes_44 (zc_badT1 l G _ _ zw_same (by decide)) zt_X11_bad rfl zml_X11_166 zo300.1 ⟨by decide, by decide⟩ (Nat.le_of_ble_eq_true rfl) ?_
  dsimp only [Option.toList, List.cons_append, List.nil_append]
  refine zV_if_eqB hX (tgt := 52) dX11_echoes_47 (by decide) (fun c_47 => absurd c_47 (by decide)) (fun c_47 => ?_)
  refine zV_iconst hX (v := nI 0) dX11_echoes_50 (by decide) ?_
  exact zV_reti hX hQ hr (⟨rfl, rfl⟩) dX11_echoes_51
def mEo (n i : Nat) (R : zM) : Nat → Int32
  | 0 => R.1 356 i | 1 => R.1 357 i | 2 => R.1 354 i | 3 => nI (zcnt (fun e => !decide (R.1 (1000 + 16 * 51 + i) e = 0)) n) | _ => nI (zcnt (fun e => !decide (R.1 (1000 + 16 * 52 + i) e = 0)) n)
theorem eo4 (j : Nat) (hj : j ≤ 4) (h0 : nI j ≠ nI 0) (h1 : nI j ≠ nI 1) (h2 : nI j ≠ nI 2) (h3 : nI j ≠ nI 3) : j = 4 := by
  rcases Nat.lt_or_ge j 4 with q | q
  · exfalso
    match j, q with
    | 0, _ => exact h0 rfl
    | 1, _ => exact h1 rfl
    | 2, _ => exact h2 rfl
    | 3, _ => exact h3 rfl
    | _ + 4, q => omega
  · omega
set_option maxHeartbeats 1000000 in
theorem zc_mechoesOf (l : Launch) (G : zG) (M : zM) (n t j i k : Nat) (mn : Nat → Option Nat) (hn : M.1 300 9 = nI n) (hn7 : n ≤ 7) (h0 : 1 ≤ n) (ht : M.1 300 10 = nI t) (ht2 : t ≤ 2) (hj : j < n) (hi : i < n) (hk : k ≤ 4) (hmn : mLn 0 M mn) : zC l G 4 yX11_echoesOf cX11_echoesOf 4 (Option.some Jvm.ClassFile.FieldType.int) [.ref (300 : Nat), .int (nI j), .int (nI i), .int (nI k)] M (zP (some (.int (mEo n i (mEcho n j t mn 4 (m0 M)) k))) ((mEcho n j t mn 4 (m0 M)))) := by
  refine zC_of (by decide) (Nat.le_of_ble_eq_true rfl) (fun X Q hQ hX hl hR hr => ?_)
  refine zV_loc (L' := [.ref (300 : Nat), .int (nI j), .int (nI i), .int (nI k)]) rfl ?_
  have hmn0 : mLn 0 (m0 M) mn := hmn
  have hE := mEcho_E hn7 j t mn 4 (m0 M)
  have h9 : (mEcho n j t mn 4 (m0 M)).1 300 9 = nI n := hE.at ((zw_ne (by omega)).trans hn) (by unfold mFrE; omega)
  obtain ⟨R, hR9⟩ : ∃ R, R = (mEcho n j t mn 4 (m0 M)) := ⟨_, rfl⟩
  rw [← hR9] at hE h9
  refine zV_aload_n hX dX11_echoesOf_0 rfl ?_
  refine zV_iconst hX (v := nI 0) dX11_echoesOf_1 (by decide) ?_
  refine zV_puti hX dX11_echoesOf_2 zf_X11_149 zp_9_0 zo300.1 rfl ?_
  refine zV_aload_n hX dX11_echoesOf_5 rfl ?_
  refine zV_aload_n hX dX11_echoesOf_6 rfl ?_
  refine zV_iload_n hX dX11_echoesOf_7 rfl ?_
  refine zV_cV1p hX hR hl dX11_echoesOf_8 (zc_isMember l G _ n _ ((zw_ne (by omega)).trans hn) hn7 h0) zt_X11_isMember rfl zml_X11_179 zo300.1 ⟨by decide, by decide⟩ (Nat.le_of_ble_eq_true rfl) ?_
  dsimp only [Option.toList, List.cons_append, List.nil_append]
  refine zV_topi (zb true) (by rw [zmem_nI (by omega) (by omega), decide_eq_true hj]) ?_
  refine zV_if_eqB hX (tgt := 22) dX11_echoesOf_11 (by decide) (fun c_11 => absurd c_11 (by decide)) (fun c_11 => ?_)
  refine zV_aload_n hX dX11_echoesOf_14 rfl ?_
  refine zV_iload_n hX dX11_echoesOf_15 rfl ?_
  refine zV_cV1p hX hR hl dX11_echoesOf_16 (zc_isMember l G _ n _ ((zw_ne (by omega)).trans hn) hn7 h0) zt_X11_isMember rfl zml_X11_179 zo300.1 ⟨by decide, by decide⟩ (Nat.le_of_ble_eq_true rfl) ?_
  dsimp only [Option.toList, List.cons_append, List.nil_append]
  refine zV_topi (zb true) (by rw [zmem_nI (by omega) (by omega), decide_eq_true hi]) ?_
  refine zV_if_neB hX (tgt := 26) dX11_echoesOf_19 (by decide) (fun c_19 => ?_) (fun c_19 => absurd c_19 (by decide))
  refine zV_iconst hX (v := nI 0) dX11_echoesOf_26 (by decide) ?_
  refine zV_iconst hX (v := nI 1) dX11_echoesOf_27 (by decide) ?_
  refine zV_iconst hX (v := nI 0) dX11_echoesOf_28 (by decide) ?_
  refine zV_cV3p hX hR hl dX11_echoesOf_29 (zc_badF0 l G _ _ zw_same) zt_X11_bad rfl zml_X11_166 zo300.1 ⟨by decide, by decide⟩ (Nat.le_of_ble_eq_true rfl) ?_
  dsimp only [Option.toList, List.cons_append, List.nil_append]
  refine zV_if_neB hX (tgt := 58) dX11_echoesOf_32 (by decide) (fun c_32 => absurd c_32 (by decide)) (fun c_32 => ?_)
  refine zV_aload_n hX dX11_echoesOf_35 rfl ?_
  refine zV_iload_n hX dX11_echoesOf_36 rfl ?_
  refine zV_iconst hX (v := nI 0) dX11_echoesOf_37 (by decide) ?_
  refine zV_iconst hX (v := nI 4) dX11_echoesOf_38 (by decide) ?_
  refine zV_cS3p hX hR hl dX11_echoesOf_39 (zc_min l G _ _ _ _) zt_X11_in rfl zml_X11_162 (by decide) (Nat.le_of_ble_eq_true rfl) ?_
  dsimp only [Option.toList, List.cons_append, List.nil_append]
  refine zV_topi (zb true) (by rw [mIn_nI (by omega) (by omega) (by omega), decide_eq_false (by omega), Bool.not_false]) ?_
  refine zV_if_neB hX (tgt := 49) dX11_echoesOf_42 (by decide) (fun c_42 => ?_) (fun c_42 => absurd c_42 (by decide))
  refine zV_iconst hX (v := nI 0) dX11_echoesOf_49 (by decide) ?_
  refine zV_iconst hX (v := nI 2) dX11_echoesOf_50 (by decide) ?_
  refine zV_iconst hX (v := nI 1) dX11_echoesOf_51 (by decide) ?_
  refine zV_cV3p hX hR hl dX11_echoesOf_52 (zc_badF1 l G _ _ zw_same) zt_X11_bad rfl zml_X11_166 zo300.1 ⟨by decide, by decide⟩ (Nat.le_of_ble_eq_true rfl) ?_
  dsimp only [Option.toList, List.cons_append, List.nil_append]
  refine zV_if_eqB hX (tgt := 60) dX11_echoesOf_55 (by decide) (fun c_55 => ?_) (fun c_55 => absurd c_55 (by decide))
  refine zV_aload_n hX dX11_echoesOf_60 rfl ?_
  refine zV_iload_n hX dX11_echoesOf_61 rfl ?_
  refine zV_cV1p hX hR hl dX11_echoesOf_62 (zc_goesRound l G (m0 M) n j t mn ((zw_ne (by omega)).trans hn) hn7 ((zw_ne (by omega)).trans ht) ht2 hj hmn0) zt_X11_goesRound rfl zml_X11_472 zo300.1 ⟨by decide, by decide⟩ (Nat.le_of_ble_eq_true rfl) ?_
  dsimp only [Option.toList, List.cons_append, List.nil_append]
  refine zV_mem hR9.symm ?_
  refine zV_iload_n hX dX11_echoesOf_65 rfl ?_
  refine zV_case 0 (fun s_0 => ?_) (fun s_0 => ?_)
  · refine zV_tin hX (tgt := 96) dX11_echoesOf_66 (by decide) (by decide) (off := 30) (by decide) (by decide) ?_
    refine zV_aload_n hX dX11_echoesOf_96 rfl ?_
    refine zV_geta hX dX11_echoesOf_97 zf_X11_119 zo300.1 rfl ?_
    refine zV_iload_n hX dX11_echoesOf_100 rfl ?_
    refine zV_iald hX dX11_echoesOf_101 (zo300.a 55 rfl) (rfl) ⟨by omega, by omega⟩ (rfl) ?_
    exact zV_reti hX hQ hr (⟨by rw [← hR9]; (first | rw [show k = 0 from (nI_eq (by omega) (by decide)).mp s_0] | rw [show k = 1 from (nI_eq (by omega) (by decide)).mp s_1] | rw [show k = 2 from (nI_eq (by omega) (by decide)).mp s_2] | rw [show k = 3 from (nI_eq (by omega) (by decide)).mp s_3] | rw [eo4 k hk s_0 s_1 s_2 s_3]); rfl, hR9⟩) dX11_echoesOf_102
  refine zV_case 1 (fun s_1 => ?_) (fun s_1 => ?_)
  · refine zV_tin hX (tgt := 103) dX11_echoesOf_66 (by decide) (by decide) (off := 37) (by decide) (by decide) ?_
    refine zV_aload_n hX dX11_echoesOf_103 rfl ?_
    refine zV_geta hX dX11_echoesOf_104 zf_X11_122 zo300.1 rfl ?_
    refine zV_iload_n hX dX11_echoesOf_107 rfl ?_
    refine zV_iald hX dX11_echoesOf_108 (zo300.a 56 rfl) (rfl) ⟨by omega, by omega⟩ (rfl) ?_
    exact zV_reti hX hQ hr (⟨by rw [← hR9]; (first | rw [show k = 0 from (nI_eq (by omega) (by decide)).mp s_0] | rw [show k = 1 from (nI_eq (by omega) (by decide)).mp s_1] | rw [show k = 2 from (nI_eq (by omega) (by decide)).mp s_2] | rw [show k = 3 from (nI_eq (by omega) (by decide)).mp s_3] | rw [eo4 k hk s_0 s_1 s_2 s_3]); rfl, hR9⟩) dX11_echoesOf_109
  refine zV_case 2 (fun s_2 => ?_) (fun s_2 => ?_)
  · refine zV_tin hX (tgt := 110) dX11_echoesOf_66 (by decide) (by decide) (off := 44) (by decide) (by decide) ?_
    refine zV_aload_n hX dX11_echoesOf_110 rfl ?_
    refine zV_geta hX dX11_echoesOf_111 zf_X11_113 zo300.1 rfl ?_
    refine zV_iload_n hX dX11_echoesOf_114 rfl ?_
    refine zV_iald hX dX11_echoesOf_115 (zo300.a 53 rfl) (rfl) ⟨by omega, by omega⟩ (rfl) ?_
    exact zV_reti hX hQ hr (⟨by rw [← hR9]; (first | rw [show k = 0 from (nI_eq (by omega) (by decide)).mp s_0] | rw [show k = 1 from (nI_eq (by omega) (by decide)).mp s_1] | rw [show k = 2 from (nI_eq (by omega) (by decide)).mp s_2] | rw [show k = 3 from (nI_eq (by omega) (by decide)).mp s_3] | rw [eo4 k hk s_0 s_1 s_2 s_3]); rfl, hR9⟩) dX11_echoesOf_116
  refine zV_case 3 (fun s_3 => ?_) (fun s_3 => ?_)
  · refine zV_tin hX (tgt := 117) dX11_echoesOf_66 (by decide) (by decide) (off := 51) (by decide) (by decide) ?_
    refine zV_aload_n hX dX11_echoesOf_117 rfl ?_
    refine zV_aload_n hX dX11_echoesOf_118 rfl ?_
    refine zV_geta hX dX11_echoesOf_119 zf_X11_107 zo300.1 rfl ?_
    refine zV_iload_n hX dX11_echoesOf_122 rfl ?_
    refine zV_aald hX dX11_echoesOf_123 (t := 1) (zo300.a 51 rfl) (by decide) (rfl) ⟨by omega, by omega⟩ (mRow 51 (by decide)) ?_
    refine zV_cV1p hX hR hl dX11_echoesOf_124 (zc_mheardBy l G R n (1000 + 16 * 51 + i) h9 hn7 (mSh51 (by omega))) zt_X11_heardBy rfl zml_X11_478 zo300.1 ⟨by decide, by decide⟩ (Nat.le_of_ble_eq_true rfl) ?_
    dsimp only [Option.toList, List.cons_append, List.nil_append]
    exact zV_reti hX hQ hr (⟨by rw [← hR9]; (first | rw [show k = 0 from (nI_eq (by omega) (by decide)).mp s_0] | rw [show k = 1 from (nI_eq (by omega) (by decide)).mp s_1] | rw [show k = 2 from (nI_eq (by omega) (by decide)).mp s_2] | rw [show k = 3 from (nI_eq (by omega) (by decide)).mp s_3] | rw [eo4 k hk s_0 s_1 s_2 s_3]); rfl, hR9⟩) dX11_echoesOf_127
  refine zV_tout hX (tgt := 128) dX11_echoesOf_66 (zsw_out 3 (by decide) (fun j hj => by match j, hj with | 0, _ => exact s_0 | 1, _ => exact s_1 | 2, _ => exact s_2 | 3, _ => exact s_3 | _ + 4, h => omega)) (by decide) ?_
  refine zV_aload_n hX dX11_echoesOf_128 rfl ?_
  refine zV_aload_n hX dX11_echoesOf_129 rfl ?_
  refine zV_geta hX dX11_echoesOf_130 zf_X11_110 zo300.1 rfl ?_
  refine zV_iload_n hX dX11_echoesOf_133 rfl ?_
  refine zV_aald hX dX11_echoesOf_134 (t := 1) (zo300.a 52 rfl) (by decide) (rfl) ⟨by omega, by omega⟩ (mRow 52 (by decide)) ?_
  refine zV_cV1p hX hR hl dX11_echoesOf_135 (zc_mheardBy l G R n (1000 + 16 * 52 + i) h9 hn7 (mSh52 (by omega))) zt_X11_heardBy rfl zml_X11_478 zo300.1 ⟨by decide, by decide⟩ (Nat.le_of_ble_eq_true rfl) ?_
  dsimp only [Option.toList, List.cons_append, List.nil_append]
  exact zV_reti hX hQ hr (⟨by rw [← hR9]; (first | rw [show k = 0 from (nI_eq (by omega) (by decide)).mp s_0] | rw [show k = 1 from (nI_eq (by omega) (by decide)).mp s_1] | rw [show k = 2 from (nI_eq (by omega) (by decide)).mp s_2] | rw [show k = 3 from (nI_eq (by omega) (by decide)).mp s_3] | rw [eo4 k hk s_0 s_1 s_2 s_3]); rfl, hR9⟩) dX11_echoesOf_138
set_option maxHeartbeats 1000000 in
theorem zc_mechoesOfX (l : Launch) (G : zG) (M : zM) (n : Nat) (x z k : Int32) (hn : M.1 300 9 = nI n) (hn7 : n ≤ 7) (h0 : 1 ≤ n) (hx : zmem x n = false) : zC l G 4 yX11_echoesOf cX11_echoesOf 4 (Option.some Jvm.ClassFile.FieldType.int) [.ref (300 : Nat), .int x, .int z, .int k] M (zP (some (.int (nI 0))) (mTw (nI 1) (nI 0) M)) := by
  refine zC_of (by decide) (Nat.le_of_ble_eq_true rfl) (fun X Q hQ hX hl hR hr => ?_)
  refine zV_loc (L' := [.ref (300 : Nat), .int x, .int z, .int k]) rfl ?_
  refine zV_aload_n hX dX11_echoesOf_0 rfl ?_
  refine zV_iconst hX (v := nI 0) dX11_echoesOf_1 (by decide) ?_
  refine zV_puti hX dX11_echoesOf_2 zf_X11_149 zp_9_0 zo300.1 rfl ?_
  refine zV_aload_n hX dX11_echoesOf_5 rfl ?_
  refine zV_aload_n hX dX11_echoesOf_6 rfl ?_
  refine zV_iload_n hX dX11_echoesOf_7 rfl ?_
  refine zV_cV1p hX hR hl dX11_echoesOf_8 (zc_isMember l G _ n _ ((zw_ne (by omega)).trans hn) hn7 h0) zt_X11_isMember rfl zml_X11_179 zo300.1 ⟨by decide, by decide⟩ (Nat.le_of_ble_eq_true rfl) ?_
  dsimp only [Option.toList, List.cons_append, List.nil_append]
  refine zV_topi (zb false) (by rw [hx]) ?_
  refine zV_if_eqB hX (tgt := 22) dX11_echoesOf_11 (by decide) (fun c_11 => ?_) (fun c_11 => absurd c_11 (by decide))
  refine zV_iconst hX (v := nI 1) dX11_echoesOf_22 (by decide) ?_
  refine zV_goto hX (tgt := 27) dX11_echoesOf_23 (by decide) ?_
  refine zV_iconst hX (v := nI 1) dX11_echoesOf_27 (by decide) ?_
  refine zV_iconst hX (v := nI 0) dX11_echoesOf_28 (by decide) ?_
  refine zV_cV3p hX hR hl dX11_echoesOf_29 (zc_badT0 l G _ _ zw_same (by decide)) zt_X11_bad rfl zml_X11_166 zo300.1 ⟨by decide, by decide⟩ (Nat.le_of_ble_eq_true rfl) ?_
  dsimp only [Option.toList, List.cons_append, List.nil_append]
  refine zV_if_neB hX (tgt := 58) dX11_echoesOf_32 (by decide) (fun c_32 => ?_) (fun c_32 => absurd c_32 (by decide))
  refine zV_iconst hX (v := nI 0) dX11_echoesOf_58 (by decide) ?_
  exact zV_reti hX hQ hr (⟨rfl, rfl⟩) dX11_echoesOf_59
set_option maxHeartbeats 1000000 in
theorem zc_mechoesOfZ (l : Launch) (G : zG) (M : zM) (n j : Nat) (z k : Int32) (hn : M.1 300 9 = nI n) (hn7 : n ≤ 7) (h0 : 1 ≤ n) (hj : j < n) (hx : zmem z n = false) : zC l G 4 yX11_echoesOf cX11_echoesOf 4 (Option.some Jvm.ClassFile.FieldType.int) [.ref (300 : Nat), .int (nI j), .int z, .int k] M (zP (some (.int (nI 0))) (mTw (nI 1) (nI 0) M)) := by
  refine zC_of (by decide) (Nat.le_of_ble_eq_true rfl) (fun X Q hQ hX hl hR hr => ?_)
  refine zV_loc (L' := [.ref (300 : Nat), .int (nI j), .int z, .int k]) rfl ?_
  refine zV_aload_n hX dX11_echoesOf_0 rfl ?_
  refine zV_iconst hX (v := nI 0) dX11_echoesOf_1 (by decide) ?_
  refine zV_puti hX dX11_echoesOf_2 zf_X11_149 zp_9_0 zo300.1 rfl ?_
  refine zV_aload_n hX dX11_echoesOf_5 rfl ?_
  refine zV_aload_n hX dX11_echoesOf_6 rfl ?_
  refine zV_iload_n hX dX11_echoesOf_7 rfl ?_
  refine zV_cV1p hX hR hl dX11_echoesOf_8 (zc_isMember l G _ n _ ((zw_ne (by omega)).trans hn) hn7 h0) zt_X11_isMember rfl zml_X11_179 zo300.1 ⟨by decide, by decide⟩ (Nat.le_of_ble_eq_true rfl) ?_
  dsimp only [Option.toList, List.cons_append, List.nil_append]
  refine zV_topi (zb true) (by rw [zmem_nI (by omega) (by omega), decide_eq_true hj]) ?_
  refine zV_if_eqB hX (tgt := 22) dX11_echoesOf_11 (by decide) (fun c_11 => absurd c_11 (by decide)) (fun c_11 => ?_)
  refine zV_aload_n hX dX11_echoesOf_14 rfl ?_
  refine zV_iload_n hX dX11_echoesOf_15 rfl ?_
  refine zV_cV1p hX hR hl dX11_echoesOf_16 (zc_isMember l G _ n _ ((zw_ne (by omega)).trans hn) hn7 h0) zt_X11_isMember rfl zml_X11_179 zo300.1 ⟨by decide, by decide⟩ (Nat.le_of_ble_eq_true rfl) ?_
  dsimp only [Option.toList, List.cons_append, List.nil_append]
  refine zV_topi (zb false) (by rw [hx]) ?_
  refine zV_if_neB hX (tgt := 26) dX11_echoesOf_19 (by decide) (fun c_19 => absurd c_19 (by decide)) (fun c_19 => ?_)
  refine zV_iconst hX (v := nI 1) dX11_echoesOf_22 (by decide) ?_
  refine zV_goto hX (tgt := 27) dX11_echoesOf_23 (by decide) ?_
  refine zV_iconst hX (v := nI 1) dX11_echoesOf_27 (by decide) ?_
  refine zV_iconst hX (v := nI 0) dX11_echoesOf_28 (by decide) ?_
  refine zV_cV3p hX hR hl dX11_echoesOf_29 (zc_badT0 l G _ _ zw_same (by decide)) zt_X11_bad rfl zml_X11_166 zo300.1 ⟨by decide, by decide⟩ (Nat.le_of_ble_eq_true rfl) ?_
  dsimp only [Option.toList, List.cons_append, List.nil_append]
  refine zV_if_neB hX (tgt := 58) dX11_echoesOf_32 (by decide) (fun c_32 => ?_) (fun c_32 => absurd c_32 (by decide))
  refine zV_iconst hX (v := nI 0) dX11_echoesOf_58 (by decide) ?_
  exact zV_reti hX hQ hr (⟨rfl, rfl⟩) dX11_echoesOf_59
set_option maxHeartbeats 1000000 in
theorem zc_mechoesOfK (l : Launch) (G : zG) (M : zM) (n j i : Nat) (k : Int32) (hn : M.1 300 9 = nI n) (hn7 : n ≤ 7) (h0 : 1 ≤ n) (hj : j < n) (hi : i < n) (hk : mIn k (nI 0) (nI 4) = false) : zC l G 4 yX11_echoesOf cX11_echoesOf 4 (Option.some Jvm.ClassFile.FieldType.int) [.ref (300 : Nat), .int (nI j), .int (nI i), .int k] M (zP (some (.int (nI 0))) (mTw (nI 2) (nI 1) M)) := by
  refine zC_of (by decide) (Nat.le_of_ble_eq_true rfl) (fun X Q hQ hX hl hR hr => ?_)
  refine zV_loc (L' := [.ref (300 : Nat), .int (nI j), .int (nI i), .int k]) rfl ?_
  refine zV_aload_n hX dX11_echoesOf_0 rfl ?_
  refine zV_iconst hX (v := nI 0) dX11_echoesOf_1 (by decide) ?_
  refine zV_puti hX dX11_echoesOf_2 zf_X11_149 zp_9_0 zo300.1 rfl ?_
  refine zV_aload_n hX dX11_echoesOf_5 rfl ?_
  refine zV_aload_n hX dX11_echoesOf_6 rfl ?_
  refine zV_iload_n hX dX11_echoesOf_7 rfl ?_
  refine zV_cV1p hX hR hl dX11_echoesOf_8 (zc_isMember l G _ n _ ((zw_ne (by omega)).trans hn) hn7 h0) zt_X11_isMember rfl zml_X11_179 zo300.1 ⟨by decide, by decide⟩ (Nat.le_of_ble_eq_true rfl) ?_
  dsimp only [Option.toList, List.cons_append, List.nil_append]
  refine zV_topi (zb true) (by rw [zmem_nI (by omega) (by omega), decide_eq_true hj]) ?_
  refine zV_if_eqB hX (tgt := 22) dX11_echoesOf_11 (by decide) (fun c_11 => absurd c_11 (by decide)) (fun c_11 => ?_)
  refine zV_aload_n hX dX11_echoesOf_14 rfl ?_
  refine zV_iload_n hX dX11_echoesOf_15 rfl ?_
  refine zV_cV1p hX hR hl dX11_echoesOf_16 (zc_isMember l G _ n _ ((zw_ne (by omega)).trans hn) hn7 h0) zt_X11_isMember rfl zml_X11_179 zo300.1 ⟨by decide, by decide⟩ (Nat.le_of_ble_eq_true rfl) ?_
  dsimp only [Option.toList, List.cons_append, List.nil_append]
  refine zV_topi (zb true) (by rw [zmem_nI (by omega) (by omega), decide_eq_true hi]) ?_
  refine zV_if_neB hX (tgt := 26) dX11_echoesOf_19 (by decide) (fun c_19 => ?_) (fun c_19 => absurd c_19 (by decide))
  refine zV_iconst hX (v := nI 0) dX11_echoesOf_26 (by decide) ?_
  refine zV_iconst hX (v := nI 1) dX11_echoesOf_27 (by decide) ?_
  refine zV_iconst hX (v := nI 0) dX11_echoesOf_28 (by decide) ?_
  refine zV_cV3p hX hR hl dX11_echoesOf_29 (zc_badF0 l G _ _ zw_same) zt_X11_bad rfl zml_X11_166 zo300.1 ⟨by decide, by decide⟩ (Nat.le_of_ble_eq_true rfl) ?_
  dsimp only [Option.toList, List.cons_append, List.nil_append]
  refine zV_if_neB hX (tgt := 58) dX11_echoesOf_32 (by decide) (fun c_32 => absurd c_32 (by decide)) (fun c_32 => ?_)
  refine zV_aload_n hX dX11_echoesOf_35 rfl ?_
  refine zV_iload_n hX dX11_echoesOf_36 rfl ?_
  refine zV_iconst hX (v := nI 0) dX11_echoesOf_37 (by decide) ?_
  refine zV_iconst hX (v := nI 4) dX11_echoesOf_38 (by decide) ?_
  refine zV_cS3p hX hR hl dX11_echoesOf_39 (zc_min l G _ _ _ _) zt_X11_in rfl zml_X11_162 (by decide) (Nat.le_of_ble_eq_true rfl) ?_
  dsimp only [Option.toList, List.cons_append, List.nil_append]
  refine zV_topi (zb false) (by rw [hk]) ?_
  refine zV_if_neB hX (tgt := 49) dX11_echoesOf_42 (by decide) (fun c_42 => absurd c_42 (by decide)) (fun c_42 => ?_)
  refine zV_iconst hX (v := nI 1) dX11_echoesOf_45 (by decide) ?_
  refine zV_goto hX (tgt := 50) dX11_echoesOf_46 (by decide) ?_
  refine zV_iconst hX (v := nI 2) dX11_echoesOf_50 (by decide) ?_
  refine zV_iconst hX (v := nI 1) dX11_echoesOf_51 (by decide) ?_
  refine zV_cV3p hX hR hl dX11_echoesOf_52 (zc_badT1 l G _ _ zw_same (by decide)) zt_X11_bad rfl zml_X11_166 zo300.1 ⟨by decide, by decide⟩ (Nat.le_of_ble_eq_true rfl) ?_
  dsimp only [Option.toList, List.cons_append, List.nil_append]
  refine zV_if_eqB hX (tgt := 60) dX11_echoesOf_55 (by decide) (fun c_55 => absurd c_55 (by decide)) (fun c_55 => ?_)
  refine zV_iconst hX (v := nI 0) dX11_echoesOf_58 (by decide) ?_
  exact zV_reti hX hQ hr (⟨rfl, rfl⟩) dX11_echoesOf_59
def mKu (n : Nat) (M : zM) : Nat := mUq (mLiar M) (M.1 (300 + 1 + 42)) n
def mKf (n t : Nat) (mn : Nat → Option Nat) (M : zM) : Nat → Int32
  | 0 => if mKu n (mKg n t mn 0 M) < 2 then nI 0 else -1
  | i + 1 => if mKu n (mKg n t mn (i + 1) M) < 2 then (if mKf n t mn M i = -1 then nI (i + 1) else mKf n t mn M i) else -1
theorem mUq_le (li : Nat → Bool) (v : Nat → Int32) (k : Nat) : mUq li v k ≤ k := zcnt_le _ k
set_option maxHeartbeats 1000000 in
theorem zc_mkings (l : Launch) (G : zG) (M : zM) (n t k : Nat) (mn : Nat → Option Nat) (hn : M.1 300 9 = nI n) (hn7 : n ≤ 7) (h0 : 1 ≤ n) (ht : M.1 300 10 = nI t) (ht2 : t ≤ 2) (hk : k ≤ 3) (hmn : mLn 0 M mn) : zC l G 4 yX11_kings cX11_kings 5 (Option.some Jvm.ClassFile.FieldType.int) [.ref (300 : Nat), .int (nI k)] M (zP (some (.int (if k = 0 then nI (mKu n (mKg n t mn (t + 1) (m0 M))) else if k = 1 then (mKf n t mn (m0 M) (t + 1)) else if k = 2 then (mKg n t mn (t + 1) (m0 M)).1 300 47 else (mKg n t mn (t + 1) (m0 M)).1 300 48))) ((mKg n t mn (t + 1) (m0 M)))) := by
  refine zC_of (by decide) (Nat.le_of_ble_eq_true rfl) (fun X Q hQ hX hl hR hr => ?_)
  refine zV_loc (L' := [.ref (300 : Nat), .int (nI k), .null, .null, .null]) rfl ?_
  have hmn0 : mLn 0 (m0 M) mn := hmn
  have J114 : ∀ v3 v4 : Value, zV G X Q 5 0 0 114 [.ref (300 : Nat), .int (nI k), .int (mKf n t mn (m0 M) (t + 1)), v3, v4] [] (mKg n t mn (t + 1) (m0 M)) := by
    intro v3 v4
    refine zV_iload_n hX dX11_kings_114 rfl ?_
    refine zV_if_neN hX (tgt := 129) dX11_kings_115 (by decide) (by omega) (fun c_115 => ?_) (fun c_115 => ?_)
    · refine zV_iload_n hX dX11_kings_129 rfl ?_
      refine zV_iconst hX (v := nI 1) dX11_kings_130 (by decide) ?_
      refine zV_icmp_neN hX (tgt := 138) dX11_kings_131 (by decide) ⟨by omega, by omega⟩ (fun c_131 => ?_) (fun c_131 => ?_)
      · refine zV_iload_n hX dX11_kings_138 rfl ?_
        refine zV_iconst hX (v := nI 2) dX11_kings_139 (by decide) ?_
        refine zV_icmp_neN hX (tgt := 150) dX11_kings_140 (by decide) ⟨by omega, by omega⟩ (fun c_140 => ?_) (fun c_140 => ?_)
        · refine zV_aload_n hX dX11_kings_150 rfl ?_
          refine zV_geti hX (x := (mKg n t mn (t + 1) (m0 M)).1 300 48) dX11_kings_151 zf_X11_444 zo300.1 rfl (rfl) ?_
          exact zV_reti hX hQ hr (⟨by first | (rw [if_pos c_115]; done) | (rw [if_neg (by omega), if_pos c_131]; done) | (rw [if_neg (by omega), if_neg (by omega), if_pos c_140]; done) | (rw [if_neg (by omega), if_neg (by omega), if_neg (by omega)]; done), rfl⟩) dX11_kings_154
        · refine zV_aload_n hX dX11_kings_143 rfl ?_
          refine zV_geti hX (x := (mKg n t mn (t + 1) (m0 M)).1 300 47) dX11_kings_144 zf_X11_441 zo300.1 rfl (rfl) ?_
          refine zV_goto hX (tgt := 154) dX11_kings_147 (by decide) ?_
          exact zV_reti hX hQ hr (⟨by first | (rw [if_pos c_115]; done) | (rw [if_neg (by omega), if_pos c_131]; done) | (rw [if_neg (by omega), if_neg (by omega), if_pos c_140]; done) | (rw [if_neg (by omega), if_neg (by omega), if_neg (by omega)]; done), rfl⟩) dX11_kings_154
      · refine zV_iload_n hX dX11_kings_134 rfl ?_
        refine zV_goto hX (tgt := 154) dX11_kings_135 (by decide) ?_
        exact zV_reti hX hQ hr (⟨by first | (rw [if_pos c_115]; done) | (rw [if_neg (by omega), if_pos c_131]; done) | (rw [if_neg (by omega), if_neg (by omega), if_pos c_140]; done) | (rw [if_neg (by omega), if_neg (by omega), if_neg (by omega)]; done), rfl⟩) dX11_kings_154
    · refine zV_aload_n hX dX11_kings_118 rfl ?_
      refine zV_aload_n hX dX11_kings_119 rfl ?_
      refine zV_geta hX dX11_kings_120 zf_X11_86 zo300.1 rfl ?_
      refine zV_cV1p hX hR hl dX11_kings_123 (zc_unlikeOf l G (mKg n t mn (t + 1) (m0 M)) n (300 + 1 + 42) ((mKg_K n t mn (t + 1) (m0 M)).at ((zw_ne (by omega)).trans hn) (by unfold mFrK; omega)) hn7 (by decide)) zt_X11_unlikeOf rfl zml_X11_457 zo300.1 ⟨by decide, by decide⟩ (Nat.le_of_ble_eq_true rfl) ?_
      dsimp only [Option.toList, List.cons_append, List.nil_append]
      have hul : mKu n (mKg n t mn (t + 1) (m0 M)) ≤ n := mUq_le _ _ _
      refine zV_topi (nI (mKu n (mKg n t mn (t + 1) (m0 M)))) rfl ?_
      refine zV_goto hX (tgt := 154) dX11_kings_126 (by decide) ?_
      exact zV_reti hX hQ hr (⟨by first | (rw [if_pos c_115]; done) | (rw [if_neg (by omega), if_pos c_131]; done) | (rw [if_neg (by omega), if_neg (by omega), if_pos c_140]; done) | (rw [if_neg (by omega), if_neg (by omega), if_neg (by omega)]; done), rfl⟩) dX11_kings_154
  have L54 : ∀ (f9 i : Nat) (v4 : Value), t + 1 - i < f9 → i ≤ t + 1 → zV G X Q 5 0 0 54 [.ref (300 : Nat), .int (nI k), .int (mKf n t mn (m0 M) i), .int (nI i), v4] [] (mKg n t mn i (m0 M)) := by
    intro f9
    induction f9 with
    | zero => intro i v4 hi1 hi2; exact absurd hi1 (Nat.not_lt_zero _)
    | succ f9 ih =>
      intro i v4 hi1 hi2
      have hK := mKg_K n t mn i (m0 M)
      refine zV_iload_n hX dX11_kings_54 rfl ?_
      refine zV_aload_n hX dX11_kings_55 rfl ?_
      refine zV_geti hX dX11_kings_56 zf_X11_23 zo300.1 rfl (hK.at ((zw_ne (by omega)).trans ht) (by unfold mFrK; omega)) ?_
      refine zV_icmp_gtN hX (tgt := 114) dX11_kings_59 (by decide) ⟨by omega, by omega⟩ (fun c_59 => ?_) (fun c_59 => ?_)
      · have hit : i = t + 1 := by omega
        subst hit
        exact J114 _ _
      · refine zV_aload_n hX dX11_kings_62 rfl ?_
        refine zV_iload_n hX dX11_kings_63 rfl ?_
        refine zV_cV1p hX hR hl dX11_kings_64 (zc_phase l G _ n t i mn (hK.at ((zw_ne (by omega)).trans hn) (by unfold mFrK; omega)) hn7 (hK.at ((zw_ne (by omega)).trans ht) (by unfold mFrK; omega)) ht2 (by omega) (kK.ln2 hK hmn0)) zt_X11_phase rfl zml_X11_454 zo300.1 ⟨by decide, by decide⟩ (Nat.le_of_ble_eq_true rfl) ?_
        dsimp only [Option.toList, List.cons_append, List.nil_append]
        refine zV_mem (show _ = (mKg n t mn (i + 1) (m0 M)) from rfl) ?_
        refine zV_aload_n hX dX11_kings_67 rfl ?_
        refine zV_aload_n hX dX11_kings_68 rfl ?_
        refine zV_geta hX dX11_kings_69 zf_X11_86 zo300.1 rfl ?_
        refine zV_cV1p hX hR hl dX11_kings_72 (zc_unlikeOf l G (mKg n t mn (i + 1) (m0 M)) n (300 + 1 + 42) ((mKg_K n t mn (i + 1) (m0 M)).at ((zw_ne (by omega)).trans hn) (by unfold mFrK; omega)) hn7 (by decide)) zt_X11_unlikeOf rfl zml_X11_457 zo300.1 ⟨by decide, by decide⟩ (Nat.le_of_ble_eq_true rfl) ?_
        dsimp only [Option.toList, List.cons_append, List.nil_append]
        have hul : mKu n (mKg n t mn (i + 1) (m0 M)) ≤ n := mUq_le _ _ _
        refine zV_topi (nI (mKu n (mKg n t mn (i + 1) (m0 M)))) rfl ?_
        refine zV_iconst hX (v := nI 2) dX11_kings_75 (by decide) ?_
        refine zV_icmp_geN hX (tgt := 83) dX11_kings_76 (by decide) ⟨by omega, by omega⟩ (fun c_76 => ?_) (fun c_76 => ?_)
        · have e8 : (mKf n t mn (m0 M) (i + 1)) = -1 := by rw [mKf, if_neg (by omega)]
          refine zV_iconst hX (v := nI 0) dX11_kings_83 (by decide) ?_
          refine zV_istore hX dX11_kings_84 (by decide) ?_
          dsimp only [zst1, zst2, zclr, zc2]
          refine zV_iload hX dX11_kings_86 rfl ?_
          refine zV_if_neN hX (tgt := 95) dX11_kings_88 (by decide) (by decide) (fun c_88 => absurd c_88 (by decide)) (fun c_88 => ?_)
          refine zV_iconst hX (v := (-1)) dX11_kings_91 (by decide) ?_
          refine zV_goto hX (tgt := 107) dX11_kings_92 (by decide) ?_
          refine zV_istore_n hX dX11_kings_107 (by decide) ?_
          dsimp only [zst1, zst2, zclr, zc2]
          refine zV_iincN hX (b := 1) dX11_kings_108 rfl (by decide) ?_
          dsimp only [zst1, zst2, zclr, zc2]
          refine zV_goto hX (tgt := 54) dX11_kings_111 (by decide) ?_
          exact zV_loc (by rw [e8]) (ih (i + 1) _ (by omega) (by omega))
        · have e7 : (mKf n t mn (m0 M) (i + 1)) = if (mKf n t mn (m0 M) i) = -1 then nI (i + 1) else (mKf n t mn (m0 M) i) := by rw [mKf, if_pos c_76]
          refine zV_iconst hX (v := nI 1) dX11_kings_79 (by decide) ?_
          refine zV_goto hX (tgt := 84) dX11_kings_80 (by decide) ?_
          refine zV_istore hX dX11_kings_84 (by decide) ?_
          dsimp only [zst1, zst2, zclr, zc2]
          refine zV_iload hX dX11_kings_86 rfl ?_
          refine zV_if_neN hX (tgt := 95) dX11_kings_88 (by decide) (by decide) (fun c_88 => ?_) (fun c_88 => absurd c_88 (by decide))
          refine zV_iload_n hX dX11_kings_95 rfl ?_
          refine zV_iconst hX (v := (-1)) dX11_kings_96 (by decide) ?_
          refine zV_icmp_ne hX (tgt := 106) dX11_kings_97 (by decide) (fun c_97 => ?_) (fun c_97 => ?_)
          · have e8 : (mKf n t mn (m0 M) (i + 1)) = (mKf n t mn (m0 M) i) := by rw [e7, if_neg c_97]
            refine zV_iload_n hX dX11_kings_106 rfl ?_
            refine zV_istore_n hX dX11_kings_107 (by decide) ?_
            dsimp only [zst1, zst2, zclr, zc2]
            refine zV_iincN hX (b := 1) dX11_kings_108 rfl (by decide) ?_
            dsimp only [zst1, zst2, zclr, zc2]
            refine zV_goto hX (tgt := 54) dX11_kings_111 (by decide) ?_
            exact zV_loc (by rw [e8]) (ih (i + 1) _ (by omega) (by omega))
          · have e8 : (mKf n t mn (m0 M) (i + 1)) = nI (i + 1) := by rw [e7, if_pos c_97]
            refine zV_iload_n hX dX11_kings_100 rfl ?_
            refine zV_iconst hX (v := nI 1) dX11_kings_101 (by decide) ?_
            refine zV_iaddN hX dX11_kings_102 ?_
            refine zV_goto hX (tgt := 107) dX11_kings_103 (by decide) ?_
            refine zV_istore_n hX dX11_kings_107 (by decide) ?_
            dsimp only [zst1, zst2, zclr, zc2]
            refine zV_iincN hX (b := 1) dX11_kings_108 rfl (by decide) ?_
            dsimp only [zst1, zst2, zclr, zc2]
            refine zV_goto hX (tgt := 54) dX11_kings_111 (by decide) ?_
            exact zV_loc (by rw [e8]) (ih (i + 1) _ (by omega) (by omega))
  have J51 : zV G X Q 5 0 0 51 [.ref (300 : Nat), .int (nI k), .null, .null, .null] [.int (mKf n t mn (m0 M) 0)] (mKg n t mn 0 (m0 M)) := by
    refine zV_istore_n hX dX11_kings_51 (by decide) ?_
    dsimp only [zst1, zst2, zclr, zc2]
    refine zV_iconst hX (v := nI 0) dX11_kings_52 (by decide) ?_
    refine zV_istore_n hX dX11_kings_53 (by decide) ?_
    dsimp only [zst1, zst2, zclr, zc2]
    exact L54 (t + 2) 0 _ (by omega) (by omega)
  refine zV_aload_n hX dX11_kings_0 rfl ?_
  refine zV_iconst hX (v := nI 0) dX11_kings_1 (by decide) ?_
  refine zV_puti hX dX11_kings_2 zf_X11_149 zp_9_0 zo300.1 rfl ?_
  refine zV_aload_n hX dX11_kings_5 rfl ?_
  refine zV_iload_n hX dX11_kings_6 rfl ?_
  refine zV_iconst hX (v := nI 0) dX11_kings_7 (by decide) ?_
  refine zV_iconst hX (v := nI 3) dX11_kings_8 (by decide) ?_
  refine zV_cS3p hX hR hl dX11_kings_9 (zc_min l G _ _ _ _) zt_X11_in rfl zml_X11_162 (by decide) (Nat.le_of_ble_eq_true rfl) ?_
  dsimp only [Option.toList, List.cons_append, List.nil_append]
  refine zV_topi (zb true) (by rw [mIn_nI (by omega) (by omega) (by omega), decide_eq_false (by omega), Bool.not_false]) ?_
  refine zV_if_neB hX (tgt := 19) dX11_kings_12 (by decide) (fun c_12 => ?_) (fun c_12 => absurd c_12 (by decide))
  refine zV_iconst hX (v := nI 0) dX11_kings_19 (by decide) ?_
  refine zV_iconst hX (v := nI 1) dX11_kings_20 (by decide) ?_
  refine zV_iconst hX (v := nI 1) dX11_kings_21 (by decide) ?_
  refine zV_cV3p hX hR hl dX11_kings_22 (zc_badF1 l G _ _ zw_same) zt_X11_bad rfl zml_X11_166 zo300.1 ⟨by decide, by decide⟩ (Nat.le_of_ble_eq_true rfl) ?_
  dsimp only [Option.toList, List.cons_append, List.nil_append]
  refine zV_if_eqB hX (tgt := 30) dX11_kings_25 (by decide) (fun c_25 => ?_) (fun c_25 => absurd c_25 (by decide))
  refine zV_aload_n hX dX11_kings_30 rfl ?_
  refine zV_cV0p hX hR hl dX11_kings_31 (zc_crowns l G (m0 M) n ((zw_ne (by omega)).trans hn) hn7) zt_X11_crowns rfl zml_X11_451 zo300.1 ⟨by decide, by decide⟩ (Nat.le_of_ble_eq_true rfl) ?_
  dsimp only [Option.toList, List.cons_append, List.nil_append]
  refine zV_mem (show _ = (mKg n t mn 0 (m0 M)) from rfl) ?_
  refine zV_aload_n hX dX11_kings_34 rfl ?_
  refine zV_aload_n hX dX11_kings_35 rfl ?_
  refine zV_geta hX dX11_kings_36 zf_X11_86 zo300.1 rfl ?_
  refine zV_cV1p hX hR hl dX11_kings_39 (zc_unlikeOf l G (mKg n t mn 0 (m0 M)) n (300 + 1 + 42) ((mKg_K n t mn 0 (m0 M)).at ((zw_ne (by omega)).trans hn) (by unfold mFrK; omega)) hn7 (by decide)) zt_X11_unlikeOf rfl zml_X11_457 zo300.1 ⟨by decide, by decide⟩ (Nat.le_of_ble_eq_true rfl) ?_
  dsimp only [Option.toList, List.cons_append, List.nil_append]
  have hul : mKu n (mKg n t mn 0 (m0 M)) ≤ n := mUq_le _ _ _
  refine zV_topi (nI (mKu n (mKg n t mn 0 (m0 M)))) rfl ?_
  refine zV_iconst hX (v := nI 2) dX11_kings_42 (by decide) ?_
  refine zV_icmp_geN hX (tgt := 50) dX11_kings_43 (by decide) ⟨by omega, by omega⟩ (fun c_43 => ?_) (fun c_43 => ?_)
  · refine zV_iconst hX (v := (-1)) dX11_kings_50 (by decide) ?_
    refine zV_topi (mKf n t mn (m0 M) 0) (by unfold mKf; first | rw [if_pos c_43] | rw [if_neg (by omega)]) ?_
    exact J51
  · refine zV_iconst hX (v := nI 0) dX11_kings_46 (by decide) ?_
    refine zV_goto hX (tgt := 51) dX11_kings_47 (by decide) ?_
    refine zV_topi (mKf n t mn (m0 M) 0) (by unfold mKf; first | rw [if_pos c_43] | rw [if_neg (by omega)]) ?_
    exact J51
set_option maxHeartbeats 1000000 in
theorem zc_mkingsX (l : Launch) (G : zG) (M : zM) (x : Int32) (hx : mIn x (nI 0) (nI 3) = false) : zC l G 4 yX11_kings cX11_kings 5 (Option.some Jvm.ClassFile.FieldType.int) [.ref (300 : Nat), .int x] M (zP (some (.int (nI 0))) (mTw (nI 1) (nI 1) M)) := by
  refine zC_of (by decide) (Nat.le_of_ble_eq_true rfl) (fun X Q hQ hX hl hR hr => ?_)
  refine zV_loc (L' := [.ref (300 : Nat), .int x, .null, .null, .null]) rfl ?_
  refine zV_aload_n hX dX11_kings_0 rfl ?_
  refine zV_iconst hX (v := nI 0) dX11_kings_1 (by decide) ?_
  refine zV_puti hX dX11_kings_2 zf_X11_149 zp_9_0 zo300.1 rfl ?_
  refine zV_aload_n hX dX11_kings_5 rfl ?_
  refine zV_iload_n hX dX11_kings_6 rfl ?_
  refine zV_iconst hX (v := nI 0) dX11_kings_7 (by decide) ?_
  refine zV_iconst hX (v := nI 3) dX11_kings_8 (by decide) ?_
  refine zV_cS3p hX hR hl dX11_kings_9 (zc_min l G _ _ _ _) zt_X11_in rfl zml_X11_162 (by decide) (Nat.le_of_ble_eq_true rfl) ?_
  dsimp only [Option.toList, List.cons_append, List.nil_append]
  refine zV_topi (zb false) (by rw [hx]) ?_
  refine zV_if_neB hX (tgt := 19) dX11_kings_12 (by decide) (fun c_12 => absurd c_12 (by decide)) (fun c_12 => ?_)
  refine zV_iconst hX (v := nI 1) dX11_kings_15 (by decide) ?_
  refine zV_goto hX (tgt := 20) dX11_kings_16 (by decide) ?_
  refine zV_iconst hX (v := nI 1) dX11_kings_20 (by decide) ?_
  refine zV_iconst hX (v := nI 1) dX11_kings_21 (by decide) ?_
  refine zV_cV3p hX hR hl dX11_kings_22 (zc_badT1 l G _ _ zw_same (by decide)) zt_X11_bad rfl zml_X11_166 zo300.1 ⟨by decide, by decide⟩ (Nat.le_of_ble_eq_true rfl) ?_
  dsimp only [Option.toList, List.cons_append, List.nil_append]
  refine zV_if_eqB hX (tgt := 30) dX11_kings_25 (by decide) (fun c_25 => absurd c_25 (by decide)) (fun c_25 => ?_)
  refine zV_iconst hX (v := nI 0) dX11_kings_28 (by decide) ?_
  exact zV_reti hX hQ hr (⟨rfl, rfl⟩) dX11_kings_29
