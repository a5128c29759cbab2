def mFrT (a j : Nat) : Prop := mFrS a j ∧ ¬ (a = 300 ∧ j = 41)
theorem mFrW_T {x : Nat} (hx : x < 7) (a j : Nat) (h : mFrW x a j) : mFrT a j := ⟨mFrW_S hx a j h, by unfold mFrW at h; omega⟩
theorem mWf_T {c x : Nat} (hx : x < 7) (mn : Nat → Option Nat) (M : zM) : zKf mFrT M (mWf c mn x M) := by
  unfold mWf
  split
  · exact zKf.rf
  · exact (mWrites_W _ _ _ _ _ _ _ _).mono (mFrW_T hx)
theorem mWx_T {x : Nat} (hx : x < 7) (s k r : Nat) (mn : Nat → Option Nat) (M : zM) : zKf mFrT M (mWx s k r mn x M) := by
  unfold mWx
  split
  · exact zKf.rf
  · split
    · exact zKf.rf
    · exact (mWrites_W _ _ _ _ _ _ _ _).mono (mFrW_T hx)
theorem mWk_T {s k r n : Nat} (hn : n ≤ 7) (mn : Nat → Option Nat) (M : zM) : zKf mFrT M (mWk n s r mn k M) := by
  unfold mWk
  split
  · exact zKf.for n M (fun i M hi => mWx_T (by omega) s k r mn M)
  · exact zKf.rf
theorem mWS_T {q r n : Nat} (hn : n ≤ 7) (mn : Nat → Option Nat) (M : zM) : zKf mFrT M (mWS n r mn q M) := zKf.for q M (fun i M _ => zKf.for _ M (fun j M _ => mWk_T hn mn M))
theorem mSz_41 {c : Nat} (M : zM) : ∀ k, (mSz c k M).1 300 41 = nI c
  | 0 => by
    show (zw (zw (zw (zw M 300 41 (nI c)) 300 38 (nI 0)) 300 39 (nI 0)) 300 40 (nI 0)).1 300 41 = _
    rw [zw_ne (by omega), zw_ne (by omega), zw_ne (by omega), zw_same]
  | k + 1 => by
    show (zw (zw (zw (mSz c k M) (300 + 1 + 31) k (nI 0)) (300 + 1 + 32) k (nI 0)) (300 + 1 + 33) k (nI 0)).1 300 41 = _
    rw [zw_ne (by omega), zw_ne (by omega), zw_ne (by omega)]
    exact mSz_41 M k
theorem mSigns_41 {c n k : Nat} (hn : n ≤ 7) (mn : Nat → Option Nat) (M : zM) : (mSigns c n mn k M).1 300 41 = nI c := by
  have h1 : zKf mFrT (mSz c 7 M) (mSigns c n mn k M) := (zKf.for (f := mWf c mn) n _ (fun i M hi => mWf_T (by omega) mn M)).tr (zKf.for k _ (fun i M _ => mWS_T hn mn M))
  rw [h1.1 _ _ (fun q => q.2 ⟨rfl, rfl⟩)]
  exact mSz_41 M 7
set_option maxHeartbeats 1000000 in
theorem zc_msigned (l : Launch) (G : zG) (M : zM) (n t j k : Nat) (mn : Nat → Option Nat) (hn : M.1 300 9 = nI n) (hn7 : n ≤ 7) (h0 : 1 ≤ n) (ht : M.1 300 10 = nI t) (ht2 : t ≤ 2) (hj : j < n) (hk : k ≤ 3) (hmn : mLn 0 M mn) : zC l G 4 yX11_signed cX11_signed 3 (Option.some Jvm.ClassFile.FieldType.int) [.ref (300 : Nat), .int (nI j), .int (nI k)] M (zP (some (.int (if k = 0 then nI (mUq (mLiar (mSigns j n mn t (m0 M))) (mSgB (mSigns j n mn t (m0 M)) j) n) else if k = 1 then (mSigns j n mn t (m0 M)).1 300 38 else if k = 2 then (mSigns j n mn t (m0 M)).1 300 39 else (mSigns j n mn t (m0 M)).1 300 40))) ((mSigns j n mn t (m0 M)))) := by
  refine zC_of (by decide) (Nat.le_of_ble_eq_true rfl) (fun X Q hQ hX hl hR hr => ?_)
  refine zV_loc (L' := [.ref (300 : Nat), .int (nI j), .int (nI k)]) rfl ?_
  have hmn0 : mLn 0 (m0 M) mn := hmn
  have hS := mSigns_S (c := j) (k := t) hn7 mn (m0 M)
  have h41 := mSigns_41 (c := j) (k := t) hn7 mn (m0 M)
  have h9 : (mSigns j n mn t (m0 M)).1 300 9 = nI n := hS.at ((zw_ne (by omega)).trans hn) (by unfold mFrS; omega)
  obtain ⟨R, hR9⟩ : ∃ R, R = (mSigns j n mn t (m0 M)) := ⟨_, rfl⟩
  rw [← hR9] at hS h41 h9
  refine zV_aload_n hX dX11_signed_0 rfl ?_
  refine zV_iconst hX (v := nI 0) dX11_signed_1 (by decide) ?_
  refine zV_puti hX dX11_signed_2 zf_X11_149 zp_9_0 zo300.1 rfl ?_
  refine zV_aload_n hX dX11_signed_5 rfl ?_
  refine zV_aload_n hX dX11_signed_6 rfl ?_
  refine zV_iload_n hX dX11_signed_7 rfl ?_
  refine zV_cV1p hX hR hl dX11_signed_8 (zc_isMember l G _ n _ ((zw_ne (by omega)).trans hn) hn7 h0) zt_X11_isMember rfl zml_X11_179 zo300.1 ⟨by decide, by decide⟩ (Nat.le_of_ble_eq_true rfl) ?_
  dsimp only [Option.toList, List.cons_append, List.nil_append]
  refine zV_topi (zb true) (by rw [zmem_nI (by omega) (by omega), decide_eq_true hj]) ?_
  refine zV_if_neB hX (tgt := 18) dX11_signed_11 (by decide) (fun c_11 => ?_) (fun c_11 => absurd c_11 (by decide))
  refine zV_iconst hX (v := nI 0) dX11_signed_18 (by decide) ?_
  refine zV_iconst hX (v := nI 1) dX11_signed_19 (by decide) ?_
  refine zV_iconst hX (v := nI 0) dX11_signed_20 (by decide) ?_
  refine zV_cV3p hX hR hl dX11_signed_21 (zc_badF0 l G _ _ zw_same) zt_X11_bad rfl zml_X11_166 zo300.1 ⟨by decide, by decide⟩ (Nat.le_of_ble_eq_true rfl) ?_
  dsimp only [Option.toList, List.cons_append, List.nil_append]
  refine zV_if_neB hX (tgt := 50) dX11_signed_24 (by decide) (fun c_24 => absurd c_24 (by decide)) (fun c_24 => ?_)
  refine zV_aload_n hX dX11_signed_27 rfl ?_
  refine zV_iload_n hX dX11_signed_28 rfl ?_
  refine zV_iconst hX (v := nI 0) dX11_signed_29 (by decide) ?_
  refine zV_iconst hX (v := nI 3) dX11_signed_30 (by decide) ?_
  refine zV_cS3p hX hR hl dX11_signed_31 (zc_min l G _ _ _ _) zt_X11_in rfl zml_X11_162 (by decide) (Nat.le_of_ble_eq_true rfl) ?_
  dsimp only [Option.toList, List.cons_append, List.nil_append]
  refine zV_topi (zb true) (by rw [mIn_nI (by omega) (by omega) (by omega), decide_eq_false (by omega), Bool.not_false]) ?_
  refine zV_if_neB hX (tgt := 41) dX11_signed_34 (by decide) (fun c_34 => ?_) (fun c_34 => absurd c_34 (by decide))
  refine zV_iconst hX (v := nI 0) dX11_signed_41 (by decide) ?_
  refine zV_iconst hX (v := nI 2) dX11_signed_42 (by decide) ?_
  refine zV_iconst hX (v := nI 1) dX11_signed_43 (by decide) ?_
  refine zV_cV3p hX hR hl dX11_signed_44 (zc_badF1 l G _ _ zw_same) zt_X11_bad rfl zml_X11_166 zo300.1 ⟨by decide, by decide⟩ (Nat.le_of_ble_eq_true rfl) ?_
  dsimp only [Option.toList, List.cons_append, List.nil_append]
  refine zV_if_eqB hX (tgt := 52) dX11_signed_47 (by decide) (fun c_47 => ?_) (fun c_47 => absurd c_47 (by decide))
  refine zV_aload_n hX dX11_signed_52 rfl ?_
  refine zV_iload_n hX dX11_signed_53 rfl ?_
  refine zV_cV1p hX hR hl dX11_signed_54 (zc_signs l G (m0 M) n j t mn ((zw_ne (by omega)).trans hn) hn7 ((zw_ne (by omega)).trans ht) ht2 (by omega) hmn0) zt_X11_signs rfl zml_X11_435 zo300.1 ⟨by decide, by decide⟩ (Nat.le_of_ble_eq_true rfl) ?_
  dsimp only [Option.toList, List.cons_append, List.nil_append]
  refine zV_mem hR9.symm ?_
  refine zV_iload_n hX dX11_signed_57 rfl ?_
  refine zV_if_neN hX (tgt := 68) dX11_signed_58 (by decide) (by omega) (fun c_58 => ?_) (fun c_58 => ?_)
  · refine zV_iload_n hX dX11_signed_68 rfl ?_
    refine zV_iconst hX (v := nI 1) dX11_signed_69 (by decide) ?_
    refine zV_icmp_neN hX (tgt := 80) dX11_signed_70 (by decide) ⟨by omega, by omega⟩ (fun c_70 => ?_) (fun c_70 => ?_)
    · refine zV_iload_n hX dX11_signed_80 rfl ?_
      refine zV_iconst hX (v := nI 2) dX11_signed_81 (by decide) ?_
      refine zV_icmp_neN hX (tgt := 92) dX11_signed_82 (by decide) ⟨by omega, by omega⟩ (fun c_82 => ?_) (fun c_82 => ?_)
      · refine zV_aload_n hX dX11_signed_92 rfl ?_
        refine zV_geti hX (x := R.1 300 40) dX11_signed_93 zf_X11_416 zo300.1 rfl (rfl) ?_
        exact zV_reti hX hQ hr (⟨by first | (rw [← hR9, if_pos c_58]; done) | (rw [← hR9, if_neg (by omega), if_pos c_70]; done) | (rw [← hR9, if_neg (by omega), if_neg (by omega), if_pos c_82]; done) | (rw [← hR9, if_neg (by omega), if_neg (by omega), if_neg (by omega)]; done), hR9⟩) dX11_signed_96
      · refine zV_aload_n hX dX11_signed_85 rfl ?_
        refine zV_geti hX (x := R.1 300 39) dX11_signed_86 zf_X11_419 zo300.1 rfl (rfl) ?_
        refine zV_goto hX (tgt := 96) dX11_signed_89 (by decide) ?_
        exact zV_reti hX hQ hr (⟨by first | (rw [← hR9, if_pos c_58]; done) | (rw [← hR9, if_neg (by omega), if_pos c_70]; done) | (rw [← hR9, if_neg (by omega), if_neg (by omega), if_pos c_82]; done) | (rw [← hR9, if_neg (by omega), if_neg (by omega), if_neg (by omega)]; done), hR9⟩) dX11_signed_96
    · refine zV_aload_n hX dX11_signed_73 rfl ?_
      refine zV_geti hX (x := R.1 300 38) dX11_signed_74 zf_X11_413 zo300.1 rfl (rfl) ?_
      refine zV_goto hX (tgt := 96) dX11_signed_77 (by decide) ?_
      exact zV_reti hX hQ hr (⟨by first | (rw [← hR9, if_pos c_58]; done) | (rw [← hR9, if_neg (by omega), if_pos c_70]; done) | (rw [← hR9, if_neg (by omega), if_neg (by omega), if_pos c_82]; done) | (rw [← hR9, if_neg (by omega), if_neg (by omega), if_neg (by omega)]; done), hR9⟩) dX11_signed_96
  · refine zV_aload_n hX dX11_signed_61 rfl ?_
    refine zV_cV0p hX hR hl dX11_signed_62 (zc_unlikeSigned l G R n j h9 hn7 h41 (by omega)) zt_X11_unlikeSigned rfl zml_X11_438 zo300.1 ⟨by decide, by decide⟩ (Nat.le_of_ble_eq_true rfl) ?_
    dsimp only [Option.toList, List.cons_append, List.nil_append]
    refine zV_goto hX (tgt := 96) dX11_signed_65 (by decide) ?_
    exact zV_reti hX hQ hr (⟨by first | (rw [← hR9, if_pos c_58]; done) | (rw [← hR9, if_neg (by omega), if_pos c_70]; done) | (rw [← hR9, if_neg (by omega), if_neg (by omega), if_pos c_82]; done) | (rw [← hR9, if_neg (by omega), if_neg (by omega), if_neg (by omega)]; done), hR9⟩) dX11_signed_96
set_option maxHeartbeats 1000000 in
theorem zc_msignedX (l : Launch) (G : zG) (M : zM) (n : Nat) (x k : Int32) (hn : M.1 300 9 = nI n) (hn7 : n ≤ 7) (h0 : 1 ≤ n) (hx : zmem x n = false) : zC l G 4 yX11_signed cX11_signed 3 (Option.some Jvm.ClassFile.FieldType.int) [.ref (300 : Nat), .int x, .int k] M (zP (some (.int (nI 0))) (mTw (nI 1) (nI 0) M)) := by
  refine zC_of (by decide) (Nat.le_of_ble_eq_true rfl) (fun X Q hQ hX hl hR hr => ?_)
  refine zV_loc (L' := [.ref (300 : Nat), .int x, .int k]) rfl ?_
  refine zV_aload_n hX dX11_signed_0 rfl ?_
  refine zV_iconst hX (v := nI 0) dX11_signed_1 (by decide) ?_
  refine zV_puti hX dX11_signed_2 zf_X11_149 zp_9_0 zo300.1 rfl ?_
  refine zV_aload_n hX dX11_signed_5 rfl ?_
  refine zV_aload_n hX dX11_signed_6 rfl ?_
  refine zV_iload_n hX dX11_signed_7 rfl ?_
  refine zV_cV1p hX hR hl dX11_signed_8 (zc_isMember l G _ n _ ((zw_ne (by omega)).trans hn) hn7 h0) zt_X11_isMember rfl zml_X11_179 zo300.1 ⟨by decide, by decide⟩ (Nat.le_of_ble_eq_true rfl) ?_
  dsimp only [Option.toList, List.cons_append, List.nil_append]
  refine zV_topi (zb false) (by rw [hx]) ?_
  refine zV_if_neB hX (tgt := 18) dX11_signed_11 (by decide) (fun c_11 => absurd c_11 (by decide)) (fun c_11 => ?_)
  refine zV_iconst hX (v := nI 1) dX11_signed_14 (by decide) ?_
  refine zV_goto hX (tgt := 19) dX11_signed_15 (by decide) ?_
  refine zV_iconst hX (v := nI 1) dX11_signed_19 (by decide) ?_
  refine zV_iconst hX (v := nI 0) dX11_signed_20 (by decide) ?_
  refine zV_cV3p hX hR hl dX11_signed_21 (zc_badT0 l G _ _ zw_same (by decide)) zt_X11_bad rfl zml_X11_166 zo300.1 ⟨by decide, by decide⟩ (Nat.le_of_ble_eq_true rfl) ?_
  dsimp only [Option.toList, List.cons_append, List.nil_append]
  refine zV_if_neB hX (tgt := 50) dX11_signed_24 (by decide) (fun c_24 => ?_) (fun c_24 => absurd c_24 (by decide))
  refine zV_iconst hX (v := nI 0) dX11_signed_50 (by decide) ?_
  exact zV_reti hX hQ hr (⟨rfl, rfl⟩) dX11_signed_51
set_option maxHeartbeats 1000000 in
theorem zc_msignedK (l : Launch) (G : zG) (M : zM) (n j : Nat) (k : Int32) (hn : M.1 300 9 = nI n) (hn7 : n ≤ 7) (h0 : 1 ≤ n) (hj : j < n) (hk : mIn k (nI 0) (nI 3) = false) : zC l G 4 yX11_signed cX11_signed 3 (Option.some Jvm.ClassFile.FieldType.int) [.ref (300 : Nat), .int (nI j), .int k] M (zP (some (.int (nI 0))) (mTw (nI 2) (nI 1) M)) := by
  refine zC_of (by decide) (Nat.le_of_ble_eq_true rfl) (fun X Q hQ hX hl hR hr => ?_)
  refine zV_loc (L' := [.ref (300 : Nat), .int (nI j), .int k]) rfl ?_
  refine zV_aload_n hX dX11_signed_0 rfl ?_
  refine zV_iconst hX (v := nI 0) dX11_signed_1 (by decide) ?_
  refine zV_puti hX dX11_signed_2 zf_X11_149 zp_9_0 zo300.1 rfl ?_
  refine zV_aload_n hX dX11_signed_5 rfl ?_
  refine zV_aload_n hX dX11_signed_6 rfl ?_
  refine zV_iload_n hX dX11_signed_7 rfl ?_
  refine zV_cV1p hX hR hl dX11_signed_8 (zc_isMember l G _ n _ ((zw_ne (by omega)).trans hn) hn7 h0) zt_X11_isMember rfl zml_X11_179 zo300.1 ⟨by decide, by decide⟩ (Nat.le_of_ble_eq_true rfl) ?_
  dsimp only [Option.toList, List.cons_append, List.nil_append]
  refine zV_topi (zb true) (by rw [zmem_nI (by omega) (by omega), decide_eq_true hj]) ?_
  refine zV_if_neB hX (tgt := 18) dX11_signed_11 (by decide) (fun c_11 => ?_) (fun c_11 => absurd c_11 (by decide))
  refine zV_iconst hX (v := nI 0) dX11_signed_18 (by decide) ?_
  refine zV_iconst hX (v := nI 1) dX11_signed_19 (by decide) ?_
  refine zV_iconst hX (v := nI 0) dX11_signed_20 (by decide) ?_
  refine zV_cV3p hX hR hl dX11_signed_21 (zc_badF0 l G _ _ zw_same) zt_X11_bad rfl zml_X11_166 zo300.1 ⟨by decide, by decide⟩ (Nat.le_of_ble_eq_true rfl) ?_
  dsimp only [Option.toList, List.cons_append, List.nil_append]
  refine zV_if_neB hX (tgt := 50) dX11_signed_24 (by decide) (fun c_24 => absurd c_24 (by decide)) (fun c_24 => ?_)
  refine zV_aload_n hX dX11_signed_27 rfl ?_
  refine zV_iload_n hX dX11_signed_28 rfl ?_
  refine zV_iconst hX (v := nI 0) dX11_signed_29 (by decide) ?_
  refine zV_iconst hX (v := nI 3) dX11_signed_30 (by decide) ?_
  refine zV_cS3p hX hR hl dX11_signed_31 (zc_min l G _ _ _ _) zt_X11_in rfl zml_X11_162 (by decide) (Nat.le_of_ble_eq_true rfl) ?_
  dsimp only [Option.toList, List.cons_append, List.nil_append]
  refine zV_topi (zb false) (by rw [hk]) ?_
  refine zV_if_neB hX (tgt := 41) dX11_signed_34 (by decide) (fun c_34 => absurd c_34 (by decide)) (fun c_34 => ?_)
  refine zV_iconst hX (v := nI 1) dX11_signed_37 (by decide) ?_
  refine zV_goto hX (tgt := 42) dX11_signed_38 (by decide) ?_
  refine zV_iconst hX (v := nI 2) dX11_signed_42 (by decide) ?_
  refine zV_iconst hX (v := nI 1) dX11_signed_43 (by decide) ?_
  refine zV_cV3p hX hR hl dX11_signed_44 (zc_badT1 l G _ _ zw_same (by decide)) zt_X11_bad rfl zml_X11_166 zo300.1 ⟨by decide, by decide⟩ (Nat.le_of_ble_eq_true rfl) ?_
  dsimp only [Option.toList, List.cons_append, List.nil_append]
  refine zV_if_eqB hX (tgt := 52) dX11_signed_47 (by decide) (fun c_47 => absurd c_47 (by decide)) (fun c_47 => ?_)
  refine zV_iconst hX (v := nI 0) dX11_signed_50 (by decide) ?_
  exact zV_reti hX hQ hr (⟨rfl, rfl⟩) dX11_signed_51
set_option maxHeartbeats 1000000 in
theorem zc_msignedOf (l : Launch) (G : zG) (M : zM) (n t j i k : Nat) (mn : Nat → Option Nat) (hn : M.1 300 9 = nI n) (hn7 : n ≤ 7) (h0 : 1 ≤ n) (ht : M.1 300 10 = nI t) (ht2 : t ≤ 2) (hj : j < n) (hi : i < n) (hk : k ≤ 3) (hmn : mLn 0 M mn) : zC l G 4 yX11_signedOf cX11_signedOf 4 (Option.some Jvm.ClassFile.FieldType.int) [.ref (300 : Nat), .int (nI j), .int (nI i), .int (nI k)] M (zP (some (.int (if k = 0 then mSgB (mSigns j n mn t (m0 M)) j i else if k = 1 then (mSigns j n mn t (m0 M)).1 332 i else if k = 2 then (mSigns j n mn t (m0 M)).1 333 i else (mSigns j n mn t (m0 M)).1 334 i))) ((mSigns j n mn t (m0 M)))) := by
  refine zC_of (by decide) (Nat.le_of_ble_eq_true rfl) (fun X Q hQ hX hl hR hr => ?_)
  refine zV_loc (L' := [.ref (300 : Nat), .int (nI j), .int (nI i), .int (nI k)]) rfl ?_
  have hmn0 : mLn 0 (m0 M) mn := hmn
  have hS := mSigns_S (c := j) (k := t) hn7 mn (m0 M)
  have h41 := mSigns_41 (c := j) (k := t) hn7 mn (m0 M)
  have h9 : (mSigns j n mn t (m0 M)).1 300 9 = nI n := hS.at ((zw_ne (by omega)).trans hn) (by unfold mFrS; omega)
  obtain ⟨R, hR9⟩ : ∃ R, R = (mSigns j n mn t (m0 M)) := ⟨_, rfl⟩
  rw [← hR9] at hS h41 h9
  refine zV_aload_n hX dX11_signedOf_0 rfl ?_
  refine zV_iconst hX (v := nI 0) dX11_signedOf_1 (by decide) ?_
  refine zV_puti hX dX11_signedOf_2 zf_X11_149 zp_9_0 zo300.1 rfl ?_
  refine zV_aload_n hX dX11_signedOf_5 rfl ?_
  refine zV_aload_n hX dX11_signedOf_6 rfl ?_
  refine zV_iload_n hX dX11_signedOf_7 rfl ?_
  refine zV_cV1p hX hR hl dX11_signedOf_8 (zc_isMember l G _ n _ ((zw_ne (by omega)).trans hn) hn7 h0) zt_X11_isMember rfl zml_X11_179 zo300.1 ⟨by decide, by decide⟩ (Nat.le_of_ble_eq_true rfl) ?_
  dsimp only [Option.toList, List.cons_append, List.nil_append]
  refine zV_topi (zb true) (by rw [zmem_nI (by omega) (by omega), decide_eq_true hj]) ?_
  refine zV_if_eqB hX (tgt := 22) dX11_signedOf_11 (by decide) (fun c_11 => absurd c_11 (by decide)) (fun c_11 => ?_)
  refine zV_aload_n hX dX11_signedOf_14 rfl ?_
  refine zV_iload_n hX dX11_signedOf_15 rfl ?_
  refine zV_cV1p hX hR hl dX11_signedOf_16 (zc_isMember l G _ n _ ((zw_ne (by omega)).trans hn) hn7 h0) zt_X11_isMember rfl zml_X11_179 zo300.1 ⟨by decide, by decide⟩ (Nat.le_of_ble_eq_true rfl) ?_
  dsimp only [Option.toList, List.cons_append, List.nil_append]
  refine zV_topi (zb true) (by rw [zmem_nI (by omega) (by omega), decide_eq_true hi]) ?_
  refine zV_if_neB hX (tgt := 26) dX11_signedOf_19 (by decide) (fun c_19 => ?_) (fun c_19 => absurd c_19 (by decide))
  refine zV_iconst hX (v := nI 0) dX11_signedOf_26 (by decide) ?_
  refine zV_iconst hX (v := nI 1) dX11_signedOf_27 (by decide) ?_
  refine zV_iconst hX (v := nI 0) dX11_signedOf_28 (by decide) ?_
  refine zV_cV3p hX hR hl dX11_signedOf_29 (zc_badF0 l G _ _ zw_same) zt_X11_bad rfl zml_X11_166 zo300.1 ⟨by decide, by decide⟩ (Nat.le_of_ble_eq_true rfl) ?_
  dsimp only [Option.toList, List.cons_append, List.nil_append]
  refine zV_if_neB hX (tgt := 58) dX11_signedOf_32 (by decide) (fun c_32 => absurd c_32 (by decide)) (fun c_32 => ?_)
  refine zV_aload_n hX dX11_signedOf_35 rfl ?_
  refine zV_iload_n hX dX11_signedOf_36 rfl ?_
  refine zV_iconst hX (v := nI 0) dX11_signedOf_37 (by decide) ?_
  refine zV_iconst hX (v := nI 3) dX11_signedOf_38 (by decide) ?_
  refine zV_cS3p hX hR hl dX11_signedOf_39 (zc_min l G _ _ _ _) zt_X11_in rfl zml_X11_162 (by decide) (Nat.le_of_ble_eq_true rfl) ?_
  dsimp only [Option.toList, List.cons_append, List.nil_append]
  refine zV_topi (zb true) (by rw [mIn_nI (by omega) (by omega) (by omega), decide_eq_false (by omega), Bool.not_false]) ?_
  refine zV_if_neB hX (tgt := 49) dX11_signedOf_42 (by decide) (fun c_42 => ?_) (fun c_42 => absurd c_42 (by decide))
  refine zV_iconst hX (v := nI 0) dX11_signedOf_49 (by decide) ?_
  refine zV_iconst hX (v := nI 2) dX11_signedOf_50 (by decide) ?_
  refine zV_iconst hX (v := nI 1) dX11_signedOf_51 (by decide) ?_
  refine zV_cV3p hX hR hl dX11_signedOf_52 (zc_badF1 l G _ _ zw_same) zt_X11_bad rfl zml_X11_166 zo300.1 ⟨by decide, by decide⟩ (Nat.le_of_ble_eq_true rfl) ?_
  dsimp only [Option.toList, List.cons_append, List.nil_append]
  refine zV_if_eqB hX (tgt := 60) dX11_signedOf_55 (by decide) (fun c_55 => ?_) (fun c_55 => absurd c_55 (by decide))
  refine zV_aload_n hX dX11_signedOf_60 rfl ?_
  refine zV_iload_n hX dX11_signedOf_61 rfl ?_
  refine zV_cV1p hX hR hl dX11_signedOf_62 (zc_signs l G (m0 M) n j t mn ((zw_ne (by omega)).trans hn) hn7 ((zw_ne (by omega)).trans ht) ht2 (by omega) hmn0) zt_X11_signs rfl zml_X11_435 zo300.1 ⟨by decide, by decide⟩ (Nat.le_of_ble_eq_true rfl) ?_
  dsimp only [Option.toList, List.cons_append, List.nil_append]
  refine zV_mem hR9.symm ?_
  refine zV_iload_n hX dX11_signedOf_65 rfl ?_
  refine zV_if_neN hX (tgt := 77) dX11_signedOf_66 (by decide) (by omega) (fun c_66 => ?_) (fun c_66 => ?_)
  · refine zV_iload_n hX dX11_signedOf_77 rfl ?_
    refine zV_iconst hX (v := nI 1) dX11_signedOf_78 (by decide) ?_
    refine zV_icmp_neN hX (tgt := 91) dX11_signedOf_79 (by decide) ⟨by omega, by omega⟩ (fun c_79 => ?_) (fun c_79 => ?_)
    · refine zV_iload_n hX dX11_signedOf_91 rfl ?_
      refine zV_iconst hX (v := nI 2) dX11_signedOf_92 (by decide) ?_
      refine zV_icmp_neN hX (tgt := 105) dX11_signedOf_93 (by decide) ⟨by omega, by omega⟩ (fun c_93 => ?_) (fun c_93 => ?_)
      · refine zV_aload_n hX dX11_signedOf_105 rfl ?_
        refine zV_geta hX dX11_signedOf_106 zf_X11_71 zo300.1 rfl ?_
        refine zV_iload_n hX dX11_signedOf_109 rfl ?_
        refine zV_iald hX dX11_signedOf_110 (zo300.a 33 rfl) (rfl) ⟨by omega, by omega⟩ (rfl) ?_
        exact zV_reti hX hQ hr (⟨by first | (rw [← hR9, if_pos c_66]; done) | (rw [← hR9, if_neg (by omega), if_pos c_79]; done) | (rw [← hR9, if_neg (by omega), if_neg (by omega), if_pos c_93]; done) | (rw [← hR9, if_neg (by omega), if_neg (by omega), if_neg (by omega)]; done), hR9⟩) dX11_signedOf_111
      · refine zV_aload_n hX dX11_signedOf_96 rfl ?_
        refine zV_geta hX dX11_signedOf_97 zf_X11_68 zo300.1 rfl ?_
        refine zV_iload_n hX dX11_signedOf_100 rfl ?_
        refine zV_iald hX dX11_signedOf_101 (zo300.a 32 rfl) (rfl) ⟨by omega, by omega⟩ (rfl) ?_
        refine zV_goto hX (tgt := 111) dX11_signedOf_102 (by decide) ?_
        exact zV_reti hX hQ hr (⟨by first | (rw [← hR9, if_pos c_66]; done) | (rw [← hR9, if_neg (by omega), if_pos c_79]; done) | (rw [← hR9, if_neg (by omega), if_neg (by omega), if_pos c_93]; done) | (rw [← hR9, if_neg (by omega), if_neg (by omega), if_neg (by omega)]; done), hR9⟩) dX11_signedOf_111
    · refine zV_aload_n hX dX11_signedOf_82 rfl ?_
      refine zV_geta hX dX11_signedOf_83 zf_X11_65 zo300.1 rfl ?_
      refine zV_iload_n hX dX11_signedOf_86 rfl ?_
      refine zV_iald hX dX11_signedOf_87 (zo300.a 31 rfl) (rfl) ⟨by omega, by omega⟩ (rfl) ?_
      refine zV_goto hX (tgt := 111) dX11_signedOf_88 (by decide) ?_
      exact zV_reti hX hQ hr (⟨by first | (rw [← hR9, if_pos c_66]; done) | (rw [← hR9, if_neg (by omega), if_pos c_79]; done) | (rw [← hR9, if_neg (by omega), if_neg (by omega), if_pos c_93]; done) | (rw [← hR9, if_neg (by omega), if_neg (by omega), if_neg (by omega)]; done), hR9⟩) dX11_signedOf_111
  · refine zV_aload_n hX dX11_signedOf_69 rfl ?_
    refine zV_iload_n hX dX11_signedOf_70 rfl ?_
    refine zV_cV1p hX hR hl dX11_signedOf_71 (zc_signedBy l G R j i h41 (by omega) (by omega)) zt_X11_signedBy rfl zml_X11_432 zo300.1 ⟨by decide, by decide⟩ (Nat.le_of_ble_eq_true rfl) ?_
    dsimp only [Option.toList, List.cons_append, List.nil_append]
    refine zV_goto hX (tgt := 111) dX11_signedOf_74 (by decide) ?_
    exact zV_reti hX hQ hr (⟨by first | (rw [← hR9, if_pos c_66]; done) | (rw [← hR9, if_neg (by omega), if_pos c_79]; done) | (rw [← hR9, if_neg (by omega), if_neg (by omega), if_pos c_93]; done) | (rw [← hR9, if_neg (by omega), if_neg (by omega), if_neg (by omega)]; done), hR9⟩) dX11_signedOf_111
set_option maxHeartbeats 1000000 in
theorem zc_msignedOfX (l : Launch) (G : zG) (M : zM) (n : Nat) (x z k : Int32) (hn : M.1 300 9 = nI n) (hn7 : n ≤ 7) (h0 : 1 ≤ n) (hx : zmem x n = false) : zC l G 4 yX11_signedOf cX11_signedOf 4 (Option.some Jvm.ClassFile.FieldType.int) [.ref (300 : Nat), .int x, .int z, .int k] M (zP (some (.int (nI 0))) (mTw (nI 1) (nI 0) M)) := by
  refine zC_of (by decide) (Nat.le_of_ble_eq_true rfl) (fun X Q hQ hX hl hR hr => ?_)
  refine zV_loc (L' := [.ref (300 : Nat), .int x, .int z, .int k]) rfl ?_
  refine zV_aload_n hX dX11_signedOf_0 rfl ?_
  refine zV_iconst hX (v := nI 0) dX11_signedOf_1 (by decide) ?_
  refine zV_puti hX dX11_signedOf_2 zf_X11_149 zp_9_0 zo300.1 rfl ?_
  refine zV_aload_n hX dX11_signedOf_5 rfl ?_
  refine zV_aload_n hX dX11_signedOf_6 rfl ?_
  refine zV_iload_n hX dX11_signedOf_7 rfl ?_
  refine zV_cV1p hX hR hl dX11_signedOf_8 (zc_isMember l G _ n _ ((zw_ne (by omega)).trans hn) hn7 h0) zt_X11_isMember rfl zml_X11_179 zo300.1 ⟨by decide, by decide⟩ (Nat.le_of_ble_eq_true rfl) ?_
  dsimp only [Option.toList, List.cons_append, List.nil_append]
  refine zV_topi (zb false) (by rw [hx]) ?_
  refine zV_if_eqB hX (tgt := 22) dX11_signedOf_11 (by decide) (fun c_11 => ?_) (fun c_11 => absurd c_11 (by decide))
  refine zV_iconst hX (v := nI 1) dX11_signedOf_22 (by decide) ?_
  refine zV_goto hX (tgt := 27) dX11_signedOf_23 (by decide) ?_
  refine zV_iconst hX (v := nI 1) dX11_signedOf_27 (by decide) ?_
  refine zV_iconst hX (v := nI 0) dX11_signedOf_28 (by decide) ?_
  refine zV_cV3p hX hR hl dX11_signedOf_29 (zc_badT0 l G _ _ zw_same (by decide)) zt_X11_bad rfl zml_X11_166 zo300.1 ⟨by decide, by decide⟩ (Nat.le_of_ble_eq_true rfl) ?_
  dsimp only [Option.toList, List.cons_append, List.nil_append]
  refine zV_if_neB hX (tgt := 58) dX11_signedOf_32 (by decide) (fun c_32 => ?_) (fun c_32 => absurd c_32 (by decide))
  refine zV_iconst hX (v := nI 0) dX11_signedOf_58 (by decide) ?_
  exact zV_reti hX hQ hr (⟨rfl, rfl⟩) dX11_signedOf_59
set_option maxHeartbeats 1000000 in
theorem zc_msignedOfZ (l : Launch) (G : zG) (M : zM) (n j : Nat) (z k : Int32) (hn : M.1 300 9 = nI n) (hn7 : n ≤ 7) (h0 : 1 ≤ n) (hj : j < n) (hx : zmem z n = false) : zC l G 4 yX11_signedOf cX11_signedOf 4 (Option.some Jvm.ClassFile.FieldType.int) [.ref (300 : Nat), .int (nI j), .int z, .int k] M (zP (some (.int (nI 0))) (mTw (nI 1) (nI 0) M)) := by
  refine zC_of (by decide) (Nat.le_of_ble_eq_true rfl) (fun X Q hQ hX hl hR hr => ?_)
  refine zV_loc (L' := [.ref (300 : Nat), .int (nI j), .int z, .int k]) rfl ?_
  refine zV_aload_n hX dX11_signedOf_0 rfl ?_
  refine zV_iconst hX (v := nI 0) dX11_signedOf_1 (by decide) ?_
  refine zV_puti hX dX11_signedOf_2 zf_X11_149 zp_9_0 zo300.1 rfl ?_
  refine zV_aload_n hX dX11_signedOf_5 rfl ?_
  refine zV_aload_n hX dX11_signedOf_6 rfl ?_
  refine zV_iload_n hX dX11_signedOf_7 rfl ?_
  refine zV_cV1p hX hR hl dX11_signedOf_8 (zc_isMember l G _ n _ ((zw_ne (by omega)).trans hn) hn7 h0) zt_X11_isMember rfl zml_X11_179 zo300.1 ⟨by decide, by decide⟩ (Nat.le_of_ble_eq_true rfl) ?_
  dsimp only [Option.toList, List.cons_append, List.nil_append]
  refine zV_topi (zb true) (by rw [zmem_nI (by omega) (by omega), decide_eq_true hj]) ?_
  refine zV_if_eqB hX (tgt := 22) dX11_signedOf_11 (by decide) (fun c_11 => absurd c_11 (by decide)) (fun c_11 => ?_)
  refine zV_aload_n hX dX11_signedOf_14 rfl ?_
  refine zV_iload_n hX dX11_signedOf_15 rfl ?_
  refine zV_cV1p hX hR hl dX11_signedOf_16 (zc_isMember l G _ n _ ((zw_ne (by omega)).trans hn) hn7 h0) zt_X11_isMember rfl zml_X11_179 zo300.1 ⟨by decide, by decide⟩ (Nat.le_of_ble_eq_true rfl) ?_
  dsimp only [Option.toList, List.cons_append, List.nil_append]
  refine zV_topi (zb false) (by rw [hx]) ?_
  refine zV_if_neB hX (tgt := 26) dX11_signedOf_19 (by decide) (fun c_19 => absurd c_19 (by decide)) (fun c_19 => ?_)
  refine zV_iconst hX (v := nI 1) dX11_signedOf_22 (by decide) ?_
  refine zV_goto hX (tgt := 27) dX11_signedOf_23 (by decide) ?_
  refine zV_iconst hX (v := nI 1) dX11_signedOf_27 (by decide) ?_
  refine zV_iconst hX (v := nI 0) dX11_signedOf_28 (by decide) ?_
  refine zV_cV3p hX hR hl dX11_signedOf_29 (zc_badT0 l G _ _ zw_same (by decide)) zt_X11_bad rfl zml_X11_166 zo300.1 ⟨by decide, by decide⟩ (Nat.le_of_ble_eq_true rfl) ?_
  dsimp only [Option.toList, List.cons_append, List.nil_append]
  refine zV_if_neB hX (tgt := 58) dX11_signedOf_32 (by decide) (fun c_32 => ?_) (fun c_32 => absurd c_32 (by decide))
  refine zV_iconst hX (v := nI 0) dX11_signedOf_58 (by decide) ?_
  exact zV_reti hX hQ hr (⟨rfl, rfl⟩) dX11_signedOf_59
set_option maxHeartbeats 1000000 in
theorem zc_msignedOfK (l : Launch) (G : zG) (M : zM) (n j i : Nat) (k : Int32) (hn : M.1 300 9 = nI n) (hn7 : n ≤ 7) (h0 : 1 ≤ n) (hj : j < n) (hi : i < n) (hk : mIn k (nI 0) (nI 3) = false) : zC l G 4 yX11_signedOf cX11_signedOf 4 (Option.some Jvm.ClassFile.FieldType.int) [.ref (300 : Nat), .int (nI j), .int (nI i), .int k] M (zP (some (.int (nI 0))) (mTw (nI 2) (nI 1) M)) := by
  refine zC_of (by decide) (Nat.le_of_ble_eq_true rfl) (fun X Q hQ hX hl hR hr => ?_)
  refine zV_loc (L' := [.ref (300 : Nat), .int (nI j), .int (nI i), .int k]) rfl ?_
  refine zV_aload_n hX dX11_signedOf_0 rfl ?_
  refine zV_iconst hX (v := nI 0) dX11_signedOf_1 (by decide) ?_
  refine zV_puti hX dX11_signedOf_2 zf_X11_149 zp_9_0 zo300.1 rfl ?_
  refine zV_aload_n hX dX11_signedOf_5 rfl ?_
  refine zV_aload_n hX dX11_signedOf_6 rfl ?_
  refine zV_iload_n hX dX11_signedOf_7 rfl ?_
  refine zV_cV1p hX hR hl dX11_signedOf_8 (zc_isMember l G _ n _ ((zw_ne (by omega)).trans hn) hn7 h0) zt_X11_isMember rfl zml_X11_179 zo300.1 ⟨by decide, by decide⟩ (Nat.le_of_ble_eq_true rfl) ?_
  dsimp only [Option.toList, List.cons_append, List.nil_append]
  refine zV_topi (zb true) (by rw [zmem_nI (by omega) (by omega), decide_eq_true hj]) ?_
  refine zV_if_eqB hX (tgt := 22) dX11_signedOf_11 (by decide) (fun c_11 => absurd c_11 (by decide)) (fun c_11 => ?_)
  refine zV_aload_n hX dX11_signedOf_14 rfl ?_
  refine zV_iload_n hX dX11_signedOf_15 rfl ?_
  refine zV_cV1p hX hR hl dX11_signedOf_16 (zc_isMember l G _ n _ ((zw_ne (by omega)).trans hn) hn7 h0) zt_X11_isMember rfl zml_X11_179 zo300.1 ⟨by decide, by decide⟩ (Nat.le_of_ble_eq_true rfl) ?_
  dsimp only [Option.toList, List.cons_append, List.nil_append]
  refine zV_topi (zb true) (by rw [zmem_nI (by omega) (by omega), decide_eq_true hi]) ?_
  refine zV_if_neB hX (tgt := 26) dX11_signedOf_19 (by decide) (fun c_19 => ?_) (fun c_19 => absurd c_19 (by decide))
  refine zV_iconst hX (v := nI 0) dX11_signedOf_26 (by decide) ?_
  refine zV_iconst hX (v := nI 1) dX11_signedOf_27 (by decide) ?_
  refine zV_iconst hX (v := nI 0) dX11_signedOf_28 (by decide) ?_
  refine zV_cV3p hX hR hl dX11_signedOf_29 (zc_badF0 l G _ _ zw_same) zt_X11_bad rfl zml_X11_166 zo300.1 ⟨by decide, by decide⟩ (Nat.le_of_ble_eq_true rfl) ?_
  dsimp only [Option.toList, List.cons_append, List.nil_append]
  refine zV_if_neB hX (tgt := 58) dX11_signedOf_32 (by decide) (fun c_32 => absurd c_32 (by decide)) (fun c_32 => ?_)
  refine zV_aload_n hX dX11_signedOf_35 rfl ?_
  refine zV_iload_n hX dX11_signedOf_36 rfl ?_
  refine zV_iconst hX (v := nI 0) dX11_signedOf_37 (by decide) ?_
  refine zV_iconst hX (v := nI 3) dX11_signedOf_38 (by decide) ?_
  refine zV_cS3p hX hR hl dX11_signedOf_39 (zc_min l G _ _ _ _) zt_X11_in rfl zml_X11_162 (by decide) (Nat.le_of_ble_eq_true rfl) ?_
  dsimp only [Option.toList, List.cons_append, List.nil_append]
  refine zV_topi (zb false) (by rw [hk]) ?_
  refine zV_if_neB hX (tgt := 49) dX11_signedOf_42 (by decide) (fun c_42 => absurd c_42 (by decide)) (fun c_42 => ?_)
  refine zV_iconst hX (v := nI 1) dX11_signedOf_45 (by decide) ?_
  refine zV_goto hX (tgt := 50) dX11_signedOf_46 (by decide) ?_
  refine zV_iconst hX (v := nI 2) dX11_signedOf_50 (by decide) ?_
  refine zV_iconst hX (v := nI 1) dX11_signedOf_51 (by decide) ?_
  refine zV_cV3p hX hR hl dX11_signedOf_52 (zc_badT1 l G _ _ zw_same (by decide)) zt_X11_bad rfl zml_X11_166 zo300.1 ⟨by decide, by decide⟩ (Nat.le_of_ble_eq_true rfl) ?_
  dsimp only [Option.toList, List.cons_append, List.nil_append]
  refine zV_if_eqB hX (tgt := 60) dX11_signedOf_55 (by decide) (fun c_55 => absurd c_55 (by decide)) (fun c_55 => ?_)
  refine zV_iconst hX (v := nI 0) dX11_signedOf_58 (by decide) ?_
  exact zV_reti hX hQ hr (⟨rfl, rfl⟩) dX11_signedOf_59
def mKg (n t : Nat) (mn : Nat → Option Nat) (k : Nat) (M : zM) : zM := zfor (fun i M => mPhase n t mn i M) k (mCwn n M)
theorem mKg_K (n t : Nat) (mn : Nat → Option Nat) (k : Nat) (M : zM) : kK M (mKg n t mn k M) := (mCwn_K n M).tr (zKf.for k _ (fun i M _ => mPhase_K n t mn i M))
theorem kK.ln2 {M M1 : zM} (h : kK M M1) {mn : Nat → Option Nat} (e : mLn 0 M mn) : mLn 0 M1 mn := fun s hs => ⟨(h.1 _ _ (by unfold mFrK; omega)).trans (e s hs).1, (e s hs).2⟩
set_option maxHeartbeats 1000000 in
theorem zc_mking (l : Launch) (G : zG) (M : zM) (n t j k : Nat) (mn : Nat → Option Nat) (hn : M.1 300 9 = nI n) (hn7 : n ≤ 7) (h0 : 1 ≤ n) (ht : M.1 300 10 = nI t) (ht2 : t ≤ 2) (hj : j < n) (hk : k ≤ t + 1) (hmn : mLn 0 M mn) : zC l G 4 yX11_king cX11_king 4 (Option.some Jvm.ClassFile.FieldType.int) [.ref (300 : Nat), .int (nI j), .int (nI k)] M (zP (some (.int ((mKg n t mn k (m0 M)).1 343 j))) ((mKg n t mn k (m0 M)))) := by
  refine zC_of (by decide) (Nat.le_of_ble_eq_true rfl) (fun X Q hQ hX hl hR hr => ?_)
  refine zV_loc (L' := [.ref (300 : Nat), .int (nI j), .int (nI k), .null]) rfl ?_
  have hmn0 : mLn 0 (m0 M) mn := hmn
  have L63 : ∀ (f9 i : Nat), k - i < f9 → i ≤ k → zV G X Q 4 0 0 63 [.ref (300 : Nat), .int (nI j), .int (nI k), .int (nI i)] [] (mKg n t mn i (m0 M)) := by
    intro f9
    induction f9 with
    | zero => intro i hi1 hi2; exact absurd hi1 (Nat.not_lt_zero _)
    | succ f9 ih =>
      intro i hi1 hi2
      have hK := mKg_K n t mn i (m0 M)
      refine zV_iload_n hX dX11_king_63 rfl ?_
      refine zV_iload_n hX dX11_king_64 rfl ?_
      refine zV_icmp_geN hX (tgt := 79) dX11_king_65 (by decide) ⟨by omega, by omega⟩ (fun c_65 => ?_) (fun c_65 => ?_)
      · refine zV_aload_n hX dX11_king_79 rfl ?_
        refine zV_geta hX dX11_king_80 zf_X11_86 zo300.1 rfl ?_
        refine zV_iload_n hX dX11_king_83 rfl ?_
        refine zV_iald hX dX11_king_84 (zo300.a 42 rfl) (rfl) ⟨by omega, by omega⟩ (rfl) ?_
        exact zV_reti hX hQ hr (⟨by rw [show i = k by omega], by rw [show i = k by omega]⟩) dX11_king_85
      · refine zV_aload_n hX dX11_king_68 rfl ?_
        refine zV_iload_n hX dX11_king_69 rfl ?_
        refine zV_cV1p hX hR hl dX11_king_70 (zc_phase l G _ n t i mn (hK.at ((zw_ne (by omega)).trans hn) (by unfold mFrK; omega)) hn7 (hK.at ((zw_ne (by omega)).trans ht) (by unfold mFrK; omega)) ht2 (by omega) (kK.ln2 hK hmn0)) zt_X11_phase rfl zml_X11_454 zo300.1 ⟨by decide, by decide⟩ (Nat.le_of_ble_eq_true rfl) ?_
        dsimp only [Option.toList, List.cons_append, List.nil_append]
        refine zV_iincN hX (b := 1) dX11_king_73 rfl (by decide) ?_
        dsimp only [zst1, zst2, zclr, zc2]
        refine zV_goto hX (tgt := 63) dX11_king_76 (by decide) ?_
        exact ih (i + 1) (by omega) (by omega)
  refine zV_aload_n hX dX11_king_0 rfl ?_
  refine zV_iconst hX (v := nI 0) dX11_king_1 (by decide) ?_
  refine zV_puti hX dX11_king_2 zf_X11_149 zp_9_0 zo300.1 rfl ?_
  refine zV_aload_n hX dX11_king_5 rfl ?_
  refine zV_aload_n hX dX11_king_6 rfl ?_
  refine zV_iload_n hX dX11_king_7 rfl ?_
  refine zV_cV1p hX hR hl dX11_king_8 (zc_isMember l G _ n _ ((zw_ne (by omega)).trans hn) hn7 h0) zt_X11_isMember rfl zml_X11_179 zo300.1 ⟨by decide, by decide⟩ (Nat.le_of_ble_eq_true rfl) ?_
  dsimp only [Option.toList, List.cons_append, List.nil_append]
  refine zV_topi (zb true) (by rw [zmem_nI (by omega) (by omega), decide_eq_true hj]) ?_
  refine zV_if_neB hX (tgt := 18) dX11_king_11 (by decide) (fun c_11 => ?_) (fun c_11 => absurd c_11 (by decide))
  refine zV_iconst hX (v := nI 0) dX11_king_18 (by decide) ?_
  refine zV_iconst hX (v := nI 1) dX11_king_19 (by decide) ?_
  refine zV_iconst hX (v := nI 0) dX11_king_20 (by decide) ?_
  refine zV_cV3p hX hR hl dX11_king_21 (zc_badF0 l G _ _ zw_same) zt_X11_bad rfl zml_X11_166 zo300.1 ⟨by decide, by decide⟩ (Nat.le_of_ble_eq_true rfl) ?_
  dsimp only [Option.toList, List.cons_append, List.nil_append]
  refine zV_if_neB hX (tgt := 55) dX11_king_24 (by decide) (fun c_24 => absurd c_24 (by decide)) (fun c_24 => ?_)
  refine zV_aload_n hX dX11_king_27 rfl ?_
  refine zV_iload_n hX dX11_king_28 rfl ?_
  refine zV_iconst hX (v := nI 0) dX11_king_29 (by decide) ?_
  refine zV_aload_n hX dX11_king_30 rfl ?_
  refine zV_geti hX dX11_king_31 zf_X11_23 zo300.1 rfl ((zw_ne (by omega)).trans ht) ?_
  refine zV_iconst hX (v := nI 1) dX11_king_34 (by decide) ?_
  refine zV_iaddN hX dX11_king_35 ?_
  refine zV_cS3p hX hR hl dX11_king_36 (zc_min l G _ _ _ _) zt_X11_in rfl zml_X11_162 (by decide) (Nat.le_of_ble_eq_true rfl) ?_
  dsimp only [Option.toList, List.cons_append, List.nil_append]
  refine zV_topi (zb true) (by rw [mIn_nI (by omega) (by omega) (by omega), decide_eq_false (by omega), Bool.not_false]) ?_
  refine zV_if_neB hX (tgt := 46) dX11_king_39 (by decide) (fun c_39 => ?_) (fun c_39 => absurd c_39 (by decide))
  refine zV_iconst hX (v := nI 0) dX11_king_46 (by decide) ?_
  refine zV_iconst hX (v := nI 2) dX11_king_47 (by decide) ?_
  refine zV_iconst hX (v := nI 1) dX11_king_48 (by decide) ?_
  refine zV_cV3p hX hR hl dX11_king_49 (zc_badF1 l G _ _ zw_same) zt_X11_bad rfl zml_X11_166 zo300.1 ⟨by decide, by decide⟩ (Nat.le_of_ble_eq_true rfl) ?_
  dsimp only [Option.toList, List.cons_append, List.nil_append]
  refine zV_if_eqB hX (tgt := 57) dX11_king_52 (by decide) (fun c_52 => ?_) (fun c_52 => absurd c_52 (by decide))
  refine zV_aload_n hX dX11_king_57 rfl ?_
  refine zV_cV0p hX hR hl dX11_king_58 (zc_crowns l G (m0 M) n ((zw_ne (by omega)).trans hn) hn7) zt_X11_crowns rfl zml_X11_451 zo300.1 ⟨by decide, by decide⟩ (Nat.le_of_ble_eq_true rfl) ?_
  dsimp only [Option.toList, List.cons_append, List.nil_append]
  refine zV_iconst hX (v := nI 0) dX11_king_61 (by decide) ?_
  refine zV_istore_n hX dX11_king_62 (by decide) ?_
  dsimp only [zst1, zst2, zclr, zc2]
  exact L63 (k + 1) 0 (by omega) (by omega)
set_option maxHeartbeats 1000000 in
theorem zc_mkingX (l : Launch) (G : zG) (M : zM) (n : Nat) (x k : Int32) (hn : M.1 300 9 = nI n) (hn7 : n ≤ 7) (h0 : 1 ≤ n) (hx : zmem x n = false) : zC l G 4 yX11_king cX11_king 4 (Option.some Jvm.ClassFile.FieldType.int) [.ref (300 : Nat), .int x, .int k] M (zP (some (.int (nI 0))) (mTw (nI 1) (nI 0) M)) := by
  refine zC_of (by decide) (Nat.le_of_ble_eq_true rfl) (fun X Q hQ hX hl hR hr => ?_)
  refine zV_loc (L' := [.ref (300 : Nat), .int x, .int k, .null]) rfl ?_
  refine zV_aload_n hX dX11_king_0 rfl ?_
  refine zV_iconst hX (v := nI 0) dX11_king_1 (by decide) ?_
  refine zV_puti hX dX11_king_2 zf_X11_149 zp_9_0 zo300.1 rfl ?_
  refine zV_aload_n hX dX11_king_5 rfl ?_
  refine zV_aload_n hX dX11_king_6 rfl ?_
  refine zV_iload_n hX dX11_king_7 rfl ?_
  refine zV_cV1p hX hR hl dX11_king_8 (zc_isMember l G _ n _ ((zw_ne (by omega)).trans hn) hn7 h0) zt_X11_isMember rfl zml_X11_179 zo300.1 ⟨by decide, by decide⟩ (Nat.le_of_ble_eq_true rfl) ?_
  dsimp only [Option.toList, List.cons_append, List.nil_append]
  refine zV_topi (zb false) (by rw [hx]) ?_
  refine zV_if_neB hX (tgt := 18) dX11_king_11 (by decide) (fun c_11 => absurd c_11 (by decide)) (fun c_11 => ?_)
  refine zV_iconst hX (v := nI 1) dX11_king_14 (by decide) ?_
  refine zV_goto hX (tgt := 19) dX11_king_15 (by decide) ?_
  refine zV_iconst hX (v := nI 1) dX11_king_19 (by decide) ?_
  refine zV_iconst hX (v := nI 0) dX11_king_20 (by decide) ?_
  refine zV_cV3p hX hR hl dX11_king_21 (zc_badT0 l G _ _ zw_same (by decide)) zt_X11_bad rfl zml_X11_166 zo300.1 ⟨by decide, by decide⟩ (Nat.le_of_ble_eq_true rfl) ?_
  dsimp only [Option.toList, List.cons_append, List.nil_append]
  refine zV_if_neB hX (tgt := 55) dX11_king_24 (by decide) (fun c_24 => ?_) (fun c_24 => absurd c_24 (by decide))
  refine zV_iconst hX (v := nI 0) dX11_king_55 (by decide) ?_
  exact zV_reti hX hQ hr (⟨rfl, rfl⟩) dX11_king_56
set_option maxHeartbeats 1000000 in
theorem zc_mkingK (l : Launch) (G : zG) (M : zM) (n t j : Nat) (k : Int32) (hn : M.1 300 9 = nI n) (hn7 : n ≤ 7) (h0 : 1 ≤ n) (ht : M.1 300 10 = nI t) (ht2 : t ≤ 2) (hj : j < n) (hk : mIn k (nI 0) (nI (t + 1)) = false) : zC l G 4 yX11_king cX11_king 4 (Option.some Jvm.ClassFile.FieldType.int) [.ref (300 : Nat), .int (nI j), .int k] M (zP (some (.int (nI 0))) (mTw (nI 2) (nI 1) M)) := by
  refine zC_of (by decide) (Nat.le_of_ble_eq_true rfl) (fun X Q hQ hX hl hR hr => ?_)
  refine zV_loc (L' := [.ref (300 : Nat), .int (nI j), .int k, .null]) rfl ?_
  refine zV_aload_n hX dX11_king_0 rfl ?_
  refine zV_iconst hX (v := nI 0) dX11_king_1 (by decide) ?_
  refine zV_puti hX dX11_king_2 zf_X11_149 zp_9_0 zo300.1 rfl ?_
  refine zV_aload_n hX dX11_king_5 rfl ?_
  refine zV_aload_n hX dX11_king_6 rfl ?_
  refine zV_iload_n hX dX11_king_7 rfl ?_
  refine zV_cV1p hX hR hl dX11_king_8 (zc_isMember l G _ n _ ((zw_ne (by omega)).trans hn) hn7 h0) zt_X11_isMember rfl zml_X11_179 zo300.1 ⟨by decide, by decide⟩ (Nat.le_of_ble_eq_true rfl) ?_
  dsimp only [Option.toList, List.cons_append, List.nil_append]
  refine zV_topi (zb true) (by rw [zmem_nI (by omega) (by omega), decide_eq_true hj]) ?_
  refine zV_if_neB hX (tgt := 18) dX11_king_11 (by decide) (fun c_11 => ?_) (fun c_11 => absurd c_11 (by decide))
  refine zV_iconst hX (v := nI 0) dX11_king_18 (by decide) ?_
  refine zV_iconst hX (v := nI 1) dX11_king_19 (by decide) ?_
  refine zV_iconst hX (v := nI 0) dX11_king_20 (by decide) ?_
  refine zV_cV3p hX hR hl dX11_king_21 (zc_badF0 l G _ _ zw_same) zt_X11_bad rfl zml_X11_166 zo300.1 ⟨by decide, by decide⟩ (Nat.le_of_ble_eq_true rfl) ?_
  dsimp only [Option.toList, List.cons_append, List.nil_append]
  refine zV_if_neB hX (tgt := 55) dX11_king_24 (by decide) (fun c_24 => absurd c_24 (by decide)) (fun c_24 => ?_)
  refine zV_aload_n hX dX11_king_27 rfl ?_
  refine zV_iload_n hX dX11_king_28 rfl ?_
  refine zV_iconst hX (v := nI 0) dX11_king_29 (by decide) ?_
  refine zV_aload_n hX dX11_king_30 rfl ?_
  refine zV_geti hX dX11_king_31 zf_X11_23 zo300.1 rfl ((zw_ne (by omega)).trans ht) ?_
  refine zV_iconst hX (v := nI 1) dX11_king_34 (by decide) ?_
  refine zV_iaddN hX dX11_king_35 ?_
  refine zV_cS3p hX hR hl dX11_king_36 (zc_min l G _ _ _ _) zt_X11_in rfl zml_X11_162 (by decide) (Nat.le_of_ble_eq_true rfl) ?_
  dsimp only [Option.toList, List.cons_append, List.nil_append]
  refine zV_topi (zb false) (by rw [hk]) ?_
  refine zV_if_neB hX (tgt := 46) dX11_king_39 (by decide) (fun c_39 => absurd c_39 (by decide)) (fun c_39 => ?_)
  refine zV_iconst hX (v := nI 1) dX11_king_42 (by decide) ?_
  refine zV_goto hX (tgt := 47) dX11_king_43 (by decide) ?_
  refine zV_iconst hX (v := nI 2) dX11_king_47 (by decide) ?_
  refine zV_iconst hX (v := nI 1) dX11_king_48 (by decide) ?_
  refine zV_cV3p hX hR hl dX11_king_49 (zc_badT1 l G _ _ zw_same (by decide)) zt_X11_bad rfl zml_X11_166 zo300.1 ⟨by decide, by decide⟩ (Nat.le_of_ble_eq_true rfl) ?_
  dsimp only [Option.toList, List.cons_append, List.nil_append]
  refine zV_if_eqB hX (tgt := 57) dX11_king_52 (by decide) (fun c_52 => absurd c_52 (by decide)) (fun c_52 => ?_)
  refine zV_iconst hX (v := nI 0) dX11_king_55 (by decide) ?_
  exact zV_reti hX hQ hr (⟨rfl, rfl⟩) dX11_king_56
