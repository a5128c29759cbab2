theorem zlv_tn (v : Int32) : (zlv v).toBitVec.toNat = v.toBitVec.toNat := by
  have e : (zlv v).toBitVec = v.toBitVec.setWidth 64 := by
    show (v.toBitVec.signExtend 64 &&& (4294967295 : Int64).toBitVec) = _
    rw [show (4294967295 : Int64).toBitVec = 4294967295#64 from rfl]
    apply BitVec.eq_of_getLsbD_eq
    intro i hi
    rw [BitVec.getLsbD_and, BitVec.getLsbD_setWidth, BitVec.getLsbD_signExtend]
    have hc : (4294967295#64).getLsbD i = decide (i < 32) := by
      have : ∀ j, j < 64 → (4294967295#64).getLsbD j = decide (j < 32) := by decide
      exact this i hi
    rw [hc]
    by_cases h : i < 32
    · simp [h, hi]
    · have h2 : v.toBitVec.getLsbD i = false := BitVec.getLsbD_of_ge _ _ (by omega)
      simp [h, h2]
  rw [e, BitVec.toNat_setWidth]
  exact Nat.mod_eq_of_lt (by have := v.toBitVec.isLt; omega)
theorem zlv_int (v : Int32) : (zlv v).toInt = v.toBitVec.toNat := by
  have h := zlv_tn v
  have hl := v.toBitVec.isLt
  show (zlv v).toBitVec.toInt = _
  rw [BitVec.toInt_eq_toNat_of_lt (by rw [h]; omega), h]
theorem zlv_i (v : Int32) : (zlv v).toInt32 = v := by
  have e : (zlv v).toInt32.toBitVec = v.toBitVec := by
    apply BitVec.eq_of_toNat_eq
    show ((zlv v).toBitVec.signExtend 32).toNat = _
    rw [BitVec.signExtend_eq_setWidth_of_le _ (by decide), BitVec.toNat_setWidth, zlv_tn]
    exact Nat.mod_eq_of_lt v.toBitVec.isLt
  exact Int32.toBitVec_inj.mp e
theorem zlv_ge (v : Int32) : 0 ≤ (zlv v).toInt := by rw [zlv_int]; omega
theorem zlv_1 (v : Int32) : ¬ lg_cmp (zlv v) (-1) = 0 := by
  have h := zlv_ge v
  have h1 : (-1 : Int64) < zlv v := by rw [Int64.lt_iff_toInt_lt]; show (-1 : Int) < _; omega
  simp [lg_cmp, h1]
theorem zlv_2 (v : Int32) : ¬ lg_cmp (zlv v) (-2) = 0 := by
  have h := zlv_ge v
  have h1 : (-2 : Int64) < zlv v := by rw [Int64.lt_iff_toInt_lt]; show (-2 : Int) < _; omega
  simp [lg_cmp, h1]
theorem zlv_0 (v : Int32) : 0 ≤ lg_cmp (zlv v) 0 := by
  rw [lg_cmp_ge, Int64.le_iff_toInt_le]
  exact zlv_ge v
def oCnt (o f : Nat) (M : zM) : zM := zw (zw M o 1 (M.1 o 1 + nI 1)) (o + 1 + 6) f (M.1 (o + 1 + 6) f + nI 1)
def oLost (o m f : Nat) (k : Nat) (M M1 : zM) : zM := zw (zw (zw M1 (o + 1 + 5) m (M.1 (o + 1 + 5) m + nI 1)) (o + 1 + 15) m (M.1 (o + 1 + 15) m ||| (nI 1 <<< (nI f &&& 31)))) o 2 (M.1 o 2 + nI k)
def oHear (o m f p : Nat) (w : Option (Option Int32)) (M : zM) : zM :=
  if bit (M.1 (o + 1 + 3) m) f then oKeep o m p (M.1 o 9) false (if w = none then M else oCnt o f M)
  else match w with
    | none => oKeep o m p (M.1 o 9) true (oLost o m f 0 M M)
    | some none => oKeep o m p (M.1 o 9) true (oLost o m f 1 M (oCnt o f M))
    | some (some v) => oKeep o m p v false (oCnt o f M)
set_option maxHeartbeats 1000000 in
theorem zc_hear_nd (l : Launch) (G : zG) (M : zM) (o m f p : Nat) (hO : zOb 5 o) (hm : m < 7) (hf : f < 7) (hp : p < 57) (hb : bit (M.1 (o + 1 + 3) m) f = true) : zC l G 1 yX6_hear cX6_hear 8 (Option.none : Option Jvm.ClassFile.FieldType) [.ref o, .int (nI m), .int (nI f), .int (nI p), .long (zlo none)] M (zP none (oHear o m f p none M)) := by
  refine zC_of (by decide) (Nat.le_of_ble_eq_true rfl) (fun X Q hQ hX hl hR hr => ?_)
  refine zV_loc (L' := [.ref o, .int (nI m), .int (nI f), .int (nI p), .long (zlo none), .null, .null, .null]) rfl ?_
  refine zV_lload hX dX6_hear_0 rfl ?_
  refine zV_ldc2 hX dX6_hear_2 zkc_X6_151 ?_
  refine zV_lcmp hX dX6_hear_5 ?_
  refine zV_if_eq hX (tgt := 29) dX6_hear_6 (by decide) (fun c_6 => ?_) (fun c_6 => absurd c_6 (by decide))
  refine zV_aload_n hX dX6_hear_29 rfl ?_
  refine zV_geta hX dX6_hear_30 zf_X6_15 hO.1 rfl ?_
  refine zV_iload_n hX dX6_hear_33 rfl ?_
  refine zV_iald hX (v := M.1 (o + 1 + 3) m) dX6_hear_34 (hO.a 3 rfl) (rfl) ⟨by omega, by omega⟩ (by (try simp only [oCnt, oLost, oKeep]); (repeat first | rw [zw_ne (by omega)] | rw [zw_same]); try rfl) ?_
  refine zV_iload_n hX dX6_hear_35 rfl ?_
  refine zV_cS2p hX hR hl dX6_hear_36 (zc_isIn l G _ _ f) zt_X9_isIn rfl zml_X6_124 (by decide) (Nat.le_of_ble_eq_true rfl) ?_
  dsimp only [Option.toList, List.cons_append, List.nil_append]
  refine zV_topi (zb true) (by rw [hb]) ?_
  refine zV_istore hX dX6_hear_39 (by decide) ?_
  dsimp only [zst1, zst2, zclr, zc2]
  refine zV_iload hX dX6_hear_41 rfl ?_
  refine zV_if_neB hX (tgt := 57) dX6_hear_43 (by decide) (fun c_43 => ?_) (fun c_43 => absurd c_43 (by decide))
  refine zV_iconst hX (v := nI 0) dX6_hear_57 (by decide) ?_
  refine zV_topi (zb false) rfl ?_
  refine zV_istore hX dX6_hear_58 (by decide) ?_
  dsimp only [zst1, zst2, zclr, zc2]
  refine zV_iload hX dX6_hear_60 rfl ?_
  refine zV_if_eqB hX (tgt := 110) dX6_hear_62 (by decide) (fun c_62 => ?_) (fun c_62 => absurd c_62 (by decide))
  refine zV_aload_n hX dX6_hear_110 rfl ?_
  refine zV_iload_n hX dX6_hear_111 rfl ?_
  refine zV_iload_n hX dX6_hear_112 rfl ?_
  refine zV_iload hX dX6_hear_113 rfl ?_
  refine zV_if_neB hX (tgt := 123) dX6_hear_115 (by decide) (fun c_115 => ?_) (fun c_115 => absurd c_115 (by decide))
  refine zV_aload_n hX dX6_hear_123 rfl ?_
  refine zV_geti hX (x := M.1 o 9) dX6_hear_124 zf_X6_75 hO.1 rfl (by (try simp only [oCnt, oLost, oKeep]); (repeat first | rw [zw_ne (by omega)] | rw [zw_same]); try rfl) ?_
  refine zV_goto hX (tgt := 133) dX6_hear_127 (by decide) ?_
  refine zV_iload hX dX6_hear_133 rfl ?_
  refine zV_cV4p hX hR hl dX6_hear_135 (zc_keep l G _ o m p _ false hO hm hp) zt_X6_keep rfl zml_X6_155 hO.1 ⟨by decide, by decide⟩ (Nat.le_of_ble_eq_true rfl) ?_
  dsimp only [Option.toList, List.cons_append, List.nil_append]
  exact zV_retv hX hQ hr (⟨rfl, by rw [oHear, hb]; rfl⟩) dX6_hear_138
set_option maxHeartbeats 1000000 in
theorem zc_hear_n (l : Launch) (G : zG) (M : zM) (o m f p : Nat) (hO : zOb 5 o) (hm : m < 7) (hf : f < 7) (hp : p < 57) (hb : bit (M.1 (o + 1 + 3) m) f = false) : zC l G 1 yX6_hear cX6_hear 8 (Option.none : Option Jvm.ClassFile.FieldType) [.ref o, .int (nI m), .int (nI f), .int (nI p), .long (zlo none)] M (zP none (oHear o m f p none M)) := by
  refine zC_of (by decide) (Nat.le_of_ble_eq_true rfl) (fun X Q hQ hX hl hR hr => ?_)
  refine zV_loc (L' := [.ref o, .int (nI m), .int (nI f), .int (nI p), .long (zlo none), .null, .null, .null]) rfl ?_
  refine zV_lload hX dX6_hear_0 rfl ?_
  refine zV_ldc2 hX dX6_hear_2 zkc_X6_151 ?_
  refine zV_lcmp hX dX6_hear_5 ?_
  refine zV_if_eq hX (tgt := 29) dX6_hear_6 (by decide) (fun c_6 => ?_) (fun c_6 => absurd c_6 (by decide))
  refine zV_aload_n hX dX6_hear_29 rfl ?_
  refine zV_geta hX dX6_hear_30 zf_X6_15 hO.1 rfl ?_
  refine zV_iload_n hX dX6_hear_33 rfl ?_
  refine zV_iald hX (v := M.1 (o + 1 + 3) m) dX6_hear_34 (hO.a 3 rfl) (rfl) ⟨by omega, by omega⟩ (by (try simp only [oCnt, oLost, oKeep]); (repeat first | rw [zw_ne (by omega)] | rw [zw_same]); try rfl) ?_
  refine zV_iload_n hX dX6_hear_35 rfl ?_
  refine zV_cS2p hX hR hl dX6_hear_36 (zc_isIn l G _ _ f) zt_X9_isIn rfl zml_X6_124 (by decide) (Nat.le_of_ble_eq_true rfl) ?_
  dsimp only [Option.toList, List.cons_append, List.nil_append]
  refine zV_topi (zb false) (by rw [hb]) ?_
  refine zV_istore hX dX6_hear_39 (by decide) ?_
  dsimp only [zst1, zst2, zclr, zc2]
  refine zV_iload hX dX6_hear_41 rfl ?_
  refine zV_if_neB hX (tgt := 57) dX6_hear_43 (by decide) (fun c_43 => absurd c_43 (by decide)) (fun c_43 => ?_)
  refine zV_lload hX dX6_hear_46 rfl ?_
  refine zV_lconst hX (v := 0) dX6_hear_48 rfl ?_
  refine zV_lcmp hX dX6_hear_49 ?_
  refine zV_if_ge hX (tgt := 57) dX6_hear_50 (by decide) (fun c_50 => absurd c_50 (by decide)) (fun c_50 => ?_)
  refine zV_iconst hX (v := nI 1) dX6_hear_53 (by decide) ?_
  refine zV_topi (zb true) rfl ?_
  refine zV_goto hX (tgt := 58) dX6_hear_54 (by decide) ?_
  refine zV_istore hX dX6_hear_58 (by decide) ?_
  dsimp only [zst1, zst2, zclr, zc2]
  refine zV_iload hX dX6_hear_60 rfl ?_
  refine zV_if_eqB hX (tgt := 110) dX6_hear_62 (by decide) (fun c_62 => absurd c_62 (by decide)) (fun c_62 => ?_)
  refine zV_aload_n hX dX6_hear_65 rfl ?_
  refine zV_geta hX dX6_hear_66 zf_X6_22 hO.1 rfl ?_
  refine zV_iload_n hX dX6_hear_69 rfl ?_
  refine zV_dup2 hX dX6_hear_70 rfl rfl ?_
  refine zV_iald hX (v := M.1 (o + 1 + 5) m) dX6_hear_71 (hO.a 5 rfl) (rfl) ⟨by omega, by omega⟩ (by (try simp only [oCnt, oLost, oKeep]); (repeat first | rw [zw_ne (by omega)] | rw [zw_same]); try rfl) ?_
  refine zV_iconst hX (v := nI 1) dX6_hear_72 (by decide) ?_
  refine zV_iadd hX dX6_hear_73 ?_
  refine zV_iast hX dX6_hear_74 (hO.a 5 rfl) (rfl) ⟨by omega, by omega⟩ ?_
  refine zV_aload_n hX dX6_hear_75 rfl ?_
  refine zV_geta hX dX6_hear_76 zf_X6_38 hO.1 rfl ?_
  refine zV_iload_n hX dX6_hear_79 rfl ?_
  refine zV_dup2 hX dX6_hear_80 rfl rfl ?_
  refine zV_iald hX (v := M.1 (o + 1 + 15) m) dX6_hear_81 (hO.a 15 rfl) (rfl) ⟨by omega, by omega⟩ (by (try simp only [oCnt, oLost, oKeep]); (repeat first | rw [zw_ne (by omega)] | rw [zw_same]); try rfl) ?_
  refine zV_iconst hX (v := nI 1) dX6_hear_82 (by decide) ?_
  refine zV_iload_n hX dX6_hear_83 rfl ?_
  refine zV_ishl hX dX6_hear_84 ?_
  refine zV_ior hX dX6_hear_85 ?_
  refine zV_iast hX dX6_hear_86 (hO.a 15 rfl) (rfl) ⟨by omega, by omega⟩ ?_
  refine zV_aload_n hX dX6_hear_87 rfl ?_
  refine zV_dup hX dX6_hear_88 rfl ?_
  refine zV_geti hX (x := M.1 o 2) dX6_hear_89 zf_X6_56 hO.1 rfl (by (try simp only [oCnt, oLost, oKeep]); (repeat first | rw [zw_ne (by omega)] | rw [zw_same]); try rfl) ?_
  refine zV_lload hX dX6_hear_92 rfl ?_
  refine zV_ldc2 hX dX6_hear_94 zkc_X6_153 ?_
  refine zV_lcmp hX dX6_hear_97 ?_
  refine zV_if_ne hX (tgt := 105) dX6_hear_98 (by decide) (fun c_98 => ?_) (fun c_98 => absurd c_98 (by decide))
  refine zV_iconst hX (v := nI 0) dX6_hear_105 (by decide) ?_
  refine zV_iadd hX dX6_hear_106 ?_
  refine zV_puti hX dX6_hear_107 zf_X6_56 zp_5_2 hO.1 rfl ?_
  refine zV_aload_n hX dX6_hear_110 rfl ?_
  refine zV_iload_n hX dX6_hear_111 rfl ?_
  refine zV_iload_n hX dX6_hear_112 rfl ?_
  refine zV_iload hX dX6_hear_113 rfl ?_
  refine zV_if_neB hX (tgt := 123) dX6_hear_115 (by decide) (fun c_115 => absurd c_115 (by decide)) (fun c_115 => ?_)
  refine zV_iload hX dX6_hear_118 rfl ?_
  refine zV_if_eqB hX (tgt := 130) dX6_hear_120 (by decide) (fun c_120 => absurd c_120 (by decide)) (fun c_120 => ?_)
  refine zV_aload_n hX dX6_hear_123 rfl ?_
  refine zV_geti hX (x := M.1 o 9) dX6_hear_124 zf_X6_75 hO.1 rfl (by (try simp only [oCnt, oLost, oKeep]); (repeat first | rw [zw_ne (by omega)] | rw [zw_same]); try rfl) ?_
  refine zV_goto hX (tgt := 133) dX6_hear_127 (by decide) ?_
  refine zV_iload hX dX6_hear_133 rfl ?_
  refine zV_cV4p hX hR hl dX6_hear_135 (zc_keep l G _ o m p _ true hO hm hp) zt_X6_keep rfl zml_X6_155 hO.1 ⟨by decide, by decide⟩ (Nat.le_of_ble_eq_true rfl) ?_
  dsimp only [Option.toList, List.cons_append, List.nil_append]
  exact zV_retv hX hQ hr (⟨rfl, by rw [oHear, hb]; rfl⟩) dX6_hear_138
set_option maxHeartbeats 1000000 in
theorem zc_hear_wd (l : Launch) (G : zG) (M : zM) (o m f p : Nat) (hO : zOb 5 o) (hm : m < 7) (hf : f < 7) (hp : p < 57) (hb : bit (M.1 (o + 1 + 3) m) f = true) : zC l G 1 yX6_hear cX6_hear 8 (Option.none : Option Jvm.ClassFile.FieldType) [.ref o, .int (nI m), .int (nI f), .int (nI p), .long (zlo (some none))] M (zP none (oHear o m f p (some none) M)) := by
  refine zC_of (by decide) (Nat.le_of_ble_eq_true rfl) (fun X Q hQ hX hl hR hr => ?_)
  refine zV_loc (L' := [.ref o, .int (nI m), .int (nI f), .int (nI p), .long (zlo (some none)), .null, .null, .null]) rfl ?_
  refine zV_lload hX dX6_hear_0 rfl ?_
  refine zV_ldc2 hX dX6_hear_2 zkc_X6_151 ?_
  refine zV_lcmp hX dX6_hear_5 ?_
  refine zV_if_eq hX (tgt := 29) dX6_hear_6 (by decide) (fun c_6 => absurd c_6 (by decide)) (fun c_6 => ?_)
  refine zV_aload_n hX dX6_hear_9 rfl ?_
  refine zV_dup hX dX6_hear_10 rfl ?_
  refine zV_geti hX dX6_hear_11 zf_X6_53 hO.1 rfl rfl ?_
  refine zV_iconst hX (v := nI 1) dX6_hear_14 (by decide) ?_
  refine zV_iadd hX dX6_hear_15 ?_
  refine zV_puti hX dX6_hear_16 zf_X6_53 zp_5_1 hO.1 rfl ?_
  refine zV_aload_n hX dX6_hear_19 rfl ?_
  refine zV_geta hX dX6_hear_20 zf_X6_25 hO.1 rfl ?_
  refine zV_iload_n hX dX6_hear_23 rfl ?_
  refine zV_dup2 hX dX6_hear_24 rfl rfl ?_
  refine zV_iald hX (v := M.1 (o + 1 + 6) f) dX6_hear_25 (hO.a 6 rfl) (rfl) ⟨by omega, by omega⟩ (by (try simp only [oCnt, oLost, oKeep]); (repeat first | rw [zw_ne (by omega)] | rw [zw_same]); try rfl) ?_
  refine zV_iconst hX (v := nI 1) dX6_hear_26 (by decide) ?_
  refine zV_iadd hX dX6_hear_27 ?_
  refine zV_iast hX dX6_hear_28 (hO.a 6 rfl) (rfl) ⟨by omega, by omega⟩ ?_
  refine zV_aload_n hX dX6_hear_29 rfl ?_
  refine zV_geta hX dX6_hear_30 zf_X6_15 hO.1 rfl ?_
  refine zV_iload_n hX dX6_hear_33 rfl ?_
  refine zV_iald hX (v := M.1 (o + 1 + 3) m) dX6_hear_34 (hO.a 3 rfl) (rfl) ⟨by omega, by omega⟩ (by (try simp only [oCnt, oLost, oKeep]); (repeat first | rw [zw_ne (by omega)] | rw [zw_same]); try rfl) ?_
  refine zV_iload_n hX dX6_hear_35 rfl ?_
  refine zV_cS2p hX hR hl dX6_hear_36 (zc_isIn l G _ _ f) zt_X9_isIn rfl zml_X6_124 (by decide) (Nat.le_of_ble_eq_true rfl) ?_
  dsimp only [Option.toList, List.cons_append, List.nil_append]
  refine zV_topi (zb true) (by rw [hb]) ?_
  refine zV_istore hX dX6_hear_39 (by decide) ?_
  dsimp only [zst1, zst2, zclr, zc2]
  refine zV_iload hX dX6_hear_41 rfl ?_
  refine zV_if_neB hX (tgt := 57) dX6_hear_43 (by decide) (fun c_43 => ?_) (fun c_43 => absurd c_43 (by decide))
  refine zV_iconst hX (v := nI 0) dX6_hear_57 (by decide) ?_
  refine zV_topi (zb false) rfl ?_
  refine zV_istore hX dX6_hear_58 (by decide) ?_
  dsimp only [zst1, zst2, zclr, zc2]
  refine zV_iload hX dX6_hear_60 rfl ?_
  refine zV_if_eqB hX (tgt := 110) dX6_hear_62 (by decide) (fun c_62 => ?_) (fun c_62 => absurd c_62 (by decide))
  refine zV_aload_n hX dX6_hear_110 rfl ?_
  refine zV_iload_n hX dX6_hear_111 rfl ?_
  refine zV_iload_n hX dX6_hear_112 rfl ?_
  refine zV_iload hX dX6_hear_113 rfl ?_
  refine zV_if_neB hX (tgt := 123) dX6_hear_115 (by decide) (fun c_115 => ?_) (fun c_115 => absurd c_115 (by decide))
  refine zV_aload_n hX dX6_hear_123 rfl ?_
  refine zV_geti hX (x := M.1 o 9) dX6_hear_124 zf_X6_75 hO.1 rfl (by (try simp only [oCnt, oLost, oKeep]); (repeat first | rw [zw_ne (by omega)] | rw [zw_same]); try rfl) ?_
  refine zV_goto hX (tgt := 133) dX6_hear_127 (by decide) ?_
  refine zV_iload hX dX6_hear_133 rfl ?_
  refine zV_cV4p hX hR hl dX6_hear_135 (zc_keep l G _ o m p _ false hO hm hp) zt_X6_keep rfl zml_X6_155 hO.1 ⟨by decide, by decide⟩ (Nat.le_of_ble_eq_true rfl) ?_
  dsimp only [Option.toList, List.cons_append, List.nil_append]
  exact zV_retv hX hQ hr (⟨rfl, by rw [oHear, hb]; rfl⟩) dX6_hear_138
set_option maxHeartbeats 1000000 in
theorem zc_hear_w (l : Launch) (G : zG) (M : zM) (o m f p : Nat) (hO : zOb 5 o) (hm : m < 7) (hf : f < 7) (hp : p < 57) (hb : bit (M.1 (o + 1 + 3) m) f = false) : zC l G 1 yX6_hear cX6_hear 8 (Option.none : Option Jvm.ClassFile.FieldType) [.ref o, .int (nI m), .int (nI f), .int (nI p), .long (zlo (some none))] M (zP none (oHear o m f p (some none) M)) := by
  refine zC_of (by decide) (Nat.le_of_ble_eq_true rfl) (fun X Q hQ hX hl hR hr => ?_)
  refine zV_loc (L' := [.ref o, .int (nI m), .int (nI f), .int (nI p), .long (zlo (some none)), .null, .null, .null]) rfl ?_
  refine zV_lload hX dX6_hear_0 rfl ?_
  refine zV_ldc2 hX dX6_hear_2 zkc_X6_151 ?_
  refine zV_lcmp hX dX6_hear_5 ?_
  refine zV_if_eq hX (tgt := 29) dX6_hear_6 (by decide) (fun c_6 => absurd c_6 (by decide)) (fun c_6 => ?_)
  refine zV_aload_n hX dX6_hear_9 rfl ?_
  refine zV_dup hX dX6_hear_10 rfl ?_
  refine zV_geti hX dX6_hear_11 zf_X6_53 hO.1 rfl rfl ?_
  refine zV_iconst hX (v := nI 1) dX6_hear_14 (by decide) ?_
  refine zV_iadd hX dX6_hear_15 ?_
  refine zV_puti hX dX6_hear_16 zf_X6_53 zp_5_1 hO.1 rfl ?_
  refine zV_aload_n hX dX6_hear_19 rfl ?_
  refine zV_geta hX dX6_hear_20 zf_X6_25 hO.1 rfl ?_
  refine zV_iload_n hX dX6_hear_23 rfl ?_
  refine zV_dup2 hX dX6_hear_24 rfl rfl ?_
  refine zV_iald hX (v := M.1 (o + 1 + 6) f) dX6_hear_25 (hO.a 6 rfl) (rfl) ⟨by omega, by omega⟩ (by (try simp only [oCnt, oLost, oKeep]); (repeat first | rw [zw_ne (by omega)] | rw [zw_same]); try rfl) ?_
  refine zV_iconst hX (v := nI 1) dX6_hear_26 (by decide) ?_
  refine zV_iadd hX dX6_hear_27 ?_
  refine zV_iast hX dX6_hear_28 (hO.a 6 rfl) (rfl) ⟨by omega, by omega⟩ ?_
  refine zV_aload_n hX dX6_hear_29 rfl ?_
  refine zV_geta hX dX6_hear_30 zf_X6_15 hO.1 rfl ?_
  refine zV_iload_n hX dX6_hear_33 rfl ?_
  refine zV_iald hX (v := M.1 (o + 1 + 3) m) dX6_hear_34 (hO.a 3 rfl) (rfl) ⟨by omega, by omega⟩ (by (try simp only [oCnt, oLost, oKeep]); (repeat first | rw [zw_ne (by omega)] | rw [zw_same]); try rfl) ?_
  refine zV_iload_n hX dX6_hear_35 rfl ?_
  refine zV_cS2p hX hR hl dX6_hear_36 (zc_isIn l G _ _ f) zt_X9_isIn rfl zml_X6_124 (by decide) (Nat.le_of_ble_eq_true rfl) ?_
  dsimp only [Option.toList, List.cons_append, List.nil_append]
  refine zV_topi (zb false) (by rw [hb]) ?_
  refine zV_istore hX dX6_hear_39 (by decide) ?_
  dsimp only [zst1, zst2, zclr, zc2]
  refine zV_iload hX dX6_hear_41 rfl ?_
  refine zV_if_neB hX (tgt := 57) dX6_hear_43 (by decide) (fun c_43 => absurd c_43 (by decide)) (fun c_43 => ?_)
  refine zV_lload hX dX6_hear_46 rfl ?_
  refine zV_lconst hX (v := 0) dX6_hear_48 rfl ?_
  refine zV_lcmp hX dX6_hear_49 ?_
  refine zV_if_ge hX (tgt := 57) dX6_hear_50 (by decide) (fun c_50 => absurd c_50 (by decide)) (fun c_50 => ?_)
  refine zV_iconst hX (v := nI 1) dX6_hear_53 (by decide) ?_
  refine zV_topi (zb true) rfl ?_
  refine zV_goto hX (tgt := 58) dX6_hear_54 (by decide) ?_
  refine zV_istore hX dX6_hear_58 (by decide) ?_
  dsimp only [zst1, zst2, zclr, zc2]
  refine zV_iload hX dX6_hear_60 rfl ?_
  refine zV_if_eqB hX (tgt := 110) dX6_hear_62 (by decide) (fun c_62 => absurd c_62 (by decide)) (fun c_62 => ?_)
  refine zV_aload_n hX dX6_hear_65 rfl ?_
  refine zV_geta hX dX6_hear_66 zf_X6_22 hO.1 rfl ?_
  refine zV_iload_n hX dX6_hear_69 rfl ?_
  refine zV_dup2 hX dX6_hear_70 rfl rfl ?_
  refine zV_iald hX (v := M.1 (o + 1 + 5) m) dX6_hear_71 (hO.a 5 rfl) (rfl) ⟨by omega, by omega⟩ (by (try simp only [oCnt, oLost, oKeep]); (repeat first | rw [zw_ne (by omega)] | rw [zw_same]); try rfl) ?_
  refine zV_iconst hX (v := nI 1) dX6_hear_72 (by decide) ?_
  refine zV_iadd hX dX6_hear_73 ?_
  refine zV_iast hX dX6_hear_74 (hO.a 5 rfl) (rfl) ⟨by omega, by omega⟩ ?_
  refine zV_aload_n hX dX6_hear_75 rfl ?_
  refine zV_geta hX dX6_hear_76 zf_X6_38 hO.1 rfl ?_
  refine zV_iload_n hX dX6_hear_79 rfl ?_
  refine zV_dup2 hX dX6_hear_80 rfl rfl ?_
  refine zV_iald hX (v := M.1 (o + 1 + 15) m) dX6_hear_81 (hO.a 15 rfl) (rfl) ⟨by omega, by omega⟩ (by (try simp only [oCnt, oLost, oKeep]); (repeat first | rw [zw_ne (by omega)] | rw [zw_same]); try rfl) ?_
  refine zV_iconst hX (v := nI 1) dX6_hear_82 (by decide) ?_
  refine zV_iload_n hX dX6_hear_83 rfl ?_
  refine zV_ishl hX dX6_hear_84 ?_
  refine zV_ior hX dX6_hear_85 ?_
  refine zV_iast hX dX6_hear_86 (hO.a 15 rfl) (rfl) ⟨by omega, by omega⟩ ?_
  refine zV_aload_n hX dX6_hear_87 rfl ?_
  refine zV_dup hX dX6_hear_88 rfl ?_
  refine zV_geti hX (x := M.1 o 2) dX6_hear_89 zf_X6_56 hO.1 rfl (by (try simp only [oCnt, oLost, oKeep]); (repeat first | rw [zw_ne (by omega)] | rw [zw_same]); try rfl) ?_
  refine zV_lload hX dX6_hear_92 rfl ?_
  refine zV_ldc2 hX dX6_hear_94 zkc_X6_153 ?_
  refine zV_lcmp hX dX6_hear_97 ?_
  refine zV_if_ne hX (tgt := 105) dX6_hear_98 (by decide) (fun c_98 => absurd c_98 (by decide)) (fun c_98 => ?_)
  refine zV_iconst hX (v := nI 1) dX6_hear_101 (by decide) ?_
  refine zV_goto hX (tgt := 106) dX6_hear_102 (by decide) ?_
  refine zV_iadd hX dX6_hear_106 ?_
  refine zV_puti hX dX6_hear_107 zf_X6_56 zp_5_2 hO.1 rfl ?_
  refine zV_aload_n hX dX6_hear_110 rfl ?_
  refine zV_iload_n hX dX6_hear_111 rfl ?_
  refine zV_iload_n hX dX6_hear_112 rfl ?_
  refine zV_iload hX dX6_hear_113 rfl ?_
  refine zV_if_neB hX (tgt := 123) dX6_hear_115 (by decide) (fun c_115 => absurd c_115 (by decide)) (fun c_115 => ?_)
  refine zV_iload hX dX6_hear_118 rfl ?_
  refine zV_if_eqB hX (tgt := 130) dX6_hear_120 (by decide) (fun c_120 => absurd c_120 (by decide)) (fun c_120 => ?_)
  refine zV_aload_n hX dX6_hear_123 rfl ?_
  refine zV_geti hX (x := M.1 o 9) dX6_hear_124 zf_X6_75 hO.1 rfl (by (try simp only [oCnt, oLost, oKeep]); (repeat first | rw [zw_ne (by omega)] | rw [zw_same]); try rfl) ?_
  refine zV_goto hX (tgt := 133) dX6_hear_127 (by decide) ?_
  refine zV_iload hX dX6_hear_133 rfl ?_
  refine zV_cV4p hX hR hl dX6_hear_135 (zc_keep l G _ o m p _ true hO hm hp) zt_X6_keep rfl zml_X6_155 hO.1 ⟨by decide, by decide⟩ (Nat.le_of_ble_eq_true rfl) ?_
  dsimp only [Option.toList, List.cons_append, List.nil_append]
  exact zV_retv hX hQ hr (⟨rfl, by rw [oHear, hb]; rfl⟩) dX6_hear_138
set_option maxHeartbeats 1000000 in
theorem zc_hear_vd (l : Launch) (G : zG) (M : zM) (o m f p : Nat) (v : Int32) (hO : zOb 5 o) (hm : m < 7) (hf : f < 7) (hp : p < 57) (hb : bit (M.1 (o + 1 + 3) m) f = true) : zC l G 1 yX6_hear cX6_hear 8 (Option.none : Option Jvm.ClassFile.FieldType) [.ref o, .int (nI m), .int (nI f), .int (nI p), .long (zlo (some (some v)))] M (zP none (oHear o m f p (some (some v)) M)) := by
  refine zC_of (by decide) (Nat.le_of_ble_eq_true rfl) (fun X Q hQ hX hl hR hr => ?_)
  refine zV_loc (L' := [.ref o, .int (nI m), .int (nI f), .int (nI p), .long (zlo (some (some v))), .null, .null, .null]) rfl ?_
  refine zV_lload hX dX6_hear_0 rfl ?_
  refine zV_ldc2 hX dX6_hear_2 zkc_X6_151 ?_
  refine zV_lcmp hX dX6_hear_5 ?_
  refine zV_if_eq hX (tgt := 29) dX6_hear_6 (by decide) (fun c_6 => absurd c_6 (zlv_1 v)) (fun c_6 => ?_)
  refine zV_aload_n hX dX6_hear_9 rfl ?_
  refine zV_dup hX dX6_hear_10 rfl ?_
  refine zV_geti hX dX6_hear_11 zf_X6_53 hO.1 rfl rfl ?_
  refine zV_iconst hX (v := nI 1) dX6_hear_14 (by decide) ?_
  refine zV_iadd hX dX6_hear_15 ?_
  refine zV_puti hX dX6_hear_16 zf_X6_53 zp_5_1 hO.1 rfl ?_
  refine zV_aload_n hX dX6_hear_19 rfl ?_
  refine zV_geta hX dX6_hear_20 zf_X6_25 hO.1 rfl ?_
  refine zV_iload_n hX dX6_hear_23 rfl ?_
  refine zV_dup2 hX dX6_hear_24 rfl rfl ?_
  refine zV_iald hX (v := M.1 (o + 1 + 6) f) dX6_hear_25 (hO.a 6 rfl) (rfl) ⟨by omega, by omega⟩ (by (try simp only [oCnt, oLost, oKeep]); (repeat first | rw [zw_ne (by omega)] | rw [zw_same]); try rfl) ?_
  refine zV_iconst hX (v := nI 1) dX6_hear_26 (by decide) ?_
  refine zV_iadd hX dX6_hear_27 ?_
  refine zV_iast hX dX6_hear_28 (hO.a 6 rfl) (rfl) ⟨by omega, by omega⟩ ?_
  refine zV_aload_n hX dX6_hear_29 rfl ?_
  refine zV_geta hX dX6_hear_30 zf_X6_15 hO.1 rfl ?_
  refine zV_iload_n hX dX6_hear_33 rfl ?_
  refine zV_iald hX (v := M.1 (o + 1 + 3) m) dX6_hear_34 (hO.a 3 rfl) (rfl) ⟨by omega, by omega⟩ (by (try simp only [oCnt, oLost, oKeep]); (repeat first | rw [zw_ne (by omega)] | rw [zw_same]); try rfl) ?_
  refine zV_iload_n hX dX6_hear_35 rfl ?_
  refine zV_cS2p hX hR hl dX6_hear_36 (zc_isIn l G _ _ f) zt_X9_isIn rfl zml_X6_124 (by decide) (Nat.le_of_ble_eq_true rfl) ?_
  dsimp only [Option.toList, List.cons_append, List.nil_append]
  refine zV_topi (zb true) (by rw [hb]) ?_
  refine zV_istore hX dX6_hear_39 (by decide) ?_
  dsimp only [zst1, zst2, zclr, zc2]
  refine zV_iload hX dX6_hear_41 rfl ?_
  refine zV_if_neB hX (tgt := 57) dX6_hear_43 (by decide) (fun c_43 => ?_) (fun c_43 => absurd c_43 (by decide))
  refine zV_iconst hX (v := nI 0) dX6_hear_57 (by decide) ?_
  refine zV_topi (zb false) rfl ?_
  refine zV_istore hX dX6_hear_58 (by decide) ?_
  dsimp only [zst1, zst2, zclr, zc2]
  refine zV_iload hX dX6_hear_60 rfl ?_
  refine zV_if_eqB hX (tgt := 110) dX6_hear_62 (by decide) (fun c_62 => ?_) (fun c_62 => absurd c_62 (by decide))
  refine zV_aload_n hX dX6_hear_110 rfl ?_
  refine zV_iload_n hX dX6_hear_111 rfl ?_
  refine zV_iload_n hX dX6_hear_112 rfl ?_
  refine zV_iload hX dX6_hear_113 rfl ?_
  refine zV_if_neB hX (tgt := 123) dX6_hear_115 (by decide) (fun c_115 => ?_) (fun c_115 => absurd c_115 (by decide))
  refine zV_aload_n hX dX6_hear_123 rfl ?_
  refine zV_geti hX (x := M.1 o 9) dX6_hear_124 zf_X6_75 hO.1 rfl (by (try simp only [oCnt, oLost, oKeep]); (repeat first | rw [zw_ne (by omega)] | rw [zw_same]); try rfl) ?_
  refine zV_goto hX (tgt := 133) dX6_hear_127 (by decide) ?_
  refine zV_iload hX dX6_hear_133 rfl ?_
  refine zV_cV4p hX hR hl dX6_hear_135 (zc_keep l G _ o m p _ false hO hm hp) zt_X6_keep rfl zml_X6_155 hO.1 ⟨by decide, by decide⟩ (Nat.le_of_ble_eq_true rfl) ?_
  dsimp only [Option.toList, List.cons_append, List.nil_append]
  exact zV_retv hX hQ hr (⟨rfl, by rw [oHear, hb]; rfl⟩) dX6_hear_138
set_option maxHeartbeats 1000000 in
theorem zc_hear_v (l : Launch) (G : zG) (M : zM) (o m f p : Nat) (v : Int32) (hO : zOb 5 o) (hm : m < 7) (hf : f < 7) (hp : p < 57) (hb : bit (M.1 (o + 1 + 3) m) f = false) : zC l G 1 yX6_hear cX6_hear 8 (Option.none : Option Jvm.ClassFile.FieldType) [.ref o, .int (nI m), .int (nI f), .int (nI p), .long (zlo (some (some v)))] M (zP none (oHear o m f p (some (some v)) M)) := by
  refine zC_of (by decide) (Nat.le_of_ble_eq_true rfl) (fun X Q hQ hX hl hR hr => ?_)
  refine zV_loc (L' := [.ref o, .int (nI m), .int (nI f), .int (nI p), .long (zlo (some (some v))), .null, .null, .null]) rfl ?_
  refine zV_lload hX dX6_hear_0 rfl ?_
  refine zV_ldc2 hX dX6_hear_2 zkc_X6_151 ?_
  refine zV_lcmp hX dX6_hear_5 ?_
  refine zV_if_eq hX (tgt := 29) dX6_hear_6 (by decide) (fun c_6 => absurd c_6 (zlv_1 v)) (fun c_6 => ?_)
  refine zV_aload_n hX dX6_hear_9 rfl ?_
  refine zV_dup hX dX6_hear_10 rfl ?_
  refine zV_geti hX dX6_hear_11 zf_X6_53 hO.1 rfl rfl ?_
  refine zV_iconst hX (v := nI 1) dX6_hear_14 (by decide) ?_
  refine zV_iadd hX dX6_hear_15 ?_
  refine zV_puti hX dX6_hear_16 zf_X6_53 zp_5_1 hO.1 rfl ?_
  refine zV_aload_n hX dX6_hear_19 rfl ?_
  refine zV_geta hX dX6_hear_20 zf_X6_25 hO.1 rfl ?_
  refine zV_iload_n hX dX6_hear_23 rfl ?_
  refine zV_dup2 hX dX6_hear_24 rfl rfl ?_
  refine zV_iald hX (v := M.1 (o + 1 + 6) f) dX6_hear_25 (hO.a 6 rfl) (rfl) ⟨by omega, by omega⟩ (by (try simp only [oCnt, oLost, oKeep]); (repeat first | rw [zw_ne (by omega)] | rw [zw_same]); try rfl) ?_
  refine zV_iconst hX (v := nI 1) dX6_hear_26 (by decide) ?_
  refine zV_iadd hX dX6_hear_27 ?_
  refine zV_iast hX dX6_hear_28 (hO.a 6 rfl) (rfl) ⟨by omega, by omega⟩ ?_
  refine zV_aload_n hX dX6_hear_29 rfl ?_
  refine zV_geta hX dX6_hear_30 zf_X6_15 hO.1 rfl ?_
  refine zV_iload_n hX dX6_hear_33 rfl ?_
  refine zV_iald hX (v := M.1 (o + 1 + 3) m) dX6_hear_34 (hO.a 3 rfl) (rfl) ⟨by omega, by omega⟩ (by (try simp only [oCnt, oLost, oKeep]); (repeat first | rw [zw_ne (by omega)] | rw [zw_same]); try rfl) ?_
  refine zV_iload_n hX dX6_hear_35 rfl ?_
  refine zV_cS2p hX hR hl dX6_hear_36 (zc_isIn l G _ _ f) zt_X9_isIn rfl zml_X6_124 (by decide) (Nat.le_of_ble_eq_true rfl) ?_
  dsimp only [Option.toList, List.cons_append, List.nil_append]
  refine zV_topi (zb false) (by rw [hb]) ?_
  refine zV_istore hX dX6_hear_39 (by decide) ?_
  dsimp only [zst1, zst2, zclr, zc2]
  refine zV_iload hX dX6_hear_41 rfl ?_
  refine zV_if_neB hX (tgt := 57) dX6_hear_43 (by decide) (fun c_43 => absurd c_43 (by decide)) (fun c_43 => ?_)
  refine zV_lload hX dX6_hear_46 rfl ?_
  refine zV_lconst hX (v := 0) dX6_hear_48 rfl ?_
  refine zV_lcmp hX dX6_hear_49 ?_
  refine zV_if_ge hX (tgt := 57) dX6_hear_50 (by decide) (fun c_50 => ?_) (fun c_50 => absurd c_50 (fun h => h (zlv_0 v)))
  refine zV_iconst hX (v := nI 0) dX6_hear_57 (by decide) ?_
  refine zV_topi (zb false) rfl ?_
  refine zV_istore hX dX6_hear_58 (by decide) ?_
  dsimp only [zst1, zst2, zclr, zc2]
  refine zV_iload hX dX6_hear_60 rfl ?_
  refine zV_if_eqB hX (tgt := 110) dX6_hear_62 (by decide) (fun c_62 => ?_) (fun c_62 => absurd c_62 (by decide))
  refine zV_aload_n hX dX6_hear_110 rfl ?_
  refine zV_iload_n hX dX6_hear_111 rfl ?_
  refine zV_iload_n hX dX6_hear_112 rfl ?_
  refine zV_iload hX dX6_hear_113 rfl ?_
  refine zV_if_neB hX (tgt := 123) dX6_hear_115 (by decide) (fun c_115 => absurd c_115 (by decide)) (fun c_115 => ?_)
  refine zV_iload hX dX6_hear_118 rfl ?_
  refine zV_if_eqB hX (tgt := 130) dX6_hear_120 (by decide) (fun c_120 => ?_) (fun c_120 => absurd c_120 (by decide))
  refine zV_lload hX dX6_hear_130 rfl ?_
  refine zV_l2i hX dX6_hear_132 ?_
  refine zV_topi v (zlv_i v) ?_
  refine zV_iload hX dX6_hear_133 rfl ?_
  refine zV_cV4p hX hR hl dX6_hear_135 (zc_keep l G _ o m p _ false hO hm hp) zt_X6_keep rfl zml_X6_155 hO.1 ⟨by decide, by decide⟩ (Nat.le_of_ble_eq_true rfl) ?_
  dsimp only [Option.toList, List.cons_append, List.nil_append]
  exact zV_retv hX hQ hr (⟨rfl, by rw [oHear, hb]; rfl⟩) dX6_hear_138
theorem zc_hear (l : Launch) (G : zG) (M : zM) (o m f p : Nat) (w : Option (Option Int32)) (hO : zOb 5 o) (hm : m < 7) (hf : f < 7) (hp : p < 57) : zC l G 1 yX6_hear cX6_hear 8 none [.ref o, .int (nI m), .int (nI f), .int (nI p), .long (zlo w)] M (zP none (oHear o m f p w M)) := by
  cases hb : bit (M.1 (o + 1 + 3) m) f with
  | true => match w with
    | none => exact zc_hear_nd l G M o m f p hO hm hf hp hb
    | some none => exact zc_hear_wd l G M o m f p hO hm hf hp hb
    | some (some v) => exact zc_hear_vd l G M o m f p v hO hm hf hp hb
  | false => match w with
    | none => exact zc_hear_n l G M o m f p hO hm hf hp hb
    | some none => exact zc_hear_w l G M o m f p hO hm hf hp hb
    | some (some v) => exact zc_hear_v l G M o m f p v hO hm hf hp hb
