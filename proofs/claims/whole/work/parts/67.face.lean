/-- refused: an argument; no such -/
def mBa (M : zM) : zM := zw M 0 11 (M.1 0 11 + nI 1)
def mBs (M : zM) : zM := zw M 0 10 (M.1 0 10 + nI 1)
theorem zo0 : zOb 8 0 := ⟨rfl, fun k kd n h => by
  match k, h with
  | 9, h => cases h; rfl
  | 0, h | 1, h | 2, h | 3, h | 4, h | 5, h | 6, h | 7, h | 8, h | 10, h | 11, h => cases h
  | _ + 12, h => cases h⟩
theorem mIn_t {v a b : Int32} (h1 : ¬ v < a) (h2 : ¬ b < v) : mIn v a b = true := by
  unfold mIn
  rw [decide_eq_true (Int32.not_lt.mp h1), decide_eq_true (Int32.not_lt.mp h2)]; rfl
theorem mIn_lo {v a b : Int32} (h1 : v < a) : mIn v a b = false := by
  unfold mIn
  rw [decide_eq_false (Int32.not_le.mpr h1)]; rfl
theorem mIn_hi {v a b : Int32} (h2 : b < v) : mIn v a b = false := by
  unfold mIn
  rw [decide_eq_false (Int32.not_le.mpr h2), Bool.and_false]
theorem mIn_e0 {v : Int32} (h : v = 0) : mIn v (nI 0) (nI 1) = true := by subst h; decide
theorem mIn_e1 {v : Int32} (h : v = nI 1) : mIn v (nI 0) (nI 1) = true := by subst h; decide
theorem mIn_n01 {v : Int32} (h0 : ¬ v = 0) (h1 : ¬ v = nI 1) : mIn v (nI 0) (nI 1) = false := by
  cases hb : mIn v (nI 0) (nI 1) with
  | false => rfl
  | true =>
    unfold mIn at hb
    rw [Bool.and_eq_true, decide_eq_true_iff, decide_eq_true_iff] at hb
    have q1 := Int32.le_iff_toInt_le.mp hb.1
    have q2 := Int32.le_iff_toInt_le.mp hb.2
    have e0 : (nI 0).toInt = 0 := rfl
    have e1 : (nI 1).toInt = 1 := rfl
    rw [e0] at q1; rw [e1] at q2
    rcases (by omega : v.toInt = 0 ∨ v.toInt = 1) with q | q
    · exact absurd (Int32.toInt_inj.mp (q.trans e0.symm)) h0
    · exact absurd (Int32.toInt_inj.mp (q.trans e1.symm)) h1
set_option maxHeartbeats 1000000 in
theorem zc_need1 (l : Launch) (G : zG) (M : zM)  : zC l G 0 yX10_need cX10_need 2 (Option.none : Option Jvm.ClassFile.FieldType) [.ref (0 : Nat), .int (zb true)] M (zP none M) := by
  refine zC_of (by decide) (Nat.le_of_ble_eq_true rfl) (fun X Q hQ hX hl hR hr => ?_)
  refine zV_loc (L' := [.ref (0 : Nat), .int (zb true)]) rfl ?_
  refine zV_iload_n hX dX10_need_0 rfl ?_
  refine zV_if_neB hX (tgt := 25) dX10_need_1 (by decide) (fun c_1 => ?_) (fun c_1 => absurd c_1 (by decide))
  exact zV_retv hX hQ hr (⟨rfl, rfl⟩) dX10_need_25
set_option maxHeartbeats 1000000 in
theorem zc_need0 (l : Launch) (G : zG) (M : zM) (hst : l.stackTraces = false)  : zCx l G 5 1 6 yX10_need cX10_need 2 (Option.none : Option Jvm.ClassFile.FieldType) [.ref (0 : Nat), .int (zb false)] M zIAE (zw M 0 11 (M.1 0 11 + nI 1)) := by
  refine zCx_of (by decide) (Nat.le_of_ble_eq_true rfl) (fun X Q hQ hX hl hR hEx ht => ?_)
  refine zV_loc (L' := [.ref (0 : Nat), .int (zb false)]) rfl ?_
  refine zV_iload_n hX dX10_need_0 rfl ?_
  refine zV_if_neB hX (tgt := 25) dX10_need_1 (by decide) (fun c_1 => absurd c_1 (by decide)) (fun c_1 => ?_)
  refine zV_aload_n hX dX10_need_4 rfl ?_
  refine zV_dup hX dX10_need_5 rfl ?_
  refine zV_geti hX dX10_need_6 zf_X10_338 zo0.1 rfl rfl ?_
  refine zV_iconst hX (v := nI 1) dX10_need_9 (by decide) ?_
  refine zV_iadd hX dX10_need_10 ?_
  refine zV_puti hX dX10_need_11 zf_X10_338 zp_8_11 zo0.1 rfl ?_
  exact zX_throw hX hEx (by rw [hl]; exact hst) hR (by decide) hQ ht zthr_need rfl dX10_need_14 dX10_need_17 dX10_need_18 dX10_need_21 dX10_need_24 (by decide)
set_option maxHeartbeats 1000000 in
theorem zc_such1 (l : Launch) (G : zG) (M : zM)  : zC l G 0 yX10_needSuch cX10_needSuch 2 (Option.none : Option Jvm.ClassFile.FieldType) [.ref (0 : Nat), .int (zb true)] M (zP none M) := by
  refine zC_of (by decide) (Nat.le_of_ble_eq_true rfl) (fun X Q hQ hX hl hR hr => ?_)
  refine zV_loc (L' := [.ref (0 : Nat), .int (zb true)]) rfl ?_
  refine zV_iload_n hX dX10_needSuch_0 rfl ?_
  refine zV_if_neB hX (tgt := 25) dX10_needSuch_1 (by decide) (fun c_1 => ?_) (fun c_1 => absurd c_1 (by decide))
  exact zV_retv hX hQ hr (⟨rfl, rfl⟩) dX10_needSuch_25
set_option maxHeartbeats 1000000 in
theorem zc_such0 (l : Launch) (G : zG) (M : zM) (hst : l.stackTraces = false)  : zCx l G 5 1 6 yX10_needSuch cX10_needSuch 2 (Option.none : Option Jvm.ClassFile.FieldType) [.ref (0 : Nat), .int (zb false)] M zNSE (zw M 0 10 (M.1 0 10 + nI 1)) := by
  refine zCx_of (by decide) (Nat.le_of_ble_eq_true rfl) (fun X Q hQ hX hl hR hEx ht => ?_)
  refine zV_loc (L' := [.ref (0 : Nat), .int (zb false)]) rfl ?_
  refine zV_iload_n hX dX10_needSuch_0 rfl ?_
  refine zV_if_neB hX (tgt := 25) dX10_needSuch_1 (by decide) (fun c_1 => absurd c_1 (by decide)) (fun c_1 => ?_)
  refine zV_aload_n hX dX10_needSuch_4 rfl ?_
  refine zV_dup hX dX10_needSuch_5 rfl ?_
  refine zV_geti hX dX10_needSuch_6 zf_X10_335 zo0.1 rfl rfl ?_
  refine zV_iconst hX (v := nI 1) dX10_needSuch_9 (by decide) ?_
  refine zV_iadd hX dX10_needSuch_10 ?_
  refine zV_puti hX dX10_needSuch_11 zf_X10_335 zp_8_10 zo0.1 rfl ?_
  exact zX_throw hX hEx (by rw [hl]; exact hst) hR (by decide) hQ ht zthr_such rfl dX10_needSuch_14 dX10_needSuch_17 dX10_needSuch_18 dX10_needSuch_21 dX10_needSuch_24 (by decide)
set_option maxHeartbeats 1000000 in
theorem zc_isFraction (l : Launch) (G : zG) (M : zM) (a b : Int32) : zC l G 0 yX10_isFraction cX10_isFraction 2 (Option.some Jvm.ClassFile.FieldType.boolean) [.int a, .int b] M (zP (some (.int (zb (mIn a (-99999) (nI 99999) && mIn b (nI 1) (nI 999))))) M) := by
  refine zC_of (by decide) (Nat.le_of_ble_eq_true rfl) (fun X Q hQ hX hl hR hr => ?_)
  refine zV_loc (L' := [.int a, .int b]) rfl ?_
  refine zV_iload_n hX dX10_isFraction_0 rfl ?_
  refine zV_ldcw hX dX10_isFraction_1 zkc_X10_353 ?_
  refine zV_icmp_lt hX (tgt := 30) dX10_isFraction_4 (by decide) (fun c_4 => ?_) (fun c_4 => ?_)
  · have e9 : (mIn a (-99999) (nI 99999) && mIn b (nI 1) (nI 999)) = false := by rw [mIn_lo c_4, Bool.false_and]
    refine zV_iconst hX (v := nI 0) dX10_isFraction_30 (by decide) ?_
    exact zV_retz hX hQ hr (rfl) (⟨by rw [e9]; rfl, rfl⟩) dX10_isFraction_31
  · refine zV_iload_n hX dX10_isFraction_7 rfl ?_
    refine zV_ldcw hX dX10_isFraction_8 zkc_X10_354 ?_
    refine zV_topi (nI 99999) (by decide) ?_
    refine zV_icmp_gt hX (tgt := 30) dX10_isFraction_11 (by decide) (fun c_11 => ?_) (fun c_11 => ?_)
    · have e9 : (mIn a (-99999) (nI 99999) && mIn b (nI 1) (nI 999)) = false := by rw [mIn_hi c_11, Bool.false_and]
      refine zV_iconst hX (v := nI 0) dX10_isFraction_30 (by decide) ?_
      exact zV_retz hX hQ hr (rfl) (⟨by rw [e9]; rfl, rfl⟩) dX10_isFraction_31
    · refine zV_iload_n hX dX10_isFraction_14 rfl ?_
      refine zV_iconst hX (v := nI 1) dX10_isFraction_15 (by decide) ?_
      refine zV_icmp_lt hX (tgt := 30) dX10_isFraction_16 (by decide) (fun c_16 => ?_) (fun c_16 => ?_)
      · have e9 : (mIn a (-99999) (nI 99999) && mIn b (nI 1) (nI 999)) = false := by rw [mIn_lo c_16, Bool.and_false]
        refine zV_iconst hX (v := nI 0) dX10_isFraction_30 (by decide) ?_
        exact zV_retz hX hQ hr (rfl) (⟨by rw [e9]; rfl, rfl⟩) dX10_isFraction_31
      · refine zV_iload_n hX dX10_isFraction_19 rfl ?_
        refine zV_sipush hX (v := nI 999) dX10_isFraction_20 (by decide) ?_
        refine zV_icmp_gt hX (tgt := 30) dX10_isFraction_23 (by decide) (fun c_23 => ?_) (fun c_23 => ?_)
        · have e9 : (mIn a (-99999) (nI 99999) && mIn b (nI 1) (nI 999)) = false := by rw [mIn_hi c_23, Bool.and_false]
          refine zV_iconst hX (v := nI 0) dX10_isFraction_30 (by decide) ?_
          exact zV_retz hX hQ hr (rfl) (⟨by rw [e9]; rfl, rfl⟩) dX10_isFraction_31
        · have e9 : (mIn a (-99999) (nI 99999) && mIn b (nI 1) (nI 999)) = true := by rw [mIn_t c_4 c_11, mIn_t c_16 c_23]; rfl
          refine zV_iconst hX (v := nI 1) dX10_isFraction_26 (by decide) ?_
          refine zV_goto hX (tgt := 31) dX10_isFraction_27 (by decide) ?_
          exact zV_retz hX hQ hr (rfl) (⟨by rw [e9]; rfl, rfl⟩) dX10_isFraction_31
set_option maxHeartbeats 1000000 in
theorem zc_isWayNearer (l : Launch) (G : zG) (M : zM) (s m : Int32) : zC l G 0 yX10_isWayNearer cX10_isWayNearer 2 (Option.some Jvm.ClassFile.FieldType.boolean) [.int s, .int m] M (zP (some (.int (zb (mIn s (nI 0) (nI 60) && mIn m (nI 0) (nI 1))))) M) := by
  refine zC_of (by decide) (Nat.le_of_ble_eq_true rfl) (fun X Q hQ hX hl hR hr => ?_)
  refine zV_loc (L' := [.int s, .int m]) rfl ?_
  refine zV_iload_n hX dX10_isWayNearer_0 rfl ?_
  refine zV_if_lt hX (tgt := 23) dX10_isWayNearer_1 (by decide) (fun c_1 => ?_) (fun c_1 => ?_)
  · have e9 : (mIn s (nI 0) (nI 60) && mIn m (nI 0) (nI 1)) = false := by rw [mIn_lo (show s < nI 0 from c_1), Bool.false_and]
    refine zV_iconst hX (v := nI 0) dX10_isWayNearer_23 (by decide) ?_
    exact zV_retz hX hQ hr (rfl) (⟨by rw [e9]; rfl, rfl⟩) dX10_isWayNearer_24
  · refine zV_iload_n hX dX10_isWayNearer_4 rfl ?_
    refine zV_bipush hX (v := nI 60) dX10_isWayNearer_5 (by decide) ?_
    refine zV_icmp_gt hX (tgt := 23) dX10_isWayNearer_7 (by decide) (fun c_7 => ?_) (fun c_7 => ?_)
    · have e9 : (mIn s (nI 0) (nI 60) && mIn m (nI 0) (nI 1)) = false := by rw [mIn_hi c_7, Bool.false_and]
      refine zV_iconst hX (v := nI 0) dX10_isWayNearer_23 (by decide) ?_
      exact zV_retz hX hQ hr (rfl) (⟨by rw [e9]; rfl, rfl⟩) dX10_isWayNearer_24
    · refine zV_iload_n hX dX10_isWayNearer_10 rfl ?_
      refine zV_if_eq hX (tgt := 19) dX10_isWayNearer_11 (by decide) (fun c_11 => ?_) (fun c_11 => ?_)
      · have e9 : (mIn s (nI 0) (nI 60) && mIn m (nI 0) (nI 1)) = true := by rw [mIn_t (show ¬ s < nI 0 from c_1) c_7, mIn_e0 c_11]; rfl
        refine zV_iconst hX (v := nI 1) dX10_isWayNearer_19 (by decide) ?_
        refine zV_goto hX (tgt := 24) dX10_isWayNearer_20 (by decide) ?_
        exact zV_retz hX hQ hr (rfl) (⟨by rw [e9]; rfl, rfl⟩) dX10_isWayNearer_24
      · refine zV_iload_n hX dX10_isWayNearer_14 rfl ?_
        refine zV_iconst hX (v := nI 1) dX10_isWayNearer_15 (by decide) ?_
        refine zV_icmp_ne hX (tgt := 23) dX10_isWayNearer_16 (by decide) (fun c_16 => ?_) (fun c_16 => ?_)
        · have e9 : (mIn s (nI 0) (nI 60) && mIn m (nI 0) (nI 1)) = false := by rw [mIn_n01 c_11 c_16, Bool.and_false]
          refine zV_iconst hX (v := nI 0) dX10_isWayNearer_23 (by decide) ?_
          exact zV_retz hX hQ hr (rfl) (⟨by rw [e9]; rfl, rfl⟩) dX10_isWayNearer_24
        · have e9 : (mIn s (nI 0) (nI 60) && mIn m (nI 0) (nI 1)) = true := by rw [mIn_t (show ¬ s < nI 0 from c_1) c_7, mIn_e1 c_16]; rfl
          refine zV_iconst hX (v := nI 1) dX10_isWayNearer_19 (by decide) ?_
          refine zV_goto hX (tgt := 24) dX10_isWayNearer_20 (by decide) ?_
          exact zV_retz hX hQ hr (rfl) (⟨by rw [e9]; rfl, rfl⟩) dX10_isWayNearer_24
