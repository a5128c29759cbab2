-- PATHS of the model
def mThd (p : Nat) : Nat := (p - 8) % 7
def mIsIn (c p m : Nat) : Bool := decide (m = c) || (decide (0 < p) && decide (m = zsec p)) || (decide (8 ≤ p) && decide (m = mThd p))
def mPath (n c p : Nat) : Bool := decide (p = 0) || (decide (zsec p < n) && !decide (zsec p = c) && (decide (p < 8) || (decide (mThd p < n) && !decide (mThd p = c) && !decide (mThd p = zsec p))))
def mSec (p : Nat) : Int32 := if p = 0 then -1 else nI (zsec p)
def mThi (p : Nat) : Int32 := if p < 8 then -1 else nI (mThd p)
theorem zsec_lt {p : Nat} (h : p < 57) : zsec p < 8 := by unfold zsec; split <;> omega
theorem mThd_lt (p : Nat) : mThd p < 7 := Nat.mod_lt _ (by decide)
theorem nI_ne1 {a : Nat} (h : a < 2 ^ 31) : ¬ nI a = -1 := fun z => by
  have h3 := congrArg Int32.toInt z
  rw [toInt_nI' h] at h3
  have h4 : (-1 : Int32).toInt = -1 := by decide
  omega
set_option maxHeartbeats 1000000 in
theorem zc_lengthOf (l : Launch) (G : zG) (M : zM) (p : Nat) (hp : p < 57) : zC l G 0 yX11_lengthOf cX11_lengthOf 1 (Option.some Jvm.ClassFile.FieldType.int) [.int (nI p)] M (zP (some (.int (nI (zlen p)))) M) := by
  refine zC_of (by decide) (Nat.le_of_ble_eq_true rfl) (fun X Q hQ hX hl hR hr => ?_)
  refine zV_loc (L' := [.int (nI p)]) rfl ?_
  refine zV_iload_n hX dX11_lengthOf_0 rfl ?_
  refine zV_if_neN hX (tgt := 8) dX11_lengthOf_1 (by decide) (by omega) (fun c_1 => ?_) (fun c_1 => ?_)
  · refine zV_iload_n hX dX11_lengthOf_8 rfl ?_
    refine zV_bipush hX (v := nI 8) dX11_lengthOf_9 (by decide) ?_
    refine zV_icmp_geN hX (tgt := 18) dX11_lengthOf_11 (by decide) ⟨by omega, by omega⟩ (fun c_11 => ?_) (fun c_11 => ?_)
    · refine zV_iconst hX (v := nI 3) dX11_lengthOf_18 (by decide) ?_
      exact zV_reti hX hQ hr (⟨by unfold zlen; first | rw [if_pos (by omega)] | (rw [if_neg (by omega)]; first | rw [if_pos (by omega)] | rw [if_neg (by omega)]), rfl⟩) dX11_lengthOf_19
    · refine zV_iconst hX (v := nI 2) dX11_lengthOf_14 (by decide) ?_
      refine zV_goto hX (tgt := 19) dX11_lengthOf_15 (by decide) ?_
      exact zV_reti hX hQ hr (⟨by unfold zlen; first | rw [if_pos (by omega)] | (rw [if_neg (by omega)]; first | rw [if_pos (by omega)] | rw [if_neg (by omega)]), rfl⟩) dX11_lengthOf_19
  · refine zV_iconst hX (v := nI 1) dX11_lengthOf_4 (by decide) ?_
    refine zV_goto hX (tgt := 19) dX11_lengthOf_5 (by decide) ?_
    exact zV_reti hX hQ hr (⟨by unfold zlen; first | rw [if_pos (by omega)] | (rw [if_neg (by omega)]; first | rw [if_pos (by omega)] | rw [if_neg (by omega)]), rfl⟩) dX11_lengthOf_19
set_option maxHeartbeats 1000000 in
theorem zc_second (l : Launch) (G : zG) (M : zM) (p : Nat) (hp : p < 57) : zC l G 0 yX11_second cX11_second 1 (Option.some Jvm.ClassFile.FieldType.int) [.int (nI p)] M (zP (some (.int (mSec p))) M) := by
  refine zC_of (by decide) (Nat.le_of_ble_eq_true rfl) (fun X Q hQ hX hl hR hr => ?_)
  refine zV_loc (L' := [.int (nI p)]) rfl ?_
  refine zV_iload_n hX dX11_second_0 rfl ?_
  refine zV_if_neN hX (tgt := 8) dX11_second_1 (by decide) (by omega) (fun c_1 => ?_) (fun c_1 => ?_)
  · refine zV_iload_n hX dX11_second_8 rfl ?_
    refine zV_bipush hX (v := nI 8) dX11_second_9 (by decide) ?_
    refine zV_icmp_geN hX (tgt := 20) dX11_second_11 (by decide) ⟨by omega, by omega⟩ (fun c_11 => ?_) (fun c_11 => ?_)
    · refine zV_iload_n hX dX11_second_20 rfl ?_
      refine zV_bipush hX (v := nI 8) dX11_second_21 (by decide) ?_
      refine zV_isubN hX dX11_second_23 (by omega) ?_
      refine zV_bipush hX (v := nI 7) dX11_second_24 (by decide) ?_
      refine zV_idivN hX dX11_second_26 ⟨by omega, by decide, by decide⟩ ?_
      exact zV_reti hX hQ hr (⟨by unfold mSec; first | rw [if_pos (by omega)] | (rw [if_neg (by omega)]; unfold zsec; first | rw [if_pos (by omega)] | rw [if_neg (by omega)]), rfl⟩) dX11_second_27
    · refine zV_iload_n hX dX11_second_14 rfl ?_
      refine zV_iconst hX (v := nI 1) dX11_second_15 (by decide) ?_
      refine zV_isubN hX dX11_second_16 (by omega) ?_
      refine zV_goto hX (tgt := 27) dX11_second_17 (by decide) ?_
      exact zV_reti hX hQ hr (⟨by unfold mSec; first | rw [if_pos (by omega)] | (rw [if_neg (by omega)]; unfold zsec; first | rw [if_pos (by omega)] | rw [if_neg (by omega)]), rfl⟩) dX11_second_27
  · refine zV_iconst hX (v := (-1)) dX11_second_4 (by decide) ?_
    refine zV_goto hX (tgt := 27) dX11_second_5 (by decide) ?_
    exact zV_reti hX hQ hr (⟨by unfold mSec; first | rw [if_pos (by omega)] | (rw [if_neg (by omega)]; unfold zsec; first | rw [if_pos (by omega)] | rw [if_neg (by omega)]), rfl⟩) dX11_second_27
theorem mSec_p {p : Nat} (h : 0 < p) : mSec p = nI (zsec p) := if_neg (by omega)
theorem mThi_p {p : Nat} (h : 8 ≤ p) : mThi p = nI (mThd p) := if_neg (by omega)
set_option maxHeartbeats 1000000 in
theorem zc_third (l : Launch) (G : zG) (M : zM) (p : Nat) (hp : p < 57) : zC l G 0 yX11_third cX11_third 1 (Option.some Jvm.ClassFile.FieldType.int) [.int (nI p)] M (zP (some (.int (mThi p))) M) := by
  refine zC_of (by decide) (Nat.le_of_ble_eq_true rfl) (fun X Q hQ hX hl hR hr => ?_)
  refine zV_loc (L' := [.int (nI p)]) rfl ?_
  refine zV_iload_n hX dX11_third_0 rfl ?_
  refine zV_bipush hX (v := nI 8) dX11_third_1 (by decide) ?_
  refine zV_icmp_geN hX (tgt := 10) dX11_third_3 (by decide) ⟨by omega, by omega⟩ (fun c_3 => ?_) (fun c_3 => ?_)
  · refine zV_iload_n hX dX11_third_10 rfl ?_
    refine zV_bipush hX (v := nI 8) dX11_third_11 (by decide) ?_
    refine zV_isubN hX dX11_third_13 (by omega) ?_
    refine zV_bipush hX (v := nI 7) dX11_third_14 (by decide) ?_
    refine zV_iremN hX dX11_third_16 ⟨by omega, by decide, by decide⟩ ?_
    exact zV_reti hX hQ hr (⟨by unfold mThi; first | rw [if_pos (by omega)] | (rw [if_neg (by omega)]; rfl), rfl⟩) dX11_third_17
  · refine zV_iconst hX (v := (-1)) dX11_third_6 (by decide) ?_
    refine zV_goto hX (tgt := 17) dX11_third_7 (by decide) ?_
    exact zV_reti hX hQ hr (⟨by unfold mThi; first | rw [if_pos (by omega)] | (rw [if_neg (by omega)]; rfl), rfl⟩) dX11_third_17
set_option maxHeartbeats 1000000 in
theorem zc_longer (l : Launch) (G : zG) (M : zM) (p m : Nat) (hp : p < 8) : zC l G 1 yX11_longer cX11_longer 2 (Option.some Jvm.ClassFile.FieldType.int) [.int (nI p), .int (nI m)] M (zP (some (.int (nI (zlong p m)))) M) := by
  refine zC_of (by decide) (Nat.le_of_ble_eq_true rfl) (fun X Q hQ hX hl hR hr => ?_)
  refine zV_loc (L' := [.int (nI p), .int (nI m)]) rfl ?_
  refine zV_iload_n hX dX11_longer_0 rfl ?_
  refine zV_if_neN hX (tgt := 10) dX11_longer_1 (by decide) (by omega) (fun c_1 => ?_) (fun c_1 => ?_)
  · refine zV_bipush hX (v := nI 8) dX11_longer_10 (by decide) ?_
    refine zV_bipush hX (v := nI 7) dX11_longer_12 (by decide) ?_
    refine zV_iload_n hX dX11_longer_14 rfl ?_
    refine zV_cS1p hX hR hl dX11_longer_15 (zc_second l G M p (by omega)) zt_X11_second rfl zml_X11_301 (by decide) (Nat.le_of_ble_eq_true rfl) ?_
    dsimp only [Option.toList, List.cons_append, List.nil_append]
    refine zV_topi (nI (p - 1)) (by rw [mSec_p c_1]; unfold zsec; rw [if_pos hp]) ?_
    refine zV_imulN hX dX11_longer_18 ?_
    refine zV_iaddN hX dX11_longer_19 ?_
    refine zV_iload_n hX dX11_longer_20 rfl ?_
    refine zV_iaddN hX dX11_longer_21 ?_
    exact zV_reti hX hQ hr (⟨by unfold zlong; first | rw [if_pos (by omega)] | (rw [if_neg (by omega)]), rfl⟩) dX11_longer_22
  · refine zV_iconst hX (v := nI 1) dX11_longer_4 (by decide) ?_
    refine zV_iload_n hX dX11_longer_5 rfl ?_
    refine zV_iaddN hX dX11_longer_6 ?_
    refine zV_goto hX (tgt := 22) dX11_longer_7 (by decide) ?_
    exact zV_reti hX hQ hr (⟨by unfold zlong; first | rw [if_pos (by omega)] | (rw [if_neg (by omega)]), rfl⟩) dX11_longer_22
set_option maxHeartbeats 1000000 in
theorem zc_misIn (l : Launch) (G : zG) (M : zM) (c p m : Nat) (hcm : M.1 300 17 = nI c) (hc7 : c < 7) (hp : p < 57) (hm : m < 7) : zC l G 1 yX11_isIn cX11_isIn 3 (Option.some Jvm.ClassFile.FieldType.boolean) [.ref (300 : Nat), .int (nI p), .int (nI m)] M (zP (some (.int (zb (mIsIn c p m)))) M) := by
  refine zC_of (by decide) (Nat.le_of_ble_eq_true rfl) (fun X Q hQ hX hl hR hr => ?_)
  refine zV_loc (L' := [.ref (300 : Nat), .int (nI p), .int (nI m)]) rfl ?_
  refine zV_iload_n hX dX11_isIn_0 rfl ?_
  refine zV_aload_n hX dX11_isIn_1 rfl ?_
  refine zV_geti hX dX11_isIn_2 zf_X11_39 zo300.1 rfl (hcm) ?_
  refine zV_icmp_eqN hX (tgt := 34) dX11_isIn_5 (by decide) ⟨by omega, by omega⟩ (fun c_5 => ?_) (fun c_5 => ?_)
  · have e9 : mIsIn c p m = true := by simp [mIsIn, c_5]
    refine zV_iconst hX (v := nI 1) dX11_isIn_34 (by decide) ?_
    refine zV_goto hX (tgt := 39) dX11_isIn_35 (by decide) ?_
    exact zV_retz hX hQ hr (rfl) (⟨by rw [e9]; rfl, rfl⟩) dX11_isIn_39
  · refine zV_iload_n hX dX11_isIn_8 rfl ?_
    refine zV_if_leN hX (tgt := 20) dX11_isIn_9 (by decide) (by omega) (fun c_9 => ?_) (fun c_9 => ?_)
    · refine zV_iload_n hX dX11_isIn_20 rfl ?_
      refine zV_bipush hX (v := nI 8) dX11_isIn_21 (by decide) ?_
      refine zV_icmp_ltN hX (tgt := 38) dX11_isIn_23 (by decide) ⟨by omega, by omega⟩ (fun c_23 => ?_) (fun c_23 => ?_)
      · have e9 : mIsIn c p m = false := by simp only [mIsIn, Bool.or_eq_false_iff, Bool.and_eq_false_iff, decide_eq_false_iff_not]; exact ⟨⟨by omega, by omega⟩, by omega⟩
        refine zV_iconst hX (v := nI 0) dX11_isIn_38 (by decide) ?_
        exact zV_retz hX hQ hr (rfl) (⟨by rw [e9]; rfl, rfl⟩) dX11_isIn_39
      · refine zV_iload_n hX dX11_isIn_26 rfl ?_
        refine zV_iload_n hX dX11_isIn_27 rfl ?_
        refine zV_cS1p hX hR hl dX11_isIn_28 (zc_third l G M p hp) zt_X11_third rfl zml_X11_304 (by decide) (Nat.le_of_ble_eq_true rfl) ?_
        dsimp only [Option.toList, List.cons_append, List.nil_append]
        refine zV_topi (nI (mThd p)) (mThi_p (by omega)) ?_
        have hz2 := mThd_lt p
        refine zV_icmp_neN hX (tgt := 38) dX11_isIn_31 (by decide) ⟨by omega, by omega⟩ (fun c_31 => ?_) (fun c_31 => ?_)
        · have e9 : mIsIn c p m = false := by simp only [mIsIn, Bool.or_eq_false_iff, Bool.and_eq_false_iff, decide_eq_false_iff_not]; exact ⟨⟨by omega, by omega⟩, by omega⟩
          refine zV_iconst hX (v := nI 0) dX11_isIn_38 (by decide) ?_
          exact zV_retz hX hQ hr (rfl) (⟨by rw [e9]; rfl, rfl⟩) dX11_isIn_39
        · have e9 : mIsIn c p m = true := by simp only [mIsIn, Bool.or_eq_true, Bool.and_eq_true, decide_eq_true_eq]; exact Or.inr ⟨by omega, c_31⟩
          refine zV_iconst hX (v := nI 1) dX11_isIn_34 (by decide) ?_
          refine zV_goto hX (tgt := 39) dX11_isIn_35 (by decide) ?_
          exact zV_retz hX hQ hr (rfl) (⟨by rw [e9]; rfl, rfl⟩) dX11_isIn_39
    · refine zV_iload_n hX dX11_isIn_12 rfl ?_
      refine zV_iload_n hX dX11_isIn_13 rfl ?_
      refine zV_cS1p hX hR hl dX11_isIn_14 (zc_second l G M p hp) zt_X11_second rfl zml_X11_301 (by decide) (Nat.le_of_ble_eq_true rfl) ?_
      dsimp only [Option.toList, List.cons_append, List.nil_append]
      refine zV_topi (nI (zsec p)) (mSec_p (by omega)) ?_
      have hz := zsec_lt hp
      refine zV_icmp_eqN hX (tgt := 34) dX11_isIn_17 (by decide) ⟨by omega, by omega⟩ (fun c_17 => ?_) (fun c_17 => ?_)
      · have e9 : mIsIn c p m = true := by simp only [mIsIn, Bool.or_eq_true, Bool.and_eq_true, decide_eq_true_eq]; exact Or.inl (Or.inr ⟨by omega, c_17⟩)
        refine zV_iconst hX (v := nI 1) dX11_isIn_34 (by decide) ?_
        refine zV_goto hX (tgt := 39) dX11_isIn_35 (by decide) ?_
        exact zV_retz hX hQ hr (rfl) (⟨by rw [e9]; rfl, rfl⟩) dX11_isIn_39
      · refine zV_iload_n hX dX11_isIn_20 rfl ?_
        refine zV_bipush hX (v := nI 8) dX11_isIn_21 (by decide) ?_
        refine zV_icmp_ltN hX (tgt := 38) dX11_isIn_23 (by decide) ⟨by omega, by omega⟩ (fun c_23 => ?_) (fun c_23 => ?_)
        · have e9 : mIsIn c p m = false := by simp only [mIsIn, Bool.or_eq_false_iff, Bool.and_eq_false_iff, decide_eq_false_iff_not]; exact ⟨⟨by omega, by omega⟩, by omega⟩
          refine zV_iconst hX (v := nI 0) dX11_isIn_38 (by decide) ?_
          exact zV_retz hX hQ hr (rfl) (⟨by rw [e9]; rfl, rfl⟩) dX11_isIn_39
        · refine zV_iload_n hX dX11_isIn_26 rfl ?_
          refine zV_iload_n hX dX11_isIn_27 rfl ?_
          refine zV_cS1p hX hR hl dX11_isIn_28 (zc_third l G M p hp) zt_X11_third rfl zml_X11_304 (by decide) (Nat.le_of_ble_eq_true rfl) ?_
          dsimp only [Option.toList, List.cons_append, List.nil_append]
          refine zV_topi (nI (mThd p)) (mThi_p (by omega)) ?_
          have hz2 := mThd_lt p
          refine zV_icmp_neN hX (tgt := 38) dX11_isIn_31 (by decide) ⟨by omega, by omega⟩ (fun c_31 => ?_) (fun c_31 => ?_)
          · have e9 : mIsIn c p m = false := by simp only [mIsIn, Bool.or_eq_false_iff, Bool.and_eq_false_iff, decide_eq_false_iff_not]; exact ⟨⟨by omega, by omega⟩, by omega⟩
            refine zV_iconst hX (v := nI 0) dX11_isIn_38 (by decide) ?_
            exact zV_retz hX hQ hr (rfl) (⟨by rw [e9]; rfl, rfl⟩) dX11_isIn_39
          · have e9 : mIsIn c p m = true := by simp only [mIsIn, Bool.or_eq_true, Bool.and_eq_true, decide_eq_true_eq]; exact Or.inr ⟨by omega, c_31⟩
            refine zV_iconst hX (v := nI 1) dX11_isIn_34 (by decide) ?_
            refine zV_goto hX (tgt := 39) dX11_isIn_35 (by decide) ?_
            exact zV_retz hX hQ hr (rfl) (⟨by rw [e9]; rfl, rfl⟩) dX11_isIn_39
set_option maxHeartbeats 1000000 in
theorem zc_mlastOf (l : Launch) (G : zG) (M : zM) (c p : Nat) (hcm : M.1 300 17 = nI c) (hc7 : c < 7) (hp : p < 57) : zC l G 1 yX11_lastOf cX11_lastOf 2 (Option.some Jvm.ClassFile.FieldType.int) [.ref (300 : Nat), .int (nI p)] M (zP (some (.int (nI (zlast c p)))) M) := by
  refine zC_of (by decide) (Nat.le_of_ble_eq_true rfl) (fun X Q hQ hX hl hR hr => ?_)
  refine zV_loc (L' := [.ref (300 : Nat), .int (nI p)]) rfl ?_
  refine zV_iload_n hX dX11_lastOf_0 rfl ?_
  refine zV_if_neN hX (tgt := 11) dX11_lastOf_1 (by decide) (by omega) (fun c_1 => ?_) (fun c_1 => ?_)
  · refine zV_iload_n hX dX11_lastOf_11 rfl ?_
    refine zV_bipush hX (v := nI 8) dX11_lastOf_12 (by decide) ?_
    refine zV_icmp_geN hX (tgt := 24) dX11_lastOf_14 (by decide) ⟨by omega, by omega⟩ (fun c_14 => ?_) (fun c_14 => ?_)
    · refine zV_iload_n hX dX11_lastOf_24 rfl ?_
      refine zV_cS1p hX hR hl dX11_lastOf_25 (zc_third l G M p hp) zt_X11_third rfl zml_X11_304 (by decide) (Nat.le_of_ble_eq_true rfl) ?_
      dsimp only [Option.toList, List.cons_append, List.nil_append]
      refine zV_topi (nI (zlast c p)) (by rw [mThi_p (by omega)]; unfold zlast mThd; rw [if_neg (show ¬ p = 0 by omega), if_neg (show ¬ p < 8 by omega)]) ?_
      exact zV_reti hX hQ hr (⟨by first | rfl | (rw [zlast, if_pos (by omega)]), rfl⟩) dX11_lastOf_28
    · refine zV_iload_n hX dX11_lastOf_17 rfl ?_
      refine zV_cS1p hX hR hl dX11_lastOf_18 (zc_second l G M p hp) zt_X11_second rfl zml_X11_301 (by decide) (Nat.le_of_ble_eq_true rfl) ?_
      dsimp only [Option.toList, List.cons_append, List.nil_append]
      refine zV_topi (nI (zlast c p)) (by rw [mSec_p (by omega)]; unfold zlast zsec; rw [if_pos (show p < 8 by omega), if_neg (show ¬ p = 0 by omega), if_pos (show p < 8 by omega)]) ?_
      refine zV_goto hX (tgt := 28) dX11_lastOf_21 (by decide) ?_
      exact zV_reti hX hQ hr (⟨by first | rfl | (rw [zlast, if_pos (by omega)]), rfl⟩) dX11_lastOf_28
  · refine zV_aload_n hX dX11_lastOf_4 rfl ?_
    refine zV_geti hX dX11_lastOf_5 zf_X11_39 zo300.1 rfl (hcm) ?_
    refine zV_goto hX (tgt := 28) dX11_lastOf_8 (by decide) ?_
    exact zV_reti hX hQ hr (⟨by first | rfl | (rw [zlast, if_pos (by omega)]), rfl⟩) dX11_lastOf_28
theorem zmem_nI {a n : Nat} (ha : a < 2 ^ 31) (hn : n < 2 ^ 31) : zmem (nI a) n = decide (a < n) := by
  unfold zmem
  rw [decide_eq_false (nI_pos ha)]
  by_cases h : a < n
  · rw [decide_eq_true h, decide_eq_false (fun q => by have := (nI_leI hn ha).mp q; omega)]; rfl
  · rw [decide_eq_false h, decide_eq_true ((nI_leI hn ha).mpr (by omega))]; rfl
theorem zmem_m1 {n : Nat} : zmem (-1) n = false := rfl
set_option maxHeartbeats 1000000 in
theorem zc_misPath (l : Launch) (G : zG) (M : zM) (n c p : Nat) (hn : M.1 300 9 = nI n) (hn7 : n ≤ 7) (hcm : M.1 300 17 = nI c) (hc7 : c < 7) (h0 : 1 ≤ n) (hp : p < 57) : zC l G 1 yX11_isPath cX11_isPath 4 (Option.some Jvm.ClassFile.FieldType.boolean) [.ref (300 : Nat), .int (nI p)] M (zP (some (.int (zb (mPath n c p)))) M) := by
  refine zC_of (by decide) (Nat.le_of_ble_eq_true rfl) (fun X Q hQ hX hl hR hr => ?_)
  refine zV_loc (L' := [.ref (300 : Nat), .int (nI p), .null, .null]) rfl ?_
  refine zV_iload_n hX dX11_isPath_0 rfl ?_
  refine zV_if_neN hX (tgt := 6) dX11_isPath_1 (by decide) (by omega) (fun c_1 => ?_) (fun c_1 => ?_)
  · refine zV_iload_n hX dX11_isPath_6 rfl ?_
    refine zV_cS1p hX hR hl dX11_isPath_7 (zc_second l G M p hp) zt_X11_second rfl zml_X11_301 (by decide) (Nat.le_of_ble_eq_true rfl) ?_
    dsimp only [Option.toList, List.cons_append, List.nil_append]
    refine zV_topi (nI (zsec p)) (mSec_p (by omega)) ?_
    have hz := zsec_lt hp
    refine zV_istore_n hX dX11_isPath_10 (by decide) ?_
    dsimp only [zst1, zst2, zclr, zc2]
    refine zV_iload_n hX dX11_isPath_11 rfl ?_
    refine zV_cS1p hX hR hl dX11_isPath_12 (zc_third l G M p hp) zt_X11_third rfl zml_X11_304 (by decide) (Nat.le_of_ble_eq_true rfl) ?_
    dsimp only [Option.toList, List.cons_append, List.nil_append]
    refine zV_istore_n hX dX11_isPath_15 (by decide) ?_
    dsimp only [zst1, zst2, zclr, zc2]
    refine zV_iload_n hX dX11_isPath_16 rfl ?_
    refine zV_iconst hX (v := nI 0) dX11_isPath_17 (by decide) ?_
    refine zV_aload_n hX dX11_isPath_18 rfl ?_
    refine zV_geti hX dX11_isPath_19 zf_X11_20 zo300.1 rfl (hn) ?_
    refine zV_iconst hX (v := nI 1) dX11_isPath_22 (by decide) ?_
    refine zV_isub hX dX11_isPath_23 ?_
    refine zV_cS3p hX hR hl dX11_isPath_24 (zc_min l G M _ _ _) zt_X11_in rfl zml_X11_162 (by decide) (Nat.le_of_ble_eq_true rfl) ?_
    dsimp only [Option.toList, List.cons_append, List.nil_append]
    refine zV_topi (zb (decide (zsec p < n))) (by rw [mIn_mem h0 (by omega), zmem_nI (by omega) (by omega)]) ?_
    refine zV_if_eqB hX (tgt := 74) dX11_isPath_27 (by decide) (fun c_27 => ?_) (fun c_27 => ?_)
    · have e9 : mPath n c p = false := by unfold mPath; rw [c_27, decide_eq_false (show ¬ p = 0 by omega)]; rfl
      refine zV_iconst hX (v := nI 0) dX11_isPath_74 (by decide) ?_
      exact zV_retz hX hQ hr (rfl) (⟨by rw [e9]; rfl, rfl⟩) dX11_isPath_75
    · refine zV_iload_n hX dX11_isPath_30 rfl ?_
      refine zV_aload_n hX dX11_isPath_31 rfl ?_
      refine zV_geti hX dX11_isPath_32 zf_X11_39 zo300.1 rfl (hcm) ?_
      refine zV_icmp_eqN hX (tgt := 74) dX11_isPath_35 (by decide) ⟨by omega, by omega⟩ (fun c_35 => ?_) (fun c_35 => ?_)
      · have e9 : mPath n c p = false := by unfold mPath; rw [decide_eq_true c_35, decide_eq_false (show ¬ p = 0 by omega), c_27]; rfl
        refine zV_iconst hX (v := nI 0) dX11_isPath_74 (by decide) ?_
        exact zV_retz hX hQ hr (rfl) (⟨by rw [e9]; rfl, rfl⟩) dX11_isPath_75
      · refine zV_iload_n hX dX11_isPath_38 rfl ?_
        refine zV_iconst hX (v := (-1)) dX11_isPath_39 (by decide) ?_
        refine zV_icmp_eq hX (tgt := 70) dX11_isPath_40 (by decide) (fun c_40 => ?_) (fun c_40 => ?_)
        · have h8 : p < 8 := Nat.lt_of_not_le (fun q => by rw [mThi_p q] at c_40; exact nI_ne1 (by have := mThd_lt p; omega) c_40)
          have e9 : mPath n c p = true := by unfold mPath; rw [decide_eq_false c_35, decide_eq_true h8, c_27]; simp
          refine zV_iconst hX (v := nI 1) dX11_isPath_70 (by decide) ?_
          refine zV_goto hX (tgt := 75) dX11_isPath_71 (by decide) ?_
          exact zV_retz hX hQ hr (rfl) (⟨by rw [e9]; rfl, rfl⟩) dX11_isPath_75
        · have h8 : 8 ≤ p := Nat.le_of_not_lt (fun q => c_40 (if_pos q))
          have hz2 := mThd_lt p
          refine zV_loc (L' := [.ref (300 : Nat), .int (nI p), .int (nI (zsec p)), .int (nI (mThd p))]) (by rw [mThi_p h8]) ?_
          refine zV_iload_n hX dX11_isPath_43 rfl ?_
          refine zV_iconst hX (v := nI 0) dX11_isPath_44 (by decide) ?_
          refine zV_aload_n hX dX11_isPath_45 rfl ?_
          refine zV_geti hX dX11_isPath_46 zf_X11_20 zo300.1 rfl (hn) ?_
          refine zV_iconst hX (v := nI 1) dX11_isPath_49 (by decide) ?_
          refine zV_isub hX dX11_isPath_50 ?_
          refine zV_cS3p hX hR hl dX11_isPath_51 (zc_min l G M _ _ _) zt_X11_in rfl zml_X11_162 (by decide) (Nat.le_of_ble_eq_true rfl) ?_
          dsimp only [Option.toList, List.cons_append, List.nil_append]
          refine zV_topi (zb (decide (mThd p < n))) (by rw [mIn_mem h0 (by omega), zmem_nI (by omega) (by omega)]) ?_
          refine zV_if_eqB hX (tgt := 74) dX11_isPath_54 (by decide) (fun c_54 => ?_) (fun c_54 => ?_)
          · have e9 : mPath n c p = false := by unfold mPath; rw [c_54, decide_eq_false (show ¬ p = 0 by omega), decide_eq_false (show ¬ p < 8 by omega)]; simp
            refine zV_iconst hX (v := nI 0) dX11_isPath_74 (by decide) ?_
            exact zV_retz hX hQ hr (rfl) (⟨by rw [e9]; rfl, rfl⟩) dX11_isPath_75
          · refine zV_iload_n hX dX11_isPath_57 rfl ?_
            refine zV_aload_n hX dX11_isPath_58 rfl ?_
            refine zV_geti hX dX11_isPath_59 zf_X11_39 zo300.1 rfl (hcm) ?_
            refine zV_icmp_eqN hX (tgt := 74) dX11_isPath_62 (by decide) ⟨by omega, by omega⟩ (fun c_62 => ?_) (fun c_62 => ?_)
            · have e9 : mPath n c p = false := by unfold mPath; rw [decide_eq_true c_62, decide_eq_false (show ¬ p = 0 by omega), decide_eq_false (show ¬ p < 8 by omega)]; simp
              refine zV_iconst hX (v := nI 0) dX11_isPath_74 (by decide) ?_
              exact zV_retz hX hQ hr (rfl) (⟨by rw [e9]; rfl, rfl⟩) dX11_isPath_75
            · refine zV_iload_n hX dX11_isPath_65 rfl ?_
              refine zV_iload_n hX dX11_isPath_66 rfl ?_
              refine zV_icmp_eqN hX (tgt := 74) dX11_isPath_67 (by decide) ⟨by omega, by omega⟩ (fun c_67 => ?_) (fun c_67 => ?_)
              · have e9 : mPath n c p = false := by unfold mPath; rw [decide_eq_true c_67, decide_eq_false (show ¬ p = 0 by omega), decide_eq_false (show ¬ p < 8 by omega)]; simp
                refine zV_iconst hX (v := nI 0) dX11_isPath_74 (by decide) ?_
                exact zV_retz hX hQ hr (rfl) (⟨by rw [e9]; rfl, rfl⟩) dX11_isPath_75
              · have e9 : mPath n c p = true := by unfold mPath; rw [c_27, decide_eq_false c_35, c_54, decide_eq_false c_62, decide_eq_false c_67]; simp
                refine zV_iconst hX (v := nI 1) dX11_isPath_70 (by decide) ?_
                refine zV_goto hX (tgt := 75) dX11_isPath_71 (by decide) ?_
                exact zV_retz hX hQ hr (rfl) (⟨by rw [e9]; rfl, rfl⟩) dX11_isPath_75
  · refine zV_iconst hX (v := nI 1) dX11_isPath_4 (by decide) ?_
    exact zV_retz hX hQ hr (rfl) (⟨by rw [show mPath n c p = true from by simp [mPath, c_1]]; rfl, rfl⟩) dX11_isPath_5
def mFd (x r : Nat) (M : zM) : Int32 := M.1 (1000 + 16 * 22 + x) (r - 1)
def mHr (s x p q r : Nat) (M : zM) : zM :=
  zw (zw (zw (zw (zw M 300 18 (M.1 300 18 + (if q = 0 then nI 0 else nI 1))) (300 + 1 + 23) s (M.1 (300 + 1 + 23) s + (if q = 0 then nI 0 else nI 1))) 300 19 (M.1 300 19 + (if q = 1 ∧ bit (mFd x r M) s = false then nI 1 else nI 0)))
    (1000 + 16 * 20 + x) p (if q = 2 ∧ bit (mFd x r M) s = false then M.1 300 16 else M.1 300 24)) (1000 + 16 * 21 + x) p (zb (!(decide (q = 2) && !bit (mFd x r M) s) && !bit (mFd x r M) s))
set_option maxHeartbeats 1000000 in
theorem zc_mhears00 (l : Launch) (G : zG) (M : zM) (s x p r : Nat) (hs : s < 7) (hx : x < 7) (hp : p < 57) (hr1 : 1 ≤ r) (hr5 : r ≤ 5) (hb : bit (mFd x r M) s = true) : zC l G 0 yX11_hears cX11_hears 8 (Option.none : Option Jvm.ClassFile.FieldType) [.ref (300 : Nat), .int (nI s), .int (nI x), .int (nI p), .int (nI 0), .int (nI r)] M (zP none (mHr s x p 0 r M)) := by
  refine zC_of (by decide) (Nat.le_of_ble_eq_true rfl) (fun X Q hQ hX hl hR hr => ?_)
  refine zV_loc (L' := [.ref (300 : Nat), .int (nI s), .int (nI x), .int (nI p), .int (nI 0), .int (nI r), .null, .null]) rfl ?_
  have hb9 : ¬ ((M.1 (1000 + 16 * 22 + x) (r - 1) >>> (nI s &&& 31)) &&& nI 1 = 0) := by have h9 := hb; unfold bit mFd at h9; simpa using h9
  refine zV_aload_n hX dX11_hears_0 rfl ?_
  refine zV_geta hX dX11_hears_1 zf_X11_50 zo300.1 rfl ?_
  refine zV_iload_n hX dX11_hears_4 rfl ?_
  refine zV_aald hX dX11_hears_5 (t := 0) (zo300.a 22 rfl) (by decide) (rfl) ⟨by omega, by omega⟩ (mRow 22 (by decide)) ?_
  refine zV_iload hX dX11_hears_6 rfl ?_
  refine zV_iconst hX (v := nI 1) dX11_hears_8 (by decide) ?_
  refine zV_isubN hX dX11_hears_9 (by omega) ?_
  refine zV_iald hX dX11_hears_10 (mSh22 (by omega)) (rfl) ⟨by omega, by omega⟩ (rfl) ?_
  refine zV_iload_n hX dX11_hears_11 rfl ?_
  refine zV_ishr hX dX11_hears_12 ?_
  refine zV_iconst hX (v := nI 1) dX11_hears_13 (by decide) ?_
  refine zV_iand hX dX11_hears_14 ?_
  refine zV_if_ne hX (tgt := 22) dX11_hears_15 (by decide) (fun c_15 => ?_) (fun c_15 => absurd c_15 (hb9))
  refine zV_iconst hX (v := nI 0) dX11_hears_22 (by decide) ?_
  refine zV_istore hX dX11_hears_23 (by decide) ?_
  dsimp only [zst1, zst2, zclr, zc2]
  refine zV_aload_n hX dX11_hears_25 rfl ?_
  refine zV_dup hX dX11_hears_26 rfl ?_
  refine zV_geti hX (x := M.1 300 18) dX11_hears_27 zf_X11_173 zo300.1 rfl (by first | rfl | (repeat rw [zw_ne (by omega)])) ?_
  refine zV_iload hX dX11_hears_30 rfl ?_
  refine zV_if_neN hX (tgt := 39) dX11_hears_32 (by decide) (by omega) (fun c_32 => absurd c_32 (by decide)) (fun c_32 => ?_)
  refine zV_iconst hX (v := nI 0) dX11_hears_35 (by decide) ?_
  refine zV_goto hX (tgt := 40) dX11_hears_36 (by decide) ?_
  refine zV_iadd hX dX11_hears_40 ?_
  refine zV_puti hX dX11_hears_41 zf_X11_173 zp_9_18 zo300.1 rfl ?_
  refine zV_aload_n hX dX11_hears_44 rfl ?_
  refine zV_geta hX dX11_hears_45 zf_X11_53 zo300.1 rfl ?_
  refine zV_iload_n hX dX11_hears_48 rfl ?_
  refine zV_dup2 hX dX11_hears_49 rfl rfl ?_
  refine zV_iald hX (v := M.1 (300 + 1 + 23) s) dX11_hears_50 (zo300.a 23 rfl) (rfl) ⟨by omega, by omega⟩ (by rw [zw_ne (by omega)]) ?_
  refine zV_iload hX dX11_hears_51 rfl ?_
  refine zV_if_neN hX (tgt := 60) dX11_hears_53 (by decide) (by omega) (fun c_53 => absurd c_53 (by decide)) (fun c_53 => ?_)
  refine zV_iconst hX (v := nI 0) dX11_hears_56 (by decide) ?_
  refine zV_goto hX (tgt := 61) dX11_hears_57 (by decide) ?_
  refine zV_iadd hX dX11_hears_61 ?_
  refine zV_iast hX dX11_hears_62 (zo300.a 23 rfl) (rfl) ⟨by omega, by omega⟩ ?_
  refine zV_aload_n hX dX11_hears_63 rfl ?_
  refine zV_dup hX dX11_hears_64 rfl ?_
  refine zV_geti hX (x := M.1 300 19) dX11_hears_65 zf_X11_176 zo300.1 rfl (by first | rfl | (repeat rw [zw_ne (by omega)])) ?_
  refine zV_iload hX dX11_hears_68 rfl ?_
  refine zV_iconst hX (v := nI 1) dX11_hears_70 (by decide) ?_
  refine zV_icmp_neN hX (tgt := 83) dX11_hears_71 (by decide) ⟨by omega, by omega⟩ (fun c_71 => ?_) (fun c_71 => absurd c_71 (by decide))
  refine zV_iconst hX (v := nI 0) dX11_hears_83 (by decide) ?_
  refine zV_iadd hX dX11_hears_84 ?_
  refine zV_puti hX dX11_hears_85 zf_X11_176 zp_9_19 zo300.1 rfl ?_
  refine zV_iload hX dX11_hears_88 rfl ?_
  refine zV_iconst hX (v := nI 2) dX11_hears_90 (by decide) ?_
  refine zV_icmp_neN hX (tgt := 103) dX11_hears_91 (by decide) ⟨by omega, by omega⟩ (fun c_91 => ?_) (fun c_91 => absurd c_91 (by decide))
  refine zV_iconst hX (v := nI 0) dX11_hears_103 (by decide) ?_
  refine zV_istore hX dX11_hears_104 (by decide) ?_
  dsimp only [zst1, zst2, zclr, zc2]
  refine zV_aload_n hX dX11_hears_106 rfl ?_
  refine zV_geta hX dX11_hears_107 zf_X11_42 zo300.1 rfl ?_
  refine zV_iload_n hX dX11_hears_110 rfl ?_
  refine zV_aald hX dX11_hears_111 (t := 0) (zo300.a 20 rfl) (by decide) (rfl) ⟨by omega, by omega⟩ (mRow 20 (by decide)) ?_
  refine zV_iload_n hX dX11_hears_112 rfl ?_
  refine zV_iload hX dX11_hears_113 rfl ?_
  refine zV_if_eqN hX (tgt := 125) dX11_hears_115 (by decide) (by omega) (fun c_115 => ?_) (fun c_115 => absurd c_115 (by decide))
  refine zV_aload_n hX dX11_hears_125 rfl ?_
  refine zV_geti hX (x := M.1 300 24) dX11_hears_126 zf_X11_307 zo300.1 rfl (by first | rfl | (repeat rw [zw_ne (by omega)])) ?_
  refine zV_iast hX dX11_hears_129 (mSh20 (by omega)) (rfl) ⟨by omega, by omega⟩ ?_
  refine zV_aload_n hX dX11_hears_130 rfl ?_
  refine zV_geta hX dX11_hears_131 zf_X11_47 zo300.1 rfl ?_
  refine zV_iload_n hX dX11_hears_134 rfl ?_
  refine zV_aald hX dX11_hears_135 (t := 1) (zo300.a 21 rfl) (by decide) (rfl) ⟨by omega, by omega⟩ (mRow 21 (by decide)) ?_
  refine zV_iload_n hX dX11_hears_136 rfl ?_
  refine zV_iload hX dX11_hears_137 rfl ?_
  refine zV_if_neN hX (tgt := 151) dX11_hears_139 (by decide) (by omega) (fun c_139 => absurd c_139 (by decide)) (fun c_139 => ?_)
  refine zV_iload hX dX11_hears_142 rfl ?_
  refine zV_if_eqN hX (tgt := 151) dX11_hears_144 (by decide) (by omega) (fun c_144 => ?_) (fun c_144 => absurd c_144 (by decide))
  refine zV_iconst hX (v := nI 0) dX11_hears_151 (by decide) ?_
  refine zV_zast hX dX11_hears_152 (mSh21 (by omega)) (rfl) ⟨by omega, by omega⟩ (by decide) ?_
  exact zV_retv hX hQ hr (⟨rfl, by unfold mHr; rw [hb]; rfl⟩) dX11_hears_153
set_option maxHeartbeats 1000000 in
theorem zc_mhears01 (l : Launch) (G : zG) (M : zM) (s x p r : Nat) (hs : s < 7) (hx : x < 7) (hp : p < 57) (hr1 : 1 ≤ r) (hr5 : r ≤ 5) (hb : bit (mFd x r M) s = false) : zC l G 0 yX11_hears cX11_hears 8 (Option.none : Option Jvm.ClassFile.FieldType) [.ref (300 : Nat), .int (nI s), .int (nI x), .int (nI p), .int (nI 0), .int (nI r)] M (zP none (mHr s x p 0 r M)) := by
  refine zC_of (by decide) (Nat.le_of_ble_eq_true rfl) (fun X Q hQ hX hl hR hr => ?_)
  refine zV_loc (L' := [.ref (300 : Nat), .int (nI s), .int (nI x), .int (nI p), .int (nI 0), .int (nI r), .null, .null]) rfl ?_
  have hb9 :  ((M.1 (1000 + 16 * 22 + x) (r - 1) >>> (nI s &&& 31)) &&& nI 1 = 0) := by have h9 := hb; unfold bit mFd at h9; simpa using h9
  refine zV_aload_n hX dX11_hears_0 rfl ?_
  refine zV_geta hX dX11_hears_1 zf_X11_50 zo300.1 rfl ?_
  refine zV_iload_n hX dX11_hears_4 rfl ?_
  refine zV_aald hX dX11_hears_5 (t := 0) (zo300.a 22 rfl) (by decide) (rfl) ⟨by omega, by omega⟩ (mRow 22 (by decide)) ?_
  refine zV_iload hX dX11_hears_6 rfl ?_
  refine zV_iconst hX (v := nI 1) dX11_hears_8 (by decide) ?_
  refine zV_isubN hX dX11_hears_9 (by omega) ?_
  refine zV_iald hX dX11_hears_10 (mSh22 (by omega)) (rfl) ⟨by omega, by omega⟩ (rfl) ?_
  refine zV_iload_n hX dX11_hears_11 rfl ?_
  refine zV_ishr hX dX11_hears_12 ?_
  refine zV_iconst hX (v := nI 1) dX11_hears_13 (by decide) ?_
  refine zV_iand hX dX11_hears_14 ?_
  refine zV_if_ne hX (tgt := 22) dX11_hears_15 (by decide) (fun c_15 => absurd c_15 (not_not_intro hb9)) (fun c_15 => ?_)
  refine zV_iconst hX (v := nI 1) dX11_hears_18 (by decide) ?_
  refine zV_goto hX (tgt := 23) dX11_hears_19 (by decide) ?_
  refine zV_istore hX dX11_hears_23 (by decide) ?_
  dsimp only [zst1, zst2, zclr, zc2]
  refine zV_aload_n hX dX11_hears_25 rfl ?_
  refine zV_dup hX dX11_hears_26 rfl ?_
  refine zV_geti hX (x := M.1 300 18) dX11_hears_27 zf_X11_173 zo300.1 rfl (by first | rfl | (repeat rw [zw_ne (by omega)])) ?_
  refine zV_iload hX dX11_hears_30 rfl ?_
  refine zV_if_neN hX (tgt := 39) dX11_hears_32 (by decide) (by omega) (fun c_32 => absurd c_32 (by decide)) (fun c_32 => ?_)
  refine zV_iconst hX (v := nI 0) dX11_hears_35 (by decide) ?_
  refine zV_goto hX (tgt := 40) dX11_hears_36 (by decide) ?_
  refine zV_iadd hX dX11_hears_40 ?_
  refine zV_puti hX dX11_hears_41 zf_X11_173 zp_9_18 zo300.1 rfl ?_
  refine zV_aload_n hX dX11_hears_44 rfl ?_
  refine zV_geta hX dX11_hears_45 zf_X11_53 zo300.1 rfl ?_
  refine zV_iload_n hX dX11_hears_48 rfl ?_
  refine zV_dup2 hX dX11_hears_49 rfl rfl ?_
  refine zV_iald hX (v := M.1 (300 + 1 + 23) s) dX11_hears_50 (zo300.a 23 rfl) (rfl) ⟨by omega, by omega⟩ (by rw [zw_ne (by omega)]) ?_
  refine zV_iload hX dX11_hears_51 rfl ?_
  refine zV_if_neN hX (tgt := 60) dX11_hears_53 (by decide) (by omega) (fun c_53 => absurd c_53 (by decide)) (fun c_53 => ?_)
  refine zV_iconst hX (v := nI 0) dX11_hears_56 (by decide) ?_
  refine zV_goto hX (tgt := 61) dX11_hears_57 (by decide) ?_
  refine zV_iadd hX dX11_hears_61 ?_
  refine zV_iast hX dX11_hears_62 (zo300.a 23 rfl) (rfl) ⟨by omega, by omega⟩ ?_
  refine zV_aload_n hX dX11_hears_63 rfl ?_
  refine zV_dup hX dX11_hears_64 rfl ?_
  refine zV_geti hX (x := M.1 300 19) dX11_hears_65 zf_X11_176 zo300.1 rfl (by first | rfl | (repeat rw [zw_ne (by omega)])) ?_
  refine zV_iload hX dX11_hears_68 rfl ?_
  refine zV_iconst hX (v := nI 1) dX11_hears_70 (by decide) ?_
  refine zV_icmp_neN hX (tgt := 83) dX11_hears_71 (by decide) ⟨by omega, by omega⟩ (fun c_71 => ?_) (fun c_71 => absurd c_71 (by decide))
  refine zV_iconst hX (v := nI 0) dX11_hears_83 (by decide) ?_
  refine zV_iadd hX dX11_hears_84 ?_
  refine zV_puti hX dX11_hears_85 zf_X11_176 zp_9_19 zo300.1 rfl ?_
  refine zV_iload hX dX11_hears_88 rfl ?_
  refine zV_iconst hX (v := nI 2) dX11_hears_90 (by decide) ?_
  refine zV_icmp_neN hX (tgt := 103) dX11_hears_91 (by decide) ⟨by omega, by omega⟩ (fun c_91 => ?_) (fun c_91 => absurd c_91 (by decide))
  refine zV_iconst hX (v := nI 0) dX11_hears_103 (by decide) ?_
  refine zV_istore hX dX11_hears_104 (by decide) ?_
  dsimp only [zst1, zst2, zclr, zc2]
  refine zV_aload_n hX dX11_hears_106 rfl ?_
  refine zV_geta hX dX11_hears_107 zf_X11_42 zo300.1 rfl ?_
  refine zV_iload_n hX dX11_hears_110 rfl ?_
  refine zV_aald hX dX11_hears_111 (t := 0) (zo300.a 20 rfl) (by decide) (rfl) ⟨by omega, by omega⟩ (mRow 20 (by decide)) ?_
  refine zV_iload_n hX dX11_hears_112 rfl ?_
  refine zV_iload hX dX11_hears_113 rfl ?_
  refine zV_if_eqN hX (tgt := 125) dX11_hears_115 (by decide) (by omega) (fun c_115 => ?_) (fun c_115 => absurd c_115 (by decide))
  refine zV_aload_n hX dX11_hears_125 rfl ?_
  refine zV_geti hX (x := M.1 300 24) dX11_hears_126 zf_X11_307 zo300.1 rfl (by first | rfl | (repeat rw [zw_ne (by omega)])) ?_
  refine zV_iast hX dX11_hears_129 (mSh20 (by omega)) (rfl) ⟨by omega, by omega⟩ ?_
  refine zV_aload_n hX dX11_hears_130 rfl ?_
  refine zV_geta hX dX11_hears_131 zf_X11_47 zo300.1 rfl ?_
  refine zV_iload_n hX dX11_hears_134 rfl ?_
  refine zV_aald hX dX11_hears_135 (t := 1) (zo300.a 21 rfl) (by decide) (rfl) ⟨by omega, by omega⟩ (mRow 21 (by decide)) ?_
  refine zV_iload_n hX dX11_hears_136 rfl ?_
  refine zV_iload hX dX11_hears_137 rfl ?_
  refine zV_if_neN hX (tgt := 151) dX11_hears_139 (by decide) (by omega) (fun c_139 => absurd c_139 (by decide)) (fun c_139 => ?_)
  refine zV_iload hX dX11_hears_142 rfl ?_
  refine zV_if_eqN hX (tgt := 151) dX11_hears_144 (by decide) (by omega) (fun c_144 => absurd c_144 (by decide)) (fun c_144 => ?_)
  refine zV_iconst hX (v := nI 1) dX11_hears_147 (by decide) ?_
  refine zV_goto hX (tgt := 152) dX11_hears_148 (by decide) ?_
  refine zV_zast hX dX11_hears_152 (mSh21 (by omega)) (rfl) ⟨by omega, by omega⟩ (by decide) ?_
  exact zV_retv hX hQ hr (⟨rfl, by unfold mHr; rw [hb]; rfl⟩) dX11_hears_153
set_option maxHeartbeats 1000000 in
theorem zc_mhears10 (l : Launch) (G : zG) (M : zM) (s x p r : Nat) (hs : s < 7) (hx : x < 7) (hp : p < 57) (hr1 : 1 ≤ r) (hr5 : r ≤ 5) (hb : bit (mFd x r M) s = true) : zC l G 0 yX11_hears cX11_hears 8 (Option.none : Option Jvm.ClassFile.FieldType) [.ref (300 : Nat), .int (nI s), .int (nI x), .int (nI p), .int (nI 1), .int (nI r)] M (zP none (mHr s x p 1 r M)) := by
  refine zC_of (by decide) (Nat.le_of_ble_eq_true rfl) (fun X Q hQ hX hl hR hr => ?_)
  refine zV_loc (L' := [.ref (300 : Nat), .int (nI s), .int (nI x), .int (nI p), .int (nI 1), .int (nI r), .null, .null]) rfl ?_
  have hb9 : ¬ ((M.1 (1000 + 16 * 22 + x) (r - 1) >>> (nI s &&& 31)) &&& nI 1 = 0) := by have h9 := hb; unfold bit mFd at h9; simpa using h9
  refine zV_aload_n hX dX11_hears_0 rfl ?_
  refine zV_geta hX dX11_hears_1 zf_X11_50 zo300.1 rfl ?_
  refine zV_iload_n hX dX11_hears_4 rfl ?_
  refine zV_aald hX dX11_hears_5 (t := 0) (zo300.a 22 rfl) (by decide) (rfl) ⟨by omega, by omega⟩ (mRow 22 (by decide)) ?_
  refine zV_iload hX dX11_hears_6 rfl ?_
  refine zV_iconst hX (v := nI 1) dX11_hears_8 (by decide) ?_
  refine zV_isubN hX dX11_hears_9 (by omega) ?_
  refine zV_iald hX dX11_hears_10 (mSh22 (by omega)) (rfl) ⟨by omega, by omega⟩ (rfl) ?_
  refine zV_iload_n hX dX11_hears_11 rfl ?_
  refine zV_ishr hX dX11_hears_12 ?_
  refine zV_iconst hX (v := nI 1) dX11_hears_13 (by decide) ?_
  refine zV_iand hX dX11_hears_14 ?_
  refine zV_if_ne hX (tgt := 22) dX11_hears_15 (by decide) (fun c_15 => ?_) (fun c_15 => absurd c_15 (hb9))
  refine zV_iconst hX (v := nI 0) dX11_hears_22 (by decide) ?_
  refine zV_istore hX dX11_hears_23 (by decide) ?_
  dsimp only [zst1, zst2, zclr, zc2]
  refine zV_aload_n hX dX11_hears_25 rfl ?_
  refine zV_dup hX dX11_hears_26 rfl ?_
  refine zV_geti hX (x := M.1 300 18) dX11_hears_27 zf_X11_173 zo300.1 rfl (by first | rfl | (repeat rw [zw_ne (by omega)])) ?_
  refine zV_iload hX dX11_hears_30 rfl ?_
  refine zV_if_neN hX (tgt := 39) dX11_hears_32 (by decide) (by omega) (fun c_32 => ?_) (fun c_32 => absurd c_32 (by decide))
  refine zV_iconst hX (v := nI 1) dX11_hears_39 (by decide) ?_
  refine zV_iadd hX dX11_hears_40 ?_
  refine zV_puti hX dX11_hears_41 zf_X11_173 zp_9_18 zo300.1 rfl ?_
  refine zV_aload_n hX dX11_hears_44 rfl ?_
  refine zV_geta hX dX11_hears_45 zf_X11_53 zo300.1 rfl ?_
  refine zV_iload_n hX dX11_hears_48 rfl ?_
  refine zV_dup2 hX dX11_hears_49 rfl rfl ?_
  refine zV_iald hX (v := M.1 (300 + 1 + 23) s) dX11_hears_50 (zo300.a 23 rfl) (rfl) ⟨by omega, by omega⟩ (by rw [zw_ne (by omega)]) ?_
  refine zV_iload hX dX11_hears_51 rfl ?_
  refine zV_if_neN hX (tgt := 60) dX11_hears_53 (by decide) (by omega) (fun c_53 => ?_) (fun c_53 => absurd c_53 (by decide))
  refine zV_iconst hX (v := nI 1) dX11_hears_60 (by decide) ?_
  refine zV_iadd hX dX11_hears_61 ?_
  refine zV_iast hX dX11_hears_62 (zo300.a 23 rfl) (rfl) ⟨by omega, by omega⟩ ?_
  refine zV_aload_n hX dX11_hears_63 rfl ?_
  refine zV_dup hX dX11_hears_64 rfl ?_
  refine zV_geti hX (x := M.1 300 19) dX11_hears_65 zf_X11_176 zo300.1 rfl (by first | rfl | (repeat rw [zw_ne (by omega)])) ?_
  refine zV_iload hX dX11_hears_68 rfl ?_
  refine zV_iconst hX (v := nI 1) dX11_hears_70 (by decide) ?_
  refine zV_icmp_neN hX (tgt := 83) dX11_hears_71 (by decide) ⟨by omega, by omega⟩ (fun c_71 => absurd c_71 (by decide)) (fun c_71 => ?_)
  refine zV_iload hX dX11_hears_74 rfl ?_
  refine zV_if_eqN hX (tgt := 83) dX11_hears_76 (by decide) (by omega) (fun c_76 => ?_) (fun c_76 => absurd c_76 (by decide))
  refine zV_iconst hX (v := nI 0) dX11_hears_83 (by decide) ?_
  refine zV_iadd hX dX11_hears_84 ?_
  refine zV_puti hX dX11_hears_85 zf_X11_176 zp_9_19 zo300.1 rfl ?_
  refine zV_iload hX dX11_hears_88 rfl ?_
  refine zV_iconst hX (v := nI 2) dX11_hears_90 (by decide) ?_
  refine zV_icmp_neN hX (tgt := 103) dX11_hears_91 (by decide) ⟨by omega, by omega⟩ (fun c_91 => ?_) (fun c_91 => absurd c_91 (by decide))
  refine zV_iconst hX (v := nI 0) dX11_hears_103 (by decide) ?_
  refine zV_istore hX dX11_hears_104 (by decide) ?_
  dsimp only [zst1, zst2, zclr, zc2]
  refine zV_aload_n hX dX11_hears_106 rfl ?_
  refine zV_geta hX dX11_hears_107 zf_X11_42 zo300.1 rfl ?_
  refine zV_iload_n hX dX11_hears_110 rfl ?_
  refine zV_aald hX dX11_hears_111 (t := 0) (zo300.a 20 rfl) (by decide) (rfl) ⟨by omega, by omega⟩ (mRow 20 (by decide)) ?_
  refine zV_iload_n hX dX11_hears_112 rfl ?_
  refine zV_iload hX dX11_hears_113 rfl ?_
  refine zV_if_eqN hX (tgt := 125) dX11_hears_115 (by decide) (by omega) (fun c_115 => ?_) (fun c_115 => absurd c_115 (by decide))
  refine zV_aload_n hX dX11_hears_125 rfl ?_
  refine zV_geti hX (x := M.1 300 24) dX11_hears_126 zf_X11_307 zo300.1 rfl (by first | rfl | (repeat rw [zw_ne (by omega)])) ?_
  refine zV_iast hX dX11_hears_129 (mSh20 (by omega)) (rfl) ⟨by omega, by omega⟩ ?_
  refine zV_aload_n hX dX11_hears_130 rfl ?_
  refine zV_geta hX dX11_hears_131 zf_X11_47 zo300.1 rfl ?_
  refine zV_iload_n hX dX11_hears_134 rfl ?_
  refine zV_aald hX dX11_hears_135 (t := 1) (zo300.a 21 rfl) (by decide) (rfl) ⟨by omega, by omega⟩ (mRow 21 (by decide)) ?_
  refine zV_iload_n hX dX11_hears_136 rfl ?_
  refine zV_iload hX dX11_hears_137 rfl ?_
  refine zV_if_neN hX (tgt := 151) dX11_hears_139 (by decide) (by omega) (fun c_139 => absurd c_139 (by decide)) (fun c_139 => ?_)
  refine zV_iload hX dX11_hears_142 rfl ?_
  refine zV_if_eqN hX (tgt := 151) dX11_hears_144 (by decide) (by omega) (fun c_144 => ?_) (fun c_144 => absurd c_144 (by decide))
  refine zV_iconst hX (v := nI 0) dX11_hears_151 (by decide) ?_
  refine zV_zast hX dX11_hears_152 (mSh21 (by omega)) (rfl) ⟨by omega, by omega⟩ (by decide) ?_
  exact zV_retv hX hQ hr (⟨rfl, by unfold mHr; rw [hb]; rfl⟩) dX11_hears_153
set_option maxHeartbeats 1000000 in
theorem zc_mhears11 (l : Launch) (G : zG) (M : zM) (s x p r : Nat) (hs : s < 7) (hx : x < 7) (hp : p < 57) (hr1 : 1 ≤ r) (hr5 : r ≤ 5) (hb : bit (mFd x r M) s = false) : zC l G 0 yX11_hears cX11_hears 8 (Option.none : Option Jvm.ClassFile.FieldType) [.ref (300 : Nat), .int (nI s), .int (nI x), .int (nI p), .int (nI 1), .int (nI r)] M (zP none (mHr s x p 1 r M)) := by
  refine zC_of (by decide) (Nat.le_of_ble_eq_true rfl) (fun X Q hQ hX hl hR hr => ?_)
  refine zV_loc (L' := [.ref (300 : Nat), .int (nI s), .int (nI x), .int (nI p), .int (nI 1), .int (nI r), .null, .null]) rfl ?_
  have hb9 :  ((M.1 (1000 + 16 * 22 + x) (r - 1) >>> (nI s &&& 31)) &&& nI 1 = 0) := by have h9 := hb; unfold bit mFd at h9; simpa using h9
  refine zV_aload_n hX dX11_hears_0 rfl ?_
  refine zV_geta hX dX11_hears_1 zf_X11_50 zo300.1 rfl ?_
  refine zV_iload_n hX dX11_hears_4 rfl ?_
  refine zV_aald hX dX11_hears_5 (t := 0) (zo300.a 22 rfl) (by decide) (rfl) ⟨by omega, by omega⟩ (mRow 22 (by decide)) ?_
  refine zV_iload hX dX11_hears_6 rfl ?_
  refine zV_iconst hX (v := nI 1) dX11_hears_8 (by decide) ?_
  refine zV_isubN hX dX11_hears_9 (by omega) ?_
  refine zV_iald hX dX11_hears_10 (mSh22 (by omega)) (rfl) ⟨by omega, by omega⟩ (rfl) ?_
  refine zV_iload_n hX dX11_hears_11 rfl ?_
  refine zV_ishr hX dX11_hears_12 ?_
  refine zV_iconst hX (v := nI 1) dX11_hears_13 (by decide) ?_
  refine zV_iand hX dX11_hears_14 ?_
  refine zV_if_ne hX (tgt := 22) dX11_hears_15 (by decide) (fun c_15 => absurd c_15 (not_not_intro hb9)) (fun c_15 => ?_)
  refine zV_iconst hX (v := nI 1) dX11_hears_18 (by decide) ?_
  refine zV_goto hX (tgt := 23) dX11_hears_19 (by decide) ?_
  refine zV_istore hX dX11_hears_23 (by decide) ?_
  dsimp only [zst1, zst2, zclr, zc2]
  refine zV_aload_n hX dX11_hears_25 rfl ?_
  refine zV_dup hX dX11_hears_26 rfl ?_
  refine zV_geti hX (x := M.1 300 18) dX11_hears_27 zf_X11_173 zo300.1 rfl (by first | rfl | (repeat rw [zw_ne (by omega)])) ?_
  refine zV_iload hX dX11_hears_30 rfl ?_
  refine zV_if_neN hX (tgt := 39) dX11_hears_32 (by decide) (by omega) (fun c_32 => ?_) (fun c_32 => absurd c_32 (by decide))
  refine zV_iconst hX (v := nI 1) dX11_hears_39 (by decide) ?_
  refine zV_iadd hX dX11_hears_40 ?_
  refine zV_puti hX dX11_hears_41 zf_X11_173 zp_9_18 zo300.1 rfl ?_
  refine zV_aload_n hX dX11_hears_44 rfl ?_
  refine zV_geta hX dX11_hears_45 zf_X11_53 zo300.1 rfl ?_
  refine zV_iload_n hX dX11_hears_48 rfl ?_
  refine zV_dup2 hX dX11_hears_49 rfl rfl ?_
  refine zV_iald hX (v := M.1 (300 + 1 + 23) s) dX11_hears_50 (zo300.a 23 rfl) (rfl) ⟨by omega, by omega⟩ (by rw [zw_ne (by omega)]) ?_
  refine zV_iload hX dX11_hears_51 rfl ?_
  refine zV_if_neN hX (tgt := 60) dX11_hears_53 (by decide) (by omega) (fun c_53 => ?_) (fun c_53 => absurd c_53 (by decide))
  refine zV_iconst hX (v := nI 1) dX11_hears_60 (by decide) ?_
  refine zV_iadd hX dX11_hears_61 ?_
  refine zV_iast hX dX11_hears_62 (zo300.a 23 rfl) (rfl) ⟨by omega, by omega⟩ ?_
  refine zV_aload_n hX dX11_hears_63 rfl ?_
  refine zV_dup hX dX11_hears_64 rfl ?_
  refine zV_geti hX (x := M.1 300 19) dX11_hears_65 zf_X11_176 zo300.1 rfl (by first | rfl | (repeat rw [zw_ne (by omega)])) ?_
  refine zV_iload hX dX11_hears_68 rfl ?_
  refine zV_iconst hX (v := nI 1) dX11_hears_70 (by decide) ?_
  refine zV_icmp_neN hX (tgt := 83) dX11_hears_71 (by decide) ⟨by omega, by omega⟩ (fun c_71 => absurd c_71 (by decide)) (fun c_71 => ?_)
  refine zV_iload hX dX11_hears_74 rfl ?_
  refine zV_if_eqN hX (tgt := 83) dX11_hears_76 (by decide) (by omega) (fun c_76 => absurd c_76 (by decide)) (fun c_76 => ?_)
  refine zV_iconst hX (v := nI 1) dX11_hears_79 (by decide) ?_
  refine zV_goto hX (tgt := 84) dX11_hears_80 (by decide) ?_
  refine zV_iadd hX dX11_hears_84 ?_
  refine zV_puti hX dX11_hears_85 zf_X11_176 zp_9_19 zo300.1 rfl ?_
  refine zV_iload hX dX11_hears_88 rfl ?_
  refine zV_iconst hX (v := nI 2) dX11_hears_90 (by decide) ?_
  refine zV_icmp_neN hX (tgt := 103) dX11_hears_91 (by decide) ⟨by omega, by omega⟩ (fun c_91 => ?_) (fun c_91 => absurd c_91 (by decide))
  refine zV_iconst hX (v := nI 0) dX11_hears_103 (by decide) ?_
  refine zV_istore hX dX11_hears_104 (by decide) ?_
  dsimp only [zst1, zst2, zclr, zc2]
  refine zV_aload_n hX dX11_hears_106 rfl ?_
  refine zV_geta hX dX11_hears_107 zf_X11_42 zo300.1 rfl ?_
  refine zV_iload_n hX dX11_hears_110 rfl ?_
  refine zV_aald hX dX11_hears_111 (t := 0) (zo300.a 20 rfl) (by decide) (rfl) ⟨by omega, by omega⟩ (mRow 20 (by decide)) ?_
  refine zV_iload_n hX dX11_hears_112 rfl ?_
  refine zV_iload hX dX11_hears_113 rfl ?_
  refine zV_if_eqN hX (tgt := 125) dX11_hears_115 (by decide) (by omega) (fun c_115 => ?_) (fun c_115 => absurd c_115 (by decide))
  refine zV_aload_n hX dX11_hears_125 rfl ?_
  refine zV_geti hX (x := M.1 300 24) dX11_hears_126 zf_X11_307 zo300.1 rfl (by first | rfl | (repeat rw [zw_ne (by omega)])) ?_
  refine zV_iast hX dX11_hears_129 (mSh20 (by omega)) (rfl) ⟨by omega, by omega⟩ ?_
  refine zV_aload_n hX dX11_hears_130 rfl ?_
  refine zV_geta hX dX11_hears_131 zf_X11_47 zo300.1 rfl ?_
  refine zV_iload_n hX dX11_hears_134 rfl ?_
  refine zV_aald hX dX11_hears_135 (t := 1) (zo300.a 21 rfl) (by decide) (rfl) ⟨by omega, by omega⟩ (mRow 21 (by decide)) ?_
  refine zV_iload_n hX dX11_hears_136 rfl ?_
  refine zV_iload hX dX11_hears_137 rfl ?_
  refine zV_if_neN hX (tgt := 151) dX11_hears_139 (by decide) (by omega) (fun c_139 => absurd c_139 (by decide)) (fun c_139 => ?_)
  refine zV_iload hX dX11_hears_142 rfl ?_
  refine zV_if_eqN hX (tgt := 151) dX11_hears_144 (by decide) (by omega) (fun c_144 => absurd c_144 (by decide)) (fun c_144 => ?_)
  refine zV_iconst hX (v := nI 1) dX11_hears_147 (by decide) ?_
  refine zV_goto hX (tgt := 152) dX11_hears_148 (by decide) ?_
  refine zV_zast hX dX11_hears_152 (mSh21 (by omega)) (rfl) ⟨by omega, by omega⟩ (by decide) ?_
  exact zV_retv hX hQ hr (⟨rfl, by unfold mHr; rw [hb]; rfl⟩) dX11_hears_153
set_option maxHeartbeats 1000000 in
theorem zc_mhears20 (l : Launch) (G : zG) (M : zM) (s x p r : Nat) (hs : s < 7) (hx : x < 7) (hp : p < 57) (hr1 : 1 ≤ r) (hr5 : r ≤ 5) (hb : bit (mFd x r M) s = true) : zC l G 0 yX11_hears cX11_hears 8 (Option.none : Option Jvm.ClassFile.FieldType) [.ref (300 : Nat), .int (nI s), .int (nI x), .int (nI p), .int (nI 2), .int (nI r)] M (zP none (mHr s x p 2 r M)) := by
  refine zC_of (by decide) (Nat.le_of_ble_eq_true rfl) (fun X Q hQ hX hl hR hr => ?_)
  refine zV_loc (L' := [.ref (300 : Nat), .int (nI s), .int (nI x), .int (nI p), .int (nI 2), .int (nI r), .null, .null]) rfl ?_
  have hb9 : ¬ ((M.1 (1000 + 16 * 22 + x) (r - 1) >>> (nI s &&& 31)) &&& nI 1 = 0) := by have h9 := hb; unfold bit mFd at h9; simpa using h9
  refine zV_aload_n hX dX11_hears_0 rfl ?_
  refine zV_geta hX dX11_hears_1 zf_X11_50 zo300.1 rfl ?_
  refine zV_iload_n hX dX11_hears_4 rfl ?_
  refine zV_aald hX dX11_hears_5 (t := 0) (zo300.a 22 rfl) (by decide) (rfl) ⟨by omega, by omega⟩ (mRow 22 (by decide)) ?_
  refine zV_iload hX dX11_hears_6 rfl ?_
  refine zV_iconst hX (v := nI 1) dX11_hears_8 (by decide) ?_
  refine zV_isubN hX dX11_hears_9 (by omega) ?_
  refine zV_iald hX dX11_hears_10 (mSh22 (by omega)) (rfl) ⟨by omega, by omega⟩ (rfl) ?_
  refine zV_iload_n hX dX11_hears_11 rfl ?_
  refine zV_ishr hX dX11_hears_12 ?_
  refine zV_iconst hX (v := nI 1) dX11_hears_13 (by decide) ?_
  refine zV_iand hX dX11_hears_14 ?_
  refine zV_if_ne hX (tgt := 22) dX11_hears_15 (by decide) (fun c_15 => ?_) (fun c_15 => absurd c_15 (hb9))
  refine zV_iconst hX (v := nI 0) dX11_hears_22 (by decide) ?_
  refine zV_istore hX dX11_hears_23 (by decide) ?_
  dsimp only [zst1, zst2, zclr, zc2]
  refine zV_aload_n hX dX11_hears_25 rfl ?_
  refine zV_dup hX dX11_hears_26 rfl ?_
  refine zV_geti hX (x := M.1 300 18) dX11_hears_27 zf_X11_173 zo300.1 rfl (by first | rfl | (repeat rw [zw_ne (by omega)])) ?_
  refine zV_iload hX dX11_hears_30 rfl ?_
  refine zV_if_neN hX (tgt := 39) dX11_hears_32 (by decide) (by omega) (fun c_32 => ?_) (fun c_32 => absurd c_32 (by decide))
  refine zV_iconst hX (v := nI 1) dX11_hears_39 (by decide) ?_
  refine zV_iadd hX dX11_hears_40 ?_
  refine zV_puti hX dX11_hears_41 zf_X11_173 zp_9_18 zo300.1 rfl ?_
  refine zV_aload_n hX dX11_hears_44 rfl ?_
  refine zV_geta hX dX11_hears_45 zf_X11_53 zo300.1 rfl ?_
  refine zV_iload_n hX dX11_hears_48 rfl ?_
  refine zV_dup2 hX dX11_hears_49 rfl rfl ?_
  refine zV_iald hX (v := M.1 (300 + 1 + 23) s) dX11_hears_50 (zo300.a 23 rfl) (rfl) ⟨by omega, by omega⟩ (by rw [zw_ne (by omega)]) ?_
  refine zV_iload hX dX11_hears_51 rfl ?_
  refine zV_if_neN hX (tgt := 60) dX11_hears_53 (by decide) (by omega) (fun c_53 => ?_) (fun c_53 => absurd c_53 (by decide))
  refine zV_iconst hX (v := nI 1) dX11_hears_60 (by decide) ?_
  refine zV_iadd hX dX11_hears_61 ?_
  refine zV_iast hX dX11_hears_62 (zo300.a 23 rfl) (rfl) ⟨by omega, by omega⟩ ?_
  refine zV_aload_n hX dX11_hears_63 rfl ?_
  refine zV_dup hX dX11_hears_64 rfl ?_
  refine zV_geti hX (x := M.1 300 19) dX11_hears_65 zf_X11_176 zo300.1 rfl (by first | rfl | (repeat rw [zw_ne (by omega)])) ?_
  refine zV_iload hX dX11_hears_68 rfl ?_
  refine zV_iconst hX (v := nI 1) dX11_hears_70 (by decide) ?_
  refine zV_icmp_neN hX (tgt := 83) dX11_hears_71 (by decide) ⟨by omega, by omega⟩ (fun c_71 => ?_) (fun c_71 => absurd c_71 (by decide))
  refine zV_iconst hX (v := nI 0) dX11_hears_83 (by decide) ?_
  refine zV_iadd hX dX11_hears_84 ?_
  refine zV_puti hX dX11_hears_85 zf_X11_176 zp_9_19 zo300.1 rfl ?_
  refine zV_iload hX dX11_hears_88 rfl ?_
  refine zV_iconst hX (v := nI 2) dX11_hears_90 (by decide) ?_
  refine zV_icmp_neN hX (tgt := 103) dX11_hears_91 (by decide) ⟨by omega, by omega⟩ (fun c_91 => absurd c_91 (by decide)) (fun c_91 => ?_)
  refine zV_iload hX dX11_hears_94 rfl ?_
  refine zV_if_eqN hX (tgt := 103) dX11_hears_96 (by decide) (by omega) (fun c_96 => ?_) (fun c_96 => absurd c_96 (by decide))
  refine zV_iconst hX (v := nI 0) dX11_hears_103 (by decide) ?_
  refine zV_istore hX dX11_hears_104 (by decide) ?_
  dsimp only [zst1, zst2, zclr, zc2]
  refine zV_aload_n hX dX11_hears_106 rfl ?_
  refine zV_geta hX dX11_hears_107 zf_X11_42 zo300.1 rfl ?_
  refine zV_iload_n hX dX11_hears_110 rfl ?_
  refine zV_aald hX dX11_hears_111 (t := 0) (zo300.a 20 rfl) (by decide) (rfl) ⟨by omega, by omega⟩ (mRow 20 (by decide)) ?_
  refine zV_iload_n hX dX11_hears_112 rfl ?_
  refine zV_iload hX dX11_hears_113 rfl ?_
  refine zV_if_eqN hX (tgt := 125) dX11_hears_115 (by decide) (by omega) (fun c_115 => ?_) (fun c_115 => absurd c_115 (by decide))
  refine zV_aload_n hX dX11_hears_125 rfl ?_
  refine zV_geti hX (x := M.1 300 24) dX11_hears_126 zf_X11_307 zo300.1 rfl (by first | rfl | (repeat rw [zw_ne (by omega)])) ?_
  refine zV_iast hX dX11_hears_129 (mSh20 (by omega)) (rfl) ⟨by omega, by omega⟩ ?_
  refine zV_aload_n hX dX11_hears_130 rfl ?_
  refine zV_geta hX dX11_hears_131 zf_X11_47 zo300.1 rfl ?_
  refine zV_iload_n hX dX11_hears_134 rfl ?_
  refine zV_aald hX dX11_hears_135 (t := 1) (zo300.a 21 rfl) (by decide) (rfl) ⟨by omega, by omega⟩ (mRow 21 (by decide)) ?_
  refine zV_iload_n hX dX11_hears_136 rfl ?_
  refine zV_iload hX dX11_hears_137 rfl ?_
  refine zV_if_neN hX (tgt := 151) dX11_hears_139 (by decide) (by omega) (fun c_139 => absurd c_139 (by decide)) (fun c_139 => ?_)
  refine zV_iload hX dX11_hears_142 rfl ?_
  refine zV_if_eqN hX (tgt := 151) dX11_hears_144 (by decide) (by omega) (fun c_144 => ?_) (fun c_144 => absurd c_144 (by decide))
  refine zV_iconst hX (v := nI 0) dX11_hears_151 (by decide) ?_
  refine zV_zast hX dX11_hears_152 (mSh21 (by omega)) (rfl) ⟨by omega, by omega⟩ (by decide) ?_
  exact zV_retv hX hQ hr (⟨rfl, by unfold mHr; rw [hb]; rfl⟩) dX11_hears_153
set_option maxHeartbeats 1000000 in
theorem zc_mhears21 (l : Launch) (G : zG) (M : zM) (s x p r : Nat) (hs : s < 7) (hx : x < 7) (hp : p < 57) (hr1 : 1 ≤ r) (hr5 : r ≤ 5) (hb : bit (mFd x r M) s = false) : zC l G 0 yX11_hears cX11_hears 8 (Option.none : Option Jvm.ClassFile.FieldType) [.ref (300 : Nat), .int (nI s), .int (nI x), .int (nI p), .int (nI 2), .int (nI r)] M (zP none (mHr s x p 2 r M)) := by
  refine zC_of (by decide) (Nat.le_of_ble_eq_true rfl) (fun X Q hQ hX hl hR hr => ?_)
  refine zV_loc (L' := [.ref (300 : Nat), .int (nI s), .int (nI x), .int (nI p), .int (nI 2), .int (nI r), .null, .null]) rfl ?_
  have hb9 :  ((M.1 (1000 + 16 * 22 + x) (r - 1) >>> (nI s &&& 31)) &&& nI 1 = 0) := by have h9 := hb; unfold bit mFd at h9; simpa using h9
  refine zV_aload_n hX dX11_hears_0 rfl ?_
  refine zV_geta hX dX11_hears_1 zf_X11_50 zo300.1 rfl ?_
  refine zV_iload_n hX dX11_hears_4 rfl ?_
  refine zV_aald hX dX11_hears_5 (t := 0) (zo300.a 22 rfl) (by decide) (rfl) ⟨by omega, by omega⟩ (mRow 22 (by decide)) ?_
  refine zV_iload hX dX11_hears_6 rfl ?_
  refine zV_iconst hX (v := nI 1) dX11_hears_8 (by decide) ?_
  refine zV_isubN hX dX11_hears_9 (by omega) ?_
  refine zV_iald hX dX11_hears_10 (mSh22 (by omega)) (rfl) ⟨by omega, by omega⟩ (rfl) ?_
  refine zV_iload_n hX dX11_hears_11 rfl ?_
  refine zV_ishr hX dX11_hears_12 ?_
  refine zV_iconst hX (v := nI 1) dX11_hears_13 (by decide) ?_
  refine zV_iand hX dX11_hears_14 ?_
  refine zV_if_ne hX (tgt := 22) dX11_hears_15 (by decide) (fun c_15 => absurd c_15 (not_not_intro hb9)) (fun c_15 => ?_)
  refine zV_iconst hX (v := nI 1) dX11_hears_18 (by decide) ?_
  refine zV_goto hX (tgt := 23) dX11_hears_19 (by decide) ?_
  refine zV_istore hX dX11_hears_23 (by decide) ?_
  dsimp only [zst1, zst2, zclr, zc2]
  refine zV_aload_n hX dX11_hears_25 rfl ?_
  refine zV_dup hX dX11_hears_26 rfl ?_
  refine zV_geti hX (x := M.1 300 18) dX11_hears_27 zf_X11_173 zo300.1 rfl (by first | rfl | (repeat rw [zw_ne (by omega)])) ?_
  refine zV_iload hX dX11_hears_30 rfl ?_
  refine zV_if_neN hX (tgt := 39) dX11_hears_32 (by decide) (by omega) (fun c_32 => ?_) (fun c_32 => absurd c_32 (by decide))
  refine zV_iconst hX (v := nI 1) dX11_hears_39 (by decide) ?_
  refine zV_iadd hX dX11_hears_40 ?_
  refine zV_puti hX dX11_hears_41 zf_X11_173 zp_9_18 zo300.1 rfl ?_
  refine zV_aload_n hX dX11_hears_44 rfl ?_
  refine zV_geta hX dX11_hears_45 zf_X11_53 zo300.1 rfl ?_
  refine zV_iload_n hX dX11_hears_48 rfl ?_
  refine zV_dup2 hX dX11_hears_49 rfl rfl ?_
  refine zV_iald hX (v := M.1 (300 + 1 + 23) s) dX11_hears_50 (zo300.a 23 rfl) (rfl) ⟨by omega, by omega⟩ (by rw [zw_ne (by omega)]) ?_
  refine zV_iload hX dX11_hears_51 rfl ?_
  refine zV_if_neN hX (tgt := 60) dX11_hears_53 (by decide) (by omega) (fun c_53 => ?_) (fun c_53 => absurd c_53 (by decide))
  refine zV_iconst hX (v := nI 1) dX11_hears_60 (by decide) ?_
  refine zV_iadd hX dX11_hears_61 ?_
  refine zV_iast hX dX11_hears_62 (zo300.a 23 rfl) (rfl) ⟨by omega, by omega⟩ ?_
  refine zV_aload_n hX dX11_hears_63 rfl ?_
  refine zV_dup hX dX11_hears_64 rfl ?_
  refine zV_geti hX (x := M.1 300 19) dX11_hears_65 zf_X11_176 zo300.1 rfl (by first | rfl | (repeat rw [zw_ne (by omega)])) ?_
  refine zV_iload hX dX11_hears_68 rfl ?_
  refine zV_iconst hX (v := nI 1) dX11_hears_70 (by decide) ?_
  refine zV_icmp_neN hX (tgt := 83) dX11_hears_71 (by decide) ⟨by omega, by omega⟩ (fun c_71 => ?_) (fun c_71 => absurd c_71 (by decide))
  refine zV_iconst hX (v := nI 0) dX11_hears_83 (by decide) ?_
  refine zV_iadd hX dX11_hears_84 ?_
  refine zV_puti hX dX11_hears_85 zf_X11_176 zp_9_19 zo300.1 rfl ?_
  refine zV_iload hX dX11_hears_88 rfl ?_
  refine zV_iconst hX (v := nI 2) dX11_hears_90 (by decide) ?_
  refine zV_icmp_neN hX (tgt := 103) dX11_hears_91 (by decide) ⟨by omega, by omega⟩ (fun c_91 => absurd c_91 (by decide)) (fun c_91 => ?_)
  refine zV_iload hX dX11_hears_94 rfl ?_
  refine zV_if_eqN hX (tgt := 103) dX11_hears_96 (by decide) (by omega) (fun c_96 => absurd c_96 (by decide)) (fun c_96 => ?_)
  refine zV_iconst hX (v := nI 1) dX11_hears_99 (by decide) ?_
  refine zV_goto hX (tgt := 104) dX11_hears_100 (by decide) ?_
  refine zV_istore hX dX11_hears_104 (by decide) ?_
  dsimp only [zst1, zst2, zclr, zc2]
  refine zV_aload_n hX dX11_hears_106 rfl ?_
  refine zV_geta hX dX11_hears_107 zf_X11_42 zo300.1 rfl ?_
  refine zV_iload_n hX dX11_hears_110 rfl ?_
  refine zV_aald hX dX11_hears_111 (t := 0) (zo300.a 20 rfl) (by decide) (rfl) ⟨by omega, by omega⟩ (mRow 20 (by decide)) ?_
  refine zV_iload_n hX dX11_hears_112 rfl ?_
  refine zV_iload hX dX11_hears_113 rfl ?_
  refine zV_if_eqN hX (tgt := 125) dX11_hears_115 (by decide) (by omega) (fun c_115 => absurd c_115 (by decide)) (fun c_115 => ?_)
  refine zV_aload_n hX dX11_hears_118 rfl ?_
  refine zV_geti hX (x := M.1 300 16) dX11_hears_119 zf_X11_298 zo300.1 rfl (by first | rfl | (repeat rw [zw_ne (by omega)])) ?_
  refine zV_goto hX (tgt := 129) dX11_hears_122 (by decide) ?_
  refine zV_iast hX dX11_hears_129 (mSh20 (by omega)) (rfl) ⟨by omega, by omega⟩ ?_
  refine zV_aload_n hX dX11_hears_130 rfl ?_
  refine zV_geta hX dX11_hears_131 zf_X11_47 zo300.1 rfl ?_
  refine zV_iload_n hX dX11_hears_134 rfl ?_
  refine zV_aald hX dX11_hears_135 (t := 1) (zo300.a 21 rfl) (by decide) (rfl) ⟨by omega, by omega⟩ (mRow 21 (by decide)) ?_
  refine zV_iload_n hX dX11_hears_136 rfl ?_
  refine zV_iload hX dX11_hears_137 rfl ?_
  refine zV_if_neN hX (tgt := 151) dX11_hears_139 (by decide) (by omega) (fun c_139 => ?_) (fun c_139 => absurd c_139 (by decide))
  refine zV_iconst hX (v := nI 0) dX11_hears_151 (by decide) ?_
  refine zV_zast hX dX11_hears_152 (mSh21 (by omega)) (rfl) ⟨by omega, by omega⟩ (by decide) ?_
  exact zV_retv hX hQ hr (⟨rfl, by unfold mHr; rw [hb]; rfl⟩) dX11_hears_153
theorem zc_mhears (l : Launch) (G : zG) (M : zM) (s x p q r : Nat) (hs : s < 7) (hx : x < 7) (hp : p < 57) (hq : q < 3) (hr1 : 1 ≤ r) (hr5 : r ≤ 5) : zC l G 0 yX11_hears cX11_hears 8 (Option.none : Option Jvm.ClassFile.FieldType) [.ref (300 : Nat), .int (nI s), .int (nI x), .int (nI p), .int (nI q), .int (nI r)] M (zP none (mHr s x p q r M)) := by
  match q, hq with
  | 0, _ =>
    cases hb : bit (mFd x r M) s with
    | true => exact zc_mhears00 l G M s x p r hs hx hp hr1 hr5 hb
    | false => exact zc_mhears01 l G M s x p r hs hx hp hr1 hr5 hb
  | 1, _ =>
    cases hb : bit (mFd x r M) s with
    | true => exact zc_mhears10 l G M s x p r hs hx hp hr1 hr5 hb
    | false => exact zc_mhears11 l G M s x p r hs hx hp hr1 hr5 hb
  | 2, _ =>
    cases hb : bit (mFd x r M) s with
    | true => exact zc_mhears20 l G M s x p r hs hx hp hr1 hr5 hb
    | false => exact zc_mhears21 l G M s x p r hs hx hp hr1 hr5 hb
