-- ORAL of the class, at o
def zsec (p : Nat) : Nat := if p < 8 then p - 1 else (p - 8) / 7
def zlast (c p : Nat) : Nat := if p = 0 then c else if p < 8 then p - 1 else (p - 8) % 7
def zlong (p m : Nat) : Nat := if p = 0 then 1 + m else 8 + 7 * (p - 1) + m
def oOn (o : Nat) (M : zM) (p m : Nat) : Bool := bit (M.1 (o + 1 + 18) p) m
def oPath (o : Nat) (M : zM) (p : Nat) : Bool := !(M.1 (o + 1 + 18) p == 0)
def oKeep (o m p : Nat) (v : Int32) (g : Bool) (M : zM) : zM := zw (zw M (o + 1 + 12) (m * 57 + p) v) (o + 1 + 13) (m * 57 + p) (zb g)
def oHears (o c : Nat) (M : zM) (m p : Nat) : Bool := !oOn o M p m || (decide (0 < p) && decide (zlast c p = m))
set_option maxHeartbeats 1000000 in
theorem zc_secondOf (l : Launch) (G : zG) (M : zM) (p : Nat) (hp1 : 0 < p) (hp : p < 57) : zC l G 0 yX6_secondOf cX6_secondOf 1 (Option.some Jvm.ClassFile.FieldType.int) [.int (nI p)] M (zP (some (.int (nI (zsec p)))) M) := by
  refine zC_of (by decide) (Nat.le_of_ble_eq_true rfl) (fun X Q hQ hX hl hR hr => ?_)
  refine zV_loc (L' := [.int (nI p)]) rfl ?_
  refine zV_iload_n hX dX6_secondOf_0 rfl ?_
  refine zV_bipush hX (v := nI 8) dX6_secondOf_1 (by decide) ?_
  refine zV_icmp_geN hX (tgt := 12) dX6_secondOf_3 (by decide) ⟨by omega, by omega⟩ (fun c_3 => ?_) (fun c_3 => ?_)
  · refine zV_iload_n hX dX6_secondOf_12 rfl ?_
    refine zV_bipush hX (v := nI 8) dX6_secondOf_13 (by decide) ?_
    refine zV_isubN hX dX6_secondOf_15 (by omega) ?_
    refine zV_bipush hX (v := nI 7) dX6_secondOf_16 (by decide) ?_
    refine zV_idivN hX dX6_secondOf_18 ⟨by omega, by decide, by decide⟩ ?_
    exact zV_reti hX hQ hr (⟨by simp only [zsec]; first | rw [if_pos c_3] | rw [if_neg (by omega)], rfl⟩) dX6_secondOf_19
  · refine zV_iload_n hX dX6_secondOf_6 rfl ?_
    refine zV_iconst hX (v := nI 1) dX6_secondOf_7 (by decide) ?_
    refine zV_isubN hX dX6_secondOf_8 (by omega) ?_
    refine zV_goto hX (tgt := 19) dX6_secondOf_9 (by decide) ?_
    exact zV_reti hX hQ hr (⟨by simp only [zsec]; first | rw [if_pos c_3] | rw [if_neg (by omega)], rfl⟩) dX6_secondOf_19
set_option maxHeartbeats 1000000 in
theorem zc_longerBy (l : Launch) (G : zG) (M : zM) (p m : Nat) (hp : p < 57) : zC l G 0 yX6_longerBy cX6_longerBy 2 (Option.some Jvm.ClassFile.FieldType.int) [.int (nI p), .int (nI m)] M (zP (some (.int (nI (zlong p m)))) M) := by
  refine zC_of (by decide) (Nat.le_of_ble_eq_true rfl) (fun X Q hQ hX hl hR hr => ?_)
  refine zV_loc (L' := [.int (nI p), .int (nI m)]) rfl ?_
  refine zV_iload_n hX dX6_longerBy_0 rfl ?_
  refine zV_if_neN hX (tgt := 10) dX6_longerBy_1 (by decide) (by omega) (fun c_1 => ?_) (fun c_1 => ?_)
  · refine zV_bipush hX (v := nI 8) dX6_longerBy_10 (by decide) ?_
    refine zV_bipush hX (v := nI 7) dX6_longerBy_12 (by decide) ?_
    refine zV_iload_n hX dX6_longerBy_14 rfl ?_
    refine zV_iconst hX (v := nI 1) dX6_longerBy_15 (by decide) ?_
    refine zV_isubN hX dX6_longerBy_16 (by omega) ?_
    refine zV_imulN hX dX6_longerBy_17 ?_
    refine zV_iaddN hX dX6_longerBy_18 ?_
    refine zV_iload_n hX dX6_longerBy_19 rfl ?_
    refine zV_iaddN hX dX6_longerBy_20 ?_
    exact zV_reti hX hQ hr (⟨by simp only [zlong]; first | rw [if_pos c_1] | rw [if_neg (by omega)], rfl⟩) dX6_longerBy_21
  · refine zV_iconst hX (v := nI 1) dX6_longerBy_4 (by decide) ?_
    refine zV_iload_n hX dX6_longerBy_5 rfl ?_
    refine zV_iaddN hX dX6_longerBy_6 ?_
    refine zV_goto hX (tgt := 21) dX6_longerBy_7 (by decide) ?_
    exact zV_reti hX hQ hr (⟨by simp only [zlong]; first | rw [if_pos c_1] | rw [if_neg (by omega)], rfl⟩) dX6_longerBy_21
set_option maxHeartbeats 1000000 in
theorem zc_lastOf (l : Launch) (G : zG) (M : zM) (o p c : Nat) (hO : zOb 5 o) (hcm : M.1 o 0 = nI c) (hp : p < 57) : zC l G 0 yX6_lastOf cX6_lastOf 2 (Option.some Jvm.ClassFile.FieldType.int) [.ref o, .int (nI p)] M (zP (some (.int (nI (zlast c p)))) M) := by
  refine zC_of (by decide) (Nat.le_of_ble_eq_true rfl) (fun X Q hQ hX hl hR hr => ?_)
  refine zV_loc (L' := [.ref o, .int (nI p)]) rfl ?_
  refine zV_iload_n hX dX6_lastOf_0 rfl ?_
  refine zV_if_neN hX (tgt := 9) dX6_lastOf_1 (by decide) (by omega) (fun c_1 => ?_) (fun c_1 => ?_)
  · refine zV_iload_n hX dX6_lastOf_9 rfl ?_
    refine zV_bipush hX (v := nI 8) dX6_lastOf_10 (by decide) ?_
    refine zV_icmp_geN hX (tgt := 21) dX6_lastOf_12 (by decide) ⟨by omega, by omega⟩ (fun c_12 => ?_) (fun c_12 => ?_)
    · refine zV_iload_n hX dX6_lastOf_21 rfl ?_
      refine zV_bipush hX (v := nI 8) dX6_lastOf_22 (by decide) ?_
      refine zV_isubN hX dX6_lastOf_24 (by omega) ?_
      refine zV_bipush hX (v := nI 7) dX6_lastOf_25 (by decide) ?_
      refine zV_iremN hX dX6_lastOf_27 ⟨by omega, by decide, by decide⟩ ?_
      exact zV_reti hX hQ hr (⟨by rw [zlast, if_neg (by omega)]; first | rw [if_pos c_12] | rw [if_neg (by omega)], rfl⟩) dX6_lastOf_28
    · refine zV_iload_n hX dX6_lastOf_15 rfl ?_
      refine zV_iconst hX (v := nI 1) dX6_lastOf_16 (by decide) ?_
      refine zV_isubN hX dX6_lastOf_17 (by omega) ?_
      refine zV_goto hX (tgt := 28) dX6_lastOf_18 (by decide) ?_
      exact zV_reti hX hQ hr (⟨by rw [zlast, if_neg (by omega)]; first | rw [if_pos c_12] | rw [if_neg (by omega)], rfl⟩) dX6_lastOf_28
  · refine zV_aload_n hX dX6_lastOf_4 rfl ?_
    refine zV_geti hX dX6_lastOf_5 zf_X6_9 hO.1 rfl (hcm) ?_
    exact zV_reti hX hQ hr (⟨by rw [zlast, if_pos c_1], rfl⟩) dX6_lastOf_8
set_option maxHeartbeats 1000000 in
theorem zc_isPath (l : Launch) (G : zG) (M : zM) (o p : Nat) (hO : zOb 5 o) (hp : p < 57) : zC l G 0 yX6_isPath cX6_isPath 2 (Option.some Jvm.ClassFile.FieldType.boolean) [.ref o, .int (nI p)] M (zP (some (.int (zb (oPath o M p)))) M) := by
  refine zC_of (by decide) (Nat.le_of_ble_eq_true rfl) (fun X Q hQ hX hl hR hr => ?_)
  refine zV_loc (L' := [.ref o, .int (nI p)]) rfl ?_
  refine zV_aload_n hX dX6_isPath_0 rfl ?_
  refine zV_geta hX dX6_isPath_1 zf_X6_47 hO.1 rfl ?_
  refine zV_iload_n hX dX6_isPath_4 rfl ?_
  refine zV_iald hX dX6_isPath_5 (hO.a 18 rfl) (rfl) ⟨by omega, by omega⟩ (rfl) ?_
  refine zV_if_eq hX (tgt := 13) dX6_isPath_6 (by decide) (fun c_6 => ?_) (fun c_6 => ?_)
  · refine zV_iconst hX (v := nI 0) dX6_isPath_13 (by decide) ?_
    exact zV_retz hX hQ hr (rfl) (⟨by simp [zb, oPath, c_6], rfl⟩) dX6_isPath_14
  · refine zV_iconst hX (v := nI 1) dX6_isPath_9 (by decide) ?_
    refine zV_goto hX (tgt := 14) dX6_isPath_10 (by decide) ?_
    exact zV_retz hX hQ hr (rfl) (⟨by simp [zb, oPath, c_6], rfl⟩) dX6_isPath_14
set_option maxHeartbeats 1000000 in
theorem zc_isOn (l : Launch) (G : zG) (M : zM) (o p m : Nat) (hO : zOb 5 o) (hp : p < 57) : zC l G 0 yX6_isOn cX6_isOn 3 (Option.some Jvm.ClassFile.FieldType.boolean) [.ref o, .int (nI p), .int (nI m)] M (zP (some (.int (zb (oOn o M p m)))) M) := by
  refine zC_of (by decide) (Nat.le_of_ble_eq_true rfl) (fun X Q hQ hX hl hR hr => ?_)
  refine zV_loc (L' := [.ref o, .int (nI p), .int (nI m)]) rfl ?_
  refine zV_aload_n hX dX6_isOn_0 rfl ?_
  refine zV_geta hX dX6_isOn_1 zf_X6_47 hO.1 rfl ?_
  refine zV_iload_n hX dX6_isOn_4 rfl ?_
  refine zV_iald hX dX6_isOn_5 (hO.a 18 rfl) (rfl) ⟨by omega, by omega⟩ (rfl) ?_
  refine zV_iload_n hX dX6_isOn_6 rfl ?_
  refine zV_ishr hX dX6_isOn_7 ?_
  refine zV_iconst hX (v := nI 1) dX6_isOn_8 (by decide) ?_
  refine zV_iand hX dX6_isOn_9 ?_
  refine zV_if_eq hX (tgt := 17) dX6_isOn_10 (by decide) (fun c_10 => ?_) (fun c_10 => ?_)
  · refine zV_iconst hX (v := nI 0) dX6_isOn_17 (by decide) ?_
    exact zV_retz hX hQ hr (rfl) (⟨by simp [zb, oOn, bit, c_10], rfl⟩) dX6_isOn_18
  · refine zV_iconst hX (v := nI 1) dX6_isOn_13 (by decide) ?_
    refine zV_goto hX (tgt := 18) dX6_isOn_14 (by decide) ?_
    exact zV_retz hX hQ hr (rfl) (⟨by simp [zb, oOn, bit, c_10], rfl⟩) dX6_isOn_18
theorem zlast_lt {c p : Nat} (hp : p < 57) (hc : c < 7) : zlast c p < 7 := by
  unfold zlast
  split
  · exact hc
  · split
    · omega
    · exact Nat.mod_lt _ (by decide)
set_option maxHeartbeats 1000000 in
theorem zc_hears (l : Launch) (G : zG) (M : zM) (o m p c : Nat) (hO : zOb 5 o) (hcm : M.1 o 0 = nI c) (hc : c < 7) (hm : m < 7) (hp : p < 57) : zC l G 1 yX6_hears cX6_hears 3 (Option.some Jvm.ClassFile.FieldType.boolean) [.ref o, .int (nI m), .int (nI p)] M (zP (some (.int (zb (oHears o c M m p)))) M) := by
  refine zC_of (by decide) (Nat.le_of_ble_eq_true rfl) (fun X Q hQ hX hl hR hr => ?_)
  refine zV_loc (L' := [.ref o, .int (nI m), .int (nI p)]) rfl ?_
  refine zV_aload_n hX dX6_hears_0 rfl ?_
  refine zV_iload_n hX dX6_hears_1 rfl ?_
  refine zV_iload_n hX dX6_hears_2 rfl ?_
  refine zV_cV2p hX hR hl dX6_hears_3 (zc_isOn l G M o p m hO hp) zt_X6_isOn rfl zml_X6_132 hO.1 ⟨by decide, by decide⟩ (Nat.le_of_ble_eq_true rfl) ?_
  dsimp only [Option.toList, List.cons_append, List.nil_append]
  refine zV_if_eqB hX (tgt := 22) dX6_hears_6 (by decide) (fun c_6 => ?_) (fun c_6 => ?_)
  · have e9 : oHears o c M m p = true := by simp [oHears, c_6]
    refine zV_iconst hX (v := nI 1) dX6_hears_22 (by decide) ?_
    refine zV_goto hX (tgt := 27) dX6_hears_23 (by decide) ?_
    exact zV_retz hX hQ hr (rfl) (⟨by rw [e9]; rfl, rfl⟩) dX6_hears_27
  · refine zV_iload_n hX dX6_hears_9 rfl ?_
    refine zV_if_leN hX (tgt := 26) dX6_hears_10 (by decide) (by omega) (fun c_10 => ?_) (fun c_10 => ?_)
    · have e9 : oHears o c M m p = false := by simp only [oHears, c_6]; simp [c_10]
      refine zV_iconst hX (v := nI 0) dX6_hears_26 (by decide) ?_
      exact zV_retz hX hQ hr (rfl) (⟨by rw [e9]; rfl, rfl⟩) dX6_hears_27
    · refine zV_aload_n hX dX6_hears_13 rfl ?_
      refine zV_iload_n hX dX6_hears_14 rfl ?_
      refine zV_cV1p hX hR hl dX6_hears_15 (zc_lastOf l G M o p c hO hcm hp) zt_X6_lastOf rfl zml_X6_135 hO.1 ⟨by decide, by decide⟩ (Nat.le_of_ble_eq_true rfl) ?_
      dsimp only [Option.toList, List.cons_append, List.nil_append]
      refine zV_iload_n hX dX6_hears_18 rfl ?_
      refine zV_icmp_neN hX (tgt := 26) dX6_hears_19 (by decide) ⟨by have := zlast_lt (c := c) hp hc; omega, by omega⟩ (fun c_19 => ?_) (fun c_19 => ?_)
      · have e9 : oHears o c M m p = false := by simp [oHears, c_6, c_19]
        refine zV_iconst hX (v := nI 0) dX6_hears_26 (by decide) ?_
        exact zV_retz hX hQ hr (rfl) (⟨by rw [e9]; rfl, rfl⟩) dX6_hears_27
      · have e9 : oHears o c M m p = true := by simp [oHears, c_10, c_19]
        refine zV_iconst hX (v := nI 1) dX6_hears_22 (by decide) ?_
        refine zV_goto hX (tgt := 27) dX6_hears_23 (by decide) ?_
        exact zV_retz hX hQ hr (rfl) (⟨by rw [e9]; rfl, rfl⟩) dX6_hears_27
set_option maxHeartbeats 1000000 in
theorem zc_heardBy (l : Launch) (G : zG) (M : zM) (o m p : Nat) (hO : zOb 5 o) (hm : m < 7) (hp : p < 57) : zC l G 0 yX6_heardBy cX6_heardBy 3 (Option.some Jvm.ClassFile.FieldType.int) [.ref o, .int (nI m), .int (nI p)] M (zP (some (.int (M.1 (o + 1 + 12) (m * 57 + p)))) M) := by
  refine zC_of (by decide) (Nat.le_of_ble_eq_true rfl) (fun X Q hQ hX hl hR hr => ?_)
  refine zV_loc (L' := [.ref o, .int (nI m), .int (nI p)]) rfl ?_
  refine zV_aload_n hX dX6_heardBy_0 rfl ?_
  refine zV_geta hX dX6_heardBy_1 zf_X6_28 hO.1 rfl ?_
  refine zV_iload_n hX dX6_heardBy_4 rfl ?_
  refine zV_bipush hX (v := nI 57) dX6_heardBy_5 (by decide) ?_
  refine zV_imulN hX dX6_heardBy_7 ?_
  refine zV_iload_n hX dX6_heardBy_8 rfl ?_
  refine zV_iaddN hX dX6_heardBy_9 ?_
  refine zV_iald hX dX6_heardBy_10 (hO.a 12 rfl) (rfl) ⟨by omega, by omega⟩ (rfl) ?_
  exact zV_reti hX hQ hr (⟨rfl, rfl⟩) dX6_heardBy_11
set_option maxHeartbeats 1000000 in
theorem zc_resolvedBy (l : Launch) (G : zG) (M : zM) (o m p : Nat) (hO : zOb 5 o) (hm : m < 7) (hp : p < 57) : zC l G 0 yX6_resolvedBy cX6_resolvedBy 3 (Option.some Jvm.ClassFile.FieldType.int) [.ref o, .int (nI m), .int (nI p)] M (zP (some (.int (M.1 (o + 1 + 14) (m * 57 + p)))) M) := by
  refine zC_of (by decide) (Nat.le_of_ble_eq_true rfl) (fun X Q hQ hX hl hR hr => ?_)
  refine zV_loc (L' := [.ref o, .int (nI m), .int (nI p)]) rfl ?_
  refine zV_aload_n hX dX6_resolvedBy_0 rfl ?_
  refine zV_geta hX dX6_resolvedBy_1 zf_X6_35 hO.1 rfl ?_
  refine zV_iload_n hX dX6_resolvedBy_4 rfl ?_
  refine zV_bipush hX (v := nI 57) dX6_resolvedBy_5 (by decide) ?_
  refine zV_imulN hX dX6_resolvedBy_7 ?_
  refine zV_iload_n hX dX6_resolvedBy_8 rfl ?_
  refine zV_iaddN hX dX6_resolvedBy_9 ?_
  refine zV_iald hX dX6_resolvedBy_10 (hO.a 14 rfl) (rfl) ⟨by omega, by omega⟩ (rfl) ?_
  exact zV_reti hX hQ hr (⟨rfl, rfl⟩) dX6_resolvedBy_11
set_option maxHeartbeats 1000000 in
theorem zc_isGone (l : Launch) (G : zG) (M : zM) (o m p : Nat) (g : Bool) (hO : zOb 5 o) (hm : m < 7) (hp : p < 57) (hg : M.1 (o + 1 + 13) (m * 57 + p) = zb g) : zC l G 0 yX6_isGone cX6_isGone 3 (Option.some Jvm.ClassFile.FieldType.boolean) [.ref o, .int (nI m), .int (nI p)] M (zP (some (.int (zb g))) M) := by
  refine zC_of (by decide) (Nat.le_of_ble_eq_true rfl) (fun X Q hQ hX hl hR hr => ?_)
  refine zV_loc (L' := [.ref o, .int (nI m), .int (nI p)]) rfl ?_
  refine zV_aload_n hX dX6_isGone_0 rfl ?_
  refine zV_geta hX dX6_isGone_1 zf_X6_31 hO.1 rfl ?_
  refine zV_iload_n hX dX6_isGone_4 rfl ?_
  refine zV_bipush hX (v := nI 57) dX6_isGone_5 (by decide) ?_
  refine zV_imulN hX dX6_isGone_7 ?_
  refine zV_iload_n hX dX6_isGone_8 rfl ?_
  refine zV_iaddN hX dX6_isGone_9 ?_
  refine zV_zald hX dX6_isGone_10 (hO.a 13 rfl) (rfl) ⟨by omega, by omega⟩ (hg) ?_
  exact zV_retz hX hQ hr (zb_nar _) (⟨rfl, rfl⟩) dX6_isGone_11
set_option maxHeartbeats 1000000 in
theorem zc_keep (l : Launch) (G : zG) (M : zM) (o m p : Nat) (v : Int32) (g : Bool) (hO : zOb 5 o) (hm : m < 7) (hp : p < 57) : zC l G 0 yX6_keep cX6_keep 5 (Option.none : Option Jvm.ClassFile.FieldType) [.ref o, .int (nI m), .int (nI p), .int v, .int (zb g)] M (zP none (oKeep o m p v g M)) := by
  refine zC_of (by decide) (Nat.le_of_ble_eq_true rfl) (fun X Q hQ hX hl hR hr => ?_)
  refine zV_loc (L' := [.ref o, .int (nI m), .int (nI p), .int v, .int (zb g)]) rfl ?_
  refine zV_aload_n hX dX6_keep_0 rfl ?_
  refine zV_geta hX dX6_keep_1 zf_X6_28 hO.1 rfl ?_
  refine zV_iload_n hX dX6_keep_4 rfl ?_
  refine zV_bipush hX (v := nI 57) dX6_keep_5 (by decide) ?_
  refine zV_imulN hX dX6_keep_7 ?_
  refine zV_iload_n hX dX6_keep_8 rfl ?_
  refine zV_iaddN hX dX6_keep_9 ?_
  refine zV_iload_n hX dX6_keep_10 rfl ?_
  refine zV_iast hX dX6_keep_11 (hO.a 12 rfl) (rfl) ⟨by omega, by omega⟩ ?_
  refine zV_aload_n hX dX6_keep_12 rfl ?_
  refine zV_geta hX dX6_keep_13 zf_X6_31 hO.1 rfl ?_
  refine zV_iload_n hX dX6_keep_16 rfl ?_
  refine zV_bipush hX (v := nI 57) dX6_keep_17 (by decide) ?_
  refine zV_imulN hX dX6_keep_19 ?_
  refine zV_iload_n hX dX6_keep_20 rfl ?_
  refine zV_iaddN hX dX6_keep_21 ?_
  refine zV_iload hX dX6_keep_22 rfl ?_
  refine zV_zast hX dX6_keep_24 (hO.a 13 rfl) (rfl) ⟨by omega, by omega⟩ (zb_01 g) ?_
  exact zV_retv hX hQ hr (⟨rfl, rfl⟩) dX6_keep_25
set_option maxHeartbeats 1000000 in
theorem zc_decided (l : Launch) (G : zG) (M : zM) (o m : Nat) (hO : zOb 5 o) (hm : m < 7) : zC l G 0 yX6_decided cX6_decided 2 (Option.some Jvm.ClassFile.FieldType.int) [.ref o, .int (nI m)] M (zP (some (.int (M.1 (o + 1 + 16) m))) M) := by
  refine zC_of (by decide) (Nat.le_of_ble_eq_true rfl) (fun X Q hQ hX hl hR hr => ?_)
  refine zV_loc (L' := [.ref o, .int (nI m)]) rfl ?_
  refine zV_aload_n hX dX6_decided_0 rfl ?_
  refine zV_geta hX dX6_decided_1 zf_X6_41 hO.1 rfl ?_
  refine zV_iload_n hX dX6_decided_4 rfl ?_
  refine zV_iald hX dX6_decided_5 (hO.a 16 rfl) (rfl) ⟨by omega, by omega⟩ (rfl) ?_
  exact zV_reti hX hQ hr (⟨rfl, rfl⟩) dX6_decided_6
def zunl (row : Nat → Int32) (lo : Int32) (n : Nat) : Nat := zcnt (fun i => !(bit lo i || zany (fun k => !bit lo k && row k == row i) i)) n
set_option maxHeartbeats 1000000 in
theorem zc_ounlike (l : Launch) (G : zG) (M : zM) (o n : Nat) (hO : zOb 5 o) (hn : M.1 o 7 = nI n) (hn7 : n ≤ 7) : zC l G 3 yX6_unlike cX6_unlike 1 (Option.some Jvm.ClassFile.FieldType.int) [.ref o] M (zP (some (.int (nI (zunl (M.1 (o + 1 + 16)) (M.1 o 10) n)))) M) := by
  refine zC_of (by decide) (Nat.le_of_ble_eq_true rfl) (fun X Q hQ hX hl hR hr => ?_)
  refine zV_loc (L' := [.ref o]) rfl ?_
  refine zV_aload_n hX dX6_unlike_0 rfl ?_
  refine zV_geta hX dX6_unlike_1 zf_X6_41 hO.1 rfl ?_
  refine zV_aload_n hX dX6_unlike_4 rfl ?_
  refine zV_geti hX dX6_unlike_5 zf_X6_67 hO.1 rfl (hn) ?_
  refine zV_aload_n hX dX6_unlike_8 rfl ?_
  refine zV_geti hX dX6_unlike_9 zf_X6_85 hO.1 rfl rfl ?_
  refine zV_cS3p hX hR hl dX6_unlike_12 (zc_unlike l G M (o + 1 + 16) 7 n _ (hO.a 16 rfl) (by decide) hn7) zt_X9_unlike rfl zml_X6_118 (by decide) (Nat.le_of_ble_eq_true rfl) ?_
  dsimp only [Option.toList, List.cons_append, List.nil_append]
  exact zV_reti hX hQ hr (⟨rfl, rfl⟩) dX6_unlike_15
def zall (p : Nat → Bool) : Nat → Bool
  | 0 => true
  | n + 1 => zall p n && p n
theorem zall_false {p : Nat → Bool} {k : Nat} : ∀ {n : Nat}, k < n → p k = false → zall p n = false
  | 0, h, _ => absurd h (Nat.not_lt_zero k)
  | n + 1, h, hp => by
    rcases Nat.lt_or_ge k n with q | q
    · rw [zall, zall_false q hp]; rfl
    · rw [zall, show n = k by omega, hp, Bool.and_false]
def oObeyed (o n c : Nat) (M : zM) : Bool := bit (M.1 o 10) c || zall (fun m => bit (M.1 o 10) m || M.1 (o + 1 + 16) m == M.1 o 11) n
set_option maxHeartbeats 1000000 in
theorem zc_obeyed (l : Launch) (G : zG) (M : zM) (o n c : Nat) (hO : zOb 5 o) (hn : M.1 o 7 = nI n) (hn7 : n ≤ 7) (hcm : M.1 o 0 = nI c) : zC l G 1 yX6_obeyed cX6_obeyed 2 (Option.some Jvm.ClassFile.FieldType.boolean) [.ref o] M (zP (some (.int (zb (oObeyed o n c M)))) M) := by
  refine zC_of (by decide) (Nat.le_of_ble_eq_true rfl) (fun X Q hQ hX hl hR hr => ?_)
  refine zV_loc (L' := [.ref o, .null]) rfl ?_
  have L18 : bit (M.1 o 10) c = false → ∀ (f9 k : Nat), n - k < f9 → k ≤ n → zall (fun m => bit (M.1 o 10) m || M.1 (o + 1 + 16) m == M.1 o 11) k = true → zV G X Q 2 0 0 18 [.ref o, .int (nI k)] [] M := by
    intro c_11
    intro f9
    induction f9 with
    | zero => intro k hk1 hk2 hk3; exact absurd hk1 (Nat.not_lt_zero _)
    | succ f9 ih =>
      intro k hk1 hk2 hk3
      refine zV_iload_n hX dX6_obeyed_18 rfl ?_
      refine zV_aload_n hX dX6_obeyed_19 rfl ?_
      refine zV_geti hX dX6_obeyed_20 zf_X6_67 hO.1 rfl (hn) ?_
      refine zV_icmp_geN hX (tgt := 58) dX6_obeyed_23 (by decide) ⟨by omega, by omega⟩ (fun c_23 => ?_) (fun c_23 => ?_)
      · refine zV_iconst hX (v := nI 1) dX6_obeyed_58 (by decide) ?_
        exact zV_retz hX hQ hr (rfl) (⟨by rw [oObeyed, c_11, show n = k by omega, hk3]; rfl, rfl⟩) dX6_obeyed_59
      · refine zV_aload_n hX dX6_obeyed_26 rfl ?_
        refine zV_geti hX dX6_obeyed_27 zf_X6_85 hO.1 rfl rfl ?_
        refine zV_iload_n hX dX6_obeyed_30 rfl ?_
        refine zV_cS2p hX hR hl dX6_obeyed_31 (zc_isIn l G M _ k) zt_X9_isIn rfl zml_X6_124 (by decide) (Nat.le_of_ble_eq_true rfl) ?_
        dsimp only [Option.toList, List.cons_append, List.nil_append]
        refine zV_if_neB hX (tgt := 52) dX6_obeyed_34 (by decide) (fun c_34 => ?_) (fun c_34 => ?_)
        · have e9 : zall (fun m => bit (M.1 o 10) m || M.1 (o + 1 + 16) m == M.1 o 11) (k + 1) = true := by rw [zall, hk3]; simp [c_34]
          refine zV_iincN hX (b := 1) dX6_obeyed_52 rfl (by decide) ?_
          dsimp only [zst1, zst2, zclr, zc2]
          refine zV_goto hX (tgt := 18) dX6_obeyed_55 (by decide) ?_
          exact ih (k + 1) (by omega) (by omega) e9
        · refine zV_aload_n hX dX6_obeyed_37 rfl ?_
          refine zV_geta hX dX6_obeyed_38 zf_X6_41 hO.1 rfl ?_
          refine zV_iload_n hX dX6_obeyed_41 rfl ?_
          refine zV_iald hX dX6_obeyed_42 (hO.a 16 rfl) (rfl) ⟨by omega, by omega⟩ (rfl) ?_
          refine zV_aload_n hX dX6_obeyed_43 rfl ?_
          refine zV_geti hX dX6_obeyed_44 zf_X6_89 hO.1 rfl rfl ?_
          refine zV_icmp_eq hX (tgt := 52) dX6_obeyed_47 (by decide) (fun c_47 => ?_) (fun c_47 => ?_)
          · have e9 : zall (fun m => bit (M.1 o 10) m || M.1 (o + 1 + 16) m == M.1 o 11) (k + 1) = true := by rw [zall, hk3]; simp [c_47]
            refine zV_iincN hX (b := 1) dX6_obeyed_52 rfl (by decide) ?_
            dsimp only [zst1, zst2, zclr, zc2]
            refine zV_goto hX (tgt := 18) dX6_obeyed_55 (by decide) ?_
            exact ih (k + 1) (by omega) (by omega) e9
          · refine zV_iconst hX (v := nI 0) dX6_obeyed_50 (by decide) ?_
            exact zV_retz hX hQ hr (rfl) (⟨by rw [oObeyed, c_11, zall_false (k := k) (by omega) (by simp [c_34, c_47])]; rfl, rfl⟩) dX6_obeyed_51
  refine zV_aload_n hX dX6_obeyed_0 rfl ?_
  refine zV_geti hX dX6_obeyed_1 zf_X6_85 hO.1 rfl rfl ?_
  refine zV_aload_n hX dX6_obeyed_4 rfl ?_
  refine zV_geti hX dX6_obeyed_5 zf_X6_9 hO.1 rfl (hcm) ?_
  refine zV_cS2p hX hR hl dX6_obeyed_8 (zc_isIn l G M _ c) zt_X9_isIn rfl zml_X6_124 (by decide) (Nat.le_of_ble_eq_true rfl) ?_
  dsimp only [Option.toList, List.cons_append, List.nil_append]
  refine zV_if_eqB hX (tgt := 16) dX6_obeyed_11 (by decide) (fun c_11 => ?_) (fun c_11 => ?_)
  · refine zV_iconst hX (v := nI 0) dX6_obeyed_16 (by decide) ?_
    refine zV_istore_n hX dX6_obeyed_17 (by decide) ?_
    dsimp only [zst1, zst2, zclr, zc2]
    exact L18 c_11 (n + 1) 0 (by omega) (by omega) rfl
  · refine zV_iconst hX (v := nI 1) dX6_obeyed_14 (by decide) ?_
    exact zV_retz hX hQ hr (rfl) (⟨by simp [oObeyed, c_11]; rfl, rfl⟩) dX6_obeyed_15
def oForget (o : Nat) (M : zM) : zM := zfor (fun i M => zw (zw (zw (zw (zw (zw M (o + 1 + 3) i (nI 0)) (o + 1 + 15) i (nI 0)) (o + 1 + 4) i (nI 0)) (o + 1 + 5) i (nI 0)) (o + 1 + 6) i (nI 0)) (o + 1 + 16) i (nI 0)) 7 (zw (zw (zw M o 0 (-1)) o 1 (nI 0)) o 2 (nI 0))
set_option maxHeartbeats 1000000 in
theorem zc_forget (l : Launch) (G : zG) (M : zM) (o : Nat) (hO : zOb 5 o) : zC l G 0 yX6_forget cX6_forget 2 (Option.none : Option Jvm.ClassFile.FieldType) [.ref o] M (zP none (oForget o M)) := by
  refine zC_of (by decide) (Nat.le_of_ble_eq_true rfl) (fun X Q hQ hX hl hR hr => ?_)
  refine zV_loc (L' := [.ref o, .null]) rfl ?_
  have L17 : ∀ (f9 k : Nat), 7 - k < f9 → k ≤ 7 → zV G X Q 2 0 0 17 [.ref o, .int (nI k)] [] (zfor (fun i M => zw (zw (zw (zw (zw (zw M (o + 1 + 3) i (nI 0)) (o + 1 + 15) i (nI 0)) (o + 1 + 4) i (nI 0)) (o + 1 + 5) i (nI 0)) (o + 1 + 6) i (nI 0)) (o + 1 + 16) i (nI 0)) k (zw (zw (zw M o 0 (-1)) o 1 (nI 0)) o 2 (nI 0))) := by
    intro f9
    induction f9 with
    | zero => intro k hk1 hk2; exact absurd hk1 (Nat.not_lt_zero _)
    | succ f9 ih =>
      intro k hk1 hk2
      refine zV_iload_n hX dX6_forget_17 rfl ?_
      refine zV_bipush hX (v := nI 7) dX6_forget_18 (by decide) ?_
      refine zV_icmp_geN hX (tgt := 71) dX6_forget_20 (by decide) ⟨by omega, by omega⟩ (fun c_20 => ?_) (fun c_20 => ?_)
      · exact zV_retv hX hQ hr (⟨rfl, by rw [show k = 7 by omega]; rfl⟩) dX6_forget_71
      · refine zV_aload_n hX dX6_forget_23 rfl ?_
        refine zV_geta hX dX6_forget_24 zf_X6_15 hO.1 rfl ?_
        refine zV_iload_n hX dX6_forget_27 rfl ?_
        refine zV_iconst hX (v := nI 0) dX6_forget_28 (by decide) ?_
        refine zV_iast hX dX6_forget_29 (hO.a 3 rfl) (rfl) ⟨by omega, by omega⟩ ?_
        refine zV_aload_n hX dX6_forget_30 rfl ?_
        refine zV_geta hX dX6_forget_31 zf_X6_38 hO.1 rfl ?_
        refine zV_iload_n hX dX6_forget_34 rfl ?_
        refine zV_iconst hX (v := nI 0) dX6_forget_35 (by decide) ?_
        refine zV_iast hX dX6_forget_36 (hO.a 15 rfl) (rfl) ⟨by omega, by omega⟩ ?_
        refine zV_aload_n hX dX6_forget_37 rfl ?_
        refine zV_geta hX dX6_forget_38 zf_X6_19 hO.1 rfl ?_
        refine zV_iload_n hX dX6_forget_41 rfl ?_
        refine zV_iconst hX (v := nI 0) dX6_forget_42 (by decide) ?_
        refine zV_iast hX dX6_forget_43 (hO.a 4 rfl) (rfl) ⟨by omega, by omega⟩ ?_
        refine zV_aload_n hX dX6_forget_44 rfl ?_
        refine zV_geta hX dX6_forget_45 zf_X6_22 hO.1 rfl ?_
        refine zV_iload_n hX dX6_forget_48 rfl ?_
        refine zV_iconst hX (v := nI 0) dX6_forget_49 (by decide) ?_
        refine zV_iast hX dX6_forget_50 (hO.a 5 rfl) (rfl) ⟨by omega, by omega⟩ ?_
        refine zV_aload_n hX dX6_forget_51 rfl ?_
        refine zV_geta hX dX6_forget_52 zf_X6_25 hO.1 rfl ?_
        refine zV_iload_n hX dX6_forget_55 rfl ?_
        refine zV_iconst hX (v := nI 0) dX6_forget_56 (by decide) ?_
        refine zV_iast hX dX6_forget_57 (hO.a 6 rfl) (rfl) ⟨by omega, by omega⟩ ?_
        refine zV_aload_n hX dX6_forget_58 rfl ?_
        refine zV_geta hX dX6_forget_59 zf_X6_41 hO.1 rfl ?_
        refine zV_iload_n hX dX6_forget_62 rfl ?_
        refine zV_iconst hX (v := nI 0) dX6_forget_63 (by decide) ?_
        refine zV_iast hX dX6_forget_64 (hO.a 16 rfl) (rfl) ⟨by omega, by omega⟩ ?_
        refine zV_iincN hX (b := 1) dX6_forget_65 rfl (by decide) ?_
        dsimp only [zst1, zst2, zclr, zc2]
        refine zV_goto hX (tgt := 17) dX6_forget_68 (by decide) ?_
        exact ih (k + 1) (by omega) (by omega)
  refine zV_aload_n hX dX6_forget_0 rfl ?_
  refine zV_iconst hX (v := (-1)) dX6_forget_1 (by decide) ?_
  refine zV_puti hX dX6_forget_2 zf_X6_9 zp_5_0 hO.1 rfl ?_
  refine zV_aload_n hX dX6_forget_5 rfl ?_
  refine zV_iconst hX (v := nI 0) dX6_forget_6 (by decide) ?_
  refine zV_puti hX dX6_forget_7 zf_X6_53 zp_5_1 hO.1 rfl ?_
  refine zV_aload_n hX dX6_forget_10 rfl ?_
  refine zV_iconst hX (v := nI 0) dX6_forget_11 (by decide) ?_
  refine zV_puti hX dX6_forget_12 zf_X6_56 zp_5_2 hO.1 rfl ?_
  refine zV_iconst hX (v := nI 0) dX6_forget_15 (by decide) ?_
  refine zV_istore_n hX dX6_forget_16 (by decide) ?_
  dsimp only [zst1, zst2, zclr, zc2]
  exact L17 8 0 (by omega) (by omega)
