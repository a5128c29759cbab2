def zfor (f : Nat → zM → zM) : Nat → zM → zM
  | 0, M => M
  | n + 1, M => f n (zfor f n M)
def zsumI (f : Nat → Int32) : Nat → Int32
  | 0 => nI 0
  | n + 1 => zsumI f n + f n
-- LIES of the class, at c
def lClear (c : Nat) (M : zM) : zM := zfor (fun i M => zw M (c + 1 + 1) i (nI 0)) 7 (zw M c 0 (nI 0))
def lfit (a b : Int32) : Bool := a == -1 || a == b
def zlv (v : Int32) : Int64 := v.toInt64 &&& 4294967295
def zlo : Option (Option Int32) → Int64
  | none => -1
  | some none => -2
  | some (some v) => zlv v
def lAct (M : zM) (c a x : Nat) (tr : Int32) : Option (Option Int32) :=
  if M.1 (c + 1 + 5) a = nI 0 then some (some (M.1 (c + 1 + 6) a))
  else if M.1 (c + 1 + 5) a = nI 1 then some (some (if x % 2 = 0 then M.1 (c + 1 + 6) a else M.1 (c + 1 + 7) a))
  else if M.1 (c + 1 + 5) a = nI 2 then none
  else if M.1 (c + 1 + 5) a = nI 3 then some none
  else some (some tr)
def lHit (M : zM) (c a r x : Nat) (o : Int32) : Bool := lfit (M.1 (c + 1 + 2) a) (nI r) && lfit (M.1 (c + 1 + 3) a) (nI x) && lfit (M.1 (c + 1 + 4) a) o
def lSaidF (M : zM) (c w r x : Nat) (o tr : Int32) : Nat → Nat → Option (Option Int32)
  | 0, _ => some (some tr)
  | j + 1, i => if lHit M c (w * 12 + i) r x o then lAct M c (w * 12 + i) x tr else lSaidF M c w r x o tr j (i + 1)
def lSetAct (c a : Nat) (v1 v2 v3 : Int32) (M : zM) : zM := zw (zw (zw M (c + 1 + 5) a v1) (c + 1 + 6) a v2) (c + 1 + 7) a v3
def lAdd (c w k : Nat) (r x o : Int32) (M : zM) : zM := if 12 ≤ k then M else lSetAct c (w * 12 + k) (nI 4) (nI 0) (nI 0) (zw (zw (zw (zw M (c + 1 + 1) w (nI (k + 1))) (c + 1 + 2) (w * 12 + k) r) (c + 1 + 3) (w * 12 + k) x) (c + 1 + 4) (w * 12 + k) o)
set_option maxHeartbeats 1000000 in
theorem zc_lclear (l : Launch) (G : zG) (M : zM) (c : Nat) (hC : zOb 3 c) : zC l G 0 yX4_clear cX4_clear 2 (Option.none : Option Jvm.ClassFile.FieldType) [.ref c] M (zP none (lClear c M)) := by
  refine zC_of (by decide) (Nat.le_of_ble_eq_true rfl) (fun X Q hQ hX hl hR hr => ?_)
  refine zV_loc (L' := [.ref c, .null]) rfl ?_
  have L7 : ∀ (f9 k : Nat), 7 - k < f9 → k ≤ 7 → zV G X Q 2 0 0 7 [.ref c, .int (nI k)] [] (zfor (fun i M => zw M (c + 1 + 1) i (nI 0)) k (zw M c 0 (nI 0))) := by
    intro f9
    induction f9 with
    | zero => intro k hk1 hk2; exact absurd hk1 (Nat.not_lt_zero _)
    | succ f9 ih =>
      intro k hk1 hk2
      refine zV_iload_n hX dX4_clear_7 rfl ?_
      refine zV_bipush hX (v := nI 7) dX4_clear_8 (by decide) ?_
      refine zV_icmp_geN hX (tgt := 26) dX4_clear_10 (by decide) ⟨by omega, by omega⟩ (fun c_10 => ?_) (fun c_10 => ?_)
      · exact zV_retv hX hQ hr (⟨rfl, by rw [show k = 7 by omega]; rfl⟩) dX4_clear_26
      · refine zV_aload_n hX dX4_clear_13 rfl ?_
        refine zV_geta hX dX4_clear_14 zf_X4_9 hC.1 rfl ?_
        refine zV_iload_n hX dX4_clear_17 rfl ?_
        refine zV_iconst hX (v := nI 0) dX4_clear_18 (by decide) ?_
        refine zV_iast hX dX4_clear_19 (hC.a 1 rfl) (rfl) ⟨by omega, by omega⟩ ?_
        refine zV_iincN hX (b := 1) dX4_clear_20 rfl (by decide) ?_
        dsimp only [zst1, zst2, zclr, zc2]
        refine zV_goto hX (tgt := 7) dX4_clear_23 (by decide) ?_
        exact ih (k + 1) (by omega) (by omega)
  refine zV_aload_n hX dX4_clear_0 rfl ?_
  refine zV_iconst hX (v := nI 0) dX4_clear_1 (by decide) ?_
  refine zV_puti hX dX4_clear_2 zf_X4_33 zp_3_0 hC.1 rfl ?_
  refine zV_iconst hX (v := nI 0) dX4_clear_5 (by decide) ?_
  refine zV_istore_n hX dX4_clear_6 (by decide) ?_
  dsimp only [zst1, zst2, zclr, zc2]
  exact L7 8 0 (by omega) (by omega)
set_option maxHeartbeats 1000000 in
theorem zc_isLiar (l : Launch) (G : zG) (M : zM) (c m : Nat) (hC : zOb 3 c) : zC l G 1 yX4_isLiar cX4_isLiar 2 (Option.some Jvm.ClassFile.FieldType.boolean) [.ref c, .int (nI m)] M (zP (some (.int (zb (bit (M.1 c 0) m)))) M) := by
  refine zC_of (by decide) (Nat.le_of_ble_eq_true rfl) (fun X Q hQ hX hl hR hr => ?_)
  refine zV_loc (L' := [.ref c, .int (nI m)]) rfl ?_
  refine zV_aload_n hX dX4_isLiar_0 rfl ?_
  refine zV_geti hX dX4_isLiar_1 zf_X4_33 hC.1 rfl rfl ?_
  refine zV_iload_n hX dX4_isLiar_4 rfl ?_
  refine zV_cS2p hX hR hl dX4_isLiar_5 (zc_isIn l G M _ m) zt_X9_isIn rfl zml_X4_37 (by decide) (Nat.le_of_ble_eq_true rfl) ?_
  dsimp only [Option.toList, List.cons_append, List.nil_append]
  exact zV_retz hX hQ hr (zb_nar _) (⟨rfl, rfl⟩) dX4_isLiar_8
set_option maxHeartbeats 1000000 in
theorem zc_addLiar (l : Launch) (G : zG) (M : zM) (c m : Nat) (hC : zOb 3 c) : zC l G 0 yX4_addLiar cX4_addLiar 2 (Option.none : Option Jvm.ClassFile.FieldType) [.ref c, .int (nI m)] M (zP none (zw M c 0 (M.1 c 0 ||| (nI 1 <<< (nI m &&& 31))))) := by
  refine zC_of (by decide) (Nat.le_of_ble_eq_true rfl) (fun X Q hQ hX hl hR hr => ?_)
  refine zV_loc (L' := [.ref c, .int (nI m)]) rfl ?_
  refine zV_aload_n hX dX4_addLiar_0 rfl ?_
  refine zV_dup hX dX4_addLiar_1 rfl ?_
  refine zV_geti hX dX4_addLiar_2 zf_X4_33 hC.1 rfl rfl ?_
  refine zV_iconst hX (v := nI 1) dX4_addLiar_5 (by decide) ?_
  refine zV_iload_n hX dX4_addLiar_6 rfl ?_
  refine zV_ishl hX dX4_addLiar_7 ?_
  refine zV_ior hX dX4_addLiar_8 ?_
  refine zV_puti hX dX4_addLiar_9 zf_X4_33 zp_3_0 hC.1 rfl ?_
  exact zV_retv hX hQ hr (⟨rfl, rfl⟩) dX4_addLiar_12
set_option maxHeartbeats 1000000 in
theorem zc_isFull (l : Launch) (G : zG) (M : zM) (c w k : Nat) (hC : zOb 3 c) (hw : w < 7) (hk : M.1 (c + 1 + 1) w = nI k) (hk2 : k ≤ 12) : zC l G 0 yX4_isFull cX4_isFull 2 (Option.some Jvm.ClassFile.FieldType.boolean) [.ref c, .int (nI w)] M (zP (some (.int (zb (decide (12 ≤ k))))) M) := by
  refine zC_of (by decide) (Nat.le_of_ble_eq_true rfl) (fun X Q hQ hX hl hR hr => ?_)
  refine zV_loc (L' := [.ref c, .int (nI w)]) rfl ?_
  refine zV_aload_n hX dX4_isFull_0 rfl ?_
  refine zV_geta hX dX4_isFull_1 zf_X4_9 hC.1 rfl ?_
  refine zV_iload_n hX dX4_isFull_4 rfl ?_
  refine zV_iald hX dX4_isFull_5 (hC.a 1 rfl) (rfl) ⟨by omega, by omega⟩ (hk) ?_
  refine zV_bipush hX (v := nI 12) dX4_isFull_6 (by decide) ?_
  refine zV_icmp_ltN hX (tgt := 15) dX4_isFull_8 (by decide) ⟨by omega, by omega⟩ (fun c_8 => ?_) (fun c_8 => ?_)
  · have e9 : decide (12 ≤ k) = false := by simp; omega
    refine zV_iconst hX (v := nI 0) dX4_isFull_15 (by decide) ?_
    exact zV_retz hX hQ hr (rfl) (⟨by rw [e9]; rfl, rfl⟩) dX4_isFull_16
  · have e9 : decide (12 ≤ k) = true := by simp; omega
    refine zV_iconst hX (v := nI 1) dX4_isFull_11 (by decide) ?_
    refine zV_goto hX (tgt := 16) dX4_isFull_12 (by decide) ?_
    exact zV_retz hX hQ hr (rfl) (⟨by rw [e9]; rfl, rfl⟩) dX4_isFull_16
set_option maxHeartbeats 1000000 in
theorem zc_inAll (l : Launch) (G : zG) (M : zM) (c : Nat) (hC : zOb 3 c) : zC l G 0 yX4_inAll cX4_inAll 3 (Option.some Jvm.ClassFile.FieldType.int) [.ref c] M (zP (some (.int (zsumI (fun i => M.1 (c + 1 + 1) i) 7))) M) := by
  refine zC_of (by decide) (Nat.le_of_ble_eq_true rfl) (fun X Q hQ hX hl hR hr => ?_)
  refine zV_loc (L' := [.ref c, .null, .null]) rfl ?_
  have L4 : ∀ (f9 k : Nat), 7 - k < f9 → k ≤ 7 → zV G X Q 3 0 0 4 [.ref c, .int (zsumI (fun i => M.1 (c + 1 + 1) i) k), .int (nI k)] [] M := by
    intro f9
    induction f9 with
    | zero => intro k hk1 hk2; exact absurd hk1 (Nat.not_lt_zero _)
    | succ f9 ih =>
      intro k hk1 hk2
      refine zV_iload_n hX dX4_inAll_4 rfl ?_
      refine zV_bipush hX (v := nI 7) dX4_inAll_5 (by decide) ?_
      refine zV_icmp_geN hX (tgt := 25) dX4_inAll_7 (by decide) ⟨by omega, by omega⟩ (fun c_7 => ?_) (fun c_7 => ?_)
      · refine zV_iload_n hX dX4_inAll_25 rfl ?_
        exact zV_reti hX hQ hr (⟨by rw [show k = 7 by omega], rfl⟩) dX4_inAll_26
      · refine zV_iload_n hX dX4_inAll_10 rfl ?_
        refine zV_aload_n hX dX4_inAll_11 rfl ?_
        refine zV_geta hX dX4_inAll_12 zf_X4_9 hC.1 rfl ?_
        refine zV_iload_n hX dX4_inAll_15 rfl ?_
        refine zV_iald hX dX4_inAll_16 (hC.a 1 rfl) (rfl) ⟨by omega, by omega⟩ (rfl) ?_
        refine zV_iadd hX dX4_inAll_17 ?_
        refine zV_istore_n hX dX4_inAll_18 (by decide) ?_
        dsimp only [zst1, zst2, zclr, zc2]
        refine zV_iincN hX (b := 1) dX4_inAll_19 rfl (by decide) ?_
        dsimp only [zst1, zst2, zclr, zc2]
        refine zV_goto hX (tgt := 4) dX4_inAll_22 (by decide) ?_
        exact ih (k + 1) (by omega) (by omega)
  refine zV_iconst hX (v := nI 0) dX4_inAll_0 (by decide) ?_
  refine zV_istore_n hX dX4_inAll_1 (by decide) ?_
  dsimp only [zst1, zst2, zclr, zc2]
  refine zV_iconst hX (v := nI 0) dX4_inAll_2 (by decide) ?_
  refine zV_istore_n hX dX4_inAll_3 (by decide) ?_
  dsimp only [zst1, zst2, zclr, zc2]
  exact L4 8 0 (by omega) (by omega)
def lSetActIf (c w k : Nat) (v1 v2 v3 : Int32) (M : zM) : zM := if k = 0 then M else lSetAct c (w * 12 + k - 1) v1 v2 v3 M
set_option maxHeartbeats 1000000 in
theorem zc_setAct (l : Launch) (G : zG) (M : zM) (c w k : Nat) (v1 v2 v3 : Int32) (hC : zOb 3 c) (hw : w < 7) (hk : M.1 (c + 1 + 1) w = nI k) (hk2 : k ≤ 12) : zC l G 0 yX4_setAct cX4_setAct 6 (Option.none : Option Jvm.ClassFile.FieldType) [.ref c, .int (nI w), .int v1, .int v2, .int v3] M (zP none (lSetActIf c w k v1 v2 v3 M)) := by
  refine zC_of (by decide) (Nat.le_of_ble_eq_true rfl) (fun X Q hQ hX hl hR hr => ?_)
  refine zV_loc (L' := [.ref c, .int (nI w), .int v1, .int v2, .int v3, .null]) rfl ?_
  refine zV_aload_n hX dX4_setAct_0 rfl ?_
  refine zV_geta hX dX4_setAct_1 zf_X4_9 hC.1 rfl ?_
  refine zV_iload_n hX dX4_setAct_4 rfl ?_
  refine zV_iald hX dX4_setAct_5 (hC.a 1 rfl) (rfl) ⟨by omega, by omega⟩ (hk) ?_
  refine zV_if_leN hX (tgt := 49) dX4_setAct_6 (by decide) (by omega) (fun c_6 => ?_) (fun c_6 => ?_)
  · have e9 : M = lSetActIf c w k v1 v2 v3 M := by rw [lSetActIf, if_pos c_6]
    exact zV_retv hX hQ hr (⟨rfl, e9⟩) dX4_setAct_49
  · have e9 : lSetAct c (w * 12 + k - 1) v1 v2 v3 M = lSetActIf c w k v1 v2 v3 M := by rw [lSetActIf, if_neg (by omega)]
    refine zV_iload_n hX dX4_setAct_9 rfl ?_
    refine zV_bipush hX (v := nI 12) dX4_setAct_10 (by decide) ?_
    refine zV_imulN hX dX4_setAct_12 ?_
    refine zV_aload_n hX dX4_setAct_13 rfl ?_
    refine zV_geta hX dX4_setAct_14 zf_X4_9 hC.1 rfl ?_
    refine zV_iload_n hX dX4_setAct_17 rfl ?_
    refine zV_iald hX dX4_setAct_18 (hC.a 1 rfl) (rfl) ⟨by omega, by omega⟩ (hk) ?_
    refine zV_iaddN hX dX4_setAct_19 ?_
    refine zV_iconst hX (v := nI 1) dX4_setAct_20 (by decide) ?_
    refine zV_isubN hX dX4_setAct_21 (by omega) ?_
    refine zV_istore hX dX4_setAct_22 (by decide) ?_
    dsimp only [zst1, zst2, zclr, zc2]
    refine zV_aload_n hX dX4_setAct_24 rfl ?_
    refine zV_geta hX dX4_setAct_25 zf_X4_24 hC.1 rfl ?_
    refine zV_iload hX dX4_setAct_28 rfl ?_
    refine zV_iload_n hX dX4_setAct_30 rfl ?_
    refine zV_iast hX dX4_setAct_31 (hC.a 5 rfl) (rfl) ⟨by omega, by omega⟩ ?_
    refine zV_aload_n hX dX4_setAct_32 rfl ?_
    refine zV_geta hX dX4_setAct_33 zf_X4_27 hC.1 rfl ?_
    refine zV_iload hX dX4_setAct_36 rfl ?_
    refine zV_iload_n hX dX4_setAct_38 rfl ?_
    refine zV_iast hX dX4_setAct_39 (hC.a 6 rfl) (rfl) ⟨by omega, by omega⟩ ?_
    refine zV_aload_n hX dX4_setAct_40 rfl ?_
    refine zV_geta hX dX4_setAct_41 zf_X4_30 hC.1 rfl ?_
    refine zV_iload hX dX4_setAct_44 rfl ?_
    refine zV_iload hX dX4_setAct_46 rfl ?_
    refine zV_iast hX dX4_setAct_48 (hC.a 7 rfl) (rfl) ⟨by omega, by omega⟩ ?_
    exact zV_retv hX hQ hr (⟨rfl, e9⟩) dX4_setAct_49
set_option maxHeartbeats 1000000 in
theorem zc_fits (l : Launch) (G : zG) (M : zM) (a b : Int32) : zC l G 0 yX4_fits cX4_fits 2 (Option.some Jvm.ClassFile.FieldType.boolean) [.int a, .int b] M (zP (some (.int (zb (lfit a b)))) M) := by
  refine zC_of (by decide) (Nat.le_of_ble_eq_true rfl) (fun X Q hQ hX hl hR hr => ?_)
  refine zV_loc (L' := [.int a, .int b]) rfl ?_
  refine zV_iload_n hX dX4_fits_0 rfl ?_
  refine zV_iconst hX (v := (-1)) dX4_fits_1 (by decide) ?_
  refine zV_icmp_eq hX (tgt := 10) dX4_fits_2 (by decide) (fun c_2 => ?_) (fun c_2 => ?_)
  · have e9 : lfit a b = true := by simp [lfit, c_2]
    refine zV_iconst hX (v := nI 1) dX4_fits_10 (by decide) ?_
    refine zV_goto hX (tgt := 15) dX4_fits_11 (by decide) ?_
    exact zV_retz hX hQ hr (rfl) (⟨by rw [e9]; rfl, rfl⟩) dX4_fits_15
  · refine zV_iload_n hX dX4_fits_5 rfl ?_
    refine zV_iload_n hX dX4_fits_6 rfl ?_
    refine zV_icmp_ne hX (tgt := 14) dX4_fits_7 (by decide) (fun c_7 => ?_) (fun c_7 => ?_)
    · have e9 : lfit a b = false := by simp [lfit, c_2, c_7]
      refine zV_iconst hX (v := nI 0) dX4_fits_14 (by decide) ?_
      exact zV_retz hX hQ hr (rfl) (⟨by rw [e9]; rfl, rfl⟩) dX4_fits_15
    · have e9 : lfit a b = true := by simp [lfit, c_7]
      refine zV_iconst hX (v := nI 1) dX4_fits_10 (by decide) ?_
      refine zV_goto hX (tgt := 15) dX4_fits_11 (by decide) ?_
      exact zV_retz hX hQ hr (rfl) (⟨by rw [e9]; rfl, rfl⟩) dX4_fits_15
set_option maxHeartbeats 1000000 in
theorem zc_saidBy (l : Launch) (G : zG) (M : zM) (c a x : Nat) (tr : Int32) (hC : zOb 3 c) (ha : a < 84) (hx : x < 7) : zC l G 0 yX4_saidBy cX4_saidBy 4 (Option.some Jvm.ClassFile.FieldType.long) [.ref c, .int (nI a), .int (nI x), .int tr] M (zP (some (.long (zlo (lAct M c a x tr)))) M) := by
  refine zC_of (by decide) (Nat.le_of_ble_eq_true rfl) (fun X Q hQ hX hl hR hr => ?_)
  refine zV_loc (L' := [.ref c, .int (nI a), .int (nI x), .int tr]) rfl ?_
  refine zV_aload_n hX dX4_saidBy_0 rfl ?_
  refine zV_geta hX dX4_saidBy_1 zf_X4_24 hC.1 rfl ?_
  refine zV_iload_n hX dX4_saidBy_4 rfl ?_
  refine zV_iald hX dX4_saidBy_5 (hC.a 5 rfl) (rfl) ⟨by omega, by omega⟩ (rfl) ?_
  refine zV_case 0 (fun s_0 => ?_) (fun s_0 => ?_)
  · refine zV_tin hX (tgt := 36) dX4_saidBy_6 (by decide) (by decide) (off := 30) (by decide) (by decide) ?_
    refine zV_aload_n hX dX4_saidBy_36 rfl ?_
    refine zV_geta hX dX4_saidBy_37 zf_X4_27 hC.1 rfl ?_
    refine zV_iload_n hX dX4_saidBy_40 rfl ?_
    refine zV_iald hX dX4_saidBy_41 (hC.a 6 rfl) (rfl) ⟨by omega, by omega⟩ (rfl) ?_
    refine zV_i2l hX dX4_saidBy_42 ?_
    refine zV_ldc2 hX dX4_saidBy_43 zkc_X4_58 ?_
    refine zV_land hX dX4_saidBy_46 ?_
    exact zV_retl hX hQ hr (⟨by rw [lAct, if_pos s_0]; rfl, rfl⟩) dX4_saidBy_47
  refine zV_case 1 (fun s_1 => ?_) (fun s_1 => ?_)
  · refine zV_tin hX (tgt := 48) dX4_saidBy_6 (by decide) (by decide) (off := 42) (by decide) (by decide) ?_
    refine zV_iload_n hX dX4_saidBy_48 rfl ?_
    refine zV_iconst hX (v := nI 2) dX4_saidBy_49 (by decide) ?_
    refine zV_iremN hX dX4_saidBy_50 ⟨by omega, by decide, by decide⟩ ?_
    refine zV_if_neN hX (tgt := 63) dX4_saidBy_51 (by decide) (by omega) (fun c_51 => ?_) (fun c_51 => ?_)
    · have e9 : ∀ p q : Int32, (if x % 2 = 0 then p else q) = q := fun p q => if_neg (by omega)
      refine zV_aload_n hX dX4_saidBy_63 rfl ?_
      refine zV_geta hX dX4_saidBy_64 zf_X4_30 hC.1 rfl ?_
      refine zV_iload_n hX dX4_saidBy_67 rfl ?_
      refine zV_iald hX dX4_saidBy_68 (hC.a 7 rfl) (rfl) ⟨by omega, by omega⟩ (rfl) ?_
      refine zV_i2l hX dX4_saidBy_69 ?_
      refine zV_ldc2 hX dX4_saidBy_70 zkc_X4_58 ?_
      refine zV_land hX dX4_saidBy_73 ?_
      exact zV_retl hX hQ hr (⟨by rw [lAct, if_neg s_0, if_pos s_1, e9]; rfl, rfl⟩) dX4_saidBy_74
    · have e9 : ∀ p q : Int32, (if x % 2 = 0 then p else q) = p := fun p q => if_pos (by omega)
      refine zV_aload_n hX dX4_saidBy_54 rfl ?_
      refine zV_geta hX dX4_saidBy_55 zf_X4_27 hC.1 rfl ?_
      refine zV_iload_n hX dX4_saidBy_58 rfl ?_
      refine zV_iald hX dX4_saidBy_59 (hC.a 6 rfl) (rfl) ⟨by omega, by omega⟩ (rfl) ?_
      refine zV_goto hX (tgt := 69) dX4_saidBy_60 (by decide) ?_
      refine zV_i2l hX dX4_saidBy_69 ?_
      refine zV_ldc2 hX dX4_saidBy_70 zkc_X4_58 ?_
      refine zV_land hX dX4_saidBy_73 ?_
      exact zV_retl hX hQ hr (⟨by rw [lAct, if_neg s_0, if_pos s_1, e9]; rfl, rfl⟩) dX4_saidBy_74
  refine zV_case 2 (fun s_2 => ?_) (fun s_2 => ?_)
  · refine zV_tin hX (tgt := 75) dX4_saidBy_6 (by decide) (by decide) (off := 69) (by decide) (by decide) ?_
    refine zV_ldc2 hX dX4_saidBy_75 zkc_X4_60 ?_
    exact zV_retl hX hQ hr (⟨by rw [lAct, if_neg s_0, if_neg s_1, if_pos s_2]; rfl, rfl⟩) dX4_saidBy_78
  refine zV_case 3 (fun s_3 => ?_) (fun s_3 => ?_)
  · refine zV_tin hX (tgt := 79) dX4_saidBy_6 (by decide) (by decide) (off := 73) (by decide) (by decide) ?_
    refine zV_ldc2 hX dX4_saidBy_79 zkc_X4_62 ?_
    exact zV_retl hX hQ hr (⟨by rw [lAct, if_neg s_0, if_neg s_1, if_neg s_2, if_pos s_3]; rfl, rfl⟩) dX4_saidBy_82
  refine zV_tout hX (tgt := 83) dX4_saidBy_6 (zsw_out 3 (by decide) (fun j hj => by match j, hj with | 0, _ => exact s_0 | 1, _ => exact s_1 | 2, _ => exact s_2 | 3, _ => exact s_3 | _ + 4, h => omega)) (by decide) ?_
  refine zV_iload_n hX dX4_saidBy_83 rfl ?_
  refine zV_i2l hX dX4_saidBy_84 ?_
  refine zV_ldc2 hX dX4_saidBy_85 zkc_X4_58 ?_
  refine zV_land hX dX4_saidBy_88 ?_
  exact zV_retl hX hQ hr (⟨by rw [lAct, if_neg s_0, if_neg s_1, if_neg s_2, if_neg s_3]; rfl, rfl⟩) dX4_saidBy_89
set_option maxHeartbeats 1000000 in
theorem zc_said (l : Launch) (G : zG) (M : zM) (c w r x k : Nat) (o tr : Int32) (hC : zOb 3 c) (hw : w < 7) (hk : M.1 (c + 1 + 1) w = nI k) (hk2 : k ≤ 12) (hx : x < 7) : zC l G 1 yX4_said cX4_said 8 (Option.some Jvm.ClassFile.FieldType.long) [.ref c, .int (nI w), .int (nI r), .int (nI x), .int o, .int tr] M (zP (some (.long (zlo (lSaidF M c w r x o tr k 0)))) M) := by
  refine zC_of (by decide) (Nat.le_of_ble_eq_true rfl) (fun X Q hQ hX hl hR hr => ?_)
  refine zV_loc (L' := [.ref c, .int (nI w), .int (nI r), .int (nI x), .int o, .int tr, .null, .null]) rfl ?_
  have L3 : ∀ (f9 i : Nat) (v9 : Value), k - i < f9 → i ≤ k → lSaidF M c w r x o tr (k - i) i = lSaidF M c w r x o tr k 0 → zV G X Q 8 0 0 3 [.ref c, .int (nI w), .int (nI r), .int (nI x), .int o, .int tr, .int (nI i), v9] [] M := by
    intro f9
    induction f9 with
    | zero => intro i v9 hi1 hi2 hi3; exact absurd hi1 (Nat.not_lt_zero _)
    | succ f9 ih =>
      intro i v9 hi1 hi2 hi3
      refine zV_iload hX dX4_said_3 rfl ?_
      refine zV_aload_n hX dX4_said_5 rfl ?_
      refine zV_geta hX dX4_said_6 zf_X4_9 hC.1 rfl ?_
      refine zV_iload_n hX dX4_said_9 rfl ?_
      refine zV_iald hX dX4_said_10 (hC.a 1 rfl) (rfl) ⟨by omega, by omega⟩ (hk) ?_
      refine zV_icmp_geN hX (tgt := 82) dX4_said_11 (by decide) ⟨by omega, by omega⟩ (fun c_11 => ?_) (fun c_11 => ?_)
      · refine zV_iload hX dX4_said_82 rfl ?_
        refine zV_i2l hX dX4_said_84 ?_
        refine zV_ldc2 hX dX4_said_85 zkc_X4_58 ?_
        refine zV_land hX dX4_said_88 ?_
        exact zV_retl hX hQ hr (⟨by rw [← hi3, show k - i = 0 by omega]; rfl, rfl⟩) dX4_said_89
      · refine zV_iload_n hX dX4_said_14 rfl ?_
        refine zV_bipush hX (v := nI 12) dX4_said_15 (by decide) ?_
        refine zV_imulN hX dX4_said_17 ?_
        refine zV_iload hX dX4_said_18 rfl ?_
        refine zV_iaddN hX dX4_said_20 ?_
        refine zV_istore hX dX4_said_21 (by decide) ?_
        dsimp only [zst1, zst2, zclr, zc2]
        refine zV_aload_n hX dX4_said_23 rfl ?_
        refine zV_geta hX dX4_said_24 zf_X4_15 hC.1 rfl ?_
        refine zV_iload hX dX4_said_27 rfl ?_
        refine zV_iald hX dX4_said_29 (hC.a 2 rfl) (rfl) ⟨by omega, by omega⟩ (rfl) ?_
        refine zV_iload_n hX dX4_said_30 rfl ?_
        refine zV_cS2p hX hR hl dX4_said_31 (zc_fits l G M _ _) zt_X4_fits rfl zml_X4_51 (by decide) (Nat.le_of_ble_eq_true rfl) ?_
        dsimp only [Option.toList, List.cons_append, List.nil_append]
        refine zV_if_eqB hX (tgt := 76) dX4_said_34 (by decide) (fun c_34 => ?_) (fun c_34 => ?_)
        · have e9 : lSaidF M c w r x o tr (k - (i + 1)) (i + 1) = lSaidF M c w r x o tr k 0 := by rw [← hi3, show k - i = (k - (i + 1)) + 1 by omega, lSaidF, if_neg (by simp [lHit, c_34])]
          refine zV_iincN hX (b := 1) dX4_said_76 rfl (by decide) ?_
          dsimp only [zst1, zst2, zclr, zc2]
          refine zV_goto hX (tgt := 3) dX4_said_79 (by decide) ?_
          exact ih (i + 1) _ (by omega) (by omega) e9
        · refine zV_aload_n hX dX4_said_37 rfl ?_
          refine zV_geta hX dX4_said_38 zf_X4_18 hC.1 rfl ?_
          refine zV_iload hX dX4_said_41 rfl ?_
          refine zV_iald hX dX4_said_43 (hC.a 3 rfl) (rfl) ⟨by omega, by omega⟩ (rfl) ?_
          refine zV_iload_n hX dX4_said_44 rfl ?_
          refine zV_cS2p hX hR hl dX4_said_45 (zc_fits l G M _ _) zt_X4_fits rfl zml_X4_51 (by decide) (Nat.le_of_ble_eq_true rfl) ?_
          dsimp only [Option.toList, List.cons_append, List.nil_append]
          refine zV_if_eqB hX (tgt := 76) dX4_said_48 (by decide) (fun c_48 => ?_) (fun c_48 => ?_)
          · have e9 : lSaidF M c w r x o tr (k - (i + 1)) (i + 1) = lSaidF M c w r x o tr k 0 := by rw [← hi3, show k - i = (k - (i + 1)) + 1 by omega, lSaidF, if_neg (by simp [lHit, c_34, c_48])]
            refine zV_iincN hX (b := 1) dX4_said_76 rfl (by decide) ?_
            dsimp only [zst1, zst2, zclr, zc2]
            refine zV_goto hX (tgt := 3) dX4_said_79 (by decide) ?_
            exact ih (i + 1) _ (by omega) (by omega) e9
          · refine zV_aload_n hX dX4_said_51 rfl ?_
            refine zV_geta hX dX4_said_52 zf_X4_21 hC.1 rfl ?_
            refine zV_iload hX dX4_said_55 rfl ?_
            refine zV_iald hX dX4_said_57 (hC.a 4 rfl) (rfl) ⟨by omega, by omega⟩ (rfl) ?_
            refine zV_iload hX dX4_said_58 rfl ?_
            refine zV_cS2p hX hR hl dX4_said_60 (zc_fits l G M _ _) zt_X4_fits rfl zml_X4_51 (by decide) (Nat.le_of_ble_eq_true rfl) ?_
            dsimp only [Option.toList, List.cons_append, List.nil_append]
            refine zV_if_eqB hX (tgt := 76) dX4_said_63 (by decide) (fun c_63 => ?_) (fun c_63 => ?_)
            · have e9 : lSaidF M c w r x o tr (k - (i + 1)) (i + 1) = lSaidF M c w r x o tr k 0 := by rw [← hi3, show k - i = (k - (i + 1)) + 1 by omega, lSaidF, if_neg (by simp [lHit, c_34, c_48, c_63])]
              refine zV_iincN hX (b := 1) dX4_said_76 rfl (by decide) ?_
              dsimp only [zst1, zst2, zclr, zc2]
              refine zV_goto hX (tgt := 3) dX4_said_79 (by decide) ?_
              exact ih (i + 1) _ (by omega) (by omega) e9
            · refine zV_aload_n hX dX4_said_66 rfl ?_
              refine zV_iload hX dX4_said_67 rfl ?_
              refine zV_iload_n hX dX4_said_69 rfl ?_
              refine zV_iload hX dX4_said_70 rfl ?_
              refine zV_cV3p hX hR hl dX4_said_72 (zc_saidBy l G M c (w * 12 + i) x tr hC (by omega) hx) zt_X4_saidBy rfl zml_X4_54 hC.1 ⟨by decide, by decide⟩ (Nat.le_of_ble_eq_true rfl) ?_
              dsimp only [Option.toList, List.cons_append, List.nil_append]
              exact zV_retl hX hQ hr (⟨by rw [← hi3, show k - i = (k - (i + 1)) + 1 by omega, lSaidF, if_pos (by simp [lHit, c_34, c_48, c_63])], rfl⟩) dX4_said_75
  refine zV_iconst hX (v := nI 0) dX4_said_0 (by decide) ?_
  refine zV_istore hX dX4_said_1 (by decide) ?_
  dsimp only [zst1, zst2, zclr, zc2]
  exact L3 (k + 1) 0 _ (by omega) (by omega) rfl
set_option maxHeartbeats 1000000 in
theorem zc_add (l : Launch) (G : zG) (M : zM) (c w k : Nat) (r x o : Int32) (hC : zOb 3 c) (hw : w < 7) (hk : M.1 (c + 1 + 1) w = nI k) (hk2 : k ≤ 12) : zC l G 1 yX4_add cX4_add 6 (Option.none : Option Jvm.ClassFile.FieldType) [.ref c, .int (nI w), .int r, .int x, .int o] M (zP none (lAdd c w k r x o M)) := by
  refine zC_of (by decide) (Nat.le_of_ble_eq_true rfl) (fun X Q hQ hX hl hR hr => ?_)
  refine zV_loc (L' := [.ref c, .int (nI w), .int r, .int x, .int o, .null]) rfl ?_
  refine zV_aload_n hX dX4_add_0 rfl ?_
  refine zV_iload_n hX dX4_add_1 rfl ?_
  refine zV_cV1p hX hR hl dX4_add_2 (zc_isFull l G M c w k hC hw hk hk2) zt_X4_isFull rfl zml_X4_43 hC.1 ⟨by decide, by decide⟩ (Nat.le_of_ble_eq_true rfl) ?_
  dsimp only [Option.toList, List.cons_append, List.nil_append]
  refine zV_if_neB hX (tgt := 64) dX4_add_5 (by decide) (fun c_5 => ?_) (fun c_5 => ?_)
  · have e9 : M = lAdd c w k r x o M := by rw [lAdd, if_pos (of_decide_eq_true c_5)]
    exact zV_retv hX hQ hr (⟨rfl, by first | exact e9 | (rw [e9, lAdd, if_neg c_5])⟩) dX4_add_64
  · have c_5 := of_decide_eq_false c_5
    have e9 : ∀ M9 : zM, lSetActIf c w (k + 1) (nI 4) (nI 0) (nI 0) M9 = lSetAct c (w * 12 + k) (nI 4) (nI 0) (nI 0) M9 := fun M9 => by rw [lSetActIf, if_neg (by omega)]; rfl
    refine zV_iload_n hX dX4_add_8 rfl ?_
    refine zV_bipush hX (v := nI 12) dX4_add_9 (by decide) ?_
    refine zV_imulN hX dX4_add_11 ?_
    refine zV_aload_n hX dX4_add_12 rfl ?_
    refine zV_geta hX dX4_add_13 zf_X4_9 hC.1 rfl ?_
    refine zV_iload_n hX dX4_add_16 rfl ?_
    refine zV_iald hX dX4_add_17 (hC.a 1 rfl) (rfl) ⟨by omega, by omega⟩ (hk) ?_
    refine zV_iaddN hX dX4_add_18 ?_
    refine zV_istore hX dX4_add_19 (by decide) ?_
    dsimp only [zst1, zst2, zclr, zc2]
    refine zV_aload_n hX dX4_add_21 rfl ?_
    refine zV_geta hX dX4_add_22 zf_X4_9 hC.1 rfl ?_
    refine zV_iload_n hX dX4_add_25 rfl ?_
    refine zV_dup2 hX dX4_add_26 rfl rfl ?_
    refine zV_iald hX dX4_add_27 (hC.a 1 rfl) (rfl) ⟨by omega, by omega⟩ (hk) ?_
    refine zV_iconst hX (v := nI 1) dX4_add_28 (by decide) ?_
    refine zV_iaddN hX dX4_add_29 ?_
    refine zV_iast hX dX4_add_30 (hC.a 1 rfl) (rfl) ⟨by omega, by omega⟩ ?_
    refine zV_aload_n hX dX4_add_31 rfl ?_
    refine zV_geta hX dX4_add_32 zf_X4_15 hC.1 rfl ?_
    refine zV_iload hX dX4_add_35 rfl ?_
    refine zV_iload_n hX dX4_add_37 rfl ?_
    refine zV_iast hX dX4_add_38 (hC.a 2 rfl) (rfl) ⟨by omega, by omega⟩ ?_
    refine zV_aload_n hX dX4_add_39 rfl ?_
    refine zV_geta hX dX4_add_40 zf_X4_18 hC.1 rfl ?_
    refine zV_iload hX dX4_add_43 rfl ?_
    refine zV_iload_n hX dX4_add_45 rfl ?_
    refine zV_iast hX dX4_add_46 (hC.a 3 rfl) (rfl) ⟨by omega, by omega⟩ ?_
    refine zV_aload_n hX dX4_add_47 rfl ?_
    refine zV_geta hX dX4_add_48 zf_X4_21 hC.1 rfl ?_
    refine zV_iload hX dX4_add_51 rfl ?_
    refine zV_iload hX dX4_add_53 rfl ?_
    refine zV_iast hX dX4_add_55 (hC.a 4 rfl) (rfl) ⟨by omega, by omega⟩ ?_
    refine zV_aload_n hX dX4_add_56 rfl ?_
    refine zV_iload_n hX dX4_add_57 rfl ?_
    refine zV_iconst hX (v := nI 4) dX4_add_58 (by decide) ?_
    refine zV_iconst hX (v := nI 0) dX4_add_59 (by decide) ?_
    refine zV_iconst hX (v := nI 0) dX4_add_60 (by decide) ?_
    refine zV_cV4p hX hR hl dX4_add_61 (zc_setAct l G _ c w (k + 1) (nI 4) (nI 0) (nI 0) hC hw (by simp [zw_at]) (by omega)) zt_X4_setAct rfl zml_X4_47 hC.1 ⟨by decide, by decide⟩ (Nat.le_of_ble_eq_true rfl) ?_
    dsimp only [Option.toList, List.cons_append, List.nil_append]
    exact zV_retv hX hQ hr (⟨rfl, by first | exact e9 | (rw [e9, lAdd, if_neg c_5])⟩) dX4_add_64
def gBegin (g c : Nat) (n t : Nat) (M : zM) : zM := zfor (fun i M => zw M (g + 1 + 4) i (nI 0)) 7 (lClear c (zw (zw (zw M g 0 (nI n)) g 1 (nI t)) g 2 (nI 0)))
set_option maxHeartbeats 1000000 in
theorem zc_gbegin (l : Launch) (G : zG) (M : zM) (g c n t : Nat) (hG : zOb 1 g) (hC : zOb 3 c) (hp : M.1 g 3 = nI c) (hc2 : c < 2 ^ 31) : zC l G 1 yX2_begin cX2_begin 4 (Option.none : Option Jvm.ClassFile.FieldType) [.ref g, .int (nI n), .int (nI t)] M (zP none (gBegin g c n t M)) := by
  refine zC_of (by decide) (Nat.le_of_ble_eq_true rfl) (fun X Q hQ hX hl hR hr => ?_)
  refine zV_loc (L' := [.ref g, .int (nI n), .int (nI t), .null]) rfl ?_
  have L9 : ∀ (f9 k : Nat), 7 - k < f9 → k ≤ 7 → zV G X Q 4 0 0 24 [.ref g, .int (nI n), .int (nI t), .int (nI k)] [] (zfor (fun i M => zw M (g + 1 + 4) i (nI 0)) k (lClear c (zw (zw (zw M g 0 (nI n)) g 1 (nI t)) g 2 (nI 0)))) := by
    intro f9
    induction f9 with
    | zero => intro k hk1 hk2; exact absurd hk1 (Nat.not_lt_zero _)
    | succ f9 ih =>
      intro k hk1 hk2
      refine zV_iload_n hX dX2_begin_24 rfl ?_
      refine zV_bipush hX (v := nI 7) dX2_begin_25 (by decide) ?_
      refine zV_icmp_geN hX (tgt := 43) dX2_begin_27 (by decide) ⟨by omega, by omega⟩ (fun c_27 => ?_) (fun c_27 => ?_)
      · exact zV_retv hX hQ hr (⟨rfl, by rw [show k = 7 by omega]; rfl⟩) dX2_begin_43
      · refine zV_aload_n hX dX2_begin_30 rfl ?_
        refine zV_geta hX dX2_begin_31 zf_X2_18 hG.1 rfl ?_
        refine zV_iload_n hX dX2_begin_34 rfl ?_
        refine zV_iconst hX (v := nI 0) dX2_begin_35 (by decide) ?_
        refine zV_iast hX dX2_begin_36 (hG.a 4 rfl) (rfl) ⟨by omega, by omega⟩ ?_
        refine zV_iincN hX (b := 1) dX2_begin_37 rfl (by decide) ?_
        dsimp only [zst1, zst2, zclr, zc2]
        refine zV_goto hX (tgt := 24) dX2_begin_40 (by decide) ?_
        exact ih (k + 1) (by omega) (by omega)
  refine zV_aload_n hX dX2_begin_0 rfl ?_
  refine zV_iload_n hX dX2_begin_1 rfl ?_
  refine zV_puti hX dX2_begin_2 zf_X2_22 zp_1_0 hG.1 rfl ?_
  refine zV_aload_n hX dX2_begin_5 rfl ?_
  refine zV_iload_n hX dX2_begin_6 rfl ?_
  refine zV_puti hX dX2_begin_7 zf_X2_26 zp_1_1 hG.1 rfl ?_
  refine zV_aload_n hX dX2_begin_10 rfl ?_
  refine zV_iconst hX (v := nI 0) dX2_begin_11 (by decide) ?_
  refine zV_puti hX dX2_begin_12 zf_X2_29 zp_1_2 hG.1 rfl ?_
  refine zV_aload_n hX dX2_begin_15 rfl ?_
  refine zV_getp hX dX2_begin_16 zf_X2_12 hG.1 rfl (by simp [zw_at, hp]) hc2 ?_
  refine zV_cV0p hX hR hl dX2_begin_19 (zc_lclear l G _ c hC) zt_X4_clear rfl zml_X2_32 hC.1 ⟨by decide, by decide⟩ (Nat.le_of_ble_eq_true rfl) ?_
  dsimp only [Option.toList, List.cons_append, List.nil_append]
  refine zV_iconst hX (v := nI 0) dX2_begin_22 (by decide) ?_
  refine zV_istore_n hX dX2_begin_23 (by decide) ?_
  dsimp only [zst1, zst2, zclr, zc2]
  exact L9 8 0 (by omega) (by omega)
set_option maxHeartbeats 1000000 in
theorem zc_rounds (l : Launch) (G : zG) (M : zM) (g t : Nat) (hG : zOb 1 g) (ht : M.1 g 1 = nI t) : zC l G 0 yX2_rounds cX2_rounds 1 (Option.some Jvm.ClassFile.FieldType.int) [.ref g] M (zP (some (.int (nI (t + 1)))) M) := by
  refine zC_of (by decide) (Nat.le_of_ble_eq_true rfl) (fun X Q hQ hX hl hR hr => ?_)
  refine zV_loc (L' := [.ref g]) rfl ?_
  refine zV_aload_n hX dX2_rounds_0 rfl ?_
  refine zV_geti hX dX2_rounds_1 zf_X2_26 hG.1 rfl (ht) ?_
  refine zV_iconst hX (v := nI 1) dX2_rounds_4 (by decide) ?_
  refine zV_iaddN hX dX2_rounds_5 ?_
  exact zV_reti hX hQ hr (⟨rfl, rfl⟩) dX2_rounds_6
def zmem (m : Int32) (n : Nat) : Bool := !decide (m < 0) && !decide (nI n ≤ m)
set_option maxHeartbeats 1000000 in
theorem zc_holds (l : Launch) (G : zG) (M : zM) (g n : Nat) (m : Int32) (hG : zOb 1 g) (hn : M.1 g 0 = nI n) : zC l G 0 yX2_holds cX2_holds 2 (Option.some Jvm.ClassFile.FieldType.boolean) [.ref g, .int m] M (zP (some (.int (zb (zmem m n)))) M) := by
  refine zC_of (by decide) (Nat.le_of_ble_eq_true rfl) (fun X Q hQ hX hl hR hr => ?_)
  refine zV_loc (L' := [.ref g, .int m]) rfl ?_
  refine zV_iload_n hX dX2_holds_0 rfl ?_
  refine zV_if_lt hX (tgt := 16) dX2_holds_1 (by decide) (fun c_1 => ?_) (fun c_1 => ?_)
  · refine zV_iconst hX (v := nI 0) dX2_holds_16 (by decide) ?_
    exact zV_retz hX hQ hr (rfl) (⟨by simp [zb, zmem, *], rfl⟩) dX2_holds_17
  · refine zV_iload_n hX dX2_holds_4 rfl ?_
    refine zV_aload_n hX dX2_holds_5 rfl ?_
    refine zV_geti hX dX2_holds_6 zf_X2_22 hG.1 rfl (hn) ?_
    refine zV_icmp_ge hX (tgt := 16) dX2_holds_9 (by decide) (fun c_9 => ?_) (fun c_9 => ?_)
    · refine zV_iconst hX (v := nI 0) dX2_holds_16 (by decide) ?_
      exact zV_retz hX hQ hr (rfl) (⟨by simp [zb, zmem, *], rfl⟩) dX2_holds_17
    · refine zV_iconst hX (v := nI 1) dX2_holds_12 (by decide) ?_
      refine zV_goto hX (tgt := 17) dX2_holds_13 (by decide) ?_
      exact zV_retz hX hQ hr (rfl) (⟨by simp [zb, zmem, *], rfl⟩) dX2_holds_17
