theorem bit_bt {s : Int32} {m : Nat} (hm : m < 32) : bit s m = bt s m := by
  unfold bit
  have h : bt (s >>> (nI m &&& 31)) 0 = bt s m := by
    rw [b_sshr m hm s (by decide), if_pos (by omega), Nat.add_zero]
  by_cases e : (s >>> (nI m &&& 31)) &&& nI 1 = 0
  · rw [decide_eq_false (fun q => q e), ← h, (bt_and1 _).mp e]
  · rw [decide_eq_true e, ← h]
    cases h2 : bt (s >>> (nI m &&& 31)) 0 with
    | true => rfl
    | false => exact absurd ((bt_and1 _).mpr h2) e
theorem bit_or (a b : Int32) {m : Nat} (hm : m < 32) : bit (a ||| b) m = (bit a m || bit b m) := by rw [bit_bt hm, bit_bt hm, bit_bt hm, b_or]
theorem bit_sh {w m : Nat} (hw : w < 32) (hm : m < 32) : bit (nI 1 <<< (nI w &&& 31)) m = decide (m = w) := by rw [bit_bt hm, bt_sh hw hm]
theorem bit_0 {m : Nat} (hm : m < 32) : bit (nI 0) m = false := by rw [bit_bt hm, bt_0]
theorem zlo_ge {w : Option (Option Int32)} (h : ¬ lg_cmp (zlo w) 0 < 0) : ∃ v, w = some (some v) := by
  match w with
  | none => exact absurd (by decide) h
  | some none => exact absurd (by decide) h
  | some (some v) => exact ⟨v, rfl⟩
theorem zlo_lt {w : Option (Option Int32)} (h : lg_cmp (zlo w) 0 < 0) : ∀ v, w ≠ some (some v) := by
  intro v e
  subst e
  have := zlv_0 v
  exact absurd h (Int32.not_lt.mpr this)
theorem zlo_m1 (w : Option (Option Int32)) : lg_cmp (zlo w) (-1) = 0 ↔ w = none := by
  match w with
  | none => exact ⟨fun _ => rfl, fun _ => by decide⟩
  | some none => exact ⟨fun h => absurd h (by decide), fun h => by cases h⟩
  | some (some v) => exact ⟨fun h => absurd h (zlv_1 v), fun h => by cases h⟩
theorem zlo_m2 (w : Option (Option Int32)) : lg_cmp (zlo w) (-2) = 0 ↔ w = some none := by
  match w with
  | none => exact ⟨fun h => absurd h (by decide), fun h => by cases h⟩
  | some none => exact ⟨fun _ => rfl, fun _ => by decide⟩
  | some (some v) => exact ⟨fun h => absurd h (zlv_2 v), fun h => by cases h⟩
-- SIGNED at o
def zk7 (M : zM) (a : Nat) : Prop := ∀ m, m < 7 → ∃ k, k ≤ 7 ∧ M.1 a m = nI k
def zN (x : Int32) : Nat := x.toNatClampNeg
theorem zN_nI {k : Nat} (h : k < 2 ^ 31) : zN (nI k) = k := nI_clamp h
def sCnt (o f : Nat) (w : Option (Option Int32)) (M : zM) : zM :=
  zw (if w = none then M else zw (zw M o 1 (M.1 o 1 + nI 1)) (o + 1 + 5) f (M.1 (o + 1 + 5) f + nI 1)) o 3 (M.1 o 3 + (if w = some none then nI 1 else nI 0))
def sPut (o m k f : Nat) (s : Int32) (r : Nat) (v : Int32) (M : zM) : zM := zw (zw (zw (zw (zw M (o + 1 + 8) (m * 7 + k) v) (o + 1 + 9) (m * 7 + k) s) (o + 1 + 10) (m * 7 + k) (nI f)) (o + 1 + 11) (m * 7 + k) (nI r)) (o + 1 + 4) m (nI (k + 1))
def sTake (o m f : Nat) (s : Int32) (r : Nat) (v : Int32) (M : zM) : zM :=
  if 7 ≤ zN (M.1 (o + 1 + 4) m) then M
  else if 0 < zcnt (fun j => M.1 (o + 1 + 8) (j + m * 7) == v) (zN (M.1 (o + 1 + 4) m)) then M
  else sPut o m (zN (M.1 (o + 1 + 4) m)) f s r v M
set_option maxHeartbeats 1000000 in
theorem zc_scnt (l : Launch) (G : zG) (M : zM) (o f : Nat) (w : Option (Option Int32)) (hO : zOb 7 o) (hf : f < 7) : zC l G 0 yX8_countSaid cX8_countSaid 4 (Option.none : Option Jvm.ClassFile.FieldType) [.ref o, .int (nI f), .long (zlo w)] M (zP none (sCnt o f w M)) := by
  refine zC_of (by decide) (Nat.le_of_ble_eq_true rfl) (fun X Q hQ hX hl hR hr => ?_)
  refine zV_loc (L' := [.ref o, .int (nI f), .long (zlo w), .null]) rfl ?_
  have J28 : ∀ M1 : zM, M1 = (if w = none then M else zw (zw M o 1 (M.1 o 1 + nI 1)) (o + 1 + 5) f (M.1 (o + 1 + 5) f + nI 1)) → zV G X Q 4 0 0 28 [.ref o, .int (nI f), .long (zlo w), .null] [] M1 := by
    intro M1 hM1
    have h3 : M1.1 o 3 = M.1 o 3 := by rw [hM1]; split; rfl; rw [zw_ne (by omega), zw_ne (by omega)]
    refine zV_aload_n hX dX8_countSaid_28 rfl ?_
    refine zV_dup hX dX8_countSaid_29 rfl ?_
    refine zV_geti hX (x := M.1 o 3) dX8_countSaid_30 zf_X8_82 hO.1 rfl (h3) ?_
    refine zV_lload_n hX dX8_countSaid_33 rfl ?_
    refine zV_ldc2 hX dX8_countSaid_34 zkc_X8_97 ?_
    refine zV_lcmp hX dX8_countSaid_37 ?_
    refine zV_if_ne hX (tgt := 45) dX8_countSaid_38 (by decide) (fun c_38 => ?_) (fun c_38 => ?_)
    · have e9 : (if w = some none then nI 1 else nI 0) = nI 0 := if_neg (fun q => c_38 ((zlo_m2 w).mpr q))
      refine zV_iconst hX (v := nI 0) dX8_countSaid_45 (by decide) ?_
      refine zV_iadd hX dX8_countSaid_46 ?_
      refine zV_puti hX dX8_countSaid_47 zf_X8_82 zp_7_3 hO.1 rfl ?_
      exact zV_retv hX hQ hr (⟨rfl, by rw [sCnt, e9, hM1]⟩) dX8_countSaid_50
    · have e9 : (if w = some none then nI 1 else nI 0) = nI 1 := if_pos ((zlo_m2 w).mp c_38)
      refine zV_iconst hX (v := nI 1) dX8_countSaid_41 (by decide) ?_
      refine zV_goto hX (tgt := 46) dX8_countSaid_42 (by decide) ?_
      refine zV_iadd hX dX8_countSaid_46 ?_
      refine zV_puti hX dX8_countSaid_47 zf_X8_82 zp_7_3 hO.1 rfl ?_
      exact zV_retv hX hQ hr (⟨rfl, by rw [sCnt, e9, hM1]⟩) dX8_countSaid_50
  refine zV_lload_n hX dX8_countSaid_0 rfl ?_
  refine zV_ldc2 hX dX8_countSaid_1 zkc_X8_95 ?_
  refine zV_lcmp hX dX8_countSaid_4 ?_
  refine zV_if_eq hX (tgt := 28) dX8_countSaid_5 (by decide) (fun c_5 => ?_) (fun c_5 => ?_)
  · exact J28 _ (by first | rw [if_pos ((zlo_m1 w).mp c_5)] | rw [if_neg (fun q => c_5 ((zlo_m1 w).mpr q))])
  · refine zV_aload_n hX dX8_countSaid_8 rfl ?_
    refine zV_dup hX dX8_countSaid_9 rfl ?_
    refine zV_geti hX dX8_countSaid_10 zf_X8_76 hO.1 rfl rfl ?_
    refine zV_iconst hX (v := nI 1) dX8_countSaid_13 (by decide) ?_
    refine zV_iadd hX dX8_countSaid_14 ?_
    refine zV_puti hX dX8_countSaid_15 zf_X8_76 zp_7_1 hO.1 rfl ?_
    refine zV_aload_n hX dX8_countSaid_18 rfl ?_
    refine zV_geta hX dX8_countSaid_19 zf_X8_15 hO.1 rfl ?_
    refine zV_iload_n hX dX8_countSaid_22 rfl ?_
    refine zV_dup2 hX dX8_countSaid_23 rfl rfl ?_
    refine zV_iald hX (v := M.1 (o + 1 + 5) f) dX8_countSaid_24 (hO.a 5 rfl) (rfl) ⟨by omega, by omega⟩ (by (try simp only [oCnt, oLost, oKeep]); (repeat first | rw [zw_ne (by omega)] | rw [zw_same]); try rfl) ?_
    refine zV_iconst hX (v := nI 1) dX8_countSaid_25 (by decide) ?_
    refine zV_iadd hX dX8_countSaid_26 ?_
    refine zV_iast hX dX8_countSaid_27 (hO.a 5 rfl) (rfl) ⟨by omega, by omega⟩ ?_
    exact J28 _ (by first | rw [if_pos ((zlo_m1 w).mp c_5)] | rw [if_neg (fun q => c_5 ((zlo_m1 w).mpr q))])
set_option maxHeartbeats 1000000 in
theorem zc_take (l : Launch) (G : zG) (M : zM) (o m f r k : Nat) (s v : Int32) (hO : zOb 7 o) (hm : m < 7) (hk : M.1 (o + 1 + 4) m = nI k) (hk7 : k ≤ 7) : zC l G 1 yX8_take cX8_take 8 (Option.none : Option Jvm.ClassFile.FieldType) [.ref o, .int (nI m), .int (nI f), .int s, .int (nI r), .int v] M (zP none (sTake o m f s r v M)) := by
  refine zC_of (by decide) (Nat.le_of_ble_eq_true rfl) (fun X Q hQ hX hl hR hr => ?_)
  refine zV_loc (L' := [.ref o, .int (nI m), .int (nI f), .int s, .int (nI r), .int v, .null, .null]) rfl ?_
  have hkN : zN (nI k) = k := zN_nI (by omega)
  refine zV_iload_n hX dX8_take_0 rfl ?_
  refine zV_bipush hX (v := nI 7) dX8_take_1 (by decide) ?_
  refine zV_imulN hX dX8_take_3 ?_
  refine zV_istore hX dX8_take_4 (by decide) ?_
  dsimp only [zst1, zst2, zclr, zc2]
  refine zV_aload_n hX dX8_take_6 rfl ?_
  refine zV_geta hX dX8_take_7 zf_X8_9 hO.1 rfl ?_
  refine zV_iload_n hX dX8_take_10 rfl ?_
  refine zV_iald hX dX8_take_11 (hO.a 4 rfl) (rfl) ⟨by omega, by omega⟩ (hk) ?_
  refine zV_istore hX dX8_take_12 (by decide) ?_
  dsimp only [zst1, zst2, zclr, zc2]
  refine zV_iload hX dX8_take_14 rfl ?_
  refine zV_bipush hX (v := nI 7) dX8_take_16 (by decide) ?_
  refine zV_icmp_geN hX (tgt := 93) dX8_take_18 (by decide) ⟨by omega, by omega⟩ (fun c_18 => ?_) (fun c_18 => ?_)
  · have e9 : sTake o m f s r v M = M := by rw [sTake, hk, hkN, if_pos c_18]
    exact zV_retv hX hQ hr (⟨rfl, by rw [e9]; try rfl⟩) dX8_take_93
  · refine zV_aload_n hX dX8_take_21 rfl ?_
    refine zV_geta hX dX8_take_22 zf_X8_21 hO.1 rfl ?_
    refine zV_iload hX dX8_take_25 rfl ?_
    refine zV_iload hX dX8_take_27 rfl ?_
    refine zV_iload hX dX8_take_29 rfl ?_
    refine zV_cS4p hX hR hl dX8_take_31 (zc_alike l G M (o + 1 + 8) 49 (m * 7) k v (hO.a 8 rfl) (by decide) (by omega)) zt_X9_alike rfl zml_X8_99 (by decide) (Nat.le_of_ble_eq_true rfl) ?_
    dsimp only [Option.toList, List.cons_append, List.nil_append]
    refine zV_if_neN hX (tgt := 93) dX8_take_34 (by decide) (Nat.lt_of_le_of_lt (zcnt_le _ _) (by omega)) (fun c_34 => ?_) (fun c_34 => ?_)
    · have e9 : sTake o m f s r v M = M := by rw [sTake, hk, hkN, if_neg (by omega), if_pos c_34]
      exact zV_retv hX hQ hr (⟨rfl, by rw [e9]; try rfl⟩) dX8_take_93
    · have e9 : sTake o m f s r v M = sPut o m k f s r v M := by rw [sTake, hk, hkN, if_neg (by omega), if_neg (by omega)]
      refine zV_aload_n hX dX8_take_37 rfl ?_
      refine zV_geta hX dX8_take_38 zf_X8_21 hO.1 rfl ?_
      refine zV_iload hX dX8_take_41 rfl ?_
      refine zV_iload hX dX8_take_43 rfl ?_
      refine zV_iaddN hX dX8_take_45 ?_
      refine zV_iload hX dX8_take_46 rfl ?_
      refine zV_iast hX dX8_take_48 (hO.a 8 rfl) (rfl) ⟨by omega, by omega⟩ ?_
      refine zV_aload_n hX dX8_take_49 rfl ?_
      refine zV_geta hX dX8_take_50 zf_X8_24 hO.1 rfl ?_
      refine zV_iload hX dX8_take_53 rfl ?_
      refine zV_iload hX dX8_take_55 rfl ?_
      refine zV_iaddN hX dX8_take_57 ?_
      refine zV_iload_n hX dX8_take_58 rfl ?_
      refine zV_iast hX dX8_take_59 (hO.a 9 rfl) (rfl) ⟨by omega, by omega⟩ ?_
      refine zV_aload_n hX dX8_take_60 rfl ?_
      refine zV_geta hX dX8_take_61 zf_X8_27 hO.1 rfl ?_
      refine zV_iload hX dX8_take_64 rfl ?_
      refine zV_iload hX dX8_take_66 rfl ?_
      refine zV_iaddN hX dX8_take_68 ?_
      refine zV_iload_n hX dX8_take_69 rfl ?_
      refine zV_iast hX dX8_take_70 (hO.a 10 rfl) (rfl) ⟨by omega, by omega⟩ ?_
      refine zV_aload_n hX dX8_take_71 rfl ?_
      refine zV_geta hX dX8_take_72 zf_X8_30 hO.1 rfl ?_
      refine zV_iload hX dX8_take_75 rfl ?_
      refine zV_iload hX dX8_take_77 rfl ?_
      refine zV_iaddN hX dX8_take_79 ?_
      refine zV_iload hX dX8_take_80 rfl ?_
      refine zV_iast hX dX8_take_82 (hO.a 11 rfl) (rfl) ⟨by omega, by omega⟩ ?_
      refine zV_aload_n hX dX8_take_83 rfl ?_
      refine zV_geta hX dX8_take_84 zf_X8_9 hO.1 rfl ?_
      refine zV_iload_n hX dX8_take_87 rfl ?_
      refine zV_dup2 hX dX8_take_88 rfl rfl ?_
      refine zV_iald hX (v := nI k) dX8_take_89 (hO.a 4 rfl) (rfl) ⟨by omega, by omega⟩ (by (repeat rw [zw_ne (by omega)]); exact hk) ?_
      refine zV_iconst hX (v := nI 1) dX8_take_90 (by decide) ?_
      refine zV_iaddN hX dX8_take_91 ?_
      refine zV_iast hX dX8_take_92 (hO.a 4 rfl) (rfl) ⟨by omega, by omega⟩ ?_
      exact zV_retv hX hQ hr (⟨rfl, by rw [e9]; try rfl⟩) dX8_take_93
set_option maxHeartbeats 1000000 in
theorem zc_latestRound (l : Launch) (G : zG) (M : zM) (o m k : Nat) (hO : zOb 7 o) (hm : m < 7) (hk : M.1 (o + 1 + 4) m = nI k) (hk7 : k ≤ 7) : zC l G 0 yX8_latestRound cX8_latestRound 3 (Option.some Jvm.ClassFile.FieldType.int) [.ref o, .int (nI m)] M (zP (some (.int (if k = 0 then nI 0 else M.1 (o + 1 + 11) (m * 7 + k - 1)))) M) := by
  refine zC_of (by decide) (Nat.le_of_ble_eq_true rfl) (fun X Q hQ hX hl hR hr => ?_)
  refine zV_loc (L' := [.ref o, .int (nI m), .null]) rfl ?_
  refine zV_aload_n hX dX8_latestRound_0 rfl ?_
  refine zV_geta hX dX8_latestRound_1 zf_X8_9 hO.1 rfl ?_
  refine zV_iload_n hX dX8_latestRound_4 rfl ?_
  refine zV_iald hX dX8_latestRound_5 (hO.a 4 rfl) (rfl) ⟨by omega, by omega⟩ (hk) ?_
  refine zV_istore_n hX dX8_latestRound_6 (by decide) ?_
  dsimp only [zst1, zst2, zclr, zc2]
  refine zV_iload_n hX dX8_latestRound_7 rfl ?_
  refine zV_if_neN hX (tgt := 15) dX8_latestRound_8 (by decide) (by omega) (fun c_8 => ?_) (fun c_8 => ?_)
  · refine zV_aload_n hX dX8_latestRound_15 rfl ?_
    refine zV_geta hX dX8_latestRound_16 zf_X8_30 hO.1 rfl ?_
    refine zV_iload_n hX dX8_latestRound_19 rfl ?_
    refine zV_bipush hX (v := nI 7) dX8_latestRound_20 (by decide) ?_
    refine zV_imulN hX dX8_latestRound_22 ?_
    refine zV_iload_n hX dX8_latestRound_23 rfl ?_
    refine zV_iaddN hX dX8_latestRound_24 ?_
    refine zV_iconst hX (v := nI 1) dX8_latestRound_25 (by decide) ?_
    refine zV_isubN hX dX8_latestRound_26 (by omega) ?_
    refine zV_iald hX dX8_latestRound_27 (hO.a 11 rfl) (rfl) ⟨by omega, by omega⟩ (rfl) ?_
    exact zV_reti hX hQ hr (⟨by first | rw [if_pos c_8] | rw [if_neg (by omega)], rfl⟩) dX8_latestRound_28
  · refine zV_iconst hX (v := nI 0) dX8_latestRound_11 (by decide) ?_
    refine zV_goto hX (tgt := 28) dX8_latestRound_12 (by decide) ?_
    exact zV_reti hX hQ hr (⟨by first | rw [if_pos c_8] | rw [if_neg (by omega)], rfl⟩) dX8_latestRound_28
set_option maxHeartbeats 1000000 in
theorem zc_takenOf (l : Launch) (G : zG) (M : zM) (o m k what : Nat) (hO : zOb 7 o) (hm : m < 7) (hk7 : k < 7) (hw : what < 2) : zC l G 0 yX8_takenOf cX8_takenOf 5 (Option.some Jvm.ClassFile.FieldType.int) [.ref o, .int (nI m), .int (nI k), .int (nI what)] M (zP (some (.int (if what = 0 then M.1 (o + 1 + 8) (m * 7 + k) else M.1 (o + 1 + 9) (m * 7 + k)))) M) := by
  refine zC_of (by decide) (Nat.le_of_ble_eq_true rfl) (fun X Q hQ hX hl hR hr => ?_)
  refine zV_loc (L' := [.ref o, .int (nI m), .int (nI k), .int (nI what), .null]) rfl ?_
  refine zV_iload_n hX dX8_takenOf_0 rfl ?_
  refine zV_bipush hX (v := nI 7) dX8_takenOf_1 (by decide) ?_
  refine zV_imulN hX dX8_takenOf_3 ?_
  refine zV_iload_n hX dX8_takenOf_4 rfl ?_
  refine zV_iaddN hX dX8_takenOf_5 ?_
  refine zV_istore hX dX8_takenOf_6 (by decide) ?_
  dsimp only [zst1, zst2, zclr, zc2]
  refine zV_iload_n hX dX8_takenOf_8 rfl ?_
  refine zV_if_neN hX (tgt := 22) dX8_takenOf_9 (by decide) (by omega) (fun c_9 => ?_) (fun c_9 => ?_)
  · refine zV_aload_n hX dX8_takenOf_22 rfl ?_
    refine zV_geta hX dX8_takenOf_23 zf_X8_24 hO.1 rfl ?_
    refine zV_iload hX dX8_takenOf_26 rfl ?_
    refine zV_iald hX dX8_takenOf_28 (hO.a 9 rfl) (rfl) ⟨by omega, by omega⟩ (rfl) ?_
    exact zV_reti hX hQ hr (⟨by first | rw [if_pos c_9] | rw [if_neg (by omega)], rfl⟩) dX8_takenOf_29
  · refine zV_aload_n hX dX8_takenOf_12 rfl ?_
    refine zV_geta hX dX8_takenOf_13 zf_X8_21 hO.1 rfl ?_
    refine zV_iload hX dX8_takenOf_16 rfl ?_
    refine zV_iald hX dX8_takenOf_18 (hO.a 8 rfl) (rfl) ⟨by omega, by omega⟩ (rfl) ?_
    refine zV_goto hX (tgt := 29) dX8_takenOf_19 (by decide) ?_
    exact zV_reti hX hQ hr (⟨by first | rw [if_pos c_9] | rw [if_neg (by omega)], rfl⟩) dX8_takenOf_29
def sBegin (o g : Nat) (M : zM) : zM := zfor (fun i M => zw (zw M (o + 1 + 4) i (nI 0)) (o + 1 + 5) i (nI 0)) 7 (zw (zw (zw (zw M o 7 (M.1 g 0)) o 1 (nI 0)) o 2 (nI 0)) o 3 (nI 0))
set_option maxHeartbeats 1000000 in
theorem zc_sbegin (l : Launch) (G : zG) (M : zM) (o g : Nat) (hO : zOb 7 o) (hG : zOb 1 g) : zC l G 0 yX8_begin cX8_begin 3 (Option.none : Option Jvm.ClassFile.FieldType) [.ref o, .ref g] M (zP none (sBegin o g M)) := by
  refine zC_of (by decide) (Nat.le_of_ble_eq_true rfl) (fun X Q hQ hX hl hR hr => ?_)
  refine zV_loc (L' := [.ref o, .ref g, .null]) rfl ?_
  have L9 : ∀ (f9 k : Nat), 7 - k < f9 → k ≤ 7 → zV G X Q 3 0 0 25 [.ref o, .ref g, .int (nI k)] [] (zfor (fun i M => zw (zw M (o + 1 + 4) i (nI 0)) (o + 1 + 5) i (nI 0)) k (zw (zw (zw (zw M o 7 (M.1 g 0)) o 1 (nI 0)) o 2 (nI 0)) o 3 (nI 0))) := by
    intro f9
    induction f9 with
    | zero => intro k hk1 hk2; exact absurd hk1 (Nat.not_lt_zero _)
    | succ f9 ih =>
      intro k hk1 hk2
      refine zV_iload_n hX dX8_begin_25 rfl ?_
      refine zV_bipush hX (v := nI 7) dX8_begin_26 (by decide) ?_
      refine zV_icmp_geN hX (tgt := 51) dX8_begin_28 (by decide) ⟨by omega, by omega⟩ (fun c_28 => ?_) (fun c_28 => ?_)
      · exact zV_retv hX hQ hr (⟨rfl, by rw [show k = 7 by omega]; rfl⟩) dX8_begin_51
      · refine zV_aload_n hX dX8_begin_31 rfl ?_
        refine zV_geta hX dX8_begin_32 zf_X8_9 hO.1 rfl ?_
        refine zV_iload_n hX dX8_begin_35 rfl ?_
        refine zV_iconst hX (v := nI 0) dX8_begin_36 (by decide) ?_
        refine zV_iast hX dX8_begin_37 (hO.a 4 rfl) (rfl) ⟨by omega, by omega⟩ ?_
        refine zV_aload_n hX dX8_begin_38 rfl ?_
        refine zV_geta hX dX8_begin_39 zf_X8_15 hO.1 rfl ?_
        refine zV_iload_n hX dX8_begin_42 rfl ?_
        refine zV_iconst hX (v := nI 0) dX8_begin_43 (by decide) ?_
        refine zV_iast hX dX8_begin_44 (hO.a 5 rfl) (rfl) ⟨by omega, by omega⟩ ?_
        refine zV_iincN hX (b := 1) dX8_begin_45 rfl (by decide) ?_
        dsimp only [zst1, zst2, zclr, zc2]
        refine zV_goto hX (tgt := 25) dX8_begin_48 (by decide) ?_
        exact ih (k + 1) (by omega) (by omega)
  refine zV_aload_n hX dX8_begin_0 rfl ?_
  refine zV_aload_n hX dX8_begin_1 rfl ?_
  refine zV_geti hX dX8_begin_2 zf_X8_75 hG.1 rfl rfl ?_
  refine zV_puti hX dX8_begin_5 zf_X8_37 zp_7_7 hO.1 rfl ?_
  refine zV_aload_n hX dX8_begin_8 rfl ?_
  refine zV_iconst hX (v := nI 0) dX8_begin_9 (by decide) ?_
  refine zV_puti hX dX8_begin_10 zf_X8_76 zp_7_1 hO.1 rfl ?_
  refine zV_aload_n hX dX8_begin_13 rfl ?_
  refine zV_iconst hX (v := nI 0) dX8_begin_14 (by decide) ?_
  refine zV_puti hX dX8_begin_15 zf_X8_79 zp_7_2 hO.1 rfl ?_
  refine zV_aload_n hX dX8_begin_18 rfl ?_
  refine zV_iconst hX (v := nI 0) dX8_begin_19 (by decide) ?_
  refine zV_puti hX dX8_begin_20 zf_X8_82 zp_7_3 hO.1 rfl ?_
  refine zV_iconst hX (v := nI 0) dX8_begin_23 (by decide) ?_
  refine zV_istore_n hX dX8_begin_24 (by decide) ?_
  dsimp only [zst1, zst2, zclr, zc2]
  exact L9 8 0 (by omega) (by omega)
theorem sCnt_at (o f : Nat) (w : Option (Option Int32)) (M : zM) {a j : Nat} (h : ¬ (a = o ∧ (j = 1 ∨ j = 3)) ∧ a ≠ o + 1 + 5) : (sCnt o f w M).1 a j = M.1 a j := by
  unfold sCnt
  rw [zw_ne (by omega)]
  split
  · rfl
  · rw [zw_ne (by omega), zw_ne (by omega)]
theorem sCnt_2 (o f : Nat) (w : Option (Option Int32)) (M : zM) : (sCnt o f w M).2 = M.2 := by unfold sCnt; split <;> rfl
theorem sTake_at (o m f : Nat) (s : Int32) (r : Nat) (v : Int32) (M : zM) {a j : Nat} (h : a < o + 5 ∨ a = o + 6 ∨ a = o + 7 ∨ o + 12 < a) : (sTake o m f s r v M).1 a j = M.1 a j := by
  unfold sTake sPut
  split
  · rfl
  · split
    · rfl
    · rw [zw_ne (by omega), zw_ne (by omega), zw_ne (by omega), zw_ne (by omega), zw_ne (by omega)]
theorem sTake_2 (o m f : Nat) (s : Int32) (r : Nat) (v : Int32) (M : zM) : (sTake o m f s r v M).2 = M.2 := by unfold sTake sPut; split; rfl; split <;> rfl
theorem sTake_row (o m f : Nat) (s : Int32) (r : Nat) (v : Int32) (M : zM) {x : Nat} (hx : x ≠ m) : (sTake o m f s r v M).1 (o + 1 + 4) x = M.1 (o + 1 + 4) x := by
  unfold sTake sPut
  split
  · rfl
  · split
    · rfl
    · rw [zw_ne (by omega), zw_ne (by omega), zw_ne (by omega), zw_ne (by omega), zw_ne (by omega)]
theorem sTake_k7 (o m f : Nat) (s : Int32) (r : Nat) (v : Int32) (M : zM) (h : zk7 M (o + 1 + 4)) : zk7 (sTake o m f s r v M) (o + 1 + 4) := by
  intro x hx
  by_cases e : x = m
  · subst e
    obtain ⟨k, hk, hk2⟩ := h x hx
    unfold sTake
    rw [hk2, zN_nI (by omega)]
    split
    · exact ⟨k, hk, hk2⟩
    · split
      · exact ⟨k, hk, hk2⟩
      · exact ⟨k + 1, by omega, by unfold sPut; rw [zw_same]⟩
  · rw [sTake_row o m f s r v M e]
    exact h x hx
/-- one letter: from the row's place a, of member w, in round r, to x -/
def sPass1 (o c2 w a r : Nat) (cn : Nat → Nat) (s : Int32) (x : Nat) (M : zM) : zM :=
  if bit s x then M
  else match lSaidF M c2 w r x (M.1 (o + 1 + 10) a) (M.1 (o + 1 + 8) a) (cn w) 0 with
    | some (some v) => if v = M.1 (o + 1 + 8) a then sTake o x w s r (M.1 (o + 1 + 8) a) (sCnt o w (some (some v)) M) else zw (sCnt o w (some (some v)) M) o 2 (M.1 o 2 + nI 1)
    | y => sCnt o w y M
/-- SIGNED at o while members write: the counts stay in range, what is not its own stays -/
def sZ (o : Nat) (M M' : zM) : Prop := (∀ a j, a < o ∨ o + 12 < a → M'.1 a j = M.1 a j) ∧ M'.2 = M.2 ∧ M'.1 o 7 = M.1 o 7 ∧ M'.1 o 0 = M.1 o 0 ∧ (zk7 M (o + 1 + 4) → zk7 M' (o + 1 + 4))
theorem sZ.rf {o : Nat} {M : zM} : sZ o M M := ⟨fun _ _ _ => rfl, rfl, rfl, rfl, id⟩
theorem sZ.tr {o : Nat} {M M1 M2 : zM} (h : sZ o M M1) (h2 : sZ o M1 M2) : sZ o M M2 := ⟨fun a j q => (h2.1 a j q).trans (h.1 a j q), h2.2.1.trans h.2.1, h2.2.2.1.trans h.2.2.1, h2.2.2.2.1.trans h.2.2.2.1, fun q => h2.2.2.2.2 (h.2.2.2.2 q)⟩
theorem sZ.for {o : Nat} {f : Nat → zM → zM} (hf : ∀ i M, sZ o M (f i M)) : ∀ (n : Nat) (M : zM), sZ o M (zfor f n M)
  | 0, M => sZ.rf
  | n + 1, M => (sZ.for hf n M).tr (hf n _)
theorem sZ.cnt (o f : Nat) (w : Option (Option Int32)) (M : zM) : sZ o M (sCnt o f w M) := ⟨fun a j h => sCnt_at o f w M (by omega), sCnt_2 o f w M, sCnt_at o f w M (by omega), sCnt_at o f w M (by omega), fun h m hm => by rw [sCnt_at o f w M (by omega)]; exact h m hm⟩
theorem sZ.take (o m f : Nat) (s : Int32) (r : Nat) (v : Int32) (M : zM) : sZ o M (sTake o m f s r v M) := ⟨fun a j h => sTake_at o m f s r v M (by omega), sTake_2 o m f s r v M, sTake_at o m f s r v M (by omega), sTake_at o m f s r v M (by omega), sTake_k7 o m f s r v M⟩
theorem sZ.w2 (o : Nat) (x : Int32) (M : zM) : sZ o M (zw M o 2 x) := ⟨fun a j h => zw_ne (by omega), rfl, zw_ne (by omega), zw_ne (by omega), fun h m hm => by rw [zw_ne (by omega)]; exact h m hm⟩
theorem sPass1_Z (o c2 w a r : Nat) (cn : Nat → Nat) (s : Int32) (x : Nat) (M : zM) : sZ o M (sPass1 o c2 w a r cn s x M) := by
  unfold sPass1
  split
  · exact sZ.rf
  · split
    · split
      · exact (sZ.cnt o w _ M).tr (sZ.take o x w s r _ _)
      · exact (sZ.cnt o w _ M).tr (sZ.w2 o _ _)
    · exact sZ.cnt o w _ M
def sPassK (o c2 w a r : Nat) (cn : Nat → Nat) (k : Nat) (M : zM) : zM := zfor (sPass1 o c2 w a r cn (M.1 (o + 1 + 9) a ||| (nI 1 <<< (nI w &&& 31)))) k M
theorem sPassK_Z (o c2 w a r : Nat) (cn : Nat → Nat) (k : Nat) (M : zM) : sZ o M (sPassK o c2 w a r cn k M) := sZ.for (sPass1_Z o c2 w a r cn _) k M
theorem sPass1_row (o c2 w a r : Nat) (cn : Nat → Nat) (s : Int32) (x : Nat) (M : zM) (hs : bit s w = true) : (sPass1 o c2 w a r cn s x M).1 (o + 1 + 4) w = M.1 (o + 1 + 4) w := by
  unfold sPass1
  split
  · rfl
  · rename_i hx
    have hne : w ≠ x := fun e => hx (e ▸ hs)
    split
    · split
      · rw [sTake_row _ _ _ _ _ _ _ hne, sCnt_at _ _ _ _ (by omega)]
      · rw [zw_ne (by omega), sCnt_at _ _ _ _ (by omega)]
    · rw [sCnt_at _ _ _ _ (by omega)]
theorem zfor_at {f : Nat → zM → zM} {a j : Nat} (hf : ∀ i M, (f i M).1 a j = M.1 a j) : ∀ (n : Nat) (M : zM), (zfor f n M).1 a j = M.1 a j
  | 0, M => rfl
  | n + 1, M => (hf n _).trans (zfor_at hf n M)
theorem sPassK_row (o c2 w a r : Nat) (cn : Nat → Nat) (k : Nat) (M : zM) (hw : w < 32) : (sPassK o c2 w a r cn k M).1 (o + 1 + 4) w = M.1 (o + 1 + 4) w := zfor_at (fun i M1 => sPass1_row o c2 w a r cn _ i M1 (by rw [bit_or _ _ hw, bit_sh hw hw, decide_eq_true rfl, Bool.or_true])) k M
/-- the lies at c, apart from SIGNED at o -/
def lyS (c o : Nat) : Prop := zOb 3 c ∧ ∀ k, k ≤ 8 → c + k < o ∨ o + 12 < c + k
set_option maxRecDepth 20000 in
set_option maxHeartbeats 1000000 in
theorem zc_passOn (l : Launch) (G : zG) (M : zM) (o c2 n w a r : Nat) (cn : Nat → Nat) (hO : zOb 7 o) (hn : M.1 o 7 = nI n) (hn7 : n ≤ 7) (hL : lyS c2 o) (hcn : lyN c2 M cn) (hw : w < 7) (ha : a < 49) (hc7 : zk7 M (o + 1 + 4)) : zC l G 2 yX8_passOn cX8_passOn 9 (Option.none : Option Jvm.ClassFile.FieldType) [.ref o, .ref c2, .int (nI w), .int (nI a), .int (nI r)] M (zP none (sPassK o c2 w a r cn n M)) := by
  refine zC_of (by decide) (Nat.le_of_ble_eq_true rfl) (fun X Q hQ hX hl hR hr => ?_)
  refine zV_loc (L' := [.ref o, .ref c2, .int (nI w), .int (nI a), .int (nI r), .null, .null, .null, .null]) rfl ?_
  have L15 : ∀ (f9 k : Nat) (v1 v2 : Value), n - k < f9 → k ≤ n → zV G X Q 9 0 0 15 [.ref o, .ref c2, .int (nI w), .int (nI a), .int (nI r), .int (M.1 (o + 1 + 9) a ||| (nI 1 <<< (nI w &&& 31))), .int (nI k), v1, v2] [] (sPassK o c2 w a r cn k M) := by
    intro f9
    induction f9 with
    | zero => intro k v1 v2 hk1 hk2; exact absurd hk1 (Nat.not_lt_zero _)
    | succ f9 ih =>
      intro k v1 v2 hk1 hk2
      have hZ := sPassK_Z o c2 w a r cn k M
      refine zV_iload hX dX8_passOn_15 rfl ?_
      refine zV_aload_n hX dX8_passOn_17 rfl ?_
      refine zV_geti hX dX8_passOn_18 zf_X8_37 hO.1 rfl (by rw [hZ.2.2.1, hn]) ?_
      refine zV_icmp_geN hX (tgt := 126) dX8_passOn_21 (by decide) ⟨by omega, by omega⟩ (fun c_21 => ?_) (fun c_21 => ?_)
      · exact zV_retv hX hQ hr (⟨rfl, by rw [show k = n by omega]⟩) dX8_passOn_126
      · refine zV_iload hX dX8_passOn_24 rfl ?_
        refine zV_iload hX dX8_passOn_26 rfl ?_
        refine zV_cS2p hX hR hl dX8_passOn_28 (zc_isIn l G _ _ k) zt_X9_isIn rfl zml_X8_89 (by decide) (Nat.le_of_ble_eq_true rfl) ?_
        dsimp only [Option.toList, List.cons_append, List.nil_append]
        refine zV_if_neB hX (tgt := 120) dX8_passOn_31 (by decide) (fun c_31 => ?_) (fun c_31 => ?_)
        · have e9 : sPass1 o c2 w a r cn (M.1 (o + 1 + 9) a ||| (nI 1 <<< (nI w &&& 31))) k (sPassK o c2 w a r cn k M) = (sPassK o c2 w a r cn k M) := if_pos c_31
          refine zV_iincN hX (b := 1) dX8_passOn_120 rfl (by decide) ?_
          dsimp only [zst1, zst2, zclr, zc2]
          refine zV_goto hX (tgt := 15) dX8_passOn_123 (by decide) ?_
          have h9 := fun v1 v2 => ih (k + 1) v1 v2 (by omega) (by omega)
          simp only [show sPassK o c2 w a r cn (k + 1) M = sPass1 o c2 w a r cn (M.1 (o + 1 + 9) a ||| (nI 1 <<< (nI w &&& 31))) k (sPassK o c2 w a r cn k M) from rfl, e9] at h9
          first | exact absurd c_68 c_100 | exact absurd c_100 c_68 | exact h9 _ _
        · refine zV_aload_n hX dX8_passOn_34 rfl ?_
          refine zV_iload_n hX dX8_passOn_35 rfl ?_
          refine zV_iload hX dX8_passOn_36 rfl ?_
          refine zV_iload hX dX8_passOn_38 rfl ?_
          refine zV_aload_n hX dX8_passOn_40 rfl ?_
          refine zV_geta hX dX8_passOn_41 zf_X8_27 hO.1 rfl ?_
          refine zV_iload_n hX dX8_passOn_44 rfl ?_
          refine zV_iald hX dX8_passOn_45 (hO.a 10 rfl) (rfl) ⟨by omega, by omega⟩ (rfl) ?_
          refine zV_aload_n hX dX8_passOn_46 rfl ?_
          refine zV_geta hX dX8_passOn_47 zf_X8_21 hO.1 rfl ?_
          refine zV_iload_n hX dX8_passOn_50 rfl ?_
          refine zV_iald hX dX8_passOn_51 (hO.a 8 rfl) (rfl) ⟨by omega, by omega⟩ (rfl) ?_
          refine zV_cV5p hX hR hl dX8_passOn_52 (zc_said l G _ c2 w r k (cn w) _ _ hL.1 hw (by rw [hZ.1 _ _ (by have := hL.2 2 (by omega); omega)]; exact (hcn w hw).1) (hcn w hw).2 (by omega)) zt_X4_said rfl zml_X8_50 hL.1.1 ⟨by decide, by decide⟩ (Nat.le_of_ble_eq_true rfl) ?_
          dsimp only [Option.toList, List.cons_append, List.nil_append]
          refine zV_lstore hX dX8_passOn_55 (by decide) ?_
          dsimp only [zst1, zst2, zclr, zc2]
          refine zV_aload_n hX dX8_passOn_57 rfl ?_
          refine zV_iload_n hX dX8_passOn_58 rfl ?_
          refine zV_lload hX dX8_passOn_59 rfl ?_
          refine zV_cV2p hX hR hl dX8_passOn_61 (zc_scnt l G _ o w (lSaidF (sPassK o c2 w a r cn k M) c2 w r k ((sPassK o c2 w a r cn k M).1 (o + 1 + 10) a) ((sPassK o c2 w a r cn k M).1 (o + 1 + 8) a) (cn w) 0) hO hw) zt_X8_countSaid rfl zml_X8_55 hO.1 ⟨by decide, by decide⟩ (Nat.le_of_ble_eq_true rfl) ?_
          dsimp only [Option.toList, List.cons_append, List.nil_append]
          refine zV_lload hX dX8_passOn_64 rfl ?_
          refine zV_lconst hX (v := 0) dX8_passOn_66 rfl ?_
          refine zV_lcmp hX dX8_passOn_67 ?_
          refine zV_if_lt hX (tgt := 96) dX8_passOn_68 (by decide) (fun c_68 => ?_) (fun c_68 => ?_)
          · have hno := zlo_lt c_68
            have e9 : sPass1 o c2 w a r cn (M.1 (o + 1 + 9) a ||| (nI 1 <<< (nI w &&& 31))) k (sPassK o c2 w a r cn k M) = (sCnt o w (lSaidF (sPassK o c2 w a r cn k M) c2 w r k ((sPassK o c2 w a r cn k M).1 (o + 1 + 10) a) ((sPassK o c2 w a r cn k M).1 (o + 1 + 8) a) (cn w) 0) (sPassK o c2 w a r cn k M)) := by unfold sPass1; rw [if_neg (by simp [c_31])]; split; rename_i v9 hv9; exact absurd hv9 (hno v9); rfl
            refine zV_lload hX dX8_passOn_96 rfl ?_
            refine zV_lconst hX (v := 0) dX8_passOn_98 rfl ?_
            refine zV_lcmp hX dX8_passOn_99 ?_
            refine zV_if_lt hX (tgt := 120) dX8_passOn_100 (by decide) (fun c_100 => ?_) (fun c_100 => ?_)
            · refine zV_iincN hX (b := 1) dX8_passOn_120 rfl (by decide) ?_
              dsimp only [zst1, zst2, zclr, zc2]
              refine zV_goto hX (tgt := 15) dX8_passOn_123 (by decide) ?_
              have h9 := fun v1 v2 => ih (k + 1) v1 v2 (by omega) (by omega)
              simp only [show sPassK o c2 w a r cn (k + 1) M = sPass1 o c2 w a r cn (M.1 (o + 1 + 9) a ||| (nI 1 <<< (nI w &&& 31))) k (sPassK o c2 w a r cn k M) from rfl, e9] at h9
              first | exact absurd c_68 c_100 | exact absurd c_100 c_68 | exact h9 _ _
            · refine zV_aload_n hX dX8_passOn_103 rfl ?_
              refine zV_iload hX dX8_passOn_104 rfl ?_
              refine zV_iload_n hX dX8_passOn_106 rfl ?_
              refine zV_iload hX dX8_passOn_107 rfl ?_
              refine zV_iload hX dX8_passOn_109 rfl ?_
              refine zV_aload_n hX dX8_passOn_111 rfl ?_
              refine zV_geta hX dX8_passOn_112 zf_X8_21 hO.1 rfl ?_
              refine zV_iload_n hX dX8_passOn_115 rfl ?_
              refine zV_iald hX (v := (sPassK o c2 w a r cn k M).1 (o + 1 + 8) a) dX8_passOn_116 (hO.a 8 rfl) (rfl) ⟨by omega, by omega⟩ (sCnt_at _ _ _ _ (by omega)) ?_
              obtain ⟨kk, hkk, hkk2⟩ := hZ.2.2.2.2 hc7 k (by omega)
              refine zV_cV5p hX hR hl dX8_passOn_117 (zc_take l G _ o k w r kk (M.1 (o + 1 + 9) a ||| (nI 1 <<< (nI w &&& 31))) _ hO (by omega) (by rw [sCnt_at _ _ _ _ (by omega)]; exact hkk2) hkk) zt_X8_take rfl zml_X8_59 hO.1 ⟨by decide, by decide⟩ (Nat.le_of_ble_eq_true rfl) ?_
              dsimp only [Option.toList, List.cons_append, List.nil_append]
              refine zV_iincN hX (b := 1) dX8_passOn_120 rfl (by decide) ?_
              dsimp only [zst1, zst2, zclr, zc2]
              refine zV_goto hX (tgt := 15) dX8_passOn_123 (by decide) ?_
              have h9 := fun v1 v2 => ih (k + 1) v1 v2 (by omega) (by omega)
              simp only [show sPassK o c2 w a r cn (k + 1) M = sPass1 o c2 w a r cn (M.1 (o + 1 + 9) a ||| (nI 1 <<< (nI w &&& 31))) k (sPassK o c2 w a r cn k M) from rfl, e9] at h9
              first | exact absurd c_68 c_100 | exact absurd c_100 c_68 | exact h9 _ _
          · obtain ⟨v9, hv9⟩ := zlo_ge c_68
            refine zV_lload hX dX8_passOn_71 rfl ?_
            refine zV_l2i hX dX8_passOn_73 ?_
            refine zV_topi v9 (by rw [hv9]; exact zlv_i v9) ?_
            refine zV_aload_n hX dX8_passOn_74 rfl ?_
            refine zV_geta hX dX8_passOn_75 zf_X8_21 hO.1 rfl ?_
            refine zV_iload_n hX dX8_passOn_78 rfl ?_
            refine zV_iald hX (v := (sPassK o c2 w a r cn k M).1 (o + 1 + 8) a) dX8_passOn_79 (hO.a 8 rfl) (rfl) ⟨by omega, by omega⟩ (sCnt_at _ _ _ _ (by omega)) ?_
            refine zV_icmp_eq hX (tgt := 96) dX8_passOn_80 (by decide) (fun c_80 => ?_) (fun c_80 => ?_)
            · have e9 : sPass1 o c2 w a r cn (M.1 (o + 1 + 9) a ||| (nI 1 <<< (nI w &&& 31))) k (sPassK o c2 w a r cn k M) = sTake o k w (M.1 (o + 1 + 9) a ||| (nI 1 <<< (nI w &&& 31))) r ((sPassK o c2 w a r cn k M).1 (o + 1 + 8) a) (sCnt o w (lSaidF (sPassK o c2 w a r cn k M) c2 w r k ((sPassK o c2 w a r cn k M).1 (o + 1 + 10) a) ((sPassK o c2 w a r cn k M).1 (o + 1 + 8) a) (cn w) 0) (sPassK o c2 w a r cn k M)) := by unfold sPass1; rw [if_neg (by simp [c_31]), hv9]; exact if_pos c_80
              refine zV_lload hX dX8_passOn_96 rfl ?_
              refine zV_lconst hX (v := 0) dX8_passOn_98 rfl ?_
              refine zV_lcmp hX dX8_passOn_99 ?_
              refine zV_if_lt hX (tgt := 120) dX8_passOn_100 (by decide) (fun c_100 => ?_) (fun c_100 => ?_)
              · refine zV_iincN hX (b := 1) dX8_passOn_120 rfl (by decide) ?_
                dsimp only [zst1, zst2, zclr, zc2]
                refine zV_goto hX (tgt := 15) dX8_passOn_123 (by decide) ?_
                have h9 := fun v1 v2 => ih (k + 1) v1 v2 (by omega) (by omega)
                simp only [show sPassK o c2 w a r cn (k + 1) M = sPass1 o c2 w a r cn (M.1 (o + 1 + 9) a ||| (nI 1 <<< (nI w &&& 31))) k (sPassK o c2 w a r cn k M) from rfl, e9] at h9
                first | exact absurd c_68 c_100 | exact absurd c_100 c_68 | exact h9 _ _
              · refine zV_aload_n hX dX8_passOn_103 rfl ?_
                refine zV_iload hX dX8_passOn_104 rfl ?_
                refine zV_iload_n hX dX8_passOn_106 rfl ?_
                refine zV_iload hX dX8_passOn_107 rfl ?_
                refine zV_iload hX dX8_passOn_109 rfl ?_
                refine zV_aload_n hX dX8_passOn_111 rfl ?_
                refine zV_geta hX dX8_passOn_112 zf_X8_21 hO.1 rfl ?_
                refine zV_iload_n hX dX8_passOn_115 rfl ?_
                refine zV_iald hX (v := (sPassK o c2 w a r cn k M).1 (o + 1 + 8) a) dX8_passOn_116 (hO.a 8 rfl) (rfl) ⟨by omega, by omega⟩ (sCnt_at _ _ _ _ (by omega)) ?_
                obtain ⟨kk, hkk, hkk2⟩ := hZ.2.2.2.2 hc7 k (by omega)
                refine zV_cV5p hX hR hl dX8_passOn_117 (zc_take l G _ o k w r kk (M.1 (o + 1 + 9) a ||| (nI 1 <<< (nI w &&& 31))) _ hO (by omega) (by rw [sCnt_at _ _ _ _ (by omega)]; exact hkk2) hkk) zt_X8_take rfl zml_X8_59 hO.1 ⟨by decide, by decide⟩ (Nat.le_of_ble_eq_true rfl) ?_
                dsimp only [Option.toList, List.cons_append, List.nil_append]
                refine zV_iincN hX (b := 1) dX8_passOn_120 rfl (by decide) ?_
                dsimp only [zst1, zst2, zclr, zc2]
                refine zV_goto hX (tgt := 15) dX8_passOn_123 (by decide) ?_
                have h9 := fun v1 v2 => ih (k + 1) v1 v2 (by omega) (by omega)
                simp only [show sPassK o c2 w a r cn (k + 1) M = sPass1 o c2 w a r cn (M.1 (o + 1 + 9) a ||| (nI 1 <<< (nI w &&& 31))) k (sPassK o c2 w a r cn k M) from rfl, e9] at h9
                first | exact absurd c_68 c_100 | exact absurd c_100 c_68 | exact h9 _ _
            · have e9 : sPass1 o c2 w a r cn (M.1 (o + 1 + 9) a ||| (nI 1 <<< (nI w &&& 31))) k (sPassK o c2 w a r cn k M) = zw (sCnt o w (lSaidF (sPassK o c2 w a r cn k M) c2 w r k ((sPassK o c2 w a r cn k M).1 (o + 1 + 10) a) ((sPassK o c2 w a r cn k M).1 (o + 1 + 8) a) (cn w) 0) (sPassK o c2 w a r cn k M)) o 2 ((sPassK o c2 w a r cn k M).1 o 2 + nI 1) := by unfold sPass1; rw [if_neg (by simp [c_31]), hv9]; exact if_neg c_80
              refine zV_aload_n hX dX8_passOn_83 rfl ?_
              refine zV_dup hX dX8_passOn_84 rfl ?_
              refine zV_geti hX (x := (sPassK o c2 w a r cn k M).1 o 2) dX8_passOn_85 zf_X8_79 hO.1 rfl (sCnt_at _ _ _ _ (by omega)) ?_
              refine zV_iconst hX (v := nI 1) dX8_passOn_88 (by decide) ?_
              refine zV_iadd hX dX8_passOn_89 ?_
              refine zV_puti hX dX8_passOn_90 zf_X8_79 zp_7_2 hO.1 rfl ?_
              refine zV_goto hX (tgt := 120) dX8_passOn_93 (by decide) ?_
              refine zV_iincN hX (b := 1) dX8_passOn_120 rfl (by decide) ?_
              dsimp only [zst1, zst2, zclr, zc2]
              refine zV_goto hX (tgt := 15) dX8_passOn_123 (by decide) ?_
              have h9 := fun v1 v2 => ih (k + 1) v1 v2 (by omega) (by omega)
              simp only [show sPassK o c2 w a r cn (k + 1) M = sPass1 o c2 w a r cn (M.1 (o + 1 + 9) a ||| (nI 1 <<< (nI w &&& 31))) k (sPassK o c2 w a r cn k M) from rfl, e9] at h9
              first | exact absurd c_68 c_100 | exact absurd c_100 c_68 | exact h9 _ _
  refine zV_aload_n hX dX8_passOn_0 rfl ?_
  refine zV_geta hX dX8_passOn_1 zf_X8_24 hO.1 rfl ?_
  refine zV_iload_n hX dX8_passOn_4 rfl ?_
  refine zV_iald hX dX8_passOn_5 (hO.a 9 rfl) (rfl) ⟨by omega, by omega⟩ (rfl) ?_
  refine zV_iconst hX (v := nI 1) dX8_passOn_6 (by decide) ?_
  refine zV_iload_n hX dX8_passOn_7 rfl ?_
  refine zV_ishl hX dX8_passOn_8 ?_
  refine zV_ior hX dX8_passOn_9 ?_
  refine zV_istore hX dX8_passOn_10 (by decide) ?_
  dsimp only [zst1, zst2, zclr, zc2]
  refine zV_iconst hX (v := nI 0) dX8_passOn_12 (by decide) ?_
  refine zV_istore hX dX8_passOn_13 (by decide) ?_
  dsimp only [zst1, zst2, zclr, zc2]
  exact L15 (n + 1) 0 _ _ (by omega) (by omega)
def sIn1 (o c2 n w r : Nat) (cn : Nat → Nat) (i : Nat) (M : zM) : zM := if M.1 (o + 1 + 11) (w * 7 + i) = nI (r - 1) then sPassK o c2 w (w * 7 + i) r cn n M else M
theorem sIn1_Z (o c2 n w r : Nat) (cn : Nat → Nat) (i : Nat) (M : zM) : sZ o M (sIn1 o c2 n w r cn i M) := by
  unfold sIn1
  split
  · exact sPassK_Z o c2 w _ r cn n M
  · exact sZ.rf
def sIn (o c2 n w r : Nat) (cn : Nat → Nat) (k : Nat) (M : zM) : zM := zfor (sIn1 o c2 n w r cn) k M
theorem sIn_Z (o c2 n w r : Nat) (cn : Nat → Nat) (k : Nat) (M : zM) : sZ o M (sIn o c2 n w r cn k M) := sZ.for (sIn1_Z o c2 n w r cn) k M
theorem sIn_row (o c2 n w r : Nat) (cn : Nat → Nat) (k : Nat) (M : zM) (hw : w < 32) : (sIn o c2 n w r cn k M).1 (o + 1 + 4) w = M.1 (o + 1 + 4) w := zfor_at (fun i M1 => by
  unfold sIn1
  split
  · exact sPassK_row o c2 w _ r cn n M1 hw
  · rfl) k M
def sR1 (o c2 n r : Nat) (cn : Nat → Nat) (w : Nat) (M : zM) : zM := sIn o c2 n w r cn (zN (M.1 (o + 1 + 4) w)) M
def sRd (o c2 n r : Nat) (cn : Nat → Nat) (k : Nat) (M : zM) : zM := zfor (sR1 o c2 n r cn) k M
theorem sRd_Z (o c2 n r : Nat) (cn : Nat → Nat) (k : Nat) (M : zM) : sZ o M (sRd o c2 n r cn k M) := sZ.for (fun i M => sIn_Z o c2 n i r cn _ M) k M
set_option maxHeartbeats 1000000 in
theorem zc_sayRound (l : Launch) (G : zG) (M : zM) (o c2 n r : Nat) (cn : Nat → Nat) (hO : zOb 7 o) (hn : M.1 o 7 = nI n) (hn7 : n ≤ 7) (hL : lyS c2 o) (hcn : lyN c2 M cn) (hr1 : 1 ≤ r) (hr3 : r ≤ 3) (hc7 : zk7 M (o + 1 + 4)) : zC l G 3 yX8_sayRound cX8_sayRound 6 (Option.none : Option Jvm.ClassFile.FieldType) [.ref o, .ref c2, .int (nI r)] M (zP none (sRd o c2 n r cn n M)) := by
  refine zC_of (by decide) (Nat.le_of_ble_eq_true rfl) (fun X Q hQ hX hl hR hr => ?_)
  refine zV_loc (L' := [.ref o, .ref c2, .int (nI r), .null, .null, .null]) rfl ?_
  have L2 : ∀ (f9 w : Nat) (v1 v2 : Value), n - w < f9 → w ≤ n → zV G X Q 6 0 0 2 [.ref o, .ref c2, .int (nI r), .int (nI w), v1, v2] [] (sRd o c2 n r cn w M) := by
    intro f9
    induction f9 with
    | zero => intro w v1 v2 hw1 hw2; exact absurd hw1 (Nat.not_lt_zero _)
    | succ f9 ih =>
      intro w v1 v2 hw1 hw2
      have L13 : w < n → ∀ (kw : Nat), kw ≤ 7 → (sRd o c2 n r cn w M).1 (o + 1 + 4) w = nI kw → ∀ (f9 j : Nat) (v2 : Value), kw - j < f9 → j ≤ kw → zV G X Q 6 0 0 13 [.ref o, .ref c2, .int (nI r), .int (nI w), .int (nI j), v2] [] (sIn o c2 n w r cn j (sRd o c2 n r cn w M)) := by
        intro hwn kw hkw hkw2
        intro f9
        induction f9 with
        | zero => intro j v2 hj1 hj2; exact absurd hj1 (Nat.not_lt_zero _)
        | succ f9 ih2 =>
          intro j v2 hj1 hj2
          have hZ := (sRd_Z o c2 n r cn w M).tr (sIn_Z o c2 n w r cn j (sRd o c2 n r cn w M))
          refine zV_iload hX dX8_sayRound_13 rfl ?_
          refine zV_aload_n hX dX8_sayRound_15 rfl ?_
          refine zV_geta hX dX8_sayRound_16 zf_X8_9 hO.1 rfl ?_
          refine zV_iload_n hX dX8_sayRound_19 rfl ?_
          refine zV_iald hX (v := nI kw) dX8_sayRound_20 (hO.a 4 rfl) (rfl) ⟨by omega, by omega⟩ (by rw [sIn_row _ _ _ _ _ _ _ _ (by omega)]; exact hkw2) ?_
          refine zV_icmp_geN hX (tgt := 61) dX8_sayRound_21 (by decide) ⟨by omega, by omega⟩ (fun c_21 => ?_) (fun c_21 => ?_)
          · refine zV_iincN hX (b := 1) dX8_sayRound_61 rfl (by decide) ?_
            dsimp only [zst1, zst2, zclr, zc2]
            refine zV_goto hX (tgt := 2) dX8_sayRound_64 (by decide) ?_
            have h9 := ih (w + 1) (.int (nI j)) v2 (by omega) (by omega)
            rw [show sRd o c2 n r cn (w + 1) M = sIn o c2 n w r cn (zN ((sRd o c2 n r cn w M).1 (o + 1 + 4) w)) (sRd o c2 n r cn w M) from rfl, hkw2, zN_nI (by omega), show kw = j by omega] at h9
            exact h9
          · refine zV_iload_n hX dX8_sayRound_24 rfl ?_
            refine zV_bipush hX (v := nI 7) dX8_sayRound_25 (by decide) ?_
            refine zV_imulN hX dX8_sayRound_27 ?_
            refine zV_iload hX dX8_sayRound_28 rfl ?_
            refine zV_iaddN hX dX8_sayRound_30 ?_
            refine zV_istore hX dX8_sayRound_31 (by decide) ?_
            dsimp only [zst1, zst2, zclr, zc2]
            refine zV_aload_n hX dX8_sayRound_33 rfl ?_
            refine zV_geta hX dX8_sayRound_34 zf_X8_30 hO.1 rfl ?_
            refine zV_iload hX dX8_sayRound_37 rfl ?_
            refine zV_iald hX dX8_sayRound_39 (hO.a 11 rfl) (rfl) ⟨by omega, by omega⟩ (rfl) ?_
            refine zV_iload_n hX dX8_sayRound_40 rfl ?_
            refine zV_iconst hX (v := nI 1) dX8_sayRound_41 (by decide) ?_
            refine zV_isubN hX dX8_sayRound_42 (by omega) ?_
            refine zV_icmp_ne hX (tgt := 55) dX8_sayRound_43 (by decide) (fun c_43 => ?_) (fun c_43 => ?_)
            · have e9 : sIn1 o c2 n w r cn j (sIn o c2 n w r cn j (sRd o c2 n r cn w M)) = (sIn o c2 n w r cn j (sRd o c2 n r cn w M)) := if_neg c_43
              refine zV_iincN hX (b := 1) dX8_sayRound_55 rfl (by decide) ?_
              dsimp only [zst1, zst2, zclr, zc2]
              refine zV_goto hX (tgt := 13) dX8_sayRound_58 (by decide) ?_
              have h9 := fun v => ih2 (j + 1) v (by omega) (by omega)
              simp only [show sIn o c2 n w r cn (j + 1) (sRd o c2 n r cn w M) = sIn1 o c2 n w r cn j (sIn o c2 n w r cn j (sRd o c2 n r cn w M)) from rfl, e9] at h9
              exact h9 _
            · have e9 : sIn1 o c2 n w r cn j (sIn o c2 n w r cn j (sRd o c2 n r cn w M)) = sPassK o c2 w (w * 7 + j) r cn n (sIn o c2 n w r cn j (sRd o c2 n r cn w M)) := if_pos c_43
              refine zV_aload_n hX dX8_sayRound_46 rfl ?_
              refine zV_aload_n hX dX8_sayRound_47 rfl ?_
              refine zV_iload_n hX dX8_sayRound_48 rfl ?_
              refine zV_iload hX dX8_sayRound_49 rfl ?_
              refine zV_iload_n hX dX8_sayRound_51 rfl ?_
              refine zV_cV4p hX hR hl dX8_sayRound_52 (zc_passOn l G _ o c2 n w (w * 7 + j) r cn hO (by rw [hZ.2.2.1, hn]) hn7 hL (fun m hm => by rw [hZ.1 _ _ (by have := hL.2 2 (by omega); omega)]; exact hcn m hm) (by omega) (by omega) (hZ.2.2.2.2 hc7)) zt_X8_passOn rfl zml_X8_85 hO.1 ⟨by decide, by decide⟩ (Nat.le_of_ble_eq_true rfl) ?_
              dsimp only [Option.toList, List.cons_append, List.nil_append]
              refine zV_iincN hX (b := 1) dX8_sayRound_55 rfl (by decide) ?_
              dsimp only [zst1, zst2, zclr, zc2]
              refine zV_goto hX (tgt := 13) dX8_sayRound_58 (by decide) ?_
              have h9 := fun v => ih2 (j + 1) v (by omega) (by omega)
              simp only [show sIn o c2 n w r cn (j + 1) (sRd o c2 n r cn w M) = sIn1 o c2 n w r cn j (sIn o c2 n w r cn j (sRd o c2 n r cn w M)) from rfl, e9] at h9
              exact h9 _
      refine zV_iload_n hX dX8_sayRound_2 rfl ?_
      refine zV_aload_n hX dX8_sayRound_3 rfl ?_
      refine zV_geti hX dX8_sayRound_4 zf_X8_37 hO.1 rfl (by rw [(sRd_Z o c2 n r cn w M).2.2.1, hn]) ?_
      refine zV_icmp_geN hX (tgt := 67) dX8_sayRound_7 (by decide) ⟨by omega, by omega⟩ (fun c_7 => ?_) (fun c_7 => ?_)
      · exact zV_retv hX hQ hr (⟨rfl, by rw [show w = n by omega]⟩) dX8_sayRound_67
      · refine zV_iconst hX (v := nI 0) dX8_sayRound_10 (by decide) ?_
        refine zV_istore hX dX8_sayRound_11 (by decide) ?_
        dsimp only [zst1, zst2, zclr, zc2]
        obtain ⟨kw, hkw, hkw2⟩ := (sRd_Z o c2 n r cn w M).2.2.2.2 hc7 w (by omega)
        exact L13 (by omega) kw hkw hkw2 (kw + 1) 0 _ (by omega) (by omega)
  refine zV_iconst hX (v := nI 0) dX8_sayRound_0 (by decide) ?_
  refine zV_istore_n hX dX8_sayRound_1 (by decide) ?_
  dsimp only [zst1, zst2, zclr, zc2]
  exact L2 (n + 1) 0 _ _ (by omega) (by omega)
def sDe (o g : Nat) (k : Nat) (M : zM) : zM := zfor (fun i M => zw M (o + 1 + 6) i (if M.1 (o + 1 + 4) i = nI 1 then M.1 (o + 1 + 8) (i * 7) else M.1 g 2)) k M
theorem sDe_at (o g : Nat) {a j : Nat} (ha : a ≠ o + 1 + 6) (k : Nat) (M : zM) : (sDe o g k M).1 a j = M.1 a j := zfor_at (fun i M => zw_ne (by omega)) k M
def sDecide (o g lc n c : Nat) (M : zM) : zM := zw (zw (sDe o g n M) (o + 1 + 6) c (M.1 (g + 1 + 4) c)) o 0 (nI (zunl ((zw (sDe o g n M) (o + 1 + 6) c (M.1 (g + 1 + 4) c)).1 (o + 1 + 6)) (M.1 lc 0) n))
set_option maxHeartbeats 1000000 in
theorem zc_sdecide (l : Launch) (G : zG) (M : zM) (o g lc n c : Nat) (hO : zOb 7 o) (hG : zOb 1 g) (hgo : g + 5 < o ∨ o + 12 < g) (hn : M.1 o 7 = nI n) (hn7 : n ≤ 7) (hgl : M.1 g 3 = nI lc) (hlc : lc < 2 ^ 31) (hL : lyS lc o) (hc7 : c < 7) : zC l G 3 yX8_decide cX8_decide 5 (Option.none : Option Jvm.ClassFile.FieldType) [.ref o, .ref g, .int (nI c)] M (zP none (sDecide o g lc n c M)) := by
  refine zC_of (by decide) (Nat.le_of_ble_eq_true rfl) (fun X Q hQ hX hl hR hr => ?_)
  refine zV_loc (L' := [.ref o, .ref g, .int (nI c), .null, .null]) rfl ?_
  have L2 : ∀ (f9 k : Nat) (v1 : Value), n - k < f9 → k ≤ n → zV G X Q 5 0 0 2 [.ref o, .ref g, .int (nI c), .int (nI k), v1] [] (sDe o g k M) := by
    intro f9
    induction f9 with
    | zero => intro k v1 hk1 hk2; exact absurd hk1 (Nat.not_lt_zero _)
    | succ f9 ih =>
      intro k v1 hk1 hk2
      refine zV_iload_n hX dX8_decide_2 rfl ?_
      refine zV_aload_n hX dX8_decide_3 rfl ?_
      refine zV_geti hX dX8_decide_4 zf_X8_37 hO.1 rfl (by rw [sDe_at o g (by omega), hn]) ?_
      refine zV_icmp_geN hX (tgt := 52) dX8_decide_7 (by decide) ⟨by omega, by omega⟩ (fun c_7 => ?_) (fun c_7 => ?_)
      · rw [show k = n by omega]
        refine zV_aload_n hX dX8_decide_52 rfl ?_
        refine zV_geta hX dX8_decide_53 zf_X8_18 hO.1 rfl ?_
        refine zV_iload_n hX dX8_decide_56 rfl ?_
        refine zV_aload_n hX dX8_decide_57 rfl ?_
        refine zV_geta hX dX8_decide_58 zf_X8_47 hG.1 rfl ?_
        refine zV_iload_n hX dX8_decide_61 rfl ?_
        refine zV_iald hX (v := M.1 (g + 1 + 4) c) dX8_decide_62 (hG.a 4 rfl) (rfl) ⟨by omega, by omega⟩ (sDe_at o g (by omega) _ _) ?_
        refine zV_iast hX dX8_decide_63 (hO.a 6 rfl) (rfl) ⟨by omega, by omega⟩ ?_
        refine zV_aload_n hX dX8_decide_64 rfl ?_
        refine zV_aload_n hX dX8_decide_65 rfl ?_
        refine zV_geta hX dX8_decide_66 zf_X8_18 hO.1 rfl ?_
        refine zV_aload_n hX dX8_decide_69 rfl ?_
        refine zV_geti hX dX8_decide_70 zf_X8_37 hO.1 rfl (by rw [zw_ne (by omega), sDe_at o g (by omega), hn]) ?_
        refine zV_aload_n hX dX8_decide_73 rfl ?_
        refine zV_getp hX dX8_decide_74 zf_X8_41 hG.1 rfl (by rw [zw_ne (by omega), sDe_at o g (by omega), hgl]) hlc ?_
        refine zV_geti hX (x := M.1 lc 0) dX8_decide_77 zf_X8_106 hL.1.1 rfl (by have := hL.2 0 (by omega); rw [zw_ne (by omega), sDe_at o g (by omega)]) ?_
        refine zV_cS3p hX hR hl dX8_decide_80 (zc_unlike l G _ (o + 1 + 6) 7 n _ (hO.a 6 rfl) (by decide) hn7) zt_X9_unlike rfl zml_X8_109 (by decide) (Nat.le_of_ble_eq_true rfl) ?_
        dsimp only [Option.toList, List.cons_append, List.nil_append]
        refine zV_puti hX dX8_decide_83 zf_X8_113 zp_7_0 hO.1 rfl ?_
        exact zV_retv hX hQ hr (⟨rfl, rfl⟩) dX8_decide_86
      · refine zV_aload_n hX dX8_decide_10 rfl ?_
        refine zV_geta hX dX8_decide_11 zf_X8_21 hO.1 rfl ?_
        refine zV_iload_n hX dX8_decide_14 rfl ?_
        refine zV_bipush hX (v := nI 7) dX8_decide_15 (by decide) ?_
        refine zV_imulN hX dX8_decide_17 ?_
        refine zV_iald hX dX8_decide_18 (hO.a 8 rfl) (rfl) ⟨by omega, by omega⟩ (rfl) ?_
        refine zV_istore hX dX8_decide_19 (by decide) ?_
        dsimp only [zst1, zst2, zclr, zc2]
        refine zV_aload_n hX dX8_decide_21 rfl ?_
        refine zV_geta hX dX8_decide_22 zf_X8_18 hO.1 rfl ?_
        refine zV_iload_n hX dX8_decide_25 rfl ?_
        refine zV_aload_n hX dX8_decide_26 rfl ?_
        refine zV_geta hX dX8_decide_27 zf_X8_9 hO.1 rfl ?_
        refine zV_iload_n hX dX8_decide_30 rfl ?_
        refine zV_iald hX dX8_decide_31 (hO.a 4 rfl) (rfl) ⟨by omega, by omega⟩ (rfl) ?_
        refine zV_iconst hX (v := nI 1) dX8_decide_32 (by decide) ?_
        refine zV_icmp_ne hX (tgt := 41) dX8_decide_33 (by decide) (fun c_33 => ?_) (fun c_33 => ?_)
        · have e9 : (if (sDe o g k M).1 (o + 1 + 4) k = nI 1 then (sDe o g k M).1 (o + 1 + 8) (k * 7) else (sDe o g k M).1 g 2) = (sDe o g k M).1 g 2 := if_neg c_33
          refine zV_aload_n hX dX8_decide_41 rfl ?_
          refine zV_geti hX dX8_decide_42 zf_X8_103 hG.1 rfl rfl ?_
          refine zV_iast hX dX8_decide_45 (hO.a 6 rfl) (rfl) ⟨by omega, by omega⟩ ?_
          refine zV_iincN hX (b := 1) dX8_decide_46 rfl (by decide) ?_
          dsimp only [zst1, zst2, zclr, zc2]
          refine zV_goto hX (tgt := 2) dX8_decide_49 (by decide) ?_
          have h9 := fun v => ih (k + 1) v (by omega) (by omega)
          simp only [show sDe o g (k + 1) M = zw (sDe o g k M) (o + 1 + 6) k (if (sDe o g k M).1 (o + 1 + 4) k = nI 1 then (sDe o g k M).1 (o + 1 + 8) (k * 7) else (sDe o g k M).1 g 2) from rfl, e9] at h9
          exact h9 _
        · have e9 : (if (sDe o g k M).1 (o + 1 + 4) k = nI 1 then (sDe o g k M).1 (o + 1 + 8) (k * 7) else (sDe o g k M).1 g 2) = (sDe o g k M).1 (o + 1 + 8) (k * 7) := if_pos c_33
          refine zV_iload hX dX8_decide_36 rfl ?_
          refine zV_goto hX (tgt := 45) dX8_decide_38 (by decide) ?_
          refine zV_iast hX dX8_decide_45 (hO.a 6 rfl) (rfl) ⟨by omega, by omega⟩ ?_
          refine zV_iincN hX (b := 1) dX8_decide_46 rfl (by decide) ?_
          dsimp only [zst1, zst2, zclr, zc2]
          refine zV_goto hX (tgt := 2) dX8_decide_49 (by decide) ?_
          have h9 := fun v => ih (k + 1) v (by omega) (by omega)
          simp only [show sDe o g (k + 1) M = zw (sDe o g k M) (o + 1 + 6) k (if (sDe o g k M).1 (o + 1 + 4) k = nI 1 then (sDe o g k M).1 (o + 1 + 8) (k * 7) else (sDe o g k M).1 g 2) from rfl, e9] at h9
          exact h9 _
  refine zV_iconst hX (v := nI 0) dX8_decide_0 (by decide) ?_
  refine zV_istore_n hX dX8_decide_1 (by decide) ?_
  dsimp only [zst1, zst2, zclr, zc2]
  exact L2 (n + 1) 0 _ (by omega) (by omega)
