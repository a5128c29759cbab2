-- what the model's face throws
theorem mBad_2 {w r : Int32} {M : zM} (hw : ¬ w = 0) (h : M.1 300 0 = 0) : (!decide ((mBad true w r M).1 300 0 = 0)) = true := mBad_1 hw
theorem mBad_3 {w r : Int32} {M : zM} (h : M.1 300 0 = nI 0) : (!decide ((mBad false w r M).1 300 0 = 0)) = false := by
  rw [mBad_f, h]; rfl
theorem zc_badT0 (l : Launch) (G : zG) (M : zM) (w : Int32) (_h : M.1 300 0 = nI 0) (hw : ¬ w = 0) : zC l G 0 yX11_bad cX11_bad 4 (Option.some Jvm.ClassFile.FieldType.boolean) [.ref (300 : Nat), .int (nI 1), .int w, .int (nI 0)] M (zP (some (.int (zb true))) (mBad true w (nI 0) M)) := by
  have h := zc_bad0 l G M true w
  rw [mBad_1 hw] at h
  exact h
theorem zc_badF0 (l : Launch) (G : zG) (M : zM) (w : Int32) (_h : M.1 300 0 = nI 0) : zC l G 0 yX11_bad cX11_bad 4 (Option.some Jvm.ClassFile.FieldType.boolean) [.ref (300 : Nat), .int (nI 0), .int w, .int (nI 0)] M (zP (some (.int (zb false))) M) := by
  have h := zc_bad0 l G M false w
  rw [mBad_3 _h, mBad_f] at h
  exact h
theorem zc_badT1 (l : Launch) (G : zG) (M : zM) (w : Int32) (_h : M.1 300 0 = nI 0) (hw : ¬ w = 0) : zC l G 0 yX11_bad cX11_bad 4 (Option.some Jvm.ClassFile.FieldType.boolean) [.ref (300 : Nat), .int (nI 1), .int w, .int (nI 1)] M (zP (some (.int (zb true))) (mBad true w (nI 1) M)) := by
  have h := zc_bad1 l G M true w
  rw [mBad_1 hw] at h
  exact h
theorem zc_badF1 (l : Launch) (G : zG) (M : zM) (w : Int32) (_h : M.1 300 0 = nI 0) : zC l G 0 yX11_bad cX11_bad 4 (Option.some Jvm.ClassFile.FieldType.boolean) [.ref (300 : Nat), .int (nI 0), .int w, .int (nI 1)] M (zP (some (.int (zb false))) M) := by
  have h := zc_bad1 l G M false w
  rw [mBad_3 _h, mBad_f] at h
  exact h
/-- memory once a call threw -/
def mTw (w r : Int32) (M : zM) : zM := mBad true w r (zw M 300 0 (nI 0))
abbrev m0 (M : zM) : zM := zw M 300 0 (nI 0)
def mGv (k : Nat) (M : zM) : zM := zfor (fun i M => zw M 313 i (nI 0)) k M
def mGrp (a b : Int32) (M : zM) : zM := zw (zw (zw (mEmp 0 (mGv 7 (zw (zw (zw (m0 M) 300 9 a) 300 10 b) 300 11 (nI 0)))) 300 17 (-1)) 300 18 (nI 0)) 300 19 (nI 0)
theorem mGv_k (k : Nat) (M : zM) : zKf (fun a _ => a = 313) M (mGv k M) := zKf.for k M (fun i M _ => zKf.rf.w rfl)
theorem mGv_c {k a j : Nat} {M : zM} (h : a ≠ 313) : (mGv k M).1 a j = M.1 a j := (mGv_k k M).1 a j h
theorem mGrp_10 {a b : Int32} {M : zM} : (mGrp a b M).1 300 10 = b := by
  unfold mGrp
  rw [zw_ne (by omega), zw_ne (by omega), zw_ne (by omega), mEmp_c (by decide), mGv_c (by decide), zw_ne (by omega), zw_same]
set_option maxHeartbeats 1000000 in
theorem zc_mgroup (l : Launch) (G : zG) (M : zM) (a b : Int32) (ha : mIn a (nI 3) (nI 7) = true) (hb : mIn b (nI 0) (nI 2) = true) : zC l G 2 yX11_group cX11_group 4 (Option.some Jvm.ClassFile.FieldType.int) [.ref (300 : Nat), .int a, .int b] M (zP (some (.int (b + nI 1))) (mGrp a b M)) := by
  refine zC_of (by decide) (Nat.le_of_ble_eq_true rfl) (fun X Q hQ hX hl hR hr => ?_)
  refine zV_loc (L' := [.ref (300 : Nat), .int a, .int b, .null]) rfl ?_
  have L57 : ∀ (f9 k : Nat), 7 - k < f9 → k ≤ 7 → zV G X Q 4 0 0 57 [.ref (300 : Nat), .int a, .int b, .int (nI k)] [] (mGv k (zw (zw (zw (m0 M) 300 9 a) 300 10 b) 300 11 (nI 0))) := by
    intro f9
    induction f9 with
    | zero => intro k hk1 hk2; exact absurd hk1 (Nat.not_lt_zero _)
    | succ f9 ih =>
      intro k hk1 hk2
      refine zV_iload_n hX dX11_group_57 rfl ?_
      refine zV_bipush hX (v := nI 7) dX11_group_58 (by decide) ?_
      refine zV_icmp_geN hX (tgt := 76) dX11_group_60 (by decide) ⟨by omega, by omega⟩ (fun c_60 => ?_) (fun c_60 => ?_)
      · have hk7 : k = 7 := by omega
        subst hk7
        refine zV_aload_n hX dX11_group_76 rfl ?_
        refine zV_iconst hX (v := nI 0) dX11_group_77 (by decide) ?_
        refine zV_cV1p hX hR hl dX11_group_78 (zc_empties l G _ 0 (by decide)) zt_X11_empties rfl zml_X11_145 zo300.1 ⟨by decide, by decide⟩ (Nat.le_of_ble_eq_true rfl) ?_
        dsimp only [Option.toList, List.cons_append, List.nil_append]
        refine zV_aload_n hX dX11_group_81 rfl ?_
        refine zV_iconst hX (v := (-1)) dX11_group_82 (by decide) ?_
        refine zV_puti hX dX11_group_83 zf_X11_39 zp_9_17 zo300.1 rfl ?_
        refine zV_aload_n hX dX11_group_86 rfl ?_
        refine zV_iconst hX (v := nI 0) dX11_group_87 (by decide) ?_
        refine zV_puti hX dX11_group_88 zf_X11_173 zp_9_18 zo300.1 rfl ?_
        refine zV_aload_n hX dX11_group_91 rfl ?_
        refine zV_iconst hX (v := nI 0) dX11_group_92 (by decide) ?_
        refine zV_puti hX dX11_group_93 zf_X11_176 zp_9_19 zo300.1 rfl ?_
        refine zV_mem (show _ = mGrp a b M from rfl) ?_
        refine zV_aload_n hX dX11_group_96 rfl ?_
        refine zV_geti hX (x := b) dX11_group_97 zf_X11_23 zo300.1 rfl (mGrp_10) ?_
        refine zV_iconst hX (v := nI 1) dX11_group_100 (by decide) ?_
        refine zV_iadd hX dX11_group_101 ?_
        exact zV_reti hX hQ hr (⟨rfl, rfl⟩) dX11_group_102
      · refine zV_aload_n hX dX11_group_63 rfl ?_
        refine zV_geta hX dX11_group_64 zf_X11_26 zo300.1 rfl ?_
        refine zV_iload_n hX dX11_group_67 rfl ?_
        refine zV_iconst hX (v := nI 0) dX11_group_68 (by decide) ?_
        refine zV_iast hX dX11_group_69 (zo300.a 12 rfl) (rfl) ⟨by omega, by omega⟩ ?_
        refine zV_iincN hX (b := 1) dX11_group_70 rfl (by decide) ?_
        dsimp only [zst1, zst2, zclr, zc2]
        refine zV_goto hX (tgt := 57) dX11_group_73 (by decide) ?_
        exact ih (k + 1) (by omega) (by omega)
  refine zV_aload_n hX dX11_group_0 rfl ?_
  refine zV_iconst hX (v := nI 0) dX11_group_1 (by decide) ?_
  refine zV_puti hX dX11_group_2 zf_X11_149 zp_9_0 zo300.1 rfl ?_
  refine zV_aload_n hX dX11_group_5 rfl ?_
  refine zV_iload_n hX dX11_group_6 rfl ?_
  refine zV_iconst hX (v := nI 3) dX11_group_7 (by decide) ?_
  refine zV_bipush hX (v := nI 7) dX11_group_8 (by decide) ?_
  refine zV_cS3p hX hR hl dX11_group_10 (zc_min l G _ _ _ _) zt_X11_in rfl zml_X11_162 (by decide) (Nat.le_of_ble_eq_true rfl) ?_
  dsimp only [Option.toList, List.cons_append, List.nil_append]
  refine zV_topi (zb true) (by rw [ha]) ?_
  refine zV_if_eqB hX (tgt := 25) dX11_group_13 (by decide) (fun c_13 => absurd c_13 (by decide)) (fun c_13 => ?_)
  refine zV_iload_n hX dX11_group_16 rfl ?_
  refine zV_iconst hX (v := nI 0) dX11_group_17 (by decide) ?_
  refine zV_iconst hX (v := nI 2) dX11_group_18 (by decide) ?_
  refine zV_cS3p hX hR hl dX11_group_19 (zc_min l G _ _ _ _) zt_X11_in rfl zml_X11_162 (by decide) (Nat.le_of_ble_eq_true rfl) ?_
  dsimp only [Option.toList, List.cons_append, List.nil_append]
  refine zV_topi (zb true) (by rw [hb]) ?_
  refine zV_if_neB hX (tgt := 29) dX11_group_22 (by decide) (fun c_22 => ?_) (fun c_22 => absurd c_22 (by decide))
  refine zV_iconst hX (v := nI 0) dX11_group_29 (by decide) ?_
  refine zV_iconst hX (v := nI 1) dX11_group_30 (by decide) ?_
  refine zV_iconst hX (v := nI 1) dX11_group_31 (by decide) ?_
  refine zV_cV3p hX hR hl dX11_group_32 (zc_badF1 l G _ _ zw_same) zt_X11_bad rfl zml_X11_166 zo300.1 ⟨by decide, by decide⟩ (Nat.le_of_ble_eq_true rfl) ?_
  dsimp only [Option.toList, List.cons_append, List.nil_append]
  refine zV_if_eqB hX (tgt := 40) dX11_group_35 (by decide) (fun c_35 => ?_) (fun c_35 => absurd c_35 (by decide))
  refine zV_aload_n hX dX11_group_40 rfl ?_
  refine zV_iload_n hX dX11_group_41 rfl ?_
  refine zV_puti hX dX11_group_42 zf_X11_20 zp_9_9 zo300.1 rfl ?_
  refine zV_aload_n hX dX11_group_45 rfl ?_
  refine zV_iload_n hX dX11_group_46 rfl ?_
  refine zV_puti hX dX11_group_47 zf_X11_23 zp_9_10 zo300.1 rfl ?_
  refine zV_aload_n hX dX11_group_50 rfl ?_
  refine zV_iconst hX (v := nI 0) dX11_group_51 (by decide) ?_
  refine zV_puti hX dX11_group_52 zf_X11_170 zp_9_11 zo300.1 rfl ?_
  refine zV_iconst hX (v := nI 0) dX11_group_55 (by decide) ?_
  refine zV_istore_n hX dX11_group_56 (by decide) ?_
  dsimp only [zst1, zst2, zclr, zc2]
  exact L57 8 0 (by omega) (by omega)
set_option maxHeartbeats 1000000 in
theorem zc_mgroupA (l : Launch) (G : zG) (M : zM) (a b : Int32) (ha : mIn a (nI 3) (nI 7) = false) : zC l G 2 yX11_group cX11_group 4 (Option.some Jvm.ClassFile.FieldType.int) [.ref (300 : Nat), .int a, .int b] M (zP (some (.int (nI 0))) (mTw (nI 1) (nI 1) M)) := by
  refine zC_of (by decide) (Nat.le_of_ble_eq_true rfl) (fun X Q hQ hX hl hR hr => ?_)
  refine zV_loc (L' := [.ref (300 : Nat), .int a, .int b, .null]) rfl ?_
  refine zV_aload_n hX dX11_group_0 rfl ?_
  refine zV_iconst hX (v := nI 0) dX11_group_1 (by decide) ?_
  refine zV_puti hX dX11_group_2 zf_X11_149 zp_9_0 zo300.1 rfl ?_
  refine zV_aload_n hX dX11_group_5 rfl ?_
  refine zV_iload_n hX dX11_group_6 rfl ?_
  refine zV_iconst hX (v := nI 3) dX11_group_7 (by decide) ?_
  refine zV_bipush hX (v := nI 7) dX11_group_8 (by decide) ?_
  refine zV_cS3p hX hR hl dX11_group_10 (zc_min l G _ _ _ _) zt_X11_in rfl zml_X11_162 (by decide) (Nat.le_of_ble_eq_true rfl) ?_
  dsimp only [Option.toList, List.cons_append, List.nil_append]
  refine zV_topi (zb false) (by rw [ha]) ?_
  refine zV_if_eqB hX (tgt := 25) dX11_group_13 (by decide) (fun c_13 => ?_) (fun c_13 => absurd c_13 (by decide))
  refine zV_iconst hX (v := nI 1) dX11_group_25 (by decide) ?_
  refine zV_goto hX (tgt := 30) dX11_group_26 (by decide) ?_
  refine zV_iconst hX (v := nI 1) dX11_group_30 (by decide) ?_
  refine zV_iconst hX (v := nI 1) dX11_group_31 (by decide) ?_
  refine zV_cV3p hX hR hl dX11_group_32 (zc_badT1 l G _ _ zw_same (by decide)) zt_X11_bad rfl zml_X11_166 zo300.1 ⟨by decide, by decide⟩ (Nat.le_of_ble_eq_true rfl) ?_
  dsimp only [Option.toList, List.cons_append, List.nil_append]
  refine zV_if_eqB hX (tgt := 40) dX11_group_35 (by decide) (fun c_35 => absurd c_35 (by decide)) (fun c_35 => ?_)
  refine zV_iconst hX (v := nI 0) dX11_group_38 (by decide) ?_
  exact zV_reti hX hQ hr (⟨rfl, rfl⟩) dX11_group_39
set_option maxHeartbeats 1000000 in
theorem zc_mgroupB (l : Launch) (G : zG) (M : zM) (a b : Int32) (ha : mIn a (nI 3) (nI 7) = true) (hb : mIn b (nI 0) (nI 2) = false) : zC l G 2 yX11_group cX11_group 4 (Option.some Jvm.ClassFile.FieldType.int) [.ref (300 : Nat), .int a, .int b] M (zP (some (.int (nI 0))) (mTw (nI 1) (nI 1) M)) := by
  refine zC_of (by decide) (Nat.le_of_ble_eq_true rfl) (fun X Q hQ hX hl hR hr => ?_)
  refine zV_loc (L' := [.ref (300 : Nat), .int a, .int b, .null]) rfl ?_
  refine zV_aload_n hX dX11_group_0 rfl ?_
  refine zV_iconst hX (v := nI 0) dX11_group_1 (by decide) ?_
  refine zV_puti hX dX11_group_2 zf_X11_149 zp_9_0 zo300.1 rfl ?_
  refine zV_aload_n hX dX11_group_5 rfl ?_
  refine zV_iload_n hX dX11_group_6 rfl ?_
  refine zV_iconst hX (v := nI 3) dX11_group_7 (by decide) ?_
  refine zV_bipush hX (v := nI 7) dX11_group_8 (by decide) ?_
  refine zV_cS3p hX hR hl dX11_group_10 (zc_min l G _ _ _ _) zt_X11_in rfl zml_X11_162 (by decide) (Nat.le_of_ble_eq_true rfl) ?_
  dsimp only [Option.toList, List.cons_append, List.nil_append]
  refine zV_topi (zb true) (by rw [ha]) ?_
  refine zV_if_eqB hX (tgt := 25) dX11_group_13 (by decide) (fun c_13 => absurd c_13 (by decide)) (fun c_13 => ?_)
  refine zV_iload_n hX dX11_group_16 rfl ?_
  refine zV_iconst hX (v := nI 0) dX11_group_17 (by decide) ?_
  refine zV_iconst hX (v := nI 2) dX11_group_18 (by decide) ?_
  refine zV_cS3p hX hR hl dX11_group_19 (zc_min l G _ _ _ _) zt_X11_in rfl zml_X11_162 (by decide) (Nat.le_of_ble_eq_true rfl) ?_
  dsimp only [Option.toList, List.cons_append, List.nil_append]
  refine zV_topi (zb false) (by rw [hb]) ?_
  refine zV_if_neB hX (tgt := 29) dX11_group_22 (by decide) (fun c_22 => absurd c_22 (by decide)) (fun c_22 => ?_)
  refine zV_iconst hX (v := nI 1) dX11_group_25 (by decide) ?_
  refine zV_goto hX (tgt := 30) dX11_group_26 (by decide) ?_
  refine zV_iconst hX (v := nI 1) dX11_group_30 (by decide) ?_
  refine zV_iconst hX (v := nI 1) dX11_group_31 (by decide) ?_
  refine zV_cV3p hX hR hl dX11_group_32 (zc_badT1 l G _ _ zw_same (by decide)) zt_X11_bad rfl zml_X11_166 zo300.1 ⟨by decide, by decide⟩ (Nat.le_of_ble_eq_true rfl) ?_
  dsimp only [Option.toList, List.cons_append, List.nil_append]
  refine zV_if_eqB hX (tgt := 40) dX11_group_35 (by decide) (fun c_35 => absurd c_35 (by decide)) (fun c_35 => ?_)
  refine zV_iconst hX (v := nI 0) dX11_group_38 (by decide) ?_
  exact zV_reti hX hQ hr (⟨rfl, rfl⟩) dX11_group_39
theorem mIn_A {a : Int32} (h : mIn a (-99999) (nI 99999) = true) : ∃ A : Nat, a.toInt.natAbs = A ∧ A ≤ 99999 := by
  unfold mIn at h
  rw [Bool.and_eq_true, decide_eq_true_eq, decide_eq_true_eq] at h
  have h1 := Int32.le_iff_toInt_le.mp h.1
  have h2 := Int32.le_iff_toInt_le.mp h.2
  rw [show (-99999 : Int32).toInt = -99999 by decide] at h1
  rw [show (nI 99999).toInt = 99999 by decide] at h2
  exact ⟨_, rfl, by omega⟩
theorem mIn_B {b : Int32} (h : mIn b (nI 1) (nI 999) = true) : ∃ B : Nat, b.toInt = (B : Int) ∧ 1 ≤ B ∧ B ≤ 999 := by
  unfold mIn at h
  rw [Bool.and_eq_true, decide_eq_true_eq, decide_eq_true_eq] at h
  have h1 := Int32.le_iff_toInt_le.mp h.1
  have h2 := Int32.le_iff_toInt_le.mp h.2
  rw [show (nI 1).toInt = 1 by decide] at h1
  rw [show (nI 999).toInt = 999 by decide] at h2
  exact ⟨b.toInt.toNat, by omega, by omega, by omega⟩
set_option maxHeartbeats 1000000 in
theorem zc_mvalue (l : Launch) (G : zG) (M : zM) (n j : Nat) (a b : Int32) (hn : M.1 300 9 = nI n) (hn7 : n ≤ 7) (h0 : 1 ≤ n) (hj : j < n) (ha : mIn a (-99999) (nI 99999) = true) (hb : mIn b (nI 1) (nI 999) = true) : zC l G 3 yX11_value cX11_value 5 (Option.some Jvm.ClassFile.FieldType.int) [.ref (300 : Nat), .int (nI j), .int a, .int b] M (zP (some (.int (M.1 313 j))) (zw (m0 M) 313 j (frac a b))) := by
  refine zC_of (by decide) (Nat.le_of_ble_eq_true rfl) (fun X Q hQ hX hl hR hr => ?_)
  refine zV_loc (L' := [.ref (300 : Nat), .int (nI j), .int a, .int b, .null]) rfl ?_
  obtain ⟨A, hA, hA2⟩ := mIn_A ha
  obtain ⟨B, hB1, hB2, hB3⟩ := mIn_B hb
  refine zV_aload_n hX dX11_value_0 rfl ?_
  refine zV_iconst hX (v := nI 0) dX11_value_1 (by decide) ?_
  refine zV_puti hX dX11_value_2 zf_X11_149 zp_9_0 zo300.1 rfl ?_
  refine zV_aload_n hX dX11_value_5 rfl ?_
  refine zV_aload_n hX dX11_value_6 rfl ?_
  refine zV_iload_n hX dX11_value_7 rfl ?_
  refine zV_cV1p hX hR hl dX11_value_8 (zc_isMember l G _ n _ ((zw_ne (by omega)).trans hn) hn7 h0) zt_X11_isMember rfl zml_X11_179 zo300.1 ⟨by decide, by decide⟩ (Nat.le_of_ble_eq_true rfl) ?_
  dsimp only [Option.toList, List.cons_append, List.nil_append]
  refine zV_topi (zb true) (by rw [zmem_nI (by omega) (by omega), decide_eq_true hj]) ?_
  refine zV_if_neB hX (tgt := 18) dX11_value_11 (by decide) (fun c_11 => ?_) (fun c_11 => absurd c_11 (by decide))
  refine zV_iconst hX (v := nI 0) dX11_value_18 (by decide) ?_
  refine zV_iconst hX (v := nI 1) dX11_value_19 (by decide) ?_
  refine zV_iconst hX (v := nI 0) dX11_value_20 (by decide) ?_
  refine zV_cV3p hX hR hl dX11_value_21 (zc_badF0 l G _ _ zw_same) zt_X11_bad rfl zml_X11_166 zo300.1 ⟨by decide, by decide⟩ (Nat.le_of_ble_eq_true rfl) ?_
  dsimp only [Option.toList, List.cons_append, List.nil_append]
  refine zV_if_neB hX (tgt := 63) dX11_value_24 (by decide) (fun c_24 => absurd c_24 (by decide)) (fun c_24 => ?_)
  refine zV_aload_n hX dX11_value_27 rfl ?_
  refine zV_iload_n hX dX11_value_28 rfl ?_
  refine zV_ldc hX dX11_value_29 zkc_X11_183 ?_
  refine zV_ldc hX dX11_value_31 zkc_X11_184 ?_
  refine zV_topi (nI 99999) (by decide) ?_
  refine zV_cS3p hX hR hl dX11_value_33 (zc_min l G _ _ _ _) zt_X11_in rfl zml_X11_162 (by decide) (Nat.le_of_ble_eq_true rfl) ?_
  dsimp only [Option.toList, List.cons_append, List.nil_append]
  refine zV_topi (zb true) (by rw [ha]) ?_
  refine zV_if_eqB hX (tgt := 50) dX11_value_36 (by decide) (fun c_36 => absurd c_36 (by decide)) (fun c_36 => ?_)
  refine zV_iload_n hX dX11_value_39 rfl ?_
  refine zV_iconst hX (v := nI 1) dX11_value_40 (by decide) ?_
  refine zV_sipush hX (v := nI 999) dX11_value_41 (by decide) ?_
  refine zV_cS3p hX hR hl dX11_value_44 (zc_min l G _ _ _ _) zt_X11_in rfl zml_X11_162 (by decide) (Nat.le_of_ble_eq_true rfl) ?_
  dsimp only [Option.toList, List.cons_append, List.nil_append]
  refine zV_topi (zb true) (by rw [hb]) ?_
  refine zV_if_neB hX (tgt := 54) dX11_value_47 (by decide) (fun c_47 => ?_) (fun c_47 => absurd c_47 (by decide))
  refine zV_iconst hX (v := nI 0) dX11_value_54 (by decide) ?_
  refine zV_iconst hX (v := nI 2) dX11_value_55 (by decide) ?_
  refine zV_iconst hX (v := nI 1) dX11_value_56 (by decide) ?_
  refine zV_cV3p hX hR hl dX11_value_57 (zc_badF1 l G _ _ zw_same) zt_X11_bad rfl zml_X11_166 zo300.1 ⟨by decide, by decide⟩ (Nat.le_of_ble_eq_true rfl) ?_
  dsimp only [Option.toList, List.cons_append, List.nil_append]
  refine zV_if_eqB hX (tgt := 65) dX11_value_60 (by decide) (fun c_60 => ?_) (fun c_60 => absurd c_60 (by decide))
  refine zV_aload_n hX dX11_value_65 rfl ?_
  refine zV_geta hX dX11_value_66 zf_X11_26 zo300.1 rfl ?_
  refine zV_iload_n hX dX11_value_69 rfl ?_
  refine zV_iald hX (v := M.1 313 j) dX11_value_70 (zo300.a 12 rfl) (rfl) ⟨by omega, by omega⟩ (zw_ne (by omega)) ?_
  refine zV_istore hX dX11_value_71 (by decide) ?_
  dsimp only [zst1, zst2, zclr, zc2]
  refine zV_aload_n hX dX11_value_73 rfl ?_
  refine zV_geta hX dX11_value_74 zf_X11_26 zo300.1 rfl ?_
  refine zV_iload_n hX dX11_value_77 rfl ?_
  refine zV_iload_n hX dX11_value_78 rfl ?_
  refine zV_iload_n hX dX11_value_79 rfl ?_
  refine zV_cS2p hX hR hl dX11_value_80 (zc_mbits l G _ _ _ A B hA hA2 hB1 hB2 hB3) zt_X11_bits rfl zml_X11_185 (by decide) (Nat.le_of_ble_eq_true rfl) ?_
  dsimp only [Option.toList, List.cons_append, List.nil_append]
  refine zV_iast hX dX11_value_83 (zo300.a 12 rfl) (rfl) ⟨by omega, by omega⟩ ?_
  refine zV_iload hX dX11_value_84 rfl ?_
  exact zV_reti hX hQ hr (⟨rfl, rfl⟩) dX11_value_86
set_option maxHeartbeats 1000000 in
theorem zc_mvalueX (l : Launch) (G : zG) (M : zM) (n : Nat) (x a b : Int32) (hn : M.1 300 9 = nI n) (hn7 : n ≤ 7) (h0 : 1 ≤ n) (hx : zmem x n = false) : zC l G 3 yX11_value cX11_value 5 (Option.some Jvm.ClassFile.FieldType.int) [.ref (300 : Nat), .int x, .int a, .int b] M (zP (some (.int (nI 0))) (mTw (nI 1) (nI 0) M)) := by
  refine zC_of (by decide) (Nat.le_of_ble_eq_true rfl) (fun X Q hQ hX hl hR hr => ?_)
  refine zV_loc (L' := [.ref (300 : Nat), .int x, .int a, .int b, .null]) rfl ?_
  refine zV_aload_n hX dX11_value_0 rfl ?_
  refine zV_iconst hX (v := nI 0) dX11_value_1 (by decide) ?_
  refine zV_puti hX dX11_value_2 zf_X11_149 zp_9_0 zo300.1 rfl ?_
  refine zV_aload_n hX dX11_value_5 rfl ?_
  refine zV_aload_n hX dX11_value_6 rfl ?_
  refine zV_iload_n hX dX11_value_7 rfl ?_
  refine zV_cV1p hX hR hl dX11_value_8 (zc_isMember l G _ n _ ((zw_ne (by omega)).trans hn) hn7 h0) zt_X11_isMember rfl zml_X11_179 zo300.1 ⟨by decide, by decide⟩ (Nat.le_of_ble_eq_true rfl) ?_
  dsimp only [Option.toList, List.cons_append, List.nil_append]
  refine zV_topi (zb false) (by rw [hx]) ?_
  refine zV_if_neB hX (tgt := 18) dX11_value_11 (by decide) (fun c_11 => absurd c_11 (by decide)) (fun c_11 => ?_)
  refine zV_iconst hX (v := nI 1) dX11_value_14 (by decide) ?_
  refine zV_goto hX (tgt := 19) dX11_value_15 (by decide) ?_
  refine zV_iconst hX (v := nI 1) dX11_value_19 (by decide) ?_
  refine zV_iconst hX (v := nI 0) dX11_value_20 (by decide) ?_
  refine zV_cV3p hX hR hl dX11_value_21 (zc_badT0 l G _ _ zw_same (by decide)) zt_X11_bad rfl zml_X11_166 zo300.1 ⟨by decide, by decide⟩ (Nat.le_of_ble_eq_true rfl) ?_
  dsimp only [Option.toList, List.cons_append, List.nil_append]
  refine zV_if_neB hX (tgt := 63) dX11_value_24 (by decide) (fun c_24 => ?_) (fun c_24 => absurd c_24 (by decide))
  refine zV_iconst hX (v := nI 0) dX11_value_63 (by decide) ?_
  exact zV_reti hX hQ hr (⟨rfl, rfl⟩) dX11_value_64
set_option maxHeartbeats 1000000 in
theorem zc_mvalueA (l : Launch) (G : zG) (M : zM) (n j : Nat) (a b : Int32) (hn : M.1 300 9 = nI n) (hn7 : n ≤ 7) (h0 : 1 ≤ n) (hj : j < n) (ha : mIn a (-99999) (nI 99999) = false) : zC l G 3 yX11_value cX11_value 5 (Option.some Jvm.ClassFile.FieldType.int) [.ref (300 : Nat), .int (nI j), .int a, .int b] M (zP (some (.int (nI 0))) (mTw (nI 2) (nI 1) M)) := by
  refine zC_of (by decide) (Nat.le_of_ble_eq_true rfl) (fun X Q hQ hX hl hR hr => ?_)
  refine zV_loc (L' := [.ref (300 : Nat), .int (nI j), .int a, .int b, .null]) rfl ?_
  refine zV_aload_n hX dX11_value_0 rfl ?_
  refine zV_iconst hX (v := nI 0) dX11_value_1 (by decide) ?_
  refine zV_puti hX dX11_value_2 zf_X11_149 zp_9_0 zo300.1 rfl ?_
  refine zV_aload_n hX dX11_value_5 rfl ?_
  refine zV_aload_n hX dX11_value_6 rfl ?_
  refine zV_iload_n hX dX11_value_7 rfl ?_
  refine zV_cV1p hX hR hl dX11_value_8 (zc_isMember l G _ n _ ((zw_ne (by omega)).trans hn) hn7 h0) zt_X11_isMember rfl zml_X11_179 zo300.1 ⟨by decide, by decide⟩ (Nat.le_of_ble_eq_true rfl) ?_
  dsimp only [Option.toList, List.cons_append, List.nil_append]
  refine zV_topi (zb true) (by rw [zmem_nI (by omega) (by omega), decide_eq_true hj]) ?_
  refine zV_if_neB hX (tgt := 18) dX11_value_11 (by decide) (fun c_11 => ?_) (fun c_11 => absurd c_11 (by decide))
  refine zV_iconst hX (v := nI 0) dX11_value_18 (by decide) ?_
  refine zV_iconst hX (v := nI 1) dX11_value_19 (by decide) ?_
  refine zV_iconst hX (v := nI 0) dX11_value_20 (by decide) ?_
  refine zV_cV3p hX hR hl dX11_value_21 (zc_badF0 l G _ _ zw_same) zt_X11_bad rfl zml_X11_166 zo300.1 ⟨by decide, by decide⟩ (Nat.le_of_ble_eq_true rfl) ?_
  dsimp only [Option.toList, List.cons_append, List.nil_append]
  refine zV_if_neB hX (tgt := 63) dX11_value_24 (by decide) (fun c_24 => absurd c_24 (by decide)) (fun c_24 => ?_)
  refine zV_aload_n hX dX11_value_27 rfl ?_
  refine zV_iload_n hX dX11_value_28 rfl ?_
  refine zV_ldc hX dX11_value_29 zkc_X11_183 ?_
  refine zV_ldc hX dX11_value_31 zkc_X11_184 ?_
  refine zV_topi (nI 99999) (by decide) ?_
  refine zV_cS3p hX hR hl dX11_value_33 (zc_min l G _ _ _ _) zt_X11_in rfl zml_X11_162 (by decide) (Nat.le_of_ble_eq_true rfl) ?_
  dsimp only [Option.toList, List.cons_append, List.nil_append]
  refine zV_topi (zb false) (by rw [ha]) ?_
  refine zV_if_eqB hX (tgt := 50) dX11_value_36 (by decide) (fun c_36 => ?_) (fun c_36 => absurd c_36 (by decide))
  refine zV_iconst hX (v := nI 1) dX11_value_50 (by decide) ?_
  refine zV_goto hX (tgt := 55) dX11_value_51 (by decide) ?_
  refine zV_iconst hX (v := nI 2) dX11_value_55 (by decide) ?_
  refine zV_iconst hX (v := nI 1) dX11_value_56 (by decide) ?_
  refine zV_cV3p hX hR hl dX11_value_57 (zc_badT1 l G _ _ zw_same (by decide)) zt_X11_bad rfl zml_X11_166 zo300.1 ⟨by decide, by decide⟩ (Nat.le_of_ble_eq_true rfl) ?_
  dsimp only [Option.toList, List.cons_append, List.nil_append]
  refine zV_if_eqB hX (tgt := 65) dX11_value_60 (by decide) (fun c_60 => absurd c_60 (by decide)) (fun c_60 => ?_)
  refine zV_iconst hX (v := nI 0) dX11_value_63 (by decide) ?_
  exact zV_reti hX hQ hr (⟨rfl, rfl⟩) dX11_value_64
set_option maxHeartbeats 1000000 in
theorem zc_mvalueB (l : Launch) (G : zG) (M : zM) (n j : Nat) (a b : Int32) (hn : M.1 300 9 = nI n) (hn7 : n ≤ 7) (h0 : 1 ≤ n) (hj : j < n) (ha : mIn a (-99999) (nI 99999) = true) (hb : mIn b (nI 1) (nI 999) = false) : zC l G 3 yX11_value cX11_value 5 (Option.some Jvm.ClassFile.FieldType.int) [.ref (300 : Nat), .int (nI j), .int a, .int b] M (zP (some (.int (nI 0))) (mTw (nI 2) (nI 1) M)) := by
  refine zC_of (by decide) (Nat.le_of_ble_eq_true rfl) (fun X Q hQ hX hl hR hr => ?_)
  refine zV_loc (L' := [.ref (300 : Nat), .int (nI j), .int a, .int b, .null]) rfl ?_
  refine zV_aload_n hX dX11_value_0 rfl ?_
  refine zV_iconst hX (v := nI 0) dX11_value_1 (by decide) ?_
  refine zV_puti hX dX11_value_2 zf_X11_149 zp_9_0 zo300.1 rfl ?_
  refine zV_aload_n hX dX11_value_5 rfl ?_
  refine zV_aload_n hX dX11_value_6 rfl ?_
  refine zV_iload_n hX dX11_value_7 rfl ?_
  refine zV_cV1p hX hR hl dX11_value_8 (zc_isMember l G _ n _ ((zw_ne (by omega)).trans hn) hn7 h0) zt_X11_isMember rfl zml_X11_179 zo300.1 ⟨by decide, by decide⟩ (Nat.le_of_ble_eq_true rfl) ?_
  dsimp only [Option.toList, List.cons_append, List.nil_append]
  refine zV_topi (zb true) (by rw [zmem_nI (by omega) (by omega), decide_eq_true hj]) ?_
  refine zV_if_neB hX (tgt := 18) dX11_value_11 (by decide) (fun c_11 => ?_) (fun c_11 => absurd c_11 (by decide))
  refine zV_iconst hX (v := nI 0) dX11_value_18 (by decide) ?_
  refine zV_iconst hX (v := nI 1) dX11_value_19 (by decide) ?_
  refine zV_iconst hX (v := nI 0) dX11_value_20 (by decide) ?_
  refine zV_cV3p hX hR hl dX11_value_21 (zc_badF0 l G _ _ zw_same) zt_X11_bad rfl zml_X11_166 zo300.1 ⟨by decide, by decide⟩ (Nat.le_of_ble_eq_true rfl) ?_
  dsimp only [Option.toList, List.cons_append, List.nil_append]
  refine zV_if_neB hX (tgt := 63) dX11_value_24 (by decide) (fun c_24 => absurd c_24 (by decide)) (fun c_24 => ?_)
  refine zV_aload_n hX dX11_value_27 rfl ?_
  refine zV_iload_n hX dX11_value_28 rfl ?_
  refine zV_ldc hX dX11_value_29 zkc_X11_183 ?_
  refine zV_ldc hX dX11_value_31 zkc_X11_184 ?_
  refine zV_topi (nI 99999) (by decide) ?_
  refine zV_cS3p hX hR hl dX11_value_33 (zc_min l G _ _ _ _) zt_X11_in rfl zml_X11_162 (by decide) (Nat.le_of_ble_eq_true rfl) ?_
  dsimp only [Option.toList, List.cons_append, List.nil_append]
  refine zV_topi (zb true) (by rw [ha]) ?_
  refine zV_if_eqB hX (tgt := 50) dX11_value_36 (by decide) (fun c_36 => absurd c_36 (by decide)) (fun c_36 => ?_)
  refine zV_iload_n hX dX11_value_39 rfl ?_
  refine zV_iconst hX (v := nI 1) dX11_value_40 (by decide) ?_
  refine zV_sipush hX (v := nI 999) dX11_value_41 (by decide) ?_
  refine zV_cS3p hX hR hl dX11_value_44 (zc_min l G _ _ _ _) zt_X11_in rfl zml_X11_162 (by decide) (Nat.le_of_ble_eq_true rfl) ?_
  dsimp only [Option.toList, List.cons_append, List.nil_append]
  refine zV_topi (zb false) (by rw [hb]) ?_
  refine zV_if_neB hX (tgt := 54) dX11_value_47 (by decide) (fun c_47 => absurd c_47 (by decide)) (fun c_47 => ?_)
  refine zV_iconst hX (v := nI 1) dX11_value_50 (by decide) ?_
  refine zV_goto hX (tgt := 55) dX11_value_51 (by decide) ?_
  refine zV_iconst hX (v := nI 2) dX11_value_55 (by decide) ?_
  refine zV_iconst hX (v := nI 1) dX11_value_56 (by decide) ?_
  refine zV_cV3p hX hR hl dX11_value_57 (zc_badT1 l G _ _ zw_same (by decide)) zt_X11_bad rfl zml_X11_166 zo300.1 ⟨by decide, by decide⟩ (Nat.le_of_ble_eq_true rfl) ?_
  dsimp only [Option.toList, List.cons_append, List.nil_append]
  refine zV_if_eqB hX (tgt := 65) dX11_value_60 (by decide) (fun c_60 => absurd c_60 (by decide)) (fun c_60 => ?_)
  refine zV_iconst hX (v := nI 0) dX11_value_63 (by decide) ?_
  exact zV_reti hX hQ hr (⟨rfl, rfl⟩) dX11_value_64
set_option maxHeartbeats 1000000 in
theorem zc_mmissing (l : Launch) (G : zG) (M : zM) (a b : Int32) (ha : mIn a (-99999) (nI 99999) = true) (hb : mIn b (nI 1) (nI 999) = true) : zC l G 3 yX11_missing cX11_missing 4 (Option.some Jvm.ClassFile.FieldType.int) [.ref (300 : Nat), .int a, .int b] M (zP (some (.int (M.1 300 11))) (zw (m0 M) 300 11 (frac a b))) := by
  refine zC_of (by decide) (Nat.le_of_ble_eq_true rfl) (fun X Q hQ hX hl hR hr => ?_)
  refine zV_loc (L' := [.ref (300 : Nat), .int a, .int b, .null]) rfl ?_
  obtain ⟨A, hA, hA2⟩ := mIn_A ha
  obtain ⟨B, hB1, hB2, hB3⟩ := mIn_B hb
  refine zV_aload_n hX dX11_missing_0 rfl ?_
  refine zV_iconst hX (v := nI 0) dX11_missing_1 (by decide) ?_
  refine zV_puti hX dX11_missing_2 zf_X11_149 zp_9_0 zo300.1 rfl ?_
  refine zV_aload_n hX dX11_missing_5 rfl ?_
  refine zV_iload_n hX dX11_missing_6 rfl ?_
  refine zV_ldc hX dX11_missing_7 zkc_X11_183 ?_
  refine zV_ldc hX dX11_missing_9 zkc_X11_184 ?_
  refine zV_topi (nI 99999) (by decide) ?_
  refine zV_cS3p hX hR hl dX11_missing_11 (zc_min l G _ _ _ _) zt_X11_in rfl zml_X11_162 (by decide) (Nat.le_of_ble_eq_true rfl) ?_
  dsimp only [Option.toList, List.cons_append, List.nil_append]
  refine zV_topi (zb true) (by rw [ha]) ?_
  refine zV_if_eqB hX (tgt := 28) dX11_missing_14 (by decide) (fun c_14 => absurd c_14 (by decide)) (fun c_14 => ?_)
  refine zV_iload_n hX dX11_missing_17 rfl ?_
  refine zV_iconst hX (v := nI 1) dX11_missing_18 (by decide) ?_
  refine zV_sipush hX (v := nI 999) dX11_missing_19 (by decide) ?_
  refine zV_cS3p hX hR hl dX11_missing_22 (zc_min l G _ _ _ _) zt_X11_in rfl zml_X11_162 (by decide) (Nat.le_of_ble_eq_true rfl) ?_
  dsimp only [Option.toList, List.cons_append, List.nil_append]
  refine zV_topi (zb true) (by rw [hb]) ?_
  refine zV_if_neB hX (tgt := 32) dX11_missing_25 (by decide) (fun c_25 => ?_) (fun c_25 => absurd c_25 (by decide))
  refine zV_iconst hX (v := nI 0) dX11_missing_32 (by decide) ?_
  refine zV_iconst hX (v := nI 1) dX11_missing_33 (by decide) ?_
  refine zV_iconst hX (v := nI 1) dX11_missing_34 (by decide) ?_
  refine zV_cV3p hX hR hl dX11_missing_35 (zc_badF1 l G _ _ zw_same) zt_X11_bad rfl zml_X11_166 zo300.1 ⟨by decide, by decide⟩ (Nat.le_of_ble_eq_true rfl) ?_
  dsimp only [Option.toList, List.cons_append, List.nil_append]
  refine zV_if_eqB hX (tgt := 43) dX11_missing_38 (by decide) (fun c_38 => ?_) (fun c_38 => absurd c_38 (by decide))
  refine zV_aload_n hX dX11_missing_43 rfl ?_
  refine zV_geti hX (x := M.1 300 11) dX11_missing_44 zf_X11_170 zo300.1 rfl (zw_ne (by omega)) ?_
  refine zV_istore_n hX dX11_missing_47 (by decide) ?_
  dsimp only [zst1, zst2, zclr, zc2]
  refine zV_aload_n hX dX11_missing_48 rfl ?_
  refine zV_iload_n hX dX11_missing_49 rfl ?_
  refine zV_iload_n hX dX11_missing_50 rfl ?_
  refine zV_cS2p hX hR hl dX11_missing_51 (zc_mbits l G _ _ _ A B hA hA2 hB1 hB2 hB3) zt_X11_bits rfl zml_X11_185 (by decide) (Nat.le_of_ble_eq_true rfl) ?_
  dsimp only [Option.toList, List.cons_append, List.nil_append]
  refine zV_puti hX dX11_missing_54 zf_X11_170 zp_9_11 zo300.1 rfl ?_
  refine zV_iload_n hX dX11_missing_57 rfl ?_
  exact zV_reti hX hQ hr (⟨rfl, rfl⟩) dX11_missing_58
set_option maxHeartbeats 1000000 in
theorem zc_mmissingA (l : Launch) (G : zG) (M : zM) (a b : Int32) (ha : mIn a (-99999) (nI 99999) = false) : zC l G 3 yX11_missing cX11_missing 4 (Option.some Jvm.ClassFile.FieldType.int) [.ref (300 : Nat), .int a, .int b] M (zP (some (.int (nI 0))) (mTw (nI 1) (nI 1) M)) := by
  refine zC_of (by decide) (Nat.le_of_ble_eq_true rfl) (fun X Q hQ hX hl hR hr => ?_)
  refine zV_loc (L' := [.ref (300 : Nat), .int a, .int b, .null]) rfl ?_
  refine zV_aload_n hX dX11_missing_0 rfl ?_
  refine zV_iconst hX (v := nI 0) dX11_missing_1 (by decide) ?_
  refine zV_puti hX dX11_missing_2 zf_X11_149 zp_9_0 zo300.1 rfl ?_
  refine zV_aload_n hX dX11_missing_5 rfl ?_
  refine zV_iload_n hX dX11_missing_6 rfl ?_
  refine zV_ldc hX dX11_missing_7 zkc_X11_183 ?_
  refine zV_ldc hX dX11_missing_9 zkc_X11_184 ?_
  refine zV_topi (nI 99999) (by decide) ?_
  refine zV_cS3p hX hR hl dX11_missing_11 (zc_min l G _ _ _ _) zt_X11_in rfl zml_X11_162 (by decide) (Nat.le_of_ble_eq_true rfl) ?_
  dsimp only [Option.toList, List.cons_append, List.nil_append]
  refine zV_topi (zb false) (by rw [ha]) ?_
  refine zV_if_eqB hX (tgt := 28) dX11_missing_14 (by decide) (fun c_14 => ?_) (fun c_14 => absurd c_14 (by decide))
  refine zV_iconst hX (v := nI 1) dX11_missing_28 (by decide) ?_
  refine zV_goto hX (tgt := 33) dX11_missing_29 (by decide) ?_
  refine zV_iconst hX (v := nI 1) dX11_missing_33 (by decide) ?_
  refine zV_iconst hX (v := nI 1) dX11_missing_34 (by decide) ?_
  refine zV_cV3p hX hR hl dX11_missing_35 (zc_badT1 l G _ _ zw_same (by decide)) zt_X11_bad rfl zml_X11_166 zo300.1 ⟨by decide, by decide⟩ (Nat.le_of_ble_eq_true rfl) ?_
  dsimp only [Option.toList, List.cons_append, List.nil_append]
  refine zV_if_eqB hX (tgt := 43) dX11_missing_38 (by decide) (fun c_38 => absurd c_38 (by decide)) (fun c_38 => ?_)
  refine zV_iconst hX (v := nI 0) dX11_missing_41 (by decide) ?_
  exact zV_reti hX hQ hr (⟨rfl, rfl⟩) dX11_missing_42
set_option maxHeartbeats 1000000 in
theorem zc_mmissingB (l : Launch) (G : zG) (M : zM) (a b : Int32) (ha : mIn a (-99999) (nI 99999) = true) (hb : mIn b (nI 1) (nI 999) = false) : zC l G 3 yX11_missing cX11_missing 4 (Option.some Jvm.ClassFile.FieldType.int) [.ref (300 : Nat), .int a, .int b] M (zP (some (.int (nI 0))) (mTw (nI 1) (nI 1) M)) := by
  refine zC_of (by decide) (Nat.le_of_ble_eq_true rfl) (fun X Q hQ hX hl hR hr => ?_)
  refine zV_loc (L' := [.ref (300 : Nat), .int a, .int b, .null]) rfl ?_
  refine zV_aload_n hX dX11_missing_0 rfl ?_
  refine zV_iconst hX (v := nI 0) dX11_missing_1 (by decide) ?_
  refine zV_puti hX dX11_missing_2 zf_X11_149 zp_9_0 zo300.1 rfl ?_
  refine zV_aload_n hX dX11_missing_5 rfl ?_
  refine zV_iload_n hX dX11_missing_6 rfl ?_
  refine zV_ldc hX dX11_missing_7 zkc_X11_183 ?_
  refine zV_ldc hX dX11_missing_9 zkc_X11_184 ?_
  refine zV_topi (nI 99999) (by decide) ?_
  refine zV_cS3p hX hR hl dX11_missing_11 (zc_min l G _ _ _ _) zt_X11_in rfl zml_X11_162 (by decide) (Nat.le_of_ble_eq_true rfl) ?_
  dsimp only [Option.toList, List.cons_append, List.nil_append]
  refine zV_topi (zb true) (by rw [ha]) ?_
  refine zV_if_eqB hX (tgt := 28) dX11_missing_14 (by decide) (fun c_14 => absurd c_14 (by decide)) (fun c_14 => ?_)
  refine zV_iload_n hX dX11_missing_17 rfl ?_
  refine zV_iconst hX (v := nI 1) dX11_missing_18 (by decide) ?_
  refine zV_sipush hX (v := nI 999) dX11_missing_19 (by decide) ?_
  refine zV_cS3p hX hR hl dX11_missing_22 (zc_min l G _ _ _ _) zt_X11_in rfl zml_X11_162 (by decide) (Nat.le_of_ble_eq_true rfl) ?_
  dsimp only [Option.toList, List.cons_append, List.nil_append]
  refine zV_topi (zb false) (by rw [hb]) ?_
  refine zV_if_neB hX (tgt := 32) dX11_missing_25 (by decide) (fun c_25 => absurd c_25 (by decide)) (fun c_25 => ?_)
  refine zV_iconst hX (v := nI 1) dX11_missing_28 (by decide) ?_
  refine zV_goto hX (tgt := 33) dX11_missing_29 (by decide) ?_
  refine zV_iconst hX (v := nI 1) dX11_missing_33 (by decide) ?_
  refine zV_iconst hX (v := nI 1) dX11_missing_34 (by decide) ?_
  refine zV_cV3p hX hR hl dX11_missing_35 (zc_badT1 l G _ _ zw_same (by decide)) zt_X11_bad rfl zml_X11_166 zo300.1 ⟨by decide, by decide⟩ (Nat.le_of_ble_eq_true rfl) ?_
  dsimp only [Option.toList, List.cons_append, List.nil_append]
  refine zV_if_eqB hX (tgt := 43) dX11_missing_38 (by decide) (fun c_38 => absurd c_38 (by decide)) (fun c_38 => ?_)
  refine zV_iconst hX (v := nI 0) dX11_missing_41 (by decide) ?_
  exact zV_reti hX hQ hr (⟨rfl, rfl⟩) dX11_missing_42
def mRun (c n t : Nat) (mn : Nat → Option Nat) (M : zM) : zM := mGo c n t mn (t + 1) (m0 M)
set_option maxHeartbeats 1000000 in
theorem zc_mrun (l : Launch) (G : zG) (M : zM) (n t j : Nat) (mn : Nat → Option Nat) (hn : M.1 300 9 = nI n) (hn7 : n ≤ 7) (h0 : 1 ≤ n) (ht : M.1 300 10 = nI t) (ht2 : t ≤ 2) (htn : t + 1 ≤ n) (hj : j < n) (hmn : mLn 0 M mn) : zC l G 7 yX11_run cX11_run 2 (Option.some Jvm.ClassFile.FieldType.int) [.ref (300 : Nat), .int (nI j)] M (zP (some (.int (nI (mUn (mRun j n t mn M) n j t true n)))) (mRun j n t mn M)) := by
  refine zC_of (by decide) (Nat.le_of_ble_eq_true rfl) (fun X Q hQ hX hl hR hr => ?_)
  refine zV_loc (L' := [.ref (300 : Nat), .int (nI j)]) rfl ?_
  have hK := mGo_K (k := t + 1) (t := t) (c := j) (by omega) hn7 mn (m0 M)
  have hR9 : ∀ {x : Int32} (q : Nat), ¬ mFrB 300 q ∧ q ≠ 0 → M.1 300 q = x → (mRun j n t mn M).1 300 q = x := fun q hq e => (hK.1 _ _ hq.1).trans ((zw_ne (Or.inr hq.2)).trans e)
  have hR17 : (mRun j n t mn M).1 300 17 = nI j := ((mGo_C (k := t + 1) (t := t) (c := j) (by omega) hn7 mn (m0 M)).1 300 17 (fun q => q.2 ⟨rfl, Or.inl rfl⟩)).trans (mGa_17 _ hn7)
  refine zV_aload_n hX dX11_run_0 rfl ?_
  refine zV_iconst hX (v := nI 0) dX11_run_1 (by decide) ?_
  refine zV_puti hX dX11_run_2 zf_X11_149 zp_9_0 zo300.1 rfl ?_
  refine zV_aload_n hX dX11_run_5 rfl ?_
  refine zV_aload_n hX dX11_run_6 rfl ?_
  refine zV_iload_n hX dX11_run_7 rfl ?_
  refine zV_cV1p hX hR hl dX11_run_8 (zc_isMember l G _ n _ ((zw_ne (by omega)).trans hn) hn7 h0) zt_X11_isMember rfl zml_X11_179 zo300.1 ⟨by decide, by decide⟩ (Nat.le_of_ble_eq_true rfl) ?_
  dsimp only [Option.toList, List.cons_append, List.nil_append]
  refine zV_topi (zb true) (by rw [zmem_nI (by omega) (by omega), decide_eq_true hj]) ?_
  refine zV_if_neB hX (tgt := 18) dX11_run_11 (by decide) (fun c_11 => ?_) (fun c_11 => absurd c_11 (by decide))
  refine zV_iconst hX (v := nI 0) dX11_run_18 (by decide) ?_
  refine zV_iconst hX (v := nI 1) dX11_run_19 (by decide) ?_
  refine zV_iconst hX (v := nI 0) dX11_run_20 (by decide) ?_
  refine zV_cV3p hX hR hl dX11_run_21 (zc_badF0 l G _ _ zw_same) zt_X11_bad rfl zml_X11_166 zo300.1 ⟨by decide, by decide⟩ (Nat.le_of_ble_eq_true rfl) ?_
  dsimp only [Option.toList, List.cons_append, List.nil_append]
  refine zV_if_eqB hX (tgt := 29) dX11_run_24 (by decide) (fun c_24 => ?_) (fun c_24 => absurd c_24 (by decide))
  refine zV_aload_n hX dX11_run_29 rfl ?_
  refine zV_iload_n hX dX11_run_30 rfl ?_
  refine zV_cV1p hX hR hl dX11_run_31 (zc_goesBy l G (m0 M) n j t mn ((zw_ne (by omega)).trans hn) hn7 ((zw_ne (by omega)).trans ht) ht2 (by omega) h0 htn hmn) zt_X11_goesBy rfl zml_X11_365 zo300.1 ⟨by decide, by decide⟩ (Nat.le_of_ble_eq_true rfl) ?_
  dsimp only [Option.toList, List.cons_append, List.nil_append]
  refine zV_mem (show _ = mRun j n t mn M from rfl) ?_
  refine zV_aload_n hX dX11_run_34 rfl ?_
  refine zV_iconst hX (v := nI 1) dX11_run_35 (by decide) ?_
  refine zV_cV1p hX hR hl dX11_run_36 (zc_munlike l G _ n j t true (hR9 9 (by unfold mFrB; omega) hn) hn7 hR17 (by omega) (hR9 10 (by unfold mFrB; omega) ht) ht2) zt_X11_unlike rfl zml_X11_368 zo300.1 ⟨by decide, by decide⟩ (Nat.le_of_ble_eq_true rfl) ?_
  dsimp only [Option.toList, List.cons_append, List.nil_append]
  exact zV_reti hX hQ hr (⟨rfl, rfl⟩) dX11_run_39
set_option maxHeartbeats 1000000 in
theorem zc_mrunX (l : Launch) (G : zG) (M : zM) (n : Nat) (x : Int32) (hn : M.1 300 9 = nI n) (hn7 : n ≤ 7) (h0 : 1 ≤ n) (hx : zmem x n = false) : zC l G 7 yX11_run cX11_run 2 (Option.some Jvm.ClassFile.FieldType.int) [.ref (300 : Nat), .int x] M (zP (some (.int (nI 0))) (mTw (nI 1) (nI 0) M)) := by
  refine zC_of (by decide) (Nat.le_of_ble_eq_true rfl) (fun X Q hQ hX hl hR hr => ?_)
  refine zV_loc (L' := [.ref (300 : Nat), .int x]) rfl ?_
  refine zV_aload_n hX dX11_run_0 rfl ?_
  refine zV_iconst hX (v := nI 0) dX11_run_1 (by decide) ?_
  refine zV_puti hX dX11_run_2 zf_X11_149 zp_9_0 zo300.1 rfl ?_
  refine zV_aload_n hX dX11_run_5 rfl ?_
  refine zV_aload_n hX dX11_run_6 rfl ?_
  refine zV_iload_n hX dX11_run_7 rfl ?_
  refine zV_cV1p hX hR hl dX11_run_8 (zc_isMember l G _ n _ ((zw_ne (by omega)).trans hn) hn7 h0) zt_X11_isMember rfl zml_X11_179 zo300.1 ⟨by decide, by decide⟩ (Nat.le_of_ble_eq_true rfl) ?_
  dsimp only [Option.toList, List.cons_append, List.nil_append]
  refine zV_topi (zb false) (by rw [hx]) ?_
  refine zV_if_neB hX (tgt := 18) dX11_run_11 (by decide) (fun c_11 => absurd c_11 (by decide)) (fun c_11 => ?_)
  refine zV_iconst hX (v := nI 1) dX11_run_14 (by decide) ?_
  refine zV_goto hX (tgt := 19) dX11_run_15 (by decide) ?_
  refine zV_iconst hX (v := nI 1) dX11_run_19 (by decide) ?_
  refine zV_iconst hX (v := nI 0) dX11_run_20 (by decide) ?_
  refine zV_cV3p hX hR hl dX11_run_21 (zc_badT0 l G _ _ zw_same (by decide)) zt_X11_bad rfl zml_X11_166 zo300.1 ⟨by decide, by decide⟩ (Nat.le_of_ble_eq_true rfl) ?_
  dsimp only [Option.toList, List.cons_append, List.nil_append]
  refine zV_if_eqB hX (tgt := 29) dX11_run_24 (by decide) (fun c_24 => absurd c_24 (by decide)) (fun c_24 => ?_)
  refine zV_iconst hX (v := nI 0) dX11_run_27 (by decide) ?_
  exact zV_reti hX hQ hr (⟨rfl, rfl⟩) dX11_run_28
