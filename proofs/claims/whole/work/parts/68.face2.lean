theorem zo40 : zOb 1 40 := zOb_of (by decide +kernel) (by decide +kernel)
theorem zo50 : zOb 1 50 := zOb_of (by decide +kernel) (by decide +kernel)
theorem zo60 : zOb 5 60 := zOb_of (by decide +kernel) (by decide +kernel)
theorem zo90 : zOb 5 90 := zOb_of (by decide +kernel) (by decide +kernel)
theorem zo120 : zOb 7 120 := zOb_of (by decide +kernel) (by decide +kernel)
theorem zo140 : zOb 2 140 := zOb_of (by decide +kernel) (by decide +kernel)
theorem zo150 : zOb 0 150 := zOb_of (by decide +kernel) (by decide +kernel)
theorem zo170 : zOb 4 170 := zOb_of (by decide +kernel) (by decide +kernel)
theorem zo180 : zOb 3 180 := zOb_of (by decide +kernel) (by decide +kernel)
theorem zo190 : zOb 3 190 := zOb_of (by decide +kernel) (by decide +kernel)
theorem zo200 : zOb 3 200 := zOb_of (by decide +kernel) (by decide +kernel)
/-- where LIES of a group may lie -/
def lyL (lc : Nat) : Prop := lc = 180 ∨ lc = 190 ∨ lc = 200
theorem lyL.o {lc : Nat} (h : lyL lc) : zOb 3 lc := by
  rcases h with rfl | rfl | rfl
  · exact zo180
  · exact zo190
  · exact zo200
theorem lyL.lt {lc : Nat} (h : lyL lc) : lc < 2 ^ 31 := by unfold lyL at h; omega
theorem lyL.ok {lc o : Nat} (h : lyL lc) (ho : o + 20 < 180) : lyOk lc o := ⟨h.o, fun k hk => by unfold lyL at h; omega⟩
theorem lyL.s {lc o : Nat} (h : lyL lc) (ho : o + 12 < 180) : lyS lc o := ⟨h.o, fun k hk => by unfold lyL at h; omega⟩
theorem lyL.f {lc lo hi : Nat} (h : lyL lc) (ho : hi < 180) : lyF lc lo hi := ⟨h.o, fun k hk => by unfold lyL at h; omega⟩
theorem gBegin_01 {g c n t : Nat} {M : zM} {j : Nat} (hg : g < c) (hj : j < 2) : (gBegin g c n t M).1 g j = if j = 0 then nI n else nI t := by
  unfold gBegin
  have h : ∀ k, (zfor (fun i M => zw M (g + 1 + 4) i (nI 0)) k (lClear c (zw (zw (zw M g 0 (nI n)) g 1 (nI t)) g 2 (nI 0)))).1 g j = if j = 0 then nI n else nI t := by
    intro k
    induction k with
    | zero =>
      show (lClear c _).1 g j = _
      rw [lClear_c (Or.inl hg)]
      match j, hj with
      | 0, _ => rw [zw_ne (by omega), zw_ne (by omega), zw_same]; rfl
      | 1, _ => rw [zw_ne (by omega), zw_same]; rfl
    | succ k ih => exact (zw_ne (by omega)).trans ih
  exact h 7
def fTd (lc t : Nat) (M : zM) : Nat → Int32
  | 0 => M.1 40 0 | 1 => M.1 40 1 | 2 => nI (t + 1) | 3 => M.1 lc 0 | 4 => M.1 60 0 | 5 => M.1 60 1 | 6 => M.1 60 2 | 7 => zsumI (fun i => M.1 (lc + 1 + 1) i) 7 | 8 => M.1 20 0 | _ => M.1 40 2
set_option maxHeartbeats 1000000 in
theorem zf_group (l : Launch) (G : zG) (M : zM) (lc a b : Nat) (h43 : M.1 40 3 = nI lc) (hL : lyL lc) (ha : 3 ≤ a ∧ a ≤ 7) (hb : b ≤ 2) : zC l G 9 yX10_group cX10_group 3 (Option.some Jvm.ClassFile.FieldType.int) [.ref (0 : Nat), .int (nI a), .int (nI b)] M (zP (some (.int (nI (b + 1)))) ((oForget 60 (gBegin 40 lc a b M)))) := by
  refine zC_of (by decide) (Nat.le_of_ble_eq_true rfl) (fun X Q hQ hX hl hR hr => ?_)
  refine zV_loc (L' := [.ref (0 : Nat), .int (nI a), .int (nI b)]) rfl ?_
  refine zV_aload_n hX dX10_group_0 rfl ?_
  refine zV_iload_n hX dX10_group_1 rfl ?_
  refine zV_iconst hX (v := nI 3) dX10_group_2 (by decide) ?_
  refine zV_icmp_ltN hX (tgt := 25) dX10_group_3 (by decide) ⟨by omega, by omega⟩ (fun c_3 => ?_) (fun c_3 => ?_)
  · refine zV_iconst hX (v := nI 0) dX10_group_25 (by decide) ?_
    refine zV_topi (zb false) rfl ?_
    exfalso
    omega
  · refine zV_iload_n hX dX10_group_6 rfl ?_
    refine zV_bipush hX (v := nI 7) dX10_group_7 (by decide) ?_
    refine zV_icmp_gtN hX (tgt := 25) dX10_group_9 (by decide) ⟨by omega, by omega⟩ (fun c_9 => ?_) (fun c_9 => ?_)
    · refine zV_iconst hX (v := nI 0) dX10_group_25 (by decide) ?_
      refine zV_topi (zb false) rfl ?_
      exfalso
      omega
    · refine zV_iload_n hX dX10_group_12 rfl ?_
      refine zV_if_ltN hX (tgt := 25) dX10_group_13 (by decide) (by omega) (fun c_13 => ?_)
      refine zV_iload_n hX dX10_group_16 rfl ?_
      refine zV_iconst hX (v := nI 2) dX10_group_17 (by decide) ?_
      refine zV_icmp_gtN hX (tgt := 25) dX10_group_18 (by decide) ⟨by omega, by omega⟩ (fun c_18 => ?_) (fun c_18 => ?_)
      · refine zV_iconst hX (v := nI 0) dX10_group_25 (by decide) ?_
        refine zV_topi (zb false) rfl ?_
        exfalso
        omega
      · refine zV_iconst hX (v := nI 1) dX10_group_21 (by decide) ?_
        refine zV_goto hX (tgt := 26) dX10_group_22 (by decide) ?_
        refine zV_topi (zb true) rfl ?_
        refine zV_cV1p hX hR hl dX10_group_26 (zc_need1 l G _) zt_X10_need rfl zml_X10_72 zo0.1 ⟨by decide, by decide⟩ (Nat.le_of_ble_eq_true rfl) ?_
        dsimp only [Option.toList, List.cons_append, List.nil_append]
        refine zV_aload_n hX dX10_group_29 rfl ?_
        refine zV_getc hX dX10_group_30 zf_X10_19 zo0.1 rfl ?_
        refine zV_iload_n hX dX10_group_33 rfl ?_
        refine zV_iload_n hX dX10_group_34 rfl ?_
        refine zV_cV2p hX hR hl dX10_group_35 (zc_gbegin l G M 40 lc a b zo40 hL.o h43 hL.lt) zt_X2_begin rfl zml_X10_68 zo40.1 ⟨by decide, by decide⟩ (Nat.le_of_ble_eq_true rfl) ?_
        dsimp only [Option.toList, List.cons_append, List.nil_append]
        refine zV_aload_n hX dX10_group_38 rfl ?_
        refine zV_getc hX dX10_group_39 zf_X10_29 zo0.1 rfl ?_
        refine zV_cV0p hX hR hl dX10_group_42 (zc_forget l G _ 60 zo60) zt_X6_forget rfl zml_X10_76 zo60.1 ⟨by decide, by decide⟩ (Nat.le_of_ble_eq_true rfl) ?_
        dsimp only [Option.toList, List.cons_append, List.nil_append]
        refine zV_aload_n hX dX10_group_45 rfl ?_
        refine zV_getc hX dX10_group_46 zf_X10_19 zo0.1 rfl ?_
        refine zV_cV0p hX hR hl dX10_group_49 (zc_rounds l G _ 40 b zo40 (((oForget_fr 60 _).at (by omega)).trans (gBegin_01 (by unfold lyL at hL; omega) (by decide)))) zt_X2_rounds rfl zml_X10_79 zo40.1 ⟨by decide, by decide⟩ (Nat.le_of_ble_eq_true rfl) ?_
        dsimp only [Option.toList, List.cons_append, List.nil_append]
        exact zV_reti hX hQ hr (⟨rfl, rfl⟩) dX10_group_52
set_option maxHeartbeats 1000000 in
theorem zf_groupX (l : Launch) (G : zG) (M : zM) (hst : l.stackTraces = false) (x z : Int32) (hx : (mIn x (nI 3) (nI 7) && mIn z (nI 0) (nI 2)) = false) : zCx l G 9 1 6 yX10_group cX10_group 3 (Option.some Jvm.ClassFile.FieldType.int) [.ref (0 : Nat), .int x, .int z] M zIAE (mBa M) := by
  refine zCx_of (by decide) (Nat.le_of_ble_eq_true rfl) (fun X Q hQ hX hl hR hEx ht => ?_)
  refine zV_loc (L' := [.ref (0 : Nat), .int x, .int z]) rfl ?_
  refine zV_aload_n hX dX10_group_0 rfl ?_
  refine zV_iload_n hX dX10_group_1 rfl ?_
  refine zV_iconst hX (v := nI 3) dX10_group_2 (by decide) ?_
  refine zV_icmp_lt hX (tgt := 25) dX10_group_3 (by decide) (fun c_3 => ?_) (fun c_3 => ?_)
  · refine zV_iconst hX (v := nI 0) dX10_group_25 (by decide) ?_
    refine zV_topi (zb false) rfl ?_
    exact zX_cV1 hX hEx hR hl hQ ht dX10_group_26 (zc_need0 l G _ hst) zt_X10_need rfl zml_X10_72 zo0.1 ⟨by decide, by decide⟩ (Nat.le_of_ble_eq_true rfl) (by omega)
  · refine zV_iload_n hX dX10_group_6 rfl ?_
    refine zV_bipush hX (v := nI 7) dX10_group_7 (by decide) ?_
    refine zV_icmp_gt hX (tgt := 25) dX10_group_9 (by decide) (fun c_9 => ?_) (fun c_9 => ?_)
    · refine zV_iconst hX (v := nI 0) dX10_group_25 (by decide) ?_
      refine zV_topi (zb false) rfl ?_
      exact zX_cV1 hX hEx hR hl hQ ht dX10_group_26 (zc_need0 l G _ hst) zt_X10_need rfl zml_X10_72 zo0.1 ⟨by decide, by decide⟩ (Nat.le_of_ble_eq_true rfl) (by omega)
    · refine zV_iload_n hX dX10_group_12 rfl ?_
      refine zV_if_lt hX (tgt := 25) dX10_group_13 (by decide) (fun c_13 => ?_) (fun c_13 => ?_)
      · refine zV_iconst hX (v := nI 0) dX10_group_25 (by decide) ?_
        refine zV_topi (zb false) rfl ?_
        exact zX_cV1 hX hEx hR hl hQ ht dX10_group_26 (zc_need0 l G _ hst) zt_X10_need rfl zml_X10_72 zo0.1 ⟨by decide, by decide⟩ (Nat.le_of_ble_eq_true rfl) (by omega)
      · refine zV_iload_n hX dX10_group_16 rfl ?_
        refine zV_iconst hX (v := nI 2) dX10_group_17 (by decide) ?_
        refine zV_icmp_gt hX (tgt := 25) dX10_group_18 (by decide) (fun c_18 => ?_) (fun c_18 => ?_)
        · refine zV_iconst hX (v := nI 0) dX10_group_25 (by decide) ?_
          refine zV_topi (zb false) rfl ?_
          exact zX_cV1 hX hEx hR hl hQ ht dX10_group_26 (zc_need0 l G _ hst) zt_X10_need rfl zml_X10_72 zo0.1 ⟨by decide, by decide⟩ (Nat.le_of_ble_eq_true rfl) (by omega)
        · refine zV_iconst hX (v := nI 1) dX10_group_21 (by decide) ?_
          refine zV_goto hX (tgt := 26) dX10_group_22 (by decide) ?_
          refine zV_topi (zb true) rfl ?_
          rw [mIn_t c_3 c_9, mIn_t (show ¬ z < nI 0 from c_13) c_18] at hx
          exact absurd hx (by decide)
theorem frac_fl {a b : Int32} (ha : mIn a (-99999) (nI 99999) = true) (hb : mIn b (nI 1) (nI 999) = true) : ∃ s E T, fld (FP.fdiv (FP.i2f a) (FP.i2f b)) s E T := by
  obtain ⟨A, hA, hA2⟩ := mIn_A ha
  obtain ⟨B, hB1, hB2, hB3⟩ := mIn_B hb
  obtain ⟨s, E, T, h, -, -⟩ := frac_ok hA hA2 hB1 hB2 hB3
  unfold frac at h
  rw [UInt32.toUInt32_toInt32] at h
  exact ⟨s, E, T, h⟩
set_option maxHeartbeats 1000000 in
theorem zf_value (l : Launch) (G : zG) (M : zM) (n j : Nat) (a b : Int32) (h40 : M.1 40 0 = nI n) (hn7 : n ≤ 7) (hj : j < n) (ha : mIn a (-99999) (nI 99999) = true) (hb : mIn b (nI 1) (nI 999) = true) : zC l G 9 yX10_value cX10_value 5 (Option.some Jvm.ClassFile.FieldType.int) [.ref (0 : Nat), .int (nI j), .int a, .int b] M (zP (some (.int (M.1 45 j))) (zw M 45 j (frac a b))) := by
  refine zC_of (by decide) (Nat.le_of_ble_eq_true rfl) (fun X Q hQ hX hl hR hr => ?_)
  refine zV_loc (L' := [.ref (0 : Nat), .int (nI j), .int a, .int b, .null]) rfl ?_
  obtain ⟨s8, E8, T8, hf8⟩ := frac_fl ha hb
  refine zV_aload_n hX dX10_value_0 rfl ?_
  refine zV_aload_n hX dX10_value_1 rfl ?_
  refine zV_getc hX dX10_value_2 zf_X10_19 zo0.1 rfl ?_
  refine zV_iload_n hX dX10_value_5 rfl ?_
  refine zV_cV1p hX hR hl dX10_value_6 (zc_holds l G _ 40 n _ zo40 (h40)) zt_X2_holds rfl zml_X10_83 zo40.1 ⟨by decide, by decide⟩ (Nat.le_of_ble_eq_true rfl) ?_
  dsimp only [Option.toList, List.cons_append, List.nil_append]
  refine zV_topi (zb true) (by rw [zmem_nI (by omega) (by omega), decide_eq_true hj]) ?_
  refine zV_cV1p hX hR hl dX10_value_9 (zc_such1 l G _) zt_X10_needSuch rfl zml_X10_87 zo0.1 ⟨by decide, by decide⟩ (Nat.le_of_ble_eq_true rfl) ?_
  dsimp only [Option.toList, List.cons_append, List.nil_append]
  refine zV_aload_n hX dX10_value_12 rfl ?_
  refine zV_iload_n hX dX10_value_13 rfl ?_
  refine zV_iload_n hX dX10_value_14 rfl ?_
  refine zV_cS2p hX hR hl dX10_value_15 (zc_isFraction l G _ _ _) zt_X10_isFraction rfl zml_X10_90 (by decide) (Nat.le_of_ble_eq_true rfl) ?_
  dsimp only [Option.toList, List.cons_append, List.nil_append]
  refine zV_topi (zb true) (by rw [ha, hb, Bool.true_and]) ?_
  refine zV_cV1p hX hR hl dX10_value_18 (zc_need1 l G _) zt_X10_need rfl zml_X10_72 zo0.1 ⟨by decide, by decide⟩ (Nat.le_of_ble_eq_true rfl) ?_
  dsimp only [Option.toList, List.cons_append, List.nil_append]
  refine zV_aload_n hX dX10_value_21 rfl ?_
  refine zV_getc hX dX10_value_22 zf_X10_19 zo0.1 rfl ?_
  refine zV_geta hX dX10_value_25 zf_X10_94 zo40.1 rfl ?_
  refine zV_iload_n hX dX10_value_28 rfl ?_
  refine zV_iald hX (v := M.1 45 j) dX10_value_29 (zo40.a 4 rfl) (rfl) ⟨by omega, by omega⟩ (rfl) ?_
  refine zV_istore hX dX10_value_30 (by decide) ?_
  dsimp only [zst1, zst2, zclr, zc2]
  refine zV_aload_n hX dX10_value_32 rfl ?_
  refine zV_getc hX dX10_value_33 zf_X10_19 zo0.1 rfl ?_
  refine zV_geta hX dX10_value_36 zf_X10_94 zo40.1 rfl ?_
  refine zV_iload_n hX dX10_value_39 rfl ?_
  refine zV_iload_n hX dX10_value_40 rfl ?_
  refine zV_i2f hX dX10_value_41 ?_
  refine zV_iload_n hX dX10_value_42 rfl ?_
  refine zV_i2f hX dX10_value_43 ?_
  refine zV_fdiv hX dX10_value_44 (sq_n (fld_sq hf8)) ?_
  refine zV_cS1p hX hR hl dX10_value_45 (zc_bitsOf l G _ _ s8 E8 T8 hf8) zt_X1_bitsOf rfl zml_X10_97 (by decide) (Nat.le_of_ble_eq_true rfl) ?_
  dsimp only [Option.toList, List.cons_append, List.nil_append]
  refine zV_iast hX dX10_value_48 (zo40.a 4 rfl) (rfl) ⟨by omega, by omega⟩ ?_
  refine zV_iload hX dX10_value_49 rfl ?_
  exact zV_reti hX hQ hr (⟨rfl, rfl⟩) dX10_value_51
set_option maxHeartbeats 1000000 in
theorem zf_valueX (l : Launch) (G : zG) (M : zM) (hst : l.stackTraces = false) (n : Nat) (x a b : Int32) (h40 : M.1 40 0 = nI n) (hn7 : n ≤ 7) (hx : zmem x n = false) : zCx l G 9 1 6 yX10_value cX10_value 5 (Option.some Jvm.ClassFile.FieldType.int) [.ref (0 : Nat), .int x, .int a, .int b] M zNSE (mBs M) := by
  refine zCx_of (by decide) (Nat.le_of_ble_eq_true rfl) (fun X Q hQ hX hl hR hEx ht => ?_)
  refine zV_loc (L' := [.ref (0 : Nat), .int x, .int a, .int b, .null]) rfl ?_
  refine zV_aload_n hX dX10_value_0 rfl ?_
  refine zV_aload_n hX dX10_value_1 rfl ?_
  refine zV_getc hX dX10_value_2 zf_X10_19 zo0.1 rfl ?_
  refine zV_iload_n hX dX10_value_5 rfl ?_
  refine zK_cV1p hX hR hl dX10_value_6 (zCk.of (zc_holds l G _ 40 n _ zo40 (h40))) zt_X2_holds rfl zml_X10_83 zo40.1 ⟨by decide, by decide⟩ (Nat.le_of_ble_eq_true rfl) (by omega) ⟨rfl, rfl⟩ ?_
  dsimp only [Option.toList, List.cons_append, List.nil_append]
  refine zV_topi (zb false) (by rw [hx]) ?_
  exact zX_cV1 hX hEx hR hl hQ ht dX10_value_9 (zc_such0 l G _ hst) zt_X10_needSuch rfl zml_X10_87 zo0.1 ⟨by decide, by decide⟩ (Nat.le_of_ble_eq_true rfl) (by omega)
set_option maxHeartbeats 1000000 in
theorem zf_valueA (l : Launch) (G : zG) (M : zM) (hst : l.stackTraces = false) (n j : Nat) (a b : Int32) (h40 : M.1 40 0 = nI n) (hn7 : n ≤ 7) (hj : j < n) (hab : (mIn a (-99999) (nI 99999) && mIn b (nI 1) (nI 999)) = false) : zCx l G 9 1 6 yX10_value cX10_value 5 (Option.some Jvm.ClassFile.FieldType.int) [.ref (0 : Nat), .int (nI j), .int a, .int b] M zIAE (mBa M) := by
  refine zCx_of (by decide) (Nat.le_of_ble_eq_true rfl) (fun X Q hQ hX hl hR hEx ht => ?_)
  refine zV_loc (L' := [.ref (0 : Nat), .int (nI j), .int a, .int b, .null]) rfl ?_
  refine zV_aload_n hX dX10_value_0 rfl ?_
  refine zV_aload_n hX dX10_value_1 rfl ?_
  refine zV_getc hX dX10_value_2 zf_X10_19 zo0.1 rfl ?_
  refine zV_iload_n hX dX10_value_5 rfl ?_
  refine zK_cV1p hX hR hl dX10_value_6 (zCk.of (zc_holds l G _ 40 n _ zo40 (h40))) zt_X2_holds rfl zml_X10_83 zo40.1 ⟨by decide, by decide⟩ (Nat.le_of_ble_eq_true rfl) (by omega) ⟨rfl, rfl⟩ ?_
  dsimp only [Option.toList, List.cons_append, List.nil_append]
  refine zV_topi (zb true) (by rw [zmem_nI (by omega) (by omega), decide_eq_true hj]) ?_
  refine zK_cV1p hX hR hl dX10_value_9 (zCk.of (zc_such1 l G _)) zt_X10_needSuch rfl zml_X10_87 zo0.1 ⟨by decide, by decide⟩ (Nat.le_of_ble_eq_true rfl) (by omega) ⟨rfl, rfl⟩ ?_
  dsimp only [Option.toList, List.cons_append, List.nil_append]
  refine zV_aload_n hX dX10_value_12 rfl ?_
  refine zV_iload_n hX dX10_value_13 rfl ?_
  refine zV_iload_n hX dX10_value_14 rfl ?_
  refine zK_cS2p hX hR hl dX10_value_15 (zCk.of (zc_isFraction l G _ _ _)) zt_X10_isFraction rfl zml_X10_90 (by decide) (Nat.le_of_ble_eq_true rfl) (by omega) ⟨rfl, rfl⟩ ?_
  dsimp only [Option.toList, List.cons_append, List.nil_append]
  refine zV_topi (zb false) (by rw [hab]) ?_
  exact zX_cV1 hX hEx hR hl hQ ht dX10_value_18 (zc_need0 l G _ hst) zt_X10_need rfl zml_X10_72 zo0.1 ⟨by decide, by decide⟩ (Nat.le_of_ble_eq_true rfl) (by omega)
set_option maxHeartbeats 1000000 in
theorem zf_missing (l : Launch) (G : zG) (M : zM) (a b : Int32) (ha : mIn a (-99999) (nI 99999) = true) (hb : mIn b (nI 1) (nI 999) = true) : zC l G 9 yX10_missing cX10_missing 4 (Option.some Jvm.ClassFile.FieldType.int) [.ref (0 : Nat), .int a, .int b] M (zP (some (.int (M.1 40 2))) (zw M 40 2 (frac a b))) := by
  refine zC_of (by decide) (Nat.le_of_ble_eq_true rfl) (fun X Q hQ hX hl hR hr => ?_)
  refine zV_loc (L' := [.ref (0 : Nat), .int a, .int b, .null]) rfl ?_
  obtain ⟨s8, E8, T8, hf8⟩ := frac_fl ha hb
  refine zV_aload_n hX dX10_missing_0 rfl ?_
  refine zV_iload_n hX dX10_missing_1 rfl ?_
  refine zV_iload_n hX dX10_missing_2 rfl ?_
  refine zV_cS2p hX hR hl dX10_missing_3 (zc_isFraction l G _ _ _) zt_X10_isFraction rfl zml_X10_90 (by decide) (Nat.le_of_ble_eq_true rfl) ?_
  dsimp only [Option.toList, List.cons_append, List.nil_append]
  refine zV_topi (zb true) (by rw [ha, hb, Bool.true_and]) ?_
  refine zV_cV1p hX hR hl dX10_missing_6 (zc_need1 l G _) zt_X10_need rfl zml_X10_72 zo0.1 ⟨by decide, by decide⟩ (Nat.le_of_ble_eq_true rfl) ?_
  dsimp only [Option.toList, List.cons_append, List.nil_append]
  refine zV_aload_n hX dX10_missing_9 rfl ?_
  refine zV_getc hX dX10_missing_10 zf_X10_19 zo0.1 rfl ?_
  refine zV_geti hX dX10_missing_13 zf_X10_103 zo40.1 rfl rfl ?_
  refine zV_istore_n hX dX10_missing_16 (by decide) ?_
  dsimp only [zst1, zst2, zclr, zc2]
  refine zV_aload_n hX dX10_missing_17 rfl ?_
  refine zV_getc hX dX10_missing_18 zf_X10_19 zo0.1 rfl ?_
  refine zV_iload_n hX dX10_missing_21 rfl ?_
  refine zV_i2f hX dX10_missing_22 ?_
  refine zV_iload_n hX dX10_missing_23 rfl ?_
  refine zV_i2f hX dX10_missing_24 ?_
  refine zV_fdiv hX dX10_missing_25 (sq_n (fld_sq hf8)) ?_
  refine zV_cS1p hX hR hl dX10_missing_26 (zc_bitsOf l G _ _ s8 E8 T8 hf8) zt_X1_bitsOf rfl zml_X10_97 (by decide) (Nat.le_of_ble_eq_true rfl) ?_
  dsimp only [Option.toList, List.cons_append, List.nil_append]
  refine zV_puti hX dX10_missing_29 zf_X10_103 zp_1_2 zo40.1 rfl ?_
  refine zV_iload_n hX dX10_missing_32 rfl ?_
  exact zV_reti hX hQ hr (⟨rfl, rfl⟩) dX10_missing_33
set_option maxHeartbeats 1000000 in
theorem zf_missingA (l : Launch) (G : zG) (M : zM) (hst : l.stackTraces = false) (a b : Int32) (hab : (mIn a (-99999) (nI 99999) && mIn b (nI 1) (nI 999)) = false) : zCx l G 9 1 6 yX10_missing cX10_missing 4 (Option.some Jvm.ClassFile.FieldType.int) [.ref (0 : Nat), .int a, .int b] M zIAE (mBa M) := by
  refine zCx_of (by decide) (Nat.le_of_ble_eq_true rfl) (fun X Q hQ hX hl hR hEx ht => ?_)
  refine zV_loc (L' := [.ref (0 : Nat), .int a, .int b, .null]) rfl ?_
  refine zV_aload_n hX dX10_missing_0 rfl ?_
  refine zV_iload_n hX dX10_missing_1 rfl ?_
  refine zV_iload_n hX dX10_missing_2 rfl ?_
  refine zK_cS2p hX hR hl dX10_missing_3 (zCk.of (zc_isFraction l G _ _ _)) zt_X10_isFraction rfl zml_X10_90 (by decide) (Nat.le_of_ble_eq_true rfl) (by omega) ⟨rfl, rfl⟩ ?_
  dsimp only [Option.toList, List.cons_append, List.nil_append]
  refine zV_topi (zb false) (by rw [hab]) ?_
  exact zX_cV1 hX hEx hR hl hQ ht dX10_missing_6 (zc_need0 l G _ hst) zt_X10_need rfl zml_X10_72 zo0.1 ⟨by decide, by decide⟩ (Nat.le_of_ble_eq_true rfl) (by omega)
def rF5 (k : Nat) (x1 x2 x3 x4 x5 : Int32) (M : zM) : zM := (rAq x5 (k + 16) 4 (rAq x4 (k + 12) 4 (rAq x3 (k + 8) 4 (rAq x2 (k + 4) 4 (rAq x1 (k + 0) 4 M)))))
set_option maxHeartbeats 1000000 in
theorem zf_feed (l : Launch) (G : zG) (M : zM) (k : Nat) (x1 x2 x3 x4 x5 : Int32) (hs : M.1 20 0 = nI k) (hk : k ≤ 280) : zC l G 9 yX10_feed cX10_feed 6 (Option.some Jvm.ClassFile.FieldType.int) [.ref (0 : Nat), .int x1, .int x2, .int x3, .int x4, .int x5] M (zP (some (.int (nI (k + 20)))) (rF5 k x1 x2 x3 x4 x5 M)) := by
  refine zC_of (by decide) (Nat.le_of_ble_eq_true rfl) (fun X Q hQ hX hl hR hr => ?_)
  refine zV_loc (L' := [.ref (0 : Nat), .int x1, .int x2, .int x3, .int x4, .int x5]) rfl ?_
  have hs0 : M.1 20 0 = nI (k + 0) := hs
  have hs1 : (rAq x1 (k + 0) 4 M).1 20 0 = nI (k + 4) := rAq_0 (k := k + 0) (q := 4) hs0
  have hs2 : (rAq x2 (k + 4) 4 (rAq x1 (k + 0) 4 M)).1 20 0 = nI (k + 8) := rAq_0 (k := k + 4) (q := 4) hs1
  have hs3 : (rAq x3 (k + 8) 4 (rAq x2 (k + 4) 4 (rAq x1 (k + 0) 4 M))).1 20 0 = nI (k + 12) := rAq_0 (k := k + 8) (q := 4) hs2
  have hs4 : (rAq x4 (k + 12) 4 (rAq x3 (k + 8) 4 (rAq x2 (k + 4) 4 (rAq x1 (k + 0) 4 M)))).1 20 0 = nI (k + 16) := rAq_0 (k := k + 12) (q := 4) hs3
  have hs5 : (rAq x5 (k + 16) 4 (rAq x4 (k + 12) 4 (rAq x3 (k + 8) 4 (rAq x2 (k + 4) 4 (rAq x1 (k + 0) 4 M))))).1 20 0 = nI (k + 20) := rAq_0 (k := k + 16) (q := 4) hs4
  refine zV_aload_n hX dX10_feed_0 rfl ?_
  refine zV_getc hX dX10_feed_1 zf_X10_10 zo0.1 rfl ?_
  refine zV_cV0p hX hR hl dX10_feed_4 (zc_hasRoom l G M k hs (by omega)) zt_X7_hasRoom rfl zml_X10_107 zo20.1 ⟨by decide, by decide⟩ (Nat.le_of_ble_eq_true rfl) ?_
  dsimp only [Option.toList, List.cons_append, List.nil_append]
  refine zV_topi (zb true) (by rw [decide_eq_true hk]) ?_
  refine zV_if_neB hX (tgt := 12) dX10_feed_7 (by decide) (fun c_7 => ?_) (fun c_7 => absurd c_7 (by decide))
  refine zV_aload_n hX dX10_feed_12 rfl ?_
  refine zV_getc hX dX10_feed_13 zf_X10_10 zo0.1 rfl ?_
  refine zV_iload_n hX dX10_feed_16 rfl ?_
  refine zV_cV1p hX hR hl dX10_feed_17 (zc_append l G M (k + 0) x1 hs0 (by omega)) zt_X7_append rfl zml_X10_111 zo20.1 ⟨by decide, by decide⟩ (Nat.le_of_ble_eq_true rfl) ?_
  dsimp only [Option.toList, List.cons_append, List.nil_append]
  refine zV_aload_n hX dX10_feed_20 rfl ?_
  refine zV_getc hX dX10_feed_21 zf_X10_10 zo0.1 rfl ?_
  refine zV_iload_n hX dX10_feed_24 rfl ?_
  refine zV_cV1p hX hR hl dX10_feed_25 (zc_append l G (rAq x1 (k + 0) 4 M) (k + 4) x2 hs1 (by omega)) zt_X7_append rfl zml_X10_111 zo20.1 ⟨by decide, by decide⟩ (Nat.le_of_ble_eq_true rfl) ?_
  dsimp only [Option.toList, List.cons_append, List.nil_append]
  refine zV_aload_n hX dX10_feed_28 rfl ?_
  refine zV_getc hX dX10_feed_29 zf_X10_10 zo0.1 rfl ?_
  refine zV_iload_n hX dX10_feed_32 rfl ?_
  refine zV_cV1p hX hR hl dX10_feed_33 (zc_append l G (rAq x2 (k + 4) 4 (rAq x1 (k + 0) 4 M)) (k + 8) x3 hs2 (by omega)) zt_X7_append rfl zml_X10_111 zo20.1 ⟨by decide, by decide⟩ (Nat.le_of_ble_eq_true rfl) ?_
  dsimp only [Option.toList, List.cons_append, List.nil_append]
  refine zV_aload_n hX dX10_feed_36 rfl ?_
  refine zV_getc hX dX10_feed_37 zf_X10_10 zo0.1 rfl ?_
  refine zV_iload hX dX10_feed_40 rfl ?_
  refine zV_cV1p hX hR hl dX10_feed_42 (zc_append l G (rAq x3 (k + 8) 4 (rAq x2 (k + 4) 4 (rAq x1 (k + 0) 4 M))) (k + 12) x4 hs3 (by omega)) zt_X7_append rfl zml_X10_111 zo20.1 ⟨by decide, by decide⟩ (Nat.le_of_ble_eq_true rfl) ?_
  dsimp only [Option.toList, List.cons_append, List.nil_append]
  refine zV_aload_n hX dX10_feed_45 rfl ?_
  refine zV_getc hX dX10_feed_46 zf_X10_10 zo0.1 rfl ?_
  refine zV_iload hX dX10_feed_49 rfl ?_
  refine zV_cV1p hX hR hl dX10_feed_51 (zc_append l G (rAq x4 (k + 12) 4 (rAq x3 (k + 8) 4 (rAq x2 (k + 4) 4 (rAq x1 (k + 0) 4 M)))) (k + 16) x5 hs4 (by omega)) zt_X7_append rfl zml_X10_111 zo20.1 ⟨by decide, by decide⟩ (Nat.le_of_ble_eq_true rfl) ?_
  dsimp only [Option.toList, List.cons_append, List.nil_append]
  refine zV_aload_n hX dX10_feed_54 rfl ?_
  refine zV_getc hX dX10_feed_55 zf_X10_10 zo0.1 rfl ?_
  refine zV_geti hX (x := nI (k + 20)) dX10_feed_58 zf_X10_115 zo20.1 rfl (hs5) ?_
  exact zV_reti hX hQ hr (⟨rfl, rfl⟩) dX10_feed_61
set_option maxHeartbeats 1000000 in
theorem zf_feedN (l : Launch) (G : zG) (M : zM) (k : Nat) (x1 x2 x3 x4 x5 : Int32) (hs : M.1 20 0 = nI k) (hk : 280 < k) (hk3 : k ≤ 300) : zC l G 9 yX10_feed cX10_feed 6 (Option.some Jvm.ClassFile.FieldType.int) [.ref (0 : Nat), .int x1, .int x2, .int x3, .int x4, .int x5] M (zP (some (.int (-1))) (M)) := by
  refine zC_of (by decide) (Nat.le_of_ble_eq_true rfl) (fun X Q hQ hX hl hR hr => ?_)
  refine zV_loc (L' := [.ref (0 : Nat), .int x1, .int x2, .int x3, .int x4, .int x5]) rfl ?_
  refine zV_aload_n hX dX10_feed_0 rfl ?_
  refine zV_getc hX dX10_feed_1 zf_X10_10 zo0.1 rfl ?_
  refine zV_cV0p hX hR hl dX10_feed_4 (zc_hasRoom l G M k hs hk3) zt_X7_hasRoom rfl zml_X10_107 zo20.1 ⟨by decide, by decide⟩ (Nat.le_of_ble_eq_true rfl) ?_
  dsimp only [Option.toList, List.cons_append, List.nil_append]
  refine zV_topi (zb false) (by rw [decide_eq_false (by omega)]) ?_
  refine zV_if_neB hX (tgt := 12) dX10_feed_7 (by decide) (fun c_7 => absurd c_7 (by decide)) (fun c_7 => ?_)
  refine zV_iconst hX (v := (-1)) dX10_feed_10 (by decide) ?_
  exact zV_reti hX hQ hr (⟨rfl, rfl⟩) dX10_feed_11
set_option maxHeartbeats 1000000 in
theorem zf_fault (l : Launch) (G : zG) (M : zM)  : zC l G 9 yX10_fault cX10_fault 1 (Option.some Jvm.ClassFile.FieldType.int) [.ref (0 : Nat)] M (zP (some (.int (M.1 20 1))) (M)) := by
  refine zC_of (by decide) (Nat.le_of_ble_eq_true rfl) (fun X Q hQ hX hl hR hr => ?_)
  refine zV_loc (L' := [.ref (0 : Nat)]) rfl ?_
  refine zV_aload_n hX dX10_fault_0 rfl ?_
  refine zV_getc hX dX10_fault_1 zf_X10_10 zo0.1 rfl ?_
  refine zV_geti hX (x := M.1 20 1) dX10_fault_4 zf_X10_143 zo20.1 rfl (rfl) ?_
  exact zV_reti hX hQ hr (⟨rfl, rfl⟩) dX10_fault_7
set_option maxHeartbeats 1000000 in
theorem zf_status (l : Launch) (G : zG) (M : zM) (x : Int32) : zC l G 9 yX10_status cX10_status 2 (Option.some Jvm.ClassFile.FieldType.int) [.ref (0 : Nat), .int x] M (zP (some (.int (if x = 0 then M.1 0 10 else if x = nI 1 then M.1 0 11 else -1))) (M)) := by
  refine zC_of (by decide) (Nat.le_of_ble_eq_true rfl) (fun X Q hQ hX hl hR hr => ?_)
  refine zV_loc (L' := [.ref (0 : Nat), .int x]) rfl ?_
  refine zV_iload_n hX dX10_status_0 rfl ?_
  refine zV_if_ne hX (tgt := 9) dX10_status_1 (by decide) (fun c_1 => ?_) (fun c_1 => ?_)
  · refine zV_iload_n hX dX10_status_9 rfl ?_
    refine zV_iconst hX (v := nI 1) dX10_status_10 (by decide) ?_
    refine zV_icmp_ne hX (tgt := 21) dX10_status_11 (by decide) (fun c_11 => ?_) (fun c_11 => ?_)
    · refine zV_iconst hX (v := (-1)) dX10_status_21 (by decide) ?_
      exact zV_reti hX hQ hr (⟨by first | (rw [if_neg c_1, if_pos c_11]; done) | (rw [if_neg c_1, if_neg c_11]; done), rfl⟩) dX10_status_22
    · refine zV_aload_n hX dX10_status_14 rfl ?_
      refine zV_geti hX (x := M.1 0 11) dX10_status_15 zf_X10_338 zo0.1 rfl (rfl) ?_
      refine zV_goto hX (tgt := 22) dX10_status_18 (by decide) ?_
      exact zV_reti hX hQ hr (⟨by first | (rw [if_neg c_1, if_pos c_11]; done) | (rw [if_neg c_1, if_neg c_11]; done), rfl⟩) dX10_status_22
  · refine zV_aload_n hX dX10_status_4 rfl ?_
    refine zV_geti hX (x := M.1 0 10) dX10_status_5 zf_X10_335 zo0.1 rfl (rfl) ?_
    exact zV_reti hX hQ hr (⟨by rw [if_pos c_1], rfl⟩) dX10_status_8
def fMs (n : Nat) : Nat → Nat × Nat
  | 0 => (1, 0)
  | i + 1 => ((fMs n i).1 * (n - (i + 1)), (fMs n i).2 + (fMs n i).1 * (n - (i + 1)))
set_option maxHeartbeats 1000000 in
theorem zc_fmessagesOf (l : Launch) (G : zG) (M : zM) (n r : Nat) (hn : n ≤ 7) (hr9 : r ≤ 3) (hrn : r ≤ n) : zC l G 0 yX10_messagesOf cX10_messagesOf 5 (Option.some Jvm.ClassFile.FieldType.int) [.int (nI n), .int (nI r)] M (zP (some (.int (nI (fMs n r).2))) M) := by
  refine zC_of (by decide) (Nat.le_of_ble_eq_true rfl) (fun X Q hQ hX hl hR hr => ?_)
  refine zV_loc (L' := [.int (nI n), .int (nI r), .null, .null, .null]) rfl ?_
  have L7 : ∀ (f9 k : Nat), r - k < f9 → k ≤ r → zV G X Q 5 0 0 7 [.int (nI n), .int (nI r), .int (nI (fMs n k).1), .int (nI (fMs n k).2), .int (nI (k + 1))] [] M := by
    intro f9
    induction f9 with
    | zero => intro k hk1 hk2; exact absurd hk1 (Nat.not_lt_zero _)
    | succ f9 ih =>
      intro k hk1 hk2
      refine zV_iload hX dX10_messagesOf_7 rfl ?_
      refine zV_iload_n hX dX10_messagesOf_9 rfl ?_
      refine zV_icmp_gtN hX (tgt := 30) dX10_messagesOf_10 (by decide) ⟨by omega, by omega⟩ (fun c_10 => ?_) (fun c_10 => ?_)
      · refine zV_iload_n hX dX10_messagesOf_30 rfl ?_
        exact zV_reti hX hQ hr (⟨by rw [show k = r by omega], rfl⟩) dX10_messagesOf_31
      · refine zV_iload_n hX dX10_messagesOf_13 rfl ?_
        refine zV_iload_n hX dX10_messagesOf_14 rfl ?_
        refine zV_iload hX dX10_messagesOf_15 rfl ?_
        refine zV_isubN hX dX10_messagesOf_17 (by omega) ?_
        refine zV_imulN hX dX10_messagesOf_18 ?_
        refine zV_istore_n hX dX10_messagesOf_19 (by decide) ?_
        dsimp only [zst1, zst2, zclr, zc2]
        refine zV_iload_n hX dX10_messagesOf_20 rfl ?_
        refine zV_iload_n hX dX10_messagesOf_21 rfl ?_
        refine zV_iaddN hX dX10_messagesOf_22 ?_
        refine zV_istore_n hX dX10_messagesOf_23 (by decide) ?_
        dsimp only [zst1, zst2, zclr, zc2]
        refine zV_iincN hX (b := 1) dX10_messagesOf_24 rfl (by decide) ?_
        dsimp only [zst1, zst2, zclr, zc2]
        refine zV_goto hX (tgt := 7) dX10_messagesOf_27 (by decide) ?_
        exact ih (k + 1) (by omega) (by omega)
  refine zV_iconst hX (v := nI 1) dX10_messagesOf_0 (by decide) ?_
  refine zV_istore_n hX dX10_messagesOf_1 (by decide) ?_
  dsimp only [zst1, zst2, zclr, zc2]
  refine zV_iconst hX (v := nI 0) dX10_messagesOf_2 (by decide) ?_
  refine zV_istore_n hX dX10_messagesOf_3 (by decide) ?_
  dsimp only [zst1, zst2, zclr, zc2]
  refine zV_iconst hX (v := nI 1) dX10_messagesOf_4 (by decide) ?_
  refine zV_istore hX dX10_messagesOf_5 (by decide) ?_
  dsimp only [zst1, zst2, zclr, zc2]
  exact L7 (r + 1) 0 (by omega) (by omega)
set_option maxHeartbeats 1000000 in
theorem zf_messages (l : Launch) (G : zG) (M : zM) (a b : Nat) (ha : 3 ≤ a ∧ a ≤ 7) (hb : 1 ≤ b ∧ b ≤ 3) : zC l G 9 yX10_messages cX10_messages 3 (Option.some Jvm.ClassFile.FieldType.int) [.ref (0 : Nat), .int (nI a), .int (nI b)] M (zP (some (.int (nI (fMs a b).2))) (M)) := by
  refine zC_of (by decide) (Nat.le_of_ble_eq_true rfl) (fun X Q hQ hX hl hR hr => ?_)
  refine zV_loc (L' := [.ref (0 : Nat), .int (nI a), .int (nI b)]) rfl ?_
  refine zV_aload_n hX dX10_messages_0 rfl ?_
  refine zV_iload_n hX dX10_messages_1 rfl ?_
  refine zV_iconst hX (v := nI 3) dX10_messages_2 (by decide) ?_
  refine zV_icmp_ltN hX (tgt := 26) dX10_messages_3 (by decide) ⟨by omega, by omega⟩ (fun c_3 => ?_) (fun c_3 => ?_)
  · refine zV_iconst hX (v := nI 0) dX10_messages_26 (by decide) ?_
    refine zV_topi (zb false) rfl ?_
    exfalso
    omega
  · refine zV_iload_n hX dX10_messages_6 rfl ?_
    refine zV_bipush hX (v := nI 7) dX10_messages_7 (by decide) ?_
    refine zV_icmp_gtN hX (tgt := 26) dX10_messages_9 (by decide) ⟨by omega, by omega⟩ (fun c_9 => ?_) (fun c_9 => ?_)
    · refine zV_iconst hX (v := nI 0) dX10_messages_26 (by decide) ?_
      refine zV_topi (zb false) rfl ?_
      exfalso
      omega
    · refine zV_iload_n hX dX10_messages_12 rfl ?_
      refine zV_iconst hX (v := nI 1) dX10_messages_13 (by decide) ?_
      refine zV_icmp_ltN hX (tgt := 26) dX10_messages_14 (by decide) ⟨by omega, by omega⟩ (fun c_14 => ?_) (fun c_14 => ?_)
      · refine zV_iconst hX (v := nI 0) dX10_messages_26 (by decide) ?_
        refine zV_topi (zb false) rfl ?_
        exfalso
        omega
      · refine zV_iload_n hX dX10_messages_17 rfl ?_
        refine zV_iconst hX (v := nI 3) dX10_messages_18 (by decide) ?_
        refine zV_icmp_gtN hX (tgt := 26) dX10_messages_19 (by decide) ⟨by omega, by omega⟩ (fun c_19 => ?_) (fun c_19 => ?_)
        · refine zV_iconst hX (v := nI 0) dX10_messages_26 (by decide) ?_
          refine zV_topi (zb false) rfl ?_
          exfalso
          omega
        · refine zV_iconst hX (v := nI 1) dX10_messages_22 (by decide) ?_
          refine zV_goto hX (tgt := 27) dX10_messages_23 (by decide) ?_
          refine zV_topi (zb true) rfl ?_
          refine zV_cV1p hX hR hl dX10_messages_27 (zc_need1 l G _) zt_X10_need rfl zml_X10_72 zo0.1 ⟨by decide, by decide⟩ (Nat.le_of_ble_eq_true rfl) ?_
          dsimp only [Option.toList, List.cons_append, List.nil_append]
          refine zV_iload_n hX dX10_messages_30 rfl ?_
          refine zV_iload_n hX dX10_messages_31 rfl ?_
          refine zV_cS2p hX hR hl dX10_messages_32 (zc_fmessagesOf l G _ a b (by omega) (by omega) (by omega)) zt_X10_messagesOf rfl zml_X10_288 (by decide) (Nat.le_of_ble_eq_true rfl) ?_
          dsimp only [Option.toList, List.cons_append, List.nil_append]
          exact zV_reti hX hQ hr (⟨rfl, rfl⟩) dX10_messages_35
set_option maxHeartbeats 1000000 in
theorem zf_messagesX (l : Launch) (G : zG) (M : zM) (hst : l.stackTraces = false) (x z : Int32) (hx : (mIn x (nI 3) (nI 7) && mIn z (nI 1) (nI 3)) = false) : zCx l G 9 1 6 yX10_messages cX10_messages 3 (Option.some Jvm.ClassFile.FieldType.int) [.ref (0 : Nat), .int x, .int z] M zIAE (mBa M) := by
  refine zCx_of (by decide) (Nat.le_of_ble_eq_true rfl) (fun X Q hQ hX hl hR hEx ht => ?_)
  refine zV_loc (L' := [.ref (0 : Nat), .int x, .int z]) rfl ?_
  refine zV_aload_n hX dX10_messages_0 rfl ?_
  refine zV_iload_n hX dX10_messages_1 rfl ?_
  refine zV_iconst hX (v := nI 3) dX10_messages_2 (by decide) ?_
  refine zV_icmp_lt hX (tgt := 26) dX10_messages_3 (by decide) (fun c_3 => ?_) (fun c_3 => ?_)
  · refine zV_iconst hX (v := nI 0) dX10_messages_26 (by decide) ?_
    refine zV_topi (zb false) rfl ?_
    exact zX_cV1 hX hEx hR hl hQ ht dX10_messages_27 (zc_need0 l G _ hst) zt_X10_need rfl zml_X10_72 zo0.1 ⟨by decide, by decide⟩ (Nat.le_of_ble_eq_true rfl) (by omega)
  · refine zV_iload_n hX dX10_messages_6 rfl ?_
    refine zV_bipush hX (v := nI 7) dX10_messages_7 (by decide) ?_
    refine zV_icmp_gt hX (tgt := 26) dX10_messages_9 (by decide) (fun c_9 => ?_) (fun c_9 => ?_)
    · refine zV_iconst hX (v := nI 0) dX10_messages_26 (by decide) ?_
      refine zV_topi (zb false) rfl ?_
      exact zX_cV1 hX hEx hR hl hQ ht dX10_messages_27 (zc_need0 l G _ hst) zt_X10_need rfl zml_X10_72 zo0.1 ⟨by decide, by decide⟩ (Nat.le_of_ble_eq_true rfl) (by omega)
    · refine zV_iload_n hX dX10_messages_12 rfl ?_
      refine zV_iconst hX (v := nI 1) dX10_messages_13 (by decide) ?_
      refine zV_icmp_lt hX (tgt := 26) dX10_messages_14 (by decide) (fun c_14 => ?_) (fun c_14 => ?_)
      · refine zV_iconst hX (v := nI 0) dX10_messages_26 (by decide) ?_
        refine zV_topi (zb false) rfl ?_
        exact zX_cV1 hX hEx hR hl hQ ht dX10_messages_27 (zc_need0 l G _ hst) zt_X10_need rfl zml_X10_72 zo0.1 ⟨by decide, by decide⟩ (Nat.le_of_ble_eq_true rfl) (by omega)
      · refine zV_iload_n hX dX10_messages_17 rfl ?_
        refine zV_iconst hX (v := nI 3) dX10_messages_18 (by decide) ?_
        refine zV_icmp_gt hX (tgt := 26) dX10_messages_19 (by decide) (fun c_19 => ?_) (fun c_19 => ?_)
        · refine zV_iconst hX (v := nI 0) dX10_messages_26 (by decide) ?_
          refine zV_topi (zb false) rfl ?_
          exact zX_cV1 hX hEx hR hl hQ ht dX10_messages_27 (zc_need0 l G _ hst) zt_X10_need rfl zml_X10_72 zo0.1 ⟨by decide, by decide⟩ (Nat.le_of_ble_eq_true rfl) (by omega)
        · refine zV_iconst hX (v := nI 1) dX10_messages_22 (by decide) ?_
          refine zV_goto hX (tgt := 27) dX10_messages_23 (by decide) ?_
          refine zV_topi (zb true) rfl ?_
          rw [mIn_t c_3 c_9, mIn_t c_14 c_19] at hx
          exact absurd hx (by decide)
theorem zmax_nI {a b : Nat} (ha : a < 2 ^ 31) (hb : b < 2 ^ 31) : zmax (nI a) (nI b) = nI (max a b) := by
  unfold zmax
  by_cases h : a < b
  · rw [if_pos ((nI_ltI ha hb).mpr h), Nat.max_eq_right (by omega)]
  · rw [if_neg (fun q => h ((nI_ltI ha hb).mp q)), Nat.max_eq_left (by omega)]
set_option maxHeartbeats 1000000 in
theorem zf_fewest (l : Launch) (G : zG) (M : zM) (a b : Nat) (ha : a ≤ 2) (hb : b < 2) : zC l G 9 yX10_fewest cX10_fewest 4 (Option.some Jvm.ClassFile.FieldType.int) [.ref (0 : Nat), .int (nI a), .int (nI b)] M (zP (some (.int (if b = 0 then nI (max 3 (3 * a + 1)) else nI (fMs (max 3 (3 * a + 1)) (a + 1)).2))) (M)) := by
  refine zC_of (by decide) (Nat.le_of_ble_eq_true rfl) (fun X Q hQ hX hl hR hr => ?_)
  refine zV_loc (L' := [.ref (0 : Nat), .int (nI a), .int (nI b), .null]) rfl ?_
  refine zV_aload_n hX dX10_fewest_0 rfl ?_
  refine zV_iload_n hX dX10_fewest_1 rfl ?_
  refine zV_if_ltN hX (tgt := 23) dX10_fewest_2 (by decide) (by omega) (fun c_2 => ?_)
  refine zV_iload_n hX dX10_fewest_5 rfl ?_
  refine zV_iconst hX (v := nI 2) dX10_fewest_6 (by decide) ?_
  refine zV_icmp_gtN hX (tgt := 23) dX10_fewest_7 (by decide) ⟨by omega, by omega⟩ (fun c_7 => ?_) (fun c_7 => ?_)
  · refine zV_iconst hX (v := nI 0) dX10_fewest_23 (by decide) ?_
    refine zV_topi (zb false) rfl ?_
    exfalso
    omega
  · refine zV_iload_n hX dX10_fewest_10 rfl ?_
    refine zV_if_eqN hX (tgt := 19) dX10_fewest_11 (by decide) (by omega) (fun c_11 => ?_) (fun c_11 => ?_)
    · refine zV_iconst hX (v := nI 1) dX10_fewest_19 (by decide) ?_
      refine zV_goto hX (tgt := 24) dX10_fewest_20 (by decide) ?_
      refine zV_topi (zb true) rfl ?_
      refine zV_cV1p hX hR hl dX10_fewest_24 (zc_need1 l G _) zt_X10_need rfl zml_X10_72 zo0.1 ⟨by decide, by decide⟩ (Nat.le_of_ble_eq_true rfl) ?_
      dsimp only [Option.toList, List.cons_append, List.nil_append]
      refine zV_iconst hX (v := nI 3) dX10_fewest_27 (by decide) ?_
      refine zV_iconst hX (v := nI 3) dX10_fewest_28 (by decide) ?_
      refine zV_iload_n hX dX10_fewest_29 rfl ?_
      refine zV_imulN hX dX10_fewest_30 ?_
      refine zV_iconst hX (v := nI 1) dX10_fewest_31 (by decide) ?_
      refine zV_iaddN hX dX10_fewest_32 ?_
      refine zV_max hX hR dX10_fewest_33 zml_X10_330 (Nat.le_of_ble_eq_true rfl) ?_
      refine zV_topi (nI (max 3 (3 * a + 1))) (by rw [← zmax_nI (by omega) (by omega)]) ?_
      refine zV_istore_n hX dX10_fewest_36 (by decide) ?_
      dsimp only [zst1, zst2, zclr, zc2]
      refine zV_iload_n hX dX10_fewest_37 rfl ?_
      refine zV_if_neN hX (tgt := 45) dX10_fewest_38 (by decide) (by omega) (fun c_38 => ?_) (fun c_38 => ?_)
      · refine zV_iload_n hX dX10_fewest_45 rfl ?_
        refine zV_iload_n hX dX10_fewest_46 rfl ?_
        refine zV_iconst hX (v := nI 1) dX10_fewest_47 (by decide) ?_
        refine zV_iaddN hX dX10_fewest_48 ?_
        refine zV_cS2p hX hR hl dX10_fewest_49 (zc_fmessagesOf l G _ (max 3 (3 * a + 1)) (a + 1) (by omega) (by omega) (by omega)) zt_X10_messagesOf rfl zml_X10_288 (by decide) (Nat.le_of_ble_eq_true rfl) ?_
        dsimp only [Option.toList, List.cons_append, List.nil_append]
        exact zV_reti hX hQ hr (⟨by first | (rw [if_pos c_38]; done) | (rw [if_neg (by omega)]; done), rfl⟩) dX10_fewest_52
      · refine zV_iload_n hX dX10_fewest_41 rfl ?_
        refine zV_goto hX (tgt := 52) dX10_fewest_42 (by decide) ?_
        exact zV_reti hX hQ hr (⟨by first | (rw [if_pos c_38]; done) | (rw [if_neg (by omega)]; done), rfl⟩) dX10_fewest_52
    · refine zV_iload_n hX dX10_fewest_14 rfl ?_
      refine zV_iconst hX (v := nI 1) dX10_fewest_15 (by decide) ?_
      refine zV_icmp_neN hX (tgt := 23) dX10_fewest_16 (by decide) ⟨by omega, by omega⟩ (fun c_16 => ?_) (fun c_16 => ?_)
      · refine zV_iconst hX (v := nI 0) dX10_fewest_23 (by decide) ?_
        refine zV_topi (zb false) rfl ?_
        exfalso
        omega
      · refine zV_iconst hX (v := nI 1) dX10_fewest_19 (by decide) ?_
        refine zV_goto hX (tgt := 24) dX10_fewest_20 (by decide) ?_
        refine zV_topi (zb true) rfl ?_
        refine zV_cV1p hX hR hl dX10_fewest_24 (zc_need1 l G _) zt_X10_need rfl zml_X10_72 zo0.1 ⟨by decide, by decide⟩ (Nat.le_of_ble_eq_true rfl) ?_
        dsimp only [Option.toList, List.cons_append, List.nil_append]
        refine zV_iconst hX (v := nI 3) dX10_fewest_27 (by decide) ?_
        refine zV_iconst hX (v := nI 3) dX10_fewest_28 (by decide) ?_
        refine zV_iload_n hX dX10_fewest_29 rfl ?_
        refine zV_imulN hX dX10_fewest_30 ?_
        refine zV_iconst hX (v := nI 1) dX10_fewest_31 (by decide) ?_
        refine zV_iaddN hX dX10_fewest_32 ?_
        refine zV_max hX hR dX10_fewest_33 zml_X10_330 (Nat.le_of_ble_eq_true rfl) ?_
        refine zV_topi (nI (max 3 (3 * a + 1))) (by rw [← zmax_nI (by omega) (by omega)]) ?_
        refine zV_istore_n hX dX10_fewest_36 (by decide) ?_
        dsimp only [zst1, zst2, zclr, zc2]
        refine zV_iload_n hX dX10_fewest_37 rfl ?_
        refine zV_if_neN hX (tgt := 45) dX10_fewest_38 (by decide) (by omega) (fun c_38 => ?_) (fun c_38 => ?_)
        · refine zV_iload_n hX dX10_fewest_45 rfl ?_
          refine zV_iload_n hX dX10_fewest_46 rfl ?_
          refine zV_iconst hX (v := nI 1) dX10_fewest_47 (by decide) ?_
          refine zV_iaddN hX dX10_fewest_48 ?_
          refine zV_cS2p hX hR hl dX10_fewest_49 (zc_fmessagesOf l G _ (max 3 (3 * a + 1)) (a + 1) (by omega) (by omega) (by omega)) zt_X10_messagesOf rfl zml_X10_288 (by decide) (Nat.le_of_ble_eq_true rfl) ?_
          dsimp only [Option.toList, List.cons_append, List.nil_append]
          exact zV_reti hX hQ hr (⟨by first | (rw [if_pos c_38]; done) | (rw [if_neg (by omega)]; done), rfl⟩) dX10_fewest_52
        · refine zV_iload_n hX dX10_fewest_41 rfl ?_
          refine zV_goto hX (tgt := 52) dX10_fewest_42 (by decide) ?_
          exact zV_reti hX hQ hr (⟨by first | (rw [if_pos c_38]; done) | (rw [if_neg (by omega)]; done), rfl⟩) dX10_fewest_52
set_option maxHeartbeats 1000000 in
theorem zf_fewestX (l : Launch) (G : zG) (M : zM) (hst : l.stackTraces = false) (x z : Int32) (hx : (mIn x (nI 0) (nI 2) && mIn z (nI 0) (nI 1)) = false) : zCx l G 9 1 6 yX10_fewest cX10_fewest 4 (Option.some Jvm.ClassFile.FieldType.int) [.ref (0 : Nat), .int x, .int z] M zIAE (mBa M) := by
  refine zCx_of (by decide) (Nat.le_of_ble_eq_true rfl) (fun X Q hQ hX hl hR hEx ht => ?_)
  refine zV_loc (L' := [.ref (0 : Nat), .int x, .int z, .null]) rfl ?_
  refine zV_aload_n hX dX10_fewest_0 rfl ?_
  refine zV_iload_n hX dX10_fewest_1 rfl ?_
  refine zV_if_lt hX (tgt := 23) dX10_fewest_2 (by decide) (fun c_2 => ?_) (fun c_2 => ?_)
  · refine zV_iconst hX (v := nI 0) dX10_fewest_23 (by decide) ?_
    refine zV_topi (zb false) rfl ?_
    exact zX_cV1 hX hEx hR hl hQ ht dX10_fewest_24 (zc_need0 l G _ hst) zt_X10_need rfl zml_X10_72 zo0.1 ⟨by decide, by decide⟩ (Nat.le_of_ble_eq_true rfl) (by omega)
  · refine zV_iload_n hX dX10_fewest_5 rfl ?_
    refine zV_iconst hX (v := nI 2) dX10_fewest_6 (by decide) ?_
    refine zV_icmp_gt hX (tgt := 23) dX10_fewest_7 (by decide) (fun c_7 => ?_) (fun c_7 => ?_)
    · refine zV_iconst hX (v := nI 0) dX10_fewest_23 (by decide) ?_
      refine zV_topi (zb false) rfl ?_
      exact zX_cV1 hX hEx hR hl hQ ht dX10_fewest_24 (zc_need0 l G _ hst) zt_X10_need rfl zml_X10_72 zo0.1 ⟨by decide, by decide⟩ (Nat.le_of_ble_eq_true rfl) (by omega)
    · refine zV_iload_n hX dX10_fewest_10 rfl ?_
      refine zV_if_eq hX (tgt := 19) dX10_fewest_11 (by decide) (fun c_11 => ?_) (fun c_11 => ?_)
      · refine zV_iconst hX (v := nI 1) dX10_fewest_19 (by decide) ?_
        refine zV_goto hX (tgt := 24) dX10_fewest_20 (by decide) ?_
        refine zV_topi (zb true) rfl ?_
        first | (rw [mIn_t (show ¬ x < nI 0 from c_2) c_7, mIn_e0 c_11] at hx; exact absurd hx (by decide)) | (rw [mIn_t (show ¬ x < nI 0 from c_2) c_7, mIn_e1 c_16] at hx; exact absurd hx (by decide))
      · refine zV_iload_n hX dX10_fewest_14 rfl ?_
        refine zV_iconst hX (v := nI 1) dX10_fewest_15 (by decide) ?_
        refine zV_icmp_ne hX (tgt := 23) dX10_fewest_16 (by decide) (fun c_16 => ?_) (fun c_16 => ?_)
        · refine zV_iconst hX (v := nI 0) dX10_fewest_23 (by decide) ?_
          refine zV_topi (zb false) rfl ?_
          exact zX_cV1 hX hEx hR hl hQ ht dX10_fewest_24 (zc_need0 l G _ hst) zt_X10_need rfl zml_X10_72 zo0.1 ⟨by decide, by decide⟩ (Nat.le_of_ble_eq_true rfl) (by omega)
        · refine zV_iconst hX (v := nI 1) dX10_fewest_19 (by decide) ?_
          refine zV_goto hX (tgt := 24) dX10_fewest_20 (by decide) ?_
          refine zV_topi (zb true) rfl ?_
          first | (rw [mIn_t (show ¬ x < nI 0 from c_2) c_7, mIn_e0 c_11] at hx; exact absurd hx (by decide)) | (rw [mIn_t (show ¬ x < nI 0 from c_2) c_7, mIn_e1 c_16] at hx; exact absurd hx (by decide))
set_option maxHeartbeats 1000000 in
theorem zf_told (l : Launch) (G : zG) (M : zM) (lc n t : Nat) (cn : Nat → Nat) (j : Nat)  (h40 : M.1 40 0 = nI n) (hn7 : n ≤ 7) (h41 : M.1 40 1 = nI t) (ht2 : t ≤ 2) (h43 : M.1 40 3 = nI lc) (hL : lyL lc) (hcn : lyN lc M cn) (hj : j ≤ 9) : zC l G 9 yX10_told cX10_told 2 (Option.some Jvm.ClassFile.FieldType.int) [.ref (0 : Nat), .int (nI j)] M (zP (some (.int (fTd lc t M j))) (M)) := by
  refine zC_of (by decide) (Nat.le_of_ble_eq_true rfl) (fun X Q hQ hX hl hR hr => ?_)
  refine zV_loc (L' := [.ref (0 : Nat), .int (nI j)]) rfl ?_
  refine zV_iload_n hX dX10_told_0 rfl ?_
  refine zV_case 0 (fun s_0 => ?_) (fun s_0 => ?_)
  · refine zV_tin hX (tgt := 56) dX10_told_1 (by decide) (by decide) (off := 55) (by decide) (by decide) ?_
    refine zV_aload_n hX dX10_told_56 rfl ?_
    refine zV_getc hX dX10_told_57 zf_X10_19 zo0.1 rfl ?_
    refine zV_geti hX (x := M.1 40 0) dX10_told_60 zf_X10_118 zo40.1 rfl (rfl) ?_
    exact zV_reti hX hQ hr (⟨by (first | rw [show j = 0 from (nI_eq (by omega) (by decide)).mp s_0] | rw [show j = 1 from (nI_eq (by omega) (by decide)).mp s_1] | rw [show j = 2 from (nI_eq (by omega) (by decide)).mp s_2] | rw [show j = 3 from (nI_eq (by omega) (by decide)).mp s_3] | rw [show j = 4 from (nI_eq (by omega) (by decide)).mp s_4] | rw [show j = 5 from (nI_eq (by omega) (by decide)).mp s_5] | rw [show j = 6 from (nI_eq (by omega) (by decide)).mp s_6] | rw [show j = 7 from (nI_eq (by omega) (by decide)).mp s_7] | rw [show j = 8 from (nI_eq (by omega) (by decide)).mp s_8] | rw [td9 j hj s_0 s_1 s_2 s_3 s_4 s_5 s_6 s_7 s_8]); rfl, rfl⟩) dX10_told_63
  refine zV_case 1 (fun s_1 => ?_) (fun s_1 => ?_)
  · refine zV_tin hX (tgt := 64) dX10_told_1 (by decide) (by decide) (off := 63) (by decide) (by decide) ?_
    refine zV_aload_n hX dX10_told_64 rfl ?_
    refine zV_getc hX dX10_told_65 zf_X10_19 zo0.1 rfl ?_
    refine zV_geti hX (x := M.1 40 1) dX10_told_68 zf_X10_153 zo40.1 rfl (rfl) ?_
    exact zV_reti hX hQ hr (⟨by (first | rw [show j = 0 from (nI_eq (by omega) (by decide)).mp s_0] | rw [show j = 1 from (nI_eq (by omega) (by decide)).mp s_1] | rw [show j = 2 from (nI_eq (by omega) (by decide)).mp s_2] | rw [show j = 3 from (nI_eq (by omega) (by decide)).mp s_3] | rw [show j = 4 from (nI_eq (by omega) (by decide)).mp s_4] | rw [show j = 5 from (nI_eq (by omega) (by decide)).mp s_5] | rw [show j = 6 from (nI_eq (by omega) (by decide)).mp s_6] | rw [show j = 7 from (nI_eq (by omega) (by decide)).mp s_7] | rw [show j = 8 from (nI_eq (by omega) (by decide)).mp s_8] | rw [td9 j hj s_0 s_1 s_2 s_3 s_4 s_5 s_6 s_7 s_8]); rfl, rfl⟩) dX10_told_71
  refine zV_case 2 (fun s_2 => ?_) (fun s_2 => ?_)
  · refine zV_tin hX (tgt := 72) dX10_told_1 (by decide) (by decide) (off := 71) (by decide) (by decide) ?_
    refine zV_aload_n hX dX10_told_72 rfl ?_
    refine zV_getc hX dX10_told_73 zf_X10_19 zo0.1 rfl ?_
    refine zV_cV0p hX hR hl dX10_told_76 (zc_rounds l G _ 40 t zo40 h41) zt_X2_rounds rfl zml_X10_79 zo40.1 ⟨by decide, by decide⟩ (Nat.le_of_ble_eq_true rfl) ?_
    dsimp only [Option.toList, List.cons_append, List.nil_append]
    exact zV_reti hX hQ hr (⟨by (first | rw [show j = 0 from (nI_eq (by omega) (by decide)).mp s_0] | rw [show j = 1 from (nI_eq (by omega) (by decide)).mp s_1] | rw [show j = 2 from (nI_eq (by omega) (by decide)).mp s_2] | rw [show j = 3 from (nI_eq (by omega) (by decide)).mp s_3] | rw [show j = 4 from (nI_eq (by omega) (by decide)).mp s_4] | rw [show j = 5 from (nI_eq (by omega) (by decide)).mp s_5] | rw [show j = 6 from (nI_eq (by omega) (by decide)).mp s_6] | rw [show j = 7 from (nI_eq (by omega) (by decide)).mp s_7] | rw [show j = 8 from (nI_eq (by omega) (by decide)).mp s_8] | rw [td9 j hj s_0 s_1 s_2 s_3 s_4 s_5 s_6 s_7 s_8]); rfl, rfl⟩) dX10_told_79
  refine zV_case 3 (fun s_3 => ?_) (fun s_3 => ?_)
  · refine zV_tin hX (tgt := 80) dX10_told_1 (by decide) (by decide) (off := 79) (by decide) (by decide) ?_
    refine zV_aload_n hX dX10_told_80 rfl ?_
    refine zV_getc hX dX10_told_81 zf_X10_19 zo0.1 rfl ?_
    refine zV_getp hX dX10_told_84 zf_X10_125 zo40.1 rfl (h43) hL.lt ?_
    refine zV_geti hX dX10_told_87 zf_X10_132 hL.o.1 rfl rfl ?_
    exact zV_reti hX hQ hr (⟨by (first | rw [show j = 0 from (nI_eq (by omega) (by decide)).mp s_0] | rw [show j = 1 from (nI_eq (by omega) (by decide)).mp s_1] | rw [show j = 2 from (nI_eq (by omega) (by decide)).mp s_2] | rw [show j = 3 from (nI_eq (by omega) (by decide)).mp s_3] | rw [show j = 4 from (nI_eq (by omega) (by decide)).mp s_4] | rw [show j = 5 from (nI_eq (by omega) (by decide)).mp s_5] | rw [show j = 6 from (nI_eq (by omega) (by decide)).mp s_6] | rw [show j = 7 from (nI_eq (by omega) (by decide)).mp s_7] | rw [show j = 8 from (nI_eq (by omega) (by decide)).mp s_8] | rw [td9 j hj s_0 s_1 s_2 s_3 s_4 s_5 s_6 s_7 s_8]); rfl, rfl⟩) dX10_told_90
  refine zV_case 4 (fun s_4 => ?_) (fun s_4 => ?_)
  · refine zV_tin hX (tgt := 91) dX10_told_1 (by decide) (by decide) (off := 90) (by decide) (by decide) ?_
    refine zV_aload_n hX dX10_told_91 rfl ?_
    refine zV_getc hX dX10_told_92 zf_X10_29 zo0.1 rfl ?_
    refine zV_geti hX dX10_told_95 zf_X10_156 zo60.1 rfl rfl ?_
    exact zV_reti hX hQ hr (⟨by (first | rw [show j = 0 from (nI_eq (by omega) (by decide)).mp s_0] | rw [show j = 1 from (nI_eq (by omega) (by decide)).mp s_1] | rw [show j = 2 from (nI_eq (by omega) (by decide)).mp s_2] | rw [show j = 3 from (nI_eq (by omega) (by decide)).mp s_3] | rw [show j = 4 from (nI_eq (by omega) (by decide)).mp s_4] | rw [show j = 5 from (nI_eq (by omega) (by decide)).mp s_5] | rw [show j = 6 from (nI_eq (by omega) (by decide)).mp s_6] | rw [show j = 7 from (nI_eq (by omega) (by decide)).mp s_7] | rw [show j = 8 from (nI_eq (by omega) (by decide)).mp s_8] | rw [td9 j hj s_0 s_1 s_2 s_3 s_4 s_5 s_6 s_7 s_8]); rfl, rfl⟩) dX10_told_98
  refine zV_case 5 (fun s_5 => ?_) (fun s_5 => ?_)
  · refine zV_tin hX (tgt := 99) dX10_told_1 (by decide) (by decide) (off := 98) (by decide) (by decide) ?_
    refine zV_aload_n hX dX10_told_99 rfl ?_
    refine zV_getc hX dX10_told_100 zf_X10_29 zo0.1 rfl ?_
    refine zV_geti hX dX10_told_103 zf_X10_159 zo60.1 rfl rfl ?_
    exact zV_reti hX hQ hr (⟨by (first | rw [show j = 0 from (nI_eq (by omega) (by decide)).mp s_0] | rw [show j = 1 from (nI_eq (by omega) (by decide)).mp s_1] | rw [show j = 2 from (nI_eq (by omega) (by decide)).mp s_2] | rw [show j = 3 from (nI_eq (by omega) (by decide)).mp s_3] | rw [show j = 4 from (nI_eq (by omega) (by decide)).mp s_4] | rw [show j = 5 from (nI_eq (by omega) (by decide)).mp s_5] | rw [show j = 6 from (nI_eq (by omega) (by decide)).mp s_6] | rw [show j = 7 from (nI_eq (by omega) (by decide)).mp s_7] | rw [show j = 8 from (nI_eq (by omega) (by decide)).mp s_8] | rw [td9 j hj s_0 s_1 s_2 s_3 s_4 s_5 s_6 s_7 s_8]); rfl, rfl⟩) dX10_told_106
  refine zV_case 6 (fun s_6 => ?_) (fun s_6 => ?_)
  · refine zV_tin hX (tgt := 107) dX10_told_1 (by decide) (by decide) (off := 106) (by decide) (by decide) ?_
    refine zV_aload_n hX dX10_told_107 rfl ?_
    refine zV_getc hX dX10_told_108 zf_X10_29 zo0.1 rfl ?_
    refine zV_geti hX dX10_told_111 zf_X10_162 zo60.1 rfl rfl ?_
    exact zV_reti hX hQ hr (⟨by (first | rw [show j = 0 from (nI_eq (by omega) (by decide)).mp s_0] | rw [show j = 1 from (nI_eq (by omega) (by decide)).mp s_1] | rw [show j = 2 from (nI_eq (by omega) (by decide)).mp s_2] | rw [show j = 3 from (nI_eq (by omega) (by decide)).mp s_3] | rw [show j = 4 from (nI_eq (by omega) (by decide)).mp s_4] | rw [show j = 5 from (nI_eq (by omega) (by decide)).mp s_5] | rw [show j = 6 from (nI_eq (by omega) (by decide)).mp s_6] | rw [show j = 7 from (nI_eq (by omega) (by decide)).mp s_7] | rw [show j = 8 from (nI_eq (by omega) (by decide)).mp s_8] | rw [td9 j hj s_0 s_1 s_2 s_3 s_4 s_5 s_6 s_7 s_8]); rfl, rfl⟩) dX10_told_114
  refine zV_case 7 (fun s_7 => ?_) (fun s_7 => ?_)
  · refine zV_tin hX (tgt := 115) dX10_told_1 (by decide) (by decide) (off := 114) (by decide) (by decide) ?_
    refine zV_aload_n hX dX10_told_115 rfl ?_
    refine zV_getc hX dX10_told_116 zf_X10_19 zo0.1 rfl ?_
    refine zV_getp hX dX10_told_119 zf_X10_125 zo40.1 rfl (h43) hL.lt ?_
    refine zV_cV0p hX hR hl dX10_told_122 (zc_inAll l G _ lc hL.o) zt_X4_inAll rfl zml_X10_165 hL.o.1 ⟨by decide, by decide⟩ (Nat.le_of_ble_eq_true rfl) ?_
    dsimp only [Option.toList, List.cons_append, List.nil_append]
    exact zV_reti hX hQ hr (⟨by (first | rw [show j = 0 from (nI_eq (by omega) (by decide)).mp s_0] | rw [show j = 1 from (nI_eq (by omega) (by decide)).mp s_1] | rw [show j = 2 from (nI_eq (by omega) (by decide)).mp s_2] | rw [show j = 3 from (nI_eq (by omega) (by decide)).mp s_3] | rw [show j = 4 from (nI_eq (by omega) (by decide)).mp s_4] | rw [show j = 5 from (nI_eq (by omega) (by decide)).mp s_5] | rw [show j = 6 from (nI_eq (by omega) (by decide)).mp s_6] | rw [show j = 7 from (nI_eq (by omega) (by decide)).mp s_7] | rw [show j = 8 from (nI_eq (by omega) (by decide)).mp s_8] | rw [td9 j hj s_0 s_1 s_2 s_3 s_4 s_5 s_6 s_7 s_8]); rfl, rfl⟩) dX10_told_125
  refine zV_case 8 (fun s_8 => ?_) (fun s_8 => ?_)
  · refine zV_tin hX (tgt := 126) dX10_told_1 (by decide) (by decide) (off := 125) (by decide) (by decide) ?_
    refine zV_aload_n hX dX10_told_126 rfl ?_
    refine zV_getc hX dX10_told_127 zf_X10_10 zo0.1 rfl ?_
    refine zV_geti hX dX10_told_130 zf_X10_115 zo20.1 rfl rfl ?_
    exact zV_reti hX hQ hr (⟨by (first | rw [show j = 0 from (nI_eq (by omega) (by decide)).mp s_0] | rw [show j = 1 from (nI_eq (by omega) (by decide)).mp s_1] | rw [show j = 2 from (nI_eq (by omega) (by decide)).mp s_2] | rw [show j = 3 from (nI_eq (by omega) (by decide)).mp s_3] | rw [show j = 4 from (nI_eq (by omega) (by decide)).mp s_4] | rw [show j = 5 from (nI_eq (by omega) (by decide)).mp s_5] | rw [show j = 6 from (nI_eq (by omega) (by decide)).mp s_6] | rw [show j = 7 from (nI_eq (by omega) (by decide)).mp s_7] | rw [show j = 8 from (nI_eq (by omega) (by decide)).mp s_8] | rw [td9 j hj s_0 s_1 s_2 s_3 s_4 s_5 s_6 s_7 s_8]); rfl, rfl⟩) dX10_told_133
  refine zV_case 9 (fun s_9 => ?_) (fun s_9 => ?_)
  · refine zV_tin hX (tgt := 134) dX10_told_1 (by decide) (by decide) (off := 133) (by decide) (by decide) ?_
    refine zV_aload_n hX dX10_told_134 rfl ?_
    refine zV_getc hX dX10_told_135 zf_X10_19 zo0.1 rfl ?_
    refine zV_geti hX dX10_told_138 zf_X10_103 zo40.1 rfl rfl ?_
    exact zV_reti hX hQ hr (⟨by (first | rw [show j = 0 from (nI_eq (by omega) (by decide)).mp s_0] | rw [show j = 1 from (nI_eq (by omega) (by decide)).mp s_1] | rw [show j = 2 from (nI_eq (by omega) (by decide)).mp s_2] | rw [show j = 3 from (nI_eq (by omega) (by decide)).mp s_3] | rw [show j = 4 from (nI_eq (by omega) (by decide)).mp s_4] | rw [show j = 5 from (nI_eq (by omega) (by decide)).mp s_5] | rw [show j = 6 from (nI_eq (by omega) (by decide)).mp s_6] | rw [show j = 7 from (nI_eq (by omega) (by decide)).mp s_7] | rw [show j = 8 from (nI_eq (by omega) (by decide)).mp s_8] | rw [td9 j hj s_0 s_1 s_2 s_3 s_4 s_5 s_6 s_7 s_8]); rfl, rfl⟩) dX10_told_141
  refine zV_tout hX (tgt := 142) dX10_told_1 (zsw_out 9 (by decide) (fun j hj => by match j, hj with | 0, _ => exact s_0 | 1, _ => exact s_1 | 2, _ => exact s_2 | 3, _ => exact s_3 | 4, _ => exact s_4 | 5, _ => exact s_5 | 6, _ => exact s_6 | 7, _ => exact s_7 | 8, _ => exact s_8 | 9, _ => exact s_9 | _ + 10, h => omega)) (by decide) ?_
  refine zV_aload_n hX dX10_told_142 rfl ?_
  refine zV_iconst hX (v := nI 0) dX10_told_143 (by decide) ?_
  refine zV_topi (zb false) rfl ?_
  exact absurd (td9 j hj s_0 s_1 s_2 s_3 s_4 s_5 s_6 s_7 s_8) (fun q => s_9 (by rw [q]))
set_option maxHeartbeats 1000000 in
theorem zf_toldX (l : Launch) (G : zG) (M : zM) (hst : l.stackTraces = false) (x : Int32) (hx : mIn x (nI 0) (nI 9) = false) : zCx l G 9 1 6 yX10_told cX10_told 2 (Option.some Jvm.ClassFile.FieldType.int) [.ref (0 : Nat), .int x] M zIAE (mBa M) := by
  refine zCx_of (by decide) (Nat.le_of_ble_eq_true rfl) (fun X Q hQ hX hl hR hEx ht => ?_)
  refine zV_loc (L' := [.ref (0 : Nat), .int x]) rfl ?_
  refine zV_iload_n hX dX10_told_0 rfl ?_
  refine zV_case 0 (fun s_0 => ?_) (fun s_0 => ?_)
  · refine zV_tin hX (tgt := 56) dX10_told_1 (by decide) (by decide) (off := 55) (by decide) (by decide) ?_
    exact absurd hx (by rw [s_0]; decide)
  refine zV_case 1 (fun s_1 => ?_) (fun s_1 => ?_)
  · refine zV_tin hX (tgt := 64) dX10_told_1 (by decide) (by decide) (off := 63) (by decide) (by decide) ?_
    exact absurd hx (by rw [s_1]; decide)
  refine zV_case 2 (fun s_2 => ?_) (fun s_2 => ?_)
  · refine zV_tin hX (tgt := 72) dX10_told_1 (by decide) (by decide) (off := 71) (by decide) (by decide) ?_
    exact absurd hx (by rw [s_2]; decide)
  refine zV_case 3 (fun s_3 => ?_) (fun s_3 => ?_)
  · refine zV_tin hX (tgt := 80) dX10_told_1 (by decide) (by decide) (off := 79) (by decide) (by decide) ?_
    exact absurd hx (by rw [s_3]; decide)
  refine zV_case 4 (fun s_4 => ?_) (fun s_4 => ?_)
  · refine zV_tin hX (tgt := 91) dX10_told_1 (by decide) (by decide) (off := 90) (by decide) (by decide) ?_
    exact absurd hx (by rw [s_4]; decide)
  refine zV_case 5 (fun s_5 => ?_) (fun s_5 => ?_)
  · refine zV_tin hX (tgt := 99) dX10_told_1 (by decide) (by decide) (off := 98) (by decide) (by decide) ?_
    exact absurd hx (by rw [s_5]; decide)
  refine zV_case 6 (fun s_6 => ?_) (fun s_6 => ?_)
  · refine zV_tin hX (tgt := 107) dX10_told_1 (by decide) (by decide) (off := 106) (by decide) (by decide) ?_
    exact absurd hx (by rw [s_6]; decide)
  refine zV_case 7 (fun s_7 => ?_) (fun s_7 => ?_)
  · refine zV_tin hX (tgt := 115) dX10_told_1 (by decide) (by decide) (off := 114) (by decide) (by decide) ?_
    exact absurd hx (by rw [s_7]; decide)
  refine zV_case 8 (fun s_8 => ?_) (fun s_8 => ?_)
  · refine zV_tin hX (tgt := 126) dX10_told_1 (by decide) (by decide) (off := 125) (by decide) (by decide) ?_
    exact absurd hx (by rw [s_8]; decide)
  refine zV_case 9 (fun s_9 => ?_) (fun s_9 => ?_)
  · refine zV_tin hX (tgt := 134) dX10_told_1 (by decide) (by decide) (off := 133) (by decide) (by decide) ?_
    exact absurd hx (by rw [s_9]; decide)
  refine zV_tout hX (tgt := 142) dX10_told_1 (zsw_out 9 (by decide) (fun j hj => by match j, hj with | 0, _ => exact s_0 | 1, _ => exact s_1 | 2, _ => exact s_2 | 3, _ => exact s_3 | 4, _ => exact s_4 | 5, _ => exact s_5 | 6, _ => exact s_6 | 7, _ => exact s_7 | 8, _ => exact s_8 | 9, _ => exact s_9 | _ + 10, h => omega)) (by decide) ?_
  refine zV_aload_n hX dX10_told_142 rfl ?_
  refine zV_iconst hX (v := nI 0) dX10_told_143 (by decide) ?_
  refine zV_topi (zb false) rfl ?_
  exact zX_cV1 hX hEx hR hl hQ ht dX10_told_144 (zc_need0 l G _ hst) zt_X10_need rfl zml_X10_72 zo0.1 ⟨by decide, by decide⟩ (Nat.le_of_ble_eq_true rfl) (by omega)
abbrev fPl (lc n t c : Nat) (cn : Nat → Nat) (M : zM) : zM := oPlay 60 40 lc n t c cn M
set_option maxHeartbeats 1000000 in
theorem zf_run (l : Launch) (G : zG) (M : zM) (lc n t : Nat) (cn : Nat → Nat) (j : Nat)  (h40 : M.1 40 0 = nI n) (hn7 : n ≤ 7) (h41 : M.1 40 1 = nI t) (ht2 : t ≤ 2) (h43 : M.1 40 3 = nI lc) (hL : lyL lc) (hcn : lyN lc M cn) (hj : j < n) : zC l G 9 yX10_run cX10_run 2 (Option.some Jvm.ClassFile.FieldType.int) [.ref (0 : Nat), .int (nI j)] M (zP (some (.int (nI (zunl ((oPlay 60 40 lc n t j cn M).1 77) ((oPlay 60 40 lc n t j cn M).1 60 10) n)))) (oPlay 60 40 lc n t j cn M)) := by
  refine zC_of (by decide) (Nat.le_of_ble_eq_true rfl) (fun X Q hQ hX hl hR hr => ?_)
  refine zV_loc (L' := [.ref (0 : Nat), .int (nI j)]) rfl ?_
  have hF := oFi.p4 60 40 lc n t j cn n M
  refine zV_aload_n hX dX10_run_0 rfl ?_
  refine zV_aload_n hX dX10_run_1 rfl ?_
  refine zV_getc hX dX10_run_2 zf_X10_19 zo0.1 rfl ?_
  refine zV_iload_n hX dX10_run_5 rfl ?_
  refine zV_cV1p hX hR hl dX10_run_6 (zc_holds l G _ 40 n _ zo40 (h40)) zt_X2_holds rfl zml_X10_83 zo40.1 ⟨by decide, by decide⟩ (Nat.le_of_ble_eq_true rfl) ?_
  dsimp only [Option.toList, List.cons_append, List.nil_append]
  refine zV_topi (zb true) (by rw [zmem_nI (by omega) (by omega), decide_eq_true hj]) ?_
  refine zV_cV1p hX hR hl dX10_run_9 (zc_such1 l G _) zt_X10_needSuch rfl zml_X10_87 zo0.1 ⟨by decide, by decide⟩ (Nat.le_of_ble_eq_true rfl) ?_
  dsimp only [Option.toList, List.cons_append, List.nil_append]
  refine zV_aload_n hX dX10_run_12 rfl ?_
  refine zV_getc hX dX10_run_13 zf_X10_29 zo0.1 rfl ?_
  refine zV_aload_n hX dX10_run_16 rfl ?_
  refine zV_getc hX dX10_run_17 zf_X10_19 zo0.1 rfl ?_
  refine zV_iload_n hX dX10_run_20 rfl ?_
  refine zV_cV2p hX hR hl dX10_run_21 (zc_play l G M 60 40 lc n t j cn zo60 zo40 (by decide) (hL.ok (by decide)) h40 hn7 h41 ht2 h43 hL.lt hcn (by omega) (by omega)) zt_X6_play rfl zml_X10_146 zo60.1 ⟨by decide, by decide⟩ (Nat.le_of_ble_eq_true rfl) ?_
  dsimp only [Option.toList, List.cons_append, List.nil_append]
  refine zV_mem (show _ = oPlay 60 40 lc n t j cn M from rfl) ?_
  refine zV_aload_n hX dX10_run_24 rfl ?_
  refine zV_getc hX dX10_run_25 zf_X10_29 zo0.1 rfl ?_
  refine zV_cV0p hX hR hl dX10_run_28 (zc_ounlike l G _ 60 n zo60 hF.2.2.1 hn7) zt_X6_unlike rfl zml_X10_150 zo60.1 ⟨by decide, by decide⟩ (Nat.le_of_ble_eq_true rfl) ?_
  dsimp only [Option.toList, List.cons_append, List.nil_append]
  exact zV_reti hX hQ hr (⟨rfl, rfl⟩) dX10_run_31
set_option maxHeartbeats 1000000 in
theorem zf_runX (l : Launch) (G : zG) (M : zM) (hst : l.stackTraces = false) (n : Nat) (x : Int32) (h40 : M.1 40 0 = nI n) (hn7 : n ≤ 7) (hx : zmem x n = false) : zCx l G 9 1 6 yX10_run cX10_run 2 (Option.some Jvm.ClassFile.FieldType.int) [.ref (0 : Nat), .int x] M zNSE (mBs M) := by
  refine zCx_of (by decide) (Nat.le_of_ble_eq_true rfl) (fun X Q hQ hX hl hR hEx ht => ?_)
  refine zV_loc (L' := [.ref (0 : Nat), .int x]) rfl ?_
  refine zV_aload_n hX dX10_run_0 rfl ?_
  refine zV_aload_n hX dX10_run_1 rfl ?_
  refine zV_getc hX dX10_run_2 zf_X10_19 zo0.1 rfl ?_
  refine zV_iload_n hX dX10_run_5 rfl ?_
  refine zK_cV1p hX hR hl dX10_run_6 (zCk.of (zc_holds l G _ 40 n _ zo40 (h40))) zt_X2_holds rfl zml_X10_83 zo40.1 ⟨by decide, by decide⟩ (Nat.le_of_ble_eq_true rfl) (by omega) ⟨rfl, rfl⟩ ?_
  dsimp only [Option.toList, List.cons_append, List.nil_append]
  refine zV_topi (zb false) (by rw [hx]) ?_
  exact zX_cV1 hX hEx hR hl hQ ht dX10_run_9 (zc_such0 l G _ hst) zt_X10_needSuch rfl zml_X10_87 zo0.1 ⟨by decide, by decide⟩ (Nat.le_of_ble_eq_true rfl) (by omega)
