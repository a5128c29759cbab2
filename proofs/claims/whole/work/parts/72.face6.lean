theorem fld6_of {x : UInt64} (h : Jvm.FP.Core.DFin x) : ∃ s E T, fld6 x s E T := by
  have h1 := (Jvm.FP.Core.fin_bits x).mp h
  have h2 := x.toNat_lt
  refine ⟨decide (2 ^ 63 ≤ x.toNat), x.toNat / 2 ^ 52 % 2048, x.toNat % 2 ^ 52, ?_, by omega, Nat.mod_lt _ (by decide)⟩
  by_cases q : 2 ^ 63 ≤ x.toNat
  · rw [decide_eq_true q]; show x.toNat = (1 * 2048 + _) * 2 ^ 52 + _; omega
  · rw [decide_eq_false q]; show x.toNat = (0 * 2048 + _) * 2 ^ 52 + _; omega
theorem fld6_0 {x : UInt64} {s : Bool} {T : Nat} (h : fld6 x s 0 T) : dq x s T := by
  obtain ⟨h1, h2, h3⟩ := h
  have e : x.toNat = Jvm.FP.Core.assemble Jvm.FP.Core.b64 s 0 T := by rw [h1]; unfold Jvm.FP.Core.assemble; rw [t64, e64]
  have hv : Jvm.FP.Core.val64 x = .fin s T (-1074) := by
    show Jvm.FP.Core.decode Jvm.FP.Core.b64 x.toNat = _
    rw [e, Jvm.FP.Core.decode_assemble _ _ _ _ (by rw [e64]; omega) (by rw [t64]; exact h3), e64, if_neg (by omega), if_pos rfl, q64]
  exact ⟨T, _, hv, by rw [q64]; omega, by rw [q64]; exact Nat.mul_one T⟩
/-- what a double is that adds up floats: 0, or far above the least power -/
theorem db_bits {k : Nat} {x : UInt64} (h : db k x) : x = FP.dconst0 ∨ ∃ s E T, fld6 x s E T ∧ 0 < E := by
  obtain ⟨s, N, hd, -, hdv, hz⟩ := h
  obtain ⟨c, q, e, -⟩ := id hd
  obtain ⟨s1, E, T, hf⟩ := fld6_of ⟨s, c, q, e⟩
  by_cases hE : E = 0
  · subst hE
    left
    have h0 := fld6_0 hf
    have hm := dq_mag hd
    have hm0 := dq_mag h0
    have hs : s = s1 := hm.1.symm.trans hm0.1
    have hN : N = T := hm.2.symm.trans hm0.2
    subst hs; subst hN
    have hT := hf.2.2
    have hN0 : N = 0 := by
      rcases Nat.eq_zero_or_pos N with h | h
      · exact h
      · have h9 := Nat.le_of_dvd h hdv
        have h8 : (2 : Nat) ^ 52 ≤ 2 ^ 925 := Nat.pow_le_pow_right (by decide) (by decide)
        exact absurd (Nat.le_trans h8 h9) (Nat.not_le.mpr hT)
    have hs := hz hN0
    subst hs; subst hN0
    apply UInt64.toNat_inj.mp
    rw [hf.1]; rfl
  · exact Or.inr ⟨s1, E, T, hf, by omega⟩
theorem zc_bitsD (l : Launch) (G : zG) (M : zM) (x : UInt64) (k : Nat) (h : db k x) : zC l G 1 yX1_bitsOfDouble cX1_bitsOfDouble 7 (Option.some Jvm.ClassFile.FieldType.long) [.double x] M (zP (some (.long x.toInt64)) M) := by
  rcases db_bits h with rfl | ⟨s, E, T, hf, hE⟩
  · exact zc_bitsOfDouble0 l G M
  · exact zc_bitsOfDouble l G M x s E T hf hE
theorem zc_bitsB (l : Launch) (G : zG) (M : zM) (x : UInt32) (k : Nat) (h : fb k x) : zC l G 1 yX1_bitsOf cX1_bitsOf 5 (Option.some Jvm.ClassFile.FieldType.int) [.float x] M (zP (some (.int x.toInt32)) M) := by
  obtain ⟨s, E, T, hf⟩ := fb_fld h
  exact zc_bitsOf l G M x s E T hf
set_option maxHeartbeats 1000000 in
theorem zf_nearer (l : Launch) (G : zG) (M : zM) (lc n t : Nat) (cn : Nat → Nat) (st md j : Nat)  (h40 : M.1 40 0 = nI n) (hn7 : n ≤ 7) (h41 : M.1 40 1 = nI t) (ht2 : t ≤ 2) (h43 : M.1 40 3 = nI lc) (hL : lyL lc) (hcn : lyN lc M cn) (hv : ∀ m, m < 7 → okV (M.1 45 m)) (hlv : lyV lc M) (hst : st ≤ 60) (hmd2 : md < 2) (hj : j < n) : zC l G 9 yX10_nearer cX10_nearer 4 (Option.some Jvm.ClassFile.FieldType.int) [.ref (0 : Nat), .int (nI st), .int (nI md), .int (nI j)] M (zP (some (.int ((nPl 170 40 lc n t md cn st M).1 171 j))) ((nPl 170 40 lc n t md cn st M))) := by
  refine zC_of (by decide) (Nat.le_of_ble_eq_true rfl) (fun X Q hQ hX hl hR hr => ?_)
  refine zV_loc (L' := [.ref (0 : Nat), .int (nI st), .int (nI md), .int (nI j)]) rfl ?_
  have hn0 : nI0 170 40 lc n t cn M := ⟨h40, h41, h43, hcn, hv, hlv⟩
  refine zV_aload_n hX dX10_nearer_0 rfl ?_
  refine zV_aload_n hX dX10_nearer_1 rfl ?_
  refine zV_getc hX dX10_nearer_2 zf_X10_19 zo0.1 rfl ?_
  refine zV_iload_n hX dX10_nearer_5 rfl ?_
  refine zV_cV1p hX hR hl dX10_nearer_6 (zc_holds l G _ 40 n _ zo40 (h40)) zt_X2_holds rfl zml_X10_83 zo40.1 ⟨by decide, by decide⟩ (Nat.le_of_ble_eq_true rfl) ?_
  dsimp only [Option.toList, List.cons_append, List.nil_append]
  refine zV_topi (zb true) (by rw [zmem_nI (by omega) (by omega), decide_eq_true hj]) ?_
  refine zV_cV1p hX hR hl dX10_nearer_9 (zc_such1 l G _) zt_X10_needSuch rfl zml_X10_87 zo0.1 ⟨by decide, by decide⟩ (Nat.le_of_ble_eq_true rfl) ?_
  dsimp only [Option.toList, List.cons_append, List.nil_append]
  refine zV_aload_n hX dX10_nearer_12 rfl ?_
  refine zV_iload_n hX dX10_nearer_13 rfl ?_
  refine zV_iload_n hX dX10_nearer_14 rfl ?_
  refine zV_cS2p hX hR hl dX10_nearer_15 (zc_isWayNearer l G _ _ _) zt_X10_isWayNearer rfl zml_X10_291 (by decide) (Nat.le_of_ble_eq_true rfl) ?_
  dsimp only [Option.toList, List.cons_append, List.nil_append]
  refine zV_topi (zb true) (by rw [mIn_nI (by omega) (by omega) (by omega), mIn_nI (by omega) (by omega) (by omega), decide_eq_false (by omega), decide_eq_false (by omega), Bool.not_false, Bool.true_and]) ?_
  refine zV_cV1p hX hR hl dX10_nearer_18 (zc_need1 l G _) zt_X10_need rfl zml_X10_72 zo0.1 ⟨by decide, by decide⟩ (Nat.le_of_ble_eq_true rfl) ?_
  dsimp only [Option.toList, List.cons_append, List.nil_append]
  refine zV_aload_n hX dX10_nearer_21 rfl ?_
  refine zV_getc hX dX10_nearer_22 zf_X10_60 zo0.1 rfl ?_
  refine zV_aload_n hX dX10_nearer_25 rfl ?_
  refine zV_getc hX dX10_nearer_26 zf_X10_19 zo0.1 rfl ?_
  refine zV_iload_n hX dX10_nearer_29 rfl ?_
  refine zV_iload_n hX dX10_nearer_30 rfl ?_
  refine zV_cV3p hX hR hl dX10_nearer_31 (zc_nplay l G M 170 40 lc n t md st cn zo170 zo40 hn0 hn7 ht2 hL.lt (hL.f (by decide)) (by decide) hmd2 (by omega)) zt_X5_play rfl zml_X10_294 zo170.1 ⟨by decide, by decide⟩ (Nat.le_of_ble_eq_true rfl) ?_
  dsimp only [Option.toList, List.cons_append, List.nil_append]
  have hiv := nPl_iv (md := md) hn0 (hL.f (by decide)) (by decide) hn7 st
  have hhb := hiv.2.2.2.2.2.2
  obtain ⟨R, hRR⟩ : ∃ R, R = (nPl 170 40 lc n t md cn st M) := ⟨_, rfl⟩
  rw [← hRR] at hiv hhb ⊢
  refine zV_aload_n hX dX10_nearer_34 rfl ?_
  refine zV_getc hX dX10_nearer_35 zf_X10_60 zo0.1 rfl ?_
  refine zV_geta hX dX10_nearer_38 zf_X10_297 zo170.1 rfl ?_
  refine zV_iload_n hX dX10_nearer_41 rfl ?_
  refine zV_fald hX (v := (R.1 171 j).toUInt32) dX10_nearer_42 (zo170.a 0 rfl) (rfl) ⟨by omega, by omega⟩ (rfl) ?_
  refine zV_cS1p hX hR hl dX10_nearer_43 (zc_bitsB l G R _ 1 (hhb j (by omega))) zt_X1_bitsOf rfl zml_X10_97 (by decide) (Nat.le_of_ble_eq_true rfl) ?_
  dsimp only [Option.toList, List.cons_append, List.nil_append]
  exact zV_reti hX hQ hr (⟨by rw [← hRR]; rfl, hRR⟩) dX10_nearer_46
set_option maxHeartbeats 1000000 in
theorem zf_nearerX (l : Launch) (G : zG) (M : zM) (hst : l.stackTraces = false) (n : Nat) (a b x : Int32) (h40 : M.1 40 0 = nI n) (hn7 : n ≤ 7) (hx : zmem x n = false) : zCx l G 9 1 6 yX10_nearer cX10_nearer 4 (Option.some Jvm.ClassFile.FieldType.int) [.ref (0 : Nat), .int a, .int b, .int x] M zNSE (mBs M) := by
  refine zCx_of (by decide) (Nat.le_of_ble_eq_true rfl) (fun X Q hQ hX hl hR hEx ht => ?_)
  refine zV_loc (L' := [.ref (0 : Nat), .int a, .int b, .int x]) rfl ?_
  refine zV_aload_n hX dX10_nearer_0 rfl ?_
  refine zV_aload_n hX dX10_nearer_1 rfl ?_
  refine zV_getc hX dX10_nearer_2 zf_X10_19 zo0.1 rfl ?_
  refine zV_iload_n hX dX10_nearer_5 rfl ?_
  refine zK_cV1p hX hR hl dX10_nearer_6 (zCk.of (zc_holds l G _ 40 n _ zo40 (h40))) zt_X2_holds rfl zml_X10_83 zo40.1 ⟨by decide, by decide⟩ (Nat.le_of_ble_eq_true rfl) (by omega) ⟨rfl, rfl⟩ ?_
  dsimp only [Option.toList, List.cons_append, List.nil_append]
  refine zV_topi (zb false) (by rw [hx]) ?_
  exact zX_cV1 hX hEx hR hl hQ ht dX10_nearer_9 (zc_such0 l G _ hst) zt_X10_needSuch rfl zml_X10_87 zo0.1 ⟨by decide, by decide⟩ (Nat.le_of_ble_eq_true rfl) (by omega)
set_option maxHeartbeats 1000000 in
theorem zf_nearerA (l : Launch) (G : zG) (M : zM) (hst : l.stackTraces = false) (n j : Nat) (a b : Int32) (h40 : M.1 40 0 = nI n) (hn7 : n ≤ 7) (hj : j < n) (hw : (mIn a (nI 0) (nI 60) && mIn b (nI 0) (nI 1)) = false) : zCx l G 9 1 6 yX10_nearer cX10_nearer 4 (Option.some Jvm.ClassFile.FieldType.int) [.ref (0 : Nat), .int a, .int b, .int (nI j)] M zIAE (mBa M) := by
  refine zCx_of (by decide) (Nat.le_of_ble_eq_true rfl) (fun X Q hQ hX hl hR hEx ht => ?_)
  refine zV_loc (L' := [.ref (0 : Nat), .int a, .int b, .int (nI j)]) rfl ?_
  refine zV_aload_n hX dX10_nearer_0 rfl ?_
  refine zV_aload_n hX dX10_nearer_1 rfl ?_
  refine zV_getc hX dX10_nearer_2 zf_X10_19 zo0.1 rfl ?_
  refine zV_iload_n hX dX10_nearer_5 rfl ?_
  refine zK_cV1p hX hR hl dX10_nearer_6 (zCk.of (zc_holds l G _ 40 n _ zo40 (h40))) zt_X2_holds rfl zml_X10_83 zo40.1 ⟨by decide, by decide⟩ (Nat.le_of_ble_eq_true rfl) (by omega) ⟨rfl, rfl⟩ ?_
  dsimp only [Option.toList, List.cons_append, List.nil_append]
  refine zV_topi (zb true) (by rw [zmem_nI (by omega) (by omega), decide_eq_true hj]) ?_
  refine zK_cV1p hX hR hl dX10_nearer_9 (zCk.of (zc_such1 l G _)) zt_X10_needSuch rfl zml_X10_87 zo0.1 ⟨by decide, by decide⟩ (Nat.le_of_ble_eq_true rfl) (by omega) ⟨rfl, rfl⟩ ?_
  dsimp only [Option.toList, List.cons_append, List.nil_append]
  refine zV_aload_n hX dX10_nearer_12 rfl ?_
  refine zV_iload_n hX dX10_nearer_13 rfl ?_
  refine zV_iload_n hX dX10_nearer_14 rfl ?_
  refine zK_cS2p hX hR hl dX10_nearer_15 (zCk.of (zc_isWayNearer l G _ _ _)) zt_X10_isWayNearer rfl zml_X10_291 (by decide) (Nat.le_of_ble_eq_true rfl) (by omega) ⟨rfl, rfl⟩ ?_
  dsimp only [Option.toList, List.cons_append, List.nil_append]
  refine zV_topi (zb false) (by rw [hw]) ?_
  exact zX_cV1 hX hEx hR hl hQ ht dX10_nearer_18 (zc_need0 l G _ hst) zt_X10_need rfl zml_X10_72 zo0.1 ⟨by decide, by decide⟩ (Nat.le_of_ble_eq_true rfl) (by omega)
set_option maxHeartbeats 1000000 in
theorem zf_spread (l : Launch) (G : zG) (M : zM) (lc n t : Nat) (cn : Nat → Nat) (st md : Nat)  (h40 : M.1 40 0 = nI n) (hn7 : n ≤ 7) (h41 : M.1 40 1 = nI t) (ht2 : t ≤ 2) (h43 : M.1 40 3 = nI lc) (hL : lyL lc) (hcn : lyN lc M cn) (hv : ∀ m, m < 7 → okV (M.1 45 m)) (hlv : lyV lc M) (hst : st ≤ 60) (hmd2 : md < 2) : zC l G 9 yX10_spread cX10_spread 3 (Option.some Jvm.ClassFile.FieldType.int) [.ref (0 : Nat), .int (nI st), .int (nI md)] M (zP (some (.int ((nWd ((nPl 170 40 lc n t md cn st M).1 (170 + 1 + 0)) ((nPl 170 40 lc n t md cn st M).1 lc 0) n).toInt32))) ((nPl 170 40 lc n t md cn st M))) := by
  refine zC_of (by decide) (Nat.le_of_ble_eq_true rfl) (fun X Q hQ hX hl hR hr => ?_)
  refine zV_loc (L' := [.ref (0 : Nat), .int (nI st), .int (nI md)]) rfl ?_
  have hn0 : nI0 170 40 lc n t cn M := ⟨h40, h41, h43, hcn, hv, hlv⟩
  refine zV_aload_n hX dX10_spread_0 rfl ?_
  refine zV_iload_n hX dX10_spread_1 rfl ?_
  refine zV_iload_n hX dX10_spread_2 rfl ?_
  refine zV_cS2p hX hR hl dX10_spread_3 (zc_isWayNearer l G _ _ _) zt_X10_isWayNearer rfl zml_X10_291 (by decide) (Nat.le_of_ble_eq_true rfl) ?_
  dsimp only [Option.toList, List.cons_append, List.nil_append]
  refine zV_topi (zb true) (by rw [mIn_nI (by omega) (by omega) (by omega), mIn_nI (by omega) (by omega) (by omega), decide_eq_false (by omega), decide_eq_false (by omega), Bool.not_false, Bool.true_and]) ?_
  refine zV_cV1p hX hR hl dX10_spread_6 (zc_need1 l G _) zt_X10_need rfl zml_X10_72 zo0.1 ⟨by decide, by decide⟩ (Nat.le_of_ble_eq_true rfl) ?_
  dsimp only [Option.toList, List.cons_append, List.nil_append]
  refine zV_aload_n hX dX10_spread_9 rfl ?_
  refine zV_getc hX dX10_spread_10 zf_X10_60 zo0.1 rfl ?_
  refine zV_aload_n hX dX10_spread_13 rfl ?_
  refine zV_getc hX dX10_spread_14 zf_X10_19 zo0.1 rfl ?_
  refine zV_iload_n hX dX10_spread_17 rfl ?_
  refine zV_iload_n hX dX10_spread_18 rfl ?_
  refine zV_cV3p hX hR hl dX10_spread_19 (zc_nplay l G M 170 40 lc n t md st cn zo170 zo40 hn0 hn7 ht2 hL.lt (hL.f (by decide)) (by decide) hmd2 (by omega)) zt_X5_play rfl zml_X10_294 zo170.1 ⟨by decide, by decide⟩ (Nat.le_of_ble_eq_true rfl) ?_
  dsimp only [Option.toList, List.cons_append, List.nil_append]
  have hiv := nPl_iv (md := md) hn0 (hL.f (by decide)) (by decide) hn7 st
  have hhb := hiv.2.2.2.2.2.2
  obtain ⟨R, hRR⟩ : ∃ R, R = (nPl 170 40 lc n t md cn st M) := ⟨_, rfl⟩
  rw [← hRR] at hiv hhb ⊢
  refine zV_aload_n hX dX10_spread_22 rfl ?_
  refine zV_getc hX dX10_spread_23 zf_X10_60 zo0.1 rfl ?_
  refine zV_aload_n hX dX10_spread_26 rfl ?_
  refine zV_getc hX dX10_spread_27 zf_X10_19 zo0.1 rfl ?_
  refine zV_cV1p hX hR hl dX10_spread_30 (zc_width l G R 170 40 lc n t cn zo170 zo40 hiv hn7 ht2 hL.lt (hL.f (by decide)) (by decide)) zt_X5_width rfl zml_X10_300 zo170.1 ⟨by decide, by decide⟩ (Nat.le_of_ble_eq_true rfl) ?_
  dsimp only [Option.toList, List.cons_append, List.nil_append]
  refine zV_cS1p hX hR hl dX10_spread_33 (zc_bitsB l G R _ 2 (nWd_fb hn7 hhb)) zt_X1_bitsOf rfl zml_X10_97 (by decide) (Nat.le_of_ble_eq_true rfl) ?_
  dsimp only [Option.toList, List.cons_append, List.nil_append]
  exact zV_reti hX hQ hr (⟨by rw [← hRR], hRR⟩) dX10_spread_36
set_option maxHeartbeats 1000000 in
theorem zf_spreadA (l : Launch) (G : zG) (M : zM) (hst : l.stackTraces = false) (a b : Int32) (hw : (mIn a (nI 0) (nI 60) && mIn b (nI 0) (nI 1)) = false) : zCx l G 9 1 6 yX10_spread cX10_spread 3 (Option.some Jvm.ClassFile.FieldType.int) [.ref (0 : Nat), .int a, .int b] M zIAE (mBa M) := by
  refine zCx_of (by decide) (Nat.le_of_ble_eq_true rfl) (fun X Q hQ hX hl hR hEx ht => ?_)
  refine zV_loc (L' := [.ref (0 : Nat), .int a, .int b]) rfl ?_
  refine zV_aload_n hX dX10_spread_0 rfl ?_
  refine zV_iload_n hX dX10_spread_1 rfl ?_
  refine zV_iload_n hX dX10_spread_2 rfl ?_
  refine zK_cS2p hX hR hl dX10_spread_3 (zCk.of (zc_isWayNearer l G _ _ _)) zt_X10_isWayNearer rfl zml_X10_291 (by decide) (Nat.le_of_ble_eq_true rfl) (by omega) ⟨rfl, rfl⟩ ?_
  dsimp only [Option.toList, List.cons_append, List.nil_append]
  refine zV_topi (zb false) (by rw [hw]) ?_
  exact zX_cV1 hX hEx hR hl hQ ht dX10_spread_6 (zc_need0 l G _ hst) zt_X10_need rfl zml_X10_72 zo0.1 ⟨by decide, by decide⟩ (Nat.le_of_ble_eq_true rfl) (by omega)
set_option maxHeartbeats 1000000 in
theorem zf_total (l : Launch) (G : zG) (M : zM) (lc n t : Nat) (cn : Nat → Nat) (st md : Nat)  (h40 : M.1 40 0 = nI n) (hn7 : n ≤ 7) (h41 : M.1 40 1 = nI t) (ht2 : t ≤ 2) (h43 : M.1 40 3 = nI lc) (hL : lyL lc) (hcn : lyN lc M cn) (hv : ∀ m, m < 7 → okV (M.1 45 m)) (hlv : lyV lc M) (hst : st ≤ 60) (hmd2 : md < 2) : zC l G 9 yX10_total cX10_total 3 (Option.some Jvm.ClassFile.FieldType.long) [.ref (0 : Nat), .int (nI st), .int (nI md)] M (zP (some (.long (dSum ((nPl 170 40 lc n t md cn st M).1 (170 + 1 + 0)) ((nPl 170 40 lc n t md cn st M).1 lc 0) n).toInt64)) (nPl 170 40 lc n t md cn st M)) := by
  refine zC_of (by decide) (Nat.le_of_ble_eq_true rfl) (fun X Q hQ hX hl hR hr => ?_)
  refine zV_loc (L' := [.ref (0 : Nat), .int (nI st), .int (nI md)]) rfl ?_
  have hn0 : nI0 170 40 lc n t cn M := ⟨h40, h41, h43, hcn, hv, hlv⟩
  refine zV_aload_n hX dX10_total_0 rfl ?_
  refine zV_iload_n hX dX10_total_1 rfl ?_
  refine zV_iload_n hX dX10_total_2 rfl ?_
  refine zV_cS2p hX hR hl dX10_total_3 (zc_isWayNearer l G _ _ _) zt_X10_isWayNearer rfl zml_X10_291 (by decide) (Nat.le_of_ble_eq_true rfl) ?_
  dsimp only [Option.toList, List.cons_append, List.nil_append]
  refine zV_topi (zb true) (by rw [mIn_nI (by omega) (by omega) (by omega), mIn_nI (by omega) (by omega) (by omega), decide_eq_false (by omega), decide_eq_false (by omega), Bool.not_false, Bool.true_and]) ?_
  refine zV_cV1p hX hR hl dX10_total_6 (zc_need1 l G _) zt_X10_need rfl zml_X10_72 zo0.1 ⟨by decide, by decide⟩ (Nat.le_of_ble_eq_true rfl) ?_
  dsimp only [Option.toList, List.cons_append, List.nil_append]
  refine zV_aload_n hX dX10_total_9 rfl ?_
  refine zV_getc hX dX10_total_10 zf_X10_60 zo0.1 rfl ?_
  refine zV_aload_n hX dX10_total_13 rfl ?_
  refine zV_getc hX dX10_total_14 zf_X10_19 zo0.1 rfl ?_
  refine zV_iload_n hX dX10_total_17 rfl ?_
  refine zV_iload_n hX dX10_total_18 rfl ?_
  refine zV_cV3p hX hR hl dX10_total_19 (zc_nplay l G M 170 40 lc n t md st cn zo170 zo40 hn0 hn7 ht2 hL.lt (hL.f (by decide)) (by decide) hmd2 (by omega)) zt_X5_play rfl zml_X10_294 zo170.1 ⟨by decide, by decide⟩ (Nat.le_of_ble_eq_true rfl) ?_
  dsimp only [Option.toList, List.cons_append, List.nil_append]
  have hiv := nPl_iv (md := md) hn0 (hL.f (by decide)) (by decide) hn7 st
  have hhb := hiv.2.2.2.2.2.2
  obtain ⟨R, hRR⟩ : ∃ R, R = (nPl 170 40 lc n t md cn st M) := ⟨_, rfl⟩
  rw [← hRR] at hiv hhb ⊢
  refine zV_aload_n hX dX10_total_22 rfl ?_
  refine zV_getc hX dX10_total_23 zf_X10_60 zo0.1 rfl ?_
  refine zV_aload_n hX dX10_total_26 rfl ?_
  refine zV_getc hX dX10_total_27 zf_X10_19 zo0.1 rfl ?_
  refine zV_cV1p hX hR hl dX10_total_30 (zc_sum l G R 170 40 lc n t cn zo170 zo40 hiv hn7 ht2 hL.lt (hL.f (by decide)) (by decide)) zt_X5_sum rfl zml_X10_308 zo170.1 ⟨by decide, by decide⟩ (Nat.le_of_ble_eq_true rfl) ?_
  dsimp only [Option.toList, List.cons_append, List.nil_append]
  refine zV_cS1p hX hR hl dX10_total_33 (zc_bitsD l G R _ n (dSum_db hhb n hn7)) zt_X1_bitsOfDouble rfl zml_X10_312 (by decide) (Nat.le_of_ble_eq_true rfl) ?_
  dsimp only [Option.toList, List.cons_append, List.nil_append]
  exact zV_retl hX hQ hr (⟨by rw [← hRR], hRR⟩) dX10_total_36
set_option maxHeartbeats 1000000 in
theorem zf_totalA (l : Launch) (G : zG) (M : zM) (hst : l.stackTraces = false) (a b : Int32) (hw : (mIn a (nI 0) (nI 60) && mIn b (nI 0) (nI 1)) = false) : zCx l G 9 1 6 yX10_total cX10_total 3 (Option.some Jvm.ClassFile.FieldType.long) [.ref (0 : Nat), .int a, .int b] M zIAE (mBa M) := by
  refine zCx_of (by decide) (Nat.le_of_ble_eq_true rfl) (fun X Q hQ hX hl hR hEx ht => ?_)
  refine zV_loc (L' := [.ref (0 : Nat), .int a, .int b]) rfl ?_
  refine zV_aload_n hX dX10_total_0 rfl ?_
  refine zV_iload_n hX dX10_total_1 rfl ?_
  refine zV_iload_n hX dX10_total_2 rfl ?_
  refine zK_cS2p hX hR hl dX10_total_3 (zCk.of (zc_isWayNearer l G _ _ _)) zt_X10_isWayNearer rfl zml_X10_291 (by decide) (Nat.le_of_ble_eq_true rfl) (by omega) ⟨rfl, rfl⟩ ?_
  dsimp only [Option.toList, List.cons_append, List.nil_append]
  refine zV_topi (zb false) (by rw [hw]) ?_
  exact zX_cV1 hX hEx hR hl hQ ht dX10_total_6 (zc_need0 l G _ hst) zt_X10_need rfl zml_X10_72 zo0.1 ⟨by decide, by decide⟩ (Nat.le_of_ble_eq_true rfl) (by omega)
set_option maxHeartbeats 1000000 in
theorem zf_steps (l : Launch) (G : zG) (M : zM) (lc n t : Nat) (cn : Nat → Nat) (md : Nat) (a b : Int32)  (h40 : M.1 40 0 = nI n) (hn7 : n ≤ 7) (h41 : M.1 40 1 = nI t) (ht2 : t ≤ 2) (h43 : M.1 40 3 = nI lc) (hL : lyL lc) (hcn : lyN lc M cn) (hv : ∀ m, m < 7 → okV (M.1 45 m)) (hlv : lyV lc M) (ha : mIn a (-99999) (nI 99999) = true) (hb : mIn b (nI 1) (nI 999) = true) (ha0 : ¬ a < 0) (hmd2 : md < 2) : zC l G 9 yX10_steps cX10_steps 4 (Option.some Jvm.ClassFile.FieldType.int) [.ref (0 : Nat), .int a, .int b, .int (nI md)] M (zP (some (.int ((nLs 170 40 lc n t md cn (FP.fdiv (FP.i2f a) (FP.i2f b)) 61 0 (nBeg 170 40 7 M)).1))) ((nLs 170 40 lc n t md cn (FP.fdiv (FP.i2f a) (FP.i2f b)) 61 0 (nBeg 170 40 7 M)).2)) := by
  refine zC_of (by decide) (Nat.le_of_ble_eq_true rfl) (fun X Q hQ hX hl hR hr => ?_)
  refine zV_loc (L' := [.ref (0 : Nat), .int a, .int b, .int (nI md)]) rfl ?_
  have hn0 : nI0 170 40 lc n t cn M := ⟨h40, h41, h43, hcn, hv, hlv⟩
  obtain ⟨s8, E8, T8, hf8⟩ := frac_fl ha hb
  refine zV_aload_n hX dX10_steps_0 rfl ?_
  refine zV_iload_n hX dX10_steps_1 rfl ?_
  refine zV_iload_n hX dX10_steps_2 rfl ?_
  refine zV_cS2p hX hR hl dX10_steps_3 (zc_isFraction l G _ _ _) zt_X10_isFraction rfl zml_X10_90 (by decide) (Nat.le_of_ble_eq_true rfl) ?_
  dsimp only [Option.toList, List.cons_append, List.nil_append]
  refine zV_topi (zb true) (by rw [ha, hb, Bool.true_and]) ?_
  refine zV_if_eqB hX (tgt := 25) dX10_steps_6 (by decide) (fun c_6 => absurd c_6 (by decide)) (fun c_6 => ?_)
  refine zV_iload_n hX dX10_steps_9 rfl ?_
  refine zV_if_lt hX (tgt := 25) dX10_steps_10 (by decide) (fun c_10 => ?_) (fun c_10 => ?_)
  · exact absurd c_10 ha0
  · refine zV_iconst hX (v := nI 0) dX10_steps_13 (by decide) ?_
    refine zV_iload_n hX dX10_steps_14 rfl ?_
    refine zV_cS2p hX hR hl dX10_steps_15 (zc_isWayNearer l G _ _ _) zt_X10_isWayNearer rfl zml_X10_291 (by decide) (Nat.le_of_ble_eq_true rfl) ?_
    dsimp only [Option.toList, List.cons_append, List.nil_append]
    refine zV_topi (zb true) (by rw [mIn_nI (by omega) (by omega) (by omega), mIn_nI (by omega) (by omega) (by omega), decide_eq_false (by omega), decide_eq_false (by omega), Bool.not_false, Bool.true_and]) ?_
    refine zV_if_eqB hX (tgt := 25) dX10_steps_18 (by decide) (fun c_18 => absurd c_18 (by decide)) (fun c_18 => ?_)
    refine zV_iconst hX (v := nI 1) dX10_steps_21 (by decide) ?_
    refine zV_goto hX (tgt := 26) dX10_steps_22 (by decide) ?_
    refine zV_topi (zb true) rfl ?_
    refine zV_cV1p hX hR hl dX10_steps_26 (zc_need1 l G _) zt_X10_need rfl zml_X10_72 zo0.1 ⟨by decide, by decide⟩ (Nat.le_of_ble_eq_true rfl) ?_
    dsimp only [Option.toList, List.cons_append, List.nil_append]
    refine zV_aload_n hX dX10_steps_29 rfl ?_
    refine zV_getc hX dX10_steps_30 zf_X10_60 zo0.1 rfl ?_
    refine zV_aload_n hX dX10_steps_33 rfl ?_
    refine zV_getc hX dX10_steps_34 zf_X10_19 zo0.1 rfl ?_
    refine zV_iload_n hX dX10_steps_37 rfl ?_
    refine zV_i2f hX dX10_steps_38 ?_
    refine zV_iload_n hX dX10_steps_39 rfl ?_
    refine zV_i2f hX dX10_steps_40 ?_
    refine zV_fdiv hX dX10_steps_41 (sq_n (fld_sq hf8)) ?_
    refine zV_iload_n hX dX10_steps_42 rfl ?_
    refine zV_cV3p hX hR hl dX10_steps_43 (zc_leastSteps l G M 170 40 lc n t md (FP.fdiv (FP.i2f a) (FP.i2f b)) cn zo170 zo40 hn0 hn7 ht2 hL.lt (hL.f (by decide)) (by decide) hmd2) zt_X5_leastSteps rfl zml_X10_304 zo170.1 ⟨by decide, by decide⟩ (Nat.le_of_ble_eq_true rfl) ?_
    dsimp only [Option.toList, List.cons_append, List.nil_append]
    exact zV_reti hX hQ hr (⟨rfl, rfl⟩) dX10_steps_46
set_option maxHeartbeats 1000000 in
theorem zf_stepsA (l : Launch) (G : zG) (M : zM) (hst : l.stackTraces = false) (a b d : Int32) (hab : (mIn a (-99999) (nI 99999) && mIn b (nI 1) (nI 999)) = false) : zCx l G 9 1 6 yX10_steps cX10_steps 4 (Option.some Jvm.ClassFile.FieldType.int) [.ref (0 : Nat), .int a, .int b, .int d] M zIAE (mBa M) := by
  refine zCx_of (by decide) (Nat.le_of_ble_eq_true rfl) (fun X Q hQ hX hl hR hEx ht => ?_)
  refine zV_loc (L' := [.ref (0 : Nat), .int a, .int b, .int d]) rfl ?_
  refine zV_aload_n hX dX10_steps_0 rfl ?_
  refine zV_iload_n hX dX10_steps_1 rfl ?_
  refine zV_iload_n hX dX10_steps_2 rfl ?_
  refine zK_cS2p hX hR hl dX10_steps_3 (zCk.of (zc_isFraction l G _ _ _)) zt_X10_isFraction rfl zml_X10_90 (by decide) (Nat.le_of_ble_eq_true rfl) (by omega) ⟨rfl, rfl⟩ ?_
  dsimp only [Option.toList, List.cons_append, List.nil_append]
  refine zV_topi (zb false) (by rw [hab]) ?_
  refine zV_if_eqB hX (tgt := 25) dX10_steps_6 (by decide) (fun c_6 => ?_) (fun c_6 => absurd c_6 (by decide))
  refine zV_iconst hX (v := nI 0) dX10_steps_25 (by decide) ?_
  refine zV_topi (zb false) rfl ?_
  exact zX_cV1 hX hEx hR hl hQ ht dX10_steps_26 (zc_need0 l G _ hst) zt_X10_need rfl zml_X10_72 zo0.1 ⟨by decide, by decide⟩ (Nat.le_of_ble_eq_true rfl) (by omega)
set_option maxHeartbeats 1000000 in
theorem zf_stepsN (l : Launch) (G : zG) (M : zM) (hst : l.stackTraces = false) (a b d : Int32) (ha : mIn a (-99999) (nI 99999) = true) (hb : mIn b (nI 1) (nI 999) = true) (ha0 : a < 0) : zCx l G 9 1 6 yX10_steps cX10_steps 4 (Option.some Jvm.ClassFile.FieldType.int) [.ref (0 : Nat), .int a, .int b, .int d] M zIAE (mBa M) := by
  refine zCx_of (by decide) (Nat.le_of_ble_eq_true rfl) (fun X Q hQ hX hl hR hEx ht => ?_)
  refine zV_loc (L' := [.ref (0 : Nat), .int a, .int b, .int d]) rfl ?_
  refine zV_aload_n hX dX10_steps_0 rfl ?_
  refine zV_iload_n hX dX10_steps_1 rfl ?_
  refine zV_iload_n hX dX10_steps_2 rfl ?_
  refine zK_cS2p hX hR hl dX10_steps_3 (zCk.of (zc_isFraction l G _ _ _)) zt_X10_isFraction rfl zml_X10_90 (by decide) (Nat.le_of_ble_eq_true rfl) (by omega) ⟨rfl, rfl⟩ ?_
  dsimp only [Option.toList, List.cons_append, List.nil_append]
  refine zV_topi (zb true) (by rw [ha, hb, Bool.true_and]) ?_
  refine zV_if_eqB hX (tgt := 25) dX10_steps_6 (by decide) (fun c_6 => absurd c_6 (by decide)) (fun c_6 => ?_)
  refine zV_iload_n hX dX10_steps_9 rfl ?_
  refine zV_if_lt hX (tgt := 25) dX10_steps_10 (by decide) (fun c_10 => ?_) (fun c_10 => ?_)
  · refine zV_iconst hX (v := nI 0) dX10_steps_25 (by decide) ?_
    refine zV_topi (zb false) rfl ?_
    exact zX_cV1 hX hEx hR hl hQ ht dX10_steps_26 (zc_need0 l G _ hst) zt_X10_need rfl zml_X10_72 zo0.1 ⟨by decide, by decide⟩ (Nat.le_of_ble_eq_true rfl) (by omega)
  · exact absurd ha0 c_10
set_option maxHeartbeats 1000000 in
theorem zf_stepsM (l : Launch) (G : zG) (M : zM) (hst : l.stackTraces = false) (a b d : Int32) (ha : mIn a (-99999) (nI 99999) = true) (hb : mIn b (nI 1) (nI 999) = true) (hw : mIn d (nI 0) (nI 1) = false) : zCx l G 9 1 6 yX10_steps cX10_steps 4 (Option.some Jvm.ClassFile.FieldType.int) [.ref (0 : Nat), .int a, .int b, .int d] M zIAE (mBa M) := by
  refine zCx_of (by decide) (Nat.le_of_ble_eq_true rfl) (fun X Q hQ hX hl hR hEx ht => ?_)
  refine zV_loc (L' := [.ref (0 : Nat), .int a, .int b, .int d]) rfl ?_
  refine zV_aload_n hX dX10_steps_0 rfl ?_
  refine zV_iload_n hX dX10_steps_1 rfl ?_
  refine zV_iload_n hX dX10_steps_2 rfl ?_
  refine zK_cS2p hX hR hl dX10_steps_3 (zCk.of (zc_isFraction l G _ _ _)) zt_X10_isFraction rfl zml_X10_90 (by decide) (Nat.le_of_ble_eq_true rfl) (by omega) ⟨rfl, rfl⟩ ?_
  dsimp only [Option.toList, List.cons_append, List.nil_append]
  refine zV_topi (zb true) (by rw [ha, hb, Bool.true_and]) ?_
  refine zV_if_eqB hX (tgt := 25) dX10_steps_6 (by decide) (fun c_6 => absurd c_6 (by decide)) (fun c_6 => ?_)
  refine zV_iload_n hX dX10_steps_9 rfl ?_
  refine zV_if_lt hX (tgt := 25) dX10_steps_10 (by decide) (fun c_10 => ?_) (fun c_10 => ?_)
  · refine zV_iconst hX (v := nI 0) dX10_steps_25 (by decide) ?_
    refine zV_topi (zb false) rfl ?_
    exact zX_cV1 hX hEx hR hl hQ ht dX10_steps_26 (zc_need0 l G _ hst) zt_X10_need rfl zml_X10_72 zo0.1 ⟨by decide, by decide⟩ (Nat.le_of_ble_eq_true rfl) (by omega)
  · refine zV_iconst hX (v := nI 0) dX10_steps_13 (by decide) ?_
    refine zV_iload_n hX dX10_steps_14 rfl ?_
    refine zK_cS2p hX hR hl dX10_steps_15 (zCk.of (zc_isWayNearer l G _ _ _)) zt_X10_isWayNearer rfl zml_X10_291 (by decide) (Nat.le_of_ble_eq_true rfl) (by omega) ⟨rfl, rfl⟩ ?_
    dsimp only [Option.toList, List.cons_append, List.nil_append]
    refine zV_topi (zb false) (by rw [show mIn (nI 0) (nI 0) (nI 60) = true by decide, hw, Bool.and_false]) ?_
    refine zV_if_eqB hX (tgt := 25) dX10_steps_18 (by decide) (fun c_18 => ?_) (fun c_18 => absurd c_18 (by decide))
    refine zV_iconst hX (v := nI 0) dX10_steps_25 (by decide) ?_
    refine zV_topi (zb false) rfl ?_
    exact zX_cV1 hX hEx hR hl hQ ht dX10_steps_26 (zc_need0 l G _ hst) zt_X10_need rfl zml_X10_72 zo0.1 ⟨by decide, by decide⟩ (Nat.le_of_ble_eq_true rfl) (by omega)
