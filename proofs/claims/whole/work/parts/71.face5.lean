theorem t3 (k : Nat) (hk : k ≤ 3) (a0 : nI k ≠ nI 0) (a1 : nI k ≠ nI 1) (a2 : nI k ≠ nI 2) : k = 3 := by
  match k, hk with
  | 0, _ => exact absurd rfl a0
  | 1, _ => exact absurd rfl a1
  | 2, _ => exact absurd rfl a2
  | 3, _ => rfl
theorem t4 (k : Nat) (hk : k ≤ 4) (a0 : nI k ≠ nI 0) (a1 : nI k ≠ nI 1) (a2 : nI k ≠ nI 2) (a3 : nI k ≠ nI 3) : k = 4 := by
  match k, hk with
  | 0, _ => exact absurd rfl a0
  | 1, _ => exact absurd rfl a1
  | 2, _ => exact absurd rfl a2
  | 3, _ => exact absurd rfl a3
  | 4, _ => rfl
def fSg (R : zM) : Nat → Int32
  | 0 => R.1 120 0 | 1 => R.1 120 1 | 2 => R.1 120 2 | _ => R.1 120 3
set_option maxHeartbeats 1000000 in
theorem zf_signed (l : Launch) (G : zG) (M : zM) (lc n t : Nat) (cn : Nat → Nat) (j k : Nat)  (h40 : M.1 40 0 = nI n) (hn7 : n ≤ 7) (h41 : M.1 40 1 = nI t) (ht2 : t ≤ 2) (h43 : M.1 40 3 = nI lc) (hL : lyL lc) (hcn : lyN lc M cn) (hj : j < n) (hk : k ≤ 3) : zC l G 9 yX10_signed cX10_signed 3 (Option.some Jvm.ClassFile.FieldType.int) [.ref (0 : Nat), .int (nI j), .int (nI k)] M (zP (some (.int (fSg (sPlay 120 40 lc n t j cn M) k))) ((sPlay 120 40 lc n t j cn M))) := by
  refine zC_of (by decide) (Nat.le_of_ble_eq_true rfl) (fun X Q hQ hX hl hR hr => ?_)
  refine zV_loc (L' := [.ref (0 : Nat), .int (nI j), .int (nI k)]) rfl ?_
  have g40 := h40
  have g41 := h41
  have g43 := h43
  have gcn := hcn
  have hgr : fGr lc n t cn M := ⟨h40, h41, h43, hcn⟩
  obtain ⟨R, hRR⟩ : ∃ R, R = (sPlay 120 40 lc n t j cn M) := ⟨_, rfl⟩
  refine zV_aload_n hX dX10_signed_0 rfl ?_
  refine zV_aload_n hX dX10_signed_1 rfl ?_
  refine zV_getc hX dX10_signed_2 zf_X10_19 zo0.1 rfl ?_
  refine zV_iload_n hX dX10_signed_5 rfl ?_
  refine zV_cV1p hX hR hl dX10_signed_6 (zc_holds l G _ 40 n _ zo40 (h40)) zt_X2_holds rfl zml_X10_83 zo40.1 ⟨by decide, by decide⟩ (Nat.le_of_ble_eq_true rfl) ?_
  dsimp only [Option.toList, List.cons_append, List.nil_append]
  refine zV_topi (zb true) (by rw [zmem_nI (by omega) (by omega), decide_eq_true hj]) ?_
  refine zV_cV1p hX hR hl dX10_signed_9 (zc_such1 l G _) zt_X10_needSuch rfl zml_X10_87 zo0.1 ⟨by decide, by decide⟩ (Nat.le_of_ble_eq_true rfl) ?_
  dsimp only [Option.toList, List.cons_append, List.nil_append]
  refine zV_aload_n hX dX10_signed_12 rfl ?_
  refine zV_iload_n hX dX10_signed_13 rfl ?_
  refine zV_if_ltN hX (tgt := 26) dX10_signed_14 (by decide) (by omega) (fun c_14 => ?_)
  refine zV_iload_n hX dX10_signed_17 rfl ?_
  refine zV_iconst hX (v := nI 3) dX10_signed_18 (by decide) ?_
  refine zV_icmp_gtN hX (tgt := 26) dX10_signed_19 (by decide) ⟨by omega, by omega⟩ (fun c_19 => ?_) (fun c_19 => ?_)
  · refine zV_iconst hX (v := nI 0) dX10_signed_26 (by decide) ?_
    refine zV_topi (zb false) rfl ?_
    exfalso
    omega
  · refine zV_iconst hX (v := nI 1) dX10_signed_22 (by decide) ?_
    refine zV_goto hX (tgt := 27) dX10_signed_23 (by decide) ?_
    refine zV_topi (zb true) rfl ?_
    refine zV_cV1p hX hR hl dX10_signed_27 (zc_need1 l G _) zt_X10_need rfl zml_X10_72 zo0.1 ⟨by decide, by decide⟩ (Nat.le_of_ble_eq_true rfl) ?_
    dsimp only [Option.toList, List.cons_append, List.nil_append]
    refine zV_aload_n hX dX10_signed_30 rfl ?_
    refine zV_getc hX dX10_signed_31 zf_X10_39 zo0.1 rfl ?_
    refine zV_aload_n hX dX10_signed_34 rfl ?_
    refine zV_getc hX dX10_signed_35 zf_X10_19 zo0.1 rfl ?_
    refine zV_iload_n hX dX10_signed_38 rfl ?_
    refine zV_cV2p hX hR hl dX10_signed_39 (zc_splay l G _ 120 40 lc n t j cn zo120 zo40 (by decide) (hL.s (by decide)) g40 hn7 g41 ht2 g43 hL.lt gcn (by omega)) zt_X8_play rfl zml_X10_227 zo120.1 ⟨by decide, by decide⟩ (Nat.le_of_ble_eq_true rfl) ?_
    dsimp only [Option.toList, List.cons_append, List.nil_append]
    refine zV_mem hRR.symm ?_
    refine zV_iload_n hX dX10_signed_42 rfl ?_
    refine zV_case 0 (fun s_0 => ?_) (fun s_0 => ?_)
    · refine zV_tin hX (tgt := 68) dX10_signed_43 (by decide) (by decide) (off := 25) (by decide) (by decide) ?_
      refine zV_aload_n hX dX10_signed_68 rfl ?_
      refine zV_getc hX dX10_signed_69 zf_X10_39 zo0.1 rfl ?_
      refine zV_geti hX (x := R.1 120 0) dX10_signed_72 zf_X10_228 zo120.1 rfl (rfl) ?_
      exact zV_reti hX hQ hr (⟨by rw [← hRR]; (first | rw [show k = 0 from (nI_eq (by omega) (by decide)).mp s_0] | rw [show k = 1 from (nI_eq (by omega) (by decide)).mp s_1] | rw [show k = 2 from (nI_eq (by omega) (by decide)).mp s_2] | rw [t3 k hk s_0 s_1 s_2]); rfl, hRR⟩) dX10_signed_75
    refine zV_case 1 (fun s_1 => ?_) (fun s_1 => ?_)
    · refine zV_tin hX (tgt := 76) dX10_signed_43 (by decide) (by decide) (off := 33) (by decide) (by decide) ?_
      refine zV_aload_n hX dX10_signed_76 rfl ?_
      refine zV_getc hX dX10_signed_77 zf_X10_39 zo0.1 rfl ?_
      refine zV_geti hX (x := R.1 120 1) dX10_signed_80 zf_X10_230 zo120.1 rfl (rfl) ?_
      exact zV_reti hX hQ hr (⟨by rw [← hRR]; (first | rw [show k = 0 from (nI_eq (by omega) (by decide)).mp s_0] | rw [show k = 1 from (nI_eq (by omega) (by decide)).mp s_1] | rw [show k = 2 from (nI_eq (by omega) (by decide)).mp s_2] | rw [t3 k hk s_0 s_1 s_2]); rfl, hRR⟩) dX10_signed_83
    refine zV_case 2 (fun s_2 => ?_) (fun s_2 => ?_)
    · refine zV_tin hX (tgt := 84) dX10_signed_43 (by decide) (by decide) (off := 41) (by decide) (by decide) ?_
      refine zV_aload_n hX dX10_signed_84 rfl ?_
      refine zV_getc hX dX10_signed_85 zf_X10_39 zo0.1 rfl ?_
      refine zV_geti hX (x := R.1 120 2) dX10_signed_88 zf_X10_231 zo120.1 rfl (rfl) ?_
      exact zV_reti hX hQ hr (⟨by rw [← hRR]; (first | rw [show k = 0 from (nI_eq (by omega) (by decide)).mp s_0] | rw [show k = 1 from (nI_eq (by omega) (by decide)).mp s_1] | rw [show k = 2 from (nI_eq (by omega) (by decide)).mp s_2] | rw [t3 k hk s_0 s_1 s_2]); rfl, hRR⟩) dX10_signed_91
    refine zV_tout hX (tgt := 92) dX10_signed_43 (zsw_out 2 (by decide) (fun j hj => by match j, hj with | 0, _ => exact s_0 | 1, _ => exact s_1 | 2, _ => exact s_2 | _ + 3, h => omega)) (by decide) ?_
    refine zV_aload_n hX dX10_signed_92 rfl ?_
    refine zV_getc hX dX10_signed_93 zf_X10_39 zo0.1 rfl ?_
    refine zV_geti hX (x := R.1 120 3) dX10_signed_96 zf_X10_234 zo120.1 rfl (rfl) ?_
    exact zV_reti hX hQ hr (⟨by rw [← hRR]; (first | rw [show k = 0 from (nI_eq (by omega) (by decide)).mp s_0] | rw [show k = 1 from (nI_eq (by omega) (by decide)).mp s_1] | rw [show k = 2 from (nI_eq (by omega) (by decide)).mp s_2] | rw [t3 k hk s_0 s_1 s_2]); rfl, hRR⟩) dX10_signed_99
set_option maxHeartbeats 1000000 in
theorem zf_signedX (l : Launch) (G : zG) (M : zM) (hst : l.stackTraces = false) (n : Nat) (x k : Int32) (h40 : M.1 40 0 = nI n) (hn7 : n ≤ 7) (hx : zmem x n = false) : zCx l G 9 1 6 yX10_signed cX10_signed 3 (Option.some Jvm.ClassFile.FieldType.int) [.ref (0 : Nat), .int x, .int k] M zNSE (mBs M) := by
  refine zCx_of (by decide) (Nat.le_of_ble_eq_true rfl) (fun X Q hQ hX hl hR hEx ht => ?_)
  refine zV_loc (L' := [.ref (0 : Nat), .int x, .int k]) rfl ?_
  refine zV_aload_n hX dX10_signed_0 rfl ?_
  refine zV_aload_n hX dX10_signed_1 rfl ?_
  refine zV_getc hX dX10_signed_2 zf_X10_19 zo0.1 rfl ?_
  refine zV_iload_n hX dX10_signed_5 rfl ?_
  refine zK_cV1p hX hR hl dX10_signed_6 (zCk.of (zc_holds l G _ 40 n _ zo40 (h40))) zt_X2_holds rfl zml_X10_83 zo40.1 ⟨by decide, by decide⟩ (Nat.le_of_ble_eq_true rfl) (by omega) ⟨rfl, rfl⟩ ?_
  dsimp only [Option.toList, List.cons_append, List.nil_append]
  refine zV_topi (zb false) (by rw [hx]) ?_
  exact zX_cV1 hX hEx hR hl hQ ht dX10_signed_9 (zc_such0 l G _ hst) zt_X10_needSuch rfl zml_X10_87 zo0.1 ⟨by decide, by decide⟩ (Nat.le_of_ble_eq_true rfl) (by omega)
set_option maxHeartbeats 1000000 in
theorem zf_signedK (l : Launch) (G : zG) (M : zM) (hst : l.stackTraces = false) (n j : Nat) (k : Int32) (h40 : M.1 40 0 = nI n) (hn7 : n ≤ 7) (hj : j < n) (hk : mIn k (nI 0) (nI 3) = false) : zCx l G 9 1 6 yX10_signed cX10_signed 3 (Option.some Jvm.ClassFile.FieldType.int) [.ref (0 : Nat), .int (nI j), .int k] M zIAE (mBa M) := by
  refine zCx_of (by decide) (Nat.le_of_ble_eq_true rfl) (fun X Q hQ hX hl hR hEx ht => ?_)
  refine zV_loc (L' := [.ref (0 : Nat), .int (nI j), .int k]) rfl ?_
  refine zV_aload_n hX dX10_signed_0 rfl ?_
  refine zV_aload_n hX dX10_signed_1 rfl ?_
  refine zV_getc hX dX10_signed_2 zf_X10_19 zo0.1 rfl ?_
  refine zV_iload_n hX dX10_signed_5 rfl ?_
  refine zK_cV1p hX hR hl dX10_signed_6 (zCk.of (zc_holds l G _ 40 n _ zo40 (h40))) zt_X2_holds rfl zml_X10_83 zo40.1 ⟨by decide, by decide⟩ (Nat.le_of_ble_eq_true rfl) (by omega) ⟨rfl, rfl⟩ ?_
  dsimp only [Option.toList, List.cons_append, List.nil_append]
  refine zV_topi (zb true) (by rw [zmem_nI (by omega) (by omega), decide_eq_true hj]) ?_
  refine zK_cV1p hX hR hl dX10_signed_9 (zCk.of (zc_such1 l G _)) zt_X10_needSuch rfl zml_X10_87 zo0.1 ⟨by decide, by decide⟩ (Nat.le_of_ble_eq_true rfl) (by omega) ⟨rfl, rfl⟩ ?_
  dsimp only [Option.toList, List.cons_append, List.nil_append]
  refine zV_aload_n hX dX10_signed_12 rfl ?_
  refine zV_iload_n hX dX10_signed_13 rfl ?_
  refine zV_if_lt hX (tgt := 26) dX10_signed_14 (by decide) (fun c_14 => ?_) (fun c_14 => ?_)
  · refine zV_iconst hX (v := nI 0) dX10_signed_26 (by decide) ?_
    refine zV_topi (zb false) rfl ?_
    exact zX_cV1 hX hEx hR hl hQ ht dX10_signed_27 (zc_need0 l G _ hst) zt_X10_need rfl zml_X10_72 zo0.1 ⟨by decide, by decide⟩ (Nat.le_of_ble_eq_true rfl) (by omega)
  · refine zV_iload_n hX dX10_signed_17 rfl ?_
    refine zV_iconst hX (v := nI 3) dX10_signed_18 (by decide) ?_
    refine zV_icmp_gt hX (tgt := 26) dX10_signed_19 (by decide) (fun c_19 => ?_) (fun c_19 => ?_)
    · refine zV_iconst hX (v := nI 0) dX10_signed_26 (by decide) ?_
      refine zV_topi (zb false) rfl ?_
      exact zX_cV1 hX hEx hR hl hQ ht dX10_signed_27 (zc_need0 l G _ hst) zt_X10_need rfl zml_X10_72 zo0.1 ⟨by decide, by decide⟩ (Nat.le_of_ble_eq_true rfl) (by omega)
    · refine zV_iconst hX (v := nI 1) dX10_signed_22 (by decide) ?_
      refine zV_goto hX (tgt := 27) dX10_signed_23 (by decide) ?_
      refine zV_topi (zb true) rfl ?_
      rw [mIn_t (show ¬ k < nI 0 from c_14) c_19] at hk
      exact absurd hk (by decide)
def fSo (R : zM) (i q : Nat) : Nat → Int32
  | 0 => R.1 127 i | 1 => R.1 125 i | 2 => R.1 126 i | _ => if q = 0 then nI 0 else R.1 132 (i * 7 + q - 1)
set_option maxHeartbeats 1000000 in
theorem zf_signedOf (l : Launch) (G : zG) (M : zM) (lc n t : Nat) (cn : Nat → Nat) (j i k q : Nat)  (h40 : M.1 40 0 = nI n) (hn7 : n ≤ 7) (h41 : M.1 40 1 = nI t) (ht2 : t ≤ 2) (h43 : M.1 40 3 = nI lc) (hL : lyL lc) (hcn : lyN lc M cn) (hj : j < n) (hi : i < n) (hk : k ≤ 3) (hq : (sPlay 120 40 lc n t j cn M).1 125 i = nI q) (hq7 : q ≤ 7) : zC l G 9 yX10_signedOf cX10_signedOf 4 (Option.some Jvm.ClassFile.FieldType.int) [.ref (0 : Nat), .int (nI j), .int (nI i), .int (nI k)] M (zP (some (.int (fSo (sPlay 120 40 lc n t j cn M) i q k))) ((sPlay 120 40 lc n t j cn M))) := by
  refine zC_of (by decide) (Nat.le_of_ble_eq_true rfl) (fun X Q hQ hX hl hR hr => ?_)
  refine zV_loc (L' := [.ref (0 : Nat), .int (nI j), .int (nI i), .int (nI k)]) rfl ?_
  have g40 := h40
  have g41 := h41
  have g43 := h43
  have gcn := hcn
  have hgr : fGr lc n t cn M := ⟨h40, h41, h43, hcn⟩
  obtain ⟨R, hRR⟩ : ∃ R, R = (sPlay 120 40 lc n t j cn M) := ⟨_, rfl⟩
  rw [← hRR] at hq
  refine zV_aload_n hX dX10_signedOf_0 rfl ?_
  refine zV_aload_n hX dX10_signedOf_1 rfl ?_
  refine zV_getc hX dX10_signedOf_2 zf_X10_19 zo0.1 rfl ?_
  refine zV_iload_n hX dX10_signedOf_5 rfl ?_
  refine zV_cV1p hX hR hl dX10_signedOf_6 (zc_holds l G _ 40 n _ zo40 (h40)) zt_X2_holds rfl zml_X10_83 zo40.1 ⟨by decide, by decide⟩ (Nat.le_of_ble_eq_true rfl) ?_
  dsimp only [Option.toList, List.cons_append, List.nil_append]
  refine zV_topi (zb true) (by rw [zmem_nI (by omega) (by omega), decide_eq_true hj]) ?_
  refine zV_if_eqB hX (tgt := 27) dX10_signedOf_9 (by decide) (fun c_9 => absurd c_9 (by decide)) (fun c_9 => ?_)
  refine zV_aload_n hX dX10_signedOf_12 rfl ?_
  refine zV_getc hX dX10_signedOf_13 zf_X10_19 zo0.1 rfl ?_
  refine zV_iload_n hX dX10_signedOf_16 rfl ?_
  refine zV_cV1p hX hR hl dX10_signedOf_17 (zc_holds l G _ 40 n _ zo40 (h40)) zt_X2_holds rfl zml_X10_83 zo40.1 ⟨by decide, by decide⟩ (Nat.le_of_ble_eq_true rfl) ?_
  dsimp only [Option.toList, List.cons_append, List.nil_append]
  refine zV_topi (zb true) (by rw [zmem_nI (by omega) (by omega), decide_eq_true hi]) ?_
  refine zV_if_eqB hX (tgt := 27) dX10_signedOf_20 (by decide) (fun c_20 => absurd c_20 (by decide)) (fun c_20 => ?_)
  refine zV_iconst hX (v := nI 1) dX10_signedOf_23 (by decide) ?_
  refine zV_goto hX (tgt := 28) dX10_signedOf_24 (by decide) ?_
  refine zV_topi (zb true) rfl ?_
  refine zV_cV1p hX hR hl dX10_signedOf_28 (zc_such1 l G _) zt_X10_needSuch rfl zml_X10_87 zo0.1 ⟨by decide, by decide⟩ (Nat.le_of_ble_eq_true rfl) ?_
  dsimp only [Option.toList, List.cons_append, List.nil_append]
  refine zV_aload_n hX dX10_signedOf_31 rfl ?_
  refine zV_iload_n hX dX10_signedOf_32 rfl ?_
  refine zV_if_ltN hX (tgt := 45) dX10_signedOf_33 (by decide) (by omega) (fun c_33 => ?_)
  refine zV_iload_n hX dX10_signedOf_36 rfl ?_
  refine zV_iconst hX (v := nI 3) dX10_signedOf_37 (by decide) ?_
  refine zV_icmp_gtN hX (tgt := 45) dX10_signedOf_38 (by decide) ⟨by omega, by omega⟩ (fun c_38 => ?_) (fun c_38 => ?_)
  · refine zV_iconst hX (v := nI 0) dX10_signedOf_45 (by decide) ?_
    refine zV_topi (zb false) rfl ?_
    exfalso
    omega
  · refine zV_iconst hX (v := nI 1) dX10_signedOf_41 (by decide) ?_
    refine zV_goto hX (tgt := 46) dX10_signedOf_42 (by decide) ?_
    refine zV_topi (zb true) rfl ?_
    refine zV_cV1p hX hR hl dX10_signedOf_46 (zc_need1 l G _) zt_X10_need rfl zml_X10_72 zo0.1 ⟨by decide, by decide⟩ (Nat.le_of_ble_eq_true rfl) ?_
    dsimp only [Option.toList, List.cons_append, List.nil_append]
    refine zV_aload_n hX dX10_signedOf_49 rfl ?_
    refine zV_getc hX dX10_signedOf_50 zf_X10_39 zo0.1 rfl ?_
    refine zV_aload_n hX dX10_signedOf_53 rfl ?_
    refine zV_getc hX dX10_signedOf_54 zf_X10_19 zo0.1 rfl ?_
    refine zV_iload_n hX dX10_signedOf_57 rfl ?_
    refine zV_cV2p hX hR hl dX10_signedOf_58 (zc_splay l G _ 120 40 lc n t j cn zo120 zo40 (by decide) (hL.s (by decide)) g40 hn7 g41 ht2 g43 hL.lt gcn (by omega)) zt_X8_play rfl zml_X10_227 zo120.1 ⟨by decide, by decide⟩ (Nat.le_of_ble_eq_true rfl) ?_
    dsimp only [Option.toList, List.cons_append, List.nil_append]
    refine zV_mem hRR.symm ?_
    refine zV_iload_n hX dX10_signedOf_61 rfl ?_
    refine zV_case 0 (fun s_0 => ?_) (fun s_0 => ?_)
    · refine zV_tin hX (tgt := 88) dX10_signedOf_62 (by decide) (by decide) (off := 26) (by decide) (by decide) ?_
      refine zV_aload_n hX dX10_signedOf_88 rfl ?_
      refine zV_getc hX dX10_signedOf_89 zf_X10_39 zo0.1 rfl ?_
      refine zV_geta hX dX10_signedOf_92 zf_X10_235 zo120.1 rfl ?_
      refine zV_iload_n hX dX10_signedOf_95 rfl ?_
      refine zV_iald hX (v := R.1 127 i) dX10_signedOf_96 (zo120.a 6 rfl) (rfl) ⟨by omega, by omega⟩ (rfl) ?_
      exact zV_reti hX hQ hr (⟨by rw [← hRR]; (first | rw [show k = 0 from (nI_eq (by omega) (by decide)).mp s_0] | rw [show k = 1 from (nI_eq (by omega) (by decide)).mp s_1] | rw [show k = 2 from (nI_eq (by omega) (by decide)).mp s_2] | rw [t3 k hk s_0 s_1 s_2]); rfl, hRR⟩) dX10_signedOf_97
    refine zV_case 1 (fun s_1 => ?_) (fun s_1 => ?_)
    · refine zV_tin hX (tgt := 98) dX10_signedOf_62 (by decide) (by decide) (off := 36) (by decide) (by decide) ?_
      refine zV_aload_n hX dX10_signedOf_98 rfl ?_
      refine zV_getc hX dX10_signedOf_99 zf_X10_39 zo0.1 rfl ?_
      refine zV_geta hX dX10_signedOf_102 zf_X10_237 zo120.1 rfl ?_
      refine zV_iload_n hX dX10_signedOf_105 rfl ?_
      refine zV_iald hX (v := R.1 125 i) dX10_signedOf_106 (zo120.a 4 rfl) (rfl) ⟨by omega, by omega⟩ (rfl) ?_
      exact zV_reti hX hQ hr (⟨by rw [← hRR]; (first | rw [show k = 0 from (nI_eq (by omega) (by decide)).mp s_0] | rw [show k = 1 from (nI_eq (by omega) (by decide)).mp s_1] | rw [show k = 2 from (nI_eq (by omega) (by decide)).mp s_2] | rw [t3 k hk s_0 s_1 s_2]); rfl, hRR⟩) dX10_signedOf_107
    refine zV_case 2 (fun s_2 => ?_) (fun s_2 => ?_)
    · refine zV_tin hX (tgt := 108) dX10_signedOf_62 (by decide) (by decide) (off := 46) (by decide) (by decide) ?_
      refine zV_aload_n hX dX10_signedOf_108 rfl ?_
      refine zV_getc hX dX10_signedOf_109 zf_X10_39 zo0.1 rfl ?_
      refine zV_geta hX dX10_signedOf_112 zf_X10_240 zo120.1 rfl ?_
      refine zV_iload_n hX dX10_signedOf_115 rfl ?_
      refine zV_iald hX (v := R.1 126 i) dX10_signedOf_116 (zo120.a 5 rfl) (rfl) ⟨by omega, by omega⟩ (rfl) ?_
      exact zV_reti hX hQ hr (⟨by rw [← hRR]; (first | rw [show k = 0 from (nI_eq (by omega) (by decide)).mp s_0] | rw [show k = 1 from (nI_eq (by omega) (by decide)).mp s_1] | rw [show k = 2 from (nI_eq (by omega) (by decide)).mp s_2] | rw [t3 k hk s_0 s_1 s_2]); rfl, hRR⟩) dX10_signedOf_117
    refine zV_tout hX (tgt := 118) dX10_signedOf_62 (zsw_out 2 (by decide) (fun j hj => by match j, hj with | 0, _ => exact s_0 | 1, _ => exact s_1 | 2, _ => exact s_2 | _ + 3, h => omega)) (by decide) ?_
    refine zV_aload_n hX dX10_signedOf_118 rfl ?_
    refine zV_getc hX dX10_signedOf_119 zf_X10_39 zo0.1 rfl ?_
    refine zV_iload_n hX dX10_signedOf_122 rfl ?_
    refine zV_cV1p hX hR hl dX10_signedOf_123 (zc_latestRound l G R 120 i q zo120 (by omega) hq hq7) zt_X8_latestRound rfl zml_X10_241 zo120.1 ⟨by decide, by decide⟩ (Nat.le_of_ble_eq_true rfl) ?_
    dsimp only [Option.toList, List.cons_append, List.nil_append]
    exact zV_reti hX hQ hr (⟨by rw [← hRR]; (first | rw [show k = 0 from (nI_eq (by omega) (by decide)).mp s_0] | rw [show k = 1 from (nI_eq (by omega) (by decide)).mp s_1] | rw [show k = 2 from (nI_eq (by omega) (by decide)).mp s_2] | rw [t3 k hk s_0 s_1 s_2]); rfl, hRR⟩) dX10_signedOf_126
set_option maxHeartbeats 1000000 in
theorem zf_signedOfX (l : Launch) (G : zG) (M : zM) (hst : l.stackTraces = false) (n : Nat) (x z k : Int32) (h40 : M.1 40 0 = nI n) (hn7 : n ≤ 7) (hx : zmem x n = false) : zCx l G 9 1 6 yX10_signedOf cX10_signedOf 4 (Option.some Jvm.ClassFile.FieldType.int) [.ref (0 : Nat), .int x, .int z, .int k] M zNSE (mBs M) := by
  refine zCx_of (by decide) (Nat.le_of_ble_eq_true rfl) (fun X Q hQ hX hl hR hEx ht => ?_)
  refine zV_loc (L' := [.ref (0 : Nat), .int x, .int z, .int k]) rfl ?_
  refine zV_aload_n hX dX10_signedOf_0 rfl ?_
  refine zV_aload_n hX dX10_signedOf_1 rfl ?_
  refine zV_getc hX dX10_signedOf_2 zf_X10_19 zo0.1 rfl ?_
  refine zV_iload_n hX dX10_signedOf_5 rfl ?_
  refine zK_cV1p hX hR hl dX10_signedOf_6 (zCk.of (zc_holds l G _ 40 n _ zo40 (h40))) zt_X2_holds rfl zml_X10_83 zo40.1 ⟨by decide, by decide⟩ (Nat.le_of_ble_eq_true rfl) (by omega) ⟨rfl, rfl⟩ ?_
  dsimp only [Option.toList, List.cons_append, List.nil_append]
  refine zV_topi (zb false) (by rw [hx]) ?_
  refine zV_if_eqB hX (tgt := 27) dX10_signedOf_9 (by decide) (fun c_9 => ?_) (fun c_9 => absurd c_9 (by decide))
  refine zV_iconst hX (v := nI 0) dX10_signedOf_27 (by decide) ?_
  refine zV_topi (zb false) rfl ?_
  exact zX_cV1 hX hEx hR hl hQ ht dX10_signedOf_28 (zc_such0 l G _ hst) zt_X10_needSuch rfl zml_X10_87 zo0.1 ⟨by decide, by decide⟩ (Nat.le_of_ble_eq_true rfl) (by omega)
set_option maxHeartbeats 1000000 in
theorem zf_signedOfZ (l : Launch) (G : zG) (M : zM) (hst : l.stackTraces = false) (n j : Nat) (z k : Int32) (h40 : M.1 40 0 = nI n) (hn7 : n ≤ 7) (hj : j < n) (hx : zmem z n = false) : zCx l G 9 1 6 yX10_signedOf cX10_signedOf 4 (Option.some Jvm.ClassFile.FieldType.int) [.ref (0 : Nat), .int (nI j), .int z, .int k] M zNSE (mBs M) := by
  refine zCx_of (by decide) (Nat.le_of_ble_eq_true rfl) (fun X Q hQ hX hl hR hEx ht => ?_)
  refine zV_loc (L' := [.ref (0 : Nat), .int (nI j), .int z, .int k]) rfl ?_
  refine zV_aload_n hX dX10_signedOf_0 rfl ?_
  refine zV_aload_n hX dX10_signedOf_1 rfl ?_
  refine zV_getc hX dX10_signedOf_2 zf_X10_19 zo0.1 rfl ?_
  refine zV_iload_n hX dX10_signedOf_5 rfl ?_
  refine zK_cV1p hX hR hl dX10_signedOf_6 (zCk.of (zc_holds l G _ 40 n _ zo40 (h40))) zt_X2_holds rfl zml_X10_83 zo40.1 ⟨by decide, by decide⟩ (Nat.le_of_ble_eq_true rfl) (by omega) ⟨rfl, rfl⟩ ?_
  dsimp only [Option.toList, List.cons_append, List.nil_append]
  refine zV_topi (zb true) (by rw [zmem_nI (by omega) (by omega), decide_eq_true hj]) ?_
  refine zV_if_eqB hX (tgt := 27) dX10_signedOf_9 (by decide) (fun c_9 => absurd c_9 (by decide)) (fun c_9 => ?_)
  refine zV_aload_n hX dX10_signedOf_12 rfl ?_
  refine zV_getc hX dX10_signedOf_13 zf_X10_19 zo0.1 rfl ?_
  refine zV_iload_n hX dX10_signedOf_16 rfl ?_
  refine zK_cV1p hX hR hl dX10_signedOf_17 (zCk.of (zc_holds l G _ 40 n _ zo40 (h40))) zt_X2_holds rfl zml_X10_83 zo40.1 ⟨by decide, by decide⟩ (Nat.le_of_ble_eq_true rfl) (by omega) ⟨rfl, rfl⟩ ?_
  dsimp only [Option.toList, List.cons_append, List.nil_append]
  refine zV_topi (zb false) (by rw [hx]) ?_
  refine zV_if_eqB hX (tgt := 27) dX10_signedOf_20 (by decide) (fun c_20 => ?_) (fun c_20 => absurd c_20 (by decide))
  refine zV_iconst hX (v := nI 0) dX10_signedOf_27 (by decide) ?_
  refine zV_topi (zb false) rfl ?_
  exact zX_cV1 hX hEx hR hl hQ ht dX10_signedOf_28 (zc_such0 l G _ hst) zt_X10_needSuch rfl zml_X10_87 zo0.1 ⟨by decide, by decide⟩ (Nat.le_of_ble_eq_true rfl) (by omega)
set_option maxHeartbeats 1000000 in
theorem zf_signedOfK (l : Launch) (G : zG) (M : zM) (hst : l.stackTraces = false) (n j i : Nat) (k : Int32) (h40 : M.1 40 0 = nI n) (hn7 : n ≤ 7) (hj : j < n) (hi : i < n) (hk : mIn k (nI 0) (nI 3) = false) : zCx l G 9 1 6 yX10_signedOf cX10_signedOf 4 (Option.some Jvm.ClassFile.FieldType.int) [.ref (0 : Nat), .int (nI j), .int (nI i), .int k] M zIAE (mBa M) := by
  refine zCx_of (by decide) (Nat.le_of_ble_eq_true rfl) (fun X Q hQ hX hl hR hEx ht => ?_)
  refine zV_loc (L' := [.ref (0 : Nat), .int (nI j), .int (nI i), .int k]) rfl ?_
  refine zV_aload_n hX dX10_signedOf_0 rfl ?_
  refine zV_aload_n hX dX10_signedOf_1 rfl ?_
  refine zV_getc hX dX10_signedOf_2 zf_X10_19 zo0.1 rfl ?_
  refine zV_iload_n hX dX10_signedOf_5 rfl ?_
  refine zK_cV1p hX hR hl dX10_signedOf_6 (zCk.of (zc_holds l G _ 40 n _ zo40 (h40))) zt_X2_holds rfl zml_X10_83 zo40.1 ⟨by decide, by decide⟩ (Nat.le_of_ble_eq_true rfl) (by omega) ⟨rfl, rfl⟩ ?_
  dsimp only [Option.toList, List.cons_append, List.nil_append]
  refine zV_topi (zb true) (by rw [zmem_nI (by omega) (by omega), decide_eq_true hj]) ?_
  refine zV_if_eqB hX (tgt := 27) dX10_signedOf_9 (by decide) (fun c_9 => absurd c_9 (by decide)) (fun c_9 => ?_)
  refine zV_aload_n hX dX10_signedOf_12 rfl ?_
  refine zV_getc hX dX10_signedOf_13 zf_X10_19 zo0.1 rfl ?_
  refine zV_iload_n hX dX10_signedOf_16 rfl ?_
  refine zK_cV1p hX hR hl dX10_signedOf_17 (zCk.of (zc_holds l G _ 40 n _ zo40 (h40))) zt_X2_holds rfl zml_X10_83 zo40.1 ⟨by decide, by decide⟩ (Nat.le_of_ble_eq_true rfl) (by omega) ⟨rfl, rfl⟩ ?_
  dsimp only [Option.toList, List.cons_append, List.nil_append]
  refine zV_topi (zb true) (by rw [zmem_nI (by omega) (by omega), decide_eq_true hi]) ?_
  refine zV_if_eqB hX (tgt := 27) dX10_signedOf_20 (by decide) (fun c_20 => absurd c_20 (by decide)) (fun c_20 => ?_)
  refine zV_iconst hX (v := nI 1) dX10_signedOf_23 (by decide) ?_
  refine zV_goto hX (tgt := 28) dX10_signedOf_24 (by decide) ?_
  refine zV_topi (zb true) rfl ?_
  refine zK_cV1p hX hR hl dX10_signedOf_28 (zCk.of (zc_such1 l G _)) zt_X10_needSuch rfl zml_X10_87 zo0.1 ⟨by decide, by decide⟩ (Nat.le_of_ble_eq_true rfl) (by omega) ⟨rfl, rfl⟩ ?_
  dsimp only [Option.toList, List.cons_append, List.nil_append]
  refine zV_aload_n hX dX10_signedOf_31 rfl ?_
  refine zV_iload_n hX dX10_signedOf_32 rfl ?_
  refine zV_if_lt hX (tgt := 45) dX10_signedOf_33 (by decide) (fun c_33 => ?_) (fun c_33 => ?_)
  · refine zV_iconst hX (v := nI 0) dX10_signedOf_45 (by decide) ?_
    refine zV_topi (zb false) rfl ?_
    exact zX_cV1 hX hEx hR hl hQ ht dX10_signedOf_46 (zc_need0 l G _ hst) zt_X10_need rfl zml_X10_72 zo0.1 ⟨by decide, by decide⟩ (Nat.le_of_ble_eq_true rfl) (by omega)
  · refine zV_iload_n hX dX10_signedOf_36 rfl ?_
    refine zV_iconst hX (v := nI 3) dX10_signedOf_37 (by decide) ?_
    refine zV_icmp_gt hX (tgt := 45) dX10_signedOf_38 (by decide) (fun c_38 => ?_) (fun c_38 => ?_)
    · refine zV_iconst hX (v := nI 0) dX10_signedOf_45 (by decide) ?_
      refine zV_topi (zb false) rfl ?_
      exact zX_cV1 hX hEx hR hl hQ ht dX10_signedOf_46 (zc_need0 l G _ hst) zt_X10_need rfl zml_X10_72 zo0.1 ⟨by decide, by decide⟩ (Nat.le_of_ble_eq_true rfl) (by omega)
    · refine zV_iconst hX (v := nI 1) dX10_signedOf_41 (by decide) ?_
      refine zV_goto hX (tgt := 46) dX10_signedOf_42 (by decide) ?_
      refine zV_topi (zb true) rfl ?_
      rw [mIn_t (show ¬ k < nI 0 from c_33) c_38] at hk
      exact absurd hk (by decide)
set_option maxHeartbeats 1000000 in
theorem zf_taken (l : Launch) (G : zG) (M : zM) (lc n t : Nat) (cn : Nat → Nat) (j i k w q : Nat)  (h40 : M.1 40 0 = nI n) (hn7 : n ≤ 7) (h41 : M.1 40 1 = nI t) (ht2 : t ≤ 2) (h43 : M.1 40 3 = nI lc) (hL : lyL lc) (hcn : lyN lc M cn) (hj : j < n) (hi : i < n) (hq : (sPlay 120 40 lc n t j cn M).1 125 i = nI q) (hq7 : q ≤ 7) (hk : k < q) (hw : w < 2) : zC l G 9 yX10_taken cX10_taken 5 (Option.some Jvm.ClassFile.FieldType.int) [.ref (0 : Nat), .int (nI j), .int (nI i), .int (nI k), .int (nI w)] M (zP (some (.int (if w = 0 then (sPlay 120 40 lc n t j cn M).1 (120 + 1 + 8) (i * 7 + k) else (sPlay 120 40 lc n t j cn M).1 (120 + 1 + 9) (i * 7 + k)))) ((sPlay 120 40 lc n t j cn M))) := by
  refine zC_of (by decide) (Nat.le_of_ble_eq_true rfl) (fun X Q hQ hX hl hR hr => ?_)
  refine zV_loc (L' := [.ref (0 : Nat), .int (nI j), .int (nI i), .int (nI k), .int (nI w)]) rfl ?_
  have g40 := h40
  have g41 := h41
  have g43 := h43
  have gcn := hcn
  have hgr : fGr lc n t cn M := ⟨h40, h41, h43, hcn⟩
  obtain ⟨R, hRR⟩ : ∃ R, R = (sPlay 120 40 lc n t j cn M) := ⟨_, rfl⟩
  rw [← hRR] at hq
  refine zV_aload_n hX dX10_taken_0 rfl ?_
  refine zV_aload_n hX dX10_taken_1 rfl ?_
  refine zV_getc hX dX10_taken_2 zf_X10_19 zo0.1 rfl ?_
  refine zV_iload_n hX dX10_taken_5 rfl ?_
  refine zV_cV1p hX hR hl dX10_taken_6 (zc_holds l G _ 40 n _ zo40 (h40)) zt_X2_holds rfl zml_X10_83 zo40.1 ⟨by decide, by decide⟩ (Nat.le_of_ble_eq_true rfl) ?_
  dsimp only [Option.toList, List.cons_append, List.nil_append]
  refine zV_topi (zb true) (by rw [zmem_nI (by omega) (by omega), decide_eq_true hj]) ?_
  refine zV_if_eqB hX (tgt := 27) dX10_taken_9 (by decide) (fun c_9 => absurd c_9 (by decide)) (fun c_9 => ?_)
  refine zV_aload_n hX dX10_taken_12 rfl ?_
  refine zV_getc hX dX10_taken_13 zf_X10_19 zo0.1 rfl ?_
  refine zV_iload_n hX dX10_taken_16 rfl ?_
  refine zV_cV1p hX hR hl dX10_taken_17 (zc_holds l G _ 40 n _ zo40 (h40)) zt_X2_holds rfl zml_X10_83 zo40.1 ⟨by decide, by decide⟩ (Nat.le_of_ble_eq_true rfl) ?_
  dsimp only [Option.toList, List.cons_append, List.nil_append]
  refine zV_topi (zb true) (by rw [zmem_nI (by omega) (by omega), decide_eq_true hi]) ?_
  refine zV_if_eqB hX (tgt := 27) dX10_taken_20 (by decide) (fun c_20 => absurd c_20 (by decide)) (fun c_20 => ?_)
  refine zV_iconst hX (v := nI 1) dX10_taken_23 (by decide) ?_
  refine zV_goto hX (tgt := 28) dX10_taken_24 (by decide) ?_
  refine zV_topi (zb true) rfl ?_
  refine zV_cV1p hX hR hl dX10_taken_28 (zc_such1 l G _) zt_X10_needSuch rfl zml_X10_87 zo0.1 ⟨by decide, by decide⟩ (Nat.le_of_ble_eq_true rfl) ?_
  dsimp only [Option.toList, List.cons_append, List.nil_append]
  refine zV_aload_n hX dX10_taken_31 rfl ?_
  refine zV_getc hX dX10_taken_32 zf_X10_39 zo0.1 rfl ?_
  refine zV_aload_n hX dX10_taken_35 rfl ?_
  refine zV_getc hX dX10_taken_36 zf_X10_19 zo0.1 rfl ?_
  refine zV_iload_n hX dX10_taken_39 rfl ?_
  refine zV_cV2p hX hR hl dX10_taken_40 (zc_splay l G _ 120 40 lc n t j cn zo120 zo40 (by decide) (hL.s (by decide)) g40 hn7 g41 ht2 g43 hL.lt gcn (by omega)) zt_X8_play rfl zml_X10_227 zo120.1 ⟨by decide, by decide⟩ (Nat.le_of_ble_eq_true rfl) ?_
  dsimp only [Option.toList, List.cons_append, List.nil_append]
  refine zV_mem hRR.symm ?_
  refine zV_aload_n hX dX10_taken_43 rfl ?_
  refine zV_iload_n hX dX10_taken_44 rfl ?_
  refine zV_if_ltN hX (tgt := 65) dX10_taken_45 (by decide) (by omega) (fun c_45 => ?_)
  refine zV_iload_n hX dX10_taken_48 rfl ?_
  refine zV_aload_n hX dX10_taken_49 rfl ?_
  refine zV_getc hX dX10_taken_50 zf_X10_39 zo0.1 rfl ?_
  refine zV_geta hX dX10_taken_53 zf_X10_237 zo120.1 rfl ?_
  refine zV_iload_n hX dX10_taken_56 rfl ?_
  refine zV_iald hX (v := nI q) dX10_taken_57 (zo120.a 4 rfl) (rfl) ⟨by omega, by omega⟩ (hq) ?_
  refine zV_icmp_geN hX (tgt := 65) dX10_taken_58 (by decide) ⟨by omega, by omega⟩ (fun c_58 => ?_) (fun c_58 => ?_)
  · refine zV_iconst hX (v := nI 0) dX10_taken_65 (by decide) ?_
    refine zV_topi (zb false) rfl ?_
    exfalso
    omega
  · refine zV_iconst hX (v := nI 1) dX10_taken_61 (by decide) ?_
    refine zV_goto hX (tgt := 66) dX10_taken_62 (by decide) ?_
    refine zV_topi (zb true) rfl ?_
    refine zV_cV1p hX hR hl dX10_taken_66 (zc_such1 l G _) zt_X10_needSuch rfl zml_X10_87 zo0.1 ⟨by decide, by decide⟩ (Nat.le_of_ble_eq_true rfl) ?_
    dsimp only [Option.toList, List.cons_append, List.nil_append]
    refine zV_aload_n hX dX10_taken_69 rfl ?_
    refine zV_iload hX dX10_taken_70 rfl ?_
    refine zV_if_eqN hX (tgt := 81) dX10_taken_72 (by decide) (by omega) (fun c_72 => ?_) (fun c_72 => ?_)
    · refine zV_iconst hX (v := nI 1) dX10_taken_81 (by decide) ?_
      refine zV_goto hX (tgt := 86) dX10_taken_82 (by decide) ?_
      refine zV_topi (zb true) rfl ?_
      refine zV_cV1p hX hR hl dX10_taken_86 (zc_need1 l G _) zt_X10_need rfl zml_X10_72 zo0.1 ⟨by decide, by decide⟩ (Nat.le_of_ble_eq_true rfl) ?_
      dsimp only [Option.toList, List.cons_append, List.nil_append]
      refine zV_aload_n hX dX10_taken_89 rfl ?_
      refine zV_getc hX dX10_taken_90 zf_X10_39 zo0.1 rfl ?_
      refine zV_iload_n hX dX10_taken_93 rfl ?_
      refine zV_iload_n hX dX10_taken_94 rfl ?_
      refine zV_iload hX dX10_taken_95 rfl ?_
      refine zV_cV3p hX hR hl dX10_taken_97 (zc_takenOf l G R 120 i k w zo120 (by omega) (by omega) hw) zt_X8_takenOf rfl zml_X10_244 zo120.1 ⟨by decide, by decide⟩ (Nat.le_of_ble_eq_true rfl) ?_
      dsimp only [Option.toList, List.cons_append, List.nil_append]
      exact zV_reti hX hQ hr (⟨by rw [← hRR], hRR⟩) dX10_taken_100
    · refine zV_iload hX dX10_taken_75 rfl ?_
      refine zV_iconst hX (v := nI 1) dX10_taken_77 (by decide) ?_
      refine zV_icmp_neN hX (tgt := 85) dX10_taken_78 (by decide) ⟨by omega, by omega⟩ (fun c_78 => ?_) (fun c_78 => ?_)
      · refine zV_iconst hX (v := nI 0) dX10_taken_85 (by decide) ?_
        refine zV_topi (zb false) rfl ?_
        exfalso
        omega
      · refine zV_iconst hX (v := nI 1) dX10_taken_81 (by decide) ?_
        refine zV_goto hX (tgt := 86) dX10_taken_82 (by decide) ?_
        refine zV_topi (zb true) rfl ?_
        refine zV_cV1p hX hR hl dX10_taken_86 (zc_need1 l G _) zt_X10_need rfl zml_X10_72 zo0.1 ⟨by decide, by decide⟩ (Nat.le_of_ble_eq_true rfl) ?_
        dsimp only [Option.toList, List.cons_append, List.nil_append]
        refine zV_aload_n hX dX10_taken_89 rfl ?_
        refine zV_getc hX dX10_taken_90 zf_X10_39 zo0.1 rfl ?_
        refine zV_iload_n hX dX10_taken_93 rfl ?_
        refine zV_iload_n hX dX10_taken_94 rfl ?_
        refine zV_iload hX dX10_taken_95 rfl ?_
        refine zV_cV3p hX hR hl dX10_taken_97 (zc_takenOf l G R 120 i k w zo120 (by omega) (by omega) hw) zt_X8_takenOf rfl zml_X10_244 zo120.1 ⟨by decide, by decide⟩ (Nat.le_of_ble_eq_true rfl) ?_
        dsimp only [Option.toList, List.cons_append, List.nil_append]
        exact zV_reti hX hQ hr (⟨by rw [← hRR], hRR⟩) dX10_taken_100
set_option maxHeartbeats 1000000 in
theorem zf_takenX (l : Launch) (G : zG) (M : zM) (hst : l.stackTraces = false) (n : Nat) (x z k w : Int32) (h40 : M.1 40 0 = nI n) (hn7 : n ≤ 7) (hx : zmem x n = false) : zCx l G 9 1 6 yX10_taken cX10_taken 5 (Option.some Jvm.ClassFile.FieldType.int) [.ref (0 : Nat), .int x, .int z, .int k, .int w] M zNSE (mBs M) := by
  refine zCx_of (by decide) (Nat.le_of_ble_eq_true rfl) (fun X Q hQ hX hl hR hEx ht => ?_)
  refine zV_loc (L' := [.ref (0 : Nat), .int x, .int z, .int k, .int w]) rfl ?_
  refine zV_aload_n hX dX10_taken_0 rfl ?_
  refine zV_aload_n hX dX10_taken_1 rfl ?_
  refine zV_getc hX dX10_taken_2 zf_X10_19 zo0.1 rfl ?_
  refine zV_iload_n hX dX10_taken_5 rfl ?_
  refine zK_cV1p hX hR hl dX10_taken_6 (zCk.of (zc_holds l G _ 40 n _ zo40 (h40))) zt_X2_holds rfl zml_X10_83 zo40.1 ⟨by decide, by decide⟩ (Nat.le_of_ble_eq_true rfl) (by omega) ⟨rfl, rfl⟩ ?_
  dsimp only [Option.toList, List.cons_append, List.nil_append]
  refine zV_topi (zb false) (by rw [hx]) ?_
  refine zV_if_eqB hX (tgt := 27) dX10_taken_9 (by decide) (fun c_9 => ?_) (fun c_9 => absurd c_9 (by decide))
  refine zV_iconst hX (v := nI 0) dX10_taken_27 (by decide) ?_
  refine zV_topi (zb false) rfl ?_
  exact zX_cV1 hX hEx hR hl hQ ht dX10_taken_28 (zc_such0 l G _ hst) zt_X10_needSuch rfl zml_X10_87 zo0.1 ⟨by decide, by decide⟩ (Nat.le_of_ble_eq_true rfl) (by omega)
set_option maxHeartbeats 1000000 in
theorem zf_takenZ (l : Launch) (G : zG) (M : zM) (hst : l.stackTraces = false) (n j : Nat) (z k w : Int32) (h40 : M.1 40 0 = nI n) (hn7 : n ≤ 7) (hj : j < n) (hx : zmem z n = false) : zCx l G 9 1 6 yX10_taken cX10_taken 5 (Option.some Jvm.ClassFile.FieldType.int) [.ref (0 : Nat), .int (nI j), .int z, .int k, .int w] M zNSE (mBs M) := by
  refine zCx_of (by decide) (Nat.le_of_ble_eq_true rfl) (fun X Q hQ hX hl hR hEx ht => ?_)
  refine zV_loc (L' := [.ref (0 : Nat), .int (nI j), .int z, .int k, .int w]) rfl ?_
  refine zV_aload_n hX dX10_taken_0 rfl ?_
  refine zV_aload_n hX dX10_taken_1 rfl ?_
  refine zV_getc hX dX10_taken_2 zf_X10_19 zo0.1 rfl ?_
  refine zV_iload_n hX dX10_taken_5 rfl ?_
  refine zK_cV1p hX hR hl dX10_taken_6 (zCk.of (zc_holds l G _ 40 n _ zo40 (h40))) zt_X2_holds rfl zml_X10_83 zo40.1 ⟨by decide, by decide⟩ (Nat.le_of_ble_eq_true rfl) (by omega) ⟨rfl, rfl⟩ ?_
  dsimp only [Option.toList, List.cons_append, List.nil_append]
  refine zV_topi (zb true) (by rw [zmem_nI (by omega) (by omega), decide_eq_true hj]) ?_
  refine zV_if_eqB hX (tgt := 27) dX10_taken_9 (by decide) (fun c_9 => absurd c_9 (by decide)) (fun c_9 => ?_)
  refine zV_aload_n hX dX10_taken_12 rfl ?_
  refine zV_getc hX dX10_taken_13 zf_X10_19 zo0.1 rfl ?_
  refine zV_iload_n hX dX10_taken_16 rfl ?_
  refine zK_cV1p hX hR hl dX10_taken_17 (zCk.of (zc_holds l G _ 40 n _ zo40 (h40))) zt_X2_holds rfl zml_X10_83 zo40.1 ⟨by decide, by decide⟩ (Nat.le_of_ble_eq_true rfl) (by omega) ⟨rfl, rfl⟩ ?_
  dsimp only [Option.toList, List.cons_append, List.nil_append]
  refine zV_topi (zb false) (by rw [hx]) ?_
  refine zV_if_eqB hX (tgt := 27) dX10_taken_20 (by decide) (fun c_20 => ?_) (fun c_20 => absurd c_20 (by decide))
  refine zV_iconst hX (v := nI 0) dX10_taken_27 (by decide) ?_
  refine zV_topi (zb false) rfl ?_
  exact zX_cV1 hX hEx hR hl hQ ht dX10_taken_28 (zc_such0 l G _ hst) zt_X10_needSuch rfl zml_X10_87 zo0.1 ⟨by decide, by decide⟩ (Nat.le_of_ble_eq_true rfl) (by omega)
set_option maxHeartbeats 1000000 in
theorem zf_takenK (l : Launch) (G : zG) (M : zM) (hst : l.stackTraces = false) (lc n t : Nat) (cn : Nat → Nat) (j i q : Nat) (k w : Int32) (h40 : M.1 40 0 = nI n) (hn7 : n ≤ 7) (h41 : M.1 40 1 = nI t) (ht2 : t ≤ 2) (h43 : M.1 40 3 = nI lc) (hL : lyL lc) (hcn : lyN lc M cn) (hj : j < n) (hi : i < n) (hq : (sPlay 120 40 lc n t j cn M).1 125 i = nI q) (hq7 : q ≤ 7) (hk : zmem k q = false) : zCx l G 9 1 6 yX10_taken cX10_taken 5 (Option.some Jvm.ClassFile.FieldType.int) [.ref (0 : Nat), .int (nI j), .int (nI i), .int k, .int w] M zNSE (mBs (sPlay 120 40 lc n t j cn M)) := by
  refine zCx_of (by decide) (Nat.le_of_ble_eq_true rfl) (fun X Q hQ hX hl hR hEx ht => ?_)
  refine zV_loc (L' := [.ref (0 : Nat), .int (nI j), .int (nI i), .int k, .int w]) rfl ?_
  have g40 := h40
  have g41 := h41
  have g43 := h43
  have gcn := hcn
  have hgr : fGr lc n t cn M := ⟨h40, h41, h43, hcn⟩
  obtain ⟨R, hRR⟩ : ∃ R, R = (sPlay 120 40 lc n t j cn M) := ⟨_, rfl⟩
  rw [← hRR] at hq
  rw [show mBs (sPlay 120 40 lc n t j cn M) = mBs R from by rw [hRR]] at hQ
  refine zV_aload_n hX dX10_taken_0 rfl ?_
  refine zV_aload_n hX dX10_taken_1 rfl ?_
  refine zV_getc hX dX10_taken_2 zf_X10_19 zo0.1 rfl ?_
  refine zV_iload_n hX dX10_taken_5 rfl ?_
  refine zK_cV1p hX hR hl dX10_taken_6 (zCk.of (zc_holds l G _ 40 n _ zo40 (h40))) zt_X2_holds rfl zml_X10_83 zo40.1 ⟨by decide, by decide⟩ (Nat.le_of_ble_eq_true rfl) (by omega) ⟨rfl, rfl⟩ ?_
  dsimp only [Option.toList, List.cons_append, List.nil_append]
  refine zV_topi (zb true) (by rw [zmem_nI (by omega) (by omega), decide_eq_true hj]) ?_
  refine zV_if_eqB hX (tgt := 27) dX10_taken_9 (by decide) (fun c_9 => absurd c_9 (by decide)) (fun c_9 => ?_)
  refine zV_aload_n hX dX10_taken_12 rfl ?_
  refine zV_getc hX dX10_taken_13 zf_X10_19 zo0.1 rfl ?_
  refine zV_iload_n hX dX10_taken_16 rfl ?_
  refine zK_cV1p hX hR hl dX10_taken_17 (zCk.of (zc_holds l G _ 40 n _ zo40 (h40))) zt_X2_holds rfl zml_X10_83 zo40.1 ⟨by decide, by decide⟩ (Nat.le_of_ble_eq_true rfl) (by omega) ⟨rfl, rfl⟩ ?_
  dsimp only [Option.toList, List.cons_append, List.nil_append]
  refine zV_topi (zb true) (by rw [zmem_nI (by omega) (by omega), decide_eq_true hi]) ?_
  refine zV_if_eqB hX (tgt := 27) dX10_taken_20 (by decide) (fun c_20 => absurd c_20 (by decide)) (fun c_20 => ?_)
  refine zV_iconst hX (v := nI 1) dX10_taken_23 (by decide) ?_
  refine zV_goto hX (tgt := 28) dX10_taken_24 (by decide) ?_
  refine zV_topi (zb true) rfl ?_
  refine zK_cV1p hX hR hl dX10_taken_28 (zCk.of (zc_such1 l G _)) zt_X10_needSuch rfl zml_X10_87 zo0.1 ⟨by decide, by decide⟩ (Nat.le_of_ble_eq_true rfl) (by omega) ⟨rfl, rfl⟩ ?_
  dsimp only [Option.toList, List.cons_append, List.nil_append]
  refine zV_aload_n hX dX10_taken_31 rfl ?_
  refine zV_getc hX dX10_taken_32 zf_X10_39 zo0.1 rfl ?_
  refine zV_aload_n hX dX10_taken_35 rfl ?_
  refine zV_getc hX dX10_taken_36 zf_X10_19 zo0.1 rfl ?_
  refine zV_iload_n hX dX10_taken_39 rfl ?_
  refine zK_cV2p hX hR hl dX10_taken_40 (zCk.of (zc_splay l G _ 120 40 lc n t j cn zo120 zo40 (by decide) (hL.s (by decide)) g40 hn7 g41 ht2 g43 hL.lt gcn (by omega))) zt_X8_play rfl zml_X10_227 zo120.1 ⟨by decide, by decide⟩ (Nat.le_of_ble_eq_true rfl) (by omega) ⟨rfl, rfl⟩ ?_
  dsimp only [Option.toList, List.cons_append, List.nil_append]
  refine zV_mem hRR.symm ?_
  refine zV_aload_n hX dX10_taken_43 rfl ?_
  refine zV_iload_n hX dX10_taken_44 rfl ?_
  refine zV_if_lt hX (tgt := 65) dX10_taken_45 (by decide) (fun c_45 => ?_) (fun c_45 => ?_)
  · refine zV_iconst hX (v := nI 0) dX10_taken_65 (by decide) ?_
    refine zV_topi (zb false) rfl ?_
    exact zX_cV1 hX hEx hR hl hQ ht dX10_taken_66 (zc_such0 l G _ hst) zt_X10_needSuch rfl zml_X10_87 zo0.1 ⟨by decide, by decide⟩ (Nat.le_of_ble_eq_true rfl) (by omega)
  · refine zV_iload_n hX dX10_taken_48 rfl ?_
    refine zV_aload_n hX dX10_taken_49 rfl ?_
    refine zV_getc hX dX10_taken_50 zf_X10_39 zo0.1 rfl ?_
    refine zV_geta hX dX10_taken_53 zf_X10_237 zo120.1 rfl ?_
    refine zV_iload_n hX dX10_taken_56 rfl ?_
    refine zV_iald hX (v := nI q) dX10_taken_57 (zo120.a 4 rfl) (rfl) ⟨by omega, by omega⟩ (hq) ?_
    refine zV_icmp_ge hX (tgt := 65) dX10_taken_58 (by decide) (fun c_58 => ?_) (fun c_58 => ?_)
    · refine zV_iconst hX (v := nI 0) dX10_taken_65 (by decide) ?_
      refine zV_topi (zb false) rfl ?_
      exact zX_cV1 hX hEx hR hl hQ ht dX10_taken_66 (zc_such0 l G _ hst) zt_X10_needSuch rfl zml_X10_87 zo0.1 ⟨by decide, by decide⟩ (Nat.le_of_ble_eq_true rfl) (by omega)
    · refine zV_iconst hX (v := nI 1) dX10_taken_61 (by decide) ?_
      refine zV_goto hX (tgt := 66) dX10_taken_62 (by decide) ?_
      refine zV_topi (zb true) rfl ?_
      unfold zmem at hk
      rw [decide_eq_false (show ¬ k < 0 from c_45), decide_eq_false c_58] at hk
      exact absurd hk (by decide)
set_option maxHeartbeats 1000000 in
theorem zf_takenW (l : Launch) (G : zG) (M : zM) (hst : l.stackTraces = false) (lc n t : Nat) (cn : Nat → Nat) (j i k q : Nat) (w : Int32) (h40 : M.1 40 0 = nI n) (hn7 : n ≤ 7) (h41 : M.1 40 1 = nI t) (ht2 : t ≤ 2) (h43 : M.1 40 3 = nI lc) (hL : lyL lc) (hcn : lyN lc M cn) (hj : j < n) (hi : i < n) (hq : (sPlay 120 40 lc n t j cn M).1 125 i = nI q) (hq7 : q ≤ 7) (hk : k < q) (hw : mIn w (nI 0) (nI 1) = false) : zCx l G 9 1 6 yX10_taken cX10_taken 5 (Option.some Jvm.ClassFile.FieldType.int) [.ref (0 : Nat), .int (nI j), .int (nI i), .int (nI k), .int w] M zIAE (mBa (sPlay 120 40 lc n t j cn M)) := by
  refine zCx_of (by decide) (Nat.le_of_ble_eq_true rfl) (fun X Q hQ hX hl hR hEx ht => ?_)
  refine zV_loc (L' := [.ref (0 : Nat), .int (nI j), .int (nI i), .int (nI k), .int w]) rfl ?_
  have g40 := h40
  have g41 := h41
  have g43 := h43
  have gcn := hcn
  have hgr : fGr lc n t cn M := ⟨h40, h41, h43, hcn⟩
  obtain ⟨R, hRR⟩ : ∃ R, R = (sPlay 120 40 lc n t j cn M) := ⟨_, rfl⟩
  rw [← hRR] at hq
  rw [show mBa (sPlay 120 40 lc n t j cn M) = mBa R from by rw [hRR]] at hQ
  refine zV_aload_n hX dX10_taken_0 rfl ?_
  refine zV_aload_n hX dX10_taken_1 rfl ?_
  refine zV_getc hX dX10_taken_2 zf_X10_19 zo0.1 rfl ?_
  refine zV_iload_n hX dX10_taken_5 rfl ?_
  refine zK_cV1p hX hR hl dX10_taken_6 (zCk.of (zc_holds l G _ 40 n _ zo40 (h40))) zt_X2_holds rfl zml_X10_83 zo40.1 ⟨by decide, by decide⟩ (Nat.le_of_ble_eq_true rfl) (by omega) ⟨rfl, rfl⟩ ?_
  dsimp only [Option.toList, List.cons_append, List.nil_append]
  refine zV_topi (zb true) (by rw [zmem_nI (by omega) (by omega), decide_eq_true hj]) ?_
  refine zV_if_eqB hX (tgt := 27) dX10_taken_9 (by decide) (fun c_9 => absurd c_9 (by decide)) (fun c_9 => ?_)
  refine zV_aload_n hX dX10_taken_12 rfl ?_
  refine zV_getc hX dX10_taken_13 zf_X10_19 zo0.1 rfl ?_
  refine zV_iload_n hX dX10_taken_16 rfl ?_
  refine zK_cV1p hX hR hl dX10_taken_17 (zCk.of (zc_holds l G _ 40 n _ zo40 (h40))) zt_X2_holds rfl zml_X10_83 zo40.1 ⟨by decide, by decide⟩ (Nat.le_of_ble_eq_true rfl) (by omega) ⟨rfl, rfl⟩ ?_
  dsimp only [Option.toList, List.cons_append, List.nil_append]
  refine zV_topi (zb true) (by rw [zmem_nI (by omega) (by omega), decide_eq_true hi]) ?_
  refine zV_if_eqB hX (tgt := 27) dX10_taken_20 (by decide) (fun c_20 => absurd c_20 (by decide)) (fun c_20 => ?_)
  refine zV_iconst hX (v := nI 1) dX10_taken_23 (by decide) ?_
  refine zV_goto hX (tgt := 28) dX10_taken_24 (by decide) ?_
  refine zV_topi (zb true) rfl ?_
  refine zK_cV1p hX hR hl dX10_taken_28 (zCk.of (zc_such1 l G _)) zt_X10_needSuch rfl zml_X10_87 zo0.1 ⟨by decide, by decide⟩ (Nat.le_of_ble_eq_true rfl) (by omega) ⟨rfl, rfl⟩ ?_
  dsimp only [Option.toList, List.cons_append, List.nil_append]
  refine zV_aload_n hX dX10_taken_31 rfl ?_
  refine zV_getc hX dX10_taken_32 zf_X10_39 zo0.1 rfl ?_
  refine zV_aload_n hX dX10_taken_35 rfl ?_
  refine zV_getc hX dX10_taken_36 zf_X10_19 zo0.1 rfl ?_
  refine zV_iload_n hX dX10_taken_39 rfl ?_
  refine zK_cV2p hX hR hl dX10_taken_40 (zCk.of (zc_splay l G _ 120 40 lc n t j cn zo120 zo40 (by decide) (hL.s (by decide)) g40 hn7 g41 ht2 g43 hL.lt gcn (by omega))) zt_X8_play rfl zml_X10_227 zo120.1 ⟨by decide, by decide⟩ (Nat.le_of_ble_eq_true rfl) (by omega) ⟨rfl, rfl⟩ ?_
  dsimp only [Option.toList, List.cons_append, List.nil_append]
  refine zV_mem hRR.symm ?_
  refine zV_aload_n hX dX10_taken_43 rfl ?_
  refine zV_iload_n hX dX10_taken_44 rfl ?_
  refine zV_if_ltN hX (tgt := 65) dX10_taken_45 (by decide) (by omega) (fun c_45 => ?_)
  refine zV_iload_n hX dX10_taken_48 rfl ?_
  refine zV_aload_n hX dX10_taken_49 rfl ?_
  refine zV_getc hX dX10_taken_50 zf_X10_39 zo0.1 rfl ?_
  refine zV_geta hX dX10_taken_53 zf_X10_237 zo120.1 rfl ?_
  refine zV_iload_n hX dX10_taken_56 rfl ?_
  refine zV_iald hX (v := nI q) dX10_taken_57 (zo120.a 4 rfl) (rfl) ⟨by omega, by omega⟩ (hq) ?_
  refine zV_icmp_geN hX (tgt := 65) dX10_taken_58 (by decide) ⟨by omega, by omega⟩ (fun c_58 => ?_) (fun c_58 => ?_)
  · refine zV_iconst hX (v := nI 0) dX10_taken_65 (by decide) ?_
    refine zV_topi (zb false) rfl ?_
    exfalso
    omega
  · refine zV_iconst hX (v := nI 1) dX10_taken_61 (by decide) ?_
    refine zV_goto hX (tgt := 66) dX10_taken_62 (by decide) ?_
    refine zV_topi (zb true) rfl ?_
    refine zK_cV1p hX hR hl dX10_taken_66 (zCk.of (zc_such1 l G _)) zt_X10_needSuch rfl zml_X10_87 zo0.1 ⟨by decide, by decide⟩ (Nat.le_of_ble_eq_true rfl) (by omega) ⟨rfl, rfl⟩ ?_
    dsimp only [Option.toList, List.cons_append, List.nil_append]
    refine zV_aload_n hX dX10_taken_69 rfl ?_
    refine zV_iload hX dX10_taken_70 rfl ?_
    refine zV_if_eq hX (tgt := 81) dX10_taken_72 (by decide) (fun c_72 => ?_) (fun c_72 => ?_)
    · refine zV_iconst hX (v := nI 1) dX10_taken_81 (by decide) ?_
      refine zV_goto hX (tgt := 86) dX10_taken_82 (by decide) ?_
      refine zV_topi (zb true) rfl ?_
      first | (rw [mIn_e0 c_72] at hw; exact absurd hw (by decide)) | (rw [mIn_e1 c_78] at hw; exact absurd hw (by decide))
    · refine zV_iload hX dX10_taken_75 rfl ?_
      refine zV_iconst hX (v := nI 1) dX10_taken_77 (by decide) ?_
      refine zV_icmp_ne hX (tgt := 85) dX10_taken_78 (by decide) (fun c_78 => ?_) (fun c_78 => ?_)
      · refine zV_iconst hX (v := nI 0) dX10_taken_85 (by decide) ?_
        refine zV_topi (zb false) rfl ?_
        exact zX_cV1 hX hEx hR hl hQ ht dX10_taken_86 (zc_need0 l G _ hst) zt_X10_need rfl zml_X10_72 zo0.1 ⟨by decide, by decide⟩ (Nat.le_of_ble_eq_true rfl) (by omega)
      · refine zV_iconst hX (v := nI 1) dX10_taken_81 (by decide) ?_
        refine zV_goto hX (tgt := 86) dX10_taken_82 (by decide) ?_
        refine zV_topi (zb true) rfl ?_
        first | (rw [mIn_e0 c_72] at hw; exact absurd hw (by decide)) | (rw [mIn_e1 c_78] at hw; exact absurd hw (by decide))
set_option maxHeartbeats 1000000 in
theorem zf_king (l : Launch) (G : zG) (M : zM) (lc n t : Nat) (cn : Nat → Nat) (j k : Nat)  (h40 : M.1 40 0 = nI n) (hn7 : n ≤ 7) (h41 : M.1 40 1 = nI t) (ht2 : t ≤ 2) (h43 : M.1 40 3 = nI lc) (hL : lyL lc) (hcn : lyN lc M cn) (hj : j < n) (hk : k ≤ t + 1) : zC l G 9 yX10_king cX10_king 3 (Option.some Jvm.ClassFile.FieldType.int) [.ref (0 : Nat), .int (nI j), .int (nI k)] M (zP (some (.int ((kP 140 40 lc n t cn k M).1 143 j))) ((kP 140 40 lc n t cn k M))) := by
  refine zC_of (by decide) (Nat.le_of_ble_eq_true rfl) (fun X Q hQ hX hl hR hr => ?_)
  refine zV_loc (L' := [.ref (0 : Nat), .int (nI j), .int (nI k)]) rfl ?_
  have g40 := h40
  have g41 := h41
  have g43 := h43
  have gcn := hcn
  have hgr : fGr lc n t cn M := ⟨h40, h41, h43, hcn⟩
  refine zV_aload_n hX dX10_king_0 rfl ?_
  refine zV_aload_n hX dX10_king_1 rfl ?_
  refine zV_getc hX dX10_king_2 zf_X10_19 zo0.1 rfl ?_
  refine zV_iload_n hX dX10_king_5 rfl ?_
  refine zV_cV1p hX hR hl dX10_king_6 (zc_holds l G _ 40 n _ zo40 (h40)) zt_X2_holds rfl zml_X10_83 zo40.1 ⟨by decide, by decide⟩ (Nat.le_of_ble_eq_true rfl) ?_
  dsimp only [Option.toList, List.cons_append, List.nil_append]
  refine zV_topi (zb true) (by rw [zmem_nI (by omega) (by omega), decide_eq_true hj]) ?_
  refine zV_cV1p hX hR hl dX10_king_9 (zc_such1 l G _) zt_X10_needSuch rfl zml_X10_87 zo0.1 ⟨by decide, by decide⟩ (Nat.le_of_ble_eq_true rfl) ?_
  dsimp only [Option.toList, List.cons_append, List.nil_append]
  refine zV_aload_n hX dX10_king_12 rfl ?_
  refine zV_iload_n hX dX10_king_13 rfl ?_
  refine zV_if_ltN hX (tgt := 32) dX10_king_14 (by decide) (by omega) (fun c_14 => ?_)
  refine zV_iload_n hX dX10_king_17 rfl ?_
  refine zV_aload_n hX dX10_king_18 rfl ?_
  refine zV_getc hX dX10_king_19 zf_X10_19 zo0.1 rfl ?_
  refine zV_cV0p hX hR hl dX10_king_22 (zc_rounds l G _ 40 t zo40 h41) zt_X2_rounds rfl zml_X10_79 zo40.1 ⟨by decide, by decide⟩ (Nat.le_of_ble_eq_true rfl) ?_
  dsimp only [Option.toList, List.cons_append, List.nil_append]
  refine zV_icmp_gtN hX (tgt := 32) dX10_king_25 (by decide) ⟨by omega, by omega⟩ (fun c_25 => ?_) (fun c_25 => ?_)
  · refine zV_iconst hX (v := nI 0) dX10_king_32 (by decide) ?_
    refine zV_topi (zb false) rfl ?_
    exfalso
    omega
  · refine zV_iconst hX (v := nI 1) dX10_king_28 (by decide) ?_
    refine zV_goto hX (tgt := 33) dX10_king_29 (by decide) ?_
    refine zV_topi (zb true) rfl ?_
    refine zV_cV1p hX hR hl dX10_king_33 (zc_need1 l G _) zt_X10_need rfl zml_X10_72 zo0.1 ⟨by decide, by decide⟩ (Nat.le_of_ble_eq_true rfl) ?_
    dsimp only [Option.toList, List.cons_append, List.nil_append]
    refine zV_aload_n hX dX10_king_36 rfl ?_
    refine zV_getc hX dX10_king_37 zf_X10_46 zo0.1 rfl ?_
    refine zV_aload_n hX dX10_king_40 rfl ?_
    refine zV_getc hX dX10_king_41 zf_X10_19 zo0.1 rfl ?_
    refine zV_iload_n hX dX10_king_44 rfl ?_
    refine zV_cV2p hX hR hl dX10_king_45 (zc_kplay l G _ 140 40 lc n t k cn zo140 zo40 g40 hn7 g41 ht2 g43 hL.lt gcn (hL.f (by decide)) (by decide) (by omega)) zt_X3_play rfl zml_X10_247 zo140.1 ⟨by decide, by decide⟩ (Nat.le_of_ble_eq_true rfl) ?_
    dsimp only [Option.toList, List.cons_append, List.nil_append]
    refine zV_aload_n hX dX10_king_48 rfl ?_
    refine zV_getc hX dX10_king_49 zf_X10_46 zo0.1 rfl ?_
    refine zV_geta hX dX10_king_52 zf_X10_248 zo140.1 rfl ?_
    refine zV_iload_n hX dX10_king_55 rfl ?_
    refine zV_iald hX (v := (kP 140 40 lc n t cn k M).1 143 j) dX10_king_56 (zo140.a 2 rfl) (rfl) ⟨by omega, by omega⟩ (rfl) ?_
    exact zV_reti hX hQ hr (⟨rfl, rfl⟩) dX10_king_57
set_option maxHeartbeats 1000000 in
theorem zf_kingX (l : Launch) (G : zG) (M : zM) (hst : l.stackTraces = false) (n : Nat) (x k : Int32) (h40 : M.1 40 0 = nI n) (hn7 : n ≤ 7) (hx : zmem x n = false) : zCx l G 9 1 6 yX10_king cX10_king 3 (Option.some Jvm.ClassFile.FieldType.int) [.ref (0 : Nat), .int x, .int k] M zNSE (mBs M) := by
  refine zCx_of (by decide) (Nat.le_of_ble_eq_true rfl) (fun X Q hQ hX hl hR hEx ht => ?_)
  refine zV_loc (L' := [.ref (0 : Nat), .int x, .int k]) rfl ?_
  refine zV_aload_n hX dX10_king_0 rfl ?_
  refine zV_aload_n hX dX10_king_1 rfl ?_
  refine zV_getc hX dX10_king_2 zf_X10_19 zo0.1 rfl ?_
  refine zV_iload_n hX dX10_king_5 rfl ?_
  refine zK_cV1p hX hR hl dX10_king_6 (zCk.of (zc_holds l G _ 40 n _ zo40 (h40))) zt_X2_holds rfl zml_X10_83 zo40.1 ⟨by decide, by decide⟩ (Nat.le_of_ble_eq_true rfl) (by omega) ⟨rfl, rfl⟩ ?_
  dsimp only [Option.toList, List.cons_append, List.nil_append]
  refine zV_topi (zb false) (by rw [hx]) ?_
  exact zX_cV1 hX hEx hR hl hQ ht dX10_king_9 (zc_such0 l G _ hst) zt_X10_needSuch rfl zml_X10_87 zo0.1 ⟨by decide, by decide⟩ (Nat.le_of_ble_eq_true rfl) (by omega)
set_option maxHeartbeats 1000000 in
theorem zf_kingK (l : Launch) (G : zG) (M : zM) (hst : l.stackTraces = false) (n t j : Nat) (k : Int32) (h40 : M.1 40 0 = nI n) (hn7 : n ≤ 7) (h41 : M.1 40 1 = nI t) (hj : j < n) (hk : mIn k (nI 0) (nI (t + 1)) = false) : zCx l G 9 1 6 yX10_king cX10_king 3 (Option.some Jvm.ClassFile.FieldType.int) [.ref (0 : Nat), .int (nI j), .int k] M zIAE (mBa M) := by
  refine zCx_of (by decide) (Nat.le_of_ble_eq_true rfl) (fun X Q hQ hX hl hR hEx ht => ?_)
  refine zV_loc (L' := [.ref (0 : Nat), .int (nI j), .int k]) rfl ?_
  refine zV_aload_n hX dX10_king_0 rfl ?_
  refine zV_aload_n hX dX10_king_1 rfl ?_
  refine zV_getc hX dX10_king_2 zf_X10_19 zo0.1 rfl ?_
  refine zV_iload_n hX dX10_king_5 rfl ?_
  refine zK_cV1p hX hR hl dX10_king_6 (zCk.of (zc_holds l G _ 40 n _ zo40 (h40))) zt_X2_holds rfl zml_X10_83 zo40.1 ⟨by decide, by decide⟩ (Nat.le_of_ble_eq_true rfl) (by omega) ⟨rfl, rfl⟩ ?_
  dsimp only [Option.toList, List.cons_append, List.nil_append]
  refine zV_topi (zb true) (by rw [zmem_nI (by omega) (by omega), decide_eq_true hj]) ?_
  refine zK_cV1p hX hR hl dX10_king_9 (zCk.of (zc_such1 l G _)) zt_X10_needSuch rfl zml_X10_87 zo0.1 ⟨by decide, by decide⟩ (Nat.le_of_ble_eq_true rfl) (by omega) ⟨rfl, rfl⟩ ?_
  dsimp only [Option.toList, List.cons_append, List.nil_append]
  refine zV_aload_n hX dX10_king_12 rfl ?_
  refine zV_iload_n hX dX10_king_13 rfl ?_
  refine zV_if_lt hX (tgt := 32) dX10_king_14 (by decide) (fun c_14 => ?_) (fun c_14 => ?_)
  · refine zV_iconst hX (v := nI 0) dX10_king_32 (by decide) ?_
    refine zV_topi (zb false) rfl ?_
    exact zX_cV1 hX hEx hR hl hQ ht dX10_king_33 (zc_need0 l G _ hst) zt_X10_need rfl zml_X10_72 zo0.1 ⟨by decide, by decide⟩ (Nat.le_of_ble_eq_true rfl) (by omega)
  · refine zV_iload_n hX dX10_king_17 rfl ?_
    refine zV_aload_n hX dX10_king_18 rfl ?_
    refine zV_getc hX dX10_king_19 zf_X10_19 zo0.1 rfl ?_
    refine zK_cV0p hX hR hl dX10_king_22 (zCk.of (zc_rounds l G _ 40 t zo40 h41)) zt_X2_rounds rfl zml_X10_79 zo40.1 ⟨by decide, by decide⟩ (Nat.le_of_ble_eq_true rfl) (by omega) ⟨rfl, rfl⟩ ?_
    dsimp only [Option.toList, List.cons_append, List.nil_append]
    refine zV_icmp_gt hX (tgt := 32) dX10_king_25 (by decide) (fun c_25 => ?_) (fun c_25 => ?_)
    · refine zV_iconst hX (v := nI 0) dX10_king_32 (by decide) ?_
      refine zV_topi (zb false) rfl ?_
      exact zX_cV1 hX hEx hR hl hQ ht dX10_king_33 (zc_need0 l G _ hst) zt_X10_need rfl zml_X10_72 zo0.1 ⟨by decide, by decide⟩ (Nat.le_of_ble_eq_true rfl) (by omega)
    · refine zV_iconst hX (v := nI 1) dX10_king_28 (by decide) ?_
      refine zV_goto hX (tgt := 33) dX10_king_29 (by decide) ?_
      refine zV_topi (zb true) rfl ?_
      rw [mIn_t (show ¬ k < nI 0 from c_14) c_25] at hk
      exact absurd hk (by decide)
def fKs (t : Nat) (R : zM) : Nat → Int32
  | 0 => R.1 147 (t + 1) | 1 => kFir (R.1 147) (t + 1 + 1) (-1) | 2 => R.1 140 0 | _ => R.1 140 1
set_option maxHeartbeats 1000000 in
theorem zf_kings (l : Launch) (G : zG) (M : zM) (lc n t : Nat) (cn : Nat → Nat) (k : Nat)  (h40 : M.1 40 0 = nI n) (hn7 : n ≤ 7) (h41 : M.1 40 1 = nI t) (ht2 : t ≤ 2) (h43 : M.1 40 3 = nI lc) (hL : lyL lc) (hcn : lyN lc M cn) (hk : k ≤ 3) : zC l G 9 yX10_kings cX10_kings 2 (Option.some Jvm.ClassFile.FieldType.int) [.ref (0 : Nat), .int (nI k)] M (zP (some (.int (fKs t (kP 140 40 lc n t cn (t + 1) M) k))) ((kP 140 40 lc n t cn (t + 1) M))) := by
  refine zC_of (by decide) (Nat.le_of_ble_eq_true rfl) (fun X Q hQ hX hl hR hr => ?_)
  refine zV_loc (L' := [.ref (0 : Nat), .int (nI k)]) rfl ?_
  have g40 := h40
  have g41 := h41
  have g43 := h43
  have gcn := hcn
  have hgr : fGr lc n t cn M := ⟨h40, h41, h43, hcn⟩
  obtain ⟨R, hRR⟩ : ∃ R, R = (kP 140 40 lc n t cn (t + 1) M) := ⟨_, rfl⟩
  refine zV_aload_n hX dX10_kings_0 rfl ?_
  refine zV_iload_n hX dX10_kings_1 rfl ?_
  refine zV_if_ltN hX (tgt := 14) dX10_kings_2 (by decide) (by omega) (fun c_2 => ?_)
  refine zV_iload_n hX dX10_kings_5 rfl ?_
  refine zV_iconst hX (v := nI 3) dX10_kings_6 (by decide) ?_
  refine zV_icmp_gtN hX (tgt := 14) dX10_kings_7 (by decide) ⟨by omega, by omega⟩ (fun c_7 => ?_) (fun c_7 => ?_)
  · refine zV_iconst hX (v := nI 0) dX10_kings_14 (by decide) ?_
    refine zV_topi (zb false) rfl ?_
    exfalso
    omega
  · refine zV_iconst hX (v := nI 1) dX10_kings_10 (by decide) ?_
    refine zV_goto hX (tgt := 15) dX10_kings_11 (by decide) ?_
    refine zV_topi (zb true) rfl ?_
    refine zV_cV1p hX hR hl dX10_kings_15 (zc_need1 l G _) zt_X10_need rfl zml_X10_72 zo0.1 ⟨by decide, by decide⟩ (Nat.le_of_ble_eq_true rfl) ?_
    dsimp only [Option.toList, List.cons_append, List.nil_append]
    refine zV_aload_n hX dX10_kings_18 rfl ?_
    refine zV_getc hX dX10_kings_19 zf_X10_46 zo0.1 rfl ?_
    refine zV_aload_n hX dX10_kings_22 rfl ?_
    refine zV_getc hX dX10_kings_23 zf_X10_19 zo0.1 rfl ?_
    refine zV_aload_n hX dX10_kings_26 rfl ?_
    refine zV_getc hX dX10_kings_27 zf_X10_19 zo0.1 rfl ?_
    refine zV_cV0p hX hR hl dX10_kings_30 (zc_rounds l G _ 40 t zo40 g41) zt_X2_rounds rfl zml_X10_79 zo40.1 ⟨by decide, by decide⟩ (Nat.le_of_ble_eq_true rfl) ?_
    dsimp only [Option.toList, List.cons_append, List.nil_append]
    refine zV_cV2p hX hR hl dX10_kings_33 (zc_kplay l G _ 140 40 lc n t (t + 1) cn zo140 zo40 g40 hn7 g41 ht2 g43 hL.lt gcn (hL.f (by decide)) (by decide) (by omega)) zt_X3_play rfl zml_X10_247 zo140.1 ⟨by decide, by decide⟩ (Nat.le_of_ble_eq_true rfl) ?_
    dsimp only [Option.toList, List.cons_append, List.nil_append]
    refine zV_mem hRR.symm ?_
    have hr8 : fGr lc n t cn R := by rw [hRR]; exact hgr.out hL (kP_out 140 lc n t (t + 1) cn M) (by decide)
    clear g40 g41 g43 gcn
    obtain ⟨g40, g41, g43, gcn⟩ := hr8
    refine zV_iload_n hX dX10_kings_36 rfl ?_
    refine zV_case 0 (fun s_0 => ?_) (fun s_0 => ?_)
    · refine zV_tin hX (tgt := 64) dX10_kings_37 (by decide) (by decide) (off := 27) (by decide) (by decide) ?_
      refine zV_aload_n hX dX10_kings_64 rfl ?_
      refine zV_getc hX dX10_kings_65 zf_X10_46 zo0.1 rfl ?_
      refine zV_aload_n hX dX10_kings_68 rfl ?_
      refine zV_getc hX dX10_kings_69 zf_X10_19 zo0.1 rfl ?_
      refine zV_cV0p hX hR hl dX10_kings_72 (zc_rounds l G _ 40 t zo40 g41) zt_X2_rounds rfl zml_X10_79 zo40.1 ⟨by decide, by decide⟩ (Nat.le_of_ble_eq_true rfl) ?_
      dsimp only [Option.toList, List.cons_append, List.nil_append]
      refine zV_cV1p hX hR hl dX10_kings_75 (zc_unlikeBehind l G R 140 (t + 1) zo140 (by omega)) zt_X3_unlikeBehind rfl zml_X10_251 zo140.1 ⟨by decide, by decide⟩ (Nat.le_of_ble_eq_true rfl) ?_
      dsimp only [Option.toList, List.cons_append, List.nil_append]
      exact zV_reti hX hQ hr (⟨by rw [← hRR]; (first | rw [show k = 0 from (nI_eq (by omega) (by decide)).mp s_0] | rw [show k = 1 from (nI_eq (by omega) (by decide)).mp s_1] | rw [show k = 2 from (nI_eq (by omega) (by decide)).mp s_2] | rw [t3 k hk s_0 s_1 s_2]); rfl, hRR⟩) dX10_kings_78
    refine zV_case 1 (fun s_1 => ?_) (fun s_1 => ?_)
    · refine zV_tin hX (tgt := 79) dX10_kings_37 (by decide) (by decide) (off := 42) (by decide) (by decide) ?_
      refine zV_aload_n hX dX10_kings_79 rfl ?_
      refine zV_getc hX dX10_kings_80 zf_X10_46 zo0.1 rfl ?_
      refine zV_aload_n hX dX10_kings_83 rfl ?_
      refine zV_getc hX dX10_kings_84 zf_X10_19 zo0.1 rfl ?_
      refine zV_cV0p hX hR hl dX10_kings_87 (zc_rounds l G _ 40 t zo40 g41) zt_X2_rounds rfl zml_X10_79 zo40.1 ⟨by decide, by decide⟩ (Nat.le_of_ble_eq_true rfl) ?_
      dsimp only [Option.toList, List.cons_append, List.nil_append]
      refine zV_cV1p hX hR hl dX10_kings_90 (zc_firstAlike l G R 140 (t + 1) zo140 (by omega)) zt_X3_firstAlike rfl zml_X10_254 zo140.1 ⟨by decide, by decide⟩ (Nat.le_of_ble_eq_true rfl) ?_
      dsimp only [Option.toList, List.cons_append, List.nil_append]
      exact zV_reti hX hQ hr (⟨by rw [← hRR]; (first | rw [show k = 0 from (nI_eq (by omega) (by decide)).mp s_0] | rw [show k = 1 from (nI_eq (by omega) (by decide)).mp s_1] | rw [show k = 2 from (nI_eq (by omega) (by decide)).mp s_2] | rw [t3 k hk s_0 s_1 s_2]); rfl, hRR⟩) dX10_kings_93
    refine zV_case 2 (fun s_2 => ?_) (fun s_2 => ?_)
    · refine zV_tin hX (tgt := 94) dX10_kings_37 (by decide) (by decide) (off := 57) (by decide) (by decide) ?_
      refine zV_aload_n hX dX10_kings_94 rfl ?_
      refine zV_getc hX dX10_kings_95 zf_X10_46 zo0.1 rfl ?_
      refine zV_geti hX (x := R.1 140 0) dX10_kings_98 zf_X10_257 zo140.1 rfl (rfl) ?_
      exact zV_reti hX hQ hr (⟨by rw [← hRR]; (first | rw [show k = 0 from (nI_eq (by omega) (by decide)).mp s_0] | rw [show k = 1 from (nI_eq (by omega) (by decide)).mp s_1] | rw [show k = 2 from (nI_eq (by omega) (by decide)).mp s_2] | rw [t3 k hk s_0 s_1 s_2]); rfl, hRR⟩) dX10_kings_101
    refine zV_tout hX (tgt := 102) dX10_kings_37 (zsw_out 2 (by decide) (fun j hj => by match j, hj with | 0, _ => exact s_0 | 1, _ => exact s_1 | 2, _ => exact s_2 | _ + 3, h => omega)) (by decide) ?_
    refine zV_aload_n hX dX10_kings_102 rfl ?_
    refine zV_getc hX dX10_kings_103 zf_X10_46 zo0.1 rfl ?_
    refine zV_geti hX (x := R.1 140 1) dX10_kings_106 zf_X10_258 zo140.1 rfl (rfl) ?_
    exact zV_reti hX hQ hr (⟨by rw [← hRR]; (first | rw [show k = 0 from (nI_eq (by omega) (by decide)).mp s_0] | rw [show k = 1 from (nI_eq (by omega) (by decide)).mp s_1] | rw [show k = 2 from (nI_eq (by omega) (by decide)).mp s_2] | rw [t3 k hk s_0 s_1 s_2]); rfl, hRR⟩) dX10_kings_109
set_option maxHeartbeats 1000000 in
theorem zf_kingsK (l : Launch) (G : zG) (M : zM) (hst : l.stackTraces = false) (k : Int32) (hk : mIn k (nI 0) (nI 3) = false) : zCx l G 9 1 6 yX10_kings cX10_kings 2 (Option.some Jvm.ClassFile.FieldType.int) [.ref (0 : Nat), .int k] M zIAE (mBa M) := by
  refine zCx_of (by decide) (Nat.le_of_ble_eq_true rfl) (fun X Q hQ hX hl hR hEx ht => ?_)
  refine zV_loc (L' := [.ref (0 : Nat), .int k]) rfl ?_
  refine zV_aload_n hX dX10_kings_0 rfl ?_
  refine zV_iload_n hX dX10_kings_1 rfl ?_
  refine zV_if_lt hX (tgt := 14) dX10_kings_2 (by decide) (fun c_2 => ?_) (fun c_2 => ?_)
  · refine zV_iconst hX (v := nI 0) dX10_kings_14 (by decide) ?_
    refine zV_topi (zb false) rfl ?_
    exact zX_cV1 hX hEx hR hl hQ ht dX10_kings_15 (zc_need0 l G _ hst) zt_X10_need rfl zml_X10_72 zo0.1 ⟨by decide, by decide⟩ (Nat.le_of_ble_eq_true rfl) (by omega)
  · refine zV_iload_n hX dX10_kings_5 rfl ?_
    refine zV_iconst hX (v := nI 3) dX10_kings_6 (by decide) ?_
    refine zV_icmp_gt hX (tgt := 14) dX10_kings_7 (by decide) (fun c_7 => ?_) (fun c_7 => ?_)
    · refine zV_iconst hX (v := nI 0) dX10_kings_14 (by decide) ?_
      refine zV_topi (zb false) rfl ?_
      exact zX_cV1 hX hEx hR hl hQ ht dX10_kings_15 (zc_need0 l G _ hst) zt_X10_need rfl zml_X10_72 zo0.1 ⟨by decide, by decide⟩ (Nat.le_of_ble_eq_true rfl) (by omega)
    · refine zV_iconst hX (v := nI 1) dX10_kings_10 (by decide) ?_
      refine zV_goto hX (tgt := 15) dX10_kings_11 (by decide) ?_
      refine zV_topi (zb true) rfl ?_
      rw [mIn_t (show ¬ k < nI 0 from c_2) c_7] at hk
      exact absurd hk (by decide)
def fEc (lc n : Nat) (R : zM) : Nat → Int32
  | 0 => nI (zunl (R.1 (150 + 1 + 2)) (R.1 lc 0 ||| eNot (R.1 (150 + 1 + 3)) 7) n)
  | 1 => nI (zcnt (fun m => !decide ((R.1 (150 + 1 + 3)) m ≤ 0) && !bit (R.1 lc 0) m) n)
  | 2 => eLast (R.1 (150 + 1 + 3)) (R.1 lc 0) n
  | 3 => R.1 150 0 | _ => R.1 150 1
set_option maxHeartbeats 1000000 in
theorem zf_echoes (l : Launch) (G : zG) (M : zM) (lc n t : Nat) (cn : Nat → Nat) (j k : Nat)  (h40 : M.1 40 0 = nI n) (hn7 : n ≤ 7) (h41 : M.1 40 1 = nI t) (ht2 : t ≤ 2) (h43 : M.1 40 3 = nI lc) (hL : lyL lc) (hcn : lyN lc M cn) (hj : j < n) (hk : k ≤ 4) : zC l G 9 yX10_echoes cX10_echoes 3 (Option.some Jvm.ClassFile.FieldType.int) [.ref (0 : Nat), .int (nI j), .int (nI k)] M (zP (some (.int (fEc lc n (ePlay 150 40 lc j n t cn M) k))) ((ePlay 150 40 lc j n t cn M))) := by
  refine zC_of (by decide) (Nat.le_of_ble_eq_true rfl) (fun X Q hQ hX hl hR hr => ?_)
  refine zV_loc (L' := [.ref (0 : Nat), .int (nI j), .int (nI k)]) rfl ?_
  have g40 := h40
  have g41 := h41
  have g43 := h43
  have gcn := hcn
  have hgr : fGr lc n t cn M := ⟨h40, h41, h43, hcn⟩
  obtain ⟨R, hRR⟩ : ∃ R, R = (ePlay 150 40 lc j n t cn M) := ⟨_, rfl⟩
  refine zV_aload_n hX dX10_echoes_0 rfl ?_
  refine zV_aload_n hX dX10_echoes_1 rfl ?_
  refine zV_getc hX dX10_echoes_2 zf_X10_19 zo0.1 rfl ?_
  refine zV_iload_n hX dX10_echoes_5 rfl ?_
  refine zV_cV1p hX hR hl dX10_echoes_6 (zc_holds l G _ 40 n _ zo40 (h40)) zt_X2_holds rfl zml_X10_83 zo40.1 ⟨by decide, by decide⟩ (Nat.le_of_ble_eq_true rfl) ?_
  dsimp only [Option.toList, List.cons_append, List.nil_append]
  refine zV_topi (zb true) (by rw [zmem_nI (by omega) (by omega), decide_eq_true hj]) ?_
  refine zV_cV1p hX hR hl dX10_echoes_9 (zc_such1 l G _) zt_X10_needSuch rfl zml_X10_87 zo0.1 ⟨by decide, by decide⟩ (Nat.le_of_ble_eq_true rfl) ?_
  dsimp only [Option.toList, List.cons_append, List.nil_append]
  refine zV_aload_n hX dX10_echoes_12 rfl ?_
  refine zV_iload_n hX dX10_echoes_13 rfl ?_
  refine zV_if_ltN hX (tgt := 26) dX10_echoes_14 (by decide) (by omega) (fun c_14 => ?_)
  refine zV_iload_n hX dX10_echoes_17 rfl ?_
  refine zV_iconst hX (v := nI 4) dX10_echoes_18 (by decide) ?_
  refine zV_icmp_gtN hX (tgt := 26) dX10_echoes_19 (by decide) ⟨by omega, by omega⟩ (fun c_19 => ?_) (fun c_19 => ?_)
  · refine zV_iconst hX (v := nI 0) dX10_echoes_26 (by decide) ?_
    refine zV_topi (zb false) rfl ?_
    exfalso
    omega
  · refine zV_iconst hX (v := nI 1) dX10_echoes_22 (by decide) ?_
    refine zV_goto hX (tgt := 27) dX10_echoes_23 (by decide) ?_
    refine zV_topi (zb true) rfl ?_
    refine zV_cV1p hX hR hl dX10_echoes_27 (zc_need1 l G _) zt_X10_need rfl zml_X10_72 zo0.1 ⟨by decide, by decide⟩ (Nat.le_of_ble_eq_true rfl) ?_
    dsimp only [Option.toList, List.cons_append, List.nil_append]
    refine zV_aload_n hX dX10_echoes_30 rfl ?_
    refine zV_getc hX dX10_echoes_31 zf_X10_53 zo0.1 rfl ?_
    refine zV_aload_n hX dX10_echoes_34 rfl ?_
    refine zV_getc hX dX10_echoes_35 zf_X10_19 zo0.1 rfl ?_
    refine zV_iload_n hX dX10_echoes_38 rfl ?_
    refine zV_cV2p hX hR hl dX10_echoes_39 (zc_eplay l G _ 150 40 lc n t j cn zo150 zo40 g40 hn7 g41 ht2 g43 hL.lt gcn (hL.f (by decide)) (by decide) (by omega)) zt_X0_play rfl zml_X10_261 zo150.1 ⟨by decide, by decide⟩ (Nat.le_of_ble_eq_true rfl) ?_
    dsimp only [Option.toList, List.cons_append, List.nil_append]
    refine zV_mem hRR.symm ?_
    have hr8 : fGr lc n t cn R := by rw [hRR]; exact hgr.out hL (ePlay_out 150 lc j n t cn M) (by decide)
    clear g40 g41 g43 gcn
    obtain ⟨g40, g41, g43, gcn⟩ := hr8
    refine zV_iload_n hX dX10_echoes_42 rfl ?_
    refine zV_case 0 (fun s_0 => ?_) (fun s_0 => ?_)
    · refine zV_tin hX (tgt := 72) dX10_echoes_43 (by decide) (by decide) (off := 29) (by decide) (by decide) ?_
      refine zV_aload_n hX dX10_echoes_72 rfl ?_
      refine zV_getc hX dX10_echoes_73 zf_X10_53 zo0.1 rfl ?_
      refine zV_aload_n hX dX10_echoes_76 rfl ?_
      refine zV_getc hX dX10_echoes_77 zf_X10_19 zo0.1 rfl ?_
      refine zV_cV1p hX hR hl dX10_echoes_80 (zc_eunlike l G R 150 40 lc n zo150 zo40 g40 hn7 g43 hL.lt hL.o) zt_X0_unlike rfl zml_X10_262 zo150.1 ⟨by decide, by decide⟩ (Nat.le_of_ble_eq_true rfl) ?_
      dsimp only [Option.toList, List.cons_append, List.nil_append]
      exact zV_reti hX hQ hr (⟨by rw [← hRR]; (first | rw [show k = 0 from (nI_eq (by omega) (by decide)).mp s_0] | rw [show k = 1 from (nI_eq (by omega) (by decide)).mp s_1] | rw [show k = 2 from (nI_eq (by omega) (by decide)).mp s_2] | rw [show k = 3 from (nI_eq (by omega) (by decide)).mp s_3] | rw [t4 k hk s_0 s_1 s_2 s_3]); rfl, hRR⟩) dX10_echoes_83
    refine zV_case 1 (fun s_1 => ?_) (fun s_1 => ?_)
    · refine zV_tin hX (tgt := 84) dX10_echoes_43 (by decide) (by decide) (off := 41) (by decide) (by decide) ?_
      refine zV_aload_n hX dX10_echoes_84 rfl ?_
      refine zV_getc hX dX10_echoes_85 zf_X10_53 zo0.1 rfl ?_
      refine zV_aload_n hX dX10_echoes_88 rfl ?_
      refine zV_getc hX dX10_echoes_89 zf_X10_19 zo0.1 rfl ?_
      refine zV_cV1p hX hR hl dX10_echoes_92 (zc_trueOnes l G R 150 40 lc n zo150 zo40 g40 hn7 g43 hL.lt hL.o) zt_X0_trueOnes rfl zml_X10_265 zo150.1 ⟨by decide, by decide⟩ (Nat.le_of_ble_eq_true rfl) ?_
      dsimp only [Option.toList, List.cons_append, List.nil_append]
      exact zV_reti hX hQ hr (⟨by rw [← hRR]; (first | rw [show k = 0 from (nI_eq (by omega) (by decide)).mp s_0] | rw [show k = 1 from (nI_eq (by omega) (by decide)).mp s_1] | rw [show k = 2 from (nI_eq (by omega) (by decide)).mp s_2] | rw [show k = 3 from (nI_eq (by omega) (by decide)).mp s_3] | rw [t4 k hk s_0 s_1 s_2 s_3]); rfl, hRR⟩) dX10_echoes_95
    refine zV_case 2 (fun s_2 => ?_) (fun s_2 => ?_)
    · refine zV_tin hX (tgt := 96) dX10_echoes_43 (by decide) (by decide) (off := 53) (by decide) (by decide) ?_
      refine zV_aload_n hX dX10_echoes_96 rfl ?_
      refine zV_getc hX dX10_echoes_97 zf_X10_53 zo0.1 rfl ?_
      refine zV_aload_n hX dX10_echoes_100 rfl ?_
      refine zV_getc hX dX10_echoes_101 zf_X10_19 zo0.1 rfl ?_
      refine zV_cV1p hX hR hl dX10_echoes_104 (zc_lastRound l G R 150 40 lc n zo150 zo40 g40 hn7 g43 hL.lt hL.o) zt_X0_lastRound rfl zml_X10_268 zo150.1 ⟨by decide, by decide⟩ (Nat.le_of_ble_eq_true rfl) ?_
      dsimp only [Option.toList, List.cons_append, List.nil_append]
      exact zV_reti hX hQ hr (⟨by rw [← hRR]; (first | rw [show k = 0 from (nI_eq (by omega) (by decide)).mp s_0] | rw [show k = 1 from (nI_eq (by omega) (by decide)).mp s_1] | rw [show k = 2 from (nI_eq (by omega) (by decide)).mp s_2] | rw [show k = 3 from (nI_eq (by omega) (by decide)).mp s_3] | rw [t4 k hk s_0 s_1 s_2 s_3]); rfl, hRR⟩) dX10_echoes_107
    refine zV_case 3 (fun s_3 => ?_) (fun s_3 => ?_)
    · refine zV_tin hX (tgt := 108) dX10_echoes_43 (by decide) (by decide) (off := 65) (by decide) (by decide) ?_
      refine zV_aload_n hX dX10_echoes_108 rfl ?_
      refine zV_getc hX dX10_echoes_109 zf_X10_53 zo0.1 rfl ?_
      refine zV_geti hX (x := R.1 150 0) dX10_echoes_112 zf_X10_271 zo150.1 rfl (rfl) ?_
      exact zV_reti hX hQ hr (⟨by rw [← hRR]; (first | rw [show k = 0 from (nI_eq (by omega) (by decide)).mp s_0] | rw [show k = 1 from (nI_eq (by omega) (by decide)).mp s_1] | rw [show k = 2 from (nI_eq (by omega) (by decide)).mp s_2] | rw [show k = 3 from (nI_eq (by omega) (by decide)).mp s_3] | rw [t4 k hk s_0 s_1 s_2 s_3]); rfl, hRR⟩) dX10_echoes_115
    refine zV_tout hX (tgt := 116) dX10_echoes_43 (zsw_out 3 (by decide) (fun j hj => by match j, hj with | 0, _ => exact s_0 | 1, _ => exact s_1 | 2, _ => exact s_2 | 3, _ => exact s_3 | _ + 4, h => omega)) (by decide) ?_
    refine zV_aload_n hX dX10_echoes_116 rfl ?_
    refine zV_getc hX dX10_echoes_117 zf_X10_53 zo0.1 rfl ?_
    refine zV_geti hX (x := R.1 150 1) dX10_echoes_120 zf_X10_272 zo150.1 rfl (rfl) ?_
    exact zV_reti hX hQ hr (⟨by rw [← hRR]; (first | rw [show k = 0 from (nI_eq (by omega) (by decide)).mp s_0] | rw [show k = 1 from (nI_eq (by omega) (by decide)).mp s_1] | rw [show k = 2 from (nI_eq (by omega) (by decide)).mp s_2] | rw [show k = 3 from (nI_eq (by omega) (by decide)).mp s_3] | rw [t4 k hk s_0 s_1 s_2 s_3]); rfl, hRR⟩) dX10_echoes_123
set_option maxHeartbeats 1000000 in
theorem zf_echoesX (l : Launch) (G : zG) (M : zM) (hst : l.stackTraces = false) (n : Nat) (x k : Int32) (h40 : M.1 40 0 = nI n) (hn7 : n ≤ 7) (hx : zmem x n = false) : zCx l G 9 1 6 yX10_echoes cX10_echoes 3 (Option.some Jvm.ClassFile.FieldType.int) [.ref (0 : Nat), .int x, .int k] M zNSE (mBs M) := by
  refine zCx_of (by decide) (Nat.le_of_ble_eq_true rfl) (fun X Q hQ hX hl hR hEx ht => ?_)
  refine zV_loc (L' := [.ref (0 : Nat), .int x, .int k]) rfl ?_
  refine zV_aload_n hX dX10_echoes_0 rfl ?_
  refine zV_aload_n hX dX10_echoes_1 rfl ?_
  refine zV_getc hX dX10_echoes_2 zf_X10_19 zo0.1 rfl ?_
  refine zV_iload_n hX dX10_echoes_5 rfl ?_
  refine zK_cV1p hX hR hl dX10_echoes_6 (zCk.of (zc_holds l G _ 40 n _ zo40 (h40))) zt_X2_holds rfl zml_X10_83 zo40.1 ⟨by decide, by decide⟩ (Nat.le_of_ble_eq_true rfl) (by omega) ⟨rfl, rfl⟩ ?_
  dsimp only [Option.toList, List.cons_append, List.nil_append]
  refine zV_topi (zb false) (by rw [hx]) ?_
  exact zX_cV1 hX hEx hR hl hQ ht dX10_echoes_9 (zc_such0 l G _ hst) zt_X10_needSuch rfl zml_X10_87 zo0.1 ⟨by decide, by decide⟩ (Nat.le_of_ble_eq_true rfl) (by omega)
set_option maxHeartbeats 1000000 in
theorem zf_echoesK (l : Launch) (G : zG) (M : zM) (hst : l.stackTraces = false) (n j : Nat) (k : Int32) (h40 : M.1 40 0 = nI n) (hn7 : n ≤ 7) (hj : j < n) (hk : mIn k (nI 0) (nI 4) = false) : zCx l G 9 1 6 yX10_echoes cX10_echoes 3 (Option.some Jvm.ClassFile.FieldType.int) [.ref (0 : Nat), .int (nI j), .int k] M zIAE (mBa M) := by
  refine zCx_of (by decide) (Nat.le_of_ble_eq_true rfl) (fun X Q hQ hX hl hR hEx ht => ?_)
  refine zV_loc (L' := [.ref (0 : Nat), .int (nI j), .int k]) rfl ?_
  refine zV_aload_n hX dX10_echoes_0 rfl ?_
  refine zV_aload_n hX dX10_echoes_1 rfl ?_
  refine zV_getc hX dX10_echoes_2 zf_X10_19 zo0.1 rfl ?_
  refine zV_iload_n hX dX10_echoes_5 rfl ?_
  refine zK_cV1p hX hR hl dX10_echoes_6 (zCk.of (zc_holds l G _ 40 n _ zo40 (h40))) zt_X2_holds rfl zml_X10_83 zo40.1 ⟨by decide, by decide⟩ (Nat.le_of_ble_eq_true rfl) (by omega) ⟨rfl, rfl⟩ ?_
  dsimp only [Option.toList, List.cons_append, List.nil_append]
  refine zV_topi (zb true) (by rw [zmem_nI (by omega) (by omega), decide_eq_true hj]) ?_
  refine zK_cV1p hX hR hl dX10_echoes_9 (zCk.of (zc_such1 l G _)) zt_X10_needSuch rfl zml_X10_87 zo0.1 ⟨by decide, by decide⟩ (Nat.le_of_ble_eq_true rfl) (by omega) ⟨rfl, rfl⟩ ?_
  dsimp only [Option.toList, List.cons_append, List.nil_append]
  refine zV_aload_n hX dX10_echoes_12 rfl ?_
  refine zV_iload_n hX dX10_echoes_13 rfl ?_
  refine zV_if_lt hX (tgt := 26) dX10_echoes_14 (by decide) (fun c_14 => ?_) (fun c_14 => ?_)
  · refine zV_iconst hX (v := nI 0) dX10_echoes_26 (by decide) ?_
    refine zV_topi (zb false) rfl ?_
    exact zX_cV1 hX hEx hR hl hQ ht dX10_echoes_27 (zc_need0 l G _ hst) zt_X10_need rfl zml_X10_72 zo0.1 ⟨by decide, by decide⟩ (Nat.le_of_ble_eq_true rfl) (by omega)
  · refine zV_iload_n hX dX10_echoes_17 rfl ?_
    refine zV_iconst hX (v := nI 4) dX10_echoes_18 (by decide) ?_
    refine zV_icmp_gt hX (tgt := 26) dX10_echoes_19 (by decide) (fun c_19 => ?_) (fun c_19 => ?_)
    · refine zV_iconst hX (v := nI 0) dX10_echoes_26 (by decide) ?_
      refine zV_topi (zb false) rfl ?_
      exact zX_cV1 hX hEx hR hl hQ ht dX10_echoes_27 (zc_need0 l G _ hst) zt_X10_need rfl zml_X10_72 zo0.1 ⟨by decide, by decide⟩ (Nat.le_of_ble_eq_true rfl) (by omega)
    · refine zV_iconst hX (v := nI 1) dX10_echoes_22 (by decide) ?_
      refine zV_goto hX (tgt := 27) dX10_echoes_23 (by decide) ?_
      refine zV_topi (zb true) rfl ?_
      rw [mIn_t (show ¬ k < nI 0 from c_14) c_19] at hk
      exact absurd hk (by decide)
def fEo (R : zM) (i : Nat) : Nat → Int32
  | 0 => R.1 153 i | 1 => R.1 154 i | 2 => R.1 155 i | 3 => zpop (R.1 156 i) | _ => zpop (R.1 157 i)
set_option maxHeartbeats 1000000 in
theorem zf_echoesOf (l : Launch) (G : zG) (M : zM) (lc n t : Nat) (cn : Nat → Nat) (j i k : Nat)  (h40 : M.1 40 0 = nI n) (hn7 : n ≤ 7) (h41 : M.1 40 1 = nI t) (ht2 : t ≤ 2) (h43 : M.1 40 3 = nI lc) (hL : lyL lc) (hcn : lyN lc M cn) (hj : j < n) (hi : i < n) (hk : k ≤ 4) : zC l G 9 yX10_echoesOf cX10_echoesOf 4 (Option.some Jvm.ClassFile.FieldType.int) [.ref (0 : Nat), .int (nI j), .int (nI i), .int (nI k)] M (zP (some (.int (fEo (ePlay 150 40 lc j n t cn M) i k))) ((ePlay 150 40 lc j n t cn M))) := by
  refine zC_of (by decide) (Nat.le_of_ble_eq_true rfl) (fun X Q hQ hX hl hR hr => ?_)
  refine zV_loc (L' := [.ref (0 : Nat), .int (nI j), .int (nI i), .int (nI k)]) rfl ?_
  have g40 := h40
  have g41 := h41
  have g43 := h43
  have gcn := hcn
  have hgr : fGr lc n t cn M := ⟨h40, h41, h43, hcn⟩
  obtain ⟨R, hRR⟩ : ∃ R, R = (ePlay 150 40 lc j n t cn M) := ⟨_, rfl⟩
  refine zV_aload_n hX dX10_echoesOf_0 rfl ?_
  refine zV_aload_n hX dX10_echoesOf_1 rfl ?_
  refine zV_getc hX dX10_echoesOf_2 zf_X10_19 zo0.1 rfl ?_
  refine zV_iload_n hX dX10_echoesOf_5 rfl ?_
  refine zV_cV1p hX hR hl dX10_echoesOf_6 (zc_holds l G _ 40 n _ zo40 (h40)) zt_X2_holds rfl zml_X10_83 zo40.1 ⟨by decide, by decide⟩ (Nat.le_of_ble_eq_true rfl) ?_
  dsimp only [Option.toList, List.cons_append, List.nil_append]
  refine zV_topi (zb true) (by rw [zmem_nI (by omega) (by omega), decide_eq_true hj]) ?_
  refine zV_if_eqB hX (tgt := 27) dX10_echoesOf_9 (by decide) (fun c_9 => absurd c_9 (by decide)) (fun c_9 => ?_)
  refine zV_aload_n hX dX10_echoesOf_12 rfl ?_
  refine zV_getc hX dX10_echoesOf_13 zf_X10_19 zo0.1 rfl ?_
  refine zV_iload_n hX dX10_echoesOf_16 rfl ?_
  refine zV_cV1p hX hR hl dX10_echoesOf_17 (zc_holds l G _ 40 n _ zo40 (h40)) zt_X2_holds rfl zml_X10_83 zo40.1 ⟨by decide, by decide⟩ (Nat.le_of_ble_eq_true rfl) ?_
  dsimp only [Option.toList, List.cons_append, List.nil_append]
  refine zV_topi (zb true) (by rw [zmem_nI (by omega) (by omega), decide_eq_true hi]) ?_
  refine zV_if_eqB hX (tgt := 27) dX10_echoesOf_20 (by decide) (fun c_20 => absurd c_20 (by decide)) (fun c_20 => ?_)
  refine zV_iconst hX (v := nI 1) dX10_echoesOf_23 (by decide) ?_
  refine zV_goto hX (tgt := 28) dX10_echoesOf_24 (by decide) ?_
  refine zV_topi (zb true) rfl ?_
  refine zV_cV1p hX hR hl dX10_echoesOf_28 (zc_such1 l G _) zt_X10_needSuch rfl zml_X10_87 zo0.1 ⟨by decide, by decide⟩ (Nat.le_of_ble_eq_true rfl) ?_
  dsimp only [Option.toList, List.cons_append, List.nil_append]
  refine zV_aload_n hX dX10_echoesOf_31 rfl ?_
  refine zV_iload_n hX dX10_echoesOf_32 rfl ?_
  refine zV_if_ltN hX (tgt := 45) dX10_echoesOf_33 (by decide) (by omega) (fun c_33 => ?_)
  refine zV_iload_n hX dX10_echoesOf_36 rfl ?_
  refine zV_iconst hX (v := nI 4) dX10_echoesOf_37 (by decide) ?_
  refine zV_icmp_gtN hX (tgt := 45) dX10_echoesOf_38 (by decide) ⟨by omega, by omega⟩ (fun c_38 => ?_) (fun c_38 => ?_)
  · refine zV_iconst hX (v := nI 0) dX10_echoesOf_45 (by decide) ?_
    refine zV_topi (zb false) rfl ?_
    exfalso
    omega
  · refine zV_iconst hX (v := nI 1) dX10_echoesOf_41 (by decide) ?_
    refine zV_goto hX (tgt := 46) dX10_echoesOf_42 (by decide) ?_
    refine zV_topi (zb true) rfl ?_
    refine zV_cV1p hX hR hl dX10_echoesOf_46 (zc_need1 l G _) zt_X10_need rfl zml_X10_72 zo0.1 ⟨by decide, by decide⟩ (Nat.le_of_ble_eq_true rfl) ?_
    dsimp only [Option.toList, List.cons_append, List.nil_append]
    refine zV_aload_n hX dX10_echoesOf_49 rfl ?_
    refine zV_getc hX dX10_echoesOf_50 zf_X10_53 zo0.1 rfl ?_
    refine zV_aload_n hX dX10_echoesOf_53 rfl ?_
    refine zV_getc hX dX10_echoesOf_54 zf_X10_19 zo0.1 rfl ?_
    refine zV_iload_n hX dX10_echoesOf_57 rfl ?_
    refine zV_cV2p hX hR hl dX10_echoesOf_58 (zc_eplay l G _ 150 40 lc n t j cn zo150 zo40 g40 hn7 g41 ht2 g43 hL.lt gcn (hL.f (by decide)) (by decide) (by omega)) zt_X0_play rfl zml_X10_261 zo150.1 ⟨by decide, by decide⟩ (Nat.le_of_ble_eq_true rfl) ?_
    dsimp only [Option.toList, List.cons_append, List.nil_append]
    refine zV_mem hRR.symm ?_
    have hr8 : fGr lc n t cn R := by rw [hRR]; exact hgr.out hL (ePlay_out 150 lc j n t cn M) (by decide)
    clear g40 g41 g43 gcn
    obtain ⟨g40, g41, g43, gcn⟩ := hr8
    refine zV_iload_n hX dX10_echoesOf_61 rfl ?_
    refine zV_case 0 (fun s_0 => ?_) (fun s_0 => ?_)
    · refine zV_tin hX (tgt := 92) dX10_echoesOf_62 (by decide) (by decide) (off := 30) (by decide) (by decide) ?_
      refine zV_aload_n hX dX10_echoesOf_92 rfl ?_
      refine zV_getc hX dX10_echoesOf_93 zf_X10_53 zo0.1 rfl ?_
      refine zV_geta hX dX10_echoesOf_96 zf_X10_273 zo150.1 rfl ?_
      refine zV_iload_n hX dX10_echoesOf_99 rfl ?_
      refine zV_iald hX (v := R.1 153 i) dX10_echoesOf_100 (zo150.a 2 rfl) (rfl) ⟨by omega, by omega⟩ (rfl) ?_
      exact zV_reti hX hQ hr (⟨by rw [← hRR]; (first | rw [show k = 0 from (nI_eq (by omega) (by decide)).mp s_0] | rw [show k = 1 from (nI_eq (by omega) (by decide)).mp s_1] | rw [show k = 2 from (nI_eq (by omega) (by decide)).mp s_2] | rw [show k = 3 from (nI_eq (by omega) (by decide)).mp s_3] | rw [t4 k hk s_0 s_1 s_2 s_3]); rfl, hRR⟩) dX10_echoesOf_101
    refine zV_case 1 (fun s_1 => ?_) (fun s_1 => ?_)
    · refine zV_tin hX (tgt := 102) dX10_echoesOf_62 (by decide) (by decide) (off := 40) (by decide) (by decide) ?_
      refine zV_aload_n hX dX10_echoesOf_102 rfl ?_
      refine zV_getc hX dX10_echoesOf_103 zf_X10_53 zo0.1 rfl ?_
      refine zV_geta hX dX10_echoesOf_106 zf_X10_276 zo150.1 rfl ?_
      refine zV_iload_n hX dX10_echoesOf_109 rfl ?_
      refine zV_iald hX (v := R.1 154 i) dX10_echoesOf_110 (zo150.a 3 rfl) (rfl) ⟨by omega, by omega⟩ (rfl) ?_
      exact zV_reti hX hQ hr (⟨by rw [← hRR]; (first | rw [show k = 0 from (nI_eq (by omega) (by decide)).mp s_0] | rw [show k = 1 from (nI_eq (by omega) (by decide)).mp s_1] | rw [show k = 2 from (nI_eq (by omega) (by decide)).mp s_2] | rw [show k = 3 from (nI_eq (by omega) (by decide)).mp s_3] | rw [t4 k hk s_0 s_1 s_2 s_3]); rfl, hRR⟩) dX10_echoesOf_111
    refine zV_case 2 (fun s_2 => ?_) (fun s_2 => ?_)
    · refine zV_tin hX (tgt := 112) dX10_echoesOf_62 (by decide) (by decide) (off := 50) (by decide) (by decide) ?_
      refine zV_aload_n hX dX10_echoesOf_112 rfl ?_
      refine zV_getc hX dX10_echoesOf_113 zf_X10_53 zo0.1 rfl ?_
      refine zV_geta hX dX10_echoesOf_116 zf_X10_279 zo150.1 rfl ?_
      refine zV_iload_n hX dX10_echoesOf_119 rfl ?_
      refine zV_iald hX (v := R.1 155 i) dX10_echoesOf_120 (zo150.a 4 rfl) (rfl) ⟨by omega, by omega⟩ (rfl) ?_
      exact zV_reti hX hQ hr (⟨by rw [← hRR]; (first | rw [show k = 0 from (nI_eq (by omega) (by decide)).mp s_0] | rw [show k = 1 from (nI_eq (by omega) (by decide)).mp s_1] | rw [show k = 2 from (nI_eq (by omega) (by decide)).mp s_2] | rw [show k = 3 from (nI_eq (by omega) (by decide)).mp s_3] | rw [t4 k hk s_0 s_1 s_2 s_3]); rfl, hRR⟩) dX10_echoesOf_121
    refine zV_case 3 (fun s_3 => ?_) (fun s_3 => ?_)
    · refine zV_tin hX (tgt := 122) dX10_echoesOf_62 (by decide) (by decide) (off := 60) (by decide) (by decide) ?_
      refine zV_aload_n hX dX10_echoesOf_122 rfl ?_
      refine zV_getc hX dX10_echoesOf_123 zf_X10_53 zo0.1 rfl ?_
      refine zV_geta hX dX10_echoesOf_126 zf_X10_282 zo150.1 rfl ?_
      refine zV_iload_n hX dX10_echoesOf_129 rfl ?_
      refine zV_iald hX (v := R.1 156 i) dX10_echoesOf_130 (zo150.a 5 rfl) (rfl) ⟨by omega, by omega⟩ (rfl) ?_
      refine zV_cS1p hX hR hl dX10_echoesOf_131 (zc_bitCount l G R _) zt_J6_bitCount_0f7a4 rfl zml_X10_137 (by decide) (Nat.le_of_ble_eq_true rfl) ?_
      dsimp only [Option.toList, List.cons_append, List.nil_append]
      exact zV_reti hX hQ hr (⟨by rw [← hRR]; (first | rw [show k = 0 from (nI_eq (by omega) (by decide)).mp s_0] | rw [show k = 1 from (nI_eq (by omega) (by decide)).mp s_1] | rw [show k = 2 from (nI_eq (by omega) (by decide)).mp s_2] | rw [show k = 3 from (nI_eq (by omega) (by decide)).mp s_3] | rw [t4 k hk s_0 s_1 s_2 s_3]); rfl, hRR⟩) dX10_echoesOf_134
    refine zV_tout hX (tgt := 135) dX10_echoesOf_62 (zsw_out 3 (by decide) (fun j hj => by match j, hj with | 0, _ => exact s_0 | 1, _ => exact s_1 | 2, _ => exact s_2 | 3, _ => exact s_3 | _ + 4, h => omega)) (by decide) ?_
    refine zV_aload_n hX dX10_echoesOf_135 rfl ?_
    refine zV_getc hX dX10_echoesOf_136 zf_X10_53 zo0.1 rfl ?_
    refine zV_geta hX dX10_echoesOf_139 zf_X10_285 zo150.1 rfl ?_
    refine zV_iload_n hX dX10_echoesOf_142 rfl ?_
    refine zV_iald hX (v := R.1 157 i) dX10_echoesOf_143 (zo150.a 6 rfl) (rfl) ⟨by omega, by omega⟩ (rfl) ?_
    refine zV_cS1p hX hR hl dX10_echoesOf_144 (zc_bitCount l G R _) zt_J6_bitCount_0f7a4 rfl zml_X10_137 (by decide) (Nat.le_of_ble_eq_true rfl) ?_
    dsimp only [Option.toList, List.cons_append, List.nil_append]
    exact zV_reti hX hQ hr (⟨by rw [← hRR]; (first | rw [show k = 0 from (nI_eq (by omega) (by decide)).mp s_0] | rw [show k = 1 from (nI_eq (by omega) (by decide)).mp s_1] | rw [show k = 2 from (nI_eq (by omega) (by decide)).mp s_2] | rw [show k = 3 from (nI_eq (by omega) (by decide)).mp s_3] | rw [t4 k hk s_0 s_1 s_2 s_3]); rfl, hRR⟩) dX10_echoesOf_147
set_option maxHeartbeats 1000000 in
theorem zf_echoesOfX (l : Launch) (G : zG) (M : zM) (hst : l.stackTraces = false) (n : Nat) (x z k : Int32) (h40 : M.1 40 0 = nI n) (hn7 : n ≤ 7) (hx : zmem x n = false) : zCx l G 9 1 6 yX10_echoesOf cX10_echoesOf 4 (Option.some Jvm.ClassFile.FieldType.int) [.ref (0 : Nat), .int x, .int z, .int k] M zNSE (mBs M) := by
  refine zCx_of (by decide) (Nat.le_of_ble_eq_true rfl) (fun X Q hQ hX hl hR hEx ht => ?_)
  refine zV_loc (L' := [.ref (0 : Nat), .int x, .int z, .int k]) rfl ?_
  refine zV_aload_n hX dX10_echoesOf_0 rfl ?_
  refine zV_aload_n hX dX10_echoesOf_1 rfl ?_
  refine zV_getc hX dX10_echoesOf_2 zf_X10_19 zo0.1 rfl ?_
  refine zV_iload_n hX dX10_echoesOf_5 rfl ?_
  refine zK_cV1p hX hR hl dX10_echoesOf_6 (zCk.of (zc_holds l G _ 40 n _ zo40 (h40))) zt_X2_holds rfl zml_X10_83 zo40.1 ⟨by decide, by decide⟩ (Nat.le_of_ble_eq_true rfl) (by omega) ⟨rfl, rfl⟩ ?_
  dsimp only [Option.toList, List.cons_append, List.nil_append]
  refine zV_topi (zb false) (by rw [hx]) ?_
  refine zV_if_eqB hX (tgt := 27) dX10_echoesOf_9 (by decide) (fun c_9 => ?_) (fun c_9 => absurd c_9 (by decide))
  refine zV_iconst hX (v := nI 0) dX10_echoesOf_27 (by decide) ?_
  refine zV_topi (zb false) rfl ?_
  exact zX_cV1 hX hEx hR hl hQ ht dX10_echoesOf_28 (zc_such0 l G _ hst) zt_X10_needSuch rfl zml_X10_87 zo0.1 ⟨by decide, by decide⟩ (Nat.le_of_ble_eq_true rfl) (by omega)
set_option maxHeartbeats 1000000 in
theorem zf_echoesOfZ (l : Launch) (G : zG) (M : zM) (hst : l.stackTraces = false) (n j : Nat) (z k : Int32) (h40 : M.1 40 0 = nI n) (hn7 : n ≤ 7) (hj : j < n) (hx : zmem z n = false) : zCx l G 9 1 6 yX10_echoesOf cX10_echoesOf 4 (Option.some Jvm.ClassFile.FieldType.int) [.ref (0 : Nat), .int (nI j), .int z, .int k] M zNSE (mBs M) := by
  refine zCx_of (by decide) (Nat.le_of_ble_eq_true rfl) (fun X Q hQ hX hl hR hEx ht => ?_)
  refine zV_loc (L' := [.ref (0 : Nat), .int (nI j), .int z, .int k]) rfl ?_
  refine zV_aload_n hX dX10_echoesOf_0 rfl ?_
  refine zV_aload_n hX dX10_echoesOf_1 rfl ?_
  refine zV_getc hX dX10_echoesOf_2 zf_X10_19 zo0.1 rfl ?_
  refine zV_iload_n hX dX10_echoesOf_5 rfl ?_
  refine zK_cV1p hX hR hl dX10_echoesOf_6 (zCk.of (zc_holds l G _ 40 n _ zo40 (h40))) zt_X2_holds rfl zml_X10_83 zo40.1 ⟨by decide, by decide⟩ (Nat.le_of_ble_eq_true rfl) (by omega) ⟨rfl, rfl⟩ ?_
  dsimp only [Option.toList, List.cons_append, List.nil_append]
  refine zV_topi (zb true) (by rw [zmem_nI (by omega) (by omega), decide_eq_true hj]) ?_
  refine zV_if_eqB hX (tgt := 27) dX10_echoesOf_9 (by decide) (fun c_9 => absurd c_9 (by decide)) (fun c_9 => ?_)
  refine zV_aload_n hX dX10_echoesOf_12 rfl ?_
  refine zV_getc hX dX10_echoesOf_13 zf_X10_19 zo0.1 rfl ?_
  refine zV_iload_n hX dX10_echoesOf_16 rfl ?_
  refine zK_cV1p hX hR hl dX10_echoesOf_17 (zCk.of (zc_holds l G _ 40 n _ zo40 (h40))) zt_X2_holds rfl zml_X10_83 zo40.1 ⟨by decide, by decide⟩ (Nat.le_of_ble_eq_true rfl) (by omega) ⟨rfl, rfl⟩ ?_
  dsimp only [Option.toList, List.cons_append, List.nil_append]
  refine zV_topi (zb false) (by rw [hx]) ?_
  refine zV_if_eqB hX (tgt := 27) dX10_echoesOf_20 (by decide) (fun c_20 => ?_) (fun c_20 => absurd c_20 (by decide))
  refine zV_iconst hX (v := nI 0) dX10_echoesOf_27 (by decide) ?_
  refine zV_topi (zb false) rfl ?_
  exact zX_cV1 hX hEx hR hl hQ ht dX10_echoesOf_28 (zc_such0 l G _ hst) zt_X10_needSuch rfl zml_X10_87 zo0.1 ⟨by decide, by decide⟩ (Nat.le_of_ble_eq_true rfl) (by omega)
set_option maxHeartbeats 1000000 in
theorem zf_echoesOfK (l : Launch) (G : zG) (M : zM) (hst : l.stackTraces = false) (n j i : Nat) (k : Int32) (h40 : M.1 40 0 = nI n) (hn7 : n ≤ 7) (hj : j < n) (hi : i < n) (hk : mIn k (nI 0) (nI 4) = false) : zCx l G 9 1 6 yX10_echoesOf cX10_echoesOf 4 (Option.some Jvm.ClassFile.FieldType.int) [.ref (0 : Nat), .int (nI j), .int (nI i), .int k] M zIAE (mBa M) := by
  refine zCx_of (by decide) (Nat.le_of_ble_eq_true rfl) (fun X Q hQ hX hl hR hEx ht => ?_)
  refine zV_loc (L' := [.ref (0 : Nat), .int (nI j), .int (nI i), .int k]) rfl ?_
  refine zV_aload_n hX dX10_echoesOf_0 rfl ?_
  refine zV_aload_n hX dX10_echoesOf_1 rfl ?_
  refine zV_getc hX dX10_echoesOf_2 zf_X10_19 zo0.1 rfl ?_
  refine zV_iload_n hX dX10_echoesOf_5 rfl ?_
  refine zK_cV1p hX hR hl dX10_echoesOf_6 (zCk.of (zc_holds l G _ 40 n _ zo40 (h40))) zt_X2_holds rfl zml_X10_83 zo40.1 ⟨by decide, by decide⟩ (Nat.le_of_ble_eq_true rfl) (by omega) ⟨rfl, rfl⟩ ?_
  dsimp only [Option.toList, List.cons_append, List.nil_append]
  refine zV_topi (zb true) (by rw [zmem_nI (by omega) (by omega), decide_eq_true hj]) ?_
  refine zV_if_eqB hX (tgt := 27) dX10_echoesOf_9 (by decide) (fun c_9 => absurd c_9 (by decide)) (fun c_9 => ?_)
  refine zV_aload_n hX dX10_echoesOf_12 rfl ?_
  refine zV_getc hX dX10_echoesOf_13 zf_X10_19 zo0.1 rfl ?_
  refine zV_iload_n hX dX10_echoesOf_16 rfl ?_
  refine zK_cV1p hX hR hl dX10_echoesOf_17 (zCk.of (zc_holds l G _ 40 n _ zo40 (h40))) zt_X2_holds rfl zml_X10_83 zo40.1 ⟨by decide, by decide⟩ (Nat.le_of_ble_eq_true rfl) (by omega) ⟨rfl, rfl⟩ ?_
  dsimp only [Option.toList, List.cons_append, List.nil_append]
  refine zV_topi (zb true) (by rw [zmem_nI (by omega) (by omega), decide_eq_true hi]) ?_
  refine zV_if_eqB hX (tgt := 27) dX10_echoesOf_20 (by decide) (fun c_20 => absurd c_20 (by decide)) (fun c_20 => ?_)
  refine zV_iconst hX (v := nI 1) dX10_echoesOf_23 (by decide) ?_
  refine zV_goto hX (tgt := 28) dX10_echoesOf_24 (by decide) ?_
  refine zV_topi (zb true) rfl ?_
  refine zK_cV1p hX hR hl dX10_echoesOf_28 (zCk.of (zc_such1 l G _)) zt_X10_needSuch rfl zml_X10_87 zo0.1 ⟨by decide, by decide⟩ (Nat.le_of_ble_eq_true rfl) (by omega) ⟨rfl, rfl⟩ ?_
  dsimp only [Option.toList, List.cons_append, List.nil_append]
  refine zV_aload_n hX dX10_echoesOf_31 rfl ?_
  refine zV_iload_n hX dX10_echoesOf_32 rfl ?_
  refine zV_if_lt hX (tgt := 45) dX10_echoesOf_33 (by decide) (fun c_33 => ?_) (fun c_33 => ?_)
  · refine zV_iconst hX (v := nI 0) dX10_echoesOf_45 (by decide) ?_
    refine zV_topi (zb false) rfl ?_
    exact zX_cV1 hX hEx hR hl hQ ht dX10_echoesOf_46 (zc_need0 l G _ hst) zt_X10_need rfl zml_X10_72 zo0.1 ⟨by decide, by decide⟩ (Nat.le_of_ble_eq_true rfl) (by omega)
  · refine zV_iload_n hX dX10_echoesOf_36 rfl ?_
    refine zV_iconst hX (v := nI 4) dX10_echoesOf_37 (by decide) ?_
    refine zV_icmp_gt hX (tgt := 45) dX10_echoesOf_38 (by decide) (fun c_38 => ?_) (fun c_38 => ?_)
    · refine zV_iconst hX (v := nI 0) dX10_echoesOf_45 (by decide) ?_
      refine zV_topi (zb false) rfl ?_
      exact zX_cV1 hX hEx hR hl hQ ht dX10_echoesOf_46 (zc_need0 l G _ hst) zt_X10_need rfl zml_X10_72 zo0.1 ⟨by decide, by decide⟩ (Nat.le_of_ble_eq_true rfl) (by omega)
    · refine zV_iconst hX (v := nI 1) dX10_echoesOf_41 (by decide) ?_
      refine zV_goto hX (tgt := 46) dX10_echoesOf_42 (by decide) ?_
      refine zV_topi (zb true) rfl ?_
      rw [mIn_t (show ¬ k < nI 0 from c_33) c_38] at hk
      exact absurd hk (by decide)
