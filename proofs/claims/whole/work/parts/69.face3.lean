theorem hlj8 (k : Nat) (hk : k ≤ 7) (h : ∀ i, i < 8 → nI k ≠ nI i) : False := h k (by omega) rfl
def fMe (lc j : Nat) (M : zM) : Nat → Int32
  | 0 => M.1 45 j | 1 => zb (bit (M.1 lc 0) j) | 2 => M.1 77 j | 3 => M.1 64 j | 4 => M.1 65 j | 6 => M.1 66 j | _ => M.1 67 j
theorem fm7 (k : Nat) (hk : k ≤ 7) (a0 : nI k ≠ nI 0) (a1 : nI k ≠ nI 1) (a2 : nI k ≠ nI 2) (a3 : nI k ≠ nI 3) (a4 : nI k ≠ nI 4) (a5 : nI k ≠ nI 5) (a6 : nI k ≠ nI 6) : k = 7 := by
  rcases Nat.lt_or_ge k 7 with q | q
  · exfalso
    match k, q with
    | 0, _ => exact a0 rfl
    | 1, _ => exact a1 rfl
    | 2, _ => exact a2 rfl
    | 3, _ => exact a3 rfl
    | 4, _ => exact a4 rfl
    | 5, _ => exact a5 rfl
    | 6, _ => exact a6 rfl
    | _ + 7, q => omega
  · omega
set_option maxHeartbeats 1000000 in
theorem zf_member (l : Launch) (G : zG) (M : zM) (lc n t : Nat) (cn : Nat → Nat) (j k : Nat)  (h40 : M.1 40 0 = nI n) (hn7 : n ≤ 7) (h41 : M.1 40 1 = nI t) (ht2 : t ≤ 2) (h43 : M.1 40 3 = nI lc) (hL : lyL lc) (hcn : lyN lc M cn) (hj : j < n) (hk : k ≤ 7) (hk5 : k ≠ 5) : zC l G 9 yX10_member cX10_member 3 (Option.some Jvm.ClassFile.FieldType.int) [.ref (0 : Nat), .int (nI j), .int (nI k)] M (zP (some (.int (fMe lc j M k))) (M)) := by
  refine zC_of (by decide) (Nat.le_of_ble_eq_true rfl) (fun X Q hQ hX hl hR hr => ?_)
  refine zV_loc (L' := [.ref (0 : Nat), .int (nI j), .int (nI k)]) rfl ?_
  refine zV_aload_n hX dX10_member_0 rfl ?_
  refine zV_aload_n hX dX10_member_1 rfl ?_
  refine zV_getc hX dX10_member_2 zf_X10_19 zo0.1 rfl ?_
  refine zV_iload_n hX dX10_member_5 rfl ?_
  refine zV_cV1p hX hR hl dX10_member_6 (zc_holds l G _ 40 n _ zo40 (h40)) zt_X2_holds rfl zml_X10_83 zo40.1 ⟨by decide, by decide⟩ (Nat.le_of_ble_eq_true rfl) ?_
  dsimp only [Option.toList, List.cons_append, List.nil_append]
  refine zV_topi (zb true) (by rw [zmem_nI (by omega) (by omega), decide_eq_true hj]) ?_
  refine zV_cV1p hX hR hl dX10_member_9 (zc_such1 l G _) zt_X10_needSuch rfl zml_X10_87 zo0.1 ⟨by decide, by decide⟩ (Nat.le_of_ble_eq_true rfl) ?_
  dsimp only [Option.toList, List.cons_append, List.nil_append]
  refine zV_iload_n hX dX10_member_12 rfl ?_
  refine zV_case 0 (fun s_0 => ?_) (fun s_0 => ?_)
  · refine zV_tin hX (tgt := 60) dX10_member_13 (by decide) (by decide) (off := 47) (by decide) (by decide) ?_
    refine zV_aload_n hX dX10_member_60 rfl ?_
    refine zV_getc hX dX10_member_61 zf_X10_19 zo0.1 rfl ?_
    refine zV_geta hX dX10_member_64 zf_X10_94 zo40.1 rfl ?_
    refine zV_iload_n hX dX10_member_67 rfl ?_
    refine zV_iald hX (v := M.1 45 j) dX10_member_68 (zo40.a 4 rfl) (rfl) ⟨by omega, by omega⟩ (rfl) ?_
    exact zV_reti hX hQ hr (⟨by (first | rw [show k = 0 from (nI_eq (by omega) (by decide)).mp s_0] | rw [show k = 1 from (nI_eq (by omega) (by decide)).mp s_1] | rw [show k = 2 from (nI_eq (by omega) (by decide)).mp s_2] | rw [show k = 3 from (nI_eq (by omega) (by decide)).mp s_3] | rw [show k = 4 from (nI_eq (by omega) (by decide)).mp s_4] | rw [show k = 5 from (nI_eq (by omega) (by decide)).mp s_5] | rw [show k = 6 from (nI_eq (by omega) (by decide)).mp s_6] | rw [show k = 7 from (nI_eq (by omega) (by decide)).mp s_7]); first | rfl | (unfold fMe; rw [c_81]; rfl), rfl⟩) dX10_member_69
  refine zV_case 1 (fun s_1 => ?_) (fun s_1 => ?_)
  · refine zV_tin hX (tgt := 70) dX10_member_13 (by decide) (by decide) (off := 57) (by decide) (by decide) ?_
    refine zV_aload_n hX dX10_member_70 rfl ?_
    refine zV_getc hX dX10_member_71 zf_X10_19 zo0.1 rfl ?_
    refine zV_getp hX dX10_member_74 zf_X10_125 zo40.1 rfl (h43) hL.lt ?_
    refine zV_iload_n hX dX10_member_77 rfl ?_
    refine zV_cV1p hX hR hl dX10_member_78 (zc_isLiar l G _ lc j hL.o) zt_X4_isLiar rfl zml_X10_168 hL.o.1 ⟨by decide, by decide⟩ (Nat.le_of_ble_eq_true rfl) ?_
    dsimp only [Option.toList, List.cons_append, List.nil_append]
    refine zV_if_eqB hX (tgt := 88) dX10_member_81 (by decide) (fun c_81 => ?_) (fun c_81 => ?_)
    · refine zV_iconst hX (v := nI 0) dX10_member_88 (by decide) ?_
      exact zV_reti hX hQ hr (⟨by (first | rw [show k = 0 from (nI_eq (by omega) (by decide)).mp s_0] | rw [show k = 1 from (nI_eq (by omega) (by decide)).mp s_1] | rw [show k = 2 from (nI_eq (by omega) (by decide)).mp s_2] | rw [show k = 3 from (nI_eq (by omega) (by decide)).mp s_3] | rw [show k = 4 from (nI_eq (by omega) (by decide)).mp s_4] | rw [show k = 5 from (nI_eq (by omega) (by decide)).mp s_5] | rw [show k = 6 from (nI_eq (by omega) (by decide)).mp s_6] | rw [show k = 7 from (nI_eq (by omega) (by decide)).mp s_7]); first | rfl | (unfold fMe; rw [c_81]; rfl), rfl⟩) dX10_member_89
    · refine zV_iconst hX (v := nI 1) dX10_member_84 (by decide) ?_
      refine zV_goto hX (tgt := 89) dX10_member_85 (by decide) ?_
      exact zV_reti hX hQ hr (⟨by (first | rw [show k = 0 from (nI_eq (by omega) (by decide)).mp s_0] | rw [show k = 1 from (nI_eq (by omega) (by decide)).mp s_1] | rw [show k = 2 from (nI_eq (by omega) (by decide)).mp s_2] | rw [show k = 3 from (nI_eq (by omega) (by decide)).mp s_3] | rw [show k = 4 from (nI_eq (by omega) (by decide)).mp s_4] | rw [show k = 5 from (nI_eq (by omega) (by decide)).mp s_5] | rw [show k = 6 from (nI_eq (by omega) (by decide)).mp s_6] | rw [show k = 7 from (nI_eq (by omega) (by decide)).mp s_7]); first | rfl | (unfold fMe; rw [c_81]; rfl), rfl⟩) dX10_member_89
  refine zV_case 2 (fun s_2 => ?_) (fun s_2 => ?_)
  · refine zV_tin hX (tgt := 90) dX10_member_13 (by decide) (by decide) (off := 77) (by decide) (by decide) ?_
    refine zV_aload_n hX dX10_member_90 rfl ?_
    refine zV_getc hX dX10_member_91 zf_X10_29 zo0.1 rfl ?_
    refine zV_iload_n hX dX10_member_94 rfl ?_
    refine zV_cV1p hX hR hl dX10_member_95 (zc_decided l G _ 60 j zo60 (by omega)) zt_X6_decided rfl zml_X10_171 zo60.1 ⟨by decide, by decide⟩ (Nat.le_of_ble_eq_true rfl) ?_
    dsimp only [Option.toList, List.cons_append, List.nil_append]
    exact zV_reti hX hQ hr (⟨by (first | rw [show k = 0 from (nI_eq (by omega) (by decide)).mp s_0] | rw [show k = 1 from (nI_eq (by omega) (by decide)).mp s_1] | rw [show k = 2 from (nI_eq (by omega) (by decide)).mp s_2] | rw [show k = 3 from (nI_eq (by omega) (by decide)).mp s_3] | rw [show k = 4 from (nI_eq (by omega) (by decide)).mp s_4] | rw [show k = 5 from (nI_eq (by omega) (by decide)).mp s_5] | rw [show k = 6 from (nI_eq (by omega) (by decide)).mp s_6] | rw [show k = 7 from (nI_eq (by omega) (by decide)).mp s_7]); first | rfl | (unfold fMe; rw [c_81]; rfl), rfl⟩) dX10_member_98
  refine zV_case 3 (fun s_3 => ?_) (fun s_3 => ?_)
  · refine zV_tin hX (tgt := 99) dX10_member_13 (by decide) (by decide) (off := 86) (by decide) (by decide) ?_
    refine zV_aload_n hX dX10_member_99 rfl ?_
    refine zV_getc hX dX10_member_100 zf_X10_29 zo0.1 rfl ?_
    refine zV_geta hX dX10_member_103 zf_X10_174 zo60.1 rfl ?_
    refine zV_iload_n hX dX10_member_106 rfl ?_
    refine zV_iald hX (v := M.1 64 j) dX10_member_107 (zo60.a 3 rfl) (rfl) ⟨by omega, by omega⟩ (rfl) ?_
    exact zV_reti hX hQ hr (⟨by (first | rw [show k = 0 from (nI_eq (by omega) (by decide)).mp s_0] | rw [show k = 1 from (nI_eq (by omega) (by decide)).mp s_1] | rw [show k = 2 from (nI_eq (by omega) (by decide)).mp s_2] | rw [show k = 3 from (nI_eq (by omega) (by decide)).mp s_3] | rw [show k = 4 from (nI_eq (by omega) (by decide)).mp s_4] | rw [show k = 5 from (nI_eq (by omega) (by decide)).mp s_5] | rw [show k = 6 from (nI_eq (by omega) (by decide)).mp s_6] | rw [show k = 7 from (nI_eq (by omega) (by decide)).mp s_7]); first | rfl | (unfold fMe; rw [c_81]; rfl), rfl⟩) dX10_member_108
  refine zV_case 4 (fun s_4 => ?_) (fun s_4 => ?_)
  · refine zV_tin hX (tgt := 109) dX10_member_13 (by decide) (by decide) (off := 96) (by decide) (by decide) ?_
    refine zV_aload_n hX dX10_member_109 rfl ?_
    refine zV_getc hX dX10_member_110 zf_X10_29 zo0.1 rfl ?_
    refine zV_geta hX dX10_member_113 zf_X10_177 zo60.1 rfl ?_
    refine zV_iload_n hX dX10_member_116 rfl ?_
    refine zV_iald hX (v := M.1 65 j) dX10_member_117 (zo60.a 4 rfl) (rfl) ⟨by omega, by omega⟩ (rfl) ?_
    exact zV_reti hX hQ hr (⟨by (first | rw [show k = 0 from (nI_eq (by omega) (by decide)).mp s_0] | rw [show k = 1 from (nI_eq (by omega) (by decide)).mp s_1] | rw [show k = 2 from (nI_eq (by omega) (by decide)).mp s_2] | rw [show k = 3 from (nI_eq (by omega) (by decide)).mp s_3] | rw [show k = 4 from (nI_eq (by omega) (by decide)).mp s_4] | rw [show k = 5 from (nI_eq (by omega) (by decide)).mp s_5] | rw [show k = 6 from (nI_eq (by omega) (by decide)).mp s_6] | rw [show k = 7 from (nI_eq (by omega) (by decide)).mp s_7]); first | rfl | (unfold fMe; rw [c_81]; rfl), rfl⟩) dX10_member_118
  refine zV_case 5 (fun s_5 => ?_) (fun s_5 => ?_)
  · refine zV_tin hX (tgt := 119) dX10_member_13 (by decide) (by decide) (off := 106) (by decide) (by decide) ?_
    exact absurd ((nI_eq (by omega) (by decide)).mp s_5) hk5
  refine zV_case 6 (fun s_6 => ?_) (fun s_6 => ?_)
  · refine zV_tin hX (tgt := 137) dX10_member_13 (by decide) (by decide) (off := 124) (by decide) (by decide) ?_
    refine zV_aload_n hX dX10_member_137 rfl ?_
    refine zV_getc hX dX10_member_138 zf_X10_29 zo0.1 rfl ?_
    refine zV_geta hX dX10_member_141 zf_X10_183 zo60.1 rfl ?_
    refine zV_iload_n hX dX10_member_144 rfl ?_
    refine zV_iald hX (v := M.1 66 j) dX10_member_145 (zo60.a 5 rfl) (rfl) ⟨by omega, by omega⟩ (rfl) ?_
    exact zV_reti hX hQ hr (⟨by (first | rw [show k = 0 from (nI_eq (by omega) (by decide)).mp s_0] | rw [show k = 1 from (nI_eq (by omega) (by decide)).mp s_1] | rw [show k = 2 from (nI_eq (by omega) (by decide)).mp s_2] | rw [show k = 3 from (nI_eq (by omega) (by decide)).mp s_3] | rw [show k = 4 from (nI_eq (by omega) (by decide)).mp s_4] | rw [show k = 5 from (nI_eq (by omega) (by decide)).mp s_5] | rw [show k = 6 from (nI_eq (by omega) (by decide)).mp s_6] | rw [show k = 7 from (nI_eq (by omega) (by decide)).mp s_7]); first | rfl | (unfold fMe; rw [c_81]; rfl), rfl⟩) dX10_member_146
  refine zV_case 7 (fun s_7 => ?_) (fun s_7 => ?_)
  · refine zV_tin hX (tgt := 147) dX10_member_13 (by decide) (by decide) (off := 134) (by decide) (by decide) ?_
    refine zV_aload_n hX dX10_member_147 rfl ?_
    refine zV_getc hX dX10_member_148 zf_X10_29 zo0.1 rfl ?_
    refine zV_geta hX dX10_member_151 zf_X10_186 zo60.1 rfl ?_
    refine zV_iload_n hX dX10_member_154 rfl ?_
    refine zV_iald hX (v := M.1 67 j) dX10_member_155 (zo60.a 6 rfl) (rfl) ⟨by omega, by omega⟩ (rfl) ?_
    exact zV_reti hX hQ hr (⟨by (first | rw [show k = 0 from (nI_eq (by omega) (by decide)).mp s_0] | rw [show k = 1 from (nI_eq (by omega) (by decide)).mp s_1] | rw [show k = 2 from (nI_eq (by omega) (by decide)).mp s_2] | rw [show k = 3 from (nI_eq (by omega) (by decide)).mp s_3] | rw [show k = 4 from (nI_eq (by omega) (by decide)).mp s_4] | rw [show k = 5 from (nI_eq (by omega) (by decide)).mp s_5] | rw [show k = 6 from (nI_eq (by omega) (by decide)).mp s_6] | rw [show k = 7 from (nI_eq (by omega) (by decide)).mp s_7]); first | rfl | (unfold fMe; rw [c_81]; rfl), rfl⟩) dX10_member_156
  refine zV_tout hX (tgt := 157) dX10_member_13 (zsw_out 7 (by decide) (fun j hj => by match j, hj with | 0, _ => exact s_0 | 1, _ => exact s_1 | 2, _ => exact s_2 | 3, _ => exact s_3 | 4, _ => exact s_4 | 5, _ => exact s_5 | 6, _ => exact s_6 | 7, _ => exact s_7 | _ + 8, h => omega)) (by decide) ?_
  refine zV_aload_n hX dX10_member_157 rfl ?_
  refine zV_iconst hX (v := nI 0) dX10_member_158 (by decide) ?_
  refine zV_topi (zb false) rfl ?_
  exact absurd (fm7 k hk s_0 s_1 s_2 s_3 s_4 s_5 s_6) (fun q => s_7 (by rw [q]))
set_option maxHeartbeats 1000000 in
theorem zf_member5a (l : Launch) (G : zG) (M : zM) (n j : Nat)  (h40 : M.1 40 0 = nI n) (hn7 : n ≤ 7) (hj : j < n) (h60 : M.1 60 0 = -1) : zC l G 9 yX10_member cX10_member 3 (Option.some Jvm.ClassFile.FieldType.int) [.ref (0 : Nat), .int (nI j), .int (nI 5)] M (zP (some (.int (M.1 77 j))) (M)) := by
  refine zC_of (by decide) (Nat.le_of_ble_eq_true rfl) (fun X Q hQ hX hl hR hr => ?_)
  refine zV_loc (L' := [.ref (0 : Nat), .int (nI j), .int (nI 5)]) rfl ?_
  refine zV_aload_n hX dX10_member_0 rfl ?_
  refine zV_aload_n hX dX10_member_1 rfl ?_
  refine zV_getc hX dX10_member_2 zf_X10_19 zo0.1 rfl ?_
  refine zV_iload_n hX dX10_member_5 rfl ?_
  refine zV_cV1p hX hR hl dX10_member_6 (zc_holds l G _ 40 n _ zo40 (h40)) zt_X2_holds rfl zml_X10_83 zo40.1 ⟨by decide, by decide⟩ (Nat.le_of_ble_eq_true rfl) ?_
  dsimp only [Option.toList, List.cons_append, List.nil_append]
  refine zV_topi (zb true) (by rw [zmem_nI (by omega) (by omega), decide_eq_true hj]) ?_
  refine zV_cV1p hX hR hl dX10_member_9 (zc_such1 l G _) zt_X10_needSuch rfl zml_X10_87 zo0.1 ⟨by decide, by decide⟩ (Nat.le_of_ble_eq_true rfl) ?_
  dsimp only [Option.toList, List.cons_append, List.nil_append]
  refine zV_iload_n hX dX10_member_12 rfl ?_
  refine zV_case 0 (fun s_0 => ?_) (fun s_0 => ?_)
  · refine zV_tin hX (tgt := 60) dX10_member_13 (by decide) (by decide) (off := 47) (by decide) (by decide) ?_
    exact absurd s_0 (by decide)
  refine zV_case 1 (fun s_1 => ?_) (fun s_1 => ?_)
  · refine zV_tin hX (tgt := 70) dX10_member_13 (by decide) (by decide) (off := 57) (by decide) (by decide) ?_
    exact absurd s_1 (by decide)
  refine zV_case 2 (fun s_2 => ?_) (fun s_2 => ?_)
  · refine zV_tin hX (tgt := 90) dX10_member_13 (by decide) (by decide) (off := 77) (by decide) (by decide) ?_
    exact absurd s_2 (by decide)
  refine zV_case 3 (fun s_3 => ?_) (fun s_3 => ?_)
  · refine zV_tin hX (tgt := 99) dX10_member_13 (by decide) (by decide) (off := 86) (by decide) (by decide) ?_
    exact absurd s_3 (by decide)
  refine zV_case 4 (fun s_4 => ?_) (fun s_4 => ?_)
  · refine zV_tin hX (tgt := 109) dX10_member_13 (by decide) (by decide) (off := 96) (by decide) (by decide) ?_
    exact absurd s_4 (by decide)
  refine zV_case 5 (fun s_5 => ?_) (fun s_5 => ?_)
  · refine zV_tin hX (tgt := 119) dX10_member_13 (by decide) (by decide) (off := 106) (by decide) (by decide) ?_
    refine zV_aload_n hX dX10_member_119 rfl ?_
    refine zV_getc hX dX10_member_120 zf_X10_29 zo0.1 rfl ?_
    refine zV_iload_n hX dX10_member_123 rfl ?_
    refine zV_aload_n hX dX10_member_124 rfl ?_
    refine zV_getc hX dX10_member_125 zf_X10_29 zo0.1 rfl ?_
    refine zV_geta hX dX10_member_128 zf_X10_177 zo60.1 rfl ?_
    refine zV_iload_n hX dX10_member_131 rfl ?_
    refine zV_iald hX (v := M.1 65 j) dX10_member_132 (zo60.a 4 rfl) (rfl) ⟨by omega, by omega⟩ (rfl) ?_
    refine zV_cV2p hX hR hl dX10_member_133 (zc_decidedBy0 l G _ 60 j _ zo60 h60 (by omega)) zt_X6_decidedBy rfl zml_X10_180 zo60.1 ⟨by decide, by decide⟩ (Nat.le_of_ble_eq_true rfl) ?_
    dsimp only [Option.toList, List.cons_append, List.nil_append]
    exact zV_reti hX hQ hr (⟨rfl, rfl⟩) dX10_member_136
  refine zV_case 6 (fun s_6 => ?_) (fun s_6 => ?_)
  · refine zV_tin hX (tgt := 137) dX10_member_13 (by decide) (by decide) (off := 124) (by decide) (by decide) ?_
    exact absurd s_6 (by decide)
  refine zV_case 7 (fun s_7 => ?_) (fun s_7 => ?_)
  · refine zV_tin hX (tgt := 147) dX10_member_13 (by decide) (by decide) (off := 134) (by decide) (by decide) ?_
    exact absurd s_7 (by decide)
  refine zV_tout hX (tgt := 157) dX10_member_13 (zsw_out 7 (by decide) (fun j hj => by match j, hj with | 0, _ => exact s_0 | 1, _ => exact s_1 | 2, _ => exact s_2 | 3, _ => exact s_3 | 4, _ => exact s_4 | 5, _ => exact s_5 | 6, _ => exact s_6 | 7, _ => exact s_7 | _ + 8, h => omega)) (by decide) ?_
  refine zV_aload_n hX dX10_member_157 rfl ?_
  refine zV_iconst hX (v := nI 0) dX10_member_158 (by decide) ?_
  refine zV_topi (zb false) rfl ?_
  exact absurd rfl s_5
set_option maxHeartbeats 1000000 in
theorem zf_member5b (l : Launch) (G : zG) (M : zM) (n j : Nat)  (h40 : M.1 40 0 = nI n) (hn7 : n ≤ 7) (hj : j < n) (h60 : M.1 60 0 = nI j) : zC l G 9 yX10_member cX10_member 3 (Option.some Jvm.ClassFile.FieldType.int) [.ref (0 : Nat), .int (nI j), .int (nI 5)] M (zP (some (.int (M.1 77 j))) (M)) := by
  refine zC_of (by decide) (Nat.le_of_ble_eq_true rfl) (fun X Q hQ hX hl hR hr => ?_)
  refine zV_loc (L' := [.ref (0 : Nat), .int (nI j), .int (nI 5)]) rfl ?_
  refine zV_aload_n hX dX10_member_0 rfl ?_
  refine zV_aload_n hX dX10_member_1 rfl ?_
  refine zV_getc hX dX10_member_2 zf_X10_19 zo0.1 rfl ?_
  refine zV_iload_n hX dX10_member_5 rfl ?_
  refine zV_cV1p hX hR hl dX10_member_6 (zc_holds l G _ 40 n _ zo40 (h40)) zt_X2_holds rfl zml_X10_83 zo40.1 ⟨by decide, by decide⟩ (Nat.le_of_ble_eq_true rfl) ?_
  dsimp only [Option.toList, List.cons_append, List.nil_append]
  refine zV_topi (zb true) (by rw [zmem_nI (by omega) (by omega), decide_eq_true hj]) ?_
  refine zV_cV1p hX hR hl dX10_member_9 (zc_such1 l G _) zt_X10_needSuch rfl zml_X10_87 zo0.1 ⟨by decide, by decide⟩ (Nat.le_of_ble_eq_true rfl) ?_
  dsimp only [Option.toList, List.cons_append, List.nil_append]
  refine zV_iload_n hX dX10_member_12 rfl ?_
  refine zV_case 0 (fun s_0 => ?_) (fun s_0 => ?_)
  · refine zV_tin hX (tgt := 60) dX10_member_13 (by decide) (by decide) (off := 47) (by decide) (by decide) ?_
    exact absurd s_0 (by decide)
  refine zV_case 1 (fun s_1 => ?_) (fun s_1 => ?_)
  · refine zV_tin hX (tgt := 70) dX10_member_13 (by decide) (by decide) (off := 57) (by decide) (by decide) ?_
    exact absurd s_1 (by decide)
  refine zV_case 2 (fun s_2 => ?_) (fun s_2 => ?_)
  · refine zV_tin hX (tgt := 90) dX10_member_13 (by decide) (by decide) (off := 77) (by decide) (by decide) ?_
    exact absurd s_2 (by decide)
  refine zV_case 3 (fun s_3 => ?_) (fun s_3 => ?_)
  · refine zV_tin hX (tgt := 99) dX10_member_13 (by decide) (by decide) (off := 86) (by decide) (by decide) ?_
    exact absurd s_3 (by decide)
  refine zV_case 4 (fun s_4 => ?_) (fun s_4 => ?_)
  · refine zV_tin hX (tgt := 109) dX10_member_13 (by decide) (by decide) (off := 96) (by decide) (by decide) ?_
    exact absurd s_4 (by decide)
  refine zV_case 5 (fun s_5 => ?_) (fun s_5 => ?_)
  · refine zV_tin hX (tgt := 119) dX10_member_13 (by decide) (by decide) (off := 106) (by decide) (by decide) ?_
    refine zV_aload_n hX dX10_member_119 rfl ?_
    refine zV_getc hX dX10_member_120 zf_X10_29 zo0.1 rfl ?_
    refine zV_iload_n hX dX10_member_123 rfl ?_
    refine zV_aload_n hX dX10_member_124 rfl ?_
    refine zV_getc hX dX10_member_125 zf_X10_29 zo0.1 rfl ?_
    refine zV_geta hX dX10_member_128 zf_X10_177 zo60.1 rfl ?_
    refine zV_iload_n hX dX10_member_131 rfl ?_
    refine zV_iald hX (v := M.1 65 j) dX10_member_132 (zo60.a 4 rfl) (rfl) ⟨by omega, by omega⟩ (rfl) ?_
    refine zV_cV2p hX hR hl dX10_member_133 (zc_decidedByC l G _ 60 j _ zo60 h60 (by omega)) zt_X6_decidedBy rfl zml_X10_180 zo60.1 ⟨by decide, by decide⟩ (Nat.le_of_ble_eq_true rfl) ?_
    dsimp only [Option.toList, List.cons_append, List.nil_append]
    exact zV_reti hX hQ hr (⟨rfl, rfl⟩) dX10_member_136
  refine zV_case 6 (fun s_6 => ?_) (fun s_6 => ?_)
  · refine zV_tin hX (tgt := 137) dX10_member_13 (by decide) (by decide) (off := 124) (by decide) (by decide) ?_
    exact absurd s_6 (by decide)
  refine zV_case 7 (fun s_7 => ?_) (fun s_7 => ?_)
  · refine zV_tin hX (tgt := 147) dX10_member_13 (by decide) (by decide) (off := 134) (by decide) (by decide) ?_
    exact absurd s_7 (by decide)
  refine zV_tout hX (tgt := 157) dX10_member_13 (zsw_out 7 (by decide) (fun j hj => by match j, hj with | 0, _ => exact s_0 | 1, _ => exact s_1 | 2, _ => exact s_2 | 3, _ => exact s_3 | 4, _ => exact s_4 | 5, _ => exact s_5 | 6, _ => exact s_6 | 7, _ => exact s_7 | _ + 8, h => omega)) (by decide) ?_
  refine zV_aload_n hX dX10_member_157 rfl ?_
  refine zV_iconst hX (v := nI 0) dX10_member_158 (by decide) ?_
  refine zV_topi (zb false) rfl ?_
  exact absurd rfl s_5
set_option maxHeartbeats 1000000 in
theorem zf_member5c (l : Launch) (G : zG) (M : zM) (n n6 c6 s j : Nat)  (h40 : M.1 40 0 = nI n) (hn7 : n ≤ 7) (hj : j < n) (h60 : M.1 60 0 = nI c6) (hc6 : c6 < 7) (h67 : M.1 60 7 = nI n6) (hn6 : n6 ≤ 7) (hjc : j ≠ c6) (hs : M.1 65 j = nI s) (hs3 : s ≤ 3) : zC l G 9 yX10_member cX10_member 3 (Option.some Jvm.ClassFile.FieldType.int) [.ref (0 : Nat), .int (nI j), .int (nI 5)] M (zP (some (.int ((oRes 60 n6 c6 j s 17 0 s M).1 78 0))) ((oRes 60 n6 c6 j s 17 0 s M))) := by
  refine zC_of (by decide) (Nat.le_of_ble_eq_true rfl) (fun X Q hQ hX hl hR hr => ?_)
  refine zV_loc (L' := [.ref (0 : Nat), .int (nI j), .int (nI 5)]) rfl ?_
  refine zV_aload_n hX dX10_member_0 rfl ?_
  refine zV_aload_n hX dX10_member_1 rfl ?_
  refine zV_getc hX dX10_member_2 zf_X10_19 zo0.1 rfl ?_
  refine zV_iload_n hX dX10_member_5 rfl ?_
  refine zV_cV1p hX hR hl dX10_member_6 (zc_holds l G _ 40 n _ zo40 (h40)) zt_X2_holds rfl zml_X10_83 zo40.1 ⟨by decide, by decide⟩ (Nat.le_of_ble_eq_true rfl) ?_
  dsimp only [Option.toList, List.cons_append, List.nil_append]
  refine zV_topi (zb true) (by rw [zmem_nI (by omega) (by omega), decide_eq_true hj]) ?_
  refine zV_cV1p hX hR hl dX10_member_9 (zc_such1 l G _) zt_X10_needSuch rfl zml_X10_87 zo0.1 ⟨by decide, by decide⟩ (Nat.le_of_ble_eq_true rfl) ?_
  dsimp only [Option.toList, List.cons_append, List.nil_append]
  refine zV_iload_n hX dX10_member_12 rfl ?_
  refine zV_case 0 (fun s_0 => ?_) (fun s_0 => ?_)
  · refine zV_tin hX (tgt := 60) dX10_member_13 (by decide) (by decide) (off := 47) (by decide) (by decide) ?_
    exact absurd s_0 (by decide)
  refine zV_case 1 (fun s_1 => ?_) (fun s_1 => ?_)
  · refine zV_tin hX (tgt := 70) dX10_member_13 (by decide) (by decide) (off := 57) (by decide) (by decide) ?_
    exact absurd s_1 (by decide)
  refine zV_case 2 (fun s_2 => ?_) (fun s_2 => ?_)
  · refine zV_tin hX (tgt := 90) dX10_member_13 (by decide) (by decide) (off := 77) (by decide) (by decide) ?_
    exact absurd s_2 (by decide)
  refine zV_case 3 (fun s_3 => ?_) (fun s_3 => ?_)
  · refine zV_tin hX (tgt := 99) dX10_member_13 (by decide) (by decide) (off := 86) (by decide) (by decide) ?_
    exact absurd s_3 (by decide)
  refine zV_case 4 (fun s_4 => ?_) (fun s_4 => ?_)
  · refine zV_tin hX (tgt := 109) dX10_member_13 (by decide) (by decide) (off := 96) (by decide) (by decide) ?_
    exact absurd s_4 (by decide)
  refine zV_case 5 (fun s_5 => ?_) (fun s_5 => ?_)
  · refine zV_tin hX (tgt := 119) dX10_member_13 (by decide) (by decide) (off := 106) (by decide) (by decide) ?_
    refine zV_aload_n hX dX10_member_119 rfl ?_
    refine zV_getc hX dX10_member_120 zf_X10_29 zo0.1 rfl ?_
    refine zV_iload_n hX dX10_member_123 rfl ?_
    refine zV_aload_n hX dX10_member_124 rfl ?_
    refine zV_getc hX dX10_member_125 zf_X10_29 zo0.1 rfl ?_
    refine zV_geta hX dX10_member_128 zf_X10_177 zo60.1 rfl ?_
    refine zV_iload_n hX dX10_member_131 rfl ?_
    refine zV_iald hX (v := nI s) dX10_member_132 (zo60.a 4 rfl) (rfl) ⟨by omega, by omega⟩ (hs) ?_
    refine zV_cV2p hX hR hl dX10_member_133 (zc_decidedBy l G _ 60 n6 c6 j s zo60 h67 hn6 h60 hc6 (by omega) hjc hs3) zt_X6_decidedBy rfl zml_X10_180 zo60.1 ⟨by decide, by decide⟩ (Nat.le_of_ble_eq_true rfl) ?_
    dsimp only [Option.toList, List.cons_append, List.nil_append]
    exact zV_reti hX hQ hr (⟨rfl, rfl⟩) dX10_member_136
  refine zV_case 6 (fun s_6 => ?_) (fun s_6 => ?_)
  · refine zV_tin hX (tgt := 137) dX10_member_13 (by decide) (by decide) (off := 124) (by decide) (by decide) ?_
    exact absurd s_6 (by decide)
  refine zV_case 7 (fun s_7 => ?_) (fun s_7 => ?_)
  · refine zV_tin hX (tgt := 147) dX10_member_13 (by decide) (by decide) (off := 134) (by decide) (by decide) ?_
    exact absurd s_7 (by decide)
  refine zV_tout hX (tgt := 157) dX10_member_13 (zsw_out 7 (by decide) (fun j hj => by match j, hj with | 0, _ => exact s_0 | 1, _ => exact s_1 | 2, _ => exact s_2 | 3, _ => exact s_3 | 4, _ => exact s_4 | 5, _ => exact s_5 | 6, _ => exact s_6 | 7, _ => exact s_7 | _ + 8, h => omega)) (by decide) ?_
  refine zV_aload_n hX dX10_member_157 rfl ?_
  refine zV_iconst hX (v := nI 0) dX10_member_158 (by decide) ?_
  refine zV_topi (zb false) rfl ?_
  exact absurd rfl s_5
set_option maxHeartbeats 1000000 in
theorem zf_memberX (l : Launch) (G : zG) (M : zM) (hst : l.stackTraces = false) (n : Nat) (x k : Int32) (h40 : M.1 40 0 = nI n) (hn7 : n ≤ 7) (hx : zmem x n = false) : zCx l G 9 1 6 yX10_member cX10_member 3 (Option.some Jvm.ClassFile.FieldType.int) [.ref (0 : Nat), .int x, .int k] M zNSE (mBs M) := by
  refine zCx_of (by decide) (Nat.le_of_ble_eq_true rfl) (fun X Q hQ hX hl hR hEx ht => ?_)
  refine zV_loc (L' := [.ref (0 : Nat), .int x, .int k]) rfl ?_
  refine zV_aload_n hX dX10_member_0 rfl ?_
  refine zV_aload_n hX dX10_member_1 rfl ?_
  refine zV_getc hX dX10_member_2 zf_X10_19 zo0.1 rfl ?_
  refine zV_iload_n hX dX10_member_5 rfl ?_
  refine zK_cV1p hX hR hl dX10_member_6 (zCk.of (zc_holds l G _ 40 n _ zo40 (h40))) zt_X2_holds rfl zml_X10_83 zo40.1 ⟨by decide, by decide⟩ (Nat.le_of_ble_eq_true rfl) (by omega) ⟨rfl, rfl⟩ ?_
  dsimp only [Option.toList, List.cons_append, List.nil_append]
  refine zV_topi (zb false) (by rw [hx]) ?_
  exact zX_cV1 hX hEx hR hl hQ ht dX10_member_9 (zc_such0 l G _ hst) zt_X10_needSuch rfl zml_X10_87 zo0.1 ⟨by decide, by decide⟩ (Nat.le_of_ble_eq_true rfl) (by omega)
set_option maxHeartbeats 1000000 in
theorem zf_memberK (l : Launch) (G : zG) (M : zM) (hst : l.stackTraces = false) (n j : Nat) (k : Int32) (h40 : M.1 40 0 = nI n) (hn7 : n ≤ 7) (hj : j < n) (hk : mIn k (nI 0) (nI 7) = false) : zCx l G 9 1 6 yX10_member cX10_member 3 (Option.some Jvm.ClassFile.FieldType.int) [.ref (0 : Nat), .int (nI j), .int k] M zIAE (mBa M) := by
  refine zCx_of (by decide) (Nat.le_of_ble_eq_true rfl) (fun X Q hQ hX hl hR hEx ht => ?_)
  refine zV_loc (L' := [.ref (0 : Nat), .int (nI j), .int k]) rfl ?_
  refine zV_aload_n hX dX10_member_0 rfl ?_
  refine zV_aload_n hX dX10_member_1 rfl ?_
  refine zV_getc hX dX10_member_2 zf_X10_19 zo0.1 rfl ?_
  refine zV_iload_n hX dX10_member_5 rfl ?_
  refine zK_cV1p hX hR hl dX10_member_6 (zCk.of (zc_holds l G _ 40 n _ zo40 (h40))) zt_X2_holds rfl zml_X10_83 zo40.1 ⟨by decide, by decide⟩ (Nat.le_of_ble_eq_true rfl) (by omega) ⟨rfl, rfl⟩ ?_
  dsimp only [Option.toList, List.cons_append, List.nil_append]
  refine zV_topi (zb true) (by rw [zmem_nI (by omega) (by omega), decide_eq_true hj]) ?_
  refine zK_cV1p hX hR hl dX10_member_9 (zCk.of (zc_such1 l G _)) zt_X10_needSuch rfl zml_X10_87 zo0.1 ⟨by decide, by decide⟩ (Nat.le_of_ble_eq_true rfl) (by omega) ⟨rfl, rfl⟩ ?_
  dsimp only [Option.toList, List.cons_append, List.nil_append]
  refine zV_iload_n hX dX10_member_12 rfl ?_
  refine zV_case 0 (fun s_0 => ?_) (fun s_0 => ?_)
  · refine zV_tin hX (tgt := 60) dX10_member_13 (by decide) (by decide) (off := 47) (by decide) (by decide) ?_
    exact absurd hk (by rw [s_0]; decide)
  refine zV_case 1 (fun s_1 => ?_) (fun s_1 => ?_)
  · refine zV_tin hX (tgt := 70) dX10_member_13 (by decide) (by decide) (off := 57) (by decide) (by decide) ?_
    exact absurd hk (by rw [s_1]; decide)
  refine zV_case 2 (fun s_2 => ?_) (fun s_2 => ?_)
  · refine zV_tin hX (tgt := 90) dX10_member_13 (by decide) (by decide) (off := 77) (by decide) (by decide) ?_
    exact absurd hk (by rw [s_2]; decide)
  refine zV_case 3 (fun s_3 => ?_) (fun s_3 => ?_)
  · refine zV_tin hX (tgt := 99) dX10_member_13 (by decide) (by decide) (off := 86) (by decide) (by decide) ?_
    exact absurd hk (by rw [s_3]; decide)
  refine zV_case 4 (fun s_4 => ?_) (fun s_4 => ?_)
  · refine zV_tin hX (tgt := 109) dX10_member_13 (by decide) (by decide) (off := 96) (by decide) (by decide) ?_
    exact absurd hk (by rw [s_4]; decide)
  refine zV_case 5 (fun s_5 => ?_) (fun s_5 => ?_)
  · refine zV_tin hX (tgt := 119) dX10_member_13 (by decide) (by decide) (off := 106) (by decide) (by decide) ?_
    exact absurd hk (by rw [s_5]; decide)
  refine zV_case 6 (fun s_6 => ?_) (fun s_6 => ?_)
  · refine zV_tin hX (tgt := 137) dX10_member_13 (by decide) (by decide) (off := 124) (by decide) (by decide) ?_
    exact absurd hk (by rw [s_6]; decide)
  refine zV_case 7 (fun s_7 => ?_) (fun s_7 => ?_)
  · refine zV_tin hX (tgt := 147) dX10_member_13 (by decide) (by decide) (off := 134) (by decide) (by decide) ?_
    exact absurd hk (by rw [s_7]; decide)
  refine zV_tout hX (tgt := 157) dX10_member_13 (zsw_out 7 (by decide) (fun j hj => by match j, hj with | 0, _ => exact s_0 | 1, _ => exact s_1 | 2, _ => exact s_2 | 3, _ => exact s_3 | 4, _ => exact s_4 | 5, _ => exact s_5 | 6, _ => exact s_6 | 7, _ => exact s_7 | _ + 8, h => omega)) (by decide) ?_
  refine zV_aload_n hX dX10_member_157 rfl ?_
  refine zV_iconst hX (v := nI 0) dX10_member_158 (by decide) ?_
  refine zV_topi (zb false) rfl ?_
  exact zX_cV1 hX hEx hR hl hQ ht dX10_member_159 (zc_need0 l G _ hst) zt_X10_need rfl zml_X10_72 zo0.1 ⟨by decide, by decide⟩ (Nat.le_of_ble_eq_true rfl) (by omega)
set_option maxHeartbeats 1000000 in
theorem zf_heard (l : Launch) (G : zG) (M : zM) (n n6 t6 c6 p j k : Nat) (a b d : Int32) (g : Bool)  (h40 : M.1 40 0 = nI n) (hn7 : n ≤ 7) (hj : j < n) (h67 : M.1 60 7 = nI n6) (hn6 : n6 ≤ 7) (h68 : M.1 60 8 = nI t6) (ht6 : t6 ≤ 2) (h60 : M.1 60 0 = nI c6) (hc6 : c6 < 7) (hp : oPof 60 n6 t6 M a b d = nI p) (hp7 : p < 57) (hh : oHears 60 c6 M j p = true) (hk : k ≤ 2) (hg : M.1 74 (j * 57 + p) = zb g) : zC l G 9 yX10_heard cX10_heard 7 (Option.some Jvm.ClassFile.FieldType.int) [.ref (0 : Nat), .int (nI j), .int a, .int b, .int d, .int (nI k)] M (zP (some (.int (if k = 0 then M.1 73 (j * 57 + p) else if k = 1 then zb g else M.1 75 (j * 57 + p)))) (M)) := by
  refine zC_of (by decide) (Nat.le_of_ble_eq_true rfl) (fun X Q hQ hX hl hR hr => ?_)
  refine zV_loc (L' := [.ref (0 : Nat), .int (nI j), .int a, .int b, .int d, .int (nI k), .null]) rfl ?_
  refine zV_aload_n hX dX10_heard_0 rfl ?_
  refine zV_aload_n hX dX10_heard_1 rfl ?_
  refine zV_getc hX dX10_heard_2 zf_X10_19 zo0.1 rfl ?_
  refine zV_iload_n hX dX10_heard_5 rfl ?_
  refine zV_cV1p hX hR hl dX10_heard_6 (zc_holds l G _ 40 n _ zo40 (h40)) zt_X2_holds rfl zml_X10_83 zo40.1 ⟨by decide, by decide⟩ (Nat.le_of_ble_eq_true rfl) ?_
  dsimp only [Option.toList, List.cons_append, List.nil_append]
  refine zV_topi (zb true) (by rw [zmem_nI (by omega) (by omega), decide_eq_true hj]) ?_
  refine zV_cV1p hX hR hl dX10_heard_9 (zc_such1 l G _) zt_X10_needSuch rfl zml_X10_87 zo0.1 ⟨by decide, by decide⟩ (Nat.le_of_ble_eq_true rfl) ?_
  dsimp only [Option.toList, List.cons_append, List.nil_append]
  refine zV_aload_n hX dX10_heard_12 rfl ?_
  refine zV_getc hX dX10_heard_13 zf_X10_29 zo0.1 rfl ?_
  refine zV_iload_n hX dX10_heard_16 rfl ?_
  refine zV_iload_n hX dX10_heard_17 rfl ?_
  refine zV_iload hX dX10_heard_18 rfl ?_
  refine zV_cV3p hX hR hl dX10_heard_20 (zc_pathOf l G _ 60 n6 t6 a b d zo60 h67 hn6 h68 ht6) zt_X6_pathOf rfl zml_X10_189 zo60.1 ⟨by decide, by decide⟩ (Nat.le_of_ble_eq_true rfl) ?_
  dsimp only [Option.toList, List.cons_append, List.nil_append]
  refine zV_topi (nI p) hp ?_
  refine zV_istore hX dX10_heard_23 (by decide) ?_
  dsimp only [zst1, zst2, zclr, zc2]
  refine zV_aload_n hX dX10_heard_25 rfl ?_
  refine zV_iload hX dX10_heard_26 rfl ?_
  refine zV_iconst hX (v := (-1)) dX10_heard_28 (by decide) ?_
  refine zV_icmp_eq hX (tgt := 49) dX10_heard_29 (by decide) (fun c_29 => absurd c_29 (nI_m1 (by omega))) (fun c_29 => ?_)
  refine zV_aload_n hX dX10_heard_32 rfl ?_
  refine zV_getc hX dX10_heard_33 zf_X10_29 zo0.1 rfl ?_
  refine zV_iload_n hX dX10_heard_36 rfl ?_
  refine zV_iload hX dX10_heard_37 rfl ?_
  refine zV_cV2p hX hR hl dX10_heard_39 (zc_hears l G _ 60 j p c6 zo60 h60 hc6 (by omega) hp7) zt_X6_hears rfl zml_X10_193 zo60.1 ⟨by decide, by decide⟩ (Nat.le_of_ble_eq_true rfl) ?_
  dsimp only [Option.toList, List.cons_append, List.nil_append]
  refine zV_topi (zb true) (by rw [hh]) ?_
  refine zV_if_eqB hX (tgt := 49) dX10_heard_42 (by decide) (fun c_42 => absurd c_42 (by decide)) (fun c_42 => ?_)
  refine zV_iconst hX (v := nI 1) dX10_heard_45 (by decide) ?_
  refine zV_goto hX (tgt := 50) dX10_heard_46 (by decide) ?_
  refine zV_topi (zb true) rfl ?_
  refine zV_cV1p hX hR hl dX10_heard_50 (zc_such1 l G _) zt_X10_needSuch rfl zml_X10_87 zo0.1 ⟨by decide, by decide⟩ (Nat.le_of_ble_eq_true rfl) ?_
  dsimp only [Option.toList, List.cons_append, List.nil_append]
  refine zV_aload_n hX dX10_heard_53 rfl ?_
  refine zV_iload hX dX10_heard_54 rfl ?_
  refine zV_if_ltN hX (tgt := 69) dX10_heard_56 (by decide) (by omega) (fun c_56 => ?_)
  refine zV_iload hX dX10_heard_59 rfl ?_
  refine zV_iconst hX (v := nI 2) dX10_heard_61 (by decide) ?_
  refine zV_icmp_gtN hX (tgt := 69) dX10_heard_62 (by decide) ⟨by omega, by omega⟩ (fun c_62 => ?_) (fun c_62 => ?_)
  · refine zV_iconst hX (v := nI 0) dX10_heard_69 (by decide) ?_
    refine zV_topi (zb false) rfl ?_
    exfalso
    omega
  · refine zV_iconst hX (v := nI 1) dX10_heard_65 (by decide) ?_
    refine zV_goto hX (tgt := 70) dX10_heard_66 (by decide) ?_
    refine zV_topi (zb true) rfl ?_
    refine zV_cV1p hX hR hl dX10_heard_70 (zc_need1 l G _) zt_X10_need rfl zml_X10_72 zo0.1 ⟨by decide, by decide⟩ (Nat.le_of_ble_eq_true rfl) ?_
    dsimp only [Option.toList, List.cons_append, List.nil_append]
    refine zV_iload hX dX10_heard_73 rfl ?_
    refine zV_if_neN hX (tgt := 89) dX10_heard_75 (by decide) (by omega) (fun c_75 => ?_) (fun c_75 => ?_)
    · refine zV_iload hX dX10_heard_89 rfl ?_
      refine zV_iconst hX (v := nI 1) dX10_heard_91 (by decide) ?_
      refine zV_icmp_neN hX (tgt := 114) dX10_heard_92 (by decide) ⟨by omega, by omega⟩ (fun c_92 => ?_) (fun c_92 => ?_)
      · refine zV_aload_n hX dX10_heard_114 rfl ?_
        refine zV_getc hX dX10_heard_115 zf_X10_29 zo0.1 rfl ?_
        refine zV_iload_n hX dX10_heard_118 rfl ?_
        refine zV_iload hX dX10_heard_119 rfl ?_
        refine zV_cV2p hX hR hl dX10_heard_121 (zc_resolvedBy l G _ 60 j p zo60 (by omega) hp7) zt_X6_resolvedBy rfl zml_X10_202 zo60.1 ⟨by decide, by decide⟩ (Nat.le_of_ble_eq_true rfl) ?_
        dsimp only [Option.toList, List.cons_append, List.nil_append]
        exact zV_reti hX hQ hr (⟨by first | (rw [if_pos c_75]; done) | (rw [if_neg (by omega), if_pos c_92, c_105]; rfl) | (rw [if_neg (by omega), if_neg (by omega)]; done), rfl⟩) dX10_heard_124
      · refine zV_aload_n hX dX10_heard_95 rfl ?_
        refine zV_getc hX dX10_heard_96 zf_X10_29 zo0.1 rfl ?_
        refine zV_iload_n hX dX10_heard_99 rfl ?_
        refine zV_iload hX dX10_heard_100 rfl ?_
        refine zV_cV2p hX hR hl dX10_heard_102 (zc_isGone l G _ 60 j p g zo60 (by omega) hp7 hg) zt_X6_isGone rfl zml_X10_199 zo60.1 ⟨by decide, by decide⟩ (Nat.le_of_ble_eq_true rfl) ?_
        dsimp only [Option.toList, List.cons_append, List.nil_append]
        refine zV_if_eqB hX (tgt := 112) dX10_heard_105 (by decide) (fun c_105 => ?_) (fun c_105 => ?_)
        · refine zV_iconst hX (v := nI 0) dX10_heard_112 (by decide) ?_
          exact zV_reti hX hQ hr (⟨by first | (rw [if_pos c_75]; done) | (rw [if_neg (by omega), if_pos c_92, c_105]; rfl) | (rw [if_neg (by omega), if_neg (by omega)]; done), rfl⟩) dX10_heard_113
        · refine zV_iconst hX (v := nI 1) dX10_heard_108 (by decide) ?_
          refine zV_goto hX (tgt := 113) dX10_heard_109 (by decide) ?_
          exact zV_reti hX hQ hr (⟨by first | (rw [if_pos c_75]; done) | (rw [if_neg (by omega), if_pos c_92, c_105]; rfl) | (rw [if_neg (by omega), if_neg (by omega)]; done), rfl⟩) dX10_heard_113
    · refine zV_aload_n hX dX10_heard_78 rfl ?_
      refine zV_getc hX dX10_heard_79 zf_X10_29 zo0.1 rfl ?_
      refine zV_iload_n hX dX10_heard_82 rfl ?_
      refine zV_iload hX dX10_heard_83 rfl ?_
      refine zV_cV2p hX hR hl dX10_heard_85 (zc_heardBy l G _ 60 j p zo60 (by omega) hp7) zt_X6_heardBy rfl zml_X10_196 zo60.1 ⟨by decide, by decide⟩ (Nat.le_of_ble_eq_true rfl) ?_
      dsimp only [Option.toList, List.cons_append, List.nil_append]
      exact zV_reti hX hQ hr (⟨by first | (rw [if_pos c_75]; done) | (rw [if_neg (by omega), if_pos c_92, c_105]; rfl) | (rw [if_neg (by omega), if_neg (by omega)]; done), rfl⟩) dX10_heard_88
set_option maxHeartbeats 1000000 in
theorem zf_heardX (l : Launch) (G : zG) (M : zM) (hst : l.stackTraces = false) (n : Nat) (x a b d k : Int32) (h40 : M.1 40 0 = nI n) (hn7 : n ≤ 7) (hx : zmem x n = false) : zCx l G 9 1 6 yX10_heard cX10_heard 7 (Option.some Jvm.ClassFile.FieldType.int) [.ref (0 : Nat), .int x, .int a, .int b, .int d, .int k] M zNSE (mBs M) := by
  refine zCx_of (by decide) (Nat.le_of_ble_eq_true rfl) (fun X Q hQ hX hl hR hEx ht => ?_)
  refine zV_loc (L' := [.ref (0 : Nat), .int x, .int a, .int b, .int d, .int k, .null]) rfl ?_
  refine zV_aload_n hX dX10_heard_0 rfl ?_
  refine zV_aload_n hX dX10_heard_1 rfl ?_
  refine zV_getc hX dX10_heard_2 zf_X10_19 zo0.1 rfl ?_
  refine zV_iload_n hX dX10_heard_5 rfl ?_
  refine zK_cV1p hX hR hl dX10_heard_6 (zCk.of (zc_holds l G _ 40 n _ zo40 (h40))) zt_X2_holds rfl zml_X10_83 zo40.1 ⟨by decide, by decide⟩ (Nat.le_of_ble_eq_true rfl) (by omega) ⟨rfl, rfl⟩ ?_
  dsimp only [Option.toList, List.cons_append, List.nil_append]
  refine zV_topi (zb false) (by rw [hx]) ?_
  exact zX_cV1 hX hEx hR hl hQ ht dX10_heard_9 (zc_such0 l G _ hst) zt_X10_needSuch rfl zml_X10_87 zo0.1 ⟨by decide, by decide⟩ (Nat.le_of_ble_eq_true rfl) (by omega)
set_option maxHeartbeats 1000000 in
theorem zf_heardN (l : Launch) (G : zG) (M : zM) (hst : l.stackTraces = false) (n n6 t6 j : Nat) (a b d k : Int32) (h40 : M.1 40 0 = nI n) (hn7 : n ≤ 7) (hj : j < n) (h67 : M.1 60 7 = nI n6) (hn6 : n6 ≤ 7) (h68 : M.1 60 8 = nI t6) (ht6 : t6 ≤ 2) (hp : oPof 60 n6 t6 M a b d = -1) : zCx l G 9 1 6 yX10_heard cX10_heard 7 (Option.some Jvm.ClassFile.FieldType.int) [.ref (0 : Nat), .int (nI j), .int a, .int b, .int d, .int k] M zNSE (mBs M) := by
  refine zCx_of (by decide) (Nat.le_of_ble_eq_true rfl) (fun X Q hQ hX hl hR hEx ht => ?_)
  refine zV_loc (L' := [.ref (0 : Nat), .int (nI j), .int a, .int b, .int d, .int k, .null]) rfl ?_
  refine zV_aload_n hX dX10_heard_0 rfl ?_
  refine zV_aload_n hX dX10_heard_1 rfl ?_
  refine zV_getc hX dX10_heard_2 zf_X10_19 zo0.1 rfl ?_
  refine zV_iload_n hX dX10_heard_5 rfl ?_
  refine zK_cV1p hX hR hl dX10_heard_6 (zCk.of (zc_holds l G _ 40 n _ zo40 (h40))) zt_X2_holds rfl zml_X10_83 zo40.1 ⟨by decide, by decide⟩ (Nat.le_of_ble_eq_true rfl) (by omega) ⟨rfl, rfl⟩ ?_
  dsimp only [Option.toList, List.cons_append, List.nil_append]
  refine zV_topi (zb true) (by rw [zmem_nI (by omega) (by omega), decide_eq_true hj]) ?_
  refine zK_cV1p hX hR hl dX10_heard_9 (zCk.of (zc_such1 l G _)) zt_X10_needSuch rfl zml_X10_87 zo0.1 ⟨by decide, by decide⟩ (Nat.le_of_ble_eq_true rfl) (by omega) ⟨rfl, rfl⟩ ?_
  dsimp only [Option.toList, List.cons_append, List.nil_append]
  refine zV_aload_n hX dX10_heard_12 rfl ?_
  refine zV_getc hX dX10_heard_13 zf_X10_29 zo0.1 rfl ?_
  refine zV_iload_n hX dX10_heard_16 rfl ?_
  refine zV_iload_n hX dX10_heard_17 rfl ?_
  refine zV_iload hX dX10_heard_18 rfl ?_
  refine zK_cV3p hX hR hl dX10_heard_20 (zCk.of (zc_pathOf l G _ 60 n6 t6 a b d zo60 h67 hn6 h68 ht6)) zt_X6_pathOf rfl zml_X10_189 zo60.1 ⟨by decide, by decide⟩ (Nat.le_of_ble_eq_true rfl) (by omega) ⟨rfl, rfl⟩ ?_
  dsimp only [Option.toList, List.cons_append, List.nil_append]
  refine zV_topi (-1) hp ?_
  refine zV_istore hX dX10_heard_23 (by decide) ?_
  dsimp only [zst1, zst2, zclr, zc2]
  refine zV_aload_n hX dX10_heard_25 rfl ?_
  refine zV_iload hX dX10_heard_26 rfl ?_
  refine zV_iconst hX (v := (-1)) dX10_heard_28 (by decide) ?_
  refine zV_icmp_eq hX (tgt := 49) dX10_heard_29 (by decide) (fun c_29 => ?_) (fun c_29 => absurd c_29 (fun q => q rfl))
  refine zV_iconst hX (v := nI 0) dX10_heard_49 (by decide) ?_
  refine zV_topi (zb false) rfl ?_
  exact zX_cV1 hX hEx hR hl hQ ht dX10_heard_50 (zc_such0 l G _ hst) zt_X10_needSuch rfl zml_X10_87 zo0.1 ⟨by decide, by decide⟩ (Nat.le_of_ble_eq_true rfl) (by omega)
set_option maxHeartbeats 1000000 in
theorem zf_heardH (l : Launch) (G : zG) (M : zM) (hst : l.stackTraces = false) (n n6 t6 c6 p j : Nat) (a b d k : Int32) (h40 : M.1 40 0 = nI n) (hn7 : n ≤ 7) (hj : j < n) (h67 : M.1 60 7 = nI n6) (hn6 : n6 ≤ 7) (h68 : M.1 60 8 = nI t6) (ht6 : t6 ≤ 2) (h60 : M.1 60 0 = nI c6) (hc6 : c6 < 7) (hp : oPof 60 n6 t6 M a b d = nI p) (hp7 : p < 57) (hh : oHears 60 c6 M j p = false) : zCx l G 9 1 6 yX10_heard cX10_heard 7 (Option.some Jvm.ClassFile.FieldType.int) [.ref (0 : Nat), .int (nI j), .int a, .int b, .int d, .int k] M zNSE (mBs M) := by
  refine zCx_of (by decide) (Nat.le_of_ble_eq_true rfl) (fun X Q hQ hX hl hR hEx ht => ?_)
  refine zV_loc (L' := [.ref (0 : Nat), .int (nI j), .int a, .int b, .int d, .int k, .null]) rfl ?_
  refine zV_aload_n hX dX10_heard_0 rfl ?_
  refine zV_aload_n hX dX10_heard_1 rfl ?_
  refine zV_getc hX dX10_heard_2 zf_X10_19 zo0.1 rfl ?_
  refine zV_iload_n hX dX10_heard_5 rfl ?_
  refine zK_cV1p hX hR hl dX10_heard_6 (zCk.of (zc_holds l G _ 40 n _ zo40 (h40))) zt_X2_holds rfl zml_X10_83 zo40.1 ⟨by decide, by decide⟩ (Nat.le_of_ble_eq_true rfl) (by omega) ⟨rfl, rfl⟩ ?_
  dsimp only [Option.toList, List.cons_append, List.nil_append]
  refine zV_topi (zb true) (by rw [zmem_nI (by omega) (by omega), decide_eq_true hj]) ?_
  refine zK_cV1p hX hR hl dX10_heard_9 (zCk.of (zc_such1 l G _)) zt_X10_needSuch rfl zml_X10_87 zo0.1 ⟨by decide, by decide⟩ (Nat.le_of_ble_eq_true rfl) (by omega) ⟨rfl, rfl⟩ ?_
  dsimp only [Option.toList, List.cons_append, List.nil_append]
  refine zV_aload_n hX dX10_heard_12 rfl ?_
  refine zV_getc hX dX10_heard_13 zf_X10_29 zo0.1 rfl ?_
  refine zV_iload_n hX dX10_heard_16 rfl ?_
  refine zV_iload_n hX dX10_heard_17 rfl ?_
  refine zV_iload hX dX10_heard_18 rfl ?_
  refine zK_cV3p hX hR hl dX10_heard_20 (zCk.of (zc_pathOf l G _ 60 n6 t6 a b d zo60 h67 hn6 h68 ht6)) zt_X6_pathOf rfl zml_X10_189 zo60.1 ⟨by decide, by decide⟩ (Nat.le_of_ble_eq_true rfl) (by omega) ⟨rfl, rfl⟩ ?_
  dsimp only [Option.toList, List.cons_append, List.nil_append]
  refine zV_topi (nI p) hp ?_
  refine zV_istore hX dX10_heard_23 (by decide) ?_
  dsimp only [zst1, zst2, zclr, zc2]
  refine zV_aload_n hX dX10_heard_25 rfl ?_
  refine zV_iload hX dX10_heard_26 rfl ?_
  refine zV_iconst hX (v := (-1)) dX10_heard_28 (by decide) ?_
  refine zV_icmp_eq hX (tgt := 49) dX10_heard_29 (by decide) (fun c_29 => absurd c_29 (nI_m1 (by omega))) (fun c_29 => ?_)
  refine zV_aload_n hX dX10_heard_32 rfl ?_
  refine zV_getc hX dX10_heard_33 zf_X10_29 zo0.1 rfl ?_
  refine zV_iload_n hX dX10_heard_36 rfl ?_
  refine zV_iload hX dX10_heard_37 rfl ?_
  refine zK_cV2p hX hR hl dX10_heard_39 (zCk.of (zc_hears l G _ 60 j p c6 zo60 h60 hc6 (by omega) hp7)) zt_X6_hears rfl zml_X10_193 zo60.1 ⟨by decide, by decide⟩ (Nat.le_of_ble_eq_true rfl) (by omega) ⟨rfl, rfl⟩ ?_
  dsimp only [Option.toList, List.cons_append, List.nil_append]
  refine zV_topi (zb false) (by rw [hh]) ?_
  refine zV_if_eqB hX (tgt := 49) dX10_heard_42 (by decide) (fun c_42 => ?_) (fun c_42 => absurd c_42 (by decide))
  refine zV_iconst hX (v := nI 0) dX10_heard_49 (by decide) ?_
  refine zV_topi (zb false) rfl ?_
  exact zX_cV1 hX hEx hR hl hQ ht dX10_heard_50 (zc_such0 l G _ hst) zt_X10_needSuch rfl zml_X10_87 zo0.1 ⟨by decide, by decide⟩ (Nat.le_of_ble_eq_true rfl) (by omega)
set_option maxHeartbeats 1000000 in
theorem zf_heardK (l : Launch) (G : zG) (M : zM) (hst : l.stackTraces = false) (n n6 t6 c6 p j : Nat) (a b d k : Int32) (h40 : M.1 40 0 = nI n) (hn7 : n ≤ 7) (hj : j < n) (h67 : M.1 60 7 = nI n6) (hn6 : n6 ≤ 7) (h68 : M.1 60 8 = nI t6) (ht6 : t6 ≤ 2) (h60 : M.1 60 0 = nI c6) (hc6 : c6 < 7) (hp : oPof 60 n6 t6 M a b d = nI p) (hp7 : p < 57) (hh : oHears 60 c6 M j p = true) (hk : mIn k (nI 0) (nI 2) = false) : zCx l G 9 1 6 yX10_heard cX10_heard 7 (Option.some Jvm.ClassFile.FieldType.int) [.ref (0 : Nat), .int (nI j), .int a, .int b, .int d, .int k] M zIAE (mBa M) := by
  refine zCx_of (by decide) (Nat.le_of_ble_eq_true rfl) (fun X Q hQ hX hl hR hEx ht => ?_)
  refine zV_loc (L' := [.ref (0 : Nat), .int (nI j), .int a, .int b, .int d, .int k, .null]) rfl ?_
  refine zV_aload_n hX dX10_heard_0 rfl ?_
  refine zV_aload_n hX dX10_heard_1 rfl ?_
  refine zV_getc hX dX10_heard_2 zf_X10_19 zo0.1 rfl ?_
  refine zV_iload_n hX dX10_heard_5 rfl ?_
  refine zK_cV1p hX hR hl dX10_heard_6 (zCk.of (zc_holds l G _ 40 n _ zo40 (h40))) zt_X2_holds rfl zml_X10_83 zo40.1 ⟨by decide, by decide⟩ (Nat.le_of_ble_eq_true rfl) (by omega) ⟨rfl, rfl⟩ ?_
  dsimp only [Option.toList, List.cons_append, List.nil_append]
  refine zV_topi (zb true) (by rw [zmem_nI (by omega) (by omega), decide_eq_true hj]) ?_
  refine zK_cV1p hX hR hl dX10_heard_9 (zCk.of (zc_such1 l G _)) zt_X10_needSuch rfl zml_X10_87 zo0.1 ⟨by decide, by decide⟩ (Nat.le_of_ble_eq_true rfl) (by omega) ⟨rfl, rfl⟩ ?_
  dsimp only [Option.toList, List.cons_append, List.nil_append]
  refine zV_aload_n hX dX10_heard_12 rfl ?_
  refine zV_getc hX dX10_heard_13 zf_X10_29 zo0.1 rfl ?_
  refine zV_iload_n hX dX10_heard_16 rfl ?_
  refine zV_iload_n hX dX10_heard_17 rfl ?_
  refine zV_iload hX dX10_heard_18 rfl ?_
  refine zK_cV3p hX hR hl dX10_heard_20 (zCk.of (zc_pathOf l G _ 60 n6 t6 a b d zo60 h67 hn6 h68 ht6)) zt_X6_pathOf rfl zml_X10_189 zo60.1 ⟨by decide, by decide⟩ (Nat.le_of_ble_eq_true rfl) (by omega) ⟨rfl, rfl⟩ ?_
  dsimp only [Option.toList, List.cons_append, List.nil_append]
  refine zV_topi (nI p) hp ?_
  refine zV_istore hX dX10_heard_23 (by decide) ?_
  dsimp only [zst1, zst2, zclr, zc2]
  refine zV_aload_n hX dX10_heard_25 rfl ?_
  refine zV_iload hX dX10_heard_26 rfl ?_
  refine zV_iconst hX (v := (-1)) dX10_heard_28 (by decide) ?_
  refine zV_icmp_eq hX (tgt := 49) dX10_heard_29 (by decide) (fun c_29 => absurd c_29 (nI_m1 (by omega))) (fun c_29 => ?_)
  refine zV_aload_n hX dX10_heard_32 rfl ?_
  refine zV_getc hX dX10_heard_33 zf_X10_29 zo0.1 rfl ?_
  refine zV_iload_n hX dX10_heard_36 rfl ?_
  refine zV_iload hX dX10_heard_37 rfl ?_
  refine zK_cV2p hX hR hl dX10_heard_39 (zCk.of (zc_hears l G _ 60 j p c6 zo60 h60 hc6 (by omega) hp7)) zt_X6_hears rfl zml_X10_193 zo60.1 ⟨by decide, by decide⟩ (Nat.le_of_ble_eq_true rfl) (by omega) ⟨rfl, rfl⟩ ?_
  dsimp only [Option.toList, List.cons_append, List.nil_append]
  refine zV_topi (zb true) (by rw [hh]) ?_
  refine zV_if_eqB hX (tgt := 49) dX10_heard_42 (by decide) (fun c_42 => absurd c_42 (by decide)) (fun c_42 => ?_)
  refine zV_iconst hX (v := nI 1) dX10_heard_45 (by decide) ?_
  refine zV_goto hX (tgt := 50) dX10_heard_46 (by decide) ?_
  refine zV_topi (zb true) rfl ?_
  refine zK_cV1p hX hR hl dX10_heard_50 (zCk.of (zc_such1 l G _)) zt_X10_needSuch rfl zml_X10_87 zo0.1 ⟨by decide, by decide⟩ (Nat.le_of_ble_eq_true rfl) (by omega) ⟨rfl, rfl⟩ ?_
  dsimp only [Option.toList, List.cons_append, List.nil_append]
  refine zV_aload_n hX dX10_heard_53 rfl ?_
  refine zV_iload hX dX10_heard_54 rfl ?_
  refine zV_if_lt hX (tgt := 69) dX10_heard_56 (by decide) (fun c_56 => ?_) (fun c_56 => ?_)
  · refine zV_iconst hX (v := nI 0) dX10_heard_69 (by decide) ?_
    refine zV_topi (zb false) rfl ?_
    exact zX_cV1 hX hEx hR hl hQ ht dX10_heard_70 (zc_need0 l G _ hst) zt_X10_need rfl zml_X10_72 zo0.1 ⟨by decide, by decide⟩ (Nat.le_of_ble_eq_true rfl) (by omega)
  · refine zV_iload hX dX10_heard_59 rfl ?_
    refine zV_iconst hX (v := nI 2) dX10_heard_61 (by decide) ?_
    refine zV_icmp_gt hX (tgt := 69) dX10_heard_62 (by decide) (fun c_62 => ?_) (fun c_62 => ?_)
    · refine zV_iconst hX (v := nI 0) dX10_heard_69 (by decide) ?_
      refine zV_topi (zb false) rfl ?_
      exact zX_cV1 hX hEx hR hl hQ ht dX10_heard_70 (zc_need0 l G _ hst) zt_X10_need rfl zml_X10_72 zo0.1 ⟨by decide, by decide⟩ (Nat.le_of_ble_eq_true rfl) (by omega)
    · refine zV_iconst hX (v := nI 1) dX10_heard_65 (by decide) ?_
      refine zV_goto hX (tgt := 70) dX10_heard_66 (by decide) ?_
      refine zV_topi (zb true) rfl ?_
      rw [mIn_t (show ¬ k < nI 0 from c_56) c_62] at hk
      exact absurd hk (by decide)
set_option maxHeartbeats 1000000 in
theorem zf_cuta (l : Launch) (G : zG) (M : zM) (n t j k : Nat)  (h40 : M.1 40 0 = nI n) (hn7 : n ≤ 7) (h41 : M.1 40 1 = nI t) (ht2 : t ≤ 2) (hj : j < n) (h60 : M.1 60 0 = -1) (hk1 : 1 ≤ k) (hk : k ≤ t + 1) : zC l G 9 yX10_cut cX10_cut 3 (Option.some Jvm.ClassFile.FieldType.int) [.ref (0 : Nat), .int (nI j), .int (nI k)] M (zP (some (.int (M.1 77 j))) (M)) := by
  refine zC_of (by decide) (Nat.le_of_ble_eq_true rfl) (fun X Q hQ hX hl hR hr => ?_)
  refine zV_loc (L' := [.ref (0 : Nat), .int (nI j), .int (nI k)]) rfl ?_
  refine zV_aload_n hX dX10_cut_0 rfl ?_
  refine zV_aload_n hX dX10_cut_1 rfl ?_
  refine zV_getc hX dX10_cut_2 zf_X10_19 zo0.1 rfl ?_
  refine zV_iload_n hX dX10_cut_5 rfl ?_
  refine zV_cV1p hX hR hl dX10_cut_6 (zc_holds l G _ 40 n _ zo40 (h40)) zt_X2_holds rfl zml_X10_83 zo40.1 ⟨by decide, by decide⟩ (Nat.le_of_ble_eq_true rfl) ?_
  dsimp only [Option.toList, List.cons_append, List.nil_append]
  refine zV_topi (zb true) (by rw [zmem_nI (by omega) (by omega), decide_eq_true hj]) ?_
  refine zV_cV1p hX hR hl dX10_cut_9 (zc_such1 l G _) zt_X10_needSuch rfl zml_X10_87 zo0.1 ⟨by decide, by decide⟩ (Nat.le_of_ble_eq_true rfl) ?_
  dsimp only [Option.toList, List.cons_append, List.nil_append]
  refine zV_aload_n hX dX10_cut_12 rfl ?_
  refine zV_iload_n hX dX10_cut_13 rfl ?_
  refine zV_iconst hX (v := nI 1) dX10_cut_14 (by decide) ?_
  refine zV_icmp_ltN hX (tgt := 33) dX10_cut_15 (by decide) ⟨by omega, by omega⟩ (fun c_15 => ?_) (fun c_15 => ?_)
  · refine zV_iconst hX (v := nI 0) dX10_cut_33 (by decide) ?_
    refine zV_topi (zb false) rfl ?_
    exfalso
    omega
  · refine zV_iload_n hX dX10_cut_18 rfl ?_
    refine zV_aload_n hX dX10_cut_19 rfl ?_
    refine zV_getc hX dX10_cut_20 zf_X10_19 zo0.1 rfl ?_
    refine zV_cV0p hX hR hl dX10_cut_23 (zc_rounds l G _ 40 t zo40 h41) zt_X2_rounds rfl zml_X10_79 zo40.1 ⟨by decide, by decide⟩ (Nat.le_of_ble_eq_true rfl) ?_
    dsimp only [Option.toList, List.cons_append, List.nil_append]
    refine zV_icmp_gtN hX (tgt := 33) dX10_cut_26 (by decide) ⟨by omega, by omega⟩ (fun c_26 => ?_) (fun c_26 => ?_)
    · refine zV_iconst hX (v := nI 0) dX10_cut_33 (by decide) ?_
      refine zV_topi (zb false) rfl ?_
      exfalso
      omega
    · refine zV_iconst hX (v := nI 1) dX10_cut_29 (by decide) ?_
      refine zV_goto hX (tgt := 34) dX10_cut_30 (by decide) ?_
      refine zV_topi (zb true) rfl ?_
      refine zV_cV1p hX hR hl dX10_cut_34 (zc_need1 l G _) zt_X10_need rfl zml_X10_72 zo0.1 ⟨by decide, by decide⟩ (Nat.le_of_ble_eq_true rfl) ?_
      dsimp only [Option.toList, List.cons_append, List.nil_append]
      refine zV_aload_n hX dX10_cut_37 rfl ?_
      refine zV_getc hX dX10_cut_38 zf_X10_29 zo0.1 rfl ?_
      refine zV_iload_n hX dX10_cut_41 rfl ?_
      refine zV_iload_n hX dX10_cut_42 rfl ?_
      refine zV_cV2p hX hR hl dX10_cut_43 (zc_decidedBy0 l G _ 60 j _ zo60 h60 (by omega)) zt_X6_decidedBy rfl zml_X10_180 zo60.1 ⟨by decide, by decide⟩ (Nat.le_of_ble_eq_true rfl) ?_
      dsimp only [Option.toList, List.cons_append, List.nil_append]
      exact zV_reti hX hQ hr (⟨rfl, rfl⟩) dX10_cut_46
set_option maxHeartbeats 1000000 in
theorem zf_cutb (l : Launch) (G : zG) (M : zM) (n t j k : Nat)  (h40 : M.1 40 0 = nI n) (hn7 : n ≤ 7) (h41 : M.1 40 1 = nI t) (ht2 : t ≤ 2) (hj : j < n) (h60 : M.1 60 0 = nI j) (hk1 : 1 ≤ k) (hk : k ≤ t + 1) : zC l G 9 yX10_cut cX10_cut 3 (Option.some Jvm.ClassFile.FieldType.int) [.ref (0 : Nat), .int (nI j), .int (nI k)] M (zP (some (.int (M.1 77 j))) (M)) := by
  refine zC_of (by decide) (Nat.le_of_ble_eq_true rfl) (fun X Q hQ hX hl hR hr => ?_)
  refine zV_loc (L' := [.ref (0 : Nat), .int (nI j), .int (nI k)]) rfl ?_
  refine zV_aload_n hX dX10_cut_0 rfl ?_
  refine zV_aload_n hX dX10_cut_1 rfl ?_
  refine zV_getc hX dX10_cut_2 zf_X10_19 zo0.1 rfl ?_
  refine zV_iload_n hX dX10_cut_5 rfl ?_
  refine zV_cV1p hX hR hl dX10_cut_6 (zc_holds l G _ 40 n _ zo40 (h40)) zt_X2_holds rfl zml_X10_83 zo40.1 ⟨by decide, by decide⟩ (Nat.le_of_ble_eq_true rfl) ?_
  dsimp only [Option.toList, List.cons_append, List.nil_append]
  refine zV_topi (zb true) (by rw [zmem_nI (by omega) (by omega), decide_eq_true hj]) ?_
  refine zV_cV1p hX hR hl dX10_cut_9 (zc_such1 l G _) zt_X10_needSuch rfl zml_X10_87 zo0.1 ⟨by decide, by decide⟩ (Nat.le_of_ble_eq_true rfl) ?_
  dsimp only [Option.toList, List.cons_append, List.nil_append]
  refine zV_aload_n hX dX10_cut_12 rfl ?_
  refine zV_iload_n hX dX10_cut_13 rfl ?_
  refine zV_iconst hX (v := nI 1) dX10_cut_14 (by decide) ?_
  refine zV_icmp_ltN hX (tgt := 33) dX10_cut_15 (by decide) ⟨by omega, by omega⟩ (fun c_15 => ?_) (fun c_15 => ?_)
  · refine zV_iconst hX (v := nI 0) dX10_cut_33 (by decide) ?_
    refine zV_topi (zb false) rfl ?_
    exfalso
    omega
  · refine zV_iload_n hX dX10_cut_18 rfl ?_
    refine zV_aload_n hX dX10_cut_19 rfl ?_
    refine zV_getc hX dX10_cut_20 zf_X10_19 zo0.1 rfl ?_
    refine zV_cV0p hX hR hl dX10_cut_23 (zc_rounds l G _ 40 t zo40 h41) zt_X2_rounds rfl zml_X10_79 zo40.1 ⟨by decide, by decide⟩ (Nat.le_of_ble_eq_true rfl) ?_
    dsimp only [Option.toList, List.cons_append, List.nil_append]
    refine zV_icmp_gtN hX (tgt := 33) dX10_cut_26 (by decide) ⟨by omega, by omega⟩ (fun c_26 => ?_) (fun c_26 => ?_)
    · refine zV_iconst hX (v := nI 0) dX10_cut_33 (by decide) ?_
      refine zV_topi (zb false) rfl ?_
      exfalso
      omega
    · refine zV_iconst hX (v := nI 1) dX10_cut_29 (by decide) ?_
      refine zV_goto hX (tgt := 34) dX10_cut_30 (by decide) ?_
      refine zV_topi (zb true) rfl ?_
      refine zV_cV1p hX hR hl dX10_cut_34 (zc_need1 l G _) zt_X10_need rfl zml_X10_72 zo0.1 ⟨by decide, by decide⟩ (Nat.le_of_ble_eq_true rfl) ?_
      dsimp only [Option.toList, List.cons_append, List.nil_append]
      refine zV_aload_n hX dX10_cut_37 rfl ?_
      refine zV_getc hX dX10_cut_38 zf_X10_29 zo0.1 rfl ?_
      refine zV_iload_n hX dX10_cut_41 rfl ?_
      refine zV_iload_n hX dX10_cut_42 rfl ?_
      refine zV_cV2p hX hR hl dX10_cut_43 (zc_decidedByC l G _ 60 j _ zo60 h60 (by omega)) zt_X6_decidedBy rfl zml_X10_180 zo60.1 ⟨by decide, by decide⟩ (Nat.le_of_ble_eq_true rfl) ?_
      dsimp only [Option.toList, List.cons_append, List.nil_append]
      exact zV_reti hX hQ hr (⟨rfl, rfl⟩) dX10_cut_46
set_option maxHeartbeats 1000000 in
theorem zf_cutc (l : Launch) (G : zG) (M : zM) (n t n6 c6 j k : Nat)  (h40 : M.1 40 0 = nI n) (hn7 : n ≤ 7) (h41 : M.1 40 1 = nI t) (ht2 : t ≤ 2) (hj : j < n) (h60 : M.1 60 0 = nI c6) (hc6 : c6 < 7) (h67 : M.1 60 7 = nI n6) (hn6 : n6 ≤ 7) (hjc : j ≠ c6) (hk1 : 1 ≤ k) (hk : k ≤ t + 1) : zC l G 9 yX10_cut cX10_cut 3 (Option.some Jvm.ClassFile.FieldType.int) [.ref (0 : Nat), .int (nI j), .int (nI k)] M (zP (some (.int ((oRes 60 n6 c6 j k 17 0 k M).1 78 0))) ((oRes 60 n6 c6 j k 17 0 k M))) := by
  refine zC_of (by decide) (Nat.le_of_ble_eq_true rfl) (fun X Q hQ hX hl hR hr => ?_)
  refine zV_loc (L' := [.ref (0 : Nat), .int (nI j), .int (nI k)]) rfl ?_
  refine zV_aload_n hX dX10_cut_0 rfl ?_
  refine zV_aload_n hX dX10_cut_1 rfl ?_
  refine zV_getc hX dX10_cut_2 zf_X10_19 zo0.1 rfl ?_
  refine zV_iload_n hX dX10_cut_5 rfl ?_
  refine zV_cV1p hX hR hl dX10_cut_6 (zc_holds l G _ 40 n _ zo40 (h40)) zt_X2_holds rfl zml_X10_83 zo40.1 ⟨by decide, by decide⟩ (Nat.le_of_ble_eq_true rfl) ?_
  dsimp only [Option.toList, List.cons_append, List.nil_append]
  refine zV_topi (zb true) (by rw [zmem_nI (by omega) (by omega), decide_eq_true hj]) ?_
  refine zV_cV1p hX hR hl dX10_cut_9 (zc_such1 l G _) zt_X10_needSuch rfl zml_X10_87 zo0.1 ⟨by decide, by decide⟩ (Nat.le_of_ble_eq_true rfl) ?_
  dsimp only [Option.toList, List.cons_append, List.nil_append]
  refine zV_aload_n hX dX10_cut_12 rfl ?_
  refine zV_iload_n hX dX10_cut_13 rfl ?_
  refine zV_iconst hX (v := nI 1) dX10_cut_14 (by decide) ?_
  refine zV_icmp_ltN hX (tgt := 33) dX10_cut_15 (by decide) ⟨by omega, by omega⟩ (fun c_15 => ?_) (fun c_15 => ?_)
  · refine zV_iconst hX (v := nI 0) dX10_cut_33 (by decide) ?_
    refine zV_topi (zb false) rfl ?_
    exfalso
    omega
  · refine zV_iload_n hX dX10_cut_18 rfl ?_
    refine zV_aload_n hX dX10_cut_19 rfl ?_
    refine zV_getc hX dX10_cut_20 zf_X10_19 zo0.1 rfl ?_
    refine zV_cV0p hX hR hl dX10_cut_23 (zc_rounds l G _ 40 t zo40 h41) zt_X2_rounds rfl zml_X10_79 zo40.1 ⟨by decide, by decide⟩ (Nat.le_of_ble_eq_true rfl) ?_
    dsimp only [Option.toList, List.cons_append, List.nil_append]
    refine zV_icmp_gtN hX (tgt := 33) dX10_cut_26 (by decide) ⟨by omega, by omega⟩ (fun c_26 => ?_) (fun c_26 => ?_)
    · refine zV_iconst hX (v := nI 0) dX10_cut_33 (by decide) ?_
      refine zV_topi (zb false) rfl ?_
      exfalso
      omega
    · refine zV_iconst hX (v := nI 1) dX10_cut_29 (by decide) ?_
      refine zV_goto hX (tgt := 34) dX10_cut_30 (by decide) ?_
      refine zV_topi (zb true) rfl ?_
      refine zV_cV1p hX hR hl dX10_cut_34 (zc_need1 l G _) zt_X10_need rfl zml_X10_72 zo0.1 ⟨by decide, by decide⟩ (Nat.le_of_ble_eq_true rfl) ?_
      dsimp only [Option.toList, List.cons_append, List.nil_append]
      refine zV_aload_n hX dX10_cut_37 rfl ?_
      refine zV_getc hX dX10_cut_38 zf_X10_29 zo0.1 rfl ?_
      refine zV_iload_n hX dX10_cut_41 rfl ?_
      refine zV_iload_n hX dX10_cut_42 rfl ?_
      refine zV_cV2p hX hR hl dX10_cut_43 (zc_decidedBy l G _ 60 n6 c6 j k zo60 h67 hn6 h60 hc6 (by omega) hjc (by omega)) zt_X6_decidedBy rfl zml_X10_180 zo60.1 ⟨by decide, by decide⟩ (Nat.le_of_ble_eq_true rfl) ?_
      dsimp only [Option.toList, List.cons_append, List.nil_append]
      exact zV_reti hX hQ hr (⟨rfl, rfl⟩) dX10_cut_46
set_option maxHeartbeats 1000000 in
theorem zf_cutX (l : Launch) (G : zG) (M : zM) (hst : l.stackTraces = false) (n : Nat) (x k : Int32) (h40 : M.1 40 0 = nI n) (hn7 : n ≤ 7) (hx : zmem x n = false) : zCx l G 9 1 6 yX10_cut cX10_cut 3 (Option.some Jvm.ClassFile.FieldType.int) [.ref (0 : Nat), .int x, .int k] M zNSE (mBs M) := by
  refine zCx_of (by decide) (Nat.le_of_ble_eq_true rfl) (fun X Q hQ hX hl hR hEx ht => ?_)
  refine zV_loc (L' := [.ref (0 : Nat), .int x, .int k]) rfl ?_
  refine zV_aload_n hX dX10_cut_0 rfl ?_
  refine zV_aload_n hX dX10_cut_1 rfl ?_
  refine zV_getc hX dX10_cut_2 zf_X10_19 zo0.1 rfl ?_
  refine zV_iload_n hX dX10_cut_5 rfl ?_
  refine zK_cV1p hX hR hl dX10_cut_6 (zCk.of (zc_holds l G _ 40 n _ zo40 (h40))) zt_X2_holds rfl zml_X10_83 zo40.1 ⟨by decide, by decide⟩ (Nat.le_of_ble_eq_true rfl) (by omega) ⟨rfl, rfl⟩ ?_
  dsimp only [Option.toList, List.cons_append, List.nil_append]
  refine zV_topi (zb false) (by rw [hx]) ?_
  exact zX_cV1 hX hEx hR hl hQ ht dX10_cut_9 (zc_such0 l G _ hst) zt_X10_needSuch rfl zml_X10_87 zo0.1 ⟨by decide, by decide⟩ (Nat.le_of_ble_eq_true rfl) (by omega)
set_option maxHeartbeats 1000000 in
theorem zf_cutK (l : Launch) (G : zG) (M : zM) (hst : l.stackTraces = false) (n t j : Nat) (k : Int32) (h40 : M.1 40 0 = nI n) (hn7 : n ≤ 7) (h41 : M.1 40 1 = nI t) (ht2 : t ≤ 2) (hj : j < n) (hk : mIn k (nI 1) (nI (t + 1)) = false) : zCx l G 9 1 6 yX10_cut cX10_cut 3 (Option.some Jvm.ClassFile.FieldType.int) [.ref (0 : Nat), .int (nI j), .int k] M zIAE (mBa M) := by
  refine zCx_of (by decide) (Nat.le_of_ble_eq_true rfl) (fun X Q hQ hX hl hR hEx ht => ?_)
  refine zV_loc (L' := [.ref (0 : Nat), .int (nI j), .int k]) rfl ?_
  refine zV_aload_n hX dX10_cut_0 rfl ?_
  refine zV_aload_n hX dX10_cut_1 rfl ?_
  refine zV_getc hX dX10_cut_2 zf_X10_19 zo0.1 rfl ?_
  refine zV_iload_n hX dX10_cut_5 rfl ?_
  refine zK_cV1p hX hR hl dX10_cut_6 (zCk.of (zc_holds l G _ 40 n _ zo40 (h40))) zt_X2_holds rfl zml_X10_83 zo40.1 ⟨by decide, by decide⟩ (Nat.le_of_ble_eq_true rfl) (by omega) ⟨rfl, rfl⟩ ?_
  dsimp only [Option.toList, List.cons_append, List.nil_append]
  refine zV_topi (zb true) (by rw [zmem_nI (by omega) (by omega), decide_eq_true hj]) ?_
  refine zK_cV1p hX hR hl dX10_cut_9 (zCk.of (zc_such1 l G _)) zt_X10_needSuch rfl zml_X10_87 zo0.1 ⟨by decide, by decide⟩ (Nat.le_of_ble_eq_true rfl) (by omega) ⟨rfl, rfl⟩ ?_
  dsimp only [Option.toList, List.cons_append, List.nil_append]
  refine zV_aload_n hX dX10_cut_12 rfl ?_
  refine zV_iload_n hX dX10_cut_13 rfl ?_
  refine zV_iconst hX (v := nI 1) dX10_cut_14 (by decide) ?_
  refine zV_icmp_lt hX (tgt := 33) dX10_cut_15 (by decide) (fun c_15 => ?_) (fun c_15 => ?_)
  · refine zV_iconst hX (v := nI 0) dX10_cut_33 (by decide) ?_
    refine zV_topi (zb false) rfl ?_
    exact zX_cV1 hX hEx hR hl hQ ht dX10_cut_34 (zc_need0 l G _ hst) zt_X10_need rfl zml_X10_72 zo0.1 ⟨by decide, by decide⟩ (Nat.le_of_ble_eq_true rfl) (by omega)
  · refine zV_iload_n hX dX10_cut_18 rfl ?_
    refine zV_aload_n hX dX10_cut_19 rfl ?_
    refine zV_getc hX dX10_cut_20 zf_X10_19 zo0.1 rfl ?_
    refine zK_cV0p hX hR hl dX10_cut_23 (zCk.of (zc_rounds l G _ 40 t zo40 h41)) zt_X2_rounds rfl zml_X10_79 zo40.1 ⟨by decide, by decide⟩ (Nat.le_of_ble_eq_true rfl) (by omega) ⟨rfl, rfl⟩ ?_
    dsimp only [Option.toList, List.cons_append, List.nil_append]
    refine zV_icmp_gt hX (tgt := 33) dX10_cut_26 (by decide) (fun c_26 => ?_) (fun c_26 => ?_)
    · refine zV_iconst hX (v := nI 0) dX10_cut_33 (by decide) ?_
      refine zV_topi (zb false) rfl ?_
      exact zX_cV1 hX hEx hR hl hQ ht dX10_cut_34 (zc_need0 l G _ hst) zt_X10_need rfl zml_X10_72 zo0.1 ⟨by decide, by decide⟩ (Nat.le_of_ble_eq_true rfl) (by omega)
    · refine zV_iconst hX (v := nI 1) dX10_cut_29 (by decide) ?_
      refine zV_goto hX (tgt := 34) dX10_cut_30 (by decide) ?_
      refine zV_topi (zb true) rfl ?_
      rw [mIn_t c_15 c_26] at hk
      exact absurd hk (by decide)
set_option maxHeartbeats 1000000 in
theorem zf_common (l : Launch) (G : zG) (M : zM) (n6 t6 p : Nat) (a b d : Int32)  (h67 : M.1 60 7 = nI n6) (hn6 : n6 ≤ 7) (h68 : M.1 60 8 = nI t6) (ht6 : t6 ≤ 2) (hp : oPof 60 n6 t6 M a b d = nI p) (hp7 : p < 57) : zC l G 9 yX10_common cX10_common 5 (Option.some Jvm.ClassFile.FieldType.boolean) [.ref (0 : Nat), .int a, .int b, .int d] M (zP (some (.int (zb (oCom 60 n6 p M)))) (M)) := by
  refine zC_of (by decide) (Nat.le_of_ble_eq_true rfl) (fun X Q hQ hX hl hR hr => ?_)
  refine zV_loc (L' := [.ref (0 : Nat), .int a, .int b, .int d, .null]) rfl ?_
  refine zV_aload_n hX dX10_common_0 rfl ?_
  refine zV_getc hX dX10_common_1 zf_X10_29 zo0.1 rfl ?_
  refine zV_iload_n hX dX10_common_4 rfl ?_
  refine zV_iload_n hX dX10_common_5 rfl ?_
  refine zV_iload_n hX dX10_common_6 rfl ?_
  refine zV_cV3p hX hR hl dX10_common_7 (zc_pathOf l G _ 60 n6 t6 a b d zo60 h67 hn6 h68 ht6) zt_X6_pathOf rfl zml_X10_189 zo60.1 ⟨by decide, by decide⟩ (Nat.le_of_ble_eq_true rfl) ?_
  dsimp only [Option.toList, List.cons_append, List.nil_append]
  refine zV_topi (nI p) hp ?_
  refine zV_istore hX dX10_common_10 (by decide) ?_
  dsimp only [zst1, zst2, zclr, zc2]
  refine zV_aload_n hX dX10_common_12 rfl ?_
  refine zV_iload hX dX10_common_13 rfl ?_
  refine zV_iconst hX (v := (-1)) dX10_common_15 (by decide) ?_
  refine zV_icmp_eq hX (tgt := 23) dX10_common_16 (by decide) (fun c_16 => absurd c_16 (nI_m1 (by omega))) (fun c_16 => ?_)
  refine zV_iconst hX (v := nI 1) dX10_common_19 (by decide) ?_
  refine zV_goto hX (tgt := 24) dX10_common_20 (by decide) ?_
  refine zV_topi (zb true) rfl ?_
  refine zV_cV1p hX hR hl dX10_common_24 (zc_such1 l G _) zt_X10_needSuch rfl zml_X10_87 zo0.1 ⟨by decide, by decide⟩ (Nat.le_of_ble_eq_true rfl) ?_
  dsimp only [Option.toList, List.cons_append, List.nil_append]
  refine zV_aload_n hX dX10_common_27 rfl ?_
  refine zV_getc hX dX10_common_28 zf_X10_29 zo0.1 rfl ?_
  refine zV_iload hX dX10_common_31 rfl ?_
  refine zV_cV1p hX hR hl dX10_common_33 (zc_isCommon l G _ 60 n6 p zo60 h67 hn6 hp7) zt_X6_isCommon rfl zml_X10_205 zo60.1 ⟨by decide, by decide⟩ (Nat.le_of_ble_eq_true rfl) ?_
  dsimp only [Option.toList, List.cons_append, List.nil_append]
  exact zV_retz hX hQ hr (zb_nar _) (⟨rfl, rfl⟩) dX10_common_36
set_option maxHeartbeats 1000000 in
theorem zf_commonN (l : Launch) (G : zG) (M : zM) (hst : l.stackTraces = false) (n6 t6 : Nat) (a b d : Int32)  (h67 : M.1 60 7 = nI n6) (hn6 : n6 ≤ 7) (h68 : M.1 60 8 = nI t6) (ht6 : t6 ≤ 2) (hp : oPof 60 n6 t6 M a b d = -1) : zCx l G 9 1 6 yX10_common cX10_common 5 (Option.some Jvm.ClassFile.FieldType.boolean) [.ref (0 : Nat), .int a, .int b, .int d] M zNSE (mBs M) := by
  refine zCx_of (by decide) (Nat.le_of_ble_eq_true rfl) (fun X Q hQ hX hl hR hEx ht => ?_)
  refine zV_loc (L' := [.ref (0 : Nat), .int a, .int b, .int d, .null]) rfl ?_
  refine zV_aload_n hX dX10_common_0 rfl ?_
  refine zV_getc hX dX10_common_1 zf_X10_29 zo0.1 rfl ?_
  refine zV_iload_n hX dX10_common_4 rfl ?_
  refine zV_iload_n hX dX10_common_5 rfl ?_
  refine zV_iload_n hX dX10_common_6 rfl ?_
  refine zK_cV3p hX hR hl dX10_common_7 (zCk.of (zc_pathOf l G _ 60 n6 t6 a b d zo60 h67 hn6 h68 ht6)) zt_X6_pathOf rfl zml_X10_189 zo60.1 ⟨by decide, by decide⟩ (Nat.le_of_ble_eq_true rfl) (by omega) ⟨rfl, rfl⟩ ?_
  dsimp only [Option.toList, List.cons_append, List.nil_append]
  refine zV_topi (-1) hp ?_
  refine zV_istore hX dX10_common_10 (by decide) ?_
  dsimp only [zst1, zst2, zclr, zc2]
  refine zV_aload_n hX dX10_common_12 rfl ?_
  refine zV_iload hX dX10_common_13 rfl ?_
  refine zV_iconst hX (v := (-1)) dX10_common_15 (by decide) ?_
  refine zV_icmp_eq hX (tgt := 23) dX10_common_16 (by decide) (fun c_16 => ?_) (fun c_16 => absurd c_16 (fun q => q rfl))
  refine zV_iconst hX (v := nI 0) dX10_common_23 (by decide) ?_
  refine zV_topi (zb false) rfl ?_
  exact zX_cV1 hX hEx hR hl hQ ht dX10_common_24 (zc_such0 l G _ hst) zt_X10_needSuch rfl zml_X10_87 zo0.1 ⟨by decide, by decide⟩ (Nat.le_of_ble_eq_true rfl) (by omega)
set_option maxHeartbeats 1000000 in
theorem zf_commons (l : Launch) (G : zG) (M : zM) (t n6 k : Nat)  (h41 : M.1 40 1 = nI t) (ht2 : t ≤ 2) (h67 : M.1 60 7 = nI n6) (hn6 : n6 ≤ 7) (hk1 : 1 ≤ k) (hk : k ≤ t + 1) : zC l G 9 yX10_commons cX10_commons 2 (Option.some Jvm.ClassFile.FieldType.int) [.ref (0 : Nat), .int (nI k)] M (zP (some (.int (if M.1 60 0 = -1 then nI 0 else nI (oOnes 60 n6 k M)))) (M)) := by
  refine zC_of (by decide) (Nat.le_of_ble_eq_true rfl) (fun X Q hQ hX hl hR hr => ?_)
  refine zV_loc (L' := [.ref (0 : Nat), .int (nI k)]) rfl ?_
  refine zV_aload_n hX dX10_commons_0 rfl ?_
  refine zV_iload_n hX dX10_commons_1 rfl ?_
  refine zV_iconst hX (v := nI 1) dX10_commons_2 (by decide) ?_
  refine zV_icmp_ltN hX (tgt := 21) dX10_commons_3 (by decide) ⟨by omega, by omega⟩ (fun c_3 => ?_) (fun c_3 => ?_)
  · refine zV_iconst hX (v := nI 0) dX10_commons_21 (by decide) ?_
    refine zV_topi (zb false) rfl ?_
    exfalso
    omega
  · refine zV_iload_n hX dX10_commons_6 rfl ?_
    refine zV_aload_n hX dX10_commons_7 rfl ?_
    refine zV_getc hX dX10_commons_8 zf_X10_19 zo0.1 rfl ?_
    refine zV_cV0p hX hR hl dX10_commons_11 (zc_rounds l G _ 40 t zo40 h41) zt_X2_rounds rfl zml_X10_79 zo40.1 ⟨by decide, by decide⟩ (Nat.le_of_ble_eq_true rfl) ?_
    dsimp only [Option.toList, List.cons_append, List.nil_append]
    refine zV_icmp_gtN hX (tgt := 21) dX10_commons_14 (by decide) ⟨by omega, by omega⟩ (fun c_14 => ?_) (fun c_14 => ?_)
    · refine zV_iconst hX (v := nI 0) dX10_commons_21 (by decide) ?_
      refine zV_topi (zb false) rfl ?_
      exfalso
      omega
    · refine zV_iconst hX (v := nI 1) dX10_commons_17 (by decide) ?_
      refine zV_goto hX (tgt := 22) dX10_commons_18 (by decide) ?_
      refine zV_topi (zb true) rfl ?_
      refine zV_cV1p hX hR hl dX10_commons_22 (zc_need1 l G _) zt_X10_need rfl zml_X10_72 zo0.1 ⟨by decide, by decide⟩ (Nat.le_of_ble_eq_true rfl) ?_
      dsimp only [Option.toList, List.cons_append, List.nil_append]
      refine zV_aload_n hX dX10_commons_25 rfl ?_
      refine zV_getc hX dX10_commons_26 zf_X10_29 zo0.1 rfl ?_
      refine zV_iload_n hX dX10_commons_29 rfl ?_
      refine zV_cV1p hX hR hl dX10_commons_30 (zc_commonOnes l G _ 60 n6 k zo60 h67 hn6 (by omega) (by omega)) zt_X6_commonOnes rfl zml_X10_208 zo60.1 ⟨by decide, by decide⟩ (Nat.le_of_ble_eq_true rfl) ?_
      dsimp only [Option.toList, List.cons_append, List.nil_append]
      exact zV_reti hX hQ hr (⟨rfl, rfl⟩) dX10_commons_33
set_option maxHeartbeats 1000000 in
theorem zf_commonsK (l : Launch) (G : zG) (M : zM) (hst : l.stackTraces = false) (t : Nat) (k : Int32) (h41 : M.1 40 1 = nI t) (ht2 : t ≤ 2) (hk : mIn k (nI 1) (nI (t + 1)) = false) : zCx l G 9 1 6 yX10_commons cX10_commons 2 (Option.some Jvm.ClassFile.FieldType.int) [.ref (0 : Nat), .int k] M zIAE (mBa M) := by
  refine zCx_of (by decide) (Nat.le_of_ble_eq_true rfl) (fun X Q hQ hX hl hR hEx ht => ?_)
  refine zV_loc (L' := [.ref (0 : Nat), .int k]) rfl ?_
  refine zV_aload_n hX dX10_commons_0 rfl ?_
  refine zV_iload_n hX dX10_commons_1 rfl ?_
  refine zV_iconst hX (v := nI 1) dX10_commons_2 (by decide) ?_
  refine zV_icmp_lt hX (tgt := 21) dX10_commons_3 (by decide) (fun c_3 => ?_) (fun c_3 => ?_)
  · refine zV_iconst hX (v := nI 0) dX10_commons_21 (by decide) ?_
    refine zV_topi (zb false) rfl ?_
    exact zX_cV1 hX hEx hR hl hQ ht dX10_commons_22 (zc_need0 l G _ hst) zt_X10_need rfl zml_X10_72 zo0.1 ⟨by decide, by decide⟩ (Nat.le_of_ble_eq_true rfl) (by omega)
  · refine zV_iload_n hX dX10_commons_6 rfl ?_
    refine zV_aload_n hX dX10_commons_7 rfl ?_
    refine zV_getc hX dX10_commons_8 zf_X10_19 zo0.1 rfl ?_
    refine zK_cV0p hX hR hl dX10_commons_11 (zCk.of (zc_rounds l G _ 40 t zo40 h41)) zt_X2_rounds rfl zml_X10_79 zo40.1 ⟨by decide, by decide⟩ (Nat.le_of_ble_eq_true rfl) (by omega) ⟨rfl, rfl⟩ ?_
    dsimp only [Option.toList, List.cons_append, List.nil_append]
    refine zV_icmp_gt hX (tgt := 21) dX10_commons_14 (by decide) (fun c_14 => ?_) (fun c_14 => ?_)
    · refine zV_iconst hX (v := nI 0) dX10_commons_21 (by decide) ?_
      refine zV_topi (zb false) rfl ?_
      exact zX_cV1 hX hEx hR hl hQ ht dX10_commons_22 (zc_need0 l G _ hst) zt_X10_need rfl zml_X10_72 zo0.1 ⟨by decide, by decide⟩ (Nat.le_of_ble_eq_true rfl) (by omega)
    · refine zV_iconst hX (v := nI 1) dX10_commons_17 (by decide) ?_
      refine zV_goto hX (tgt := 22) dX10_commons_18 (by decide) ?_
      refine zV_topi (zb true) rfl ?_
      rw [mIn_t c_3 c_14] at hk
      exact absurd hk (by decide)
set_option maxHeartbeats 1000000 in
theorem zf_covered (l : Launch) (G : zG) (M : zM) (n6 t6 : Nat)  (h67 : M.1 60 7 = nI n6) (hn6 : n6 ≤ 7) (h68 : M.1 60 8 = nI t6) (ht6 : t6 ≤ 2) : zC l G 9 yX10_covered cX10_covered 1 (Option.some Jvm.ClassFile.FieldType.boolean) [.ref (0 : Nat)] M (zP (some (.int (zb (if M.1 60 0 = -1 then false else oCov 60 n6 t6 M)))) (M)) := by
  refine zC_of (by decide) (Nat.le_of_ble_eq_true rfl) (fun X Q hQ hX hl hR hr => ?_)
  refine zV_loc (L' := [.ref (0 : Nat)]) rfl ?_
  refine zV_aload_n hX dX10_covered_0 rfl ?_
  refine zV_getc hX dX10_covered_1 zf_X10_29 zo0.1 rfl ?_
  refine zV_cV0p hX hR hl dX10_covered_4 (zc_isCovered l G _ 60 n6 t6 zo60 h67 hn6 h68 ht6) zt_X6_isCovered rfl zml_X10_211 zo60.1 ⟨by decide, by decide⟩ (Nat.le_of_ble_eq_true rfl) ?_
  dsimp only [Option.toList, List.cons_append, List.nil_append]
  exact zV_retz hX hQ hr (zb_nar _) (⟨rfl, rfl⟩) dX10_covered_7
set_option maxHeartbeats 1000000 in
theorem zf_agreedN (l : Launch) (G : zG) (M : zM) (k : Nat)  (h60 : M.1 60 0 = -1) (hk : k < 2) : zC l G 9 yX10_agreed cX10_agreed 2 (Option.some Jvm.ClassFile.FieldType.boolean) [.ref (0 : Nat), .int (nI k)] M (zP (some (.int (zb false))) (M)) := by
  refine zC_of (by decide) (Nat.le_of_ble_eq_true rfl) (fun X Q hQ hX hl hR hr => ?_)
  refine zV_loc (L' := [.ref (0 : Nat), .int (nI k)]) rfl ?_
  refine zV_aload_n hX dX10_agreed_0 rfl ?_
  refine zV_iload_n hX dX10_agreed_1 rfl ?_
  refine zV_if_eqN hX (tgt := 10) dX10_agreed_2 (by decide) (by omega) (fun c_2 => ?_) (fun c_2 => ?_)
  · refine zV_iconst hX (v := nI 1) dX10_agreed_10 (by decide) ?_
    refine zV_goto hX (tgt := 15) dX10_agreed_11 (by decide) ?_
    refine zV_topi (zb true) rfl ?_
    refine zV_cV1p hX hR hl dX10_agreed_15 (zc_need1 l G _) zt_X10_need rfl zml_X10_72 zo0.1 ⟨by decide, by decide⟩ (Nat.le_of_ble_eq_true rfl) ?_
    dsimp only [Option.toList, List.cons_append, List.nil_append]
    refine zV_aload_n hX dX10_agreed_18 rfl ?_
    refine zV_getc hX dX10_agreed_19 zf_X10_29 zo0.1 rfl ?_
    refine zV_geti hX (x := -1) dX10_agreed_22 zf_X10_156 zo60.1 rfl (h60) ?_
    refine zV_iconst hX (v := (-1)) dX10_agreed_25 (by decide) ?_
    refine zV_icmp_ne hX (tgt := 31) dX10_agreed_26 (by decide) (fun c_26 => absurd c_26 (fun q => q rfl)) (fun c_26 => ?_)
    refine zV_iconst hX (v := nI 0) dX10_agreed_29 (by decide) ?_
    exact zV_retz hX hQ hr (rfl) (⟨rfl, rfl⟩) dX10_agreed_30
  · refine zV_iload_n hX dX10_agreed_5 rfl ?_
    refine zV_iconst hX (v := nI 1) dX10_agreed_6 (by decide) ?_
    refine zV_icmp_neN hX (tgt := 14) dX10_agreed_7 (by decide) ⟨by omega, by omega⟩ (fun c_7 => ?_) (fun c_7 => ?_)
    · refine zV_iconst hX (v := nI 0) dX10_agreed_14 (by decide) ?_
      refine zV_topi (zb false) rfl ?_
      exfalso
      omega
    · refine zV_iconst hX (v := nI 1) dX10_agreed_10 (by decide) ?_
      refine zV_goto hX (tgt := 15) dX10_agreed_11 (by decide) ?_
      refine zV_topi (zb true) rfl ?_
      refine zV_cV1p hX hR hl dX10_agreed_15 (zc_need1 l G _) zt_X10_need rfl zml_X10_72 zo0.1 ⟨by decide, by decide⟩ (Nat.le_of_ble_eq_true rfl) ?_
      dsimp only [Option.toList, List.cons_append, List.nil_append]
      refine zV_aload_n hX dX10_agreed_18 rfl ?_
      refine zV_getc hX dX10_agreed_19 zf_X10_29 zo0.1 rfl ?_
      refine zV_geti hX (x := -1) dX10_agreed_22 zf_X10_156 zo60.1 rfl (h60) ?_
      refine zV_iconst hX (v := (-1)) dX10_agreed_25 (by decide) ?_
      refine zV_icmp_ne hX (tgt := 31) dX10_agreed_26 (by decide) (fun c_26 => absurd c_26 (fun q => q rfl)) (fun c_26 => ?_)
      refine zV_iconst hX (v := nI 0) dX10_agreed_29 (by decide) ?_
      exact zV_retz hX hQ hr (rfl) (⟨rfl, rfl⟩) dX10_agreed_30
set_option maxHeartbeats 1000000 in
theorem zf_agreed0 (l : Launch) (G : zG) (M : zM) (n6 c6 : Nat)  (h60 : M.1 60 0 = nI c6) (hc6 : c6 < 7) (h67 : M.1 60 7 = nI n6) (hn6 : n6 ≤ 7) : zC l G 9 yX10_agreed cX10_agreed 2 (Option.some Jvm.ClassFile.FieldType.boolean) [.ref (0 : Nat), .int (nI 0)] M (zP (some (.int (zb (decide (zunl (M.1 (60 + 1 + 16)) (M.1 60 10) n6 ≤ 1))))) (M)) := by
  refine zC_of (by decide) (Nat.le_of_ble_eq_true rfl) (fun X Q hQ hX hl hR hr => ?_)
  refine zV_loc (L' := [.ref (0 : Nat), .int (nI 0)]) rfl ?_
  refine zV_aload_n hX dX10_agreed_0 rfl ?_
  refine zV_iload_n hX dX10_agreed_1 rfl ?_
  refine zV_if_eqN hX (tgt := 10) dX10_agreed_2 (by decide) (by decide) (fun c_2 => ?_) (fun c_2 => absurd c_2 (by decide))
  refine zV_iconst hX (v := nI 1) dX10_agreed_10 (by decide) ?_
  refine zV_goto hX (tgt := 15) dX10_agreed_11 (by decide) ?_
  refine zV_topi (zb true) rfl ?_
  refine zV_cV1p hX hR hl dX10_agreed_15 (zc_need1 l G _) zt_X10_need rfl zml_X10_72 zo0.1 ⟨by decide, by decide⟩ (Nat.le_of_ble_eq_true rfl) ?_
  dsimp only [Option.toList, List.cons_append, List.nil_append]
  refine zV_aload_n hX dX10_agreed_18 rfl ?_
  refine zV_getc hX dX10_agreed_19 zf_X10_29 zo0.1 rfl ?_
  refine zV_geti hX dX10_agreed_22 zf_X10_156 zo60.1 rfl (h60) ?_
  refine zV_iconst hX (v := (-1)) dX10_agreed_25 (by decide) ?_
  refine zV_icmp_ne hX (tgt := 31) dX10_agreed_26 (by decide) (fun c_26 => ?_) (fun c_26 => absurd c_26 (nI_m1 (by omega)))
  refine zV_iload_n hX dX10_agreed_31 rfl ?_
  refine zV_if_neN hX (tgt := 54) dX10_agreed_32 (by decide) (by decide) (fun c_32 => absurd c_32 (by decide)) (fun c_32 => ?_)
  refine zV_aload_n hX dX10_agreed_35 rfl ?_
  refine zV_getc hX dX10_agreed_36 zf_X10_29 zo0.1 rfl ?_
  have hz7 : zunl (M.1 (60 + 1 + 16)) (M.1 60 10) n6 ≤ 7 := Nat.le_trans (zcnt_le _ _) hn6
  refine zV_cV0p hX hR hl dX10_agreed_39 (zc_ounlike l G _ 60 n6 zo60 h67 hn6) zt_X6_unlike rfl zml_X10_150 zo60.1 ⟨by decide, by decide⟩ (Nat.le_of_ble_eq_true rfl) ?_
  dsimp only [Option.toList, List.cons_append, List.nil_append]
  refine zV_iconst hX (v := nI 1) dX10_agreed_42 (by decide) ?_
  refine zV_icmp_gtN hX (tgt := 50) dX10_agreed_43 (by decide) ⟨by omega, by omega⟩ (fun c_43 => ?_) (fun c_43 => ?_)
  · refine zV_iconst hX (v := nI 0) dX10_agreed_50 (by decide) ?_
    refine zV_goto hX (tgt := 61) dX10_agreed_51 (by decide) ?_
    exact zV_retz hX hQ hr (rfl) (⟨by first | (rw [decide_eq_true (by omega)]; rfl) | (rw [decide_eq_false (by omega)]; rfl), rfl⟩) dX10_agreed_61
  · refine zV_iconst hX (v := nI 1) dX10_agreed_46 (by decide) ?_
    refine zV_goto hX (tgt := 61) dX10_agreed_47 (by decide) ?_
    exact zV_retz hX hQ hr (rfl) (⟨by first | (rw [decide_eq_true (by omega)]; rfl) | (rw [decide_eq_false (by omega)]; rfl), rfl⟩) dX10_agreed_61
set_option maxHeartbeats 1000000 in
theorem zf_agreed1 (l : Launch) (G : zG) (M : zM) (n6 c6 : Nat)  (h60 : M.1 60 0 = nI c6) (hc6 : c6 < 7) (h67 : M.1 60 7 = nI n6) (hn6 : n6 ≤ 7) : zC l G 9 yX10_agreed cX10_agreed 2 (Option.some Jvm.ClassFile.FieldType.boolean) [.ref (0 : Nat), .int (nI 1)] M (zP (some (.int (zb (oObeyed 60 n6 c6 M)))) (M)) := by
  refine zC_of (by decide) (Nat.le_of_ble_eq_true rfl) (fun X Q hQ hX hl hR hr => ?_)
  refine zV_loc (L' := [.ref (0 : Nat), .int (nI 1)]) rfl ?_
  refine zV_aload_n hX dX10_agreed_0 rfl ?_
  refine zV_iload_n hX dX10_agreed_1 rfl ?_
  refine zV_if_eqN hX (tgt := 10) dX10_agreed_2 (by decide) (by decide) (fun c_2 => absurd c_2 (by decide)) (fun c_2 => ?_)
  refine zV_iload_n hX dX10_agreed_5 rfl ?_
  refine zV_iconst hX (v := nI 1) dX10_agreed_6 (by decide) ?_
  refine zV_icmp_neN hX (tgt := 14) dX10_agreed_7 (by decide) ⟨by decide, by decide⟩ (fun c_7 => absurd c_7 (by decide)) (fun c_7 => ?_)
  refine zV_iconst hX (v := nI 1) dX10_agreed_10 (by decide) ?_
  refine zV_goto hX (tgt := 15) dX10_agreed_11 (by decide) ?_
  refine zV_topi (zb true) rfl ?_
  refine zV_cV1p hX hR hl dX10_agreed_15 (zc_need1 l G _) zt_X10_need rfl zml_X10_72 zo0.1 ⟨by decide, by decide⟩ (Nat.le_of_ble_eq_true rfl) ?_
  dsimp only [Option.toList, List.cons_append, List.nil_append]
  refine zV_aload_n hX dX10_agreed_18 rfl ?_
  refine zV_getc hX dX10_agreed_19 zf_X10_29 zo0.1 rfl ?_
  refine zV_geti hX dX10_agreed_22 zf_X10_156 zo60.1 rfl (h60) ?_
  refine zV_iconst hX (v := (-1)) dX10_agreed_25 (by decide) ?_
  refine zV_icmp_ne hX (tgt := 31) dX10_agreed_26 (by decide) (fun c_26 => ?_) (fun c_26 => absurd c_26 (nI_m1 (by omega)))
  refine zV_iload_n hX dX10_agreed_31 rfl ?_
  refine zV_if_neN hX (tgt := 54) dX10_agreed_32 (by decide) (by decide) (fun c_32 => ?_) (fun c_32 => absurd c_32 (by decide))
  refine zV_aload_n hX dX10_agreed_54 rfl ?_
  refine zV_getc hX dX10_agreed_55 zf_X10_29 zo0.1 rfl ?_
  refine zV_cV0p hX hR hl dX10_agreed_58 (zc_obeyed l G _ 60 n6 c6 zo60 h67 hn6 h60) zt_X6_obeyed rfl zml_X10_214 zo60.1 ⟨by decide, by decide⟩ (Nat.le_of_ble_eq_true rfl) ?_
  dsimp only [Option.toList, List.cons_append, List.nil_append]
  exact zV_retz hX hQ hr (zb_nar _) (⟨rfl, rfl⟩) dX10_agreed_61
set_option maxHeartbeats 1000000 in
theorem zf_agreedX (l : Launch) (G : zG) (M : zM) (hst : l.stackTraces = false) (x : Int32) (hx : mIn x (nI 0) (nI 1) = false) : zCx l G 9 1 6 yX10_agreed cX10_agreed 2 (Option.some Jvm.ClassFile.FieldType.boolean) [.ref (0 : Nat), .int x] M zIAE (mBa M) := by
  refine zCx_of (by decide) (Nat.le_of_ble_eq_true rfl) (fun X Q hQ hX hl hR hEx ht => ?_)
  refine zV_loc (L' := [.ref (0 : Nat), .int x]) rfl ?_
  refine zV_aload_n hX dX10_agreed_0 rfl ?_
  refine zV_iload_n hX dX10_agreed_1 rfl ?_
  refine zV_if_eq hX (tgt := 10) dX10_agreed_2 (by decide) (fun c_2 => ?_) (fun c_2 => ?_)
  · refine zV_iconst hX (v := nI 1) dX10_agreed_10 (by decide) ?_
    refine zV_goto hX (tgt := 15) dX10_agreed_11 (by decide) ?_
    refine zV_topi (zb true) rfl ?_
    first | (rw [mIn_e0 c_2] at hx; exact absurd hx (by decide)) | (rw [mIn_e1 c_7] at hx; exact absurd hx (by decide))
  · refine zV_iload_n hX dX10_agreed_5 rfl ?_
    refine zV_iconst hX (v := nI 1) dX10_agreed_6 (by decide) ?_
    refine zV_icmp_ne hX (tgt := 14) dX10_agreed_7 (by decide) (fun c_7 => ?_) (fun c_7 => ?_)
    · refine zV_iconst hX (v := nI 0) dX10_agreed_14 (by decide) ?_
      refine zV_topi (zb false) rfl ?_
      exact zX_cV1 hX hEx hR hl hQ ht dX10_agreed_15 (zc_need0 l G _ hst) zt_X10_need rfl zml_X10_72 zo0.1 ⟨by decide, by decide⟩ (Nat.le_of_ble_eq_true rfl) (by omega)
    · refine zV_iconst hX (v := nI 1) dX10_agreed_10 (by decide) ?_
      refine zV_goto hX (tgt := 15) dX10_agreed_11 (by decide) ?_
      refine zV_topi (zb true) rfl ?_
      first | (rw [mIn_e0 c_2] at hx; exact absurd hx (by decide)) | (rw [mIn_e1 c_7] at hx; exact absurd hx (by decide))
