theorem zmem_nat {x : Int32} {n : Nat} (h0 : ¬ x < 0) (h1 : x < nI n) (hn : n < 2 ^ 31) : ∃ j, j < n ∧ x = nI j := by
  obtain ⟨j, hj, rfl⟩ := nI_of h0
  exact ⟨j, (nI_ltI hj hn).mp h1, rfl⟩
def oPof (o n t : Nat) (M : zM) (a b c : Int32) : Int32 :=
  if M.1 o 0 = -1 ∨ ¬ a = M.1 o 0 then -1
  else if b = -1 then (if c = -1 then nI 0 else -1)
  else if t < 1 ∨ b < 0 ∨ ¬ b < nI n then -1
  else if c = -1 then (if oPath o M (1 + b.toNatClampNeg) then nI (1 + b.toNatClampNeg) else -1)
  else if t < 2 ∨ c < 0 ∨ ¬ c < nI n then -1
  else if oPath o M (8 + 7 * b.toNatClampNeg + c.toNatClampNeg) then nI (8 + 7 * b.toNatClampNeg + c.toNatClampNeg) else -1
set_option maxHeartbeats 1000000 in
theorem zc_pathOf (l : Launch) (G : zG) (M : zM) (o n t : Nat) (a b c : Int32) (hO : zOb 5 o) (hn : M.1 o 7 = nI n) (hn7 : n ≤ 7) (ht : M.1 o 8 = nI t) (ht2 : t ≤ 2) : zC l G 1 yX6_pathOf cX6_pathOf 5 (Option.some Jvm.ClassFile.FieldType.int) [.ref o, .int a, .int b, .int c] M (zP (some (.int (oPof o n t M a b c))) M) := by
  refine zC_of (by decide) (Nat.le_of_ble_eq_true rfl) (fun X Q hQ hX hl hR hr => ?_)
  refine zV_loc (L' := [.ref o, .int a, .int b, .int c, .null]) rfl ?_
  refine zV_aload_n hX dX6_pathOf_0 rfl ?_
  refine zV_geti hX dX6_pathOf_1 zf_X6_9 hO.1 rfl rfl ?_
  refine zV_iconst hX (v := (-1)) dX6_pathOf_4 (by decide) ?_
  refine zV_icmp_eq hX (tgt := 16) dX6_pathOf_5 (by decide) (fun c_5 => ?_) (fun c_5 => ?_)
  · have e9 : oPof o n t M a b c = -1 := by unfold oPof; rw [if_pos (Or.inl c_5)]
    refine zV_iconst hX (v := (-1)) dX6_pathOf_16 (by decide) ?_
    exact zV_reti hX hQ hr (⟨by rw [e9], rfl⟩) dX6_pathOf_17
  · refine zV_iload_n hX dX6_pathOf_8 rfl ?_
    refine zV_aload_n hX dX6_pathOf_9 rfl ?_
    refine zV_geti hX dX6_pathOf_10 zf_X6_9 hO.1 rfl rfl ?_
    refine zV_icmp_eq hX (tgt := 18) dX6_pathOf_13 (by decide) (fun c_13 => ?_) (fun c_13 => ?_)
    · refine zV_iload_n hX dX6_pathOf_18 rfl ?_
      refine zV_iconst hX (v := (-1)) dX6_pathOf_19 (by decide) ?_
      refine zV_icmp_ne hX (tgt := 34) dX6_pathOf_20 (by decide) (fun c_20 => ?_) (fun c_20 => ?_)
      · refine zV_aload_n hX dX6_pathOf_34 rfl ?_
        refine zV_geti hX dX6_pathOf_35 zf_X6_71 hO.1 rfl (ht) ?_
        refine zV_iconst hX (v := nI 1) dX6_pathOf_38 (by decide) ?_
        refine zV_icmp_ltN hX (tgt := 54) dX6_pathOf_39 (by decide) ⟨by omega, by omega⟩ (fun c_39 => ?_) (fun c_39 => ?_)
        · have e9 : oPof o n t M a b c = -1 := by unfold oPof; rw [if_neg (fun q => q.elim c_5 (fun q => q c_13))]; rw [if_neg c_20]; rw [if_pos (Or.inl c_39)]
          refine zV_iconst hX (v := (-1)) dX6_pathOf_54 (by decide) ?_
          exact zV_reti hX hQ hr (⟨by rw [e9], rfl⟩) dX6_pathOf_55
        · refine zV_iload_n hX dX6_pathOf_42 rfl ?_
          refine zV_if_lt hX (tgt := 54) dX6_pathOf_43 (by decide) (fun c_43 => ?_) (fun c_43 => ?_)
          · have e9 : oPof o n t M a b c = -1 := by unfold oPof; rw [if_neg (fun q => q.elim c_5 (fun q => q c_13))]; rw [if_neg c_20]; rw [if_pos (Or.inr (Or.inl c_43))]
            refine zV_iconst hX (v := (-1)) dX6_pathOf_54 (by decide) ?_
            exact zV_reti hX hQ hr (⟨by rw [e9], rfl⟩) dX6_pathOf_55
          · refine zV_iload_n hX dX6_pathOf_46 rfl ?_
            refine zV_aload_n hX dX6_pathOf_47 rfl ?_
            refine zV_geti hX dX6_pathOf_48 zf_X6_67 hO.1 rfl (hn) ?_
            refine zV_icmp_lt hX (tgt := 56) dX6_pathOf_51 (by decide) (fun c_51 => ?_) (fun c_51 => ?_)
            · obtain ⟨jb, hjb, rfl⟩ := zmem_nat c_43 c_51 (by omega)
              refine zV_iload_n hX dX6_pathOf_56 rfl ?_
              refine zV_iconst hX (v := (-1)) dX6_pathOf_57 (by decide) ?_
              refine zV_icmp_ne hX (tgt := 79) dX6_pathOf_58 (by decide) (fun c_58 => ?_) (fun c_58 => ?_)
              · refine zV_aload_n hX dX6_pathOf_79 rfl ?_
                refine zV_geti hX dX6_pathOf_80 zf_X6_71 hO.1 rfl (ht) ?_
                refine zV_iconst hX (v := nI 2) dX6_pathOf_83 (by decide) ?_
                refine zV_icmp_ltN hX (tgt := 99) dX6_pathOf_84 (by decide) ⟨by omega, by omega⟩ (fun c_84 => ?_) (fun c_84 => ?_)
                · have e9 : oPof o n t M a (nI jb) c = -1 := by unfold oPof; rw [if_neg (fun q => q.elim c_5 (fun q => q c_13))]; rw [if_neg c_20]; rw [if_neg (by rintro (q | q | q); omega; exact c_43 q; exact q c_51)]; rw [if_neg c_58, if_pos (Or.inl c_84)]
                  refine zV_iconst hX (v := (-1)) dX6_pathOf_99 (by decide) ?_
                  exact zV_reti hX hQ hr (⟨by rw [e9], rfl⟩) dX6_pathOf_100
                · refine zV_iload_n hX dX6_pathOf_87 rfl ?_
                  refine zV_if_lt hX (tgt := 99) dX6_pathOf_88 (by decide) (fun c_88 => ?_) (fun c_88 => ?_)
                  · have e9 : oPof o n t M a (nI jb) c = -1 := by unfold oPof; rw [if_neg (fun q => q.elim c_5 (fun q => q c_13))]; rw [if_neg c_20]; rw [if_neg (by rintro (q | q | q); omega; exact c_43 q; exact q c_51)]; rw [if_neg c_58, if_pos (Or.inr (Or.inl c_88))]
                    refine zV_iconst hX (v := (-1)) dX6_pathOf_99 (by decide) ?_
                    exact zV_reti hX hQ hr (⟨by rw [e9], rfl⟩) dX6_pathOf_100
                  · refine zV_iload_n hX dX6_pathOf_91 rfl ?_
                    refine zV_aload_n hX dX6_pathOf_92 rfl ?_
                    refine zV_geti hX dX6_pathOf_93 zf_X6_67 hO.1 rfl (hn) ?_
                    refine zV_icmp_lt hX (tgt := 101) dX6_pathOf_96 (by decide) (fun c_96 => ?_) (fun c_96 => ?_)
                    · obtain ⟨jc, hjc, rfl⟩ := zmem_nat c_88 c_96 (by omega)
                      refine zV_bipush hX (v := nI 8) dX6_pathOf_101 (by decide) ?_
                      refine zV_bipush hX (v := nI 7) dX6_pathOf_103 (by decide) ?_
                      refine zV_iload_n hX dX6_pathOf_105 rfl ?_
                      refine zV_imulN hX dX6_pathOf_106 ?_
                      refine zV_iaddN hX dX6_pathOf_107 ?_
                      refine zV_iload_n hX dX6_pathOf_108 rfl ?_
                      refine zV_iaddN hX dX6_pathOf_109 ?_
                      refine zV_istore hX dX6_pathOf_110 (by decide) ?_
                      dsimp only [zst1, zst2, zclr, zc2]
                      refine zV_aload_n hX dX6_pathOf_112 rfl ?_
                      refine zV_iload hX dX6_pathOf_113 rfl ?_
                      refine zV_cV1p hX hR hl dX6_pathOf_115 (zc_isPath l G M o (8 + 7 * jb + jc) hO (by omega)) zt_X6_isPath rfl zml_X6_128 hO.1 ⟨by decide, by decide⟩ (Nat.le_of_ble_eq_true rfl) ?_
                      dsimp only [Option.toList, List.cons_append, List.nil_append]
                      refine zV_if_eqB hX (tgt := 126) dX6_pathOf_118 (by decide) (fun c_118 => ?_) (fun c_118 => ?_)
                      · have e9 : oPof o n t M a (nI jb) (nI jc) = -1 := by unfold oPof; rw [if_neg (fun q => q.elim c_5 (fun q => q c_13))]; rw [if_neg c_20]; rw [if_neg (by rintro (q | q | q); omega; exact c_43 q; exact q c_51)]; rw [if_neg c_58, if_neg (by rintro (q | q | q); omega; exact c_88 q; exact q c_96)]; rw [nI_clamp (show jb < 2 ^ 31 by omega), nI_clamp (show jc < 2 ^ 31 by omega), if_neg (by simp [c_118])]
                        refine zV_iconst hX (v := (-1)) dX6_pathOf_126 (by decide) ?_
                        exact zV_reti hX hQ hr (⟨by rw [e9], rfl⟩) dX6_pathOf_127
                      · have e9 : oPof o n t M a (nI jb) (nI jc) = nI (8 + 7 * jb + jc) := by unfold oPof; rw [if_neg (fun q => q.elim c_5 (fun q => q c_13))]; rw [if_neg c_20]; rw [if_neg (by rintro (q | q | q); omega; exact c_43 q; exact q c_51)]; rw [if_neg c_58, if_neg (by rintro (q | q | q); omega; exact c_88 q; exact q c_96)]; rw [nI_clamp (show jb < 2 ^ 31 by omega), nI_clamp (show jc < 2 ^ 31 by omega), if_pos c_118]
                        refine zV_iload hX dX6_pathOf_121 rfl ?_
                        refine zV_goto hX (tgt := 127) dX6_pathOf_123 (by decide) ?_
                        exact zV_reti hX hQ hr (⟨by rw [e9], rfl⟩) dX6_pathOf_127
                    · have e9 : oPof o n t M a (nI jb) c = -1 := by unfold oPof; rw [if_neg (fun q => q.elim c_5 (fun q => q c_13))]; rw [if_neg c_20]; rw [if_neg (by rintro (q | q | q); omega; exact c_43 q; exact q c_51)]; rw [if_neg c_58, if_pos (Or.inr (Or.inr c_96))]
                      refine zV_iconst hX (v := (-1)) dX6_pathOf_99 (by decide) ?_
                      exact zV_reti hX hQ hr (⟨by rw [e9], rfl⟩) dX6_pathOf_100
              · refine zV_aload_n hX dX6_pathOf_61 rfl ?_
                refine zV_iconst hX (v := nI 1) dX6_pathOf_62 (by decide) ?_
                refine zV_iload_n hX dX6_pathOf_63 rfl ?_
                refine zV_iaddN hX dX6_pathOf_64 ?_
                refine zV_cV1p hX hR hl dX6_pathOf_65 (zc_isPath l G M o (1 + jb) hO (by omega)) zt_X6_isPath rfl zml_X6_128 hO.1 ⟨by decide, by decide⟩ (Nat.le_of_ble_eq_true rfl) ?_
                dsimp only [Option.toList, List.cons_append, List.nil_append]
                refine zV_if_eqB hX (tgt := 77) dX6_pathOf_68 (by decide) (fun c_68 => ?_) (fun c_68 => ?_)
                · have e9 : oPof o n t M a (nI jb) c = -1 := by unfold oPof; rw [if_neg (fun q => q.elim c_5 (fun q => q c_13))]; rw [if_neg c_20]; rw [if_neg (by rintro (q | q | q); omega; exact c_43 q; exact q c_51)]; rw [if_pos c_58, nI_clamp (show jb < 2 ^ 31 by omega), if_neg (by simp [c_68])]
                  refine zV_iconst hX (v := (-1)) dX6_pathOf_77 (by decide) ?_
                  exact zV_reti hX hQ hr (⟨by rw [e9], rfl⟩) dX6_pathOf_78
                · have e9 : oPof o n t M a (nI jb) c = nI (1 + jb) := by unfold oPof; rw [if_neg (fun q => q.elim c_5 (fun q => q c_13))]; rw [if_neg c_20]; rw [if_neg (by rintro (q | q | q); omega; exact c_43 q; exact q c_51)]; rw [if_pos c_58, nI_clamp (show jb < 2 ^ 31 by omega), if_pos c_68]
                  refine zV_iconst hX (v := nI 1) dX6_pathOf_71 (by decide) ?_
                  refine zV_iload_n hX dX6_pathOf_72 rfl ?_
                  refine zV_iaddN hX dX6_pathOf_73 ?_
                  refine zV_goto hX (tgt := 78) dX6_pathOf_74 (by decide) ?_
                  exact zV_reti hX hQ hr (⟨by rw [e9], rfl⟩) dX6_pathOf_78
            · have e9 : oPof o n t M a b c = -1 := by unfold oPof; rw [if_neg (fun q => q.elim c_5 (fun q => q c_13))]; rw [if_neg c_20]; rw [if_pos (Or.inr (Or.inr c_51))]
              refine zV_iconst hX (v := (-1)) dX6_pathOf_54 (by decide) ?_
              exact zV_reti hX hQ hr (⟨by rw [e9], rfl⟩) dX6_pathOf_55
      · refine zV_iload_n hX dX6_pathOf_23 rfl ?_
        refine zV_iconst hX (v := (-1)) dX6_pathOf_24 (by decide) ?_
        refine zV_icmp_ne hX (tgt := 32) dX6_pathOf_25 (by decide) (fun c_25 => ?_) (fun c_25 => ?_)
        · have e9 : oPof o n t M a b c = -1 := by unfold oPof; rw [if_neg (fun q => q.elim c_5 (fun q => q c_13))]; rw [if_pos c_20, if_neg c_25]
          refine zV_iconst hX (v := (-1)) dX6_pathOf_32 (by decide) ?_
          exact zV_reti hX hQ hr (⟨by rw [e9], rfl⟩) dX6_pathOf_33
        · have e9 : oPof o n t M a b c = nI 0 := by unfold oPof; rw [if_neg (fun q => q.elim c_5 (fun q => q c_13))]; rw [if_pos c_20, if_pos c_25]
          refine zV_iconst hX (v := nI 0) dX6_pathOf_28 (by decide) ?_
          refine zV_goto hX (tgt := 33) dX6_pathOf_29 (by decide) ?_
          exact zV_reti hX hQ hr (⟨by rw [e9], rfl⟩) dX6_pathOf_33
    · have e9 : oPof o n t M a b c = -1 := by unfold oPof; rw [if_pos (Or.inr c_13)]
      refine zV_iconst hX (v := (-1)) dX6_pathOf_16 (by decide) ?_
      exact zV_reti hX hQ hr (⟨by rw [e9], rfl⟩) dX6_pathOf_17
set_option maxHeartbeats 1000000 in
theorem zc_decidedBy0 (l : Launch) (G : zG) (M : zM) (o m : Nat) (cut : Int32) (hO : zOb 5 o) (hcm : M.1 o 0 = -1) (hm : m < 7) : zC l G 4 yX6_decidedBy cX6_decidedBy 3 (Option.some Jvm.ClassFile.FieldType.int) [.ref o, .int (nI m), .int cut] M (zP (some (.int (M.1 (o + 1 + 16) m))) M) := by
  refine zC_of (by decide) (Nat.le_of_ble_eq_true rfl) (fun X Q hQ hX hl hR hr => ?_)
  refine zV_loc (L' := [.ref o, .int (nI m), .int cut]) rfl ?_
  refine zV_aload_n hX dX6_decidedBy_0 rfl ?_
  refine zV_geti hX dX6_decidedBy_1 zf_X6_9 hO.1 rfl rfl ?_
  refine zV_iconst hX (v := (-1)) dX6_decidedBy_4 (by decide) ?_
  refine zV_icmp_eq hX (tgt := 16) dX6_decidedBy_5 (by decide) (fun c_5 => ?_) (fun c_5 => absurd c_5 (fun h => h hcm))
  refine zV_aload_n hX dX6_decidedBy_16 rfl ?_
  refine zV_geta hX dX6_decidedBy_17 zf_X6_41 hO.1 rfl ?_
  refine zV_iload_n hX dX6_decidedBy_20 rfl ?_
  refine zV_iald hX dX6_decidedBy_21 (hO.a 16 rfl) (rfl) ⟨by omega, by omega⟩ (rfl) ?_
  exact zV_reti hX hQ hr (⟨rfl, rfl⟩) dX6_decidedBy_22
set_option maxHeartbeats 1000000 in
theorem zc_decidedByC (l : Launch) (G : zG) (M : zM) (o m : Nat) (cut : Int32) (hO : zOb 5 o) (hcm : M.1 o 0 = nI m) (hm : m < 7) : zC l G 4 yX6_decidedBy cX6_decidedBy 3 (Option.some Jvm.ClassFile.FieldType.int) [.ref o, .int (nI m), .int cut] M (zP (some (.int (M.1 (o + 1 + 16) m))) M) := by
  refine zC_of (by decide) (Nat.le_of_ble_eq_true rfl) (fun X Q hQ hX hl hR hr => ?_)
  refine zV_loc (L' := [.ref o, .int (nI m), .int cut]) rfl ?_
  refine zV_aload_n hX dX6_decidedBy_0 rfl ?_
  refine zV_geti hX dX6_decidedBy_1 zf_X6_9 hO.1 rfl (hcm) ?_
  refine zV_iconst hX (v := (-1)) dX6_decidedBy_4 (by decide) ?_
  refine zV_icmp_eq hX (tgt := 16) dX6_decidedBy_5 (by decide) (fun c_5 => absurd c_5 (nI_m1 (by omega))) (fun c_5 => ?_)
  refine zV_iload_n hX dX6_decidedBy_8 rfl ?_
  refine zV_aload_n hX dX6_decidedBy_9 rfl ?_
  refine zV_geti hX dX6_decidedBy_10 zf_X6_9 hO.1 rfl (hcm) ?_
  refine zV_icmp_neN hX (tgt := 23) dX6_decidedBy_13 (by decide) ⟨by omega, by omega⟩ (fun c_13 => absurd c_13 (fun h => h rfl)) (fun c_13 => ?_)
  refine zV_aload_n hX dX6_decidedBy_16 rfl ?_
  refine zV_geta hX dX6_decidedBy_17 zf_X6_41 hO.1 rfl ?_
  refine zV_iload_n hX dX6_decidedBy_20 rfl ?_
  refine zV_iald hX dX6_decidedBy_21 (hO.a 16 rfl) (rfl) ⟨by omega, by omega⟩ (rfl) ?_
  exact zV_reti hX hQ hr (⟨rfl, rfl⟩) dX6_decidedBy_22
set_option maxHeartbeats 1000000 in
theorem zc_decidedBy (l : Launch) (G : zG) (M : zM) (o n c m cut : Nat) (hO : zOb 5 o) (hn : M.1 o 7 = nI n) (hn7 : n ≤ 7) (hcm : M.1 o 0 = nI c) (hc7 : c < 7) (hm : m < 7) (hmc : m ≠ c) (hcut : cut ≤ 3) : zC l G 4 yX6_decidedBy cX6_decidedBy 3 (Option.some Jvm.ClassFile.FieldType.int) [.ref o, .int (nI m), .int (nI cut)] M (zP (some (.int ((oRes o n c m cut 17 0 cut M).1 (o + 1 + 17) 0))) (oRes o n c m cut 17 0 cut M)) := by
  refine zC_of (by decide) (Nat.le_of_ble_eq_true rfl) (fun X Q hQ hX hl hR hr => ?_)
  refine zV_loc (L' := [.ref o, .int (nI m), .int (nI cut)]) rfl ?_
  refine zV_aload_n hX dX6_decidedBy_0 rfl ?_
  refine zV_geti hX dX6_decidedBy_1 zf_X6_9 hO.1 rfl (hcm) ?_
  refine zV_iconst hX (v := (-1)) dX6_decidedBy_4 (by decide) ?_
  refine zV_icmp_eq hX (tgt := 16) dX6_decidedBy_5 (by decide) (fun c_5 => absurd c_5 (nI_m1 (by omega))) (fun c_5 => ?_)
  refine zV_iload_n hX dX6_decidedBy_8 rfl ?_
  refine zV_aload_n hX dX6_decidedBy_9 rfl ?_
  refine zV_geti hX dX6_decidedBy_10 zf_X6_9 hO.1 rfl (hcm) ?_
  refine zV_icmp_neN hX (tgt := 23) dX6_decidedBy_13 (by decide) ⟨by omega, by omega⟩ (fun c_13 => ?_) (fun c_13 => absurd c_13 (hmc))
  refine zV_aload_n hX dX6_decidedBy_23 rfl ?_
  refine zV_iload_n hX dX6_decidedBy_24 rfl ?_
  refine zV_iload_n hX dX6_decidedBy_25 rfl ?_
  refine zV_aload_n hX dX6_decidedBy_26 rfl ?_
  refine zV_geta hX dX6_decidedBy_27 zf_X6_44 hO.1 rfl ?_
  refine zV_iconst hX (v := nI 0) dX6_decidedBy_30 (by decide) ?_
  refine zV_cV4p hX hR hl dX6_decidedBy_31 (zc_resolve l G M o n c m cut 17 0 57 hO hn hn7 hcm hc7 hm hcut (Or.inr rfl) (hO.a 17 rfl) (by decide) (by decide)) zt_X6_resolve rfl zml_X6_110 hO.1 ⟨by decide, by decide⟩ (Nat.le_of_ble_eq_true rfl) ?_
  dsimp only [Option.toList, List.cons_append, List.nil_append]
  refine zV_aload_n hX dX6_decidedBy_34 rfl ?_
  refine zV_geta hX dX6_decidedBy_35 zf_X6_44 hO.1 rfl ?_
  refine zV_iconst hX (v := nI 0) dX6_decidedBy_38 (by decide) ?_
  refine zV_iald hX dX6_decidedBy_39 (hO.a 17 rfl) (rfl) ⟨by omega, by omega⟩ (rfl) ?_
  exact zV_reti hX hQ hr (⟨rfl, rfl⟩) dX6_decidedBy_40
theorem zFr.big {o : Nat} {C : Nat → Prop} {M M1 : zM} (h : zFr C M M1) (hC : ∀ a, C a → o ≤ a ∧ a ≤ o + 20) : zFr (fun a => o ≤ a ∧ a ≤ o + 20) M M1 := h.mono hC
/-- ORAL at o: its fields but the counters stay, and what is not its own -/
def oZ (o : Nat) (M M' : zM) : Prop := zFr (fun a => o ≤ a ∧ a ≤ o + 20) M M' ∧ ∀ j : Nat, j ≠ 1 → j ≠ 2 → M'.1 o j = M.1 o j
theorem oZ.rf {o : Nat} {M : zM} : oZ o M M := ⟨zFr.rf, fun _ _ _ => rfl⟩
theorem oZ.tr {o : Nat} {M M1 M2 : zM} (h : oZ o M M1) (h2 : oZ o M1 M2) : oZ o M M2 := ⟨h.1.tr h2.1, fun j a b => (h2.2 j a b).trans (h.2 j a b)⟩
theorem oZ.of {o : Nat} {C : Nat → Prop} {M M1 : zM} (h : zFr C M M1) (hC : ∀ a, C a → o < a ∧ a ≤ o + 20) : oZ o M M1 := ⟨h.mono (fun a ha => ⟨Nat.le_of_lt (hC a ha).1, (hC a ha).2⟩), fun j _ _ => h.at (fun hc => absurd (hC o hc).1 (Nat.lt_irrefl o))⟩
theorem oZ.st {o : Nat} {M M1 : zM} (h : oSt o M M1) : oZ o M M1 := ⟨h.1.mono (fun a ha => by rcases ha with h | h | h | h | h | h <;> omega), h.2⟩
theorem oZ.for {o : Nat} {f : Nat → zM → zM} (hf : ∀ i M, oZ o M (f i M)) : ∀ (n : Nat) (M : zM), oZ o M (zfor f n M)
  | 0, M => oZ.rf
  | n + 1, M => (oZ.for hf n M).tr (hf n _)
theorem oZ.w {o : Nat} {M M1 : zM} {c k : Nat} {x : Int32} (h : oZ o M M1) (hc : o < c ∧ c ≤ o + 20) : oZ o M (zw M1 c k x) := h.tr (oZ.of (C := fun a => a = c) (zFr.w zFr.rf rfl) (fun a ha => by rw [ha]; exact hc))
theorem oZ.lay (o c n k : Nat) (M : zM) : oZ o M (oLay o c n k M) := oZ.of (oLay_fr o c n k M) (fun a ha => by omega)
theorem oZ.end (o n t c r k : Nat) (M : zM) : oZ o M (oEnd o n t c r k M) := oZ.of (oEnd_fr o n t c r k M) (fun a ha => by rcases ha with h | h | h | h <;> omega)
theorem oZ.res (o n c m cut jc row k : Nat) (M : zM) (hj : jc < 20) : oZ o M (oRes o n c m cut jc row k M) := oZ.of (oRes_fr o n c m cut jc row k M) (fun a ha => by rcases ha with h | h <;> omega)
/-- a place outside ORAL at o -/
def oOut (o a : Nat) : Prop := a < o ∨ o + 20 < a
theorem oZ.out {o : Nat} {M M1 : zM} (h : oZ o M M1) {a j : Nat} (ha : a < o ∨ o + 20 < a) : M1.1 a j = M.1 a j := h.1.at (fun q => by rcases ha with h | h <;> omega)
def oP0 (o g lc n t c : Nat) (M : zM) : zM := zw (zw (zw (zw (zw (zw (oForget o M) o 0 (nI c)) o 7 (nI n)) o 8 (nI t)) o 9 (M.1 g 2)) o 10 (M.1 lc 0)) o 11 (M.1 (g + 1 + 4) c)
def oP1 (o g lc n t c : Nat) (M : zM) : zM := zw (zw (oLay o c n 57 (oP0 o g lc n t c M)) (o + 1 + 4) c (nI 1)) (o + 1 + 16) c (M.1 (g + 1 + 4) c)
def oF1 (o lc c : Nat) (cn : Nat → Nat) (own : Int32) (x : Nat) (M : zM) : zM := if x = c then M else oHear o x c 0 (oSay lc cn M c 1 x c own) M
theorem oZ.f1 (o lc c : Nat) (cn : Nat → Nat) (own : Int32) (x : Nat) (M : zM) : oZ o M (oF1 o lc c cn own x M) := by
  unfold oF1
  split
  · exact oZ.rf
  · exact oZ.st (oSt.hear o x c 0 _ M)
def oP2 (o g lc n t c : Nat) (cn : Nat → Nat) (k : Nat) (M : zM) : zM := zfor (oF1 o lc c cn (M.1 (g + 1 + 4) c)) k (oP1 o g lc n t c M)
def oRo (o lc n t c : Nat) (cn : Nat → Nat) (i : Nat) (M : zM) : zM := oEnd o n t c (i + 2) n (oTR o lc c (i + 2) n cn n M)
theorem oZ.ro (o lc n t c : Nat) (cn : Nat → Nat) (i : Nat) (M : zM) : oZ o M (oRo o lc n t c cn i M) := (oZ.st (oTR_st o lc c (i + 2) n cn n M)).tr (oZ.end o n t c (i + 2) n _)
def oP3 (o g lc n t c : Nat) (cn : Nat → Nat) (k : Nat) (M : zM) : zM := zfor (oRo o lc n t c cn) k (oEnd o n t c 1 n (oP2 o g lc n t c cn n M))
def oDe (o n t c : Nat) (m : Nat) (M : zM) : zM := if m = c then M else zw (oRes o n c m (t + 1) 14 (m * 57) (t + 1) M) (o + 1 + 16) m ((oRes o n c m (t + 1) 14 (m * 57) (t + 1) M).1 (o + 1 + 14) (m * 57 + 0))
theorem oZ.de (o n t c m : Nat) (M : zM) : oZ o M (oDe o n t c m M) := by
  unfold oDe
  split
  · exact oZ.rf
  · exact (oZ.res o n c m (t + 1) 14 (m * 57) (t + 1) M (by decide)).w (by omega)
def oP4 (o g lc n t c : Nat) (cn : Nat → Nat) (k : Nat) (M : zM) : zM := zfor (oDe o n t c) k (oP3 o g lc n t c cn t M)
def oPlay (o g lc n t c : Nat) (cn : Nat → Nat) (M : zM) : zM := oP4 o g lc n t c cn n M
theorem oForget_fr (o : Nat) (M : zM) : zFr (fun a => o ≤ a ∧ a ≤ o + 20) M (oForget o M) := by
  have h : zFr (fun a => o ≤ a ∧ a ≤ o + 20) M (zw (zw (zw M o 0 (-1)) o 1 (nI 0)) o 2 (nI 0)) := zFr.w (zFr.w (zFr.w zFr.rf (by omega)) (by omega)) (by omega)
  exact h.tr (zFr.for (fun i M1 => zFr.w (zFr.w (zFr.w (zFr.w (zFr.w (zFr.w zFr.rf (by omega)) (by omega)) (by omega)) (by omega)) (by omega)) (by omega)) 7 _)
theorem oP0_fr (o g lc n t c : Nat) (M : zM) : zFr (fun a => o ≤ a ∧ a ≤ o + 20) M (oP0 o g lc n t c M) := zFr.w (zFr.w (zFr.w (zFr.w (zFr.w (zFr.w (oForget_fr o M) (by omega)) (by omega)) (by omega)) (by omega)) (by omega)) (by omega)
/-- what stands in ORAL's fields from the first writes on -/
def oFi (o g lc n t c : Nat) (M M' : zM) : Prop := zFr (fun a => o ≤ a ∧ a ≤ o + 20) M M' ∧ M'.1 o 0 = nI c ∧ M'.1 o 7 = nI n ∧ M'.1 o 8 = nI t ∧ M'.1 o 9 = M.1 g 2 ∧ M'.1 o 10 = M.1 lc 0 ∧ M'.1 o 11 = M.1 (g + 1 + 4) c
theorem oFi.go {o g lc n t c : Nat} {M M1 M2 : zM} (h : oFi o g lc n t c M M1) (h2 : oZ o M1 M2) : oFi o g lc n t c M M2 := ⟨h.1.tr h2.1, (h2.2 0 (by decide) (by decide)).trans h.2.1, (h2.2 7 (by decide) (by decide)).trans h.2.2.1, (h2.2 8 (by decide) (by decide)).trans h.2.2.2.1, (h2.2 9 (by decide) (by decide)).trans h.2.2.2.2.1, (h2.2 10 (by decide) (by decide)).trans h.2.2.2.2.2.1, (h2.2 11 (by decide) (by decide)).trans h.2.2.2.2.2.2⟩
theorem oFi.p0 (o g lc n t c : Nat) (M : zM) : oFi o g lc n t c M (oP0 o g lc n t c M) := by
  refine ⟨oP0_fr o g lc n t c M, ?_, ?_, ?_, ?_, ?_, ?_⟩ <;> unfold oP0 <;> (repeat first | rw [zw_same] | rw [zw_ne (by omega)])
theorem oFi.p1 (o g lc n t c : Nat) (M : zM) : oFi o g lc n t c M (oP1 o g lc n t c M) := (oFi.p0 o g lc n t c M).go (((oZ.lay o c n 57 _).w (by omega)).w (by omega))
theorem oFi.p2 (o g lc n t c : Nat) (cn : Nat → Nat) (k : Nat) (M : zM) : oFi o g lc n t c M (oP2 o g lc n t c cn k M) := (oFi.p1 o g lc n t c M).go (oZ.for (oZ.f1 o lc c cn _) k _)
theorem oFi.p3 (o g lc n t c : Nat) (cn : Nat → Nat) (k : Nat) (M : zM) : oFi o g lc n t c M (oP3 o g lc n t c cn k M) := ((oFi.p2 o g lc n t c cn n M).go (oZ.end o n t c 1 n _)).go (oZ.for (oZ.ro o lc n t c cn) k _)
theorem oFi.p4 (o g lc n t c : Nat) (cn : Nat → Nat) (k : Nat) (M : zM) : oFi o g lc n t c M (oP4 o g lc n t c cn k M) := (oFi.p3 o g lc n t c cn t M).go (oZ.for (oZ.de o n t c) k _)
theorem oFi.out {o g lc n t c : Nat} {M M1 : zM} (h : oFi o g lc n t c M M1) {a j : Nat} (ha : a < o ∨ o + 20 < a) : M1.1 a j = M.1 a j := h.1.at (fun q => by rcases ha with h | h <;> omega)
set_option maxHeartbeats 1000000 in
theorem zc_play (l : Launch) (G : zG) (M : zM) (o g lc n t c : Nat) (cn : Nat → Nat) (hO : zOb 5 o) (hG : zOb 1 g) (hgo : g + 5 < o ∨ o + 20 < g) (hL : lyOk lc o) (hgn : M.1 g 0 = nI n) (hn7 : n ≤ 7) (hgt : M.1 g 1 = nI t) (ht2 : t ≤ 2) (hgl : M.1 g 3 = nI lc) (hlc : lc < 2 ^ 31) (hcn : lyN lc M cn) (hc7 : c < 7) (hcn7 : c < n) : zC l G 4 yX6_play cX6_play 4 (Option.none : Option Jvm.ClassFile.FieldType) [.ref o, .ref g, .int (nI c)] M (zP none (oPlay o g lc n t c cn M)) := by
  refine zC_of (by decide) (Nat.le_of_ble_eq_true rfl) (fun X Q hQ hX hl hR hr => ?_)
  refine zV_loc (L' := [.ref o, .ref g, .int (nI c), .null]) rfl ?_
  have L157 : ∀ (f9 k : Nat), n - k < f9 → k ≤ n → zV G X Q 4 0 0 157 [.ref o, .ref g, .int (nI c), .int (nI k)] [] (oP4 o g lc n t c cn k M) := by
    intro f9
    induction f9 with
    | zero => intro k hk1 hk2; exact absurd hk1 (Nat.not_lt_zero _)
    | succ f9 ih =>
      intro k hk1 hk2
      have hF := oFi.p4 o g lc n t c cn k M
      refine zV_iload_n hX dX6_play_157 rfl ?_
      refine zV_aload_n hX dX6_play_158 rfl ?_
      refine zV_geti hX dX6_play_159 zf_X6_67 hO.1 rfl (hF.2.2.1) ?_
      refine zV_icmp_geN hX (tgt := 207) dX6_play_162 (by decide) ⟨by omega, by omega⟩ (fun c_162 => ?_) (fun c_162 => ?_)
      · exact zV_retv hX hQ hr (⟨rfl, by rw [show k = n by omega]; rfl⟩) dX6_play_207
      · refine zV_iload_n hX dX6_play_165 rfl ?_
        refine zV_iload_n hX dX6_play_166 rfl ?_
        refine zV_icmp_eqN hX (tgt := 201) dX6_play_167 (by decide) ⟨by omega, by omega⟩ (fun c_167 => ?_) (fun c_167 => ?_)
        · have e9 : oDe o n t c k (oP4 o g lc n t c cn k M) = (oP4 o g lc n t c cn k M) := if_pos c_167
          refine zV_iincN hX (b := 1) dX6_play_201 rfl (by decide) ?_
          dsimp only [zst1, zst2, zclr, zc2]
          refine zV_goto hX (tgt := 157) dX6_play_204 (by decide) ?_
          have h9 := ih (k + 1) (by omega) (by omega)
          rw [show oP4 o g lc n t c cn (k + 1) M = oDe o n t c k (oP4 o g lc n t c cn k M) from rfl, e9] at h9
          exact h9
        · have e9 : oDe o n t c k (oP4 o g lc n t c cn k M) = zw (oRes o n c k (t + 1) 14 (k * 57) (t + 1) (oP4 o g lc n t c cn k M)) (o + 1 + 16) k ((oRes o n c k (t + 1) 14 (k * 57) (t + 1) (oP4 o g lc n t c cn k M)).1 (o + 1 + 14) (k * 57 + 0)) := if_neg c_167
          refine zV_aload_n hX dX6_play_170 rfl ?_
          refine zV_iload_n hX dX6_play_171 rfl ?_
          refine zV_aload_n hX dX6_play_172 rfl ?_
          refine zV_geti hX dX6_play_173 zf_X6_71 hO.1 rfl (hF.2.2.2.1) ?_
          refine zV_iconst hX (v := nI 1) dX6_play_176 (by decide) ?_
          refine zV_iaddN hX dX6_play_177 ?_
          refine zV_aload_n hX dX6_play_178 rfl ?_
          refine zV_geta hX dX6_play_179 zf_X6_35 hO.1 rfl ?_
          refine zV_iload_n hX dX6_play_182 rfl ?_
          refine zV_bipush hX (v := nI 57) dX6_play_183 (by decide) ?_
          refine zV_imulN hX dX6_play_185 ?_
          refine zV_cV4p hX hR hl dX6_play_186 (zc_resolve l G _ o n c k (t + 1) 14 (k * 57) 399 hO hF.2.2.1 hn7 hF.2.1 hc7 (by omega) (by omega) (Or.inl rfl) (hO.a 14 rfl) (by omega) (by decide)) zt_X6_resolve rfl zml_X6_110 hO.1 ⟨by decide, by decide⟩ (Nat.le_of_ble_eq_true rfl) ?_
          dsimp only [Option.toList, List.cons_append, List.nil_append]
          refine zV_aload_n hX dX6_play_189 rfl ?_
          refine zV_geta hX dX6_play_190 zf_X6_41 hO.1 rfl ?_
          refine zV_iload_n hX dX6_play_193 rfl ?_
          refine zV_aload_n hX dX6_play_194 rfl ?_
          refine zV_iload_n hX dX6_play_195 rfl ?_
          refine zV_iconst hX (v := nI 0) dX6_play_196 (by decide) ?_
          refine zV_cV2p hX hR hl dX6_play_197 (zc_resolvedBy l G _ o k 0 hO (by omega) (by decide)) zt_X6_resolvedBy rfl zml_X6_114 hO.1 ⟨by decide, by decide⟩ (Nat.le_of_ble_eq_true rfl) ?_
          dsimp only [Option.toList, List.cons_append, List.nil_append]
          refine zV_iast hX dX6_play_200 (hO.a 16 rfl) (rfl) ⟨by omega, by omega⟩ ?_
          refine zV_iincN hX (b := 1) dX6_play_201 rfl (by decide) ?_
          dsimp only [zst1, zst2, zclr, zc2]
          refine zV_goto hX (tgt := 157) dX6_play_204 (by decide) ?_
          have h9 := ih (k + 1) (by omega) (by omega)
          rw [show oP4 o g lc n t c cn (k + 1) M = oDe o n t c k (oP4 o g lc n t c cn k M) from rfl, e9] at h9
          exact h9
  have L125 : ∀ (f9 k : Nat), t - k < f9 → k ≤ t → zV G X Q 4 0 0 125 [.ref o, .ref g, .int (nI c), .int (nI (k + 2))] [] (oP3 o g lc n t c cn k M) := by
    intro f9
    induction f9 with
    | zero => intro k hk1 hk2; exact absurd hk1 (Nat.not_lt_zero _)
    | succ f9 ih =>
      intro k hk1 hk2
      have hF := oFi.p3 o g lc n t c cn k M
      refine zV_iload_n hX dX6_play_125 rfl ?_
      refine zV_aload_n hX dX6_play_126 rfl ?_
      refine zV_geti hX dX6_play_127 zf_X6_71 hO.1 rfl (hF.2.2.2.1) ?_
      refine zV_iconst hX (v := nI 1) dX6_play_130 (by decide) ?_
      refine zV_iaddN hX dX6_play_131 ?_
      refine zV_icmp_gtN hX (tgt := 155) dX6_play_132 (by decide) ⟨by omega, by omega⟩ (fun c_132 => ?_) (fun c_132 => ?_)
      · refine zV_iconst hX (v := nI 0) dX6_play_155 (by decide) ?_
        refine zV_istore_n hX dX6_play_156 (by decide) ?_
        dsimp only [zst1, zst2, zclr, zc2]
        rw [show k = t by omega]
        exact L157 (n + 1) 0 (by omega) (by omega)
      · refine zV_aload_n hX dX6_play_135 rfl ?_
        refine zV_aload_n hX dX6_play_136 rfl ?_
        refine zV_getp hX dX6_play_137 zf_X6_76 hG.1 rfl (by rw [hF.out (by omega), hgl]) hlc ?_
        refine zV_iload_n hX dX6_play_140 rfl ?_
        refine zV_cV2p hX hR hl dX6_play_141 (zc_tellRound l G _ o lc n c (k + 2) cn hO hF.2.2.1 hn7 hF.2.1 hL (fun m hm => by rw [hF.out (by have := hL.2 2 (by omega); omega)]; exact hcn m hm) hc7 (by omega) (by omega)) zt_X6_tellRound rfl zml_X6_106 hO.1 ⟨by decide, by decide⟩ (Nat.le_of_ble_eq_true rfl) ?_
        dsimp only [Option.toList, List.cons_append, List.nil_append]
        refine zV_aload_n hX dX6_play_144 rfl ?_
        refine zV_iload_n hX dX6_play_145 rfl ?_
        have hF3 := hF.go (oZ.st (oTR_st o lc c (k + 2) n cn n _))
        refine zV_cV1p hX hR hl dX6_play_146 (zc_endRound l G _ o n t c (k + 2) hO hF3.2.2.1 hn7 hF3.2.2.2.1 ht2 hF3.2.1 hc7 (by omega) (by omega)) zt_X6_endRound rfl zml_X6_102 hO.1 ⟨by decide, by decide⟩ (Nat.le_of_ble_eq_true rfl) ?_
        dsimp only [Option.toList, List.cons_append, List.nil_append]
        refine zV_iincN hX (b := 1) dX6_play_149 rfl (by decide) ?_
        dsimp only [zst1, zst2, zclr, zc2]
        refine zV_goto hX (tgt := 125) dX6_play_152 (by decide) ?_
        exact ih (k + 1) (by omega) (by omega)
  have L77 : ∀ (f9 k : Nat), n - k < f9 → k ≤ n → zV G X Q 4 0 0 77 [.ref o, .ref g, .int (nI c), .int (nI k)] [] (oP2 o g lc n t c cn k M) := by
    intro f9
    induction f9 with
    | zero => intro k hk1 hk2; exact absurd hk1 (Nat.not_lt_zero _)
    | succ f9 ih =>
      intro k hk1 hk2
      have hF := oFi.p2 o g lc n t c cn k M
      refine zV_iload_n hX dX6_play_77 rfl ?_
      refine zV_aload_n hX dX6_play_78 rfl ?_
      refine zV_geti hX dX6_play_79 zf_X6_67 hO.1 rfl (hF.2.2.1) ?_
      refine zV_icmp_geN hX (tgt := 118) dX6_play_82 (by decide) ⟨by omega, by omega⟩ (fun c_82 => ?_) (fun c_82 => ?_)
      · rw [show k = n by omega]
        refine zV_aload_n hX dX6_play_118 rfl ?_
        refine zV_iconst hX (v := nI 1) dX6_play_119 (by decide) ?_
        have hF2 := oFi.p2 o g lc n t c cn n M
        refine zV_cV1p hX hR hl dX6_play_120 (zc_endRound l G _ o n t c 1 hO hF2.2.2.1 hn7 hF2.2.2.2.1 ht2 hF2.2.1 hc7 (by decide) (by decide)) zt_X6_endRound rfl zml_X6_102 hO.1 ⟨by decide, by decide⟩ (Nat.le_of_ble_eq_true rfl) ?_
        dsimp only [Option.toList, List.cons_append, List.nil_append]
        refine zV_iconst hX (v := nI 2) dX6_play_123 (by decide) ?_
        refine zV_istore_n hX dX6_play_124 (by decide) ?_
        dsimp only [zst1, zst2, zclr, zc2]
        exact L125 (t + 1) 0 (by omega) (by omega)
      · refine zV_iload_n hX dX6_play_85 rfl ?_
        refine zV_iload_n hX dX6_play_86 rfl ?_
        refine zV_icmp_eqN hX (tgt := 112) dX6_play_87 (by decide) ⟨by omega, by omega⟩ (fun c_87 => ?_) (fun c_87 => ?_)
        · have e9 : oF1 o lc c cn (M.1 (g + 1 + 4) c) k (oP2 o g lc n t c cn k M) = (oP2 o g lc n t c cn k M) := if_pos c_87
          refine zV_iincN hX (b := 1) dX6_play_112 rfl (by decide) ?_
          dsimp only [zst1, zst2, zclr, zc2]
          refine zV_goto hX (tgt := 77) dX6_play_115 (by decide) ?_
          have h9 := ih (k + 1) (by omega) (by omega)
          rw [show oP2 o g lc n t c cn (k + 1) M = oF1 o lc c cn (M.1 (g + 1 + 4) c) k (oP2 o g lc n t c cn k M) from rfl, e9] at h9
          exact h9
        · have e9 : oF1 o lc c cn (M.1 (g + 1 + 4) c) k (oP2 o g lc n t c cn k M) = oHear o k c 0 (oSay lc cn (oP2 o g lc n t c cn k M) c 1 k c (M.1 (g + 1 + 4) c)) (oP2 o g lc n t c cn k M) := if_neg c_87
          refine zV_aload_n hX dX6_play_90 rfl ?_
          refine zV_iload_n hX dX6_play_91 rfl ?_
          refine zV_iload_n hX dX6_play_92 rfl ?_
          refine zV_iconst hX (v := nI 0) dX6_play_93 (by decide) ?_
          refine zV_aload_n hX dX6_play_94 rfl ?_
          refine zV_getp hX dX6_play_95 zf_X6_76 hG.1 rfl (by rw [hF.out (by omega), hgl]) hlc ?_
          refine zV_iload_n hX dX6_play_98 rfl ?_
          refine zV_iconst hX (v := nI 1) dX6_play_99 (by decide) ?_
          refine zV_iload_n hX dX6_play_100 rfl ?_
          refine zV_iload_n hX dX6_play_101 rfl ?_
          refine zV_aload_n hX dX6_play_102 rfl ?_
          refine zV_geti hX (x := (M.1 (g + 1 + 4) c)) dX6_play_103 zf_X6_89 hO.1 rfl (hF.2.2.2.2.2.2) ?_
          refine zV_cV5p hX hR hl dX6_play_106 (zc_said l G _ lc c 1 k (cn c) (nI c) _ hL.1 hc7 (by rw [hF.out (by have := hL.2 2 (by omega); omega)]; exact (hcn c hc7).1) (hcn c hc7).2 (by omega)) zt_X4_said rfl zml_X6_95 hL.1.1 ⟨by decide, by decide⟩ (Nat.le_of_ble_eq_true rfl) ?_
          dsimp only [Option.toList, List.cons_append, List.nil_append]
          refine zV_topl (zlo (oSay lc cn (oP2 o g lc n t c cn k M) c 1 k c (M.1 (g + 1 + 4) c))) rfl ?_
          refine zV_cV4p hX hR hl dX6_play_109 (zc_hear l G _ o k c 0 _ hO (by omega) hc7 (by omega)) zt_X6_hear rfl zml_X6_98 hO.1 ⟨by decide, by decide⟩ (Nat.le_of_ble_eq_true rfl) ?_
          dsimp only [Option.toList, List.cons_append, List.nil_append]
          refine zV_iincN hX (b := 1) dX6_play_112 rfl (by decide) ?_
          dsimp only [zst1, zst2, zclr, zc2]
          refine zV_goto hX (tgt := 77) dX6_play_115 (by decide) ?_
          have h9 := ih (k + 1) (by omega) (by omega)
          rw [show oP2 o g lc n t c cn (k + 1) M = oF1 o lc c cn (M.1 (g + 1 + 4) c) k (oP2 o g lc n t c cn k M) from rfl, e9] at h9
          exact h9
  refine zV_aload_n hX dX6_play_0 rfl ?_
  refine zV_cV0p hX hR hl dX6_play_1 (zc_forget l G M o hO) zt_X6_forget rfl zml_X6_59 hO.1 ⟨by decide, by decide⟩ (Nat.le_of_ble_eq_true rfl) ?_
  dsimp only [Option.toList, List.cons_append, List.nil_append]
  refine zV_aload_n hX dX6_play_4 rfl ?_
  refine zV_iload_n hX dX6_play_5 rfl ?_
  refine zV_puti hX dX6_play_6 zf_X6_9 zp_5_0 hO.1 rfl ?_
  refine zV_aload_n hX dX6_play_9 rfl ?_
  refine zV_aload_n hX dX6_play_10 rfl ?_
  refine zV_geti hX dX6_play_11 zf_X6_62 hG.1 rfl (by rw [zw_ne (by omega), (oForget_fr o M).at (by omega), hgn]) ?_
  refine zV_puti hX dX6_play_14 zf_X6_67 zp_5_7 hO.1 rfl ?_
  refine zV_aload_n hX dX6_play_17 rfl ?_
  refine zV_aload_n hX dX6_play_18 rfl ?_
  refine zV_geti hX dX6_play_19 zf_X6_68 hG.1 rfl (by rw [zw_ne (by omega), zw_ne (by omega), (oForget_fr o M).at (by omega), hgt]) ?_
  refine zV_puti hX dX6_play_22 zf_X6_71 zp_5_8 hO.1 rfl ?_
  refine zV_aload_n hX dX6_play_25 rfl ?_
  refine zV_aload_n hX dX6_play_26 rfl ?_
  refine zV_geti hX (x := M.1 g 2) dX6_play_27 zf_X6_72 hG.1 rfl (by (repeat rw [zw_ne (by omega)]); exact (oForget_fr o M).at (by omega)) ?_
  refine zV_puti hX dX6_play_30 zf_X6_75 zp_5_9 hO.1 rfl ?_
  refine zV_aload_n hX dX6_play_33 rfl ?_
  refine zV_aload_n hX dX6_play_34 rfl ?_
  refine zV_getp hX dX6_play_35 zf_X6_76 hG.1 rfl (by rw [zw_ne (by omega), zw_ne (by omega), zw_ne (by omega), zw_ne (by omega), (oForget_fr o M).at (by omega), hgl]) hlc ?_
  refine zV_geti hX (x := M.1 lc 0) dX6_play_38 zf_X6_80 hL.1.1 rfl (by rw [zw_ne (by have := hL.2 0 (by omega); omega), zw_ne (by have := hL.2 0 (by omega); omega), zw_ne (by have := hL.2 0 (by omega); omega), zw_ne (by have := hL.2 0 (by omega); omega), (oForget_fr o M).at (by have := hL.2 0 (by omega); omega)]) ?_
  refine zV_puti hX dX6_play_41 zf_X6_85 zp_5_10 hO.1 rfl ?_
  refine zV_aload_n hX dX6_play_44 rfl ?_
  refine zV_aload_n hX dX6_play_45 rfl ?_
  refine zV_geta hX dX6_play_46 zf_X6_86 hG.1 rfl ?_
  refine zV_iload_n hX dX6_play_49 rfl ?_
  refine zV_iald hX (v := M.1 (g + 1 + 4) c) dX6_play_50 (hG.a 4 rfl) (rfl) ⟨by omega, by omega⟩ (by rw [zw_ne (by omega), zw_ne (by omega), zw_ne (by omega), zw_ne (by omega), zw_ne (by omega), (oForget_fr o M).at (by omega)]) ?_
  refine zV_puti hX dX6_play_51 zf_X6_89 zp_5_11 hO.1 rfl ?_
  refine zV_mem (M' := oP0 o g lc n t c M) rfl ?_
  have hF := oFi.p0 o g lc n t c M
  refine zV_aload_n hX dX6_play_54 rfl ?_
  refine zV_cV0p hX hR hl dX6_play_55 (zc_layPaths l G _ o c n hO hF.2.2.1 hn7 hF.2.1) zt_X6_layPaths rfl zml_X6_92 hO.1 ⟨by decide, by decide⟩ (Nat.le_of_ble_eq_true rfl) ?_
  dsimp only [Option.toList, List.cons_append, List.nil_append]
  refine zV_aload_n hX dX6_play_58 rfl ?_
  refine zV_geta hX dX6_play_59 zf_X6_19 hO.1 rfl ?_
  refine zV_iload_n hX dX6_play_62 rfl ?_
  refine zV_iconst hX (v := nI 1) dX6_play_63 (by decide) ?_
  refine zV_iast hX dX6_play_64 (hO.a 4 rfl) (rfl) ⟨by omega, by omega⟩ ?_
  refine zV_aload_n hX dX6_play_65 rfl ?_
  refine zV_geta hX dX6_play_66 zf_X6_41 hO.1 rfl ?_
  refine zV_iload_n hX dX6_play_69 rfl ?_
  refine zV_aload_n hX dX6_play_70 rfl ?_
  refine zV_geti hX (x := (M.1 (g + 1 + 4) c)) dX6_play_71 zf_X6_89 hO.1 rfl (by rw [zw_ne (by omega), (oZ.lay o c n 57 _).2 11 (by decide) (by decide), hF.2.2.2.2.2.2]) ?_
  refine zV_iast hX dX6_play_74 (hO.a 16 rfl) (rfl) ⟨by omega, by omega⟩ ?_
  refine zV_mem (M' := oP1 o g lc n t c M) rfl ?_
  refine zV_iconst hX (v := nI 0) dX6_play_75 (by decide) ?_
  refine zV_istore_n hX dX6_play_76 (by decide) ?_
  dsimp only [zst1, zst2, zclr, zc2]
  exact L77 (n + 1) 0 (by omega) (by omega)
