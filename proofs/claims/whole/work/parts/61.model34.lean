theorem mStop_le {fs : Nat → Nat} {t : Nat} : ∀ (f r : Nat), r ≤ t + 1 → mStop fs t f r ≤ t + 1
  | 0, r, h => h
  | f + 1, r, h => by
    unfold mStop
    split
    · rename_i q; exact mStop_le f (r + 1) (by omega)
    · exact h
def mSt1 (c t j : Nat) (fs : Nat → Nat) : Nat := if j = c then 1 else mStop fs t 4 1
def mMe (n c t j : Nat) (fs : Nat → Nat) (M : zM) : Nat → Int32
  | 2 => mDec (m0 M) n c (t + 1) j
  | 3 => if j = c then nI 0 else M.1 (1000 + 16 * 22 + j) (t + 1)
  | 4 => nI (mSt1 c t j fs)
  | 5 => mDec (m0 M) n c (mSt1 c t j fs) j
  | 6 => nI (zcnt (fun p => mHas n c t j p && !decide ((m0 M).1 (1000 + 16 * 21 + j) p = 0)) 57)
  | _ => M.1 324 j
theorem me7 (k : Nat) (h2 : 2 ≤ k) (hk : k ≤ 7) (a2 : nI k ≠ nI 2) (a3 : nI k ≠ nI 3) (a4 : nI k ≠ nI 4) (a5 : nI k ≠ nI 5) (a6 : nI k ≠ nI 6) : k = 7 := by
  rcases Nat.lt_or_ge k 7 with q | q
  · exfalso
    match k, h2, q with
    | 2, _, _ => exact a2 rfl
    | 3, _, _ => exact a3 rfl
    | 4, _, _ => exact a4 rfl
    | 5, _, _ => exact a5 rfl
    | 6, _, _ => exact a6 rfl
    | _ + 7, _, q => omega
  · omega
set_option maxHeartbeats 1000000 in
theorem zc_mmember0 (l : Launch) (G : zG) (M : zM) (n j : Nat) (hn : M.1 300 9 = nI n) (hn7 : n ≤ 7) (h0 : 1 ≤ n) (hj : j < n) : zC l G 6 yX11_member cX11_member 3 (Option.some Jvm.ClassFile.FieldType.int) [.ref (300 : Nat), .int (nI j), .int (nI 0)] M (zP (some (.int (M.1 313 j))) (m0 M)) := by
  refine zC_of (by decide) (Nat.le_of_ble_eq_true rfl) (fun X Q hQ hX hl hR hr => ?_)
  refine zV_loc (L' := [.ref (300 : Nat), .int (nI j), .int (nI 0)]) rfl ?_
  refine zV_aload_n hX dX11_member_0 rfl ?_
  refine zV_iconst hX (v := nI 0) dX11_member_1 (by decide) ?_
  refine zV_puti hX dX11_member_2 zf_X11_149 zp_9_0 zo300.1 rfl ?_
  refine zV_aload_n hX dX11_member_5 rfl ?_
  refine zV_aload_n hX dX11_member_6 rfl ?_
  refine zV_iload_n hX dX11_member_7 rfl ?_
  refine zV_cV1p hX hR hl dX11_member_8 (zc_isMember l G _ n _ ((zw_ne (by omega)).trans hn) hn7 h0) zt_X11_isMember rfl zml_X11_179 zo300.1 ⟨by decide, by decide⟩ (Nat.le_of_ble_eq_true rfl) ?_
  dsimp only [Option.toList, List.cons_append, List.nil_append]
  refine zV_topi (zb true) (by rw [zmem_nI (by omega) (by omega), decide_eq_true hj]) ?_
  refine zV_if_neB hX (tgt := 18) dX11_member_11 (by decide) (fun c_11 => ?_) (fun c_11 => absurd c_11 (by decide))
  refine zV_iconst hX (v := nI 0) dX11_member_18 (by decide) ?_
  refine zV_iconst hX (v := nI 1) dX11_member_19 (by decide) ?_
  refine zV_iconst hX (v := nI 0) dX11_member_20 (by decide) ?_
  refine zV_cV3p hX hR hl dX11_member_21 (zc_badF0 l G _ _ zw_same) zt_X11_bad rfl zml_X11_166 zo300.1 ⟨by decide, by decide⟩ (Nat.le_of_ble_eq_true rfl) ?_
  dsimp only [Option.toList, List.cons_append, List.nil_append]
  refine zV_if_neB hX (tgt := 51) dX11_member_24 (by decide) (fun c_24 => absurd c_24 (by decide)) (fun c_24 => ?_)
  refine zV_aload_n hX dX11_member_27 rfl ?_
  refine zV_iload_n hX dX11_member_28 rfl ?_
  refine zV_iconst hX (v := nI 0) dX11_member_29 (by decide) ?_
  refine zV_bipush hX (v := nI 7) dX11_member_30 (by decide) ?_
  refine zV_cS3p hX hR hl dX11_member_32 (zc_min l G _ _ _ _) zt_X11_in rfl zml_X11_162 (by decide) (Nat.le_of_ble_eq_true rfl) ?_
  dsimp only [Option.toList, List.cons_append, List.nil_append]
  refine zV_topi (zb true) (by rw [show mIn (nI 0) (nI 0) (nI 7) = true by decide]) ?_
  refine zV_if_neB hX (tgt := 42) dX11_member_35 (by decide) (fun c_35 => ?_) (fun c_35 => absurd c_35 (by decide))
  refine zV_iconst hX (v := nI 0) dX11_member_42 (by decide) ?_
  refine zV_iconst hX (v := nI 2) dX11_member_43 (by decide) ?_
  refine zV_iconst hX (v := nI 1) dX11_member_44 (by decide) ?_
  refine zV_cV3p hX hR hl dX11_member_45 (zc_badF1 l G _ _ zw_same) zt_X11_bad rfl zml_X11_166 zo300.1 ⟨by decide, by decide⟩ (Nat.le_of_ble_eq_true rfl) ?_
  dsimp only [Option.toList, List.cons_append, List.nil_append]
  refine zV_if_eqB hX (tgt := 53) dX11_member_48 (by decide) (fun c_48 => ?_) (fun c_48 => absurd c_48 (by decide))
  refine zV_iload_n hX dX11_member_53 rfl ?_
  refine zV_if_neN hX (tgt := 64) dX11_member_54 (by decide) (by decide) (fun c_54 => absurd c_54 (by decide)) (fun c_54 => ?_)
  refine zV_aload_n hX dX11_member_57 rfl ?_
  refine zV_geta hX dX11_member_58 zf_X11_26 zo300.1 rfl ?_
  refine zV_iload_n hX dX11_member_61 rfl ?_
  refine zV_iald hX (v := M.1 313 j) dX11_member_62 (zo300.a 12 rfl) (rfl) ⟨by omega, by omega⟩ (zw_ne (by omega)) ?_
  exact zV_reti hX hQ hr (⟨rfl, rfl⟩) dX11_member_63
set_option maxHeartbeats 1000000 in
theorem zc_mmember1 (l : Launch) (G : zG) (M : zM) (n j : Nat) (hn : M.1 300 9 = nI n) (hn7 : n ≤ 7) (h0 : 1 ≤ n) (hj : j < n) : zC l G 6 yX11_member cX11_member 3 (Option.some Jvm.ClassFile.FieldType.int) [.ref (300 : Nat), .int (nI j), .int (nI 1)] M (zP (some (.int (zb (mLiar (m0 M) j)))) (m0 M)) := by
  refine zC_of (by decide) (Nat.le_of_ble_eq_true rfl) (fun X Q hQ hX hl hR hr => ?_)
  refine zV_loc (L' := [.ref (300 : Nat), .int (nI j), .int (nI 1)]) rfl ?_
  refine zV_aload_n hX dX11_member_0 rfl ?_
  refine zV_iconst hX (v := nI 0) dX11_member_1 (by decide) ?_
  refine zV_puti hX dX11_member_2 zf_X11_149 zp_9_0 zo300.1 rfl ?_
  refine zV_aload_n hX dX11_member_5 rfl ?_
  refine zV_aload_n hX dX11_member_6 rfl ?_
  refine zV_iload_n hX dX11_member_7 rfl ?_
  refine zV_cV1p hX hR hl dX11_member_8 (zc_isMember l G _ n _ ((zw_ne (by omega)).trans hn) hn7 h0) zt_X11_isMember rfl zml_X11_179 zo300.1 ⟨by decide, by decide⟩ (Nat.le_of_ble_eq_true rfl) ?_
  dsimp only [Option.toList, List.cons_append, List.nil_append]
  refine zV_topi (zb true) (by rw [zmem_nI (by omega) (by omega), decide_eq_true hj]) ?_
  refine zV_if_neB hX (tgt := 18) dX11_member_11 (by decide) (fun c_11 => ?_) (fun c_11 => absurd c_11 (by decide))
  refine zV_iconst hX (v := nI 0) dX11_member_18 (by decide) ?_
  refine zV_iconst hX (v := nI 1) dX11_member_19 (by decide) ?_
  refine zV_iconst hX (v := nI 0) dX11_member_20 (by decide) ?_
  refine zV_cV3p hX hR hl dX11_member_21 (zc_badF0 l G _ _ zw_same) zt_X11_bad rfl zml_X11_166 zo300.1 ⟨by decide, by decide⟩ (Nat.le_of_ble_eq_true rfl) ?_
  dsimp only [Option.toList, List.cons_append, List.nil_append]
  refine zV_if_neB hX (tgt := 51) dX11_member_24 (by decide) (fun c_24 => absurd c_24 (by decide)) (fun c_24 => ?_)
  refine zV_aload_n hX dX11_member_27 rfl ?_
  refine zV_iload_n hX dX11_member_28 rfl ?_
  refine zV_iconst hX (v := nI 0) dX11_member_29 (by decide) ?_
  refine zV_bipush hX (v := nI 7) dX11_member_30 (by decide) ?_
  refine zV_cS3p hX hR hl dX11_member_32 (zc_min l G _ _ _ _) zt_X11_in rfl zml_X11_162 (by decide) (Nat.le_of_ble_eq_true rfl) ?_
  dsimp only [Option.toList, List.cons_append, List.nil_append]
  refine zV_topi (zb true) (by rw [show mIn (nI 1) (nI 0) (nI 7) = true by decide]) ?_
  refine zV_if_neB hX (tgt := 42) dX11_member_35 (by decide) (fun c_35 => ?_) (fun c_35 => absurd c_35 (by decide))
  refine zV_iconst hX (v := nI 0) dX11_member_42 (by decide) ?_
  refine zV_iconst hX (v := nI 2) dX11_member_43 (by decide) ?_
  refine zV_iconst hX (v := nI 1) dX11_member_44 (by decide) ?_
  refine zV_cV3p hX hR hl dX11_member_45 (zc_badF1 l G _ _ zw_same) zt_X11_bad rfl zml_X11_166 zo300.1 ⟨by decide, by decide⟩ (Nat.le_of_ble_eq_true rfl) ?_
  dsimp only [Option.toList, List.cons_append, List.nil_append]
  refine zV_if_eqB hX (tgt := 53) dX11_member_48 (by decide) (fun c_48 => ?_) (fun c_48 => absurd c_48 (by decide))
  refine zV_iload_n hX dX11_member_53 rfl ?_
  refine zV_if_neN hX (tgt := 64) dX11_member_54 (by decide) (by decide) (fun c_54 => ?_) (fun c_54 => absurd c_54 (by decide))
  refine zV_iload_n hX dX11_member_64 rfl ?_
  refine zV_iconst hX (v := nI 1) dX11_member_65 (by decide) ?_
  refine zV_icmp_neN hX (tgt := 83) dX11_member_66 (by decide) ⟨by decide, by decide⟩ (fun c_66 => absurd c_66 (by decide)) (fun c_66 => ?_)
  refine zV_aload_n hX dX11_member_69 rfl ?_
  refine zV_iload_n hX dX11_member_70 rfl ?_
  refine zV_cV1p hX hR hl dX11_member_71 (zc_misLiar l G (m0 M) j (by omega)) zt_X11_isLiar rfl zml_X11_295 zo300.1 ⟨by decide, by decide⟩ (Nat.le_of_ble_eq_true rfl) ?_
  dsimp only [Option.toList, List.cons_append, List.nil_append]
  refine zV_if_eqB hX (tgt := 81) dX11_member_74 (by decide) (fun c_74 => ?_) (fun c_74 => ?_)
  · refine zV_iconst hX (v := nI 0) dX11_member_81 (by decide) ?_
    exact zV_reti hX hQ hr (⟨by rw [c_74]; rfl, rfl⟩) dX11_member_82
  · refine zV_iconst hX (v := nI 1) dX11_member_77 (by decide) ?_
    refine zV_goto hX (tgt := 82) dX11_member_78 (by decide) ?_
    exact zV_reti hX hQ hr (⟨by rw [c_74]; rfl, rfl⟩) dX11_member_82
set_option maxHeartbeats 1000000 in
theorem zc_mmemberN (l : Launch) (G : zG) (M : zM) (n j k : Nat) (hn : M.1 300 9 = nI n) (hn7 : n ≤ 7) (h0 : 1 ≤ n) (hcm : M.1 300 17 = -1) (hj : j < n) (hk2 : 2 ≤ k) (hk : k ≤ 7) : zC l G 6 yX11_member cX11_member 3 (Option.some Jvm.ClassFile.FieldType.int) [.ref (300 : Nat), .int (nI j), .int (nI k)] M (zP (some (.int (nI 0))) (m0 M)) := by
  refine zC_of (by decide) (Nat.le_of_ble_eq_true rfl) (fun X Q hQ hX hl hR hr => ?_)
  refine zV_loc (L' := [.ref (300 : Nat), .int (nI j), .int (nI k)]) rfl ?_
  refine zV_aload_n hX dX11_member_0 rfl ?_
  refine zV_iconst hX (v := nI 0) dX11_member_1 (by decide) ?_
  refine zV_puti hX dX11_member_2 zf_X11_149 zp_9_0 zo300.1 rfl ?_
  refine zV_aload_n hX dX11_member_5 rfl ?_
  refine zV_aload_n hX dX11_member_6 rfl ?_
  refine zV_iload_n hX dX11_member_7 rfl ?_
  refine zV_cV1p hX hR hl dX11_member_8 (zc_isMember l G _ n _ ((zw_ne (by omega)).trans hn) hn7 h0) zt_X11_isMember rfl zml_X11_179 zo300.1 ⟨by decide, by decide⟩ (Nat.le_of_ble_eq_true rfl) ?_
  dsimp only [Option.toList, List.cons_append, List.nil_append]
  refine zV_topi (zb true) (by rw [zmem_nI (by omega) (by omega), decide_eq_true hj]) ?_
  refine zV_if_neB hX (tgt := 18) dX11_member_11 (by decide) (fun c_11 => ?_) (fun c_11 => absurd c_11 (by decide))
  refine zV_iconst hX (v := nI 0) dX11_member_18 (by decide) ?_
  refine zV_iconst hX (v := nI 1) dX11_member_19 (by decide) ?_
  refine zV_iconst hX (v := nI 0) dX11_member_20 (by decide) ?_
  refine zV_cV3p hX hR hl dX11_member_21 (zc_badF0 l G _ _ zw_same) zt_X11_bad rfl zml_X11_166 zo300.1 ⟨by decide, by decide⟩ (Nat.le_of_ble_eq_true rfl) ?_
  dsimp only [Option.toList, List.cons_append, List.nil_append]
  refine zV_if_neB hX (tgt := 51) dX11_member_24 (by decide) (fun c_24 => absurd c_24 (by decide)) (fun c_24 => ?_)
  refine zV_aload_n hX dX11_member_27 rfl ?_
  refine zV_iload_n hX dX11_member_28 rfl ?_
  refine zV_iconst hX (v := nI 0) dX11_member_29 (by decide) ?_
  refine zV_bipush hX (v := nI 7) dX11_member_30 (by decide) ?_
  refine zV_cS3p hX hR hl dX11_member_32 (zc_min l G _ _ _ _) zt_X11_in rfl zml_X11_162 (by decide) (Nat.le_of_ble_eq_true rfl) ?_
  dsimp only [Option.toList, List.cons_append, List.nil_append]
  refine zV_topi (zb true) (by rw [mIn_nI (by omega) (by omega) (by omega), decide_eq_false (by omega), Bool.not_false]) ?_
  refine zV_if_neB hX (tgt := 42) dX11_member_35 (by decide) (fun c_35 => ?_) (fun c_35 => absurd c_35 (by decide))
  refine zV_iconst hX (v := nI 0) dX11_member_42 (by decide) ?_
  refine zV_iconst hX (v := nI 2) dX11_member_43 (by decide) ?_
  refine zV_iconst hX (v := nI 1) dX11_member_44 (by decide) ?_
  refine zV_cV3p hX hR hl dX11_member_45 (zc_badF1 l G _ _ zw_same) zt_X11_bad rfl zml_X11_166 zo300.1 ⟨by decide, by decide⟩ (Nat.le_of_ble_eq_true rfl) ?_
  dsimp only [Option.toList, List.cons_append, List.nil_append]
  refine zV_if_eqB hX (tgt := 53) dX11_member_48 (by decide) (fun c_48 => ?_) (fun c_48 => absurd c_48 (by decide))
  refine zV_iload_n hX dX11_member_53 rfl ?_
  refine zV_if_neN hX (tgt := 64) dX11_member_54 (by decide) (by omega) (fun c_54 => ?_) (fun c_54 => absurd c_54 (by omega))
  refine zV_iload_n hX dX11_member_64 rfl ?_
  refine zV_iconst hX (v := nI 1) dX11_member_65 (by decide) ?_
  refine zV_icmp_neN hX (tgt := 83) dX11_member_66 (by decide) ⟨by omega, by omega⟩ (fun c_66 => ?_) (fun c_66 => absurd c_66 (by omega))
  refine zV_aload_n hX dX11_member_83 rfl ?_
  refine zV_geti hX dX11_member_84 zf_X11_39 zo300.1 rfl ((zw_ne (by omega)).trans hcm) ?_
  refine zV_iconst hX (v := (-1)) dX11_member_87 (by decide) ?_
  refine zV_icmp_ne hX (tgt := 93) dX11_member_88 (by decide) (fun c_88 => absurd c_88 (not_not_intro rfl)) (fun c_88 => ?_)
  refine zV_iconst hX (v := nI 0) dX11_member_91 (by decide) ?_
  exact zV_reti hX hQ hr (⟨rfl, rfl⟩) dX11_member_92
set_option maxHeartbeats 1000000 in
theorem zc_mmember (l : Launch) (G : zG) (M : zM) (n c t j k : Nat) (fs : Nat → Nat) (hn : M.1 300 9 = nI n) (hn7 : n ≤ 7) (h0 : 1 ≤ n) (ht : M.1 300 10 = nI t) (ht2 : t ≤ 2) (hcm : M.1 300 17 = nI c) (hc7 : c < 7) (hj : j < n) (hk2 : 2 ≤ k) (hk : k ≤ 7) (hfs : ∀ r, r < 5 → M.1 (1000 + 16 * 22 + j) r = nI (fs r) ∧ fs r < 2 ^ 31) : zC l G 6 yX11_member cX11_member 3 (Option.some Jvm.ClassFile.FieldType.int) [.ref (300 : Nat), .int (nI j), .int (nI k)] M (zP (some (.int (mMe n c t j fs M k))) (m0 M)) := by
  refine zC_of (by decide) (Nat.le_of_ble_eq_true rfl) (fun X Q hQ hX hl hR hr => ?_)
  refine zV_loc (L' := [.ref (300 : Nat), .int (nI j), .int (nI k)]) rfl ?_
  have hst : mSt1 c t j fs ≤ t + 1 := by unfold mSt1; split; omega; exact mStop_le _ _ (by omega)
  have hfs0 : ∀ r, r < 5 → (m0 M).1 (1000 + 16 * 22 + j) r = nI (fs r) ∧ fs r < 2 ^ 31 := fun r hr => ⟨(zw_ne (by omega)).trans (hfs r hr).1, (hfs r hr).2⟩
  refine zV_aload_n hX dX11_member_0 rfl ?_
  refine zV_iconst hX (v := nI 0) dX11_member_1 (by decide) ?_
  refine zV_puti hX dX11_member_2 zf_X11_149 zp_9_0 zo300.1 rfl ?_
  refine zV_aload_n hX dX11_member_5 rfl ?_
  refine zV_aload_n hX dX11_member_6 rfl ?_
  refine zV_iload_n hX dX11_member_7 rfl ?_
  refine zV_cV1p hX hR hl dX11_member_8 (zc_isMember l G _ n _ ((zw_ne (by omega)).trans hn) hn7 h0) zt_X11_isMember rfl zml_X11_179 zo300.1 ⟨by decide, by decide⟩ (Nat.le_of_ble_eq_true rfl) ?_
  dsimp only [Option.toList, List.cons_append, List.nil_append]
  refine zV_topi (zb true) (by rw [zmem_nI (by omega) (by omega), decide_eq_true hj]) ?_
  refine zV_if_neB hX (tgt := 18) dX11_member_11 (by decide) (fun c_11 => ?_) (fun c_11 => absurd c_11 (by decide))
  refine zV_iconst hX (v := nI 0) dX11_member_18 (by decide) ?_
  refine zV_iconst hX (v := nI 1) dX11_member_19 (by decide) ?_
  refine zV_iconst hX (v := nI 0) dX11_member_20 (by decide) ?_
  refine zV_cV3p hX hR hl dX11_member_21 (zc_badF0 l G _ _ zw_same) zt_X11_bad rfl zml_X11_166 zo300.1 ⟨by decide, by decide⟩ (Nat.le_of_ble_eq_true rfl) ?_
  dsimp only [Option.toList, List.cons_append, List.nil_append]
  refine zV_if_neB hX (tgt := 51) dX11_member_24 (by decide) (fun c_24 => absurd c_24 (by decide)) (fun c_24 => ?_)
  refine zV_aload_n hX dX11_member_27 rfl ?_
  refine zV_iload_n hX dX11_member_28 rfl ?_
  refine zV_iconst hX (v := nI 0) dX11_member_29 (by decide) ?_
  refine zV_bipush hX (v := nI 7) dX11_member_30 (by decide) ?_
  refine zV_cS3p hX hR hl dX11_member_32 (zc_min l G _ _ _ _) zt_X11_in rfl zml_X11_162 (by decide) (Nat.le_of_ble_eq_true rfl) ?_
  dsimp only [Option.toList, List.cons_append, List.nil_append]
  refine zV_topi (zb true) (by rw [mIn_nI (by omega) (by omega) (by omega), decide_eq_false (by omega), Bool.not_false]) ?_
  refine zV_if_neB hX (tgt := 42) dX11_member_35 (by decide) (fun c_35 => ?_) (fun c_35 => absurd c_35 (by decide))
  refine zV_iconst hX (v := nI 0) dX11_member_42 (by decide) ?_
  refine zV_iconst hX (v := nI 2) dX11_member_43 (by decide) ?_
  refine zV_iconst hX (v := nI 1) dX11_member_44 (by decide) ?_
  refine zV_cV3p hX hR hl dX11_member_45 (zc_badF1 l G _ _ zw_same) zt_X11_bad rfl zml_X11_166 zo300.1 ⟨by decide, by decide⟩ (Nat.le_of_ble_eq_true rfl) ?_
  dsimp only [Option.toList, List.cons_append, List.nil_append]
  refine zV_if_eqB hX (tgt := 53) dX11_member_48 (by decide) (fun c_48 => ?_) (fun c_48 => absurd c_48 (by decide))
  refine zV_iload_n hX dX11_member_53 rfl ?_
  refine zV_if_neN hX (tgt := 64) dX11_member_54 (by decide) (by omega) (fun c_54 => ?_) (fun c_54 => absurd c_54 (by omega))
  refine zV_iload_n hX dX11_member_64 rfl ?_
  refine zV_iconst hX (v := nI 1) dX11_member_65 (by decide) ?_
  refine zV_icmp_neN hX (tgt := 83) dX11_member_66 (by decide) ⟨by omega, by omega⟩ (fun c_66 => ?_) (fun c_66 => absurd c_66 (by omega))
  refine zV_aload_n hX dX11_member_83 rfl ?_
  refine zV_geti hX dX11_member_84 zf_X11_39 zo300.1 rfl ((zw_ne (by omega)).trans hcm) ?_
  refine zV_iconst hX (v := (-1)) dX11_member_87 (by decide) ?_
  refine zV_icmp_ne hX (tgt := 93) dX11_member_88 (by decide) (fun c_88 => ?_) (fun c_88 => absurd c_88 ((by decide : ∀ a, a < 7 → ¬ nI a = -1) c hc7))
  refine zV_iload_n hX dX11_member_93 rfl ?_
  refine zV_case 2 (fun s_2 => ?_) (fun s_2 => ?_)
  · refine zV_tin hX (tgt := 128) dX11_member_94 (by decide) (by decide) (off := 34) (by decide) (by decide) ?_
    refine zV_aload_n hX dX11_member_128 rfl ?_
    refine zV_iload_n hX dX11_member_129 rfl ?_
    refine zV_aload_n hX dX11_member_130 rfl ?_
    refine zV_geti hX dX11_member_131 zf_X11_23 zo300.1 rfl ((zw_ne (by omega)).trans ht) ?_
    refine zV_iconst hX (v := nI 1) dX11_member_134 (by decide) ?_
    refine zV_iaddN hX dX11_member_135 ?_
    refine zV_cV2p hX hR hl dX11_member_136 (zc_mdecided l G (m0 M) n c (t + 1) j ((zw_ne (by omega)).trans hn) hn7 ((zw_ne (by omega)).trans hcm) hc7 (by omega) (by omega)) zt_X11_decided rfl zml_X11_362 zo300.1 ⟨by decide, by decide⟩ (Nat.le_of_ble_eq_true rfl) ?_
    dsimp only [Option.toList, List.cons_append, List.nil_append]
    exact zV_reti hX hQ hr (⟨by (first | rw [show k = 2 from (nI_eq (by omega) (by decide)).mp s_2] | rw [show k = 3 from (nI_eq (by omega) (by decide)).mp s_3] | rw [show k = 4 from (nI_eq (by omega) (by decide)).mp s_4] | rw [show k = 5 from (nI_eq (by omega) (by decide)).mp s_5] | rw [show k = 6 from (nI_eq (by omega) (by decide)).mp s_6] | rw [me7 k hk2 hk s_2 s_3 s_4 s_5 s_6]); first | rfl | (unfold mMe; rw [if_pos c_145]; done) | (unfold mMe; rw [if_neg c_145]; done) | (unfold mMe; rw [if_pos c_145]; rfl) | (unfold mMe; rw [if_neg c_145]; rfl), rfl⟩) dX11_member_139
  refine zV_case 3 (fun s_3 => ?_) (fun s_3 => ?_)
  · refine zV_tin hX (tgt := 140) dX11_member_94 (by decide) (by decide) (off := 46) (by decide) (by decide) ?_
    refine zV_iload_n hX dX11_member_140 rfl ?_
    refine zV_aload_n hX dX11_member_141 rfl ?_
    refine zV_geti hX dX11_member_142 zf_X11_39 zo300.1 rfl ((zw_ne (by omega)).trans hcm) ?_
    refine zV_icmp_neN hX (tgt := 152) dX11_member_145 (by decide) ⟨by omega, by omega⟩ (fun c_145 => ?_) (fun c_145 => ?_)
    · refine zV_aload_n hX dX11_member_152 rfl ?_
      refine zV_geta hX dX11_member_153 zf_X11_50 zo300.1 rfl ?_
      refine zV_iload_n hX dX11_member_156 rfl ?_
      refine zV_aald hX dX11_member_157 (t := 0) (zo300.a 22 rfl) (by decide) (rfl) ⟨by omega, by omega⟩ (mRow 22 (by decide)) ?_
      refine zV_aload_n hX dX11_member_158 rfl ?_
      refine zV_geti hX dX11_member_159 zf_X11_23 zo300.1 rfl ((zw_ne (by omega)).trans ht) ?_
      refine zV_iconst hX (v := nI 1) dX11_member_162 (by decide) ?_
      refine zV_iaddN hX dX11_member_163 ?_
      refine zV_iald hX (v := M.1 (1000 + 16 * 22 + j) (t + 1)) dX11_member_164 (mSh22 (by omega)) (rfl) ⟨by omega, by omega⟩ (zw_ne (by omega)) ?_
      exact zV_reti hX hQ hr (⟨by (first | rw [show k = 2 from (nI_eq (by omega) (by decide)).mp s_2] | rw [show k = 3 from (nI_eq (by omega) (by decide)).mp s_3] | rw [show k = 4 from (nI_eq (by omega) (by decide)).mp s_4] | rw [show k = 5 from (nI_eq (by omega) (by decide)).mp s_5] | rw [show k = 6 from (nI_eq (by omega) (by decide)).mp s_6] | rw [me7 k hk2 hk s_2 s_3 s_4 s_5 s_6]); first | rfl | (unfold mMe; rw [if_pos c_145]; done) | (unfold mMe; rw [if_neg c_145]; done) | (unfold mMe; rw [if_pos c_145]; rfl) | (unfold mMe; rw [if_neg c_145]; rfl), rfl⟩) dX11_member_165
    · refine zV_iconst hX (v := nI 0) dX11_member_148 (by decide) ?_
      refine zV_goto hX (tgt := 165) dX11_member_149 (by decide) ?_
      exact zV_reti hX hQ hr (⟨by (first | rw [show k = 2 from (nI_eq (by omega) (by decide)).mp s_2] | rw [show k = 3 from (nI_eq (by omega) (by decide)).mp s_3] | rw [show k = 4 from (nI_eq (by omega) (by decide)).mp s_4] | rw [show k = 5 from (nI_eq (by omega) (by decide)).mp s_5] | rw [show k = 6 from (nI_eq (by omega) (by decide)).mp s_6] | rw [me7 k hk2 hk s_2 s_3 s_4 s_5 s_6]); first | rfl | (unfold mMe; rw [if_pos c_145]; done) | (unfold mMe; rw [if_neg c_145]; done) | (unfold mMe; rw [if_pos c_145]; rfl) | (unfold mMe; rw [if_neg c_145]; rfl), rfl⟩) dX11_member_165
  refine zV_case 4 (fun s_4 => ?_) (fun s_4 => ?_)
  · refine zV_tin hX (tgt := 166) dX11_member_94 (by decide) (by decide) (off := 72) (by decide) (by decide) ?_
    refine zV_aload_n hX dX11_member_166 rfl ?_
    refine zV_iload_n hX dX11_member_167 rfl ?_
    refine zV_cV1p hX hR hl dX11_member_168 (zc_stop l G (m0 M) c t j fs ((zw_ne (by omega)).trans hcm) hc7 ((zw_ne (by omega)).trans ht) ht2 (by omega) hfs0) zt_X11_stop rfl zml_X11_381 zo300.1 ⟨by decide, by decide⟩ (Nat.le_of_ble_eq_true rfl) ?_
    dsimp only [Option.toList, List.cons_append, List.nil_append]
    refine zV_topi (nI (mSt1 c t j fs)) rfl ?_
    exact zV_reti hX hQ hr (⟨by (first | rw [show k = 2 from (nI_eq (by omega) (by decide)).mp s_2] | rw [show k = 3 from (nI_eq (by omega) (by decide)).mp s_3] | rw [show k = 4 from (nI_eq (by omega) (by decide)).mp s_4] | rw [show k = 5 from (nI_eq (by omega) (by decide)).mp s_5] | rw [show k = 6 from (nI_eq (by omega) (by decide)).mp s_6] | rw [me7 k hk2 hk s_2 s_3 s_4 s_5 s_6]); first | rfl | (unfold mMe; rw [if_pos c_145]; done) | (unfold mMe; rw [if_neg c_145]; done) | (unfold mMe; rw [if_pos c_145]; rfl) | (unfold mMe; rw [if_neg c_145]; rfl), rfl⟩) dX11_member_171
  refine zV_case 5 (fun s_5 => ?_) (fun s_5 => ?_)
  · refine zV_tin hX (tgt := 172) dX11_member_94 (by decide) (by decide) (off := 78) (by decide) (by decide) ?_
    refine zV_aload_n hX dX11_member_172 rfl ?_
    refine zV_iload_n hX dX11_member_173 rfl ?_
    refine zV_aload_n hX dX11_member_174 rfl ?_
    refine zV_iload_n hX dX11_member_175 rfl ?_
    refine zV_cV1p hX hR hl dX11_member_176 (zc_stop l G (m0 M) c t j fs ((zw_ne (by omega)).trans hcm) hc7 ((zw_ne (by omega)).trans ht) ht2 (by omega) hfs0) zt_X11_stop rfl zml_X11_381 zo300.1 ⟨by decide, by decide⟩ (Nat.le_of_ble_eq_true rfl) ?_
    dsimp only [Option.toList, List.cons_append, List.nil_append]
    refine zV_topi (nI (mSt1 c t j fs)) rfl ?_
    refine zV_cV2p hX hR hl dX11_member_179 (zc_mdecided l G (m0 M) n c (mSt1 c t j fs) j ((zw_ne (by omega)).trans hn) hn7 ((zw_ne (by omega)).trans hcm) hc7 (by omega) (by omega)) zt_X11_decided rfl zml_X11_362 zo300.1 ⟨by decide, by decide⟩ (Nat.le_of_ble_eq_true rfl) ?_
    dsimp only [Option.toList, List.cons_append, List.nil_append]
    exact zV_reti hX hQ hr (⟨by (first | rw [show k = 2 from (nI_eq (by omega) (by decide)).mp s_2] | rw [show k = 3 from (nI_eq (by omega) (by decide)).mp s_3] | rw [show k = 4 from (nI_eq (by omega) (by decide)).mp s_4] | rw [show k = 5 from (nI_eq (by omega) (by decide)).mp s_5] | rw [show k = 6 from (nI_eq (by omega) (by decide)).mp s_6] | rw [me7 k hk2 hk s_2 s_3 s_4 s_5 s_6]); first | rfl | (unfold mMe; rw [if_pos c_145]; done) | (unfold mMe; rw [if_neg c_145]; done) | (unfold mMe; rw [if_pos c_145]; rfl) | (unfold mMe; rw [if_neg c_145]; rfl), rfl⟩) dX11_member_182
  refine zV_case 6 (fun s_6 => ?_) (fun s_6 => ?_)
  · refine zV_tin hX (tgt := 183) dX11_member_94 (by decide) (by decide) (off := 89) (by decide) (by decide) ?_
    refine zV_aload_n hX dX11_member_183 rfl ?_
    refine zV_iload_n hX dX11_member_184 rfl ?_
    refine zV_cV1p hX hR hl dX11_member_185 (zc_missed l G (m0 M) n c t j ((zw_ne (by omega)).trans hn) hn7 ((zw_ne (by omega)).trans hcm) hc7 ((zw_ne (by omega)).trans ht) ht2 h0 (by omega)) zt_X11_missed rfl zml_X11_384 zo300.1 ⟨by decide, by decide⟩ (Nat.le_of_ble_eq_true rfl) ?_
    dsimp only [Option.toList, List.cons_append, List.nil_append]
    exact zV_reti hX hQ hr (⟨by (first | rw [show k = 2 from (nI_eq (by omega) (by decide)).mp s_2] | rw [show k = 3 from (nI_eq (by omega) (by decide)).mp s_3] | rw [show k = 4 from (nI_eq (by omega) (by decide)).mp s_4] | rw [show k = 5 from (nI_eq (by omega) (by decide)).mp s_5] | rw [show k = 6 from (nI_eq (by omega) (by decide)).mp s_6] | rw [me7 k hk2 hk s_2 s_3 s_4 s_5 s_6]); first | rfl | (unfold mMe; rw [if_pos c_145]; done) | (unfold mMe; rw [if_neg c_145]; done) | (unfold mMe; rw [if_pos c_145]; rfl) | (unfold mMe; rw [if_neg c_145]; rfl), rfl⟩) dX11_member_188
  refine zV_tout hX (tgt := 189) dX11_member_94 (by rw [me7 k hk2 hk s_2 s_3 s_4 s_5 s_6]; exact Or.inr (by decide)) (by decide) ?_
  refine zV_aload_n hX dX11_member_189 rfl ?_
  refine zV_geta hX dX11_member_190 zf_X11_53 zo300.1 rfl ?_
  refine zV_iload_n hX dX11_member_193 rfl ?_
  refine zV_iald hX (v := M.1 324 j) dX11_member_194 (zo300.a 23 rfl) (rfl) ⟨by omega, by omega⟩ (zw_ne (by omega)) ?_
  exact zV_reti hX hQ hr (⟨by (first | rw [show k = 2 from (nI_eq (by omega) (by decide)).mp s_2] | rw [show k = 3 from (nI_eq (by omega) (by decide)).mp s_3] | rw [show k = 4 from (nI_eq (by omega) (by decide)).mp s_4] | rw [show k = 5 from (nI_eq (by omega) (by decide)).mp s_5] | rw [show k = 6 from (nI_eq (by omega) (by decide)).mp s_6] | rw [me7 k hk2 hk s_2 s_3 s_4 s_5 s_6]); first | rfl | (unfold mMe; rw [if_pos c_145]; done) | (unfold mMe; rw [if_neg c_145]; done) | (unfold mMe; rw [if_pos c_145]; rfl) | (unfold mMe; rw [if_neg c_145]; rfl), rfl⟩) dX11_member_195
set_option maxHeartbeats 1000000 in
theorem zc_mmemberX (l : Launch) (G : zG) (M : zM) (n : Nat) (x k : Int32) (hn : M.1 300 9 = nI n) (hn7 : n ≤ 7) (h0 : 1 ≤ n) (hx : zmem x n = false) : zC l G 6 yX11_member cX11_member 3 (Option.some Jvm.ClassFile.FieldType.int) [.ref (300 : Nat), .int x, .int k] M (zP (some (.int (nI 0))) (mTw (nI 1) (nI 0) M)) := by
  refine zC_of (by decide) (Nat.le_of_ble_eq_true rfl) (fun X Q hQ hX hl hR hr => ?_)
  refine zV_loc (L' := [.ref (300 : Nat), .int x, .int k]) rfl ?_
  refine zV_aload_n hX dX11_member_0 rfl ?_
  refine zV_iconst hX (v := nI 0) dX11_member_1 (by decide) ?_
  refine zV_puti hX dX11_member_2 zf_X11_149 zp_9_0 zo300.1 rfl ?_
  refine zV_aload_n hX dX11_member_5 rfl ?_
  refine zV_aload_n hX dX11_member_6 rfl ?_
  refine zV_iload_n hX dX11_member_7 rfl ?_
  refine zV_cV1p hX hR hl dX11_member_8 (zc_isMember l G _ n _ ((zw_ne (by omega)).trans hn) hn7 h0) zt_X11_isMember rfl zml_X11_179 zo300.1 ⟨by decide, by decide⟩ (Nat.le_of_ble_eq_true rfl) ?_
  dsimp only [Option.toList, List.cons_append, List.nil_append]
  refine zV_topi (zb false) (by rw [hx]) ?_
  refine zV_if_neB hX (tgt := 18) dX11_member_11 (by decide) (fun c_11 => absurd c_11 (by decide)) (fun c_11 => ?_)
  refine zV_iconst hX (v := nI 1) dX11_member_14 (by decide) ?_
  refine zV_goto hX (tgt := 19) dX11_member_15 (by decide) ?_
  refine zV_iconst hX (v := nI 1) dX11_member_19 (by decide) ?_
  refine zV_iconst hX (v := nI 0) dX11_member_20 (by decide) ?_
  refine zV_cV3p hX hR hl dX11_member_21 (zc_badT0 l G _ _ zw_same (by decide)) zt_X11_bad rfl zml_X11_166 zo300.1 ⟨by decide, by decide⟩ (Nat.le_of_ble_eq_true rfl) ?_
  dsimp only [Option.toList, List.cons_append, List.nil_append]
  refine zV_if_neB hX (tgt := 51) dX11_member_24 (by decide) (fun c_24 => ?_) (fun c_24 => absurd c_24 (by decide))
  refine zV_iconst hX (v := nI 0) dX11_member_51 (by decide) ?_
  exact zV_reti hX hQ hr (⟨rfl, rfl⟩) dX11_member_52
set_option maxHeartbeats 1000000 in
theorem zc_mmemberK (l : Launch) (G : zG) (M : zM) (n j : Nat) (k : Int32) (hn : M.1 300 9 = nI n) (hn7 : n ≤ 7) (h0 : 1 ≤ n) (hj : j < n) (hk : mIn k (nI 0) (nI 7) = false) : zC l G 6 yX11_member cX11_member 3 (Option.some Jvm.ClassFile.FieldType.int) [.ref (300 : Nat), .int (nI j), .int k] M (zP (some (.int (nI 0))) (mTw (nI 2) (nI 1) M)) := by
  refine zC_of (by decide) (Nat.le_of_ble_eq_true rfl) (fun X Q hQ hX hl hR hr => ?_)
  refine zV_loc (L' := [.ref (300 : Nat), .int (nI j), .int k]) rfl ?_
  refine zV_aload_n hX dX11_member_0 rfl ?_
  refine zV_iconst hX (v := nI 0) dX11_member_1 (by decide) ?_
  refine zV_puti hX dX11_member_2 zf_X11_149 zp_9_0 zo300.1 rfl ?_
  refine zV_aload_n hX dX11_member_5 rfl ?_
  refine zV_aload_n hX dX11_member_6 rfl ?_
  refine zV_iload_n hX dX11_member_7 rfl ?_
  refine zV_cV1p hX hR hl dX11_member_8 (zc_isMember l G _ n _ ((zw_ne (by omega)).trans hn) hn7 h0) zt_X11_isMember rfl zml_X11_179 zo300.1 ⟨by decide, by decide⟩ (Nat.le_of_ble_eq_true rfl) ?_
  dsimp only [Option.toList, List.cons_append, List.nil_append]
  refine zV_topi (zb true) (by rw [zmem_nI (by omega) (by omega), decide_eq_true hj]) ?_
  refine zV_if_neB hX (tgt := 18) dX11_member_11 (by decide) (fun c_11 => ?_) (fun c_11 => absurd c_11 (by decide))
  refine zV_iconst hX (v := nI 0) dX11_member_18 (by decide) ?_
  refine zV_iconst hX (v := nI 1) dX11_member_19 (by decide) ?_
  refine zV_iconst hX (v := nI 0) dX11_member_20 (by decide) ?_
  refine zV_cV3p hX hR hl dX11_member_21 (zc_badF0 l G _ _ zw_same) zt_X11_bad rfl zml_X11_166 zo300.1 ⟨by decide, by decide⟩ (Nat.le_of_ble_eq_true rfl) ?_
  dsimp only [Option.toList, List.cons_append, List.nil_append]
  refine zV_if_neB hX (tgt := 51) dX11_member_24 (by decide) (fun c_24 => absurd c_24 (by decide)) (fun c_24 => ?_)
  refine zV_aload_n hX dX11_member_27 rfl ?_
  refine zV_iload_n hX dX11_member_28 rfl ?_
  refine zV_iconst hX (v := nI 0) dX11_member_29 (by decide) ?_
  refine zV_bipush hX (v := nI 7) dX11_member_30 (by decide) ?_
  refine zV_cS3p hX hR hl dX11_member_32 (zc_min l G _ _ _ _) zt_X11_in rfl zml_X11_162 (by decide) (Nat.le_of_ble_eq_true rfl) ?_
  dsimp only [Option.toList, List.cons_append, List.nil_append]
  refine zV_topi (zb false) (by rw [hk]) ?_
  refine zV_if_neB hX (tgt := 42) dX11_member_35 (by decide) (fun c_35 => absurd c_35 (by decide)) (fun c_35 => ?_)
  refine zV_iconst hX (v := nI 1) dX11_member_38 (by decide) ?_
  refine zV_goto hX (tgt := 43) dX11_member_39 (by decide) ?_
  refine zV_iconst hX (v := nI 2) dX11_member_43 (by decide) ?_
  refine zV_iconst hX (v := nI 1) dX11_member_44 (by decide) ?_
  refine zV_cV3p hX hR hl dX11_member_45 (zc_badT1 l G _ _ zw_same (by decide)) zt_X11_bad rfl zml_X11_166 zo300.1 ⟨by decide, by decide⟩ (Nat.le_of_ble_eq_true rfl) ?_
  dsimp only [Option.toList, List.cons_append, List.nil_append]
  refine zV_if_eqB hX (tgt := 53) dX11_member_48 (by decide) (fun c_48 => absurd c_48 (by decide)) (fun c_48 => ?_)
  refine zV_iconst hX (v := nI 0) dX11_member_51 (by decide) ?_
  exact zV_reti hX hQ hr (⟨rfl, rfl⟩) dX11_member_52
