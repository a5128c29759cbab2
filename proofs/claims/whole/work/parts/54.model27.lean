theorem zlen3 {p : Nat} (h : zlen p = 3) : 0 < p := by
  rcases Nat.eq_zero_or_pos p with q | q
  · rw [q] at h; exact absurd h (by decide)
  · exact q
theorem zlen_le (p : Nat) : zlen p ≤ 3 := by
  unfold zlen
  split
  · decide
  · split <;> decide
theorem zsec_7 : ∀ p, p < 57 → zsec p < 7 := by decide
set_option maxHeartbeats 1000000 in
theorem zc_magreed0 (l : Launch) (G : zG) (M : zM) (n c t : Nat) (hn : M.1 300 9 = nI n) (hn7 : n ≤ 7) (h0 : 1 ≤ n) (ht : M.1 300 10 = nI t) (ht2 : t ≤ 2) (hcm : M.1 300 17 = nI c) (hc7 : c < 7) : zC l G 7 yX11_agreed cX11_agreed 2 (Option.some Jvm.ClassFile.FieldType.boolean) [.ref (300 : Nat), .int (nI 0)] M (zP (some (.int (zb (mAgr (m0 M) n c t)))) (m0 M)) := by
  refine zC_of (by decide) (Nat.le_of_ble_eq_true rfl) (fun X Q hQ hX hl hR hr => ?_)
  refine zV_loc (L' := [.ref (300 : Nat), .int (nI 0)]) rfl ?_
  refine zV_aload_n hX dX11_agreed_0 rfl ?_
  refine zV_iconst hX (v := nI 0) dX11_agreed_1 (by decide) ?_
  refine zV_puti hX dX11_agreed_2 zf_X11_149 zp_9_0 zo300.1 rfl ?_
  refine zV_aload_n hX dX11_agreed_5 rfl ?_
  refine zV_iload_n hX dX11_agreed_6 rfl ?_
  refine zV_iconst hX (v := nI 0) dX11_agreed_7 (by decide) ?_
  refine zV_iconst hX (v := nI 1) dX11_agreed_8 (by decide) ?_
  refine zV_cS3p hX hR hl dX11_agreed_9 (zc_min l G _ _ _ _) zt_X11_in rfl zml_X11_162 (by decide) (Nat.le_of_ble_eq_true rfl) ?_
  dsimp only [Option.toList, List.cons_append, List.nil_append]
  refine zV_topi (zb true) (by rw [show mIn (nI 0) (nI 0) (nI 1) = true by decide]) ?_
  refine zV_if_neB hX (tgt := 19) dX11_agreed_12 (by decide) (fun c_12 => ?_) (fun c_12 => absurd c_12 (by decide))
  refine zV_iconst hX (v := nI 0) dX11_agreed_19 (by decide) ?_
  refine zV_iconst hX (v := nI 1) dX11_agreed_20 (by decide) ?_
  refine zV_iconst hX (v := nI 1) dX11_agreed_21 (by decide) ?_
  refine zV_cV3p hX hR hl dX11_agreed_22 (zc_badF1 l G _ _ zw_same) zt_X11_bad rfl zml_X11_166 zo300.1 ⟨by decide, by decide⟩ (Nat.le_of_ble_eq_true rfl) ?_
  dsimp only [Option.toList, List.cons_append, List.nil_append]
  refine zV_if_eqB hX (tgt := 30) dX11_agreed_25 (by decide) (fun c_25 => ?_) (fun c_25 => absurd c_25 (by decide))
  refine zV_aload_n hX dX11_agreed_30 rfl ?_
  refine zV_geti hX dX11_agreed_31 zf_X11_39 zo300.1 rfl ((zw_ne (by omega)).trans hcm) ?_
  refine zV_iconst hX (v := (-1)) dX11_agreed_34 (by decide) ?_
  refine zV_icmp_eq hX (tgt := 66) dX11_agreed_35 (by decide) (fun c_35 => absurd c_35 ((by decide : ∀ a, a < 7 → ¬ nI a = -1) c hc7)) (fun c_35 => ?_)
  refine zV_iload_n hX dX11_agreed_38 rfl ?_
  refine zV_iconst hX (v := nI 1) dX11_agreed_39 (by decide) ?_
  refine zV_icmp_neN hX (tgt := 54) dX11_agreed_40 (by decide) ⟨by decide, by decide⟩ (fun c_40 => ?_) (fun c_40 => absurd c_40 (by decide))
  refine zV_aload_n hX dX11_agreed_54 rfl ?_
  refine zV_iload_n hX dX11_agreed_55 rfl ?_
  refine zV_cV1p hX hR hl dX11_agreed_56 (zc_isAgreed0 l G (m0 M) n c t ((zw_ne (by omega)).trans hn) hn7 ((zw_ne (by omega)).trans hcm) hc7 ((zw_ne (by omega)).trans ht) ht2) zt_X11_isAgreed rfl zml_X11_396 zo300.1 ⟨by decide, by decide⟩ (Nat.le_of_ble_eq_true rfl) ?_
  dsimp only [Option.toList, List.cons_append, List.nil_append]
  refine zV_if_eqB hX (tgt := 66) dX11_agreed_59 (by decide) (fun c_59 => ?_) (fun c_59 => ?_)
  · refine zV_iconst hX (v := nI 0) dX11_agreed_66 (by decide) ?_
    exact zV_retz hX hQ hr (rfl) (⟨by rw [c_59]; rfl, rfl⟩) dX11_agreed_67
  · refine zV_iconst hX (v := nI 1) dX11_agreed_62 (by decide) ?_
    refine zV_goto hX (tgt := 67) dX11_agreed_63 (by decide) ?_
    exact zV_retz hX hQ hr (rfl) (⟨by rw [c_59]; rfl, rfl⟩) dX11_agreed_67
set_option maxHeartbeats 1000000 in
theorem zc_magreed1 (l : Launch) (G : zG) (M : zM) (n c t : Nat) (hn : M.1 300 9 = nI n) (hn7 : n ≤ 7) (h0 : 1 ≤ n) (ht : M.1 300 10 = nI t) (ht2 : t ≤ 2) (hcm : M.1 300 17 = nI c) (hc7 : c < 7) : zC l G 7 yX11_agreed cX11_agreed 2 (Option.some Jvm.ClassFile.FieldType.boolean) [.ref (300 : Nat), .int (nI 1)] M (zP (some (.int (zb (!mTrue (m0 M) c || mObe (m0 M) n c t)))) (m0 M)) := by
  refine zC_of (by decide) (Nat.le_of_ble_eq_true rfl) (fun X Q hQ hX hl hR hr => ?_)
  refine zV_loc (L' := [.ref (300 : Nat), .int (nI 1)]) rfl ?_
  refine zV_aload_n hX dX11_agreed_0 rfl ?_
  refine zV_iconst hX (v := nI 0) dX11_agreed_1 (by decide) ?_
  refine zV_puti hX dX11_agreed_2 zf_X11_149 zp_9_0 zo300.1 rfl ?_
  refine zV_aload_n hX dX11_agreed_5 rfl ?_
  refine zV_iload_n hX dX11_agreed_6 rfl ?_
  refine zV_iconst hX (v := nI 0) dX11_agreed_7 (by decide) ?_
  refine zV_iconst hX (v := nI 1) dX11_agreed_8 (by decide) ?_
  refine zV_cS3p hX hR hl dX11_agreed_9 (zc_min l G _ _ _ _) zt_X11_in rfl zml_X11_162 (by decide) (Nat.le_of_ble_eq_true rfl) ?_
  dsimp only [Option.toList, List.cons_append, List.nil_append]
  refine zV_topi (zb true) (by rw [show mIn (nI 1) (nI 0) (nI 1) = true by decide]) ?_
  refine zV_if_neB hX (tgt := 19) dX11_agreed_12 (by decide) (fun c_12 => ?_) (fun c_12 => absurd c_12 (by decide))
  refine zV_iconst hX (v := nI 0) dX11_agreed_19 (by decide) ?_
  refine zV_iconst hX (v := nI 1) dX11_agreed_20 (by decide) ?_
  refine zV_iconst hX (v := nI 1) dX11_agreed_21 (by decide) ?_
  refine zV_cV3p hX hR hl dX11_agreed_22 (zc_badF1 l G _ _ zw_same) zt_X11_bad rfl zml_X11_166 zo300.1 ⟨by decide, by decide⟩ (Nat.le_of_ble_eq_true rfl) ?_
  dsimp only [Option.toList, List.cons_append, List.nil_append]
  refine zV_if_eqB hX (tgt := 30) dX11_agreed_25 (by decide) (fun c_25 => ?_) (fun c_25 => absurd c_25 (by decide))
  refine zV_aload_n hX dX11_agreed_30 rfl ?_
  refine zV_geti hX dX11_agreed_31 zf_X11_39 zo300.1 rfl ((zw_ne (by omega)).trans hcm) ?_
  refine zV_iconst hX (v := (-1)) dX11_agreed_34 (by decide) ?_
  refine zV_icmp_eq hX (tgt := 66) dX11_agreed_35 (by decide) (fun c_35 => absurd c_35 ((by decide : ∀ a, a < 7 → ¬ nI a = -1) c hc7)) (fun c_35 => ?_)
  refine zV_iload_n hX dX11_agreed_38 rfl ?_
  refine zV_iconst hX (v := nI 1) dX11_agreed_39 (by decide) ?_
  refine zV_icmp_neN hX (tgt := 54) dX11_agreed_40 (by decide) ⟨by decide, by decide⟩ (fun c_40 => absurd c_40 (by decide)) (fun c_40 => ?_)
  refine zV_aload_n hX dX11_agreed_43 rfl ?_
  refine zV_aload_n hX dX11_agreed_44 rfl ?_
  refine zV_geti hX dX11_agreed_45 zf_X11_39 zo300.1 rfl ((zw_ne (by omega)).trans hcm) ?_
  refine zV_cV1p hX hR hl dX11_agreed_48 (zc_isTrue l G (m0 M) c) zt_X11_isTrue rfl zml_X11_359 zo300.1 ⟨by decide, by decide⟩ (Nat.le_of_ble_eq_true rfl) ?_
  dsimp only [Option.toList, List.cons_append, List.nil_append]
  refine zV_if_eqB hX (tgt := 62) dX11_agreed_51 (by decide) (fun c_51 => ?_) (fun c_51 => ?_)
  · refine zV_iconst hX (v := nI 1) dX11_agreed_62 (by decide) ?_
    refine zV_goto hX (tgt := 67) dX11_agreed_63 (by decide) ?_
    exact zV_retz hX hQ hr (rfl) (⟨by first | (rw [c_51]; rfl) | (rw [c_51, c_59]; rfl), rfl⟩) dX11_agreed_67
  · refine zV_aload_n hX dX11_agreed_54 rfl ?_
    refine zV_iload_n hX dX11_agreed_55 rfl ?_
    refine zV_cV1p hX hR hl dX11_agreed_56 (zc_isAgreed1 l G (m0 M) n c t ((zw_ne (by omega)).trans hn) hn7 ((zw_ne (by omega)).trans hcm) hc7 ((zw_ne (by omega)).trans ht) ht2) zt_X11_isAgreed rfl zml_X11_396 zo300.1 ⟨by decide, by decide⟩ (Nat.le_of_ble_eq_true rfl) ?_
    dsimp only [Option.toList, List.cons_append, List.nil_append]
    refine zV_if_eqB hX (tgt := 66) dX11_agreed_59 (by decide) (fun c_59 => ?_) (fun c_59 => ?_)
    · refine zV_iconst hX (v := nI 0) dX11_agreed_66 (by decide) ?_
      exact zV_retz hX hQ hr (rfl) (⟨by first | (rw [c_51]; rfl) | (rw [c_51, c_59]; rfl), rfl⟩) dX11_agreed_67
    · refine zV_iconst hX (v := nI 1) dX11_agreed_62 (by decide) ?_
      refine zV_goto hX (tgt := 67) dX11_agreed_63 (by decide) ?_
      exact zV_retz hX hQ hr (rfl) (⟨by first | (rw [c_51]; rfl) | (rw [c_51, c_59]; rfl), rfl⟩) dX11_agreed_67
set_option maxHeartbeats 1000000 in
theorem zc_mcommons (l : Launch) (G : zG) (M : zM) (n c t L : Nat) (hn : M.1 300 9 = nI n) (hn7 : n ≤ 7) (h0 : 1 ≤ n) (ht : M.1 300 10 = nI t) (ht2 : t ≤ 2) (hcm : M.1 300 17 = nI c) (hc7 : c < 7) (hL1 : 1 ≤ L) (hL : L ≤ t + 1) : zC l G 6 yX11_commons cX11_commons 4 (Option.some Jvm.ClassFile.FieldType.int) [.ref (300 : Nat), .int (nI L)] M (zP (some (.int (nI (zcnt (fun p => decide (zlen p = L) && (mPath n c p && mCom (m0 M) n c t p)) 57)))) (m0 M)) := by
  refine zC_of (by decide) (Nat.le_of_ble_eq_true rfl) (fun X Q hQ hX hl hR hr => ?_)
  refine zV_loc (L' := [.ref (300 : Nat), .int (nI L), .null, .null]) rfl ?_
  have L39 : ∀ (f9 p : Nat), 57 - p < f9 → p ≤ 57 → zV G X Q 4 0 0 39 [.ref (300 : Nat), .int (nI L), .int (nI (zcnt (fun p => decide (zlen p = L) && (mPath n c p && mCom (m0 M) n c t p)) p)), .int (nI p)] [] (m0 M) := by
    intro f9
    induction f9 with
    | zero => intro p hp1 hp2; exact absurd hp1 (Nat.not_lt_zero _)
    | succ f9 ih =>
      intro p hp1 hp2
      refine zV_iload_n hX dX11_commons_39 rfl ?_
      refine zV_bipush hX (v := nI 57) dX11_commons_40 (by decide) ?_
      refine zV_icmp_geN hX (tgt := 91) dX11_commons_42 (by decide) ⟨by omega, by omega⟩ (fun c_42 => ?_) (fun c_42 => ?_)
      · refine zV_iload_n hX dX11_commons_91 rfl ?_
        exact zV_reti hX hQ hr (⟨by first | rfl | rw [show p = 57 by omega], rfl⟩) dX11_commons_92
      · refine zV_aload_n hX dX11_commons_45 rfl ?_
        refine zV_geti hX dX11_commons_46 zf_X11_39 zo300.1 rfl ((zw_ne (by omega)).trans hcm) ?_
        refine zV_iconst hX (v := (-1)) dX11_commons_49 (by decide) ?_
        refine zV_icmp_eq hX (tgt := 91) dX11_commons_50 (by decide) (fun c_50 => absurd c_50 ((by decide : ∀ a, a < 7 → ¬ nI a = -1) c hc7)) (fun c_50 => ?_)
        refine zV_iload_n hX dX11_commons_53 rfl ?_
        refine zV_iload_n hX dX11_commons_54 rfl ?_
        refine zV_cS1p hX hR hl dX11_commons_55 (zc_lengthOf l G (m0 M) p (by omega)) zt_X11_lengthOf rfl zml_X11_321 (by decide) (Nat.le_of_ble_eq_true rfl) ?_
        dsimp only [Option.toList, List.cons_append, List.nil_append]
        refine zV_iload_n hX dX11_commons_58 rfl ?_
        refine zV_icmp_neN hX (tgt := 82) dX11_commons_59 (by decide) ⟨by have := zlen_le p; omega, by omega⟩ (fun c_59 => ?_) (fun c_59 => ?_)
        · refine zV_iconst hX (v := nI 0) dX11_commons_82 (by decide) ?_
          refine zV_iaddN hX dX11_commons_83 ?_
          refine zV_istore_n hX dX11_commons_84 (by decide) ?_
          dsimp only [zst1, zst2, zclr, zc2]
          refine zV_iincN hX (b := 1) dX11_commons_85 rfl (by decide) ?_
          dsimp only [zst1, zst2, zclr, zc2]
          refine zV_goto hX (tgt := 39) dX11_commons_88 (by decide) ?_
          have h9 := ih (p + 1) (by omega) (by omega)
          exact zV_loc (by rw [zcnt_s]; simp [c_42, c_50, c_59]) h9
        · refine zV_aload_n hX dX11_commons_62 rfl ?_
          refine zV_iload_n hX dX11_commons_63 rfl ?_
          refine zV_cV1p hX hR hl dX11_commons_64 (zc_misPath l G (m0 M) n c p ((zw_ne (by omega)).trans hn) hn7 ((zw_ne (by omega)).trans hcm) hc7 h0 (by omega)) zt_X11_isPath rfl zml_X11_324 zo300.1 ⟨by decide, by decide⟩ (Nat.le_of_ble_eq_true rfl) ?_
          dsimp only [Option.toList, List.cons_append, List.nil_append]
          refine zV_if_eqB hX (tgt := 82) dX11_commons_67 (by decide) (fun c_67 => ?_) (fun c_67 => ?_)
          · refine zV_iconst hX (v := nI 0) dX11_commons_82 (by decide) ?_
            refine zV_iaddN hX dX11_commons_83 ?_
            refine zV_istore_n hX dX11_commons_84 (by decide) ?_
            dsimp only [zst1, zst2, zclr, zc2]
            refine zV_iincN hX (b := 1) dX11_commons_85 rfl (by decide) ?_
            dsimp only [zst1, zst2, zclr, zc2]
            refine zV_goto hX (tgt := 39) dX11_commons_88 (by decide) ?_
            have h9 := ih (p + 1) (by omega) (by omega)
            exact zV_loc (by rw [zcnt_s]; simp [c_42, c_50, c_59, c_67]) h9
          · refine zV_aload_n hX dX11_commons_70 rfl ?_
            refine zV_iload_n hX dX11_commons_71 rfl ?_
            refine zV_cV1p hX hR hl dX11_commons_72 (zc_misCommon l G (m0 M) n c t p ((zw_ne (by omega)).trans hn) hn7 ((zw_ne (by omega)).trans hcm) hc7 ((zw_ne (by omega)).trans ht) ht2 (by omega)) zt_X11_isCommon rfl zml_X11_393 zo300.1 ⟨by decide, by decide⟩ (Nat.le_of_ble_eq_true rfl) ?_
            dsimp only [Option.toList, List.cons_append, List.nil_append]
            refine zV_if_eqB hX (tgt := 82) dX11_commons_75 (by decide) (fun c_75 => ?_) (fun c_75 => ?_)
            · refine zV_iconst hX (v := nI 0) dX11_commons_82 (by decide) ?_
              refine zV_iaddN hX dX11_commons_83 ?_
              refine zV_istore_n hX dX11_commons_84 (by decide) ?_
              dsimp only [zst1, zst2, zclr, zc2]
              refine zV_iincN hX (b := 1) dX11_commons_85 rfl (by decide) ?_
              dsimp only [zst1, zst2, zclr, zc2]
              refine zV_goto hX (tgt := 39) dX11_commons_88 (by decide) ?_
              have h9 := ih (p + 1) (by omega) (by omega)
              exact zV_loc (by rw [zcnt_s]; simp [c_42, c_50, c_59, c_67, c_75]) h9
            · refine zV_iconst hX (v := nI 1) dX11_commons_78 (by decide) ?_
              refine zV_goto hX (tgt := 83) dX11_commons_79 (by decide) ?_
              refine zV_iaddN hX dX11_commons_83 ?_
              refine zV_istore_n hX dX11_commons_84 (by decide) ?_
              dsimp only [zst1, zst2, zclr, zc2]
              refine zV_iincN hX (b := 1) dX11_commons_85 rfl (by decide) ?_
              dsimp only [zst1, zst2, zclr, zc2]
              refine zV_goto hX (tgt := 39) dX11_commons_88 (by decide) ?_
              have h9 := ih (p + 1) (by omega) (by omega)
              exact zV_loc (by rw [zcnt_s]; simp [c_42, c_50, c_59, c_67, c_75]) h9
  refine zV_aload_n hX dX11_commons_0 rfl ?_
  refine zV_iconst hX (v := nI 0) dX11_commons_1 (by decide) ?_
  refine zV_puti hX dX11_commons_2 zf_X11_149 zp_9_0 zo300.1 rfl ?_
  refine zV_aload_n hX dX11_commons_5 rfl ?_
  refine zV_iload_n hX dX11_commons_6 rfl ?_
  refine zV_iconst hX (v := nI 1) dX11_commons_7 (by decide) ?_
  refine zV_aload_n hX dX11_commons_8 rfl ?_
  refine zV_geti hX dX11_commons_9 zf_X11_23 zo300.1 rfl ((zw_ne (by omega)).trans ht) ?_
  refine zV_iconst hX (v := nI 1) dX11_commons_12 (by decide) ?_
  refine zV_iaddN hX dX11_commons_13 ?_
  refine zV_cS3p hX hR hl dX11_commons_14 (zc_min l G _ _ _ _) zt_X11_in rfl zml_X11_162 (by decide) (Nat.le_of_ble_eq_true rfl) ?_
  dsimp only [Option.toList, List.cons_append, List.nil_append]
  refine zV_topi (zb true) (by rw [mIn_nI (by omega) (by omega) (by omega), decide_eq_false (by omega), Bool.not_false]) ?_
  refine zV_if_neB hX (tgt := 24) dX11_commons_17 (by decide) (fun c_17 => ?_) (fun c_17 => absurd c_17 (by decide))
  refine zV_iconst hX (v := nI 0) dX11_commons_24 (by decide) ?_
  refine zV_iconst hX (v := nI 1) dX11_commons_25 (by decide) ?_
  refine zV_iconst hX (v := nI 1) dX11_commons_26 (by decide) ?_
  refine zV_cV3p hX hR hl dX11_commons_27 (zc_badF1 l G _ _ zw_same) zt_X11_bad rfl zml_X11_166 zo300.1 ⟨by decide, by decide⟩ (Nat.le_of_ble_eq_true rfl) ?_
  dsimp only [Option.toList, List.cons_append, List.nil_append]
  refine zV_if_eqB hX (tgt := 35) dX11_commons_30 (by decide) (fun c_30 => ?_) (fun c_30 => absurd c_30 (by decide))
  refine zV_iconst hX (v := nI 0) dX11_commons_35 (by decide) ?_
  refine zV_istore_n hX dX11_commons_36 (by decide) ?_
  dsimp only [zst1, zst2, zclr, zc2]
  refine zV_iconst hX (v := nI 0) dX11_commons_37 (by decide) ?_
  refine zV_istore_n hX dX11_commons_38 (by decide) ?_
  dsimp only [zst1, zst2, zclr, zc2]
  exact L39 58 0 (by omega) (by omega)
set_option maxHeartbeats 1000000 in
theorem zc_mcommonsN (l : Launch) (G : zG) (M : zM) (n t L : Nat) (hn : M.1 300 9 = nI n) (hn7 : n ≤ 7) (h0 : 1 ≤ n) (ht : M.1 300 10 = nI t) (ht2 : t ≤ 2) (hcm : M.1 300 17 = -1) (hL1 : 1 ≤ L) (hL : L ≤ t + 1) : zC l G 6 yX11_commons cX11_commons 4 (Option.some Jvm.ClassFile.FieldType.int) [.ref (300 : Nat), .int (nI L)] M (zP (some (.int (nI 0))) (m0 M)) := by
  refine zC_of (by decide) (Nat.le_of_ble_eq_true rfl) (fun X Q hQ hX hl hR hr => ?_)
  refine zV_loc (L' := [.ref (300 : Nat), .int (nI L), .null, .null]) rfl ?_
  have L39 : zV G X Q 4 0 0 39 [.ref (300 : Nat), .int (nI L), .int (nI 0), .int (nI 0)] [] (m0 M) := by
    refine zV_iload_n hX dX11_commons_39 rfl ?_
    refine zV_bipush hX (v := nI 57) dX11_commons_40 (by decide) ?_
    refine zV_icmp_geN hX (tgt := 91) dX11_commons_42 (by decide) ⟨by decide, by decide⟩ (fun c_42 => ?_) (fun c_42 => ?_)
    · refine zV_iload_n hX dX11_commons_91 rfl ?_
      exact zV_reti hX hQ hr (⟨by first | rfl, rfl⟩) dX11_commons_92
    · refine zV_aload_n hX dX11_commons_45 rfl ?_
      refine zV_geti hX dX11_commons_46 zf_X11_39 zo300.1 rfl ((zw_ne (by omega)).trans hcm) ?_
      refine zV_iconst hX (v := (-1)) dX11_commons_49 (by decide) ?_
      refine zV_icmp_eq hX (tgt := 91) dX11_commons_50 (by decide) (fun c_50 => ?_) (fun c_50 => absurd c_50 ((fun q => q rfl)))
      refine zV_iload_n hX dX11_commons_91 rfl ?_
      exact zV_reti hX hQ hr (⟨by first | rfl, rfl⟩) dX11_commons_92
  refine zV_aload_n hX dX11_commons_0 rfl ?_
  refine zV_iconst hX (v := nI 0) dX11_commons_1 (by decide) ?_
  refine zV_puti hX dX11_commons_2 zf_X11_149 zp_9_0 zo300.1 rfl ?_
  refine zV_aload_n hX dX11_commons_5 rfl ?_
  refine zV_iload_n hX dX11_commons_6 rfl ?_
  refine zV_iconst hX (v := nI 1) dX11_commons_7 (by decide) ?_
  refine zV_aload_n hX dX11_commons_8 rfl ?_
  refine zV_geti hX dX11_commons_9 zf_X11_23 zo300.1 rfl ((zw_ne (by omega)).trans ht) ?_
  refine zV_iconst hX (v := nI 1) dX11_commons_12 (by decide) ?_
  refine zV_iaddN hX dX11_commons_13 ?_
  refine zV_cS3p hX hR hl dX11_commons_14 (zc_min l G _ _ _ _) zt_X11_in rfl zml_X11_162 (by decide) (Nat.le_of_ble_eq_true rfl) ?_
  dsimp only [Option.toList, List.cons_append, List.nil_append]
  refine zV_topi (zb true) (by rw [mIn_nI (by omega) (by omega) (by omega), decide_eq_false (by omega), Bool.not_false]) ?_
  refine zV_if_neB hX (tgt := 24) dX11_commons_17 (by decide) (fun c_17 => ?_) (fun c_17 => absurd c_17 (by decide))
  refine zV_iconst hX (v := nI 0) dX11_commons_24 (by decide) ?_
  refine zV_iconst hX (v := nI 1) dX11_commons_25 (by decide) ?_
  refine zV_iconst hX (v := nI 1) dX11_commons_26 (by decide) ?_
  refine zV_cV3p hX hR hl dX11_commons_27 (zc_badF1 l G _ _ zw_same) zt_X11_bad rfl zml_X11_166 zo300.1 ⟨by decide, by decide⟩ (Nat.le_of_ble_eq_true rfl) ?_
  dsimp only [Option.toList, List.cons_append, List.nil_append]
  refine zV_if_eqB hX (tgt := 35) dX11_commons_30 (by decide) (fun c_30 => ?_) (fun c_30 => absurd c_30 (by decide))
  refine zV_iconst hX (v := nI 0) dX11_commons_35 (by decide) ?_
  refine zV_istore_n hX dX11_commons_36 (by decide) ?_
  dsimp only [zst1, zst2, zclr, zc2]
  refine zV_iconst hX (v := nI 0) dX11_commons_37 (by decide) ?_
  refine zV_istore_n hX dX11_commons_38 (by decide) ?_
  dsimp only [zst1, zst2, zclr, zc2]
  exact L39
set_option maxHeartbeats 1000000 in
theorem zc_mcommonsX (l : Launch) (G : zG) (M : zM) (n t : Nat) (x : Int32) (hn : M.1 300 9 = nI n) (hn7 : n ≤ 7) (h0 : 1 ≤ n) (ht : M.1 300 10 = nI t) (ht2 : t ≤ 2) (hx : mIn x (nI 1) (nI (t + 1)) = false) : zC l G 6 yX11_commons cX11_commons 4 (Option.some Jvm.ClassFile.FieldType.int) [.ref (300 : Nat), .int x] M (zP (some (.int (nI 0))) (mTw (nI 1) (nI 1) M)) := by
  refine zC_of (by decide) (Nat.le_of_ble_eq_true rfl) (fun X Q hQ hX hl hR hr => ?_)
  refine zV_loc (L' := [.ref (300 : Nat), .int x, .null, .null]) rfl ?_
  refine zV_aload_n hX dX11_commons_0 rfl ?_
  refine zV_iconst hX (v := nI 0) dX11_commons_1 (by decide) ?_
  refine zV_puti hX dX11_commons_2 zf_X11_149 zp_9_0 zo300.1 rfl ?_
  refine zV_aload_n hX dX11_commons_5 rfl ?_
  refine zV_iload_n hX dX11_commons_6 rfl ?_
  refine zV_iconst hX (v := nI 1) dX11_commons_7 (by decide) ?_
  refine zV_aload_n hX dX11_commons_8 rfl ?_
  refine zV_geti hX dX11_commons_9 zf_X11_23 zo300.1 rfl ((zw_ne (by omega)).trans ht) ?_
  refine zV_iconst hX (v := nI 1) dX11_commons_12 (by decide) ?_
  refine zV_iaddN hX dX11_commons_13 ?_
  refine zV_cS3p hX hR hl dX11_commons_14 (zc_min l G _ _ _ _) zt_X11_in rfl zml_X11_162 (by decide) (Nat.le_of_ble_eq_true rfl) ?_
  dsimp only [Option.toList, List.cons_append, List.nil_append]
  refine zV_topi (zb false) (by rw [hx]) ?_
  refine zV_if_neB hX (tgt := 24) dX11_commons_17 (by decide) (fun c_17 => absurd c_17 (by decide)) (fun c_17 => ?_)
  refine zV_iconst hX (v := nI 1) dX11_commons_20 (by decide) ?_
  refine zV_goto hX (tgt := 25) dX11_commons_21 (by decide) ?_
  refine zV_iconst hX (v := nI 1) dX11_commons_25 (by decide) ?_
  refine zV_iconst hX (v := nI 1) dX11_commons_26 (by decide) ?_
  refine zV_cV3p hX hR hl dX11_commons_27 (zc_badT1 l G _ _ zw_same (by decide)) zt_X11_bad rfl zml_X11_166 zo300.1 ⟨by decide, by decide⟩ (Nat.le_of_ble_eq_true rfl) ?_
  dsimp only [Option.toList, List.cons_append, List.nil_append]
  refine zV_if_eqB hX (tgt := 35) dX11_commons_30 (by decide) (fun c_30 => absurd c_30 (by decide)) (fun c_30 => ?_)
  refine zV_iconst hX (v := nI 0) dX11_commons_33 (by decide) ?_
  exact zV_reti hX hQ hr (⟨rfl, rfl⟩) dX11_commons_34
set_option maxHeartbeats 1000000 in
theorem zc_mcovered (l : Launch) (G : zG) (M : zM) (n c t : Nat) (hn : M.1 300 9 = nI n) (hn7 : n ≤ 7) (h0 : 1 ≤ n) (ht : M.1 300 10 = nI t) (ht2 : t ≤ 2) (hcm : M.1 300 17 = nI c) (hc7 : c < 7) : zC l G 6 yX11_covered cX11_covered 3 (Option.some Jvm.ClassFile.FieldType.boolean) [.ref (300 : Nat)] M (zP (some (.int (zb (zall (fun p => !(mPath n c p && decide (zlen p = t + 1)) || (mCom (m0 M) n c t 0 || (mCom (m0 M) n c t p || (decide (zlen p = 3) && mCom (m0 M) n c t (1 + zsec p))))) 57)))) (m0 M)) := by
  refine zC_of (by decide) (Nat.le_of_ble_eq_true rfl) (fun X Q hQ hX hl hR hr => ?_)
  refine zV_loc (L' := [.ref (300 : Nat), .null, .null]) rfl ?_
  have L17 : ∀ (f9 p : Nat) (v2 : Value), 57 - p < f9 → p ≤ 57 → zall (fun p => !(mPath n c p && decide (zlen p = t + 1)) || (mCom (m0 M) n c t 0 || (mCom (m0 M) n c t p || (decide (zlen p = 3) && mCom (m0 M) n c t (1 + zsec p))))) p = true → zV G X Q 3 0 0 17 [.ref (300 : Nat), .int (nI p), v2] [] (m0 M) := by
    intro f9
    induction f9 with
    | zero => intro p v2 hp1 hp2 hp3; exact absurd hp1 (Nat.not_lt_zero _)
    | succ f9 ih =>
      intro p v2 hp1 hp2 hp3
      refine zV_iload_n hX dX11_covered_17 rfl ?_
      refine zV_bipush hX (v := nI 57) dX11_covered_18 (by decide) ?_
      refine zV_icmp_geN hX (tgt := 102) dX11_covered_20 (by decide) ⟨by omega, by omega⟩ (fun c_20 => ?_) (fun c_20 => ?_)
      · refine zV_iconst hX (v := nI 1) dX11_covered_102 (by decide) ?_
        exact zV_retz hX hQ hr (rfl) (⟨by first | exact absurd c_91 (by decide) | (rw [zall_false (k := p) (by omega) (by first | (simp [c_20]; done) | (simp [c_20]; omega) | (simp [c_20]; intro q; omega))]; rfl) | (have hp57 : p = 57 := (by omega); subst hp57; rw [hp3]; rfl), rfl⟩) dX11_covered_103
      · refine zV_aload_n hX dX11_covered_23 rfl ?_
        refine zV_iload_n hX dX11_covered_24 rfl ?_
        refine zV_cV1p hX hR hl dX11_covered_25 (zc_misPath l G (m0 M) n c p ((zw_ne (by omega)).trans hn) hn7 ((zw_ne (by omega)).trans hcm) hc7 h0 (by omega)) zt_X11_isPath rfl zml_X11_324 zo300.1 ⟨by decide, by decide⟩ (Nat.le_of_ble_eq_true rfl) ?_
        dsimp only [Option.toList, List.cons_append, List.nil_append]
        refine zV_if_eqB hX (tgt := 96) dX11_covered_28 (by decide) (fun c_28 => ?_) (fun c_28 => ?_)
        · refine zV_iincN hX (b := 1) dX11_covered_96 rfl (by decide) ?_
          dsimp only [zst1, zst2, zclr, zc2]
          refine zV_goto hX (tgt := 17) dX11_covered_99 (by decide) ?_
          first
            | exact absurd c_91 (by decide)
            | exact ih (p + 1) _ (by omega) (by omega) (by rw [zall, hp3]; first | (simp [c_20, c_28]; done) | (simp [c_20, c_28]; omega) | (simp [c_20, c_28]; intro q; omega))
        · refine zV_iload_n hX dX11_covered_31 rfl ?_
          refine zV_cS1p hX hR hl dX11_covered_32 (zc_lengthOf l G (m0 M) p (by omega)) zt_X11_lengthOf rfl zml_X11_321 (by decide) (Nat.le_of_ble_eq_true rfl) ?_
          dsimp only [Option.toList, List.cons_append, List.nil_append]
          refine zV_aload_n hX dX11_covered_35 rfl ?_
          refine zV_geti hX dX11_covered_36 zf_X11_23 zo300.1 rfl ((zw_ne (by omega)).trans ht) ?_
          refine zV_iconst hX (v := nI 1) dX11_covered_39 (by decide) ?_
          refine zV_iaddN hX dX11_covered_40 ?_
          refine zV_icmp_eqN hX (tgt := 47) dX11_covered_41 (by decide) ⟨by have := zlen_le p; omega, by omega⟩ (fun c_41 => ?_) (fun c_41 => ?_)
          · refine zV_aload_n hX dX11_covered_47 rfl ?_
            refine zV_iconst hX (v := nI 0) dX11_covered_48 (by decide) ?_
            refine zV_cV1p hX hR hl dX11_covered_49 (zc_misCommon l G (m0 M) n c t 0 ((zw_ne (by omega)).trans hn) hn7 ((zw_ne (by omega)).trans hcm) hc7 ((zw_ne (by omega)).trans ht) ht2 (by omega)) zt_X11_isCommon rfl zml_X11_393 zo300.1 ⟨by decide, by decide⟩ (Nat.le_of_ble_eq_true rfl) ?_
            dsimp only [Option.toList, List.cons_append, List.nil_append]
            refine zV_if_neB hX (tgt := 84) dX11_covered_52 (by decide) (fun c_52 => ?_) (fun c_52 => ?_)
            · refine zV_iconst hX (v := nI 1) dX11_covered_84 (by decide) ?_
              refine zV_goto hX (tgt := 89) dX11_covered_85 (by decide) ?_
              refine zV_istore_n hX dX11_covered_89 (by decide) ?_
              dsimp only [zst1, zst2, zclr, zc2]
              refine zV_iload_n hX dX11_covered_90 rfl ?_
              refine zV_if_neN hX (tgt := 96) dX11_covered_91 (by decide) (by omega) (fun c_91 => ?_) (fun c_91 => ?_)
              · refine zV_iincN hX (b := 1) dX11_covered_96 rfl (by decide) ?_
                dsimp only [zst1, zst2, zclr, zc2]
                refine zV_goto hX (tgt := 17) dX11_covered_99 (by decide) ?_
                first
                  | exact absurd c_91 (by decide)
                  | exact ih (p + 1) _ (by omega) (by omega) (by rw [zall, hp3]; first | (simp [c_20, c_28, c_41, c_52, c_91]; done) | (simp [c_20, c_28, c_41, c_52, c_91]; omega) | (simp [c_20, c_28, c_41, c_52, c_91]; intro q; omega))
              · refine zV_iconst hX (v := nI 0) dX11_covered_94 (by decide) ?_
                exact zV_retz hX hQ hr (rfl) (⟨by first | exact absurd c_91 (by decide) | (rw [zall_false (k := p) (by omega) (by first | (simp [c_20, c_28, c_41, c_52, c_91]; done) | (simp [c_20, c_28, c_41, c_52, c_91]; omega) | (simp [c_20, c_28, c_41, c_52, c_91]; intro q; omega))]; rfl) | (have hp57 : p = 57 := (by omega); subst hp57; rw [hp3]; rfl), rfl⟩) dX11_covered_95
            · refine zV_aload_n hX dX11_covered_55 rfl ?_
              refine zV_iload_n hX dX11_covered_56 rfl ?_
              refine zV_cV1p hX hR hl dX11_covered_57 (zc_misCommon l G (m0 M) n c t p ((zw_ne (by omega)).trans hn) hn7 ((zw_ne (by omega)).trans hcm) hc7 ((zw_ne (by omega)).trans ht) ht2 (by omega)) zt_X11_isCommon rfl zml_X11_393 zo300.1 ⟨by decide, by decide⟩ (Nat.le_of_ble_eq_true rfl) ?_
              dsimp only [Option.toList, List.cons_append, List.nil_append]
              refine zV_if_neB hX (tgt := 84) dX11_covered_60 (by decide) (fun c_60 => ?_) (fun c_60 => ?_)
              · refine zV_iconst hX (v := nI 1) dX11_covered_84 (by decide) ?_
                refine zV_goto hX (tgt := 89) dX11_covered_85 (by decide) ?_
                refine zV_istore_n hX dX11_covered_89 (by decide) ?_
                dsimp only [zst1, zst2, zclr, zc2]
                refine zV_iload_n hX dX11_covered_90 rfl ?_
                refine zV_if_neN hX (tgt := 96) dX11_covered_91 (by decide) (by omega) (fun c_91 => ?_) (fun c_91 => ?_)
                · refine zV_iincN hX (b := 1) dX11_covered_96 rfl (by decide) ?_
                  dsimp only [zst1, zst2, zclr, zc2]
                  refine zV_goto hX (tgt := 17) dX11_covered_99 (by decide) ?_
                  first
                    | exact absurd c_91 (by decide)
                    | exact ih (p + 1) _ (by omega) (by omega) (by rw [zall, hp3]; first | (simp [c_20, c_28, c_41, c_52, c_60, c_91]; done) | (simp [c_20, c_28, c_41, c_52, c_60, c_91]; omega) | (simp [c_20, c_28, c_41, c_52, c_60, c_91]; intro q; omega))
                · refine zV_iconst hX (v := nI 0) dX11_covered_94 (by decide) ?_
                  exact zV_retz hX hQ hr (rfl) (⟨by first | exact absurd c_91 (by decide) | (rw [zall_false (k := p) (by omega) (by first | (simp [c_20, c_28, c_41, c_52, c_60, c_91]; done) | (simp [c_20, c_28, c_41, c_52, c_60, c_91]; omega) | (simp [c_20, c_28, c_41, c_52, c_60, c_91]; intro q; omega))]; rfl) | (have hp57 : p = 57 := (by omega); subst hp57; rw [hp3]; rfl), rfl⟩) dX11_covered_95
              · refine zV_iload_n hX dX11_covered_63 rfl ?_
                refine zV_cS1p hX hR hl dX11_covered_64 (zc_lengthOf l G (m0 M) p (by omega)) zt_X11_lengthOf rfl zml_X11_321 (by decide) (Nat.le_of_ble_eq_true rfl) ?_
                dsimp only [Option.toList, List.cons_append, List.nil_append]
                refine zV_iconst hX (v := nI 3) dX11_covered_67 (by decide) ?_
                refine zV_icmp_neN hX (tgt := 88) dX11_covered_68 (by decide) ⟨by have := zlen_le p; omega, by decide⟩ (fun c_68 => ?_) (fun c_68 => ?_)
                · refine zV_iconst hX (v := nI 0) dX11_covered_88 (by decide) ?_
                  refine zV_istore_n hX dX11_covered_89 (by decide) ?_
                  dsimp only [zst1, zst2, zclr, zc2]
                  refine zV_iload_n hX dX11_covered_90 rfl ?_
                  refine zV_if_neN hX (tgt := 96) dX11_covered_91 (by decide) (by omega) (fun c_91 => ?_) (fun c_91 => ?_)
                  · refine zV_iincN hX (b := 1) dX11_covered_96 rfl (by decide) ?_
                    dsimp only [zst1, zst2, zclr, zc2]
                    refine zV_goto hX (tgt := 17) dX11_covered_99 (by decide) ?_
                    first
                      | exact absurd c_91 (by decide)
                      | exact ih (p + 1) _ (by omega) (by omega) (by rw [zall, hp3]; first | (simp [c_20, c_28, c_41, c_52, c_60, c_68, c_91]; done) | (simp [c_20, c_28, c_41, c_52, c_60, c_68, c_91]; omega) | (simp [c_20, c_28, c_41, c_52, c_60, c_68, c_91]; intro q; omega))
                  · refine zV_iconst hX (v := nI 0) dX11_covered_94 (by decide) ?_
                    exact zV_retz hX hQ hr (rfl) (⟨by first | exact absurd c_91 (by decide) | (rw [zall_false (k := p) (by omega) (by first | (simp [c_20, c_28, c_41, c_52, c_60, c_68, c_91]; done) | (simp [c_20, c_28, c_41, c_52, c_60, c_68, c_91]; omega) | (simp [c_20, c_28, c_41, c_52, c_60, c_68, c_91]; intro q; omega))]; rfl) | (have hp57 : p = 57 := (by omega); subst hp57; rw [hp3]; rfl), rfl⟩) dX11_covered_95
                · refine zV_aload_n hX dX11_covered_71 rfl ?_
                  refine zV_iconst hX (v := nI 1) dX11_covered_72 (by decide) ?_
                  refine zV_iload_n hX dX11_covered_73 rfl ?_
                  refine zV_cS1p hX hR hl dX11_covered_74 (zc_second l G (m0 M) p (by omega)) zt_X11_second rfl zml_X11_301 (by decide) (Nat.le_of_ble_eq_true rfl) ?_
                  dsimp only [Option.toList, List.cons_append, List.nil_append]
                  refine zV_topi (nI (zsec p)) (mSec_p (zlen3 c_68)) ?_
                  refine zV_iaddN hX dX11_covered_77 ?_
                  refine zV_cV1p hX hR hl dX11_covered_78 (zc_misCommon l G (m0 M) n c t (1 + zsec p) ((zw_ne (by omega)).trans hn) hn7 ((zw_ne (by omega)).trans hcm) hc7 ((zw_ne (by omega)).trans ht) ht2 (by have := zsec_7 p (by omega) ; omega)) zt_X11_isCommon rfl zml_X11_393 zo300.1 ⟨by decide, by decide⟩ (Nat.le_of_ble_eq_true rfl) ?_
                  dsimp only [Option.toList, List.cons_append, List.nil_append]
                  refine zV_if_eqB hX (tgt := 88) dX11_covered_81 (by decide) (fun c_81 => ?_) (fun c_81 => ?_)
                  · refine zV_iconst hX (v := nI 0) dX11_covered_88 (by decide) ?_
                    refine zV_istore_n hX dX11_covered_89 (by decide) ?_
                    dsimp only [zst1, zst2, zclr, zc2]
                    refine zV_iload_n hX dX11_covered_90 rfl ?_
                    refine zV_if_neN hX (tgt := 96) dX11_covered_91 (by decide) (by omega) (fun c_91 => ?_) (fun c_91 => ?_)
                    · refine zV_iincN hX (b := 1) dX11_covered_96 rfl (by decide) ?_
                      dsimp only [zst1, zst2, zclr, zc2]
                      refine zV_goto hX (tgt := 17) dX11_covered_99 (by decide) ?_
                      first
                        | exact absurd c_91 (by decide)
                        | exact ih (p + 1) _ (by omega) (by omega) (by rw [zall, hp3]; first | (simp [c_20, c_28, c_41, c_52, c_60, c_68, c_81, c_91]; done) | (simp [c_20, c_28, c_41, c_52, c_60, c_68, c_81, c_91]; omega) | (simp [c_20, c_28, c_41, c_52, c_60, c_68, c_81, c_91]; intro q; omega))
                    · refine zV_iconst hX (v := nI 0) dX11_covered_94 (by decide) ?_
                      exact zV_retz hX hQ hr (rfl) (⟨by first | exact absurd c_91 (by decide) | (rw [zall_false (k := p) (by omega) (by first | (simp [c_20, c_28, c_41, c_52, c_60, c_68, c_81, c_91]; done) | (simp [c_20, c_28, c_41, c_52, c_60, c_68, c_81, c_91]; omega) | (simp [c_20, c_28, c_41, c_52, c_60, c_68, c_81, c_91]; intro q; omega))]; rfl) | (have hp57 : p = 57 := (by omega); subst hp57; rw [hp3]; rfl), rfl⟩) dX11_covered_95
                  · refine zV_iconst hX (v := nI 1) dX11_covered_84 (by decide) ?_
                    refine zV_goto hX (tgt := 89) dX11_covered_85 (by decide) ?_
                    refine zV_istore_n hX dX11_covered_89 (by decide) ?_
                    dsimp only [zst1, zst2, zclr, zc2]
                    refine zV_iload_n hX dX11_covered_90 rfl ?_
                    refine zV_if_neN hX (tgt := 96) dX11_covered_91 (by decide) (by omega) (fun c_91 => ?_) (fun c_91 => ?_)
                    · refine zV_iincN hX (b := 1) dX11_covered_96 rfl (by decide) ?_
                      dsimp only [zst1, zst2, zclr, zc2]
                      refine zV_goto hX (tgt := 17) dX11_covered_99 (by decide) ?_
                      first
                        | exact absurd c_91 (by decide)
                        | exact ih (p + 1) _ (by omega) (by omega) (by rw [zall, hp3]; first | (simp [c_20, c_28, c_41, c_52, c_60, c_68, c_81, c_91]; done) | (simp [c_20, c_28, c_41, c_52, c_60, c_68, c_81, c_91]; omega) | (simp [c_20, c_28, c_41, c_52, c_60, c_68, c_81, c_91]; intro q; omega))
                    · refine zV_iconst hX (v := nI 0) dX11_covered_94 (by decide) ?_
                      exact zV_retz hX hQ hr (rfl) (⟨by first | exact absurd c_91 (by decide) | (rw [zall_false (k := p) (by omega) (by first | (simp [c_20, c_28, c_41, c_52, c_60, c_68, c_81, c_91]; done) | (simp [c_20, c_28, c_41, c_52, c_60, c_68, c_81, c_91]; omega) | (simp [c_20, c_28, c_41, c_52, c_60, c_68, c_81, c_91]; intro q; omega))]; rfl) | (have hp57 : p = 57 := (by omega); subst hp57; rw [hp3]; rfl), rfl⟩) dX11_covered_95
          · refine zV_goto hX (tgt := 96) dX11_covered_44 (by decide) ?_
            refine zV_iincN hX (b := 1) dX11_covered_96 rfl (by decide) ?_
            dsimp only [zst1, zst2, zclr, zc2]
            refine zV_goto hX (tgt := 17) dX11_covered_99 (by decide) ?_
            first
              | exact absurd c_91 (by decide)
              | exact ih (p + 1) _ (by omega) (by omega) (by rw [zall, hp3]; first | (simp [c_20, c_28, c_41]; done) | (simp [c_20, c_28, c_41]; omega) | (simp [c_20, c_28, c_41]; intro q; omega))
  refine zV_aload_n hX dX11_covered_0 rfl ?_
  refine zV_iconst hX (v := nI 0) dX11_covered_1 (by decide) ?_
  refine zV_puti hX dX11_covered_2 zf_X11_149 zp_9_0 zo300.1 rfl ?_
  refine zV_aload_n hX dX11_covered_5 rfl ?_
  refine zV_geti hX dX11_covered_6 zf_X11_39 zo300.1 rfl ((zw_ne (by omega)).trans hcm) ?_
  refine zV_iconst hX (v := (-1)) dX11_covered_9 (by decide) ?_
  refine zV_icmp_ne hX (tgt := 15) dX11_covered_10 (by decide) (fun c_10 => ?_) (fun c_10 => absurd c_10 ((by decide : ∀ a, a < 7 → ¬ nI a = -1) c hc7))
  refine zV_iconst hX (v := nI 0) dX11_covered_15 (by decide) ?_
  refine zV_istore_n hX dX11_covered_16 (by decide) ?_
  dsimp only [zst1, zst2, zclr, zc2]
  exact L17 58 0 _ (by omega) (by omega) rfl
