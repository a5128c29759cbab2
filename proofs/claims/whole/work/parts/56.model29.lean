theorem pw_27 {b : Nat} (h : b ≤ 4) : 1 ≤ 3 ^ b ∧ 3 ^ b ≤ 81 := by
  have h1 : 3 ^ b ≤ 3 ^ 4 := Nat.pow_le_pow_right (by decide) h
  have h2 : (3 : Nat) ^ 4 = 81 := by decide
  have h3 : 0 < 3 ^ b := Nat.pow_pos (by decide)
  omega
abbrev aPw (n md c : Nat) : Nat := 3 ^ aMb n md c
def aAll (n md c k : Nat) (M : zM) : zM := zfor (fun w M => aTry n md c w M) k M
def aKf (n md c : Nat) : Option Nat → Nat
  | none => 0
  | some a => aKds (aOd n md c a) n c
set_option maxHeartbeats 1000000 in
theorem zc_mbreaks (l : Launch) (G : zG) (M : zM) (n md c k : Nat) (hn3 : 3 ≤ n) (hn4 : n ≤ 4) (hc : c < n) (hmd1 : 1 ≤ md) (hmd : md ≤ 2) (hk : k < aPw n md c) : zC l G 3 yX11_breaks cX11_breaks 5 (Option.some Jvm.ClassFile.FieldType.boolean) [.ref (300 : Nat), .int (nI n), .int (nI md), .int (nI c), .int (nI k)] M (zP (some (.int (zb (aBk (aOd n md c k) n c)))) (aTry n md c k (m0 M))) := by
  refine zC_of (by decide) (Nat.le_of_ble_eq_true rfl) (fun X Q hQ hX hl hR hr => ?_)
  refine zV_loc (L' := [.ref (300 : Nat), .int (nI n), .int (nI md), .int (nI c), .int (nI k)]) rfl ?_
  have hb4 : aMb n md c ≤ 4 := by have := aMb_le n md c; omega
  have hpw := pw_27 hb4
  have hp1 : 1 ≤ aPw n md c := hpw.1
  have hp2 : aPw n md c ≤ 81 := hpw.2
  refine zV_aload_n hX dX11_breaks_0 rfl ?_
  refine zV_iconst hX (v := nI 0) dX11_breaks_1 (by decide) ?_
  refine zV_puti hX dX11_breaks_2 zf_X11_149 zp_9_0 zo300.1 rfl ?_
  refine zV_aload_n hX dX11_breaks_5 rfl ?_
  refine zV_iload_n hX dX11_breaks_6 rfl ?_
  refine zV_iconst hX (v := nI 3) dX11_breaks_7 (by decide) ?_
  refine zV_iconst hX (v := nI 4) dX11_breaks_8 (by decide) ?_
  refine zV_cS3p hX hR hl dX11_breaks_9 (zc_min l G _ _ _ _) zt_X11_in rfl zml_X11_162 (by decide) (Nat.le_of_ble_eq_true rfl) ?_
  dsimp only [Option.toList, List.cons_append, List.nil_append]
  refine zV_topi (zb true) (by rw [mIn_nI (by omega) (by omega) (by omega), decide_eq_false (by omega), Bool.not_false]) ?_
  refine zV_if_eqB hX (tgt := 30) dX11_breaks_12 (by decide) (fun c_12 => absurd c_12 (by decide)) (fun c_12 => ?_)
  refine zV_iload_n hX dX11_breaks_15 rfl ?_
  refine zV_iconst hX (v := nI 0) dX11_breaks_16 (by decide) ?_
  refine zV_iload_n hX dX11_breaks_17 rfl ?_
  refine zV_iconst hX (v := nI 1) dX11_breaks_18 (by decide) ?_
  refine zV_isubN hX dX11_breaks_19 (by omega) ?_
  refine zV_cS3p hX hR hl dX11_breaks_20 (zc_min l G _ _ _ _) zt_X11_in rfl zml_X11_162 (by decide) (Nat.le_of_ble_eq_true rfl) ?_
  dsimp only [Option.toList, List.cons_append, List.nil_append]
  refine zV_topi (zb true) (by rw [mIn_nI (by omega) (by omega) (by omega), decide_eq_false (by omega), Bool.not_false]) ?_
  refine zV_if_neB hX (tgt := 30) dX11_breaks_23 (by decide) (fun c_23 => ?_) (fun c_23 => absurd c_23 (by decide))
  refine zV_iconst hX (v := nI 0) dX11_breaks_30 (by decide) ?_
  refine zV_iconst hX (v := nI 1) dX11_breaks_31 (by decide) ?_
  refine zV_iconst hX (v := nI 0) dX11_breaks_32 (by decide) ?_
  refine zV_cV3p hX hR hl dX11_breaks_33 (zc_badF0 l G _ _ zw_same) zt_X11_bad rfl zml_X11_166 zo300.1 ⟨by decide, by decide⟩ (Nat.le_of_ble_eq_true rfl) ?_
  dsimp only [Option.toList, List.cons_append, List.nil_append]
  refine zV_if_neB hX (tgt := 71) dX11_breaks_36 (by decide) (fun c_36 => absurd c_36 (by decide)) (fun c_36 => ?_)
  refine zV_aload_n hX dX11_breaks_39 rfl ?_
  refine zV_iload_n hX dX11_breaks_40 rfl ?_
  refine zV_iconst hX (v := nI 3) dX11_breaks_41 (by decide) ?_
  refine zV_iconst hX (v := nI 4) dX11_breaks_42 (by decide) ?_
  refine zV_cS3p hX hR hl dX11_breaks_43 (zc_min l G _ _ _ _) zt_X11_in rfl zml_X11_162 (by decide) (Nat.le_of_ble_eq_true rfl) ?_
  dsimp only [Option.toList, List.cons_append, List.nil_append]
  refine zV_topi (zb true) (by rw [mIn_nI (by omega) (by omega) (by omega), decide_eq_false (by omega), Bool.not_false]) ?_
  refine zV_if_eqB hX (tgt := 58) dX11_breaks_46 (by decide) (fun c_46 => absurd c_46 (by decide)) (fun c_46 => ?_)
  refine zV_iload_n hX dX11_breaks_49 rfl ?_
  refine zV_iconst hX (v := nI 1) dX11_breaks_50 (by decide) ?_
  refine zV_iconst hX (v := nI 2) dX11_breaks_51 (by decide) ?_
  refine zV_cS3p hX hR hl dX11_breaks_52 (zc_min l G _ _ _ _) zt_X11_in rfl zml_X11_162 (by decide) (Nat.le_of_ble_eq_true rfl) ?_
  dsimp only [Option.toList, List.cons_append, List.nil_append]
  refine zV_topi (zb true) (by rw [mIn_nI (by omega) (by omega) (by omega), decide_eq_false (by omega), Bool.not_false]) ?_
  refine zV_if_neB hX (tgt := 62) dX11_breaks_55 (by decide) (fun c_55 => ?_) (fun c_55 => absurd c_55 (by decide))
  refine zV_iconst hX (v := nI 0) dX11_breaks_62 (by decide) ?_
  refine zV_iconst hX (v := nI 2) dX11_breaks_63 (by decide) ?_
  refine zV_iconst hX (v := nI 1) dX11_breaks_64 (by decide) ?_
  refine zV_cV3p hX hR hl dX11_breaks_65 (zc_badF1 l G _ _ zw_same) zt_X11_bad rfl zml_X11_166 zo300.1 ⟨by decide, by decide⟩ (Nat.le_of_ble_eq_true rfl) ?_
  dsimp only [Option.toList, List.cons_append, List.nil_append]
  refine zV_if_eqB hX (tgt := 73) dX11_breaks_68 (by decide) (fun c_68 => ?_) (fun c_68 => absurd c_68 (by decide))
  refine zV_aload_n hX dX11_breaks_73 rfl ?_
  refine zV_iload hX dX11_breaks_74 rfl ?_
  refine zV_iconst hX (v := nI 0) dX11_breaks_76 (by decide) ?_
  refine zV_iload_n hX dX11_breaks_77 rfl ?_
  refine zV_iload_n hX dX11_breaks_78 rfl ?_
  refine zV_iload_n hX dX11_breaks_79 rfl ?_
  refine zV_cS3p hX hR hl dX11_breaks_80 (zc_mmsgBy l G _ n md c (by omega) (by omega) (by omega) (by omega)) zt_X11_messagesBy rfl zml_X11_517 (by decide) (Nat.le_of_ble_eq_true rfl) ?_
  dsimp only [Option.toList, List.cons_append, List.nil_append]
  refine zV_cS1p hX hR hl dX11_breaks_83 (zc_mpower l G _ _ (aMb n md c) (by omega) (fun j hj => nI_leI (by omega) (by omega))) zt_X11_power rfl zml_X11_514 (by decide) (Nat.le_of_ble_eq_true rfl) ?_
  dsimp only [Option.toList, List.cons_append, List.nil_append]
  refine zV_topi (nI (aPw n md c)) rfl ?_
  refine zV_iconst hX (v := nI 1) dX11_breaks_86 (by decide) ?_
  refine zV_isubN hX dX11_breaks_87 (by omega) ?_
  refine zV_cS3p hX hR hl dX11_breaks_88 (zc_min l G _ _ _ _) zt_X11_in rfl zml_X11_162 (by decide) (Nat.le_of_ble_eq_true rfl) ?_
  dsimp only [Option.toList, List.cons_append, List.nil_append]
  refine zV_topi (zb true) (by rw [mIn_nI (by omega) (by omega) (by omega), decide_eq_false (by omega), Bool.not_false]) ?_
  refine zV_if_neB hX (tgt := 98) dX11_breaks_91 (by decide) (fun c_91 => ?_) (fun c_91 => absurd c_91 (by decide))
  refine zV_iconst hX (v := nI 0) dX11_breaks_98 (by decide) ?_
  refine zV_iconst hX (v := nI 2) dX11_breaks_99 (by decide) ?_
  refine zV_iconst hX (v := nI 1) dX11_breaks_100 (by decide) ?_
  refine zV_cV3p hX hR hl dX11_breaks_101 (zc_badF1 l G _ _ zw_same) zt_X11_bad rfl zml_X11_166 zo300.1 ⟨by decide, by decide⟩ (Nat.le_of_ble_eq_true rfl) ?_
  dsimp only [Option.toList, List.cons_append, List.nil_append]
  refine zV_if_eqB hX (tgt := 109) dX11_breaks_104 (by decide) (fun c_104 => ?_) (fun c_104 => absurd c_104 (by decide))
  refine zV_aload_n hX dX11_breaks_109 rfl ?_
  refine zV_iload_n hX dX11_breaks_110 rfl ?_
  refine zV_iload_n hX dX11_breaks_111 rfl ?_
  refine zV_iload_n hX dX11_breaks_112 rfl ?_
  refine zV_iload hX dX11_breaks_113 rfl ?_
  refine zV_cV4p hX hR hl dX11_breaks_115 (zc_tries l G _ n md c k (by omega) hn4 (by omega) (by omega) (by omega)) zt_X11_tries rfl zml_X11_523 zo300.1 ⟨by decide, by decide⟩ (Nat.le_of_ble_eq_true rfl) ?_
  dsimp only [Option.toList, List.cons_append, List.nil_append]
  refine zV_aload_n hX dX11_breaks_118 rfl ?_
  refine zV_iload_n hX dX11_breaks_119 rfl ?_
  refine zV_iload_n hX dX11_breaks_120 rfl ?_
  refine zV_cV2p hX hR hl dX11_breaks_121 (zc_misBroken l G _ n c (aOd n md c k) (by omega) hn4 (by omega) (fun i hi => aTry_at hi) (fun i => aOd_le n md c k i)) zt_X11_isBroken rfl zml_X11_527 zo300.1 ⟨by decide, by decide⟩ (Nat.le_of_ble_eq_true rfl) ?_
  dsimp only [Option.toList, List.cons_append, List.nil_append]
  exact zV_retz hX hQ hr (zb_nar _) (⟨rfl, rfl⟩) dX11_breaks_124
set_option maxHeartbeats 1000000 in
theorem zc_mbreaksX (l : Launch) (G : zG) (M : zM) (n : Nat) (md c k : Int32) (hn3 : 3 ≤ n) (hn4 : n ≤ 4) (hx : mIn c (nI 0) (nI (n - 1)) = false) : zC l G 3 yX11_breaks cX11_breaks 5 (Option.some Jvm.ClassFile.FieldType.boolean) [.ref (300 : Nat), .int (nI n), .int md, .int c, .int k] M (zP (some (.int (zb false))) (mTw (nI 1) (nI 0) M)) := by
  refine zC_of (by decide) (Nat.le_of_ble_eq_true rfl) (fun X Q hQ hX hl hR hr => ?_)
  refine zV_loc (L' := [.ref (300 : Nat), .int (nI n), .int md, .int c, .int k]) rfl ?_
  refine zV_aload_n hX dX11_breaks_0 rfl ?_
  refine zV_iconst hX (v := nI 0) dX11_breaks_1 (by decide) ?_
  refine zV_puti hX dX11_breaks_2 zf_X11_149 zp_9_0 zo300.1 rfl ?_
  refine zV_aload_n hX dX11_breaks_5 rfl ?_
  refine zV_iload_n hX dX11_breaks_6 rfl ?_
  refine zV_iconst hX (v := nI 3) dX11_breaks_7 (by decide) ?_
  refine zV_iconst hX (v := nI 4) dX11_breaks_8 (by decide) ?_
  refine zV_cS3p hX hR hl dX11_breaks_9 (zc_min l G _ _ _ _) zt_X11_in rfl zml_X11_162 (by decide) (Nat.le_of_ble_eq_true rfl) ?_
  dsimp only [Option.toList, List.cons_append, List.nil_append]
  refine zV_topi (zb true) (by rw [mIn_nI (by omega) (by omega) (by omega), decide_eq_false (by omega), Bool.not_false]) ?_
  refine zV_if_eqB hX (tgt := 30) dX11_breaks_12 (by decide) (fun c_12 => absurd c_12 (by decide)) (fun c_12 => ?_)
  refine zV_iload_n hX dX11_breaks_15 rfl ?_
  refine zV_iconst hX (v := nI 0) dX11_breaks_16 (by decide) ?_
  refine zV_iload_n hX dX11_breaks_17 rfl ?_
  refine zV_iconst hX (v := nI 1) dX11_breaks_18 (by decide) ?_
  refine zV_isubN hX dX11_breaks_19 (by omega) ?_
  refine zV_cS3p hX hR hl dX11_breaks_20 (zc_min l G _ _ _ _) zt_X11_in rfl zml_X11_162 (by decide) (Nat.le_of_ble_eq_true rfl) ?_
  dsimp only [Option.toList, List.cons_append, List.nil_append]
  refine zV_topi (zb false) (by rw [hx]) ?_
  refine zV_if_neB hX (tgt := 30) dX11_breaks_23 (by decide) (fun c_23 => absurd c_23 (by decide)) (fun c_23 => ?_)
  refine zV_iconst hX (v := nI 1) dX11_breaks_26 (by decide) ?_
  refine zV_goto hX (tgt := 31) dX11_breaks_27 (by decide) ?_
  refine zV_iconst hX (v := nI 1) dX11_breaks_31 (by decide) ?_
  refine zV_iconst hX (v := nI 0) dX11_breaks_32 (by decide) ?_
  refine zV_cV3p hX hR hl dX11_breaks_33 (zc_badT0 l G _ _ zw_same (by decide)) zt_X11_bad rfl zml_X11_166 zo300.1 ⟨by decide, by decide⟩ (Nat.le_of_ble_eq_true rfl) ?_
  dsimp only [Option.toList, List.cons_append, List.nil_append]
  refine zV_if_neB hX (tgt := 71) dX11_breaks_36 (by decide) (fun c_36 => ?_) (fun c_36 => absurd c_36 (by decide))
  refine zV_iconst hX (v := nI 0) dX11_breaks_71 (by decide) ?_
  exact zV_retz hX hQ hr (rfl) (⟨rfl, rfl⟩) dX11_breaks_72
set_option maxHeartbeats 1000000 in
theorem zc_mbreaksA (l : Launch) (G : zG) (M : zM) (n md c k : Int32) (hx : mIn n (nI 3) (nI 4) = false) : zC l G 3 yX11_breaks cX11_breaks 5 (Option.some Jvm.ClassFile.FieldType.boolean) [.ref (300 : Nat), .int n, .int md, .int c, .int k] M (zP (some (.int (zb false))) (mTw (nI 2) (nI 1) M)) := by
  refine zC_of (by decide) (Nat.le_of_ble_eq_true rfl) (fun X Q hQ hX hl hR hr => ?_)
  refine zV_loc (L' := [.ref (300 : Nat), .int n, .int md, .int c, .int k]) rfl ?_
  refine zV_aload_n hX dX11_breaks_0 rfl ?_
  refine zV_iconst hX (v := nI 0) dX11_breaks_1 (by decide) ?_
  refine zV_puti hX dX11_breaks_2 zf_X11_149 zp_9_0 zo300.1 rfl ?_
  refine zV_aload_n hX dX11_breaks_5 rfl ?_
  refine zV_iload_n hX dX11_breaks_6 rfl ?_
  refine zV_iconst hX (v := nI 3) dX11_breaks_7 (by decide) ?_
  refine zV_iconst hX (v := nI 4) dX11_breaks_8 (by decide) ?_
  refine zV_cS3p hX hR hl dX11_breaks_9 (zc_min l G _ _ _ _) zt_X11_in rfl zml_X11_162 (by decide) (Nat.le_of_ble_eq_true rfl) ?_
  dsimp only [Option.toList, List.cons_append, List.nil_append]
  refine zV_topi (zb false) (by rw [hx]) ?_
  refine zV_if_eqB hX (tgt := 30) dX11_breaks_12 (by decide) (fun c_12 => ?_) (fun c_12 => absurd c_12 (by decide))
  refine zV_iconst hX (v := nI 0) dX11_breaks_30 (by decide) ?_
  refine zV_iconst hX (v := nI 1) dX11_breaks_31 (by decide) ?_
  refine zV_iconst hX (v := nI 0) dX11_breaks_32 (by decide) ?_
  refine zV_cV3p hX hR hl dX11_breaks_33 (zc_badF0 l G _ _ zw_same) zt_X11_bad rfl zml_X11_166 zo300.1 ⟨by decide, by decide⟩ (Nat.le_of_ble_eq_true rfl) ?_
  dsimp only [Option.toList, List.cons_append, List.nil_append]
  refine zV_if_neB hX (tgt := 71) dX11_breaks_36 (by decide) (fun c_36 => absurd c_36 (by decide)) (fun c_36 => ?_)
  refine zV_aload_n hX dX11_breaks_39 rfl ?_
  refine zV_iload_n hX dX11_breaks_40 rfl ?_
  refine zV_iconst hX (v := nI 3) dX11_breaks_41 (by decide) ?_
  refine zV_iconst hX (v := nI 4) dX11_breaks_42 (by decide) ?_
  refine zV_cS3p hX hR hl dX11_breaks_43 (zc_min l G _ _ _ _) zt_X11_in rfl zml_X11_162 (by decide) (Nat.le_of_ble_eq_true rfl) ?_
  dsimp only [Option.toList, List.cons_append, List.nil_append]
  refine zV_topi (zb false) (by rw [hx]) ?_
  refine zV_if_eqB hX (tgt := 58) dX11_breaks_46 (by decide) (fun c_46 => ?_) (fun c_46 => absurd c_46 (by decide))
  refine zV_iconst hX (v := nI 1) dX11_breaks_58 (by decide) ?_
  refine zV_goto hX (tgt := 63) dX11_breaks_59 (by decide) ?_
  refine zV_iconst hX (v := nI 2) dX11_breaks_63 (by decide) ?_
  refine zV_iconst hX (v := nI 1) dX11_breaks_64 (by decide) ?_
  refine zV_cV3p hX hR hl dX11_breaks_65 (zc_badT1 l G _ _ zw_same (by decide)) zt_X11_bad rfl zml_X11_166 zo300.1 ⟨by decide, by decide⟩ (Nat.le_of_ble_eq_true rfl) ?_
  dsimp only [Option.toList, List.cons_append, List.nil_append]
  refine zV_if_eqB hX (tgt := 73) dX11_breaks_68 (by decide) (fun c_68 => absurd c_68 (by decide)) (fun c_68 => ?_)
  refine zV_iconst hX (v := nI 0) dX11_breaks_71 (by decide) ?_
  exact zV_retz hX hQ hr (rfl) (⟨rfl, rfl⟩) dX11_breaks_72
set_option maxHeartbeats 1000000 in
theorem zc_mbreaksB (l : Launch) (G : zG) (M : zM) (n c : Nat) (md k : Int32) (hn3 : 3 ≤ n) (hn4 : n ≤ 4) (hc : c < n) (hx : mIn md (nI 1) (nI 2) = false) : zC l G 3 yX11_breaks cX11_breaks 5 (Option.some Jvm.ClassFile.FieldType.boolean) [.ref (300 : Nat), .int (nI n), .int md, .int (nI c), .int k] M (zP (some (.int (zb false))) (mTw (nI 2) (nI 1) M)) := by
  refine zC_of (by decide) (Nat.le_of_ble_eq_true rfl) (fun X Q hQ hX hl hR hr => ?_)
  refine zV_loc (L' := [.ref (300 : Nat), .int (nI n), .int md, .int (nI c), .int k]) rfl ?_
  refine zV_aload_n hX dX11_breaks_0 rfl ?_
  refine zV_iconst hX (v := nI 0) dX11_breaks_1 (by decide) ?_
  refine zV_puti hX dX11_breaks_2 zf_X11_149 zp_9_0 zo300.1 rfl ?_
  refine zV_aload_n hX dX11_breaks_5 rfl ?_
  refine zV_iload_n hX dX11_breaks_6 rfl ?_
  refine zV_iconst hX (v := nI 3) dX11_breaks_7 (by decide) ?_
  refine zV_iconst hX (v := nI 4) dX11_breaks_8 (by decide) ?_
  refine zV_cS3p hX hR hl dX11_breaks_9 (zc_min l G _ _ _ _) zt_X11_in rfl zml_X11_162 (by decide) (Nat.le_of_ble_eq_true rfl) ?_
  dsimp only [Option.toList, List.cons_append, List.nil_append]
  refine zV_topi (zb true) (by rw [mIn_nI (by omega) (by omega) (by omega), decide_eq_false (by omega), Bool.not_false]) ?_
  refine zV_if_eqB hX (tgt := 30) dX11_breaks_12 (by decide) (fun c_12 => absurd c_12 (by decide)) (fun c_12 => ?_)
  refine zV_iload_n hX dX11_breaks_15 rfl ?_
  refine zV_iconst hX (v := nI 0) dX11_breaks_16 (by decide) ?_
  refine zV_iload_n hX dX11_breaks_17 rfl ?_
  refine zV_iconst hX (v := nI 1) dX11_breaks_18 (by decide) ?_
  refine zV_isubN hX dX11_breaks_19 (by omega) ?_
  refine zV_cS3p hX hR hl dX11_breaks_20 (zc_min l G _ _ _ _) zt_X11_in rfl zml_X11_162 (by decide) (Nat.le_of_ble_eq_true rfl) ?_
  dsimp only [Option.toList, List.cons_append, List.nil_append]
  refine zV_topi (zb true) (by rw [mIn_nI (by omega) (by omega) (by omega), decide_eq_false (by omega), Bool.not_false]) ?_
  refine zV_if_neB hX (tgt := 30) dX11_breaks_23 (by decide) (fun c_23 => ?_) (fun c_23 => absurd c_23 (by decide))
  refine zV_iconst hX (v := nI 0) dX11_breaks_30 (by decide) ?_
  refine zV_iconst hX (v := nI 1) dX11_breaks_31 (by decide) ?_
  refine zV_iconst hX (v := nI 0) dX11_breaks_32 (by decide) ?_
  refine zV_cV3p hX hR hl dX11_breaks_33 (zc_badF0 l G _ _ zw_same) zt_X11_bad rfl zml_X11_166 zo300.1 ⟨by decide, by decide⟩ (Nat.le_of_ble_eq_true rfl) ?_
  dsimp only [Option.toList, List.cons_append, List.nil_append]
  refine zV_if_neB hX (tgt := 71) dX11_breaks_36 (by decide) (fun c_36 => absurd c_36 (by decide)) (fun c_36 => ?_)
  refine zV_aload_n hX dX11_breaks_39 rfl ?_
  refine zV_iload_n hX dX11_breaks_40 rfl ?_
  refine zV_iconst hX (v := nI 3) dX11_breaks_41 (by decide) ?_
  refine zV_iconst hX (v := nI 4) dX11_breaks_42 (by decide) ?_
  refine zV_cS3p hX hR hl dX11_breaks_43 (zc_min l G _ _ _ _) zt_X11_in rfl zml_X11_162 (by decide) (Nat.le_of_ble_eq_true rfl) ?_
  dsimp only [Option.toList, List.cons_append, List.nil_append]
  refine zV_topi (zb true) (by rw [mIn_nI (by omega) (by omega) (by omega), decide_eq_false (by omega), Bool.not_false]) ?_
  refine zV_if_eqB hX (tgt := 58) dX11_breaks_46 (by decide) (fun c_46 => absurd c_46 (by decide)) (fun c_46 => ?_)
  refine zV_iload_n hX dX11_breaks_49 rfl ?_
  refine zV_iconst hX (v := nI 1) dX11_breaks_50 (by decide) ?_
  refine zV_iconst hX (v := nI 2) dX11_breaks_51 (by decide) ?_
  refine zV_cS3p hX hR hl dX11_breaks_52 (zc_min l G _ _ _ _) zt_X11_in rfl zml_X11_162 (by decide) (Nat.le_of_ble_eq_true rfl) ?_
  dsimp only [Option.toList, List.cons_append, List.nil_append]
  refine zV_topi (zb false) (by rw [hx]) ?_
  refine zV_if_neB hX (tgt := 62) dX11_breaks_55 (by decide) (fun c_55 => absurd c_55 (by decide)) (fun c_55 => ?_)
  refine zV_iconst hX (v := nI 1) dX11_breaks_58 (by decide) ?_
  refine zV_goto hX (tgt := 63) dX11_breaks_59 (by decide) ?_
  refine zV_iconst hX (v := nI 2) dX11_breaks_63 (by decide) ?_
  refine zV_iconst hX (v := nI 1) dX11_breaks_64 (by decide) ?_
  refine zV_cV3p hX hR hl dX11_breaks_65 (zc_badT1 l G _ _ zw_same (by decide)) zt_X11_bad rfl zml_X11_166 zo300.1 ⟨by decide, by decide⟩ (Nat.le_of_ble_eq_true rfl) ?_
  dsimp only [Option.toList, List.cons_append, List.nil_append]
  refine zV_if_eqB hX (tgt := 73) dX11_breaks_68 (by decide) (fun c_68 => absurd c_68 (by decide)) (fun c_68 => ?_)
  refine zV_iconst hX (v := nI 0) dX11_breaks_71 (by decide) ?_
  exact zV_retz hX hQ hr (rfl) (⟨rfl, rfl⟩) dX11_breaks_72
set_option maxHeartbeats 1000000 in
theorem zc_mbreaksC (l : Launch) (G : zG) (M : zM) (n md c : Nat) (k : Int32) (hn3 : 3 ≤ n) (hn4 : n ≤ 4) (hc : c < n) (hmd1 : 1 ≤ md) (hmd : md ≤ 2) (hx : mIn k (nI 0) (nI (aPw n md c - 1)) = false) : zC l G 3 yX11_breaks cX11_breaks 5 (Option.some Jvm.ClassFile.FieldType.boolean) [.ref (300 : Nat), .int (nI n), .int (nI md), .int (nI c), .int k] M (zP (some (.int (zb false))) (mTw (nI 2) (nI 1) M)) := by
  refine zC_of (by decide) (Nat.le_of_ble_eq_true rfl) (fun X Q hQ hX hl hR hr => ?_)
  refine zV_loc (L' := [.ref (300 : Nat), .int (nI n), .int (nI md), .int (nI c), .int k]) rfl ?_
  have hb4 : aMb n md c ≤ 4 := by have := aMb_le n md c; omega
  have hpw := pw_27 hb4
  have hp1 : 1 ≤ aPw n md c := hpw.1
  have hp2 : aPw n md c ≤ 81 := hpw.2
  refine zV_aload_n hX dX11_breaks_0 rfl ?_
  refine zV_iconst hX (v := nI 0) dX11_breaks_1 (by decide) ?_
  refine zV_puti hX dX11_breaks_2 zf_X11_149 zp_9_0 zo300.1 rfl ?_
  refine zV_aload_n hX dX11_breaks_5 rfl ?_
  refine zV_iload_n hX dX11_breaks_6 rfl ?_
  refine zV_iconst hX (v := nI 3) dX11_breaks_7 (by decide) ?_
  refine zV_iconst hX (v := nI 4) dX11_breaks_8 (by decide) ?_
  refine zV_cS3p hX hR hl dX11_breaks_9 (zc_min l G _ _ _ _) zt_X11_in rfl zml_X11_162 (by decide) (Nat.le_of_ble_eq_true rfl) ?_
  dsimp only [Option.toList, List.cons_append, List.nil_append]
  refine zV_topi (zb true) (by rw [mIn_nI (by omega) (by omega) (by omega), decide_eq_false (by omega), Bool.not_false]) ?_
  refine zV_if_eqB hX (tgt := 30) dX11_breaks_12 (by decide) (fun c_12 => absurd c_12 (by decide)) (fun c_12 => ?_)
  refine zV_iload_n hX dX11_breaks_15 rfl ?_
  refine zV_iconst hX (v := nI 0) dX11_breaks_16 (by decide) ?_
  refine zV_iload_n hX dX11_breaks_17 rfl ?_
  refine zV_iconst hX (v := nI 1) dX11_breaks_18 (by decide) ?_
  refine zV_isubN hX dX11_breaks_19 (by omega) ?_
  refine zV_cS3p hX hR hl dX11_breaks_20 (zc_min l G _ _ _ _) zt_X11_in rfl zml_X11_162 (by decide) (Nat.le_of_ble_eq_true rfl) ?_
  dsimp only [Option.toList, List.cons_append, List.nil_append]
  refine zV_topi (zb true) (by rw [mIn_nI (by omega) (by omega) (by omega), decide_eq_false (by omega), Bool.not_false]) ?_
  refine zV_if_neB hX (tgt := 30) dX11_breaks_23 (by decide) (fun c_23 => ?_) (fun c_23 => absurd c_23 (by decide))
  refine zV_iconst hX (v := nI 0) dX11_breaks_30 (by decide) ?_
  refine zV_iconst hX (v := nI 1) dX11_breaks_31 (by decide) ?_
  refine zV_iconst hX (v := nI 0) dX11_breaks_32 (by decide) ?_
  refine zV_cV3p hX hR hl dX11_breaks_33 (zc_badF0 l G _ _ zw_same) zt_X11_bad rfl zml_X11_166 zo300.1 ⟨by decide, by decide⟩ (Nat.le_of_ble_eq_true rfl) ?_
  dsimp only [Option.toList, List.cons_append, List.nil_append]
  refine zV_if_neB hX (tgt := 71) dX11_breaks_36 (by decide) (fun c_36 => absurd c_36 (by decide)) (fun c_36 => ?_)
  refine zV_aload_n hX dX11_breaks_39 rfl ?_
  refine zV_iload_n hX dX11_breaks_40 rfl ?_
  refine zV_iconst hX (v := nI 3) dX11_breaks_41 (by decide) ?_
  refine zV_iconst hX (v := nI 4) dX11_breaks_42 (by decide) ?_
  refine zV_cS3p hX hR hl dX11_breaks_43 (zc_min l G _ _ _ _) zt_X11_in rfl zml_X11_162 (by decide) (Nat.le_of_ble_eq_true rfl) ?_
  dsimp only [Option.toList, List.cons_append, List.nil_append]
  refine zV_topi (zb true) (by rw [mIn_nI (by omega) (by omega) (by omega), decide_eq_false (by omega), Bool.not_false]) ?_
  refine zV_if_eqB hX (tgt := 58) dX11_breaks_46 (by decide) (fun c_46 => absurd c_46 (by decide)) (fun c_46 => ?_)
  refine zV_iload_n hX dX11_breaks_49 rfl ?_
  refine zV_iconst hX (v := nI 1) dX11_breaks_50 (by decide) ?_
  refine zV_iconst hX (v := nI 2) dX11_breaks_51 (by decide) ?_
  refine zV_cS3p hX hR hl dX11_breaks_52 (zc_min l G _ _ _ _) zt_X11_in rfl zml_X11_162 (by decide) (Nat.le_of_ble_eq_true rfl) ?_
  dsimp only [Option.toList, List.cons_append, List.nil_append]
  refine zV_topi (zb true) (by rw [mIn_nI (by omega) (by omega) (by omega), decide_eq_false (by omega), Bool.not_false]) ?_
  refine zV_if_neB hX (tgt := 62) dX11_breaks_55 (by decide) (fun c_55 => ?_) (fun c_55 => absurd c_55 (by decide))
  refine zV_iconst hX (v := nI 0) dX11_breaks_62 (by decide) ?_
  refine zV_iconst hX (v := nI 2) dX11_breaks_63 (by decide) ?_
  refine zV_iconst hX (v := nI 1) dX11_breaks_64 (by decide) ?_
  refine zV_cV3p hX hR hl dX11_breaks_65 (zc_badF1 l G _ _ zw_same) zt_X11_bad rfl zml_X11_166 zo300.1 ⟨by decide, by decide⟩ (Nat.le_of_ble_eq_true rfl) ?_
  dsimp only [Option.toList, List.cons_append, List.nil_append]
  refine zV_if_eqB hX (tgt := 73) dX11_breaks_68 (by decide) (fun c_68 => ?_) (fun c_68 => absurd c_68 (by decide))
  refine zV_aload_n hX dX11_breaks_73 rfl ?_
  refine zV_iload hX dX11_breaks_74 rfl ?_
  refine zV_iconst hX (v := nI 0) dX11_breaks_76 (by decide) ?_
  refine zV_iload_n hX dX11_breaks_77 rfl ?_
  refine zV_iload_n hX dX11_breaks_78 rfl ?_
  refine zV_iload_n hX dX11_breaks_79 rfl ?_
  refine zV_cS3p hX hR hl dX11_breaks_80 (zc_mmsgBy l G _ n md c (by omega) (by omega) (by omega) (by omega)) zt_X11_messagesBy rfl zml_X11_517 (by decide) (Nat.le_of_ble_eq_true rfl) ?_
  dsimp only [Option.toList, List.cons_append, List.nil_append]
  refine zV_cS1p hX hR hl dX11_breaks_83 (zc_mpower l G _ _ (aMb n md c) (by omega) (fun j hj => nI_leI (by omega) (by omega))) zt_X11_power rfl zml_X11_514 (by decide) (Nat.le_of_ble_eq_true rfl) ?_
  dsimp only [Option.toList, List.cons_append, List.nil_append]
  refine zV_topi (nI (aPw n md c)) rfl ?_
  refine zV_iconst hX (v := nI 1) dX11_breaks_86 (by decide) ?_
  refine zV_isubN hX dX11_breaks_87 (by omega) ?_
  refine zV_cS3p hX hR hl dX11_breaks_88 (zc_min l G _ _ _ _) zt_X11_in rfl zml_X11_162 (by decide) (Nat.le_of_ble_eq_true rfl) ?_
  dsimp only [Option.toList, List.cons_append, List.nil_append]
  refine zV_topi (zb false) (by rw [hx]) ?_
  refine zV_if_neB hX (tgt := 98) dX11_breaks_91 (by decide) (fun c_91 => absurd c_91 (by decide)) (fun c_91 => ?_)
  refine zV_iconst hX (v := nI 1) dX11_breaks_94 (by decide) ?_
  refine zV_goto hX (tgt := 99) dX11_breaks_95 (by decide) ?_
  refine zV_iconst hX (v := nI 2) dX11_breaks_99 (by decide) ?_
  refine zV_iconst hX (v := nI 1) dX11_breaks_100 (by decide) ?_
  refine zV_cV3p hX hR hl dX11_breaks_101 (zc_badT1 l G _ _ zw_same (by decide)) zt_X11_bad rfl zml_X11_166 zo300.1 ⟨by decide, by decide⟩ (Nat.le_of_ble_eq_true rfl) ?_
  dsimp only [Option.toList, List.cons_append, List.nil_append]
  refine zV_if_eqB hX (tgt := 109) dX11_breaks_104 (by decide) (fun c_104 => absurd c_104 (by decide)) (fun c_104 => ?_)
  refine zV_iconst hX (v := nI 0) dX11_breaks_107 (by decide) ?_
  exact zV_retz hX hQ hr (rfl) (⟨rfl, rfl⟩) dX11_breaks_108
set_option maxHeartbeats 1000000 in
theorem zc_mattacks (l : Launch) (G : zG) (M : zM) (n md c k : Nat) (hn3 : 3 ≤ n) (hn4 : n ≤ 4) (hc : c < n) (hmd1 : 1 ≤ md) (hmd : md ≤ 2) (hk : k ≤ 3) : zC l G 3 yX11_attacks cX11_attacks 10 (Option.some Jvm.ClassFile.FieldType.int) [.ref (300 : Nat), .int (nI n), .int (nI md), .int (nI c), .int (nI k)] M (zP (some (.int (if k = 0 then nI (aPw n md c) else if k = 1 then nI (zcnt (fun w => aBk (aOd n md c w) n c) (aPw n md c)) else if k = 2 then zfv (fun w => aBk (aOd n md c w) n c) (aPw n md c) else nI (aKf n md c (zfst (fun w => aBk (aOd n md c w) n c) (aPw n md c)))))) ((aAll n md c (aPw n md c) (m0 M)))) := by
  refine zC_of (by decide) (Nat.le_of_ble_eq_true rfl) (fun X Q hQ hX hl hR hr => ?_)
  refine zV_loc (L' := [.ref (300 : Nat), .int (nI n), .int (nI md), .int (nI c), .int (nI k), .null, .null, .null, .null, .null]) rfl ?_
  have hb4 : aMb n md c ≤ 4 := by have := aMb_le n md c; omega
  have hpw := pw_27 hb4
  have hp1 : 1 ≤ aPw n md c := hpw.1
  have hp2 : aPw n md c ≤ 81 := hpw.2
  have L106 : ∀ (f9 w : Nat), (aPw n md c) - w < f9 → w ≤ (aPw n md c) → zV G X Q 10 0 0 106 [.ref (300 : Nat), .int (nI n), .int (nI md), .int (nI c), .int (nI k), .int (nI (aPw n md c)), .int (nI (zcnt (fun w => aBk (aOd n md c w) n c) w)), .int (zfv (fun w => aBk (aOd n md c w) n c) w), .int (nI (aKf n md c (zfst (fun w => aBk (aOd n md c w) n c) w))), .int (nI w)] [] (aAll n md c w (m0 M)) := by
    intro f9
    induction f9 with
    | zero => intro w hw1 hw2; exact absurd hw1 (Nat.not_lt_zero _)
    | succ f9 ih =>
      intro w hw1 hw2
      have J158 : w < (aPw n md c) → zV G X Q 10 0 0 158 [.ref (300 : Nat), .int (nI n), .int (nI md), .int (nI c), .int (nI k), .int (nI (aPw n md c)), .int (nI (zcnt (fun w => aBk (aOd n md c w) n c) (w + 1))), .int (zfv (fun w => aBk (aOd n md c w) n c) (w + 1)), .int (nI (aKf n md c (zfst (fun w => aBk (aOd n md c w) n c) (w + 1)))), .int (nI w)] [] (aAll n md c (w + 1) (m0 M)) := by
        intro hwp
        refine zV_iincN hX (b := 1) dX11_attacks_158 rfl (by decide) ?_
        dsimp only [zst1, zst2, zclr, zc2]
        refine zV_goto hX (tgt := 106) dX11_attacks_161 (by decide) ?_
        exact ih (w + 1) (by omega) (by omega)
      refine zV_iload hX dX11_attacks_106 rfl ?_
      refine zV_iload hX dX11_attacks_108 rfl ?_
      refine zV_icmp_geN hX (tgt := 164) dX11_attacks_110 (by decide) ⟨by omega, by omega⟩ (fun c_110 => ?_) (fun c_110 => ?_)
      · have hwe : w = (aPw n md c) := by omega
        rw [hwe]
        refine zV_iload hX dX11_attacks_164 rfl ?_
        refine zV_if_neN hX (tgt := 174) dX11_attacks_166 (by decide) (by omega) (fun c_166 => ?_) (fun c_166 => ?_)
        · refine zV_iload hX dX11_attacks_174 rfl ?_
          refine zV_iconst hX (v := nI 1) dX11_attacks_176 (by decide) ?_
          refine zV_icmp_neN hX (tgt := 185) dX11_attacks_177 (by decide) ⟨by omega, by omega⟩ (fun c_177 => ?_) (fun c_177 => ?_)
          · refine zV_iload hX dX11_attacks_185 rfl ?_
            refine zV_iconst hX (v := nI 2) dX11_attacks_187 (by decide) ?_
            refine zV_icmp_neN hX (tgt := 196) dX11_attacks_188 (by decide) ⟨by omega, by omega⟩ (fun c_188 => ?_) (fun c_188 => ?_)
            · refine zV_iload hX dX11_attacks_196 rfl ?_
              exact zV_reti hX hQ hr (⟨by first | (rw [if_pos c_166]; done) | (rw [if_neg (by omega), if_pos c_177]; done) | (rw [if_neg (by omega), if_neg (by omega), if_pos c_188]; done) | (rw [if_neg (by omega), if_neg (by omega), if_neg (by omega)]; done), rfl⟩) dX11_attacks_198
            · refine zV_iload hX dX11_attacks_191 rfl ?_
              refine zV_goto hX (tgt := 198) dX11_attacks_193 (by decide) ?_
              exact zV_reti hX hQ hr (⟨by first | (rw [if_pos c_166]; done) | (rw [if_neg (by omega), if_pos c_177]; done) | (rw [if_neg (by omega), if_neg (by omega), if_pos c_188]; done) | (rw [if_neg (by omega), if_neg (by omega), if_neg (by omega)]; done), rfl⟩) dX11_attacks_198
          · refine zV_iload hX dX11_attacks_180 rfl ?_
            refine zV_goto hX (tgt := 198) dX11_attacks_182 (by decide) ?_
            exact zV_reti hX hQ hr (⟨by first | (rw [if_pos c_166]; done) | (rw [if_neg (by omega), if_pos c_177]; done) | (rw [if_neg (by omega), if_neg (by omega), if_pos c_188]; done) | (rw [if_neg (by omega), if_neg (by omega), if_neg (by omega)]; done), rfl⟩) dX11_attacks_198
        · refine zV_iload hX dX11_attacks_169 rfl ?_
          refine zV_goto hX (tgt := 198) dX11_attacks_171 (by decide) ?_
          exact zV_reti hX hQ hr (⟨by first | (rw [if_pos c_166]; done) | (rw [if_neg (by omega), if_pos c_177]; done) | (rw [if_neg (by omega), if_neg (by omega), if_pos c_188]; done) | (rw [if_neg (by omega), if_neg (by omega), if_neg (by omega)]; done), rfl⟩) dX11_attacks_198
      · refine zV_aload_n hX dX11_attacks_113 rfl ?_
        refine zV_iload_n hX dX11_attacks_114 rfl ?_
        refine zV_iload_n hX dX11_attacks_115 rfl ?_
        refine zV_iload_n hX dX11_attacks_116 rfl ?_
        refine zV_iload hX dX11_attacks_117 rfl ?_
        refine zV_cV4p hX hR hl dX11_attacks_119 (zc_tries l G _ n md c w (by omega) hn4 (by omega) (by omega) (by omega)) zt_X11_tries rfl zml_X11_523 zo300.1 ⟨by decide, by decide⟩ (Nat.le_of_ble_eq_true rfl) ?_
        dsimp only [Option.toList, List.cons_append, List.nil_append]
        refine zV_aload_n hX dX11_attacks_122 rfl ?_
        refine zV_iload_n hX dX11_attacks_123 rfl ?_
        refine zV_iload_n hX dX11_attacks_124 rfl ?_
        refine zV_cV2p hX hR hl dX11_attacks_125 (zc_misBroken l G _ n c (aOd n md c w) (by omega) hn4 (by omega) (fun i hi => aTry_at hi) (fun i => aOd_le n md c w i)) zt_X11_isBroken rfl zml_X11_527 zo300.1 ⟨by decide, by decide⟩ (Nat.le_of_ble_eq_true rfl) ?_
        dsimp only [Option.toList, List.cons_append, List.nil_append]
        refine zV_if_neB hX (tgt := 134) dX11_attacks_128 (by decide) (fun c_128 => ?_) (fun c_128 => ?_)
        · have e1 : zcnt (fun w => aBk (aOd n md c w) n c) (w + 1) = zcnt (fun w => aBk (aOd n md c w) n c) w + 1 := by rw [zcnt_s, if_pos c_128]
          refine zV_iincN hX (b := 1) dX11_attacks_134 rfl (by decide) ?_
          dsimp only [zst1, zst2, zclr, zc2]
          refine zV_iload hX dX11_attacks_137 rfl ?_
          refine zV_iconst hX (v := (-1)) dX11_attacks_139 (by decide) ?_
          refine zV_icmp_eq hX (tgt := 146) dX11_attacks_140 (by decide) (fun c_140 => ?_) (fun c_140 => ?_)
          · have hz := zfv_none (q := (fun w => aBk (aOd n md c w) n c)) (k := w) (by omega) c_140
            have e3 : zfst (fun w => aBk (aOd n md c w) n c) (w + 1) = some w := zfst_new hz c_128
            have e2 : zfv (fun w => aBk (aOd n md c w) n c) (w + 1) = nI w := zfv_some e3
            refine zV_iload hX dX11_attacks_146 rfl ?_
            refine zV_istore hX dX11_attacks_148 (by decide) ?_
            dsimp only [zst1, zst2, zclr, zc2]
            refine zV_aload_n hX dX11_attacks_150 rfl ?_
            refine zV_iload_n hX dX11_attacks_151 rfl ?_
            refine zV_iload_n hX dX11_attacks_152 rfl ?_
            refine zV_cV2p hX hR hl dX11_attacks_153 (zc_kinds l G _ n c (aOd n md c w) (by omega) hn4 (by omega) (fun i hi => aTry_at hi) (fun i => aOd_le n md c w i)) zt_X11_kinds rfl zml_X11_530 zo300.1 ⟨by decide, by decide⟩ (Nat.le_of_ble_eq_true rfl) ?_
            dsimp only [Option.toList, List.cons_append, List.nil_append]
            refine zV_istore hX dX11_attacks_156 (by decide) ?_
            dsimp only [zst1, zst2, zclr, zc2]
            refine zV_mem (show _ = aAll n md c (w + 1) (m0 M) from rfl) ?_
            exact zV_loc (by rw [e1, e2, e3]; try rfl) (J158 (by omega))
          · obtain ⟨a, ha, ha2⟩ := zfv_ne c_140
            have e3 : zfst (fun w => aBk (aOd n md c w) n c) (w + 1) = zfst (fun w => aBk (aOd n md c w) n c) w := by rw [zfst_old ha, ha]
            have e2 : zfv (fun w => aBk (aOd n md c w) n c) (w + 1) = zfv (fun w => aBk (aOd n md c w) n c) w := by rw [zfv, zfv, e3]
            refine zV_goto hX (tgt := 158) dX11_attacks_143 (by decide) ?_
            refine zV_mem (show _ = aAll n md c (w + 1) (m0 M) from rfl) ?_
            exact zV_loc (by rw [e1, e2, e3]; try rfl) (J158 (by omega))
        · have e8 : (fun w => aBk (aOd n md c w) n c) w = false := c_128
          have e1 : zcnt (fun w => aBk (aOd n md c w) n c) (w + 1) = zcnt (fun w => aBk (aOd n md c w) n c) w := by rw [zcnt_s, if_neg (by rw [c_128]; decide)]; rfl
          have e3 : zfst (fun w => aBk (aOd n md c w) n c) (w + 1) = zfst (fun w => aBk (aOd n md c w) n c) w := zfst_keep e8
          have e2 : zfv (fun w => aBk (aOd n md c w) n c) (w + 1) = zfv (fun w => aBk (aOd n md c w) n c) w := by rw [zfv, zfv, e3]
          refine zV_goto hX (tgt := 158) dX11_attacks_131 (by decide) ?_
          refine zV_mem (show _ = aAll n md c (w + 1) (m0 M) from rfl) ?_
          exact zV_loc (by rw [e1, e2, e3]; try rfl) (J158 (by omega))
  refine zV_aload_n hX dX11_attacks_0 rfl ?_
  refine zV_iconst hX (v := nI 0) dX11_attacks_1 (by decide) ?_
  refine zV_puti hX dX11_attacks_2 zf_X11_149 zp_9_0 zo300.1 rfl ?_
  refine zV_aload_n hX dX11_attacks_5 rfl ?_
  refine zV_iload_n hX dX11_attacks_6 rfl ?_
  refine zV_iconst hX (v := nI 3) dX11_attacks_7 (by decide) ?_
  refine zV_iconst hX (v := nI 4) dX11_attacks_8 (by decide) ?_
  refine zV_cS3p hX hR hl dX11_attacks_9 (zc_min l G _ _ _ _) zt_X11_in rfl zml_X11_162 (by decide) (Nat.le_of_ble_eq_true rfl) ?_
  dsimp only [Option.toList, List.cons_append, List.nil_append]
  refine zV_topi (zb true) (by rw [mIn_nI (by omega) (by omega) (by omega), decide_eq_false (by omega), Bool.not_false]) ?_
  refine zV_if_eqB hX (tgt := 30) dX11_attacks_12 (by decide) (fun c_12 => absurd c_12 (by decide)) (fun c_12 => ?_)
  refine zV_iload_n hX dX11_attacks_15 rfl ?_
  refine zV_iconst hX (v := nI 0) dX11_attacks_16 (by decide) ?_
  refine zV_iload_n hX dX11_attacks_17 rfl ?_
  refine zV_iconst hX (v := nI 1) dX11_attacks_18 (by decide) ?_
  refine zV_isubN hX dX11_attacks_19 (by omega) ?_
  refine zV_cS3p hX hR hl dX11_attacks_20 (zc_min l G _ _ _ _) zt_X11_in rfl zml_X11_162 (by decide) (Nat.le_of_ble_eq_true rfl) ?_
  dsimp only [Option.toList, List.cons_append, List.nil_append]
  refine zV_topi (zb true) (by rw [mIn_nI (by omega) (by omega) (by omega), decide_eq_false (by omega), Bool.not_false]) ?_
  refine zV_if_neB hX (tgt := 30) dX11_attacks_23 (by decide) (fun c_23 => ?_) (fun c_23 => absurd c_23 (by decide))
  refine zV_iconst hX (v := nI 0) dX11_attacks_30 (by decide) ?_
  refine zV_iconst hX (v := nI 1) dX11_attacks_31 (by decide) ?_
  refine zV_iconst hX (v := nI 0) dX11_attacks_32 (by decide) ?_
  refine zV_cV3p hX hR hl dX11_attacks_33 (zc_badF0 l G _ _ zw_same) zt_X11_bad rfl zml_X11_166 zo300.1 ⟨by decide, by decide⟩ (Nat.le_of_ble_eq_true rfl) ?_
  dsimp only [Option.toList, List.cons_append, List.nil_append]
  refine zV_if_neB hX (tgt := 81) dX11_attacks_36 (by decide) (fun c_36 => absurd c_36 (by decide)) (fun c_36 => ?_)
  refine zV_aload_n hX dX11_attacks_39 rfl ?_
  refine zV_iload_n hX dX11_attacks_40 rfl ?_
  refine zV_iconst hX (v := nI 3) dX11_attacks_41 (by decide) ?_
  refine zV_iconst hX (v := nI 4) dX11_attacks_42 (by decide) ?_
  refine zV_cS3p hX hR hl dX11_attacks_43 (zc_min l G _ _ _ _) zt_X11_in rfl zml_X11_162 (by decide) (Nat.le_of_ble_eq_true rfl) ?_
  dsimp only [Option.toList, List.cons_append, List.nil_append]
  refine zV_topi (zb true) (by rw [mIn_nI (by omega) (by omega) (by omega), decide_eq_false (by omega), Bool.not_false]) ?_
  refine zV_if_eqB hX (tgt := 68) dX11_attacks_46 (by decide) (fun c_46 => absurd c_46 (by decide)) (fun c_46 => ?_)
  refine zV_iload_n hX dX11_attacks_49 rfl ?_
  refine zV_iconst hX (v := nI 1) dX11_attacks_50 (by decide) ?_
  refine zV_iconst hX (v := nI 2) dX11_attacks_51 (by decide) ?_
  refine zV_cS3p hX hR hl dX11_attacks_52 (zc_min l G _ _ _ _) zt_X11_in rfl zml_X11_162 (by decide) (Nat.le_of_ble_eq_true rfl) ?_
  dsimp only [Option.toList, List.cons_append, List.nil_append]
  refine zV_topi (zb true) (by rw [mIn_nI (by omega) (by omega) (by omega), decide_eq_false (by omega), Bool.not_false]) ?_
  refine zV_if_eqB hX (tgt := 68) dX11_attacks_55 (by decide) (fun c_55 => absurd c_55 (by decide)) (fun c_55 => ?_)
  refine zV_iload hX dX11_attacks_58 rfl ?_
  refine zV_iconst hX (v := nI 0) dX11_attacks_60 (by decide) ?_
  refine zV_iconst hX (v := nI 3) dX11_attacks_61 (by decide) ?_
  refine zV_cS3p hX hR hl dX11_attacks_62 (zc_min l G _ _ _ _) zt_X11_in rfl zml_X11_162 (by decide) (Nat.le_of_ble_eq_true rfl) ?_
  dsimp only [Option.toList, List.cons_append, List.nil_append]
  refine zV_topi (zb true) (by rw [mIn_nI (by omega) (by omega) (by omega), decide_eq_false (by omega), Bool.not_false]) ?_
  refine zV_if_neB hX (tgt := 72) dX11_attacks_65 (by decide) (fun c_65 => ?_) (fun c_65 => absurd c_65 (by decide))
  refine zV_iconst hX (v := nI 0) dX11_attacks_72 (by decide) ?_
  refine zV_iconst hX (v := nI 2) dX11_attacks_73 (by decide) ?_
  refine zV_iconst hX (v := nI 1) dX11_attacks_74 (by decide) ?_
  refine zV_cV3p hX hR hl dX11_attacks_75 (zc_badF1 l G _ _ zw_same) zt_X11_bad rfl zml_X11_166 zo300.1 ⟨by decide, by decide⟩ (Nat.le_of_ble_eq_true rfl) ?_
  dsimp only [Option.toList, List.cons_append, List.nil_append]
  refine zV_if_eqB hX (tgt := 83) dX11_attacks_78 (by decide) (fun c_78 => ?_) (fun c_78 => absurd c_78 (by decide))
  refine zV_iload_n hX dX11_attacks_83 rfl ?_
  refine zV_iload_n hX dX11_attacks_84 rfl ?_
  refine zV_iload_n hX dX11_attacks_85 rfl ?_
  refine zV_cS3p hX hR hl dX11_attacks_86 (zc_mmsgBy l G _ n md c (by omega) (by omega) (by omega) (by omega)) zt_X11_messagesBy rfl zml_X11_517 (by decide) (Nat.le_of_ble_eq_true rfl) ?_
  dsimp only [Option.toList, List.cons_append, List.nil_append]
  refine zV_cS1p hX hR hl dX11_attacks_89 (zc_mpower l G _ _ (aMb n md c) (by omega) (fun j hj => nI_leI (by omega) (by omega))) zt_X11_power rfl zml_X11_514 (by decide) (Nat.le_of_ble_eq_true rfl) ?_
  dsimp only [Option.toList, List.cons_append, List.nil_append]
  refine zV_topi (nI (aPw n md c)) rfl ?_
  refine zV_istore hX dX11_attacks_92 (by decide) ?_
  dsimp only [zst1, zst2, zclr, zc2]
  refine zV_iconst hX (v := nI 0) dX11_attacks_94 (by decide) ?_
  refine zV_istore hX dX11_attacks_95 (by decide) ?_
  dsimp only [zst1, zst2, zclr, zc2]
  refine zV_iconst hX (v := (-1)) dX11_attacks_97 (by decide) ?_
  refine zV_istore hX dX11_attacks_98 (by decide) ?_
  dsimp only [zst1, zst2, zclr, zc2]
  refine zV_iconst hX (v := nI 0) dX11_attacks_100 (by decide) ?_
  refine zV_istore hX dX11_attacks_101 (by decide) ?_
  dsimp only [zst1, zst2, zclr, zc2]
  refine zV_iconst hX (v := nI 0) dX11_attacks_103 (by decide) ?_
  refine zV_istore hX dX11_attacks_104 (by decide) ?_
  dsimp only [zst1, zst2, zclr, zc2]
  exact L106 ((aPw n md c) + 1) 0 (by omega) (by omega)
set_option maxHeartbeats 1000000 in
theorem zc_mattacksX (l : Launch) (G : zG) (M : zM) (n : Nat) (md c k : Int32) (hn3 : 3 ≤ n) (hn4 : n ≤ 4) (hx : mIn c (nI 0) (nI (n - 1)) = false) : zC l G 3 yX11_attacks cX11_attacks 10 (Option.some Jvm.ClassFile.FieldType.int) [.ref (300 : Nat), .int (nI n), .int md, .int c, .int k] M (zP (some (.int (nI 0))) (mTw (nI 1) (nI 0) M)) := by
  refine zC_of (by decide) (Nat.le_of_ble_eq_true rfl) (fun X Q hQ hX hl hR hr => ?_)
  refine zV_loc (L' := [.ref (300 : Nat), .int (nI n), .int md, .int c, .int k, .null, .null, .null, .null, .null]) rfl ?_
  refine zV_aload_n hX dX11_attacks_0 rfl ?_
  refine zV_iconst hX (v := nI 0) dX11_attacks_1 (by decide) ?_
  refine zV_puti hX dX11_attacks_2 zf_X11_149 zp_9_0 zo300.1 rfl ?_
  refine zV_aload_n hX dX11_attacks_5 rfl ?_
  refine zV_iload_n hX dX11_attacks_6 rfl ?_
  refine zV_iconst hX (v := nI 3) dX11_attacks_7 (by decide) ?_
  refine zV_iconst hX (v := nI 4) dX11_attacks_8 (by decide) ?_
  refine zV_cS3p hX hR hl dX11_attacks_9 (zc_min l G _ _ _ _) zt_X11_in rfl zml_X11_162 (by decide) (Nat.le_of_ble_eq_true rfl) ?_
  dsimp only [Option.toList, List.cons_append, List.nil_append]
  refine zV_topi (zb true) (by rw [mIn_nI (by omega) (by omega) (by omega), decide_eq_false (by omega), Bool.not_false]) ?_
  refine zV_if_eqB hX (tgt := 30) dX11_attacks_12 (by decide) (fun c_12 => absurd c_12 (by decide)) (fun c_12 => ?_)
  refine zV_iload_n hX dX11_attacks_15 rfl ?_
  refine zV_iconst hX (v := nI 0) dX11_attacks_16 (by decide) ?_
  refine zV_iload_n hX dX11_attacks_17 rfl ?_
  refine zV_iconst hX (v := nI 1) dX11_attacks_18 (by decide) ?_
  refine zV_isubN hX dX11_attacks_19 (by omega) ?_
  refine zV_cS3p hX hR hl dX11_attacks_20 (zc_min l G _ _ _ _) zt_X11_in rfl zml_X11_162 (by decide) (Nat.le_of_ble_eq_true rfl) ?_
  dsimp only [Option.toList, List.cons_append, List.nil_append]
  refine zV_topi (zb false) (by rw [hx]) ?_
  refine zV_if_neB hX (tgt := 30) dX11_attacks_23 (by decide) (fun c_23 => absurd c_23 (by decide)) (fun c_23 => ?_)
  refine zV_iconst hX (v := nI 1) dX11_attacks_26 (by decide) ?_
  refine zV_goto hX (tgt := 31) dX11_attacks_27 (by decide) ?_
  refine zV_iconst hX (v := nI 1) dX11_attacks_31 (by decide) ?_
  refine zV_iconst hX (v := nI 0) dX11_attacks_32 (by decide) ?_
  refine zV_cV3p hX hR hl dX11_attacks_33 (zc_badT0 l G _ _ zw_same (by decide)) zt_X11_bad rfl zml_X11_166 zo300.1 ⟨by decide, by decide⟩ (Nat.le_of_ble_eq_true rfl) ?_
  dsimp only [Option.toList, List.cons_append, List.nil_append]
  refine zV_if_neB hX (tgt := 81) dX11_attacks_36 (by decide) (fun c_36 => ?_) (fun c_36 => absurd c_36 (by decide))
  refine zV_iconst hX (v := nI 0) dX11_attacks_81 (by decide) ?_
  exact zV_reti hX hQ hr (⟨rfl, rfl⟩) dX11_attacks_82
set_option maxHeartbeats 1000000 in
theorem zc_mattacksA (l : Launch) (G : zG) (M : zM) (n md c k : Int32) (hx : mIn n (nI 3) (nI 4) = false) : zC l G 3 yX11_attacks cX11_attacks 10 (Option.some Jvm.ClassFile.FieldType.int) [.ref (300 : Nat), .int n, .int md, .int c, .int k] M (zP (some (.int (nI 0))) (mTw (nI 2) (nI 1) M)) := by
  refine zC_of (by decide) (Nat.le_of_ble_eq_true rfl) (fun X Q hQ hX hl hR hr => ?_)
  refine zV_loc (L' := [.ref (300 : Nat), .int n, .int md, .int c, .int k, .null, .null, .null, .null, .null]) rfl ?_
  refine zV_aload_n hX dX11_attacks_0 rfl ?_
  refine zV_iconst hX (v := nI 0) dX11_attacks_1 (by decide) ?_
  refine zV_puti hX dX11_attacks_2 zf_X11_149 zp_9_0 zo300.1 rfl ?_
  refine zV_aload_n hX dX11_attacks_5 rfl ?_
  refine zV_iload_n hX dX11_attacks_6 rfl ?_
  refine zV_iconst hX (v := nI 3) dX11_attacks_7 (by decide) ?_
  refine zV_iconst hX (v := nI 4) dX11_attacks_8 (by decide) ?_
  refine zV_cS3p hX hR hl dX11_attacks_9 (zc_min l G _ _ _ _) zt_X11_in rfl zml_X11_162 (by decide) (Nat.le_of_ble_eq_true rfl) ?_
  dsimp only [Option.toList, List.cons_append, List.nil_append]
  refine zV_topi (zb false) (by rw [hx]) ?_
  refine zV_if_eqB hX (tgt := 30) dX11_attacks_12 (by decide) (fun c_12 => ?_) (fun c_12 => absurd c_12 (by decide))
  refine zV_iconst hX (v := nI 0) dX11_attacks_30 (by decide) ?_
  refine zV_iconst hX (v := nI 1) dX11_attacks_31 (by decide) ?_
  refine zV_iconst hX (v := nI 0) dX11_attacks_32 (by decide) ?_
  refine zV_cV3p hX hR hl dX11_attacks_33 (zc_badF0 l G _ _ zw_same) zt_X11_bad rfl zml_X11_166 zo300.1 ⟨by decide, by decide⟩ (Nat.le_of_ble_eq_true rfl) ?_
  dsimp only [Option.toList, List.cons_append, List.nil_append]
  refine zV_if_neB hX (tgt := 81) dX11_attacks_36 (by decide) (fun c_36 => absurd c_36 (by decide)) (fun c_36 => ?_)
  refine zV_aload_n hX dX11_attacks_39 rfl ?_
  refine zV_iload_n hX dX11_attacks_40 rfl ?_
  refine zV_iconst hX (v := nI 3) dX11_attacks_41 (by decide) ?_
  refine zV_iconst hX (v := nI 4) dX11_attacks_42 (by decide) ?_
  refine zV_cS3p hX hR hl dX11_attacks_43 (zc_min l G _ _ _ _) zt_X11_in rfl zml_X11_162 (by decide) (Nat.le_of_ble_eq_true rfl) ?_
  dsimp only [Option.toList, List.cons_append, List.nil_append]
  refine zV_topi (zb false) (by rw [hx]) ?_
  refine zV_if_eqB hX (tgt := 68) dX11_attacks_46 (by decide) (fun c_46 => ?_) (fun c_46 => absurd c_46 (by decide))
  refine zV_iconst hX (v := nI 1) dX11_attacks_68 (by decide) ?_
  refine zV_goto hX (tgt := 73) dX11_attacks_69 (by decide) ?_
  refine zV_iconst hX (v := nI 2) dX11_attacks_73 (by decide) ?_
  refine zV_iconst hX (v := nI 1) dX11_attacks_74 (by decide) ?_
  refine zV_cV3p hX hR hl dX11_attacks_75 (zc_badT1 l G _ _ zw_same (by decide)) zt_X11_bad rfl zml_X11_166 zo300.1 ⟨by decide, by decide⟩ (Nat.le_of_ble_eq_true rfl) ?_
  dsimp only [Option.toList, List.cons_append, List.nil_append]
  refine zV_if_eqB hX (tgt := 83) dX11_attacks_78 (by decide) (fun c_78 => absurd c_78 (by decide)) (fun c_78 => ?_)
  refine zV_iconst hX (v := nI 0) dX11_attacks_81 (by decide) ?_
  exact zV_reti hX hQ hr (⟨rfl, rfl⟩) dX11_attacks_82
set_option maxHeartbeats 1000000 in
theorem zc_mattacksB (l : Launch) (G : zG) (M : zM) (n c : Nat) (md k : Int32) (hn3 : 3 ≤ n) (hn4 : n ≤ 4) (hc : c < n) (hx : mIn md (nI 1) (nI 2) = false) : zC l G 3 yX11_attacks cX11_attacks 10 (Option.some Jvm.ClassFile.FieldType.int) [.ref (300 : Nat), .int (nI n), .int md, .int (nI c), .int k] M (zP (some (.int (nI 0))) (mTw (nI 2) (nI 1) M)) := by
  refine zC_of (by decide) (Nat.le_of_ble_eq_true rfl) (fun X Q hQ hX hl hR hr => ?_)
  refine zV_loc (L' := [.ref (300 : Nat), .int (nI n), .int md, .int (nI c), .int k, .null, .null, .null, .null, .null]) rfl ?_
  refine zV_aload_n hX dX11_attacks_0 rfl ?_
  refine zV_iconst hX (v := nI 0) dX11_attacks_1 (by decide) ?_
  refine zV_puti hX dX11_attacks_2 zf_X11_149 zp_9_0 zo300.1 rfl ?_
  refine zV_aload_n hX dX11_attacks_5 rfl ?_
  refine zV_iload_n hX dX11_attacks_6 rfl ?_
  refine zV_iconst hX (v := nI 3) dX11_attacks_7 (by decide) ?_
  refine zV_iconst hX (v := nI 4) dX11_attacks_8 (by decide) ?_
  refine zV_cS3p hX hR hl dX11_attacks_9 (zc_min l G _ _ _ _) zt_X11_in rfl zml_X11_162 (by decide) (Nat.le_of_ble_eq_true rfl) ?_
  dsimp only [Option.toList, List.cons_append, List.nil_append]
  refine zV_topi (zb true) (by rw [mIn_nI (by omega) (by omega) (by omega), decide_eq_false (by omega), Bool.not_false]) ?_
  refine zV_if_eqB hX (tgt := 30) dX11_attacks_12 (by decide) (fun c_12 => absurd c_12 (by decide)) (fun c_12 => ?_)
  refine zV_iload_n hX dX11_attacks_15 rfl ?_
  refine zV_iconst hX (v := nI 0) dX11_attacks_16 (by decide) ?_
  refine zV_iload_n hX dX11_attacks_17 rfl ?_
  refine zV_iconst hX (v := nI 1) dX11_attacks_18 (by decide) ?_
  refine zV_isubN hX dX11_attacks_19 (by omega) ?_
  refine zV_cS3p hX hR hl dX11_attacks_20 (zc_min l G _ _ _ _) zt_X11_in rfl zml_X11_162 (by decide) (Nat.le_of_ble_eq_true rfl) ?_
  dsimp only [Option.toList, List.cons_append, List.nil_append]
  refine zV_topi (zb true) (by rw [mIn_nI (by omega) (by omega) (by omega), decide_eq_false (by omega), Bool.not_false]) ?_
  refine zV_if_neB hX (tgt := 30) dX11_attacks_23 (by decide) (fun c_23 => ?_) (fun c_23 => absurd c_23 (by decide))
  refine zV_iconst hX (v := nI 0) dX11_attacks_30 (by decide) ?_
  refine zV_iconst hX (v := nI 1) dX11_attacks_31 (by decide) ?_
  refine zV_iconst hX (v := nI 0) dX11_attacks_32 (by decide) ?_
  refine zV_cV3p hX hR hl dX11_attacks_33 (zc_badF0 l G _ _ zw_same) zt_X11_bad rfl zml_X11_166 zo300.1 ⟨by decide, by decide⟩ (Nat.le_of_ble_eq_true rfl) ?_
  dsimp only [Option.toList, List.cons_append, List.nil_append]
  refine zV_if_neB hX (tgt := 81) dX11_attacks_36 (by decide) (fun c_36 => absurd c_36 (by decide)) (fun c_36 => ?_)
  refine zV_aload_n hX dX11_attacks_39 rfl ?_
  refine zV_iload_n hX dX11_attacks_40 rfl ?_
  refine zV_iconst hX (v := nI 3) dX11_attacks_41 (by decide) ?_
  refine zV_iconst hX (v := nI 4) dX11_attacks_42 (by decide) ?_
  refine zV_cS3p hX hR hl dX11_attacks_43 (zc_min l G _ _ _ _) zt_X11_in rfl zml_X11_162 (by decide) (Nat.le_of_ble_eq_true rfl) ?_
  dsimp only [Option.toList, List.cons_append, List.nil_append]
  refine zV_topi (zb true) (by rw [mIn_nI (by omega) (by omega) (by omega), decide_eq_false (by omega), Bool.not_false]) ?_
  refine zV_if_eqB hX (tgt := 68) dX11_attacks_46 (by decide) (fun c_46 => absurd c_46 (by decide)) (fun c_46 => ?_)
  refine zV_iload_n hX dX11_attacks_49 rfl ?_
  refine zV_iconst hX (v := nI 1) dX11_attacks_50 (by decide) ?_
  refine zV_iconst hX (v := nI 2) dX11_attacks_51 (by decide) ?_
  refine zV_cS3p hX hR hl dX11_attacks_52 (zc_min l G _ _ _ _) zt_X11_in rfl zml_X11_162 (by decide) (Nat.le_of_ble_eq_true rfl) ?_
  dsimp only [Option.toList, List.cons_append, List.nil_append]
  refine zV_topi (zb false) (by rw [hx]) ?_
  refine zV_if_eqB hX (tgt := 68) dX11_attacks_55 (by decide) (fun c_55 => ?_) (fun c_55 => absurd c_55 (by decide))
  refine zV_iconst hX (v := nI 1) dX11_attacks_68 (by decide) ?_
  refine zV_goto hX (tgt := 73) dX11_attacks_69 (by decide) ?_
  refine zV_iconst hX (v := nI 2) dX11_attacks_73 (by decide) ?_
  refine zV_iconst hX (v := nI 1) dX11_attacks_74 (by decide) ?_
  refine zV_cV3p hX hR hl dX11_attacks_75 (zc_badT1 l G _ _ zw_same (by decide)) zt_X11_bad rfl zml_X11_166 zo300.1 ⟨by decide, by decide⟩ (Nat.le_of_ble_eq_true rfl) ?_
  dsimp only [Option.toList, List.cons_append, List.nil_append]
  refine zV_if_eqB hX (tgt := 83) dX11_attacks_78 (by decide) (fun c_78 => absurd c_78 (by decide)) (fun c_78 => ?_)
  refine zV_iconst hX (v := nI 0) dX11_attacks_81 (by decide) ?_
  exact zV_reti hX hQ hr (⟨rfl, rfl⟩) dX11_attacks_82
set_option maxHeartbeats 1000000 in
theorem zc_mattacksC (l : Launch) (G : zG) (M : zM) (n md c : Nat) (k : Int32) (hn3 : 3 ≤ n) (hn4 : n ≤ 4) (hc : c < n) (hmd1 : 1 ≤ md) (hmd : md ≤ 2) (hx : mIn k (nI 0) (nI 3) = false) : zC l G 3 yX11_attacks cX11_attacks 10 (Option.some Jvm.ClassFile.FieldType.int) [.ref (300 : Nat), .int (nI n), .int (nI md), .int (nI c), .int k] M (zP (some (.int (nI 0))) (mTw (nI 2) (nI 1) M)) := by
  refine zC_of (by decide) (Nat.le_of_ble_eq_true rfl) (fun X Q hQ hX hl hR hr => ?_)
  refine zV_loc (L' := [.ref (300 : Nat), .int (nI n), .int (nI md), .int (nI c), .int k, .null, .null, .null, .null, .null]) rfl ?_
  refine zV_aload_n hX dX11_attacks_0 rfl ?_
  refine zV_iconst hX (v := nI 0) dX11_attacks_1 (by decide) ?_
  refine zV_puti hX dX11_attacks_2 zf_X11_149 zp_9_0 zo300.1 rfl ?_
  refine zV_aload_n hX dX11_attacks_5 rfl ?_
  refine zV_iload_n hX dX11_attacks_6 rfl ?_
  refine zV_iconst hX (v := nI 3) dX11_attacks_7 (by decide) ?_
  refine zV_iconst hX (v := nI 4) dX11_attacks_8 (by decide) ?_
  refine zV_cS3p hX hR hl dX11_attacks_9 (zc_min l G _ _ _ _) zt_X11_in rfl zml_X11_162 (by decide) (Nat.le_of_ble_eq_true rfl) ?_
  dsimp only [Option.toList, List.cons_append, List.nil_append]
  refine zV_topi (zb true) (by rw [mIn_nI (by omega) (by omega) (by omega), decide_eq_false (by omega), Bool.not_false]) ?_
  refine zV_if_eqB hX (tgt := 30) dX11_attacks_12 (by decide) (fun c_12 => absurd c_12 (by decide)) (fun c_12 => ?_)
  refine zV_iload_n hX dX11_attacks_15 rfl ?_
  refine zV_iconst hX (v := nI 0) dX11_attacks_16 (by decide) ?_
  refine zV_iload_n hX dX11_attacks_17 rfl ?_
  refine zV_iconst hX (v := nI 1) dX11_attacks_18 (by decide) ?_
  refine zV_isubN hX dX11_attacks_19 (by omega) ?_
  refine zV_cS3p hX hR hl dX11_attacks_20 (zc_min l G _ _ _ _) zt_X11_in rfl zml_X11_162 (by decide) (Nat.le_of_ble_eq_true rfl) ?_
  dsimp only [Option.toList, List.cons_append, List.nil_append]
  refine zV_topi (zb true) (by rw [mIn_nI (by omega) (by omega) (by omega), decide_eq_false (by omega), Bool.not_false]) ?_
  refine zV_if_neB hX (tgt := 30) dX11_attacks_23 (by decide) (fun c_23 => ?_) (fun c_23 => absurd c_23 (by decide))
  refine zV_iconst hX (v := nI 0) dX11_attacks_30 (by decide) ?_
  refine zV_iconst hX (v := nI 1) dX11_attacks_31 (by decide) ?_
  refine zV_iconst hX (v := nI 0) dX11_attacks_32 (by decide) ?_
  refine zV_cV3p hX hR hl dX11_attacks_33 (zc_badF0 l G _ _ zw_same) zt_X11_bad rfl zml_X11_166 zo300.1 ⟨by decide, by decide⟩ (Nat.le_of_ble_eq_true rfl) ?_
  dsimp only [Option.toList, List.cons_append, List.nil_append]
  refine zV_if_neB hX (tgt := 81) dX11_attacks_36 (by decide) (fun c_36 => absurd c_36 (by decide)) (fun c_36 => ?_)
  refine zV_aload_n hX dX11_attacks_39 rfl ?_
  refine zV_iload_n hX dX11_attacks_40 rfl ?_
  refine zV_iconst hX (v := nI 3) dX11_attacks_41 (by decide) ?_
  refine zV_iconst hX (v := nI 4) dX11_attacks_42 (by decide) ?_
  refine zV_cS3p hX hR hl dX11_attacks_43 (zc_min l G _ _ _ _) zt_X11_in rfl zml_X11_162 (by decide) (Nat.le_of_ble_eq_true rfl) ?_
  dsimp only [Option.toList, List.cons_append, List.nil_append]
  refine zV_topi (zb true) (by rw [mIn_nI (by omega) (by omega) (by omega), decide_eq_false (by omega), Bool.not_false]) ?_
  refine zV_if_eqB hX (tgt := 68) dX11_attacks_46 (by decide) (fun c_46 => absurd c_46 (by decide)) (fun c_46 => ?_)
  refine zV_iload_n hX dX11_attacks_49 rfl ?_
  refine zV_iconst hX (v := nI 1) dX11_attacks_50 (by decide) ?_
  refine zV_iconst hX (v := nI 2) dX11_attacks_51 (by decide) ?_
  refine zV_cS3p hX hR hl dX11_attacks_52 (zc_min l G _ _ _ _) zt_X11_in rfl zml_X11_162 (by decide) (Nat.le_of_ble_eq_true rfl) ?_
  dsimp only [Option.toList, List.cons_append, List.nil_append]
  refine zV_topi (zb true) (by rw [mIn_nI (by omega) (by omega) (by omega), decide_eq_false (by omega), Bool.not_false]) ?_
  refine zV_if_eqB hX (tgt := 68) dX11_attacks_55 (by decide) (fun c_55 => absurd c_55 (by decide)) (fun c_55 => ?_)
  refine zV_iload hX dX11_attacks_58 rfl ?_
  refine zV_iconst hX (v := nI 0) dX11_attacks_60 (by decide) ?_
  refine zV_iconst hX (v := nI 3) dX11_attacks_61 (by decide) ?_
  refine zV_cS3p hX hR hl dX11_attacks_62 (zc_min l G _ _ _ _) zt_X11_in rfl zml_X11_162 (by decide) (Nat.le_of_ble_eq_true rfl) ?_
  dsimp only [Option.toList, List.cons_append, List.nil_append]
  refine zV_topi (zb false) (by rw [hx]) ?_
  refine zV_if_neB hX (tgt := 72) dX11_attacks_65 (by decide) (fun c_65 => absurd c_65 (by decide)) (fun c_65 => ?_)
  refine zV_iconst hX (v := nI 1) dX11_attacks_68 (by decide) ?_
  refine zV_goto hX (tgt := 73) dX11_attacks_69 (by decide) ?_
  refine zV_iconst hX (v := nI 2) dX11_attacks_73 (by decide) ?_
  refine zV_iconst hX (v := nI 1) dX11_attacks_74 (by decide) ?_
  refine zV_cV3p hX hR hl dX11_attacks_75 (zc_badT1 l G _ _ zw_same (by decide)) zt_X11_bad rfl zml_X11_166 zo300.1 ⟨by decide, by decide⟩ (Nat.le_of_ble_eq_true rfl) ?_
  dsimp only [Option.toList, List.cons_append, List.nil_append]
  refine zV_if_eqB hX (tgt := 83) dX11_attacks_78 (by decide) (fun c_78 => absurd c_78 (by decide)) (fun c_78 => ?_)
  refine zV_iconst hX (v := nI 0) dX11_attacks_81 (by decide) ?_
  exact zV_reti hX hQ hr (⟨rfl, rfl⟩) dX11_attacks_82
