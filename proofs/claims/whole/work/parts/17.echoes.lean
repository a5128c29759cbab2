def zmax (a b : Int32) : Int32 := if a < b then b else a
theorem zV_max {G : zG} {X : zX} {Q : State → Prop} {nL pc idx D : Nat} {L S : List Value} {M : zM} {own : String} {cc : ByteArray} {x y : Int32} (h : zOk G X own cc nL) (hR : X.2.2.2.1 = zRm D) (d : decode cc pc = .ok (.invokestatic idx, 3)) (hm : Cond.methodLink own idx yJ9_max_7cf53 ∈ zT) (hroom : (S.map fun v => v.category).sum ≤ 8) (k : zV G X Q nL 0 0 (pc + 3) L (.int (zmax x y) :: S) M) : zV G X Q nL 0 0 pc L (.int y :: .int x :: S) M := fun H locs ls hW hS hl =>
  va_mmax h.1 h.2.1 (h.2.2.1.trans hl.1.symm) h.2.2.2.1 (h.2.2.2.2.1 _ hm) (h.2.2.2.2.1 _ zst_J9_max_7cf53) (h.2.2.2.2.1 _ zin_J9) (h.2.2.2.2.1 _ zco_J9_max_7cf53) (by rw [hR]; exact Nat.le_add_left 1 D) (by rw [hR, zCat]; show _ + 13 ≤ 100 * D + 100; omega) (Nat.zero_le _) (Nat.zero_le _) d (k H locs ls hW hS hl)
def zmin (a b : Int32) : Int32 := if b < a then b else a
theorem zV_min {G : zG} {X : zX} {Q : State → Prop} {nL pc idx D : Nat} {L S : List Value} {M : zM} {own : String} {cc : ByteArray} {x y : Int32} (h : zOk G X own cc nL) (hR : X.2.2.2.1 = zRm D) (d : decode cc pc = .ok (.invokestatic idx, 3)) (hm : Cond.methodLink own idx yJ9_min_7cf53 ∈ zT) (hroom : (S.map fun v => v.category).sum ≤ 8) (k : zV G X Q nL 0 0 (pc + 3) L (.int (zmin x y) :: S) M) : zV G X Q nL 0 0 pc L (.int y :: .int x :: S) M := fun H locs ls hW hS hl =>
  va_mmin h.1 h.2.1 (h.2.2.1.trans hl.1.symm) h.2.2.2.1 (h.2.2.2.2.1 _ hm) (h.2.2.2.2.1 _ zst_J9_min_7cf53) (h.2.2.2.2.1 _ zin_J9) (h.2.2.2.2.1 _ zco_J9_min_7cf53) (by rw [hR]; exact Nat.le_add_left 1 D) (by rw [hR, zCat]; show _ + 13 ≤ 100 * D + 100; omega) (Nat.zero_le _) (Nat.zero_le _) d (k H locs ls hW hS hl)
def eWh (lc : Nat) (cn : Nat → Nat) (r w x : Nat) (f tr : Int32) (M : zM) : Option (Option Int32) := lSaidF M lc w r x f tr (cn w) 0
set_option maxHeartbeats 1000000 in
theorem zc_espoken (l : Launch) (G : zG) (M : zM) (o g lc n t c r w x : Nat) (cn : Nat → Nat) (tr : Int32) (hO : zOb 0 o) (hG : zOb 1 g) (hgn : M.1 g 0 = nI n) (hn7 : n ≤ 7) (hgt : M.1 g 1 = nI t) (ht2 : t ≤ 2) (hgl : M.1 g 3 = nI lc) (hlc : lc < 2 ^ 31) (hcn : lyN lc M cn) (hL : lyF lc o (o + 13)) (hgo : g + 5 < o ∨ o + 13 < g) (hec : M.1 o 7 = nI c) (hw : w < 7) (hx : x < 7) : zC l G 2 yX0_spoken cX0_spoken 8 (Option.some Jvm.ClassFile.FieldType.long) [.ref o, .ref g, .int (nI r), .int (nI w), .int (nI x), .int tr] M (zP (some (.long (zlo (eWh lc cn r w x (nI c) tr M)))) (kCnt o (eWh lc cn r w x (nI c) tr M) M)) := by
  refine zC_of (by decide) (Nat.le_of_ble_eq_true rfl) (fun X Q hQ hX hl hR hr => ?_)
  refine zV_loc (L' := [.ref o, .ref g, .int (nI r), .int (nI w), .int (nI x), .int tr, .null, .null]) rfl ?_
  refine zV_aload_n hX dX0_spoken_0 rfl ?_
  refine zV_getp hX dX0_spoken_1 zf_X0_73 hG.1 rfl (hgl) hlc ?_
  refine zV_iload_n hX dX0_spoken_4 rfl ?_
  refine zV_iload_n hX dX0_spoken_5 rfl ?_
  refine zV_iload hX dX0_spoken_6 rfl ?_
  refine zV_aload_n hX dX0_spoken_8 rfl ?_
  refine zV_geti hX dX0_spoken_9 zf_X0_100 hO.1 rfl (hec) ?_
  refine zV_iload hX dX0_spoken_12 rfl ?_
  refine zV_cV5p hX hR hl dX0_spoken_14 (zc_said l G M lc w r x (cn w) (nI c) tr hL.1 hw (hcn w hw).1 (hcn w hw).2 hx) zt_X4_said rfl zml_X0_109 hL.1.1 ⟨by decide, by decide⟩ (Nat.le_of_ble_eq_true rfl) ?_
  dsimp only [Option.toList, List.cons_append, List.nil_append]
  refine zV_topl (zlo (eWh lc cn r w x (nI c) tr M)) rfl ?_
  refine zV_lstore hX dX0_spoken_17 (by decide) ?_
  dsimp only [zst1, zst2, zclr, zc2]
  refine zV_aload_n hX dX0_spoken_19 rfl ?_
  refine zV_dup hX dX0_spoken_20 rfl ?_
  refine zV_geti hX dX0_spoken_21 zf_X0_103 hO.1 rfl rfl ?_
  refine zV_lload hX dX0_spoken_24 rfl ?_
  refine zV_ldc2 hX dX0_spoken_26 zkc_X0_113 ?_
  refine zV_lcmp hX dX0_spoken_29 ?_
  refine zV_if_ne hX (tgt := 37) dX0_spoken_30 (by decide) (fun c_30 => ?_) (fun c_30 => ?_)
  · have e1 : (if (eWh lc cn r w x (nI c) tr M) = none then nI 0 else nI 1) = nI 1 := if_neg (fun q => c_30 ((zlo_m1 _).mpr q))
    refine zV_iconst hX (v := nI 1) dX0_spoken_37 (by decide) ?_
    refine zV_iadd hX dX0_spoken_38 ?_
    refine zV_puti hX dX0_spoken_39 zf_X0_103 zp_0_0 hO.1 rfl ?_
    refine zV_aload_n hX dX0_spoken_42 rfl ?_
    refine zV_dup hX dX0_spoken_43 rfl ?_
    refine zV_geti hX (x := M.1 o 1) dX0_spoken_44 zf_X0_106 hO.1 rfl (zw_ne (by omega)) ?_
    refine zV_lload hX dX0_spoken_47 rfl ?_
    refine zV_ldc2 hX dX0_spoken_49 zkc_X0_115 ?_
    refine zV_lcmp hX dX0_spoken_52 ?_
    refine zV_if_ne hX (tgt := 60) dX0_spoken_53 (by decide) (fun c_53 => ?_) (fun c_53 => ?_)
    · have e2 : (if (eWh lc cn r w x (nI c) tr M) = some none then nI 1 else nI 0) = nI 0 := if_neg (fun q => c_53 ((zlo_m2 _).mpr q))
      refine zV_iconst hX (v := nI 0) dX0_spoken_60 (by decide) ?_
      refine zV_iadd hX dX0_spoken_61 ?_
      refine zV_puti hX dX0_spoken_62 zf_X0_106 zp_0_1 hO.1 rfl ?_
      refine zV_lload hX dX0_spoken_65 rfl ?_
      exact zV_retl hX hQ hr (⟨rfl, by rw [kCnt, e1, e2]⟩) dX0_spoken_67
    · have e2 : (if (eWh lc cn r w x (nI c) tr M) = some none then nI 1 else nI 0) = nI 1 := if_pos ((zlo_m2 _).mp c_53)
      refine zV_iconst hX (v := nI 1) dX0_spoken_56 (by decide) ?_
      refine zV_goto hX (tgt := 61) dX0_spoken_57 (by decide) ?_
      refine zV_iadd hX dX0_spoken_61 ?_
      refine zV_puti hX dX0_spoken_62 zf_X0_106 zp_0_1 hO.1 rfl ?_
      refine zV_lload hX dX0_spoken_65 rfl ?_
      exact zV_retl hX hQ hr (⟨rfl, by rw [kCnt, e1, e2]⟩) dX0_spoken_67
  · have e1 : (if (eWh lc cn r w x (nI c) tr M) = none then nI 0 else nI 1) = nI 0 := if_pos ((zlo_m1 _).mp c_30)
    refine zV_iconst hX (v := nI 0) dX0_spoken_33 (by decide) ?_
    refine zV_goto hX (tgt := 38) dX0_spoken_34 (by decide) ?_
    refine zV_iadd hX dX0_spoken_38 ?_
    refine zV_puti hX dX0_spoken_39 zf_X0_103 zp_0_0 hO.1 rfl ?_
    refine zV_aload_n hX dX0_spoken_42 rfl ?_
    refine zV_dup hX dX0_spoken_43 rfl ?_
    refine zV_geti hX (x := M.1 o 1) dX0_spoken_44 zf_X0_106 hO.1 rfl (zw_ne (by omega)) ?_
    refine zV_lload hX dX0_spoken_47 rfl ?_
    refine zV_ldc2 hX dX0_spoken_49 zkc_X0_115 ?_
    refine zV_lcmp hX dX0_spoken_52 ?_
    refine zV_if_ne hX (tgt := 60) dX0_spoken_53 (by decide) (fun c_53 => ?_) (fun c_53 => ?_)
    · have e2 : (if (eWh lc cn r w x (nI c) tr M) = some none then nI 1 else nI 0) = nI 0 := if_neg (fun q => c_53 ((zlo_m2 _).mpr q))
      refine zV_iconst hX (v := nI 0) dX0_spoken_60 (by decide) ?_
      refine zV_iadd hX dX0_spoken_61 ?_
      refine zV_puti hX dX0_spoken_62 zf_X0_106 zp_0_1 hO.1 rfl ?_
      refine zV_lload hX dX0_spoken_65 rfl ?_
      exact zV_retl hX hQ hr (⟨rfl, by rw [kCnt, e1, e2]⟩) dX0_spoken_67
    · have e2 : (if (eWh lc cn r w x (nI c) tr M) = some none then nI 1 else nI 0) = nI 1 := if_pos ((zlo_m2 _).mp c_53)
      refine zV_iconst hX (v := nI 1) dX0_spoken_56 (by decide) ?_
      refine zV_goto hX (tgt := 61) dX0_spoken_57 (by decide) ?_
      refine zV_iadd hX dX0_spoken_61 ?_
      refine zV_puti hX dX0_spoken_62 zf_X0_106 zp_0_1 hO.1 rfl ?_
      refine zV_lload hX dX0_spoken_65 rfl ?_
      exact zV_retl hX hQ hr (⟨rfl, by rw [kCnt, e1, e2]⟩) dX0_spoken_67
def eBegin (o c : Nat) (M : zM) : zM := zfor (fun i M => zw (zw (zw (zw (zw M (o + 1 + 2) i (nI 0)) (o + 1 + 3) i (nI 0)) (o + 1 + 4) i (nI 0)) (o + 1 + 5) i (nI 0)) (o + 1 + 6) i (nI 0)) 7 (zw (zw (zw (zw M o 7 (nI c)) o 8 (nI 0)) o 0 (nI 0)) o 1 (nI 0))
set_option maxHeartbeats 1000000 in
theorem zc_ebegin (l : Launch) (G : zG) (M : zM) (o c : Nat) (hO : zOb 0 o) : zC l G 0 yX0_begin cX0_begin 3 (Option.none : Option Jvm.ClassFile.FieldType) [.ref o, .int (nI c)] M (zP none (eBegin o c M)) := by
  refine zC_of (by decide) (Nat.le_of_ble_eq_true rfl) (fun X Q hQ hX hl hR hr => ?_)
  refine zV_loc (L' := [.ref o, .int (nI c), .null]) rfl ?_
  have L9 : ∀ (f9 k : Nat), 7 - k < f9 → k ≤ 7 → zV G X Q 3 0 0 22 [.ref o, .int (nI c), .int (nI k)] [] (zfor (fun i M => zw (zw (zw (zw (zw M (o + 1 + 2) i (nI 0)) (o + 1 + 3) i (nI 0)) (o + 1 + 4) i (nI 0)) (o + 1 + 5) i (nI 0)) (o + 1 + 6) i (nI 0)) k (zw (zw (zw (zw M o 7 (nI c)) o 8 (nI 0)) o 0 (nI 0)) o 1 (nI 0))) := by
    intro f9
    induction f9 with
    | zero => intro k hk1 hk2; exact absurd hk1 (Nat.not_lt_zero _)
    | succ f9 ih =>
      intro k hk1 hk2
      refine zV_iload_n hX dX0_begin_22 rfl ?_
      refine zV_bipush hX (v := nI 7) dX0_begin_23 (by decide) ?_
      refine zV_icmp_geN hX (tgt := 69) dX0_begin_25 (by decide) ⟨by omega, by omega⟩ (fun c_25 => ?_) (fun c_25 => ?_)
      · exact zV_retv hX hQ hr (⟨rfl, by rw [show k = 7 by omega]; rfl⟩) dX0_begin_69
      · refine zV_aload_n hX dX0_begin_28 rfl ?_
        refine zV_geta hX dX0_begin_29 zf_X0_9 hO.1 rfl ?_
        refine zV_iload_n hX dX0_begin_32 rfl ?_
        refine zV_iconst hX (v := nI 0) dX0_begin_33 (by decide) ?_
        refine zV_iast hX dX0_begin_34 (hO.a 2 rfl) (rfl) ⟨by omega, by omega⟩ ?_
        refine zV_aload_n hX dX0_begin_35 rfl ?_
        refine zV_geta hX dX0_begin_36 zf_X0_15 hO.1 rfl ?_
        refine zV_iload_n hX dX0_begin_39 rfl ?_
        refine zV_iconst hX (v := nI 0) dX0_begin_40 (by decide) ?_
        refine zV_iast hX dX0_begin_41 (hO.a 3 rfl) (rfl) ⟨by omega, by omega⟩ ?_
        refine zV_aload_n hX dX0_begin_42 rfl ?_
        refine zV_geta hX dX0_begin_43 zf_X0_18 hO.1 rfl ?_
        refine zV_iload_n hX dX0_begin_46 rfl ?_
        refine zV_iconst hX (v := nI 0) dX0_begin_47 (by decide) ?_
        refine zV_iast hX dX0_begin_48 (hO.a 4 rfl) (rfl) ⟨by omega, by omega⟩ ?_
        refine zV_aload_n hX dX0_begin_49 rfl ?_
        refine zV_geta hX dX0_begin_50 zf_X0_21 hO.1 rfl ?_
        refine zV_iload_n hX dX0_begin_53 rfl ?_
        refine zV_iconst hX (v := nI 0) dX0_begin_54 (by decide) ?_
        refine zV_iast hX dX0_begin_55 (hO.a 5 rfl) (rfl) ⟨by omega, by omega⟩ ?_
        refine zV_aload_n hX dX0_begin_56 rfl ?_
        refine zV_geta hX dX0_begin_57 zf_X0_24 hO.1 rfl ?_
        refine zV_iload_n hX dX0_begin_60 rfl ?_
        refine zV_iconst hX (v := nI 0) dX0_begin_61 (by decide) ?_
        refine zV_iast hX dX0_begin_62 (hO.a 6 rfl) (rfl) ⟨by omega, by omega⟩ ?_
        refine zV_iincN hX (b := 1) dX0_begin_63 rfl (by decide) ?_
        dsimp only [zst1, zst2, zclr, zc2]
        refine zV_goto hX (tgt := 22) dX0_begin_66 (by decide) ?_
        exact ih (k + 1) (by omega) (by omega)
  refine zV_aload_n hX dX0_begin_0 rfl ?_
  refine zV_iload_n hX dX0_begin_1 rfl ?_
  refine zV_puti hX dX0_begin_2 zf_X0_100 zp_0_7 hO.1 rfl ?_
  refine zV_aload_n hX dX0_begin_5 rfl ?_
  refine zV_iconst hX (v := nI 0) dX0_begin_6 (by decide) ?_
  refine zV_puti hX dX0_begin_7 zf_X0_53 zp_0_8 hO.1 rfl ?_
  refine zV_aload_n hX dX0_begin_10 rfl ?_
  refine zV_iconst hX (v := nI 0) dX0_begin_11 (by decide) ?_
  refine zV_puti hX dX0_begin_12 zf_X0_103 zp_0_0 hO.1 rfl ?_
  refine zV_aload_n hX dX0_begin_15 rfl ?_
  refine zV_iconst hX (v := nI 0) dX0_begin_16 (by decide) ?_
  refine zV_puti hX dX0_begin_17 zf_X0_106 zp_0_1 hO.1 rfl ?_
  refine zV_iconst hX (v := nI 0) dX0_begin_20 (by decide) ?_
  refine zV_istore_n hX dX0_begin_21 (by decide) ?_
  dsimp only [zst1, zst2, zclr, zc2]
  exact L9 8 0 (by omega) (by omega)
set_option maxHeartbeats 1000000 in
theorem zc_alikeIn (l : Launch) (G : zG) (M : zM) (c len row : Nat) (set v : Int32) (hc : zSh c = (20, len)) (hlen : len ≤ 2000) (hrl : row + 7 ≤ len) : zC l G 1 yX0_alikeIn cX0_alikeIn 6 (Option.some Jvm.ClassFile.FieldType.int) [.ref c, .int (nI row), .int set, .int v] M (zP (some (.int (nI (zcnt (fun i => bit set i && M.1 c (row + i) == v) 7)))) M) := by
  refine zC_of (by decide) (Nat.le_of_ble_eq_true rfl) (fun X Q hQ hX hl hR hr => ?_)
  refine zV_loc (L' := [.ref c, .int (nI row), .int set, .int v, .null, .null]) rfl ?_
  have L6 : ∀ (f9 k : Nat), 7 - k < f9 → k ≤ 7 → zV G X Q 6 0 0 6 [.ref c, .int (nI row), .int set, .int v, .int (nI (zcnt (fun i => bit set i && M.1 c (row + i) == v) k)), .int (nI k)] [] M := by
    intro f9
    induction f9 with
    | zero => intro k hk1 hk2; exact absurd hk1 (Nat.not_lt_zero _)
    | succ f9 ih =>
      intro k hk1 hk2
      refine zV_iload hX dX0_alikeIn_6 rfl ?_
      refine zV_bipush hX (v := nI 7) dX0_alikeIn_8 (by decide) ?_
      refine zV_icmp_geN hX (tgt := 48) dX0_alikeIn_10 (by decide) ⟨by omega, by omega⟩ (fun c_10 => ?_) (fun c_10 => ?_)
      · refine zV_iload hX dX0_alikeIn_48 rfl ?_
        exact zV_reti hX hQ hr (⟨by rw [show k = 7 by omega], rfl⟩) dX0_alikeIn_50
      · refine zV_iload hX dX0_alikeIn_13 rfl ?_
        refine zV_iload_n hX dX0_alikeIn_15 rfl ?_
        refine zV_iload hX dX0_alikeIn_16 rfl ?_
        refine zV_cS2p hX hR hl dX0_alikeIn_18 (zc_isIn l G M set k) zt_X9_isIn rfl zml_X0_56 (by decide) (Nat.le_of_ble_eq_true rfl) ?_
        dsimp only [Option.toList, List.cons_append, List.nil_append]
        refine zV_if_eqB hX (tgt := 38) dX0_alikeIn_21 (by decide) (fun c_21 => ?_) (fun c_21 => ?_)
        · have e9 : zcnt (fun i => bit set i && M.1 c (row + i) == v) (k + 1) = zcnt (fun i => bit set i && M.1 c (row + i) == v) k + 0 := by rw [zcnt]; simp [c_21]
          refine zV_iconst hX (v := nI 0) dX0_alikeIn_38 (by decide) ?_
          refine zV_iaddN hX dX0_alikeIn_39 ?_
          refine zV_istore hX dX0_alikeIn_40 (by decide) ?_
          dsimp only [zst1, zst2, zclr, zc2]
          refine zV_iincN hX (b := 1) dX0_alikeIn_42 rfl (by decide) ?_
          dsimp only [zst1, zst2, zclr, zc2]
          refine zV_goto hX (tgt := 6) dX0_alikeIn_45 (by decide) ?_
          exact e9 ▸ ih (k + 1) (by omega) (by omega)
        · refine zV_aload_n hX dX0_alikeIn_24 rfl ?_
          refine zV_iload_n hX dX0_alikeIn_25 rfl ?_
          refine zV_iload hX dX0_alikeIn_26 rfl ?_
          refine zV_iaddN hX dX0_alikeIn_28 ?_
          refine zV_iald hX dX0_alikeIn_29 hc (rfl) ⟨by omega, by omega⟩ (rfl) ?_
          refine zV_iload_n hX dX0_alikeIn_30 rfl ?_
          refine zV_icmp_ne hX (tgt := 38) dX0_alikeIn_31 (by decide) (fun c_31 => ?_) (fun c_31 => ?_)
          · have e9 : zcnt (fun i => bit set i && M.1 c (row + i) == v) (k + 1) = zcnt (fun i => bit set i && M.1 c (row + i) == v) k + 0 := by rw [zcnt]; simp [c_31]
            refine zV_iconst hX (v := nI 0) dX0_alikeIn_38 (by decide) ?_
            refine zV_iaddN hX dX0_alikeIn_39 ?_
            refine zV_istore hX dX0_alikeIn_40 (by decide) ?_
            dsimp only [zst1, zst2, zclr, zc2]
            refine zV_iincN hX (b := 1) dX0_alikeIn_42 rfl (by decide) ?_
            dsimp only [zst1, zst2, zclr, zc2]
            refine zV_goto hX (tgt := 6) dX0_alikeIn_45 (by decide) ?_
            exact e9 ▸ ih (k + 1) (by omega) (by omega)
          · have e9 : zcnt (fun i => bit set i && M.1 c (row + i) == v) (k + 1) = zcnt (fun i => bit set i && M.1 c (row + i) == v) k + 1 := by rw [zcnt]; simp [c_21, c_31]
            refine zV_iconst hX (v := nI 1) dX0_alikeIn_34 (by decide) ?_
            refine zV_goto hX (tgt := 39) dX0_alikeIn_35 (by decide) ?_
            refine zV_iaddN hX dX0_alikeIn_39 ?_
            refine zV_istore hX dX0_alikeIn_40 (by decide) ?_
            dsimp only [zst1, zst2, zclr, zc2]
            refine zV_iincN hX (b := 1) dX0_alikeIn_42 rfl (by decide) ?_
            dsimp only [zst1, zst2, zclr, zc2]
            refine zV_goto hX (tgt := 6) dX0_alikeIn_45 (by decide) ?_
            exact e9 ▸ ih (k + 1) (by omega) (by omega)
  refine zV_iconst hX (v := nI 0) dX0_alikeIn_0 (by decide) ?_
  refine zV_istore hX dX0_alikeIn_1 (by decide) ?_
  dsimp only [zst1, zst2, zclr, zc2]
  refine zV_iconst hX (v := nI 0) dX0_alikeIn_3 (by decide) ?_
  refine zV_istore hX dX0_alikeIn_4 (by decide) ?_
  dsimp only [zst1, zst2, zclr, zc2]
  exact L6 8 0 (by omega) (by omega)
def eAb (row : Nat → Int32) (set : Int32) (lim : Nat) : Nat → Bool := fun w => bit set w && decide (lim < zcnt (fun i => bit set i && row i == row w) 7)
theorem zfst_up {q : Nat → Bool} {k a : Nat} : ∀ {n : Nat}, k ≤ n → zfst q k = some a → zfst q n = some a
  | 0, h, e => by rw [Nat.le_zero.mp h] at e; exact e
  | n + 1, h, e => by
    rcases Nat.lt_or_ge n k with q2 | q2
    · rw [show n + 1 = k by omega]; exact e
    · exact zfst_old (zfst_up q2 e)
set_option maxHeartbeats 1000000 in
theorem zc_firstAbove (l : Launch) (G : zG) (M : zM) (c len row lim : Nat) (set : Int32) (hc : zSh c = (20, len)) (hlen : len ≤ 2000) (hrl : row + 7 ≤ len) (hlim : lim < 100) : zC l G 2 yX0_firstAbove cX0_firstAbove 5 (Option.some Jvm.ClassFile.FieldType.int) [.ref c, .int (nI row), .int set, .int (nI lim)] M (zP (some (.int (zfv (eAb (fun i => M.1 c (row + i)) set lim) 7))) M) := by
  refine zC_of (by decide) (Nat.le_of_ble_eq_true rfl) (fun X Q hQ hX hl hR hr => ?_)
  refine zV_loc (L' := [.ref c, .int (nI row), .int set, .int (nI lim), .null]) rfl ?_
  have L3 : ∀ (f9 k : Nat), 7 - k < f9 → k ≤ 7 → zfst (eAb (fun i => M.1 c (row + i)) set lim) k = none → zV G X Q 5 0 0 3 [.ref c, .int (nI row), .int set, .int (nI lim), .int (nI k)] [] M := by
    intro f9
    induction f9 with
    | zero => intro k hk1 hk2 hk3; exact absurd hk1 (Nat.not_lt_zero _)
    | succ f9 ih =>
      intro k hk1 hk2 hk3
      refine zV_iload hX dX0_firstAbove_3 rfl ?_
      refine zV_bipush hX (v := nI 7) dX0_firstAbove_5 (by decide) ?_
      refine zV_icmp_geN hX (tgt := 44) dX0_firstAbove_7 (by decide) ⟨by omega, by omega⟩ (fun c_7 => ?_) (fun c_7 => ?_)
      · refine zV_iconst hX (v := (-1)) dX0_firstAbove_44 (by decide) ?_
        exact zV_reti hX hQ hr (⟨by rw [zfv, show (7 : Nat) = k by omega, hk3], rfl⟩) dX0_firstAbove_45
      · refine zV_iload_n hX dX0_firstAbove_10 rfl ?_
        refine zV_iload hX dX0_firstAbove_11 rfl ?_
        refine zV_cS2p hX hR hl dX0_firstAbove_13 (zc_isIn l G M set k) zt_X9_isIn rfl zml_X0_56 (by decide) (Nat.le_of_ble_eq_true rfl) ?_
        dsimp only [Option.toList, List.cons_append, List.nil_append]
        refine zV_if_eqB hX (tgt := 38) dX0_firstAbove_16 (by decide) (fun c_16 => ?_) (fun c_16 => ?_)
        · have e9 : zfst (eAb (fun i => M.1 c (row + i)) set lim) (k + 1) = none := by rw [zfst_keep (by simp [eAb, c_16]), hk3]
          refine zV_iincN hX (b := 1) dX0_firstAbove_38 rfl (by decide) ?_
          dsimp only [zst1, zst2, zclr, zc2]
          refine zV_goto hX (tgt := 3) dX0_firstAbove_41 (by decide) ?_
          exact ih (k + 1) (by omega) (by omega) e9
        · refine zV_aload_n hX dX0_firstAbove_19 rfl ?_
          refine zV_iload_n hX dX0_firstAbove_20 rfl ?_
          refine zV_iload_n hX dX0_firstAbove_21 rfl ?_
          refine zV_aload_n hX dX0_firstAbove_22 rfl ?_
          refine zV_iload_n hX dX0_firstAbove_23 rfl ?_
          refine zV_iload hX dX0_firstAbove_24 rfl ?_
          refine zV_iaddN hX dX0_firstAbove_26 ?_
          refine zV_iald hX dX0_firstAbove_27 hc (rfl) ⟨by omega, by omega⟩ (rfl) ?_
          refine zV_cS4p hX hR hl dX0_firstAbove_28 (zc_alikeIn l G M c len row set _ hc hlen hrl) zt_X0_alikeIn rfl zml_X0_137 (by decide) (Nat.le_of_ble_eq_true rfl) ?_
          dsimp only [Option.toList, List.cons_append, List.nil_append]
          refine zV_iload_n hX dX0_firstAbove_31 rfl ?_
          refine zV_icmp_leN hX (tgt := 38) dX0_firstAbove_32 (by decide) ⟨Nat.lt_of_le_of_lt (zcnt_le _ 7) (by decide), by omega⟩ (fun c_32 => ?_) (fun c_32 => ?_)
          · have e9 : zfst (eAb (fun i => M.1 c (row + i)) set lim) (k + 1) = none := by rw [zfst_keep (by unfold eAb; rw [decide_eq_false (Nat.not_lt.mpr c_32), Bool.and_false]), hk3]
            refine zV_iincN hX (b := 1) dX0_firstAbove_38 rfl (by decide) ?_
            dsimp only [zst1, zst2, zclr, zc2]
            refine zV_goto hX (tgt := 3) dX0_firstAbove_41 (by decide) ?_
            exact ih (k + 1) (by omega) (by omega) e9
          · have e9 : zfst (eAb (fun i => M.1 c (row + i)) set lim) (k + 1) = some k := zfst_new hk3 (by unfold eAb; rw [decide_eq_true (show _ < _ from c_32), c_16]; rfl)
            refine zV_iload hX dX0_firstAbove_35 rfl ?_
            exact zV_reti hX hQ hr (⟨by rw [zfv_some (zfst_up (show k + 1 ≤ 7 by omega) e9)], rfl⟩) dX0_firstAbove_37
  refine zV_iconst hX (v := nI 0) dX0_firstAbove_0 (by decide) ?_
  refine zV_istore hX dX0_firstAbove_1 (by decide) ?_
  dsimp only [zst1, zst2, zclr, zc2]
  exact L3 8 0 (by omega) (by omega) rfl
def eNot (row : Nat → Int32) : Nat → Int32
  | 0 => nI 0
  | k + 1 => eNot row k ||| (if row k = 0 then nI 1 <<< (nI k &&& 31) else nI 0)
def eLast (row : Nat → Int32) (lo : Int32) : Nat → Int32
  | 0 => nI 0
  | k + 1 => if bit lo k then eLast row lo k else zmax (eLast row lo k) (row k)
set_option maxHeartbeats 1000000 in
theorem zc_notAccepted (l : Launch) (G : zG) (M : zM) (o : Nat) (hO : zOb 0 o) : zC l G 0 yX0_notAccepted cX0_notAccepted 3 (Option.some Jvm.ClassFile.FieldType.int) [.ref o] M (zP (some (.int (eNot (M.1 (o + 1 + 3)) 7))) M) := by
  refine zC_of (by decide) (Nat.le_of_ble_eq_true rfl) (fun X Q hQ hX hl hR hr => ?_)
  refine zV_loc (L' := [.ref o, .null, .null]) rfl ?_
  have L4 : ∀ (f9 k : Nat), 7 - k < f9 → k ≤ 7 → zV G X Q 3 0 0 4 [.ref o, .int (eNot (M.1 (o + 1 + 3)) k), .int (nI k)] [] M := by
    intro f9
    induction f9 with
    | zero => intro k hk1 hk2; exact absurd hk1 (Nat.not_lt_zero _)
    | succ f9 ih =>
      intro k hk1 hk2
      refine zV_iload_n hX dX0_notAccepted_4 rfl ?_
      refine zV_bipush hX (v := nI 7) dX0_notAccepted_5 (by decide) ?_
      refine zV_icmp_geN hX (tgt := 35) dX0_notAccepted_7 (by decide) ⟨by omega, by omega⟩ (fun c_7 => ?_) (fun c_7 => ?_)
      · refine zV_iload_n hX dX0_notAccepted_35 rfl ?_
        exact zV_reti hX hQ hr (⟨by rw [show k = 7 by omega], rfl⟩) dX0_notAccepted_36
      · refine zV_iload_n hX dX0_notAccepted_10 rfl ?_
        refine zV_aload_n hX dX0_notAccepted_11 rfl ?_
        refine zV_geta hX dX0_notAccepted_12 zf_X0_15 hO.1 rfl ?_
        refine zV_iload_n hX dX0_notAccepted_15 rfl ?_
        refine zV_iald hX dX0_notAccepted_16 (hO.a 3 rfl) (rfl) ⟨by omega, by omega⟩ (rfl) ?_
        refine zV_if_ne hX (tgt := 26) dX0_notAccepted_17 (by decide) (fun c_17 => ?_) (fun c_17 => ?_)
        · have e9 : eNot (M.1 (o + 1 + 3)) (k + 1) = eNot (M.1 (o + 1 + 3)) k ||| nI 0 := by rw [eNot, if_neg c_17]
          refine zV_iconst hX (v := nI 0) dX0_notAccepted_26 (by decide) ?_
          refine zV_ior hX dX0_notAccepted_27 ?_
          refine zV_istore_n hX dX0_notAccepted_28 (by decide) ?_
          dsimp only [zst1, zst2, zclr, zc2]
          refine zV_iincN hX (b := 1) dX0_notAccepted_29 rfl (by decide) ?_
          dsimp only [zst1, zst2, zclr, zc2]
          refine zV_goto hX (tgt := 4) dX0_notAccepted_32 (by decide) ?_
          exact e9 ▸ ih (k + 1) (by omega) (by omega)
        · have e9 : eNot (M.1 (o + 1 + 3)) (k + 1) = eNot (M.1 (o + 1 + 3)) k ||| (nI 1 <<< (nI k &&& 31)) := by rw [eNot, if_pos c_17]
          refine zV_iconst hX (v := nI 1) dX0_notAccepted_20 (by decide) ?_
          refine zV_iload_n hX dX0_notAccepted_21 rfl ?_
          refine zV_ishl hX dX0_notAccepted_22 ?_
          refine zV_goto hX (tgt := 27) dX0_notAccepted_23 (by decide) ?_
          refine zV_ior hX dX0_notAccepted_27 ?_
          refine zV_istore_n hX dX0_notAccepted_28 (by decide) ?_
          dsimp only [zst1, zst2, zclr, zc2]
          refine zV_iincN hX (b := 1) dX0_notAccepted_29 rfl (by decide) ?_
          dsimp only [zst1, zst2, zclr, zc2]
          refine zV_goto hX (tgt := 4) dX0_notAccepted_32 (by decide) ?_
          exact e9 ▸ ih (k + 1) (by omega) (by omega)
  refine zV_iconst hX (v := nI 0) dX0_notAccepted_0 (by decide) ?_
  refine zV_istore_n hX dX0_notAccepted_1 (by decide) ?_
  dsimp only [zst1, zst2, zclr, zc2]
  refine zV_iconst hX (v := nI 0) dX0_notAccepted_2 (by decide) ?_
  refine zV_istore_n hX dX0_notAccepted_3 (by decide) ?_
  dsimp only [zst1, zst2, zclr, zc2]
  exact L4 8 0 (by omega) (by omega)
set_option maxHeartbeats 1000000 in
theorem zc_eunlike (l : Launch) (G : zG) (M : zM) (o g lc n : Nat) (hO : zOb 0 o) (hG : zOb 1 g) (hgn : M.1 g 0 = nI n) (hn7 : n ≤ 7) (hgl : M.1 g 3 = nI lc) (hlc : lc < 2 ^ 31) (hL : zOb 3 lc) : zC l G 3 yX0_unlike cX0_unlike 2 (Option.some Jvm.ClassFile.FieldType.int) [.ref o, .ref g] M (zP (some (.int (nI (zunl (M.1 (o + 1 + 2)) (M.1 lc 0 ||| eNot (M.1 (o + 1 + 3)) 7) n)))) M) := by
  refine zC_of (by decide) (Nat.le_of_ble_eq_true rfl) (fun X Q hQ hX hl hR hr => ?_)
  refine zV_loc (L' := [.ref o, .ref g]) rfl ?_
  refine zV_aload_n hX dX0_unlike_0 rfl ?_
  refine zV_geta hX dX0_unlike_1 zf_X0_9 hO.1 rfl ?_
  refine zV_aload_n hX dX0_unlike_4 rfl ?_
  refine zV_geti hX dX0_unlike_5 zf_X0_47 hG.1 rfl (hgn) ?_
  refine zV_aload_n hX dX0_unlike_8 rfl ?_
  refine zV_getp hX dX0_unlike_9 zf_X0_73 hG.1 rfl (hgl) hlc ?_
  refine zV_geti hX dX0_unlike_12 zf_X0_77 hL.1 rfl rfl ?_
  refine zV_aload_n hX dX0_unlike_15 rfl ?_
  refine zV_cV0p hX hR hl dX0_unlike_16 (zc_notAccepted l G M o hO) zt_X0_notAccepted rfl zml_X0_82 hO.1 ⟨by decide, by decide⟩ (Nat.le_of_ble_eq_true rfl) ?_
  dsimp only [Option.toList, List.cons_append, List.nil_append]
  refine zV_ior hX dX0_unlike_19 ?_
  refine zV_cS3p hX hR hl dX0_unlike_20 (zc_unlike l G M (o + 1 + 2) 7 n _ (hO.a 2 rfl) (by decide) hn7) zt_X9_unlike rfl zml_X0_86 (by decide) (Nat.le_of_ble_eq_true rfl) ?_
  dsimp only [Option.toList, List.cons_append, List.nil_append]
  exact zV_reti hX hQ hr (⟨rfl, rfl⟩) dX0_unlike_23
set_option maxHeartbeats 1000000 in
theorem zc_trueOnes (l : Launch) (G : zG) (M : zM) (o g lc n : Nat) (hO : zOb 0 o) (hG : zOb 1 g) (hgn : M.1 g 0 = nI n) (hn7 : n ≤ 7) (hgl : M.1 g 3 = nI lc) (hlc : lc < 2 ^ 31) (hL : zOb 3 lc) : zC l G 2 yX0_trueOnes cX0_trueOnes 4 (Option.some Jvm.ClassFile.FieldType.int) [.ref o, .ref g] M (zP (some (.int (nI (zcnt (fun m => !decide ((M.1 (o + 1 + 3)) m ≤ 0) && !bit (M.1 lc 0) m) n)))) M) := by
  refine zC_of (by decide) (Nat.le_of_ble_eq_true rfl) (fun X Q hQ hX hl hR hr => ?_)
  refine zV_loc (L' := [.ref o, .ref g, .null, .null]) rfl ?_
  have L4 : ∀ (f9 k : Nat), n - k < f9 → k ≤ n → zV G X Q 4 0 0 4 [.ref o, .ref g, .int (nI (zcnt (fun m => !decide ((M.1 (o + 1 + 3)) m ≤ 0) && !bit (M.1 lc 0) m) k)), .int (nI k)] [] M := by
    intro f9
    induction f9 with
    | zero => intro k hk1 hk2; exact absurd hk1 (Nat.not_lt_zero _)
    | succ f9 ih =>
      intro k hk1 hk2
      refine zV_iload_n hX dX0_trueOnes_4 rfl ?_
      refine zV_aload_n hX dX0_trueOnes_5 rfl ?_
      refine zV_geti hX dX0_trueOnes_6 zf_X0_47 hG.1 rfl (hgn) ?_
      refine zV_icmp_geN hX (tgt := 46) dX0_trueOnes_9 (by decide) ⟨by omega, by omega⟩ (fun c_9 => ?_) (fun c_9 => ?_)
      · refine zV_iload_n hX dX0_trueOnes_46 rfl ?_
        exact zV_reti hX hQ hr (⟨by rw [show k = n by omega], rfl⟩) dX0_trueOnes_47
      · refine zV_iload_n hX dX0_trueOnes_12 rfl ?_
        refine zV_aload_n hX dX0_trueOnes_13 rfl ?_
        refine zV_geta hX dX0_trueOnes_14 zf_X0_15 hO.1 rfl ?_
        refine zV_iload_n hX dX0_trueOnes_17 rfl ?_
        refine zV_iald hX dX0_trueOnes_18 (hO.a 3 rfl) (rfl) ⟨by omega, by omega⟩ (rfl) ?_
        refine zV_if_le hX (tgt := 37) dX0_trueOnes_19 (by decide) (fun c_19 => ?_) (fun c_19 => ?_)
        · have e9 : zcnt (fun m => !decide ((M.1 (o + 1 + 3)) m ≤ 0) && !bit (M.1 lc 0) m) (k + 1) = zcnt (fun m => !decide ((M.1 (o + 1 + 3)) m ≤ 0) && !bit (M.1 lc 0) m) k + 0 := by rw [zcnt]; simp [c_19]
          refine zV_iconst hX (v := nI 0) dX0_trueOnes_37 (by decide) ?_
          refine zV_iaddN hX dX0_trueOnes_38 ?_
          refine zV_istore_n hX dX0_trueOnes_39 (by decide) ?_
          dsimp only [zst1, zst2, zclr, zc2]
          refine zV_iincN hX (b := 1) dX0_trueOnes_40 rfl (by decide) ?_
          dsimp only [zst1, zst2, zclr, zc2]
          refine zV_goto hX (tgt := 4) dX0_trueOnes_43 (by decide) ?_
          exact e9 ▸ ih (k + 1) (by omega) (by omega)
        · refine zV_aload_n hX dX0_trueOnes_22 rfl ?_
          refine zV_getp hX dX0_trueOnes_23 zf_X0_73 hG.1 rfl (hgl) hlc ?_
          refine zV_iload_n hX dX0_trueOnes_26 rfl ?_
          refine zV_cV1p hX hR hl dX0_trueOnes_27 (zc_isLiar l G M lc k hL) zt_X4_isLiar rfl zml_X0_90 hL.1 ⟨by decide, by decide⟩ (Nat.le_of_ble_eq_true rfl) ?_
          dsimp only [Option.toList, List.cons_append, List.nil_append]
          refine zV_if_neB hX (tgt := 37) dX0_trueOnes_30 (by decide) (fun c_30 => ?_) (fun c_30 => ?_)
          · have e9 : zcnt (fun m => !decide ((M.1 (o + 1 + 3)) m ≤ 0) && !bit (M.1 lc 0) m) (k + 1) = zcnt (fun m => !decide ((M.1 (o + 1 + 3)) m ≤ 0) && !bit (M.1 lc 0) m) k + 0 := by rw [zcnt]; simp [c_30]
            refine zV_iconst hX (v := nI 0) dX0_trueOnes_37 (by decide) ?_
            refine zV_iaddN hX dX0_trueOnes_38 ?_
            refine zV_istore_n hX dX0_trueOnes_39 (by decide) ?_
            dsimp only [zst1, zst2, zclr, zc2]
            refine zV_iincN hX (b := 1) dX0_trueOnes_40 rfl (by decide) ?_
            dsimp only [zst1, zst2, zclr, zc2]
            refine zV_goto hX (tgt := 4) dX0_trueOnes_43 (by decide) ?_
            exact e9 ▸ ih (k + 1) (by omega) (by omega)
          · have e9 : zcnt (fun m => !decide ((M.1 (o + 1 + 3)) m ≤ 0) && !bit (M.1 lc 0) m) (k + 1) = zcnt (fun m => !decide ((M.1 (o + 1 + 3)) m ≤ 0) && !bit (M.1 lc 0) m) k + 1 := by rw [zcnt]; simp [c_19, c_30]
            refine zV_iconst hX (v := nI 1) dX0_trueOnes_33 (by decide) ?_
            refine zV_goto hX (tgt := 38) dX0_trueOnes_34 (by decide) ?_
            refine zV_iaddN hX dX0_trueOnes_38 ?_
            refine zV_istore_n hX dX0_trueOnes_39 (by decide) ?_
            dsimp only [zst1, zst2, zclr, zc2]
            refine zV_iincN hX (b := 1) dX0_trueOnes_40 rfl (by decide) ?_
            dsimp only [zst1, zst2, zclr, zc2]
            refine zV_goto hX (tgt := 4) dX0_trueOnes_43 (by decide) ?_
            exact e9 ▸ ih (k + 1) (by omega) (by omega)
  refine zV_iconst hX (v := nI 0) dX0_trueOnes_0 (by decide) ?_
  refine zV_istore_n hX dX0_trueOnes_1 (by decide) ?_
  dsimp only [zst1, zst2, zclr, zc2]
  refine zV_iconst hX (v := nI 0) dX0_trueOnes_2 (by decide) ?_
  refine zV_istore_n hX dX0_trueOnes_3 (by decide) ?_
  dsimp only [zst1, zst2, zclr, zc2]
  exact L4 (n + 1) 0 (by omega) (by omega)
set_option maxHeartbeats 1000000 in
theorem zc_lastRound (l : Launch) (G : zG) (M : zM) (o g lc n : Nat) (hO : zOb 0 o) (hG : zOb 1 g) (hgn : M.1 g 0 = nI n) (hn7 : n ≤ 7) (hgl : M.1 g 3 = nI lc) (hlc : lc < 2 ^ 31) (hL : zOb 3 lc) : zC l G 2 yX0_lastRound cX0_lastRound 4 (Option.some Jvm.ClassFile.FieldType.int) [.ref o, .ref g] M (zP (some (.int (eLast (M.1 (o + 1 + 3)) (M.1 lc 0) n))) M) := by
  refine zC_of (by decide) (Nat.le_of_ble_eq_true rfl) (fun X Q hQ hX hl hR hr => ?_)
  refine zV_loc (L' := [.ref o, .ref g, .null, .null]) rfl ?_
  have L4 : ∀ (f9 k : Nat), n - k < f9 → k ≤ n → zV G X Q 4 0 0 4 [.ref o, .ref g, .int (eLast (M.1 (o + 1 + 3)) (M.1 lc 0) k), .int (nI k)] [] M := by
    intro f9
    induction f9 with
    | zero => intro k hk1 hk2; exact absurd hk1 (Nat.not_lt_zero _)
    | succ f9 ih =>
      intro k hk1 hk2
      refine zV_iload_n hX dX0_lastRound_4 rfl ?_
      refine zV_aload_n hX dX0_lastRound_5 rfl ?_
      refine zV_geti hX dX0_lastRound_6 zf_X0_47 hG.1 rfl (hgn) ?_
      refine zV_icmp_geN hX (tgt := 44) dX0_lastRound_9 (by decide) ⟨by omega, by omega⟩ (fun c_9 => ?_) (fun c_9 => ?_)
      · refine zV_iload_n hX dX0_lastRound_44 rfl ?_
        exact zV_reti hX hQ hr (⟨by rw [show k = n by omega], rfl⟩) dX0_lastRound_45
      · refine zV_aload_n hX dX0_lastRound_12 rfl ?_
        refine zV_getp hX dX0_lastRound_13 zf_X0_73 hG.1 rfl (hgl) hlc ?_
        refine zV_iload_n hX dX0_lastRound_16 rfl ?_
        refine zV_cV1p hX hR hl dX0_lastRound_17 (zc_isLiar l G M lc k hL) zt_X4_isLiar rfl zml_X0_90 hL.1 ⟨by decide, by decide⟩ (Nat.le_of_ble_eq_true rfl) ?_
        dsimp only [Option.toList, List.cons_append, List.nil_append]
        refine zV_if_eqB hX (tgt := 27) dX0_lastRound_20 (by decide) (fun c_20 => ?_) (fun c_20 => ?_)
        · have e9 : eLast (M.1 (o + 1 + 3)) (M.1 lc 0) (k + 1) = zmax (eLast (M.1 (o + 1 + 3)) (M.1 lc 0) k) ((M.1 (o + 1 + 3)) k) := by rw [eLast, if_neg (by simp [c_20])]
          refine zV_iload_n hX dX0_lastRound_27 rfl ?_
          refine zV_aload_n hX dX0_lastRound_28 rfl ?_
          refine zV_geta hX dX0_lastRound_29 zf_X0_15 hO.1 rfl ?_
          refine zV_iload_n hX dX0_lastRound_32 rfl ?_
          refine zV_iald hX dX0_lastRound_33 (hO.a 3 rfl) (rfl) ⟨by omega, by omega⟩ (rfl) ?_
          refine zV_max hX hR dX0_lastRound_34 zml_X0_94 (Nat.le_of_ble_eq_true rfl) ?_
          refine zV_istore_n hX dX0_lastRound_37 (by decide) ?_
          dsimp only [zst1, zst2, zclr, zc2]
          refine zV_iincN hX (b := 1) dX0_lastRound_38 rfl (by decide) ?_
          dsimp only [zst1, zst2, zclr, zc2]
          refine zV_goto hX (tgt := 4) dX0_lastRound_41 (by decide) ?_
          exact e9 ▸ ih (k + 1) (by omega) (by omega)
        · have e9 : eLast (M.1 (o + 1 + 3)) (M.1 lc 0) (k + 1) = eLast (M.1 (o + 1 + 3)) (M.1 lc 0) k := by rw [eLast, if_pos c_20]
          refine zV_iload_n hX dX0_lastRound_23 rfl ?_
          refine zV_goto hX (tgt := 37) dX0_lastRound_24 (by decide) ?_
          refine zV_istore_n hX dX0_lastRound_37 (by decide) ?_
          dsimp only [zst1, zst2, zclr, zc2]
          refine zV_iincN hX (b := 1) dX0_lastRound_38 rfl (by decide) ?_
          dsimp only [zst1, zst2, zclr, zc2]
          refine zV_goto hX (tgt := 4) dX0_lastRound_41 (by decide) ?_
          exact e9 ▸ ih (k + 1) (by omega) (by omega)
  refine zV_iconst hX (v := nI 0) dX0_lastRound_0 (by decide) ?_
  refine zV_istore_n hX dX0_lastRound_1 (by decide) ?_
  dsimp only [zst1, zst2, zclr, zc2]
  refine zV_iconst hX (v := nI 0) dX0_lastRound_2 (by decide) ?_
  refine zV_istore_n hX dX0_lastRound_3 (by decide) ?_
  dsimp only [zst1, zst2, zclr, zc2]
  exact L4 (n + 1) 0 (by omega) (by omega)
/-- ECHOES at o: what is not its own stays, and its commander -/
def eZ (o : Nat) (M M' : zM) : Prop := (∀ a j, a < o ∨ o + 13 < a → M'.1 a j = M.1 a j) ∧ M'.1 o 7 = M.1 o 7
theorem eZ.rf {o : Nat} {M : zM} : eZ o M M := ⟨fun _ _ _ => rfl, rfl⟩
theorem eZ.tr {o : Nat} {M M1 M2 : zM} (h : eZ o M M1) (h2 : eZ o M1 M2) : eZ o M M2 := ⟨fun a j q => (h2.1 a j q).trans (h.1 a j q), h2.2.trans h.2⟩
theorem eZ.w {o : Nat} {M M1 : zM} {c k : Nat} {x : Int32} (h : eZ o M M1) (hc : (o ≤ c ∧ c ≤ o + 13) ∧ (c ≠ o ∨ k ≠ 7)) : eZ o M (zw M1 c k x) := ⟨fun a j q => (zw_ne (by omega)).trans (h.1 a j q), (zw_ne (by omega)).trans h.2⟩
theorem eZ.for {o : Nat} {f : Nat → zM → zM} (hf : ∀ i M, eZ o M (f i M)) : ∀ (n : Nat) (M : zM), eZ o M (zfor f n M)
  | 0, M => eZ.rf
  | n + 1, M => (eZ.for hf n M).tr (hf n _)
theorem eCnt_Z (o : Nat) (w : Option (Option Int32)) (M : zM) : eZ o M (kCnt o w M) := eZ.w (eZ.w eZ.rf (by omega)) (by omega)
def eP (o x : Nat) (w : Option (Option Int32)) (M : zM) : zM := match w with
  | some (some v) => zw (zw M o 8 (M.1 o 8 ||| (nI 1 <<< (nI x &&& 31)))) (o + 1 + 9) x v
  | _ => M
theorem eP_Z (o x : Nat) (w : Option (Option Int32)) (M : zM) : eZ o M (eP o x w M) := by
  unfold eP
  split
  · exact eZ.w (eZ.w eZ.rf (by omega)) (by omega)
  · exact eZ.rf
def eQ (rw sc x who : Nat) (w : Option (Option Int32)) (M : zM) : zM := match w with
  | some (some v) => zw (zw M rw (x * 7 + who) v) sc x (M.1 sc x ||| (nI 1 <<< (nI who &&& 31)))
  | _ => M
theorem eQ_Z {o rw sc : Nat} (x who : Nat) (w : Option (Option Int32)) (M : zM) (h : o < rw ∧ rw ≤ o + 13 ∧ o < sc ∧ sc ≤ o + 13) : eZ o M (eQ rw sc x who w M) := by
  unfold eQ
  split
  · exact eZ.w (eZ.w eZ.rf (by omega)) (by omega)
  · exact eZ.rf
theorem eP_no {o x : Nat} {w : Option (Option Int32)} {M : zM} (h : ∀ v, w ≠ some (some v)) : eP o x w M = M := by
  unfold eP
  split
  · rename_i v; exact absurd rfl (h v)
  · rfl
theorem eQ_no {a b x k : Nat} {w : Option (Option Int32)} {M : zM} (h : ∀ v, w ≠ some (some v)) : eQ a b x k w M = M := by
  unfold eQ
  split
  · rename_i v; exact absurd rfl (h v)
  · rfl
def eS1 (o lc c : Nat) (cn : Nat → Nat) (own : Int32) (x : Nat) (M : zM) : zM :=
  if x = c then eP o x (some (some own)) M else eP o x (eWh lc cn 1 c x (nI c) own M) (kCnt o (eWh lc cn 1 c x (nI c) own M) M)
theorem eS1_Z (o lc c : Nat) (cn : Nat → Nat) (own : Int32) (x : Nat) (M : zM) : eZ o M (eS1 o lc c cn own x M) := by
  unfold eS1
  split
  · exact eP_Z o x _ M
  · exact (eCnt_Z o _ M).tr (eP_Z o x _ _)
def eS (o lc c : Nat) (cn : Nat → Nat) (own : Int32) (k : Nat) (M : zM) : zM := zfor (eS1 o lc c cn own) k M
theorem eS_Z (o lc c : Nat) (cn : Nat → Nat) (own : Int32) (k : Nat) (M : zM) : eZ o M (eS o lc c cn own k M) := eZ.for (eS1_Z o lc c cn own) k M
def eT1 (o lc c : Nat) (cn : Nat → Nat) (r w : Nat) (tr : Int32) (ra sa x : Nat) (M : zM) : zM :=
  if x = w then eQ ra sa x w (some (some tr)) M else eQ ra sa x w (eWh lc cn r w x (nI c) tr M) (kCnt o (eWh lc cn r w x (nI c) tr M) M)
theorem eT1_Z {o ra sa : Nat} (lc c : Nat) (cn : Nat → Nat) (r w : Nat) (tr : Int32) (x : Nat) (M : zM) (h : o < ra ∧ ra ≤ o + 13 ∧ o < sa ∧ sa ≤ o + 13) : eZ o M (eT1 o lc c cn r w tr ra sa x M) := by
  unfold eT1
  split
  · exact eQ_Z x w _ M h
  · exact (eCnt_Z o _ M).tr (eQ_Z x w _ _ h)
def eT (o lc c : Nat) (cn : Nat → Nat) (r w : Nat) (tr : Int32) (ra sa k : Nat) (M : zM) : zM := zfor (eT1 o lc c cn r w tr ra sa) k M
theorem eT_Z {o ra sa : Nat} (lc c : Nat) (cn : Nat → Nat) (r w : Nat) (tr : Int32) (k : Nat) (M : zM) (h : o < ra ∧ ra ≤ o + 13 ∧ o < sa ∧ sa ≤ o + 13) : eZ o M (eT o lc c cn r w tr ra sa k M) := eZ.for (fun x M => eT1_Z lc c cn r w tr x M h) k M
def eMk (o m r n t : Nat) (M : zM) : zM := match zfst (eAb (fun i => M.1 (o + 1 + 10) (m * 7 + i)) (M.1 (o + 1 + 5) m) ((n + t) / 2)) 7 with
  | some a => zw (zw M (o + 1 + 12) m (M.1 (o + 1 + 10) (m * 7 + a))) (o + 1 + 4) m (nI r)
  | none => match zfst (eAb (fun i => M.1 (o + 1 + 11) (m * 7 + i)) (M.1 (o + 1 + 6) m) t) 7 with
    | some b => zw (zw M (o + 1 + 12) m (M.1 (o + 1 + 11) (m * 7 + b))) (o + 1 + 4) m (nI r)
    | none => M
theorem eMk_Z (o m r n t : Nat) (M : zM) : eZ o M (eMk o m r n t M) := by
  unfold eMk
  split
  · exact eZ.w (eZ.w eZ.rf (by omega)) (by omega)
  · split
    · exact eZ.w (eZ.w eZ.rf (by omega)) (by omega)
    · exact eZ.rf
def eA1 (o r t m : Nat) (M : zM) : zM := match zfst (eAb (fun i => M.1 (o + 1 + 11) (m * 7 + i)) (M.1 (o + 1 + 6) m) (2 * t)) 7 with
  | some a => if M.1 (o + 1 + 3) m = nI 0 then zw (zw M (o + 1 + 2) m (M.1 (o + 1 + 11) (m * 7 + a))) (o + 1 + 3) m (nI r) else M
  | none => M
theorem eA1_Z (o r t m : Nat) (M : zM) : eZ o M (eA1 o r t m M) := by
  unfold eA1
  split
  · split
    · exact eZ.w (eZ.w eZ.rf (by omega)) (by omega)
    · exact eZ.rf
  · exact eZ.rf
def eAc (o n r t : Nat) (M : zM) : zM := zfor (eA1 o r t) n M
theorem eAc_Z (o r t n : Nat) (M : zM) : eZ o M (zfor (eA1 o r t) n M) := eZ.for (eA1_Z o r t) n M
def eR1 (o r n t m : Nat) (M : zM) : zM := if M.1 (o + 1 + 4) m = nI 0 then eMk o m r n t M else M
theorem eR1_Z (o r n t m : Nat) (M : zM) : eZ o M (eR1 o r n t m M) := by
  unfold eR1
  split
  · exact eMk_Z o m r n t M
  · exact eZ.rf
def eR2 (o lc c n : Nat) (cn : Nat → Nat) (r m : Nat) (M : zM) : zM := if M.1 (o + 1 + 4) m = nI r then eT o lc c cn 3 m (M.1 (o + 1 + 12) m) (o + 1 + 11) (o + 1 + 6) n M else M
theorem eR2_Z (o lc c n : Nat) (cn : Nat → Nat) (r m : Nat) (M : zM) : eZ o M (eR2 o lc c n cn r m M) := by
  unfold eR2
  split
  · exact eT_Z lc c cn 3 m _ n M (by omega)
  · exact eZ.rf
def eRa (o r n t k : Nat) (M : zM) : zM := zfor (eR1 o r n t) k M
theorem eRa_Z (o r n t k : Nat) (M : zM) : eZ o M (eRa o r n t k M) := eZ.for (eR1_Z o r n t) k M
def eRb (o lc c n : Nat) (cn : Nat → Nat) (t r k : Nat) (M : zM) : zM := zfor (eR2 o lc c n cn r) k (eRa o r n t n M)
theorem eRb_Z (o lc c n : Nat) (cn : Nat → Nat) (t r k : Nat) (M : zM) : eZ o M (eRb o lc c n cn t r k M) := (eRa_Z o r n t n M).tr (eZ.for (eR2_Z o lc c n cn r) k _)
def eE1 (o lc c n : Nat) (cn : Nat → Nat) (m : Nat) (M : zM) : zM := if bit (M.1 o 8) m then eT o lc c cn 2 m (M.1 (o + 1 + 9) m) (o + 1 + 10) (o + 1 + 5) n M else M
theorem eE1_Z (o lc c n : Nat) (cn : Nat → Nat) (m : Nat) (M : zM) : eZ o M (eE1 o lc c n cn m M) := by
  unfold eE1
  split
  · exact eT_Z lc c cn 2 m _ n M (by omega)
  · exact eZ.rf
def ePa (o g lc c n : Nat) (cn : Nat → Nat) (k : Nat) (M : zM) : zM := zfor (eE1 o lc c n cn) k (eS o lc c cn (M.1 (g + 1 + 4) c) n (eBegin o c M))
def eRnd (o lc c n t : Nat) (cn : Nat → Nat) (i : Nat) (M : zM) : zM := eAc o n (i + 3) t (eRb o lc c n cn t (i + 3) n M)
theorem eRnd_Z (o lc c n t : Nat) (cn : Nat → Nat) (i : Nat) (M : zM) : eZ o M (eRnd o lc c n t cn i M) := (eRb_Z o lc c n cn t (i + 3) n M).tr (eAc_Z o (i + 3) t n _)
def ePb (o g lc c n t : Nat) (cn : Nat → Nat) (k : Nat) (M : zM) : zM := zfor (eRnd o lc c n t cn) k (ePa o g lc c n cn n M)
def ePlay (o g lc c n t : Nat) (cn : Nat → Nat) (M : zM) : zM := ePb o g lc c n t cn 4 M
def eFi (o c : Nat) (M M' : zM) : Prop := (∀ a j, a < o ∨ o + 13 < a → M'.1 a j = M.1 a j) ∧ M'.1 o 7 = nI c
theorem eFi.go {o c : Nat} {M M1 M2 : zM} (h : eFi o c M M1) (h2 : eZ o M1 M2) : eFi o c M M2 := ⟨fun a j q => (h2.1 a j q).trans (h.1 a j q), h2.2.trans h.2⟩
theorem eFi.b (o c : Nat) (M : zM) : eFi o c M (eBegin o c M) := by
  unfold eBegin
  refine ⟨fun a j h => ?_, ?_⟩
  · rw [zfor_at (fun i M => by rw [zw_ne (by omega), zw_ne (by omega), zw_ne (by omega), zw_ne (by omega), zw_ne (by omega)]), zw_ne (by omega), zw_ne (by omega), zw_ne (by omega), zw_ne (by omega)]
  · rw [zfor_at (fun i M => by rw [zw_ne (by omega), zw_ne (by omega), zw_ne (by omega), zw_ne (by omega), zw_ne (by omega)]), zw_ne (by omega), zw_ne (by omega), zw_ne (by omega), zw_same]
theorem eFi.a (o g lc c n : Nat) (cn : Nat → Nat) (k : Nat) (M : zM) : eFi o c M (ePa o g lc c n cn k M) := ((eFi.b o c M).go (eS_Z o lc c cn _ n _)).go (eZ.for (eE1_Z o lc c n cn) k _)
theorem eFi.p (o g lc c n t : Nat) (cn : Nat → Nat) (k : Nat) (M : zM) : eFi o c M (ePb o g lc c n t cn k M) := (eFi.a o g lc c n cn n M).go (eZ.for (eRnd_Z o lc c n t cn) k _)
set_option maxHeartbeats 1000000 in
theorem zc_sayOrder (l : Launch) (G : zG) (M : zM) (o g lc n t c : Nat) (cn : Nat → Nat) (hO : zOb 0 o) (hG : zOb 1 g) (hgn : M.1 g 0 = nI n) (hn7 : n ≤ 7) (hgt : M.1 g 1 = nI t) (ht2 : t ≤ 2) (hgl : M.1 g 3 = nI lc) (hlc : lc < 2 ^ 31) (hcn : lyN lc M cn) (hL : lyF lc o (o + 13)) (hgo : g + 5 < o ∨ o + 13 < g) (hec : M.1 o 7 = nI c) (hc7 : c < 7) : zC l G 3 yX0_sayOrder cX0_sayOrder 6 (Option.none : Option Jvm.ClassFile.FieldType) [.ref o, .ref g] M (zP none (eS o lc c cn (M.1 (g + 1 + 4) c) n M)) := by
  refine zC_of (by decide) (Nat.le_of_ble_eq_true rfl) (fun X Q hQ hX hl hR hr => ?_)
  refine zV_loc (L' := [.ref o, .ref g, .null, .null, .null, .null]) rfl ?_
  have L12 : ∀ (f9 k : Nat) (v1 v2 : Value), n - k < f9 → k ≤ n → zV G X Q 6 0 0 12 [.ref o, .ref g, .int (M.1 (g + 1 + 4) c), .int (nI k), v1, v2] [] (eS o lc c cn (M.1 (g + 1 + 4) c) k M) := by
    intro f9
    induction f9 with
    | zero => intro k v1 v2 hk1 hk2; exact absurd hk1 (Nat.not_lt_zero _)
    | succ f9 ih =>
      intro k v1 v2 hk1 hk2
      have hZ := eS_Z o lc c cn (M.1 (g + 1 + 4) c) k M
      have J49 : k < n → ∀ (w9 : Option (Option Int32)) (M9 : zM), eP o k w9 M9 = eS o lc c cn (M.1 (g + 1 + 4) c) (k + 1) M → zV G X Q 6 0 0 49 [.ref o, .ref g, .int (M.1 (g + 1 + 4) c), .int (nI k), v1, v2] [.long (zlo w9)] M9 := by
        intro hkn w9 M9 h9
        refine zV_lstore hX dX0_sayOrder_49 (by decide) ?_
        dsimp only [zst1, zst2, zclr, zc2]
        refine zV_lload hX dX0_sayOrder_51 rfl ?_
        refine zV_lconst hX (v := 0) dX0_sayOrder_53 rfl ?_
        refine zV_lcmp hX dX0_sayOrder_54 ?_
        refine zV_if_lt hX (tgt := 79) dX0_sayOrder_55 (by decide) (fun c_55 => ?_) (fun c_55 => ?_)
        · have e8 := eP_no (o := o) (x := k) (M := M9) (zlo_lt c_55)
          refine zV_iincN hX (b := 1) dX0_sayOrder_79 rfl (by decide) ?_
          dsimp only [zst1, zst2, zclr, zc2]
          refine zV_goto hX (tgt := 12) dX0_sayOrder_82 (by decide) ?_
          have h8 := ih (k + 1) (.long (zlo w9)) .null (by omega) (by omega)
          rw [h9.symm.trans e8] at h8
          exact h8
        · obtain ⟨v9, hv9⟩ := zlo_ge c_55
          have e8 : eP o k w9 M9 = zw (zw M9 o 8 (M9.1 o 8 ||| (nI 1 <<< (nI k &&& 31)))) (o + 1 + 9) k v9 := by rw [hv9]; rfl
          refine zV_aload_n hX dX0_sayOrder_58 rfl ?_
          refine zV_dup hX dX0_sayOrder_59 rfl ?_
          refine zV_geti hX dX0_sayOrder_60 zf_X0_53 hO.1 rfl rfl ?_
          refine zV_iconst hX (v := nI 1) dX0_sayOrder_63 (by decide) ?_
          refine zV_iload_n hX dX0_sayOrder_64 rfl ?_
          refine zV_ishl hX dX0_sayOrder_65 ?_
          refine zV_ior hX dX0_sayOrder_66 ?_
          refine zV_puti hX dX0_sayOrder_67 zf_X0_53 zp_0_8 hO.1 rfl ?_
          refine zV_aload_n hX dX0_sayOrder_70 rfl ?_
          refine zV_geta hX dX0_sayOrder_71 zf_X0_27 hO.1 rfl ?_
          refine zV_iload_n hX dX0_sayOrder_74 rfl ?_
          refine zV_lload hX dX0_sayOrder_75 rfl ?_
          refine zV_l2i hX dX0_sayOrder_77 ?_
          refine zV_topi v9 (by rw [hv9]; exact zlv_i v9) ?_
          refine zV_iast hX dX0_sayOrder_78 (hO.a 9 rfl) (rfl) ⟨by omega, by omega⟩ ?_
          refine zV_iincN hX (b := 1) dX0_sayOrder_79 rfl (by decide) ?_
          dsimp only [zst1, zst2, zclr, zc2]
          refine zV_goto hX (tgt := 12) dX0_sayOrder_82 (by decide) ?_
          have h8 := ih (k + 1) (.long (zlo w9)) .null (by omega) (by omega)
          rw [h9.symm.trans e8] at h8
          exact h8
      refine zV_iload_n hX dX0_sayOrder_12 rfl ?_
      refine zV_aload_n hX dX0_sayOrder_13 rfl ?_
      refine zV_geti hX dX0_sayOrder_14 zf_X0_47 hG.1 rfl (by rw [hZ.1 _ _ (by omega), hgn]) ?_
      refine zV_icmp_geN hX (tgt := 85) dX0_sayOrder_17 (by decide) ⟨by omega, by omega⟩ (fun c_17 => ?_) (fun c_17 => ?_)
      · exact zV_retv hX hQ hr (⟨rfl, by rw [show k = n by omega]⟩) dX0_sayOrder_85
      · refine zV_iload_n hX dX0_sayOrder_20 rfl ?_
        refine zV_aload_n hX dX0_sayOrder_21 rfl ?_
        refine zV_geti hX dX0_sayOrder_22 zf_X0_100 hO.1 rfl (by rw [hZ.2, hec]) ?_
        refine zV_icmp_neN hX (tgt := 37) dX0_sayOrder_25 (by decide) ⟨by omega, by omega⟩ (fun c_25 => ?_) (fun c_25 => ?_)
        · refine zV_aload_n hX dX0_sayOrder_37 rfl ?_
          refine zV_aload_n hX dX0_sayOrder_38 rfl ?_
          refine zV_iconst hX (v := nI 1) dX0_sayOrder_39 (by decide) ?_
          refine zV_aload_n hX dX0_sayOrder_40 rfl ?_
          refine zV_geti hX dX0_sayOrder_41 zf_X0_100 hO.1 rfl (by rw [hZ.2, hec]) ?_
          refine zV_iload_n hX dX0_sayOrder_44 rfl ?_
          refine zV_iload_n hX dX0_sayOrder_45 rfl ?_
          refine zV_cV5p hX hR hl dX0_sayOrder_46 (zc_espoken l G _ o g lc n t c 1 c k cn _ hO hG (by rw [hZ.1 _ _ (by omega), hgn]) hn7 (by rw [hZ.1 _ _ (by omega), hgt]) ht2 (by rw [hZ.1 _ _ (by omega), hgl]) hlc (fun m hm => by rw [hZ.1 _ _ (by have := hL.2 2 (by omega); omega)]; exact hcn m hm) hL hgo (by rw [hZ.2, hec]) hc7 (by omega)) zt_X0_spoken rfl zml_X0_122 hO.1 ⟨by decide, by decide⟩ (Nat.le_of_ble_eq_true rfl) ?_
          dsimp only [Option.toList, List.cons_append, List.nil_append]
          first
            | exact J49 (by omega) (some (some _)) _ (by show _ = eS1 o lc c cn (M.1 (g + 1 + 4) c) k (eS o lc c cn (M.1 (g + 1 + 4) c) k M); unfold eS1; rw [if_pos c_25])
            | exact J49 (by omega) _ _ (by show _ = eS1 o lc c cn (M.1 (g + 1 + 4) c) k (eS o lc c cn (M.1 (g + 1 + 4) c) k M); unfold eS1; rw [if_neg c_25])
        · refine zV_iload_n hX dX0_sayOrder_28 rfl ?_
          refine zV_i2l hX dX0_sayOrder_29 ?_
          refine zV_ldc2 hX dX0_sayOrder_30 zkc_X0_120 ?_
          refine zV_land hX dX0_sayOrder_33 ?_
          refine zV_goto hX (tgt := 49) dX0_sayOrder_34 (by decide) ?_
          first
            | exact J49 (by omega) (some (some _)) _ (by show _ = eS1 o lc c cn (M.1 (g + 1 + 4) c) k (eS o lc c cn (M.1 (g + 1 + 4) c) k M); unfold eS1; rw [if_pos c_25])
            | exact J49 (by omega) _ _ (by show _ = eS1 o lc c cn (M.1 (g + 1 + 4) c) k (eS o lc c cn (M.1 (g + 1 + 4) c) k M); unfold eS1; rw [if_neg c_25])
  refine zV_aload_n hX dX0_sayOrder_0 rfl ?_
  refine zV_geta hX dX0_sayOrder_1 zf_X0_117 hG.1 rfl ?_
  refine zV_aload_n hX dX0_sayOrder_4 rfl ?_
  refine zV_geti hX dX0_sayOrder_5 zf_X0_100 hO.1 rfl (hec) ?_
  refine zV_iald hX dX0_sayOrder_8 (hG.a 4 rfl) (rfl) ⟨by omega, by omega⟩ (rfl) ?_
  refine zV_istore_n hX dX0_sayOrder_9 (by decide) ?_
  dsimp only [zst1, zst2, zclr, zc2]
  refine zV_iconst hX (v := nI 0) dX0_sayOrder_10 (by decide) ?_
  refine zV_istore_n hX dX0_sayOrder_11 (by decide) ?_
  dsimp only [zst1, zst2, zclr, zc2]
  exact L12 (n + 1) 0 _ _ (by omega) (by omega)
set_option maxHeartbeats 1000000 in
theorem zc_sayToAll (l : Launch) (G : zG) (M : zM) (o g lc n t c r w ra sa : Nat) (cn : Nat → Nat) (tr : Int32) (hO : zOb 0 o) (hG : zOb 1 g) (hgn : M.1 g 0 = nI n) (hn7 : n ≤ 7) (hgt : M.1 g 1 = nI t) (ht2 : t ≤ 2) (hgl : M.1 g 3 = nI lc) (hlc : lc < 2 ^ 31) (hcn : lyN lc M cn) (hL : lyF lc o (o + 13)) (hgo : g + 5 < o ∨ o + 13 < g) (hec : M.1 o 7 = nI c) (hw : w < 7) (hrs : zSh ra = (20, 49)) (hss : zSh sa = (20, 7)) (hfr : o < ra ∧ ra ≤ o + 13 ∧ o < sa ∧ sa ≤ o + 13) (hne : ra ≠ sa) : zC l G 3 yX0_sayToAll cX0_sayToAll 10 (Option.none : Option Jvm.ClassFile.FieldType) [.ref o, .ref g, .int (nI r), .int (nI w), .int tr, .ref ra, .ref sa] M (zP none (eT o lc c cn r w tr ra sa n M)) := by
  refine zC_of (by decide) (Nat.le_of_ble_eq_true rfl) (fun X Q hQ hX hl hR hr => ?_)
  refine zV_loc (L' := [.ref o, .ref g, .int (nI r), .int (nI w), .int tr, .ref ra, .ref sa, .null, .null, .null]) rfl ?_
  have L3 : ∀ (f9 k : Nat) (v1 v2 : Value), n - k < f9 → k ≤ n → zV G X Q 10 0 0 3 [.ref o, .ref g, .int (nI r), .int (nI w), .int tr, .ref ra, .ref sa, .int (nI k), v1, v2] [] (eT o lc c cn r w tr ra sa k M) := by
    intro f9
    induction f9 with
    | zero => intro k v1 v2 hk1 hk2; exact absurd hk1 (Nat.not_lt_zero _)
    | succ f9 ih =>
      intro k v1 v2 hk1 hk2
      have hZ := eT_Z lc c cn r w tr k M hfr
      have J39 : k < n → ∀ (w9 : Option (Option Int32)) (M9 : zM), eQ ra sa k w w9 M9 = eT o lc c cn r w tr ra sa (k + 1) M → zV G X Q 10 0 0 39 [.ref o, .ref g, .int (nI r), .int (nI w), .int tr, .ref ra, .ref sa, .int (nI k), v1, v2] [.long (zlo w9)] M9 := by
        intro hkn w9 M9 h9
        refine zV_lstore hX dX0_sayToAll_39 (by decide) ?_
        dsimp only [zst1, zst2, zclr, zc2]
        refine zV_lload hX dX0_sayToAll_41 rfl ?_
        refine zV_lconst hX (v := 0) dX0_sayToAll_43 rfl ?_
        refine zV_lcmp hX dX0_sayToAll_44 ?_
        refine zV_if_lt hX (tgt := 72) dX0_sayToAll_45 (by decide) (fun c_45 => ?_) (fun c_45 => ?_)
        · have e8 := eQ_no (a := ra) (b := sa) (x := k) (k := w) (M := M9) (zlo_lt c_45)
          refine zV_iincN hX (b := 1) dX0_sayToAll_72 rfl (by decide) ?_
          dsimp only [zst1, zst2, zclr, zc2]
          refine zV_goto hX (tgt := 3) dX0_sayToAll_75 (by decide) ?_
          have h8 := ih (k + 1) (.long (zlo w9)) .null (by omega) (by omega)
          rw [h9.symm.trans e8] at h8
          exact h8
        · obtain ⟨v9, hv9⟩ := zlo_ge c_45
          have e8 : eQ ra sa k w w9 M9 = zw (zw M9 ra (k * 7 + w) v9) sa k (M9.1 sa k ||| (nI 1 <<< (nI w &&& 31))) := by rw [hv9]; rfl
          refine zV_aload hX dX0_sayToAll_48 rfl ?_
          refine zV_iload hX dX0_sayToAll_50 rfl ?_
          refine zV_bipush hX (v := nI 7) dX0_sayToAll_52 (by decide) ?_
          refine zV_imulN hX dX0_sayToAll_54 ?_
          refine zV_iload_n hX dX0_sayToAll_55 rfl ?_
          refine zV_iaddN hX dX0_sayToAll_56 ?_
          refine zV_lload hX dX0_sayToAll_57 rfl ?_
          refine zV_l2i hX dX0_sayToAll_59 ?_
          refine zV_topi v9 (by rw [hv9]; exact zlv_i v9) ?_
          refine zV_iast hX dX0_sayToAll_60 hrs (rfl) ⟨by omega, by omega⟩ ?_
          refine zV_aload hX dX0_sayToAll_61 rfl ?_
          refine zV_iload hX dX0_sayToAll_63 rfl ?_
          refine zV_dup2 hX dX0_sayToAll_65 rfl rfl ?_
          refine zV_iald hX (v := M9.1 sa k) dX0_sayToAll_66 hss (rfl) ⟨by omega, by omega⟩ (zw_ne (by omega)) ?_
          refine zV_iconst hX (v := nI 1) dX0_sayToAll_67 (by decide) ?_
          refine zV_iload_n hX dX0_sayToAll_68 rfl ?_
          refine zV_ishl hX dX0_sayToAll_69 ?_
          refine zV_ior hX dX0_sayToAll_70 ?_
          refine zV_iast hX dX0_sayToAll_71 hss (rfl) ⟨by omega, by omega⟩ ?_
          refine zV_iincN hX (b := 1) dX0_sayToAll_72 rfl (by decide) ?_
          dsimp only [zst1, zst2, zclr, zc2]
          refine zV_goto hX (tgt := 3) dX0_sayToAll_75 (by decide) ?_
          have h8 := ih (k + 1) (.long (zlo w9)) .null (by omega) (by omega)
          rw [h9.symm.trans e8] at h8
          exact h8
      refine zV_iload hX dX0_sayToAll_3 rfl ?_
      refine zV_aload_n hX dX0_sayToAll_5 rfl ?_
      refine zV_geti hX dX0_sayToAll_6 zf_X0_47 hG.1 rfl (by rw [hZ.1 _ _ (by omega), hgn]) ?_
      refine zV_icmp_geN hX (tgt := 78) dX0_sayToAll_9 (by decide) ⟨by omega, by omega⟩ (fun c_9 => ?_) (fun c_9 => ?_)
      · exact zV_retv hX hQ hr (⟨rfl, by rw [show k = n by omega]⟩) dX0_sayToAll_78
      · refine zV_iload hX dX0_sayToAll_12 rfl ?_
        refine zV_iload_n hX dX0_sayToAll_14 rfl ?_
        refine zV_icmp_neN hX (tgt := 28) dX0_sayToAll_15 (by decide) ⟨by omega, by omega⟩ (fun c_15 => ?_) (fun c_15 => ?_)
        · refine zV_aload_n hX dX0_sayToAll_28 rfl ?_
          refine zV_aload_n hX dX0_sayToAll_29 rfl ?_
          refine zV_iload_n hX dX0_sayToAll_30 rfl ?_
          refine zV_iload_n hX dX0_sayToAll_31 rfl ?_
          refine zV_iload hX dX0_sayToAll_32 rfl ?_
          refine zV_iload hX dX0_sayToAll_34 rfl ?_
          refine zV_cV5p hX hR hl dX0_sayToAll_36 (zc_espoken l G _ o g lc n t c r w k cn _ hO hG (by rw [hZ.1 _ _ (by omega), hgn]) hn7 (by rw [hZ.1 _ _ (by omega), hgt]) ht2 (by rw [hZ.1 _ _ (by omega), hgl]) hlc (fun m hm => by rw [hZ.1 _ _ (by have := hL.2 2 (by omega); omega)]; exact hcn m hm) hL hgo (by rw [hZ.2, hec]) hw (by omega)) zt_X0_spoken rfl zml_X0_122 hO.1 ⟨by decide, by decide⟩ (Nat.le_of_ble_eq_true rfl) ?_
          dsimp only [Option.toList, List.cons_append, List.nil_append]
          first
            | exact J39 (by omega) (some (some _)) _ (by show _ = eT1 o lc c cn r w tr ra sa k (eT o lc c cn r w tr ra sa k M); unfold eT1; rw [if_pos c_15])
            | exact J39 (by omega) _ _ (by show _ = eT1 o lc c cn r w tr ra sa k (eT o lc c cn r w tr ra sa k M); unfold eT1; rw [if_neg c_15])
        · refine zV_iload hX dX0_sayToAll_18 rfl ?_
          refine zV_i2l hX dX0_sayToAll_20 ?_
          refine zV_ldc2 hX dX0_sayToAll_21 zkc_X0_120 ?_
          refine zV_land hX dX0_sayToAll_24 ?_
          refine zV_goto hX (tgt := 39) dX0_sayToAll_25 (by decide) ?_
          first
            | exact J39 (by omega) (some (some _)) _ (by show _ = eT1 o lc c cn r w tr ra sa k (eT o lc c cn r w tr ra sa k M); unfold eT1; rw [if_pos c_15])
            | exact J39 (by omega) _ _ (by show _ = eT1 o lc c cn r w tr ra sa k (eT o lc c cn r w tr ra sa k M); unfold eT1; rw [if_neg c_15])
  refine zV_iconst hX (v := nI 0) dX0_sayToAll_0 (by decide) ?_
  refine zV_istore hX dX0_sayToAll_1 (by decide) ?_
  dsimp only [zst1, zst2, zclr, zc2]
  exact L3 (n + 1) 0 _ _ (by omega) (by omega)
set_option maxHeartbeats 1000000 in
theorem zc_makeReady (l : Launch) (G : zG) (M : zM) (o g n t m r : Nat) (hO : zOb 0 o) (hG : zOb 1 g) (hgn : M.1 g 0 = nI n) (hn7 : n ≤ 7) (hgt : M.1 g 1 = nI t) (ht2 : t ≤ 2) (hm : m < 7) : zC l G 3 yX0_makeReady cX0_makeReady 7 (Option.none : Option Jvm.ClassFile.FieldType) [.ref o, .ref g, .int (nI m), .int (nI r)] M (zP none (eMk o m r n t M)) := by
  refine zC_of (by decide) (Nat.le_of_ble_eq_true rfl) (fun X Q hQ hX hl hR hr => ?_)
  refine zV_loc (L' := [.ref o, .ref g, .int (nI m), .int (nI r), .null, .null, .null]) rfl ?_
  refine zV_iload_n hX dX0_makeReady_0 rfl ?_
  refine zV_bipush hX (v := nI 7) dX0_makeReady_1 (by decide) ?_
  refine zV_imulN hX dX0_makeReady_3 ?_
  refine zV_istore hX dX0_makeReady_4 (by decide) ?_
  dsimp only [zst1, zst2, zclr, zc2]
  refine zV_aload_n hX dX0_makeReady_6 rfl ?_
  refine zV_geta hX dX0_makeReady_7 zf_X0_30 hO.1 rfl ?_
  refine zV_iload hX dX0_makeReady_10 rfl ?_
  refine zV_aload_n hX dX0_makeReady_12 rfl ?_
  refine zV_geta hX dX0_makeReady_13 zf_X0_21 hO.1 rfl ?_
  refine zV_iload_n hX dX0_makeReady_16 rfl ?_
  refine zV_iald hX dX0_makeReady_17 (hO.a 5 rfl) (rfl) ⟨by omega, by omega⟩ (rfl) ?_
  refine zV_aload_n hX dX0_makeReady_18 rfl ?_
  refine zV_geti hX dX0_makeReady_19 zf_X0_47 hG.1 rfl (hgn) ?_
  refine zV_aload_n hX dX0_makeReady_22 rfl ?_
  refine zV_geti hX dX0_makeReady_23 zf_X0_130 hG.1 rfl (hgt) ?_
  refine zV_iaddN hX dX0_makeReady_26 ?_
  refine zV_iconst hX (v := nI 2) dX0_makeReady_27 (by decide) ?_
  refine zV_idivN hX dX0_makeReady_28 ⟨by omega, by decide, by decide⟩ ?_
  refine zV_cS4p hX hR hl dX0_makeReady_29 (zc_firstAbove l G M (o + 1 + 10) 49 (m * 7) ((n + t) / 2) _ (hO.a 10 rfl) (by decide) (by omega) (by omega)) zt_X0_firstAbove rfl zml_X0_133 (by decide) (Nat.le_of_ble_eq_true rfl) ?_
  dsimp only [Option.toList, List.cons_append, List.nil_append]
  refine zV_istore hX dX0_makeReady_32 (by decide) ?_
  dsimp only [zst1, zst2, zclr, zc2]
  refine zV_aload_n hX dX0_makeReady_34 rfl ?_
  refine zV_geta hX dX0_makeReady_35 zf_X0_33 hO.1 rfl ?_
  refine zV_iload hX dX0_makeReady_38 rfl ?_
  refine zV_aload_n hX dX0_makeReady_40 rfl ?_
  refine zV_geta hX dX0_makeReady_41 zf_X0_24 hO.1 rfl ?_
  refine zV_iload_n hX dX0_makeReady_44 rfl ?_
  refine zV_iald hX dX0_makeReady_45 (hO.a 6 rfl) (rfl) ⟨by omega, by omega⟩ (rfl) ?_
  refine zV_aload_n hX dX0_makeReady_46 rfl ?_
  refine zV_geti hX dX0_makeReady_47 zf_X0_130 hG.1 rfl (hgt) ?_
  refine zV_cS4p hX hR hl dX0_makeReady_50 (zc_firstAbove l G M (o + 1 + 11) 49 (m * 7) t _ (hO.a 11 rfl) (by decide) (by omega) (by omega)) zt_X0_firstAbove rfl zml_X0_133 (by decide) (Nat.le_of_ble_eq_true rfl) ?_
  dsimp only [Option.toList, List.cons_append, List.nil_append]
  refine zV_istore hX dX0_makeReady_53 (by decide) ?_
  dsimp only [zst1, zst2, zclr, zc2]
  refine zV_iload hX dX0_makeReady_55 rfl ?_
  refine zV_iconst hX (v := (-1)) dX0_makeReady_57 (by decide) ?_
  refine zV_icmp_ne hX (tgt := 67) dX0_makeReady_58 (by decide) (fun c_58 => ?_) (fun c_58 => ?_)
  · refine zV_aload_n hX dX0_makeReady_67 rfl ?_
    refine zV_geta hX dX0_makeReady_68 zf_X0_36 hO.1 rfl ?_
    refine zV_iload_n hX dX0_makeReady_71 rfl ?_
    refine zV_iload hX dX0_makeReady_72 rfl ?_
    refine zV_iconst hX (v := (-1)) dX0_makeReady_74 (by decide) ?_
    refine zV_icmp_eq hX (tgt := 91) dX0_makeReady_75 (by decide) (fun c_75 => ?_) (fun c_75 => ?_)
    · have hb : ¬ zfv (eAb (fun i => M.1 (o + 1 + 11) (m * 7 + i)) (M.1 (o + 1 + 6) m) t) 7 = -1 := by first | exact c_64 | exact absurd c_75 c_58
      obtain ⟨b, hb1, hb2⟩ := zfv_ne hb
      have hb3 := zfst_lt hb1
      have e9 : eMk o m r n t M = zw (zw M (o + 1 + 12) m (M.1 (o + 1 + 11) (m * 7 + b))) (o + 1 + 4) m (nI r) := by unfold eMk; rw [zfv_none (by decide) c_75, hb1]
      refine zV_aload_n hX dX0_makeReady_91 rfl ?_
      refine zV_geta hX dX0_makeReady_92 zf_X0_33 hO.1 rfl ?_
      refine zV_iload hX dX0_makeReady_95 rfl ?_
      refine zV_iload hX dX0_makeReady_97 rfl ?_
      refine zV_topi (nI b) hb2 ?_
      refine zV_iaddN hX dX0_makeReady_99 ?_
      refine zV_iald hX dX0_makeReady_100 (hO.a 11 rfl) (rfl) ⟨by omega, by omega⟩ (rfl) ?_
      refine zV_iast hX dX0_makeReady_101 (hO.a 12 rfl) (rfl) ⟨by omega, by omega⟩ ?_
      refine zV_aload_n hX dX0_makeReady_102 rfl ?_
      refine zV_geta hX dX0_makeReady_103 zf_X0_18 hO.1 rfl ?_
      refine zV_iload_n hX dX0_makeReady_106 rfl ?_
      refine zV_iload_n hX dX0_makeReady_107 rfl ?_
      refine zV_iast hX dX0_makeReady_108 (hO.a 4 rfl) (rfl) ⟨by omega, by omega⟩ ?_
      exact zV_retv hX hQ hr (⟨rfl, e9.symm⟩) dX0_makeReady_109
    · obtain ⟨a, ha1, ha2⟩ := zfv_ne c_75
      have ha3 := zfst_lt ha1
      have e9 : eMk o m r n t M = zw (zw M (o + 1 + 12) m (M.1 (o + 1 + 10) (m * 7 + a))) (o + 1 + 4) m (nI r) := by unfold eMk; rw [ha1]
      refine zV_aload_n hX dX0_makeReady_78 rfl ?_
      refine zV_geta hX dX0_makeReady_79 zf_X0_30 hO.1 rfl ?_
      refine zV_iload hX dX0_makeReady_82 rfl ?_
      refine zV_iload hX dX0_makeReady_84 rfl ?_
      refine zV_topi (nI a) ha2 ?_
      refine zV_iaddN hX dX0_makeReady_86 ?_
      refine zV_iald hX dX0_makeReady_87 (hO.a 10 rfl) (rfl) ⟨by omega, by omega⟩ (rfl) ?_
      refine zV_goto hX (tgt := 101) dX0_makeReady_88 (by decide) ?_
      refine zV_iast hX dX0_makeReady_101 (hO.a 12 rfl) (rfl) ⟨by omega, by omega⟩ ?_
      refine zV_aload_n hX dX0_makeReady_102 rfl ?_
      refine zV_geta hX dX0_makeReady_103 zf_X0_18 hO.1 rfl ?_
      refine zV_iload_n hX dX0_makeReady_106 rfl ?_
      refine zV_iload_n hX dX0_makeReady_107 rfl ?_
      refine zV_iast hX dX0_makeReady_108 (hO.a 4 rfl) (rfl) ⟨by omega, by omega⟩ ?_
      exact zV_retv hX hQ hr (⟨rfl, e9.symm⟩) dX0_makeReady_109
  · refine zV_iload hX dX0_makeReady_61 rfl ?_
    refine zV_iconst hX (v := (-1)) dX0_makeReady_63 (by decide) ?_
    refine zV_icmp_eq hX (tgt := 109) dX0_makeReady_64 (by decide) (fun c_64 => ?_) (fun c_64 => ?_)
    · have e9 : eMk o m r n t M = M := by unfold eMk; rw [zfv_none (by decide) c_58, zfv_none (by decide) c_64]
      exact zV_retv hX hQ hr (⟨rfl, e9.symm⟩) dX0_makeReady_109
    · refine zV_aload_n hX dX0_makeReady_67 rfl ?_
      refine zV_geta hX dX0_makeReady_68 zf_X0_36 hO.1 rfl ?_
      refine zV_iload_n hX dX0_makeReady_71 rfl ?_
      refine zV_iload hX dX0_makeReady_72 rfl ?_
      refine zV_iconst hX (v := (-1)) dX0_makeReady_74 (by decide) ?_
      refine zV_icmp_eq hX (tgt := 91) dX0_makeReady_75 (by decide) (fun c_75 => ?_) (fun c_75 => ?_)
      · have hb : ¬ zfv (eAb (fun i => M.1 (o + 1 + 11) (m * 7 + i)) (M.1 (o + 1 + 6) m) t) 7 = -1 := by first | exact c_64 | exact absurd c_75 c_58
        obtain ⟨b, hb1, hb2⟩ := zfv_ne hb
        have hb3 := zfst_lt hb1
        have e9 : eMk o m r n t M = zw (zw M (o + 1 + 12) m (M.1 (o + 1 + 11) (m * 7 + b))) (o + 1 + 4) m (nI r) := by unfold eMk; rw [zfv_none (by decide) c_75, hb1]
        refine zV_aload_n hX dX0_makeReady_91 rfl ?_
        refine zV_geta hX dX0_makeReady_92 zf_X0_33 hO.1 rfl ?_
        refine zV_iload hX dX0_makeReady_95 rfl ?_
        refine zV_iload hX dX0_makeReady_97 rfl ?_
        refine zV_topi (nI b) hb2 ?_
        refine zV_iaddN hX dX0_makeReady_99 ?_
        refine zV_iald hX dX0_makeReady_100 (hO.a 11 rfl) (rfl) ⟨by omega, by omega⟩ (rfl) ?_
        refine zV_iast hX dX0_makeReady_101 (hO.a 12 rfl) (rfl) ⟨by omega, by omega⟩ ?_
        refine zV_aload_n hX dX0_makeReady_102 rfl ?_
        refine zV_geta hX dX0_makeReady_103 zf_X0_18 hO.1 rfl ?_
        refine zV_iload_n hX dX0_makeReady_106 rfl ?_
        refine zV_iload_n hX dX0_makeReady_107 rfl ?_
        refine zV_iast hX dX0_makeReady_108 (hO.a 4 rfl) (rfl) ⟨by omega, by omega⟩ ?_
        exact zV_retv hX hQ hr (⟨rfl, e9.symm⟩) dX0_makeReady_109
      · obtain ⟨a, ha1, ha2⟩ := zfv_ne c_75
        have ha3 := zfst_lt ha1
        have e9 : eMk o m r n t M = zw (zw M (o + 1 + 12) m (M.1 (o + 1 + 10) (m * 7 + a))) (o + 1 + 4) m (nI r) := by unfold eMk; rw [ha1]
        refine zV_aload_n hX dX0_makeReady_78 rfl ?_
        refine zV_geta hX dX0_makeReady_79 zf_X0_30 hO.1 rfl ?_
        refine zV_iload hX dX0_makeReady_82 rfl ?_
        refine zV_iload hX dX0_makeReady_84 rfl ?_
        refine zV_topi (nI a) ha2 ?_
        refine zV_iaddN hX dX0_makeReady_86 ?_
        refine zV_iald hX dX0_makeReady_87 (hO.a 10 rfl) (rfl) ⟨by omega, by omega⟩ (rfl) ?_
        refine zV_goto hX (tgt := 101) dX0_makeReady_88 (by decide) ?_
        refine zV_iast hX dX0_makeReady_101 (hO.a 12 rfl) (rfl) ⟨by omega, by omega⟩ ?_
        refine zV_aload_n hX dX0_makeReady_102 rfl ?_
        refine zV_geta hX dX0_makeReady_103 zf_X0_18 hO.1 rfl ?_
        refine zV_iload_n hX dX0_makeReady_106 rfl ?_
        refine zV_iload_n hX dX0_makeReady_107 rfl ?_
        refine zV_iast hX dX0_makeReady_108 (hO.a 4 rfl) (rfl) ⟨by omega, by omega⟩ ?_
        exact zV_retv hX hQ hr (⟨rfl, e9.symm⟩) dX0_makeReady_109
set_option maxHeartbeats 1000000 in
theorem zc_accept (l : Launch) (G : zG) (M : zM) (o g n t r : Nat) (hO : zOb 0 o) (hG : zOb 1 g) (hgo : g + 5 < o ∨ o + 13 < g) (hgn : M.1 g 0 = nI n) (hn7 : n ≤ 7) (hgt : M.1 g 1 = nI t) (ht2 : t ≤ 2) : zC l G 3 yX0_accept cX0_accept 6 (Option.none : Option Jvm.ClassFile.FieldType) [.ref o, .ref g, .int (nI r)] M (zP none (eAc o n r t M)) := by
  refine zC_of (by decide) (Nat.le_of_ble_eq_true rfl) (fun X Q hQ hX hl hR hr => ?_)
  refine zV_loc (L' := [.ref o, .ref g, .int (nI r), .null, .null, .null]) rfl ?_
  have L2 : ∀ (f9 k : Nat) (v1 v2 : Value), n - k < f9 → k ≤ n → zV G X Q 6 0 0 2 [.ref o, .ref g, .int (nI r), .int (nI k), v1, v2] [] (zfor (eA1 o r t) k M) := by
    intro f9
    induction f9 with
    | zero => intro k v1 v2 hk1 hk2; exact absurd hk1 (Nat.not_lt_zero _)
    | succ f9 ih =>
      intro k v1 v2 hk1 hk2
      have hZ := eAc_Z o r t k M
      refine zV_iload_n hX dX0_accept_2 rfl ?_
      refine zV_aload_n hX dX0_accept_3 rfl ?_
      refine zV_geti hX dX0_accept_4 zf_X0_47 hG.1 rfl (by rw [hZ.1 _ _ (by omega), hgn]) ?_
      refine zV_icmp_geN hX (tgt := 83) dX0_accept_7 (by decide) ⟨by omega, by omega⟩ (fun c_7 => ?_) (fun c_7 => ?_)
      · exact zV_retv hX hQ hr (⟨rfl, by rw [show k = n by omega]; rfl⟩) dX0_accept_83
      · refine zV_iload_n hX dX0_accept_10 rfl ?_
        refine zV_bipush hX (v := nI 7) dX0_accept_11 (by decide) ?_
        refine zV_imulN hX dX0_accept_13 ?_
        refine zV_istore hX dX0_accept_14 (by decide) ?_
        dsimp only [zst1, zst2, zclr, zc2]
        refine zV_aload_n hX dX0_accept_16 rfl ?_
        refine zV_geta hX dX0_accept_17 zf_X0_33 hO.1 rfl ?_
        refine zV_iload hX dX0_accept_20 rfl ?_
        refine zV_aload_n hX dX0_accept_22 rfl ?_
        refine zV_geta hX dX0_accept_23 zf_X0_24 hO.1 rfl ?_
        refine zV_iload_n hX dX0_accept_26 rfl ?_
        refine zV_iald hX dX0_accept_27 (hO.a 6 rfl) (rfl) ⟨by omega, by omega⟩ (rfl) ?_
        refine zV_iconst hX (v := nI 2) dX0_accept_28 (by decide) ?_
        refine zV_aload_n hX dX0_accept_29 rfl ?_
        refine zV_geti hX dX0_accept_30 zf_X0_130 hG.1 rfl (by rw [hZ.1 _ _ (by omega), hgt]) ?_
        refine zV_imulN hX dX0_accept_33 ?_
        refine zV_cS4p hX hR hl dX0_accept_34 (zc_firstAbove l G (zfor (eA1 o r t) k M) (o + 1 + 11) 49 (k * 7) (2 * t) _ (hO.a 11 rfl) (by decide) (by omega) (by omega)) zt_X0_firstAbove rfl zml_X0_133 (by decide) (Nat.le_of_ble_eq_true rfl) ?_
        dsimp only [Option.toList, List.cons_append, List.nil_append]
        refine zV_istore hX dX0_accept_37 (by decide) ?_
        dsimp only [zst1, zst2, zclr, zc2]
        refine zV_iload hX dX0_accept_39 rfl ?_
        refine zV_iconst hX (v := (-1)) dX0_accept_41 (by decide) ?_
        refine zV_icmp_eq hX (tgt := 77) dX0_accept_42 (by decide) (fun c_42 => ?_) (fun c_42 => ?_)
        · have e9 : eA1 o r t k (zfor (eA1 o r t) k M) = (zfor (eA1 o r t) k M) := by rw [eA1, zfv_none (by decide) c_42]
          refine zV_iincN hX (b := 1) dX0_accept_77 rfl (by decide) ?_
          dsimp only [zst1, zst2, zclr, zc2]
          refine zV_goto hX (tgt := 2) dX0_accept_80 (by decide) ?_
          have h8 := fun v1 v2 => ih (k + 1) v1 v2 (by omega) (by omega)
          simp only [show zfor (eA1 o r t) (k + 1) M = eA1 o r t k (zfor (eA1 o r t) k M) from rfl, e9] at h8
          exact h8 _ _
        · obtain ⟨a, ha1, ha2⟩ := zfv_ne c_42
          have ha3 := zfst_lt ha1
          refine zV_aload_n hX dX0_accept_45 rfl ?_
          refine zV_geta hX dX0_accept_46 zf_X0_15 hO.1 rfl ?_
          refine zV_iload_n hX dX0_accept_49 rfl ?_
          refine zV_iald hX dX0_accept_50 (hO.a 3 rfl) (rfl) ⟨by omega, by omega⟩ (rfl) ?_
          refine zV_if_ne hX (tgt := 77) dX0_accept_51 (by decide) (fun c_51 => ?_) (fun c_51 => ?_)
          · have e9 : eA1 o r t k (zfor (eA1 o r t) k M) = (zfor (eA1 o r t) k M) := by rw [eA1, ha1]; exact if_neg c_51
            refine zV_iincN hX (b := 1) dX0_accept_77 rfl (by decide) ?_
            dsimp only [zst1, zst2, zclr, zc2]
            refine zV_goto hX (tgt := 2) dX0_accept_80 (by decide) ?_
            have h8 := fun v1 v2 => ih (k + 1) v1 v2 (by omega) (by omega)
            simp only [show zfor (eA1 o r t) (k + 1) M = eA1 o r t k (zfor (eA1 o r t) k M) from rfl, e9] at h8
            exact h8 _ _
          · have e9 : eA1 o r t k (zfor (eA1 o r t) k M) = zw (zw (zfor (eA1 o r t) k M) (o + 1 + 2) k ((zfor (eA1 o r t) k M).1 (o + 1 + 11) (k * 7 + a))) (o + 1 + 3) k (nI r) := by rw [eA1, ha1]; exact if_pos c_51
            refine zV_aload_n hX dX0_accept_54 rfl ?_
            refine zV_geta hX dX0_accept_55 zf_X0_9 hO.1 rfl ?_
            refine zV_iload_n hX dX0_accept_58 rfl ?_
            refine zV_aload_n hX dX0_accept_59 rfl ?_
            refine zV_geta hX dX0_accept_60 zf_X0_33 hO.1 rfl ?_
            refine zV_iload hX dX0_accept_63 rfl ?_
            refine zV_iload hX dX0_accept_65 rfl ?_
            refine zV_topi (nI a) ha2 ?_
            refine zV_iaddN hX dX0_accept_67 ?_
            refine zV_iald hX dX0_accept_68 (hO.a 11 rfl) (rfl) ⟨by omega, by omega⟩ (rfl) ?_
            refine zV_iast hX dX0_accept_69 (hO.a 2 rfl) (rfl) ⟨by omega, by omega⟩ ?_
            refine zV_aload_n hX dX0_accept_70 rfl ?_
            refine zV_geta hX dX0_accept_71 zf_X0_15 hO.1 rfl ?_
            refine zV_iload_n hX dX0_accept_74 rfl ?_
            refine zV_iload_n hX dX0_accept_75 rfl ?_
            refine zV_iast hX dX0_accept_76 (hO.a 3 rfl) (rfl) ⟨by omega, by omega⟩ ?_
            refine zV_iincN hX (b := 1) dX0_accept_77 rfl (by decide) ?_
            dsimp only [zst1, zst2, zclr, zc2]
            refine zV_goto hX (tgt := 2) dX0_accept_80 (by decide) ?_
            have h8 := fun v1 v2 => ih (k + 1) v1 v2 (by omega) (by omega)
            simp only [show zfor (eA1 o r t) (k + 1) M = eA1 o r t k (zfor (eA1 o r t) k M) from rfl, e9] at h8
            exact h8 _ _
  refine zV_iconst hX (v := nI 0) dX0_accept_0 (by decide) ?_
  refine zV_istore_n hX dX0_accept_1 (by decide) ?_
  dsimp only [zst1, zst2, zclr, zc2]
  exact L2 (n + 1) 0 _ _ (by omega) (by omega)
set_option maxHeartbeats 1000000 in
theorem zc_sayReadies (l : Launch) (G : zG) (M : zM) (o g lc n t c r : Nat) (cn : Nat → Nat) (hO : zOb 0 o) (hG : zOb 1 g) (hgn : M.1 g 0 = nI n) (hn7 : n ≤ 7) (hgt : M.1 g 1 = nI t) (ht2 : t ≤ 2) (hgl : M.1 g 3 = nI lc) (hlc : lc < 2 ^ 31) (hcn : lyN lc M cn) (hL : lyF lc o (o + 13)) (hgo : g + 5 < o ∨ o + 13 < g) (hec : M.1 o 7 = nI c) : zC l G 4 yX0_sayReadies cX0_sayReadies 4 (Option.none : Option Jvm.ClassFile.FieldType) [.ref o, .ref g, .int (nI r)] M (zP none (eRb o lc c n cn t r n M)) := by
  refine zC_of (by decide) (Nat.le_of_ble_eq_true rfl) (fun X Q hQ hX hl hR hr => ?_)
  refine zV_loc (L' := [.ref o, .ref g, .int (nI r), .null]) rfl ?_
  have L34 : ∀ (f9 k : Nat), n - k < f9 → k ≤ n → zV G X Q 4 0 0 34 [.ref o, .ref g, .int (nI r), .int (nI k)] [] (eRb o lc c n cn t r k M) := by
    intro f9
    induction f9 with
    | zero => intro k hk1 hk2; exact absurd hk1 (Nat.not_lt_zero _)
    | succ f9 ih =>
      intro k hk1 hk2
      have hZ := eRb_Z o lc c n cn t r k M
      refine zV_iload_n hX dX0_sayReadies_34 rfl ?_
      refine zV_aload_n hX dX0_sayReadies_35 rfl ?_
      refine zV_geti hX dX0_sayReadies_36 zf_X0_47 hG.1 rfl (by rw [hZ.1 _ _ (by omega), hgn]) ?_
      refine zV_icmp_geN hX (tgt := 79) dX0_sayReadies_39 (by decide) ⟨by omega, by omega⟩ (fun c_39 => ?_) (fun c_39 => ?_)
      · exact zV_retv hX hQ hr (⟨rfl, by rw [show k = n by omega]⟩) dX0_sayReadies_79
      · refine zV_aload_n hX dX0_sayReadies_42 rfl ?_
        refine zV_geta hX dX0_sayReadies_43 zf_X0_18 hO.1 rfl ?_
        refine zV_iload_n hX dX0_sayReadies_46 rfl ?_
        refine zV_iald hX dX0_sayReadies_47 (hO.a 4 rfl) (rfl) ⟨by omega, by omega⟩ (rfl) ?_
        refine zV_iload_n hX dX0_sayReadies_48 rfl ?_
        refine zV_icmp_ne hX (tgt := 73) dX0_sayReadies_49 (by decide) (fun c_49 => ?_) (fun c_49 => ?_)
        · have e9 : eR2 o lc c n cn r k (eRb o lc c n cn t r k M) = (eRb o lc c n cn t r k M) := if_neg c_49
          refine zV_iincN hX (b := 1) dX0_sayReadies_73 rfl (by decide) ?_
          dsimp only [zst1, zst2, zclr, zc2]
          refine zV_goto hX (tgt := 34) dX0_sayReadies_76 (by decide) ?_
          have h8 := ih (k + 1) (by omega) (by omega)
          rw [show eRb o lc c n cn t r (k + 1) M = eR2 o lc c n cn r k (eRb o lc c n cn t r k M) from rfl, e9] at h8
          exact h8
        · have e9 : eR2 o lc c n cn r k (eRb o lc c n cn t r k M) = eT o lc c cn 3 k ((eRb o lc c n cn t r k M).1 (o + 1 + 12) k) (o + 1 + 11) (o + 1 + 6) n (eRb o lc c n cn t r k M) := if_pos c_49
          refine zV_aload_n hX dX0_sayReadies_52 rfl ?_
          refine zV_aload_n hX dX0_sayReadies_53 rfl ?_
          refine zV_iconst hX (v := nI 3) dX0_sayReadies_54 (by decide) ?_
          refine zV_iload_n hX dX0_sayReadies_55 rfl ?_
          refine zV_aload_n hX dX0_sayReadies_56 rfl ?_
          refine zV_geta hX dX0_sayReadies_57 zf_X0_36 hO.1 rfl ?_
          refine zV_iload_n hX dX0_sayReadies_60 rfl ?_
          refine zV_iald hX dX0_sayReadies_61 (hO.a 12 rfl) (rfl) ⟨by omega, by omega⟩ (rfl) ?_
          refine zV_aload_n hX dX0_sayReadies_62 rfl ?_
          refine zV_geta hX dX0_sayReadies_63 zf_X0_33 hO.1 rfl ?_
          refine zV_aload_n hX dX0_sayReadies_66 rfl ?_
          refine zV_geta hX dX0_sayReadies_67 zf_X0_24 hO.1 rfl ?_
          refine zV_cV6p hX hR hl dX0_sayReadies_70 (zc_sayToAll l G _ o g lc n t c 3 k (o + 1 + 11) (o + 1 + 6) cn _ hO hG (by rw [hZ.1 _ _ (by omega), hgn]) hn7 (by rw [hZ.1 _ _ (by omega), hgt]) ht2 (by rw [hZ.1 _ _ (by omega), hgl]) hlc (fun m hm => by rw [hZ.1 _ _ (by have := hL.2 2 (by omega); omega)]; exact hcn m hm) hL hgo (by rw [hZ.2, hec]) (by omega) (hO.a 11 rfl) (hO.a 6 rfl) (by omega) (by omega)) zt_X0_sayToAll rfl zml_X0_62 hO.1 ⟨by decide, by decide⟩ (Nat.le_of_ble_eq_true rfl) ?_
          dsimp only [Option.toList, List.cons_append, List.nil_append]
          refine zV_iincN hX (b := 1) dX0_sayReadies_73 rfl (by decide) ?_
          dsimp only [zst1, zst2, zclr, zc2]
          refine zV_goto hX (tgt := 34) dX0_sayReadies_76 (by decide) ?_
          have h8 := ih (k + 1) (by omega) (by omega)
          rw [show eRb o lc c n cn t r (k + 1) M = eR2 o lc c n cn r k (eRb o lc c n cn t r k M) from rfl, e9] at h8
          exact h8
  have L2 : ∀ (f9 k : Nat), n - k < f9 → k ≤ n → zV G X Q 4 0 0 2 [.ref o, .ref g, .int (nI r), .int (nI k)] [] (eRa o r n t k M) := by
    intro f9
    induction f9 with
    | zero => intro k hk1 hk2; exact absurd hk1 (Nat.not_lt_zero _)
    | succ f9 ih =>
      intro k hk1 hk2
      have hZ := eRa_Z o r n t k M
      refine zV_iload_n hX dX0_sayReadies_2 rfl ?_
      refine zV_aload_n hX dX0_sayReadies_3 rfl ?_
      refine zV_geti hX dX0_sayReadies_4 zf_X0_47 hG.1 rfl (by rw [hZ.1 _ _ (by omega), hgn]) ?_
      refine zV_icmp_geN hX (tgt := 32) dX0_sayReadies_7 (by decide) ⟨by omega, by omega⟩ (fun c_7 => ?_) (fun c_7 => ?_)
      · rw [show k = n by omega]
        refine zV_iconst hX (v := nI 0) dX0_sayReadies_32 (by decide) ?_
        refine zV_istore_n hX dX0_sayReadies_33 (by decide) ?_
        dsimp only [zst1, zst2, zclr, zc2]
        exact L34 (n + 1) 0 (by omega) (by omega)
      · refine zV_aload_n hX dX0_sayReadies_10 rfl ?_
        refine zV_geta hX dX0_sayReadies_11 zf_X0_18 hO.1 rfl ?_
        refine zV_iload_n hX dX0_sayReadies_14 rfl ?_
        refine zV_iald hX dX0_sayReadies_15 (hO.a 4 rfl) (rfl) ⟨by omega, by omega⟩ (rfl) ?_
        refine zV_if_ne hX (tgt := 26) dX0_sayReadies_16 (by decide) (fun c_16 => ?_) (fun c_16 => ?_)
        · have e9 : eR1 o r n t k (eRa o r n t k M) = (eRa o r n t k M) := if_neg c_16
          refine zV_iincN hX (b := 1) dX0_sayReadies_26 rfl (by decide) ?_
          dsimp only [zst1, zst2, zclr, zc2]
          refine zV_goto hX (tgt := 2) dX0_sayReadies_29 (by decide) ?_
          have h8 := ih (k + 1) (by omega) (by omega)
          rw [show eRa o r n t (k + 1) M = eR1 o r n t k (eRa o r n t k M) from rfl, e9] at h8
          exact h8
        · have e9 : eR1 o r n t k (eRa o r n t k M) = eMk o k r n t (eRa o r n t k M) := if_pos c_16
          refine zV_aload_n hX dX0_sayReadies_19 rfl ?_
          refine zV_aload_n hX dX0_sayReadies_20 rfl ?_
          refine zV_iload_n hX dX0_sayReadies_21 rfl ?_
          refine zV_iload_n hX dX0_sayReadies_22 rfl ?_
          refine zV_cV3p hX hR hl dX0_sayReadies_23 (zc_makeReady l G _ o g n t k r hO hG (by rw [hZ.1 _ _ (by omega), hgn]) hn7 (by rw [hZ.1 _ _ (by omega), hgt]) ht2 (by omega)) zt_X0_makeReady rfl zml_X0_126 hO.1 ⟨by decide, by decide⟩ (Nat.le_of_ble_eq_true rfl) ?_
          dsimp only [Option.toList, List.cons_append, List.nil_append]
          refine zV_iincN hX (b := 1) dX0_sayReadies_26 rfl (by decide) ?_
          dsimp only [zst1, zst2, zclr, zc2]
          refine zV_goto hX (tgt := 2) dX0_sayReadies_29 (by decide) ?_
          have h8 := ih (k + 1) (by omega) (by omega)
          rw [show eRa o r n t (k + 1) M = eR1 o r n t k (eRa o r n t k M) from rfl, e9] at h8
          exact h8
  refine zV_iconst hX (v := nI 0) dX0_sayReadies_0 (by decide) ?_
  refine zV_istore_n hX dX0_sayReadies_1 (by decide) ?_
  dsimp only [zst1, zst2, zclr, zc2]
  exact L2 (n + 1) 0 (by omega) (by omega)
set_option maxHeartbeats 1000000 in
theorem zc_eplay (l : Launch) (G : zG) (M : zM) (o g lc n t c : Nat) (cn : Nat → Nat) (hO : zOb 0 o) (hG : zOb 1 g) (hgn : M.1 g 0 = nI n) (hn7 : n ≤ 7) (hgt : M.1 g 1 = nI t) (ht2 : t ≤ 2) (hgl : M.1 g 3 = nI lc) (hlc : lc < 2 ^ 31) (hcn : lyN lc M cn) (hL : lyF lc o (o + 13)) (hgo : g + 5 < o ∨ o + 13 < g) (hc7 : c < 7) : zC l G 5 yX0_play cX0_play 4 (Option.none : Option Jvm.ClassFile.FieldType) [.ref o, .ref g, .int (nI c)] M (zP none (ePlay o g lc c n t cn M)) := by
  refine zC_of (by decide) (Nat.le_of_ble_eq_true rfl) (fun X Q hQ hX hl hR hr => ?_)
  refine zV_loc (L' := [.ref o, .ref g, .int (nI c), .null]) rfl ?_
  have L60 : ∀ (f9 k : Nat), 4 - k < f9 → k ≤ 4 → zV G X Q 4 0 0 60 [.ref o, .ref g, .int (nI c), .int (nI (k + 3))] [] (ePb o g lc c n t cn k M) := by
    intro f9
    induction f9 with
    | zero => intro k hk1 hk2; exact absurd hk1 (Nat.not_lt_zero _)
    | succ f9 ih =>
      intro k hk1 hk2
      have hF := eFi.p o g lc c n t cn k M
      refine zV_iload_n hX dX0_play_60 rfl ?_
      refine zV_bipush hX (v := nI 6) dX0_play_61 (by decide) ?_
      refine zV_icmp_gtN hX (tgt := 84) dX0_play_63 (by decide) ⟨by omega, by omega⟩ (fun c_63 => ?_) (fun c_63 => ?_)
      · exact zV_retv hX hQ hr (⟨rfl, by rw [show k = 4 by omega]; rfl⟩) dX0_play_84
      · refine zV_aload_n hX dX0_play_66 rfl ?_
        refine zV_aload_n hX dX0_play_67 rfl ?_
        refine zV_iload_n hX dX0_play_68 rfl ?_
        refine zV_cV2p hX hR hl dX0_play_69 (zc_sayReadies l G _ o g lc n t c (k + 3) cn hO hG (by rw [hF.1 _ _ (by omega), hgn]) hn7 (by rw [hF.1 _ _ (by omega), hgt]) ht2 (by rw [hF.1 _ _ (by omega), hgl]) hlc (fun m hm => by rw [hF.1 _ _ (by have := hL.2 2 (by omega); omega)]; exact hcn m hm) hL hgo hF.2) zt_X0_sayReadies rfl zml_X0_66 hO.1 ⟨by decide, by decide⟩ (Nat.le_of_ble_eq_true rfl) ?_
        dsimp only [Option.toList, List.cons_append, List.nil_append]
        have hF2 := hF.go (eRb_Z o lc c n cn t (k + 3) n _)
        refine zV_aload_n hX dX0_play_72 rfl ?_
        refine zV_aload_n hX dX0_play_73 rfl ?_
        refine zV_iload_n hX dX0_play_74 rfl ?_
        refine zV_cV2p hX hR hl dX0_play_75 (zc_accept l G _ o g n t (k + 3) hO hG hgo (by rw [hF2.1 _ _ (by omega), hgn]) hn7 (by rw [hF2.1 _ _ (by omega), hgt]) ht2) zt_X0_accept rfl zml_X0_70 hO.1 ⟨by decide, by decide⟩ (Nat.le_of_ble_eq_true rfl) ?_
        dsimp only [Option.toList, List.cons_append, List.nil_append]
        refine zV_iincN hX (b := 1) dX0_play_78 rfl (by decide) ?_
        dsimp only [zst1, zst2, zclr, zc2]
        refine zV_goto hX (tgt := 60) dX0_play_81 (by decide) ?_
        exact ih (k + 1) (by omega) (by omega)
  have L12 : ∀ (f9 k : Nat), n - k < f9 → k ≤ n → zV G X Q 4 0 0 12 [.ref o, .ref g, .int (nI c), .int (nI k)] [] (ePa o g lc c n cn k M) := by
    intro f9
    induction f9 with
    | zero => intro k hk1 hk2; exact absurd hk1 (Nat.not_lt_zero _)
    | succ f9 ih =>
      intro k hk1 hk2
      have hF := eFi.a o g lc c n cn k M
      refine zV_iload_n hX dX0_play_12 rfl ?_
      refine zV_aload_n hX dX0_play_13 rfl ?_
      refine zV_geti hX dX0_play_14 zf_X0_47 hG.1 rfl (by rw [hF.1 _ _ (by omega), hgn]) ?_
      refine zV_icmp_geN hX (tgt := 58) dX0_play_17 (by decide) ⟨by omega, by omega⟩ (fun c_17 => ?_) (fun c_17 => ?_)
      · rw [show k = n by omega]
        refine zV_iconst hX (v := nI 3) dX0_play_58 (by decide) ?_
        refine zV_istore_n hX dX0_play_59 (by decide) ?_
        dsimp only [zst1, zst2, zclr, zc2]
        exact L60 5 0 (by omega) (by omega)
      · refine zV_aload_n hX dX0_play_20 rfl ?_
        refine zV_geti hX dX0_play_21 zf_X0_53 hO.1 rfl rfl ?_
        refine zV_iload_n hX dX0_play_24 rfl ?_
        refine zV_cS2p hX hR hl dX0_play_25 (zc_isIn l G _ _ k) zt_X9_isIn rfl zml_X0_56 (by decide) (Nat.le_of_ble_eq_true rfl) ?_
        dsimp only [Option.toList, List.cons_append, List.nil_append]
        refine zV_if_eqB hX (tgt := 52) dX0_play_28 (by decide) (fun c_28 => ?_) (fun c_28 => ?_)
        · have e9 : eE1 o lc c n cn k (ePa o g lc c n cn k M) = (ePa o g lc c n cn k M) := if_neg (by rw [c_28]; decide)
          refine zV_iincN hX (b := 1) dX0_play_52 rfl (by decide) ?_
          dsimp only [zst1, zst2, zclr, zc2]
          refine zV_goto hX (tgt := 12) dX0_play_55 (by decide) ?_
          have h8 := ih (k + 1) (by omega) (by omega)
          rw [show ePa o g lc c n cn (k + 1) M = eE1 o lc c n cn k (ePa o g lc c n cn k M) from rfl, e9] at h8
          exact h8
        · have e9 : eE1 o lc c n cn k (ePa o g lc c n cn k M) = eT o lc c cn 2 k ((ePa o g lc c n cn k M).1 (o + 1 + 9) k) (o + 1 + 10) (o + 1 + 5) n (ePa o g lc c n cn k M) := if_pos c_28
          refine zV_aload_n hX dX0_play_31 rfl ?_
          refine zV_aload_n hX dX0_play_32 rfl ?_
          refine zV_iconst hX (v := nI 2) dX0_play_33 (by decide) ?_
          refine zV_iload_n hX dX0_play_34 rfl ?_
          refine zV_aload_n hX dX0_play_35 rfl ?_
          refine zV_geta hX dX0_play_36 zf_X0_27 hO.1 rfl ?_
          refine zV_iload_n hX dX0_play_39 rfl ?_
          refine zV_iald hX dX0_play_40 (hO.a 9 rfl) (rfl) ⟨by omega, by omega⟩ (rfl) ?_
          refine zV_aload_n hX dX0_play_41 rfl ?_
          refine zV_geta hX dX0_play_42 zf_X0_30 hO.1 rfl ?_
          refine zV_aload_n hX dX0_play_45 rfl ?_
          refine zV_geta hX dX0_play_46 zf_X0_21 hO.1 rfl ?_
          refine zV_cV6p hX hR hl dX0_play_49 (zc_sayToAll l G _ o g lc n t c 2 k (o + 1 + 10) (o + 1 + 5) cn _ hO hG (by rw [hF.1 _ _ (by omega), hgn]) hn7 (by rw [hF.1 _ _ (by omega), hgt]) ht2 (by rw [hF.1 _ _ (by omega), hgl]) hlc (fun m hm => by rw [hF.1 _ _ (by have := hL.2 2 (by omega); omega)]; exact hcn m hm) hL hgo hF.2 (by omega) (hO.a 10 rfl) (hO.a 5 rfl) (by omega) (by omega)) zt_X0_sayToAll rfl zml_X0_62 hO.1 ⟨by decide, by decide⟩ (Nat.le_of_ble_eq_true rfl) ?_
          dsimp only [Option.toList, List.cons_append, List.nil_append]
          refine zV_iincN hX (b := 1) dX0_play_52 rfl (by decide) ?_
          dsimp only [zst1, zst2, zclr, zc2]
          refine zV_goto hX (tgt := 12) dX0_play_55 (by decide) ?_
          have h8 := ih (k + 1) (by omega) (by omega)
          rw [show ePa o g lc c n cn (k + 1) M = eE1 o lc c n cn k (ePa o g lc c n cn k M) from rfl, e9] at h8
          exact h8
  refine zV_aload_n hX dX0_play_0 rfl ?_
  refine zV_iload_n hX dX0_play_1 rfl ?_
  refine zV_cV1p hX hR hl dX0_play_2 (zc_ebegin l G M o c hO) zt_X0_begin rfl zml_X0_39 hO.1 ⟨by decide, by decide⟩ (Nat.le_of_ble_eq_true rfl) ?_
  dsimp only [Option.toList, List.cons_append, List.nil_append]
  have hF := eFi.b o c M
  refine zV_aload_n hX dX0_play_5 rfl ?_
  refine zV_aload_n hX dX0_play_6 rfl ?_
  refine zV_cV1p hX hR hl dX0_play_7 (zc_sayOrder l G _ o g lc n t c cn hO hG (by rw [hF.1 _ _ (by omega), hgn]) hn7 (by rw [hF.1 _ _ (by omega), hgt]) ht2 (by rw [hF.1 _ _ (by omega), hgl]) hlc (fun m hm => by rw [hF.1 _ _ (by have := hL.2 2 (by omega); omega)]; exact hcn m hm) hL hgo hF.2 hc7) zt_X0_sayOrder rfl zml_X0_43 hO.1 ⟨by decide, by decide⟩ (Nat.le_of_ble_eq_true rfl) ?_
  dsimp only [Option.toList, List.cons_append, List.nil_append]
  rw [hF.1 _ _ (by omega)]
  refine zV_iconst hX (v := nI 0) dX0_play_10 (by decide) ?_
  refine zV_istore_n hX dX0_play_11 (by decide) ?_
  dsimp only [zst1, zst2, zclr, zc2]
  exact L12 (n + 1) 0 (by omega) (by omega)
