def zmax (a b : Int32) : Int32 := if a < b then b else a
theorem zV_max {G : zG} {X : zX} {Q : State → Prop} {nL pc idx D : Nat} {L S : List Value} {M : zM} {own : String} {cc : ByteArray} {x y : Int32} (h : zOk G X own cc nL) (hR : X.2.2.2.1 = zRm D) (d : decode cc pc = .ok (.invokestatic idx, 3)) (hm : Cond.methodLink own idx yJ9_max_7cf53 ∈ zT) (hroom : (S.map fun v => v.category).sum ≤ 8) (k : zV G X Q nL 0 0 (pc + 3) L (.int (zmax x y) :: S) M) : zV G X Q nL 0 0 pc L (.int y :: .int x :: S) M := fun H locs ls hW hS hl =>
  va_mmax h.1 h.2.1 (h.2.2.1.trans hl.1.symm) h.2.2.2.1 (h.2.2.2.2.1 _ hm) (h.2.2.2.2.1 _ zst_J9_max_7cf53) (h.2.2.2.2.1 _ zin_J9) (h.2.2.2.2.1 _ zco_J9_max_7cf53) (by rw [hR]; exact Nat.le_add_left 1 D) (by rw [hR, zCat]; show _ + 13 ≤ 100 * D + 100; omega) (Nat.zero_le _) (Nat.zero_le _) d (k H locs ls hW hS hl)
def zmin (a b : Int32) : Int32 := if b < a then b else a
theorem zV_min {G : zG} {X : zX} {Q : State → Prop} {nL pc idx D : Nat} {L S : List Value} {M : zM} {own : String} {cc : ByteArray} {x y : Int32} (h : zOk G X own cc nL) (hR : X.2.2.2.1 = zRm D) (d : decode cc pc = .ok (.invokestatic idx, 3)) (hm : Cond.methodLink own idx yJ9_min_7cf53 ∈ zT) (hroom : (S.map fun v => v.category).sum ≤ 8) (k : zV G X Q nL 0 0 (pc + 3) L (.int (zmin x y) :: S) M) : zV G X Q nL 0 0 pc L (.int y :: .int x :: S) M := fun H locs ls hW hS hl =>
  va_mmin h.1 h.2.1 (h.2.2.1.trans hl.1.symm) h.2.2.2.1 (h.2.2.2.2.1 _ hm) (h.2.2.2.2.1 _ zst_J9_min_7cf53) (h.2.2.2.2.1 _ zin_J9) (h.2.2.2.2.1 _ zco_J9_min_7cf53) (by rw [hR]; exact Nat.le_add_left 1 D) (by rw [hR, zCat]; show _ + 13 ≤ 100 * D + 100; omega) (Nat.zero_le _) (Nat.zero_le _) d (k H locs ls hW hS hl)
def eWh (lc : Nat) (cn : Nat → Nat) (r w x : Nat) (f tr : Int32) (M : zM) : Option (Option Int32) := lSaidF M lc w r x f tr (cn w) 0
set_option maxHeartbeats 1000000 in
theorem zc_espoken (l : Launch) (G : zG) (M : zM) (o g lc n t c r w x : Nat) (cn : Nat → Nat) (tr : Int32) (hO : zOb 0 o) (hG : zOb 1 g) (hgn : M.1 g 0 = nI n) (hn7 : n ≤ 7) (hgt : M.1 g 1 = nI t) (ht2 : t ≤ 2) (hgl : M.1 g 3 = nI lc) (hlc : lc < 2 ^ 31) (hcn : lyN lc M cn) (hL : lyF lc o (o + 13)) (hgo : g + 5 < o ∨ o + 13 < g) (hec : M.1 o 7 = nI c) (hw : w < 7) (hx : x < 7) : zC l G 2 yX0_spoken cX0_spoken 8 (Option.some Jvm.ClassFile.FieldType.long) [.ref o, .ref g, .int (nI r), .int (nI w), .int (nI x), .int tr] M (zP (some (.long (zlo (eWh lc cn r w x (nI c) tr M)))) (kCnt o (eWh lc cn r w x (nI c) tr M) M)) := by
  refine zC_of (by decide) (Nat.le_of_ble_eq_true rfl) (fun X Q hQ hX hl hR hr => ?_)
  refine zV_loc (L' := [.ref o, .ref g, .int (nI r), .int (nI w), .int (nI x), .int tr, .null, .null]) rfl ?_
  refine zV_aload_n hX dX0_spoken_0 rfl ?_
  refine zV_getp hX dX0_spoken_1 zf_X0_73 hG.1 rfl (hgl) hlc ?_
  refine zV_iload_n hX dX0_spoken_4 rfl ?_
  refine zV_iload_n hX dX0_spoken_5 rfl ?_
  refine zV_iload hX dX0_spoken_6 rfl ?_
  refine zV_aload_n hX dX0_spoken_8 rfl ?_
  refine zV_geti hX dX0_spoken_9 zf_X0_100 hO.1 rfl (hec) ?_
  refine zV_iload hX dX0_spoken_12 rfl ?_
  refine zV_cV5p hX hR hl dX0_spoken_14 (zc_said l G M lc w r x (cn w) (nI c) tr hL.1 hw (hcn w hw).1 (hcn w hw).2 hx) zt_X4_said rfl zml_X0_109 hL.1.1 ⟨by decide, by decide⟩ (Nat.le_of_ble_eq_true rfl) ?_
  dsimp only [Option.toList, List.cons_append, List.nil_append]
  refine zV_topl (zlo (eWh lc cn r w x (nI c) tr M)) rfl ?_
  refine zV_lstore hX dX0_spoken_17 (by decide) ?_
  dsimp only [zst1, zst2, zclr, zc2]
  refine zV_aload_n hX dX0_spoken_19 rfl ?_
  refine zV_dup hX dX0_spoken_20 rfl ?_
  refine zV_geti hX dX0_spoken_21 zf_X0_103 hO.1 rfl rfl ?_
  refine zV_lload hX dX0_spoken_24 rfl ?_
  refine zV_ldc2 hX dX0_spoken_26 zkc_X0_113 ?_
  refine zV_lcmp hX dX0_spoken_29 ?_
  refine zV_if_ne hX (tgt := 37) dX0_spoken_30 (by decide) (fun c_30 => ?_) (fun c_30 => ?_)
  · have e1 : (if (eWh lc cn r w x (nI c) tr M) = none then nI 0 else nI 1) = nI 1 := if_neg (fun q => c_30 ((zlo_m1 _).mpr q))
    refine zV_iconst hX (v := nI 1) dX0_spoken_37 (by decide) ?_
    refine zV_iadd hX dX0_spoken_38 ?_
    refine zV_puti hX dX0_spoken_39 zf_X0_103 zp_0_0 hO.1 rfl ?_
    refine zV_aload_n hX dX0_spoken_42 rfl ?_
    refine zV_dup hX dX0_spoken_43 rfl ?_
    refine zV_geti hX (x := M.1 o 1) dX0_spoken_44 zf_X0_106 hO.1 rfl (zw_ne (by omega)) ?_
    refine zV_lload hX dX0_spoken_47 rfl ?_
    refine zV_ldc2 hX dX0_spoken_49 zkc_X0_115 ?_
    refine zV_lcmp hX dX0_spoken_52 ?_
    refine zV_if_ne hX (tgt := 60) dX0_spoken_53 (by decide) (fun c_53 => ?_) (fun c_53 => ?_)
    · have e2 : (if (eWh lc cn r w x (nI c) tr M) = some none then nI 1 else nI 0) = nI 0 := if_neg (fun q => c_53 ((zlo_m2 _).mpr q))
      refine zV_iconst hX (v := nI 0) dX0_spoken_60 (by decide) ?_
      refine zV_iadd hX dX0_spoken_61 ?_
      refine zV_puti hX dX0_spoken_62 zf_X0_106 zp_0_1 hO.1 rfl ?_
      refine zV_lload hX dX0_spoken_65 rfl ?_
      exact zV_retl hX hQ hr (⟨rfl, by rw [kCnt, e1, e2]⟩) dX0_spoken_67
    · have e2 : (if (eWh lc cn r w x (nI c) tr M) = some none then nI 1 else nI 0) = nI 1 := if_pos ((zlo_m2 _).mp c_53)
      refine zV_iconst hX (v := nI 1) dX0_spoken_56 (by decide) ?_
      refine zV_goto hX (tgt := 61) dX0_spoken_57 (by decide) ?_
      refine zV_iadd hX dX0_spoken_61 ?_
      refine zV_puti hX dX0_spoken_62 zf_X0_106 zp_0_1 hO.1 rfl ?_
      refine zV_lload hX dX0_spoken_65 rfl ?_
      exact zV_retl hX hQ hr (⟨rfl, by rw [kCnt, e1, e2]⟩) dX0_spoken_67
  · have e1 : (if (eWh lc cn r w x (nI c) tr M) = none then nI 0 else nI 1) = nI 0 := if_pos ((zlo_m1 _).mp c_30)
    refine zV_iconst hX (v := nI 0) dX0_spoken_33 (by decide) ?_
    refine zV_goto hX (tgt := 38) dX0_spoken_34 (by decide) ?_
    refine zV_iadd hX dX0_spoken_38 ?_
    refine zV_puti hX dX0_spoken_39 zf_X0_103 zp_0_0 hO.1 rfl ?_
    refine zV_aload_n hX dX0_spoken_42 rfl ?_
    refine zV_dup hX dX0_spoken_43 rfl ?_
    refine zV_geti hX (x := M.1 o 1) dX0_spoken_44 zf_X0_106 hO.1 rfl (zw_ne (by omega)) ?_
    refine zV_lload hX dX0_spoken_47 rfl ?_
    refine zV_ldc2 hX dX0_spoken_49 zkc_X0_115 ?_
    refine zV_lcmp hX dX0_spoken_52 ?_
    refine zV_if_ne hX (tgt := 60) dX0_spoken_53 (by decide) (fun c_53 => ?_) (fun c_53 => ?_)
    · have e2 : (if (eWh lc cn r w x (nI c) tr M) = some none then nI 1 else nI 0) = nI 0 := if_neg (fun q => c_53 ((zlo_m2 _).mpr q))
      refine zV_iconst hX (v := nI 0) dX0_spoken_60 (by decide) ?_
      refine zV_iadd hX dX0_spoken_61 ?_
      refine zV_puti hX dX0_spoken_62 zf_X0_106 zp_0_1 hO.1 rfl ?_
      refine zV_lload hX dX0_spoken_65 rfl ?_
      exact zV_retl hX hQ hr (⟨rfl, by rw [kCnt, e1, e2]⟩) dX0_spoken_67
    · have e2 : (if (eWh lc cn r w x (nI c) tr M) = some none then nI 1 else nI 0) = nI 1 := if_pos ((zlo_m2 _).mp c_53)
      refine zV_iconst hX (v := nI 1) dX0_spoken_56 (by decide) ?_
      refine zV_goto hX (tgt := 61) dX0_spoken_57 (by decide) ?_
      refine zV_iadd hX dX0_spoken_61 ?_
      refine zV_puti hX dX0_spoken_62 zf_X0_106 zp_0_1 hO.1 rfl ?_
      refine zV_lload hX dX0_spoken_65 rfl ?_
      exact zV_retl hX hQ hr (⟨rfl, by rw [kCnt, e1, e2]⟩) dX0_spoken_67
def eBegin (o c : Nat) (M : zM) : zM := zfor (fun i M => zw (zw (zw (zw (zw M (o + 1 + 2) i (nI 0)) (o + 1 + 3) i (nI 0)) (o + 1 + 4) i (nI 0)) (o + 1 + 5) i (nI 0)) (o + 1 + 6) i (nI 0)) 7 (zw (zw (zw (zw M o 7 (nI c)) o 8 (nI 0)) o 0 (nI 0)) o 1 (nI 0))
set_option maxHeartbeats 1000000 in
theorem zc_ebegin (l : Launch) (G : zG) (M : zM) (o c : Nat) (hO : zOb 0 o) : zC l G 0 yX0_begin cX0_begin 3 (Option.none : Option Jvm.ClassFile.FieldType) [.ref o, .int (nI c)] M (zP none (eBegin o c M)) := by
  refine zC_of (by decide) (Nat.le_of_ble_eq_true rfl) (fun X Q hQ hX hl hR hr => ?_)
  refine zV_loc (L' := [.ref o, .int (nI c), .null]) rfl ?_
  have L9 : ∀ (f9 k : Nat), 7 - k < f9 → k ≤ 7 → zV G X Q 3 0 0 22 [.ref o, .int (nI c), .int (nI k)] [] (zfor (fun i M => zw (zw (zw (zw (zw M (o + 1 + 2) i (nI 0)) (o + 1 + 3) i (nI 0)) (o + 1 + 4) i (nI 0)) (o + 1 + 5) i (nI 0)) (o + 1 + 6) i (nI 0)) k (zw (zw (zw (zw M o 7 (nI c)) o 8 (nI 0)) o 0 (nI 0)) o 1 (nI 0))) := by
    intro f9
    induction f9 with
    | zero => intro k hk1 hk2; exact absurd hk1 (Nat.not_lt_zero _)
    | succ f9 ih =>
      intro k hk1 hk2
      refine zV_iload_n hX dX0_begin_22 rfl ?_
      refine zV_bipush hX (v := nI 7) dX0_begin_23 (by decide) ?_
      refine zV_icmp_geN hX (tgt := 69) dX0_begin_25 (by decide) ⟨by omega, by omega⟩ (fun c_25 => ?_) (fun c_25 => ?_)
      · exact zV_retv hX hQ hr (⟨rfl, by rw [show k = 7 by omega]; rfl⟩) dX0_begin_69
      · refine zV_aload_n hX dX0_begin_28 rfl ?_
        refine zV_geta hX dX0_begin_29 zf_X0_9 hO.1 rfl ?_
        refine zV_iload_n hX dX0_begin_32 rfl ?_
        refine zV_iconst hX (v := nI 0) dX0_begin_33 (by decide) ?_
        refine zV_iast hX dX0_begin_34 (hO.a 2 rfl) (rfl) ⟨by omega, by omega⟩ ?_
        refine zV_aload_n hX dX0_begin_35 rfl ?_
        refine zV_geta hX dX0_begin_36 zf_X0_15 hO.1 rfl ?_
        refine zV_iload_n hX dX0_begin_39 rfl ?_
        refine zV_iconst hX (v := nI 0) dX0_begin_40 (by decide) ?_
        refine zV_iast hX dX0_begin_41 (hO.a 3 rfl) (rfl) ⟨by omega, by omega⟩ ?_
        refine zV_aload_n hX dX0_begin_42 rfl ?_
        refine zV_geta hX dX0_begin_43 zf_X0_18 hO.1 rfl ?_
        refine zV_iload_n hX dX0_begin_46 rfl ?_
        refine zV_iconst hX (v := nI 0) dX0_begin_47 (by decide) ?_
        refine zV_iast hX dX0_begin_48 (hO.a 4 rfl) (rfl) ⟨by omega, by omega⟩ ?_
        refine zV_aload_n hX dX0_begin_49 rfl ?_
        refine zV_geta hX dX0_begin_50 zf_X0_21 hO.1 rfl ?_
        refine zV_iload_n hX dX0_begin_53 rfl ?_
        refine zV_iconst hX (v := nI 0) dX0_begin_54 (by decide) ?_
        refine zV_iast hX dX0_begin_55 (hO.a 5 rfl) (rfl) ⟨by omega, by omega⟩ ?_
        refine zV_aload_n hX dX0_begin_56 rfl ?_
        refine zV_geta hX dX0_begin_57 zf_X0_24 hO.1 rfl ?_
        refine zV_iload_n hX dX0_begin_60 rfl ?_
        refine zV_iconst hX (v := nI 0) dX0_begin_61 (by decide) ?_
        refine zV_iast hX dX0_begin_62 (hO.a 6 rfl) (rfl) ⟨by omega, by omega⟩ ?_
        refine zV_iincN hX (b := 1) dX0_begin_63 rfl (by decide) ?_
        dsimp only [zst1, zst2, zclr, zc2]
        refine zV_goto hX (tgt := 22) dX0_begin_66 (by decide) ?_
        exact ih (k + 1) (by omega) (by omega)
  refine zV_aload_n hX dX0_begin_0 rfl ?_
  refine zV_iload_n hX dX0_begin_1 rfl ?_
  refine zV_puti hX dX0_begin_2 zf_X0_100 zp_0_7 hO.1 rfl ?_
  refine zV_aload_n hX dX0_begin_5 rfl ?_
  refine zV_iconst hX (v := nI 0) dX0_begin_6 (by decide) ?_
  refine zV_puti hX dX0_begin_7 zf_X0_53 zp_0_8 hO.1 rfl ?_
  refine zV_aload_n hX dX0_begin_10 rfl ?_
  refine zV_iconst hX (v := nI 0) dX0_begin_11 (by decide) ?_
  refine zV_puti hX dX0_begin_12 zf_X0_103 zp_0_0 hO.1 rfl ?_
  refine zV_aload_n hX dX0_begin_15 rfl ?_
  refine zV_iconst hX (v := nI 0) dX0_begin_16 (by decide) ?_
  refine zV_puti hX dX0_begin_17 zf_X0_106 zp_0_1 hO.1 rfl ?_
  refine zV_iconst hX (v := nI 0) dX0_begin_20 (by decide) ?_
  refine zV_istore_n hX dX0_begin_21 (by decide) ?_
  dsimp only [zst1, zst2, zclr, zc2]
  exact L9 8 0 (by omega) (by omega)
set_option maxHeartbeats 1000000 in
theorem zc_alikeIn (l : Launch) (G : zG) (M : zM) (c len row : Nat) (set v : Int32) (hc : zSh c = (20, len)) (hlen : len ≤ 2000) (hrl : row + 7 ≤ len) : zC l G 1 yX0_alikeIn cX0_alikeIn 6 (Option.some Jvm.ClassFile.FieldType.int) [.ref c, .int (nI row), .int set, .int v] M (zP (some (.int (nI (zcnt (fun i => bit set i && M.1 c (row + i) == v) 7)))) M) := by
  refine zC_of (by decide) (Nat.le_of_ble_eq_true rfl) (fun X Q hQ hX hl hR hr => ?_)
  refine zV_loc (L' := [.ref c, .int (nI row), .int set, .int v, .null, .null]) rfl ?_
  have L6 : ∀ (f9 k : Nat), 7 - k < f9 → k ≤ 7 → zV G X Q 6 0 0 6 [.ref c, .int (nI row), .int set, .int v, .int (nI (zcnt (fun i => bit set i && M.1 c (row + i) == v) k)), .int (nI k)] [] M := by
    intro f9
    induction f9 with
    | zero => intro k hk1 hk2; exact absurd hk1 (Nat.not_lt_zero _)
    | succ f9 ih =>
      intro k hk1 hk2
      refine zV_iload hX dX0_alikeIn_6 rfl ?_
      refine zV_bipush hX (v := nI 7) dX0_alikeIn_8 (by decide) ?_
      refine zV_icmp_geN hX (tgt := 48) dX0_alikeIn_10 (by decide) ⟨by omega, by omega⟩ (fun c_10 => ?_) (fun c_10 => ?_)
      · refine zV_iload hX dX0_alikeIn_48 rfl ?_
        exact zV_reti hX hQ hr (⟨by rw [show k = 7 by omega], rfl⟩) dX0_alikeIn_50
      · refine zV_iload hX dX0_alikeIn_13 rfl ?_
        refine zV_iload_n hX dX0_alikeIn_15 rfl ?_
        refine zV_iload hX dX0_alikeIn_16 rfl ?_
        refine zV_cS2p hX hR hl dX0_alikeIn_18 (zc_isIn l G M set k) zt_X9_isIn rfl zml_X0_56 (by decide) (Nat.le_of_ble_eq_true rfl) ?_
        dsimp only [Option.toList, List.cons_append, List.nil_append]
        refine zV_if_eqB hX (tgt := 38) dX0_alikeIn_21 (by decide) (fun c_21 => ?_) (fun c_21 => ?_)
        · have e9 : zcnt (fun i => bit set i && M.1 c (row + i) == v) (k + 1) = zcnt (fun i => bit set i && M.1 c (row + i) == v) k + 0 := by rw [zcnt]; simp [c_21]
          refine zV_iconst hX (v := nI 0) dX0_alikeIn_38 (by decide) ?_
          refine zV_iaddN hX dX0_alikeIn_39 ?_
          refine zV_istore hX dX0_alikeIn_40 (by decide) ?_
          dsimp only [zst1, zst2, zclr, zc2]
          refine zV_iincN hX (b := 1) dX0_alikeIn_42 rfl (by decide) ?_
          dsimp only [zst1, zst2, zclr, zc2]
          refine zV_goto hX (tgt := 6) dX0_alikeIn_45 (by decide) ?_
          exact e9 ▸ ih (k + 1) (by omega) (by omega)
        · refine zV_aload_n hX dX0_alikeIn_24 rfl ?_
          refine zV_iload_n hX dX0_alikeIn_25 rfl ?_
          refine zV_iload hX dX0_alikeIn_26 rfl ?_
          refine zV_iaddN hX dX0_alikeIn_28 ?_
          refine zV_iald hX dX0_alikeIn_29 hc (rfl) ⟨by omega, by omega⟩ (rfl) ?_
          refine zV_iload_n hX dX0_alikeIn_30 rfl ?_
          refine zV_icmp_ne hX (tgt := 38) dX0_alikeIn_31 (by decide) (fun c_31 => ?_) (fun c_31 => ?_)
          · have e9 : zcnt (fun i => bit set i && M.1 c (row + i) == v) (k + 1) = zcnt (fun i => bit set i && M.1 c (row + i) == v) k + 0 := by rw [zcnt]; simp [c_31]
            refine zV_iconst hX (v := nI 0) dX0_alikeIn_38 (by decide) ?_
            refine zV_iaddN hX dX0_alikeIn_39 ?_
            refine zV_istore hX dX0_alikeIn_40 (by decide) ?_
            dsimp only [zst1, zst2, zclr, zc2]
            refine zV_iincN hX (b := 1) dX0_alikeIn_42 rfl (by decide) ?_
            dsimp only [zst1, zst2, zclr, zc2]
            refine zV_goto hX (tgt := 6) dX0_alikeIn_45 (by decide) ?_
            exact e9 ▸ ih (k + 1) (by omega) (by omega)
          · have e9 : zcnt (fun i => bit set i && M.1 c (row + i) == v) (k + 1) = zcnt (fun i => bit set i && M.1 c (row + i) == v) k + 1 := by rw [zcnt]; simp [c_21, c_31]
            refine zV_iconst hX (v := nI 1) dX0_alikeIn_34 (by decide) ?_
            refine zV_goto hX (tgt := 39) dX0_alikeIn_35 (by decide) ?_
            refine zV_iaddN hX dX0_alikeIn_39 ?_
            refine zV_istore hX dX0_alikeIn_40 (by decide) ?_
            dsimp only [zst1, zst2, zclr, zc2]
            refine zV_iincN hX (b := 1) dX0_alikeIn_42 rfl (by decide) ?_
            dsimp only [zst1, zst2, zclr, zc2]
            refine zV_goto hX (tgt := 6) dX0_alikeIn_45 (by decide) ?_
            exact e9 ▸ ih (k + 1) (by omega) (by omega)
  refine zV_iconst hX (v := nI 0) dX0_alikeIn_0 (by decide) ?_
  refine zV_istore hX dX0_alikeIn_1 (by decide) ?_
  dsimp only [zst1, zst2, zclr, zc2]
  refine zV_iconst hX (v := nI 0) dX0_alikeIn_3 (by decide) ?_
  refine zV_istore hX dX0_alikeIn_4 (by decide) ?_
  dsimp only [zst1, zst2, zclr, zc2]
  exact L6 8 0 (by omega) (by omega)
def eAb (row : Nat → Int32) (set : Int32) (lim : Nat) : Nat → Bool := fun w => bit set w && decide (lim < zcnt (fun i => bit set i && row i == row w) 7)
theorem zfst_up {q : Nat → Bool} {k a : Nat} : ∀ {n : Nat}, k ≤ n → zfst q k = some a → zfst q n = some a
  | 0, h, e => by rw [Nat.le_zero.mp h] at e; exact e
  | n + 1, h, e => by
    rcases Nat.lt_or_ge n k with q2 | q2
    · rw [show n + 1 = k by omega]; exact e
    · exact zfst_old (zfst_up q2 e)
set_option maxHeartbeats 1000000 in
theorem zc_firstAbove (l : Launch) (G : zG) (M : zM) (c len row lim : Nat) (set : Int32) (hc : zSh c = (20, len)) (hlen : len ≤ 2000) (hrl : row + 7 ≤ len) (hlim : lim < 100) : zC l G 2 yX0_firstAbove cX0_firstAbove 5 (Option.some Jvm.ClassFile.FieldType.int) [.ref c, .int (nI row), .int set, .int (nI lim)] M (zP (some (.int (zfv (eAb (fun i => M.1 c (row + i)) set lim) 7))) M) := by
  refine zC_of (by decide) (Nat.le_of_ble_eq_true rfl) (fun X Q hQ hX hl hR hr => ?_)
  refine zV_loc (L' := [.ref c, .int (nI row), .int set, .int (nI lim), .null]) rfl ?_
  have L3 : ∀ (f9 k : Nat), 7 - k < f9 → k ≤ 7 → zfst (eAb (fun i => M.1 c (row + i)) set lim) k = none → zV G X Q 5 0 0 3 [.ref c, .int (nI row), .int set, .int (nI lim), .int (nI k)] [] M := by
    intro f9
    induction f9 with
    | zero => intro k hk1 hk2 hk3; exact absurd hk1 (Nat.not_lt_zero _)
    | succ f9 ih =>
      intro k hk1 hk2 hk3
      refine zV_iload hX dX0_firstAbove_3 rfl ?_
      refine zV_bipush hX (v := nI 7) dX0_firstAbove_5 (by decide) ?_
      refine zV_icmp_geN hX (tgt := 44) dX0_firstAbove_7 (by decide) ⟨by omega, by omega⟩ (fun c_7 => ?_) (fun c_7 => ?_)
      · refine zV_iconst hX (v := (-1)) dX0_firstAbove_44 (by decide) ?_
        exact zV_reti hX hQ hr (⟨by rw [zfv, show (7 : Nat) = k by omega, hk3], rfl⟩) dX0_firstAbove_45
      · refine zV_iload_n hX dX0_firstAbove_10 rfl ?_
        refine zV_iload hX dX0_firstAbove_11 rfl ?_
        refine zV_cS2p hX hR hl dX0_firstAbove_13 (zc_isIn l G M set k) zt_X9_isIn rfl zml_X0_56 (by decide) (Nat.le_of_ble_eq_true rfl) ?_
        dsimp only [Option.toList, List.cons_append, List.nil_append]
        refine zV_if_eqB hX (tgt := 38) dX0_firstAbove_16 (by decide) (fun c_16 => ?_) (fun c_16 => ?_)
        · have e9 : zfst (eAb (fun i => M.1 c (row + i)) set lim) (k + 1) = none := by rw [zfst_keep (by simp [eAb, c_16]), hk3]
          refine zV_iincN hX (b := 1) dX0_firstAbove_38 rfl (by decide) ?_
          dsimp only [zst1, zst2, zclr, zc2]
          refine zV_goto hX (tgt := 3) dX0_firstAbove_41 (by decide) ?_
          exact ih (k + 1) (by omega) (by omega) e9
        · refine zV_aload_n hX dX0_firstAbove_19 rfl ?_
          refine zV_iload_n hX dX0_firstAbove_20 rfl ?_
          refine zV_iload_n hX dX0_firstAbove_21 rfl ?_
          refine zV_aload_n hX dX0_firstAbove_22 rfl ?_
          refine zV_iload_n hX dX0_firstAbove_23 rfl ?_
          refine zV_iload hX dX0_firstAbove_24 rfl ?_
          refine zV_iaddN hX dX0_firstAbove_26 ?_
          refine zV_iald hX dX0_firstAbove_27 hc (rfl) ⟨by omega, by omega⟩ (rfl) ?_
          refine zV_cS4p hX hR hl dX0_firstAbove_28 (zc_alikeIn l G M c len row set _ hc hlen hrl) zt_X0_alikeIn rfl zml_X0_137 (by decide) (Nat.le_of_ble_eq_true rfl) ?_
          dsimp only [Option.toList, List.cons_append, List.nil_append]
          refine zV_iload_n hX dX0_firstAbove_31 rfl ?_
          refine zV_icmp_leN hX (tgt := 38) dX0_firstAbove_32 (by decide) ⟨Nat.lt_of_le_of_lt (zcnt_le _ 7) (by decide), by omega⟩ (fun c_32 => ?_) (fun c_32 => ?_)
          · have e9 : zfst (eAb (fun i => M.1 c (row + i)) set lim) (k + 1) = none := by rw [zfst_keep (by unfold eAb; rw [decide_eq_false (Nat.not_lt.mpr c_32), Bool.and_false]), hk3]
            refine zV_iincN hX (b := 1) dX0_firstAbove_38 rfl (by decide) ?_
            dsimp only [zst1, zst2, zclr, zc2]
            refine zV_goto hX (tgt := 3) dX0_firstAbove_41 (by decide) ?_
            exact ih (k + 1) (by omega) (by omega) e9
          · have e9 : zfst (eAb (fun i => M.1 c (row + i)) set lim) (k + 1) = some k := zfst_new hk3 (by unfold eAb; rw [decide_eq_true (show _ < _ from c_32), c_16]; rfl)
            refine zV_iload hX dX0_firstAbove_35 rfl ?_
            exact zV_reti hX hQ hr (⟨by rw [zfv_some (zfst_up (show k + 1 ≤ 7 by omega) e9)], rfl⟩) dX0_firstAbove_37
  refine zV_iconst hX (v := nI 0) dX0_firstAbove_0 (by decide) ?_
  refine zV_istore hX dX0_firstAbove_1 (by decide) ?_
  dsimp only [zst1, zst2, zclr, zc2]
  exact L3 8 0 (by omega) (by omega) rfl
def eNot (row : Nat → Int32) : Nat → Int32
  | 0 => nI 0
  | k + 1 => eNot row k ||| (if row k = 0 then nI 1 <<< (nI k &&& 31) else nI 0)
def eLast (row : Nat → Int32) (lo : Int32) : Nat → Int32
  | 0 => nI 0
  | k + 1 => if bit lo k then eLast row lo k else zmax (eLast row lo k) (row k)
set_option maxHeartbeats 1000000 in
theorem zc_notAccepted (l : Launch) (G : zG) (M : zM) (o : Nat) (hO : zOb 0 o) : zC l G 0 yX0_notAccepted cX0_notAccepted 3 (Option.some Jvm.ClassFile.FieldType.int) [.ref o] M (zP (some (.int (eNot (M.1 (o + 1 + 3)) 7))) M) := by
  refine zC_of (by decide) (Nat.le_of_ble_eq_true rfl) (fun X Q hQ hX hl hR hr => ?_)
  refine zV_loc (L' := [.ref o, .null, .null]) rfl ?_
  have L4 : ∀ (f9 k : Nat), 7 - k < f9 → k ≤ 7 → zV G X Q 3 0 0 4 [.ref o, .int (eNot (M.1 (o + 1 + 3)) k), .int (nI k)] [] M := by
    intro f9
    induction f9 with
    | zero => intro k hk1 hk2; exact absurd hk1 (Nat.not_lt_zero _)
    | succ f9 ih =>
      intro k hk1 hk2
      refine zV_iload_n hX dX0_notAccepted_4 rfl ?_
      refine zV_bipush hX (v := nI 7) dX0_notAccepted_5 (by decide) ?_
      refine zV_icmp_geN hX (tgt := 35) dX0_notAccepted_7 (by decide) ⟨by omega, by omega⟩ (fun c_7 => ?_) (fun c_7 => ?_)
      · refine zV_iload_n hX dX0_notAccepted_35 rfl ?_
        exact zV_reti hX hQ hr (⟨by rw [show k = 7 by omega], rfl⟩) dX0_notAccepted_36
      · refine zV_iload_n hX dX0_notAccepted_10 rfl ?_
        refine zV_aload_n hX dX0_notAccepted_11 rfl ?_
        refine zV_geta hX dX0_notAccepted_12 zf_X0_15 hO.1 rfl ?_
        refine zV_iload_n hX dX0_notAccepted_15 rfl ?_
        refine zV_iald hX dX0_notAccepted_16 (hO.a 3 rfl) (rfl) ⟨by omega, by omega⟩ (rfl) ?_
        refine zV_if_ne hX (tgt := 26) dX0_notAccepted_17 (by decide) (fun c_17 => ?_) (fun c_17 => ?_)
        · have e9 : eNot (M.1 (o + 1 + 3)) (k + 1) = eNot (M.1 (o + 1 + 3)) k ||| nI 0 := by rw [eNot, if_neg c_17]
          refine zV_iconst hX (v := nI 0) dX0_notAccepted_26 (by decide) ?_
          refine zV_ior hX dX0_notAccepted_27 ?_
          refine zV_istore_n hX dX0_notAccepted_28 (by decide) ?_
          dsimp only [zst1, zst2, zclr, zc2]
          refine zV_iincN hX (b := 1) dX0_notAccepted_29 rfl (by decide) ?_
          dsimp only [zst1, zst2, zclr, zc2]
          refine zV_goto hX (tgt := 4) dX0_notAccepted_32 (by decide) ?_
          exact e9 ▸ ih (k + 1) (by omega) (by omega)
        · have e9 : eNot (M.1 (o + 1 + 3)) (k + 1) = eNot (M.1 (o + 1 + 3)) k ||| (nI 1 <<< (nI k &&& 31)) := by rw [eNot, if_pos c_17]
          refine zV_iconst hX (v := nI 1) dX0_notAccepted_20 (by decide) ?_
          refine zV_iload_n hX dX0_notAccepted_21 rfl ?_
          refine zV_ishl hX dX0_notAccepted_22 ?_
          refine zV_goto hX (tgt := 27) dX0_notAccepted_23 (by decide) ?_
          refine zV_ior hX dX0_notAccepted_27 ?_
          refine zV_istore_n hX dX0_notAccepted_28 (by decide) ?_
          dsimp only [zst1, zst2, zclr, zc2]
          refine zV_iincN hX (b := 1) dX0_notAccepted_29 rfl (by decide) ?_
          dsimp only [zst1, zst2, zclr, zc2]
          refine zV_goto hX (tgt := 4) dX0_notAccepted_32 (by decide) ?_
          exact e9 ▸ ih (k + 1) (by omega) (by omega)
  refine zV_iconst hX (v := nI 0) dX0_notAccepted_0 (by decide) ?_
  refine zV_istore_n hX dX0_notAccepted_1 (by decide) ?_
  dsimp only [zst1, zst2, zclr, zc2]
  refine zV_iconst hX (v := nI 0) dX0_notAccepted_2 (by decide) ?_
  refine zV_istore_n hX dX0_notAccepted_3 (by decide) ?_
  dsimp only [zst1, zst2, zclr, zc2]
  exact L4 8 0 (by omega) (by omega)
set_option maxHeartbeats 1000000 in
theorem zc_eunlike (l : Launch) (G : zG) (M : zM) (o g lc n : Nat) (hO : zOb 0 o) (hG : zOb 1 g) (hgn : M.1 g 0 = nI n) (hn7 : n ≤ 7) (hgl : M.1 g 3 = nI lc) (hlc : lc < 2 ^ 31) (hL : zOb 3 lc) : zC l G 3 yX0_unlike cX0_unlike 2 (Option.some Jvm.ClassFile.FieldType.int) [.ref o, .ref g] M (zP (some (.int (nI (zunl (M.1 (o + 1 + 2)) (M.1 lc 0 ||| eNot (M.1 (o + 1 + 3)) 7) n)))) M) := by
  refine zC_of (by decide) (Nat.le_of_ble_eq_true rfl) (fun X Q hQ hX hl hR hr => ?_)
  refine zV_loc (L' := [.ref o, .ref g]) rfl ?_
  refine zV_aload_n hX dX0_unlike_0 rfl ?_
  refine zV_geta hX dX0_unlike_1 zf_X0_9 hO.1 rfl ?_
  refine zV_aload_n hX dX0_unlike_4 rfl ?_
  refine zV_geti hX dX0_unlike_5 zf_X0_47 hG.1 rfl (hgn) ?_
  refine zV_aload_n hX dX0_unlike_8 rfl ?_
  refine zV_getp hX dX0_unlike_9 zf_X0_73 hG.1 rfl (hgl) hlc ?_
  refine zV_geti hX dX0_unlike_12 zf_X0_77 hL.1 rfl rfl ?_
  refine zV_aload_n hX dX0_unlike_15 rfl ?_
  refine zV_cV0p hX hR hl dX0_unlike_16 (zc_notAccepted l G M o hO) zt_X0_notAccepted rfl zml_X0_82 hO.1 ⟨by decide, by decide⟩ (Nat.le_of_ble_eq_true rfl) ?_
  dsimp only [Option.toList, List.cons_append, List.nil_append]
  refine zV_ior hX dX0_unlike_19 ?_
  refine zV_cS3p hX hR hl dX0_unlike_20 (zc_unlike l G M (o + 1 + 2) 7 n _ (hO.a 2 rfl) (by decide) hn7) zt_X9_unlike rfl zml_X0_86 (by decide) (Nat.le_of_ble_eq_true rfl) ?_
  dsimp only [Option.toList, List.cons_append, List.nil_append]
  exact zV_reti hX hQ hr (⟨rfl, rfl⟩) dX0_unlike_23
set_option maxHeartbeats 1000000 in
theorem zc_trueOnes (l : Launch) (G : zG) (M : zM) (o g lc n : Nat) (hO : zOb 0 o) (hG : zOb 1 g) (hgn : M.1 g 0 = nI n) (hn7 : n ≤ 7) (hgl : M.1 g 3 = nI lc) (hlc : lc < 2 ^ 31) (hL : zOb 3 lc) : zC l G 2 yX0_trueOnes cX0_trueOnes 4 (Option.some Jvm.ClassFile.FieldType.int) [.ref o, .ref g] M (zP (some (.int (nI (zcnt (fun m => !decide ((M.1 (o + 1 + 3)) m ≤ 0) && !bit (M.1 lc 0) m) n)))) M) := by
  refine zC_of (by decide) (Nat.le_of_ble_eq_true rfl) (fun X Q hQ hX hl hR hr => ?_)
  refine zV_loc (L' := [.ref o, .ref g, .null, .null]) rfl ?_
  have L4 : ∀ (f9 k : Nat), n - k < f9 → k ≤ n → zV G X Q 4 0 0 4 [.ref o, .ref g, .int (nI (zcnt (fun m => !decide ((M.1 (o + 1 + 3)) m ≤ 0) && !bit (M.1 lc 0) m) k)), .int (nI k)] [] M := by
    intro f9
    induction f9 with
    | zero => intro k hk1 hk2; exact absurd hk1 (Nat.not_lt_zero _)
    | succ f9 ih =>
      intro k hk1 hk2
      refine zV_iload_n hX dX0_trueOnes_4 rfl ?_
      refine zV_aload_n hX dX0_trueOnes_5 rfl ?_
      refine zV_geti hX dX0_trueOnes_6 zf_X0_47 hG.1 rfl (hgn) ?_
      refine zV_icmp_geN hX (tgt := 46) dX0_trueOnes_9 (by decide) ⟨by omega, by omega⟩ (fun c_9 => ?_) (fun c_9 => ?_)
      · refine zV_iload_n hX dX0_trueOnes_46 rfl ?_
        exact zV_reti hX hQ hr (⟨by rw [show k = n by omega], rfl⟩) dX0_trueOnes_47
      · refine zV_iload_n hX dX0_trueOnes_12 rfl ?_
        refine zV_aload_n hX dX0_trueOnes_13 rfl ?_
        refine zV_geta hX dX0_trueOnes_14 zf_X0_15 hO.1 rfl ?_
        refine zV_iload_n hX dX0_trueOnes_17 rfl ?_
        refine zV_iald hX dX0_trueOnes_18 (hO.a 3 rfl) (rfl) ⟨by omega, by omega⟩ (rfl) ?_
        refine zV_if_le hX (tgt := 37) dX0_trueOnes_19 (by decide) (fun c_19 => ?_) (fun c_19 => ?_)
        · have e9 : zcnt (fun m => !decide ((M.1 (o + 1 + 3)) m ≤ 0) && !bit (M.1 lc 0) m) (k + 1) = zcnt (fun m => !decide ((M.1 (o + 1 + 3)) m ≤ 0) && !bit (M.1 lc 0) m) k + 0 := by rw [zcnt]; simp [c_19]
          refine zV_iconst hX (v := nI 0) dX0_trueOnes_37 (by decide) ?_
          refine zV_iaddN hX dX0_trueOnes_38 ?_
          refine zV_istore_n hX dX0_trueOnes_39 (by decide) ?_
          dsimp only [zst1, zst2, zclr, zc2]
          refine zV_iincN hX (b := 1) dX0_trueOnes_40 rfl (by decide) ?_
          dsimp only [zst1, zst2, zclr, zc2]
          refine zV_goto hX (tgt := 4) dX0_trueOnes_43 (by decide) ?_
          exact e9 ▸ ih (k + 1) (by omega) (by omega)
        · refine zV_aload_n hX dX0_trueOnes_22 rfl ?_
          refine zV_getp hX dX0_trueOnes_23 zf_X0_73 hG.1 rfl (hgl) hlc ?_
          refine zV_iload_n hX dX0_trueOnes_26 rfl ?_
          refine zV_cV1p hX hR hl dX0_trueOnes_27 (zc_isLiar l G M lc k hL) zt_X4_isLiar rfl zml_X0_90 hL.1 ⟨by decide, by decide⟩ (Nat.le_of_ble_eq_true rfl) ?_
          dsimp only [Option.toList, List.cons_append, List.nil_append]
          refine zV_if_neB hX (tgt := 37) dX0_trueOnes_30 (by decide) (fun c_30 => ?_) (fun c_30 => ?_)
          · have e9 : zcnt (fun m => !decide ((M.1 (o + 1 + 3)) m ≤ 0) && !bit (M.1 lc 0) m) (k + 1) = zcnt (fun m => !decide ((M.1 (o + 1 + 3)) m ≤ 0) && !bit (M.1 lc 0) m) k + 0 := by rw [zcnt]; simp [c_30]
            refine zV_iconst hX (v := nI 0) dX0_trueOnes_37 (by decide) ?_
            refine zV_iaddN hX dX0_trueOnes_38 ?_
            refine zV_istore_n hX dX0_trueOnes_39 (by decide) ?_
            dsimp only [zst1, zst2, zclr, zc2]
            refine zV_iincN hX (b := 1) dX0_trueOnes_40 rfl (by decide) ?_
            dsimp only [zst1, zst2, zclr, zc2]
            refine zV_goto hX (tgt := 4) dX0_trueOnes_43 (by decide) ?_
            exact e9 ▸ ih (k + 1) (by omega) (by omega)
          · have e9 : zcnt (fun m => !decide ((M.1 (o + 1 + 3)) m ≤ 0) && !bit (M.1 lc 0) m) (k + 1) = zcnt (fun m => !decide ((M.1 (o + 1 + 3)) m ≤ 0) && !bit (M.1 lc 0) m) k + 1 := by rw [zcnt]; simp [c_19, c_30]
            refine zV_iconst hX (v := nI 1) dX0_trueOnes_33 (by decide) ?_
            refine zV_goto hX (tgt := 38) dX0_trueOnes_34 (by decide) ?_
            refine zV_iaddN hX dX0_trueOnes_38 ?_
            refine zV_istore_n hX dX0_trueOnes_39 (by decide) ?_
            dsimp only [zst1, zst2, zclr, zc2]
            refine zV_iincN hX (b := 1) dX0_trueOnes_40 rfl (by decide) ?_
            dsimp only [zst1, zst2, zclr, zc2]
            refine zV_goto hX (tgt := 4) dX0_trueOnes_43 (by decide) ?_
            exact e9 ▸ ih (k + 1) (by omega) (by omega)
  refine zV_iconst hX (v := nI 0) dX0_trueOnes_0 (by decide) ?_
  refine zV_istore_n hX dX0_trueOnes_1 (by decide) ?_
  dsimp only [zst1, zst2, zclr, zc2]
  refine zV_iconst hX (v := nI 0) dX0_trueOnes_2 (by decide) ?_
  refine zV_istore_n hX dX0_trueOnes_3 (by decide) ?_
  dsimp only [zst1, zst2, zclr, zc2]
  exact L4 (n + 1) 0 (by omega) (by omega)
set_option maxHeartbeats 1000000 in
theorem zc_lastRound (l : Launch) (G : zG) (M : zM) (o g lc n : Nat) (hO : zOb 0 o) (hG : zOb 1 g) (hgn : M.1 g 0 = nI n) (hn7 : n ≤ 7) (hgl : M.1 g 3 = nI lc) (hlc : lc < 2 ^ 31) (hL : zOb 3 lc) : zC l G 2 yX0_lastRound cX0_lastRound 4 (Option.some Jvm.ClassFile.FieldType.int) [.ref o, .ref g] M (zP (some (.int (eLast (M.1 (o + 1 + 3)) (M.1 lc 0) n))) M) := by
  refine zC_of (by decide) (Nat.le_of_ble_eq_true rfl) (fun X Q hQ hX hl hR hr => ?_)
  refine zV_loc (L' := [.ref o, .ref g, .null, .null]) rfl ?_
  have L4 : ∀ (f9 k : Nat), n - k < f9 → k ≤ n → zV G X Q 4 0 0 4 [.ref o, .ref g, .int (eLast (M.1 (o + 1 + 3)) (M.1 lc 0) k), .int (nI k)] [] M := by
    intro f9
    induction f9 with
    | zero => intro k hk1 hk2; exact absurd hk1 (Nat.not_lt_zero _)
    | succ f9 ih =>
      intro k hk1 hk2
      refine zV_iload_n hX dX0_lastRound_4 rfl ?_
      refine zV_aload_n hX dX0_lastRound_5 rfl ?_
      refine zV_geti hX dX0_lastRound_6 zf_X0_47 hG.1 rfl (hgn) ?_
      refine zV_icmp_geN hX (tgt := 44) dX0_lastRound_9 (by decide) ⟨by omega, by omega⟩ (fun c_9 => ?_) (fun c_9 => ?_)
      · refine zV_iload_n hX dX0_lastRound_44 rfl ?_
        exact zV_reti hX hQ hr (⟨by rw [show k = n by omega], rfl⟩) dX0_lastRound_45
      · refine zV_aload_n hX dX0_lastRound_12 rfl ?_
        refine zV_getp hX dX0_lastRound_13 zf_X0_73 hG.1 rfl (hgl) hlc ?_
        refine zV_iload_n hX dX0_lastRound_16 rfl ?_
        refine zV_cV1p hX hR hl dX0_lastRound_17 (zc_isLiar l G M lc k hL) zt_X4_isLiar rfl zml_X0_90 hL.1 ⟨by decide, by decide⟩ (Nat.le_of_ble_eq_true rfl) ?_
        dsimp only [Option.toList, List.cons_append, List.nil_append]
        refine zV_if_eqB hX (tgt := 27) dX0_lastRound_20 (by decide) (fun c_20 => ?_) (fun c_20 => ?_)
        · have e9 : eLast (M.1 (o + 1 + 3)) (M.1 lc 0) (k + 1) = zmax (eLast (M.1 (o + 1 + 3)) (M.1 lc 0) k) ((M.1 (o + 1 + 3)) k) := by rw [eLast, if_neg (by simp [c_20])]
          refine zV_iload_n hX dX0_lastRound_27 rfl ?_
          refine zV_aload_n hX dX0_lastRound_28 rfl ?_
          refine zV_geta hX dX0_lastRound_29 zf_X0_15 hO.1 rfl ?_
          refine zV_iload_n hX dX0_lastRound_32 rfl ?_
          refine zV_iald hX dX0_lastRound_33 (hO.a 3 rfl) (rfl) ⟨by omega, by omega⟩ (rfl) ?_
          refine zV_max hX hR dX0_lastRound_34 zml_X0_94 (Nat.le_of_ble_eq_true rfl) ?_
          refine zV_istore_n hX dX0_lastRound_37 (by decide) ?_
          dsimp only [zst1, zst2, zclr, zc2]
          refine zV_iincN hX (b := 1) dX0_lastRound_38 rfl (by decide) ?_
          dsimp only [zst1, zst2, zclr, zc2]
          refine zV_goto hX (tgt := 4) dX0_lastRound_41 (by decide) ?_
          exact e9 ▸ ih (k + 1) (by omega) (by omega)
        · have e9 : eLast (M.1 (o + 1 + 3)) (M.1 lc 0) (k + 1) = eLast (M.1 (o + 1 + 3)) (M.1 lc 0) k := by rw [eLast, if_pos c_20]
          refine zV_iload_n hX dX0_lastRound_23 rfl ?_
          refine zV_goto hX (tgt := 37) dX0_lastRound_24 (by decide) ?_
          refine zV_istore_n hX dX0_lastRound_37 (by decide) ?_
          dsimp only [zst1, zst2, zclr, zc2]
          refine zV_iincN hX (b := 1) dX0_lastRound_38 rfl (by decide) ?_
          dsimp only [zst1, zst2, zclr, zc2]
          refine zV_goto hX (tgt := 4) dX0_lastRound_41 (by decide) ?_
          exact e9 ▸ ih (k + 1) (by omega) (by omega)
  refine zV_iconst hX (v := nI 0) dX0_lastRound_0 (by decide) ?_
  refine zV_istore_n hX dX0_lastRound_1 (by decide) ?_
  dsimp only [zst1, zst2, zclr, zc2]
  refine zV_iconst hX (v := nI 0) dX0_lastRound_2 (by decide) ?_
  refine zV_istore_n hX dX0_lastRound_3 (by decide) ?_
  dsimp only [zst1, zst2, zclr, zc2]
  exact L4 (n + 1) 0 (by omega) (by omega)
