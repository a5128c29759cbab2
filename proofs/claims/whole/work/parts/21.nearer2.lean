-- NEARER at o
def lyV (c : Nat) (M : zM) : Prop := ∀ a, a < 84 → okV (M.1 (c + 1 + 6) a) ∧ okV (M.1 (c + 1 + 7) a)
theorem said_ok {M : zM} {c w r x : Nat} {f tr v : Int32} (hl : lyV c M) (ht : okV tr) (hw : w < 7) : ∀ (k i : Nat), i + k ≤ 12 → lSaidF M c w r x f tr k i = some (some v) → okV v
  | 0, i, _, h => by cases h; exact ht
  | k + 1, i, hi, h => by
    unfold lSaidF at h
    split at h
    · unfold lAct at h
      have h9 := hl (w * 12 + i) (by omega)
      split at h
      · cases h; exact h9.1
      · split at h
        · split at h
          · cases h; exact h9.1
          · cases h; exact h9.2
        · split at h
          · cases h
          · split at h
            · cases h
            · cases h; exact ht
    · exact said_ok hl ht hw k (i + 1) (by omega) h
def nBeg (o g k : Nat) (M : zM) : zM := zfor (fun i M => zw M (o + 1 + 0) i (M.1 (g + 1 + 4) i)) k M
theorem nBeg_Z (o g k : Nat) (M : zM) : kZ o (o + 3) M (nBeg o g k M) := kZ.for (fun i M => kZ.w kZ.rf (by omega)) k M
def nH (o g lc : Nat) (cn : Nat → Nat) (m who : Nat) (M : zM) : Int32 :=
  if bit (M.1 lc 0) who then zval (lSaidF M lc who 1 m (nI who) (M.1 (g + 1 + 4) who) (cn who) 0) (M.1 (o + 1 + 0) m) else M.1 (o + 1 + 0) who
def nGt (a x : Int32) : Bool := decide (¬ Op.cmpValue (FP.fcmp a.toUInt32 x.toUInt32) .l ≤ 0)
def nIns (sc : Nat) (x : Int32) : Nat → zM → zM
  | 0, M => zw M sc 0 x
  | i + 1, M => if nGt (M.1 sc i) x then nIns sc x i (zw M sc (i + 1) (M.1 sc i)) else zw M sc (i + 1) x
theorem nIns_Z {o sc : Nat} {x : Int32} (hs : o ≤ sc ∧ sc ≤ o + 3) : ∀ (i : Nat) (M : zM), kZ o (o + 3) M (nIns sc x i M)
  | 0, M => kZ.w kZ.rf (by omega)
  | i + 1, M => by
    unfold nIns
    split
    · exact (kZ.w kZ.rf (by omega)).tr (nIns_Z hs i _)
    · exact kZ.w kZ.rf (by omega)
theorem nIns_o {sc a j : Nat} {x : Int32} (h : a ≠ sc) : ∀ (i : Nat) (M : zM), (nIns sc x i M).1 a j = M.1 a j
  | 0, M => zw_ne (by omega)
  | i + 1, M => by
    unfold nIns
    split
    · rw [nIns_o h i _, zw_ne (by omega)]
    · rw [zw_ne (by omega)]
theorem nI_dc {i : Nat} (h : 1 ≤ i) : nI i + Int32.ofInt (-1) = nI (i - 1) := by
  rw [show Int32.ofInt (-1) = -(nI 1) by decide, ← Int32.sub_eq_add_neg]
  exact pk_sub h
set_option maxHeartbeats 1000000 in
theorem zc_nbegin (l : Launch) (G : zG) (M : zM) (o g : Nat) (hO : zOb 4 o) (hG : zOb 1 g) (hgo : g + 5 < o ∨ o + 3 < g) (hgv : ∀ m, m < 7 → okV (M.1 (g + 1 + 4) m)) : zC l G 2 yX5_begin cX5_begin 3 (Option.none : Option Jvm.ClassFile.FieldType) [.ref o, .ref g] M (zP none (nBeg o g 7 M)) := by
  refine zC_of (by decide) (Nat.le_of_ble_eq_true rfl) (fun X Q hQ hX hl hR hr => ?_)
  refine zV_loc (L' := [.ref o, .ref g, .null]) rfl ?_
  have L2 : ∀ (f9 k : Nat), 7 - k < f9 → k ≤ 7 → zV G X Q 3 0 0 2 [.ref o, .ref g, .int (nI k)] [] (nBeg o g k M) := by
    intro f9
    induction f9 with
    | zero => intro k hk1 hk2; exact absurd hk1 (Nat.not_lt_zero _)
    | succ f9 ih =>
      intro k hk1 hk2
      refine zV_iload_n hX dX5_begin_2 rfl ?_
      refine zV_bipush hX (v := nI 7) dX5_begin_3 (by decide) ?_
      refine zV_icmp_geN hX (tgt := 29) dX5_begin_5 (by decide) ⟨by omega, by omega⟩ (fun c_5 => ?_) (fun c_5 => ?_)
      · exact zV_retv hX hQ hr (⟨rfl, by rw [show k = 7 by omega]⟩) dX5_begin_29
      · refine zV_aload_n hX dX5_begin_8 rfl ?_
        refine zV_geta hX dX5_begin_9 zf_X5_9 hO.1 rfl ?_
        refine zV_iload_n hX dX5_begin_12 rfl ?_
        refine zV_aload_n hX dX5_begin_13 rfl ?_
        refine zV_geta hX dX5_begin_14 zf_X5_49 hG.1 rfl ?_
        refine zV_iload_n hX dX5_begin_17 rfl ?_
        refine zV_iald hX (v := M.1 (g + 1 + 4) k) dX5_begin_18 (hG.a 4 rfl) (rfl) ⟨by omega, by omega⟩ (nBeg_Z o g k M _ _ (by omega)) ?_
        obtain ⟨s9, E9, T9, h91, h92, -⟩ := hgv k (by omega)
        refine zV_cS1p hX hR hl dX5_begin_19 (zc_floatOf l G _ _ s9 E9 T9 h91 h92) zt_X1_floatOf rfl zml_X5_53 (by decide) (Nat.le_of_ble_eq_true rfl) ?_
        dsimp only [Option.toList, List.cons_append, List.nil_append]
        refine zV_fast hX dX5_begin_22 (hO.a 0 rfl) (rfl) ⟨by omega, by omega⟩ ?_
        refine zV_iincN hX (b := 1) dX5_begin_23 rfl (by decide) ?_
        dsimp only [zst1, zst2, zclr, zc2]
        refine zV_goto hX (tgt := 2) dX5_begin_26 (by decide) ?_
        have h8 := ih (k + 1) (by omega) (by omega)
        rw [show nBeg o g (k + 1) M = zw (nBeg o g k M) (o + 1 + 0) k ((nBeg o g k M).1 (g + 1 + 4) k) from rfl, nBeg_Z o g k M _ _ (by omega)] at h8
        exact h8
  refine zV_iconst hX (v := nI 0) dX5_begin_0 (by decide) ?_
  refine zV_istore_n hX dX5_begin_1 (by decide) ?_
  dsimp only [zst1, zst2, zclr, zc2]
  exact L2 8 0 (by omega) (by omega)
set_option maxHeartbeats 1000000 in
theorem zc_nhears (l : Launch) (G : zG) (M : zM) (o g lc n t m who : Nat) (cn : Nat → Nat) (hO : zOb 4 o) (hG : zOb 1 g) (hgn : M.1 g 0 = nI n) (hn7 : n ≤ 7) (hgt : M.1 g 1 = nI t) (ht2 : t ≤ 2) (hgl : M.1 g 3 = nI lc) (hlc : lc < 2 ^ 31) (hcn : lyN lc M cn) (hL : lyF lc o (o + 3)) (hgo : g + 5 < o ∨ o + 3 < g) (hgv : ∀ m, m < 7 → okV (M.1 (g + 1 + 4) m)) (hlv : lyV lc M) (hm : m < 7) (hw : who < 7) : zC l G 2 yX5_hears cX5_hears 6 (Option.some Jvm.ClassFile.FieldType.float) [.ref o, .ref g, .int (nI m), .int (nI who)] M (zP (some (.float (nH o g lc cn m who M).toUInt32)) M) := by
  refine zC_of (by decide) (Nat.le_of_ble_eq_true rfl) (fun X Q hQ hX hl hR hr => ?_)
  refine zV_loc (L' := [.ref o, .ref g, .int (nI m), .int (nI who), .null, .null]) rfl ?_
  refine zV_aload_n hX dX5_hears_0 rfl ?_
  refine zV_getp hX dX5_hears_1 zf_X5_39 hG.1 rfl (hgl) hlc ?_
  refine zV_iload_n hX dX5_hears_4 rfl ?_
  refine zV_cV1p hX hR hl dX5_hears_5 (zc_isLiar l G M lc who hL.1) zt_X4_isLiar rfl zml_X5_43 hL.1.1 ⟨by decide, by decide⟩ (Nat.le_of_ble_eq_true rfl) ?_
  dsimp only [Option.toList, List.cons_append, List.nil_append]
  refine zV_if_neB hX (tgt := 18) dX5_hears_8 (by decide) (fun c_8 => ?_) (fun c_8 => ?_)
  · refine zV_aload_n hX dX5_hears_18 rfl ?_
    refine zV_getp hX dX5_hears_19 zf_X5_39 hG.1 rfl (hgl) hlc ?_
    refine zV_iload_n hX dX5_hears_22 rfl ?_
    refine zV_iconst hX (v := nI 1) dX5_hears_23 (by decide) ?_
    refine zV_iload_n hX dX5_hears_24 rfl ?_
    refine zV_iload_n hX dX5_hears_25 rfl ?_
    refine zV_aload_n hX dX5_hears_26 rfl ?_
    refine zV_geta hX dX5_hears_27 zf_X5_49 hG.1 rfl ?_
    refine zV_iload_n hX dX5_hears_30 rfl ?_
    refine zV_iald hX dX5_hears_31 (hG.a 4 rfl) (rfl) ⟨by omega, by omega⟩ (rfl) ?_
    refine zV_cV5p hX hR hl dX5_hears_32 (zc_said l G M lc who 1 m (cn who) (nI who) (M.1 (g + 1 + 4) who) hL.1 hw (hcn who hw).1 (hcn who hw).2 hm) zt_X4_said rfl zml_X5_74 hL.1.1 ⟨by decide, by decide⟩ (Nat.le_of_ble_eq_true rfl) ?_
    dsimp only [Option.toList, List.cons_append, List.nil_append]
    refine zV_lstore hX dX5_hears_35 (by decide) ?_
    dsimp only [zst1, zst2, zclr, zc2]
    refine zV_lload hX dX5_hears_37 rfl ?_
    refine zV_lconst hX (v := 0) dX5_hears_39 rfl ?_
    refine zV_lcmp hX dX5_hears_40 ?_
    refine zV_if_ge hX (tgt := 53) dX5_hears_41 (by decide) (fun c_41 => ?_) (fun c_41 => ?_)
    · obtain ⟨v9, hv9⟩ := zlo_ge2 c_41
      obtain ⟨s9, E9, T9, h91, h92, -⟩ := said_ok (x := m) hlv (hgv who hw) hw (cn who) 0 (by have := (hcn who hw).2; omega) hv9
      refine zV_lload hX dX5_hears_53 rfl ?_
      refine zV_l2i hX dX5_hears_55 ?_
      refine zV_topi v9 (by rw [hv9]; exact zlv_i v9) ?_
      refine zV_cS1p hX hR hl dX5_hears_56 (zc_floatOf l G _ _ s9 E9 T9 h91 h92) zt_X1_floatOf rfl zml_X5_53 (by decide) (Nat.le_of_ble_eq_true rfl) ?_
      dsimp only [Option.toList, List.cons_append, List.nil_append]
      exact zV_retf hX hQ hr (⟨congrArg (fun z => some (Value.float z)) (by rw [nH, if_pos c_8]; first | rw [zval_no hno] | (rw [hv9]; rfl)), rfl⟩) dX5_hears_59
    · have hno := zlo_lt2 c_41
      refine zV_aload_n hX dX5_hears_44 rfl ?_
      refine zV_geta hX dX5_hears_45 zf_X5_9 hO.1 rfl ?_
      refine zV_iload_n hX dX5_hears_48 rfl ?_
      refine zV_fald hX dX5_hears_49 (hO.a 0 rfl) (rfl) ⟨by omega, by omega⟩ (rfl) ?_
      refine zV_goto hX (tgt := 59) dX5_hears_50 (by decide) ?_
      exact zV_retf hX hQ hr (⟨congrArg (fun z => some (Value.float z)) (by rw [nH, if_pos c_8]; first | rw [zval_no hno] | (rw [hv9]; rfl)), rfl⟩) dX5_hears_59
  · refine zV_aload_n hX dX5_hears_11 rfl ?_
    refine zV_geta hX dX5_hears_12 zf_X5_9 hO.1 rfl ?_
    refine zV_iload_n hX dX5_hears_15 rfl ?_
    refine zV_fald hX dX5_hears_16 (hO.a 0 rfl) (rfl) ⟨by omega, by omega⟩ (rfl) ?_
    exact zV_retf hX hQ hr (⟨congrArg (fun z => some (Value.float z)) (by rw [nH, if_neg (by rw [c_8]; decide)]), rfl⟩) dX5_hears_17
set_option maxHeartbeats 1000000 in
theorem zc_insert (l : Launch) (G : zG) (M : zM) (o k : Nat) (x : Int32) (hO : zOb 4 o) (hk : k < 7) : zC l G 0 yX5_insert cX5_insert 5 (Option.none : Option Jvm.ClassFile.FieldType) [.ref o, .int (nI k), .float x.toUInt32] M (zP none (nIns (o + 1 + 2) x k M)) := by
  refine zC_of (by decide) (Nat.le_of_ble_eq_true rfl) (fun X Q hQ hX hl hR hr => ?_)
  refine zV_loc (L' := [.ref o, .int (nI k), .float x.toUInt32, .null, .null]) rfl ?_
  have L5 : ∀ (f9 i : Nat) (M9 : zM), i < f9 → i ≤ k → nIns (o + 1 + 2) x i M9 = nIns (o + 1 + 2) x k M → zV G X Q 5 0 0 5 [.ref o, .int (nI k), .float x.toUInt32, .int (nI i), .int (nI i)] [] M9 := by
    intro f9
    induction f9 with
    | zero => intro i M9 hk1 hk2 he; exact absurd hk1 (Nat.not_lt_zero _)
    | succ f9 ih =>
      intro i M9 hk1 hk2 he
      refine zV_iload hX dX5_insert_5 rfl ?_
      refine zV_if_leN hX (tgt := 51) dX5_insert_7 (by decide) (by omega) (fun c_7 => ?_) (fun c_7 => ?_)
      · refine zV_aload_n hX dX5_insert_51 rfl ?_
        refine zV_geta hX dX5_insert_52 zf_X5_18 hO.1 rfl ?_
        refine zV_iload_n hX dX5_insert_55 rfl ?_
        refine zV_fload_n hX dX5_insert_56 rfl ?_
        refine zV_fast hX dX5_insert_57 (hO.a 2 rfl) (rfl) ⟨by omega, by omega⟩ ?_
        exact zV_retv hX hQ hr (⟨rfl, by rw [← he]; first | exact e8.symm | (rw [show i = 0 by omega]; rfl)⟩) dX5_insert_58
      · refine zV_aload_n hX dX5_insert_10 rfl ?_
        refine zV_geta hX dX5_insert_11 zf_X5_18 hO.1 rfl ?_
        refine zV_iload hX dX5_insert_14 rfl ?_
        refine zV_iconst hX (v := nI 1) dX5_insert_16 (by decide) ?_
        refine zV_isubN hX dX5_insert_17 (by omega) ?_
        refine zV_fald hX dX5_insert_18 (hO.a 2 rfl) (rfl) ⟨by omega, by omega⟩ (rfl) ?_
        refine zV_fload_n hX dX5_insert_19 rfl ?_
        refine zV_fcmp hX dX5_insert_20 ?_
        refine zV_if_le hX (tgt := 51) dX5_insert_21 (by decide) (fun c_21 => ?_) (fun c_21 => ?_)
        · have e8 : nIns (o + 1 + 2) x i M9 = zw M9 (o + 1 + 2) i x := by obtain ⟨b, rfl⟩ : ∃ b, i = b + 1 := ⟨i - 1, by omega⟩; unfold nIns; exact if_neg (fun q => absurd c_21 (of_decide_eq_true q))
          refine zV_aload_n hX dX5_insert_51 rfl ?_
          refine zV_geta hX dX5_insert_52 zf_X5_18 hO.1 rfl ?_
          refine zV_iload_n hX dX5_insert_55 rfl ?_
          refine zV_fload_n hX dX5_insert_56 rfl ?_
          refine zV_fast hX dX5_insert_57 (hO.a 2 rfl) (rfl) ⟨by omega, by omega⟩ ?_
          exact zV_retv hX hQ hr (⟨rfl, by rw [← he]; first | exact e8.symm | (rw [show i = 0 by omega]; rfl)⟩) dX5_insert_58
        · have e8 : nIns (o + 1 + 2) x i M9 = nIns (o + 1 + 2) x (i - 1) (zw M9 (o + 1 + 2) i (M9.1 (o + 1 + 2) (i - 1))) := by obtain ⟨b, rfl⟩ : ∃ b, i = b + 1 := ⟨i - 1, by omega⟩; rw [nIns]; exact if_pos (decide_eq_true c_21)
          refine zV_aload_n hX dX5_insert_24 rfl ?_
          refine zV_geta hX dX5_insert_25 zf_X5_18 hO.1 rfl ?_
          refine zV_iload hX dX5_insert_28 rfl ?_
          refine zV_aload_n hX dX5_insert_30 rfl ?_
          refine zV_geta hX dX5_insert_31 zf_X5_18 hO.1 rfl ?_
          refine zV_iload hX dX5_insert_34 rfl ?_
          refine zV_iconst hX (v := nI 1) dX5_insert_36 (by decide) ?_
          refine zV_isubN hX dX5_insert_37 (by omega) ?_
          refine zV_fald hX dX5_insert_38 (hO.a 2 rfl) (rfl) ⟨by omega, by omega⟩ (rfl) ?_
          refine zV_fast hX dX5_insert_39 (hO.a 2 rfl) (rfl) ⟨by omega, by omega⟩ ?_
          refine zV_iload hX dX5_insert_40 rfl ?_
          refine zV_iconst hX (v := nI 1) dX5_insert_42 (by decide) ?_
          refine zV_isubN hX dX5_insert_43 (by omega) ?_
          refine zV_istore_n hX dX5_insert_44 (by decide) ?_
          dsimp only [zst1, zst2, zclr, zc2]
          refine zV_iinc hX dX5_insert_45 rfl (nI_dc (by omega)) (by decide) ?_
          dsimp only [zst1, zst2, zclr, zc2]
          refine zV_goto hX (tgt := 5) dX5_insert_48 (by decide) ?_
          exact ih (i - 1) _ (by omega) (by omega) (e8.symm.trans he)
  refine zV_iload_n hX dX5_insert_0 rfl ?_
  refine zV_istore_n hX dX5_insert_1 (by decide) ?_
  dsimp only [zst1, zst2, zclr, zc2]
  refine zV_iload_n hX dX5_insert_2 rfl ?_
  refine zV_istore hX dX5_insert_3 (by decide) ?_
  dsimp only [zst1, zst2, zclr, zc2]
  exact L5 (k + 1) k M (by omega) (by omega) rfl
def hbF (o : Nat) (M : zM) : Prop := ∀ m, m < 7 → fb 1 (M.1 (o + 1 + 0) m).toUInt32
theorem nH_fb {o g lc m who : Nat} {cn : Nat → Nat} {M : zM} (hb : hbF o M) (hgv : ∀ m, m < 7 → okV (M.1 (g + 1 + 4) m)) (hlv : lyV lc M) (hcn : lyN lc M cn) (hm : m < 7) (hw : who < 7) : fb 1 (nH o g lc cn m who M).toUInt32 := by
  unfold nH
  split
  · unfold zval
    split
    · rename_i v hv
      exact okV_fb (said_ok (x := m) hlv (hgv who hw) hw (cn who) 0 (by have := (hcn who hw).2; omega) hv)
    · exact hb m hm
  · exact hb who hw
theorem nIns_fb {sc : Nat} {x : Int32} (hx : fb 1 x.toUInt32) : ∀ (i : Nat) (M : zM) (k : Nat), i ≤ k → (∀ j, j ≤ k → j ≠ i → fb 1 (M.1 sc j).toUInt32) → ∀ j, j ≤ k → fb 1 ((nIns sc x i M).1 sc j).toUInt32
  | 0, M, k, _, h, j, hj => by
    show fb 1 ((zw M sc 0 x).1 sc j).toUInt32
    by_cases e : j = 0
    · rw [e, zw_same]; exact hx
    · rw [zw_ne (by omega)]; exact h j hj e
  | i + 1, M, k, hk, h, j, hj => by
    unfold nIns
    split
    · refine nIns_fb hx i _ k (by omega) (fun a ha hne => ?_) j hj
      by_cases e : a = i + 1
      · rw [e, zw_same]; exact h i (by omega) (by omega)
      · rw [zw_ne (by omega)]; exact h a ha e
    · by_cases e : j = i + 1
      · rw [e, zw_same]; exact hx
      · rw [zw_ne (by omega)]; exact h j hj e
def nMv1 (o g lc : Nat) (cn : Nat → Nat) (m k : Nat) (M : zM) : zM := zfor (fun who M => nIns (o + 1 + 2) (nH o g lc cn m who M) who M) k M
theorem nMv1_Z (o g lc : Nat) (cn : Nat → Nat) (m k : Nat) (M : zM) : kZ o (o + 3) M (nMv1 o g lc cn m k M) := kZ.for (fun i M => nIns_Z (by omega) i M) k M
theorem zfor_same {f : Nat → zM → zM} {a j : Nat} (h : ∀ i M, (f i M).1 a j = M.1 a j) : ∀ (k : Nat) (M : zM), (zfor f k M).1 a j = M.1 a j
  | 0, _ => rfl
  | k + 1, M => (h k _).trans (zfor_same h k M)
theorem nMv1_o (o g lc : Nat) (cn : Nat → Nat) (m k : Nat) (M : zM) {a j : Nat} (h : a ≠ o + 1 + 2) : (nMv1 o g lc cn m k M).1 a j = M.1 a j := zfor_same (fun i M => nIns_o h i M) k M
/-- what stays while NEARER goes on: VALUES, lies, how many; and no float is too great -/
def nIv (o g lc n t : Nat) (cn : Nat → Nat) (M : zM) : Prop := M.1 g 0 = nI n ∧ M.1 g 1 = nI t ∧ M.1 g 3 = nI lc ∧ lyN lc M cn ∧ (∀ m, m < 7 → okV (M.1 (g + 1 + 4) m)) ∧ lyV lc M ∧ hbF o M
theorem nIv.go {o g lc n t : Nat} {cn : Nat → Nat} {M M' : zM} (h : nIv o g lc n t cn M) (hL : lyF lc o (o + 3)) (hgo : g + 5 < o ∨ o + 3 < g) (hz : kZ o (o + 3) M M') (hb : hbF o M') : nIv o g lc n t cn M' := by
  obtain ⟨h1, h2, h3, h4, h5, h6, -⟩ := h
  have q2 := hL.2 2 (by omega)
  have q7 := hL.2 7 (by omega)
  have q8 := hL.2 8 (by omega)
  refine ⟨by rw [hz _ _ (by omega), h1], by rw [hz _ _ (by omega), h2], by rw [hz _ _ (by omega), h3], fun m hm => by rw [hz _ _ (by omega)]; exact h4 m hm, fun m hm => by rw [hz _ _ (by omega)]; exact h5 m hm, fun a ha => ?_, hb⟩
  rw [hz _ _ (by omega), hz _ _ (by omega)]
  exact h6 a ha
theorem nMv1_iv {o g lc n t : Nat} {cn : Nat → Nat} {M : zM} (h : nIv o g lc n t cn M) (hL : lyF lc o (o + 3)) (hgo : g + 5 < o ∨ o + 3 < g) (m k : Nat) : nIv o g lc n t cn (nMv1 o g lc cn m k M) := h.go hL hgo (nMv1_Z o g lc cn m k M) (fun a ha => by rw [nMv1_o _ _ _ _ _ _ _ (by omega)]; exact h.2.2.2.2.2.2 a ha)
theorem nMv1_fb {o g lc n t : Nat} {cn : Nat → Nat} {M : zM} (h : nIv o g lc n t cn M) (hL : lyF lc o (o + 3)) (hgo : g + 5 < o ∨ o + 3 < g) {m : Nat} (hm : m < 7) : ∀ (k : Nat), k ≤ 7 → ∀ j, j < k → fb 1 ((nMv1 o g lc cn m k M).1 (o + 1 + 2) j).toUInt32
  | 0, _, j, hj => absurd hj (Nat.not_lt_zero j)
  | k + 1, hk, j, hj => by
    have h1 := nMv1_iv h hL hgo m k
    exact nIns_fb (nH_fb h1.2.2.2.2.2.2 h1.2.2.2.2.1 h1.2.2.2.2.2.1 h1.2.2.2.1 hm (by omega)) k _ k (Nat.le_refl k) (fun a ha hne => nMv1_fb h hL hgo hm k (by omega) a (by omega)) j (by omega)
def nSum (S : Nat → UInt32) (t : Nat) : Nat → UInt32
  | 0 => S t
  | j + 1 => FP.fadd (nSum S t j) (S (t + 1 + j))
theorem nSum_fb {S : Nat → UInt32} {t : Nat} : ∀ (j : Nat), j < 20 → (∀ a, a ≤ t + j → fb 1 (S a)) → fb (j + 1) (nSum S t j)
  | 0, _, h => h t (Nat.le_refl t)
  | j + 1, hj, h => fb_add (nSum_fb j (by omega) (fun a ha => h a (by omega))) (h _ (by omega)) (by omega)
theorem fb_half {x y : UInt32} (hx : fb 1 x) (hy : fb 1 y) : fb 1 (FP.fdiv (FP.fadd x y) FP.fconst2) := by
  have h : fb (1 + 1) (FP.fadd x y) := fb_add hx hy (by decide)
  have h2 : fb 2 (FP.fadd x y) := fb_mono h (by decide)
  have h3 : sq FP.fconst2 false (2 * 2 ^ 149) := by rw [i2f_2]; exact sq_i2f (by decide)
  exact fb_div h2 h3 (by decide)
def nMvR (S : Nat → UInt32) (t left md : Nat) : UInt32 := if md = 1 then FP.fdiv (FP.fadd (S t) (S (t + left - 1))) FP.fconst2 else FP.fdiv (nSum S t (left - 1)) (FP.i2f (nI left))
theorem nMvR_fb {S : Nat → UInt32} {t left md : Nat} (h1 : 1 ≤ left) (h2 : left < 20) (h : ∀ a, a < t + left → fb 1 (S a)) : fb 1 (nMvR S t left md) := by
  unfold nMvR
  split
  · exact fb_half (h _ (by omega)) (h _ (by omega))
  · have h3 := nSum_fb (S := S) (t := t) (left - 1) (by omega) (fun a ha => h a (by omega))
    rw [show left - 1 + 1 = left by omega] at h3
    exact fb_div h3 (sq_i2f (by omega)) h1
def nS (o : Nat) (M : zM) (j : Nat) : UInt32 := (M.1 (o + 1 + 2) j).toUInt32
def nMv (o g lc n t left md : Nat) (cn : Nat → Nat) (m : Nat) (M : zM) : UInt32 := nMvR (nS o (nMv1 o g lc cn m n M)) t left md
set_option maxHeartbeats 1000000 in
theorem zc_moved (l : Launch) (G : zG) (M : zM) (o g lc n t m left md : Nat) (cn : Nat → Nat) (hO : zOb 4 o) (hG : zOb 1 g) (hiv : nIv o g lc n t cn M) (hn7 : n ≤ 7) (ht2 : t ≤ 2) (hlc : lc < 2 ^ 31) (hL : lyF lc o (o + 3)) (hgo : g + 5 < o ∨ o + 3 < g) (hm : m < 7) (hl1 : 1 ≤ left) (hln : 2 * t + left = n) (hmd2 : md < 2) : zC l G 3 yX5_moved cX5_moved 9 (Option.some Jvm.ClassFile.FieldType.float) [.ref o, .ref g, .int (nI m), .int (nI left), .int (nI md)] M (zP (some (.float (nMv o g lc n t left md cn m M))) (nMv1 o g lc cn m n M)) := by
  refine zC_of (by decide) (Nat.le_of_ble_eq_true rfl) (fun X Q hQ hX hl hR hr => ?_)
  refine zV_loc (L' := [.ref o, .ref g, .int (nI m), .int (nI left), .int (nI md), .null, .null, .null, .null]) rfl ?_
  have L111 : ¬ md = 1 → (∀ j, j < n → fb 1 (nS o (nMv1 o g lc cn m n M) j)) → ∀ (f9 j : Nat), left - j < f9 → j ≤ left - 1 → zV G X Q 9 0 0 111 [.ref o, .ref g, .int (nI m), .int (nI left), .int (nI md), .int (nI t), .int (nI (t + left - 1)), .float (nSum (nS o (nMv1 o g lc cn m n M)) t j), .int (nI (t + 1 + j))] [] (nMv1 o g lc cn m n M) := by
    intro hmd hS
    intro f9
    induction f9 with
    | zero => intro j hj1 hj2; exact absurd hj1 (Nat.not_lt_zero _)
    | succ f9 ih =>
      intro j hj1 hj2
      refine zV_iload hX dX5_moved_111 rfl ?_
      refine zV_iload hX dX5_moved_113 rfl ?_
      refine zV_icmp_gtN hX (tgt := 136) dX5_moved_115 (by decide) ⟨by omega, by omega⟩ (fun c_115 => ?_) (fun c_115 => ?_)
      · rw [show j = left - 1 by omega]
        refine zV_fload hX dX5_moved_136 rfl ?_
        refine zV_iload_n hX dX5_moved_138 rfl ?_
        refine zV_i2f hX dX5_moved_139 ?_
        have hdv := nSum_fb (S := nS o (nMv1 o g lc cn m n M)) (t := t) (left - 1) (by omega) (fun a ha => hS a (by omega))
        rw [show left - 1 + 1 = left by omega] at hdv
        refine zV_fdiv hX dX5_moved_140 (fb_n (fb_div (k := left) hdv (sq_i2f (by omega)) (by omega))) ?_
        exact zV_retf hX hQ hr (⟨congrArg (fun z => some (Value.float z)) (by unfold nMv nMvR; rw [if_neg hmd]), rfl⟩) dX5_moved_141
      · refine zV_fload hX dX5_moved_118 rfl ?_
        refine zV_aload_n hX dX5_moved_120 rfl ?_
        refine zV_geta hX dX5_moved_121 zf_X5_18 hO.1 rfl ?_
        refine zV_iload hX dX5_moved_124 rfl ?_
        refine zV_fald hX dX5_moved_126 (hO.a 2 rfl) (rfl) ⟨by omega, by omega⟩ (rfl) ?_
        refine zV_fadd hX dX5_moved_127 (fb_n (fb_add (nSum_fb j (by omega) (fun a ha => hS a (by omega))) (hS (t + 1 + j) (by omega)) (by omega))) ?_
        refine zV_fstore hX dX5_moved_128 (by decide) ?_
        dsimp only [zst1, zst2, zclr, zc2]
        refine zV_iincN hX (b := 1) dX5_moved_130 rfl (by decide) ?_
        dsimp only [zst1, zst2, zclr, zc2]
        refine zV_goto hX (tgt := 111) dX5_moved_133 (by decide) ?_
        exact ih (j + 1) (by omega) (by omega)
  have L3 : ∀ (f9 k : Nat), n - k < f9 → k ≤ n → zV G X Q 9 0 0 3 [.ref o, .ref g, .int (nI m), .int (nI left), .int (nI md), .int (nI k), .null, .null, .null] [] (nMv1 o g lc cn m k M) := by
    intro f9
    induction f9 with
    | zero => intro k hk1 hk2; exact absurd hk1 (Nat.not_lt_zero _)
    | succ f9 ih =>
      intro k hk1 hk2
      have h9 := nMv1_iv hiv hL hgo m k
      refine zV_iload hX dX5_moved_3 rfl ?_
      refine zV_aload_n hX dX5_moved_5 rfl ?_
      refine zV_geti hX dX5_moved_6 zf_X5_33 hG.1 rfl (h9.1) ?_
      refine zV_icmp_geN hX (tgt := 32) dX5_moved_9 (by decide) ⟨by omega, by omega⟩ (fun c_9 => ?_) (fun c_9 => ?_)
      · rw [show k = n by omega]
        have h8 := nMv1_iv hiv hL hgo m n
        have hS : ∀ j, j < n → fb 1 (nS o (nMv1 o g lc cn m n M) j) := fun j hj => nMv1_fb hiv hL hgo hm n hn7 j hj
        refine zV_aload_n hX dX5_moved_32 rfl ?_
        refine zV_geti hX dX5_moved_33 zf_X5_59 hG.1 rfl (h8.2.1) ?_
        refine zV_istore hX dX5_moved_36 (by decide) ?_
        dsimp only [zst1, zst2, zclr, zc2]
        refine zV_iload hX dX5_moved_38 rfl ?_
        refine zV_iload_n hX dX5_moved_40 rfl ?_
        refine zV_iaddN hX dX5_moved_41 ?_
        refine zV_iconst hX (v := nI 1) dX5_moved_42 (by decide) ?_
        refine zV_isubN hX dX5_moved_43 (by omega) ?_
        refine zV_istore hX dX5_moved_44 (by decide) ?_
        dsimp only [zst1, zst2, zclr, zc2]
        refine zV_iload hX dX5_moved_46 rfl ?_
        refine zV_if_ltN hX (tgt := 65) dX5_moved_48 (by decide) (by omega) (fun c_48 => ?_)
        refine zV_iload hX dX5_moved_51 rfl ?_
        refine zV_iload hX dX5_moved_53 rfl ?_
        refine zV_icmp_ltN hX (tgt := 65) dX5_moved_55 (by decide) ⟨by omega, by omega⟩ (fun c_55 => absurd c_55 (by omega)) (fun c_55 => ?_)
        refine zV_iload hX dX5_moved_58 rfl ?_
        refine zV_bipush hX (v := nI 7) dX5_moved_60 (by decide) ?_
        refine zV_icmp_ltN hX (tgt := 72) dX5_moved_62 (by decide) ⟨by omega, by omega⟩ (fun c_62 => ?_) (fun c_62 => absurd c_62 (by omega))
        refine zV_iload hX dX5_moved_72 rfl ?_
        refine zV_iconst hX (v := nI 1) dX5_moved_74 (by decide) ?_
        refine zV_icmp_neN hX (tgt := 96) dX5_moved_75 (by decide) ⟨by omega, by omega⟩ (fun c_75 => ?_) (fun c_75 => ?_)
        · refine zV_aload_n hX dX5_moved_96 rfl ?_
          refine zV_geta hX dX5_moved_97 zf_X5_18 hO.1 rfl ?_
          refine zV_iload hX dX5_moved_100 rfl ?_
          refine zV_fald hX dX5_moved_102 (hO.a 2 rfl) (rfl) ⟨by omega, by omega⟩ (rfl) ?_
          refine zV_fstore hX dX5_moved_103 (by decide) ?_
          dsimp only [zst1, zst2, zclr, zc2]
          refine zV_iload hX dX5_moved_105 rfl ?_
          refine zV_iconst hX (v := nI 1) dX5_moved_107 (by decide) ?_
          refine zV_iaddN hX dX5_moved_108 ?_
          refine zV_istore hX dX5_moved_109 (by decide) ?_
          dsimp only [zst1, zst2, zclr, zc2]
          exact L111 (by omega) hS (left + 1) 0 (by omega) (by omega)
        · refine zV_aload_n hX dX5_moved_78 rfl ?_
          refine zV_geta hX dX5_moved_79 zf_X5_18 hO.1 rfl ?_
          refine zV_iload hX dX5_moved_82 rfl ?_
          refine zV_fald hX dX5_moved_84 (hO.a 2 rfl) (rfl) ⟨by omega, by omega⟩ (rfl) ?_
          refine zV_aload_n hX dX5_moved_85 rfl ?_
          refine zV_geta hX dX5_moved_86 zf_X5_18 hO.1 rfl ?_
          refine zV_iload hX dX5_moved_89 rfl ?_
          refine zV_fald hX dX5_moved_91 (hO.a 2 rfl) (rfl) ⟨by omega, by omega⟩ (rfl) ?_
          refine zV_fadd hX dX5_moved_92 (fb_n (fb_add (hS t (by omega)) (hS (t + left - 1) (by omega)) (by decide))) ?_
          refine zV_fconst2 hX dX5_moved_93 ?_
          refine zV_fdiv hX dX5_moved_94 (fb_n (fb_half (hS t (by omega)) (hS (t + left - 1) (by omega)))) ?_
          exact zV_retf hX hQ hr (⟨congrArg (fun z => some (Value.float z)) (by unfold nMv nMvR; rw [if_pos c_75]; rfl), rfl⟩) dX5_moved_95
      · refine zV_aload_n hX dX5_moved_12 rfl ?_
        refine zV_iload hX dX5_moved_13 rfl ?_
        refine zV_aload_n hX dX5_moved_15 rfl ?_
        refine zV_aload_n hX dX5_moved_16 rfl ?_
        refine zV_iload_n hX dX5_moved_17 rfl ?_
        refine zV_iload hX dX5_moved_18 rfl ?_
        refine zV_cV3p hX hR hl dX5_moved_20 (zc_nhears l G _ o g lc n t m k cn hO hG h9.1 hn7 h9.2.1 ht2 h9.2.2.1 hlc h9.2.2.2.1 hL hgo h9.2.2.2.2.1 h9.2.2.2.2.2.1 hm (by omega)) zt_X5_hears rfl zml_X5_66 hO.1 ⟨by decide, by decide⟩ (Nat.le_of_ble_eq_true rfl) ?_
        dsimp only [Option.toList, List.cons_append, List.nil_append]
        refine zV_cV2p hX hR hl dX5_moved_23 (zc_insert l G _ o k (nH o g lc cn m k (nMv1 o g lc cn m k M)) hO (by omega)) zt_X5_insert rfl zml_X5_70 hO.1 ⟨by decide, by decide⟩ (Nat.le_of_ble_eq_true rfl) ?_
        dsimp only [Option.toList, List.cons_append, List.nil_append]
        refine zV_iincN hX (b := 1) dX5_moved_26 rfl (by decide) ?_
        dsimp only [zst1, zst2, zclr, zc2]
        refine zV_goto hX (tgt := 3) dX5_moved_29 (by decide) ?_
        exact ih (k + 1) (by omega) (by omega)
  refine zV_iconst hX (v := nI 0) dX5_moved_0 (by decide) ?_
  refine zV_istore hX dX5_moved_1 (by decide) ?_
  dsimp only [zst1, zst2, zclr, zc2]
  exact L3 (n + 1) 0 (by omega) (by omega)
theorem lw_lt : ∀ n, n < 8 → ∀ t, t < 3 → (nI n - nI (2 * t) < nI 1 ↔ n ≤ 2 * t) := by decide
def nS1 (o g lc n t md : Nat) (cn : Nat → Nat) (m : Nat) (M : zM) : zM :=
  if (decide (n ≤ 2 * t) || bit (M.1 lc 0) m) = true then zw M (o + 1 + 1) m (M.1 (o + 1 + 0) m) else zw (nMv1 o g lc cn m n M) (o + 1 + 1) m (nMv o g lc n t (n - 2 * t) md cn m M).toInt32
theorem nS1_Z (o g lc n t md : Nat) (cn : Nat → Nat) (m : Nat) (M : zM) : kZ o (o + 3) M (nS1 o g lc n t md cn m M) := by
  unfold nS1
  split
  · exact kZ.w kZ.rf (by omega)
  · exact kZ.w (nMv1_Z o g lc cn m n M) (by omega)
theorem nS1_h (o g lc n t md : Nat) (cn : Nat → Nat) (m : Nat) (M : zM) (j : Nat) : (nS1 o g lc n t md cn m M).1 (o + 1 + 0) j = M.1 (o + 1 + 0) j := by
  unfold nS1
  split
  · rw [zw_ne (by omega)]
  · rw [zw_ne (by omega), nMv1_o _ _ _ _ _ _ _ (by omega)]
def nSt (o g lc n t md : Nat) (cn : Nat → Nat) (k : Nat) (M : zM) : zM := zfor (nS1 o g lc n t md cn) k M
theorem nSt_Z (o g lc n t md : Nat) (cn : Nat → Nat) (k : Nat) (M : zM) : kZ o (o + 3) M (nSt o g lc n t md cn k M) := kZ.for (nS1_Z o g lc n t md cn) k M
theorem nSt_h (o g lc n t md : Nat) (cn : Nat → Nat) (k : Nat) (M : zM) (j : Nat) : (nSt o g lc n t md cn k M).1 (o + 1 + 0) j = M.1 (o + 1 + 0) j := zfor_same (fun i M => nS1_h o g lc n t md cn i M j) k M
theorem nSt_iv {o g lc n t md : Nat} {cn : Nat → Nat} {M : zM} (h : nIv o g lc n t cn M) (hL : lyF lc o (o + 3)) (hgo : g + 5 < o ∨ o + 3 < g) (k : Nat) : nIv o g lc n t cn (nSt o g lc n t md cn k M) := h.go hL hgo (nSt_Z o g lc n t md cn k M) (fun a ha => by rw [nSt_h]; exact h.2.2.2.2.2.2 a ha)
theorem nSt_fb {o g lc n t md : Nat} {cn : Nat → Nat} {M : zM} (h : nIv o g lc n t cn M) (hL : lyF lc o (o + 3)) (hgo : g + 5 < o ∨ o + 3 < g) (hn : n ≤ 7) : ∀ (k : Nat), k ≤ n → ∀ j, j < k → fb 1 ((nSt o g lc n t md cn k M).1 (o + 1 + 1) j).toUInt32
  | 0, _, j, hj => absurd hj (Nat.not_lt_zero j)
  | k + 1, hk, j, hj => by
    have h1 := nSt_iv (md := md) h hL hgo k
    have h2 := nSt_fb (md := md) h hL hgo hn k (by omega)
    show fb 1 ((nS1 o g lc n t md cn k (nSt o g lc n t md cn k M)).1 (o + 1 + 1) j).toUInt32
    unfold nS1
    split
    · by_cases e : j = k
      · rw [e, zw_same]; exact h1.2.2.2.2.2.2 k (by omega)
      · rw [zw_ne (by omega)]; exact h2 j (by omega)
    · rename_i hq
      have hq2 : ¬ n ≤ 2 * t := fun q => hq (by rw [decide_eq_true q]; rfl)
      by_cases e : j = k
      · rw [e, zw_same]
        exact nMvR_fb (by omega) (by omega) (fun a ha => nMv1_fb h1 hL hgo (by omega) n hn a (by omega))
      · rw [zw_ne (by omega), nMv1_o _ _ _ _ _ _ _ (by omega)]; exact h2 j (by omega)
def nCp (o k : Nat) (M : zM) : zM := zfor (fun m M => zw M (o + 1 + 0) m (M.1 (o + 1 + 1) m)) k M
theorem nCp_Z (o k : Nat) (M : zM) : kZ o (o + 3) M (nCp o k M) := kZ.for (fun m M => kZ.w kZ.rf (by omega)) k M
theorem nCp_o (o k : Nat) (M : zM) {a j : Nat} (h : a ≠ o + 1 + 0) : (nCp o k M).1 a j = M.1 a j := zfor_same (fun i M => zw_ne (by omega)) k M
theorem nCp_at (o : Nat) (M : zM) (j : Nat) : ∀ k, (nCp o k M).1 (o + 1 + 0) j = if j < k then M.1 (o + 1 + 1) j else M.1 (o + 1 + 0) j
  | 0 => by rw [if_neg (Nat.not_lt_zero j)]; rfl
  | k + 1 => by
    show (zw (nCp o k M) (o + 1 + 0) k ((nCp o k M).1 (o + 1 + 1) k)).1 (o + 1 + 0) j = _
    by_cases e : j = k
    · rw [e, zw_same, nCp_o _ _ _ (by omega), if_pos (by omega)]
    · rw [zw_ne (by omega), nCp_at o M j k]
      by_cases q : j < k
      · rw [if_pos q, if_pos (by omega)]
      · rw [if_neg q, if_neg (by omega)]
def nStep (o g lc n t md : Nat) (cn : Nat → Nat) (M : zM) : zM := nCp o n (nSt o g lc n t md cn n M)
theorem nStep_iv {o g lc n t md : Nat} {cn : Nat → Nat} {M : zM} (h : nIv o g lc n t cn M) (hL : lyF lc o (o + 3)) (hgo : g + 5 < o ∨ o + 3 < g) (hn : n ≤ 7) : nIv o g lc n t cn (nStep o g lc n t md cn M) := by
  have h1 := nSt_iv (md := md) h hL hgo n
  refine h1.go hL hgo (nCp_Z o n _) (fun a ha => ?_)
  unfold nStep
  rw [nCp_at]
  split
  · rename_i q
    exact nSt_fb h hL hgo hn n (Nat.le_refl n) a q
  · exact h1.2.2.2.2.2.2 a ha
set_option maxHeartbeats 1000000 in
theorem zc_nstep (l : Launch) (G : zG) (M : zM) (o g lc n t md : Nat) (cn : Nat → Nat) (hO : zOb 4 o) (hG : zOb 1 g) (hiv : nIv o g lc n t cn M) (hn7 : n ≤ 7) (ht2 : t ≤ 2) (hlc : lc < 2 ^ 31) (hL : lyF lc o (o + 3)) (hgo : g + 5 < o ∨ o + 3 < g) (hmd2 : md < 2) : zC l G 4 yX5_step cX5_step 6 (Option.none : Option Jvm.ClassFile.FieldType) [.ref o, .ref g, .int (nI md)] M (zP none (nStep o g lc n t md cn M)) := by
  refine zC_of (by decide) (Nat.le_of_ble_eq_true rfl) (fun X Q hQ hX hl hR hr => ?_)
  refine zV_loc (L' := [.ref o, .ref g, .int (nI md), .null, .null, .null]) rfl ?_
  have L88 : ∀ (f9 k : Nat) (v1 : Value), n - k < f9 → k ≤ n → zV G X Q 6 0 0 88 [.ref o, .ref g, .int (nI md), .int (nI n - nI (2 * t)), .int (nI k), v1] [] (nCp o k (nSt o g lc n t md cn n M)) := by
    intro f9
    induction f9 with
    | zero => intro k v1 hk1 hk2; exact absurd hk1 (Nat.not_lt_zero _)
    | succ f9 ih =>
      intro k v1 hk1 hk2
      refine zV_iload hX dX5_step_88 rfl ?_
      refine zV_aload_n hX dX5_step_90 rfl ?_
      refine zV_geti hX dX5_step_91 zf_X5_33 hG.1 rfl ((nCp_Z o k (nSt o g lc n t md cn n M) _ _ (by omega)).trans (nSt_iv (md := md) hiv hL hgo n).1) ?_
      refine zV_icmp_geN hX (tgt := 117) dX5_step_94 (by decide) ⟨by omega, by omega⟩ (fun c_94 => ?_) (fun c_94 => ?_)
      · exact zV_retv hX hQ hr (⟨rfl, by rw [show k = n by omega]; rfl⟩) dX5_step_117
      · refine zV_aload_n hX dX5_step_97 rfl ?_
        refine zV_geta hX dX5_step_98 zf_X5_9 hO.1 rfl ?_
        refine zV_iload hX dX5_step_101 rfl ?_
        refine zV_aload_n hX dX5_step_103 rfl ?_
        refine zV_geta hX dX5_step_104 zf_X5_15 hO.1 rfl ?_
        refine zV_iload hX dX5_step_107 rfl ?_
        refine zV_fald hX dX5_step_109 (hO.a 1 rfl) (rfl) ⟨by omega, by omega⟩ (rfl) ?_
        refine zV_fast hX dX5_step_110 (hO.a 0 rfl) (rfl) ⟨by omega, by omega⟩ ?_
        refine zV_iincN hX (b := 1) dX5_step_111 rfl (by decide) ?_
        dsimp only [zst1, zst2, zclr, zc2]
        refine zV_goto hX (tgt := 88) dX5_step_114 (by decide) ?_
        exact ih (k + 1) _ (by omega) (by omega)
  have L15 : ∀ (f9 k : Nat) (v1 : Value), n - k < f9 → k ≤ n → zV G X Q 6 0 0 15 [.ref o, .ref g, .int (nI md), .int (nI n - nI (2 * t)), .int (nI k), v1] [] (nSt o g lc n t md cn k M) := by
    intro f9
    induction f9 with
    | zero => intro k v1 hk1 hk2; exact absurd hk1 (Nat.not_lt_zero _)
    | succ f9 ih =>
      intro k v1 hk1 hk2
      have h9 := nSt_iv (md := md) hiv hL hgo k
      have J46 : k < n → ∀ (w9 : Bool), w9 = (decide (n ≤ 2 * t) || bit ((nSt o g lc n t md cn k M).1 lc 0) k) → zV G X Q 6 0 0 46 [.ref o, .ref g, .int (nI md), .int (nI n - nI (2 * t)), .int (nI k), v1] [.int (zb w9)] (nSt o g lc n t md cn k M) := by
        intro hkn w9 hw9
        refine zV_istore hX dX5_step_46 (by decide) ?_
        dsimp only [zst1, zst2, zclr, zc2]
        refine zV_aload_n hX dX5_step_48 rfl ?_
        refine zV_geta hX dX5_step_49 zf_X5_15 hO.1 rfl ?_
        refine zV_iload hX dX5_step_52 rfl ?_
        refine zV_iload hX dX5_step_54 rfl ?_
        refine zV_if_eqB hX (tgt := 69) dX5_step_56 (by decide) (fun c_56 => ?_) (fun c_56 => ?_)
        · have e9 : nS1 o g lc n t md cn k (nSt o g lc n t md cn k M) = zw (nMv1 o g lc cn k n (nSt o g lc n t md cn k M)) (o + 1 + 1) k (nMv o g lc n t (n - 2 * t) md cn k (nSt o g lc n t md cn k M)).toInt32 := if_neg (by rw [← hw9, c_56]; decide)
          have hle : ¬ n ≤ 2 * t := fun q => by rw [decide_eq_true q, c_56] at hw9; cases hw9
          refine zV_aload_n hX dX5_step_69 rfl ?_
          refine zV_aload_n hX dX5_step_70 rfl ?_
          refine zV_iload hX dX5_step_71 rfl ?_
          refine zV_iload_n hX dX5_step_73 rfl ?_
          refine zV_topi (nI (n - 2 * t)) (pk_sub (by omega)) ?_
          refine zV_iload_n hX dX5_step_74 rfl ?_
          refine zV_cV4p hX hR hl dX5_step_75 (zc_moved l G _ o g lc n t k (n - 2 * t) md cn hO hG h9 hn7 ht2 hlc hL hgo (by omega) (by omega) (by omega) hmd2) zt_X5_moved rfl zml_X5_62 hO.1 ⟨by decide, by decide⟩ (Nat.le_of_ble_eq_true rfl) ?_
          dsimp only [Option.toList, List.cons_append, List.nil_append]
          refine zV_fast hX dX5_step_78 (hO.a 1 rfl) (rfl) ⟨by omega, by omega⟩ ?_
          refine zV_iincN hX (b := 1) dX5_step_79 rfl (by decide) ?_
          dsimp only [zst1, zst2, zclr, zc2]
          refine zV_goto hX (tgt := 15) dX5_step_82 (by decide) ?_
          have h8 := fun v1 => ih (k + 1) v1 (by omega) (by omega)
          simp only [show nSt o g lc n t md cn (k + 1) M = nS1 o g lc n t md cn k (nSt o g lc n t md cn k M) from rfl, e9] at h8
          exact h8 _
        · have e9 : nS1 o g lc n t md cn k (nSt o g lc n t md cn k M) = zw (nSt o g lc n t md cn k M) (o + 1 + 1) k ((nSt o g lc n t md cn k M).1 (o + 1 + 0) k) := if_pos (by rw [← hw9, c_56])
          refine zV_aload_n hX dX5_step_59 rfl ?_
          refine zV_geta hX dX5_step_60 zf_X5_9 hO.1 rfl ?_
          refine zV_iload hX dX5_step_63 rfl ?_
          refine zV_fald hX dX5_step_65 (hO.a 0 rfl) (rfl) ⟨by omega, by omega⟩ (rfl) ?_
          refine zV_goto hX (tgt := 78) dX5_step_66 (by decide) ?_
          refine zV_fast hX dX5_step_78 (hO.a 1 rfl) (rfl) ⟨by omega, by omega⟩ ?_
          refine zV_iincN hX (b := 1) dX5_step_79 rfl (by decide) ?_
          dsimp only [zst1, zst2, zclr, zc2]
          refine zV_goto hX (tgt := 15) dX5_step_82 (by decide) ?_
          have h8 := fun v1 => ih (k + 1) v1 (by omega) (by omega)
          simp only [show nSt o g lc n t md cn (k + 1) M = nS1 o g lc n t md cn k (nSt o g lc n t md cn k M) from rfl, e9] at h8
          exact h8 _
      refine zV_iload hX dX5_step_15 rfl ?_
      refine zV_aload_n hX dX5_step_17 rfl ?_
      refine zV_geti hX dX5_step_18 zf_X5_33 hG.1 rfl (h9.1) ?_
      refine zV_icmp_geN hX (tgt := 85) dX5_step_21 (by decide) ⟨by omega, by omega⟩ (fun c_21 => ?_) (fun c_21 => ?_)
      · rw [show k = n by omega]
        refine zV_iconst hX (v := nI 0) dX5_step_85 (by decide) ?_
        refine zV_istore hX dX5_step_86 (by decide) ?_
        dsimp only [zst1, zst2, zclr, zc2]
        exact L88 (n + 1) 0 _ (by omega) (by omega)
      · refine zV_iload_n hX dX5_step_24 rfl ?_
        refine zV_iconst hX (v := nI 1) dX5_step_25 (by decide) ?_
        refine zV_icmp_lt hX (tgt := 41) dX5_step_26 (by decide) (fun c_26 => ?_) (fun c_26 => ?_)
        · have hle := (lw_lt n (by omega) t (by omega)).mp c_26
          refine zV_iconst hX (v := nI 1) dX5_step_41 (by decide) ?_
          refine zV_goto hX (tgt := 46) dX5_step_42 (by decide) ?_
          first
            | exact J46 (by omega) true (by rw [decide_eq_true hle]; rfl)
            | exact J46 (by omega) true (by rw [c_38, Bool.or_true])
            | exact J46 (by omega) false (by rw [c_38, decide_eq_false hle]; rfl)
        · have hle := fun q => c_26 ((lw_lt n (by omega) t (by omega)).mpr q)
          refine zV_aload_n hX dX5_step_29 rfl ?_
          refine zV_getp hX dX5_step_30 zf_X5_39 hG.1 rfl (h9.2.2.1) hlc ?_
          refine zV_iload hX dX5_step_33 rfl ?_
          refine zV_cV1p hX hR hl dX5_step_35 (zc_isLiar l G (nSt o g lc n t md cn k M) lc k hL.1) zt_X4_isLiar rfl zml_X5_43 hL.1.1 ⟨by decide, by decide⟩ (Nat.le_of_ble_eq_true rfl) ?_
          dsimp only [Option.toList, List.cons_append, List.nil_append]
          refine zV_if_eqB hX (tgt := 45) dX5_step_38 (by decide) (fun c_38 => ?_) (fun c_38 => ?_)
          · refine zV_iconst hX (v := nI 0) dX5_step_45 (by decide) ?_
            first
              | exact J46 (by omega) true (by rw [decide_eq_true hle]; rfl)
              | exact J46 (by omega) true (by rw [c_38, Bool.or_true])
              | exact J46 (by omega) false (by rw [c_38, decide_eq_false hle]; rfl)
          · refine zV_iconst hX (v := nI 1) dX5_step_41 (by decide) ?_
            refine zV_goto hX (tgt := 46) dX5_step_42 (by decide) ?_
            first
              | exact J46 (by omega) true (by rw [decide_eq_true hle]; rfl)
              | exact J46 (by omega) true (by rw [c_38, Bool.or_true])
              | exact J46 (by omega) false (by rw [c_38, decide_eq_false hle]; rfl)
  refine zV_aload_n hX dX5_step_0 rfl ?_
  refine zV_geti hX dX5_step_1 zf_X5_33 hG.1 rfl (hiv.1) ?_
  refine zV_iconst hX (v := nI 2) dX5_step_4 (by decide) ?_
  refine zV_aload_n hX dX5_step_5 rfl ?_
  refine zV_geti hX dX5_step_6 zf_X5_59 hG.1 rfl (hiv.2.1) ?_
  refine zV_imulN hX dX5_step_9 ?_
  refine zV_isub hX dX5_step_10 ?_
  refine zV_istore_n hX dX5_step_11 (by decide) ?_
  dsimp only [zst1, zst2, zclr, zc2]
  refine zV_iconst hX (v := nI 0) dX5_step_12 (by decide) ?_
  refine zV_istore hX dX5_step_13 (by decide) ?_
  dsimp only [zst1, zst2, zclr, zc2]
  exact L15 (n + 1) 0 _ (by omega) (by omega)
