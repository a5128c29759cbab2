theorem kN.hv {M M1 : zM} (h : kN M M1) (e : ∀ m, m < 7 → okV (M.1 313 m)) : ∀ m, m < 7 → okV (M1.1 313 m) := fun m hm => by
  rw [h.1 _ _ (by unfold mFrN; omega)]
  exact e m hm
theorem kN.li {M M1 : zM} (h : kN M M1) (m : Nat) : mLiar M1 m = mLiar M m := by
  unfold mLiar
  rw [h.1 _ _ (by unfold mFrN; omega)]
set_option maxHeartbeats 1000000 in
theorem zc_beginsNearer (l : Launch) (G : zG) (M : zM) (n : Nat) (hn : M.1 300 9 = nI n) (hn7 : n ≤ 7) (hv : ∀ m, m < 7 → okV (M.1 313 m)) : zC l G 1 yX11_beginsNearer cX11_beginsNearer 2 (Option.none : Option Jvm.ClassFile.FieldType) [.ref (300 : Nat)] M (zP none (mNb n M)) := by
  refine zC_of (by decide) (Nat.le_of_ble_eq_true rfl) (fun X Q hQ hX hl hR hr => ?_)
  refine zV_loc (L' := [.ref (300 : Nat), .null]) rfl ?_
  have L2 : ∀ (f9 m : Nat), n - m < f9 → m ≤ n → zV G X Q 2 0 0 2 [.ref (300 : Nat), .int (nI m)] [] (mNb m M) := by
    intro f9
    induction f9 with
    | zero => intro m hm1 hm2; exact absurd hm1 (Nat.not_lt_zero _)
    | succ f9 ih =>
      intro m hm1 hm2
      refine zV_iload_n hX dX11_beginsNearer_2 rfl ?_
      refine zV_aload_n hX dX11_beginsNearer_3 rfl ?_
      refine zV_geti hX dX11_beginsNearer_4 zf_X11_20 zo300.1 rfl ((mNb_N m M).at hn (by unfold mFrN; omega)) ?_
      refine zV_icmp_geN hX (tgt := 31) dX11_beginsNearer_7 (by decide) ⟨by omega, by omega⟩ (fun c_7 => ?_) (fun c_7 => ?_)
      · exact zV_retv hX hQ hr (⟨rfl, by rw [show m = n by omega]⟩) dX11_beginsNearer_31
      · refine zV_aload_n hX dX11_beginsNearer_10 rfl ?_
        refine zV_geta hX dX11_beginsNearer_11 zf_X11_129 zo300.1 rfl ?_
        refine zV_iload_n hX dX11_beginsNearer_14 rfl ?_
        refine zV_aload_n hX dX11_beginsNearer_15 rfl ?_
        refine zV_geta hX dX11_beginsNearer_16 zf_X11_26 zo300.1 rfl ?_
        refine zV_iload_n hX dX11_beginsNearer_19 rfl ?_
        refine zV_iald hX (v := M.1 313 m) dX11_beginsNearer_20 (zo300.a 12 rfl) (rfl) ⟨by omega, by omega⟩ ((mNb_N m M).1 _ _ (by unfold mFrN; omega)) ?_
        refine zV_cS1p hX hR hl dX11_beginsNearer_21 (zc_real l G _ _ (fb_n (okV_fb (hv m (by omega))))) zt_X11_real rfl zml_X11_485 (by decide) (Nat.le_of_ble_eq_true rfl) ?_
        dsimp only [Option.toList, List.cons_append, List.nil_append]
        refine zV_fast hX dX11_beginsNearer_24 (zo300.a 59 rfl) (rfl) ⟨by omega, by omega⟩ ?_
        refine zV_iincN hX (b := 1) dX11_beginsNearer_25 rfl (by decide) ?_
        dsimp only [zst1, zst2, zclr, zc2]
        refine zV_goto hX (tgt := 2) dX11_beginsNearer_28 (by decide) ?_
        refine zV_mem (show _ = mNb (m + 1) M from ?_) (ih (m + 1) (by omega) (by omega))
        show zw _ 360 m _ = zw (mNb m M) 360 m ((mNb m M).1 313 m)
        rw [(mNb_N m M).1 313 m (by unfold mFrN; omega), Int32.toInt32_toUInt32]
  refine zV_iconst hX (v := nI 0) dX11_beginsNearer_0 (by decide) ?_
  refine zV_istore_n hX dX11_beginsNearer_1 (by decide) ?_
  dsimp only [zst1, zst2, zclr, zc2]
  exact L2 (n + 1) 0 (by omega) (by omega)
set_option maxHeartbeats 1000000 in
theorem zc_stepsOn (l : Launch) (G : zG) (M : zM) (n t md : Nat) (mn : Nat → Option Nat) (hn : M.1 300 9 = nI n) (hn7 : n ≤ 7) (ht : M.1 300 10 = nI t) (ht2 : t ≤ 2) (hmd2 : md < 2) (hmn : mLn 0 M mn) (hlv : mlV M) (hH9 : mHb n M) : zC l G 3 yX11_stepsOn cX11_stepsOn 3 (Option.none : Option Jvm.ClassFile.FieldType) [.ref (300 : Nat), .int (nI md)] M (zP none (mNst n t md mn M)) := by
  refine zC_of (by decide) (Nat.le_of_ble_eq_true rfl) (fun X Q hQ hX hl hR hr => ?_)
  refine zV_loc (L' := [.ref (300 : Nat), .int (nI md), .null]) rfl ?_
  have L47 : ∀ (f9 m : Nat), n - m < f9 → m ≤ n → zV G X Q 3 0 0 47 [.ref (300 : Nat), .int (nI md), .int (nI m)] [] (mNc m (mNoK n t md mn n M)) := by
    intro f9
    induction f9 with
    | zero => intro m hm1 hm2; exact absurd hm1 (Nat.not_lt_zero _)
    | succ f9 ih =>
      intro m hm1 hm2
      have hK2 := (mNoK_N n t md mn n M).tr (mNc_N m _)
      refine zV_iload_n hX dX11_stepsOn_47 rfl ?_
      refine zV_aload_n hX dX11_stepsOn_48 rfl ?_
      refine zV_geti hX dX11_stepsOn_49 zf_X11_20 zo300.1 rfl (hK2.at hn (by unfold mFrN; omega)) ?_
      refine zV_icmp_geN hX (tgt := 73) dX11_stepsOn_52 (by decide) ⟨by omega, by omega⟩ (fun c_52 => ?_) (fun c_52 => ?_)
      · exact zV_retv hX hQ hr (⟨rfl, by rw [show m = n by omega]; rfl⟩) dX11_stepsOn_73
      · refine zV_aload_n hX dX11_stepsOn_55 rfl ?_
        refine zV_geta hX dX11_stepsOn_56 zf_X11_129 zo300.1 rfl ?_
        refine zV_iload_n hX dX11_stepsOn_59 rfl ?_
        refine zV_aload_n hX dX11_stepsOn_60 rfl ?_
        refine zV_geta hX dX11_stepsOn_61 zf_X11_133 zo300.1 rfl ?_
        refine zV_iload_n hX dX11_stepsOn_64 rfl ?_
        refine zV_fald hX dX11_stepsOn_65 (zo300.a 60 rfl) (rfl) ⟨by omega, by omega⟩ (rfl) ?_
        refine zV_fast hX dX11_stepsOn_66 (zo300.a 59 rfl) (rfl) ⟨by omega, by omega⟩ ?_
        refine zV_iincN hX (b := 1) dX11_stepsOn_67 rfl (by decide) ?_
        dsimp only [zst1, zst2, zclr, zc2]
        refine zV_goto hX (tgt := 47) dX11_stepsOn_70 (by decide) ?_
        refine zV_mem (show _ = mNc (m + 1) (mNoK n t md mn n M) from ?_) (ih (m + 1) (by omega) (by omega))
        show _ = zw (mNc m (mNoK n t md mn n M)) 360 m ((mNc m (mNoK n t md mn n M)).1 361 m)
        simp
  have J45 : ∀ v2 : Value, zV G X Q 3 0 0 45 [.ref (300 : Nat), .int (nI md), v2] [] (mNoK n t md mn n M) := by
    intro v2
    refine zV_iconst hX (v := nI 0) dX11_stepsOn_45 (by decide) ?_
    refine zV_istore_n hX dX11_stepsOn_46 (by decide) ?_
    dsimp only [zst1, zst2, zclr, zc2]
    exact L47 (n + 1) 0 (by omega) (by omega)
  have L2 : ∀ (f9 m : Nat), n - m < f9 → m ≤ n → zV G X Q 3 0 0 2 [.ref (300 : Nat), .int (nI md), .int (nI m)] [] (mNoK n t md mn m M) := by
    intro f9
    induction f9 with
    | zero => intro m hm1 hm2; exact absurd hm1 (Nat.not_lt_zero _)
    | succ f9 ih =>
      intro m hm1 hm2
      have hK := mNoK_N n t md mn m M
      refine zV_iload_n hX dX11_stepsOn_2 rfl ?_
      refine zV_aload_n hX dX11_stepsOn_3 rfl ?_
      refine zV_geti hX dX11_stepsOn_4 zf_X11_20 zo300.1 rfl (hK.at hn (by unfold mFrN; omega)) ?_
      refine zV_icmp_geN hX (tgt := 45) dX11_stepsOn_7 (by decide) ⟨by omega, by omega⟩ (fun c_7 => ?_) (fun c_7 => ?_)
      · have hmn9 : m = n := by omega
        rw [hmn9]
        exact J45 _
      · refine zV_aload_n hX dX11_stepsOn_10 rfl ?_
        refine zV_geta hX dX11_stepsOn_11 zf_X11_133 zo300.1 rfl ?_
        refine zV_iload_n hX dX11_stepsOn_14 rfl ?_
        refine zV_aload_n hX dX11_stepsOn_15 rfl ?_
        refine zV_iload_n hX dX11_stepsOn_16 rfl ?_
        refine zV_cV1p hX hR hl dX11_stepsOn_17 (zc_misLiar l G (mNoK n t md mn m M) m (by omega)) zt_X11_isLiar rfl zml_X11_295 zo300.1 ⟨by decide, by decide⟩ (Nat.le_of_ble_eq_true rfl) ?_
        dsimp only [Option.toList, List.cons_append, List.nil_append]
        refine zV_if_eqB hX (tgt := 32) dX11_stepsOn_20 (by decide) (fun c_20 => ?_) (fun c_20 => ?_)
        · have e8 : mNoK1 n t md mn m (mNoK n t md mn m M) = zw (mNs9 n mn m (mNoK n t md mn m M)) 361 m (mNv n t md mn m (mNoK n t md mn m M)).toInt32 := if_neg (by rw [c_20]; decide)
          refine zV_aload_n hX dX11_stepsOn_32 rfl ?_
          refine zV_iload_n hX dX11_stepsOn_33 rfl ?_
          refine zV_iload_n hX dX11_stepsOn_34 rfl ?_
          refine zV_cV2p hX hR hl dX11_stepsOn_35 (zc_stepOf l G (mNoK n t md mn m M) n t md m mn (hK.at hn (by unfold mFrN; omega)) hn7 (hK.at ht (by unfold mFrN; omega)) ht2 (by omega) hmd2 (hK.ln hmn) (kN.lv hK hlv) (mHb_of hH9 (fun j => mNoK_h n t md mn j M m))) zt_X11_stepOf rfl zml_X11_491 zo300.1 ⟨by decide, by decide⟩ (Nat.le_of_ble_eq_true rfl) ?_
          dsimp only [Option.toList, List.cons_append, List.nil_append]
          refine zV_fast hX dX11_stepsOn_38 (zo300.a 60 rfl) (rfl) ⟨by omega, by omega⟩ ?_
          refine zV_iincN hX (b := 1) dX11_stepsOn_39 rfl (by decide) ?_
          dsimp only [zst1, zst2, zclr, zc2]
          refine zV_goto hX (tgt := 2) dX11_stepsOn_42 (by decide) ?_
          refine zV_mem (show _ = mNoK n t md mn (m + 1) M from ?_) (ih (m + 1) (by omega) (by omega))
          show _ = mNoK1 n t md mn m (mNoK n t md mn m M)
          rw [e8]
          all_goals first | rfl | (rw [Int32.toInt32_toUInt32]; done) | simp only [UInt32.toInt32_toUInt32, Int32.toInt32_toUInt32, Int32.toUInt32_toInt32] | simp
        · have e8 : mNoK1 n t md mn m (mNoK n t md mn m M) = zw (mNoK n t md mn m M) 361 m ((mNoK n t md mn m M).1 360 m) := if_pos c_20
          refine zV_aload_n hX dX11_stepsOn_23 rfl ?_
          refine zV_geta hX dX11_stepsOn_24 zf_X11_129 zo300.1 rfl ?_
          refine zV_iload_n hX dX11_stepsOn_27 rfl ?_
          refine zV_fald hX dX11_stepsOn_28 (zo300.a 59 rfl) (rfl) ⟨by omega, by omega⟩ (rfl) ?_
          refine zV_goto hX (tgt := 38) dX11_stepsOn_29 (by decide) ?_
          refine zV_fast hX dX11_stepsOn_38 (zo300.a 60 rfl) (rfl) ⟨by omega, by omega⟩ ?_
          refine zV_iincN hX (b := 1) dX11_stepsOn_39 rfl (by decide) ?_
          dsimp only [zst1, zst2, zclr, zc2]
          refine zV_goto hX (tgt := 2) dX11_stepsOn_42 (by decide) ?_
          refine zV_mem (show _ = mNoK n t md mn (m + 1) M from ?_) (ih (m + 1) (by omega) (by omega))
          show _ = mNoK1 n t md mn m (mNoK n t md mn m M)
          rw [e8]
          all_goals first | rfl | (rw [Int32.toInt32_toUInt32]; done) | simp only [UInt32.toInt32_toUInt32, Int32.toInt32_toUInt32, Int32.toUInt32_toInt32] | simp
  refine zV_iconst hX (v := nI 0) dX11_stepsOn_0 (by decide) ?_
  refine zV_istore_n hX dX11_stepsOn_1 (by decide) ?_
  dsimp only [zst1, zst2, zclr, zc2]
  exact L2 (n + 1) 0 (by omega) (by omega)
set_option maxHeartbeats 1000000 in
theorem zc_mgoes (l : Launch) (G : zG) (M : zM) (n t md st : Nat) (mn : Nat → Option Nat) (hn : M.1 300 9 = nI n) (hn7 : n ≤ 7) (ht : M.1 300 10 = nI t) (ht2 : t ≤ 2) (hmd2 : md < 2) (hst : st < 100) (hmn : mLn 0 M mn) (hlv : mlV M) (hv : ∀ m, m < 7 → okV (M.1 313 m)) : zC l G 4 yX11_goes cX11_goes 4 (Option.none : Option Jvm.ClassFile.FieldType) [.ref (300 : Nat), .int (nI st), .int (nI md)] M (zP none (mNg n t md mn st M)) := by
  refine zC_of (by decide) (Nat.le_of_ble_eq_true rfl) (fun X Q hQ hX hl hR hr => ?_)
  refine zV_loc (L' := [.ref (300 : Nat), .int (nI st), .int (nI md), .null]) rfl ?_
  have L6 : ∀ (f9 k : Nat), st - k < f9 → k ≤ st → zV G X Q 4 0 0 6 [.ref (300 : Nat), .int (nI st), .int (nI md), .int (nI k)] [] (mNg n t md mn k M) := by
    intro f9
    induction f9 with
    | zero => intro k hk1 hk2; exact absurd hk1 (Nat.not_lt_zero _)
    | succ f9 ih =>
      intro k hk1 hk2
      have h9 := mNg_iv (t := t) (md := md) hv hlv hmn hn7 k
      refine zV_iload_n hX dX11_goes_6 rfl ?_
      refine zV_iload_n hX dX11_goes_7 rfl ?_
      refine zV_icmp_geN hX (tgt := 22) dX11_goes_8 (by decide) ⟨by omega, by omega⟩ (fun c_8 => ?_) (fun c_8 => ?_)
      · exact zV_retv hX hQ hr (⟨rfl, by rw [show k = st by omega]⟩) dX11_goes_22
      · refine zV_aload_n hX dX11_goes_11 rfl ?_
        refine zV_iload_n hX dX11_goes_12 rfl ?_
        refine zV_cV1p hX hR hl dX11_goes_13 (zc_stepsOn l G _ n t md mn (h9.1.at hn (by unfold mFrN; omega)) hn7 (h9.1.at ht (by unfold mFrN; omega)) ht2 hmd2 (h9.1.ln hmn) (kN.lv h9.1 hlv) h9.2) zt_X11_stepsOn rfl zml_X11_498 zo300.1 ⟨by decide, by decide⟩ (Nat.le_of_ble_eq_true rfl) ?_
        dsimp only [Option.toList, List.cons_append, List.nil_append]
        refine zV_iincN hX (b := 1) dX11_goes_16 rfl (by decide) ?_
        dsimp only [zst1, zst2, zclr, zc2]
        refine zV_goto hX (tgt := 6) dX11_goes_19 (by decide) ?_
        exact ih (k + 1) (by omega) (by omega)
  refine zV_aload_n hX dX11_goes_0 rfl ?_
  refine zV_cV0p hX hR hl dX11_goes_1 (zc_beginsNearer l G M n hn hn7 hv) zt_X11_beginsNearer rfl zml_X11_495 zo300.1 ⟨by decide, by decide⟩ (Nat.le_of_ble_eq_true rfl) ?_
  dsimp only [Option.toList, List.cons_append, List.nil_append]
  refine zV_iconst hX (v := nI 0) dX11_goes_4 (by decide) ?_
  refine zV_istore_n hX dX11_goes_5 (by decide) ?_
  dsimp only [zst1, zst2, zclr, zc2]
  exact L6 (st + 1) 0 (by omega) (by omega)
def mAny (M : zM) : Nat → Bool
  | 0 => false
  | k + 1 => if mLiar M k then mAny M k else true
def mLst (M : zM) : Nat → UInt32
  | 0 => FP.fconst0
  | k + 1 => if mLiar M k then mLst M k else if mAny M k = true ∧ ¬ 0 ≤ Op.cmpValue (FP.fcmp (mLst M k) (M.1 360 k).toUInt32) .g then mLst M k else (M.1 360 k).toUInt32
def mMst (M : zM) : Nat → UInt32
  | 0 => FP.fconst0
  | k + 1 => if mLiar M k then mMst M k else if mAny M k = true ∧ ¬ Op.cmpValue (FP.fcmp (mMst M k) (M.1 360 k).toUInt32) .l ≤ 0 then mMst M k else (M.1 360 k).toUInt32
def mSpr (n : Nat) (M : zM) : UInt32 := FP.fsub (mMst M n) (mLst M n)
theorem mLst_fb {n : Nat} {M : zM} (h : mHb n M) : ∀ k, k ≤ n → fb 1 (mLst M k)
  | 0, _ => fb_mono fb_z (by decide)
  | k + 1, hk => by
    unfold mLst
    split
    · exact mLst_fb h k (by omega)
    · split
      · exact mLst_fb h k (by omega)
      · exact h k (by omega)
theorem mMst_fb {n : Nat} {M : zM} (h : mHb n M) : ∀ k, k ≤ n → fb 1 (mMst M k)
  | 0, _ => fb_mono fb_z (by decide)
  | k + 1, hk => by
    unfold mMst
    split
    · exact mMst_fb h k (by omega)
    · split
      · exact mMst_fb h k (by omega)
      · exact h k (by omega)
set_option maxHeartbeats 1000000 in
theorem zc_spreadNow (l : Launch) (G : zG) (M : zM) (n : Nat) (hn : M.1 300 9 = nI n) (hn7 : n ≤ 7) (hH9 : mHb n M) : zC l G 2 yX11_spreadNow cX11_spreadNow 5 (Option.some Jvm.ClassFile.FieldType.float) [.ref (300 : Nat)] M (zP (some (.float (mSpr n M))) M) := by
  refine zC_of (by decide) (Nat.le_of_ble_eq_true rfl) (fun X Q hQ hX hl hR hr => ?_)
  refine zV_loc (L' := [.ref (300 : Nat), .null, .null, .null, .null]) rfl ?_
  have L9 : ∀ (f9 k : Nat), n - k < f9 → k ≤ n → zV G X Q 5 0 0 9 [.ref (300 : Nat), .int (zb (mAny M k)), .float (mLst M k), .float (mMst M k), .int (nI k)] [] M := by
    intro f9
    induction f9 with
    | zero => intro k hk1 hk2; exact absurd hk1 (Nat.not_lt_zero _)
    | succ f9 ih =>
      intro k hk1 hk2
      have J86 : k < n → mLiar M k = false → mAny M (k + 1) = true → zV G X Q 5 0 0 86 [.ref (300 : Nat), .int (zb (mAny M k)), .float (mLst M (k + 1)), .float (mMst M (k + 1)), .int (nI k)] [] M := by
        intro hkn c_24 e1
        refine zV_iconst hX (v := nI 1) dX11_spreadNow_86 (by decide) ?_
        refine zV_istore_n hX dX11_spreadNow_87 (by decide) ?_
        dsimp only [zst1, zst2, zclr, zc2]
        refine zV_iincN hX (b := 1) dX11_spreadNow_88 rfl (by decide) ?_
        dsimp only [zst1, zst2, zclr, zc2]
        refine zV_goto hX (tgt := 9) dX11_spreadNow_91 (by decide) ?_
        have h8 := ih (k + 1) (by omega) (by omega)
        rw [e1] at h8
        exact h8
      have J85 : k < n → mLiar M k = false → mAny M (k + 1) = true → ∀ w8 : UInt32, w8 = mMst M (k + 1) → zV G X Q 5 0 0 85 [.ref (300 : Nat), .int (zb (mAny M k)), .float (mLst M (k + 1)), .float (mMst M k), .int (nI k)] [.float w8] M := by
        intro hkn c_24 e1 w8 hw8
        subst hw8
        refine zV_fstore_n hX dX11_spreadNow_85 (by decide) ?_
        dsimp only [zst1, zst2, zclr, zc2]
        exact J86 hkn c_24 e1
      have J57 : k < n → mLiar M k = false → mAny M (k + 1) = true → ∀ w9 : UInt32, w9 = mLst M (k + 1) → zV G X Q 5 0 0 57 [.ref (300 : Nat), .int (zb (mAny M k)), .float (mLst M k), .float (mMst M k), .int (nI k)] [.float w9] M := by
        intro hkn c_24 e1 w9 hw9
        subst hw9
        refine zV_fstore_n hX dX11_spreadNow_57 (by decide) ?_
        dsimp only [zst1, zst2, zclr, zc2]
        refine zV_iload_n hX dX11_spreadNow_58 rfl ?_
        refine zV_if_eqB hX (tgt := 78) dX11_spreadNow_59 (by decide) (fun c_59 => ?_) (fun c_59 => ?_)
        · refine zV_aload_n hX dX11_spreadNow_78 rfl ?_
          refine zV_geta hX dX11_spreadNow_79 zf_X11_129 zo300.1 rfl ?_
          refine zV_iload hX dX11_spreadNow_82 rfl ?_
          refine zV_fald hX dX11_spreadNow_84 (zo300.a 59 rfl) (rfl) ⟨by omega, by omega⟩ (rfl) ?_
          refine J85 (by omega) c_24 e1 _ ?_
          rw [mMst, if_neg (by rw [c_24]; decide)]
          first
            | exact (if_neg (fun q => by rw [c_59] at q; exact absurd q.1 (by decide))).symm
            | exact (if_neg (fun q => q.2 c_71)).symm
            | exact (if_pos ⟨c_59, c_71⟩).symm
        · refine zV_fload_n hX dX11_spreadNow_62 rfl ?_
          refine zV_aload_n hX dX11_spreadNow_63 rfl ?_
          refine zV_geta hX dX11_spreadNow_64 zf_X11_129 zo300.1 rfl ?_
          refine zV_iload hX dX11_spreadNow_67 rfl ?_
          refine zV_fald hX dX11_spreadNow_69 (zo300.a 59 rfl) (rfl) ⟨by omega, by omega⟩ (rfl) ?_
          refine zV_fcmp hX dX11_spreadNow_70 ?_
          refine zV_if_le hX (tgt := 78) dX11_spreadNow_71 (by decide) (fun c_71 => ?_) (fun c_71 => ?_)
          · refine zV_aload_n hX dX11_spreadNow_78 rfl ?_
            refine zV_geta hX dX11_spreadNow_79 zf_X11_129 zo300.1 rfl ?_
            refine zV_iload hX dX11_spreadNow_82 rfl ?_
            refine zV_fald hX dX11_spreadNow_84 (zo300.a 59 rfl) (rfl) ⟨by omega, by omega⟩ (rfl) ?_
            refine J85 (by omega) c_24 e1 _ ?_
            rw [mMst, if_neg (by rw [c_24]; decide)]
            first
              | exact (if_neg (fun q => by rw [c_59] at q; exact absurd q.1 (by decide))).symm
              | exact (if_neg (fun q => q.2 c_71)).symm
              | exact (if_pos ⟨c_59, c_71⟩).symm
          · refine zV_fload_n hX dX11_spreadNow_74 rfl ?_
            refine zV_goto hX (tgt := 85) dX11_spreadNow_75 (by decide) ?_
            refine J85 (by omega) c_24 e1 _ ?_
            rw [mMst, if_neg (by rw [c_24]; decide)]
            first
              | exact (if_neg (fun q => by rw [c_59] at q; exact absurd q.1 (by decide))).symm
              | exact (if_neg (fun q => q.2 c_71)).symm
              | exact (if_pos ⟨c_59, c_71⟩).symm
      refine zV_iload hX dX11_spreadNow_9 rfl ?_
      refine zV_aload_n hX dX11_spreadNow_11 rfl ?_
      refine zV_geti hX dX11_spreadNow_12 zf_X11_20 zo300.1 rfl (hn) ?_
      refine zV_icmp_geN hX (tgt := 94) dX11_spreadNow_15 (by decide) ⟨by omega, by omega⟩ (fun c_15 => ?_) (fun c_15 => ?_)
      · refine zV_fload_n hX dX11_spreadNow_94 rfl ?_
        refine zV_fload_n hX dX11_spreadNow_95 rfl ?_
        refine zV_fsub hX dX11_spreadNow_96 (fb_n (fb_sub (mMst_fb hH9 k hk2) (mLst_fb hH9 k hk2) (by decide))) ?_
        exact zV_retf hX hQ hr (⟨by rw [show k = n by omega]; rfl, rfl⟩) dX11_spreadNow_97
      · refine zV_aload_n hX dX11_spreadNow_18 rfl ?_
        refine zV_iload hX dX11_spreadNow_19 rfl ?_
        refine zV_cV1p hX hR hl dX11_spreadNow_21 (zc_misLiar l G M k (by omega)) zt_X11_isLiar rfl zml_X11_295 zo300.1 ⟨by decide, by decide⟩ (Nat.le_of_ble_eq_true rfl) ?_
        dsimp only [Option.toList, List.cons_append, List.nil_append]
        refine zV_if_eqB hX (tgt := 30) dX11_spreadNow_24 (by decide) (fun c_24 => ?_) (fun c_24 => ?_)
        · have e1 : mAny M (k + 1) = true := by unfold mAny; rw [if_neg (by rw [c_24]; decide)]
          refine zV_iload_n hX dX11_spreadNow_30 rfl ?_
          refine zV_if_eqB hX (tgt := 50) dX11_spreadNow_31 (by decide) (fun c_31 => ?_) (fun c_31 => ?_)
          · refine zV_aload_n hX dX11_spreadNow_50 rfl ?_
            refine zV_geta hX dX11_spreadNow_51 zf_X11_129 zo300.1 rfl ?_
            refine zV_iload hX dX11_spreadNow_54 rfl ?_
            refine zV_fald hX dX11_spreadNow_56 (zo300.a 59 rfl) (rfl) ⟨by omega, by omega⟩ (rfl) ?_
            refine J57 (by omega) c_24 e1 _ ?_
            rw [mLst, if_neg (by rw [c_24]; decide)]
            first
              | exact (if_neg (fun q => by rw [c_31] at q; exact absurd q.1 (by decide))).symm
              | exact (if_neg (fun q => q.2 c_43)).symm
              | exact (if_pos ⟨c_31, c_43⟩).symm
          · refine zV_fload_n hX dX11_spreadNow_34 rfl ?_
            refine zV_aload_n hX dX11_spreadNow_35 rfl ?_
            refine zV_geta hX dX11_spreadNow_36 zf_X11_129 zo300.1 rfl ?_
            refine zV_iload hX dX11_spreadNow_39 rfl ?_
            refine zV_fald hX dX11_spreadNow_41 (zo300.a 59 rfl) (rfl) ⟨by omega, by omega⟩ (rfl) ?_
            refine zV_fcmp hX dX11_spreadNow_42 ?_
            refine zV_if_ge hX (tgt := 50) dX11_spreadNow_43 (by decide) (fun c_43 => ?_) (fun c_43 => ?_)
            · refine zV_aload_n hX dX11_spreadNow_50 rfl ?_
              refine zV_geta hX dX11_spreadNow_51 zf_X11_129 zo300.1 rfl ?_
              refine zV_iload hX dX11_spreadNow_54 rfl ?_
              refine zV_fald hX dX11_spreadNow_56 (zo300.a 59 rfl) (rfl) ⟨by omega, by omega⟩ (rfl) ?_
              refine J57 (by omega) c_24 e1 _ ?_
              rw [mLst, if_neg (by rw [c_24]; decide)]
              first
                | exact (if_neg (fun q => by rw [c_31] at q; exact absurd q.1 (by decide))).symm
                | exact (if_neg (fun q => q.2 c_43)).symm
                | exact (if_pos ⟨c_31, c_43⟩).symm
            · refine zV_fload_n hX dX11_spreadNow_46 rfl ?_
              refine zV_goto hX (tgt := 57) dX11_spreadNow_47 (by decide) ?_
              refine J57 (by omega) c_24 e1 _ ?_
              rw [mLst, if_neg (by rw [c_24]; decide)]
              first
                | exact (if_neg (fun q => by rw [c_31] at q; exact absurd q.1 (by decide))).symm
                | exact (if_neg (fun q => q.2 c_43)).symm
                | exact (if_pos ⟨c_31, c_43⟩).symm
        · have e1 : mAny M (k + 1) = mAny M k := by rw [mAny, if_pos c_24]
          have e2 : mLst M (k + 1) = mLst M k := by rw [mLst, if_pos c_24]
          have e3 : mMst M (k + 1) = mMst M k := by rw [mMst, if_pos c_24]
          refine zV_goto hX (tgt := 88) dX11_spreadNow_27 (by decide) ?_
          refine zV_iincN hX (b := 1) dX11_spreadNow_88 rfl (by decide) ?_
          dsimp only [zst1, zst2, zclr, zc2]
          refine zV_goto hX (tgt := 9) dX11_spreadNow_91 (by decide) ?_
          have h8 := ih (k + 1) (by omega) (by omega)
          rw [e1, e2, e3] at h8
          exact h8
  refine zV_iconst hX (v := nI 0) dX11_spreadNow_0 (by decide) ?_
  refine zV_istore_n hX dX11_spreadNow_1 (by decide) ?_
  dsimp only [zst1, zst2, zclr, zc2]
  refine zV_fconst0 hX dX11_spreadNow_2 ?_
  refine zV_fstore_n hX dX11_spreadNow_3 (by decide) ?_
  dsimp only [zst1, zst2, zclr, zc2]
  refine zV_fconst0 hX dX11_spreadNow_4 ?_
  refine zV_fstore_n hX dX11_spreadNow_5 (by decide) ?_
  dsimp only [zst1, zst2, zclr, zc2]
  refine zV_iconst hX (v := nI 0) dX11_spreadNow_6 (by decide) ?_
  refine zV_istore hX dX11_spreadNow_7 (by decide) ?_
  dsimp only [zst1, zst2, zclr, zc2]
  exact L9 (n + 1) 0 (by omega) (by omega)
