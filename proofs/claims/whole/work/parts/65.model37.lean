def mFrO (a j : Nat) : Prop := (a = 300 ∧ ((16 ≤ j ∧ j ≤ 19) ∨ (24 ≤ j ∧ j ≤ 26) ∨ j = 28)) ∨ a = 324 ∨ a = 328 ∨ a = 330 ∨ (1320 ≤ a ∧ a < 1368)
theorem mLay_O {c p k : Nat} {bk : Bool} (M : zM) (hc : c = 324 ∨ c = 330 ∨ (1320 ≤ c ∧ c < 1368)) : zKf mFrO M (mLay c p bk k M) := by
  refine zKf.for k M (fun i M _ => ?_)
  unfold mLay1
  split
  · exact (zKf.rf.w (by unfold mFrO; omega)).w (by unfold mFrO; omega)
  · exact (zKf.rf.w (by unfold mFrO; omega)).w (by unfold mFrO; omega)
theorem mLayQ_O {c p k : Nat} {bk : Bool} (M : zM) (hc : 1320 ≤ c ∧ c < 1368) : zKf mFrO M (mLayQ c p bk k M) := by
  refine zKf.for k M (fun i M _ => ?_)
  unfold mLayZ
  split
  · exact (zKf.rf.w (by unfold mFrO; omega)).w (by unfold mFrO; omega)
  · exact (zKf.rf.w (by unfold mFrO; omega)).w (by unfold mFrO; omega)
theorem mLayM_O {m : Nat} {bk : Bool} (M : zM) (hm : m < 7) : zKf mFrO M (mLayM bk m M) := ((mLay_O M (by omega)).tr (mLay_O _ (by omega))).tr (mLayQ_O _ (by omega))
theorem mFew_O (M : zM) (k : Nat) : zKf mFrO M (mFew M k) := (zKf.rf.w (by unfold mFrO; omega)).tr (zKf.for k _ (fun i M _ => zKf.rf.w (by unfold mFrO; omega)))
theorem mFewB_O (M : zM) : zKf mFrO M (mFewB M) := (((((zKf.rf.w (by unfold mFrO; omega)).w (by unfold mFrO; omega)).w (by unfold mFrO; omega)).w (by unfold mFrO; omega)).w (by unfold mFrO; omega)).w (by unfold mFrO; omega)
theorem mLays_O (bk : Bool) (M : zM) : zKf mFrO M (mLays bk M) := (((mFew_O M 6).tr (mLay_O _ (by omega))).tr (mFewB_O _)).tr ((mLay_O _ (by omega)).tr (zKf.for 7 _ (fun i M hi => mLayM_O M hi)))
theorem mFrB_O (a j : Nat) (h : mFrB a j) : mFrO a j := by unfold mFrB at h; unfold mFrO; omega
/-- a run for the asking alone, and what it answers -/
def mOg (c n t : Nat) (mn : Nat → Option Nat) (M : zM) : zM := mGo c n t mn (t + 1) (mLays false M)
def mOrd (c n t : Nat) (mn : Nat → Option Nat) (M : zM) : zM := mLays true (mOg c n t mn M)
theorem mOg_O {c n : Nat} (hc : c < 7) (hn : n ≤ 7) (t : Nat) (mn : Nat → Option Nat) (M : zM) : zKf mFrO M (mOg c n t mn M) := (mLays_O false M).tr ((mGo_K hc hn mn _).mono mFrB_O)
theorem mOrd_O {c n : Nat} (hc : c < 7) (hn : n ≤ 7) (t : Nat) (mn : Nat → Option Nat) (M : zM) : zKf mFrO M (mOrd c n t mn M) := (mOg_O hc hn t mn M).tr (mLays_O true _)
theorem zKfO.ln {M M1 : zM} (h : zKf mFrO M M1) {mn : Nat → Option Nat} (e : mLn 0 M mn) : mLn 0 M1 mn := fun s hs => ⟨(h.1 _ _ (by unfold mFrO; omega)).trans (e s hs).1, (e s hs).2⟩
theorem mOg_17 {c n : Nat} (hc : c < 7) (hn : n ≤ 7) (t : Nat) (mn : Nat → Option Nat) (M : zM) : (mOg c n t mn M).1 300 17 = nI c := ((mGo_C (k := t + 1) (t := t) (c := c) hc hn mn _).1 300 17 (fun q => q.2 ⟨rfl, Or.inl rfl⟩)).trans (mGa_17 _ hn)
set_option maxHeartbeats 1000000 in
theorem zc_orderOf (l : Launch) (G : zG) (M : zM) (n c t j : Nat) (mn : Nat → Option Nat) (hn : M.1 300 9 = nI n) (hn7 : n ≤ 7) (h0 : 1 ≤ n) (ht : M.1 300 10 = nI t) (ht2 : t ≤ 2) (htn : t + 1 ≤ n) (hmn : mLn 0 M mn) (hc7 : c < 7) (hj : j < 7) : zCk l G 6 2 12 yX11_orderOf cX11_orderOf 4 (Option.some Jvm.ClassFile.FieldType.int) [.ref (300 : Nat), .int (nI j), .int (nI c)] M (zP (some (.int (mDec (mOg c n t mn M) n c (t + 1) j))) (mOrd c n t mn M)) := by
  refine zCk_of (by decide) (Nat.le_of_ble_eq_true rfl) (fun X Q hQ hX hl hR hr => ?_)
  refine zV_loc (L' := [.ref (300 : Nat), .int (nI j), .int (nI c), .null]) rfl ?_
  have h9 := hn
  have h10 := ht
  have hln := hmn
  have hLf := mLays_O false M
  have hOg := mOg_O (c := c) (n := n) (by omega) hn7 t mn M
  have h17 := mOg_17 (c := c) (n := n) (by omega) hn7 t mn M
  refine zV_aload_n hX dX11_orderOf_0 rfl ?_
  refine zV_iconst hX (v := nI 0) dX11_orderOf_1 (by decide) ?_
  refine zV_topi (zb false) rfl ?_
  refine zK_cV1p hX hR hl dX11_orderOf_2 (zc_laysAll l G _ false) zt_X11_laysAll rfl zml_X11_406 zo300.1 ⟨by decide, by decide⟩ (Nat.le_of_ble_eq_true rfl) (c1 := 1) (s1 := 6) (by omega) (by omega) ?_
  dsimp only [Option.toList, List.cons_append, List.nil_append]
  refine zV_aload_n hX dX11_orderOf_5 rfl ?_
  refine zV_iload_n hX dX11_orderOf_6 rfl ?_
  refine zK_cV1p hX hR hl dX11_orderOf_7 (zCk.of (zc_goesBy l G (mLays false M) n c t mn (hLf.at h9 (by unfold mFrO; omega)) hn7 (hLf.at h10 (by unfold mFrO; omega)) ht2 (by omega) h0 htn (zKfO.ln hLf hln))) zt_X11_goesBy rfl zml_X11_365 zo300.1 ⟨by decide, by decide⟩ (Nat.le_of_ble_eq_true rfl) (by omega) ⟨rfl, rfl⟩ ?_
  dsimp only [Option.toList, List.cons_append, List.nil_append]
  refine zV_mem (show _ = mOg c n t mn M from rfl) ?_
  refine zV_aload_n hX dX11_orderOf_10 rfl ?_
  refine zV_iload_n hX dX11_orderOf_11 rfl ?_
  refine zV_aload_n hX dX11_orderOf_12 rfl ?_
  refine zV_geti hX dX11_orderOf_13 zf_X11_23 zo300.1 rfl (hOg.at h10 (by unfold mFrO; omega)) ?_
  refine zV_iconst hX (v := nI 1) dX11_orderOf_16 (by decide) ?_
  refine zV_iaddN hX dX11_orderOf_17 ?_
  refine zK_cV2p hX hR hl dX11_orderOf_18 (zCk.of (zc_mdecided l G _ n c (t + 1) j (hOg.at h9 (by unfold mFrO; omega)) hn7 h17 hc7 (by omega) (by omega))) zt_X11_decided rfl zml_X11_362 zo300.1 ⟨by decide, by decide⟩ (Nat.le_of_ble_eq_true rfl) (by omega) ⟨rfl, rfl⟩ ?_
  dsimp only [Option.toList, List.cons_append, List.nil_append]
  refine zV_istore_n hX dX11_orderOf_21 (by decide) ?_
  dsimp only [zst1, zst2, zclr, zc2]
  refine zV_aload_n hX dX11_orderOf_22 rfl ?_
  refine zV_iconst hX (v := nI 1) dX11_orderOf_23 (by decide) ?_
  refine zV_topi (zb true) rfl ?_
  refine zK_cV1p hX hR hl dX11_orderOf_24 (zc_laysAll l G _ true) zt_X11_laysAll rfl zml_X11_406 zo300.1 ⟨by decide, by decide⟩ (Nat.le_of_ble_eq_true rfl) (c1 := 2) (s1 := 12) (by omega) (by omega) ?_
  dsimp only [Option.toList, List.cons_append, List.nil_append]
  refine zV_iload_n hX dX11_orderOf_27 rfl ?_
  exact zK_reti hX (by omega) hQ hr (⟨rfl, rfl⟩) dX11_orderOf_28
set_option maxHeartbeats 1000000 in
theorem zc_morder (l : Launch) (G : zG) (M : zM) (n t j i : Nat) (mn : Nat → Option Nat) (hn : M.1 300 9 = nI n) (hn7 : n ≤ 7) (h0 : 1 ≤ n) (ht : M.1 300 10 = nI t) (ht2 : t ≤ 2) (htn : t + 1 ≤ n) (hmn : mLn 0 M mn) (hj : j < n) (hi : i < n) : zCk l G 7 2 12 yX11_order cX11_order 3 (Option.some Jvm.ClassFile.FieldType.int) [.ref (300 : Nat), .int (nI j), .int (nI i)] M (zP (some (.int (mDec (mOg i n t mn (m0 M)) n i (t + 1) j))) (mOrd i n t mn (m0 M))) := by
  refine zCk_of (by decide) (Nat.le_of_ble_eq_true rfl) (fun X Q hQ hX hl hR hr => ?_)
  refine zV_loc (L' := [.ref (300 : Nat), .int (nI j), .int (nI i)]) rfl ?_
  have hmn0 : mLn 0 (m0 M) mn := hmn
  refine zV_aload_n hX dX11_order_0 rfl ?_
  refine zV_iconst hX (v := nI 0) dX11_order_1 (by decide) ?_
  refine zV_puti hX dX11_order_2 zf_X11_149 zp_9_0 zo300.1 rfl ?_
  refine zV_aload_n hX dX11_order_5 rfl ?_
  refine zV_aload_n hX dX11_order_6 rfl ?_
  refine zV_iload_n hX dX11_order_7 rfl ?_
  refine zK_cV1p hX hR hl dX11_order_8 (zCk.of (zc_isMember l G _ n _ ((zw_ne (by omega)).trans hn) hn7 h0)) zt_X11_isMember rfl zml_X11_179 zo300.1 ⟨by decide, by decide⟩ (Nat.le_of_ble_eq_true rfl) (by omega) ⟨rfl, rfl⟩ ?_
  dsimp only [Option.toList, List.cons_append, List.nil_append]
  refine zV_topi (zb true) (by rw [zmem_nI (by omega) (by omega), decide_eq_true hj]) ?_
  refine zV_if_eqB hX (tgt := 22) dX11_order_11 (by decide) (fun c_11 => absurd c_11 (by decide)) (fun c_11 => ?_)
  refine zV_aload_n hX dX11_order_14 rfl ?_
  refine zV_iload_n hX dX11_order_15 rfl ?_
  refine zK_cV1p hX hR hl dX11_order_16 (zCk.of (zc_isMember l G _ n _ ((zw_ne (by omega)).trans hn) hn7 h0)) zt_X11_isMember rfl zml_X11_179 zo300.1 ⟨by decide, by decide⟩ (Nat.le_of_ble_eq_true rfl) (by omega) ⟨rfl, rfl⟩ ?_
  dsimp only [Option.toList, List.cons_append, List.nil_append]
  refine zV_topi (zb true) (by rw [zmem_nI (by omega) (by omega), decide_eq_true hi]) ?_
  refine zV_if_neB hX (tgt := 26) dX11_order_19 (by decide) (fun c_19 => ?_) (fun c_19 => absurd c_19 (by decide))
  refine zV_iconst hX (v := nI 0) dX11_order_26 (by decide) ?_
  refine zV_iconst hX (v := nI 1) dX11_order_27 (by decide) ?_
  refine zV_iconst hX (v := nI 0) dX11_order_28 (by decide) ?_
  refine zK_cV3p hX hR hl dX11_order_29 (zCk.of (zc_badF0 l G _ _ zw_same)) zt_X11_bad rfl zml_X11_166 zo300.1 ⟨by decide, by decide⟩ (Nat.le_of_ble_eq_true rfl) (by omega) ⟨rfl, rfl⟩ ?_
  dsimp only [Option.toList, List.cons_append, List.nil_append]
  refine zV_if_eqB hX (tgt := 37) dX11_order_32 (by decide) (fun c_32 => ?_) (fun c_32 => absurd c_32 (by decide))
  refine zV_aload_n hX dX11_order_37 rfl ?_
  refine zV_iload_n hX dX11_order_38 rfl ?_
  refine zV_iload_n hX dX11_order_39 rfl ?_
  refine zK_cV2p hX hR hl dX11_order_40 (zc_orderOf l G (m0 M) n i t j mn ((zw_ne (by omega)).trans hn) hn7 h0 ((zw_ne (by omega)).trans ht) ht2 htn hmn0 (by omega) (by omega)) zt_X11_orderOf rfl zml_X11_410 zo300.1 ⟨by decide, by decide⟩ (Nat.le_of_ble_eq_true rfl) (c1 := 2) (s1 := 12) (by omega) (by omega) ?_
  dsimp only [Option.toList, List.cons_append, List.nil_append]
  exact zK_reti hX (by omega) hQ hr (⟨rfl, rfl⟩) dX11_order_43
set_option maxHeartbeats 1000000 in
theorem zc_morderX (l : Launch) (G : zG) (M : zM) (n : Nat) (x z : Int32) (hn : M.1 300 9 = nI n) (hn7 : n ≤ 7) (h0 : 1 ≤ n) (hx : zmem x n = false) : zCk l G 7 2 12 yX11_order cX11_order 3 (Option.some Jvm.ClassFile.FieldType.int) [.ref (300 : Nat), .int x, .int z] M (zP (some (.int (nI 0))) (mTw (nI 1) (nI 0) M)) := by
  refine zCk_of (by decide) (Nat.le_of_ble_eq_true rfl) (fun X Q hQ hX hl hR hr => ?_)
  refine zV_loc (L' := [.ref (300 : Nat), .int x, .int z]) rfl ?_
  refine zV_aload_n hX dX11_order_0 rfl ?_
  refine zV_iconst hX (v := nI 0) dX11_order_1 (by decide) ?_
  refine zV_puti hX dX11_order_2 zf_X11_149 zp_9_0 zo300.1 rfl ?_
  refine zV_aload_n hX dX11_order_5 rfl ?_
  refine zV_aload_n hX dX11_order_6 rfl ?_
  refine zV_iload_n hX dX11_order_7 rfl ?_
  refine zK_cV1p hX hR hl dX11_order_8 (zCk.of (zc_isMember l G _ n _ ((zw_ne (by omega)).trans hn) hn7 h0)) zt_X11_isMember rfl zml_X11_179 zo300.1 ⟨by decide, by decide⟩ (Nat.le_of_ble_eq_true rfl) (by omega) ⟨rfl, rfl⟩ ?_
  dsimp only [Option.toList, List.cons_append, List.nil_append]
  refine zV_topi (zb false) (by rw [hx]) ?_
  refine zV_if_eqB hX (tgt := 22) dX11_order_11 (by decide) (fun c_11 => ?_) (fun c_11 => absurd c_11 (by decide))
  refine zV_iconst hX (v := nI 1) dX11_order_22 (by decide) ?_
  refine zV_goto hX (tgt := 27) dX11_order_23 (by decide) ?_
  refine zV_iconst hX (v := nI 1) dX11_order_27 (by decide) ?_
  refine zV_iconst hX (v := nI 0) dX11_order_28 (by decide) ?_
  refine zK_cV3p hX hR hl dX11_order_29 (zCk.of (zc_badT0 l G _ _ zw_same (by decide))) zt_X11_bad rfl zml_X11_166 zo300.1 ⟨by decide, by decide⟩ (Nat.le_of_ble_eq_true rfl) (by omega) ⟨rfl, rfl⟩ ?_
  dsimp only [Option.toList, List.cons_append, List.nil_append]
  refine zV_if_eqB hX (tgt := 37) dX11_order_32 (by decide) (fun c_32 => absurd c_32 (by decide)) (fun c_32 => ?_)
  refine zV_iconst hX (v := nI 0) dX11_order_35 (by decide) ?_
  exact zK_reti hX (by omega) hQ hr (⟨rfl, rfl⟩) dX11_order_36
set_option maxHeartbeats 1000000 in
theorem zc_morderZ (l : Launch) (G : zG) (M : zM) (n j : Nat) (z : Int32) (hn : M.1 300 9 = nI n) (hn7 : n ≤ 7) (h0 : 1 ≤ n) (hj : j < n) (hx : zmem z n = false) : zCk l G 7 2 12 yX11_order cX11_order 3 (Option.some Jvm.ClassFile.FieldType.int) [.ref (300 : Nat), .int (nI j), .int z] M (zP (some (.int (nI 0))) (mTw (nI 1) (nI 0) M)) := by
  refine zCk_of (by decide) (Nat.le_of_ble_eq_true rfl) (fun X Q hQ hX hl hR hr => ?_)
  refine zV_loc (L' := [.ref (300 : Nat), .int (nI j), .int z]) rfl ?_
  refine zV_aload_n hX dX11_order_0 rfl ?_
  refine zV_iconst hX (v := nI 0) dX11_order_1 (by decide) ?_
  refine zV_puti hX dX11_order_2 zf_X11_149 zp_9_0 zo300.1 rfl ?_
  refine zV_aload_n hX dX11_order_5 rfl ?_
  refine zV_aload_n hX dX11_order_6 rfl ?_
  refine zV_iload_n hX dX11_order_7 rfl ?_
  refine zK_cV1p hX hR hl dX11_order_8 (zCk.of (zc_isMember l G _ n _ ((zw_ne (by omega)).trans hn) hn7 h0)) zt_X11_isMember rfl zml_X11_179 zo300.1 ⟨by decide, by decide⟩ (Nat.le_of_ble_eq_true rfl) (by omega) ⟨rfl, rfl⟩ ?_
  dsimp only [Option.toList, List.cons_append, List.nil_append]
  refine zV_topi (zb true) (by rw [zmem_nI (by omega) (by omega), decide_eq_true hj]) ?_
  refine zV_if_eqB hX (tgt := 22) dX11_order_11 (by decide) (fun c_11 => absurd c_11 (by decide)) (fun c_11 => ?_)
  refine zV_aload_n hX dX11_order_14 rfl ?_
  refine zV_iload_n hX dX11_order_15 rfl ?_
  refine zK_cV1p hX hR hl dX11_order_16 (zCk.of (zc_isMember l G _ n _ ((zw_ne (by omega)).trans hn) hn7 h0)) zt_X11_isMember rfl zml_X11_179 zo300.1 ⟨by decide, by decide⟩ (Nat.le_of_ble_eq_true rfl) (by omega) ⟨rfl, rfl⟩ ?_
  dsimp only [Option.toList, List.cons_append, List.nil_append]
  refine zV_topi (zb false) (by rw [hx]) ?_
  refine zV_if_neB hX (tgt := 26) dX11_order_19 (by decide) (fun c_19 => absurd c_19 (by decide)) (fun c_19 => ?_)
  refine zV_iconst hX (v := nI 1) dX11_order_22 (by decide) ?_
  refine zV_goto hX (tgt := 27) dX11_order_23 (by decide) ?_
  refine zV_iconst hX (v := nI 1) dX11_order_27 (by decide) ?_
  refine zV_iconst hX (v := nI 0) dX11_order_28 (by decide) ?_
  refine zK_cV3p hX hR hl dX11_order_29 (zCk.of (zc_badT0 l G _ _ zw_same (by decide))) zt_X11_bad rfl zml_X11_166 zo300.1 ⟨by decide, by decide⟩ (Nat.le_of_ble_eq_true rfl) (by omega) ⟨rfl, rfl⟩ ?_
  dsimp only [Option.toList, List.cons_append, List.nil_append]
  refine zV_if_eqB hX (tgt := 37) dX11_order_32 (by decide) (fun c_32 => absurd c_32 (by decide)) (fun c_32 => ?_)
  refine zV_iconst hX (v := nI 0) dX11_order_35 (by decide) ?_
  exact zK_reti hX (by omega) hQ hr (⟨rfl, rfl⟩) dX11_order_36
def mMs (n t j : Nat) (mn : Nat → Option Nat) (k : Nat) (M : zM) : zM := zfor (fun c M => zw (mOrd c n t mn M) 331 c (mDec (mOg c n t mn M) n c (t + 1) j)) k M
theorem mMs_s {n t j k : Nat} {mn : Nat → Option Nat} {M : zM} : mMs n t j mn (k + 1) M = zw (mOrd k n t mn (mMs n t j mn k M)) 331 k (mDec (mOg k n t mn (mMs n t j mn k M)) n k (t + 1) j) := by
  unfold mMs
  exact zfor_s _ _ _
def mFrP (a j : Nat) : Prop := mFrO a j ∨ a = 331
theorem mMs_P (n t j : Nat) (mn : Nat → Option Nat) (k : Nat) (hk : k ≤ n) (hn : n ≤ 7) (M : zM) : zKf mFrP M (mMs n t j mn k M) := zKf.for k M (fun c M hc => ((mOrd_O (by omega) hn t mn M).mono (fun _ _ h => Or.inl h)).w (Or.inr rfl))
theorem zKfP.ln {M M1 : zM} (h : zKf mFrP M M1) {mn : Nat → Option Nat} (e : mLn 0 M mn) : mLn 0 M1 mn := fun s hs => ⟨(h.1 _ _ (by unfold mFrP mFrO; omega)).trans (e s hs).1, (e s hs).2⟩
def mSam (R : zM) (n c : Nat) : Nat := zcnt (fun e => decide (R.1 331 e = R.1 331 c)) n
def mMo (R : zM) (n : Nat) : Nat → Int32 × Nat
  | 0 => (nI 0, 0)
  | i + 1 => if (mMo R n i).2 < mSam R n i then (R.1 331 i, mSam R n i) else mMo R n i
theorem mMo_lt (R : zM) (n : Nat) (hn : n ≤ 7) : ∀ i, (mMo R n i).2 ≤ 7
  | 0 => Nat.zero_le _
  | i + 1 => by
    unfold mMo
    split
    · exact Nat.le_trans (zcnt_le _ _) hn
    · exact mMo_lt R n hn i
set_option maxHeartbeats 1000000 in
theorem zc_mmost (l : Launch) (G : zG) (M : zM) (n t j k : Nat) (mn : Nat → Option Nat) (hn : M.1 300 9 = nI n) (hn7 : n ≤ 7) (h0 : 1 ≤ n) (ht : M.1 300 10 = nI t) (ht2 : t ≤ 2) (htn : t + 1 ≤ n) (hmn : mLn 0 M mn) (hj : j < n) (hk : k < 2) : zCk l G 7 14 84 yX11_most cX11_most 8 (Option.some Jvm.ClassFile.FieldType.int) [.ref (300 : Nat), .int (nI j), .int (nI k)] M (zP (some (.int (if k = 0 then (mMo (mMs n t j mn n (m0 M)) n n).1 else nI (mMo (mMs n t j mn n (m0 M)) n n).2))) ((mMs n t j mn n (m0 M)))) := by
  refine zCk_of (by decide) (Nat.le_of_ble_eq_true rfl) (fun X Q hQ hX hl hR hr => ?_)
  refine zV_loc (L' := [.ref (300 : Nat), .int (nI j), .int (nI k), .null, .null, .null, .null, .null]) rfl ?_
  have hmn0 : mLn 0 (m0 M) mn := hmn
  obtain ⟨R, hRR⟩ : ∃ R, R = (mMs n t j mn n (m0 M)) := ⟨_, rfl⟩
  have hR9 : R.1 300 9 = nI n := by rw [hRR]; exact (mMs_P n t j mn n (Nat.le_refl _) hn7 (m0 M)).at ((zw_ne (by omega)).trans hn) (by unfold mFrP mFrO; omega)
  have L88 : ∀ (f9 i : Nat), n - i < f9 → i ≤ n → ∀ x6 x7 : Value, zV G X Q 8 (2 * n) (12 * n) 88 [.ref (300 : Nat), .int (nI j), .int (nI k), .int (mMo R n i).1, .int (nI (mMo R n i).2), .int (nI i), x6, x7] [] R := by
    intro f9
    induction f9 with
    | zero => intro i hi1 hi2 x6 x7; exact absurd hi1 (Nat.not_lt_zero _)
    | succ f9 ih =>
      intro i hi1 hi2 x6 x7
      have hq7 := mMo_lt R n hn7 i
      have L103 : ∀ (f9 e : Nat), n - e < f9 → e ≤ n → i < n → zV G X Q 8 (2 * n) (12 * n) 103 [.ref (300 : Nat), .int (nI j), .int (nI k), .int (mMo R n i).1, .int (nI (mMo R n i).2), .int (nI i), .int (nI (zcnt (fun e => decide (R.1 331 e = R.1 331 i)) e)), .int (nI e)] [] R := by
        intro f9
        induction f9 with
        | zero => intro e he1 he2 hin; exact absurd he1 (Nat.not_lt_zero _)
        | succ f9 ih2 =>
          intro e he1 he2 hin
          have hz7 := zcnt_le (fun e => decide (R.1 331 e = R.1 331 i)) e
          refine zV_iload hX dX11_most_103 rfl ?_
          refine zV_aload_n hX dX11_most_105 rfl ?_
          refine zV_geti hX dX11_most_106 zf_X11_20 zo300.1 rfl (hR9) ?_
          refine zV_icmp_geN hX (tgt := 145) dX11_most_109 (by decide) ⟨by omega, by omega⟩ (fun c_109 => ?_) (fun c_109 => ?_)
          · rw [show e = n by omega]
            have hz8 := zcnt_le (fun e => decide (R.1 331 e = R.1 331 i)) n
            refine zV_iload hX dX11_most_145 rfl ?_
            refine zV_iload hX dX11_most_147 rfl ?_
            refine zV_icmp_gtN hX (tgt := 155) dX11_most_149 (by decide) ⟨by omega, by omega⟩ (fun c_149 => ?_) (fun c_149 => ?_)
            · refine zV_aload_n hX dX11_most_155 rfl ?_
              refine zV_geta hX dX11_most_156 zf_X11_62 zo300.1 rfl ?_
              refine zV_iload hX dX11_most_159 rfl ?_
              refine zV_iald hX dX11_most_161 (zo300.a 30 rfl) (rfl) ⟨by omega, by omega⟩ (rfl) ?_
              refine zV_istore_n hX dX11_most_162 (by decide) ?_
              dsimp only [zst1, zst2, zclr, zc2]
              refine zV_iload hX dX11_most_163 rfl ?_
              refine zV_istore hX dX11_most_165 (by decide) ?_
              dsimp only [zst1, zst2, zclr, zc2]
              refine zV_iincN hX (b := 1) dX11_most_167 rfl (by decide) ?_
              dsimp only [zst1, zst2, zclr, zc2]
              refine zV_goto hX (tgt := 88) dX11_most_170 (by decide) ?_
              have h8 := ih (i + 1) (by omega) (by omega)
              first | (rw [show mMo R n (i + 1) = mMo R n i from if_neg (by unfold mSam; omega)] at h8; exact h8 _ _) | (rw [show mMo R n (i + 1) = (R.1 331 i, mSam R n i) from if_pos (by unfold mSam; omega)] at h8; exact h8 _ _)
            · refine zV_goto hX (tgt := 167) dX11_most_152 (by decide) ?_
              refine zV_iincN hX (b := 1) dX11_most_167 rfl (by decide) ?_
              dsimp only [zst1, zst2, zclr, zc2]
              refine zV_goto hX (tgt := 88) dX11_most_170 (by decide) ?_
              have h8 := ih (i + 1) (by omega) (by omega)
              first | (rw [show mMo R n (i + 1) = mMo R n i from if_neg (by unfold mSam; omega)] at h8; exact h8 _ _) | (rw [show mMo R n (i + 1) = (R.1 331 i, mSam R n i) from if_pos (by unfold mSam; omega)] at h8; exact h8 _ _)
          · refine zV_iload hX dX11_most_112 rfl ?_
            refine zV_aload_n hX dX11_most_114 rfl ?_
            refine zV_geta hX dX11_most_115 zf_X11_62 zo300.1 rfl ?_
            refine zV_iload hX dX11_most_118 rfl ?_
            refine zV_iald hX dX11_most_120 (zo300.a 30 rfl) (rfl) ⟨by omega, by omega⟩ (rfl) ?_
            refine zV_aload_n hX dX11_most_121 rfl ?_
            refine zV_geta hX dX11_most_122 zf_X11_62 zo300.1 rfl ?_
            refine zV_iload hX dX11_most_125 rfl ?_
            refine zV_iald hX dX11_most_127 (zo300.a 30 rfl) (rfl) ⟨by omega, by omega⟩ (rfl) ?_
            refine zV_icmp_ne hX (tgt := 135) dX11_most_128 (by decide) (fun c_128 => ?_) (fun c_128 => ?_)
            · refine zV_iconst hX (v := nI 0) dX11_most_135 (by decide) ?_
              refine zV_iaddN hX dX11_most_136 ?_
              refine zV_istore hX dX11_most_137 (by decide) ?_
              dsimp only [zst1, zst2, zclr, zc2]
              refine zV_iincN hX (b := 1) dX11_most_139 rfl (by decide) ?_
              dsimp only [zst1, zst2, zclr, zc2]
              refine zV_goto hX (tgt := 103) dX11_most_142 (by decide) ?_
              first | (rw [show zcnt (fun e => decide (R.1 331 e = R.1 331 i)) e + 1 = zcnt (fun e => decide (R.1 331 e = R.1 331 i)) (e + 1) from (zcnt_t (decide_eq_true (by assumption))).symm]; exact ih2 (e + 1) (by omega) (by omega) hin) | (rw [show zcnt (fun e => decide (R.1 331 e = R.1 331 i)) e + 0 = zcnt (fun e => decide (R.1 331 e = R.1 331 i)) (e + 1) from (zcnt_f (decide_eq_false (by assumption))).symm]; exact ih2 (e + 1) (by omega) (by omega) hin)
            · refine zV_iconst hX (v := nI 1) dX11_most_131 (by decide) ?_
              refine zV_goto hX (tgt := 136) dX11_most_132 (by decide) ?_
              refine zV_iaddN hX dX11_most_136 ?_
              refine zV_istore hX dX11_most_137 (by decide) ?_
              dsimp only [zst1, zst2, zclr, zc2]
              refine zV_iincN hX (b := 1) dX11_most_139 rfl (by decide) ?_
              dsimp only [zst1, zst2, zclr, zc2]
              refine zV_goto hX (tgt := 103) dX11_most_142 (by decide) ?_
              first | (rw [show zcnt (fun e => decide (R.1 331 e = R.1 331 i)) e + 1 = zcnt (fun e => decide (R.1 331 e = R.1 331 i)) (e + 1) from (zcnt_t (decide_eq_true (by assumption))).symm]; exact ih2 (e + 1) (by omega) (by omega) hin) | (rw [show zcnt (fun e => decide (R.1 331 e = R.1 331 i)) e + 0 = zcnt (fun e => decide (R.1 331 e = R.1 331 i)) (e + 1) from (zcnt_f (decide_eq_false (by assumption))).symm]; exact ih2 (e + 1) (by omega) (by omega) hin)
      refine zV_iload hX dX11_most_88 rfl ?_
      refine zV_aload_n hX dX11_most_90 rfl ?_
      refine zV_geti hX dX11_most_91 zf_X11_20 zo300.1 rfl (hR9) ?_
      refine zV_icmp_geN hX (tgt := 173) dX11_most_94 (by decide) ⟨by omega, by omega⟩ (fun c_94 => ?_) (fun c_94 => ?_)
      · rw [show i = n by omega]
        refine zV_iload_n hX dX11_most_173 rfl ?_
        refine zV_if_neN hX (tgt := 181) dX11_most_174 (by decide) (by omega) (fun c_174 => ?_) (fun c_174 => ?_)
        · refine zV_iload hX dX11_most_181 rfl ?_
          exact zK_reti hX (by omega) hQ hr (⟨by rw [← hRR]; first | (rw [if_pos c_174]; done) | (rw [if_neg (by omega)]; done), hRR⟩) dX11_most_183
        · refine zV_iload_n hX dX11_most_177 rfl ?_
          refine zV_goto hX (tgt := 183) dX11_most_178 (by decide) ?_
          exact zK_reti hX (by omega) hQ hr (⟨by rw [← hRR]; first | (rw [if_pos c_174]; done) | (rw [if_neg (by omega)]; done), hRR⟩) dX11_most_183
      · refine zV_iconst hX (v := nI 0) dX11_most_97 (by decide) ?_
        refine zV_istore hX dX11_most_98 (by decide) ?_
        dsimp only [zst1, zst2, zclr, zc2]
        refine zV_iconst hX (v := nI 0) dX11_most_100 (by decide) ?_
        refine zV_istore hX dX11_most_101 (by decide) ?_
        dsimp only [zst1, zst2, zclr, zc2]
        exact L103 (n + 1) 0 (by omega) (by omega) c_94
  have L54 : ∀ (f9 i : Nat), n - i < f9 → i ≤ n → zV G X Q 8 (2 * i) (12 * i) 54 [.ref (300 : Nat), .int (nI j), .int (nI k), .int (nI i), .null, .null, .null, .null] [] (mMs n t j mn i (m0 M)) := by
    intro f9
    induction f9 with
    | zero => intro i hi1 hi2; exact absurd hi1 (Nat.not_lt_zero _)
    | succ f9 ih =>
      intro i hi1 hi2
      have hF := mMs_P n t j mn i hi2 hn7 (m0 M)
      have h9 := hF.at ((zw_ne (by omega)).trans hn) (by unfold mFrP mFrO; omega)
      have h10 := hF.at ((zw_ne (by omega)).trans ht) (by unfold mFrP mFrO; omega)
      have hln := zKfP.ln hF hmn0
      refine zV_iload_n hX dX11_most_54 rfl ?_
      refine zV_aload_n hX dX11_most_55 rfl ?_
      refine zV_geti hX dX11_most_56 zf_X11_20 zo300.1 rfl (h9) ?_
      refine zV_icmp_geN hX (tgt := 80) dX11_most_59 (by decide) ⟨by omega, by omega⟩ (fun c_59 => ?_) (fun c_59 => ?_)
      · refine zV_cs (c1 := 2 * n) (s1 := 12 * n) (by omega) (by omega) ?_
        refine zV_mem (show _ = R from by rw [show i = n by omega]; exact hRR.symm) ?_
        refine zV_iconst hX (v := nI 0) dX11_most_80 (by decide) ?_
        refine zV_istore_n hX dX11_most_81 (by decide) ?_
        dsimp only [zst1, zst2, zclr, zc2]
        refine zV_iconst hX (v := nI 0) dX11_most_82 (by decide) ?_
        refine zV_istore hX dX11_most_83 (by decide) ?_
        dsimp only [zst1, zst2, zclr, zc2]
        refine zV_iconst hX (v := nI 0) dX11_most_85 (by decide) ?_
        refine zV_istore hX dX11_most_86 (by decide) ?_
        dsimp only [zst1, zst2, zclr, zc2]
        exact L88 (n + 1) 0 (by omega) (by omega) _ _
      · refine zV_aload_n hX dX11_most_62 rfl ?_
        refine zV_geta hX dX11_most_63 zf_X11_62 zo300.1 rfl ?_
        refine zV_iload_n hX dX11_most_66 rfl ?_
        refine zV_aload_n hX dX11_most_67 rfl ?_
        refine zV_iload_n hX dX11_most_68 rfl ?_
        refine zV_iload_n hX dX11_most_69 rfl ?_
        refine zK_cV2p hX hR hl dX11_most_70 (zc_orderOf l G _ n i t j mn h9 hn7 h0 h10 ht2 htn hln (by omega) (by omega)) zt_X11_orderOf rfl zml_X11_410 zo300.1 ⟨by decide, by decide⟩ (Nat.le_of_ble_eq_true rfl) (c1 := 2 * (i + 1)) (s1 := 12 * (i + 1)) (by omega) (by omega) ?_
        dsimp only [Option.toList, List.cons_append, List.nil_append]
        refine zV_iast hX dX11_most_73 (zo300.a 30 rfl) (rfl) ⟨by omega, by omega⟩ ?_
        refine zV_iincN hX (b := 1) dX11_most_74 rfl (by decide) ?_
        dsimp only [zst1, zst2, zclr, zc2]
        refine zV_goto hX (tgt := 54) dX11_most_77 (by decide) ?_
        refine zV_mem (mMs_s (k := i)).symm ?_
        exact ih (i + 1) (by omega) (by omega)
  refine zV_aload_n hX dX11_most_0 rfl ?_
  refine zV_iconst hX (v := nI 0) dX11_most_1 (by decide) ?_
  refine zV_puti hX dX11_most_2 zf_X11_149 zp_9_0 zo300.1 rfl ?_
  refine zV_aload_n hX dX11_most_5 rfl ?_
  refine zV_aload_n hX dX11_most_6 rfl ?_
  refine zV_iload_n hX dX11_most_7 rfl ?_
  refine zK_cV1p hX hR hl dX11_most_8 (zCk.of (zc_isMember l G _ n _ ((zw_ne (by omega)).trans hn) hn7 h0)) zt_X11_isMember rfl zml_X11_179 zo300.1 ⟨by decide, by decide⟩ (Nat.le_of_ble_eq_true rfl) (by omega) ⟨rfl, rfl⟩ ?_
  dsimp only [Option.toList, List.cons_append, List.nil_append]
  refine zV_topi (zb true) (by rw [zmem_nI (by omega) (by omega), decide_eq_true hj]) ?_
  refine zV_if_neB hX (tgt := 18) dX11_most_11 (by decide) (fun c_11 => ?_) (fun c_11 => absurd c_11 (by decide))
  refine zV_iconst hX (v := nI 0) dX11_most_18 (by decide) ?_
  refine zV_iconst hX (v := nI 1) dX11_most_19 (by decide) ?_
  refine zV_iconst hX (v := nI 0) dX11_most_20 (by decide) ?_
  refine zK_cV3p hX hR hl dX11_most_21 (zCk.of (zc_badF0 l G _ _ zw_same)) zt_X11_bad rfl zml_X11_166 zo300.1 ⟨by decide, by decide⟩ (Nat.le_of_ble_eq_true rfl) (by omega) ⟨rfl, rfl⟩ ?_
  dsimp only [Option.toList, List.cons_append, List.nil_append]
  refine zV_if_neB hX (tgt := 50) dX11_most_24 (by decide) (fun c_24 => absurd c_24 (by decide)) (fun c_24 => ?_)
  refine zV_aload_n hX dX11_most_27 rfl ?_
  refine zV_iload_n hX dX11_most_28 rfl ?_
  refine zV_iconst hX (v := nI 0) dX11_most_29 (by decide) ?_
  refine zV_iconst hX (v := nI 1) dX11_most_30 (by decide) ?_
  refine zK_cS3p hX hR hl dX11_most_31 (zCk.of (zc_min l G _ _ _ _)) zt_X11_in rfl zml_X11_162 (by decide) (Nat.le_of_ble_eq_true rfl) (by omega) ⟨rfl, rfl⟩ ?_
  dsimp only [Option.toList, List.cons_append, List.nil_append]
  refine zV_topi (zb true) (by rw [mIn_nI (by omega) (by omega) (by omega), decide_eq_false (by omega), Bool.not_false]) ?_
  refine zV_if_neB hX (tgt := 41) dX11_most_34 (by decide) (fun c_34 => ?_) (fun c_34 => absurd c_34 (by decide))
  refine zV_iconst hX (v := nI 0) dX11_most_41 (by decide) ?_
  refine zV_iconst hX (v := nI 2) dX11_most_42 (by decide) ?_
  refine zV_iconst hX (v := nI 1) dX11_most_43 (by decide) ?_
  refine zK_cV3p hX hR hl dX11_most_44 (zCk.of (zc_badF1 l G _ _ zw_same)) zt_X11_bad rfl zml_X11_166 zo300.1 ⟨by decide, by decide⟩ (Nat.le_of_ble_eq_true rfl) (by omega) ⟨rfl, rfl⟩ ?_
  dsimp only [Option.toList, List.cons_append, List.nil_append]
  refine zV_if_eqB hX (tgt := 52) dX11_most_47 (by decide) (fun c_47 => ?_) (fun c_47 => absurd c_47 (by decide))
  refine zV_iconst hX (v := nI 0) dX11_most_52 (by decide) ?_
  refine zV_istore_n hX dX11_most_53 (by decide) ?_
  dsimp only [zst1, zst2, zclr, zc2]
  refine zV_cs (c1 := 2 * 0) (s1 := 12 * 0) rfl rfl ?_
  exact L54 (n + 1) 0 (by omega) (by omega)
set_option maxHeartbeats 1000000 in
theorem zc_mmostX (l : Launch) (G : zG) (M : zM) (n : Nat) (x k : Int32) (hn : M.1 300 9 = nI n) (hn7 : n ≤ 7) (h0 : 1 ≤ n) (hx : zmem x n = false) : zCk l G 7 14 84 yX11_most cX11_most 8 (Option.some Jvm.ClassFile.FieldType.int) [.ref (300 : Nat), .int x, .int k] M (zP (some (.int (nI 0))) (mTw (nI 1) (nI 0) M)) := by
  refine zCk_of (by decide) (Nat.le_of_ble_eq_true rfl) (fun X Q hQ hX hl hR hr => ?_)
  refine zV_loc (L' := [.ref (300 : Nat), .int x, .int k, .null, .null, .null, .null, .null]) rfl ?_
  refine zV_aload_n hX dX11_most_0 rfl ?_
  refine zV_iconst hX (v := nI 0) dX11_most_1 (by decide) ?_
  refine zV_puti hX dX11_most_2 zf_X11_149 zp_9_0 zo300.1 rfl ?_
  refine zV_aload_n hX dX11_most_5 rfl ?_
  refine zV_aload_n hX dX11_most_6 rfl ?_
  refine zV_iload_n hX dX11_most_7 rfl ?_
  refine zK_cV1p hX hR hl dX11_most_8 (zCk.of (zc_isMember l G _ n _ ((zw_ne (by omega)).trans hn) hn7 h0)) zt_X11_isMember rfl zml_X11_179 zo300.1 ⟨by decide, by decide⟩ (Nat.le_of_ble_eq_true rfl) (by omega) ⟨rfl, rfl⟩ ?_
  dsimp only [Option.toList, List.cons_append, List.nil_append]
  refine zV_topi (zb false) (by rw [hx]) ?_
  refine zV_if_neB hX (tgt := 18) dX11_most_11 (by decide) (fun c_11 => absurd c_11 (by decide)) (fun c_11 => ?_)
  refine zV_iconst hX (v := nI 1) dX11_most_14 (by decide) ?_
  refine zV_goto hX (tgt := 19) dX11_most_15 (by decide) ?_
  refine zV_iconst hX (v := nI 1) dX11_most_19 (by decide) ?_
  refine zV_iconst hX (v := nI 0) dX11_most_20 (by decide) ?_
  refine zK_cV3p hX hR hl dX11_most_21 (zCk.of (zc_badT0 l G _ _ zw_same (by decide))) zt_X11_bad rfl zml_X11_166 zo300.1 ⟨by decide, by decide⟩ (Nat.le_of_ble_eq_true rfl) (by omega) ⟨rfl, rfl⟩ ?_
  dsimp only [Option.toList, List.cons_append, List.nil_append]
  refine zV_if_neB hX (tgt := 50) dX11_most_24 (by decide) (fun c_24 => ?_) (fun c_24 => absurd c_24 (by decide))
  refine zV_iconst hX (v := nI 0) dX11_most_50 (by decide) ?_
  exact zK_reti hX (by omega) hQ hr (⟨rfl, rfl⟩) dX11_most_51
set_option maxHeartbeats 1000000 in
theorem zc_mmostK (l : Launch) (G : zG) (M : zM) (n j : Nat) (k : Int32) (hn : M.1 300 9 = nI n) (hn7 : n ≤ 7) (h0 : 1 ≤ n) (hj : j < n) (hk : mIn k (nI 0) (nI 1) = false) : zCk l G 7 14 84 yX11_most cX11_most 8 (Option.some Jvm.ClassFile.FieldType.int) [.ref (300 : Nat), .int (nI j), .int k] M (zP (some (.int (nI 0))) (mTw (nI 2) (nI 1) M)) := by
  refine zCk_of (by decide) (Nat.le_of_ble_eq_true rfl) (fun X Q hQ hX hl hR hr => ?_)
  refine zV_loc (L' := [.ref (300 : Nat), .int (nI j), .int k, .null, .null, .null, .null, .null]) rfl ?_
  refine zV_aload_n hX dX11_most_0 rfl ?_
  refine zV_iconst hX (v := nI 0) dX11_most_1 (by decide) ?_
  refine zV_puti hX dX11_most_2 zf_X11_149 zp_9_0 zo300.1 rfl ?_
  refine zV_aload_n hX dX11_most_5 rfl ?_
  refine zV_aload_n hX dX11_most_6 rfl ?_
  refine zV_iload_n hX dX11_most_7 rfl ?_
  refine zK_cV1p hX hR hl dX11_most_8 (zCk.of (zc_isMember l G _ n _ ((zw_ne (by omega)).trans hn) hn7 h0)) zt_X11_isMember rfl zml_X11_179 zo300.1 ⟨by decide, by decide⟩ (Nat.le_of_ble_eq_true rfl) (by omega) ⟨rfl, rfl⟩ ?_
  dsimp only [Option.toList, List.cons_append, List.nil_append]
  refine zV_topi (zb true) (by rw [zmem_nI (by omega) (by omega), decide_eq_true hj]) ?_
  refine zV_if_neB hX (tgt := 18) dX11_most_11 (by decide) (fun c_11 => ?_) (fun c_11 => absurd c_11 (by decide))
  refine zV_iconst hX (v := nI 0) dX11_most_18 (by decide) ?_
  refine zV_iconst hX (v := nI 1) dX11_most_19 (by decide) ?_
  refine zV_iconst hX (v := nI 0) dX11_most_20 (by decide) ?_
  refine zK_cV3p hX hR hl dX11_most_21 (zCk.of (zc_badF0 l G _ _ zw_same)) zt_X11_bad rfl zml_X11_166 zo300.1 ⟨by decide, by decide⟩ (Nat.le_of_ble_eq_true rfl) (by omega) ⟨rfl, rfl⟩ ?_
  dsimp only [Option.toList, List.cons_append, List.nil_append]
  refine zV_if_neB hX (tgt := 50) dX11_most_24 (by decide) (fun c_24 => absurd c_24 (by decide)) (fun c_24 => ?_)
  refine zV_aload_n hX dX11_most_27 rfl ?_
  refine zV_iload_n hX dX11_most_28 rfl ?_
  refine zV_iconst hX (v := nI 0) dX11_most_29 (by decide) ?_
  refine zV_iconst hX (v := nI 1) dX11_most_30 (by decide) ?_
  refine zK_cS3p hX hR hl dX11_most_31 (zCk.of (zc_min l G _ _ _ _)) zt_X11_in rfl zml_X11_162 (by decide) (Nat.le_of_ble_eq_true rfl) (by omega) ⟨rfl, rfl⟩ ?_
  dsimp only [Option.toList, List.cons_append, List.nil_append]
  refine zV_topi (zb false) (by rw [hk]) ?_
  refine zV_if_neB hX (tgt := 41) dX11_most_34 (by decide) (fun c_34 => absurd c_34 (by decide)) (fun c_34 => ?_)
  refine zV_iconst hX (v := nI 1) dX11_most_37 (by decide) ?_
  refine zV_goto hX (tgt := 42) dX11_most_38 (by decide) ?_
  refine zV_iconst hX (v := nI 2) dX11_most_42 (by decide) ?_
  refine zV_iconst hX (v := nI 1) dX11_most_43 (by decide) ?_
  refine zK_cV3p hX hR hl dX11_most_44 (zCk.of (zc_badT1 l G _ _ zw_same (by decide))) zt_X11_bad rfl zml_X11_166 zo300.1 ⟨by decide, by decide⟩ (Nat.le_of_ble_eq_true rfl) (by omega) ⟨rfl, rfl⟩ ?_
  dsimp only [Option.toList, List.cons_append, List.nil_append]
  refine zV_if_eqB hX (tgt := 52) dX11_most_47 (by decide) (fun c_47 => absurd c_47 (by decide)) (fun c_47 => ?_)
  refine zV_iconst hX (v := nI 0) dX11_most_50 (by decide) ?_
  exact zK_reti hX (by omega) hQ hr (⟨rfl, rfl⟩) dX11_most_51
def mAg (n t : Nat) (mn : Nat → Option Nat) (k : Nat) (M : zM) : zM := zfor (fun c M => mOrd c n t mn M) k M
def mAgC (n t : Nat) (mn : Nat → Option Nat) (M : zM) : Nat → Nat := zcnt (fun c => mAgr (mOg c n t mn (mAg n t mn c M)) n c t)
theorem mAgC_t {n t i : Nat} {mn : Nat → Option Nat} {M : zM} (h : mAgr (mOg i n t mn (mAg n t mn i M)) n i t = true) : mAgC n t mn M i + 1 = mAgC n t mn M (i + 1) := (zcnt_t (p := fun c => mAgr (mOg c n t mn (mAg n t mn c M)) n c t) h).symm
theorem mAgC_f {n t i : Nat} {mn : Nat → Option Nat} {M : zM} (h : mAgr (mOg i n t mn (mAg n t mn i M)) n i t = false) : mAgC n t mn M i + 0 = mAgC n t mn M (i + 1) := (zcnt_f (p := fun c => mAgr (mOg c n t mn (mAg n t mn c M)) n c t) h).symm
theorem mAg_s {n t k : Nat} {mn : Nat → Option Nat} {M : zM} : mAg n t mn (k + 1) M = mOrd k n t mn (mAg n t mn k M) := by
  unfold mAg
  exact zfor_s _ _ _
theorem mAg_O {n : Nat} (hn : n ≤ 7) (t : Nat) (mn : Nat → Option Nat) (k : Nat) (hk : k ≤ n) (M : zM) : zKf mFrO M (mAg n t mn k M) := zKf.for k M (fun c M hc => mOrd_O (by omega) hn t mn M)
set_option maxHeartbeats 1000000 in
theorem zc_magreeing (l : Launch) (G : zG) (M : zM) (n t : Nat) (mn : Nat → Option Nat) (hn : M.1 300 9 = nI n) (hn7 : n ≤ 7) (h0 : 1 ≤ n) (ht : M.1 300 10 = nI t) (ht2 : t ≤ 2) (htn : t + 1 ≤ n) (hmn : mLn 0 M mn) : zCk l G 7 14 84 yX11_agreeing cX11_agreeing 3 (Option.some Jvm.ClassFile.FieldType.int) [.ref (300 : Nat)] M (zP (some (.int (nI (mAgC n t mn (m0 M) n)))) ((mAg n t mn n (m0 M)))) := by
  refine zCk_of (by decide) (Nat.le_of_ble_eq_true rfl) (fun X Q hQ hX hl hR hr => ?_)
  refine zV_loc (L' := [.ref (300 : Nat), .null, .null]) rfl ?_
  have hmn0 : mLn 0 (m0 M) mn := hmn
  have L9 : ∀ (f9 i : Nat), n - i < f9 → i ≤ n → zV G X Q 3 (2 * i) (12 * i) 9 [.ref (300 : Nat), .int (nI (mAgC n t mn (m0 M) i)), .int (nI i)] [] (mAg n t mn i (m0 M)) := by
    intro f9
    induction f9 with
    | zero => intro i hi1 hi2; exact absurd hi1 (Nat.not_lt_zero _)
    | succ f9 ih =>
      intro i hi1 hi2
      have hF := mAg_O hn7 t mn i hi2 (m0 M)
      have h9 := hF.at ((zw_ne (by omega)).trans hn) (by unfold mFrO; omega)
      have h10 := hF.at ((zw_ne (by omega)).trans ht) (by unfold mFrO; omega)
      have hln := zKfO.ln hF hmn0
      refine zV_iload_n hX dX11_agreeing_9 rfl ?_
      refine zV_aload_n hX dX11_agreeing_10 rfl ?_
      refine zV_geti hX dX11_agreeing_11 zf_X11_20 zo300.1 rfl (h9) ?_
      refine zV_icmp_geN hX (tgt := 54) dX11_agreeing_14 (by decide) ⟨by omega, by omega⟩ (fun c_14 => ?_) (fun c_14 => ?_)
      · refine zV_iload_n hX dX11_agreeing_54 rfl ?_
        exact zK_reti hX (by omega) hQ hr (⟨by rw [show i = n by omega], by rw [show i = n by omega]⟩) dX11_agreeing_55
      · refine zV_aload_n hX dX11_agreeing_17 rfl ?_
        refine zV_iconst hX (v := nI 0) dX11_agreeing_18 (by decide) ?_
        refine zV_topi (zb false) rfl ?_
        refine zK_cV1p hX hR hl dX11_agreeing_19 (zc_laysAll l G (mAg n t mn i (m0 M)) false) zt_X11_laysAll rfl zml_X11_406 zo300.1 ⟨by decide, by decide⟩ (Nat.le_of_ble_eq_true rfl) (c1 := 2 * i + 1) (s1 := 12 * i + 6) (by omega) (by omega) ?_
        dsimp only [Option.toList, List.cons_append, List.nil_append]
        refine zV_aload_n hX dX11_agreeing_22 rfl ?_
        refine zV_iload_n hX dX11_agreeing_23 rfl ?_
        have hLf := mLays_O false (mAg n t mn i (m0 M))
        have hOg := mOg_O (c := i) (n := n) (by omega) hn7 t mn (mAg n t mn i (m0 M))
        have h17 := mOg_17 (c := i) (n := n) (by omega) hn7 t mn (mAg n t mn i (m0 M))
        refine zK_cV1p hX hR hl dX11_agreeing_24 (zCk.of (zc_goesBy l G (mLays false (mAg n t mn i (m0 M))) n i t mn (hLf.at h9 (by unfold mFrO; omega)) hn7 (hLf.at h10 (by unfold mFrO; omega)) ht2 (by omega) h0 htn (zKfO.ln hLf hln))) zt_X11_goesBy rfl zml_X11_365 zo300.1 ⟨by decide, by decide⟩ (Nat.le_of_ble_eq_true rfl) (by omega) ⟨rfl, rfl⟩ ?_
        dsimp only [Option.toList, List.cons_append, List.nil_append]
        refine zV_mem (show _ = mOg i n t mn (mAg n t mn i (m0 M)) from rfl) ?_
        refine zV_iload_n hX dX11_agreeing_27 rfl ?_
        refine zV_aload_n hX dX11_agreeing_28 rfl ?_
        refine zV_iconst hX (v := nI 0) dX11_agreeing_29 (by decide) ?_
        refine zK_cV1p hX hR hl dX11_agreeing_30 (zCk.of (zc_isAgreed0 l G _ n i t (hOg.at h9 (by unfold mFrO; omega)) hn7 h17 (by omega) (hOg.at h10 (by unfold mFrO; omega)) ht2)) zt_X11_isAgreed rfl zml_X11_396 zo300.1 ⟨by decide, by decide⟩ (Nat.le_of_ble_eq_true rfl) (by omega) ⟨rfl, rfl⟩ ?_
        dsimp only [Option.toList, List.cons_append, List.nil_append]
        refine zV_if_eqB hX (tgt := 40) dX11_agreeing_33 (by decide) (fun c_33 => ?_) (fun c_33 => ?_)
        · refine zV_iconst hX (v := nI 0) dX11_agreeing_40 (by decide) ?_
          refine zV_iaddN hX dX11_agreeing_41 ?_
          refine zV_istore_n hX dX11_agreeing_42 (by decide) ?_
          dsimp only [zst1, zst2, zclr, zc2]
          refine zV_aload_n hX dX11_agreeing_43 rfl ?_
          refine zV_iconst hX (v := nI 1) dX11_agreeing_44 (by decide) ?_
          refine zV_topi (zb true) rfl ?_
          refine zK_cV1p hX hR hl dX11_agreeing_45 (zc_laysAll l G _ true) zt_X11_laysAll rfl zml_X11_406 zo300.1 ⟨by decide, by decide⟩ (Nat.le_of_ble_eq_true rfl) (c1 := 2 * (i + 1)) (s1 := 12 * (i + 1)) (by omega) (by omega) ?_
          dsimp only [Option.toList, List.cons_append, List.nil_append]
          refine zV_iincN hX (b := 1) dX11_agreeing_48 rfl (by decide) ?_
          dsimp only [zst1, zst2, zclr, zc2]
          refine zV_goto hX (tgt := 9) dX11_agreeing_51 (by decide) ?_
          refine zV_mem (show _ = mOrd i n t mn (mAg n t mn i (m0 M)) from rfl) ?_
          refine zV_mem (mAg_s (k := i)).symm ?_
          first | (rw [mAgC_t c_33]; exact ih (i + 1) (by omega) (by omega)) | (rw [mAgC_f c_33]; exact ih (i + 1) (by omega) (by omega))
        · refine zV_iconst hX (v := nI 1) dX11_agreeing_36 (by decide) ?_
          refine zV_goto hX (tgt := 41) dX11_agreeing_37 (by decide) ?_
          refine zV_iaddN hX dX11_agreeing_41 ?_
          refine zV_istore_n hX dX11_agreeing_42 (by decide) ?_
          dsimp only [zst1, zst2, zclr, zc2]
          refine zV_aload_n hX dX11_agreeing_43 rfl ?_
          refine zV_iconst hX (v := nI 1) dX11_agreeing_44 (by decide) ?_
          refine zV_topi (zb true) rfl ?_
          refine zK_cV1p hX hR hl dX11_agreeing_45 (zc_laysAll l G _ true) zt_X11_laysAll rfl zml_X11_406 zo300.1 ⟨by decide, by decide⟩ (Nat.le_of_ble_eq_true rfl) (c1 := 2 * (i + 1)) (s1 := 12 * (i + 1)) (by omega) (by omega) ?_
          dsimp only [Option.toList, List.cons_append, List.nil_append]
          refine zV_iincN hX (b := 1) dX11_agreeing_48 rfl (by decide) ?_
          dsimp only [zst1, zst2, zclr, zc2]
          refine zV_goto hX (tgt := 9) dX11_agreeing_51 (by decide) ?_
          refine zV_mem (show _ = mOrd i n t mn (mAg n t mn i (m0 M)) from rfl) ?_
          refine zV_mem (mAg_s (k := i)).symm ?_
          first | (rw [mAgC_t c_33]; exact ih (i + 1) (by omega) (by omega)) | (rw [mAgC_f c_33]; exact ih (i + 1) (by omega) (by omega))
  refine zV_aload_n hX dX11_agreeing_0 rfl ?_
  refine zV_iconst hX (v := nI 0) dX11_agreeing_1 (by decide) ?_
  refine zV_puti hX dX11_agreeing_2 zf_X11_149 zp_9_0 zo300.1 rfl ?_
  refine zV_iconst hX (v := nI 0) dX11_agreeing_5 (by decide) ?_
  refine zV_istore_n hX dX11_agreeing_6 (by decide) ?_
  dsimp only [zst1, zst2, zclr, zc2]
  refine zV_iconst hX (v := nI 0) dX11_agreeing_7 (by decide) ?_
  refine zV_istore_n hX dX11_agreeing_8 (by decide) ?_
  dsimp only [zst1, zst2, zclr, zc2]
  refine zV_cs (c1 := 2 * 0) (s1 := 12 * 0) rfl rfl ?_
  exact L9 (n + 1) 0 (by omega) (by omega)
def mGn (n t : Nat) (mn : Nat → Option Nat) (k : Nat) (M : zM) : zM := zfor (fun c M => mSigns c n mn t (mOrd c n t mn M)) k M
theorem mGn_s {n t k : Nat} {mn : Nat → Option Nat} {M : zM} : mGn n t mn (k + 1) M = mSigns k n mn t (mOrd k n t mn (mGn n t mn k M)) := by
  unfold mGn
  exact zfor_s _ _ _
def mGnB (n t : Nat) (mn : Nat → Option Nat) (M : zM) (c : Nat) : Bool := !mAgr (mOg c n t mn (mGn n t mn c M)) n c t && decide (mUq (mLiar (mGn n t mn (c + 1) M)) (mSgB (mGn n t mn (c + 1) M) c) n < 2)
def mGnC (n t : Nat) (mn : Nat → Option Nat) (M : zM) : Nat → Nat := zcnt (mGnB n t mn M)
theorem mGnC_t {n t i : Nat} {mn : Nat → Option Nat} {M : zM} (h : mGnB n t mn M i = true) : mGnC n t mn M i + 1 = mGnC n t mn M (i + 1) := (zcnt_t (p := mGnB n t mn M) h).symm
theorem mGnC_f {n t i : Nat} {mn : Nat → Option Nat} {M : zM} (h : mGnB n t mn M i = false) : mGnC n t mn M i + 0 = mGnC n t mn M (i + 1) := (zcnt_f (p := mGnB n t mn M) h).symm
def mFrG (a j : Nat) : Prop := mFrO a j ∨ mFrS a j
theorem mGn_G {n : Nat} (hn : n ≤ 7) (t : Nat) (mn : Nat → Option Nat) (k : Nat) (hk : k ≤ n) (M : zM) : zKf mFrG M (mGn n t mn k M) := zKf.for k M (fun c M hc => ((mOrd_O (by omega) hn t mn M).mono (fun _ _ h => Or.inl h)).tr ((mSigns_S hn mn _).mono (fun _ _ h => Or.inr h)))
theorem zKfG.ln {M M1 : zM} (h : zKf mFrG M M1) {mn : Nat → Option Nat} (e : mLn 0 M mn) : mLn 0 M1 mn := fun s hs => ⟨(h.1 _ _ (by unfold mFrG mFrO mFrS; omega)).trans (e s hs).1, (e s hs).2⟩
set_option maxHeartbeats 1000000 in
theorem zc_mgains (l : Launch) (G : zG) (M : zM) (n t : Nat) (mn : Nat → Option Nat) (hn : M.1 300 9 = nI n) (hn7 : n ≤ 7) (h0 : 1 ≤ n) (ht : M.1 300 10 = nI t) (ht2 : t ≤ 2) (htn : t + 1 ≤ n) (hmn : mLn 0 M mn) : zCk l G 7 14 84 yX11_gains cX11_gains 4 (Option.some Jvm.ClassFile.FieldType.int) [.ref (300 : Nat)] M (zP (some (.int (nI (mGnC n t mn (m0 M) n)))) ((mGn n t mn n (m0 M)))) := by
  refine zCk_of (by decide) (Nat.le_of_ble_eq_true rfl) (fun X Q hQ hX hl hR hr => ?_)
  refine zV_loc (L' := [.ref (300 : Nat), .null, .null, .null]) rfl ?_
  have hmn0 : mLn 0 (m0 M) mn := hmn
  have L9 : ∀ (f9 i : Nat), n - i < f9 → i ≤ n → ∀ x3 : Value, zV G X Q 4 (2 * i) (12 * i) 9 [.ref (300 : Nat), .int (nI (mGnC n t mn (m0 M) i)), .int (nI i), x3] [] (mGn n t mn i (m0 M)) := by
    intro f9
    induction f9 with
    | zero => intro i hi1 hi2 x3; exact absurd hi1 (Nat.not_lt_zero _)
    | succ f9 ih =>
      intro i hi1 hi2 x3
      have hF := mGn_G hn7 t mn i hi2 (m0 M)
      have h9 := hF.at ((zw_ne (by omega)).trans hn) (by unfold mFrG mFrO mFrS; omega)
      have h10 := hF.at ((zw_ne (by omega)).trans ht) (by unfold mFrG mFrO mFrS; omega)
      have hln := zKfG.ln hF hmn0
      refine zV_iload_n hX dX11_gains_9 rfl ?_
      refine zV_aload_n hX dX11_gains_10 rfl ?_
      refine zV_geti hX dX11_gains_11 zf_X11_20 zo300.1 rfl (h9) ?_
      refine zV_icmp_geN hX (tgt := 69) dX11_gains_14 (by decide) ⟨by omega, by omega⟩ (fun c_14 => ?_) (fun c_14 => ?_)
      · refine zV_iload_n hX dX11_gains_69 rfl ?_
        exact zK_reti hX (by omega) hQ hr (⟨by rw [show i = n by omega], by rw [show i = n by omega]⟩) dX11_gains_70
      · refine zV_aload_n hX dX11_gains_17 rfl ?_
        refine zV_iconst hX (v := nI 0) dX11_gains_18 (by decide) ?_
        refine zV_topi (zb false) rfl ?_
        refine zK_cV1p hX hR hl dX11_gains_19 (zc_laysAll l G (mGn n t mn i (m0 M)) false) zt_X11_laysAll rfl zml_X11_406 zo300.1 ⟨by decide, by decide⟩ (Nat.le_of_ble_eq_true rfl) (c1 := 2 * i + 1) (s1 := 12 * i + 6) (by omega) (by omega) ?_
        dsimp only [Option.toList, List.cons_append, List.nil_append]
        refine zV_aload_n hX dX11_gains_22 rfl ?_
        refine zV_iload_n hX dX11_gains_23 rfl ?_
        have hLf := mLays_O false (mGn n t mn i (m0 M))
        have hOg := mOg_O (c := i) (n := n) (by omega) hn7 t mn (mGn n t mn i (m0 M))
        have h17 := mOg_17 (c := i) (n := n) (by omega) hn7 t mn (mGn n t mn i (m0 M))
        refine zK_cV1p hX hR hl dX11_gains_24 (zCk.of (zc_goesBy l G (mLays false (mGn n t mn i (m0 M))) n i t mn (hLf.at h9 (by unfold mFrO; omega)) hn7 (hLf.at h10 (by unfold mFrO; omega)) ht2 (by omega) h0 htn (zKfO.ln hLf hln))) zt_X11_goesBy rfl zml_X11_365 zo300.1 ⟨by decide, by decide⟩ (Nat.le_of_ble_eq_true rfl) (by omega) ⟨rfl, rfl⟩ ?_
        dsimp only [Option.toList, List.cons_append, List.nil_append]
        refine zV_mem (show _ = mOg i n t mn (mGn n t mn i (m0 M)) from rfl) ?_
        refine zV_aload_n hX dX11_gains_27 rfl ?_
        refine zV_iconst hX (v := nI 0) dX11_gains_28 (by decide) ?_
        refine zK_cV1p hX hR hl dX11_gains_29 (zCk.of (zc_isAgreed0 l G _ n i t (hOg.at h9 (by unfold mFrO; omega)) hn7 h17 (by omega) (hOg.at h10 (by unfold mFrO; omega)) ht2)) zt_X11_isAgreed rfl zml_X11_396 zo300.1 ⟨by decide, by decide⟩ (Nat.le_of_ble_eq_true rfl) (by omega) ⟨rfl, rfl⟩ ?_
        dsimp only [Option.toList, List.cons_append, List.nil_append]
        refine zV_istore_n hX dX11_gains_32 (by decide) ?_
        dsimp only [zst1, zst2, zclr, zc2]
        refine zV_aload_n hX dX11_gains_33 rfl ?_
        refine zV_iconst hX (v := nI 1) dX11_gains_34 (by decide) ?_
        refine zV_topi (zb true) rfl ?_
        refine zK_cV1p hX hR hl dX11_gains_35 (zc_laysAll l G _ true) zt_X11_laysAll rfl zml_X11_406 zo300.1 ⟨by decide, by decide⟩ (Nat.le_of_ble_eq_true rfl) (c1 := 2 * (i + 1)) (s1 := 12 * (i + 1)) (by omega) (by omega) ?_
        dsimp only [Option.toList, List.cons_append, List.nil_append]
        refine zV_aload_n hX dX11_gains_38 rfl ?_
        refine zV_iload_n hX dX11_gains_39 rfl ?_
        have hO := mOrd_O (c := i) (n := n) (by omega) hn7 t mn (mGn n t mn i (m0 M))
        refine zV_mem (show _ = (mOrd i n t mn (mGn n t mn i (m0 M))) from rfl) ?_
        refine zK_cV1p hX hR hl dX11_gains_40 (zCk.of (zc_signs l G (mOrd i n t mn (mGn n t mn i (m0 M))) n i t mn (hO.at h9 (by unfold mFrO; omega)) hn7 (hO.at h10 (by unfold mFrO; omega)) ht2 (by omega) (zKfO.ln hO hln))) zt_X11_signs rfl zml_X11_435 zo300.1 ⟨by decide, by decide⟩ (Nat.le_of_ble_eq_true rfl) (by omega) ⟨rfl, rfl⟩ ?_
        dsimp only [Option.toList, List.cons_append, List.nil_append]
        refine zV_mem (mGn_s (k := i)).symm ?_
        have hF2 := mGn_G hn7 t mn (i + 1) (by omega) (m0 M)
        have h92 := hF2.at ((zw_ne (by omega)).trans hn) (by unfold mFrG mFrO mFrS; omega)
        have h41 : (mGn n t mn (i + 1) (m0 M)).1 300 41 = nI i := mSigns_41 hn7 mn _
        obtain ⟨u9, hU9⟩ : ∃ u, mUq (mLiar (mGn n t mn (i + 1) (m0 M))) (mSgB (mGn n t mn (i + 1) (m0 M)) i) n = u := ⟨_, rfl⟩
        have hu9 : u9 ≤ 7 := hU9 ▸ Nat.le_trans (mUq_le _ _ _) hn7
        refine zV_iload_n hX dX11_gains_43 rfl ?_
        refine zV_iload_n hX dX11_gains_44 rfl ?_
        refine zV_if_neB hX (tgt := 60) dX11_gains_45 (by decide) (fun c_45 => ?_) (fun c_45 => ?_)
        · refine zV_iconst hX (v := nI 0) dX11_gains_60 (by decide) ?_
          refine zV_iaddN hX dX11_gains_61 ?_
          refine zV_istore_n hX dX11_gains_62 (by decide) ?_
          dsimp only [zst1, zst2, zclr, zc2]
          refine zV_iincN hX (b := 1) dX11_gains_63 rfl (by decide) ?_
          dsimp only [zst1, zst2, zclr, zc2]
          refine zV_goto hX (tgt := 9) dX11_gains_66 (by decide) ?_
          first | (rw [mGnC_f (by unfold mGnB; rw [c_45]; rfl)]; exact ih (i + 1) (by omega) (by omega) _) | (rw [mGnC_t (by unfold mGnB; rw [c_45, hU9, decide_eq_true (by omega)]; rfl)]; exact ih (i + 1) (by omega) (by omega) _) | (rw [mGnC_f (by unfold mGnB; rw [c_45, hU9, decide_eq_false (by omega)]; rfl)]; exact ih (i + 1) (by omega) (by omega) _)
        · refine zV_aload_n hX dX11_gains_48 rfl ?_
          refine zK_cV0p hX hR hl dX11_gains_49 (zCk.of (zc_unlikeSigned l G _ n i h92 hn7 h41 (by omega))) zt_X11_unlikeSigned rfl zml_X11_438 zo300.1 ⟨by decide, by decide⟩ (Nat.le_of_ble_eq_true rfl) (by omega) ⟨rfl, rfl⟩ ?_
          dsimp only [Option.toList, List.cons_append, List.nil_append]
          refine zV_topi (nI u9) (by rw [hU9]) ?_
          refine zV_iconst hX (v := nI 2) dX11_gains_52 (by decide) ?_
          refine zV_icmp_geN hX (tgt := 60) dX11_gains_53 (by decide) ⟨by omega, by omega⟩ (fun c_53 => ?_) (fun c_53 => ?_)
          · refine zV_iconst hX (v := nI 0) dX11_gains_60 (by decide) ?_
            refine zV_iaddN hX dX11_gains_61 ?_
            refine zV_istore_n hX dX11_gains_62 (by decide) ?_
            dsimp only [zst1, zst2, zclr, zc2]
            refine zV_iincN hX (b := 1) dX11_gains_63 rfl (by decide) ?_
            dsimp only [zst1, zst2, zclr, zc2]
            refine zV_goto hX (tgt := 9) dX11_gains_66 (by decide) ?_
            first | (rw [mGnC_f (by unfold mGnB; rw [c_45]; rfl)]; exact ih (i + 1) (by omega) (by omega) _) | (rw [mGnC_t (by unfold mGnB; rw [c_45, hU9, decide_eq_true (by omega)]; rfl)]; exact ih (i + 1) (by omega) (by omega) _) | (rw [mGnC_f (by unfold mGnB; rw [c_45, hU9, decide_eq_false (by omega)]; rfl)]; exact ih (i + 1) (by omega) (by omega) _)
          · refine zV_iconst hX (v := nI 1) dX11_gains_56 (by decide) ?_
            refine zV_goto hX (tgt := 61) dX11_gains_57 (by decide) ?_
            refine zV_iaddN hX dX11_gains_61 ?_
            refine zV_istore_n hX dX11_gains_62 (by decide) ?_
            dsimp only [zst1, zst2, zclr, zc2]
            refine zV_iincN hX (b := 1) dX11_gains_63 rfl (by decide) ?_
            dsimp only [zst1, zst2, zclr, zc2]
            refine zV_goto hX (tgt := 9) dX11_gains_66 (by decide) ?_
            first | (rw [mGnC_f (by unfold mGnB; rw [c_45]; rfl)]; exact ih (i + 1) (by omega) (by omega) _) | (rw [mGnC_t (by unfold mGnB; rw [c_45, hU9, decide_eq_true (by omega)]; rfl)]; exact ih (i + 1) (by omega) (by omega) _) | (rw [mGnC_f (by unfold mGnB; rw [c_45, hU9, decide_eq_false (by omega)]; rfl)]; exact ih (i + 1) (by omega) (by omega) _)
  refine zV_aload_n hX dX11_gains_0 rfl ?_
  refine zV_iconst hX (v := nI 0) dX11_gains_1 (by decide) ?_
  refine zV_puti hX dX11_gains_2 zf_X11_149 zp_9_0 zo300.1 rfl ?_
  refine zV_iconst hX (v := nI 0) dX11_gains_5 (by decide) ?_
  refine zV_istore_n hX dX11_gains_6 (by decide) ?_
  dsimp only [zst1, zst2, zclr, zc2]
  refine zV_iconst hX (v := nI 0) dX11_gains_7 (by decide) ?_
  refine zV_istore_n hX dX11_gains_8 (by decide) ?_
  dsimp only [zst1, zst2, zclr, zc2]
  refine zV_cs (c1 := 2 * 0) (s1 := 12 * 0) rfl rfl ?_
  exact L9 (n + 1) 0 (by omega) (by omega) _
