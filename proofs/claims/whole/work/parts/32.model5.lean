theorem zcnt_s {p : Nat → Bool} {n : Nat} : zcnt p (n + 1) = zcnt p n + (if p n then 1 else 0) := rfl
set_option maxHeartbeats 1000000 in
theorem zc_liars (l : Launch) (G : zG) (M : zM) (n : Nat) (hn : M.1 300 9 = nI n) (hn7 : n ≤ 7) : zC l G 1 yX11_liars cX11_liars 3 (Option.some Jvm.ClassFile.FieldType.int) [.ref (300 : Nat)] M (zP (some (.int (nI (zcnt (fun m => mLiar M m) n)))) M) := by
  refine zC_of (by decide) (Nat.le_of_ble_eq_true rfl) (fun X Q hQ hX hl hR hr => ?_)
  refine zV_loc (L' := [.ref (300 : Nat), .null, .null]) rfl ?_
  have L4 : ∀ (f9 k : Nat), n - k < f9 → k ≤ n → zV G X Q 3 0 0 4 [.ref (300 : Nat), .int (nI (zcnt (fun m => mLiar M m) k)), .int (nI k)] [] M := by
    intro f9
    induction f9 with
    | zero => intro k hk1 hk2; exact absurd hk1 (Nat.not_lt_zero _)
    | succ f9 ih =>
      intro k hk1 hk2
      refine zV_iload_n hX dX11_liars_4 rfl ?_
      refine zV_aload_n hX dX11_liars_5 rfl ?_
      refine zV_geti hX dX11_liars_6 zf_X11_20 zo300.1 rfl (hn) ?_
      refine zV_icmp_geN hX (tgt := 34) dX11_liars_9 (by decide) ⟨by omega, by omega⟩ (fun c_9 => ?_) (fun c_9 => ?_)
      · refine zV_iload_n hX dX11_liars_34 rfl ?_
        exact zV_reti hX hQ hr (⟨by rw [show k = n by omega], rfl⟩) dX11_liars_35
      · refine zV_iload_n hX dX11_liars_12 rfl ?_
        refine zV_aload_n hX dX11_liars_13 rfl ?_
        refine zV_iload_n hX dX11_liars_14 rfl ?_
        refine zV_cV1p hX hR hl dX11_liars_15 (zc_misLiar l G M k (by omega)) zt_X11_isLiar rfl zml_X11_295 zo300.1 ⟨by decide, by decide⟩ (Nat.le_of_ble_eq_true rfl) ?_
        dsimp only [Option.toList, List.cons_append, List.nil_append]
        refine zV_if_eqB hX (tgt := 25) dX11_liars_18 (by decide) (fun c_18 => ?_) (fun c_18 => ?_)
        · have e9 : zcnt (fun m => mLiar M m) (k + 1) = zcnt (fun m => mLiar M m) k + 0 := by rw [zcnt_s]; simp [c_18]
          refine zV_iconst hX (v := nI 0) dX11_liars_25 (by decide) ?_
          refine zV_iaddN hX dX11_liars_26 ?_
          refine zV_istore_n hX dX11_liars_27 (by decide) ?_
          dsimp only [zst1, zst2, zclr, zc2]
          refine zV_iincN hX (b := 1) dX11_liars_28 rfl (by decide) ?_
          dsimp only [zst1, zst2, zclr, zc2]
          refine zV_goto hX (tgt := 4) dX11_liars_31 (by decide) ?_
          exact e9 ▸ ih (k + 1) (by omega) (by omega)
        · have e9 : zcnt (fun m => mLiar M m) (k + 1) = zcnt (fun m => mLiar M m) k + 1 := by rw [zcnt_s]; simp [c_18]
          refine zV_iconst hX (v := nI 1) dX11_liars_21 (by decide) ?_
          refine zV_goto hX (tgt := 26) dX11_liars_22 (by decide) ?_
          refine zV_iaddN hX dX11_liars_26 ?_
          refine zV_istore_n hX dX11_liars_27 (by decide) ?_
          dsimp only [zst1, zst2, zclr, zc2]
          refine zV_iincN hX (b := 1) dX11_liars_28 rfl (by decide) ?_
          dsimp only [zst1, zst2, zclr, zc2]
          refine zV_goto hX (tgt := 4) dX11_liars_31 (by decide) ?_
          exact e9 ▸ ih (k + 1) (by omega) (by omega)
  refine zV_iconst hX (v := nI 0) dX11_liars_0 (by decide) ?_
  refine zV_istore_n hX dX11_liars_1 (by decide) ?_
  dsimp only [zst1, zst2, zclr, zc2]
  refine zV_iconst hX (v := nI 0) dX11_liars_2 (by decide) ?_
  refine zV_istore_n hX dX11_liars_3 (by decide) ?_
  dsimp only [zst1, zst2, zclr, zc2]
  exact L4 (n + 1) 0 (by omega) (by omega)
def mLiN (M : zM) : Nat → Int32
  | 0 => nI 0
  | k + 1 => mLiN M k + (if mLiar M k then M.1 (1000 + 16 * 13 + 0) k else nI 0)
def mLiB (M : zM) : Nat → Int32
  | 0 => nI 0
  | k + 1 => mLiB M k ||| (if mLiar M k then nI 1 <<< (nI k &&& 31) else nI 0)
set_option maxHeartbeats 1000000 in
theorem zc_lieCount (l : Launch) (G : zG) (M : zM) (n : Nat) (hn : M.1 300 9 = nI n) (hn7 : n ≤ 7) : zC l G 1 yX11_lieCount cX11_lieCount 3 (Option.some Jvm.ClassFile.FieldType.int) [.ref (300 : Nat)] M (zP (some (.int (mLiN M n))) M) := by
  refine zC_of (by decide) (Nat.le_of_ble_eq_true rfl) (fun X Q hQ hX hl hR hr => ?_)
  refine zV_loc (L' := [.ref (300 : Nat), .null, .null]) rfl ?_
  have L4 : ∀ (f9 k : Nat), n - k < f9 → k ≤ n → zV G X Q 3 0 0 4 [.ref (300 : Nat), .int (mLiN M k), .int (nI k)] [] M := by
    intro f9
    induction f9 with
    | zero => intro k hk1 hk2; exact absurd hk1 (Nat.not_lt_zero _)
    | succ f9 ih =>
      intro k hk1 hk2
      refine zV_iload_n hX dX11_lieCount_4 rfl ?_
      refine zV_aload_n hX dX11_lieCount_5 rfl ?_
      refine zV_geti hX dX11_lieCount_6 zf_X11_20 zo300.1 rfl (hn) ?_
      refine zV_icmp_geN hX (tgt := 41) dX11_lieCount_9 (by decide) ⟨by omega, by omega⟩ (fun c_9 => ?_) (fun c_9 => ?_)
      · refine zV_iload_n hX dX11_lieCount_41 rfl ?_
        exact zV_reti hX hQ hr (⟨by rw [show k = n by omega], rfl⟩) dX11_lieCount_42
      · refine zV_iload_n hX dX11_lieCount_12 rfl ?_
        refine zV_aload_n hX dX11_lieCount_13 rfl ?_
        refine zV_iload_n hX dX11_lieCount_14 rfl ?_
        refine zV_cV1p hX hR hl dX11_lieCount_15 (zc_misLiar l G M k (by omega)) zt_X11_isLiar rfl zml_X11_295 zo300.1 ⟨by decide, by decide⟩ (Nat.le_of_ble_eq_true rfl) ?_
        dsimp only [Option.toList, List.cons_append, List.nil_append]
        refine zV_if_eqB hX (tgt := 32) dX11_lieCount_18 (by decide) (fun c_18 => ?_) (fun c_18 => ?_)
        · have e9 : mLiN M (k + 1) = mLiN M k + nI 0 := by rw [mLiN, c_18]; rfl
          refine zV_iconst hX (v := nI 0) dX11_lieCount_32 (by decide) ?_
          refine zV_iadd hX dX11_lieCount_33 ?_
          refine zV_istore_n hX dX11_lieCount_34 (by decide) ?_
          dsimp only [zst1, zst2, zclr, zc2]
          refine zV_iincN hX (b := 1) dX11_lieCount_35 rfl (by decide) ?_
          dsimp only [zst1, zst2, zclr, zc2]
          refine zV_goto hX (tgt := 4) dX11_lieCount_38 (by decide) ?_
          exact e9 ▸ ih (k + 1) (by omega) (by omega)
        · have e9 : mLiN M (k + 1) = mLiN M k + M.1 (1000 + 16 * 13 + 0) k := by rw [mLiN, c_18]; rfl
          refine zV_aload_n hX dX11_lieCount_21 rfl ?_
          refine zV_geta hX dX11_lieCount_22 zf_X11_31 zo300.1 rfl ?_
          refine zV_iconst hX (v := nI 0) dX11_lieCount_25 (by decide) ?_
          refine zV_aald hX dX11_lieCount_26 (t := 0) (zo300.a 13 rfl) (by decide) (rfl) ⟨by omega, by omega⟩ (mRow 13 (by decide)) ?_
          refine zV_iload_n hX dX11_lieCount_27 rfl ?_
          refine zV_iald hX dX11_lieCount_28 (mSh13 (by omega)) (rfl) ⟨by omega, by omega⟩ (rfl) ?_
          refine zV_goto hX (tgt := 33) dX11_lieCount_29 (by decide) ?_
          refine zV_iadd hX dX11_lieCount_33 ?_
          refine zV_istore_n hX dX11_lieCount_34 (by decide) ?_
          dsimp only [zst1, zst2, zclr, zc2]
          refine zV_iincN hX (b := 1) dX11_lieCount_35 rfl (by decide) ?_
          dsimp only [zst1, zst2, zclr, zc2]
          refine zV_goto hX (tgt := 4) dX11_lieCount_38 (by decide) ?_
          exact e9 ▸ ih (k + 1) (by omega) (by omega)
  refine zV_iconst hX (v := nI 0) dX11_lieCount_0 (by decide) ?_
  refine zV_istore_n hX dX11_lieCount_1 (by decide) ?_
  dsimp only [zst1, zst2, zclr, zc2]
  refine zV_iconst hX (v := nI 0) dX11_lieCount_2 (by decide) ?_
  refine zV_istore_n hX dX11_lieCount_3 (by decide) ?_
  dsimp only [zst1, zst2, zclr, zc2]
  exact L4 (n + 1) 0 (by omega) (by omega)
set_option maxHeartbeats 1000000 in
theorem zc_liarBits (l : Launch) (G : zG) (M : zM) (n : Nat) (hn : M.1 300 9 = nI n) (hn7 : n ≤ 7) : zC l G 1 yX11_liarBits cX11_liarBits 3 (Option.some Jvm.ClassFile.FieldType.int) [.ref (300 : Nat)] M (zP (some (.int (mLiB M n))) M) := by
  refine zC_of (by decide) (Nat.le_of_ble_eq_true rfl) (fun X Q hQ hX hl hR hr => ?_)
  refine zV_loc (L' := [.ref (300 : Nat), .null, .null]) rfl ?_
  have L4 : ∀ (f9 k : Nat), n - k < f9 → k ≤ n → zV G X Q 3 0 0 4 [.ref (300 : Nat), .int (mLiB M k), .int (nI k)] [] M := by
    intro f9
    induction f9 with
    | zero => intro k hk1 hk2; exact absurd hk1 (Nat.not_lt_zero _)
    | succ f9 ih =>
      intro k hk1 hk2
      refine zV_iload_n hX dX11_liarBits_4 rfl ?_
      refine zV_aload_n hX dX11_liarBits_5 rfl ?_
      refine zV_geti hX dX11_liarBits_6 zf_X11_20 zo300.1 rfl (hn) ?_
      refine zV_icmp_geN hX (tgt := 36) dX11_liarBits_9 (by decide) ⟨by omega, by omega⟩ (fun c_9 => ?_) (fun c_9 => ?_)
      · refine zV_iload_n hX dX11_liarBits_36 rfl ?_
        exact zV_reti hX hQ hr (⟨by rw [show k = n by omega], rfl⟩) dX11_liarBits_37
      · refine zV_iload_n hX dX11_liarBits_12 rfl ?_
        refine zV_aload_n hX dX11_liarBits_13 rfl ?_
        refine zV_iload_n hX dX11_liarBits_14 rfl ?_
        refine zV_cV1p hX hR hl dX11_liarBits_15 (zc_misLiar l G M k (by omega)) zt_X11_isLiar rfl zml_X11_295 zo300.1 ⟨by decide, by decide⟩ (Nat.le_of_ble_eq_true rfl) ?_
        dsimp only [Option.toList, List.cons_append, List.nil_append]
        refine zV_if_eqB hX (tgt := 27) dX11_liarBits_18 (by decide) (fun c_18 => ?_) (fun c_18 => ?_)
        · have e9 : mLiB M (k + 1) = mLiB M k ||| nI 0 := by rw [mLiB, c_18]; rfl
          refine zV_iconst hX (v := nI 0) dX11_liarBits_27 (by decide) ?_
          refine zV_ior hX dX11_liarBits_28 ?_
          refine zV_istore_n hX dX11_liarBits_29 (by decide) ?_
          dsimp only [zst1, zst2, zclr, zc2]
          refine zV_iincN hX (b := 1) dX11_liarBits_30 rfl (by decide) ?_
          dsimp only [zst1, zst2, zclr, zc2]
          refine zV_goto hX (tgt := 4) dX11_liarBits_33 (by decide) ?_
          exact e9 ▸ ih (k + 1) (by omega) (by omega)
        · have e9 : mLiB M (k + 1) = mLiB M k ||| (nI 1 <<< (nI k &&& 31)) := by rw [mLiB, c_18]; rfl
          refine zV_iconst hX (v := nI 1) dX11_liarBits_21 (by decide) ?_
          refine zV_iload_n hX dX11_liarBits_22 rfl ?_
          refine zV_ishl hX dX11_liarBits_23 ?_
          refine zV_goto hX (tgt := 28) dX11_liarBits_24 (by decide) ?_
          refine zV_ior hX dX11_liarBits_28 ?_
          refine zV_istore_n hX dX11_liarBits_29 (by decide) ?_
          dsimp only [zst1, zst2, zclr, zc2]
          refine zV_iincN hX (b := 1) dX11_liarBits_30 rfl (by decide) ?_
          dsimp only [zst1, zst2, zclr, zc2]
          refine zV_goto hX (tgt := 4) dX11_liarBits_33 (by decide) ?_
          exact e9 ▸ ih (k + 1) (by omega) (by omega)
  refine zV_iconst hX (v := nI 0) dX11_liarBits_0 (by decide) ?_
  refine zV_istore_n hX dX11_liarBits_1 (by decide) ?_
  dsimp only [zst1, zst2, zclr, zc2]
  refine zV_iconst hX (v := nI 0) dX11_liarBits_2 (by decide) ?_
  refine zV_istore_n hX dX11_liarBits_3 (by decide) ?_
  dsimp only [zst1, zst2, zclr, zc2]
  exact L4 (n + 1) 0 (by omega) (by omega)
set_option maxHeartbeats 1000000 in
theorem zc_missed (l : Launch) (G : zG) (M : zM) (n c t m : Nat) (hn : M.1 300 9 = nI n) (hn7 : n ≤ 7) (hcm : M.1 300 17 = nI c) (hc7 : c < 7) (ht : M.1 300 10 = nI t) (ht2 : t ≤ 2) (h0 : 1 ≤ n) (hm : m < 7) : zC l G 3 yX11_missed cX11_missed 4 (Option.some Jvm.ClassFile.FieldType.int) [.ref (300 : Nat), .int (nI m)] M (zP (some (.int (nI (zcnt (fun p => mHas n c t m p && !decide (M.1 (1000 + 16 * 21 + m) p = 0)) 57)))) M) := by
  refine zC_of (by decide) (Nat.le_of_ble_eq_true rfl) (fun X Q hQ hX hl hR hr => ?_)
  refine zV_loc (L' := [.ref (300 : Nat), .int (nI m), .null, .null]) rfl ?_
  have L4 : ∀ (f9 k : Nat), 57 - k < f9 → k ≤ 57 → zV G X Q 4 0 0 4 [.ref (300 : Nat), .int (nI m), .int (nI (zcnt (fun p => mHas n c t m p && !decide (M.1 (1000 + 16 * 21 + m) p = 0)) k)), .int (nI k)] [] M := by
    intro f9
    induction f9 with
    | zero => intro k hk1 hk2; exact absurd hk1 (Nat.not_lt_zero _)
    | succ f9 ih =>
      intro k hk1 hk2
      refine zV_iload_n hX dX11_missed_4 rfl ?_
      refine zV_bipush hX (v := nI 57) dX11_missed_5 (by decide) ?_
      refine zV_icmp_geN hX (tgt := 44) dX11_missed_7 (by decide) ⟨by omega, by omega⟩ (fun c_7 => ?_) (fun c_7 => ?_)
      · refine zV_iload_n hX dX11_missed_44 rfl ?_
        exact zV_reti hX hQ hr (⟨by rw [show k = 57 by omega], rfl⟩) dX11_missed_45
      · refine zV_iload_n hX dX11_missed_10 rfl ?_
        refine zV_aload_n hX dX11_missed_11 rfl ?_
        refine zV_iload_n hX dX11_missed_12 rfl ?_
        refine zV_iload_n hX dX11_missed_13 rfl ?_
        refine zV_cV2p hX hR hl dX11_missed_14 (zc_hasHeard l G M n c t m k hn hn7 hcm hc7 ht ht2 h0 hm (by omega)) zt_X11_hasHeard rfl zml_X11_337 zo300.1 ⟨by decide, by decide⟩ (Nat.le_of_ble_eq_true rfl) ?_
        dsimp only [Option.toList, List.cons_append, List.nil_append]
        refine zV_if_eqB hX (tgt := 35) dX11_missed_17 (by decide) (fun c_17 => ?_) (fun c_17 => ?_)
        · have e9 : zcnt (fun p => mHas n c t m p && !decide (M.1 (1000 + 16 * 21 + m) p = 0)) (k + 1) = zcnt (fun p => mHas n c t m p && !decide (M.1 (1000 + 16 * 21 + m) p = 0)) k + 0 := by rw [zcnt_s]; simp [c_17]
          refine zV_iconst hX (v := nI 0) dX11_missed_35 (by decide) ?_
          refine zV_iaddN hX dX11_missed_36 ?_
          refine zV_istore_n hX dX11_missed_37 (by decide) ?_
          dsimp only [zst1, zst2, zclr, zc2]
          refine zV_iincN hX (b := 1) dX11_missed_38 rfl (by decide) ?_
          dsimp only [zst1, zst2, zclr, zc2]
          refine zV_goto hX (tgt := 4) dX11_missed_41 (by decide) ?_
          exact e9 ▸ ih (k + 1) (by omega) (by omega)
        · refine zV_aload_n hX dX11_missed_20 rfl ?_
          refine zV_geta hX dX11_missed_21 zf_X11_47 zo300.1 rfl ?_
          refine zV_iload_n hX dX11_missed_24 rfl ?_
          refine zV_aald hX dX11_missed_25 (t := 1) (zo300.a 21 rfl) (by decide) (rfl) ⟨by omega, by omega⟩ (mRow 21 (by decide)) ?_
          refine zV_iload_n hX dX11_missed_26 rfl ?_
          refine zV_zald hX dX11_missed_27 (mSh21 (by omega)) (rfl) ⟨by omega, by omega⟩ (rfl) ?_
          refine zV_if_eq hX (tgt := 35) dX11_missed_28 (by decide) (fun c_28 => ?_) (fun c_28 => ?_)
          · have e9 : zcnt (fun p => mHas n c t m p && !decide (M.1 (1000 + 16 * 21 + m) p = 0)) (k + 1) = zcnt (fun p => mHas n c t m p && !decide (M.1 (1000 + 16 * 21 + m) p = 0)) k + 0 := by rw [zcnt_s]; simp [c_28]
            refine zV_iconst hX (v := nI 0) dX11_missed_35 (by decide) ?_
            refine zV_iaddN hX dX11_missed_36 ?_
            refine zV_istore_n hX dX11_missed_37 (by decide) ?_
            dsimp only [zst1, zst2, zclr, zc2]
            refine zV_iincN hX (b := 1) dX11_missed_38 rfl (by decide) ?_
            dsimp only [zst1, zst2, zclr, zc2]
            refine zV_goto hX (tgt := 4) dX11_missed_41 (by decide) ?_
            exact e9 ▸ ih (k + 1) (by omega) (by omega)
          · have e9 : zcnt (fun p => mHas n c t m p && !decide (M.1 (1000 + 16 * 21 + m) p = 0)) (k + 1) = zcnt (fun p => mHas n c t m p && !decide (M.1 (1000 + 16 * 21 + m) p = 0)) k + 1 := by rw [zcnt_s]; simp [c_17, c_28]
            refine zV_iconst hX (v := nI 1) dX11_missed_31 (by decide) ?_
            refine zV_goto hX (tgt := 36) dX11_missed_32 (by decide) ?_
            refine zV_iaddN hX dX11_missed_36 ?_
            refine zV_istore_n hX dX11_missed_37 (by decide) ?_
            dsimp only [zst1, zst2, zclr, zc2]
            refine zV_iincN hX (b := 1) dX11_missed_38 rfl (by decide) ?_
            dsimp only [zst1, zst2, zclr, zc2]
            refine zV_goto hX (tgt := 4) dX11_missed_41 (by decide) ?_
            exact e9 ▸ ih (k + 1) (by omega) (by omega)
  refine zV_iconst hX (v := nI 0) dX11_missed_0 (by decide) ?_
  refine zV_istore_n hX dX11_missed_1 (by decide) ?_
  dsimp only [zst1, zst2, zclr, zc2]
  refine zV_iconst hX (v := nI 0) dX11_missed_2 (by decide) ?_
  refine zV_istore_n hX dX11_missed_3 (by decide) ?_
  dsimp only [zst1, zst2, zclr, zc2]
  exact L4 58 0 (by omega) (by omega)
/-- the round in which one could stop, from round r on -/
def mStop (fs : Nat → Nat) (t : Nat) : Nat → Nat → Nat
  | 0, r => r
  | f + 1, r => if r < t + 1 ∧ r < 2 + mPop 31 (fs r) then mStop fs t f (r + 1) else r
set_option maxHeartbeats 1000000 in
theorem zc_stop (l : Launch) (G : zG) (M : zM) (c t m : Nat) (fs : Nat → Nat) (hcm : M.1 300 17 = nI c) (hc7 : c < 7) (ht : M.1 300 10 = nI t) (ht2 : t ≤ 2) (hm : m < 7) (hfs : ∀ r, r < 5 → M.1 (1000 + 16 * 22 + m) r = nI (fs r) ∧ fs r < 2 ^ 31) : zC l G 1 yX11_stop cX11_stop 3 (Option.some Jvm.ClassFile.FieldType.int) [.ref (300 : Nat), .int (nI m)] M (zP (some (.int (nI (if m = c then 1 else mStop fs t 4 1)))) M) := by
  refine zC_of (by decide) (Nat.le_of_ble_eq_true rfl) (fun X Q hQ hX hl hR hr => ?_)
  refine zV_loc (L' := [.ref (300 : Nat), .int (nI m), .null]) rfl ?_
  have L12 : (if m = c then 1 else mStop fs t 4 1) = mStop fs t 4 1 → ∀ (f9 f k : Nat), f < f9 → 5 ≤ f + k → 1 ≤ k → k ≤ t + 1 → mStop fs t f k = mStop fs t 4 1 → zV G X Q 3 0 0 12 [.ref (300 : Nat), .int (nI m), .int (nI k)] [] M := by
    intro e9
    intro f9
    induction f9 with
    | zero => intro f k hk1 hk5 hk6 hk7 hk3; exact absurd hk1 (Nat.not_lt_zero _)
    | succ f9 ih =>
      intro f k hk1 hk5 hk6 hk7 hk3
      refine zV_iload_n hX dX11_stop_12 rfl ?_
      refine zV_aload_n hX dX11_stop_13 rfl ?_
      refine zV_geti hX dX11_stop_14 zf_X11_23 zo300.1 rfl (ht) ?_
      refine zV_iconst hX (v := nI 1) dX11_stop_17 (by decide) ?_
      refine zV_iaddN hX dX11_stop_18 ?_
      refine zV_icmp_geN hX (tgt := 45) dX11_stop_19 (by decide) ⟨by omega, by omega⟩ (fun c_19 => ?_) (fun c_19 => ?_)
      · have e8 : mStop fs t 4 1 = k := by rw [← hk3]; cases f with | zero => rfl | succ f => rw [mStop, if_neg (fun q => by omega)]
        refine zV_iload_n hX dX11_stop_45 rfl ?_
        exact zV_reti hX hQ hr (⟨by rw [e9, e8], rfl⟩) dX11_stop_46
      · refine zV_iload_n hX dX11_stop_22 rfl ?_
        refine zV_iconst hX (v := nI 2) dX11_stop_23 (by decide) ?_
        refine zV_aload_n hX dX11_stop_24 rfl ?_
        refine zV_geta hX dX11_stop_25 zf_X11_50 zo300.1 rfl ?_
        refine zV_iload_n hX dX11_stop_28 rfl ?_
        refine zV_aald hX dX11_stop_29 (t := 0) (zo300.a 22 rfl) (by decide) (rfl) ⟨by omega, by omega⟩ (mRow 22 (by decide)) ?_
        refine zV_iload_n hX dX11_stop_30 rfl ?_
        refine zV_iald hX (v := nI (fs k)) dX11_stop_31 (mSh22 (by omega)) (rfl) ⟨by omega, by omega⟩ ((hfs k (by omega)).1) ?_
        refine zV_cS1p hX hR hl dX11_stop_32 (zc_ones l G M (fs k) (hfs k (by omega)).2) zt_X11_ones rfl zml_X11_378 (by decide) (Nat.le_of_ble_eq_true rfl) ?_
        dsimp only [Option.toList, List.cons_append, List.nil_append]
        have hpl := mPop_le 31 (fs k)
        refine zV_iaddN hX dX11_stop_35 ?_
        refine zV_icmp_geN hX (tgt := 45) dX11_stop_36 (by decide) ⟨by omega, by omega⟩ (fun c_36 => ?_) (fun c_36 => ?_)
        · have e8 : mStop fs t 4 1 = k := by rw [← hk3]; cases f with | zero => rfl | succ f => rw [mStop, if_neg (fun q => by omega)]
          refine zV_iload_n hX dX11_stop_45 rfl ?_
          exact zV_reti hX hQ hr (⟨by rw [e9, e8], rfl⟩) dX11_stop_46
        · obtain ⟨f, rfl⟩ : ∃ f8, f = f8 + 1 := ⟨f - 1, by omega⟩
          rw [mStop, if_pos ⟨by omega, by omega⟩] at hk3
          refine zV_iincN hX (b := 1) dX11_stop_39 rfl (by decide) ?_
          dsimp only [zst1, zst2, zclr, zc2]
          refine zV_goto hX (tgt := 12) dX11_stop_42 (by decide) ?_
          exact ih f (k + 1) (by omega) (by omega) (by omega) (by omega) hk3
  refine zV_iload_n hX dX11_stop_0 rfl ?_
  refine zV_aload_n hX dX11_stop_1 rfl ?_
  refine zV_geti hX dX11_stop_2 zf_X11_39 zo300.1 rfl (hcm) ?_
  refine zV_icmp_neN hX (tgt := 10) dX11_stop_5 (by decide) ⟨by omega, by omega⟩ (fun c_5 => ?_) (fun c_5 => ?_)
  · have e9 : (if m = c then 1 else mStop fs t 4 1) = mStop fs t 4 1 := if_neg c_5
    refine zV_iconst hX (v := nI 1) dX11_stop_10 (by decide) ?_
    refine zV_istore_n hX dX11_stop_11 (by decide) ?_
    dsimp only [zst1, zst2, zclr, zc2]
    exact L12 e9 5 4 1 (by omega) (by omega) (by omega) (by omega) rfl
  · have e9 : (if m = c then 1 else mStop fs t 4 1) = 1 := if_pos c_5
    refine zV_iconst hX (v := nI 1) dX11_stop_8 (by decide) ?_
    exact zV_reti hX hQ hr (⟨by rw [e9], rfl⟩) dX11_stop_9
def mBit (c p : Nat) : Int32 := nI 1 <<< (nI (zlast c p) &&& 31)
def mFiA (n c t m r : Nat) (M : zM) (p : Nat) (s : Int32) : Int32 := if zlen p = r ∧ mHas n c t m p = true ∧ ¬ M.1 (1000 + 16 * 21 + m) p = 0 then s ||| mBit c p else s
def mFiB (n c t m r : Nat) (M : zM) (p : Nat) (s : Int32) : Int32 := if 2 ≤ r ∧ zlen p = r - 1 ∧ mIsIn c p m = false ∧ nI (mMx c p n (mV M m p) n) < nI (n - r + 1) - nI t then s ||| mBit c p else s
def mFi1 (n c t m r : Nat) (M : zM) (p : Nat) (s : Int32) : Int32 := if mPath n c p then mFiB n c t m r M p (mFiA n c t m r M p s) else s
def mFi (n c t m r : Nat) (M : zM) : Nat → Int32
  | 0 => M.1 (1000 + 16 * 22 + m) (r - 1)
  | p + 1 => mFi1 n c t m r M p (mFi n c t m r M p)
def mFin (n c t r m : Nat) (M : zM) : zM := zw M (1000 + 16 * 22 + m) r (mFi n c t m r M 57)
set_option maxHeartbeats 1000000 in
theorem zc_finds (l : Launch) (G : zG) (M : zM) (n c t m r : Nat) (hn : M.1 300 9 = nI n) (hn7 : n ≤ 7) (hcm : M.1 300 17 = nI c) (hc7 : c < 7) (ht : M.1 300 10 = nI t) (ht2 : t ≤ 2) (h0 : 1 ≤ n) (hm : m < 7) (hr1 : 1 ≤ r) (hr3 : r ≤ 3) (hrn : r ≤ n) : zC l G 3 yX11_finds cX11_finds 5 (Option.none : Option Jvm.ClassFile.FieldType) [.ref (300 : Nat), .int (nI m), .int (nI r)] M (zP none (mFin n c t r m M)) := by
  refine zC_of (by decide) (Nat.le_of_ble_eq_true rfl) (fun X Q hQ hX hl hR hr => ?_)
  refine zV_loc (L' := [.ref (300 : Nat), .int (nI m), .int (nI r), .null, .null]) rfl ?_
  have L14 : ∀ (f9 p : Nat), 57 - p < f9 → p ≤ 57 → zV G X Q 5 0 0 14 [.ref (300 : Nat), .int (nI m), .int (nI r), .int (mFi n c t m r M p), .int (nI p)] [] M := by
    intro f9
    induction f9 with
    | zero => intro p hp1 hp2; exact absurd hp1 (Nat.not_lt_zero _)
    | succ f9 ih =>
      intro p hp1 hp2
      have J75 : p < 57 → mPath n c p = true → zV G X Q 5 0 0 75 [.ref (300 : Nat), .int (nI m), .int (nI r), .int (mFiA n c t m r M p (mFi n c t m r M p)), .int (nI p)] [] M := by
        intro c_18 e7
        refine zV_iload_n hX dX11_finds_75 rfl ?_
        refine zV_iconst hX (v := nI 2) dX11_finds_76 (by decide) ?_
        refine zV_icmp_ltN hX (tgt := 138) dX11_finds_77 (by decide) ⟨by omega, by omega⟩ (fun c_77 => ?_) (fun c_77 => ?_)
        · have e9 : mFi n c t m r M (p + 1) = (mFiA n c t m r M p (mFi n c t m r M p)) := by rw [mFi, mFi1, if_pos e7, mFiB, if_neg (fun q => by omega)]
          refine zV_iincN hX (b := 1) dX11_finds_138 rfl (by decide) ?_
          dsimp only [zst1, zst2, zclr, zc2]
          refine zV_goto hX (tgt := 14) dX11_finds_141 (by decide) ?_
          have h9 := ih (p + 1) (by omega) (by omega)
          rw [e9] at h9
          exact h9
        · refine zV_iload hX dX11_finds_80 rfl ?_
          refine zV_cS1p hX hR hl dX11_finds_82 (zc_lengthOf l G M p (by omega)) zt_X11_lengthOf rfl zml_X11_321 (by decide) (Nat.le_of_ble_eq_true rfl) ?_
          dsimp only [Option.toList, List.cons_append, List.nil_append]
          have hz := zlen_lt p
          refine zV_iload_n hX dX11_finds_85 rfl ?_
          refine zV_iconst hX (v := nI 1) dX11_finds_86 (by decide) ?_
          refine zV_isubN hX dX11_finds_87 (by omega) ?_
          refine zV_icmp_neN hX (tgt := 138) dX11_finds_88 (by decide) ⟨by omega, by omega⟩ (fun c_88 => ?_) (fun c_88 => ?_)
          · have e9 : mFi n c t m r M (p + 1) = (mFiA n c t m r M p (mFi n c t m r M p)) := by rw [mFi, mFi1, if_pos e7, mFiB, if_neg (fun q => c_88 q.2.1)]
            refine zV_iincN hX (b := 1) dX11_finds_138 rfl (by decide) ?_
            dsimp only [zst1, zst2, zclr, zc2]
            refine zV_goto hX (tgt := 14) dX11_finds_141 (by decide) ?_
            have h9 := ih (p + 1) (by omega) (by omega)
            rw [e9] at h9
            exact h9
          · have hp8 : p < 8 := zlen_8 (by omega)
            refine zV_aload_n hX dX11_finds_91 rfl ?_
            refine zV_iload hX dX11_finds_92 rfl ?_
            refine zV_iload_n hX dX11_finds_94 rfl ?_
            refine zV_cV2p hX hR hl dX11_finds_95 (zc_misIn l G M c p m hcm hc7 (by omega) hm) zt_X11_isIn rfl zml_X11_327 zo300.1 ⟨by decide, by decide⟩ (Nat.le_of_ble_eq_true rfl) ?_
            dsimp only [Option.toList, List.cons_append, List.nil_append]
            refine zV_if_eqB hX (tgt := 104) dX11_finds_98 (by decide) (fun c_98 => ?_) (fun c_98 => ?_)
            · refine zV_aload_n hX dX11_finds_104 rfl ?_
              refine zV_iload_n hX dX11_finds_105 rfl ?_
              refine zV_iload hX dX11_finds_106 rfl ?_
              refine zV_cV2p hX hR hl dX11_finds_108 (zc_mostTold l G M n c m p hn hn7 hcm hc7 hm hp8) zt_X11_mostTold rfl zml_X11_340 zo300.1 ⟨by decide, by decide⟩ (Nat.le_of_ble_eq_true rfl) ?_
              dsimp only [Option.toList, List.cons_append, List.nil_append]
              refine zV_aload_n hX dX11_finds_111 rfl ?_
              refine zV_geti hX dX11_finds_112 zf_X11_20 zo300.1 rfl (hn) ?_
              refine zV_iload_n hX dX11_finds_115 rfl ?_
              refine zV_isubN hX dX11_finds_116 (by omega) ?_
              refine zV_iconst hX (v := nI 1) dX11_finds_117 (by decide) ?_
              refine zV_iaddN hX dX11_finds_118 ?_
              refine zV_aload_n hX dX11_finds_119 rfl ?_
              refine zV_geti hX dX11_finds_120 zf_X11_23 zo300.1 rfl (ht) ?_
              refine zV_isub hX dX11_finds_123 ?_
              refine zV_icmp_ge hX (tgt := 138) dX11_finds_124 (by decide) (fun c_124 => ?_) (fun c_124 => ?_)
              · have e9 : mFi n c t m r M (p + 1) = (mFiA n c t m r M p (mFi n c t m r M p)) := by rw [mFi, mFi1, if_pos e7, mFiB, if_neg (fun q => absurd q.2.2.2 (Int32.not_lt.mpr c_124))]
                refine zV_iincN hX (b := 1) dX11_finds_138 rfl (by decide) ?_
                dsimp only [zst1, zst2, zclr, zc2]
                refine zV_goto hX (tgt := 14) dX11_finds_141 (by decide) ?_
                have h9 := ih (p + 1) (by omega) (by omega)
                rw [e9] at h9
                exact h9
              · have e9 : mFi n c t m r M (p + 1) = (mFiA n c t m r M p (mFi n c t m r M p)) ||| mBit c p := by rw [mFi, mFi1, if_pos e7, mFiB, if_pos ⟨by omega, c_88, c_98, Int32.not_le.mp c_124⟩]
                refine zV_iload_n hX dX11_finds_127 rfl ?_
                refine zV_iconst hX (v := nI 1) dX11_finds_128 (by decide) ?_
                refine zV_aload_n hX dX11_finds_129 rfl ?_
                refine zV_iload hX dX11_finds_130 rfl ?_
                refine zV_cV1p hX hR hl dX11_finds_132 (zc_mlastOf l G M c p hcm hc7 (by omega)) zt_X11_lastOf rfl zml_X11_334 zo300.1 ⟨by decide, by decide⟩ (Nat.le_of_ble_eq_true rfl) ?_
                dsimp only [Option.toList, List.cons_append, List.nil_append]
                refine zV_ishl hX dX11_finds_135 ?_
                refine zV_ior hX dX11_finds_136 ?_
                refine zV_istore_n hX dX11_finds_137 (by decide) ?_
                dsimp only [zst1, zst2, zclr, zc2]
                refine zV_iincN hX (b := 1) dX11_finds_138 rfl (by decide) ?_
                dsimp only [zst1, zst2, zclr, zc2]
                refine zV_goto hX (tgt := 14) dX11_finds_141 (by decide) ?_
                have h9 := ih (p + 1) (by omega) (by omega)
                rw [e9] at h9
                exact h9
            · have e9 : mFi n c t m r M (p + 1) = (mFiA n c t m r M p (mFi n c t m r M p)) := by rw [mFi, mFi1, if_pos e7, mFiB, if_neg (fun q => by rw [c_98] at q; exact absurd q.2.2.1 (by decide))]
              refine zV_goto hX (tgt := 138) dX11_finds_101 (by decide) ?_
              refine zV_iincN hX (b := 1) dX11_finds_138 rfl (by decide) ?_
              dsimp only [zst1, zst2, zclr, zc2]
              refine zV_goto hX (tgt := 14) dX11_finds_141 (by decide) ?_
              have h9 := ih (p + 1) (by omega) (by omega)
              rw [e9] at h9
              exact h9
      refine zV_iload hX dX11_finds_14 rfl ?_
      refine zV_bipush hX (v := nI 57) dX11_finds_16 (by decide) ?_
      refine zV_icmp_geN hX (tgt := 144) dX11_finds_18 (by decide) ⟨by omega, by omega⟩ (fun c_18 => ?_) (fun c_18 => ?_)
      · refine zV_aload_n hX dX11_finds_144 rfl ?_
        refine zV_geta hX dX11_finds_145 zf_X11_50 zo300.1 rfl ?_
        refine zV_iload_n hX dX11_finds_148 rfl ?_
        refine zV_aald hX dX11_finds_149 (t := 0) (zo300.a 22 rfl) (by decide) (rfl) ⟨by omega, by omega⟩ (mRow 22 (by decide)) ?_
        refine zV_iload_n hX dX11_finds_150 rfl ?_
        refine zV_iload_n hX dX11_finds_151 rfl ?_
        refine zV_iast hX dX11_finds_152 (mSh22 (by omega)) (rfl) ⟨by omega, by omega⟩ ?_
        exact zV_retv hX hQ hr (⟨rfl, by rw [show p = 57 by omega]; rfl⟩) dX11_finds_153
      · refine zV_aload_n hX dX11_finds_21 rfl ?_
        refine zV_iload hX dX11_finds_22 rfl ?_
        refine zV_cV1p hX hR hl dX11_finds_24 (zc_misPath l G M n c p hn hn7 hcm hc7 h0 (by omega)) zt_X11_isPath rfl zml_X11_324 zo300.1 ⟨by decide, by decide⟩ (Nat.le_of_ble_eq_true rfl) ?_
        dsimp only [Option.toList, List.cons_append, List.nil_append]
        refine zV_if_neB hX (tgt := 33) dX11_finds_27 (by decide) (fun c_27 => ?_) (fun c_27 => ?_)
        · have e7 := c_27
          refine zV_iload hX dX11_finds_33 rfl ?_
          refine zV_cS1p hX hR hl dX11_finds_35 (zc_lengthOf l G M p (by omega)) zt_X11_lengthOf rfl zml_X11_321 (by decide) (Nat.le_of_ble_eq_true rfl) ?_
          dsimp only [Option.toList, List.cons_append, List.nil_append]
          have hz := zlen_lt p
          refine zV_iload_n hX dX11_finds_38 rfl ?_
          refine zV_icmp_neN hX (tgt := 75) dX11_finds_39 (by decide) ⟨by omega, by omega⟩ (fun c_39 => ?_) (fun c_39 => ?_)
          · have e8 : (mFiA n c t m r M p (mFi n c t m r M p)) = (mFi n c t m r M p) := by unfold mFiA; rw [if_neg (fun q => c_39 q.1)]
            have h9 := J75 c_18 e7
            rw [e8] at h9
            exact h9
          · refine zV_aload_n hX dX11_finds_42 rfl ?_
            refine zV_iload_n hX dX11_finds_43 rfl ?_
            refine zV_iload hX dX11_finds_44 rfl ?_
            refine zV_cV2p hX hR hl dX11_finds_46 (zc_hasHeard l G M n c t m p hn hn7 hcm hc7 ht ht2 h0 hm (by omega)) zt_X11_hasHeard rfl zml_X11_337 zo300.1 ⟨by decide, by decide⟩ (Nat.le_of_ble_eq_true rfl) ?_
            dsimp only [Option.toList, List.cons_append, List.nil_append]
            refine zV_if_eqB hX (tgt := 75) dX11_finds_49 (by decide) (fun c_49 => ?_) (fun c_49 => ?_)
            · have e8 : (mFiA n c t m r M p (mFi n c t m r M p)) = (mFi n c t m r M p) := by unfold mFiA; rw [if_neg (fun q => by rw [c_49] at q; exact absurd q.2.1 (by decide))]
              have h9 := J75 c_18 e7
              rw [e8] at h9
              exact h9
            · refine zV_aload_n hX dX11_finds_52 rfl ?_
              refine zV_geta hX dX11_finds_53 zf_X11_47 zo300.1 rfl ?_
              refine zV_iload_n hX dX11_finds_56 rfl ?_
              refine zV_aald hX dX11_finds_57 (t := 1) (zo300.a 21 rfl) (by decide) (rfl) ⟨by omega, by omega⟩ (mRow 21 (by decide)) ?_
              refine zV_iload hX dX11_finds_58 rfl ?_
              refine zV_zald hX dX11_finds_60 (mSh21 (by omega)) (rfl) ⟨by omega, by omega⟩ (rfl) ?_
              refine zV_if_eq hX (tgt := 75) dX11_finds_61 (by decide) (fun c_61 => ?_) (fun c_61 => ?_)
              · have e8 : (mFiA n c t m r M p (mFi n c t m r M p)) = (mFi n c t m r M p) := by unfold mFiA; rw [if_neg (fun q => q.2.2 c_61)]
                have h9 := J75 c_18 e7
                rw [e8] at h9
                exact h9
              · have e8 : (mFiA n c t m r M p (mFi n c t m r M p)) = (mFi n c t m r M p) ||| mBit c p := by unfold mFiA; rw [if_pos ⟨c_39, c_49, c_61⟩]
                refine zV_iload_n hX dX11_finds_64 rfl ?_
                refine zV_iconst hX (v := nI 1) dX11_finds_65 (by decide) ?_
                refine zV_aload_n hX dX11_finds_66 rfl ?_
                refine zV_iload hX dX11_finds_67 rfl ?_
                refine zV_cV1p hX hR hl dX11_finds_69 (zc_mlastOf l G M c p hcm hc7 (by omega)) zt_X11_lastOf rfl zml_X11_334 zo300.1 ⟨by decide, by decide⟩ (Nat.le_of_ble_eq_true rfl) ?_
                dsimp only [Option.toList, List.cons_append, List.nil_append]
                refine zV_ishl hX dX11_finds_72 ?_
                refine zV_ior hX dX11_finds_73 ?_
                refine zV_istore_n hX dX11_finds_74 (by decide) ?_
                dsimp only [zst1, zst2, zclr, zc2]
                have h9 := J75 c_18 e7
                rw [e8] at h9
                exact h9
        · have e9 : mFi n c t m r M (p + 1) = (mFi n c t m r M p) := by rw [mFi, mFi1, if_neg (by rw [c_27]; decide)]
          refine zV_goto hX (tgt := 138) dX11_finds_30 (by decide) ?_
          refine zV_iincN hX (b := 1) dX11_finds_138 rfl (by decide) ?_
          dsimp only [zst1, zst2, zclr, zc2]
          refine zV_goto hX (tgt := 14) dX11_finds_141 (by decide) ?_
          have h9 := ih (p + 1) (by omega) (by omega)
          rw [e9] at h9
          exact h9
  refine zV_aload_n hX dX11_finds_0 rfl ?_
  refine zV_geta hX dX11_finds_1 zf_X11_50 zo300.1 rfl ?_
  refine zV_iload_n hX dX11_finds_4 rfl ?_
  refine zV_aald hX dX11_finds_5 (t := 0) (zo300.a 22 rfl) (by decide) (rfl) ⟨by omega, by omega⟩ (mRow 22 (by decide)) ?_
  refine zV_iload_n hX dX11_finds_6 rfl ?_
  refine zV_iconst hX (v := nI 1) dX11_finds_7 (by decide) ?_
  refine zV_isubN hX dX11_finds_8 (by omega) ?_
  refine zV_iald hX dX11_finds_9 (mSh22 (by omega)) (rfl) ⟨by omega, by omega⟩ (rfl) ?_
  refine zV_istore_n hX dX11_finds_10 (by decide) ?_
  dsimp only [zst1, zst2, zclr, zc2]
  refine zV_iconst hX (v := nI 0) dX11_finds_11 (by decide) ?_
  refine zV_istore hX dX11_finds_12 (by decide) ?_
  dsimp only [zst1, zst2, zclr, zc2]
  exact L14 58 0 (by omega) (by omega)
