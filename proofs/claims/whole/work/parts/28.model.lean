-- THE MODEL (reference), at 300
theorem zo300 : zOb 9 300 := zOb_of (by decide +kernel) (by decide +kernel)
theorem mRow {i : Nat} (k : Nat) (h : (decide (k < 64) && !decide (k = 14)) = true) : zCh (300 + 1 + k) i = 1000 + 16 * k + i := by
  simp only [Bool.and_eq_true, decide_eq_true_eq, Bool.not_eq_true', decide_eq_false_iff_not] at h
  unfold zCh
  rw [if_neg (by omega), if_pos (by omega)]
  omega
theorem mLieA {i : Nat} : zCh (300 + 1 + 14) i = 3000 + i := rfl
theorem mLieB {k m : Nat} (h : k < 2) : zCh (3000 + k) m = 3010 + 7 * k + m := by
  unfold zCh
  rw [if_neg (by omega), if_neg (by omega), if_pos (by omega)]
  omega
theorem mLieC {k m j : Nat} (h : k < 2) (hm : m < 7) : zCh (3010 + 7 * k + m) j = 3100 + 13 * (7 * k + m) + j := by
  unfold zCh
  rw [if_neg (by omega), if_neg (by omega), if_neg (by omega)]
  omega
theorem mShA {k : Nat} (h : k < 2) : zSh (3000 + k) = (27, 7) := by
  unfold zSh
  rw [if_neg (by omega), if_neg (by omega), if_pos (by omega)]
theorem mShB {k m : Nat} (h : k < 2) (hm : m < 7) : zSh (3010 + 7 * k + m) = (24, 13) := by
  unfold zSh
  rw [if_neg (by omega), if_neg (by omega), if_neg (by omega), if_pos (by omega)]
theorem mShC {k m j : Nat} (h : k < 2) (hm : m < 7) (hj : j < 13) : zSh (3100 + 13 * (7 * k + m) + j) = (20, 6) := by
  unfold zSh
  rw [if_neg (by omega), if_neg (by omega), if_neg (by omega), if_neg (by omega), if_pos (by omega)]
theorem mSh13a : ∀ i, i < 2 → zSh (1000 + 16 * 13 + i) = (20, 7) := by decide +kernel
theorem mSh13 {i : Nat} (h : i < 2) : zSh (1000 + 16 * 13 + i) = (20, 7) := mSh13a i h
theorem mSh20a : ∀ i, i < 7 → zSh (1000 + 16 * 20 + i) = (20, 57) := by decide +kernel
theorem mSh20 {i : Nat} (h : i < 7) : zSh (1000 + 16 * 20 + i) = (20, 57) := mSh20a i h
theorem mSh21a : ∀ i, i < 7 → zSh (1000 + 16 * 21 + i) = (21, 57) := by decide +kernel
theorem mSh21 {i : Nat} (h : i < 7) : zSh (1000 + 16 * 21 + i) = (21, 57) := mSh21a i h
theorem mSh22a : ∀ i, i < 7 → zSh (1000 + 16 * 22 + i) = (20, 5) := by decide +kernel
theorem mSh22 {i : Nat} (h : i < 7) : zSh (1000 + 16 * 22 + i) = (20, 5) := mSh22a i h
theorem mSh34a : ∀ i, i < 7 → zSh (1000 + 16 * 34 + i) = (20, 60) := by decide +kernel
theorem mSh34 {i : Nat} (h : i < 7) : zSh (1000 + 16 * 34 + i) = (20, 60) := mSh34a i h
theorem mSh35a : ∀ i, i < 7 → zSh (1000 + 16 * 35 + i) = (20, 60) := by decide +kernel
theorem mSh35 {i : Nat} (h : i < 7) : zSh (1000 + 16 * 35 + i) = (20, 60) := mSh35a i h
theorem mSh36a : ∀ i, i < 7 → zSh (1000 + 16 * 36 + i) = (20, 60) := by decide +kernel
theorem mSh36 {i : Nat} (h : i < 7) : zSh (1000 + 16 * 36 + i) = (20, 60) := mSh36a i h
theorem mSh37a : ∀ i, i < 7 → zSh (1000 + 16 * 37 + i) = (20, 60) := by decide +kernel
theorem mSh37 {i : Nat} (h : i < 7) : zSh (1000 + 16 * 37 + i) = (20, 60) := mSh37a i h
theorem mSh49a : ∀ i, i < 7 → zSh (1000 + 16 * 49 + i) = (20, 7) := by decide +kernel
theorem mSh49 {i : Nat} (h : i < 7) : zSh (1000 + 16 * 49 + i) = (20, 7) := mSh49a i h
theorem mSh50a : ∀ i, i < 7 → zSh (1000 + 16 * 50 + i) = (20, 7) := by decide +kernel
theorem mSh50 {i : Nat} (h : i < 7) : zSh (1000 + 16 * 50 + i) = (20, 7) := mSh50a i h
theorem mSh51a : ∀ i, i < 7 → zSh (1000 + 16 * 51 + i) = (21, 7) := by decide +kernel
theorem mSh51 {i : Nat} (h : i < 7) : zSh (1000 + 16 * 51 + i) = (21, 7) := mSh51a i h
theorem mSh52a : ∀ i, i < 7 → zSh (1000 + 16 * 52 + i) = (21, 7) := by decide +kernel
theorem mSh52 {i : Nat} (h : i < 7) : zSh (1000 + 16 * 52 + i) = (21, 7) := mSh52a i h
theorem zw_zw {M : zM} {c k : Nat} {x y : Int32} : zw (zw M c k x) c k y = zw M c k y := by
  unfold zw
  refine Prod.ext (funext fun a => ?_) rfl
  show (if a = c then upd (if c = c then upd (M.1 c) k x else M.1 c) k y else (if a = c then upd (M.1 c) k x else M.1 a)) = (if a = c then upd (M.1 c) k y else M.1 a)
  split
  · funext i
    simp only [upd]
    split
    · rfl
    · rename_i h; exact if_neg h
  · rfl
def mIn (v a b : Int32) : Bool := decide (a ≤ v) && decide (v ≤ b)
def mBad (b : Bool) (w r : Int32) (M : zM) : zM := if b = true ∧ M.1 300 0 = 0 then zw (zw M 300 0 w) 302 r.toNatClampNeg (M.1 302 r.toNatClampNeg + nI 1) else M
set_option maxHeartbeats 1000000 in
theorem zc_mthrown (l : Launch) (G : zG) (M : zM)  : zC l G 0 yX11_thrown cX11_thrown 1 (Option.some Jvm.ClassFile.FieldType.int) [.ref (300 : Nat)] M (zP (some (.int (M.1 300 0))) M) := by
  refine zC_of (by decide) (Nat.le_of_ble_eq_true rfl) (fun X Q hQ hX hl hR hr => ?_)
  refine zV_loc (L' := [.ref (300 : Nat)]) rfl ?_
  refine zV_aload_n hX dX11_thrown_0 rfl ?_
  refine zV_geti hX dX11_thrown_1 zf_X11_149 zo300.1 rfl rfl ?_
  exact zV_reti hX hQ hr (⟨rfl, rfl⟩) dX11_thrown_4
set_option maxHeartbeats 1000000 in
theorem zc_min (l : Launch) (G : zG) (M : zM) (v a b : Int32) : zC l G 0 yX11_in cX11_in 3 (Option.some Jvm.ClassFile.FieldType.boolean) [.int v, .int a, .int b] M (zP (some (.int (zb (mIn v a b)))) M) := by
  refine zC_of (by decide) (Nat.le_of_ble_eq_true rfl) (fun X Q hQ hX hl hR hr => ?_)
  refine zV_loc (L' := [.int v, .int a, .int b]) rfl ?_
  refine zV_iload_n hX dX11_in_0 rfl ?_
  refine zV_iload_n hX dX11_in_1 rfl ?_
  refine zV_icmp_lt hX (tgt := 14) dX11_in_2 (by decide) (fun c_2 => ?_) (fun c_2 => ?_)
  · have e9 : mIn v a b = false := by simp only [mIn, decide_eq_false (Int32.not_le.mpr c_2), Bool.false_and]
    refine zV_iconst hX (v := nI 0) dX11_in_14 (by decide) ?_
    exact zV_retz hX hQ hr (rfl) (⟨by rw [e9]; rfl, rfl⟩) dX11_in_15
  · refine zV_iload_n hX dX11_in_5 rfl ?_
    refine zV_iload_n hX dX11_in_6 rfl ?_
    refine zV_icmp_gt hX (tgt := 14) dX11_in_7 (by decide) (fun c_7 => ?_) (fun c_7 => ?_)
    · have e9 : mIn v a b = false := by simp only [mIn, decide_eq_false (Int32.not_le.mpr c_7), Bool.and_false]
      refine zV_iconst hX (v := nI 0) dX11_in_14 (by decide) ?_
      exact zV_retz hX hQ hr (rfl) (⟨by rw [e9]; rfl, rfl⟩) dX11_in_15
    · have e9 : mIn v a b = true := by simp only [mIn, decide_eq_true (Int32.not_lt.mp c_2), decide_eq_true (Int32.not_lt.mp c_7), Bool.and_true]
      refine zV_iconst hX (v := nI 1) dX11_in_10 (by decide) ?_
      refine zV_goto hX (tgt := 15) dX11_in_11 (by decide) ?_
      exact zV_retz hX hQ hr (rfl) (⟨by rw [e9]; rfl, rfl⟩) dX11_in_15
def mLess (a b : Int32) : Int32 := if b ≤ a then b else a
set_option maxHeartbeats 1000000 in
theorem zc_less (l : Launch) (G : zG) (M : zM) (a b : Int32) : zC l G 0 yX11_less cX11_less 2 (Option.some Jvm.ClassFile.FieldType.int) [.int a, .int b] M (zP (some (.int (mLess a b))) M) := by
  refine zC_of (by decide) (Nat.le_of_ble_eq_true rfl) (fun X Q hQ hX hl hR hr => ?_)
  refine zV_loc (L' := [.int a, .int b]) rfl ?_
  refine zV_iload_n hX dX11_less_0 rfl ?_
  refine zV_iload_n hX dX11_less_1 rfl ?_
  refine zV_icmp_ge hX (tgt := 9) dX11_less_2 (by decide) (fun c_2 => ?_) (fun c_2 => ?_)
  · refine zV_iload_n hX dX11_less_9 rfl ?_
    exact zV_reti hX hQ hr (⟨by unfold mLess; first | rw [if_pos c_2] | rw [if_neg c_2], rfl⟩) dX11_less_10
  · refine zV_iload_n hX dX11_less_5 rfl ?_
    refine zV_goto hX (tgt := 10) dX11_less_6 (by decide) ?_
    exact zV_reti hX hQ hr (⟨by unfold mLess; first | rw [if_pos c_2] | rw [if_neg c_2], rfl⟩) dX11_less_10
theorem mBad_0 {b : Bool} {w r : Int32} {M : zM} : (mBad b w r M).1 300 0 = if b = true ∧ M.1 300 0 = 0 then w else M.1 300 0 := by
  unfold mBad
  split
  · rw [zw_ne (by omega), zw_same]
  · rfl
set_option maxHeartbeats 1000000 in
theorem zc_bad0 (l : Launch) (G : zG) (M : zM) (b : Bool) (w : Int32) : zC l G 0 yX11_bad cX11_bad 4 (Option.some Jvm.ClassFile.FieldType.boolean) [.ref (300 : Nat), .int (zb b), .int w, .int (nI 0)] M (zP (some (.int (zb (!decide ((mBad b w (nI 0) M).1 300 0 = 0))))) (mBad b w (nI 0) M)) := by
  refine zC_of (by decide) (Nat.le_of_ble_eq_true rfl) (fun X Q hQ hX hl hR hr => ?_)
  refine zV_loc (L' := [.ref (300 : Nat), .int (zb b), .int w, .int (nI 0)]) rfl ?_
  have J26 : zV G X Q 4 0 0 26 [.ref (300 : Nat), .int (zb b), .int w, .int (nI 0)] [] (mBad b w (nI 0) M) := by
    refine zV_aload_n hX dX11_bad_26 rfl ?_
    refine zV_geti hX dX11_bad_27 zf_X11_149 zo300.1 rfl rfl ?_
    refine zV_if_eq hX (tgt := 37) dX11_bad_30 (by decide) (fun c_30 => ?_) (fun c_30 => ?_)
    · have e8 := c_30
      refine zV_iconst hX (v := nI 0) dX11_bad_37 (by decide) ?_
      exact zV_retz hX hQ hr (rfl) (⟨by simp [zb, e8], rfl⟩) dX11_bad_38
    · have e8 := c_30
      refine zV_iconst hX (v := nI 1) dX11_bad_33 (by decide) ?_
      refine zV_goto hX (tgt := 38) dX11_bad_34 (by decide) ?_
      exact zV_retz hX hQ hr (rfl) (⟨by simp [zb, e8], rfl⟩) dX11_bad_38
  refine zV_iload_n hX dX11_bad_0 rfl ?_
  refine zV_if_eqB hX (tgt := 26) dX11_bad_1 (by decide) (fun c_1 => ?_) (fun c_1 => ?_)
  · have e9 : mBad b w (nI 0) M = M := if_neg (fun q => by rw [c_1] at q; exact absurd q.1 (by decide))
    exact zV_mem e9.symm J26
  · refine zV_aload_n hX dX11_bad_4 rfl ?_
    refine zV_geti hX dX11_bad_5 zf_X11_149 zo300.1 rfl rfl ?_
    refine zV_if_ne hX (tgt := 26) dX11_bad_8 (by decide) (fun c_8 => ?_) (fun c_8 => ?_)
    · have e9 : mBad b w (nI 0) M = M := if_neg (fun q => c_8 q.2)
      exact zV_mem e9.symm J26
    · have e9 : mBad b w (nI 0) M = zw (zw M 300 0 w) (300 + 1 + 1) 0 (M.1 (300 + 1 + 1) 0 + nI 1) := if_pos ⟨c_1, c_8⟩
      refine zV_aload_n hX dX11_bad_11 rfl ?_
      refine zV_iload_n hX dX11_bad_12 rfl ?_
      refine zV_puti hX dX11_bad_13 zf_X11_149 zp_9_0 zo300.1 rfl ?_
      refine zV_aload_n hX dX11_bad_16 rfl ?_
      refine zV_geta hX dX11_bad_17 zf_X11_7 zo300.1 rfl ?_
      refine zV_iload_n hX dX11_bad_20 rfl ?_
      refine zV_dup2 hX dX11_bad_21 rfl rfl ?_
      refine zV_iald hX (v := M.1 (300 + 1 + 1) 0) dX11_bad_22 (zo300.a 1 rfl) (rfl) ⟨by decide, by omega⟩ (by rw [zw_ne (by omega)]) ?_
      refine zV_iconst hX (v := nI 1) dX11_bad_23 (by decide) ?_
      refine zV_iadd hX dX11_bad_24 ?_
      refine zV_iast hX dX11_bad_25 (zo300.a 1 rfl) (rfl) ⟨by decide, by omega⟩ ?_
      exact zV_mem e9.symm J26
set_option maxHeartbeats 1000000 in
theorem zc_bad1 (l : Launch) (G : zG) (M : zM) (b : Bool) (w : Int32) : zC l G 0 yX11_bad cX11_bad 4 (Option.some Jvm.ClassFile.FieldType.boolean) [.ref (300 : Nat), .int (zb b), .int w, .int (nI 1)] M (zP (some (.int (zb (!decide ((mBad b w (nI 1) M).1 300 0 = 0))))) (mBad b w (nI 1) M)) := by
  refine zC_of (by decide) (Nat.le_of_ble_eq_true rfl) (fun X Q hQ hX hl hR hr => ?_)
  refine zV_loc (L' := [.ref (300 : Nat), .int (zb b), .int w, .int (nI 1)]) rfl ?_
  have J26 : zV G X Q 4 0 0 26 [.ref (300 : Nat), .int (zb b), .int w, .int (nI 1)] [] (mBad b w (nI 1) M) := by
    refine zV_aload_n hX dX11_bad_26 rfl ?_
    refine zV_geti hX dX11_bad_27 zf_X11_149 zo300.1 rfl rfl ?_
    refine zV_if_eq hX (tgt := 37) dX11_bad_30 (by decide) (fun c_30 => ?_) (fun c_30 => ?_)
    · have e8 := c_30
      refine zV_iconst hX (v := nI 0) dX11_bad_37 (by decide) ?_
      exact zV_retz hX hQ hr (rfl) (⟨by simp [zb, e8], rfl⟩) dX11_bad_38
    · have e8 := c_30
      refine zV_iconst hX (v := nI 1) dX11_bad_33 (by decide) ?_
      refine zV_goto hX (tgt := 38) dX11_bad_34 (by decide) ?_
      exact zV_retz hX hQ hr (rfl) (⟨by simp [zb, e8], rfl⟩) dX11_bad_38
  refine zV_iload_n hX dX11_bad_0 rfl ?_
  refine zV_if_eqB hX (tgt := 26) dX11_bad_1 (by decide) (fun c_1 => ?_) (fun c_1 => ?_)
  · have e9 : mBad b w (nI 1) M = M := if_neg (fun q => by rw [c_1] at q; exact absurd q.1 (by decide))
    exact zV_mem e9.symm J26
  · refine zV_aload_n hX dX11_bad_4 rfl ?_
    refine zV_geti hX dX11_bad_5 zf_X11_149 zo300.1 rfl rfl ?_
    refine zV_if_ne hX (tgt := 26) dX11_bad_8 (by decide) (fun c_8 => ?_) (fun c_8 => ?_)
    · have e9 : mBad b w (nI 1) M = M := if_neg (fun q => c_8 q.2)
      exact zV_mem e9.symm J26
    · have e9 : mBad b w (nI 1) M = zw (zw M 300 0 w) (300 + 1 + 1) 1 (M.1 (300 + 1 + 1) 1 + nI 1) := if_pos ⟨c_1, c_8⟩
      refine zV_aload_n hX dX11_bad_11 rfl ?_
      refine zV_iload_n hX dX11_bad_12 rfl ?_
      refine zV_puti hX dX11_bad_13 zf_X11_149 zp_9_0 zo300.1 rfl ?_
      refine zV_aload_n hX dX11_bad_16 rfl ?_
      refine zV_geta hX dX11_bad_17 zf_X11_7 zo300.1 rfl ?_
      refine zV_iload_n hX dX11_bad_20 rfl ?_
      refine zV_dup2 hX dX11_bad_21 rfl rfl ?_
      refine zV_iald hX (v := M.1 (300 + 1 + 1) 1) dX11_bad_22 (zo300.a 1 rfl) (rfl) ⟨by decide, by omega⟩ (by rw [zw_ne (by omega)]) ?_
      refine zV_iconst hX (v := nI 1) dX11_bad_23 (by decide) ?_
      refine zV_iadd hX dX11_bad_24 ?_
      refine zV_iast hX dX11_bad_25 (zo300.a 1 rfl) (rfl) ⟨by decide, by omega⟩ ?_
      exact zV_mem e9.symm J26
def mEmp (k : Nat) (M : zM) : zM := zfor (fun i M => zw M (1000 + 16 * 13 + k) i (-1)) 7 M
set_option maxHeartbeats 1000000 in
theorem zc_empties (l : Launch) (G : zG) (M : zM) (k : Nat) (hk : k < 2) : zC l G 0 yX11_empties cX11_empties 3 (Option.none : Option Jvm.ClassFile.FieldType) [.ref (300 : Nat), .int (nI k)] M (zP none (mEmp k M)) := by
  refine zC_of (by decide) (Nat.le_of_ble_eq_true rfl) (fun X Q hQ hX hl hR hr => ?_)
  refine zV_loc (L' := [.ref (300 : Nat), .int (nI k), .null]) rfl ?_
  have L2 : ∀ (f9 i : Nat), 7 - i < f9 → i ≤ 7 → zV G X Q 3 0 0 2 [.ref (300 : Nat), .int (nI k), .int (nI i)] [] (zfor (fun i M => zw M (1000 + 16 * 13 + k) i (-1)) i M) := by
    intro f9
    induction f9 with
    | zero => intro i hk1 hk2; exact absurd hk1 (Nat.not_lt_zero _)
    | succ f9 ih =>
      intro i hk1 hk2
      refine zV_iload_n hX dX11_empties_2 rfl ?_
      refine zV_bipush hX (v := nI 7) dX11_empties_3 (by decide) ?_
      refine zV_icmp_geN hX (tgt := 23) dX11_empties_5 (by decide) ⟨by omega, by omega⟩ (fun c_5 => ?_) (fun c_5 => ?_)
      · exact zV_retv hX hQ hr (⟨rfl, by rw [show i = 7 by omega]; rfl⟩) dX11_empties_23
      · refine zV_aload_n hX dX11_empties_8 rfl ?_
        refine zV_geta hX dX11_empties_9 zf_X11_31 zo300.1 rfl ?_
        refine zV_iload_n hX dX11_empties_12 rfl ?_
        refine zV_aald hX dX11_empties_13 (t := 0) (zo300.a 13 rfl) (by decide) (rfl) ⟨by omega, by omega⟩ (mRow 13 (by decide)) ?_
        refine zV_iload_n hX dX11_empties_14 rfl ?_
        refine zV_iconst hX (v := (-1)) dX11_empties_15 (by decide) ?_
        refine zV_iast hX dX11_empties_16 (mSh13 (by omega)) (rfl) ⟨by omega, by omega⟩ ?_
        refine zV_iincN hX (b := 1) dX11_empties_17 rfl (by decide) ?_
        dsimp only [zst1, zst2, zclr, zc2]
        refine zV_goto hX (tgt := 2) dX11_empties_20 (by decide) ?_
        exact ih (i + 1) (by omega) (by omega)
  refine zV_iconst hX (v := nI 0) dX11_empties_0 (by decide) ?_
  refine zV_istore_n hX dX11_empties_1 (by decide) ?_
  dsimp only [zst1, zst2, zclr, zc2]
  exact L2 8 0 (by omega) (by omega)
theorem mIn_mem {v : Int32} {n : Nat} (h0 : 1 ≤ n) (hn : n < 2 ^ 31) : mIn v (nI 0) (nI n - nI 1) = zmem v n := by
  rw [show nI n - nI 1 = nI (n - 1) from pk_sub h0]
  unfold mIn zmem
  have e1 : decide (nI 0 ≤ v) = !decide (v < 0) := by
    show decide ((0 : Int32) ≤ v) = _
    by_cases h : v < 0
    · rw [decide_eq_true h, decide_eq_false (Int32.not_le.mpr h)]; rfl
    · rw [decide_eq_false h, decide_eq_true (Int32.not_lt.mp h)]; rfl
  rw [e1]
  by_cases h : v < 0
  · rw [decide_eq_true h]; rfl
  · obtain ⟨j, hj, rfl⟩ := nI_of h
    congr 1
    have h1 := nI_leI (a := j) (b := n - 1) hj (by omega)
    have h2 := nI_leI (a := n) (b := j) hn hj
    by_cases h3 : j ≤ n - 1
    · rw [decide_eq_true (h1.mpr h3), decide_eq_false (fun q => by have := h2.mp q; omega)]; rfl
    · rw [decide_eq_false (fun q => h3 (h1.mp q)), decide_eq_true (h2.mpr (by omega))]; rfl
set_option maxHeartbeats 1000000 in
theorem zc_isMember (l : Launch) (G : zG) (M : zM) (n : Nat) (m : Int32) (hn : M.1 300 9 = nI n) (hn7 : n ≤ 7) (h0 : 1 ≤ n) : zC l G 1 yX11_isMember cX11_isMember 2 (Option.some Jvm.ClassFile.FieldType.boolean) [.ref (300 : Nat), .int m] M (zP (some (.int (zb (zmem m n)))) M) := by
  refine zC_of (by decide) (Nat.le_of_ble_eq_true rfl) (fun X Q hQ hX hl hR hr => ?_)
  refine zV_loc (L' := [.ref (300 : Nat), .int m]) rfl ?_
  refine zV_iload_n hX dX11_isMember_0 rfl ?_
  refine zV_iconst hX (v := nI 0) dX11_isMember_1 (by decide) ?_
  refine zV_aload_n hX dX11_isMember_2 rfl ?_
  refine zV_geti hX dX11_isMember_3 zf_X11_20 zo300.1 rfl (hn) ?_
  refine zV_iconst hX (v := nI 1) dX11_isMember_6 (by decide) ?_
  refine zV_isub hX dX11_isMember_7 ?_
  refine zV_cS3p hX hR hl dX11_isMember_8 (zc_min l G M _ _ _) zt_X11_in rfl zml_X11_162 (by decide) (Nat.le_of_ble_eq_true rfl) ?_
  dsimp only [Option.toList, List.cons_append, List.nil_append]
  exact zV_retz hX hQ hr (zb_nar _) (⟨by rw [mIn_mem h0 (by omega)], rfl⟩) dX11_isMember_11
def mLiar (M : zM) (m : Nat) : Bool := !decide (M.1 (1000 + 16 * 13 + 0) m = -1)
set_option maxHeartbeats 1000000 in
theorem zc_misLiar (l : Launch) (G : zG) (M : zM) (m : Nat) (hm : m < 7) : zC l G 0 yX11_isLiar cX11_isLiar 2 (Option.some Jvm.ClassFile.FieldType.boolean) [.ref (300 : Nat), .int (nI m)] M (zP (some (.int (zb (mLiar M m)))) M) := by
  refine zC_of (by decide) (Nat.le_of_ble_eq_true rfl) (fun X Q hQ hX hl hR hr => ?_)
  refine zV_loc (L' := [.ref (300 : Nat), .int (nI m)]) rfl ?_
  refine zV_aload_n hX dX11_isLiar_0 rfl ?_
  refine zV_geta hX dX11_isLiar_1 zf_X11_31 zo300.1 rfl ?_
  refine zV_iconst hX (v := nI 0) dX11_isLiar_4 (by decide) ?_
  refine zV_aald hX dX11_isLiar_5 (t := 0) (zo300.a 13 rfl) (by decide) (rfl) ⟨by omega, by omega⟩ (mRow 13 (by decide)) ?_
  refine zV_iload_n hX dX11_isLiar_6 rfl ?_
  refine zV_iald hX dX11_isLiar_7 (mSh13 (by omega)) (rfl) ⟨by omega, by omega⟩ (rfl) ?_
  refine zV_iconst hX (v := (-1)) dX11_isLiar_8 (by decide) ?_
  refine zV_icmp_eq hX (tgt := 16) dX11_isLiar_9 (by decide) (fun c_9 => ?_) (fun c_9 => ?_)
  · refine zV_iconst hX (v := nI 0) dX11_isLiar_16 (by decide) ?_
    exact zV_retz hX hQ hr (rfl) (⟨by simp [zb, mLiar, c_9], rfl⟩) dX11_isLiar_17
  · refine zV_iconst hX (v := nI 1) dX11_isLiar_12 (by decide) ?_
    refine zV_goto hX (tgt := 17) dX11_isLiar_13 (by decide) ?_
    exact zV_retz hX hQ hr (rfl) (⟨by simp [zb, mLiar, c_9], rfl⟩) dX11_isLiar_17
set_option maxHeartbeats 1000000 in
theorem zc_fine (l : Launch) (G : zG) (M : zM)  : zC l G 0 yX11_fine cX11_fine 1 (Option.some Jvm.ClassFile.FieldType.boolean) [.ref (300 : Nat)] M (zP (some (.int (zb (decide (M.1 300 6 = 0))))) M) := by
  refine zC_of (by decide) (Nat.le_of_ble_eq_true rfl) (fun X Q hQ hX hl hR hr => ?_)
  refine zV_loc (L' := [.ref (300 : Nat)]) rfl ?_
  refine zV_aload_n hX dX11_fine_0 rfl ?_
  refine zV_geti hX dX11_fine_1 zf_X11_202 zo300.1 rfl rfl ?_
  refine zV_if_ne hX (tgt := 11) dX11_fine_4 (by decide) (fun c_4 => ?_) (fun c_4 => ?_)
  · refine zV_iconst hX (v := nI 0) dX11_fine_11 (by decide) ?_
    exact zV_retz hX hQ hr (rfl) (⟨by simp [zb, c_4], rfl⟩) dX11_fine_12
  · refine zV_iconst hX (v := nI 1) dX11_fine_7 (by decide) ?_
    refine zV_goto hX (tgt := 12) dX11_fine_8 (by decide) ?_
    exact zV_retz hX hQ hr (rfl) (⟨by simp [zb, c_4], rfl⟩) dX11_fine_12
def mWr (w p : Int32) (M : zM) : zM := if M.1 300 6 = 0 then zw (zw M 300 6 w) 300 7 p else M
set_option maxHeartbeats 1000000 in
theorem zc_wrong (l : Launch) (G : zG) (M : zM) (w p : Int32) : zC l G 0 yX11_wrong cX11_wrong 3 (Option.none : Option Jvm.ClassFile.FieldType) [.ref (300 : Nat), .int w, .int p] M (zP none (mWr w p M)) := by
  refine zC_of (by decide) (Nat.le_of_ble_eq_true rfl) (fun X Q hQ hX hl hR hr => ?_)
  refine zV_loc (L' := [.ref (300 : Nat), .int w, .int p]) rfl ?_
  refine zV_aload_n hX dX11_wrong_0 rfl ?_
  refine zV_geti hX dX11_wrong_1 zf_X11_202 zo300.1 rfl rfl ?_
  refine zV_if_ne hX (tgt := 17) dX11_wrong_4 (by decide) (fun c_4 => ?_) (fun c_4 => ?_)
  · have e9 : mWr w p M = M := if_neg c_4
    exact zV_retv hX hQ hr (⟨rfl, e9.symm⟩) dX11_wrong_17
  · have e9 : mWr w p M = zw (zw M 300 6 w) 300 7 p := if_pos c_4
    refine zV_aload_n hX dX11_wrong_7 rfl ?_
    refine zV_iload_n hX dX11_wrong_8 rfl ?_
    refine zV_puti hX dX11_wrong_9 zf_X11_202 zp_9_6 zo300.1 rfl ?_
    refine zV_aload_n hX dX11_wrong_12 rfl ?_
    refine zV_iload_n hX dX11_wrong_13 rfl ?_
    refine zV_puti hX dX11_wrong_14 zf_X11_205 zp_9_7 zo300.1 rfl ?_
    exact zV_retv hX hQ hr (⟨rfl, e9.symm⟩) dX11_wrong_17
set_option maxHeartbeats 1000000 in
theorem zc_misDigit (l : Launch) (G : zG) (M : zM) (v : Int32) : zC l G 0 yX11_isDigit cX11_isDigit 1 (Option.some Jvm.ClassFile.FieldType.boolean) [.int v] M (zP (some (.int (zb (tdg v)))) M) := by
  refine zC_of (by decide) (Nat.le_of_ble_eq_true rfl) (fun X Q hQ hX hl hR hr => ?_)
  refine zV_loc (L' := [.int v]) rfl ?_
  refine zV_iload_n hX dX11_isDigit_0 rfl ?_
  refine zV_bipush hX (v := nI 48) dX11_isDigit_1 (by decide) ?_
  refine zV_icmp_lt hX (tgt := 16) dX11_isDigit_3 (by decide) (fun c_3 => ?_) (fun c_3 => ?_)
  · have e9 : tdg v = false := by simp only [tdg, decide_eq_false (Int32.not_le.mpr c_3), Bool.false_and]
    refine zV_iconst hX (v := nI 0) dX11_isDigit_16 (by decide) ?_
    exact zV_retz hX hQ hr (rfl) (⟨by rw [e9]; rfl, rfl⟩) dX11_isDigit_17
  · refine zV_iload_n hX dX11_isDigit_6 rfl ?_
    refine zV_bipush hX (v := nI 57) dX11_isDigit_7 (by decide) ?_
    refine zV_icmp_gt hX (tgt := 16) dX11_isDigit_9 (by decide) (fun c_9 => ?_) (fun c_9 => ?_)
    · have e9 : tdg v = false := by simp only [tdg, decide_eq_false (Int32.not_le.mpr c_9), Bool.and_false]
      refine zV_iconst hX (v := nI 0) dX11_isDigit_16 (by decide) ?_
      exact zV_retz hX hQ hr (rfl) (⟨by rw [e9]; rfl, rfl⟩) dX11_isDigit_17
    · have e9 : tdg v = true := by simp only [tdg, decide_eq_true (Int32.not_lt.mp c_3), decide_eq_true (Int32.not_lt.mp c_9), Bool.and_true]
      refine zV_iconst hX (v := nI 1) dX11_isDigit_12 (by decide) ?_
      refine zV_goto hX (tgt := 17) dX11_isDigit_13 (by decide) ?_
      exact zV_retz hX hQ hr (rfl) (⟨by rw [e9]; rfl, rfl⟩) dX11_isDigit_17
set_option maxHeartbeats 1000000 in
theorem zc_misSmall (l : Launch) (G : zG) (M : zM) (v : Int32) : zC l G 0 yX11_isSmall cX11_isSmall 1 (Option.some Jvm.ClassFile.FieldType.boolean) [.int v] M (zP (some (.int (zb (tlo v)))) M) := by
  refine zC_of (by decide) (Nat.le_of_ble_eq_true rfl) (fun X Q hQ hX hl hR hr => ?_)
  refine zV_loc (L' := [.int v]) rfl ?_
  refine zV_iload_n hX dX11_isSmall_0 rfl ?_
  refine zV_bipush hX (v := nI 97) dX11_isSmall_1 (by decide) ?_
  refine zV_icmp_lt hX (tgt := 16) dX11_isSmall_3 (by decide) (fun c_3 => ?_) (fun c_3 => ?_)
  · have e9 : tlo v = false := by simp only [tlo, decide_eq_false (Int32.not_le.mpr c_3), Bool.false_and]
    refine zV_iconst hX (v := nI 0) dX11_isSmall_16 (by decide) ?_
    exact zV_retz hX hQ hr (rfl) (⟨by rw [e9]; rfl, rfl⟩) dX11_isSmall_17
  · refine zV_iload_n hX dX11_isSmall_6 rfl ?_
    refine zV_bipush hX (v := nI 122) dX11_isSmall_7 (by decide) ?_
    refine zV_icmp_gt hX (tgt := 16) dX11_isSmall_9 (by decide) (fun c_9 => ?_) (fun c_9 => ?_)
    · have e9 : tlo v = false := by simp only [tlo, decide_eq_false (Int32.not_le.mpr c_9), Bool.and_false]
      refine zV_iconst hX (v := nI 0) dX11_isSmall_16 (by decide) ?_
      exact zV_retz hX hQ hr (rfl) (⟨by rw [e9]; rfl, rfl⟩) dX11_isSmall_17
    · have e9 : tlo v = true := by simp only [tlo, decide_eq_true (Int32.not_lt.mp c_3), decide_eq_true (Int32.not_lt.mp c_9), Bool.and_true]
      refine zV_iconst hX (v := nI 1) dX11_isSmall_12 (by decide) ?_
      refine zV_goto hX (tgt := 17) dX11_isSmall_13 (by decide) ?_
      exact zV_retz hX hQ hr (rfl) (⟨by rw [e9]; rfl, rfl⟩) dX11_isSmall_17
def mSa (w : Option (Option Int32)) (tr : Int32) : Int32 := match w with
  | some (some v) => v
  | _ => tr
def mCode : Option (Option Int32) → Nat
  | none => 0
  | some none => 1
  | some (some _) => 2
def mLc (s i : Nat) : Nat := 3100 + 13 * (7 * 0 + s) + i
def mHit (M : zM) (q r x : Nat) (o : Int32) : Bool := (M.1 q 0 == 0 || M.1 q 0 == nI r) && (M.1 q 1 == -1 || M.1 q 1 == nI x) && (M.1 q 2 == -1 || M.1 q 2 == o)
def mAct (M : zM) (q x : Nat) (tr : Int32) : Option (Option Int32) :=
  if M.1 q 3 = nI 2 then none
  else if M.1 q 3 = nI 3 then some none
  else if M.1 q 3 = 0 ∨ M.1 q 3 = nI 1 then some (some (if M.1 q 3 = nI 1 ∧ x % 2 = 1 then M.1 q 5 else M.1 q 4))
  else some (some tr)
def mSayF (M : zM) (s r x : Nat) (o tr : Int32) : Nat → Nat → Option (Option Int32)
  | 0, _ => some (some tr)
  | j + 1, i => if mHit M (mLc s i) r x o then mAct M (mLc s i) x tr else mSayF M s r x o tr j (i + 1)
/-- how many lies each member has; none: it is true -/
def mLn (q : Nat) (M : zM) (mn : Nat → Option Nat) : Prop := ∀ s, s < 7 → M.1 (1000 + 16 * 13 + q) s = zoi (mn s) ∧ ∀ k, mn s = some k → k ≤ 12
def mSay (M : zM) (mn : Nat → Option Nat) (s r x : Nat) (o tr : Int32) : Option (Option Int32) := mSayF M s r x o tr ((mn s).getD 0) 0
def mSb (w : Option (Option Int32)) (tr : Int32) (M : zM) : zM := zw M 300 16 (mSa w tr)
theorem mLn_some {M : zM} {q s k : Nat} {mn : Nat → Option Nat} (h : mLn q M mn) (hs : s < 7) (e : mn s = some k) : M.1 (1000 + 16 * 13 + q) s = nI k ∧ k ≤ 12 := by
  have h1 := h s hs
  rw [e] at h1
  exact ⟨h1.1, h1.2 k rfl⟩
theorem mLn_liar {M : zM} {s : Nat} {mn : Nat → Option Nat} (h : mLn 0 M mn) (hs : s < 7) : mLiar M s = (mn s).isSome := by
  unfold mLiar
  cases e : mn s with
  | none =>
    have h1 := (h s hs).1
    rw [e] at h1
    rw [h1]; rfl
  | some k =>
    obtain ⟨h1, h2⟩ := mLn_some h hs e
    rw [h1]
    have : ¬ nI k = -1 := fun z => by
      have h3 := congrArg Int32.toInt z
      rw [toInt_nI' (by omega)] at h3
      have h4 : (-1 : Int32).toInt = -1 := by decide
      omega
    rw [decide_eq_false this]; rfl
set_option maxHeartbeats 1000000 in
theorem zc_says (l : Launch) (G : zG) (M : zM) (s x r : Nat) (o tr : Int32) (mn : Nat → Option Nat) (hmn : mLn 0 M mn) (hs : s < 7) (hx : x < 7) : zC l G 1 yX11_says cX11_says 8 (Option.some Jvm.ClassFile.FieldType.int) [.ref (300 : Nat), .int (nI s), .int (nI x), .int (nI r), .int o, .int tr] M (zP (some (.int (nI (mCode (mSay M mn s r x o tr))))) (mSb (mSay M mn s r x o tr) tr M)) := by
  refine zC_of (by decide) (Nat.le_of_ble_eq_true rfl) (fun X Q hQ hX hl hR hr => ?_)
  refine zV_loc (L' := [.ref (300 : Nat), .int (nI s), .int (nI x), .int (nI r), .int o, .int tr, .null, .null]) rfl ?_
  have L19 : ∀ k, (mSay M mn s r x o tr) = mSayF M s r x o tr k 0 → M.1 (1000 + 16 * 13 + 0) s = nI k → k ≤ 12 → ∀ (f9 i : Nat) (v7 : Value), k - i < f9 → i ≤ k → mSayF M s r x o tr (k - i) i = mSayF M s r x o tr k 0 → zV G X Q 8 0 0 19 [.ref (300 : Nat), .int (nI s), .int (nI x), .int (nI r), .int o, .int tr, .int (nI i), v7] [] (zw M 300 16 tr) := by
    intro k hw9 hk1 hk2
    intro f9
    induction f9 with
    | zero => intro i v7 hi1 hi2 hi3; exact absurd hi1 (Nat.not_lt_zero _)
    | succ f9 ih =>
      intro i v7 hi1 hi2 hi3
      have J45 : i < k → mSayF M s r x o tr ((k - i - 1) + 1) i = mSayF M s r x o tr k 0 → zV G X Q 8 0 0 45 [.ref (300 : Nat), .int (nI s), .int (nI x), .int (nI r), .int o, .int tr, .int (nI i), .ref (mLc s i)] [] (zw M 300 16 tr) := by
        intro c_29 hi3
        rw [mSayF] at hi3
        have J131 : some (some (if M.1 (mLc s i) 3 = nI 1 ∧ x % 2 = 1 then M.1 (mLc s i) 5 else M.1 (mLc s i) 4)) = mSayF M s r x o tr k 0 → zV G X Q 8 0 0 131 [.ref (300 : Nat), .int (nI s), .int (nI x), .int (nI r), .int o, .int tr, .int (nI i), .ref (mLc s i)] [] (zw M 300 16 tr) := by
          intro hi4
          refine zV_aload_n hX dX11_says_131 rfl ?_
          refine zV_aload hX dX11_says_132 rfl ?_
          refine zV_iconst hX (v := nI 3) dX11_says_134 (by decide) ?_
          refine zV_iald hX (v := M.1 (mLc s i) 3) dX11_says_135 (mShC (k := 0) (m := s) (j := i) (by omega) (by omega) (by omega)) (rfl) ⟨by decide, by omega⟩ (by rw [zw_ne (by omega)]) ?_
          refine zV_iconst hX (v := nI 1) dX11_says_136 (by decide) ?_
          refine zV_icmp_ne hX (tgt := 154) dX11_says_137 (by decide) (fun c_137 => ?_) (fun c_137 => ?_)
          · rw [if_neg (fun q => c_137 q.1)] at hi4
            refine zV_aload hX dX11_says_154 rfl ?_
            refine zV_iconst hX (v := nI 4) dX11_says_156 (by decide) ?_
            refine zV_iald hX (v := M.1 (mLc s i) 4) dX11_says_157 (mShC (k := 0) (m := s) (j := i) (by omega) (by omega) (by omega)) (rfl) ⟨by decide, by omega⟩ (by rw [zw_ne (by omega)]) ?_
            refine zV_puti hX dX11_says_158 zf_X11_298 zp_9_16 zo300.1 rfl ?_
            refine zV_iconst hX (v := nI 2) dX11_says_161 (by decide) ?_
            exact zV_reti hX hQ hr (⟨by first | (rw [hw9, ← hi4]; done) | (rw [hw9, ← hi4]; rfl) | (rw [hw9, ← hi3]; rfl), by first | (rw [hw9, ← hi4]; exact zw_zw) | (rw [hw9, ← hi3]; rfl)⟩) dX11_says_162
          · refine zV_iload_n hX dX11_says_140 rfl ?_
            refine zV_iconst hX (v := nI 2) dX11_says_141 (by decide) ?_
            refine zV_iremN hX dX11_says_142 ⟨by omega, by decide, by decide⟩ ?_
            refine zV_iconst hX (v := nI 1) dX11_says_143 (by decide) ?_
            refine zV_icmp_neN hX (tgt := 154) dX11_says_144 (by decide) ⟨by omega, by omega⟩ (fun c_144 => ?_) (fun c_144 => ?_)
            · rw [if_neg (fun q => c_144 q.2)] at hi4
              refine zV_aload hX dX11_says_154 rfl ?_
              refine zV_iconst hX (v := nI 4) dX11_says_156 (by decide) ?_
              refine zV_iald hX (v := M.1 (mLc s i) 4) dX11_says_157 (mShC (k := 0) (m := s) (j := i) (by omega) (by omega) (by omega)) (rfl) ⟨by decide, by omega⟩ (by rw [zw_ne (by omega)]) ?_
              refine zV_puti hX dX11_says_158 zf_X11_298 zp_9_16 zo300.1 rfl ?_
              refine zV_iconst hX (v := nI 2) dX11_says_161 (by decide) ?_
              exact zV_reti hX hQ hr (⟨by first | (rw [hw9, ← hi4]; done) | (rw [hw9, ← hi4]; rfl) | (rw [hw9, ← hi3]; rfl), by first | (rw [hw9, ← hi4]; exact zw_zw) | (rw [hw9, ← hi3]; rfl)⟩) dX11_says_162
            · rw [if_pos ⟨c_137, c_144⟩] at hi4
              refine zV_aload hX dX11_says_147 rfl ?_
              refine zV_iconst hX (v := nI 5) dX11_says_149 (by decide) ?_
              refine zV_iald hX (v := M.1 (mLc s i) 5) dX11_says_150 (mShC (k := 0) (m := s) (j := i) (by omega) (by omega) (by omega)) (rfl) ⟨by decide, by omega⟩ (by rw [zw_ne (by omega)]) ?_
              refine zV_goto hX (tgt := 158) dX11_says_151 (by decide) ?_
              refine zV_puti hX dX11_says_158 zf_X11_298 zp_9_16 zo300.1 rfl ?_
              refine zV_iconst hX (v := nI 2) dX11_says_161 (by decide) ?_
              exact zV_reti hX hQ hr (⟨by first | (rw [hw9, ← hi4]; done) | (rw [hw9, ← hi4]; rfl) | (rw [hw9, ← hi3]; rfl), by first | (rw [hw9, ← hi4]; exact zw_zw) | (rw [hw9, ← hi3]; rfl)⟩) dX11_says_162
        have J96 : (M.1 (mLc s i) 0 == 0 || M.1 (mLc s i) 0 == nI r) = true → (M.1 (mLc s i) 1 == -1 || M.1 (mLc s i) 1 == nI x) = true → (M.1 (mLc s i) 2 == -1 || M.1 (mLc s i) 2 == o) = true → zV G X Q 8 0 0 96 [.ref (300 : Nat), .int (nI s), .int (nI x), .int (nI r), .int o, .int tr, .int (nI i), .ref (mLc s i)] [] (zw M 300 16 tr) := by
          intro q0 q1 q2
          rw [if_pos (by simp only [mHit, q0, q1, q2]; rfl)] at hi3
          unfold mAct at hi3
          refine zV_aload hX dX11_says_96 rfl ?_
          refine zV_iconst hX (v := nI 3) dX11_says_98 (by decide) ?_
          refine zV_iald hX (v := M.1 (mLc s i) 3) dX11_says_99 (mShC (k := 0) (m := s) (j := i) (by omega) (by omega) (by omega)) (rfl) ⟨by decide, by omega⟩ (by rw [zw_ne (by omega)]) ?_
          refine zV_iconst hX (v := nI 2) dX11_says_100 (by decide) ?_
          refine zV_icmp_ne hX (tgt := 106) dX11_says_101 (by decide) (fun c_101 => ?_) (fun c_101 => ?_)
          · rw [if_neg c_101] at hi3
            refine zV_aload hX dX11_says_106 rfl ?_
            refine zV_iconst hX (v := nI 3) dX11_says_108 (by decide) ?_
            refine zV_iald hX (v := M.1 (mLc s i) 3) dX11_says_109 (mShC (k := 0) (m := s) (j := i) (by omega) (by omega) (by omega)) (rfl) ⟨by decide, by omega⟩ (by rw [zw_ne (by omega)]) ?_
            refine zV_iconst hX (v := nI 3) dX11_says_110 (by decide) ?_
            refine zV_icmp_ne hX (tgt := 116) dX11_says_111 (by decide) (fun c_111 => ?_) (fun c_111 => ?_)
            · rw [if_neg c_111] at hi3
              refine zV_aload hX dX11_says_116 rfl ?_
              refine zV_iconst hX (v := nI 3) dX11_says_118 (by decide) ?_
              refine zV_iald hX (v := M.1 (mLc s i) 3) dX11_says_119 (mShC (k := 0) (m := s) (j := i) (by omega) (by omega) (by omega)) (rfl) ⟨by decide, by omega⟩ (by rw [zw_ne (by omega)]) ?_
              refine zV_if_eq hX (tgt := 131) dX11_says_120 (by decide) (fun c_120 => ?_) (fun c_120 => ?_)
              · rw [if_pos (Or.inl c_120)] at hi3
                exact J131 hi3
              · refine zV_aload hX dX11_says_123 rfl ?_
                refine zV_iconst hX (v := nI 3) dX11_says_125 (by decide) ?_
                refine zV_iald hX (v := M.1 (mLc s i) 3) dX11_says_126 (mShC (k := 0) (m := s) (j := i) (by omega) (by omega) (by omega)) (rfl) ⟨by decide, by omega⟩ (by rw [zw_ne (by omega)]) ?_
                refine zV_iconst hX (v := nI 1) dX11_says_127 (by decide) ?_
                refine zV_icmp_ne hX (tgt := 161) dX11_says_128 (by decide) (fun c_128 => ?_) (fun c_128 => ?_)
                · rw [if_neg (fun q => q.elim c_120 c_128)] at hi3
                  refine zV_iconst hX (v := nI 2) dX11_says_161 (by decide) ?_
                  exact zV_reti hX hQ hr (⟨by first | (rw [hw9, ← hi4]; done) | (rw [hw9, ← hi4]; rfl) | (rw [hw9, ← hi3]; rfl), by first | (rw [hw9, ← hi4]; exact zw_zw) | (rw [hw9, ← hi3]; rfl)⟩) dX11_says_162
                · rw [if_pos (Or.inr c_128)] at hi3
                  exact J131 hi3
            · rw [if_pos c_111] at hi3
              refine zV_iconst hX (v := nI 1) dX11_says_114 (by decide) ?_
              exact zV_reti hX hQ hr (⟨by rw [hw9, ← hi3]; rfl, by rw [hw9, ← hi3]; rfl⟩) dX11_says_115
          · rw [if_pos c_101] at hi3
            refine zV_iconst hX (v := nI 0) dX11_says_104 (by decide) ?_
            exact zV_reti hX hQ hr (⟨by rw [hw9, ← hi3]; rfl, by rw [hw9, ← hi3]; rfl⟩) dX11_says_105
        have J76 : (M.1 (mLc s i) 0 == 0 || M.1 (mLc s i) 0 == nI r) = true → (M.1 (mLc s i) 1 == -1 || M.1 (mLc s i) 1 == nI x) = true → zV G X Q 8 0 0 76 [.ref (300 : Nat), .int (nI s), .int (nI x), .int (nI r), .int o, .int tr, .int (nI i), .ref (mLc s i)] [] (zw M 300 16 tr) := by
          intro q0 q1
          refine zV_aload hX dX11_says_76 rfl ?_
          refine zV_iconst hX (v := nI 2) dX11_says_78 (by decide) ?_
          refine zV_iald hX (v := M.1 (mLc s i) 2) dX11_says_79 (mShC (k := 0) (m := s) (j := i) (by omega) (by omega) (by omega)) (rfl) ⟨by decide, by omega⟩ (by rw [zw_ne (by omega)]) ?_
          refine zV_iconst hX (v := (-1)) dX11_says_80 (by decide) ?_
          refine zV_icmp_eq hX (tgt := 96) dX11_says_81 (by decide) (fun c_81 => ?_) (fun c_81 => ?_)
          · have q2 : (M.1 (mLc s i) 2 == -1 || M.1 (mLc s i) 2 == o) = true := by simp [c_81]
            exact J96 q0 q1 q2
          · refine zV_aload hX dX11_says_84 rfl ?_
            refine zV_iconst hX (v := nI 2) dX11_says_86 (by decide) ?_
            refine zV_iald hX (v := M.1 (mLc s i) 2) dX11_says_87 (mShC (k := 0) (m := s) (j := i) (by omega) (by omega) (by omega)) (rfl) ⟨by decide, by omega⟩ (by rw [zw_ne (by omega)]) ?_
            refine zV_iload hX dX11_says_88 rfl ?_
            refine zV_icmp_eq hX (tgt := 96) dX11_says_90 (by decide) (fun c_90 => ?_) (fun c_90 => ?_)
            · have q2 : (M.1 (mLc s i) 2 == -1 || M.1 (mLc s i) 2 == o) = true := by simp [c_90]
              exact J96 q0 q1 q2
            · rw [if_neg (by simp only [mHit]; simp [c_81, c_90])] at hi3
              refine zV_goto hX (tgt := 163) dX11_says_93 (by decide) ?_
              refine zV_iincN hX (b := 1) dX11_says_163 rfl (by decide) ?_
              dsimp only [zst1, zst2, zclr, zc2]
              refine zV_goto hX (tgt := 19) dX11_says_166 (by decide) ?_
              exact ih (i + 1) _ (by omega) (by omega) (by rw [show k - (i + 1) = k - i - 1 by omega]; exact hi3)
        have J60 : (M.1 (mLc s i) 0 == 0 || M.1 (mLc s i) 0 == nI r) = true → zV G X Q 8 0 0 60 [.ref (300 : Nat), .int (nI s), .int (nI x), .int (nI r), .int o, .int tr, .int (nI i), .ref (mLc s i)] [] (zw M 300 16 tr) := by
          intro q0
          refine zV_aload hX dX11_says_60 rfl ?_
          refine zV_iconst hX (v := nI 1) dX11_says_62 (by decide) ?_
          refine zV_iald hX (v := M.1 (mLc s i) 1) dX11_says_63 (mShC (k := 0) (m := s) (j := i) (by omega) (by omega) (by omega)) (rfl) ⟨by decide, by omega⟩ (by rw [zw_ne (by omega)]) ?_
          refine zV_iconst hX (v := (-1)) dX11_says_64 (by decide) ?_
          refine zV_icmp_eq hX (tgt := 76) dX11_says_65 (by decide) (fun c_65 => ?_) (fun c_65 => ?_)
          · have q1 : (M.1 (mLc s i) 1 == -1 || M.1 (mLc s i) 1 == nI x) = true := by simp [c_65]
            exact J76 q0 q1
          · refine zV_aload hX dX11_says_68 rfl ?_
            refine zV_iconst hX (v := nI 1) dX11_says_70 (by decide) ?_
            refine zV_iald hX (v := M.1 (mLc s i) 1) dX11_says_71 (mShC (k := 0) (m := s) (j := i) (by omega) (by omega) (by omega)) (rfl) ⟨by decide, by omega⟩ (by rw [zw_ne (by omega)]) ?_
            refine zV_iload_n hX dX11_says_72 rfl ?_
            refine zV_icmp_ne hX (tgt := 163) dX11_says_73 (by decide) (fun c_73 => ?_) (fun c_73 => ?_)
            · rw [if_neg (by simp only [mHit]; simp [c_65, c_73])] at hi3
              refine zV_iincN hX (b := 1) dX11_says_163 rfl (by decide) ?_
              dsimp only [zst1, zst2, zclr, zc2]
              refine zV_goto hX (tgt := 19) dX11_says_166 (by decide) ?_
              exact ih (i + 1) _ (by omega) (by omega) (by rw [show k - (i + 1) = k - i - 1 by omega]; exact hi3)
            · have q1 : (M.1 (mLc s i) 1 == -1 || M.1 (mLc s i) 1 == nI x) = true := by simp [c_73]
              exact J76 q0 q1
        refine zV_aload hX dX11_says_45 rfl ?_
        refine zV_iconst hX (v := nI 0) dX11_says_47 (by decide) ?_
        refine zV_iald hX (v := M.1 (mLc s i) 0) dX11_says_48 (mShC (k := 0) (m := s) (j := i) (by omega) (by omega) (by omega)) (rfl) ⟨by decide, by omega⟩ (by rw [zw_ne (by omega)]) ?_
        refine zV_if_eq hX (tgt := 60) dX11_says_49 (by decide) (fun c_49 => ?_) (fun c_49 => ?_)
        · have q0 : (M.1 (mLc s i) 0 == 0 || M.1 (mLc s i) 0 == nI r) = true := by simp [c_49]
          exact J60 q0
        · refine zV_aload hX dX11_says_52 rfl ?_
          refine zV_iconst hX (v := nI 0) dX11_says_54 (by decide) ?_
          refine zV_iald hX (v := M.1 (mLc s i) 0) dX11_says_55 (mShC (k := 0) (m := s) (j := i) (by omega) (by omega) (by omega)) (rfl) ⟨by decide, by omega⟩ (by rw [zw_ne (by omega)]) ?_
          refine zV_iload_n hX dX11_says_56 rfl ?_
          refine zV_icmp_ne hX (tgt := 163) dX11_says_57 (by decide) (fun c_57 => ?_) (fun c_57 => ?_)
          · rw [if_neg (by simp only [mHit]; simp [c_49, c_57])] at hi3
            refine zV_iincN hX (b := 1) dX11_says_163 rfl (by decide) ?_
            dsimp only [zst1, zst2, zclr, zc2]
            refine zV_goto hX (tgt := 19) dX11_says_166 (by decide) ?_
            exact ih (i + 1) _ (by omega) (by omega) (by rw [show k - (i + 1) = k - i - 1 by omega]; exact hi3)
          · have q0 : (M.1 (mLc s i) 0 == 0 || M.1 (mLc s i) 0 == nI r) = true := by simp [c_57]
            exact J60 q0
      refine zV_iload hX dX11_says_19 rfl ?_
      refine zV_aload_n hX dX11_says_21 rfl ?_
      refine zV_geta hX dX11_says_22 zf_X11_31 zo300.1 rfl ?_
      refine zV_iconst hX (v := nI 0) dX11_says_25 (by decide) ?_
      refine zV_aald hX dX11_says_26 (t := 0) (zo300.a 13 rfl) (by decide) (rfl) ⟨by omega, by omega⟩ (mRow 13 (by decide)) ?_
      refine zV_iload_n hX dX11_says_27 rfl ?_
      refine zV_iald hX dX11_says_28 (mSh13 (by omega)) (rfl) ⟨by omega, by omega⟩ (by rw [zw_ne (by omega), hk1]) ?_
      refine zV_icmp_geN hX (tgt := 169) dX11_says_29 (by decide) ⟨by omega, by omega⟩ (fun c_29 => ?_) (fun c_29 => ?_)
      · have hw8 : mSayF M s r x o tr k 0 = some (some tr) := by rw [← hi3, show k - i = 0 by omega]; rfl
        refine zV_iconst hX (v := nI 2) dX11_says_169 (by decide) ?_
        exact zV_reti hX hQ hr (⟨by rw [hw9, hw8]; rfl, by rw [hw9, hw8]; rfl⟩) dX11_says_170
      · rw [show k - i = (k - i - 1) + 1 by omega] at hi3
        refine zV_aload_n hX dX11_says_32 rfl ?_
        refine zV_geta hX dX11_says_33 zf_X11_36 zo300.1 rfl ?_
        refine zV_iconst hX (v := nI 0) dX11_says_36 (by decide) ?_
        refine zV_aald hX dX11_says_37 (t := 2) (zo300.a 14 rfl) (by decide) (rfl) ⟨by omega, by omega⟩ (mLieA) ?_
        refine zV_iload_n hX dX11_says_38 rfl ?_
        refine zV_aald hX dX11_says_39 (t := 3) (mShA (by omega)) (by decide) (rfl) ⟨by omega, by omega⟩ (mLieB (by omega)) ?_
        refine zV_iload hX dX11_says_40 rfl ?_
        refine zV_aald hX dX11_says_42 (t := 0) (mShB (by omega) (by omega)) (by decide) (rfl) ⟨by omega, by omega⟩ (mLieC (by omega) (by omega)) ?_
        refine zV_topv (.ref (mLc s i)) rfl ?_
        refine zV_astore hX dX11_says_43 (by decide) ?_
        dsimp only [zst1, zst2, zclr, zc2]
        exact J45 c_29 hi3
  refine zV_aload_n hX dX11_says_0 rfl ?_
  refine zV_iload hX dX11_says_1 rfl ?_
  refine zV_puti hX dX11_says_3 zf_X11_298 zp_9_16 zo300.1 rfl ?_
  refine zV_aload_n hX dX11_says_6 rfl ?_
  refine zV_iload_n hX dX11_says_7 rfl ?_
  refine zV_cV1p hX hR hl dX11_says_8 (zc_misLiar l G _ s hs) zt_X11_isLiar rfl zml_X11_295 zo300.1 ⟨by decide, by decide⟩ (Nat.le_of_ble_eq_true rfl) ?_
  dsimp only [Option.toList, List.cons_append, List.nil_append]
  refine zV_topi (zb (mn s).isSome) (by rw [← mLn_liar hmn hs]; unfold mLiar; rw [zw_ne (by omega)]) ?_
  refine zV_if_neB hX (tgt := 16) dX11_says_11 (by decide) (fun c_11 => ?_) (fun c_11 => ?_)
  · obtain ⟨k, hk⟩ := Option.isSome_iff_exists.mp c_11
    obtain ⟨hk1, hk2⟩ := mLn_some hmn hs hk
    have hw9 : (mSay M mn s r x o tr) = mSayF M s r x o tr k 0 := by unfold mSay; rw [hk]; rfl
    refine zV_iconst hX (v := nI 0) dX11_says_16 (by decide) ?_
    refine zV_istore hX dX11_says_17 (by decide) ?_
    dsimp only [zst1, zst2, zclr, zc2]
    exact L19 k hw9 hk1 hk2 (k + 1) 0 _ (by omega) (by omega) rfl
  · have hw9 : (mSay M mn s r x o tr) = some (some tr) := by unfold mSay; rw [show mn s = none by cases h : mn s with | none => rfl | some k => rw [h] at c_11; simp at c_11]; rfl
    refine zV_iconst hX (v := nI 2) dX11_says_14 (by decide) ?_
    exact zV_reti hX hQ hr (⟨by rw [hw9]; rfl, by rw [hw9]; rfl⟩) dX11_says_15
