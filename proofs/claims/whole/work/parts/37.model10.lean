-- how many unlike values, of a row; KINGS of the model
def mUq (li : Nat → Bool) (v : Nat → Int32) (k : Nat) : Nat := zcnt (fun m => !li m && zall (fun e => li e || !(v e == v m)) m) k
def mSgB (M : zM) (c m : Nat) : Int32 := if m = c then M.1 (300 + 1 + 12) m else if M.1 (300 + 1 + 31) m = nI 1 then M.1 (1000 + 16 * 34 + m) 0 else M.1 300 11
set_option maxHeartbeats 1000000 in
theorem zc_signedBy (l : Launch) (G : zG) (M : zM) (c m : Nat) (hsg : M.1 300 41 = nI c) (hc7 : c < 7) (hm : m < 7) : zC l G 0 yX11_signedBy cX11_signedBy 2 (Option.some Jvm.ClassFile.FieldType.int) [.ref (300 : Nat), .int (nI m)] M (zP (some (.int (mSgB M c m))) M) := by
  refine zC_of (by decide) (Nat.le_of_ble_eq_true rfl) (fun X Q hQ hX hl hR hr => ?_)
  refine zV_loc (L' := [.ref (300 : Nat), .int (nI m)]) rfl ?_
  refine zV_iload_n hX dX11_signedBy_0 rfl ?_
  refine zV_aload_n hX dX11_signedBy_1 rfl ?_
  refine zV_geti hX dX11_signedBy_2 zf_X11_425 zo300.1 rfl (hsg) ?_
  refine zV_icmp_neN hX (tgt := 17) dX11_signedBy_5 (by decide) ⟨by omega, by omega⟩ (fun c_5 => ?_) (fun c_5 => ?_)
  · refine zV_aload_n hX dX11_signedBy_17 rfl ?_
    refine zV_geta hX dX11_signedBy_18 zf_X11_65 zo300.1 rfl ?_
    refine zV_iload_n hX dX11_signedBy_21 rfl ?_
    refine zV_iald hX dX11_signedBy_22 (zo300.a 31 rfl) (rfl) ⟨by omega, by omega⟩ (rfl) ?_
    refine zV_iconst hX (v := nI 1) dX11_signedBy_23 (by decide) ?_
    refine zV_icmp_ne hX (tgt := 38) dX11_signedBy_24 (by decide) (fun c_24 => ?_) (fun c_24 => ?_)
    · have e9 : mSgB M c m = M.1 300 11 := by unfold mSgB; rw [if_neg c_5, if_neg c_24]
      refine zV_aload_n hX dX11_signedBy_38 rfl ?_
      refine zV_geti hX dX11_signedBy_39 zf_X11_170 zo300.1 rfl rfl ?_
      exact zV_reti hX hQ hr (⟨by rw [e9], rfl⟩) dX11_signedBy_42
    · have e9 : mSgB M c m = M.1 (1000 + 16 * 34 + m) 0 := by unfold mSgB; rw [if_neg c_5, if_pos c_24]
      refine zV_aload_n hX dX11_signedBy_27 rfl ?_
      refine zV_geta hX dX11_signedBy_28 zf_X11_74 zo300.1 rfl ?_
      refine zV_iload_n hX dX11_signedBy_31 rfl ?_
      refine zV_aald hX dX11_signedBy_32 (t := 0) (zo300.a 34 rfl) (by decide) (rfl) ⟨by omega, by omega⟩ (mRow 34 (by decide)) ?_
      refine zV_iconst hX (v := nI 0) dX11_signedBy_33 (by decide) ?_
      refine zV_iald hX dX11_signedBy_34 (mSh34 (by omega)) (rfl) ⟨by omega, by omega⟩ (rfl) ?_
      refine zV_goto hX (tgt := 42) dX11_signedBy_35 (by decide) ?_
      exact zV_reti hX hQ hr (⟨by rw [e9], rfl⟩) dX11_signedBy_42
  · have e9 : mSgB M c m = M.1 (300 + 1 + 12) m := if_pos c_5
    refine zV_aload_n hX dX11_signedBy_8 rfl ?_
    refine zV_geta hX dX11_signedBy_9 zf_X11_26 zo300.1 rfl ?_
    refine zV_iload_n hX dX11_signedBy_12 rfl ?_
    refine zV_iald hX dX11_signedBy_13 (zo300.a 12 rfl) (rfl) ⟨by omega, by omega⟩ (rfl) ?_
    refine zV_goto hX (tgt := 42) dX11_signedBy_14 (by decide) ?_
    exact zV_reti hX hQ hr (⟨by rw [e9], rfl⟩) dX11_signedBy_42
set_option maxHeartbeats 1000000 in
theorem zc_unlikeSigned (l : Launch) (G : zG) (M : zM) (n c : Nat) (hn : M.1 300 9 = nI n) (hn7 : n ≤ 7) (hsg : M.1 300 41 = nI c) (hc7 : c < 7) : zC l G 2 yX11_unlikeSigned cX11_unlikeSigned 5 (Option.some Jvm.ClassFile.FieldType.int) [.ref (300 : Nat)] M (zP (some (.int (nI (mUq (mLiar M) (mSgB M c) n)))) M) := by
  refine zC_of (by decide) (Nat.le_of_ble_eq_true rfl) (fun X Q hQ hX hl hR hr => ?_)
  refine zV_loc (L' := [.ref (300 : Nat), .null, .null, .null, .null]) rfl ?_
  have L4 : ∀ (f9 m : Nat) (v3 v4 : Value), n - m < f9 → m ≤ n → zV G X Q 5 0 0 4 [.ref (300 : Nat), .int (nI (mUq (mLiar M) (mSgB M c) m)), .int (nI m), v3, v4] [] M := by
    intro f9
    induction f9 with
    | zero => intro m v3 v4 hm1 hm2; exact absurd hm1 (Nat.not_lt_zero _)
    | succ f9 ih =>
      intro m v3 v4 hm1 hm2
      have J71 : m < n → mLiar M m = false → ∀ v4 : Value, zV G X Q 5 0 0 71 [.ref (300 : Nat), .int (nI (mUq (mLiar M) (mSgB M c) m)), .int (nI m), .int (zb (zall (fun e => (mLiar M) e || !((mSgB M c) e == (mSgB M c) m)) m)), v4] [] M := by
        intro c_9 hx v4
        refine zV_iload_n hX dX11_unlikeSigned_71 rfl ?_
        refine zV_iload_n hX dX11_unlikeSigned_72 rfl ?_
        refine zV_if_eqB hX (tgt := 80) dX11_unlikeSigned_73 (by decide) (fun c_73 => ?_) (fun c_73 => ?_)
        · have e9 : (mUq (mLiar M) (mSgB M c) (m + 1)) = (mUq (mLiar M) (mSgB M c) m) + 0 := by unfold mUq; rw [zcnt_s]; simp [c_73]
          refine zV_iconst hX (v := nI 0) dX11_unlikeSigned_80 (by decide) ?_
          refine zV_iaddN hX dX11_unlikeSigned_81 ?_
          refine zV_istore_n hX dX11_unlikeSigned_82 (by decide) ?_
          dsimp only [zst1, zst2, zclr, zc2]
          refine zV_iincN hX (b := 1) dX11_unlikeSigned_83 rfl (by decide) ?_
          dsimp only [zst1, zst2, zclr, zc2]
          refine zV_goto hX (tgt := 4) dX11_unlikeSigned_86 (by decide) ?_
          have h9 := fun v3 v4 => ih (m + 1) v3 v4 (by omega) (by omega)
          simp only [e9] at h9
          exact h9 _ _
        · have e9 : (mUq (mLiar M) (mSgB M c) (m + 1)) = (mUq (mLiar M) (mSgB M c) m) + 1 := by unfold mUq; rw [zcnt_s]; simp [c_73, hx]
          refine zV_iconst hX (v := nI 1) dX11_unlikeSigned_76 (by decide) ?_
          refine zV_goto hX (tgt := 81) dX11_unlikeSigned_77 (by decide) ?_
          refine zV_iaddN hX dX11_unlikeSigned_81 ?_
          refine zV_istore_n hX dX11_unlikeSigned_82 (by decide) ?_
          dsimp only [zst1, zst2, zclr, zc2]
          refine zV_iincN hX (b := 1) dX11_unlikeSigned_83 rfl (by decide) ?_
          dsimp only [zst1, zst2, zclr, zc2]
          refine zV_goto hX (tgt := 4) dX11_unlikeSigned_86 (by decide) ?_
          have h9 := fun v3 v4 => ih (m + 1) v3 v4 (by omega) (by omega)
          simp only [e9] at h9
          exact h9 _ _
      have L28 : m < n → mLiar M m = false → ∀ (f9 e : Nat), m - e < f9 → e ≤ m → zV G X Q 5 0 0 28 [.ref (300 : Nat), .int (nI (mUq (mLiar M) (mSgB M c) m)), .int (nI m), .int (zb (zall (fun e => (mLiar M) e || !((mSgB M c) e == (mSgB M c) m)) e)), .int (nI e)] [] M := by
        intro c_9 hx
        intro f9
        induction f9 with
        | zero => intro e he1 he2; exact absurd he1 (Nat.not_lt_zero _)
        | succ f9 ih2 =>
          intro e he1 he2
          refine zV_iload hX dX11_unlikeSigned_28 rfl ?_
          refine zV_iload_n hX dX11_unlikeSigned_30 rfl ?_
          refine zV_icmp_geN hX (tgt := 71) dX11_unlikeSigned_31 (by decide) ⟨by omega, by omega⟩ (fun c_31 => ?_) (fun c_31 => ?_)
          · have hem : e = m := by omega
            rw [hem]
            exact J71 c_9 hx _
          · refine zV_iload_n hX dX11_unlikeSigned_34 rfl ?_
            refine zV_aload_n hX dX11_unlikeSigned_35 rfl ?_
            refine zV_iload hX dX11_unlikeSigned_36 rfl ?_
            refine zV_cV1p hX hR hl dX11_unlikeSigned_38 (zc_misLiar l G M e (by omega)) zt_X11_isLiar rfl zml_X11_295 zo300.1 ⟨by decide, by decide⟩ (Nat.le_of_ble_eq_true rfl) ?_
            dsimp only [Option.toList, List.cons_append, List.nil_append]
            refine zV_if_neB hX (tgt := 58) dX11_unlikeSigned_41 (by decide) (fun c_41 => ?_) (fun c_41 => ?_)
            · have e8 : (zall (fun e => (mLiar M) e || !((mSgB M c) e == (mSgB M c) m)) (e + 1)) = ((zall (fun e => (mLiar M) e || !((mSgB M c) e == (mSgB M c) m)) e) && true) := by show ((zall (fun e => (mLiar M) e || !((mSgB M c) e == (mSgB M c) m)) e) && ((mLiar M) e || !((mSgB M c) e == (mSgB M c) m))) = _; congr 1; rw [c_41]; rfl
              refine zV_iconst hX (v := nI 1) dX11_unlikeSigned_58 (by decide) ?_
              refine zV_goto hX (tgt := 63) dX11_unlikeSigned_59 (by decide) ?_
              refine zV_iand hX dX11_unlikeSigned_63 ?_
              refine zV_topi (zb (zall (fun e => (mLiar M) e || !((mSgB M c) e == (mSgB M c) m)) (e + 1))) (by rw [e8]; first | exact zb_a1 _ | exact zb_a0 _) ?_
              refine zV_istore_n hX dX11_unlikeSigned_64 (by decide) ?_
              dsimp only [zst1, zst2, zclr, zc2]
              refine zV_iincN hX (b := 1) dX11_unlikeSigned_65 rfl (by decide) ?_
              dsimp only [zst1, zst2, zclr, zc2]
              refine zV_goto hX (tgt := 28) dX11_unlikeSigned_68 (by decide) ?_
              exact ih2 (e + 1) (by omega) (by omega)
            · refine zV_aload_n hX dX11_unlikeSigned_44 rfl ?_
              refine zV_iload hX dX11_unlikeSigned_45 rfl ?_
              refine zV_cV1p hX hR hl dX11_unlikeSigned_47 (zc_signedBy l G M c e hsg hc7 (by omega)) zt_X11_signedBy rfl zml_X11_432 zo300.1 ⟨by decide, by decide⟩ (Nat.le_of_ble_eq_true rfl) ?_
              dsimp only [Option.toList, List.cons_append, List.nil_append]
              refine zV_aload_n hX dX11_unlikeSigned_50 rfl ?_
              refine zV_iload_n hX dX11_unlikeSigned_51 rfl ?_
              refine zV_cV1p hX hR hl dX11_unlikeSigned_52 (zc_signedBy l G M c m hsg hc7 (by omega)) zt_X11_signedBy rfl zml_X11_432 zo300.1 ⟨by decide, by decide⟩ (Nat.le_of_ble_eq_true rfl) ?_
              dsimp only [Option.toList, List.cons_append, List.nil_append]
              refine zV_icmp_eq hX (tgt := 62) dX11_unlikeSigned_55 (by decide) (fun c_55 => ?_) (fun c_55 => ?_)
              · have e8 : (zall (fun e => (mLiar M) e || !((mSgB M c) e == (mSgB M c) m)) (e + 1)) = ((zall (fun e => (mLiar M) e || !((mSgB M c) e == (mSgB M c) m)) e) && false) := by show ((zall (fun e => (mLiar M) e || !((mSgB M c) e == (mSgB M c) m)) e) && ((mLiar M) e || !((mSgB M c) e == (mSgB M c) m))) = _; congr 1; rw [c_41, show (mSgB M c) e = (mSgB M c) m from c_55]; simp
                refine zV_iconst hX (v := nI 0) dX11_unlikeSigned_62 (by decide) ?_
                refine zV_iand hX dX11_unlikeSigned_63 ?_
                refine zV_topi (zb (zall (fun e => (mLiar M) e || !((mSgB M c) e == (mSgB M c) m)) (e + 1))) (by rw [e8]; first | exact zb_a1 _ | exact zb_a0 _) ?_
                refine zV_istore_n hX dX11_unlikeSigned_64 (by decide) ?_
                dsimp only [zst1, zst2, zclr, zc2]
                refine zV_iincN hX (b := 1) dX11_unlikeSigned_65 rfl (by decide) ?_
                dsimp only [zst1, zst2, zclr, zc2]
                refine zV_goto hX (tgt := 28) dX11_unlikeSigned_68 (by decide) ?_
                exact ih2 (e + 1) (by omega) (by omega)
              · have e8 : (zall (fun e => (mLiar M) e || !((mSgB M c) e == (mSgB M c) m)) (e + 1)) = ((zall (fun e => (mLiar M) e || !((mSgB M c) e == (mSgB M c) m)) e) && true) := by show ((zall (fun e => (mLiar M) e || !((mSgB M c) e == (mSgB M c) m)) e) && ((mLiar M) e || !((mSgB M c) e == (mSgB M c) m))) = _; congr 1; rw [beq_false_of_ne (show (mSgB M c) e ≠ (mSgB M c) m from c_55)]; simp
                refine zV_iconst hX (v := nI 1) dX11_unlikeSigned_58 (by decide) ?_
                refine zV_goto hX (tgt := 63) dX11_unlikeSigned_59 (by decide) ?_
                refine zV_iand hX dX11_unlikeSigned_63 ?_
                refine zV_topi (zb (zall (fun e => (mLiar M) e || !((mSgB M c) e == (mSgB M c) m)) (e + 1))) (by rw [e8]; first | exact zb_a1 _ | exact zb_a0 _) ?_
                refine zV_istore_n hX dX11_unlikeSigned_64 (by decide) ?_
                dsimp only [zst1, zst2, zclr, zc2]
                refine zV_iincN hX (b := 1) dX11_unlikeSigned_65 rfl (by decide) ?_
                dsimp only [zst1, zst2, zclr, zc2]
                refine zV_goto hX (tgt := 28) dX11_unlikeSigned_68 (by decide) ?_
                exact ih2 (e + 1) (by omega) (by omega)
      refine zV_iload_n hX dX11_unlikeSigned_4 rfl ?_
      refine zV_aload_n hX dX11_unlikeSigned_5 rfl ?_
      refine zV_geti hX dX11_unlikeSigned_6 zf_X11_20 zo300.1 rfl (hn) ?_
      refine zV_icmp_geN hX (tgt := 89) dX11_unlikeSigned_9 (by decide) ⟨by omega, by omega⟩ (fun c_9 => ?_) (fun c_9 => ?_)
      · refine zV_iload_n hX dX11_unlikeSigned_89 rfl ?_
        exact zV_reti hX hQ hr (⟨by rw [show m = n by omega], rfl⟩) dX11_unlikeSigned_90
      · refine zV_aload_n hX dX11_unlikeSigned_12 rfl ?_
        refine zV_iload_n hX dX11_unlikeSigned_13 rfl ?_
        refine zV_cV1p hX hR hl dX11_unlikeSigned_14 (zc_misLiar l G M m (by omega)) zt_X11_isLiar rfl zml_X11_295 zo300.1 ⟨by decide, by decide⟩ (Nat.le_of_ble_eq_true rfl) ?_
        dsimp only [Option.toList, List.cons_append, List.nil_append]
        refine zV_if_eqB hX (tgt := 23) dX11_unlikeSigned_17 (by decide) (fun c_17 => ?_) (fun c_17 => ?_)
        · have hx := c_17
          refine zV_iconst hX (v := nI 1) dX11_unlikeSigned_23 (by decide) ?_
          refine zV_topi (zb (zall (fun e => (mLiar M) e || !((mSgB M c) e == (mSgB M c) m)) 0)) rfl ?_
          refine zV_istore_n hX dX11_unlikeSigned_24 (by decide) ?_
          dsimp only [zst1, zst2, zclr, zc2]
          refine zV_iconst hX (v := nI 0) dX11_unlikeSigned_25 (by decide) ?_
          refine zV_istore hX dX11_unlikeSigned_26 (by decide) ?_
          dsimp only [zst1, zst2, zclr, zc2]
          exact L28 c_9 hx (m + 1) 0 (by omega) (by omega)
        · have e9 : (mUq (mLiar M) (mSgB M c) (m + 1)) = (mUq (mLiar M) (mSgB M c) m) + 0 := by unfold mUq; rw [zcnt_s]; simp [c_17]
          refine zV_goto hX (tgt := 83) dX11_unlikeSigned_20 (by decide) ?_
          refine zV_iincN hX (b := 1) dX11_unlikeSigned_83 rfl (by decide) ?_
          dsimp only [zst1, zst2, zclr, zc2]
          refine zV_goto hX (tgt := 4) dX11_unlikeSigned_86 (by decide) ?_
          have h9 := fun v3 v4 => ih (m + 1) v3 v4 (by omega) (by omega)
          simp only [e9] at h9
          exact h9 _ _
  refine zV_iconst hX (v := nI 0) dX11_unlikeSigned_0 (by decide) ?_
  refine zV_istore_n hX dX11_unlikeSigned_1 (by decide) ?_
  dsimp only [zst1, zst2, zclr, zc2]
  refine zV_iconst hX (v := nI 0) dX11_unlikeSigned_2 (by decide) ?_
  refine zV_istore_n hX dX11_unlikeSigned_3 (by decide) ?_
  dsimp only [zst1, zst2, zclr, zc2]
  exact L4 (n + 1) 0 _ _ (by omega) (by omega)
set_option maxHeartbeats 1000000 in
theorem zc_unlikeOf (l : Launch) (G : zG) (M : zM) (n rw : Nat) (hn : M.1 300 9 = nI n) (hn7 : n ≤ 7) (hrw : zSh rw = (20, 7)) : zC l G 1 yX11_unlikeOf cX11_unlikeOf 6 (Option.some Jvm.ClassFile.FieldType.int) [.ref (300 : Nat), .ref rw] M (zP (some (.int (nI (mUq (mLiar M) (M.1 rw) n)))) M) := by
  refine zC_of (by decide) (Nat.le_of_ble_eq_true rfl) (fun X Q hQ hX hl hR hr => ?_)
  refine zV_loc (L' := [.ref (300 : Nat), .ref rw, .null, .null, .null, .null]) rfl ?_
  have L4 : ∀ (f9 m : Nat) (v3 v4 : Value), n - m < f9 → m ≤ n → zV G X Q 6 0 0 4 [.ref (300 : Nat), .ref rw, .int (nI (mUq (mLiar M) (M.1 rw) m)), .int (nI m), v3, v4] [] M := by
    intro f9
    induction f9 with
    | zero => intro m v3 v4 hm1 hm2; exact absurd hm1 (Nat.not_lt_zero _)
    | succ f9 ih =>
      intro m v3 v4 hm1 hm2
      have J70 : m < n → mLiar M m = false → ∀ v4 : Value, zV G X Q 6 0 0 70 [.ref (300 : Nat), .ref rw, .int (nI (mUq (mLiar M) (M.1 rw) m)), .int (nI m), .int (zb (zall (fun e => (mLiar M) e || !((M.1 rw) e == (M.1 rw) m)) m)), v4] [] M := by
        intro c_9 hx v4
        refine zV_iload_n hX dX11_unlikeOf_70 rfl ?_
        refine zV_iload hX dX11_unlikeOf_71 rfl ?_
        refine zV_if_eqB hX (tgt := 80) dX11_unlikeOf_73 (by decide) (fun c_73 => ?_) (fun c_73 => ?_)
        · have e9 : (mUq (mLiar M) (M.1 rw) (m + 1)) = (mUq (mLiar M) (M.1 rw) m) + 0 := by unfold mUq; rw [zcnt_s]; simp [c_73]
          refine zV_iconst hX (v := nI 0) dX11_unlikeOf_80 (by decide) ?_
          refine zV_iaddN hX dX11_unlikeOf_81 ?_
          refine zV_istore_n hX dX11_unlikeOf_82 (by decide) ?_
          dsimp only [zst1, zst2, zclr, zc2]
          refine zV_iincN hX (b := 1) dX11_unlikeOf_83 rfl (by decide) ?_
          dsimp only [zst1, zst2, zclr, zc2]
          refine zV_goto hX (tgt := 4) dX11_unlikeOf_86 (by decide) ?_
          have h9 := fun v3 v4 => ih (m + 1) v3 v4 (by omega) (by omega)
          simp only [e9] at h9
          exact h9 _ _
        · have e9 : (mUq (mLiar M) (M.1 rw) (m + 1)) = (mUq (mLiar M) (M.1 rw) m) + 1 := by unfold mUq; rw [zcnt_s]; simp [c_73, hx]
          refine zV_iconst hX (v := nI 1) dX11_unlikeOf_76 (by decide) ?_
          refine zV_goto hX (tgt := 81) dX11_unlikeOf_77 (by decide) ?_
          refine zV_iaddN hX dX11_unlikeOf_81 ?_
          refine zV_istore_n hX dX11_unlikeOf_82 (by decide) ?_
          dsimp only [zst1, zst2, zclr, zc2]
          refine zV_iincN hX (b := 1) dX11_unlikeOf_83 rfl (by decide) ?_
          dsimp only [zst1, zst2, zclr, zc2]
          refine zV_goto hX (tgt := 4) dX11_unlikeOf_86 (by decide) ?_
          have h9 := fun v3 v4 => ih (m + 1) v3 v4 (by omega) (by omega)
          simp only [e9] at h9
          exact h9 _ _
      have L29 : m < n → mLiar M m = false → ∀ (f9 e : Nat), m - e < f9 → e ≤ m → zV G X Q 6 0 0 29 [.ref (300 : Nat), .ref rw, .int (nI (mUq (mLiar M) (M.1 rw) m)), .int (nI m), .int (zb (zall (fun e => (mLiar M) e || !((M.1 rw) e == (M.1 rw) m)) e)), .int (nI e)] [] M := by
        intro c_9 hx
        intro f9
        induction f9 with
        | zero => intro e he1 he2; exact absurd he1 (Nat.not_lt_zero _)
        | succ f9 ih2 =>
          intro e he1 he2
          refine zV_iload hX dX11_unlikeOf_29 rfl ?_
          refine zV_iload_n hX dX11_unlikeOf_31 rfl ?_
          refine zV_icmp_geN hX (tgt := 70) dX11_unlikeOf_32 (by decide) ⟨by omega, by omega⟩ (fun c_32 => ?_) (fun c_32 => ?_)
          · have hem : e = m := by omega
            rw [hem]
            exact J70 c_9 hx _
          · refine zV_iload hX dX11_unlikeOf_35 rfl ?_
            refine zV_aload_n hX dX11_unlikeOf_37 rfl ?_
            refine zV_iload hX dX11_unlikeOf_38 rfl ?_
            refine zV_cV1p hX hR hl dX11_unlikeOf_40 (zc_misLiar l G M e (by omega)) zt_X11_isLiar rfl zml_X11_295 zo300.1 ⟨by decide, by decide⟩ (Nat.le_of_ble_eq_true rfl) ?_
            dsimp only [Option.toList, List.cons_append, List.nil_append]
            refine zV_if_neB hX (tgt := 56) dX11_unlikeOf_43 (by decide) (fun c_43 => ?_) (fun c_43 => ?_)
            · have e8 : (zall (fun e => (mLiar M) e || !((M.1 rw) e == (M.1 rw) m)) (e + 1)) = ((zall (fun e => (mLiar M) e || !((M.1 rw) e == (M.1 rw) m)) e) && true) := by show ((zall (fun e => (mLiar M) e || !((M.1 rw) e == (M.1 rw) m)) e) && ((mLiar M) e || !((M.1 rw) e == (M.1 rw) m))) = _; congr 1; rw [c_43]; rfl
              refine zV_iconst hX (v := nI 1) dX11_unlikeOf_56 (by decide) ?_
              refine zV_goto hX (tgt := 61) dX11_unlikeOf_57 (by decide) ?_
              refine zV_iand hX dX11_unlikeOf_61 ?_
              refine zV_topi (zb (zall (fun e => (mLiar M) e || !((M.1 rw) e == (M.1 rw) m)) (e + 1))) (by rw [e8]; first | exact zb_a1 _ | exact zb_a0 _) ?_
              refine zV_istore hX dX11_unlikeOf_62 (by decide) ?_
              dsimp only [zst1, zst2, zclr, zc2]
              refine zV_iincN hX (b := 1) dX11_unlikeOf_64 rfl (by decide) ?_
              dsimp only [zst1, zst2, zclr, zc2]
              refine zV_goto hX (tgt := 29) dX11_unlikeOf_67 (by decide) ?_
              exact ih2 (e + 1) (by omega) (by omega)
            · refine zV_aload_n hX dX11_unlikeOf_46 rfl ?_
              refine zV_iload hX dX11_unlikeOf_47 rfl ?_
              refine zV_iald hX dX11_unlikeOf_49 hrw (rfl) ⟨by omega, by omega⟩ (rfl) ?_
              refine zV_aload_n hX dX11_unlikeOf_50 rfl ?_
              refine zV_iload_n hX dX11_unlikeOf_51 rfl ?_
              refine zV_iald hX dX11_unlikeOf_52 hrw (rfl) ⟨by omega, by omega⟩ (rfl) ?_
              refine zV_icmp_eq hX (tgt := 60) dX11_unlikeOf_53 (by decide) (fun c_53 => ?_) (fun c_53 => ?_)
              · have e8 : (zall (fun e => (mLiar M) e || !((M.1 rw) e == (M.1 rw) m)) (e + 1)) = ((zall (fun e => (mLiar M) e || !((M.1 rw) e == (M.1 rw) m)) e) && false) := by show ((zall (fun e => (mLiar M) e || !((M.1 rw) e == (M.1 rw) m)) e) && ((mLiar M) e || !((M.1 rw) e == (M.1 rw) m))) = _; congr 1; rw [c_43, show (M.1 rw) e = (M.1 rw) m from c_53]; simp
                refine zV_iconst hX (v := nI 0) dX11_unlikeOf_60 (by decide) ?_
                refine zV_iand hX dX11_unlikeOf_61 ?_
                refine zV_topi (zb (zall (fun e => (mLiar M) e || !((M.1 rw) e == (M.1 rw) m)) (e + 1))) (by rw [e8]; first | exact zb_a1 _ | exact zb_a0 _) ?_
                refine zV_istore hX dX11_unlikeOf_62 (by decide) ?_
                dsimp only [zst1, zst2, zclr, zc2]
                refine zV_iincN hX (b := 1) dX11_unlikeOf_64 rfl (by decide) ?_
                dsimp only [zst1, zst2, zclr, zc2]
                refine zV_goto hX (tgt := 29) dX11_unlikeOf_67 (by decide) ?_
                exact ih2 (e + 1) (by omega) (by omega)
              · have e8 : (zall (fun e => (mLiar M) e || !((M.1 rw) e == (M.1 rw) m)) (e + 1)) = ((zall (fun e => (mLiar M) e || !((M.1 rw) e == (M.1 rw) m)) e) && true) := by show ((zall (fun e => (mLiar M) e || !((M.1 rw) e == (M.1 rw) m)) e) && ((mLiar M) e || !((M.1 rw) e == (M.1 rw) m))) = _; congr 1; rw [beq_false_of_ne (show (M.1 rw) e ≠ (M.1 rw) m from c_53)]; simp
                refine zV_iconst hX (v := nI 1) dX11_unlikeOf_56 (by decide) ?_
                refine zV_goto hX (tgt := 61) dX11_unlikeOf_57 (by decide) ?_
                refine zV_iand hX dX11_unlikeOf_61 ?_
                refine zV_topi (zb (zall (fun e => (mLiar M) e || !((M.1 rw) e == (M.1 rw) m)) (e + 1))) (by rw [e8]; first | exact zb_a1 _ | exact zb_a0 _) ?_
                refine zV_istore hX dX11_unlikeOf_62 (by decide) ?_
                dsimp only [zst1, zst2, zclr, zc2]
                refine zV_iincN hX (b := 1) dX11_unlikeOf_64 rfl (by decide) ?_
                dsimp only [zst1, zst2, zclr, zc2]
                refine zV_goto hX (tgt := 29) dX11_unlikeOf_67 (by decide) ?_
                exact ih2 (e + 1) (by omega) (by omega)
      refine zV_iload_n hX dX11_unlikeOf_4 rfl ?_
      refine zV_aload_n hX dX11_unlikeOf_5 rfl ?_
      refine zV_geti hX dX11_unlikeOf_6 zf_X11_20 zo300.1 rfl (hn) ?_
      refine zV_icmp_geN hX (tgt := 89) dX11_unlikeOf_9 (by decide) ⟨by omega, by omega⟩ (fun c_9 => ?_) (fun c_9 => ?_)
      · refine zV_iload_n hX dX11_unlikeOf_89 rfl ?_
        exact zV_reti hX hQ hr (⟨by rw [show m = n by omega], rfl⟩) dX11_unlikeOf_90
      · refine zV_aload_n hX dX11_unlikeOf_12 rfl ?_
        refine zV_iload_n hX dX11_unlikeOf_13 rfl ?_
        refine zV_cV1p hX hR hl dX11_unlikeOf_14 (zc_misLiar l G M m (by omega)) zt_X11_isLiar rfl zml_X11_295 zo300.1 ⟨by decide, by decide⟩ (Nat.le_of_ble_eq_true rfl) ?_
        dsimp only [Option.toList, List.cons_append, List.nil_append]
        refine zV_if_eqB hX (tgt := 23) dX11_unlikeOf_17 (by decide) (fun c_17 => ?_) (fun c_17 => ?_)
        · have hx := c_17
          refine zV_iconst hX (v := nI 1) dX11_unlikeOf_23 (by decide) ?_
          refine zV_topi (zb (zall (fun e => (mLiar M) e || !((M.1 rw) e == (M.1 rw) m)) 0)) rfl ?_
          refine zV_istore hX dX11_unlikeOf_24 (by decide) ?_
          dsimp only [zst1, zst2, zclr, zc2]
          refine zV_iconst hX (v := nI 0) dX11_unlikeOf_26 (by decide) ?_
          refine zV_istore hX dX11_unlikeOf_27 (by decide) ?_
          dsimp only [zst1, zst2, zclr, zc2]
          exact L29 c_9 hx (m + 1) 0 (by omega) (by omega)
        · have e9 : (mUq (mLiar M) (M.1 rw) (m + 1)) = (mUq (mLiar M) (M.1 rw) m) + 0 := by unfold mUq; rw [zcnt_s]; simp [c_17]
          refine zV_goto hX (tgt := 83) dX11_unlikeOf_20 (by decide) ?_
          refine zV_iincN hX (b := 1) dX11_unlikeOf_83 rfl (by decide) ?_
          dsimp only [zst1, zst2, zclr, zc2]
          refine zV_goto hX (tgt := 4) dX11_unlikeOf_86 (by decide) ?_
          have h9 := fun v3 v4 => ih (m + 1) v3 v4 (by omega) (by omega)
          simp only [e9] at h9
          exact h9 _ _
  refine zV_iconst hX (v := nI 0) dX11_unlikeOf_0 (by decide) ?_
  refine zV_istore_n hX dX11_unlikeOf_1 (by decide) ?_
  dsimp only [zst1, zst2, zclr, zc2]
  refine zV_iconst hX (v := nI 0) dX11_unlikeOf_2 (by decide) ?_
  refine zV_istore_n hX dX11_unlikeOf_3 (by decide) ?_
  dsimp only [zst1, zst2, zclr, zc2]
  exact L4 (n + 1) 0 _ _ (by omega) (by omega)
def mCt (w : Option (Option Int32)) (v : Int32) (M : zM) : zM := zw (zw (mSb w v M) 300 47 (M.1 300 47 + (if w = none then nI 0 else nI 1))) 300 48 (M.1 300 48 + (if w = some none then nI 1 else nI 0))
def mCried (mn : Nat → Option Nat) (s x r : Nat) (v : Int32) (M : zM) : zM := mCt (mSay M mn s r x (nI s) v) v M
def mCv (mn : Nat → Option Nat) (s x r : Nat) (v : Int32) (M : zM) : Int32 := zval (mSay M mn s r x (nI s) v) (M.1 300 11)
set_option maxHeartbeats 1000000 in
theorem zc_cried_n (l : Launch) (G : zG) (M : zM) (s x q : Nat) (v : Int32) (mn : Nat → Option Nat) (hmn : mLn 0 M mn) (hs : s < 7) (hx : x < 7) (hw : (mSay M mn s q x (nI s) v) = none) : zC l G 2 yX11_cried cX11_cried 6 (Option.some Jvm.ClassFile.FieldType.int) [.ref (300 : Nat), .int (nI s), .int (nI x), .int (nI q), .int v] M (zP (some (.int (mCv mn s x q v M))) (mCried mn s x q v M)) := by
  refine zC_of (by decide) (Nat.le_of_ble_eq_true rfl) (fun X Q hQ hX hl hR hr => ?_)
  refine zV_loc (L' := [.ref (300 : Nat), .int (nI s), .int (nI x), .int (nI q), .int v, .null]) rfl ?_
  refine zV_aload_n hX dX11_cried_0 rfl ?_
  refine zV_iload_n hX dX11_cried_1 rfl ?_
  refine zV_iload_n hX dX11_cried_2 rfl ?_
  refine zV_iload_n hX dX11_cried_3 rfl ?_
  refine zV_iload_n hX dX11_cried_4 rfl ?_
  refine zV_iload hX dX11_cried_5 rfl ?_
  refine zV_cV5p hX hR hl dX11_cried_7 (zc_says l G M s x q (nI s) v mn hmn hs hx) zt_X11_says rfl zml_X11_313 zo300.1 ⟨by decide, by decide⟩ (Nat.le_of_ble_eq_true rfl) ?_
  dsimp only [Option.toList, List.cons_append, List.nil_append]
  refine zV_topi (nI 0) (by rw [hw]; rfl) ?_
  rw [hw]
  refine zV_istore hX dX11_cried_10 (by decide) ?_
  dsimp only [zst1, zst2, zclr, zc2]
  refine zV_aload_n hX dX11_cried_12 rfl ?_
  refine zV_dup hX dX11_cried_13 rfl ?_
  refine zV_geti hX (x := M.1 300 47) dX11_cried_14 zf_X11_441 zo300.1 rfl (by unfold mSb; rw [zw_ne (by omega)]) ?_
  refine zV_iload hX dX11_cried_17 rfl ?_
  refine zV_if_neN hX (tgt := 26) dX11_cried_19 (by decide) (by omega) (fun c_19 => absurd c_19 (by decide)) (fun c_19 => ?_)
  refine zV_iconst hX (v := nI 0) dX11_cried_22 (by decide) ?_
  refine zV_goto hX (tgt := 27) dX11_cried_23 (by decide) ?_
  refine zV_iadd hX dX11_cried_27 ?_
  refine zV_puti hX dX11_cried_28 zf_X11_441 zp_9_47 zo300.1 rfl ?_
  refine zV_aload_n hX dX11_cried_31 rfl ?_
  refine zV_dup hX dX11_cried_32 rfl ?_
  refine zV_geti hX (x := M.1 300 48) dX11_cried_33 zf_X11_444 zo300.1 rfl (by unfold mSb; rw [zw_ne (by omega), zw_ne (by omega)]) ?_
  refine zV_iload hX dX11_cried_36 rfl ?_
  refine zV_iconst hX (v := nI 1) dX11_cried_38 (by decide) ?_
  refine zV_icmp_neN hX (tgt := 46) dX11_cried_39 (by decide) ⟨by omega, by omega⟩ (fun c_39 => ?_) (fun c_39 => absurd c_39 (by decide))
  refine zV_iconst hX (v := nI 0) dX11_cried_46 (by decide) ?_
  refine zV_iadd hX dX11_cried_47 ?_
  refine zV_puti hX dX11_cried_48 zf_X11_444 zp_9_48 zo300.1 rfl ?_
  refine zV_iload hX dX11_cried_51 rfl ?_
  refine zV_iconst hX (v := nI 2) dX11_cried_53 (by decide) ?_
  refine zV_icmp_neN hX (tgt := 64) dX11_cried_54 (by decide) ⟨by omega, by omega⟩ (fun c_54 => ?_) (fun c_54 => absurd c_54 (by decide))
  refine zV_aload_n hX dX11_cried_64 rfl ?_
  refine zV_geti hX (x := M.1 300 11) dX11_cried_65 zf_X11_170 zo300.1 rfl (by unfold mSb; rw [zw_ne (by omega), zw_ne (by omega), zw_ne (by omega)]) ?_
  exact zV_reti hX hQ hr (⟨by unfold mCv; rw [hw]; rfl, by unfold mCried; rw [hw]; rfl⟩) dX11_cried_68
set_option maxHeartbeats 1000000 in
theorem zc_cried_w (l : Launch) (G : zG) (M : zM) (s x q : Nat) (v : Int32) (mn : Nat → Option Nat) (hmn : mLn 0 M mn) (hs : s < 7) (hx : x < 7) (hw : (mSay M mn s q x (nI s) v) = (some none)) : zC l G 2 yX11_cried cX11_cried 6 (Option.some Jvm.ClassFile.FieldType.int) [.ref (300 : Nat), .int (nI s), .int (nI x), .int (nI q), .int v] M (zP (some (.int (mCv mn s x q v M))) (mCried mn s x q v M)) := by
  refine zC_of (by decide) (Nat.le_of_ble_eq_true rfl) (fun X Q hQ hX hl hR hr => ?_)
  refine zV_loc (L' := [.ref (300 : Nat), .int (nI s), .int (nI x), .int (nI q), .int v, .null]) rfl ?_
  refine zV_aload_n hX dX11_cried_0 rfl ?_
  refine zV_iload_n hX dX11_cried_1 rfl ?_
  refine zV_iload_n hX dX11_cried_2 rfl ?_
  refine zV_iload_n hX dX11_cried_3 rfl ?_
  refine zV_iload_n hX dX11_cried_4 rfl ?_
  refine zV_iload hX dX11_cried_5 rfl ?_
  refine zV_cV5p hX hR hl dX11_cried_7 (zc_says l G M s x q (nI s) v mn hmn hs hx) zt_X11_says rfl zml_X11_313 zo300.1 ⟨by decide, by decide⟩ (Nat.le_of_ble_eq_true rfl) ?_
  dsimp only [Option.toList, List.cons_append, List.nil_append]
  refine zV_topi (nI 1) (by rw [hw]; rfl) ?_
  rw [hw]
  refine zV_istore hX dX11_cried_10 (by decide) ?_
  dsimp only [zst1, zst2, zclr, zc2]
  refine zV_aload_n hX dX11_cried_12 rfl ?_
  refine zV_dup hX dX11_cried_13 rfl ?_
  refine zV_geti hX (x := M.1 300 47) dX11_cried_14 zf_X11_441 zo300.1 rfl (by unfold mSb; rw [zw_ne (by omega)]) ?_
  refine zV_iload hX dX11_cried_17 rfl ?_
  refine zV_if_neN hX (tgt := 26) dX11_cried_19 (by decide) (by omega) (fun c_19 => ?_) (fun c_19 => absurd c_19 (by decide))
  refine zV_iconst hX (v := nI 1) dX11_cried_26 (by decide) ?_
  refine zV_iadd hX dX11_cried_27 ?_
  refine zV_puti hX dX11_cried_28 zf_X11_441 zp_9_47 zo300.1 rfl ?_
  refine zV_aload_n hX dX11_cried_31 rfl ?_
  refine zV_dup hX dX11_cried_32 rfl ?_
  refine zV_geti hX (x := M.1 300 48) dX11_cried_33 zf_X11_444 zo300.1 rfl (by unfold mSb; rw [zw_ne (by omega), zw_ne (by omega)]) ?_
  refine zV_iload hX dX11_cried_36 rfl ?_
  refine zV_iconst hX (v := nI 1) dX11_cried_38 (by decide) ?_
  refine zV_icmp_neN hX (tgt := 46) dX11_cried_39 (by decide) ⟨by omega, by omega⟩ (fun c_39 => absurd c_39 (by decide)) (fun c_39 => ?_)
  refine zV_iconst hX (v := nI 1) dX11_cried_42 (by decide) ?_
  refine zV_goto hX (tgt := 47) dX11_cried_43 (by decide) ?_
  refine zV_iadd hX dX11_cried_47 ?_
  refine zV_puti hX dX11_cried_48 zf_X11_444 zp_9_48 zo300.1 rfl ?_
  refine zV_iload hX dX11_cried_51 rfl ?_
  refine zV_iconst hX (v := nI 2) dX11_cried_53 (by decide) ?_
  refine zV_icmp_neN hX (tgt := 64) dX11_cried_54 (by decide) ⟨by omega, by omega⟩ (fun c_54 => ?_) (fun c_54 => absurd c_54 (by decide))
  refine zV_aload_n hX dX11_cried_64 rfl ?_
  refine zV_geti hX (x := M.1 300 11) dX11_cried_65 zf_X11_170 zo300.1 rfl (by unfold mSb; rw [zw_ne (by omega), zw_ne (by omega), zw_ne (by omega)]) ?_
  exact zV_reti hX hQ hr (⟨by unfold mCv; rw [hw]; rfl, by unfold mCried; rw [hw]; rfl⟩) dX11_cried_68
set_option maxHeartbeats 1000000 in
theorem zc_cried_v (l : Launch) (G : zG) (M : zM) (s x q : Nat) (v : Int32) (mn : Nat → Option Nat) (u : Int32) (hmn : mLn 0 M mn) (hs : s < 7) (hx : x < 7) (hw : (mSay M mn s q x (nI s) v) = (some (some u))) : zC l G 2 yX11_cried cX11_cried 6 (Option.some Jvm.ClassFile.FieldType.int) [.ref (300 : Nat), .int (nI s), .int (nI x), .int (nI q), .int v] M (zP (some (.int (mCv mn s x q v M))) (mCried mn s x q v M)) := by
  refine zC_of (by decide) (Nat.le_of_ble_eq_true rfl) (fun X Q hQ hX hl hR hr => ?_)
  refine zV_loc (L' := [.ref (300 : Nat), .int (nI s), .int (nI x), .int (nI q), .int v, .null]) rfl ?_
  refine zV_aload_n hX dX11_cried_0 rfl ?_
  refine zV_iload_n hX dX11_cried_1 rfl ?_
  refine zV_iload_n hX dX11_cried_2 rfl ?_
  refine zV_iload_n hX dX11_cried_3 rfl ?_
  refine zV_iload_n hX dX11_cried_4 rfl ?_
  refine zV_iload hX dX11_cried_5 rfl ?_
  refine zV_cV5p hX hR hl dX11_cried_7 (zc_says l G M s x q (nI s) v mn hmn hs hx) zt_X11_says rfl zml_X11_313 zo300.1 ⟨by decide, by decide⟩ (Nat.le_of_ble_eq_true rfl) ?_
  dsimp only [Option.toList, List.cons_append, List.nil_append]
  refine zV_topi (nI 2) (by rw [hw]; rfl) ?_
  rw [hw]
  refine zV_istore hX dX11_cried_10 (by decide) ?_
  dsimp only [zst1, zst2, zclr, zc2]
  refine zV_aload_n hX dX11_cried_12 rfl ?_
  refine zV_dup hX dX11_cried_13 rfl ?_
  refine zV_geti hX (x := M.1 300 47) dX11_cried_14 zf_X11_441 zo300.1 rfl (by unfold mSb; rw [zw_ne (by omega)]) ?_
  refine zV_iload hX dX11_cried_17 rfl ?_
  refine zV_if_neN hX (tgt := 26) dX11_cried_19 (by decide) (by omega) (fun c_19 => ?_) (fun c_19 => absurd c_19 (by decide))
  refine zV_iconst hX (v := nI 1) dX11_cried_26 (by decide) ?_
  refine zV_iadd hX dX11_cried_27 ?_
  refine zV_puti hX dX11_cried_28 zf_X11_441 zp_9_47 zo300.1 rfl ?_
  refine zV_aload_n hX dX11_cried_31 rfl ?_
  refine zV_dup hX dX11_cried_32 rfl ?_
  refine zV_geti hX (x := M.1 300 48) dX11_cried_33 zf_X11_444 zo300.1 rfl (by unfold mSb; rw [zw_ne (by omega), zw_ne (by omega)]) ?_
  refine zV_iload hX dX11_cried_36 rfl ?_
  refine zV_iconst hX (v := nI 1) dX11_cried_38 (by decide) ?_
  refine zV_icmp_neN hX (tgt := 46) dX11_cried_39 (by decide) ⟨by omega, by omega⟩ (fun c_39 => ?_) (fun c_39 => absurd c_39 (by decide))
  refine zV_iconst hX (v := nI 0) dX11_cried_46 (by decide) ?_
  refine zV_iadd hX dX11_cried_47 ?_
  refine zV_puti hX dX11_cried_48 zf_X11_444 zp_9_48 zo300.1 rfl ?_
  refine zV_iload hX dX11_cried_51 rfl ?_
  refine zV_iconst hX (v := nI 2) dX11_cried_53 (by decide) ?_
  refine zV_icmp_neN hX (tgt := 64) dX11_cried_54 (by decide) ⟨by omega, by omega⟩ (fun c_54 => absurd c_54 (by decide)) (fun c_54 => ?_)
  refine zV_aload_n hX dX11_cried_57 rfl ?_
  refine zV_geti hX (x := u) dX11_cried_58 zf_X11_298 zo300.1 rfl (by rw [zw_ne (by omega), zw_ne (by omega)]; exact zw_same) ?_
  refine zV_goto hX (tgt := 68) dX11_cried_61 (by decide) ?_
  exact zV_reti hX hQ hr (⟨by unfold mCv; rw [hw]; rfl, by unfold mCried; rw [hw]; rfl⟩) dX11_cried_68
theorem zc_cried (l : Launch) (G : zG) (M : zM) (s x q : Nat) (v : Int32) (mn : Nat → Option Nat) (hmn : mLn 0 M mn) (hs : s < 7) (hx : x < 7) : zC l G 2 yX11_cried cX11_cried 6 (Option.some Jvm.ClassFile.FieldType.int) [.ref (300 : Nat), .int (nI s), .int (nI x), .int (nI q), .int v] M (zP (some (.int (mCv mn s x q v M))) (mCried mn s x q v M)) := by
  cases hw : (mSay M mn s q x (nI s) v) with
  | none => exact zc_cried_n l G M s x q v mn hmn hs hx hw
  | some w => cases w with
    | none => exact zc_cried_w l G M s x q v mn hmn hs hx hw
    | some u => exact zc_cried_v l G M s x q v mn u hmn hs hx hw
def mFrK (a j : Nat) : Prop := (a = 300 ∧ (j = 16 ∨ j = 47 ∨ j = 48)) ∨ (343 ≤ a ∧ a ≤ 347)
abbrev kK (M M' : zM) : Prop := zKf mFrK M M'
theorem mCt_K (w : Option (Option Int32)) (v : Int32) (M : zM) : kK M (mCt w v M) := by
  unfold mCt mSb
  exact ((zKf.rf.w (by unfold mFrK; omega)).w (by unfold mFrK; omega)).w (by unfold mFrK; omega)
theorem kK.ln {M M1 : zM} (h : kK M M1) {mn : Nat → Option Nat} (e : mLn 0 M mn) : mLn 0 M1 mn := fun s hs => ⟨(h.1 _ _ (by unfold mFrK; omega)).trans (e s hs).1, (e s hs).2⟩
def mCwn (k : Nat) (M : zM) : zM := zfor (fun m M => zw M (300 + 1 + 42) m (M.1 (300 + 1 + 12) m)) k (zw (zw M 300 47 (nI 0)) 300 48 (nI 0))
theorem mCwn_K (k : Nat) (M : zM) : kK M (mCwn k M) := ((zKf.rf.w (by unfold mFrK; omega)).w (by unfold mFrK; omega)).tr (zKf.for k _ (fun i M _ => zKf.rf.w (by unfold mFrK; omega)))
def mPa1 (mn : Nat → Option Nat) (m s : Nat) (M : zM) : zM := if s = m then zw M (300 + 1 + 46) s (M.1 (300 + 1 + 42) m) else zw (mCried mn s m 1 (M.1 (300 + 1 + 42) s) M) (300 + 1 + 46) s (mCv mn s m 1 (M.1 (300 + 1 + 42) s) M)
def mPa (mn : Nat → Option Nat) (m k : Nat) (M : zM) : zM := zfor (mPa1 mn m) k M
def mPb1 (n m s : Nat) (M : zM) : zM := if nI (zcnt (fun e => M.1 (300 + 1 + 46) e == M.1 (300 + 1 + 46) s) n) ≤ M.1 (300 + 1 + 45) m then M else zw (zw M (300 + 1 + 45) m (nI (zcnt (fun e => M.1 (300 + 1 + 46) e == M.1 (300 + 1 + 46) s) n))) (300 + 1 + 44) m (M.1 (300 + 1 + 46) s)
def mPb (n m k : Nat) (M : zM) : zM := zfor (mPb1 n m) k M
def mPc1 (n : Nat) (mn : Nat → Option Nat) (m : Nat) (M : zM) : zM := mPb n m n (zw (mPa mn m n M) (300 + 1 + 45) m (nI 0))
def mPc (n : Nat) (mn : Nat → Option Nat) (k : Nat) (M : zM) : zM := zfor (mPc1 n mn) k M
def mPw (n t m : Nat) (f : Int32) (M : zM) : Int32 := if M.1 (300 + 1 + 45) m ≤ nI (n / 2 + t) then f else M.1 (300 + 1 + 44) m
def mPd1 (n t : Nat) (mn : Nat → Option Nat) (kg m : Nat) (M : zM) : zM := if m = kg then zw M (300 + 1 + 43) m (mPw n t m (M.1 (300 + 1 + 44) kg) M) else zw (mCried mn kg m 2 (M.1 (300 + 1 + 44) kg) M) (300 + 1 + 43) m (mPw n t m (mCv mn kg m 2 (M.1 (300 + 1 + 44) kg) M) M)
def mPd (n t : Nat) (mn : Nat → Option Nat) (kg k : Nat) (M : zM) : zM := zfor (mPd1 n t mn kg) k M
def mPe (k : Nat) (M : zM) : zM := zfor (fun m M => zw M (300 + 1 + 42) m (M.1 (300 + 1 + 43) m)) k M
def mPhase (n t : Nat) (mn : Nat → Option Nat) (kg : Nat) (M : zM) : zM := mPe n (mPd n t mn kg n (mPc n mn n M))
theorem mPa1_K (mn : Nat → Option Nat) (m s : Nat) (M : zM) : kK M (mPa1 mn m s M) := by
  unfold mPa1
  split
  · exact zKf.rf.w (by unfold mFrK; omega)
  · exact (mCt_K _ _ _).w (by unfold mFrK; omega)
theorem mPa_K (mn : Nat → Option Nat) (m k : Nat) (M : zM) : kK M (mPa mn m k M) := zKf.for k M (fun i M _ => mPa1_K mn m i M)
theorem mPb1_K (n m s : Nat) (M : zM) : kK M (mPb1 n m s M) := by
  unfold mPb1
  split
  · exact zKf.rf
  · exact (zKf.rf.w (by unfold mFrK; omega)).w (by unfold mFrK; omega)
theorem mPb_K (n m k : Nat) (M : zM) : kK M (mPb n m k M) := zKf.for k M (fun i M _ => mPb1_K n m i M)
theorem mPc_K (n : Nat) (mn : Nat → Option Nat) (k : Nat) (M : zM) : kK M (mPc n mn k M) := zKf.for k M (fun i M _ => ((mPa_K mn i n M).w (by unfold mFrK; omega)).tr (mPb_K n i n _))
theorem mPd1_K (n t : Nat) (mn : Nat → Option Nat) (kg m : Nat) (M : zM) : kK M (mPd1 n t mn kg m M) := by
  unfold mPd1
  split
  · exact zKf.rf.w (by unfold mFrK; omega)
  · exact (mCt_K _ _ _).w (by unfold mFrK; omega)
theorem mPd_K (n t : Nat) (mn : Nat → Option Nat) (kg k : Nat) (M : zM) : kK M (mPd n t mn kg k M) := zKf.for k M (fun i M _ => mPd1_K n t mn kg i M)
theorem mPe_K (k : Nat) (M : zM) : kK M (mPe k M) := zKf.for k M (fun i M _ => zKf.rf.w (by unfold mFrK; omega))
theorem mPhase_K (n t : Nat) (mn : Nat → Option Nat) (kg : Nat) (M : zM) : kK M (mPhase n t mn kg M) := ((mPc_K n mn n M).tr (mPd_K n t mn kg n _)).tr (mPe_K n _)
/-- one that cries changes neither counts nor crowns -/
theorem mCt_c (w : Option (Option Int32)) (v : Int32) (M : zM) {a j : Nat} (h : a ≠ 300) : (mCt w v M).1 a j = M.1 a j := by
  unfold mCt mSb
  rw [zw_ne (by omega), zw_ne (by omega), zw_ne (by omega)]
set_option maxHeartbeats 1000000 in
theorem zc_crowns (l : Launch) (G : zG) (M : zM) (n : Nat) (hn : M.1 300 9 = nI n) (hn7 : n ≤ 7) : zC l G 0 yX11_crowns cX11_crowns 2 (Option.none : Option Jvm.ClassFile.FieldType) [.ref (300 : Nat)] M (zP none (mCwn n M)) := by
  refine zC_of (by decide) (Nat.le_of_ble_eq_true rfl) (fun X Q hQ hX hl hR hr => ?_)
  refine zV_loc (L' := [.ref (300 : Nat), .null]) rfl ?_
  have L12 : ∀ (f9 k : Nat), n - k < f9 → k ≤ n → zV G X Q 2 0 0 12 [.ref (300 : Nat), .int (nI k)] [] (mCwn k M) := by
    intro f9
    induction f9 with
    | zero => intro k hk1 hk2; exact absurd hk1 (Nat.not_lt_zero _)
    | succ f9 ih =>
      intro k hk1 hk2
      refine zV_iload_n hX dX11_crowns_12 rfl ?_
      refine zV_aload_n hX dX11_crowns_13 rfl ?_
      refine zV_geti hX dX11_crowns_14 zf_X11_20 zo300.1 rfl ((mCwn_K k M).at hn (by unfold mFrK; omega)) ?_
      refine zV_icmp_geN hX (tgt := 38) dX11_crowns_17 (by decide) ⟨by omega, by omega⟩ (fun c_17 => ?_) (fun c_17 => ?_)
      · exact zV_retv hX hQ hr (⟨rfl, by rw [show k = n by omega]⟩) dX11_crowns_38
      · refine zV_aload_n hX dX11_crowns_20 rfl ?_
        refine zV_geta hX dX11_crowns_21 zf_X11_86 zo300.1 rfl ?_
        refine zV_iload_n hX dX11_crowns_24 rfl ?_
        refine zV_aload_n hX dX11_crowns_25 rfl ?_
        refine zV_geta hX dX11_crowns_26 zf_X11_26 zo300.1 rfl ?_
        refine zV_iload_n hX dX11_crowns_29 rfl ?_
        refine zV_iald hX dX11_crowns_30 (zo300.a 12 rfl) (rfl) ⟨by omega, by omega⟩ (rfl) ?_
        refine zV_iast hX dX11_crowns_31 (zo300.a 42 rfl) (rfl) ⟨by omega, by omega⟩ ?_
        refine zV_iincN hX (b := 1) dX11_crowns_32 rfl (by decide) ?_
        dsimp only [zst1, zst2, zclr, zc2]
        refine zV_goto hX (tgt := 12) dX11_crowns_35 (by decide) ?_
        exact ih (k + 1) (by omega) (by omega)
  refine zV_aload_n hX dX11_crowns_0 rfl ?_
  refine zV_iconst hX (v := nI 0) dX11_crowns_1 (by decide) ?_
  refine zV_puti hX dX11_crowns_2 zf_X11_441 zp_9_47 zo300.1 rfl ?_
  refine zV_aload_n hX dX11_crowns_5 rfl ?_
  refine zV_iconst hX (v := nI 0) dX11_crowns_6 (by decide) ?_
  refine zV_puti hX dX11_crowns_7 zf_X11_444 zp_9_48 zo300.1 rfl ?_
  refine zV_iconst hX (v := nI 0) dX11_crowns_10 (by decide) ?_
  refine zV_istore_n hX dX11_crowns_11 (by decide) ?_
  dsimp only [zst1, zst2, zclr, zc2]
  exact L12 (n + 1) 0 (by omega) (by omega)
set_option maxHeartbeats 1000000 in
theorem zc_phase (l : Launch) (G : zG) (M : zM) (n t kg : Nat) (mn : Nat → Option Nat) (hn : M.1 300 9 = nI n) (hn7 : n ≤ 7) (ht : M.1 300 10 = nI t) (ht2 : t ≤ 2) (hkg : kg < 7) (hmn : mLn 0 M mn) : zC l G 3 yX11_phase cX11_phase 6 (Option.none : Option Jvm.ClassFile.FieldType) [.ref (300 : Nat), .int (nI kg)] M (zP none (mPhase n t mn kg M)) := by
  refine zC_of (by decide) (Nat.le_of_ble_eq_true rfl) (fun X Q hQ hX hl hR hr => ?_)
  refine zV_loc (L' := [.ref (300 : Nat), .int (nI kg), .null, .null, .null, .null]) rfl ?_
  have J249 : ∀ v2 v3 v4 v5 : Value, zV G X Q 6 0 0 249 [.ref (300 : Nat), .int (nI kg), v2, v3, v4, v5] [] (mPd n t mn kg n (mPc n mn n M)) := by
    intro v2 v3 v4 v5
    have L251 : ∀ (f9 m : Nat) (v3 v4 v5 : Value), n - m < f9 → m ≤ n → zV G X Q 6 0 0 251 [.ref (300 : Nat), .int (nI kg), .int (nI m), v3, v4, v5] [] (mPe m (mPd n t mn kg n (mPc n mn n M))) := by
      intro f9
      induction f9 with
      | zero => intro m v3 v4 v5 hm1 hm2; exact absurd hm1 (Nat.not_lt_zero _)
      | succ f9 ih =>
        intro m v3 v4 v5 hm1 hm2
        have hE := ((mPc_K n mn n M).tr (mPd_K n t mn kg n (mPc n mn n M))).tr (mPe_K m _)
        refine zV_iload_n hX dX11_phase_251 rfl ?_
        refine zV_aload_n hX dX11_phase_252 rfl ?_
        refine zV_geti hX dX11_phase_253 zf_X11_20 zo300.1 rfl (hE.at hn (by unfold mFrK; omega)) ?_
        refine zV_icmp_geN hX (tgt := 277) dX11_phase_256 (by decide) ⟨by omega, by omega⟩ (fun c_256 => ?_) (fun c_256 => ?_)
        · exact zV_retv hX hQ hr (⟨rfl, by rw [show m = n by omega]; rfl⟩) dX11_phase_277
        · refine zV_aload_n hX dX11_phase_259 rfl ?_
          refine zV_geta hX dX11_phase_260 zf_X11_86 zo300.1 rfl ?_
          refine zV_iload_n hX dX11_phase_263 rfl ?_
          refine zV_aload_n hX dX11_phase_264 rfl ?_
          refine zV_geta hX dX11_phase_265 zf_X11_89 zo300.1 rfl ?_
          refine zV_iload_n hX dX11_phase_268 rfl ?_
          refine zV_iald hX dX11_phase_269 (zo300.a 43 rfl) (rfl) ⟨by omega, by omega⟩ (rfl) ?_
          refine zV_iast hX dX11_phase_270 (zo300.a 42 rfl) (rfl) ⟨by omega, by omega⟩ ?_
          refine zV_iincN hX (b := 1) dX11_phase_271 rfl (by decide) ?_
          dsimp only [zst1, zst2, zclr, zc2]
          refine zV_goto hX (tgt := 251) dX11_phase_274 (by decide) ?_
          exact ih (m + 1) _ _ _ (by omega) (by omega)
    refine zV_iconst hX (v := nI 0) dX11_phase_249 (by decide) ?_
    refine zV_istore_n hX dX11_phase_250 (by decide) ?_
    dsimp only [zst1, zst2, zclr, zc2]
    exact L251 (n + 1) 0 _ _ _ (by omega) (by omega)
  have J169 : ∀ v2 v3 v4 v5 : Value, zV G X Q 6 0 0 169 [.ref (300 : Nat), .int (nI kg), v2, v3, v4, v5] [] (mPc n mn n M) := by
    intro v2 v3 v4 v5
    have L171 : ∀ (f9 m : Nat) (v3 v4 v5 : Value), n - m < f9 → m ≤ n → zV G X Q 6 0 0 171 [.ref (300 : Nat), .int (nI kg), .int (nI m), v3, v4, v5] [] (mPd n t mn kg m (mPc n mn n M)) := by
      intro f9
      induction f9 with
      | zero => intro m v3 v4 v5 hm1 hm2; exact absurd hm1 (Nat.not_lt_zero _)
      | succ f9 ih =>
        intro m v3 v4 v5 hm1 hm2
        have hD := (mPc_K n mn n M).tr (mPd_K n t mn kg m (mPc n mn n M))
        have J206 : m < n → ∀ (f : Int32) (D1 : zM) (v3 v4 v5 : Value), (∀ a j : Nat, a ≠ 300 → D1.1 a j = (mPd n t mn kg m (mPc n mn n M)).1 a j) → kK M D1 → mPd1 n t mn kg m (mPd n t mn kg m (mPc n mn n M)) = zw D1 (300 + 1 + 43) m (mPw n t m f (mPd n t mn kg m (mPc n mn n M))) → zV G X Q 6 0 0 206 [.ref (300 : Nat), .int (nI kg), .int (nI m), v3, v4, v5] [.int f] D1 := by
          intro c_176 f D1 v3 v4 v5 hD1 hD2 e9
          refine zV_istore_n hX dX11_phase_206 (by decide) ?_
          dsimp only [zst1, zst2, zclr, zc2]
          refine zV_aload_n hX dX11_phase_207 rfl ?_
          refine zV_geta hX dX11_phase_208 zf_X11_89 zo300.1 rfl ?_
          refine zV_iload_n hX dX11_phase_211 rfl ?_
          refine zV_aload_n hX dX11_phase_212 rfl ?_
          refine zV_geta hX dX11_phase_213 zf_X11_95 zo300.1 rfl ?_
          refine zV_iload_n hX dX11_phase_216 rfl ?_
          refine zV_iald hX (v := (mPd n t mn kg m (mPc n mn n M)).1 (300 + 1 + 45) m) dX11_phase_217 (zo300.a 45 rfl) (rfl) ⟨by omega, by omega⟩ (hD1 _ _ (by omega)) ?_
          refine zV_aload_n hX dX11_phase_218 rfl ?_
          refine zV_geti hX dX11_phase_219 zf_X11_20 zo300.1 rfl ((hD2.at hn (by unfold mFrK; omega))) ?_
          refine zV_iconst hX (v := nI 2) dX11_phase_222 (by decide) ?_
          refine zV_idivN hX dX11_phase_223 ⟨by omega, by decide, by decide⟩ ?_
          refine zV_aload_n hX dX11_phase_224 rfl ?_
          refine zV_geti hX dX11_phase_225 zf_X11_23 zo300.1 rfl ((hD2.at ht (by unfold mFrK; omega))) ?_
          refine zV_iaddN hX dX11_phase_228 ?_
          refine zV_icmp_le hX (tgt := 241) dX11_phase_229 (by decide) (fun c_229 => ?_) (fun c_229 => ?_)
          · have e8 : mPw n t m f (mPd n t mn kg m (mPc n mn n M)) = f := if_pos c_229
            refine zV_iload_n hX dX11_phase_241 rfl ?_
            refine zV_iast hX dX11_phase_242 (zo300.a 43 rfl) (rfl) ⟨by omega, by omega⟩ ?_
            refine zV_iincN hX (b := 1) dX11_phase_243 rfl (by decide) ?_
            dsimp only [zst1, zst2, zclr, zc2]
            refine zV_goto hX (tgt := 171) dX11_phase_246 (by decide) ?_
            have h9 := ih (m + 1) (.int f) v4 v5 (by omega) (by omega)
            rw [show mPd n t mn kg (m + 1) (mPc n mn n M) = mPd1 n t mn kg m (mPd n t mn kg m (mPc n mn n M)) from rfl, e9, e8] at h9
            exact h9
          · have e8 : mPw n t m f (mPd n t mn kg m (mPc n mn n M)) = (mPd n t mn kg m (mPc n mn n M)).1 (300 + 1 + 44) m := if_neg c_229
            refine zV_aload_n hX dX11_phase_232 rfl ?_
            refine zV_geta hX dX11_phase_233 zf_X11_92 zo300.1 rfl ?_
            refine zV_iload_n hX dX11_phase_236 rfl ?_
            refine zV_iald hX (v := (mPd n t mn kg m (mPc n mn n M)).1 (300 + 1 + 44) m) dX11_phase_237 (zo300.a 44 rfl) (rfl) ⟨by omega, by omega⟩ (hD1 _ _ (by omega)) ?_
            refine zV_goto hX (tgt := 242) dX11_phase_238 (by decide) ?_
            refine zV_iast hX dX11_phase_242 (zo300.a 43 rfl) (rfl) ⟨by omega, by omega⟩ ?_
            refine zV_iincN hX (b := 1) dX11_phase_243 rfl (by decide) ?_
            dsimp only [zst1, zst2, zclr, zc2]
            refine zV_goto hX (tgt := 171) dX11_phase_246 (by decide) ?_
            have h9 := ih (m + 1) (.int f) v4 v5 (by omega) (by omega)
            rw [show mPd n t mn kg (m + 1) (mPc n mn n M) = mPd1 n t mn kg m (mPd n t mn kg m (mPc n mn n M)) from rfl, e9, e8] at h9
            exact h9
        refine zV_iload_n hX dX11_phase_171 rfl ?_
        refine zV_aload_n hX dX11_phase_172 rfl ?_
        refine zV_geti hX dX11_phase_173 zf_X11_20 zo300.1 rfl (hD.at hn (by unfold mFrK; omega)) ?_
        refine zV_icmp_geN hX (tgt := 249) dX11_phase_176 (by decide) ⟨by omega, by omega⟩ (fun c_176 => ?_) (fun c_176 => ?_)
        · have hmn9 : m = n := by omega
          rw [hmn9]
          exact J249 _ _ _ _
        · refine zV_iload_n hX dX11_phase_179 rfl ?_
          refine zV_iload_n hX dX11_phase_180 rfl ?_
          refine zV_icmp_neN hX (tgt := 193) dX11_phase_181 (by decide) ⟨by omega, by omega⟩ (fun c_181 => ?_) (fun c_181 => ?_)
          · have e9 : mPd1 n t mn kg m (mPd n t mn kg m (mPc n mn n M)) = zw (mCried mn kg m 2 ((mPd n t mn kg m (mPc n mn n M)).1 (300 + 1 + 44) kg) (mPd n t mn kg m (mPc n mn n M))) (300 + 1 + 43) m (mPw n t m (mCv mn kg m 2 ((mPd n t mn kg m (mPc n mn n M)).1 (300 + 1 + 44) kg) (mPd n t mn kg m (mPc n mn n M))) (mPd n t mn kg m (mPc n mn n M))) := if_neg c_181
            refine zV_aload_n hX dX11_phase_193 rfl ?_
            refine zV_iload_n hX dX11_phase_194 rfl ?_
            refine zV_iload_n hX dX11_phase_195 rfl ?_
            refine zV_iconst hX (v := nI 2) dX11_phase_196 (by decide) ?_
            refine zV_aload_n hX dX11_phase_197 rfl ?_
            refine zV_geta hX dX11_phase_198 zf_X11_92 zo300.1 rfl ?_
            refine zV_iload_n hX dX11_phase_201 rfl ?_
            refine zV_iald hX dX11_phase_202 (zo300.a 44 rfl) (rfl) ⟨by omega, by omega⟩ (rfl) ?_
            refine zV_cV4p hX hR hl dX11_phase_203 (zc_cried l G (mPd n t mn kg m (mPc n mn n M)) kg m 2 ((mPd n t mn kg m (mPc n mn n M)).1 (300 + 1 + 44) kg) mn (kK.ln hD hmn) (by omega) (by omega)) zt_X11_cried rfl zml_X11_447 zo300.1 ⟨by decide, by decide⟩ (Nat.le_of_ble_eq_true rfl) ?_
            dsimp only [Option.toList, List.cons_append, List.nil_append]
            first | exact J206 c_176 _ _ _ _ _ (fun _ _ _ => rfl) hD e9 | exact J206 c_176 _ _ _ _ _ (fun a j ha => mCt_c _ _ _ ha) (hD.tr (mCt_K _ _ _)) e9
          · have e9 : mPd1 n t mn kg m (mPd n t mn kg m (mPc n mn n M)) = zw (mPd n t mn kg m (mPc n mn n M)) (300 + 1 + 43) m (mPw n t m ((mPd n t mn kg m (mPc n mn n M)).1 (300 + 1 + 44) kg) (mPd n t mn kg m (mPc n mn n M))) := if_pos c_181
            refine zV_aload_n hX dX11_phase_184 rfl ?_
            refine zV_geta hX dX11_phase_185 zf_X11_92 zo300.1 rfl ?_
            refine zV_iload_n hX dX11_phase_188 rfl ?_
            refine zV_iald hX dX11_phase_189 (zo300.a 44 rfl) (rfl) ⟨by omega, by omega⟩ (rfl) ?_
            refine zV_goto hX (tgt := 206) dX11_phase_190 (by decide) ?_
            first | exact J206 c_176 _ _ _ _ _ (fun _ _ _ => rfl) hD e9 | exact J206 c_176 _ _ _ _ _ (fun a j ha => mCt_c _ _ _ ha) (hD.tr (mCt_K _ _ _)) e9
    refine zV_iconst hX (v := nI 0) dX11_phase_169 (by decide) ?_
    refine zV_istore_n hX dX11_phase_170 (by decide) ?_
    dsimp only [zst1, zst2, zclr, zc2]
    exact L171 (n + 1) 0 _ _ _ (by omega) (by omega)
  have L2 : ∀ (f9 m : Nat) (v3 v4 v5 : Value), n - m < f9 → m ≤ n → zV G X Q 6 0 0 2 [.ref (300 : Nat), .int (nI kg), .int (nI m), v3, v4, v5] [] (mPc n mn m M) := by
    intro f9
    induction f9 with
    | zero => intro m v3 v4 v5 hm1 hm2; exact absurd hm1 (Nat.not_lt_zero _)
    | succ f9 ih =>
      intro m v3 v4 v5 hm1 hm2
      have hA := mPc_K n mn m M
      have J163 : m < n → ∀ v3 v4 v5 : Value, zV G X Q 6 0 0 163 [.ref (300 : Nat), .int (nI kg), .int (nI m), v3, v4, v5] [] (mPc n mn (m + 1) M) := by
        intro c_7 v3 v4 v5
        refine zV_iincN hX (b := 1) dX11_phase_163 rfl (by decide) ?_
        dsimp only [zst1, zst2, zclr, zc2]
        refine zV_goto hX (tgt := 2) dX11_phase_166 (by decide) ?_
        exact ih (m + 1) _ _ _ (by omega) (by omega)
      have L68 : m < n → ∀ (f9 s : Nat) (v4 v5 : Value), n - s < f9 → s ≤ n → zV G X Q 6 0 0 68 [.ref (300 : Nat), .int (nI kg), .int (nI m), .int (nI s), v4, v5] [] (mPb n m s (zw (mPa mn m n (mPc n mn m M)) (300 + 1 + 45) m (nI 0))) := by
        intro c_7
        intro f9
        induction f9 with
        | zero => intro s v4 v5 hs1 hs2; exact absurd hs1 (Nat.not_lt_zero _)
        | succ f9 ih2 =>
          intro s v4 v5 hs1 hs2
          have hC := hA.tr (zKf.tr (zKf.w (a := 300 + 1 + 45) (j := m) (x := nI 0) (mPa_K mn m n (mPc n mn m M)) (by unfold mFrK; omega)) (mPb_K n m s (zw (mPa mn m n (mPc n mn m M)) (300 + 1 + 45) m (nI 0))))
          have J123 : m < n → s < n → ∀ v5 : Value, zV G X Q 6 0 0 123 [.ref (300 : Nat), .int (nI kg), .int (nI m), .int (nI s), .int (nI (zcnt (fun e => (mPb n m s (zw (mPa mn m n (mPc n mn m M)) (300 + 1 + 45) m (nI 0))).1 (300 + 1 + 46) e == (mPb n m s (zw (mPa mn m n (mPc n mn m M)) (300 + 1 + 45) m (nI 0))).1 (300 + 1 + 46) s) n)), v5] [] (mPb n m s (zw (mPa mn m n (mPc n mn m M)) (300 + 1 + 45) m (nI 0))) := by
            intro c_7 c_73 v5
            refine zV_iload hX dX11_phase_123 rfl ?_
            refine zV_aload_n hX dX11_phase_125 rfl ?_
            refine zV_geta hX dX11_phase_126 zf_X11_95 zo300.1 rfl ?_
            refine zV_iload_n hX dX11_phase_129 rfl ?_
            refine zV_iald hX dX11_phase_130 (zo300.a 45 rfl) (rfl) ⟨by omega, by omega⟩ (rfl) ?_
            refine zV_icmp_gt hX (tgt := 137) dX11_phase_131 (by decide) (fun c_131 => ?_) (fun c_131 => ?_)
            · have e9 : mPb1 n m s (mPb n m s (zw (mPa mn m n (mPc n mn m M)) (300 + 1 + 45) m (nI 0))) = zw (zw (mPb n m s (zw (mPa mn m n (mPc n mn m M)) (300 + 1 + 45) m (nI 0))) (300 + 1 + 45) m (nI (zcnt (fun e => (mPb n m s (zw (mPa mn m n (mPc n mn m M)) (300 + 1 + 45) m (nI 0))).1 (300 + 1 + 46) e == (mPb n m s (zw (mPa mn m n (mPc n mn m M)) (300 + 1 + 45) m (nI 0))).1 (300 + 1 + 46) s) n))) (300 + 1 + 44) m ((mPb n m s (zw (mPa mn m n (mPc n mn m M)) (300 + 1 + 45) m (nI 0))).1 (300 + 1 + 46) s) := if_neg (Int32.not_le.mpr c_131)
              refine zV_aload_n hX dX11_phase_137 rfl ?_
              refine zV_geta hX dX11_phase_138 zf_X11_95 zo300.1 rfl ?_
              refine zV_iload_n hX dX11_phase_141 rfl ?_
              refine zV_iload hX dX11_phase_142 rfl ?_
              refine zV_iast hX dX11_phase_144 (zo300.a 45 rfl) (rfl) ⟨by omega, by omega⟩ ?_
              refine zV_aload_n hX dX11_phase_145 rfl ?_
              refine zV_geta hX dX11_phase_146 zf_X11_92 zo300.1 rfl ?_
              refine zV_iload_n hX dX11_phase_149 rfl ?_
              refine zV_aload_n hX dX11_phase_150 rfl ?_
              refine zV_geta hX dX11_phase_151 zf_X11_98 zo300.1 rfl ?_
              refine zV_iload_n hX dX11_phase_154 rfl ?_
              refine zV_iald hX (v := (mPb n m s (zw (mPa mn m n (mPc n mn m M)) (300 + 1 + 45) m (nI 0))).1 (300 + 1 + 46) s) dX11_phase_155 (zo300.a 46 rfl) (rfl) ⟨by omega, by omega⟩ (by rw [zw_ne (by omega)]) ?_
              refine zV_iast hX dX11_phase_156 (zo300.a 44 rfl) (rfl) ⟨by omega, by omega⟩ ?_
              refine zV_iincN hX (b := 1) dX11_phase_157 rfl (by decide) ?_
              dsimp only [zst1, zst2, zclr, zc2]
              refine zV_goto hX (tgt := 68) dX11_phase_160 (by decide) ?_
              have h9 := fun v4 v5 => ih2 (s + 1) v4 v5 (by omega) (by omega)
              simp only [show mPb n m (s + 1) (zw (mPa mn m n (mPc n mn m M)) (300 + 1 + 45) m (nI 0)) = mPb1 n m s (mPb n m s (zw (mPa mn m n (mPc n mn m M)) (300 + 1 + 45) m (nI 0))) from rfl, e9] at h9
              exact h9 _ _
            · have e9 : mPb1 n m s (mPb n m s (zw (mPa mn m n (mPc n mn m M)) (300 + 1 + 45) m (nI 0))) = (mPb n m s (zw (mPa mn m n (mPc n mn m M)) (300 + 1 + 45) m (nI 0))) := if_pos (Int32.not_lt.mp c_131)
              refine zV_goto hX (tgt := 157) dX11_phase_134 (by decide) ?_
              refine zV_iincN hX (b := 1) dX11_phase_157 rfl (by decide) ?_
              dsimp only [zst1, zst2, zclr, zc2]
              refine zV_goto hX (tgt := 68) dX11_phase_160 (by decide) ?_
              have h9 := fun v4 v5 => ih2 (s + 1) v4 v5 (by omega) (by omega)
              simp only [show mPb n m (s + 1) (zw (mPa mn m n (mPc n mn m M)) (300 + 1 + 45) m (nI 0)) = mPb1 n m s (mPb n m s (zw (mPa mn m n (mPc n mn m M)) (300 + 1 + 45) m (nI 0))) from rfl, e9] at h9
              exact h9 _ _
          have L82 : m < n → s < n → ∀ (f9 e : Nat), n - e < f9 → e ≤ n → zV G X Q 6 0 0 82 [.ref (300 : Nat), .int (nI kg), .int (nI m), .int (nI s), .int (nI (zcnt (fun e => (mPb n m s (zw (mPa mn m n (mPc n mn m M)) (300 + 1 + 45) m (nI 0))).1 (300 + 1 + 46) e == (mPb n m s (zw (mPa mn m n (mPc n mn m M)) (300 + 1 + 45) m (nI 0))).1 (300 + 1 + 46) s) e)), .int (nI e)] [] (mPb n m s (zw (mPa mn m n (mPc n mn m M)) (300 + 1 + 45) m (nI 0))) := by
            intro c_7 c_73
            intro f9
            induction f9 with
            | zero => intro e he1 he2; exact absurd he1 (Nat.not_lt_zero _)
            | succ f9 ih3 =>
              intro e he1 he2
              refine zV_iload hX dX11_phase_82 rfl ?_
              refine zV_aload_n hX dX11_phase_84 rfl ?_
              refine zV_geti hX dX11_phase_85 zf_X11_20 zo300.1 rfl (hC.at hn (by unfold mFrK; omega)) ?_
              refine zV_icmp_geN hX (tgt := 123) dX11_phase_88 (by decide) ⟨by omega, by omega⟩ (fun c_88 => ?_) (fun c_88 => ?_)
              · have hen : e = n := by omega
                rw [hen]
                exact J123 c_7 c_73 _
              · refine zV_iload hX dX11_phase_91 rfl ?_
                refine zV_aload_n hX dX11_phase_93 rfl ?_
                refine zV_geta hX dX11_phase_94 zf_X11_98 zo300.1 rfl ?_
                refine zV_iload hX dX11_phase_97 rfl ?_
                refine zV_iald hX dX11_phase_99 (zo300.a 46 rfl) (rfl) ⟨by omega, by omega⟩ (rfl) ?_
                refine zV_aload_n hX dX11_phase_100 rfl ?_
                refine zV_geta hX dX11_phase_101 zf_X11_98 zo300.1 rfl ?_
                refine zV_iload_n hX dX11_phase_104 rfl ?_
                refine zV_iald hX dX11_phase_105 (zo300.a 46 rfl) (rfl) ⟨by omega, by omega⟩ (rfl) ?_
                refine zV_icmp_ne hX (tgt := 113) dX11_phase_106 (by decide) (fun c_106 => ?_) (fun c_106 => ?_)
                · have e8 : (zcnt (fun e => (mPb n m s (zw (mPa mn m n (mPc n mn m M)) (300 + 1 + 45) m (nI 0))).1 (300 + 1 + 46) e == (mPb n m s (zw (mPa mn m n (mPc n mn m M)) (300 + 1 + 45) m (nI 0))).1 (300 + 1 + 46) s) (e + 1)) = (zcnt (fun e => (mPb n m s (zw (mPa mn m n (mPc n mn m M)) (300 + 1 + 45) m (nI 0))).1 (300 + 1 + 46) e == (mPb n m s (zw (mPa mn m n (mPc n mn m M)) (300 + 1 + 45) m (nI 0))).1 (300 + 1 + 46) s) e) + 0 := by rw [zcnt_s]; simp [c_106]
                  refine zV_iconst hX (v := nI 0) dX11_phase_113 (by decide) ?_
                  refine zV_iaddN hX dX11_phase_114 ?_
                  refine zV_istore hX dX11_phase_115 (by decide) ?_
                  dsimp only [zst1, zst2, zclr, zc2]
                  refine zV_iincN hX (b := 1) dX11_phase_117 rfl (by decide) ?_
                  dsimp only [zst1, zst2, zclr, zc2]
                  refine zV_goto hX (tgt := 82) dX11_phase_120 (by decide) ?_
                  have h9 := ih3 (e + 1) (by omega) (by omega)
                  rw [e8] at h9
                  exact h9
                · have e8 : (zcnt (fun e => (mPb n m s (zw (mPa mn m n (mPc n mn m M)) (300 + 1 + 45) m (nI 0))).1 (300 + 1 + 46) e == (mPb n m s (zw (mPa mn m n (mPc n mn m M)) (300 + 1 + 45) m (nI 0))).1 (300 + 1 + 46) s) (e + 1)) = (zcnt (fun e => (mPb n m s (zw (mPa mn m n (mPc n mn m M)) (300 + 1 + 45) m (nI 0))).1 (300 + 1 + 46) e == (mPb n m s (zw (mPa mn m n (mPc n mn m M)) (300 + 1 + 45) m (nI 0))).1 (300 + 1 + 46) s) e) + 1 := by rw [zcnt_s]; simp [c_106]
                  refine zV_iconst hX (v := nI 1) dX11_phase_109 (by decide) ?_
                  refine zV_goto hX (tgt := 114) dX11_phase_110 (by decide) ?_
                  refine zV_iaddN hX dX11_phase_114 ?_
                  refine zV_istore hX dX11_phase_115 (by decide) ?_
                  dsimp only [zst1, zst2, zclr, zc2]
                  refine zV_iincN hX (b := 1) dX11_phase_117 rfl (by decide) ?_
                  dsimp only [zst1, zst2, zclr, zc2]
                  refine zV_goto hX (tgt := 82) dX11_phase_120 (by decide) ?_
                  have h9 := ih3 (e + 1) (by omega) (by omega)
                  rw [e8] at h9
                  exact h9
          refine zV_iload_n hX dX11_phase_68 rfl ?_
          refine zV_aload_n hX dX11_phase_69 rfl ?_
          refine zV_geti hX dX11_phase_70 zf_X11_20 zo300.1 rfl (hC.at hn (by unfold mFrK; omega)) ?_
          refine zV_icmp_geN hX (tgt := 163) dX11_phase_73 (by decide) ⟨by omega, by omega⟩ (fun c_73 => ?_) (fun c_73 => ?_)
          · have hsn : s = n := by omega
            refine zV_mem (show _ = mPc n mn (m + 1) M by show _ = mPc1 n mn m (mPc n mn m M); rw [hsn]; rfl) (J163 c_7 _ _ _)
          · refine zV_iconst hX (v := nI 0) dX11_phase_76 (by decide) ?_
            refine zV_istore hX dX11_phase_77 (by decide) ?_
            dsimp only [zst1, zst2, zclr, zc2]
            refine zV_iconst hX (v := nI 0) dX11_phase_79 (by decide) ?_
            refine zV_istore hX dX11_phase_80 (by decide) ?_
            dsimp only [zst1, zst2, zclr, zc2]
            exact L82 c_7 c_73 (n + 1) 0 (by omega) (by omega)
      have J59 : m < n → ∀ v3 v4 v5 : Value, zV G X Q 6 0 0 59 [.ref (300 : Nat), .int (nI kg), .int (nI m), v3, v4, v5] [] (mPa mn m n (mPc n mn m M)) := by
        intro c_7 v3 v4 v5
        refine zV_aload_n hX dX11_phase_59 rfl ?_
        refine zV_geta hX dX11_phase_60 zf_X11_95 zo300.1 rfl ?_
        refine zV_iload_n hX dX11_phase_63 rfl ?_
        refine zV_iconst hX (v := nI 0) dX11_phase_64 (by decide) ?_
        refine zV_iast hX dX11_phase_65 (zo300.a 45 rfl) (rfl) ⟨by omega, by omega⟩ ?_
        refine zV_iconst hX (v := nI 0) dX11_phase_66 (by decide) ?_
        refine zV_istore_n hX dX11_phase_67 (by decide) ?_
        dsimp only [zst1, zst2, zclr, zc2]
        exact L68 c_7 (n + 1) 0 _ _ (by omega) (by omega)
      have L12 : m < n → ∀ (f9 s : Nat) (v4 v5 : Value), n - s < f9 → s ≤ n → zV G X Q 6 0 0 12 [.ref (300 : Nat), .int (nI kg), .int (nI m), .int (nI s), v4, v5] [] (mPa mn m s (mPc n mn m M)) := by
        intro c_7
        intro f9
        induction f9 with
        | zero => intro s v4 v5 hs1 hs2; exact absurd hs1 (Nat.not_lt_zero _)
        | succ f9 ih2 =>
          intro s v4 v5 hs1 hs2
          have hB := hA.tr (mPa_K mn m s (mPc n mn m M))
          refine zV_iload_n hX dX11_phase_12 rfl ?_
          refine zV_aload_n hX dX11_phase_13 rfl ?_
          refine zV_geti hX dX11_phase_14 zf_X11_20 zo300.1 rfl (hB.at hn (by unfold mFrK; omega)) ?_
          refine zV_icmp_geN hX (tgt := 59) dX11_phase_17 (by decide) ⟨by omega, by omega⟩ (fun c_17 => ?_) (fun c_17 => ?_)
          · have hsn : s = n := by omega
            refine zV_mem (show _ = mPa mn m n (mPc n mn m M) by rw [hsn]) (J59 c_7 _ _ _)
          · refine zV_aload_n hX dX11_phase_20 rfl ?_
            refine zV_geta hX dX11_phase_21 zf_X11_98 zo300.1 rfl ?_
            refine zV_iload_n hX dX11_phase_24 rfl ?_
            refine zV_iload_n hX dX11_phase_25 rfl ?_
            refine zV_iload_n hX dX11_phase_26 rfl ?_
            refine zV_icmp_neN hX (tgt := 39) dX11_phase_27 (by decide) ⟨by omega, by omega⟩ (fun c_27 => ?_) (fun c_27 => ?_)
            · have e9 : mPa1 mn m s (mPa mn m s (mPc n mn m M)) = zw (mCried mn s m 1 ((mPa mn m s (mPc n mn m M)).1 (300 + 1 + 42) s) (mPa mn m s (mPc n mn m M))) (300 + 1 + 46) s (mCv mn s m 1 ((mPa mn m s (mPc n mn m M)).1 (300 + 1 + 42) s) (mPa mn m s (mPc n mn m M))) := if_neg c_27
              refine zV_aload_n hX dX11_phase_39 rfl ?_
              refine zV_iload_n hX dX11_phase_40 rfl ?_
              refine zV_iload_n hX dX11_phase_41 rfl ?_
              refine zV_iconst hX (v := nI 1) dX11_phase_42 (by decide) ?_
              refine zV_aload_n hX dX11_phase_43 rfl ?_
              refine zV_geta hX dX11_phase_44 zf_X11_86 zo300.1 rfl ?_
              refine zV_iload_n hX dX11_phase_47 rfl ?_
              refine zV_iald hX dX11_phase_48 (zo300.a 42 rfl) (rfl) ⟨by omega, by omega⟩ (rfl) ?_
              refine zV_cV4p hX hR hl dX11_phase_49 (zc_cried l G (mPa mn m s (mPc n mn m M)) s m 1 ((mPa mn m s (mPc n mn m M)).1 (300 + 1 + 42) s) mn (kK.ln hB hmn) (by omega) (by omega)) zt_X11_cried rfl zml_X11_447 zo300.1 ⟨by decide, by decide⟩ (Nat.le_of_ble_eq_true rfl) ?_
              dsimp only [Option.toList, List.cons_append, List.nil_append]
              refine zV_iast hX dX11_phase_52 (zo300.a 46 rfl) (rfl) ⟨by omega, by omega⟩ ?_
              refine zV_iincN hX (b := 1) dX11_phase_53 rfl (by decide) ?_
              dsimp only [zst1, zst2, zclr, zc2]
              refine zV_goto hX (tgt := 12) dX11_phase_56 (by decide) ?_
              have h9 := ih2 (s + 1) v4 v5 (by omega) (by omega)
              rw [show mPa mn m (s + 1) (mPc n mn m M) = mPa1 mn m s (mPa mn m s (mPc n mn m M)) from rfl, e9] at h9
              exact h9
            · have e9 : mPa1 mn m s (mPa mn m s (mPc n mn m M)) = zw (mPa mn m s (mPc n mn m M)) (300 + 1 + 46) s ((mPa mn m s (mPc n mn m M)).1 (300 + 1 + 42) m) := if_pos c_27
              refine zV_aload_n hX dX11_phase_30 rfl ?_
              refine zV_geta hX dX11_phase_31 zf_X11_86 zo300.1 rfl ?_
              refine zV_iload_n hX dX11_phase_34 rfl ?_
              refine zV_iald hX dX11_phase_35 (zo300.a 42 rfl) (rfl) ⟨by omega, by omega⟩ (rfl) ?_
              refine zV_goto hX (tgt := 52) dX11_phase_36 (by decide) ?_
              refine zV_iast hX dX11_phase_52 (zo300.a 46 rfl) (rfl) ⟨by omega, by omega⟩ ?_
              refine zV_iincN hX (b := 1) dX11_phase_53 rfl (by decide) ?_
              dsimp only [zst1, zst2, zclr, zc2]
              refine zV_goto hX (tgt := 12) dX11_phase_56 (by decide) ?_
              have h9 := ih2 (s + 1) v4 v5 (by omega) (by omega)
              rw [show mPa mn m (s + 1) (mPc n mn m M) = mPa1 mn m s (mPa mn m s (mPc n mn m M)) from rfl, e9] at h9
              exact h9
      refine zV_iload_n hX dX11_phase_2 rfl ?_
      refine zV_aload_n hX dX11_phase_3 rfl ?_
      refine zV_geti hX dX11_phase_4 zf_X11_20 zo300.1 rfl (hA.at hn (by unfold mFrK; omega)) ?_
      refine zV_icmp_geN hX (tgt := 169) dX11_phase_7 (by decide) ⟨by omega, by omega⟩ (fun c_7 => ?_) (fun c_7 => ?_)
      · have hmn9 : m = n := by omega
        rw [hmn9]
        exact J169 _ _ _ _
      · refine zV_iconst hX (v := nI 0) dX11_phase_10 (by decide) ?_
        refine zV_istore_n hX dX11_phase_11 (by decide) ?_
        dsimp only [zst1, zst2, zclr, zc2]
        exact L12 c_7 (n + 1) 0 _ _ (by omega) (by omega)
  refine zV_iconst hX (v := nI 0) dX11_phase_0 (by decide) ?_
  refine zV_istore_n hX dX11_phase_1 (by decide) ?_
  dsimp only [zst1, zst2, zclr, zc2]
  exact L2 (n + 1) 0 _ _ _ (by omega) (by omega)
