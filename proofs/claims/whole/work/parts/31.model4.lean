def mHas (n c t m p : Nat) : Bool := mPath n c p && !decide (m = c) && decide (zlen p ≤ t + 1) && (!mIsIn c p m || (decide (0 < p) && decide (zlast c p = m)))
set_option maxHeartbeats 1000000 in
theorem zc_hasHeard (l : Launch) (G : zG) (M : zM) (n c t m p : Nat) (hn : M.1 300 9 = nI n) (hn7 : n ≤ 7) (hcm : M.1 300 17 = nI c) (hc7 : c < 7) (ht : M.1 300 10 = nI t) (ht2 : t ≤ 2) (h0 : 1 ≤ n) (hm : m < 7) (hp : p < 57) : zC l G 2 yX11_hasHeard cX11_hasHeard 3 (Option.some Jvm.ClassFile.FieldType.boolean) [.ref (300 : Nat), .int (nI m), .int (nI p)] M (zP (some (.int (zb (mHas n c t m p)))) M) := by
  refine zC_of (by decide) (Nat.le_of_ble_eq_true rfl) (fun X Q hQ hX hl hR hr => ?_)
  refine zV_loc (L' := [.ref (300 : Nat), .int (nI m), .int (nI p)]) rfl ?_
  refine zV_aload_n hX dX11_hasHeard_0 rfl ?_
  refine zV_iload_n hX dX11_hasHeard_1 rfl ?_
  refine zV_cV1p hX hR hl dX11_hasHeard_2 (zc_misPath l G M n c p hn hn7 hcm hc7 h0 hp) zt_X11_isPath rfl zml_X11_324 zo300.1 ⟨by decide, by decide⟩ (Nat.le_of_ble_eq_true rfl) ?_
  dsimp only [Option.toList, List.cons_append, List.nil_append]
  refine zV_if_eqB hX (tgt := 29) dX11_hasHeard_5 (by decide) (fun c_5 => ?_) (fun c_5 => ?_)
  · have e9 : mHas n c t m p = false := by unfold mHas; rw [c_5]; rfl
    refine zV_iconst hX (v := nI 0) dX11_hasHeard_29 (by decide) ?_
    exact zV_retz hX hQ hr (rfl) (⟨by rw [e9]; rfl, rfl⟩) dX11_hasHeard_30
  · refine zV_iload_n hX dX11_hasHeard_8 rfl ?_
    refine zV_aload_n hX dX11_hasHeard_9 rfl ?_
    refine zV_geti hX dX11_hasHeard_10 zf_X11_39 zo300.1 rfl (hcm) ?_
    refine zV_icmp_eqN hX (tgt := 29) dX11_hasHeard_13 (by decide) ⟨by omega, by omega⟩ (fun c_13 => ?_) (fun c_13 => ?_)
    · have e9 : mHas n c t m p = false := by unfold mHas; rw [decide_eq_true c_13]; simp
      refine zV_iconst hX (v := nI 0) dX11_hasHeard_29 (by decide) ?_
      exact zV_retz hX hQ hr (rfl) (⟨by rw [e9]; rfl, rfl⟩) dX11_hasHeard_30
    · refine zV_iload_n hX dX11_hasHeard_16 rfl ?_
      refine zV_cS1p hX hR hl dX11_hasHeard_17 (zc_lengthOf l G M p hp) zt_X11_lengthOf rfl zml_X11_321 (by decide) (Nat.le_of_ble_eq_true rfl) ?_
      dsimp only [Option.toList, List.cons_append, List.nil_append]
      have hz := zlen_lt p
      refine zV_aload_n hX dX11_hasHeard_20 rfl ?_
      refine zV_geti hX dX11_hasHeard_21 zf_X11_23 zo300.1 rfl (ht) ?_
      refine zV_iconst hX (v := nI 1) dX11_hasHeard_24 (by decide) ?_
      refine zV_iaddN hX dX11_hasHeard_25 ?_
      refine zV_icmp_leN hX (tgt := 31) dX11_hasHeard_26 (by decide) ⟨by omega, by omega⟩ (fun c_26 => ?_) (fun c_26 => ?_)
      · have e8 : mHas n c t m p = (!mIsIn c p m || (decide (0 < p) && decide (zlast c p = m))) := by unfold mHas; rw [c_5, decide_eq_false c_13, decide_eq_true c_26]; rfl
        refine zV_aload_n hX dX11_hasHeard_31 rfl ?_
        refine zV_iload_n hX dX11_hasHeard_32 rfl ?_
        refine zV_iload_n hX dX11_hasHeard_33 rfl ?_
        refine zV_cV2p hX hR hl dX11_hasHeard_34 (zc_misIn l G M c p m hcm hc7 hp hm) zt_X11_isIn rfl zml_X11_327 zo300.1 ⟨by decide, by decide⟩ (Nat.le_of_ble_eq_true rfl) ?_
        dsimp only [Option.toList, List.cons_append, List.nil_append]
        refine zV_if_eqB hX (tgt := 53) dX11_hasHeard_37 (by decide) (fun c_37 => ?_) (fun c_37 => ?_)
        · have e9 : mHas n c t m p = true := by rw [e8, c_37]; rfl
          refine zV_iconst hX (v := nI 1) dX11_hasHeard_53 (by decide) ?_
          refine zV_goto hX (tgt := 58) dX11_hasHeard_54 (by decide) ?_
          exact zV_retz hX hQ hr (rfl) (⟨by rw [e9]; rfl, rfl⟩) dX11_hasHeard_58
        · refine zV_iload_n hX dX11_hasHeard_40 rfl ?_
          refine zV_if_leN hX (tgt := 57) dX11_hasHeard_41 (by decide) (by omega) (fun c_41 => ?_) (fun c_41 => ?_)
          · have e9 : mHas n c t m p = false := by rw [e8, c_37, decide_eq_false (show ¬ 0 < p by omega)]; rfl
            refine zV_iconst hX (v := nI 0) dX11_hasHeard_57 (by decide) ?_
            exact zV_retz hX hQ hr (rfl) (⟨by rw [e9]; rfl, rfl⟩) dX11_hasHeard_58
          · refine zV_aload_n hX dX11_hasHeard_44 rfl ?_
            refine zV_iload_n hX dX11_hasHeard_45 rfl ?_
            refine zV_cV1p hX hR hl dX11_hasHeard_46 (zc_mlastOf l G M c p hcm hc7 hp) zt_X11_lastOf rfl zml_X11_334 zo300.1 ⟨by decide, by decide⟩ (Nat.le_of_ble_eq_true rfl) ?_
            dsimp only [Option.toList, List.cons_append, List.nil_append]
            have hz2 := zlast_lt (c := c) hp hc7
            refine zV_iload_n hX dX11_hasHeard_49 rfl ?_
            refine zV_icmp_neN hX (tgt := 57) dX11_hasHeard_50 (by decide) ⟨by omega, by omega⟩ (fun c_50 => ?_) (fun c_50 => ?_)
            · have e9 : mHas n c t m p = false := by rw [e8, c_37, decide_eq_false c_50, Bool.and_false]; rfl
              refine zV_iconst hX (v := nI 0) dX11_hasHeard_57 (by decide) ?_
              exact zV_retz hX hQ hr (rfl) (⟨by rw [e9]; rfl, rfl⟩) dX11_hasHeard_58
            · have e9 : mHas n c t m p = true := by rw [e8, c_37, decide_eq_true c_41, decide_eq_true c_50]; rfl
              refine zV_iconst hX (v := nI 1) dX11_hasHeard_53 (by decide) ?_
              refine zV_goto hX (tgt := 58) dX11_hasHeard_54 (by decide) ?_
              exact zV_retz hX hQ hr (rfl) (⟨by rw [e9]; rfl, rfl⟩) dX11_hasHeard_58
      · have e9 : mHas n c t m p = false := by unfold mHas; rw [decide_eq_false (show ¬ zlen p ≤ t + 1 by omega)]; simp
        refine zV_iconst hX (v := nI 0) dX11_hasHeard_29 (by decide) ?_
        exact zV_retz hX hQ hr (rfl) (⟨by rw [e9]; rfl, rfl⟩) dX11_hasHeard_30
def mRow9 (M : zM) (m : Nat) : Nat → Int32 := M.1 (1000 + 16 * 20 + m)
def mSo (c p : Nat) (v : Nat → Int32) (q k : Nat) : Nat := zcnt (fun r => !mIsIn c p r && v r == v q) k
def mMx (c p n : Nat) (v : Nat → Int32) : Nat → Nat
  | 0 => 0
  | k + 1 => if mIsIn c p k then mMx c p n v k else if mMx c p n v k < mSo c p v k n then mSo c p v k n else mMx c p n v k
theorem mMx_le (c p n : Nat) (v : Nat → Int32) : ∀ k, mMx c p n v k ≤ n
  | 0 => Nat.zero_le _
  | k + 1 => by
    unfold mMx
    split
    · exact mMx_le c p n v k
    · split
      · exact zcnt_le _ _
      · exact mMx_le c p n v k
abbrev mV (M : zM) (m p : Nat) : Nat → Int32 := fun q => M.1 (1000 + 16 * 20 + m) (zlong p q)
set_option maxHeartbeats 1000000 in
theorem zc_mostTold (l : Launch) (G : zG) (M : zM) (n c m p : Nat) (hn : M.1 300 9 = nI n) (hn7 : n ≤ 7) (hcm : M.1 300 17 = nI c) (hc7 : c < 7) (hm : m < 7) (hp : p < 8) : zC l G 2 yX11_mostTold cX11_mostTold 7 (Option.some Jvm.ClassFile.FieldType.int) [.ref (300 : Nat), .int (nI m), .int (nI p)] M (zP (some (.int (nI (mMx c p n (mV M m p) n)))) M) := by
  refine zC_of (by decide) (Nat.le_of_ble_eq_true rfl) (fun X Q hQ hX hl hR hr => ?_)
  refine zV_loc (L' := [.ref (300 : Nat), .int (nI m), .int (nI p), .null, .null, .null, .null]) rfl ?_
  have hzl := fun q (hq : q < 7) => zlong_lt hp hq
  have L5 : ∀ (f9 q : Nat) (v5 v6 : Value), n - q < f9 → q ≤ n → zV G X Q 7 0 0 5 [.ref (300 : Nat), .int (nI m), .int (nI p), .int (nI (mMx c p n (mV M m p) q)), .int (nI q), v5, v6] [] M := by
    intro f9
    induction f9 with
    | zero => intro q v5 v6 hq1 hq2; exact absurd hq1 (Nat.not_lt_zero _)
    | succ f9 ih =>
      intro q v5 v6 hq1 hq2
      have J97 : q < n → mIsIn c p q = false → ∀ v6 : Value, zV G X Q 7 0 0 97 [.ref (300 : Nat), .int (nI m), .int (nI p), .int (nI (mMx c p n (mV M m p) q)), .int (nI q), .int (nI (mSo c p (mV M m p) q n)), v6] [] M := by
        intro c_11 e7 v6
        refine zV_iload hX dX11_mostTold_97 rfl ?_
        refine zV_iload_n hX dX11_mostTold_99 rfl ?_
        refine zV_icmp_leN hX (tgt := 108) dX11_mostTold_100 (by decide) ⟨Nat.lt_of_le_of_lt (zcnt_le _ _) (by omega), by have := mMx_le c p n (mV M m p) q; omega⟩ (fun c_100 => ?_) (fun c_100 => ?_)
        · have e9 : (mMx c p n (mV M m p) (q + 1)) = (mMx c p n (mV M m p) q) := by rw [mMx, if_neg (by rw [e7]; decide), if_neg (Nat.not_lt.mpr c_100)]
          refine zV_iload_n hX dX11_mostTold_108 rfl ?_
          refine zV_istore_n hX dX11_mostTold_109 (by decide) ?_
          dsimp only [zst1, zst2, zclr, zc2]
          refine zV_iincN hX (b := 1) dX11_mostTold_110 rfl (by decide) ?_
          dsimp only [zst1, zst2, zclr, zc2]
          refine zV_goto hX (tgt := 5) dX11_mostTold_113 (by decide) ?_
          exact e9 ▸ ih (q + 1) _ _ (by omega) (by omega)
        · have e9 : (mMx c p n (mV M m p) (q + 1)) = (mSo c p (mV M m p) q n) := by rw [mMx, if_neg (by rw [e7]; decide), if_pos c_100]
          refine zV_iload hX dX11_mostTold_103 rfl ?_
          refine zV_goto hX (tgt := 109) dX11_mostTold_105 (by decide) ?_
          refine zV_istore_n hX dX11_mostTold_109 (by decide) ?_
          dsimp only [zst1, zst2, zclr, zc2]
          refine zV_iincN hX (b := 1) dX11_mostTold_110 rfl (by decide) ?_
          dsimp only [zst1, zst2, zclr, zc2]
          refine zV_goto hX (tgt := 5) dX11_mostTold_113 (by decide) ?_
          exact e9 ▸ ih (q + 1) _ _ (by omega) (by omega)
      have L33 : q < n → mIsIn c p q = false → ∀ (f9 j : Nat), n - j < f9 → j ≤ n → zV G X Q 7 0 0 33 [.ref (300 : Nat), .int (nI m), .int (nI p), .int (nI (mMx c p n (mV M m p) q)), .int (nI q), .int (nI (mSo c p (mV M m p) q j)), .int (nI j)] [] M := by
        intro c_11 e7
        intro f9
        induction f9 with
        | zero => intro j hj1 hj2; exact absurd hj1 (Nat.not_lt_zero _)
        | succ f9 ih2 =>
          intro j hj1 hj2
          refine zV_iload hX dX11_mostTold_33 rfl ?_
          refine zV_aload_n hX dX11_mostTold_35 rfl ?_
          refine zV_geti hX dX11_mostTold_36 zf_X11_20 zo300.1 rfl (hn) ?_
          refine zV_icmp_geN hX (tgt := 97) dX11_mostTold_39 (by decide) ⟨by omega, by omega⟩ (fun c_39 => ?_) (fun c_39 => ?_)
          · obtain rfl : j = n := by omega
            exact J97 c_11 e7 _
          · refine zV_iload hX dX11_mostTold_42 rfl ?_
            refine zV_aload_n hX dX11_mostTold_44 rfl ?_
            refine zV_iload_n hX dX11_mostTold_45 rfl ?_
            refine zV_iload hX dX11_mostTold_46 rfl ?_
            refine zV_cV2p hX hR hl dX11_mostTold_48 (zc_misIn l G M c p j hcm hc7 (by omega) (by omega)) zt_X11_isIn rfl zml_X11_327 zo300.1 ⟨by decide, by decide⟩ (Nat.le_of_ble_eq_true rfl) ?_
            dsimp only [Option.toList, List.cons_append, List.nil_append]
            refine zV_if_neB hX (tgt := 87) dX11_mostTold_51 (by decide) (fun c_51 => ?_) (fun c_51 => ?_)
            · have e8 : (mSo c p (mV M m p) q (j + 1)) = (mSo c p (mV M m p) q j) + 0 := by unfold mSo; rw [zcnt]; simp [c_51]
              refine zV_iconst hX (v := nI 0) dX11_mostTold_87 (by decide) ?_
              refine zV_iaddN hX dX11_mostTold_88 ?_
              refine zV_istore hX dX11_mostTold_89 (by decide) ?_
              dsimp only [zst1, zst2, zclr, zc2]
              refine zV_iincN hX (b := 1) dX11_mostTold_91 rfl (by decide) ?_
              dsimp only [zst1, zst2, zclr, zc2]
              refine zV_goto hX (tgt := 33) dX11_mostTold_94 (by decide) ?_
              exact e8 ▸ ih2 (j + 1) (by omega) (by omega)
            · refine zV_aload_n hX dX11_mostTold_54 rfl ?_
              refine zV_geta hX dX11_mostTold_55 zf_X11_42 zo300.1 rfl ?_
              refine zV_iload_n hX dX11_mostTold_58 rfl ?_
              refine zV_aald hX dX11_mostTold_59 (t := 0) (zo300.a 20 rfl) (by decide) (rfl) ⟨by omega, by omega⟩ (mRow 20 (by decide)) ?_
              refine zV_iload_n hX dX11_mostTold_60 rfl ?_
              refine zV_iload hX dX11_mostTold_61 rfl ?_
              refine zV_cS2p hX hR hl dX11_mostTold_63 (zc_longer l G M p j hp) zt_X11_longer rfl zml_X11_331 (by decide) (Nat.le_of_ble_eq_true rfl) ?_
              dsimp only [Option.toList, List.cons_append, List.nil_append]
              refine zV_iald hX dX11_mostTold_66 (mSh20 (by omega)) (rfl) ⟨by have := hzl j (by omega); omega, by omega⟩ (rfl) ?_
              refine zV_aload_n hX dX11_mostTold_67 rfl ?_
              refine zV_geta hX dX11_mostTold_68 zf_X11_42 zo300.1 rfl ?_
              refine zV_iload_n hX dX11_mostTold_71 rfl ?_
              refine zV_aald hX dX11_mostTold_72 (t := 0) (zo300.a 20 rfl) (by decide) (rfl) ⟨by omega, by omega⟩ (mRow 20 (by decide)) ?_
              refine zV_iload_n hX dX11_mostTold_73 rfl ?_
              refine zV_iload hX dX11_mostTold_74 rfl ?_
              refine zV_cS2p hX hR hl dX11_mostTold_76 (zc_longer l G M p q hp) zt_X11_longer rfl zml_X11_331 (by decide) (Nat.le_of_ble_eq_true rfl) ?_
              dsimp only [Option.toList, List.cons_append, List.nil_append]
              refine zV_iald hX dX11_mostTold_79 (mSh20 (by omega)) (rfl) ⟨by have := hzl q (by omega); omega, by omega⟩ (rfl) ?_
              refine zV_icmp_ne hX (tgt := 87) dX11_mostTold_80 (by decide) (fun c_80 => ?_) (fun c_80 => ?_)
              · have e8 : (mSo c p (mV M m p) q (j + 1)) = (mSo c p (mV M m p) q j) + 0 := by unfold mSo; rw [zcnt]; simp [c_80]
                refine zV_iconst hX (v := nI 0) dX11_mostTold_87 (by decide) ?_
                refine zV_iaddN hX dX11_mostTold_88 ?_
                refine zV_istore hX dX11_mostTold_89 (by decide) ?_
                dsimp only [zst1, zst2, zclr, zc2]
                refine zV_iincN hX (b := 1) dX11_mostTold_91 rfl (by decide) ?_
                dsimp only [zst1, zst2, zclr, zc2]
                refine zV_goto hX (tgt := 33) dX11_mostTold_94 (by decide) ?_
                exact e8 ▸ ih2 (j + 1) (by omega) (by omega)
              · have e8 : (mSo c p (mV M m p) q (j + 1)) = (mSo c p (mV M m p) q j) + 1 := by unfold mSo; rw [zcnt]; simp [c_51, c_80]
                refine zV_iconst hX (v := nI 1) dX11_mostTold_83 (by decide) ?_
                refine zV_goto hX (tgt := 88) dX11_mostTold_84 (by decide) ?_
                refine zV_iaddN hX dX11_mostTold_88 ?_
                refine zV_istore hX dX11_mostTold_89 (by decide) ?_
                dsimp only [zst1, zst2, zclr, zc2]
                refine zV_iincN hX (b := 1) dX11_mostTold_91 rfl (by decide) ?_
                dsimp only [zst1, zst2, zclr, zc2]
                refine zV_goto hX (tgt := 33) dX11_mostTold_94 (by decide) ?_
                exact e8 ▸ ih2 (j + 1) (by omega) (by omega)
      refine zV_iload hX dX11_mostTold_5 rfl ?_
      refine zV_aload_n hX dX11_mostTold_7 rfl ?_
      refine zV_geti hX dX11_mostTold_8 zf_X11_20 zo300.1 rfl (hn) ?_
      refine zV_icmp_geN hX (tgt := 116) dX11_mostTold_11 (by decide) ⟨by omega, by omega⟩ (fun c_11 => ?_) (fun c_11 => ?_)
      · refine zV_iload_n hX dX11_mostTold_116 rfl ?_
        exact zV_reti hX hQ hr (⟨by rw [show q = n by omega], rfl⟩) dX11_mostTold_117
      · refine zV_aload_n hX dX11_mostTold_14 rfl ?_
        refine zV_iload_n hX dX11_mostTold_15 rfl ?_
        refine zV_iload hX dX11_mostTold_16 rfl ?_
        refine zV_cV2p hX hR hl dX11_mostTold_18 (zc_misIn l G M c p q hcm hc7 (by omega) (by omega)) zt_X11_isIn rfl zml_X11_327 zo300.1 ⟨by decide, by decide⟩ (Nat.le_of_ble_eq_true rfl) ?_
        dsimp only [Option.toList, List.cons_append, List.nil_append]
        refine zV_if_eqB hX (tgt := 27) dX11_mostTold_21 (by decide) (fun c_21 => ?_) (fun c_21 => ?_)
        · have e7 := c_21
          refine zV_iconst hX (v := nI 0) dX11_mostTold_27 (by decide) ?_
          refine zV_istore hX dX11_mostTold_28 (by decide) ?_
          dsimp only [zst1, zst2, zclr, zc2]
          refine zV_iconst hX (v := nI 0) dX11_mostTold_30 (by decide) ?_
          refine zV_istore hX dX11_mostTold_31 (by decide) ?_
          dsimp only [zst1, zst2, zclr, zc2]
          exact L33 c_11 e7 (n + 1) 0 (by omega) (by omega)
        · have e9 : (mMx c p n (mV M m p) (q + 1)) = (mMx c p n (mV M m p) q) := by rw [mMx, if_pos c_21]
          refine zV_goto hX (tgt := 110) dX11_mostTold_24 (by decide) ?_
          refine zV_iincN hX (b := 1) dX11_mostTold_110 rfl (by decide) ?_
          dsimp only [zst1, zst2, zclr, zc2]
          refine zV_goto hX (tgt := 5) dX11_mostTold_113 (by decide) ?_
          exact e9 ▸ ih (q + 1) _ _ (by omega) (by omega)
  refine zV_iconst hX (v := nI 0) dX11_mostTold_0 (by decide) ?_
  refine zV_istore_n hX dX11_mostTold_1 (by decide) ?_
  dsimp only [zst1, zst2, zclr, zc2]
  refine zV_iconst hX (v := nI 0) dX11_mostTold_2 (by decide) ?_
  refine zV_istore hX dX11_mostTold_3 (by decide) ?_
  dsimp only [zst1, zst2, zclr, zc2]
  exact L5 (n + 1) 0 _ _ (by omega) (by omega)
def mPop : Nat → Nat → Nat
  | 0, _ => 0
  | f + 1, v => if v = 0 then 0 else v % 2 + mPop f (v / 2)
theorem mPop_le : ∀ f v, mPop f v ≤ f
  | 0, _ => Nat.le_refl 0
  | f + 1, v => by
    have := mPop_le f (v / 2)
    unfold mPop
    split <;> omega
theorem mPop_0 : ∀ f, mPop f 0 = 0
  | 0 => rfl
  | f + 1 => if_pos rfl
theorem nI_bit0 {s : Nat} (h : s < 2 ^ 31) : nI s &&& nI 1 = nI (s % 2) := pk_andN (n := s) (by omega) 1 rfl
theorem nI_half {s : Nat} (h : s < 2 ^ 31) : nI s >>> (nI 1 &&& 31) = nI (s / 2) := pk_shrN h _ 1 (by decide)
set_option maxHeartbeats 1000000 in
theorem zc_ones (l : Launch) (G : zG) (M : zM) (s0 : Nat) (hs : s0 < 2 ^ 31) : zC l G 0 yX11_ones cX11_ones 3 (Option.some Jvm.ClassFile.FieldType.int) [.int (nI s0)] M (zP (some (.int (nI (mPop 31 s0)))) M) := by
  refine zC_of (by decide) (Nat.le_of_ble_eq_true rfl) (fun X Q hQ hX hl hR hr => ?_)
  refine zV_loc (L' := [.int (nI s0), .null, .null]) rfl ?_
  have L4 : ∀ (f9 k v : Nat), v < 2 ^ f9 → v < 2 ^ 31 → k + mPop f9 v = mPop 31 s0 → zV G X Q 3 0 0 4 [.int (nI s0), .int (nI k), .int (nI v)] [] M := by
    intro f9
    induction f9 with
    | zero =>
      intro k v hv1 hv2 hv3
      obtain rfl : v = 0 := by rw [Nat.pow_zero] at hv1; omega
      refine zV_iload_n hX dX11_ones_4 rfl ?_
      refine zV_if_leN hX (tgt := 21) dX11_ones_5 (by decide) (by omega) (fun c_5 => ?_) (fun c_5 => absurd c_5 (by decide))
      refine zV_iload_n hX dX11_ones_21 rfl ?_
      exact zV_reti hX hQ hr (⟨by rw [← hv3]; rfl, rfl⟩) dX11_ones_22
    | succ f9 ih =>
      intro k v hv1 hv2 hv3
      refine zV_iload_n hX dX11_ones_4 rfl ?_
      refine zV_if_leN hX (tgt := 21) dX11_ones_5 (by decide) (by omega) (fun c_5 => ?_) (fun c_5 => ?_)
      · have e9 : k = mPop 31 s0 := by rw [← hv3, c_5, mPop_0]; rfl
        refine zV_iload_n hX dX11_ones_21 rfl ?_
        exact zV_reti hX hQ hr (⟨by rw [e9], rfl⟩) dX11_ones_22
      · refine zV_iload_n hX dX11_ones_8 rfl ?_
        refine zV_iload_n hX dX11_ones_9 rfl ?_
        refine zV_iconst hX (v := nI 1) dX11_ones_10 (by decide) ?_
        refine zV_iand hX dX11_ones_11 ?_
        refine zV_topi (nI (v % 2)) (nI_bit0 (by omega)) ?_
        refine zV_iaddN hX dX11_ones_12 ?_
        refine zV_istore_n hX dX11_ones_13 (by decide) ?_
        dsimp only [zst1, zst2, zclr, zc2]
        refine zV_iload_n hX dX11_ones_14 rfl ?_
        refine zV_iconst hX (v := nI 1) dX11_ones_15 (by decide) ?_
        refine zV_ishr hX dX11_ones_16 ?_
        refine zV_topi (nI (v / 2)) (nI_half (by omega)) ?_
        refine zV_istore_n hX dX11_ones_17 (by decide) ?_
        dsimp only [zst1, zst2, zclr, zc2]
        refine zV_goto hX (tgt := 4) dX11_ones_18 (by decide) ?_
        exact ih (k + v % 2) (v / 2) (by rw [Nat.pow_succ] at hv1; omega) (by omega) (by rw [mPop, if_neg (show ¬ v = 0 by omega)] at hv3; omega)
  refine zV_iconst hX (v := nI 0) dX11_ones_0 (by decide) ?_
  refine zV_istore_n hX dX11_ones_1 (by decide) ?_
  dsimp only [zst1, zst2, zclr, zc2]
  refine zV_iload_n hX dX11_ones_2 rfl ?_
  refine zV_istore_n hX dX11_ones_3 (by decide) ?_
  dsimp only [zst1, zst2, zclr, zc2]
  exact L4 31 0 s0 (by omega) (by omega) (Nat.zero_add _)
def mPick (ex : Nat → Bool) (v : Nat → Int32) (n : Nat) (d : Int32) : Int32 := match zfst (fun q => !ex q && decide (zcnt (fun r => !ex r) n < 2 * zcnt (fun r => !ex r && v r == v q) n)) n with
  | some q => v q
  | none => d
def mRs (M : zM) (n c m cut : Nat) : Nat → Nat → Int32
  | 0, p => M.1 (1000 + 16 * 20 + m) p
  | k + 1, p => if cut ≤ zlen p ∨ (0 < p ∧ zlast c p = m) then M.1 (1000 + 16 * 20 + m) p else mPick (mIsIn c p) (fun q => mRs M n c m cut k (zlong p q)) n (M.1 300 24)
abbrev mR (M : zM) (n c m cut p : Nat) : Int32 := mRs M n c m cut 2 p
theorem zlen_long {p q : Nat} (hp : p < 8) (hq : q < 7) : zlen (zlong p q) = zlen p + 1 := by
  by_cases h : p = 0
  · subst h
    show zlen (1 + q) = 2
    unfold zlen
    rw [if_neg (by omega), if_pos (by omega)]
  · unfold zlong
    rw [if_neg h]
    unfold zlen
    rw [if_neg (by omega), if_neg (by omega), if_neg h, if_pos hp]
theorem zlen_8 {p : Nat} (h : zlen p < 3) : p < 8 := by
  unfold zlen at h
  split at h
  · omega
  · split at h
    · assumption
    · omega
set_option maxHeartbeats 1000000 in
theorem zc_resolvedS (l : Launch) (G : zG) (M : zM) (n c m cut k p : Nat) (hn : M.1 300 9 = nI n) (hn7 : n ≤ 7) (hcm : M.1 300 17 = nI c) (hc7 : c < 7) (hm : m < 7) (hcut : cut ≤ 3) (hrec : ∀ p, p < 57 → 3 ≤ zlen p + k → zC l G (k + 2) yX11_resolved cX11_resolved 9 (Option.some Jvm.ClassFile.FieldType.int) [.ref (300 : Nat), .int (nI m), .int (nI p), .int (nI cut)] M (zP (some (.int (mRs M n c m cut k p))) M)) (hp : p < 57) (hk : 3 ≤ zlen p + (k + 1)) : zC l G (k + 3) yX11_resolved cX11_resolved 9 (Option.some Jvm.ClassFile.FieldType.int) [.ref (300 : Nat), .int (nI m), .int (nI p), .int (nI cut)] M (zP (some (.int (mRs M n c m cut (k + 1) p))) M) := by
  refine zC_of (by decide) (Nat.le_of_ble_eq_true rfl) (fun X Q hQ hX hl hR hr => ?_)
  refine zV_loc (L' := [.ref (300 : Nat), .int (nI m), .int (nI p), .int (nI cut), .null, .null, .null, .null, .null]) rfl ?_
  have J21 : mRs M n c m cut (k + 1) p = M.1 (1000 + 16 * 20 + m) p → zV G X Q 9 0 0 21 [.ref (300 : Nat), .int (nI m), .int (nI p), .int (nI cut), .null, .null, .null, .null, .null] [] M := by
    intro e9
    refine zV_aload_n hX dX11_resolved_21 rfl ?_
    refine zV_geta hX dX11_resolved_22 zf_X11_42 zo300.1 rfl ?_
    refine zV_iload_n hX dX11_resolved_25 rfl ?_
    refine zV_aald hX dX11_resolved_26 (t := 0) (zo300.a 20 rfl) (by decide) (rfl) ⟨by omega, by omega⟩ (mRow 20 (by decide)) ?_
    refine zV_iload_n hX dX11_resolved_27 rfl ?_
    refine zV_iald hX dX11_resolved_28 (mSh20 (by omega)) (rfl) ⟨by omega, by omega⟩ (rfl) ?_
    exact zV_reti hX hQ hr (⟨by rw [e9], rfl⟩) dX11_resolved_29
  have L33 : mRs M n c m cut (k + 1) p = mPick (mIsIn c p) (fun q => mRs M n c m cut k (zlong p q)) n (M.1 300 24) → p < 8 → ∀ (f9 q : Nat) (v5 v6 v7 v8 : Value), n - q < f9 → q ≤ n → zfst (fun q => !(mIsIn c p) q && decide (zcnt (fun r => !(mIsIn c p) r) n < 2 * zcnt (fun r => !(mIsIn c p) r && (fun q => mRs M n c m cut k (zlong p q)) r == (fun q => mRs M n c m cut k (zlong p q)) q) n)) q = none → zV G X Q 9 0 0 33 [.ref (300 : Nat), .int (nI m), .int (nI p), .int (nI cut), .int (nI q), v5, v6, v7, v8] [] M := by
    intro e9 hp8
    intro f9
    induction f9 with
    | zero => intro q v5 v6 v7 v8 hq1 hq2 hq3; exact absurd hq1 (Nat.not_lt_zero _)
    | succ f9 ih =>
      intro q v5 v6 v7 v8 hq1 hq2 hq3
      have J136 : q < n → mIsIn c p q = false → ∀ v8 : Value, zV G X Q 9 0 0 136 [.ref (300 : Nat), .int (nI m), .int (nI p), .int (nI cut), .int (nI q), .int (nI (zcnt (fun r => !(mIsIn c p) r && (fun q => mRs M n c m cut k (zlong p q)) r == (fun q => mRs M n c m cut k (zlong p q)) q) n)), .int (nI (zcnt (fun r => !(mIsIn c p) r) n)), .int ((fun q => mRs M n c m cut k (zlong p q)) q), v8] [] M := by
        intro c_39 e7 v8
        refine zV_iconst hX (v := nI 2) dX11_resolved_136 (by decide) ?_
        refine zV_iload hX dX11_resolved_137 rfl ?_
        refine zV_imulN hX dX11_resolved_139 ?_
        refine zV_iload hX dX11_resolved_140 rfl ?_
        refine zV_icmp_leN hX (tgt := 148) dX11_resolved_142 (by decide) ⟨by have := zcnt_le (fun r => !(mIsIn c p) r && (fun q => mRs M n c m cut k (zlong p q)) r == (fun q => mRs M n c m cut k (zlong p q)) q) n; omega, by have := zcnt_le (fun r => !(mIsIn c p) r) n; omega⟩ (fun c_142 => ?_) (fun c_142 => ?_)
        · have e8 : zfst (fun q => !(mIsIn c p) q && decide (zcnt (fun r => !(mIsIn c p) r) n < 2 * zcnt (fun r => !(mIsIn c p) r && (fun q => mRs M n c m cut k (zlong p q)) r == (fun q => mRs M n c m cut k (zlong p q)) q) n)) (q + 1) = none := by rw [zfst_keep (by show (!_ && _) = false; rw [decide_eq_false (Nat.not_lt.mpr c_142), Bool.and_false]), hq3]
          refine zV_iincN hX (b := 1) dX11_resolved_148 rfl (by decide) ?_
          dsimp only [zst1, zst2, zclr, zc2]
          refine zV_goto hX (tgt := 33) dX11_resolved_151 (by decide) ?_
          exact ih (q + 1) _ _ _ _ (by omega) (by omega) e8
        · have e8 : zfst (fun q => !(mIsIn c p) q && decide (zcnt (fun r => !(mIsIn c p) r) n < 2 * zcnt (fun r => !(mIsIn c p) r && (fun q => mRs M n c m cut k (zlong p q)) r == (fun q => mRs M n c m cut k (zlong p q)) q) n)) n = some q := zfst_up (k := q + 1) (by omega) (zfst_new hq3 (by show (!_ && _) = true; rw [e7, decide_eq_true c_142]; rfl))
          refine zV_iload hX dX11_resolved_145 rfl ?_
          exact zV_reti hX hQ hr (⟨by rw [e9, mPick, e8], rfl⟩) dX11_resolved_147
      have L78 : q < n → mIsIn c p q = false → ∀ (f9 j : Nat), n - j < f9 → j ≤ n → zV G X Q 9 0 0 78 [.ref (300 : Nat), .int (nI m), .int (nI p), .int (nI cut), .int (nI q), .int (nI (zcnt (fun r => !(mIsIn c p) r && (fun q => mRs M n c m cut k (zlong p q)) r == (fun q => mRs M n c m cut k (zlong p q)) q) j)), .int (nI (zcnt (fun r => !(mIsIn c p) r) j)), .int ((fun q => mRs M n c m cut k (zlong p q)) q), .int (nI j)] [] M := by
        intro c_39 e7
        intro f9
        induction f9 with
        | zero => intro j hj1 hj2; exact absurd hj1 (Nat.not_lt_zero _)
        | succ f9 ih2 =>
          intro j hj1 hj2
          refine zV_iload hX dX11_resolved_78 rfl ?_
          refine zV_aload_n hX dX11_resolved_80 rfl ?_
          refine zV_geti hX dX11_resolved_81 zf_X11_20 zo300.1 rfl (hn) ?_
          refine zV_icmp_geN hX (tgt := 136) dX11_resolved_84 (by decide) ⟨by omega, by omega⟩ (fun c_84 => ?_) (fun c_84 => ?_)
          · obtain rfl : j = n := by omega
            exact J136 c_39 e7 _
          · refine zV_aload_n hX dX11_resolved_87 rfl ?_
            refine zV_iload_n hX dX11_resolved_88 rfl ?_
            refine zV_iload hX dX11_resolved_89 rfl ?_
            refine zV_cV2p hX hR hl dX11_resolved_91 (zc_misIn l G M c p j hcm hc7 hp (by omega)) zt_X11_isIn rfl zml_X11_327 zo300.1 ⟨by decide, by omega⟩ (Nat.le_of_ble_eq_true rfl) ?_
            dsimp only [Option.toList, List.cons_append, List.nil_append]
            refine zV_if_eqB hX (tgt := 100) dX11_resolved_94 (by decide) (fun c_94 => ?_) (fun c_94 => ?_)
            · have e5 : (zcnt (fun r => !(mIsIn c p) r) (j + 1)) = (zcnt (fun r => !(mIsIn c p) r) j) + 1 := by rw [zcnt]; simp [c_94]
              refine zV_iincN hX (b := 1) dX11_resolved_100 rfl (by decide) ?_
              dsimp only [zst1, zst2, zclr, zc2]
              refine zV_iload hX dX11_resolved_103 rfl ?_
              refine zV_aload_n hX dX11_resolved_105 rfl ?_
              refine zV_iload_n hX dX11_resolved_106 rfl ?_
              refine zV_iload_n hX dX11_resolved_107 rfl ?_
              refine zV_iload hX dX11_resolved_108 rfl ?_
              refine zV_cS2p hX hR hl dX11_resolved_110 (zc_longer l G M p j hp8) zt_X11_longer rfl zml_X11_331 (by omega) (Nat.le_of_ble_eq_true rfl) ?_
              dsimp only [Option.toList, List.cons_append, List.nil_append]
              refine zV_iload_n hX dX11_resolved_113 rfl ?_
              refine zV_cV3p hX hR hl dX11_resolved_114 (hrec (zlong p j) (zlong_lt hp8 (by omega)) (by rw [zlen_long hp8 (by omega)]; omega)) zt_X11_resolved rfl zml_X11_355 zo300.1 ⟨by decide, by omega⟩ (Nat.le_of_ble_eq_true rfl) ?_
              dsimp only [Option.toList, List.cons_append, List.nil_append]
              refine zV_iload hX dX11_resolved_117 rfl ?_
              refine zV_icmp_ne hX (tgt := 126) dX11_resolved_119 (by decide) (fun c_119 => ?_) (fun c_119 => ?_)
              · have e6 : (zcnt (fun r => !(mIsIn c p) r && (fun q => mRs M n c m cut k (zlong p q)) r == (fun q => mRs M n c m cut k (zlong p q)) q) (j + 1)) = (zcnt (fun r => !(mIsIn c p) r && (fun q => mRs M n c m cut k (zlong p q)) r == (fun q => mRs M n c m cut k (zlong p q)) q) j) + 0 := by rw [zcnt]; simp [c_119]
                refine zV_iconst hX (v := nI 0) dX11_resolved_126 (by decide) ?_
                refine zV_iaddN hX dX11_resolved_127 ?_
                refine zV_istore hX dX11_resolved_128 (by decide) ?_
                dsimp only [zst1, zst2, zclr, zc2]
                refine zV_iincN hX (b := 1) dX11_resolved_130 rfl (by decide) ?_
                dsimp only [zst1, zst2, zclr, zc2]
                refine zV_goto hX (tgt := 78) dX11_resolved_133 (by decide) ?_
                have h9 := ih2 (j + 1) (by omega) (by omega)
                rw [e5, e6] at h9
                exact h9
              · have e6 : (zcnt (fun r => !(mIsIn c p) r && (fun q => mRs M n c m cut k (zlong p q)) r == (fun q => mRs M n c m cut k (zlong p q)) q) (j + 1)) = (zcnt (fun r => !(mIsIn c p) r && (fun q => mRs M n c m cut k (zlong p q)) r == (fun q => mRs M n c m cut k (zlong p q)) q) j) + 1 := by rw [zcnt]; simp [c_94, c_119]
                refine zV_iconst hX (v := nI 1) dX11_resolved_122 (by decide) ?_
                refine zV_goto hX (tgt := 127) dX11_resolved_123 (by decide) ?_
                refine zV_iaddN hX dX11_resolved_127 ?_
                refine zV_istore hX dX11_resolved_128 (by decide) ?_
                dsimp only [zst1, zst2, zclr, zc2]
                refine zV_iincN hX (b := 1) dX11_resolved_130 rfl (by decide) ?_
                dsimp only [zst1, zst2, zclr, zc2]
                refine zV_goto hX (tgt := 78) dX11_resolved_133 (by decide) ?_
                have h9 := ih2 (j + 1) (by omega) (by omega)
                rw [e5, e6] at h9
                exact h9
            · have e5 : (zcnt (fun r => !(mIsIn c p) r) (j + 1)) = (zcnt (fun r => !(mIsIn c p) r) j) + 0 := by rw [zcnt]; simp [c_94]
              have e6 : (zcnt (fun r => !(mIsIn c p) r && (fun q => mRs M n c m cut k (zlong p q)) r == (fun q => mRs M n c m cut k (zlong p q)) q) (j + 1)) = (zcnt (fun r => !(mIsIn c p) r && (fun q => mRs M n c m cut k (zlong p q)) r == (fun q => mRs M n c m cut k (zlong p q)) q) j) + 0 := by rw [zcnt]; simp [c_94]
              refine zV_goto hX (tgt := 130) dX11_resolved_97 (by decide) ?_
              refine zV_iincN hX (b := 1) dX11_resolved_130 rfl (by decide) ?_
              dsimp only [zst1, zst2, zclr, zc2]
              refine zV_goto hX (tgt := 78) dX11_resolved_133 (by decide) ?_
              have h9 := ih2 (j + 1) (by omega) (by omega)
              rw [e5, e6] at h9
              exact h9
      refine zV_iload hX dX11_resolved_33 rfl ?_
      refine zV_aload_n hX dX11_resolved_35 rfl ?_
      refine zV_geti hX dX11_resolved_36 zf_X11_20 zo300.1 rfl (hn) ?_
      refine zV_icmp_geN hX (tgt := 154) dX11_resolved_39 (by decide) ⟨by omega, by omega⟩ (fun c_39 => ?_) (fun c_39 => ?_)
      · refine zV_aload_n hX dX11_resolved_154 rfl ?_
        refine zV_geti hX dX11_resolved_155 zf_X11_307 zo300.1 rfl rfl ?_
        exact zV_reti hX hQ hr (⟨by obtain rfl : q = n := by omega
                                    rw [e9, mPick, hq3], rfl⟩) dX11_resolved_158
      · refine zV_aload_n hX dX11_resolved_42 rfl ?_
        refine zV_iload_n hX dX11_resolved_43 rfl ?_
        refine zV_iload hX dX11_resolved_44 rfl ?_
        refine zV_cV2p hX hR hl dX11_resolved_46 (zc_misIn l G M c p q hcm hc7 hp (by omega)) zt_X11_isIn rfl zml_X11_327 zo300.1 ⟨by decide, by omega⟩ (Nat.le_of_ble_eq_true rfl) ?_
        dsimp only [Option.toList, List.cons_append, List.nil_append]
        refine zV_if_eqB hX (tgt := 55) dX11_resolved_49 (by decide) (fun c_49 => ?_) (fun c_49 => ?_)
        · have e7 := c_49
          refine zV_iconst hX (v := nI 0) dX11_resolved_55 (by decide) ?_
          refine zV_istore hX dX11_resolved_56 (by decide) ?_
          dsimp only [zst1, zst2, zclr, zc2]
          refine zV_iconst hX (v := nI 0) dX11_resolved_58 (by decide) ?_
          refine zV_istore hX dX11_resolved_59 (by decide) ?_
          dsimp only [zst1, zst2, zclr, zc2]
          refine zV_aload_n hX dX11_resolved_61 rfl ?_
          refine zV_iload_n hX dX11_resolved_62 rfl ?_
          refine zV_iload_n hX dX11_resolved_63 rfl ?_
          refine zV_iload hX dX11_resolved_64 rfl ?_
          refine zV_cS2p hX hR hl dX11_resolved_66 (zc_longer l G M p q hp8) zt_X11_longer rfl zml_X11_331 (by omega) (Nat.le_of_ble_eq_true rfl) ?_
          dsimp only [Option.toList, List.cons_append, List.nil_append]
          refine zV_iload_n hX dX11_resolved_69 rfl ?_
          refine zV_cV3p hX hR hl dX11_resolved_70 (hrec (zlong p q) (zlong_lt hp8 (by omega)) (by rw [zlen_long hp8 (by omega)]; omega)) zt_X11_resolved rfl zml_X11_355 zo300.1 ⟨by decide, by omega⟩ (Nat.le_of_ble_eq_true rfl) ?_
          dsimp only [Option.toList, List.cons_append, List.nil_append]
          refine zV_istore hX dX11_resolved_73 (by decide) ?_
          dsimp only [zst1, zst2, zclr, zc2]
          refine zV_iconst hX (v := nI 0) dX11_resolved_75 (by decide) ?_
          refine zV_istore hX dX11_resolved_76 (by decide) ?_
          dsimp only [zst1, zst2, zclr, zc2]
          exact L78 c_39 e7 (n + 1) 0 (by omega) (by omega)
        · have e8 : zfst (fun q => !(mIsIn c p) q && decide (zcnt (fun r => !(mIsIn c p) r) n < 2 * zcnt (fun r => !(mIsIn c p) r && (fun q => mRs M n c m cut k (zlong p q)) r == (fun q => mRs M n c m cut k (zlong p q)) q) n)) (q + 1) = none := by rw [zfst_keep (by show (!_ && _) = false; rw [c_49]; rfl), hq3]
          refine zV_goto hX (tgt := 148) dX11_resolved_52 (by decide) ?_
          refine zV_iincN hX (b := 1) dX11_resolved_148 rfl (by decide) ?_
          dsimp only [zst1, zst2, zclr, zc2]
          refine zV_goto hX (tgt := 33) dX11_resolved_151 (by decide) ?_
          exact ih (q + 1) _ _ _ _ (by omega) (by omega) e8
  refine zV_iload_n hX dX11_resolved_0 rfl ?_
  refine zV_cS1p hX hR hl dX11_resolved_1 (zc_lengthOf l G M p hp) zt_X11_lengthOf rfl zml_X11_321 (by omega) (Nat.le_of_ble_eq_true rfl) ?_
  dsimp only [Option.toList, List.cons_append, List.nil_append]
  have hz := zlen_lt p
  refine zV_iload_n hX dX11_resolved_4 rfl ?_
  refine zV_icmp_geN hX (tgt := 21) dX11_resolved_5 (by decide) ⟨by omega, by omega⟩ (fun c_5 => ?_) (fun c_5 => ?_)
  · have e9 : mRs M n c m cut (k + 1) p = M.1 (1000 + 16 * 20 + m) p := by rw [mRs, if_pos (Or.inl c_5)]
    exact J21 e9
  · refine zV_iload_n hX dX11_resolved_8 rfl ?_
    refine zV_if_leN hX (tgt := 30) dX11_resolved_9 (by decide) (by omega) (fun c_9 => ?_) (fun c_9 => ?_)
    · have e9 : mRs M n c m cut (k + 1) p = mPick (mIsIn c p) (fun q => mRs M n c m cut k (zlong p q)) n (M.1 300 24) := by rw [mRs, if_neg (fun q => q.elim (by omega) (fun q => by omega))]
      refine zV_iconst hX (v := nI 0) dX11_resolved_30 (by decide) ?_
      refine zV_istore hX dX11_resolved_31 (by decide) ?_
      dsimp only [zst1, zst2, zclr, zc2]
      exact L33 e9 (zlen_8 (by omega)) (n + 1) 0 _ _ _ _ (by omega) (by omega) rfl
    · refine zV_aload_n hX dX11_resolved_12 rfl ?_
      refine zV_iload_n hX dX11_resolved_13 rfl ?_
      refine zV_cV1p hX hR hl dX11_resolved_14 (zc_mlastOf l G M c p hcm hc7 hp) zt_X11_lastOf rfl zml_X11_334 zo300.1 ⟨by decide, by omega⟩ (Nat.le_of_ble_eq_true rfl) ?_
      dsimp only [Option.toList, List.cons_append, List.nil_append]
      have hz2 := zlast_lt (c := c) hp hc7
      refine zV_iload_n hX dX11_resolved_17 rfl ?_
      refine zV_icmp_neN hX (tgt := 30) dX11_resolved_18 (by decide) ⟨by omega, by omega⟩ (fun c_18 => ?_) (fun c_18 => ?_)
      · have e9 : mRs M n c m cut (k + 1) p = mPick (mIsIn c p) (fun q => mRs M n c m cut k (zlong p q)) n (M.1 300 24) := by rw [mRs, if_neg (fun q => q.elim (by omega) (fun q => by omega))]
        refine zV_iconst hX (v := nI 0) dX11_resolved_30 (by decide) ?_
        refine zV_istore hX dX11_resolved_31 (by decide) ?_
        dsimp only [zst1, zst2, zclr, zc2]
        exact L33 e9 (zlen_8 (by omega)) (n + 1) 0 _ _ _ _ (by omega) (by omega) rfl
      · have e9 : mRs M n c m cut (k + 1) p = M.1 (1000 + 16 * 20 + m) p := by rw [mRs, if_pos (Or.inr ⟨c_9, c_18⟩)]
        exact J21 e9
set_option maxHeartbeats 1000000 in
theorem zc_resolved0 (l : Launch) (G : zG) (M : zM) (n c m cut p : Nat) (hm : m < 7) (hcut : cut ≤ 3) (hp : p < 57) (hk : 3 ≤ zlen p) : zC l G 2 yX11_resolved cX11_resolved 9 (Option.some Jvm.ClassFile.FieldType.int) [.ref (300 : Nat), .int (nI m), .int (nI p), .int (nI cut)] M (zP (some (.int (mRs M n c m cut 0 p))) M) := by
  refine zC_of (by decide) (Nat.le_of_ble_eq_true rfl) (fun X Q hQ hX hl hR hr => ?_)
  refine zV_loc (L' := [.ref (300 : Nat), .int (nI m), .int (nI p), .int (nI cut), .null, .null, .null, .null, .null]) rfl ?_
  refine zV_iload_n hX dX11_resolved_0 rfl ?_
  refine zV_cS1p hX hR hl dX11_resolved_1 (zc_lengthOf l G M p hp) zt_X11_lengthOf rfl zml_X11_321 (by decide) (Nat.le_of_ble_eq_true rfl) ?_
  dsimp only [Option.toList, List.cons_append, List.nil_append]
  have hz := zlen_lt p
  refine zV_iload_n hX dX11_resolved_4 rfl ?_
  refine zV_icmp_geN hX (tgt := 21) dX11_resolved_5 (by decide) ⟨by omega, by omega⟩ (fun c_5 => ?_) (fun c_5 => absurd c_5 (by omega))
  refine zV_aload_n hX dX11_resolved_21 rfl ?_
  refine zV_geta hX dX11_resolved_22 zf_X11_42 zo300.1 rfl ?_
  refine zV_iload_n hX dX11_resolved_25 rfl ?_
  refine zV_aald hX dX11_resolved_26 (t := 0) (zo300.a 20 rfl) (by decide) (rfl) ⟨by omega, by omega⟩ (mRow 20 (by decide)) ?_
  refine zV_iload_n hX dX11_resolved_27 rfl ?_
  refine zV_iald hX dX11_resolved_28 (mSh20 (by omega)) (rfl) ⟨by omega, by omega⟩ (rfl) ?_
  exact zV_reti hX hQ hr (⟨rfl, rfl⟩) dX11_resolved_29
theorem zc_resolvedK (l : Launch) (G : zG) (M : zM) (n c m cut : Nat) (hn : M.1 300 9 = nI n) (hn7 : n ≤ 7) (hcm : M.1 300 17 = nI c) (hc7 : c < 7) (hm : m < 7) (hcut : cut ≤ 3) : ∀ (k p : Nat), p < 57 → 3 ≤ zlen p + k → zC l G (k + 2) yX11_resolved cX11_resolved 9 (Option.some Jvm.ClassFile.FieldType.int) [.ref (300 : Nat), .int (nI m), .int (nI p), .int (nI cut)] M (zP (some (.int (mRs M n c m cut k p))) M)
  | 0, p, hp, hk => zc_resolved0 l G M n c m cut p hm hcut hp hk
  | k + 1, p, hp, hk => zc_resolvedS l G M n c m cut k p hn hn7 hcm hc7 hm hcut (fun p h1 h2 => zc_resolvedK l G M n c m cut hn hn7 hcm hc7 hm hcut k p h1 h2) hp hk
theorem zlen_pos (p : Nat) : 1 ≤ zlen p := by unfold zlen; split; omega; split <;> omega
theorem zc_resolved (l : Launch) (G : zG) (M : zM) (n c m cut p : Nat) (hn : M.1 300 9 = nI n) (hn7 : n ≤ 7) (hcm : M.1 300 17 = nI c) (hc7 : c < 7) (hm : m < 7) (hcut : cut ≤ 3) (hp : p < 57) : zC l G 4 yX11_resolved cX11_resolved 9 (Option.some Jvm.ClassFile.FieldType.int) [.ref (300 : Nat), .int (nI m), .int (nI p), .int (nI cut)] M (zP (some (.int (mR M n c m cut p))) M) := zc_resolvedK l G M n c m cut hn hn7 hcm hc7 hm hcut 2 p hp (by have := zlen_pos p; omega)
def mDec (M : zM) (n c cut m : Nat) : Int32 := if m = c then M.1 300 26 else mR M n c m cut 0
set_option maxHeartbeats 1000000 in
theorem zc_mdecided (l : Launch) (G : zG) (M : zM) (n c cut m : Nat) (hn : M.1 300 9 = nI n) (hn7 : n ≤ 7) (hcm : M.1 300 17 = nI c) (hc7 : c < 7) (hm : m < 7) (hcut : cut ≤ 3) : zC l G 5 yX11_decided cX11_decided 3 (Option.some Jvm.ClassFile.FieldType.int) [.ref (300 : Nat), .int (nI m), .int (nI cut)] M (zP (some (.int (mDec M n c cut m))) M) := by
  refine zC_of (by decide) (Nat.le_of_ble_eq_true rfl) (fun X Q hQ hX hl hR hr => ?_)
  refine zV_loc (L' := [.ref (300 : Nat), .int (nI m), .int (nI cut)]) rfl ?_
  refine zV_iload_n hX dX11_decided_0 rfl ?_
  refine zV_aload_n hX dX11_decided_1 rfl ?_
  refine zV_geti hX dX11_decided_2 zf_X11_39 zo300.1 rfl (hcm) ?_
  refine zV_icmp_neN hX (tgt := 15) dX11_decided_5 (by decide) ⟨by omega, by omega⟩ (fun c_5 => ?_) (fun c_5 => ?_)
  · have e9 : mDec M n c cut m = mR M n c m cut 0 := if_neg c_5
    refine zV_aload_n hX dX11_decided_15 rfl ?_
    refine zV_iload_n hX dX11_decided_16 rfl ?_
    refine zV_iconst hX (v := nI 0) dX11_decided_17 (by decide) ?_
    refine zV_iload_n hX dX11_decided_18 rfl ?_
    refine zV_cV3p hX hR hl dX11_decided_19 (zc_resolved l G M n c m cut 0 hn hn7 hcm hc7 hm hcut (by decide)) zt_X11_resolved rfl zml_X11_355 zo300.1 ⟨by decide, by decide⟩ (Nat.le_of_ble_eq_true rfl) ?_
    dsimp only [Option.toList, List.cons_append, List.nil_append]
    exact zV_reti hX hQ hr (⟨by rw [e9], rfl⟩) dX11_decided_22
  · have e9 : mDec M n c cut m = M.1 300 26 := if_pos c_5
    refine zV_aload_n hX dX11_decided_8 rfl ?_
    refine zV_geti hX dX11_decided_9 zf_X11_310 zo300.1 rfl rfl ?_
    refine zV_goto hX (tgt := 22) dX11_decided_12 (by decide) ?_
    exact zV_reti hX hQ hr (⟨by rw [e9], rfl⟩) dX11_decided_22
def mTrue (M : zM) (m : Nat) : Bool := !bit (M.1 300 25) m
set_option maxHeartbeats 1000000 in
theorem zc_isTrue (l : Launch) (G : zG) (M : zM) (m : Nat) : zC l G 0 yX11_isTrue cX11_isTrue 2 (Option.some Jvm.ClassFile.FieldType.boolean) [.ref (300 : Nat), .int (nI m)] M (zP (some (.int (zb (mTrue M m)))) M) := by
  refine zC_of (by decide) (Nat.le_of_ble_eq_true rfl) (fun X Q hQ hX hl hR hr => ?_)
  refine zV_loc (L' := [.ref (300 : Nat), .int (nI m)]) rfl ?_
  refine zV_aload_n hX dX11_isTrue_0 rfl ?_
  refine zV_geti hX dX11_isTrue_1 zf_X11_343 zo300.1 rfl rfl ?_
  refine zV_iload_n hX dX11_isTrue_4 rfl ?_
  refine zV_ishr hX dX11_isTrue_5 ?_
  refine zV_iconst hX (v := nI 1) dX11_isTrue_6 (by decide) ?_
  refine zV_iand hX dX11_isTrue_7 ?_
  refine zV_if_ne hX (tgt := 15) dX11_isTrue_8 (by decide) (fun c_8 => ?_) (fun c_8 => ?_)
  · refine zV_iconst hX (v := nI 0) dX11_isTrue_15 (by decide) ?_
    exact zV_retz hX hQ hr (rfl) (⟨by simp [zb, mTrue, bit, c_8], rfl⟩) dX11_isTrue_16
  · refine zV_iconst hX (v := nI 1) dX11_isTrue_11 (by decide) ?_
    refine zV_goto hX (tgt := 16) dX11_isTrue_12 (by decide) ?_
    exact zV_retz hX hQ hr (rfl) (⟨by simp [zb, mTrue, bit, c_8], rfl⟩) dX11_isTrue_16
