def mCq (M : zM) (c p : Nat) : Nat → Bool := fun i => mTrue M i && !mIsIn c p i
def mCom (M : zM) (n c t p : Nat) : Bool := zcom (mCq M c p) (fun i => mR M n c i (t + 1) p) n
def mAq (M : zM) (c : Nat) (w : Bool) : Nat → Bool := fun i => mTrue M i && !(w && decide (i = c))
def mAgr (M : zM) (n c t : Nat) : Bool := zcom (mAq M c false) (fun i => mDec M n c (t + 1) i) n
def mObe (M : zM) (n c t : Nat) : Bool := zall (fun i => !mAq M c true i || mDec M n c (t + 1) i == M.1 300 26) n
set_option maxHeartbeats 1000000 in
theorem zc_misCommon (l : Launch) (G : zG) (M : zM) (n c t p : Nat) (hn : M.1 300 9 = nI n) (hn7 : n ≤ 7) (hcm : M.1 300 17 = nI c) (hc7 : c < 7) (ht : M.1 300 10 = nI t) (ht2 : t ≤ 2) (hp : p < 57) : zC l G 5 yX11_isCommon cX11_isCommon 4 (Option.some Jvm.ClassFile.FieldType.boolean) [.ref (300 : Nat), .int (nI p)] M (zP (some (.int (zb (mCom M n c t p)))) M) := by
  refine zC_of (by decide) (Nat.le_of_ble_eq_true rfl) (fun X Q hQ hX hl hR hr => ?_)
  refine zV_loc (L' := [.ref (300 : Nat), .int (nI p), .null, .null]) rfl ?_
  have L4 : ∀ (f9 k : Nat), n - k < f9 → k ≤ n → zcom (mCq M c p) (fun i => mR M n c i (t + 1) p) k = true → zV G X Q 4 0 0 4 [.ref (300 : Nat), .int (nI p), .int (zfv (mCq M c p) k), .int (nI k)] [] M := by
    intro f9
    induction f9 with
    | zero => intro k hk1 hk2 hk3; exact absurd hk1 (Nat.not_lt_zero _)
    | succ f9 ih =>
      intro k hk1 hk2 hk3
      have J66 : k < n → (mCq M c p) k = true → zcom (mCq M c p) (fun i => mR M n c i (t + 1) p) (k + 1) = true → zV G X Q 4 0 0 66 [.ref (300 : Nat), .int (nI p), .int (zfv (mCq M c p) k), .int (nI k)] [] M := by
        intro c_9 e8 e9
        refine zV_iload_n hX dX11_isCommon_66 rfl ?_
        refine zV_iconst hX (v := (-1)) dX11_isCommon_67 (by decide) ?_
        refine zV_icmp_ne hX (tgt := 75) dX11_isCommon_68 (by decide) (fun c_68 => ?_) (fun c_68 => ?_)
        · obtain ⟨a, ha, ha2⟩ := zfv_ne c_68
          have e7 : zfv (mCq M c p) (k + 1) = zfv (mCq M c p) k := by rw [ha2, zfv_some (zfst_old ha)]
          refine zV_iload_n hX dX11_isCommon_75 rfl ?_
          refine zV_istore_n hX dX11_isCommon_76 (by decide) ?_
          dsimp only [zst1, zst2, zclr, zc2]
          refine zV_iincN hX (b := 1) dX11_isCommon_77 rfl (by decide) ?_
          dsimp only [zst1, zst2, zclr, zc2]
          refine zV_goto hX (tgt := 4) dX11_isCommon_80 (by decide) ?_
          have h9 := ih (k + 1) (by omega) (by omega) e9
          rw [e7] at h9
          exact h9
        · have e7 : zfv (mCq M c p) (k + 1) = nI k := zfv_some (zfst_new (zfv_none (by omega) c_68) e8)
          refine zV_iload_n hX dX11_isCommon_71 rfl ?_
          refine zV_goto hX (tgt := 76) dX11_isCommon_72 (by decide) ?_
          refine zV_istore_n hX dX11_isCommon_76 (by decide) ?_
          dsimp only [zst1, zst2, zclr, zc2]
          refine zV_iincN hX (b := 1) dX11_isCommon_77 rfl (by decide) ?_
          dsimp only [zst1, zst2, zclr, zc2]
          refine zV_goto hX (tgt := 4) dX11_isCommon_80 (by decide) ?_
          have h9 := ih (k + 1) (by omega) (by omega) e9
          rw [e7] at h9
          exact h9
      refine zV_iload_n hX dX11_isCommon_4 rfl ?_
      refine zV_aload_n hX dX11_isCommon_5 rfl ?_
      refine zV_geti hX dX11_isCommon_6 zf_X11_20 zo300.1 rfl (hn) ?_
      refine zV_icmp_geN hX (tgt := 83) dX11_isCommon_9 (by decide) ⟨by omega, by omega⟩ (fun c_9 => ?_) (fun c_9 => ?_)
      · have hkn : k = n := by omega
        have hk4 : zcom (mCq M c p) (fun i => mR M n c i (t + 1) p) n = true := by have h := hk3; rw [hkn] at h; exact h
        refine zV_iconst hX (v := nI 1) dX11_isCommon_83 (by decide) ?_
        exact zV_retz hX hQ hr (rfl) (⟨by rw [mCom, hk4]; rfl, rfl⟩) dX11_isCommon_84
      · refine zV_aload_n hX dX11_isCommon_12 rfl ?_
        refine zV_iload_n hX dX11_isCommon_13 rfl ?_
        refine zV_cV1p hX hR hl dX11_isCommon_14 (zc_isTrue l G M k) zt_X11_isTrue rfl zml_X11_359 zo300.1 ⟨by decide, by decide⟩ (Nat.le_of_ble_eq_true rfl) ?_
        dsimp only [Option.toList, List.cons_append, List.nil_append]
        refine zV_if_eqB hX (tgt := 77) dX11_isCommon_17 (by decide) (fun c_17 => ?_) (fun c_17 => ?_)
        · have e8 : (mCq M c p) k = false := by simp [mCq, c_17]
          have e9 : zcom (mCq M c p) (fun i => mR M n c i (t + 1) p) (k + 1) = true := by rw [zcom, hk3, e8]; rfl
          refine zV_iincN hX (b := 1) dX11_isCommon_77 rfl (by decide) ?_
          dsimp only [zst1, zst2, zclr, zc2]
          refine zV_goto hX (tgt := 4) dX11_isCommon_80 (by decide) ?_
          have h9 := ih (k + 1) (by omega) (by omega) e9
          rw [zfv, zfst_keep e8] at h9
          exact h9
        · refine zV_aload_n hX dX11_isCommon_20 rfl ?_
          refine zV_iload_n hX dX11_isCommon_21 rfl ?_
          refine zV_iload_n hX dX11_isCommon_22 rfl ?_
          refine zV_cV2p hX hR hl dX11_isCommon_23 (zc_misIn l G M c p k hcm hc7 hp (by omega)) zt_X11_isIn rfl zml_X11_327 zo300.1 ⟨by decide, by decide⟩ (Nat.le_of_ble_eq_true rfl) ?_
          dsimp only [Option.toList, List.cons_append, List.nil_append]
          refine zV_if_eqB hX (tgt := 32) dX11_isCommon_26 (by decide) (fun c_26 => ?_) (fun c_26 => ?_)
          · have e8 : (mCq M c p) k = true := by simp [mCq, c_17, c_26]
            refine zV_iload_n hX dX11_isCommon_32 rfl ?_
            refine zV_iconst hX (v := (-1)) dX11_isCommon_33 (by decide) ?_
            refine zV_icmp_eq hX (tgt := 66) dX11_isCommon_34 (by decide) (fun c_34 => ?_) (fun c_34 => ?_)
            · have hz := zfv_none (q := (mCq M c p)) (k := k) (by omega) c_34
              have e9 : zcom (mCq M c p) (fun i => mR M n c i (t + 1) p) (k + 1) = true := by rw [zcom, hk3, zfst_new hz e8]; simp
              exact J66 c_9 e8 e9
            · obtain ⟨a, ha, ha2⟩ := zfv_ne c_34
              have hal := zfst_lt ha
              refine zV_aload_n hX dX11_isCommon_37 rfl ?_
              refine zV_iload_n hX dX11_isCommon_38 rfl ?_
              refine zV_iload_n hX dX11_isCommon_39 rfl ?_
              refine zV_aload_n hX dX11_isCommon_40 rfl ?_
              refine zV_geti hX dX11_isCommon_41 zf_X11_23 zo300.1 rfl (ht) ?_
              refine zV_iconst hX (v := nI 1) dX11_isCommon_44 (by decide) ?_
              refine zV_iaddN hX dX11_isCommon_45 ?_
              refine zV_cV3p hX hR hl dX11_isCommon_46 (zc_resolved l G M n c k (t + 1) p hn hn7 hcm hc7 (by omega) (by omega) hp) zt_X11_resolved rfl zml_X11_355 zo300.1 ⟨by decide, by decide⟩ (Nat.le_of_ble_eq_true rfl) ?_
              dsimp only [Option.toList, List.cons_append, List.nil_append]
              refine zV_aload_n hX dX11_isCommon_49 rfl ?_
              refine zV_iload_n hX dX11_isCommon_50 rfl ?_
              refine zV_topi (nI a) ha2 ?_
              refine zV_iload_n hX dX11_isCommon_51 rfl ?_
              refine zV_aload_n hX dX11_isCommon_52 rfl ?_
              refine zV_geti hX dX11_isCommon_53 zf_X11_23 zo300.1 rfl (ht) ?_
              refine zV_iconst hX (v := nI 1) dX11_isCommon_56 (by decide) ?_
              refine zV_iaddN hX dX11_isCommon_57 ?_
              refine zV_cV3p hX hR hl dX11_isCommon_58 (zc_resolved l G M n c a (t + 1) p hn hn7 hcm hc7 (by omega) (by omega) hp) zt_X11_resolved rfl zml_X11_355 zo300.1 ⟨by decide, by decide⟩ (Nat.le_of_ble_eq_true rfl) ?_
              dsimp only [Option.toList, List.cons_append, List.nil_append]
              refine zV_icmp_eq hX (tgt := 66) dX11_isCommon_61 (by decide) (fun c_61 => ?_) (fun c_61 => ?_)
              · have e9 : zcom (mCq M c p) (fun i => mR M n c i (t + 1) p) (k + 1) = true := by rw [zcom, hk3, zfst_old ha]; show (true && (!_ || (fun i => mR M n c i (t + 1) p) k == (fun i => mR M n c i (t + 1) p) a)) = true; rw [show (fun i => mR M n c i (t + 1) p) k = (fun i => mR M n c i (t + 1) p) a from c_61]; simp
                exact J66 c_9 e8 e9
              · refine zV_iconst hX (v := nI 0) dX11_isCommon_64 (by decide) ?_
                exact zV_retz hX hQ hr (rfl) (⟨by rw [mCom, zcom_f (k := k) (by omega) (by rw [zcom, zfst_old ha, e8]; show (_ && (!true || (fun i => mR M n c i (t + 1) p) k == (fun i => mR M n c i (t + 1) p) a)) = false; rw [beq_false_of_ne (show (fun i => mR M n c i (t + 1) p) k ≠ (fun i => mR M n c i (t + 1) p) a from c_61)]; simp)]; rfl, rfl⟩) dX11_isCommon_65
          · have e8 : (mCq M c p) k = false := by simp [mCq, c_26]
            have e9 : zcom (mCq M c p) (fun i => mR M n c i (t + 1) p) (k + 1) = true := by rw [zcom, hk3, e8]; rfl
            refine zV_goto hX (tgt := 77) dX11_isCommon_29 (by decide) ?_
            refine zV_iincN hX (b := 1) dX11_isCommon_77 rfl (by decide) ?_
            dsimp only [zst1, zst2, zclr, zc2]
            refine zV_goto hX (tgt := 4) dX11_isCommon_80 (by decide) ?_
            have h9 := ih (k + 1) (by omega) (by omega) e9
            rw [zfv, zfst_keep e8] at h9
            exact h9
  refine zV_iconst hX (v := (-1)) dX11_isCommon_0 (by decide) ?_
  refine zV_istore_n hX dX11_isCommon_1 (by decide) ?_
  dsimp only [zst1, zst2, zclr, zc2]
  refine zV_iconst hX (v := nI 0) dX11_isCommon_2 (by decide) ?_
  refine zV_istore_n hX dX11_isCommon_3 (by decide) ?_
  dsimp only [zst1, zst2, zclr, zc2]
  exact L4 (n + 1) 0 (by omega) (by omega) rfl
set_option maxHeartbeats 1000000 in
theorem zc_isAgreed0 (l : Launch) (G : zG) (M : zM) (n c t : Nat) (hn : M.1 300 9 = nI n) (hn7 : n ≤ 7) (hcm : M.1 300 17 = nI c) (hc7 : c < 7) (ht : M.1 300 10 = nI t) (ht2 : t ≤ 2) : zC l G 6 yX11_isAgreed cX11_isAgreed 5 (Option.some Jvm.ClassFile.FieldType.boolean) [.ref (300 : Nat), .int (nI 0)] M (zP (some (.int (zb (mAgr M n c t)))) M) := by
  refine zC_of (by decide) (Nat.le_of_ble_eq_true rfl) (fun X Q hQ hX hl hR hr => ?_)
  refine zV_loc (L' := [.ref (300 : Nat), .int (nI 0), .null, .null, .null]) rfl ?_
  have L4 : ∀ (f9 k : Nat) (v4 : Value), n - k < f9 → k ≤ n → zcom (mAq M c false) (fun i => mDec M n c (t + 1) i) k = true → zV G X Q 5 0 0 4 [.ref (300 : Nat), .int (nI 0), .int (zfv (mAq M c false) k), .int (nI k), v4] [] M := by
    intro f9
    induction f9 with
    | zero => intro k v4 hk1 hk2 hk3; exact absurd hk1 (Nat.not_lt_zero _)
    | succ f9 ih =>
      intro k v4 hk1 hk2 hk3
      have J89 : k < n → (mAq M c false) k = true → zcom (mAq M c false) (fun i => mDec M n c (t + 1) i) (k + 1) = true → ∀ v4 : Value, zV G X Q 5 0 0 89 [.ref (300 : Nat), .int (nI 0), .int (zfv (mAq M c false) k), .int (nI k), v4] [] M := by
        intro c_9 e8 e9 v4
        refine zV_iload_n hX dX11_isAgreed_89 rfl ?_
        refine zV_iconst hX (v := (-1)) dX11_isAgreed_90 (by decide) ?_
        refine zV_icmp_ne hX (tgt := 98) dX11_isAgreed_91 (by decide) (fun c_91 => ?_) (fun c_91 => ?_)
        · obtain ⟨a, ha, ha2⟩ := zfv_ne c_91
          have e7 : zfv (mAq M c false) (k + 1) = zfv (mAq M c false) k := by rw [ha2, zfv_some (zfst_old ha)]
          refine zV_iload_n hX dX11_isAgreed_98 rfl ?_
          refine zV_istore_n hX dX11_isAgreed_99 (by decide) ?_
          dsimp only [zst1, zst2, zclr, zc2]
          refine zV_iincN hX (b := 1) dX11_isAgreed_100 rfl (by decide) ?_
          dsimp only [zst1, zst2, zclr, zc2]
          refine zV_goto hX (tgt := 4) dX11_isAgreed_103 (by decide) ?_
          have h9 := ih (k + 1) v4 (by omega) (by omega) e9
          rw [e7] at h9
          exact h9
        · have e7 : zfv (mAq M c false) (k + 1) = nI k := zfv_some (zfst_new (zfv_none (by omega) c_91) e8)
          refine zV_iload_n hX dX11_isAgreed_94 rfl ?_
          refine zV_goto hX (tgt := 99) dX11_isAgreed_95 (by decide) ?_
          refine zV_istore_n hX dX11_isAgreed_99 (by decide) ?_
          dsimp only [zst1, zst2, zclr, zc2]
          refine zV_iincN hX (b := 1) dX11_isAgreed_100 rfl (by decide) ?_
          dsimp only [zst1, zst2, zclr, zc2]
          refine zV_goto hX (tgt := 4) dX11_isAgreed_103 (by decide) ?_
          have h9 := ih (k + 1) v4 (by omega) (by omega) e9
          rw [e7] at h9
          exact h9
      refine zV_iload_n hX dX11_isAgreed_4 rfl ?_
      refine zV_aload_n hX dX11_isAgreed_5 rfl ?_
      refine zV_geti hX dX11_isAgreed_6 zf_X11_20 zo300.1 rfl (hn) ?_
      refine zV_icmp_geN hX (tgt := 106) dX11_isAgreed_9 (by decide) ⟨by omega, by omega⟩ (fun c_9 => ?_) (fun c_9 => ?_)
      · have hkn : k = n := by omega
        have hk4 : zcom (mAq M c false) (fun i => mDec M n c (t + 1) i) n = true := by have h := hk3; rw [hkn] at h; exact h
        refine zV_iconst hX (v := nI 1) dX11_isAgreed_106 (by decide) ?_
        exact zV_retz hX hQ hr (rfl) (⟨by rw [mAgr, hk4]; rfl, rfl⟩) dX11_isAgreed_107
      · refine zV_aload_n hX dX11_isAgreed_12 rfl ?_
        refine zV_iload_n hX dX11_isAgreed_13 rfl ?_
        refine zV_cV1p hX hR hl dX11_isAgreed_14 (zc_isTrue l G M k) zt_X11_isTrue rfl zml_X11_359 zo300.1 ⟨by decide, by decide⟩ (Nat.le_of_ble_eq_true rfl) ?_
        dsimp only [Option.toList, List.cons_append, List.nil_append]
        refine zV_if_eqB hX (tgt := 100) dX11_isAgreed_17 (by decide) (fun c_17 => ?_) (fun c_17 => ?_)
        · have e8 : (mAq M c false) k = false := by simp [mAq, c_17]
          have e9 : zcom (mAq M c false) (fun i => mDec M n c (t + 1) i) (k + 1) = true := by rw [zcom, hk3, e8]; rfl
          refine zV_iincN hX (b := 1) dX11_isAgreed_100 rfl (by decide) ?_
          dsimp only [zst1, zst2, zclr, zc2]
          refine zV_goto hX (tgt := 4) dX11_isAgreed_103 (by decide) ?_
          have h9 := ih (k + 1) v4 (by omega) (by omega) e9
          rw [zfv, zfst_keep e8] at h9
          exact h9
        · refine zV_iload_n hX dX11_isAgreed_20 rfl ?_
          refine zV_iconst hX (v := nI 1) dX11_isAgreed_21 (by decide) ?_
          refine zV_icmp_neN hX (tgt := 36) dX11_isAgreed_22 (by decide) ⟨by omega, by omega⟩ (fun c_22 => ?_) (fun c_22 => absurd c_22 (by decide))
          have e8 : (mAq M c false) k = true := by simp [mAq, c_17]
          refine zV_aload_n hX dX11_isAgreed_36 rfl ?_
          refine zV_iload_n hX dX11_isAgreed_37 rfl ?_
          refine zV_aload_n hX dX11_isAgreed_38 rfl ?_
          refine zV_geti hX dX11_isAgreed_39 zf_X11_23 zo300.1 rfl (ht) ?_
          refine zV_iconst hX (v := nI 1) dX11_isAgreed_42 (by decide) ?_
          refine zV_iaddN hX dX11_isAgreed_43 ?_
          refine zV_cV2p hX hR hl dX11_isAgreed_44 (zc_mdecided l G M n c (t + 1) k hn hn7 hcm hc7 (by omega) (by omega)) zt_X11_decided rfl zml_X11_362 zo300.1 ⟨by decide, by decide⟩ (Nat.le_of_ble_eq_true rfl) ?_
          dsimp only [Option.toList, List.cons_append, List.nil_append]
          refine zV_istore hX dX11_isAgreed_47 (by decide) ?_
          dsimp only [zst1, zst2, zclr, zc2]
          refine zV_iload_n hX dX11_isAgreed_49 rfl ?_
          refine zV_iconst hX (v := nI 1) dX11_isAgreed_50 (by decide) ?_
          refine zV_icmp_neN hX (tgt := 66) dX11_isAgreed_51 (by decide) ⟨by omega, by omega⟩ (fun c_51 => ?_) (fun c_51 => absurd c_51 (by decide))
          refine zV_iload_n hX dX11_isAgreed_66 rfl ?_
          refine zV_iconst hX (v := (-1)) dX11_isAgreed_67 (by decide) ?_
          refine zV_icmp_eq hX (tgt := 89) dX11_isAgreed_68 (by decide) (fun c_68 => ?_) (fun c_68 => ?_)
          · have hz := zfv_none (q := (mAq M c false)) (k := k) (by omega) c_68
            have e9 : zcom (mAq M c false) (fun i => mDec M n c (t + 1) i) (k + 1) = true := by rw [zcom, hk3, zfst_new hz e8]; simp
            exact J89 c_9 e8 e9 _
          · obtain ⟨a, ha, ha2⟩ := zfv_ne c_68
            have hal := zfst_lt ha
            refine zV_iload hX dX11_isAgreed_71 rfl ?_
            refine zV_aload_n hX dX11_isAgreed_73 rfl ?_
            refine zV_iload_n hX dX11_isAgreed_74 rfl ?_
            refine zV_topi (nI a) ha2 ?_
            refine zV_aload_n hX dX11_isAgreed_75 rfl ?_
            refine zV_geti hX dX11_isAgreed_76 zf_X11_23 zo300.1 rfl (ht) ?_
            refine zV_iconst hX (v := nI 1) dX11_isAgreed_79 (by decide) ?_
            refine zV_iaddN hX dX11_isAgreed_80 ?_
            refine zV_cV2p hX hR hl dX11_isAgreed_81 (zc_mdecided l G M n c (t + 1) a hn hn7 hcm hc7 (by omega) (by omega)) zt_X11_decided rfl zml_X11_362 zo300.1 ⟨by decide, by decide⟩ (Nat.le_of_ble_eq_true rfl) ?_
            dsimp only [Option.toList, List.cons_append, List.nil_append]
            refine zV_icmp_eq hX (tgt := 89) dX11_isAgreed_84 (by decide) (fun c_84 => ?_) (fun c_84 => ?_)
            · have e9 : zcom (mAq M c false) (fun i => mDec M n c (t + 1) i) (k + 1) = true := by rw [zcom, hk3, zfst_old ha]; show (true && (!_ || (fun i => mDec M n c (t + 1) i) k == (fun i => mDec M n c (t + 1) i) a)) = true; rw [show (fun i => mDec M n c (t + 1) i) k = (fun i => mDec M n c (t + 1) i) a from c_84]; simp
              exact J89 c_9 e8 e9 _
            · refine zV_iconst hX (v := nI 0) dX11_isAgreed_87 (by decide) ?_
              exact zV_retz hX hQ hr (rfl) (⟨by rw [mAgr, zcom_f (k := k) (by omega) (by rw [zcom, zfst_old ha, e8]; show (_ && (!true || (fun i => mDec M n c (t + 1) i) k == (fun i => mDec M n c (t + 1) i) a)) = false; rw [beq_false_of_ne (show (fun i => mDec M n c (t + 1) i) k ≠ (fun i => mDec M n c (t + 1) i) a from c_84)]; simp)]; rfl, rfl⟩) dX11_isAgreed_88
  refine zV_iconst hX (v := (-1)) dX11_isAgreed_0 (by decide) ?_
  refine zV_istore_n hX dX11_isAgreed_1 (by decide) ?_
  dsimp only [zst1, zst2, zclr, zc2]
  refine zV_iconst hX (v := nI 0) dX11_isAgreed_2 (by decide) ?_
  refine zV_istore_n hX dX11_isAgreed_3 (by decide) ?_
  dsimp only [zst1, zst2, zclr, zc2]
  exact L4 (n + 1) 0 _ (by omega) (by omega) rfl
set_option maxHeartbeats 1000000 in
theorem zc_isAgreed1 (l : Launch) (G : zG) (M : zM) (n c t : Nat) (hn : M.1 300 9 = nI n) (hn7 : n ≤ 7) (hcm : M.1 300 17 = nI c) (hc7 : c < 7) (ht : M.1 300 10 = nI t) (ht2 : t ≤ 2) : zC l G 6 yX11_isAgreed cX11_isAgreed 5 (Option.some Jvm.ClassFile.FieldType.boolean) [.ref (300 : Nat), .int (nI 1)] M (zP (some (.int (zb (mObe M n c t)))) M) := by
  refine zC_of (by decide) (Nat.le_of_ble_eq_true rfl) (fun X Q hQ hX hl hR hr => ?_)
  refine zV_loc (L' := [.ref (300 : Nat), .int (nI 1), .null, .null, .null]) rfl ?_
  have L4 : ∀ (f9 k : Nat) (v4 : Value), n - k < f9 → k ≤ n → zall (fun i => !(mAq M c true) i || mDec M n c (t + 1) i == M.1 300 26) k = true → zV G X Q 5 0 0 4 [.ref (300 : Nat), .int (nI 1), .int (zfv (mAq M c true) k), .int (nI k), v4] [] M := by
    intro f9
    induction f9 with
    | zero => intro k v4 hk1 hk2 hk3; exact absurd hk1 (Nat.not_lt_zero _)
    | succ f9 ih =>
      intro k v4 hk1 hk2 hk3
      have J89 : k < n → (mAq M c true) k = true → zall (fun i => !(mAq M c true) i || mDec M n c (t + 1) i == M.1 300 26) (k + 1) = true → ∀ v4 : Value, zV G X Q 5 0 0 89 [.ref (300 : Nat), .int (nI 1), .int (zfv (mAq M c true) k), .int (nI k), v4] [] M := by
        intro c_9 e8 e9 v4
        refine zV_iload_n hX dX11_isAgreed_89 rfl ?_
        refine zV_iconst hX (v := (-1)) dX11_isAgreed_90 (by decide) ?_
        refine zV_icmp_ne hX (tgt := 98) dX11_isAgreed_91 (by decide) (fun c_91 => ?_) (fun c_91 => ?_)
        · obtain ⟨a, ha, ha2⟩ := zfv_ne c_91
          have e7 : zfv (mAq M c true) (k + 1) = zfv (mAq M c true) k := by rw [ha2, zfv_some (zfst_old ha)]
          refine zV_iload_n hX dX11_isAgreed_98 rfl ?_
          refine zV_istore_n hX dX11_isAgreed_99 (by decide) ?_
          dsimp only [zst1, zst2, zclr, zc2]
          refine zV_iincN hX (b := 1) dX11_isAgreed_100 rfl (by decide) ?_
          dsimp only [zst1, zst2, zclr, zc2]
          refine zV_goto hX (tgt := 4) dX11_isAgreed_103 (by decide) ?_
          have h9 := ih (k + 1) v4 (by omega) (by omega) e9
          rw [e7] at h9
          exact h9
        · have e7 : zfv (mAq M c true) (k + 1) = nI k := zfv_some (zfst_new (zfv_none (by omega) c_91) e8)
          refine zV_iload_n hX dX11_isAgreed_94 rfl ?_
          refine zV_goto hX (tgt := 99) dX11_isAgreed_95 (by decide) ?_
          refine zV_istore_n hX dX11_isAgreed_99 (by decide) ?_
          dsimp only [zst1, zst2, zclr, zc2]
          refine zV_iincN hX (b := 1) dX11_isAgreed_100 rfl (by decide) ?_
          dsimp only [zst1, zst2, zclr, zc2]
          refine zV_goto hX (tgt := 4) dX11_isAgreed_103 (by decide) ?_
          have h9 := ih (k + 1) v4 (by omega) (by omega) e9
          rw [e7] at h9
          exact h9
      refine zV_iload_n hX dX11_isAgreed_4 rfl ?_
      refine zV_aload_n hX dX11_isAgreed_5 rfl ?_
      refine zV_geti hX dX11_isAgreed_6 zf_X11_20 zo300.1 rfl (hn) ?_
      refine zV_icmp_geN hX (tgt := 106) dX11_isAgreed_9 (by decide) ⟨by omega, by omega⟩ (fun c_9 => ?_) (fun c_9 => ?_)
      · have hkn : k = n := by omega
        have hk4 : zall (fun i => !(mAq M c true) i || mDec M n c (t + 1) i == M.1 300 26) n = true := by have h := hk3; rw [hkn] at h; exact h
        refine zV_iconst hX (v := nI 1) dX11_isAgreed_106 (by decide) ?_
        exact zV_retz hX hQ hr (rfl) (⟨by rw [mObe, hk4]; rfl, rfl⟩) dX11_isAgreed_107
      · refine zV_aload_n hX dX11_isAgreed_12 rfl ?_
        refine zV_iload_n hX dX11_isAgreed_13 rfl ?_
        refine zV_cV1p hX hR hl dX11_isAgreed_14 (zc_isTrue l G M k) zt_X11_isTrue rfl zml_X11_359 zo300.1 ⟨by decide, by decide⟩ (Nat.le_of_ble_eq_true rfl) ?_
        dsimp only [Option.toList, List.cons_append, List.nil_append]
        refine zV_if_eqB hX (tgt := 100) dX11_isAgreed_17 (by decide) (fun c_17 => ?_) (fun c_17 => ?_)
        · have e8 : (mAq M c true) k = false := by simp [mAq, c_17]
          have e9 : zall (fun i => !(mAq M c true) i || mDec M n c (t + 1) i == M.1 300 26) (k + 1) = true := by show (zall (fun i => !(mAq M c true) i || mDec M n c (t + 1) i == M.1 300 26) k && (!(mAq M c true) k || _)) = true; rw [hk3, e8]; rfl
          refine zV_iincN hX (b := 1) dX11_isAgreed_100 rfl (by decide) ?_
          dsimp only [zst1, zst2, zclr, zc2]
          refine zV_goto hX (tgt := 4) dX11_isAgreed_103 (by decide) ?_
          have h9 := ih (k + 1) v4 (by omega) (by omega) e9
          rw [zfv, zfst_keep e8] at h9
          exact h9
        · refine zV_iload_n hX dX11_isAgreed_20 rfl ?_
          refine zV_iconst hX (v := nI 1) dX11_isAgreed_21 (by decide) ?_
          refine zV_icmp_neN hX (tgt := 36) dX11_isAgreed_22 (by decide) ⟨by omega, by omega⟩ (fun c_22 => absurd c_22 (by decide)) (fun c_22 => ?_)
          refine zV_iload_n hX dX11_isAgreed_25 rfl ?_
          refine zV_aload_n hX dX11_isAgreed_26 rfl ?_
          refine zV_geti hX dX11_isAgreed_27 zf_X11_39 zo300.1 rfl (hcm) ?_
          refine zV_icmp_neN hX (tgt := 36) dX11_isAgreed_30 (by decide) ⟨by omega, by omega⟩ (fun c_30 => ?_) (fun c_30 => ?_)
          · have e8 : (mAq M c true) k = true := by simp [mAq, c_17, c_30]
            refine zV_aload_n hX dX11_isAgreed_36 rfl ?_
            refine zV_iload_n hX dX11_isAgreed_37 rfl ?_
            refine zV_aload_n hX dX11_isAgreed_38 rfl ?_
            refine zV_geti hX dX11_isAgreed_39 zf_X11_23 zo300.1 rfl (ht) ?_
            refine zV_iconst hX (v := nI 1) dX11_isAgreed_42 (by decide) ?_
            refine zV_iaddN hX dX11_isAgreed_43 ?_
            refine zV_cV2p hX hR hl dX11_isAgreed_44 (zc_mdecided l G M n c (t + 1) k hn hn7 hcm hc7 (by omega) (by omega)) zt_X11_decided rfl zml_X11_362 zo300.1 ⟨by decide, by decide⟩ (Nat.le_of_ble_eq_true rfl) ?_
            dsimp only [Option.toList, List.cons_append, List.nil_append]
            refine zV_istore hX dX11_isAgreed_47 (by decide) ?_
            dsimp only [zst1, zst2, zclr, zc2]
            refine zV_iload_n hX dX11_isAgreed_49 rfl ?_
            refine zV_iconst hX (v := nI 1) dX11_isAgreed_50 (by decide) ?_
            refine zV_icmp_neN hX (tgt := 66) dX11_isAgreed_51 (by decide) ⟨by omega, by omega⟩ (fun c_51 => absurd c_51 (by decide)) (fun c_51 => ?_)
            refine zV_iload hX dX11_isAgreed_54 rfl ?_
            refine zV_aload_n hX dX11_isAgreed_56 rfl ?_
            refine zV_geti hX dX11_isAgreed_57 zf_X11_310 zo300.1 rfl rfl ?_
            refine zV_icmp_eq hX (tgt := 89) dX11_isAgreed_60 (by decide) (fun c_60 => ?_) (fun c_60 => ?_)
            · have e9 : zall (fun i => !(mAq M c true) i || mDec M n c (t + 1) i == M.1 300 26) (k + 1) = true := by show (zall (fun i => !(mAq M c true) i || mDec M n c (t + 1) i == M.1 300 26) k && (!(mAq M c true) k || mDec M n c (t + 1) k == M.1 300 26)) = true; rw [hk3, e8, c_60]; simp
              exact J89 c_9 e8 e9 _
            · refine zV_goto hX (tgt := 87) dX11_isAgreed_63 (by decide) ?_
              refine zV_iconst hX (v := nI 0) dX11_isAgreed_87 (by decide) ?_
              exact zV_retz hX hQ hr (rfl) (⟨by rw [mObe, zall_false (k := k) (by omega) (by show (!(mAq M c true) k || mDec M n c (t + 1) k == M.1 300 26) = false; rw [e8, beq_false_of_ne c_60]; rfl)]; rfl, rfl⟩) dX11_isAgreed_88
          · have e8 : (mAq M c true) k = false := by simp [mAq, c_30]
            have e9 : zall (fun i => !(mAq M c true) i || mDec M n c (t + 1) i == M.1 300 26) (k + 1) = true := by show (zall (fun i => !(mAq M c true) i || mDec M n c (t + 1) i == M.1 300 26) k && (!(mAq M c true) k || _)) = true; rw [hk3, e8]; rfl
            refine zV_goto hX (tgt := 100) dX11_isAgreed_33 (by decide) ?_
            refine zV_iincN hX (b := 1) dX11_isAgreed_100 rfl (by decide) ?_
            dsimp only [zst1, zst2, zclr, zc2]
            refine zV_goto hX (tgt := 4) dX11_isAgreed_103 (by decide) ?_
            have h9 := ih (k + 1) v4 (by omega) (by omega) e9
            rw [zfv, zfst_keep e8] at h9
            exact h9
  refine zV_iconst hX (v := (-1)) dX11_isAgreed_0 (by decide) ?_
  refine zV_istore_n hX dX11_isAgreed_1 (by decide) ?_
  dsimp only [zst1, zst2, zclr, zc2]
  refine zV_iconst hX (v := nI 0) dX11_isAgreed_2 (by decide) ?_
  refine zV_istore_n hX dX11_isAgreed_3 (by decide) ?_
  dsimp only [zst1, zst2, zclr, zc2]
  exact L4 (n + 1) 0 _ (by omega) (by omega) rfl
def mPo (b d : Int32) : Int32 := if b = -1 then nI 0 else if d = -1 then nI 1 + b else nI 8 + nI 7 * b + d
def mPn (b d : Int32) : Nat := if b = -1 then 0 else if d = -1 then 1 + zN b else 8 + 7 * zN b + zN d
theorem not_m1 {x : Int32} {n : Nat} (h1 : ¬ x < -1) (h2 : ¬ x = -1) (h3 : x < nI n) (hn : n < 100) : x = nI (zN x) ∧ zN x < n := by
  have h4 : (-1 : Int32).toInt = -1 := by decide
  have h0 : ¬ x < 0 := fun z => by
    have z1 := Int32.lt_iff_toInt_lt.mp z
    have z2 : ¬ x.toInt < -1 := fun q => h1 (Int32.lt_iff_toInt_lt.mpr (by rw [h4]; exact q))
    have z3 : (0 : Int32).toInt = 0 := by decide
    rw [z3] at z1
    exact h2 (Int32.toInt_inj.mp (by rw [h4]; omega))
  obtain ⟨j, hj, rfl⟩ := nI_of h0
  rw [zN_nI hj]
  exact ⟨rfl, (nI_ltI hj (by omega)).mp h3⟩
theorem mPo_nI {b d : Int32} {n : Nat} (hn7 : n ≤ 7) (hb1 : ¬ b < -1) (hd1 : ¬ d < -1) (hb : b < nI n) (hd : d < nI n) : mPo b d = nI (mPn b d) ∧ mPn b d < 57 := by
  unfold mPo mPn
  by_cases h : b = -1
  · rw [if_pos h, if_pos h]; exact ⟨rfl, by decide⟩
  · obtain ⟨q1, q2⟩ := not_m1 hb1 h hb (by omega)
    rw [if_neg h, if_neg h]
    by_cases h' : d = -1
    · rw [if_pos h', if_pos h']
      refine ⟨?_, by omega⟩
      rw [← nI_add, ← q1]
    · obtain ⟨q3, q4⟩ := not_m1 hd1 h' hd (by omega)
      rw [if_neg h', if_neg h']
      refine ⟨?_, by omega⟩
      rw [← nI_add, ← nI_add, ← pk_mul, ← q1, ← q3]
def mTold (n c t : Nat) (a b d : Int32) : Bool := decide (a = nI c) && !decide (b < -1) && !decide (d < -1) && !(decide (b = -1) && !decide (d = -1)) && decide (b < nI n) && decide (d < nI n) && mPath n c (mPn b d) && decide (zlen (mPn b d) ≤ t + 1)
set_option maxHeartbeats 1000000 in
theorem zc_mpathOf (l : Launch) (G : zG) (M : zM) (b d : Int32) (p : Nat) (h : mPo b d = nI p) : zC l G 0 yX11_pathOf cX11_pathOf 2 (Option.some Jvm.ClassFile.FieldType.int) [.int b, .int d] M (zP (some (.int (nI p))) M) := by
  refine zC_of (by decide) (Nat.le_of_ble_eq_true rfl) (fun X Q hQ hX hl hR hr => ?_)
  refine zV_loc (L' := [.int b, .int d]) rfl ?_
  refine zV_iload_n hX dX11_pathOf_0 rfl ?_
  refine zV_iconst hX (v := (-1)) dX11_pathOf_1 (by decide) ?_
  refine zV_icmp_ne hX (tgt := 9) dX11_pathOf_2 (by decide) (fun c_2 => ?_) (fun c_2 => ?_)
  · refine zV_iload_n hX dX11_pathOf_9 rfl ?_
    refine zV_iconst hX (v := (-1)) dX11_pathOf_10 (by decide) ?_
    refine zV_icmp_ne hX (tgt := 20) dX11_pathOf_11 (by decide) (fun c_11 => ?_) (fun c_11 => ?_)
    · refine zV_bipush hX (v := nI 8) dX11_pathOf_20 (by decide) ?_
      refine zV_bipush hX (v := nI 7) dX11_pathOf_22 (by decide) ?_
      refine zV_iload_n hX dX11_pathOf_24 rfl ?_
      refine zV_imul hX dX11_pathOf_25 ?_
      refine zV_iadd hX dX11_pathOf_26 ?_
      refine zV_iload_n hX dX11_pathOf_27 rfl ?_
      refine zV_iadd hX dX11_pathOf_28 ?_
      exact zV_reti hX hQ hr (⟨by rw [← h]; unfold mPo; first | (rw [if_pos (by assumption)]; done) | (rw [if_neg (by assumption)]; first | (rw [if_pos (by assumption)]; done) | (rw [if_neg (by assumption)]; done)), rfl⟩) dX11_pathOf_29
    · refine zV_iconst hX (v := nI 1) dX11_pathOf_14 (by decide) ?_
      refine zV_iload_n hX dX11_pathOf_15 rfl ?_
      refine zV_iadd hX dX11_pathOf_16 ?_
      refine zV_goto hX (tgt := 29) dX11_pathOf_17 (by decide) ?_
      exact zV_reti hX hQ hr (⟨by rw [← h]; unfold mPo; first | (rw [if_pos (by assumption)]; done) | (rw [if_neg (by assumption)]; first | (rw [if_pos (by assumption)]; done) | (rw [if_neg (by assumption)]; done)), rfl⟩) dX11_pathOf_29
  · refine zV_iconst hX (v := nI 0) dX11_pathOf_5 (by decide) ?_
    refine zV_goto hX (tgt := 29) dX11_pathOf_6 (by decide) ?_
    exact zV_reti hX hQ hr (⟨by rw [← h]; unfold mPo; first | (rw [if_pos (by assumption)]; done) | (rw [if_neg (by assumption)]; first | (rw [if_pos (by assumption)]; done) | (rw [if_neg (by assumption)]; done)), rfl⟩) dX11_pathOf_29
set_option maxHeartbeats 1000000 in
theorem zc_isTold0 (l : Launch) (G : zG) (M : zM) (a b d : Int32) (hcm : M.1 300 17 = -1) : zC l G 2 yX11_isTold cX11_isTold 5 (Option.some Jvm.ClassFile.FieldType.boolean) [.ref (300 : Nat), .int a, .int b, .int d] M (zP (some (.int (zb false))) M) := by
  refine zC_of (by decide) (Nat.le_of_ble_eq_true rfl) (fun X Q hQ hX hl hR hr => ?_)
  refine zV_loc (L' := [.ref (300 : Nat), .int a, .int b, .int d, .null]) rfl ?_
  refine zV_aload_n hX dX11_isTold_0 rfl ?_
  refine zV_geti hX dX11_isTold_1 zf_X11_39 zo300.1 rfl (hcm) ?_
  refine zV_iconst hX (v := (-1)) dX11_isTold_4 (by decide) ?_
  refine zV_icmp_eq hX (tgt := 36) dX11_isTold_5 (by decide) (fun c_5 => ?_) (fun c_5 => absurd c_5 (not_not_intro rfl))
  refine zV_iconst hX (v := nI 0) dX11_isTold_36 (by decide) ?_
  exact zV_retz hX hQ hr (rfl) (⟨rfl, rfl⟩) dX11_isTold_37
set_option maxHeartbeats 1000000 in
theorem zc_isTold (l : Launch) (G : zG) (M : zM) (n c t : Nat) (a b d : Int32) (hn : M.1 300 9 = nI n) (hn7 : n ≤ 7) (hcm : M.1 300 17 = nI c) (hc7 : c < 7) (ht : M.1 300 10 = nI t) (ht2 : t ≤ 2) (h0 : 1 ≤ n) : zC l G 2 yX11_isTold cX11_isTold 5 (Option.some Jvm.ClassFile.FieldType.boolean) [.ref (300 : Nat), .int a, .int b, .int d] M (zP (some (.int (zb (mTold n c t a b d)))) M) := by
  refine zC_of (by decide) (Nat.le_of_ble_eq_true rfl) (fun X Q hQ hX hl hR hr => ?_)
  refine zV_loc (L' := [.ref (300 : Nat), .int a, .int b, .int d, .null]) rfl ?_
  have J38 : a = nI c → ¬ b < -1 → ¬ d < -1 → (!(decide (b = -1) && !decide (d = -1))) = true → zV G X Q 5 0 0 38 [.ref (300 : Nat), .int a, .int b, .int d, .null] [] M := by
    intro c_13 c_18 c_23 q4
    refine zV_iload_n hX dX11_isTold_38 rfl ?_
    refine zV_aload_n hX dX11_isTold_39 rfl ?_
    refine zV_geti hX dX11_isTold_40 zf_X11_20 zo300.1 rfl (hn) ?_
    refine zV_icmp_ge hX (tgt := 54) dX11_isTold_43 (by decide) (fun c_43 => ?_) (fun c_43 => ?_)
    · have e9 : mTold n c t a b d = false := by unfold mTold; rw [decide_eq_false (Int32.not_lt.mpr c_43)]; simp
      refine zV_iconst hX (v := nI 0) dX11_isTold_54 (by decide) ?_
      exact zV_retz hX hQ hr (rfl) (⟨by rw [e9]; rfl, rfl⟩) dX11_isTold_55
    · have q6 := Int32.not_le.mp c_43
      refine zV_iload_n hX dX11_isTold_46 rfl ?_
      refine zV_aload_n hX dX11_isTold_47 rfl ?_
      refine zV_geti hX dX11_isTold_48 zf_X11_20 zo300.1 rfl (hn) ?_
      refine zV_icmp_lt hX (tgt := 56) dX11_isTold_51 (by decide) (fun c_51 => ?_) (fun c_51 => ?_)
      · refine zV_iload_n hX dX11_isTold_56 rfl ?_
        refine zV_iload_n hX dX11_isTold_57 rfl ?_
        have hp9 : mPo b d = nI (mPn b d) ∧ mPn b d < 57 := mPo_nI hn7 (by assumption) (by assumption) (by assumption) (by assumption)
        refine zV_cS2p hX hR hl dX11_isTold_58 (zc_mpathOf l G M b d (mPn b d) hp9.1) zt_X11_pathOf rfl zml_X11_387 (by decide) (Nat.le_of_ble_eq_true rfl) ?_
        dsimp only [Option.toList, List.cons_append, List.nil_append]
        refine zV_istore hX dX11_isTold_61 (by decide) ?_
        dsimp only [zst1, zst2, zclr, zc2]
        refine zV_aload_n hX dX11_isTold_63 rfl ?_
        refine zV_iload hX dX11_isTold_64 rfl ?_
        refine zV_cV1p hX hR hl dX11_isTold_66 (zc_misPath l G M n c (mPn b d) hn hn7 hcm hc7 h0 hp9.2) zt_X11_isPath rfl zml_X11_324 zo300.1 ⟨by decide, by decide⟩ (Nat.le_of_ble_eq_true rfl) ?_
        dsimp only [Option.toList, List.cons_append, List.nil_append]
        refine zV_if_eqB hX (tgt := 90) dX11_isTold_69 (by decide) (fun c_69 => ?_) (fun c_69 => ?_)
        · have e9 : mTold n c t a b d = false := by unfold mTold; rw [c_69]; simp
          refine zV_iconst hX (v := nI 0) dX11_isTold_90 (by decide) ?_
          exact zV_retz hX hQ hr (rfl) (⟨by rw [e9]; rfl, rfl⟩) dX11_isTold_91
        · refine zV_iload hX dX11_isTold_72 rfl ?_
          refine zV_cS1p hX hR hl dX11_isTold_74 (zc_lengthOf l G M (mPn b d) hp9.2) zt_X11_lengthOf rfl zml_X11_321 (by decide) (Nat.le_of_ble_eq_true rfl) ?_
          dsimp only [Option.toList, List.cons_append, List.nil_append]
          have hz := zlen_lt (mPn b d)
          refine zV_aload_n hX dX11_isTold_77 rfl ?_
          refine zV_geti hX dX11_isTold_78 zf_X11_23 zo300.1 rfl (ht) ?_
          refine zV_iconst hX (v := nI 1) dX11_isTold_81 (by decide) ?_
          refine zV_iaddN hX dX11_isTold_82 ?_
          refine zV_icmp_gtN hX (tgt := 90) dX11_isTold_83 (by decide) ⟨by omega, by omega⟩ (fun c_83 => ?_) (fun c_83 => ?_)
          · have e9 : mTold n c t a b d = false := by unfold mTold; rw [decide_eq_false (show ¬ zlen (mPn b d) ≤ t + 1 by omega)]; simp
            refine zV_iconst hX (v := nI 0) dX11_isTold_90 (by decide) ?_
            exact zV_retz hX hQ hr (rfl) (⟨by rw [e9]; rfl, rfl⟩) dX11_isTold_91
          · have e9 : mTold n c t a b d = true := by unfold mTold; rw [decide_eq_true c_13, decide_eq_false c_18, decide_eq_false c_23, q4, decide_eq_true q6, decide_eq_true c_51, c_69, decide_eq_true (show zlen (mPn b d) ≤ t + 1 by omega)]; rfl
            refine zV_iconst hX (v := nI 1) dX11_isTold_86 (by decide) ?_
            refine zV_goto hX (tgt := 91) dX11_isTold_87 (by decide) ?_
            exact zV_retz hX hQ hr (rfl) (⟨by rw [e9]; rfl, rfl⟩) dX11_isTold_91
      · have e9 : mTold n c t a b d = false := by unfold mTold; rw [decide_eq_false c_51]; simp
        refine zV_iconst hX (v := nI 0) dX11_isTold_54 (by decide) ?_
        exact zV_retz hX hQ hr (rfl) (⟨by rw [e9]; rfl, rfl⟩) dX11_isTold_55
  refine zV_aload_n hX dX11_isTold_0 rfl ?_
  refine zV_geti hX dX11_isTold_1 zf_X11_39 zo300.1 rfl (hcm) ?_
  refine zV_iconst hX (v := (-1)) dX11_isTold_4 (by decide) ?_
  refine zV_icmp_eq hX (tgt := 36) dX11_isTold_5 (by decide) (fun c_5 => absurd c_5 (nI_ne1 (by omega))) (fun c_5 => ?_)
  refine zV_iload_n hX dX11_isTold_8 rfl ?_
  refine zV_aload_n hX dX11_isTold_9 rfl ?_
  refine zV_geti hX dX11_isTold_10 zf_X11_39 zo300.1 rfl (hcm) ?_
  refine zV_icmp_ne hX (tgt := 36) dX11_isTold_13 (by decide) (fun c_13 => ?_) (fun c_13 => ?_)
  · have e9 : mTold n c t a b d = false := by unfold mTold; rw [decide_eq_false c_13]; rfl
    refine zV_iconst hX (v := nI 0) dX11_isTold_36 (by decide) ?_
    exact zV_retz hX hQ hr (rfl) (⟨by rw [e9]; rfl, rfl⟩) dX11_isTold_37
  · refine zV_iload_n hX dX11_isTold_16 rfl ?_
    refine zV_iconst hX (v := (-1)) dX11_isTold_17 (by decide) ?_
    refine zV_icmp_lt hX (tgt := 36) dX11_isTold_18 (by decide) (fun c_18 => ?_) (fun c_18 => ?_)
    · have e9 : mTold n c t a b d = false := by unfold mTold; rw [decide_eq_true c_18]; simp
      refine zV_iconst hX (v := nI 0) dX11_isTold_36 (by decide) ?_
      exact zV_retz hX hQ hr (rfl) (⟨by rw [e9]; rfl, rfl⟩) dX11_isTold_37
    · refine zV_iload_n hX dX11_isTold_21 rfl ?_
      refine zV_iconst hX (v := (-1)) dX11_isTold_22 (by decide) ?_
      refine zV_icmp_lt hX (tgt := 36) dX11_isTold_23 (by decide) (fun c_23 => ?_) (fun c_23 => ?_)
      · have e9 : mTold n c t a b d = false := by unfold mTold; rw [decide_eq_true c_23]; simp
        refine zV_iconst hX (v := nI 0) dX11_isTold_36 (by decide) ?_
        exact zV_retz hX hQ hr (rfl) (⟨by rw [e9]; rfl, rfl⟩) dX11_isTold_37
      · refine zV_iload_n hX dX11_isTold_26 rfl ?_
        refine zV_iconst hX (v := (-1)) dX11_isTold_27 (by decide) ?_
        refine zV_icmp_ne hX (tgt := 38) dX11_isTold_28 (by decide) (fun c_28 => ?_) (fun c_28 => ?_)
        · have q4 : (!(decide (b = -1) && !decide (d = -1))) = true := by rw [decide_eq_false c_28]; rfl
          exact J38 c_13 c_18 c_23 q4
        · refine zV_iload_n hX dX11_isTold_31 rfl ?_
          refine zV_iconst hX (v := (-1)) dX11_isTold_32 (by decide) ?_
          refine zV_icmp_eq hX (tgt := 38) dX11_isTold_33 (by decide) (fun c_33 => ?_) (fun c_33 => ?_)
          · have q4 : (!(decide (b = -1) && !decide (d = -1))) = true := by rw [decide_eq_true c_33]; simp
            exact J38 c_13 c_18 c_23 q4
          · have e9 : mTold n c t a b d = false := by unfold mTold; rw [decide_eq_true c_28, decide_eq_false c_33]; simp
            refine zV_iconst hX (v := nI 0) dX11_isTold_36 (by decide) ?_
            exact zV_retz hX hQ hr (rfl) (⟨by rw [e9]; rfl, rfl⟩) dX11_isTold_37
