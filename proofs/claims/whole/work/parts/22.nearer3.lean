theorem nBeg_at (o g : Nat) (M : zM) (hgo : g + 5 < o ∨ o + 3 < g) (m : Nat) : ∀ k, m < k → (nBeg o g k M).1 (o + 1 + 0) m = M.1 (g + 1 + 4) m
  | 0, h => absurd h (Nat.not_lt_zero m)
  | k + 1, h => by
    show (zw (nBeg o g k M) (o + 1 + 0) k ((nBeg o g k M).1 (g + 1 + 4) k)).1 (o + 1 + 0) m = _
    by_cases e : m = k
    · rw [e, zw_same, nBeg_Z o g k M _ _ (by omega)]
    · rw [zw_ne (by omega)]; exact nBeg_at o g M hgo m k (by omega)
/-- what NEARER asks of the group: as nIv, but nothing yet of its floats -/
def nI0 (o g lc n t : Nat) (cn : Nat → Nat) (M : zM) : Prop := M.1 g 0 = nI n ∧ M.1 g 1 = nI t ∧ M.1 g 3 = nI lc ∧ lyN lc M cn ∧ (∀ m, m < 7 → okV (M.1 (g + 1 + 4) m)) ∧ lyV lc M
theorem nBeg_iv {o g lc n t : Nat} {cn : Nat → Nat} {M : zM} (h : nI0 o g lc n t cn M) (hL : lyF lc o (o + 3)) (hgo : g + 5 < o ∨ o + 3 < g) : nIv o g lc n t cn (nBeg o g 7 M) := by
  obtain ⟨h1, h2, h3, h4, h5, h6⟩ := h
  have hz := nBeg_Z o g 7 M
  have q2 := hL.2 2 (by omega)
  have q7 := hL.2 7 (by omega)
  have q8 := hL.2 8 (by omega)
  refine ⟨by rw [hz _ _ (by omega), h1], by rw [hz _ _ (by omega), h2], by rw [hz _ _ (by omega), h3], fun m hm => by rw [hz _ _ (by omega)]; exact h4 m hm, fun m hm => by rw [hz _ _ (by omega)]; exact h5 m hm, fun a ha => ?_, fun m hm => ?_⟩
  · rw [hz _ _ (by omega), hz _ _ (by omega)]
    exact h6 a ha
  · rw [nBeg_at o g M hgo m 7 hm]; exact okV_fb (h5 m hm)
def nPl (o g lc n t md : Nat) (cn : Nat → Nat) (k : Nat) (M : zM) : zM := zfor (fun _ M => nStep o g lc n t md cn M) k (nBeg o g 7 M)
theorem nPl_iv {o g lc n t md : Nat} {cn : Nat → Nat} {M : zM} (h : nI0 o g lc n t cn M) (hL : lyF lc o (o + 3)) (hgo : g + 5 < o ∨ o + 3 < g) (hn : n ≤ 7) : ∀ k, nIv o g lc n t cn (nPl o g lc n t md cn k M)
  | 0 => nBeg_iv h hL hgo
  | k + 1 => nStep_iv (nPl_iv h hL hgo hn k) hL hgo hn
def nLtB (a b : Int32) : Bool := decide (¬ 0 ≤ Op.cmpValue (FP.fcmp a.toUInt32 b.toUInt32) .g)
def nWl (has : Nat → Int32) (li : Int32) (f : Int32 → Int32 → Bool) : Nat → Option Nat
  | 0 => none
  | k + 1 => if bit li k then nWl has li f k else match nWl has li f k with
    | none => some k
    | some a => if f (has k) (has a) then some k else some a
theorem nWl_lt {has : Nat → Int32} {li : Int32} {f : Int32 → Int32 → Bool} : ∀ {k a : Nat}, nWl has li f k = some a → a < k
  | 0, a, h => by cases h
  | k + 1, a, h => by
    unfold nWl at h
    split at h
    · exact Nat.lt_succ_of_lt (nWl_lt h)
    · split at h
      · cases h; exact Nat.lt_succ_self k
      · rename_i b hb
        have := nWl_lt hb
        split at h <;> (cases h; omega)
def zoi : Option Nat → Int32
  | none => -1
  | some a => nI a
theorem zoi_ne {w : Option Nat} (h : ¬ zoi w = -1) : ∃ a, w = some a := by
  cases w with
  | none => exact absurd rfl h
  | some a => exact ⟨a, rfl⟩
theorem zoi_e {w : Option Nat} (hw : ∀ a, w = some a → a < 7) (h : zoi w = -1) : w = none := by
  cases w with
  | none => rfl
  | some a => exact absurd h ((by decide : ∀ a, a < 7 → ¬ nI a = -1) a (hw a rfl))
def nWd (has : Nat → Int32) (li : Int32) (n : Nat) : UInt32 := match nWl has li nLtB n, nWl has li nGt n with
  | some a, some b => FP.fsub (has b).toUInt32 (has a).toUInt32
  | _, _ => FP.fconst0
theorem nWd_fb {has : Nat → Int32} {li : Int32} {n : Nat} (hn : n ≤ 7) (h : ∀ m, m < 7 → fb 1 (has m).toUInt32) : fb (1 + 1) (nWd has li n) := by
  unfold nWd
  split
  · rename_i a b ha hb
    have := nWl_lt ha
    have := nWl_lt hb
    exact fb_sub (h b (by omega)) (h a (by omega)) (by decide)
  · exact fb_mono fb_z (by decide)
set_option maxHeartbeats 1000000 in
theorem zc_nplay (l : Launch) (G : zG) (M : zM) (o g lc n t md st : Nat) (cn : Nat → Nat) (hO : zOb 4 o) (hG : zOb 1 g) (h0 : nI0 o g lc n t cn M) (hn7 : n ≤ 7) (ht2 : t ≤ 2) (hlc : lc < 2 ^ 31) (hL : lyF lc o (o + 3)) (hgo : g + 5 < o ∨ o + 3 < g) (hmd2 : md < 2) (hst : st < 100) : zC l G 5 yX5_play cX5_play 5 (Option.none : Option Jvm.ClassFile.FieldType) [.ref o, .ref g, .int (nI st), .int (nI md)] M (zP none (nPl o g lc n t md cn st M)) := by
  refine zC_of (by decide) (Nat.le_of_ble_eq_true rfl) (fun X Q hQ hX hl hR hr => ?_)
  refine zV_loc (L' := [.ref o, .ref g, .int (nI st), .int (nI md), .null]) rfl ?_
  have L8 : ∀ (f9 k : Nat), st - k < f9 → k ≤ st → zV G X Q 5 0 0 8 [.ref o, .ref g, .int (nI st), .int (nI md), .int (nI k)] [] (nPl o g lc n t md cn k M) := by
    intro f9
    induction f9 with
    | zero => intro k hk1 hk2; exact absurd hk1 (Nat.not_lt_zero _)
    | succ f9 ih =>
      intro k hk1 hk2
      have h9 := nPl_iv (md := md) h0 hL hgo hn7 k
      refine zV_iload hX dX5_play_8 rfl ?_
      refine zV_iload_n hX dX5_play_10 rfl ?_
      refine zV_icmp_geN hX (tgt := 26) dX5_play_11 (by decide) ⟨by omega, by omega⟩ (fun c_11 => ?_) (fun c_11 => ?_)
      · exact zV_retv hX hQ hr (⟨rfl, by rw [show k = st by omega]⟩) dX5_play_26
      · refine zV_aload_n hX dX5_play_14 rfl ?_
        refine zV_aload_n hX dX5_play_15 rfl ?_
        refine zV_iload_n hX dX5_play_16 rfl ?_
        refine zV_cV2p hX hR hl dX5_play_17 (zc_nstep l G _ o g lc n t md cn hO hG h9 hn7 ht2 hlc hL hgo hmd2) zt_X5_step rfl zml_X5_25 hO.1 ⟨by decide, by decide⟩ (Nat.le_of_ble_eq_true rfl) ?_
        dsimp only [Option.toList, List.cons_append, List.nil_append]
        refine zV_iincN hX (b := 1) dX5_play_20 rfl (by decide) ?_
        dsimp only [zst1, zst2, zclr, zc2]
        refine zV_goto hX (tgt := 8) dX5_play_23 (by decide) ?_
        exact ih (k + 1) (by omega) (by omega)
  refine zV_aload_n hX dX5_play_0 rfl ?_
  refine zV_aload_n hX dX5_play_1 rfl ?_
  refine zV_cV1p hX hR hl dX5_play_2 (zc_nbegin l G M o g hO hG hgo h0.2.2.2.2.1) zt_X5_begin rfl zml_X5_21 hO.1 ⟨by decide, by decide⟩ (Nat.le_of_ble_eq_true rfl) ?_
  dsimp only [Option.toList, List.cons_append, List.nil_append]
  refine zV_iconst hX (v := nI 0) dX5_play_5 (by decide) ?_
  refine zV_istore hX dX5_play_6 (by decide) ?_
  dsimp only [zst1, zst2, zclr, zc2]
  exact L8 (st + 1) 0 (by omega) (by omega)
set_option maxHeartbeats 1000000 in
theorem zc_width (l : Launch) (G : zG) (M : zM) (o g lc n t : Nat) (cn : Nat → Nat) (hO : zOb 4 o) (hG : zOb 1 g) (hiv : nIv o g lc n t cn M) (hn7 : n ≤ 7) (ht2 : t ≤ 2) (hlc : lc < 2 ^ 31) (hL : lyF lc o (o + 3)) (hgo : g + 5 < o ∨ o + 3 < g) : zC l G 2 yX5_width cX5_width 5 (Option.some Jvm.ClassFile.FieldType.float) [.ref o, .ref g] M (zP (some (.float (nWd (M.1 (o + 1 + 0)) (M.1 lc 0) n))) M) := by
  refine zC_of (by decide) (Nat.le_of_ble_eq_true rfl) (fun X Q hQ hX hl hR hr => ?_)
  refine zV_loc (L' := [.ref o, .ref g, .null, .null, .null]) rfl ?_
  have L7 : ∀ (f9 k : Nat), n - k < f9 → k ≤ n → zV G X Q 5 0 0 7 [.ref o, .ref g, .int (zoi (nWl (M.1 (o + 1 + 0)) (M.1 lc 0) nLtB k)), .int (zoi (nWl (M.1 (o + 1 + 0)) (M.1 lc 0) nGt k)), .int (nI k)] [] M := by
    intro f9
    induction f9 with
    | zero => intro k hk1 hk2; exact absurd hk1 (Nat.not_lt_zero _)
    | succ f9 ih =>
      intro k hk1 hk2
      have J56 : k < n → bit (M.1 lc 0) k = false → ∀ (w9 : Int32), w9 = zoi (nWl (M.1 (o + 1 + 0)) (M.1 lc 0) nLtB (k + 1)) → zV G X Q 5 0 0 56 [.ref o, .ref g, .int (zoi (nWl (M.1 (o + 1 + 0)) (M.1 lc 0) nLtB k)), .int (zoi (nWl (M.1 (o + 1 + 0)) (M.1 lc 0) nGt k)), .int (nI k)] [.int w9] M := by
        intro hkn c_25 w9 hw9
        subst hw9
        have J85 : k < n → ∀ (w8 : Int32), w8 = zoi (nWl (M.1 (o + 1 + 0)) (M.1 lc 0) nGt (k + 1)) → zV G X Q 5 0 0 85 [.ref o, .ref g, .int (zoi (nWl (M.1 (o + 1 + 0)) (M.1 lc 0) nLtB (k + 1))), .int (zoi (nWl (M.1 (o + 1 + 0)) (M.1 lc 0) nGt k)), .int (nI k)] [.int w8] M := by
          intro hkn w8 hw8
          subst hw8
          refine zV_istore_n hX dX5_width_85 (by decide) ?_
          dsimp only [zst1, zst2, zclr, zc2]
          refine zV_iincN hX (b := 1) dX5_width_86 rfl (by decide) ?_
          dsimp only [zst1, zst2, zclr, zc2]
          refine zV_goto hX (tgt := 7) dX5_width_89 (by decide) ?_
          exact ih (k + 1) (by omega) (by omega)
        refine zV_istore_n hX dX5_width_56 (by decide) ?_
        dsimp only [zst1, zst2, zclr, zc2]
        refine zV_iload_n hX dX5_width_57 rfl ?_
        refine zV_iconst hX (v := (-1)) dX5_width_58 (by decide) ?_
        refine zV_icmp_eq hX (tgt := 79) dX5_width_59 (by decide) (fun c_59 => ?_) (fun c_59 => ?_)
        · refine zV_iload hX dX5_width_79 rfl ?_
          refine zV_goto hX (tgt := 85) dX5_width_81 (by decide) ?_
          first
            | exact J85 (by omega) _ (by rw [nWl, if_neg (by rw [c_25]; decide), zoi_e (fun a h => by have := nWl_lt h; omega) c_59]; rfl)
            | exact J85 (by omega) _ (by rw [nWl, if_neg (by rw [c_25]; decide), hb]; show nI k = zoi (if nGt _ _ then some k else some b); rw [if_pos (show nGt _ _ = true from decide_eq_true c_76)]; rfl)
            | exact J85 (by omega) _ (by rw [nWl, if_neg (by rw [c_25]; decide), hb]; show _ = zoi (if nGt _ _ then some k else some b); rw [if_neg (show ¬ nGt _ _ = true from fun q => absurd c_76 (of_decide_eq_true q))])
        · obtain ⟨b, hb⟩ := zoi_ne c_59
          have hb7 := nWl_lt hb
          refine zV_aload_n hX dX5_width_62 rfl ?_
          refine zV_geta hX dX5_width_63 zf_X5_9 hO.1 rfl ?_
          refine zV_iload hX dX5_width_66 rfl ?_
          refine zV_fald hX dX5_width_68 (hO.a 0 rfl) (rfl) ⟨by omega, by omega⟩ (rfl) ?_
          refine zV_aload_n hX dX5_width_69 rfl ?_
          refine zV_geta hX dX5_width_70 zf_X5_9 hO.1 rfl ?_
          refine zV_iload_n hX dX5_width_73 rfl ?_
          refine zV_topi (nI b) (by rw [hb]; rfl) ?_
          refine zV_fald hX dX5_width_74 (hO.a 0 rfl) (rfl) ⟨by omega, by omega⟩ (rfl) ?_
          refine zV_fcmp hX dX5_width_75 ?_
          refine zV_if_le hX (tgt := 84) dX5_width_76 (by decide) (fun c_76 => ?_) (fun c_76 => ?_)
          · refine zV_iload_n hX dX5_width_84 rfl ?_
            first
              | exact J85 (by omega) _ (by rw [nWl, if_neg (by rw [c_25]; decide), zoi_e (fun a h => by have := nWl_lt h; omega) c_59]; rfl)
              | exact J85 (by omega) _ (by rw [nWl, if_neg (by rw [c_25]; decide), hb]; show nI k = zoi (if nGt _ _ then some k else some b); rw [if_pos (show nGt _ _ = true from decide_eq_true c_76)]; rfl)
              | exact J85 (by omega) _ (by rw [nWl, if_neg (by rw [c_25]; decide), hb]; show _ = zoi (if nGt _ _ then some k else some b); rw [if_neg (show ¬ nGt _ _ = true from fun q => absurd c_76 (of_decide_eq_true q))])
          · refine zV_iload hX dX5_width_79 rfl ?_
            refine zV_goto hX (tgt := 85) dX5_width_81 (by decide) ?_
            first
              | exact J85 (by omega) _ (by rw [nWl, if_neg (by rw [c_25]; decide), zoi_e (fun a h => by have := nWl_lt h; omega) c_59]; rfl)
              | exact J85 (by omega) _ (by rw [nWl, if_neg (by rw [c_25]; decide), hb]; show nI k = zoi (if nGt _ _ then some k else some b); rw [if_pos (show nGt _ _ = true from decide_eq_true c_76)]; rfl)
              | exact J85 (by omega) _ (by rw [nWl, if_neg (by rw [c_25]; decide), hb]; show _ = zoi (if nGt _ _ then some k else some b); rw [if_neg (show ¬ nGt _ _ = true from fun q => absurd c_76 (of_decide_eq_true q))])
      refine zV_iload hX dX5_width_7 rfl ?_
      refine zV_aload_n hX dX5_width_9 rfl ?_
      refine zV_geti hX dX5_width_10 zf_X5_33 hG.1 rfl (hiv.1) ?_
      refine zV_icmp_geN hX (tgt := 92) dX5_width_13 (by decide) ⟨by omega, by omega⟩ (fun c_13 => ?_) (fun c_13 => ?_)
      · rw [show k = n by omega]
        refine zV_iload_n hX dX5_width_92 rfl ?_
        refine zV_iconst hX (v := (-1)) dX5_width_93 (by decide) ?_
        refine zV_icmp_eq hX (tgt := 102) dX5_width_94 (by decide) (fun c_94 => ?_) (fun c_94 => ?_)
        · have hz : nWd (M.1 (o + 1 + 0)) (M.1 lc 0) n = FP.fconst0 := by unfold nWd; rw [zoi_e (fun a h => by have := nWl_lt h; omega) c_94]
          refine zV_fconst0 hX dX5_width_102 ?_
          refine zV_goto hX (tgt := 119) dX5_width_103 (by decide) ?_
          exact zV_retf hX hQ hr (⟨congrArg (fun z => some (Value.float z)) hz.symm, rfl⟩) dX5_width_119
        · obtain ⟨a, ha⟩ := zoi_ne c_94
          have ha7 := nWl_lt ha
          refine zV_iload_n hX dX5_width_97 rfl ?_
          refine zV_iconst hX (v := (-1)) dX5_width_98 (by decide) ?_
          refine zV_icmp_ne hX (tgt := 106) dX5_width_99 (by decide) (fun c_99 => ?_) (fun c_99 => ?_)
          · obtain ⟨b, hb⟩ := zoi_ne c_99
            have hb7 := nWl_lt hb
            have hz : nWd (M.1 (o + 1 + 0)) (M.1 lc 0) n = FP.fsub ((M.1 (o + 1 + 0)) b).toUInt32 ((M.1 (o + 1 + 0)) a).toUInt32 := by unfold nWd; rw [ha, hb]
            refine zV_aload_n hX dX5_width_106 rfl ?_
            refine zV_geta hX dX5_width_107 zf_X5_9 hO.1 rfl ?_
            refine zV_iload_n hX dX5_width_110 rfl ?_
            refine zV_topi (nI b) (by rw [hb]; rfl) ?_
            refine zV_fald hX dX5_width_111 (hO.a 0 rfl) (rfl) ⟨by omega, by omega⟩ (rfl) ?_
            refine zV_aload_n hX dX5_width_112 rfl ?_
            refine zV_geta hX dX5_width_113 zf_X5_9 hO.1 rfl ?_
            refine zV_iload_n hX dX5_width_116 rfl ?_
            refine zV_topi (nI a) (by rw [ha]; rfl) ?_
            refine zV_fald hX dX5_width_117 (hO.a 0 rfl) (rfl) ⟨by omega, by omega⟩ (rfl) ?_
            refine zV_fsub hX dX5_width_118 (fb_n (fb_sub (hiv.2.2.2.2.2.2 b (by omega)) (hiv.2.2.2.2.2.2 a (by omega)) (by decide))) ?_
            exact zV_retf hX hQ hr (⟨congrArg (fun z => some (Value.float z)) hz.symm, rfl⟩) dX5_width_119
          · have hz : nWd (M.1 (o + 1 + 0)) (M.1 lc 0) n = FP.fconst0 := by unfold nWd; rw [zoi_e (fun a h => by have := nWl_lt h; omega) c_99]; split <;> first | rfl | (rename_i h1 h2; cases h2)
            refine zV_fconst0 hX dX5_width_102 ?_
            refine zV_goto hX (tgt := 119) dX5_width_103 (by decide) ?_
            exact zV_retf hX hQ hr (⟨congrArg (fun z => some (Value.float z)) hz.symm, rfl⟩) dX5_width_119
      · refine zV_aload_n hX dX5_width_16 rfl ?_
        refine zV_getp hX dX5_width_17 zf_X5_39 hG.1 rfl (hiv.2.2.1) hlc ?_
        refine zV_iload hX dX5_width_20 rfl ?_
        refine zV_cV1p hX hR hl dX5_width_22 (zc_isLiar l G M lc k hL.1) zt_X4_isLiar rfl zml_X5_43 hL.1.1 ⟨by decide, by decide⟩ (Nat.le_of_ble_eq_true rfl) ?_
        dsimp only [Option.toList, List.cons_append, List.nil_append]
        refine zV_if_neB hX (tgt := 86) dX5_width_25 (by decide) (fun c_25 => ?_) (fun c_25 => ?_)
        · have e1 : nWl (M.1 (o + 1 + 0)) (M.1 lc 0) nLtB (k + 1) = nWl (M.1 (o + 1 + 0)) (M.1 lc 0) nLtB k := by rw [nWl, if_pos c_25]
          have e2 : nWl (M.1 (o + 1 + 0)) (M.1 lc 0) nGt (k + 1) = nWl (M.1 (o + 1 + 0)) (M.1 lc 0) nGt k := by rw [nWl, if_pos c_25]
          refine zV_iincN hX (b := 1) dX5_width_86 rfl (by decide) ?_
          dsimp only [zst1, zst2, zclr, zc2]
          refine zV_goto hX (tgt := 7) dX5_width_89 (by decide) ?_
          have h8 := ih (k + 1) (by omega) (by omega)
          rw [e1, e2] at h8
          exact h8
        · refine zV_iload_n hX dX5_width_28 rfl ?_
          refine zV_iconst hX (v := (-1)) dX5_width_29 (by decide) ?_
          refine zV_icmp_eq hX (tgt := 50) dX5_width_30 (by decide) (fun c_30 => ?_) (fun c_30 => ?_)
          · refine zV_iload hX dX5_width_50 rfl ?_
            refine zV_goto hX (tgt := 56) dX5_width_52 (by decide) ?_
            first
              | exact J56 (by omega) c_25 _ (by rw [nWl, if_neg (by rw [c_25]; decide), zoi_e (fun a h => by have := nWl_lt h; omega) c_30]; rfl)
              | exact J56 (by omega) c_25 _ (by rw [nWl, if_neg (by rw [c_25]; decide), ha]; show nI k = zoi (if nLtB _ _ then some k else some a); rw [if_pos (show nLtB _ _ = true from decide_eq_true c_47)]; rfl)
              | exact J56 (by omega) c_25 _ (by rw [nWl, if_neg (by rw [c_25]; decide), ha]; show _ = zoi (if nLtB _ _ then some k else some a); rw [if_neg (show ¬ nLtB _ _ = true from fun q => absurd c_47 (of_decide_eq_true q))])
          · obtain ⟨a, ha⟩ := zoi_ne c_30
            have ha7 := nWl_lt ha
            refine zV_aload_n hX dX5_width_33 rfl ?_
            refine zV_geta hX dX5_width_34 zf_X5_9 hO.1 rfl ?_
            refine zV_iload hX dX5_width_37 rfl ?_
            refine zV_fald hX dX5_width_39 (hO.a 0 rfl) (rfl) ⟨by omega, by omega⟩ (rfl) ?_
            refine zV_aload_n hX dX5_width_40 rfl ?_
            refine zV_geta hX dX5_width_41 zf_X5_9 hO.1 rfl ?_
            refine zV_iload_n hX dX5_width_44 rfl ?_
            refine zV_topi (nI a) (by rw [ha]; rfl) ?_
            refine zV_fald hX dX5_width_45 (hO.a 0 rfl) (rfl) ⟨by omega, by omega⟩ (rfl) ?_
            refine zV_fcmp hX dX5_width_46 ?_
            refine zV_if_ge hX (tgt := 55) dX5_width_47 (by decide) (fun c_47 => ?_) (fun c_47 => ?_)
            · refine zV_iload_n hX dX5_width_55 rfl ?_
              first
                | exact J56 (by omega) c_25 _ (by rw [nWl, if_neg (by rw [c_25]; decide), zoi_e (fun a h => by have := nWl_lt h; omega) c_30]; rfl)
                | exact J56 (by omega) c_25 _ (by rw [nWl, if_neg (by rw [c_25]; decide), ha]; show nI k = zoi (if nLtB _ _ then some k else some a); rw [if_pos (show nLtB _ _ = true from decide_eq_true c_47)]; rfl)
                | exact J56 (by omega) c_25 _ (by rw [nWl, if_neg (by rw [c_25]; decide), ha]; show _ = zoi (if nLtB _ _ then some k else some a); rw [if_neg (show ¬ nLtB _ _ = true from fun q => absurd c_47 (of_decide_eq_true q))])
            · refine zV_iload hX dX5_width_50 rfl ?_
              refine zV_goto hX (tgt := 56) dX5_width_52 (by decide) ?_
              first
                | exact J56 (by omega) c_25 _ (by rw [nWl, if_neg (by rw [c_25]; decide), zoi_e (fun a h => by have := nWl_lt h; omega) c_30]; rfl)
                | exact J56 (by omega) c_25 _ (by rw [nWl, if_neg (by rw [c_25]; decide), ha]; show nI k = zoi (if nLtB _ _ then some k else some a); rw [if_pos (show nLtB _ _ = true from decide_eq_true c_47)]; rfl)
                | exact J56 (by omega) c_25 _ (by rw [nWl, if_neg (by rw [c_25]; decide), ha]; show _ = zoi (if nLtB _ _ then some k else some a); rw [if_neg (show ¬ nLtB _ _ = true from fun q => absurd c_47 (of_decide_eq_true q))])
  refine zV_iconst hX (v := (-1)) dX5_width_0 (by decide) ?_
  refine zV_istore_n hX dX5_width_1 (by decide) ?_
  dsimp only [zst1, zst2, zclr, zc2]
  refine zV_iconst hX (v := (-1)) dX5_width_2 (by decide) ?_
  refine zV_istore_n hX dX5_width_3 (by decide) ?_
  dsimp only [zst1, zst2, zclr, zc2]
  refine zV_iconst hX (v := nI 0) dX5_width_4 (by decide) ?_
  refine zV_istore hX dX5_width_5 (by decide) ?_
  dsimp only [zst1, zst2, zclr, zc2]
  exact L7 (n + 1) 0 (by omega) (by omega)
