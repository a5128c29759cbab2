def sF1 (o lc c : Nat) (cn : Nat → Nat) (own : Int32) (x : Nat) (M : zM) : zM :=
  if x = c then M
  else match lSaidF M lc c 1 x (nI c) own (cn c) 0 with
    | some (some v) => sTake o x c (nI 1 <<< (nI c &&& 31)) 1 v (sCnt o c (some (some v)) M)
    | y => sCnt o c y M
theorem sF1_Z (o lc c : Nat) (cn : Nat → Nat) (own : Int32) (x : Nat) (M : zM) : sZ o M (sF1 o lc c cn own x M) := by
  unfold sF1
  split
  · exact sZ.rf
  · split
    · exact (sZ.cnt o c _ M).tr (sZ.take o x c _ 1 _ _)
    · exact sZ.cnt o c _ M
def sP1 (o g lc c : Nat) (cn : Nat → Nat) (k : Nat) (M : zM) : zM := zfor (sF1 o lc c cn (M.1 (g + 1 + 4) c)) k (sBegin o g M)
def sP2 (o g lc n c : Nat) (cn : Nat → Nat) (k : Nat) (M : zM) : zM := zfor (fun i M => sRd o lc n (i + 2) cn n M) k (sP1 o g lc c cn n M)
def sPlay (o g lc n t c : Nat) (cn : Nat → Nat) (M : zM) : zM := sDecide o g lc n c (sP2 o g lc n c cn t M)
theorem sBegin_out (o g : Nat) (M : zM) {a j : Nat} (h : a < o ∨ o + 12 < a) : (sBegin o g M).1 a j = M.1 a j := by
  unfold sBegin
  rw [zfor_at (fun i M => by rw [zw_ne (by omega), zw_ne (by omega)]), zw_ne (by omega), zw_ne (by omega), zw_ne (by omega), zw_ne (by omega)]
theorem sBegin_7 (o g : Nat) (M : zM) : (sBegin o g M).1 o 7 = M.1 g 0 := by
  unfold sBegin
  rw [zfor_at (fun i M => by rw [zw_ne (by omega), zw_ne (by omega)]), zw_ne (by omega), zw_ne (by omega), zw_ne (by omega), zw_same]
theorem zfor_hit {f : Nat → zM → zM} {a m : Nat} {v : Int32} (h1 : ∀ M, (f m M).1 a m = v) (h2 : ∀ i M, i ≠ m → (f i M).1 a m = M.1 a m) : ∀ (n : Nat) (M : zM), m < n → (zfor f n M).1 a m = v
  | 0, _, h => absurd h (Nat.not_lt_zero m)
  | n + 1, M, h => by
    show (f n (zfor f n M)).1 a m = v
    by_cases e : n = m
    · subst e; exact h1 _
    · rw [h2 n _ e]; exact zfor_hit h1 h2 n M (by omega)
theorem sBegin_k7 (o g : Nat) (M : zM) : zk7 (sBegin o g M) (o + 1 + 4) := fun m hm => ⟨0, by omega, zfor_hit (fun M => by rw [zw_ne (by omega), zw_same]) (fun i M h => by rw [zw_ne (by omega), zw_ne (by omega)]) 7 _ hm⟩
/-- SIGNED from the first writes on -/
def sFi (o g n : Nat) (M M' : zM) : Prop := (∀ a j, a < o ∨ o + 12 < a → M'.1 a j = M.1 a j) ∧ M'.1 o 7 = M.1 g 0 ∧ zk7 M' (o + 1 + 4)
theorem sFi.go {o g n : Nat} {M M1 M2 : zM} (h : sFi o g n M M1) (h2 : sZ o M1 M2) : sFi o g n M M2 := ⟨fun a j q => (h2.1 a j q).trans (h.1 a j q), h2.2.2.1.trans h.2.1, h2.2.2.2.2 h.2.2⟩
theorem sFi.p1 (o g lc n c : Nat) (cn : Nat → Nat) (k : Nat) (M : zM) : sFi o g n M (sP1 o g lc c cn k M) := sFi.go (M1 := sBegin o g M) ⟨fun a j h => sBegin_out o g M h, sBegin_7 o g M, sBegin_k7 o g M⟩ (sZ.for (sF1_Z o lc c cn _) k _)
theorem sFi.p2 (o g lc n c : Nat) (cn : Nat → Nat) (k : Nat) (M : zM) : sFi o g n M (sP2 o g lc n c cn k M) := (sFi.p1 o g lc n c cn n M).go (sZ.for (fun i M => sRd_Z o lc n (i + 2) cn n M) k _)
set_option maxHeartbeats 1000000 in
theorem zc_splay (l : Launch) (G : zG) (M : zM) (o g lc n t c : Nat) (cn : Nat → Nat) (hO : zOb 7 o) (hG : zOb 1 g) (hgo : g + 5 < o ∨ o + 12 < g) (hL : lyS lc o) (hgn : M.1 g 0 = nI n) (hn7 : n ≤ 7) (hgt : M.1 g 1 = nI t) (ht2 : t ≤ 2) (hgl : M.1 g 3 = nI lc) (hlc : lc < 2 ^ 31) (hcn : lyN lc M cn) (hc7 : c < 7) : zC l G 4 yX8_play cX8_play 6 (Option.none : Option Jvm.ClassFile.FieldType) [.ref o, .ref g, .int (nI c)] M (zP none (sPlay o g lc n t c cn M)) := by
  refine zC_of (by decide) (Nat.le_of_ble_eq_true rfl) (fun X Q hQ hX hl hR hr => ?_)
  refine zV_loc (L' := [.ref o, .ref g, .int (nI c), .null, .null, .null]) rfl ?_
  have L74 : ∀ (f9 k : Nat) (v1 v2 : Value), t - k < f9 → k ≤ t → zV G X Q 6 0 0 74 [.ref o, .ref g, .int (nI c), .int (nI (k + 2)), v1, v2] [] (sP2 o g lc n c cn k M) := by
    intro f9
    induction f9 with
    | zero => intro k v1 v2 hk1 hk2; exact absurd hk1 (Nat.not_lt_zero _)
    | succ f9 ih =>
      intro k v1 v2 hk1 hk2
      have hF := sFi.p2 o g lc n c cn k M
      refine zV_iload_n hX dX8_play_74 rfl ?_
      refine zV_aload_n hX dX8_play_75 rfl ?_
      refine zV_cV0p hX hR hl dX8_play_76 (zc_rounds l G _ g t hG (by rw [hF.1 _ _ (by omega), hgt])) zt_X2_rounds rfl zml_X8_63 hG.1 ⟨by decide, by decide⟩ (Nat.le_of_ble_eq_true rfl) ?_
      dsimp only [Option.toList, List.cons_append, List.nil_append]
      refine zV_icmp_gtN hX (tgt := 97) dX8_play_79 (by decide) ⟨by omega, by omega⟩ (fun c_79 => ?_) (fun c_79 => ?_)
      · rw [show k = t by omega]
        refine zV_aload_n hX dX8_play_97 rfl ?_
        refine zV_aload_n hX dX8_play_98 rfl ?_
        refine zV_iload_n hX dX8_play_99 rfl ?_
        have hF := sFi.p2 o g lc n c cn t M
        refine zV_cV2p hX hR hl dX8_play_100 (zc_sdecide l G _ o g lc n c hO hG hgo (by rw [hF.2.1, hgn]) hn7 (by rw [hF.1 _ _ (by omega), hgl]) hlc hL hc7) zt_X8_decide rfl zml_X8_71 hO.1 ⟨by decide, by decide⟩ (Nat.le_of_ble_eq_true rfl) ?_
        dsimp only [Option.toList, List.cons_append, List.nil_append]
        exact zV_retv hX hQ hr (⟨rfl, rfl⟩) dX8_play_103
      · refine zV_aload_n hX dX8_play_82 rfl ?_
        refine zV_aload_n hX dX8_play_83 rfl ?_
        refine zV_getp hX dX8_play_84 zf_X8_41 hG.1 rfl (by rw [hF.1 _ _ (by omega), hgl]) hlc ?_
        refine zV_iload_n hX dX8_play_87 rfl ?_
        refine zV_cV2p hX hR hl dX8_play_88 (zc_sayRound l G _ o lc n (k + 2) cn hO (by rw [hF.2.1, hgn]) hn7 hL (fun m hm => by rw [hF.1 _ _ (by have := hL.2 2 (by omega); omega)]; exact hcn m hm) (by omega) (by omega) hF.2.2) zt_X8_sayRound rfl zml_X8_67 hO.1 ⟨by decide, by decide⟩ (Nat.le_of_ble_eq_true rfl) ?_
        dsimp only [Option.toList, List.cons_append, List.nil_append]
        refine zV_iincN hX (b := 1) dX8_play_91 rfl (by decide) ?_
        dsimp only [zst1, zst2, zclr, zc2]
        refine zV_goto hX (tgt := 74) dX8_play_94 (by decide) ?_
        exact ih (k + 1) _ _ (by omega) (by omega)
  have L7 : ∀ (f9 k : Nat) (v1 v2 : Value), n - k < f9 → k ≤ n → zV G X Q 6 0 0 7 [.ref o, .ref g, .int (nI c), .int (nI k), v1, v2] [] (sP1 o g lc c cn k M) := by
    intro f9
    induction f9 with
    | zero => intro k v1 v2 hk1 hk2; exact absurd hk1 (Nat.not_lt_zero _)
    | succ f9 ih =>
      intro k v1 v2 hk1 hk2
      have hF := sFi.p1 o g lc n c cn k M
      refine zV_iload_n hX dX8_play_7 rfl ?_
      refine zV_aload_n hX dX8_play_8 rfl ?_
      refine zV_geti hX dX8_play_9 zf_X8_37 hO.1 rfl (by rw [hF.2.1, hgn]) ?_
      refine zV_icmp_geN hX (tgt := 72) dX8_play_12 (by decide) ⟨by omega, by omega⟩ (fun c_12 => ?_) (fun c_12 => ?_)
      · rw [show k = n by omega]
        refine zV_iconst hX (v := nI 2) dX8_play_72 (by decide) ?_
        refine zV_istore_n hX dX8_play_73 (by decide) ?_
        dsimp only [zst1, zst2, zclr, zc2]
        exact L74 (t + 1) 0 _ _ (by omega) (by omega)
      · refine zV_iload_n hX dX8_play_15 rfl ?_
        refine zV_iload_n hX dX8_play_16 rfl ?_
        refine zV_icmp_eqN hX (tgt := 66) dX8_play_17 (by decide) ⟨by omega, by omega⟩ (fun c_17 => ?_) (fun c_17 => ?_)
        · have e9 : sF1 o lc c cn (M.1 (g + 1 + 4) c) k (sP1 o g lc c cn k M) = (sP1 o g lc c cn k M) := if_pos c_17
          refine zV_iincN hX (b := 1) dX8_play_66 rfl (by decide) ?_
          dsimp only [zst1, zst2, zclr, zc2]
          refine zV_goto hX (tgt := 7) dX8_play_69 (by decide) ?_
          have h9 := fun v1 v2 => ih (k + 1) v1 v2 (by omega) (by omega)
          simp only [show sP1 o g lc c cn (k + 1) M = sF1 o lc c cn (M.1 (g + 1 + 4) c) k (sP1 o g lc c cn k M) from rfl, e9] at h9
          exact h9 _ _
        · refine zV_aload_n hX dX8_play_20 rfl ?_
          refine zV_getp hX dX8_play_21 zf_X8_41 hG.1 rfl (by rw [hF.1 _ _ (by omega), hgl]) hlc ?_
          refine zV_iload_n hX dX8_play_24 rfl ?_
          refine zV_iconst hX (v := nI 1) dX8_play_25 (by decide) ?_
          refine zV_iload_n hX dX8_play_26 rfl ?_
          refine zV_iload_n hX dX8_play_27 rfl ?_
          refine zV_aload_n hX dX8_play_28 rfl ?_
          refine zV_geta hX dX8_play_29 zf_X8_47 hG.1 rfl ?_
          refine zV_iload_n hX dX8_play_32 rfl ?_
          refine zV_iald hX (v := (M.1 (g + 1 + 4) c)) dX8_play_33 (hG.a 4 rfl) (rfl) ⟨by omega, by omega⟩ (hF.1 _ _ (by omega)) ?_
          refine zV_cV5p hX hR hl dX8_play_34 (zc_said l G _ lc c 1 k (cn c) (nI c) _ hL.1 hc7 (by rw [hF.1 _ _ (by have := hL.2 2 (by omega); omega)]; exact (hcn c hc7).1) (hcn c hc7).2 (by omega)) zt_X4_said rfl zml_X8_50 hL.1.1 ⟨by decide, by decide⟩ (Nat.le_of_ble_eq_true rfl) ?_
          dsimp only [Option.toList, List.cons_append, List.nil_append]
          refine zV_lstore hX dX8_play_37 (by decide) ?_
          dsimp only [zst1, zst2, zclr, zc2]
          refine zV_aload_n hX dX8_play_39 rfl ?_
          refine zV_iload_n hX dX8_play_40 rfl ?_
          refine zV_lload hX dX8_play_41 rfl ?_
          refine zV_cV2p hX hR hl dX8_play_43 (zc_scnt l G _ o c (lSaidF (sP1 o g lc c cn k M) lc c 1 k (nI c) (M.1 (g + 1 + 4) c) (cn c) 0) hO hc7) zt_X8_countSaid rfl zml_X8_55 hO.1 ⟨by decide, by decide⟩ (Nat.le_of_ble_eq_true rfl) ?_
          dsimp only [Option.toList, List.cons_append, List.nil_append]
          refine zV_lload hX dX8_play_46 rfl ?_
          refine zV_lconst hX (v := 0) dX8_play_48 rfl ?_
          refine zV_lcmp hX dX8_play_49 ?_
          refine zV_if_lt hX (tgt := 66) dX8_play_50 (by decide) (fun c_50 => ?_) (fun c_50 => ?_)
          · have hno := zlo_lt c_50
            have e9 : sF1 o lc c cn (M.1 (g + 1 + 4) c) k (sP1 o g lc c cn k M) = (sCnt o c (lSaidF (sP1 o g lc c cn k M) lc c 1 k (nI c) (M.1 (g + 1 + 4) c) (cn c) 0) (sP1 o g lc c cn k M)) := by unfold sF1; rw [if_neg c_17]; split; rename_i v9 hv9; exact absurd hv9 (hno v9); rfl
            refine zV_iincN hX (b := 1) dX8_play_66 rfl (by decide) ?_
            dsimp only [zst1, zst2, zclr, zc2]
            refine zV_goto hX (tgt := 7) dX8_play_69 (by decide) ?_
            have h9 := fun v1 v2 => ih (k + 1) v1 v2 (by omega) (by omega)
            simp only [show sP1 o g lc c cn (k + 1) M = sF1 o lc c cn (M.1 (g + 1 + 4) c) k (sP1 o g lc c cn k M) from rfl, e9] at h9
            exact h9 _ _
          · obtain ⟨v9, hv9⟩ := zlo_ge c_50
            have e9 : sF1 o lc c cn (M.1 (g + 1 + 4) c) k (sP1 o g lc c cn k M) = sTake o k c (nI 1 <<< (nI c &&& 31)) 1 v9 (sCnt o c (lSaidF (sP1 o g lc c cn k M) lc c 1 k (nI c) (M.1 (g + 1 + 4) c) (cn c) 0) (sP1 o g lc c cn k M)) := by unfold sF1; rw [if_neg c_17, hv9]
            refine zV_aload_n hX dX8_play_53 rfl ?_
            refine zV_iload_n hX dX8_play_54 rfl ?_
            refine zV_iload_n hX dX8_play_55 rfl ?_
            refine zV_iconst hX (v := nI 1) dX8_play_56 (by decide) ?_
            refine zV_iload_n hX dX8_play_57 rfl ?_
            refine zV_ishl hX dX8_play_58 ?_
            refine zV_iconst hX (v := nI 1) dX8_play_59 (by decide) ?_
            refine zV_lload hX dX8_play_60 rfl ?_
            refine zV_l2i hX dX8_play_62 ?_
            refine zV_topi v9 (by rw [hv9]; exact zlv_i v9) ?_
            obtain ⟨kk, hkk, hkk2⟩ := hF.2.2 k (by omega)
            refine zV_cV5p hX hR hl dX8_play_63 (zc_take l G _ o k c 1 kk _ _ hO (by omega) (by rw [sCnt_at _ _ _ _ (by omega)]; exact hkk2) hkk) zt_X8_take rfl zml_X8_59 hO.1 ⟨by decide, by decide⟩ (Nat.le_of_ble_eq_true rfl) ?_
            dsimp only [Option.toList, List.cons_append, List.nil_append]
            refine zV_iincN hX (b := 1) dX8_play_66 rfl (by decide) ?_
            dsimp only [zst1, zst2, zclr, zc2]
            refine zV_goto hX (tgt := 7) dX8_play_69 (by decide) ?_
            have h9 := fun v1 v2 => ih (k + 1) v1 v2 (by omega) (by omega)
            simp only [show sP1 o g lc c cn (k + 1) M = sF1 o lc c cn (M.1 (g + 1 + 4) c) k (sP1 o g lc c cn k M) from rfl, e9] at h9
            exact h9 _ _
  refine zV_aload_n hX dX8_play_0 rfl ?_
  refine zV_aload_n hX dX8_play_1 rfl ?_
  refine zV_cV1p hX hR hl dX8_play_2 (zc_sbegin l G M o g hO hG) zt_X8_begin rfl zml_X8_33 hO.1 ⟨by decide, by decide⟩ (Nat.le_of_ble_eq_true rfl) ?_
  dsimp only [Option.toList, List.cons_append, List.nil_append]
  refine zV_iconst hX (v := nI 0) dX8_play_5 (by decide) ?_
  refine zV_istore_n hX dX8_play_6 (by decide) ?_
  dsimp only [zst1, zst2, zclr, zc2]
  exact L7 (n + 1) 0 _ _ (by omega) (by omega)
-- KINGS at o
def lyF (c lo hi : Nat) : Prop := zOb 3 c ∧ ∀ k, k ≤ 8 → c + k < lo ∨ hi < c + k
def zval (w : Option (Option Int32)) (d : Int32) : Int32 := match w with
  | some (some v) => v
  | _ => d
def kCnt (o : Nat) (w : Option (Option Int32)) (M : zM) : zM := zw (zw M o 0 (M.1 o 0 + (if w = none then nI 0 else nI 1))) o 1 (M.1 o 1 + (if w = some none then nI 1 else nI 0))
def kWh (lc : Nat) (cn : Nat → Nat) (r w x : Nat) (tr : Int32) (M : zM) : Option (Option Int32) := lSaidF M lc w r x (nI w) tr (cn w) 0
theorem zval_no {w : Option (Option Int32)} {d : Int32} (h : ∀ v, w ≠ some (some v)) : zval w d = d := by
  unfold zval
  split
  · rename_i v; exact absurd rfl (h v)
  · rfl
theorem zlo_ge2 {w : Option (Option Int32)} (h : 0 ≤ lg_cmp (zlo w) 0) : ∃ v, w = some (some v) := zlo_ge (Int32.not_lt.mpr h)
theorem zlo_lt2 {w : Option (Option Int32)} (h : ¬ 0 ≤ lg_cmp (zlo w) 0) : ∀ v, w ≠ some (some v) := zlo_lt (Int32.not_le.mp h)
set_option maxHeartbeats 1000000 in
theorem zc_kspoken (l : Launch) (G : zG) (M : zM) (o g lc n t r w x : Nat) (cn : Nat → Nat) (tr : Int32) (hO : zOb 2 o) (hG : zOb 1 g) (hgn : M.1 g 0 = nI n) (hn7 : n ≤ 7) (hgt : M.1 g 1 = nI t) (ht2 : t ≤ 2) (hgl : M.1 g 3 = nI lc) (hlc : lc < 2 ^ 31) (hcn : lyN lc M cn) (hL : lyF lc o (o + 7)) (hgo : g + 5 < o ∨ o + 7 < g) (hw : w < 7) (hx : x < 7) : zC l G 2 yX3_spoken cX3_spoken 8 (Option.some Jvm.ClassFile.FieldType.int) [.ref o, .ref g, .int (nI r), .int (nI w), .int (nI x), .int tr] M (zP (some (.int (zval (kWh lc cn r w x tr M) (M.1 g 2)))) (kCnt o (kWh lc cn r w x tr M) M)) := by
  refine zC_of (by decide) (Nat.le_of_ble_eq_true rfl) (fun X Q hQ hX hl hR hr => ?_)
  refine zV_loc (L' := [.ref o, .ref g, .int (nI r), .int (nI w), .int (nI x), .int tr, .null, .null]) rfl ?_
  refine zV_aload_n hX dX3_spoken_0 rfl ?_
  refine zV_getp hX dX3_spoken_1 zf_X3_42 hG.1 rfl (hgl) hlc ?_
  refine zV_iload_n hX dX3_spoken_4 rfl ?_
  refine zV_iload_n hX dX3_spoken_5 rfl ?_
  refine zV_iload hX dX3_spoken_6 rfl ?_
  refine zV_iload_n hX dX3_spoken_8 rfl ?_
  refine zV_iload hX dX3_spoken_9 rfl ?_
  refine zV_cV5p hX hR hl dX3_spoken_11 (zc_said l G M lc w r x (cn w) (nI w) tr hL.1 hw (hcn w hw).1 (hcn w hw).2 hx) zt_X4_said rfl zml_X3_79 hL.1.1 ⟨by decide, by decide⟩ (Nat.le_of_ble_eq_true rfl) ?_
  dsimp only [Option.toList, List.cons_append, List.nil_append]
  refine zV_topl (zlo (kWh lc cn r w x tr M)) rfl ?_
  refine zV_lstore hX dX3_spoken_14 (by decide) ?_
  dsimp only [zst1, zst2, zclr, zc2]
  refine zV_aload_n hX dX3_spoken_16 rfl ?_
  refine zV_dup hX dX3_spoken_17 rfl ?_
  refine zV_geti hX dX3_spoken_18 zf_X3_27 hO.1 rfl rfl ?_
  refine zV_lload hX dX3_spoken_21 rfl ?_
  refine zV_ldc2 hX dX3_spoken_23 zkc_X3_83 ?_
  refine zV_lcmp hX dX3_spoken_26 ?_
  refine zV_if_ne hX (tgt := 34) dX3_spoken_27 (by decide) (fun c_27 => ?_) (fun c_27 => ?_)
  · have e1 : (if (kWh lc cn r w x tr M) = none then nI 0 else nI 1) = nI 1 := if_neg (fun q => c_27 ((zlo_m1 _).mpr q))
    refine zV_iconst hX (v := nI 1) dX3_spoken_34 (by decide) ?_
    refine zV_iadd hX dX3_spoken_35 ?_
    refine zV_puti hX dX3_spoken_36 zf_X3_27 zp_2_0 hO.1 rfl ?_
    refine zV_aload_n hX dX3_spoken_39 rfl ?_
    refine zV_dup hX dX3_spoken_40 rfl ?_
    refine zV_geti hX (x := M.1 o 1) dX3_spoken_41 zf_X3_31 hO.1 rfl (zw_ne (by omega)) ?_
    refine zV_lload hX dX3_spoken_44 rfl ?_
    refine zV_ldc2 hX dX3_spoken_46 zkc_X3_85 ?_
    refine zV_lcmp hX dX3_spoken_49 ?_
    refine zV_if_ne hX (tgt := 57) dX3_spoken_50 (by decide) (fun c_50 => ?_) (fun c_50 => ?_)
    · have e2 : (if (kWh lc cn r w x tr M) = some none then nI 1 else nI 0) = nI 0 := if_neg (fun q => c_50 ((zlo_m2 _).mpr q))
      refine zV_iconst hX (v := nI 0) dX3_spoken_57 (by decide) ?_
      refine zV_iadd hX dX3_spoken_58 ?_
      refine zV_puti hX dX3_spoken_59 zf_X3_31 zp_2_1 hO.1 rfl ?_
      refine zV_lload hX dX3_spoken_62 rfl ?_
      refine zV_lconst hX (v := 0) dX3_spoken_64 rfl ?_
      refine zV_lcmp hX dX3_spoken_65 ?_
      refine zV_if_ge hX (tgt := 76) dX3_spoken_66 (by decide) (fun c_66 => ?_) (fun c_66 => ?_)
      · obtain ⟨v9, hv9⟩ := zlo_ge2 c_66
        have e3 : zval (kWh lc cn r w x tr M) (M.1 g 2) = v9 := by rw [hv9]; rfl
        refine zV_lload hX dX3_spoken_76 rfl ?_
        refine zV_l2i hX dX3_spoken_78 ?_
        refine zV_topi v9 (by rw [hv9]; exact zlv_i v9) ?_
        exact zV_reti hX hQ hr (⟨by rw [e3], by rw [kCnt, e1, e2]⟩) dX3_spoken_79
      · have e3 : zval (kWh lc cn r w x tr M) (M.1 g 2) = M.1 g 2 := zval_no (zlo_lt2 c_66)
        refine zV_aload_n hX dX3_spoken_69 rfl ?_
        refine zV_geti hX (x := M.1 g 2) dX3_spoken_70 zf_X3_87 hG.1 rfl (by rw [zw_ne (by omega), zw_ne (by omega)]) ?_
        refine zV_goto hX (tgt := 79) dX3_spoken_73 (by decide) ?_
        exact zV_reti hX hQ hr (⟨by rw [e3], by rw [kCnt, e1, e2]⟩) dX3_spoken_79
    · have e2 : (if (kWh lc cn r w x tr M) = some none then nI 1 else nI 0) = nI 1 := if_pos ((zlo_m2 _).mp c_50)
      refine zV_iconst hX (v := nI 1) dX3_spoken_53 (by decide) ?_
      refine zV_goto hX (tgt := 58) dX3_spoken_54 (by decide) ?_
      refine zV_iadd hX dX3_spoken_58 ?_
      refine zV_puti hX dX3_spoken_59 zf_X3_31 zp_2_1 hO.1 rfl ?_
      refine zV_lload hX dX3_spoken_62 rfl ?_
      refine zV_lconst hX (v := 0) dX3_spoken_64 rfl ?_
      refine zV_lcmp hX dX3_spoken_65 ?_
      refine zV_if_ge hX (tgt := 76) dX3_spoken_66 (by decide) (fun c_66 => ?_) (fun c_66 => ?_)
      · obtain ⟨v9, hv9⟩ := zlo_ge2 c_66
        have e3 : zval (kWh lc cn r w x tr M) (M.1 g 2) = v9 := by rw [hv9]; rfl
        refine zV_lload hX dX3_spoken_76 rfl ?_
        refine zV_l2i hX dX3_spoken_78 ?_
        refine zV_topi v9 (by rw [hv9]; exact zlv_i v9) ?_
        exact zV_reti hX hQ hr (⟨by rw [e3], by rw [kCnt, e1, e2]⟩) dX3_spoken_79
      · have e3 : zval (kWh lc cn r w x tr M) (M.1 g 2) = M.1 g 2 := zval_no (zlo_lt2 c_66)
        refine zV_aload_n hX dX3_spoken_69 rfl ?_
        refine zV_geti hX (x := M.1 g 2) dX3_spoken_70 zf_X3_87 hG.1 rfl (by rw [zw_ne (by omega), zw_ne (by omega)]) ?_
        refine zV_goto hX (tgt := 79) dX3_spoken_73 (by decide) ?_
        exact zV_reti hX hQ hr (⟨by rw [e3], by rw [kCnt, e1, e2]⟩) dX3_spoken_79
  · have e1 : (if (kWh lc cn r w x tr M) = none then nI 0 else nI 1) = nI 0 := if_pos ((zlo_m1 _).mp c_27)
    refine zV_iconst hX (v := nI 0) dX3_spoken_30 (by decide) ?_
    refine zV_goto hX (tgt := 35) dX3_spoken_31 (by decide) ?_
    refine zV_iadd hX dX3_spoken_35 ?_
    refine zV_puti hX dX3_spoken_36 zf_X3_27 zp_2_0 hO.1 rfl ?_
    refine zV_aload_n hX dX3_spoken_39 rfl ?_
    refine zV_dup hX dX3_spoken_40 rfl ?_
    refine zV_geti hX (x := M.1 o 1) dX3_spoken_41 zf_X3_31 hO.1 rfl (zw_ne (by omega)) ?_
    refine zV_lload hX dX3_spoken_44 rfl ?_
    refine zV_ldc2 hX dX3_spoken_46 zkc_X3_85 ?_
    refine zV_lcmp hX dX3_spoken_49 ?_
    refine zV_if_ne hX (tgt := 57) dX3_spoken_50 (by decide) (fun c_50 => ?_) (fun c_50 => ?_)
    · have e2 : (if (kWh lc cn r w x tr M) = some none then nI 1 else nI 0) = nI 0 := if_neg (fun q => c_50 ((zlo_m2 _).mpr q))
      refine zV_iconst hX (v := nI 0) dX3_spoken_57 (by decide) ?_
      refine zV_iadd hX dX3_spoken_58 ?_
      refine zV_puti hX dX3_spoken_59 zf_X3_31 zp_2_1 hO.1 rfl ?_
      refine zV_lload hX dX3_spoken_62 rfl ?_
      refine zV_lconst hX (v := 0) dX3_spoken_64 rfl ?_
      refine zV_lcmp hX dX3_spoken_65 ?_
      refine zV_if_ge hX (tgt := 76) dX3_spoken_66 (by decide) (fun c_66 => ?_) (fun c_66 => ?_)
      · obtain ⟨v9, hv9⟩ := zlo_ge2 c_66
        have e3 : zval (kWh lc cn r w x tr M) (M.1 g 2) = v9 := by rw [hv9]; rfl
        refine zV_lload hX dX3_spoken_76 rfl ?_
        refine zV_l2i hX dX3_spoken_78 ?_
        refine zV_topi v9 (by rw [hv9]; exact zlv_i v9) ?_
        exact zV_reti hX hQ hr (⟨by rw [e3], by rw [kCnt, e1, e2]⟩) dX3_spoken_79
      · have e3 : zval (kWh lc cn r w x tr M) (M.1 g 2) = M.1 g 2 := zval_no (zlo_lt2 c_66)
        refine zV_aload_n hX dX3_spoken_69 rfl ?_
        refine zV_geti hX (x := M.1 g 2) dX3_spoken_70 zf_X3_87 hG.1 rfl (by rw [zw_ne (by omega), zw_ne (by omega)]) ?_
        refine zV_goto hX (tgt := 79) dX3_spoken_73 (by decide) ?_
        exact zV_reti hX hQ hr (⟨by rw [e3], by rw [kCnt, e1, e2]⟩) dX3_spoken_79
    · have e2 : (if (kWh lc cn r w x tr M) = some none then nI 1 else nI 0) = nI 1 := if_pos ((zlo_m2 _).mp c_50)
      refine zV_iconst hX (v := nI 1) dX3_spoken_53 (by decide) ?_
      refine zV_goto hX (tgt := 58) dX3_spoken_54 (by decide) ?_
      refine zV_iadd hX dX3_spoken_58 ?_
      refine zV_puti hX dX3_spoken_59 zf_X3_31 zp_2_1 hO.1 rfl ?_
      refine zV_lload hX dX3_spoken_62 rfl ?_
      refine zV_lconst hX (v := 0) dX3_spoken_64 rfl ?_
      refine zV_lcmp hX dX3_spoken_65 ?_
      refine zV_if_ge hX (tgt := 76) dX3_spoken_66 (by decide) (fun c_66 => ?_) (fun c_66 => ?_)
      · obtain ⟨v9, hv9⟩ := zlo_ge2 c_66
        have e3 : zval (kWh lc cn r w x tr M) (M.1 g 2) = v9 := by rw [hv9]; rfl
        refine zV_lload hX dX3_spoken_76 rfl ?_
        refine zV_l2i hX dX3_spoken_78 ?_
        refine zV_topi v9 (by rw [hv9]; exact zlv_i v9) ?_
        exact zV_reti hX hQ hr (⟨by rw [e3], by rw [kCnt, e1, e2]⟩) dX3_spoken_79
      · have e3 : zval (kWh lc cn r w x tr M) (M.1 g 2) = M.1 g 2 := zval_no (zlo_lt2 c_66)
        refine zV_aload_n hX dX3_spoken_69 rfl ?_
        refine zV_geti hX (x := M.1 g 2) dX3_spoken_70 zf_X3_87 hG.1 rfl (by rw [zw_ne (by omega), zw_ne (by omega)]) ?_
        refine zV_goto hX (tgt := 79) dX3_spoken_73 (by decide) ?_
        exact zV_reti hX hQ hr (⟨by rw [e3], by rw [kCnt, e1, e2]⟩) dX3_spoken_79
/-- KINGS at o: what is not its own stays -/
def kZ (lo hi : Nat) (M M' : zM) : Prop := ∀ a j, a < lo ∨ hi < a → M'.1 a j = M.1 a j
theorem kZ.rf {lo hi : Nat} {M : zM} : kZ lo hi M M := fun _ _ _ => rfl
theorem kZ.tr {lo hi : Nat} {M M1 M2 : zM} (h : kZ lo hi M M1) (h2 : kZ lo hi M1 M2) : kZ lo hi M M2 := fun a j q => (h2 a j q).trans (h a j q)
theorem kZ.w {lo hi : Nat} {M M1 : zM} {c k : Nat} {x : Int32} (h : kZ lo hi M M1) (hc : lo ≤ c ∧ c ≤ hi) : kZ lo hi M (zw M1 c k x) := fun a j q => (zw_ne (by omega)).trans (h a j q)
theorem kZ.for {lo hi : Nat} {f : Nat → zM → zM} (hf : ∀ i M, kZ lo hi M (f i M)) : ∀ (n : Nat) (M : zM), kZ lo hi M (zfor f n M)
  | 0, M => kZ.rf
  | n + 1, M => (kZ.for hf n M).tr (hf n _)
theorem kCnt_Z (o : Nat) (w : Option (Option Int32)) (M : zM) : kZ o (o + 7) M (kCnt o w M) := kZ.w (kZ.w kZ.rf (by omega)) (by omega)
theorem kCnt_at (o : Nat) (w : Option (Option Int32)) (M : zM) {a j : Nat} (h : a ≠ o) : (kCnt o w M).1 a j = M.1 a j := by unfold kCnt; rw [zw_ne (by omega), zw_ne (by omega)]
def kH1 (o g lc : Nat) (cn : Nat → Nat) (m s : Nat) (M : zM) : zM :=
  if s = m then zw M (o + 1 + 3) s (M.1 (o + 1 + 2) s) else zw (kCnt o (kWh lc cn 1 s m (M.1 (o + 1 + 2) s) M) M) (o + 1 + 3) s (zval (kWh lc cn 1 s m (M.1 (o + 1 + 2) s) M) (M.1 g 2))
theorem kH1_Z (o g lc : Nat) (cn : Nat → Nat) (m s : Nat) (M : zM) : kZ o (o + 7) M (kH1 o g lc cn m s M) := by
  unfold kH1
  split
  · exact kZ.w kZ.rf (by omega)
  · exact kZ.w (kCnt_Z o _ M) (by omega)
def kH (o g lc : Nat) (cn : Nat → Nat) (m k : Nat) (M : zM) : zM := zfor (kH1 o g lc cn m) k M
theorem kH_Z (o g lc : Nat) (cn : Nat → Nat) (m k : Nat) (M : zM) : kZ o (o + 7) M (kH o g lc cn m k M) := kZ.for (kH1_Z o g lc cn m) k M
def kMo (row : Nat → Int32) (n : Nat) : Nat := (zfm (fun i => zcnt (fun j => row j == row i) n) n).1
def kC1 (o g lc n : Nat) (cn : Nat → Nat) (m : Nat) (M : zM) : zM :=
  zw (zw (kH o g lc cn m n M) (o + 1 + 4) m ((kH o g lc cn m n M).1 (o + 1 + 3) (kMo ((kH o g lc cn m n M).1 (o + 1 + 3)) n))) (o + 1 + 5) m (nI (zcnt (fun j => (kH o g lc cn m n M).1 (o + 1 + 3) j == (kH o g lc cn m n M).1 (o + 1 + 3) (kMo ((kH o g lc cn m n M).1 (o + 1 + 3)) n)) n))
theorem kC1_Z (o g lc n : Nat) (cn : Nat → Nat) (m : Nat) (M : zM) : kZ o (o + 7) M (kC1 o g lc n cn m M) := kZ.w (kZ.w (kH_Z o g lc cn m n M) (by omega)) (by omega)
def kC (o g lc n : Nat) (cn : Nat → Nat) (k : Nat) (M : zM) : zM := zfor (kC1 o g lc n cn) k M
theorem kC_Z (o g lc n : Nat) (cn : Nat → Nat) (k : Nat) (M : zM) : kZ o (o + 7) M (kC o g lc n cn k M) := kZ.for (kC1_Z o g lc n cn) k M
theorem kMo_7 {row : Nat → Int32} {n : Nat} (h : n ≤ 7) : kMo row n < 7 := zfm_7 h
set_option maxRecDepth 4000 in
set_option maxHeartbeats 1000000 in
theorem zc_countAll (l : Launch) (G : zG) (M : zM) (o g lc n t : Nat) (cn : Nat → Nat) (hO : zOb 2 o) (hG : zOb 1 g) (hgn : M.1 g 0 = nI n) (hn7 : n ≤ 7) (hgt : M.1 g 1 = nI t) (ht2 : t ≤ 2) (hgl : M.1 g 3 = nI lc) (hlc : lc < 2 ^ 31) (hcn : lyN lc M cn) (hL : lyF lc o (o + 7)) (hgo : g + 5 < o ∨ o + 7 < g) : zC l G 3 yX3_countAll cX3_countAll 4 (Option.none : Option Jvm.ClassFile.FieldType) [.ref o, .ref g] M (zP none (kC o g lc n cn n M)) := by
  refine zC_of (by decide) (Nat.le_of_ble_eq_true rfl) (fun X Q hQ hX hl hR hr => ?_)
  refine zV_loc (L' := [.ref o, .ref g, .null, .null]) rfl ?_
  have L2 : ∀ (f9 m : Nat) (v1 : Value), n - m < f9 → m ≤ n → zV G X Q 4 0 0 2 [.ref o, .ref g, .int (nI m), v1] [] (kC o g lc n cn m M) := by
    intro f9
    induction f9 with
    | zero => intro m v1 hm1 hm2; exact absurd hm1 (Nat.not_lt_zero _)
    | succ f9 ih =>
      intro m v1 hm1 hm2
      have L12 : m < n → ∀ (f9 s : Nat), n - s < f9 → s ≤ n → zV G X Q 4 0 0 12 [.ref o, .ref g, .int (nI m), .int (nI s)] [] (kH o g lc cn m s (kC o g lc n cn m M)) := by
        intro hmn
        intro f9
        induction f9 with
        | zero => intro s hj1 hj2; exact absurd hj1 (Nat.not_lt_zero _)
        | succ f9 ih2 =>
          intro s hj1 hj2
          have hZ := (kC_Z o g lc n cn m M).tr (kH_Z o g lc cn m s (kC o g lc n cn m M))
          refine zV_iload_n hX dX3_countAll_12 rfl ?_
          refine zV_aload_n hX dX3_countAll_13 rfl ?_
          refine zV_geti hX dX3_countAll_14 zf_X3_39 hG.1 rfl (by rw [hZ _ _ (by omega), hgn]) ?_
          refine zV_icmp_geN hX (tgt := 60) dX3_countAll_17 (by decide) ⟨by omega, by omega⟩ (fun c_17 => ?_) (fun c_17 => ?_)
          · rw [show s = n by omega]
            have hZ := (kC_Z o g lc n cn m M).tr (kH_Z o g lc cn m n (kC o g lc n cn m M))
            refine zV_aload_n hX dX3_countAll_60 rfl ?_
            refine zV_geta hX dX3_countAll_61 zf_X3_15 hO.1 rfl ?_
            refine zV_aload_n hX dX3_countAll_64 rfl ?_
            refine zV_geti hX dX3_countAll_65 zf_X3_39 hG.1 rfl (by rw [hZ _ _ (by omega), hgn]) ?_
            refine zV_cS2p hX hR hl dX3_countAll_68 (zc_firstOfMost l G _ (o + 1 + 3) 7 n (hO.a 3 rfl) (by decide) hn7) zt_X9_firstOfMost rfl zml_X3_68 (by decide) (Nat.le_of_ble_eq_true rfl) ?_
            dsimp only [Option.toList, List.cons_append, List.nil_append]
            refine zV_istore_n hX dX3_countAll_71 (by decide) ?_
            dsimp only [zst1, zst2, zclr, zc2]
            refine zV_aload_n hX dX3_countAll_72 rfl ?_
            refine zV_geta hX dX3_countAll_73 zf_X3_18 hO.1 rfl ?_
            refine zV_iload_n hX dX3_countAll_76 rfl ?_
            refine zV_aload_n hX dX3_countAll_77 rfl ?_
            refine zV_geta hX dX3_countAll_78 zf_X3_15 hO.1 rfl ?_
            refine zV_iload_n hX dX3_countAll_81 rfl ?_
            refine zV_iald hX dX3_countAll_82 (hO.a 3 rfl) (rfl) ⟨kMo_7 hn7, by omega⟩ (rfl) ?_
            refine zV_iast hX dX3_countAll_83 (hO.a 4 rfl) (rfl) ⟨by omega, by omega⟩ ?_
            refine zV_aload_n hX dX3_countAll_84 rfl ?_
            refine zV_geta hX dX3_countAll_85 zf_X3_21 hO.1 rfl ?_
            refine zV_iload_n hX dX3_countAll_88 rfl ?_
            refine zV_aload_n hX dX3_countAll_89 rfl ?_
            refine zV_geta hX dX3_countAll_90 zf_X3_15 hO.1 rfl ?_
            refine zV_iconst hX (v := nI 0) dX3_countAll_93 (by decide) ?_
            refine zV_aload_n hX dX3_countAll_94 rfl ?_
            refine zV_geti hX dX3_countAll_95 zf_X3_39 hG.1 rfl (by rw [zw_ne (by omega), hZ _ _ (by omega), hgn]) ?_
            refine zV_aload_n hX dX3_countAll_98 rfl ?_
            refine zV_geta hX dX3_countAll_99 zf_X3_15 hO.1 rfl ?_
            refine zV_iload_n hX dX3_countAll_102 rfl ?_
            refine zV_iald hX (v := (kH o g lc cn m n (kC o g lc n cn m M)).1 (o + 1 + 3) (kMo ((kH o g lc cn m n (kC o g lc n cn m M)).1 (o + 1 + 3)) n)) dX3_countAll_103 (hO.a 3 rfl) (rfl) ⟨kMo_7 hn7, by omega⟩ (zw_ne (by omega)) ?_
            refine zV_cS4p hX hR hl dX3_countAll_104 (zc_alike l G _ (o + 1 + 3) 7 0 n _ (hO.a 3 rfl) (by decide) (by omega)) zt_X9_alike rfl zml_X3_72 (by decide) (Nat.le_of_ble_eq_true rfl) ?_
            dsimp only [Option.toList, List.cons_append, List.nil_append]
            refine zV_topi (nI (zcnt (fun j => (kH o g lc cn m n (kC o g lc n cn m M)).1 (o + 1 + 3) j == (kH o g lc cn m n (kC o g lc n cn m M)).1 (o + 1 + 3) (kMo ((kH o g lc cn m n (kC o g lc n cn m M)).1 (o + 1 + 3)) n)) n)) (by congr 2; funext j; rw [zw_ne (by omega)]; rfl) ?_
            refine zV_iast hX dX3_countAll_107 (hO.a 5 rfl) (rfl) ⟨by omega, by omega⟩ ?_
            refine zV_iincN hX (b := 1) dX3_countAll_108 rfl (by decide) ?_
            dsimp only [zst1, zst2, zclr, zc2]
            refine zV_goto hX (tgt := 2) dX3_countAll_111 (by decide) ?_
            exact ih (m + 1) _ (by omega) (by omega)
          · refine zV_aload_n hX dX3_countAll_20 rfl ?_
            refine zV_geta hX dX3_countAll_21 zf_X3_15 hO.1 rfl ?_
            refine zV_iload_n hX dX3_countAll_24 rfl ?_
            refine zV_iload_n hX dX3_countAll_25 rfl ?_
            refine zV_iload_n hX dX3_countAll_26 rfl ?_
            refine zV_icmp_neN hX (tgt := 39) dX3_countAll_27 (by decide) ⟨by omega, by omega⟩ (fun c_27 => ?_) (fun c_27 => ?_)
            · have e9 : kH1 o g lc cn m s (kH o g lc cn m s (kC o g lc n cn m M)) = zw (kCnt o (kWh lc cn 1 s m ((kH o g lc cn m s (kC o g lc n cn m M)).1 (o + 1 + 2) s) (kH o g lc cn m s (kC o g lc n cn m M))) (kH o g lc cn m s (kC o g lc n cn m M))) (o + 1 + 3) s (zval (kWh lc cn 1 s m ((kH o g lc cn m s (kC o g lc n cn m M)).1 (o + 1 + 2) s) (kH o g lc cn m s (kC o g lc n cn m M))) ((kH o g lc cn m s (kC o g lc n cn m M)).1 g 2)) := if_neg c_27
              refine zV_aload_n hX dX3_countAll_39 rfl ?_
              refine zV_aload_n hX dX3_countAll_40 rfl ?_
              refine zV_iconst hX (v := nI 1) dX3_countAll_41 (by decide) ?_
              refine zV_iload_n hX dX3_countAll_42 rfl ?_
              refine zV_iload_n hX dX3_countAll_43 rfl ?_
              refine zV_aload_n hX dX3_countAll_44 rfl ?_
              refine zV_geta hX dX3_countAll_45 zf_X3_9 hO.1 rfl ?_
              refine zV_iload_n hX dX3_countAll_48 rfl ?_
              refine zV_iald hX dX3_countAll_49 (hO.a 2 rfl) (rfl) ⟨by omega, by omega⟩ (rfl) ?_
              refine zV_cV5p hX hR hl dX3_countAll_50 (zc_kspoken l G _ o g lc n t 1 s m cn _ hO hG (by rw [hZ _ _ (by omega), hgn]) hn7 (by rw [hZ _ _ (by omega), hgt]) ht2 (by rw [hZ _ _ (by omega), hgl]) hlc (fun m hm => by rw [hZ _ _ (by have := hL.2 2 (by omega); omega)]; exact hcn m hm) hL hgo (by omega) (by omega)) zt_X3_spoken rfl zml_X3_64 hO.1 ⟨by decide, by decide⟩ (Nat.le_of_ble_eq_true rfl) ?_
              dsimp only [Option.toList, List.cons_append, List.nil_append]
              refine zV_iast hX dX3_countAll_53 (hO.a 3 rfl) (rfl) ⟨by omega, by omega⟩ ?_
              refine zV_iincN hX (b := 1) dX3_countAll_54 rfl (by decide) ?_
              dsimp only [zst1, zst2, zclr, zc2]
              refine zV_goto hX (tgt := 12) dX3_countAll_57 (by decide) ?_
              have h9 := ih2 (s + 1) (by omega) (by omega)
              rw [show kH o g lc cn m (s + 1) (kC o g lc n cn m M) = kH1 o g lc cn m s (kH o g lc cn m s (kC o g lc n cn m M)) from rfl, e9] at h9
              exact h9
            · have e9 : kH1 o g lc cn m s (kH o g lc cn m s (kC o g lc n cn m M)) = zw (kH o g lc cn m s (kC o g lc n cn m M)) (o + 1 + 3) s ((kH o g lc cn m s (kC o g lc n cn m M)).1 (o + 1 + 2) s) := if_pos c_27
              refine zV_aload_n hX dX3_countAll_30 rfl ?_
              refine zV_geta hX dX3_countAll_31 zf_X3_9 hO.1 rfl ?_
              refine zV_iload_n hX dX3_countAll_34 rfl ?_
              refine zV_iald hX dX3_countAll_35 (hO.a 2 rfl) (rfl) ⟨by omega, by omega⟩ (rfl) ?_
              refine zV_goto hX (tgt := 53) dX3_countAll_36 (by decide) ?_
              refine zV_iast hX dX3_countAll_53 (hO.a 3 rfl) (rfl) ⟨by omega, by omega⟩ ?_
              refine zV_iincN hX (b := 1) dX3_countAll_54 rfl (by decide) ?_
              dsimp only [zst1, zst2, zclr, zc2]
              refine zV_goto hX (tgt := 12) dX3_countAll_57 (by decide) ?_
              have h9 := ih2 (s + 1) (by omega) (by omega)
              rw [show kH o g lc cn m (s + 1) (kC o g lc n cn m M) = kH1 o g lc cn m s (kH o g lc cn m s (kC o g lc n cn m M)) from rfl, e9] at h9
              exact h9
      refine zV_iload_n hX dX3_countAll_2 rfl ?_
      refine zV_aload_n hX dX3_countAll_3 rfl ?_
      refine zV_geti hX dX3_countAll_4 zf_X3_39 hG.1 rfl (by rw [kC_Z o g lc n cn m M _ _ (by omega), hgn]) ?_
      refine zV_icmp_geN hX (tgt := 114) dX3_countAll_7 (by decide) ⟨by omega, by omega⟩ (fun c_7 => ?_) (fun c_7 => ?_)
      · exact zV_retv hX hQ hr (⟨rfl, by rw [show m = n by omega]⟩) dX3_countAll_114
      · refine zV_iconst hX (v := nI 0) dX3_countAll_10 (by decide) ?_
        refine zV_istore_n hX dX3_countAll_11 (by decide) ?_
        dsimp only [zst1, zst2, zclr, zc2]
        exact L12 (by omega) (n + 1) 0 (by omega) (by omega)
  refine zV_iconst hX (v := nI 0) dX3_countAll_0 (by decide) ?_
  refine zV_istore_n hX dX3_countAll_1 (by decide) ?_
  dsimp only [zst1, zst2, zclr, zc2]
  exact L2 (n + 1) 0 _ (by omega) (by omega)
def kF1 (o g lc n t : Nat) (cn : Nat → Nat) (kg m : Nat) (M : zM) : zM :=
  if m = kg then zw M (o + 1 + 2) m (if nI (n / 2 + t) < M.1 (o + 1 + 5) m then M.1 (o + 1 + 4) m else M.1 (o + 1 + 4) kg)
  else zw (kCnt o (kWh lc cn 2 kg m (M.1 (o + 1 + 4) kg) M) M) (o + 1 + 2) m (if nI (n / 2 + t) < M.1 (o + 1 + 5) m then M.1 (o + 1 + 4) m else zval (kWh lc cn 2 kg m (M.1 (o + 1 + 4) kg) M) (M.1 g 2))
theorem kF1_Z (o g lc n t : Nat) (cn : Nat → Nat) (kg m : Nat) (M : zM) : kZ o (o + 7) M (kF1 o g lc n t cn kg m M) := by
  unfold kF1
  split
  · exact kZ.w kZ.rf (by omega)
  · exact kZ.w (kCnt_Z o _ M) (by omega)
def kF (o g lc n t : Nat) (cn : Nat → Nat) (kg k : Nat) (M : zM) : zM := zfor (kF1 o g lc n t cn kg) k M
theorem kF_Z (o g lc n t : Nat) (cn : Nat → Nat) (kg k : Nat) (M : zM) : kZ o (o + 7) M (kF o g lc n t cn kg k M) := kZ.for (kF1_Z o g lc n t cn kg) k M
set_option maxRecDepth 4000 in
set_option maxHeartbeats 1000000 in
theorem zc_followKing (l : Launch) (G : zG) (M : zM) (o g lc n t kg : Nat) (cn : Nat → Nat) (hO : zOb 2 o) (hG : zOb 1 g) (hgn : M.1 g 0 = nI n) (hn7 : n ≤ 7) (hgt : M.1 g 1 = nI t) (ht2 : t ≤ 2) (hgl : M.1 g 3 = nI lc) (hlc : lc < 2 ^ 31) (hcn : lyN lc M cn) (hL : lyF lc o (o + 7)) (hgo : g + 5 < o ∨ o + 7 < g) (hkg : kg < 7) : zC l G 3 yX3_followKing cX3_followKing 6 (Option.none : Option Jvm.ClassFile.FieldType) [.ref o, .ref g, .int (nI kg)] M (zP none (kF o g lc n t cn kg n M)) := by
  refine zC_of (by decide) (Nat.le_of_ble_eq_true rfl) (fun X Q hQ hX hl hR hr => ?_)
  refine zV_loc (L' := [.ref o, .ref g, .int (nI kg), .null, .null, .null]) rfl ?_
  have L2 : ∀ (f9 m : Nat) (v1 v2 : Value), n - m < f9 → m ≤ n → zV G X Q 6 0 0 2 [.ref o, .ref g, .int (nI kg), .int (nI m), v1, v2] [] (kF o g lc n t cn kg m M) := by
    intro f9
    induction f9 with
    | zero => intro m v1 v2 hm1 hm2; exact absurd hm1 (Nat.not_lt_zero _)
    | succ f9 ih =>
      intro m v1 v2 hm1 hm2
      have hZ := kF_Z o g lc n t cn kg m M
      have J38 : m < n → ∀ (x : Int32) (v1 v2 : Value) (M9 : zM), kF1 o g lc n t cn kg m (kF o g lc n t cn kg m M) = zw M9 (o + 1 + 2) m (if nI (n / 2 + t) < (kF o g lc n t cn kg m M).1 (o + 1 + 5) m then (kF o g lc n t cn kg m M).1 (o + 1 + 4) m else x) → kZ o (o + 7) M M9 → (∀ a j, a ≠ o → M9.1 a j = (kF o g lc n t cn kg m M).1 a j) → zV G X Q 6 0 0 38 [.ref o, .ref g, .int (nI kg), .int (nI m), v1, v2] [.int x] M9 := by
        intro hmn x v1 v2 M9 e9 hZ hA
        refine zV_istore hX dX3_followKing_38 (by decide) ?_
        dsimp only [zst1, zst2, zclr, zc2]
        refine zV_aload_n hX dX3_followKing_40 rfl ?_
        refine zV_geta hX dX3_followKing_41 zf_X3_21 hO.1 rfl ?_
        refine zV_iload_n hX dX3_followKing_44 rfl ?_
        refine zV_iald hX (v := (kF o g lc n t cn kg m M).1 (o + 1 + 5) m) dX3_followKing_45 (hO.a 5 rfl) (rfl) ⟨by omega, by omega⟩ (hA _ _ (by omega)) ?_
        refine zV_aload_n hX dX3_followKing_46 rfl ?_
        refine zV_geti hX dX3_followKing_47 zf_X3_39 hG.1 rfl (by rw [hZ _ _ (by omega), hgn]) ?_
        refine zV_iconst hX (v := nI 2) dX3_followKing_50 (by decide) ?_
        refine zV_idivN hX dX3_followKing_51 ⟨by omega, by decide, by decide⟩ ?_
        refine zV_aload_n hX dX3_followKing_52 rfl ?_
        refine zV_geti hX dX3_followKing_53 zf_X3_76 hG.1 rfl (by rw [hZ _ _ (by omega), hgt]) ?_
        refine zV_iaddN hX dX3_followKing_56 ?_
        refine zV_icmp_le hX (tgt := 64) dX3_followKing_57 (by decide) (fun c_57 => ?_) (fun c_57 => ?_)
        · rw [if_neg (Int32.not_lt.mpr c_57)] at e9
          refine zV_iconst hX (v := nI 0) dX3_followKing_64 (by decide) ?_
          refine zV_topi (zb false) rfl ?_
          refine zV_istore hX dX3_followKing_65 (by decide) ?_
          dsimp only [zst1, zst2, zclr, zc2]
          refine zV_aload_n hX dX3_followKing_67 rfl ?_
          refine zV_geta hX dX3_followKing_68 zf_X3_9 hO.1 rfl ?_
          refine zV_iload_n hX dX3_followKing_71 rfl ?_
          refine zV_iload hX dX3_followKing_72 rfl ?_
          refine zV_if_eqB hX (tgt := 86) dX3_followKing_74 (by decide) (fun c_74 => ?_) (fun c_74 => absurd c_74 (by decide))
          refine zV_iload hX dX3_followKing_86 rfl ?_
          refine zV_iast hX dX3_followKing_88 (hO.a 2 rfl) (rfl) ⟨by omega, by omega⟩ ?_
          refine zV_iincN hX (b := 1) dX3_followKing_89 rfl (by decide) ?_
          dsimp only [zst1, zst2, zclr, zc2]
          refine zV_goto hX (tgt := 2) dX3_followKing_92 (by decide) ?_
          have h9 := fun v1 v2 => ih (m + 1) v1 v2 (by omega) (by omega)
          simp only [show kF o g lc n t cn kg (m + 1) M = kF1 o g lc n t cn kg m (kF o g lc n t cn kg m M) from rfl, e9] at h9
          exact h9 _ _
        · rw [if_pos (Int32.not_le.mp c_57)] at e9
          refine zV_iconst hX (v := nI 1) dX3_followKing_60 (by decide) ?_
          refine zV_topi (zb true) rfl ?_
          refine zV_goto hX (tgt := 65) dX3_followKing_61 (by decide) ?_
          refine zV_istore hX dX3_followKing_65 (by decide) ?_
          dsimp only [zst1, zst2, zclr, zc2]
          refine zV_aload_n hX dX3_followKing_67 rfl ?_
          refine zV_geta hX dX3_followKing_68 zf_X3_9 hO.1 rfl ?_
          refine zV_iload_n hX dX3_followKing_71 rfl ?_
          refine zV_iload hX dX3_followKing_72 rfl ?_
          refine zV_if_eqB hX (tgt := 86) dX3_followKing_74 (by decide) (fun c_74 => absurd c_74 (by decide)) (fun c_74 => ?_)
          refine zV_aload_n hX dX3_followKing_77 rfl ?_
          refine zV_geta hX dX3_followKing_78 zf_X3_18 hO.1 rfl ?_
          refine zV_iload_n hX dX3_followKing_81 rfl ?_
          refine zV_iald hX (v := (kF o g lc n t cn kg m M).1 (o + 1 + 4) m) dX3_followKing_82 (hO.a 4 rfl) (rfl) ⟨by omega, by omega⟩ (hA _ _ (by omega)) ?_
          refine zV_goto hX (tgt := 88) dX3_followKing_83 (by decide) ?_
          refine zV_iast hX dX3_followKing_88 (hO.a 2 rfl) (rfl) ⟨by omega, by omega⟩ ?_
          refine zV_iincN hX (b := 1) dX3_followKing_89 rfl (by decide) ?_
          dsimp only [zst1, zst2, zclr, zc2]
          refine zV_goto hX (tgt := 2) dX3_followKing_92 (by decide) ?_
          have h9 := fun v1 v2 => ih (m + 1) v1 v2 (by omega) (by omega)
          simp only [show kF o g lc n t cn kg (m + 1) M = kF1 o g lc n t cn kg m (kF o g lc n t cn kg m M) from rfl, e9] at h9
          exact h9 _ _
      refine zV_iload_n hX dX3_followKing_2 rfl ?_
      refine zV_aload_n hX dX3_followKing_3 rfl ?_
      refine zV_geti hX dX3_followKing_4 zf_X3_39 hG.1 rfl (by rw [hZ _ _ (by omega), hgn]) ?_
      refine zV_icmp_geN hX (tgt := 95) dX3_followKing_7 (by decide) ⟨by omega, by omega⟩ (fun c_7 => ?_) (fun c_7 => ?_)
      · exact zV_retv hX hQ hr (⟨rfl, by rw [show m = n by omega]⟩) dX3_followKing_95
      · have hmn : m < n := by omega
        refine zV_iload_n hX dX3_followKing_10 rfl ?_
        refine zV_iload_n hX dX3_followKing_11 rfl ?_
        refine zV_icmp_neN hX (tgt := 24) dX3_followKing_12 (by decide) ⟨by omega, by omega⟩ (fun c_12 => ?_) (fun c_12 => ?_)
        · refine zV_aload_n hX dX3_followKing_24 rfl ?_
          refine zV_aload_n hX dX3_followKing_25 rfl ?_
          refine zV_iconst hX (v := nI 2) dX3_followKing_26 (by decide) ?_
          refine zV_iload_n hX dX3_followKing_27 rfl ?_
          refine zV_iload_n hX dX3_followKing_28 rfl ?_
          refine zV_aload_n hX dX3_followKing_29 rfl ?_
          refine zV_geta hX dX3_followKing_30 zf_X3_18 hO.1 rfl ?_
          refine zV_iload_n hX dX3_followKing_33 rfl ?_
          refine zV_iald hX dX3_followKing_34 (hO.a 4 rfl) (rfl) ⟨by omega, by omega⟩ (rfl) ?_
          refine zV_cV5p hX hR hl dX3_followKing_35 (zc_kspoken l G _ o g lc n t 2 kg m cn _ hO hG (by rw [hZ _ _ (by omega), hgn]) hn7 (by rw [hZ _ _ (by omega), hgt]) ht2 (by rw [hZ _ _ (by omega), hgl]) hlc (fun m hm => by rw [hZ _ _ (by have := hL.2 2 (by omega); omega)]; exact hcn m hm) hL hgo hkg (by omega)) zt_X3_spoken rfl zml_X3_64 hO.1 ⟨by decide, by decide⟩ (Nat.le_of_ble_eq_true rfl) ?_
          dsimp only [Option.toList, List.cons_append, List.nil_append]
          first | exact J38 hmn _ _ _ _ (if_pos c_12) hZ (fun _ _ _ => rfl) | exact J38 hmn _ _ _ _ (if_neg c_12) (hZ.tr (kCnt_Z o _ _)) (fun a j ha => kCnt_at o _ _ ha)
        · refine zV_aload_n hX dX3_followKing_15 rfl ?_
          refine zV_geta hX dX3_followKing_16 zf_X3_18 hO.1 rfl ?_
          refine zV_iload_n hX dX3_followKing_19 rfl ?_
          refine zV_iald hX dX3_followKing_20 (hO.a 4 rfl) (rfl) ⟨by omega, by omega⟩ (rfl) ?_
          refine zV_goto hX (tgt := 38) dX3_followKing_21 (by decide) ?_
          first | exact J38 hmn _ _ _ _ (if_pos c_12) hZ (fun _ _ _ => rfl) | exact J38 hmn _ _ _ _ (if_neg c_12) (hZ.tr (kCnt_Z o _ _)) (fun a j ha => kCnt_at o _ _ ha)
  refine zV_iconst hX (v := nI 0) dX3_followKing_0 (by decide) ?_
  refine zV_istore_n hX dX3_followKing_1 (by decide) ?_
  dsimp only [zst1, zst2, zclr, zc2]
  exact L2 (n + 1) 0 _ _ (by omega) (by omega)
def kUn (o lc n i : Nat) (M : zM) : zM := zw M (o + 1 + 6) i (nI (zunl (M.1 (o + 1 + 2)) (M.1 lc 0) n))
def kH0 (o g : Nat) (k : Nat) (M : zM) : zM := zfor (fun i M => zw M (o + 1 + 2) i (M.1 (g + 1 + 4) i)) k (zw (zw M o 0 (nI 0)) o 1 (nI 0))
def kPh (o g lc n t : Nat) (cn : Nat → Nat) (i : Nat) (M : zM) : zM := kUn o lc n (i + 1) (kF o g lc n t cn i n (kC o g lc n cn n M))
def kP (o g lc n t : Nat) (cn : Nat → Nat) (k : Nat) (M : zM) : zM := zfor (kPh o g lc n t cn) k (kUn o lc n 0 (kH0 o g 7 M))
theorem kH0_Z (o g k : Nat) (M : zM) : kZ o (o + 7) M (kH0 o g k M) := (kZ.w (kZ.w kZ.rf (by omega)) (by omega)).tr (kZ.for (fun i M => kZ.w kZ.rf (by omega)) k _)
theorem kUn_Z (o lc n i : Nat) (M : zM) : kZ o (o + 7) M (kUn o lc n i M) := kZ.w kZ.rf (by omega)
theorem kPh_Z (o g lc n t : Nat) (cn : Nat → Nat) (i : Nat) (M : zM) : kZ o (o + 7) M (kPh o g lc n t cn i M) := ((kC_Z o g lc n cn n M).tr (kF_Z o g lc n t cn i n _)).tr (kUn_Z o lc n _ _)
theorem kP_Z (o g lc n t : Nat) (cn : Nat → Nat) (k : Nat) (M : zM) : kZ o (o + 7) M (kP o g lc n t cn k M) := ((kH0_Z o g 7 M).tr (kUn_Z o lc n 0 _)).tr (kZ.for (kPh_Z o g lc n t cn) k _)
set_option maxRecDepth 4000 in
set_option maxHeartbeats 1000000 in
theorem zc_kplay (l : Launch) (G : zG) (M : zM) (o g lc n t ph : Nat) (cn : Nat → Nat) (hO : zOb 2 o) (hG : zOb 1 g) (hgn : M.1 g 0 = nI n) (hn7 : n ≤ 7) (hgt : M.1 g 1 = nI t) (ht2 : t ≤ 2) (hgl : M.1 g 3 = nI lc) (hlc : lc < 2 ^ 31) (hcn : lyN lc M cn) (hL : lyF lc o (o + 7)) (hgo : g + 5 < o ∨ o + 7 < g) (hph : ph ≤ 3) : zC l G 4 yX3_play cX3_play 4 (Option.none : Option Jvm.ClassFile.FieldType) [.ref o, .ref g, .int (nI ph)] M (zP none (kP o g lc n t cn ph M)) := by
  refine zC_of (by decide) (Nat.le_of_ble_eq_true rfl) (fun X Q hQ hX hl hR hr => ?_)
  refine zV_loc (L' := [.ref o, .ref g, .int (nI ph), .null]) rfl ?_
  have L62 : ∀ (f9 k : Nat), ph - k < f9 → k ≤ ph → zV G X Q 4 0 0 62 [.ref o, .ref g, .int (nI ph), .int (nI k)] [] (kP o g lc n t cn k M) := by
    intro f9
    induction f9 with
    | zero => intro k hk1 hk2; exact absurd hk1 (Nat.not_lt_zero _)
    | succ f9 ih =>
      intro k hk1 hk2
      have hZ := kP_Z o g lc n t cn k M
      refine zV_iload_n hX dX3_play_62 rfl ?_
      refine zV_iload_n hX dX3_play_63 rfl ?_
      refine zV_icmp_geN hX (tgt := 115) dX3_play_64 (by decide) ⟨by omega, by omega⟩ (fun c_64 => ?_) (fun c_64 => ?_)
      · exact zV_retv hX hQ hr (⟨rfl, by rw [show k = ph by omega]⟩) dX3_play_115
      · refine zV_iload_n hX dX3_play_67 rfl ?_
        refine zV_iconst hX (v := nI 3) dX3_play_68 (by decide) ?_
        refine zV_icmp_geN hX (tgt := 115) dX3_play_69 (by decide) ⟨by omega, by omega⟩ (fun c_69 => absurd c_69 (by omega)) (fun c_69 => ?_)
        refine zV_aload_n hX dX3_play_72 rfl ?_
        refine zV_aload_n hX dX3_play_73 rfl ?_
        refine zV_cV1p hX hR hl dX3_play_74 (zc_countAll l G _ o g lc n t cn hO hG (by rw [hZ _ _ (by omega), hgn]) hn7 (by rw [hZ _ _ (by omega), hgt]) ht2 (by rw [hZ _ _ (by omega), hgl]) hlc (fun m hm => by rw [hZ _ _ (by have := hL.2 2 (by omega); omega)]; exact hcn m hm) hL hgo) zt_X3_countAll rfl zml_X3_56 hO.1 ⟨by decide, by decide⟩ (Nat.le_of_ble_eq_true rfl) ?_
        dsimp only [Option.toList, List.cons_append, List.nil_append]
        refine zV_aload_n hX dX3_play_77 rfl ?_
        refine zV_aload_n hX dX3_play_78 rfl ?_
        refine zV_iload_n hX dX3_play_79 rfl ?_
        have hZ2 := hZ.tr (kC_Z o g lc n cn n _)
        refine zV_cV2p hX hR hl dX3_play_80 (zc_followKing l G _ o g lc n t k cn hO hG (by rw [hZ2 _ _ (by omega), hgn]) hn7 (by rw [hZ2 _ _ (by omega), hgt]) ht2 (by rw [hZ2 _ _ (by omega), hgl]) hlc (fun m hm => by rw [hZ2 _ _ (by have := hL.2 2 (by omega); omega)]; exact hcn m hm) hL hgo (by omega)) zt_X3_followKing rfl zml_X3_60 hO.1 ⟨by decide, by decide⟩ (Nat.le_of_ble_eq_true rfl) ?_
        dsimp only [Option.toList, List.cons_append, List.nil_append]
        have hZ3 := hZ2.tr (kF_Z o g lc n t cn k n _)
        refine zV_aload_n hX dX3_play_83 rfl ?_
        refine zV_geta hX dX3_play_84 zf_X3_24 hO.1 rfl ?_
        refine zV_iload_n hX dX3_play_87 rfl ?_
        refine zV_iconst hX (v := nI 1) dX3_play_88 (by decide) ?_
        refine zV_iaddN hX dX3_play_89 ?_
        refine zV_aload_n hX dX3_play_90 rfl ?_
        refine zV_geta hX dX3_play_91 zf_X3_9 hO.1 rfl ?_
        refine zV_aload_n hX dX3_play_94 rfl ?_
        refine zV_geti hX dX3_play_95 zf_X3_39 hG.1 rfl (by rw [hZ3 _ _ (by omega), hgn]) ?_
        refine zV_aload_n hX dX3_play_98 rfl ?_
        refine zV_getp hX dX3_play_99 zf_X3_42 hG.1 rfl (by rw [hZ3 _ _ (by omega), hgl]) hlc ?_
        refine zV_geti hX dX3_play_102 zf_X3_46 hL.1.1 rfl rfl ?_
        refine zV_cS3p hX hR hl dX3_play_105 (zc_unlike l G _ (o + 1 + 2) 7 n _ (hO.a 2 rfl) (by decide) hn7) zt_X9_unlike rfl zml_X3_51 (by decide) (Nat.le_of_ble_eq_true rfl) ?_
        dsimp only [Option.toList, List.cons_append, List.nil_append]
        refine zV_iast hX dX3_play_108 (hO.a 6 rfl) (rfl) ⟨by omega, by omega⟩ ?_
        refine zV_iincN hX (b := 1) dX3_play_109 rfl (by decide) ?_
        dsimp only [zst1, zst2, zclr, zc2]
        refine zV_goto hX (tgt := 62) dX3_play_112 (by decide) ?_
        exact ih (k + 1) (by omega) (by omega)
  have L12 : ∀ (f9 k : Nat), 7 - k < f9 → k ≤ 7 → zV G X Q 4 0 0 12 [.ref o, .ref g, .int (nI ph), .int (nI k)] [] (kH0 o g k M) := by
    intro f9
    induction f9 with
    | zero => intro k hk1 hk2; exact absurd hk1 (Nat.not_lt_zero _)
    | succ f9 ih =>
      intro k hk1 hk2
      refine zV_iload_n hX dX3_play_12 rfl ?_
      refine zV_bipush hX (v := nI 7) dX3_play_13 (by decide) ?_
      refine zV_icmp_geN hX (tgt := 36) dX3_play_15 (by decide) ⟨by omega, by omega⟩ (fun c_15 => ?_) (fun c_15 => ?_)
      · rw [show k = 7 by omega]
        have hZ := kH0_Z o g 7 M
        refine zV_aload_n hX dX3_play_36 rfl ?_
        refine zV_geta hX dX3_play_37 zf_X3_24 hO.1 rfl ?_
        refine zV_iconst hX (v := nI 0) dX3_play_40 (by decide) ?_
        refine zV_aload_n hX dX3_play_41 rfl ?_
        refine zV_geta hX dX3_play_42 zf_X3_9 hO.1 rfl ?_
        refine zV_aload_n hX dX3_play_45 rfl ?_
        refine zV_geti hX dX3_play_46 zf_X3_39 hG.1 rfl (by rw [hZ _ _ (by omega), hgn]) ?_
        refine zV_aload_n hX dX3_play_49 rfl ?_
        refine zV_getp hX dX3_play_50 zf_X3_42 hG.1 rfl (by rw [hZ _ _ (by omega), hgl]) hlc ?_
        refine zV_geti hX dX3_play_53 zf_X3_46 hL.1.1 rfl rfl ?_
        refine zV_cS3p hX hR hl dX3_play_56 (zc_unlike l G _ (o + 1 + 2) 7 n _ (hO.a 2 rfl) (by decide) hn7) zt_X9_unlike rfl zml_X3_51 (by decide) (Nat.le_of_ble_eq_true rfl) ?_
        dsimp only [Option.toList, List.cons_append, List.nil_append]
        refine zV_iast hX dX3_play_59 (hO.a 6 rfl) (rfl) ⟨by omega, by omega⟩ ?_
        refine zV_mem (M' := kP o g lc n t cn 0 M) (by have := hL.2 0 (by omega); first | rfl | (unfold kP kUn; rfl)) ?_
        refine zV_iconst hX (v := nI 0) dX3_play_60 (by decide) ?_
        refine zV_istore_n hX dX3_play_61 (by decide) ?_
        dsimp only [zst1, zst2, zclr, zc2]
        exact L62 (ph + 1) 0 (by omega) (by omega)
      · refine zV_aload_n hX dX3_play_18 rfl ?_
        refine zV_geta hX dX3_play_19 zf_X3_9 hO.1 rfl ?_
        refine zV_iload_n hX dX3_play_22 rfl ?_
        refine zV_aload_n hX dX3_play_23 rfl ?_
        refine zV_geta hX dX3_play_24 zf_X3_34 hG.1 rfl ?_
        refine zV_iload_n hX dX3_play_27 rfl ?_
        refine zV_iald hX dX3_play_28 (hG.a 4 rfl) (rfl) ⟨by omega, by omega⟩ (rfl) ?_
        refine zV_iast hX dX3_play_29 (hO.a 2 rfl) (rfl) ⟨by omega, by omega⟩ ?_
        refine zV_iincN hX (b := 1) dX3_play_30 rfl (by decide) ?_
        dsimp only [zst1, zst2, zclr, zc2]
        refine zV_goto hX (tgt := 12) dX3_play_33 (by decide) ?_
        exact ih (k + 1) (by omega) (by omega)
  refine zV_aload_n hX dX3_play_0 rfl ?_
  refine zV_iconst hX (v := nI 0) dX3_play_1 (by decide) ?_
  refine zV_puti hX dX3_play_2 zf_X3_27 zp_2_0 hO.1 rfl ?_
  refine zV_aload_n hX dX3_play_5 rfl ?_
  refine zV_iconst hX (v := nI 0) dX3_play_6 (by decide) ?_
  refine zV_puti hX dX3_play_7 zf_X3_31 zp_2_1 hO.1 rfl ?_
  refine zV_iconst hX (v := nI 0) dX3_play_10 (by decide) ?_
  refine zV_istore_n hX dX3_play_11 (by decide) ?_
  dsimp only [zst1, zst2, zclr, zc2]
  exact L12 8 0 (by omega) (by omega)
set_option maxHeartbeats 1000000 in
theorem zc_unlikeBehind (l : Launch) (G : zG) (M : zM) (o i : Nat) (hO : zOb 2 o) (hi : i < 4) : zC l G 0 yX3_unlikeBehind cX3_unlikeBehind 2 (Option.some Jvm.ClassFile.FieldType.int) [.ref o, .int (nI i)] M (zP (some (.int (M.1 (o + 1 + 6) i))) M) := by
  refine zC_of (by decide) (Nat.le_of_ble_eq_true rfl) (fun X Q hQ hX hl hR hr => ?_)
  refine zV_loc (L' := [.ref o, .int (nI i)]) rfl ?_
  refine zV_aload_n hX dX3_unlikeBehind_0 rfl ?_
  refine zV_geta hX dX3_unlikeBehind_1 zf_X3_24 hO.1 rfl ?_
  refine zV_iload_n hX dX3_unlikeBehind_4 rfl ?_
  refine zV_iald hX dX3_unlikeBehind_5 (hO.a 6 rfl) (rfl) ⟨by omega, by omega⟩ (rfl) ?_
  exact zV_reti hX hQ hr (⟨rfl, rfl⟩) dX3_unlikeBehind_6
def kFir (row : Nat → Int32) : Nat → Int32 → Int32
  | 0, f => f
  | j + 1, f => if nI 1 < row j then f else kFir row j (nI j)
theorem nI_neg {j : Nat} (hj : j < 2 ^ 31) (h : nI j + (-1) < 0) : j = 0 := by
  cases j with
  | zero => rfl
  | succ i =>
    rw [pk_m1] at h
    exact absurd h (nI_pos (by omega))
theorem nI_nneg {j : Nat} (h : ¬ nI j + (-1) < 0) : ∃ i, j = i + 1 := by
  cases j with
  | zero => exact absurd (by decide) h
  | succ i => exact ⟨i, rfl⟩
set_option maxHeartbeats 1000000 in
theorem zc_firstAlike (l : Launch) (G : zG) (M : zM) (o ph : Nat) (hO : zOb 2 o) (hph : ph < 4) : zC l G 0 yX3_firstAlike cX3_firstAlike 4 (Option.some Jvm.ClassFile.FieldType.int) [.ref o, .int (nI ph)] M (zP (some (.int (kFir (M.1 (o + 1 + 6)) (ph + 1) (-1)))) M) := by
  refine zC_of (by decide) (Nat.le_of_ble_eq_true rfl) (fun X Q hQ hX hl hR hr => ?_)
  refine zV_loc (L' := [.ref o, .int (nI ph), .null, .null]) rfl ?_
  have L4 : ∀ (f9 j : Nat) (f : Int32), j < f9 → j ≤ 4 → kFir (M.1 (o + 1 + 6)) j f = kFir (M.1 (o + 1 + 6)) (ph + 1) (-1) → zV G X Q 4 0 0 4 [.ref o, .int (nI ph), .int f, .int (nI j + (-1))] [] M := by
    intro f9
    induction f9 with
    | zero => intro j f hk1 hk2 hk3; exact absurd hk1 (Nat.not_lt_zero _)
    | succ f9 ih =>
      intro j f hk1 hk2 hk3
      refine zV_iload_n hX dX3_firstAlike_4 rfl ?_
      refine zV_if_lt hX (tgt := 26) dX3_firstAlike_5 (by decide) (fun c_5 => ?_) (fun c_5 => ?_)
      · obtain rfl := nI_neg (by omega) c_5
        refine zV_iload_n hX dX3_firstAlike_26 rfl ?_
        exact zV_reti hX hQ hr (⟨by rw [← hk3]; first | rfl | rw [e9], rfl⟩) dX3_firstAlike_27
      · obtain ⟨i, rfl⟩ := nI_nneg c_5
        rw [pk_m1]
        refine zV_aload_n hX dX3_firstAlike_8 rfl ?_
        refine zV_geta hX dX3_firstAlike_9 zf_X3_24 hO.1 rfl ?_
        refine zV_iload_n hX dX3_firstAlike_12 rfl ?_
        refine zV_iald hX dX3_firstAlike_13 (hO.a 6 rfl) (rfl) ⟨by omega, by omega⟩ (rfl) ?_
        refine zV_iconst hX (v := nI 1) dX3_firstAlike_14 (by decide) ?_
        refine zV_icmp_gt hX (tgt := 26) dX3_firstAlike_15 (by decide) (fun c_15 => ?_) (fun c_15 => ?_)
        · have e9 : kFir (M.1 (o + 1 + 6)) (i + 1) f = f := if_pos c_15
          refine zV_iload_n hX dX3_firstAlike_26 rfl ?_
          exact zV_reti hX hQ hr (⟨by rw [← hk3]; first | rfl | rw [e9], rfl⟩) dX3_firstAlike_27
        · have e9 : kFir (M.1 (o + 1 + 6)) (i + 1) f = kFir (M.1 (o + 1 + 6)) i (nI i) := if_neg c_15
          refine zV_iload_n hX dX3_firstAlike_18 rfl ?_
          refine zV_istore_n hX dX3_firstAlike_19 (by decide) ?_
          dsimp only [zst1, zst2, zclr, zc2]
          refine zV_iinc hX dX3_firstAlike_20 rfl (rfl) (by decide) ?_
          dsimp only [zst1, zst2, zclr, zc2]
          refine zV_goto hX (tgt := 4) dX3_firstAlike_23 (by decide) ?_
          exact ih i (nI i) (by omega) (by omega) (e9 ▸ hk3)
  refine zV_iconst hX (v := (-1)) dX3_firstAlike_0 (by decide) ?_
  refine zV_istore_n hX dX3_firstAlike_1 (by decide) ?_
  dsimp only [zst1, zst2, zclr, zc2]
  refine zV_iload_n hX dX3_firstAlike_2 rfl ?_
  refine zV_istore_n hX dX3_firstAlike_3 (by decide) ?_
  dsimp only [zst1, zst2, zclr, zc2]
  have h9 := L4 (ph + 2) (ph + 1) (-1) (by omega) (by omega) rfl
  rw [pk_m1] at h9
  exact h9
