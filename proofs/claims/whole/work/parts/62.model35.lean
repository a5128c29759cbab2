set_option maxHeartbeats 1000000 in
theorem zc_mcoveredN (l : Launch) (G : zG) (M : zM)  (hcm : M.1 300 17 = -1) : zC l G 6 yX11_covered cX11_covered 3 (Option.some Jvm.ClassFile.FieldType.boolean) [.ref (300 : Nat)] M (zP (some (.int (zb false))) (m0 M)) := by
  refine zC_of (by decide) (Nat.le_of_ble_eq_true rfl) (fun X Q hQ hX hl hR hr => ?_)
  refine zV_loc (L' := [.ref (300 : Nat), .null, .null]) rfl ?_
  refine zV_aload_n hX dX11_covered_0 rfl ?_
  refine zV_iconst hX (v := nI 0) dX11_covered_1 (by decide) ?_
  refine zV_puti hX dX11_covered_2 zf_X11_149 zp_9_0 zo300.1 rfl ?_
  refine zV_aload_n hX dX11_covered_5 rfl ?_
  refine zV_geti hX dX11_covered_6 zf_X11_39 zo300.1 rfl ((zw_ne (by omega)).trans hcm) ?_
  refine zV_iconst hX (v := (-1)) dX11_covered_9 (by decide) ?_
  refine zV_icmp_ne hX (tgt := 15) dX11_covered_10 (by decide) (fun c_10 => absurd c_10 (not_not_intro rfl)) (fun c_10 => ?_)
  refine zV_iconst hX (v := nI 0) dX11_covered_13 (by decide) ?_
  exact zV_retz hX hQ hr (rfl) (⟨rfl, rfl⟩) dX11_covered_14
-- what runs for the asking alone is laid aside first, and laid back after
def mLay1 (c p : Nat) (bk : Bool) (i : Nat) (M : zM) : zM := if bk = true then zw M c i (M.1 328 (p + i)) else zw M 328 (p + i) (M.1 c i)
def mLay (c p : Nat) (bk : Bool) (k : Nat) (M : zM) : zM := zfor (fun i M => zw (mLay1 c p bk i M) 300 28 (nI (p + i + 1))) k M
theorem mLay1_28 {c p i : Nat} {bk : Bool} {M : zM} (hc : 301 ≤ c) : (mLay1 c p bk i M).1 300 28 = M.1 300 28 := by
  unfold mLay1
  split
  · exact zw_ne (by omega)
  · exact zw_ne (by omega)
theorem mLay_28 {c p : Nat} {bk : Bool} {M : zM} (h : M.1 300 28 = nI p) : ∀ k, (mLay c p bk k M).1 300 28 = nI (p + k)
  | 0 => h
  | k + 1 => zw_same
set_option maxHeartbeats 1000000 in
theorem zc_lays (l : Launch) (G : zG) (M : zM) (c L p : Nat) (bk : Bool) (hc : zSh c = (20, L)) (hc1 : 301 ≤ c) (h28 : M.1 300 28 = nI p) (hpL : p + L ≤ 1200) : zC l G 0 yX11_lays cX11_lays 4 (Option.none : Option Jvm.ClassFile.FieldType) [.ref (300 : Nat), .ref c, .int (zb bk)] M (zP none (mLay c p bk L M)) := by
  refine zC_of (by decide) (Nat.le_of_ble_eq_true rfl) (fun X Q hQ hX hl hR hr => ?_)
  refine zV_loc (L' := [.ref (300 : Nat), .ref c, .int (zb bk), .null]) rfl ?_
  have L2 : ∀ (f9 i : Nat), L - i < f9 → i ≤ L → zV G X Q 4 0 0 2 [.ref (300 : Nat), .ref c, .int (zb bk), .int (nI i)] [] (mLay c p bk i M) := by
    intro f9
    induction f9 with
    | zero => intro i hi1 hi2; exact absurd hi1 (Nat.not_lt_zero _)
    | succ f9 ih =>
      intro i hi1 hi2
      refine zV_iload_n hX dX11_lays_2 rfl ?_
      refine zV_aload_n hX dX11_lays_3 rfl ?_
      refine zV_alen hX dX11_lays_4 hc rfl ?_
      refine zV_icmp_geN hX (tgt := 55) dX11_lays_5 (by decide) ⟨by omega, by omega⟩ (fun c_5 => ?_) (fun c_5 => ?_)
      · exact zV_retv hX hQ hr (⟨rfl, by rw [show i = L by omega]⟩) dX11_lays_55
      · refine zV_iload_n hX dX11_lays_8 rfl ?_
        refine zV_if_eqB hX (tgt := 27) dX11_lays_9 (by decide) (fun c_9 => ?_) (fun c_9 => ?_)
        · have e8 : mLay1 c p bk i (mLay c p bk i M) = zw (mLay c p bk i M) 328 (p + i) ((mLay c p bk i M).1 c i) := if_neg (by rw [c_9]; decide)
          refine zV_aload_n hX dX11_lays_27 rfl ?_
          refine zV_geta hX dX11_lays_28 zf_X11_56 zo300.1 rfl ?_
          refine zV_aload_n hX dX11_lays_31 rfl ?_
          refine zV_geti hX dX11_lays_32 zf_X11_399 zo300.1 rfl (mLay_28 h28 i) ?_
          refine zV_aload_n hX dX11_lays_35 rfl ?_
          refine zV_iload_n hX dX11_lays_36 rfl ?_
          refine zV_iald hX dX11_lays_37 hc (rfl) ⟨by omega, by omega⟩ (rfl) ?_
          refine zV_iast hX dX11_lays_38 (zo300.a 27 rfl) (rfl) ⟨by omega, by omega⟩ ?_
          refine zV_aload_n hX dX11_lays_39 rfl ?_
          refine zV_dup hX dX11_lays_40 rfl ?_
          refine zV_geti hX dX11_lays_41 zf_X11_399 zo300.1 rfl ((zw_ne (by omega)).trans (mLay_28 h28 i)) ?_
          refine zV_iconst hX (v := nI 1) dX11_lays_44 (by decide) ?_
          refine zV_iaddN hX dX11_lays_45 ?_
          refine zV_puti hX dX11_lays_46 zf_X11_399 zp_9_28 zo300.1 rfl ?_
          refine zV_iincN hX (b := 1) dX11_lays_49 rfl (by decide) ?_
          dsimp only [zst1, zst2, zclr, zc2]
          refine zV_goto hX (tgt := 2) dX11_lays_52 (by decide) ?_
          refine zV_mem (show _ = mLay c p bk (i + 1) M from ?_) (ih (i + 1) (by omega) (by omega))
          show _ = zw (mLay1 c p bk i (mLay c p bk i M)) 300 28 (nI (p + i + 1))
          rw [e8]
        · have e8 : mLay1 c p bk i (mLay c p bk i M) = zw (mLay c p bk i M) c i ((mLay c p bk i M).1 328 (p + i)) := if_pos c_9
          refine zV_aload_n hX dX11_lays_12 rfl ?_
          refine zV_iload_n hX dX11_lays_13 rfl ?_
          refine zV_aload_n hX dX11_lays_14 rfl ?_
          refine zV_geta hX dX11_lays_15 zf_X11_56 zo300.1 rfl ?_
          refine zV_aload_n hX dX11_lays_18 rfl ?_
          refine zV_geti hX dX11_lays_19 zf_X11_399 zo300.1 rfl (mLay_28 h28 i) ?_
          refine zV_iald hX dX11_lays_22 (zo300.a 27 rfl) (rfl) ⟨by omega, by omega⟩ (rfl) ?_
          refine zV_iast hX dX11_lays_23 hc (rfl) ⟨by omega, by omega⟩ ?_
          refine zV_goto hX (tgt := 39) dX11_lays_24 (by decide) ?_
          refine zV_aload_n hX dX11_lays_39 rfl ?_
          refine zV_dup hX dX11_lays_40 rfl ?_
          refine zV_geti hX dX11_lays_41 zf_X11_399 zo300.1 rfl ((zw_ne (by omega)).trans (mLay_28 h28 i)) ?_
          refine zV_iconst hX (v := nI 1) dX11_lays_44 (by decide) ?_
          refine zV_iaddN hX dX11_lays_45 ?_
          refine zV_puti hX dX11_lays_46 zf_X11_399 zp_9_28 zo300.1 rfl ?_
          refine zV_iincN hX (b := 1) dX11_lays_49 rfl (by decide) ?_
          dsimp only [zst1, zst2, zclr, zc2]
          refine zV_goto hX (tgt := 2) dX11_lays_52 (by decide) ?_
          refine zV_mem (show _ = mLay c p bk (i + 1) M from ?_) (ih (i + 1) (by omega) (by omega))
          show _ = zw (mLay1 c p bk i (mLay c p bk i M)) 300 28 (nI (p + i + 1))
          rw [e8]
  refine zV_iconst hX (v := nI 0) dX11_lays_0 (by decide) ?_
  refine zV_istore_n hX dX11_lays_1 (by decide) ?_
  dsimp only [zst1, zst2, zclr, zc2]
  exact L2 (L + 1) 0 (by omega) (by omega)
