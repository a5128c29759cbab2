section zBuild7
variable {G : zG} {X : zX} {Q : State → Prop} {own : String} {cc : ByteArray} {base cnt nL cells slots pc : Nat} {L S : List Value} {M : zM}
theorem zfor_ne {a b i : Nat} {v : Int32} {M : zM} (h : b ≠ a) : ∀ k, (zfor (fun i M => zw M a i v) k M).1 b i = M.1 b i
  | 0 => rfl
  | k + 1 => by
    show (zw (zfor (fun i M => zw M a i v) k M) a k v).1 b i = _
    rw [zw_ne (Or.inl h)]
    exact zfor_ne h k
def zPz (M : zM) : Prop := ∀ x, 300 < x → ∀ k, M.1 x k = 0
theorem zPz_w {k : Nat} {v : Int32} (h : zPz M) : zPz (zw M 300 k v) := fun x hx j => (zw_ne (Or.inl (by omega))).trans (h x hx j)
theorem zCh_lt {k j : Nat} (h : k < 64) : 300 < zCh (300 + 1 + k) j := by
  unfold zCh
  split
  · omega
  · split
    · omega
    · omega
theorem zCB_clear (l : Launch) (G : zG) (M : zM) (base cnt c : Nat) (hc : zOb 3 c) (hh : zHas cnt c) (hh2 : zHas cnt (c + 1 + 1)) (h1 : M.1 c 1 ≠ 0) : zCB l G base 0 0 0 yX4_clear cX4_clear 2 [.ref c] cnt M cnt (lClear c M) := by
  refine zCB_of (by decide) (Nat.le_of_ble_eq_true rfl) (fun X Q hQ hX hl hR hr hnm hNe hsz => ?_)
  have L7 : ∀ (f9 k : Nat), 7 - k < f9 → k ≤ 7 → zB G X Q base cnt 2 0 0 7 [.ref c, .int (nI k)] [] (zfor (fun i M => zw M (c + 1 + 1) i (nI 0)) k (zw M c 0 (nI 0))) := by
    intro f9
    induction f9 with
    | zero => intro k hk1 hk2; exact absurd hk1 (Nat.not_lt_zero _)
    | succ f9 ih =>
      intro k hk1 hk2
      refine zB_iload_n hX dX4_clear_7 rfl ?_
      refine zB_bipush hX (v := nI 7) dX4_clear_8 (by decide) ?_
      refine zB_icmp_geN hX (tgt := 26) dX4_clear_10 (by decide) ⟨by omega, by omega⟩ (fun c_10 => ?_) (fun c_10 => ?_)
      · exact zB_last hX hQ rfl (by rw [show k = 7 by omega]; rfl) hr ⟨by decide, by decide⟩ dX4_clear_26
      · refine zB_aload_n hX dX4_clear_13 rfl ?_
        refine zB_geta hX dX4_clear_14 zf_X4_9 hh hc.1 rfl (by rw [zfor_ne (by omega), zw_ne (Or.inr (by decide))]; exact h1) ?_
        refine zB_iload_n hX dX4_clear_17 rfl ?_
        refine zB_iconst hX (v := nI 0) dX4_clear_18 (by decide) ?_
        refine zB_iast hX dX4_clear_19 hh2 (hc.a 1 rfl) rfl ⟨by omega, by omega⟩ ?_
        refine zB_iincN hX (b := 1) dX4_clear_20 rfl (by decide) ?_
        dsimp only [zst1, zst2, zclr, zc2]
        refine zB_goto hX (tgt := 7) dX4_clear_23 (by decide) ?_
        exact ih (k + 1) (by omega) (by omega)
  refine zB_loc (L' := [.ref c, .null]) rfl ?_
  refine zB_aload_n hX dX4_clear_0 rfl ?_
  refine zB_iconst hX (v := nI 0) dX4_clear_1 (by decide) ?_
  refine zB_puti hX dX4_clear_2 zf_X4_33 zp_3_0 hh hc.1 rfl ?_
  refine zB_iconst hX (v := nI 0) dX4_clear_5 (by decide) ?_
  refine zB_istore_n hX dX4_clear_6 (by decide) ?_
  dsimp only [zst1, zst2, zclr, zc2]
  exact L7 8 0 (by omega) (by omega)
theorem zCB_begin (l : Launch) (G : zG) (M : zM) (base cnt g c n t : Nat) (hg : zOb 1 g) (hc : zOb 3 c) (hgh : zHas cnt g) (hgh2 : zHas cnt (g + 1 + 4)) (hh : zHas cnt c) (hh2 : zHas cnt (c + 1 + 1)) (h4 : M.1 g 4 ≠ 0) (h3 : M.1 g 3 = nI c) (hcl : g + 20 < c ∧ c < 1000) (h1 : M.1 c 1 ≠ 0) (hle : cnt ≤ 402) : zCB l G base 1 0 0 yX2_begin cX2_begin 4 [.ref g, .int (nI n), .int (nI t)] cnt M cnt (gBegin g c n t M) := by
  refine zCB_of (by decide) (Nat.le_of_ble_eq_true rfl) (fun X Q hQ hX hl hR hr hnm hNe hsz => ?_)
  have L7 : ∀ (f9 k : Nat), 7 - k < f9 → k ≤ 7 → zB G X Q base cnt 4 0 0 24 [.ref g, .int (nI n), .int (nI t), .int (nI k)] [] (zfor (fun i M => zw M (g + 1 + 4) i (nI 0)) k (lClear c (zw (zw (zw M g 0 (nI n)) g 1 (nI t)) g 2 (nI 0)))) := by
    intro f9
    induction f9 with
    | zero => intro k hk1 hk2; exact absurd hk1 (Nat.not_lt_zero _)
    | succ f9 ih =>
      intro k hk1 hk2
      refine zB_iload_n hX dX2_begin_24 rfl ?_
      refine zB_bipush hX (v := nI 7) dX2_begin_25 (by decide) ?_
      refine zB_icmp_geN hX (tgt := 43) dX2_begin_27 (by decide) ⟨by omega, by omega⟩ (fun c_10 => ?_) (fun c_10 => ?_)
      · exact zB_last hX hQ rfl (by rw [show k = 7 by omega]; rfl) hr ⟨by decide, by decide⟩ dX2_begin_43
      · refine zB_aload_n hX dX2_begin_30 rfl ?_
        refine zB_geta hX dX2_begin_31 zf_X2_18 hgh hg.1 rfl (by rw [zfor_ne (by omega), lClear, zfor_ne (by omega)]; simp only [zw_ne (Or.inr (show (4 : Nat) ≠ 0 by decide)), zw_ne (Or.inr (show (4 : Nat) ≠ 1 by decide)), zw_ne (Or.inr (show (4 : Nat) ≠ 2 by decide))]; exact h4) ?_
        refine zB_iload_n hX dX2_begin_34 rfl ?_
        refine zB_iconst hX (v := nI 0) dX2_begin_35 (by decide) ?_
        refine zB_iast hX dX2_begin_36 hgh2 (hg.a 4 rfl) rfl ⟨by omega, by omega⟩ ?_
        refine zB_iincN hX (b := 1) dX2_begin_37 rfl (by decide) ?_
        dsimp only [zst1, zst2, zclr, zc2]
        refine zB_goto hX (tgt := 24) dX2_begin_40 (by decide) ?_
        exact ih (k + 1) (by omega) (by omega)
  refine zB_loc (L' := [.ref g, .int (nI n), .int (nI t), .null]) rfl ?_
  refine zB_aload_n hX dX2_begin_0 rfl ?_
  refine zB_iload_n hX dX2_begin_1 rfl ?_
  refine zB_puti hX dX2_begin_2 zf_X2_22 zp_1_0 hgh hg.1 rfl ?_
  refine zB_aload_n hX dX2_begin_5 rfl ?_
  refine zB_iload_n hX dX2_begin_6 rfl ?_
  refine zB_puti hX dX2_begin_7 zf_X2_26 zp_1_1 hgh hg.1 rfl ?_
  refine zB_aload_n hX dX2_begin_10 rfl ?_
  refine zB_iconst hX (v := nI 0) dX2_begin_11 (by decide) ?_
  refine zB_puti hX dX2_begin_12 zf_X2_29 zp_1_2 hgh hg.1 rfl ?_
  refine zB_aload_n hX dX2_begin_15 rfl ?_
  refine zB_getp hX dX2_begin_16 zf_X2_12 hgh hg.1 rfl (by simp only [zw_ne (Or.inr (show (3 : Nat) ≠ 0 by decide)), zw_ne (Or.inr (show (3 : Nat) ≠ 1 by decide)), zw_ne (Or.inr (show (3 : Nat) ≠ 2 by decide))]; exact h3) ⟨by omega, by omega⟩ ?_
  refine zB_callV (As := []) hX hNe hR (by decide) hl (zCB_clear l G _ base cnt c hc hh hh2 (by rw [zw_ne (Or.inl (by omega)), zw_ne (Or.inl (by omega)), zw_ne (Or.inl (by omega))]; exact h1)) zt_X4_clear zml_X2_32 hh hc.1 (by decide) rfl (Nat.le_of_ble_eq_true rfl) dX2_begin_19 ⟨by omega, by omega⟩ ⟨by decide, by decide⟩ ?_
  refine zB_iconst hX (v := nI 0) dX2_begin_22 (by decide) ?_
  refine zB_istore_n hX dX2_begin_23 (by decide) ?_
  dsimp only [zst1, zst2, zclr, zc2]
  exact L7 8 0 (by omega) (by omega)
theorem zCB_empties (l : Launch) (G : zG) (M : zM) (base cnt : Nat) (hh : zHas cnt 300) (hh2 : zHas cnt 314) (hh3 : zHas cnt 1208) (h1 : M.1 300 13 ≠ 0) : zCB l G base 0 0 0 yX11_empties cX11_empties 3 [.ref 300, .int (nI 0)] cnt M cnt (zfor (fun i M => zw M 1208 i (-1)) 7 M) := by
  refine zCB_of (by decide) (Nat.le_of_ble_eq_true rfl) (fun X Q hQ hX hl hR hr hnm hNe hsz => ?_)
  have L7 : ∀ (f9 k : Nat), 7 - k < f9 → k ≤ 7 → zB G X Q base cnt 3 0 0 2 [.ref 300, .int (nI 0), .int (nI k)] [] (zfor (fun i M => zw M 1208 i (-1)) k M) := by
    intro f9
    induction f9 with
    | zero => intro k hk1 hk2; exact absurd hk1 (Nat.not_lt_zero _)
    | succ f9 ih =>
      intro k hk1 hk2
      refine zB_iload_n hX dX11_empties_2 rfl ?_
      refine zB_bipush hX (v := nI 7) dX11_empties_3 (by decide) ?_
      refine zB_icmp_geN hX (tgt := 23) dX11_empties_5 (by decide) ⟨by omega, by omega⟩ (fun c_10 => ?_) (fun c_10 => ?_)
      · exact zB_last hX hQ rfl (by rw [show k = 7 by omega]) hr ⟨by decide, by decide⟩ dX11_empties_23
      · refine zB_aload_n hX dX11_empties_8 rfl ?_
        refine zB_geta hX dX11_empties_9 zf_X11_31 hh zo300.1 rfl (by rw [zfor_ne (by decide)]; exact h1) ?_
        refine zB_iload_n hX dX11_empties_12 rfl ?_
        refine zB_aald hX (t := 0) (a := 1208) dX11_empties_13 hh2 (zo300.a 13 rfl) (by decide) rfl ⟨by omega, by omega⟩ (mRow 13 (by decide)) ?_
        refine zB_iload_n hX dX11_empties_14 rfl ?_
        refine zB_iconst hX (v := (-1)) dX11_empties_15 (by decide) ?_
        refine zB_iast hX (c := 1208) dX11_empties_16 hh3 (n := 7) (by decide +kernel) rfl ⟨by omega, by omega⟩ ?_
        refine zB_iincN hX (b := 1) dX11_empties_17 rfl (by decide) ?_
        dsimp only [zst1, zst2, zclr, zc2]
        refine zB_goto hX (tgt := 2) dX11_empties_20 (by decide) ?_
        exact ih (k + 1) (by omega) (by omega)
  refine zB_loc (L' := [.ref 300, .int (nI 0), .null]) rfl ?_
  refine zB_iconst hX (v := nI 0) dX11_empties_0 (by decide) ?_
  refine zB_istore_n hX dX11_empties_1 (by decide) ?_
  dsimp only [zst1, zst2, zclr, zc2]
  exact L7 8 0 (by omega) (by omega)
def bX11 (M : zM) : zM := (zw (zw (zw (zw (zw (zw (zw (zw (zw (zw (zw (zw (zw (zw (zw (zw (zw (zw (zw (zw (zw (zw (zw (zw (zw (zw (zw (zw (zw (zw (zw (zw (zw (zw (zw (zw (zw (zw (zw (zw (zw (zw M 300 1 1) 300 5 (-1)) 300 8 1) 300 9 (nI 4)) 300 10 (nI 1)) 300 12 1) 300 13 1) 300 14 1) 300 17 (-1)) 300 20 1) 300 21 1) 300 22 1) 300 23 1) 300 27 1) 300 29 1) 300 30 1) 300 31 1) 300 32 1) 300 33 1) 300 34 1) 300 35 1) 300 36 1) 300 37 1) 300 42 1) 300 43 1) 300 44 1) 300 45 1) 300 46 1) 300 49 1) 300 50 1) 300 51 1) 300 52 1) 300 53 1) 300 54 1) 300 55 1) 300 56 1) 300 57 1) 300 59 1) 300 60 1) 300 61 1) 300 62 1) 300 63 1)
def zEm (M : zM) : zM := zfor (fun i M => zw M 1208 i (-1)) 7 M
set_option maxHeartbeats 4000000 in
theorem zc_X11init (l : Launch) (G : zG) (M : zM) (base : Nat) (hz : zPz M) : zCB l G base 1 315 5741 yX11_init cX11_init 1 [.ref 300] 87 M 402 (zEm (bX11 M)) := by
  refine zCB_of (by decide) (Nat.le_of_ble_eq_true rfl) (fun X Q hQ hX hl hR hr hnm hNe hsz => ?_)
  show zB G X Q base 87 1 0 0 0 [.ref 300] [] M
  have hh : zHas 87 300 := ⟨86, by decide +kernel, by decide⟩
  refine zB_aload_n hX dX11_init_0 rfl ?_
  refine zB_obj hX hR zoi_X11_1 dX11_init_1 (Nat.le_of_ble_eq_true rfl) ?_
  refine zB_aload_n hX dX11_init_4 rfl ?_
  refine zB_iconst hX (v := nI 2) dX11_init_5 (by decide) ?_
  refine zB_newI hX hR (c := 300 + 1 + 1) (n := 2) dX11_init_6 (by decide +kernel) (zo300.a 1 rfl) ((by (repeat apply zPz_w); exact hz : zPz _) _ (by decide)) (by decide) ⟨by omega, by omega⟩ ⟨by decide, by decide⟩ ?_
  refine zB_puta hX hnm dX11_init_8 zf_X11_7 zpF_9_1 (hh.lt (by omega)) zo300.1 rfl ?_
  refine zB_aload_n hX dX11_init_11 rfl ?_
  refine zB_iconst hX (v := (-1)) dX11_init_12 (by decide) ?_
  refine zB_puti hX dX11_init_13 zf_X11_13 zp_9_5 (hh.lt (by omega)) zo300.1 rfl ?_
  refine zB_aload_n hX dX11_init_16 rfl ?_
  refine zB_sipush hX (v := nI 300) dX11_init_17 (by decide) ?_
  refine zB_newI hX hR (c := 300 + 1 + 8) (n := 300) dX11_init_20 (by decide +kernel) (zo300.a 8 rfl) ((by (repeat apply zPz_w); exact hz : zPz _) _ (by decide)) (by decide) ⟨by omega, by omega⟩ ⟨by decide, by decide⟩ ?_
  refine zB_puta hX hnm dX11_init_22 zf_X11_17 zpF_9_8 (hh.lt (by omega)) zo300.1 rfl ?_
  refine zB_aload_n hX dX11_init_25 rfl ?_
  refine zB_iconst hX (v := nI 4) dX11_init_26 (by decide) ?_
  refine zB_puti hX dX11_init_27 zf_X11_20 zp_9_9 (hh.lt (by omega)) zo300.1 rfl ?_
  refine zB_aload_n hX dX11_init_30 rfl ?_
  refine zB_iconst hX (v := nI 1) dX11_init_31 (by decide) ?_
  refine zB_puti hX dX11_init_32 zf_X11_23 zp_9_10 (hh.lt (by omega)) zo300.1 rfl ?_
  refine zB_aload_n hX dX11_init_35 rfl ?_
  refine zB_bipush hX (v := nI 7) dX11_init_36 (by decide) ?_
  refine zB_newI hX hR (c := 300 + 1 + 12) (n := 7) dX11_init_38 (by decide +kernel) (zo300.a 12 rfl) ((by (repeat apply zPz_w); exact hz : zPz _) _ (by decide)) (by decide) ⟨by omega, by omega⟩ ⟨by decide, by decide⟩ ?_
  refine zB_puta hX hnm dX11_init_40 zf_X11_26 zpF_9_12 (hh.lt (by omega)) zo300.1 rfl ?_
  refine zB_aload_n hX dX11_init_43 rfl ?_
  refine zB_iconst hX (v := nI 2) dX11_init_44 (by decide) ?_
  refine zB_bipush hX (v := nI 7) dX11_init_45 (by decide) ?_
  refine zB_gridI hX hNe hR (c := 300 + 1 + 13) (n := 2) (m := 7) zcl_X11_29 dX11_init_47 (by decide) (by decide +kernel) (zo300.a 13 rfl) (by decide +kernel) (by decide +kernel) (fun j hj => (by (repeat apply zPz_w); exact hz : zPz _) _ (zCh_lt (by decide))) ⟨by omega, by omega⟩ ⟨by decide, by decide⟩ ?_
  refine zB_puta hX hnm dX11_init_51 zf_X11_31 zpF_9_13 (hh.lt (by omega)) zo300.1 rfl ?_
  refine zB_aload_n hX dX11_init_54 rfl ?_
  refine zB_iconst hX (v := nI 2) dX11_init_55 (by decide) ?_
  refine zB_bipush hX (v := nI 7) dX11_init_56 (by decide) ?_
  refine zB_bipush hX (v := nI 13) dX11_init_58 (by decide) ?_
  refine zB_bipush hX (v := nI 6) dX11_init_60 (by decide) ?_
  refine zB_lies hX hNe hR zcl_X11_34 dX11_init_62 (by decide) (fun x hx => (by (repeat apply zPz_w); exact hz : zPz _) x (by omega)) ⟨by omega, by omega⟩ ⟨by decide, by decide⟩ ?_
  refine zB_puta hX hnm dX11_init_66 zf_X11_36 zpF_9_14 (hh.lt (by omega)) zo300.1 rfl ?_
  refine zB_aload_n hX dX11_init_69 rfl ?_
  refine zB_iconst hX (v := (-1)) dX11_init_70 (by decide) ?_
  refine zB_puti hX dX11_init_71 zf_X11_39 zp_9_17 (hh.lt (by omega)) zo300.1 rfl ?_
  refine zB_aload_n hX dX11_init_74 rfl ?_
  refine zB_bipush hX (v := nI 7) dX11_init_75 (by decide) ?_
  refine zB_bipush hX (v := nI 57) dX11_init_77 (by decide) ?_
  refine zB_gridI hX hNe hR (c := 300 + 1 + 20) (n := 7) (m := 57) zcl_X11_29 dX11_init_79 (by decide) (by decide +kernel) (zo300.a 20 rfl) (by decide +kernel) (by decide +kernel) (fun j hj => (by (repeat apply zPz_w); exact hz : zPz _) _ (zCh_lt (by decide))) ⟨by omega, by omega⟩ ⟨by decide, by decide⟩ ?_
  refine zB_puta hX hnm dX11_init_83 zf_X11_42 zpF_9_20 (hh.lt (by omega)) zo300.1 rfl ?_
  refine zB_aload_n hX dX11_init_86 rfl ?_
  refine zB_bipush hX (v := nI 7) dX11_init_87 (by decide) ?_
  refine zB_bipush hX (v := nI 57) dX11_init_89 (by decide) ?_
  refine zB_gridZ hX hNe hR (c := 300 + 1 + 21) (n := 7) (m := 57) zcl_X11_45 dX11_init_91 (by decide) (by decide +kernel) (zo300.a 21 rfl) (by decide +kernel) (by decide +kernel) (fun j hj => (by (repeat apply zPz_w); exact hz : zPz _) _ (zCh_lt (by decide))) ⟨by omega, by omega⟩ ⟨by decide, by decide⟩ ?_
  refine zB_puta hX hnm dX11_init_95 zf_X11_47 zpF_9_21 (hh.lt (by omega)) zo300.1 rfl ?_
  refine zB_aload_n hX dX11_init_98 rfl ?_
  refine zB_bipush hX (v := nI 7) dX11_init_99 (by decide) ?_
  refine zB_iconst hX (v := nI 5) dX11_init_101 (by decide) ?_
  refine zB_gridI hX hNe hR (c := 300 + 1 + 22) (n := 7) (m := 5) zcl_X11_29 dX11_init_102 (by decide) (by decide +kernel) (zo300.a 22 rfl) (by decide +kernel) (by decide +kernel) (fun j hj => (by (repeat apply zPz_w); exact hz : zPz _) _ (zCh_lt (by decide))) ⟨by omega, by omega⟩ ⟨by decide, by decide⟩ ?_
  refine zB_puta hX hnm dX11_init_106 zf_X11_50 zpF_9_22 (hh.lt (by omega)) zo300.1 rfl ?_
  refine zB_aload_n hX dX11_init_109 rfl ?_
  refine zB_bipush hX (v := nI 7) dX11_init_110 (by decide) ?_
  refine zB_newI hX hR (c := 300 + 1 + 23) (n := 7) dX11_init_112 (by decide +kernel) (zo300.a 23 rfl) ((by (repeat apply zPz_w); exact hz : zPz _) _ (by decide)) (by decide) ⟨by omega, by omega⟩ ⟨by decide, by decide⟩ ?_
  refine zB_puta hX hnm dX11_init_114 zf_X11_53 zpF_9_23 (hh.lt (by omega)) zo300.1 rfl ?_
  refine zB_aload_n hX dX11_init_117 rfl ?_
  refine zB_sipush hX (v := nI 1200) dX11_init_118 (by decide) ?_
  refine zB_newI hX hR (c := 300 + 1 + 27) (n := 1200) dX11_init_121 (by decide +kernel) (zo300.a 27 rfl) ((by (repeat apply zPz_w); exact hz : zPz _) _ (by decide)) (by decide) ⟨by omega, by omega⟩ ⟨by decide, by decide⟩ ?_
  refine zB_puta hX hnm dX11_init_123 zf_X11_56 zpF_9_27 (hh.lt (by omega)) zo300.1 rfl ?_
  refine zB_aload_n hX dX11_init_126 rfl ?_
  refine zB_bipush hX (v := nI 6) dX11_init_127 (by decide) ?_
  refine zB_newI hX hR (c := 300 + 1 + 29) (n := 6) dX11_init_129 (by decide +kernel) (zo300.a 29 rfl) ((by (repeat apply zPz_w); exact hz : zPz _) _ (by decide)) (by decide) ⟨by omega, by omega⟩ ⟨by decide, by decide⟩ ?_
  refine zB_puta hX hnm dX11_init_131 zf_X11_59 zpF_9_29 (hh.lt (by omega)) zo300.1 rfl ?_
  refine zB_aload_n hX dX11_init_134 rfl ?_
  refine zB_bipush hX (v := nI 7) dX11_init_135 (by decide) ?_
  refine zB_newI hX hR (c := 300 + 1 + 30) (n := 7) dX11_init_137 (by decide +kernel) (zo300.a 30 rfl) ((by (repeat apply zPz_w); exact hz : zPz _) _ (by decide)) (by decide) ⟨by omega, by omega⟩ ⟨by decide, by decide⟩ ?_
  refine zB_puta hX hnm dX11_init_139 zf_X11_62 zpF_9_30 (hh.lt (by omega)) zo300.1 rfl ?_
  refine zB_aload_n hX dX11_init_142 rfl ?_
  refine zB_bipush hX (v := nI 7) dX11_init_143 (by decide) ?_
  refine zB_newI hX hR (c := 300 + 1 + 31) (n := 7) dX11_init_145 (by decide +kernel) (zo300.a 31 rfl) ((by (repeat apply zPz_w); exact hz : zPz _) _ (by decide)) (by decide) ⟨by omega, by omega⟩ ⟨by decide, by decide⟩ ?_
  refine zB_puta hX hnm dX11_init_147 zf_X11_65 zpF_9_31 (hh.lt (by omega)) zo300.1 rfl ?_
  refine zB_aload_n hX dX11_init_150 rfl ?_
  refine zB_bipush hX (v := nI 7) dX11_init_151 (by decide) ?_
  refine zB_newI hX hR (c := 300 + 1 + 32) (n := 7) dX11_init_153 (by decide +kernel) (zo300.a 32 rfl) ((by (repeat apply zPz_w); exact hz : zPz _) _ (by decide)) (by decide) ⟨by omega, by omega⟩ ⟨by decide, by decide⟩ ?_
  refine zB_puta hX hnm dX11_init_155 zf_X11_68 zpF_9_32 (hh.lt (by omega)) zo300.1 rfl ?_
  refine zB_aload_n hX dX11_init_158 rfl ?_
  refine zB_bipush hX (v := nI 7) dX11_init_159 (by decide) ?_
  refine zB_newI hX hR (c := 300 + 1 + 33) (n := 7) dX11_init_161 (by decide +kernel) (zo300.a 33 rfl) ((by (repeat apply zPz_w); exact hz : zPz _) _ (by decide)) (by decide) ⟨by omega, by omega⟩ ⟨by decide, by decide⟩ ?_
  refine zB_puta hX hnm dX11_init_163 zf_X11_71 zpF_9_33 (hh.lt (by omega)) zo300.1 rfl ?_
  refine zB_aload_n hX dX11_init_166 rfl ?_
  refine zB_bipush hX (v := nI 7) dX11_init_167 (by decide) ?_
  refine zB_bipush hX (v := nI 60) dX11_init_169 (by decide) ?_
  refine zB_gridI hX hNe hR (c := 300 + 1 + 34) (n := 7) (m := 60) zcl_X11_29 dX11_init_171 (by decide) (by decide +kernel) (zo300.a 34 rfl) (by decide +kernel) (by decide +kernel) (fun j hj => (by (repeat apply zPz_w); exact hz : zPz _) _ (zCh_lt (by decide))) ⟨by omega, by omega⟩ ⟨by decide, by decide⟩ ?_
  refine zB_puta hX hnm dX11_init_175 zf_X11_74 zpF_9_34 (hh.lt (by omega)) zo300.1 rfl ?_
  refine zB_aload_n hX dX11_init_178 rfl ?_
  refine zB_bipush hX (v := nI 7) dX11_init_179 (by decide) ?_
  refine zB_bipush hX (v := nI 60) dX11_init_181 (by decide) ?_
  refine zB_gridI hX hNe hR (c := 300 + 1 + 35) (n := 7) (m := 60) zcl_X11_29 dX11_init_183 (by decide) (by decide +kernel) (zo300.a 35 rfl) (by decide +kernel) (by decide +kernel) (fun j hj => (by (repeat apply zPz_w); exact hz : zPz _) _ (zCh_lt (by decide))) ⟨by omega, by omega⟩ ⟨by decide, by decide⟩ ?_
  refine zB_puta hX hnm dX11_init_187 zf_X11_77 zpF_9_35 (hh.lt (by omega)) zo300.1 rfl ?_
  refine zB_aload_n hX dX11_init_190 rfl ?_
  refine zB_bipush hX (v := nI 7) dX11_init_191 (by decide) ?_
  refine zB_bipush hX (v := nI 60) dX11_init_193 (by decide) ?_
  refine zB_gridI hX hNe hR (c := 300 + 1 + 36) (n := 7) (m := 60) zcl_X11_29 dX11_init_195 (by decide) (by decide +kernel) (zo300.a 36 rfl) (by decide +kernel) (by decide +kernel) (fun j hj => (by (repeat apply zPz_w); exact hz : zPz _) _ (zCh_lt (by decide))) ⟨by omega, by omega⟩ ⟨by decide, by decide⟩ ?_
  refine zB_puta hX hnm dX11_init_199 zf_X11_80 zpF_9_36 (hh.lt (by omega)) zo300.1 rfl ?_
  refine zB_aload_n hX dX11_init_202 rfl ?_
  refine zB_bipush hX (v := nI 7) dX11_init_203 (by decide) ?_
  refine zB_bipush hX (v := nI 60) dX11_init_205 (by decide) ?_
  refine zB_gridI hX hNe hR (c := 300 + 1 + 37) (n := 7) (m := 60) zcl_X11_29 dX11_init_207 (by decide) (by decide +kernel) (zo300.a 37 rfl) (by decide +kernel) (by decide +kernel) (fun j hj => (by (repeat apply zPz_w); exact hz : zPz _) _ (zCh_lt (by decide))) ⟨by omega, by omega⟩ ⟨by decide, by decide⟩ ?_
  refine zB_puta hX hnm dX11_init_211 zf_X11_83 zpF_9_37 (hh.lt (by omega)) zo300.1 rfl ?_
  refine zB_aload_n hX dX11_init_214 rfl ?_
  refine zB_bipush hX (v := nI 7) dX11_init_215 (by decide) ?_
  refine zB_newI hX hR (c := 300 + 1 + 42) (n := 7) dX11_init_217 (by decide +kernel) (zo300.a 42 rfl) ((by (repeat apply zPz_w); exact hz : zPz _) _ (by decide)) (by decide) ⟨by omega, by omega⟩ ⟨by decide, by decide⟩ ?_
  refine zB_puta hX hnm dX11_init_219 zf_X11_86 zpF_9_42 (hh.lt (by omega)) zo300.1 rfl ?_
  refine zB_aload_n hX dX11_init_222 rfl ?_
  refine zB_bipush hX (v := nI 7) dX11_init_223 (by decide) ?_
  refine zB_newI hX hR (c := 300 + 1 + 43) (n := 7) dX11_init_225 (by decide +kernel) (zo300.a 43 rfl) ((by (repeat apply zPz_w); exact hz : zPz _) _ (by decide)) (by decide) ⟨by omega, by omega⟩ ⟨by decide, by decide⟩ ?_
  refine zB_puta hX hnm dX11_init_227 zf_X11_89 zpF_9_43 (hh.lt (by omega)) zo300.1 rfl ?_
  refine zB_aload_n hX dX11_init_230 rfl ?_
  refine zB_bipush hX (v := nI 7) dX11_init_231 (by decide) ?_
  refine zB_newI hX hR (c := 300 + 1 + 44) (n := 7) dX11_init_233 (by decide +kernel) (zo300.a 44 rfl) ((by (repeat apply zPz_w); exact hz : zPz _) _ (by decide)) (by decide) ⟨by omega, by omega⟩ ⟨by decide, by decide⟩ ?_
  refine zB_puta hX hnm dX11_init_235 zf_X11_92 zpF_9_44 (hh.lt (by omega)) zo300.1 rfl ?_
  refine zB_aload_n hX dX11_init_238 rfl ?_
  refine zB_bipush hX (v := nI 7) dX11_init_239 (by decide) ?_
  refine zB_newI hX hR (c := 300 + 1 + 45) (n := 7) dX11_init_241 (by decide +kernel) (zo300.a 45 rfl) ((by (repeat apply zPz_w); exact hz : zPz _) _ (by decide)) (by decide) ⟨by omega, by omega⟩ ⟨by decide, by decide⟩ ?_
  refine zB_puta hX hnm dX11_init_243 zf_X11_95 zpF_9_45 (hh.lt (by omega)) zo300.1 rfl ?_
  refine zB_aload_n hX dX11_init_246 rfl ?_
  refine zB_bipush hX (v := nI 7) dX11_init_247 (by decide) ?_
  refine zB_newI hX hR (c := 300 + 1 + 46) (n := 7) dX11_init_249 (by decide +kernel) (zo300.a 46 rfl) ((by (repeat apply zPz_w); exact hz : zPz _) _ (by decide)) (by decide) ⟨by omega, by omega⟩ ⟨by decide, by decide⟩ ?_
  refine zB_puta hX hnm dX11_init_251 zf_X11_98 zpF_9_46 (hh.lt (by omega)) zo300.1 rfl ?_
  refine zB_aload_n hX dX11_init_254 rfl ?_
  refine zB_bipush hX (v := nI 7) dX11_init_255 (by decide) ?_
  refine zB_bipush hX (v := nI 7) dX11_init_257 (by decide) ?_
  refine zB_gridI hX hNe hR (c := 300 + 1 + 49) (n := 7) (m := 7) zcl_X11_29 dX11_init_259 (by decide) (by decide +kernel) (zo300.a 49 rfl) (by decide +kernel) (by decide +kernel) (fun j hj => (by (repeat apply zPz_w); exact hz : zPz _) _ (zCh_lt (by decide))) ⟨by omega, by omega⟩ ⟨by decide, by decide⟩ ?_
  refine zB_puta hX hnm dX11_init_263 zf_X11_101 zpF_9_49 (hh.lt (by omega)) zo300.1 rfl ?_
  refine zB_aload_n hX dX11_init_266 rfl ?_
  refine zB_bipush hX (v := nI 7) dX11_init_267 (by decide) ?_
  refine zB_bipush hX (v := nI 7) dX11_init_269 (by decide) ?_
  refine zB_gridI hX hNe hR (c := 300 + 1 + 50) (n := 7) (m := 7) zcl_X11_29 dX11_init_271 (by decide) (by decide +kernel) (zo300.a 50 rfl) (by decide +kernel) (by decide +kernel) (fun j hj => (by (repeat apply zPz_w); exact hz : zPz _) _ (zCh_lt (by decide))) ⟨by omega, by omega⟩ ⟨by decide, by decide⟩ ?_
  refine zB_puta hX hnm dX11_init_275 zf_X11_104 zpF_9_50 (hh.lt (by omega)) zo300.1 rfl ?_
  refine zB_aload_n hX dX11_init_278 rfl ?_
  refine zB_bipush hX (v := nI 7) dX11_init_279 (by decide) ?_
  refine zB_bipush hX (v := nI 7) dX11_init_281 (by decide) ?_
  refine zB_gridZ hX hNe hR (c := 300 + 1 + 51) (n := 7) (m := 7) zcl_X11_45 dX11_init_283 (by decide) (by decide +kernel) (zo300.a 51 rfl) (by decide +kernel) (by decide +kernel) (fun j hj => (by (repeat apply zPz_w); exact hz : zPz _) _ (zCh_lt (by decide))) ⟨by omega, by omega⟩ ⟨by decide, by decide⟩ ?_
  refine zB_puta hX hnm dX11_init_287 zf_X11_107 zpF_9_51 (hh.lt (by omega)) zo300.1 rfl ?_
  refine zB_aload_n hX dX11_init_290 rfl ?_
  refine zB_bipush hX (v := nI 7) dX11_init_291 (by decide) ?_
  refine zB_bipush hX (v := nI 7) dX11_init_293 (by decide) ?_
  refine zB_gridZ hX hNe hR (c := 300 + 1 + 52) (n := 7) (m := 7) zcl_X11_45 dX11_init_295 (by decide) (by decide +kernel) (zo300.a 52 rfl) (by decide +kernel) (by decide +kernel) (fun j hj => (by (repeat apply zPz_w); exact hz : zPz _) _ (zCh_lt (by decide))) ⟨by omega, by omega⟩ ⟨by decide, by decide⟩ ?_
  refine zB_puta hX hnm dX11_init_299 zf_X11_110 zpF_9_52 (hh.lt (by omega)) zo300.1 rfl ?_
  refine zB_aload_n hX dX11_init_302 rfl ?_
  refine zB_bipush hX (v := nI 7) dX11_init_303 (by decide) ?_
  refine zB_newI hX hR (c := 300 + 1 + 53) (n := 7) dX11_init_305 (by decide +kernel) (zo300.a 53 rfl) ((by (repeat apply zPz_w); exact hz : zPz _) _ (by decide)) (by decide) ⟨by omega, by omega⟩ ⟨by decide, by decide⟩ ?_
  refine zB_puta hX hnm dX11_init_307 zf_X11_113 zpF_9_53 (hh.lt (by omega)) zo300.1 rfl ?_
  refine zB_aload_n hX dX11_init_310 rfl ?_
  refine zB_bipush hX (v := nI 7) dX11_init_311 (by decide) ?_
  refine zB_newI hX hR (c := 300 + 1 + 54) (n := 7) dX11_init_313 (by decide +kernel) (zo300.a 54 rfl) ((by (repeat apply zPz_w); exact hz : zPz _) _ (by decide)) (by decide) ⟨by omega, by omega⟩ ⟨by decide, by decide⟩ ?_
  refine zB_puta hX hnm dX11_init_315 zf_X11_116 zpF_9_54 (hh.lt (by omega)) zo300.1 rfl ?_
  refine zB_aload_n hX dX11_init_318 rfl ?_
  refine zB_bipush hX (v := nI 7) dX11_init_319 (by decide) ?_
  refine zB_newI hX hR (c := 300 + 1 + 55) (n := 7) dX11_init_321 (by decide +kernel) (zo300.a 55 rfl) ((by (repeat apply zPz_w); exact hz : zPz _) _ (by decide)) (by decide) ⟨by omega, by omega⟩ ⟨by decide, by decide⟩ ?_
  refine zB_puta hX hnm dX11_init_323 zf_X11_119 zpF_9_55 (hh.lt (by omega)) zo300.1 rfl ?_
  refine zB_aload_n hX dX11_init_326 rfl ?_
  refine zB_bipush hX (v := nI 7) dX11_init_327 (by decide) ?_
  refine zB_newI hX hR (c := 300 + 1 + 56) (n := 7) dX11_init_329 (by decide +kernel) (zo300.a 56 rfl) ((by (repeat apply zPz_w); exact hz : zPz _) _ (by decide)) (by decide) ⟨by omega, by omega⟩ ⟨by decide, by decide⟩ ?_
  refine zB_puta hX hnm dX11_init_331 zf_X11_122 zpF_9_56 (hh.lt (by omega)) zo300.1 rfl ?_
  refine zB_aload_n hX dX11_init_334 rfl ?_
  refine zB_bipush hX (v := nI 7) dX11_init_335 (by decide) ?_
  refine zB_newZ hX hR (c := 300 + 1 + 57) (n := 7) dX11_init_337 (by decide +kernel) (zo300.a 57 rfl) ((by (repeat apply zPz_w); exact hz : zPz _) _ (by decide)) (by decide) ⟨by omega, by omega⟩ ⟨by decide, by decide⟩ ?_
  refine zB_puta hX hnm dX11_init_339 zf_X11_125 zpF_9_57 (hh.lt (by omega)) zo300.1 rfl ?_
  refine zB_aload_n hX dX11_init_342 rfl ?_
  refine zB_bipush hX (v := nI 7) dX11_init_343 (by decide) ?_
  refine zB_newF hX hR (c := 300 + 1 + 59) (n := 7) dX11_init_345 (by decide +kernel) (zo300.a 59 rfl) ((by (repeat apply zPz_w); exact hz : zPz _) _ (by decide)) (by decide) ⟨by omega, by omega⟩ ⟨by decide, by decide⟩ ?_
  refine zB_puta hX hnm dX11_init_347 zf_X11_129 zpF_9_59 (hh.lt (by omega)) zo300.1 rfl ?_
  refine zB_aload_n hX dX11_init_350 rfl ?_
  refine zB_bipush hX (v := nI 7) dX11_init_351 (by decide) ?_
  refine zB_newF hX hR (c := 300 + 1 + 60) (n := 7) dX11_init_353 (by decide +kernel) (zo300.a 60 rfl) ((by (repeat apply zPz_w); exact hz : zPz _) _ (by decide)) (by decide) ⟨by omega, by omega⟩ ⟨by decide, by decide⟩ ?_
  refine zB_puta hX hnm dX11_init_355 zf_X11_133 zpF_9_60 (hh.lt (by omega)) zo300.1 rfl ?_
  refine zB_aload_n hX dX11_init_358 rfl ?_
  refine zB_bipush hX (v := nI 7) dX11_init_359 (by decide) ?_
  refine zB_newF hX hR (c := 300 + 1 + 61) (n := 7) dX11_init_361 (by decide +kernel) (zo300.a 61 rfl) ((by (repeat apply zPz_w); exact hz : zPz _) _ (by decide)) (by decide) ⟨by omega, by omega⟩ ⟨by decide, by decide⟩ ?_
  refine zB_puta hX hnm dX11_init_363 zf_X11_136 zpF_9_61 (hh.lt (by omega)) zo300.1 rfl ?_
  refine zB_aload_n hX dX11_init_366 rfl ?_
  refine zB_iconst hX (v := nI 4) dX11_init_367 (by decide) ?_
  refine zB_newI hX hR (c := 300 + 1 + 62) (n := 4) dX11_init_368 (by decide +kernel) (zo300.a 62 rfl) ((by (repeat apply zPz_w); exact hz : zPz _) _ (by decide)) (by decide) ⟨by omega, by omega⟩ ⟨by decide, by decide⟩ ?_
  refine zB_puta hX hnm dX11_init_370 zf_X11_139 zpF_9_62 (hh.lt (by omega)) zo300.1 rfl ?_
  refine zB_aload_n hX dX11_init_373 rfl ?_
  refine zB_iconst hX (v := nI 4) dX11_init_374 (by decide) ?_
  refine zB_newI hX hR (c := 300 + 1 + 63) (n := 4) dX11_init_375 (by decide +kernel) (zo300.a 63 rfl) ((by (repeat apply zPz_w); exact hz : zPz _) _ (by decide)) (by decide) ⟨by omega, by omega⟩ ⟨by decide, by decide⟩ ?_
  refine zB_puta hX hnm dX11_init_377 zf_X11_142 zpF_9_63 (hh.lt (by omega)) zo300.1 rfl ?_
  refine zB_aload_n hX dX11_init_380 rfl ?_
  refine zB_iconst hX (v := nI 0) dX11_init_381 (by decide) ?_
  refine zB_callV (As := [.int (nI 0)]) hX hNe hR (by decide) hl (zCB_empties l G _ base _ (hh.lt (by omega)) ⟨90, by decide +kernel, by decide⟩ ⟨91, by decide +kernel, by decide⟩ (by (repeat first | rw [zw_ne (Or.inr (by decide))] | rw [zw_same]); decide)) zt_X11_empties zml_X11_145 (hh.lt (by omega)) zo300.1 (by decide) rfl (Nat.le_of_ble_eq_true rfl) dX11_init_382 ⟨by omega, by omega⟩ ⟨by decide, by decide⟩ ?_
  exact zB_last hX hQ rfl rfl hr ⟨by decide, by decide⟩ dX11_init_385
end zBuild7
