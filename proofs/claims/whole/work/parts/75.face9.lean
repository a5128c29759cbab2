-- what a reading leaves alone
def kR (lc : Nat) (M M1 : zM) : Prop := (∀ a j, ¬ (a = 20 ∧ (j ≤ 1 ∨ 4 ≤ j)) → (a < lc ∨ lc + 8 < a) → M1.1 a j = M.1 a j) ∧ M1.2 = M.2
theorem kR.rf {lc : Nat} {M : zM} : kR lc M M := ⟨fun _ _ _ _ => rfl, rfl⟩
theorem kR.tr {lc : Nat} {M M1 M2 : zM} (h : kR lc M M1) (h2 : kR lc M1 M2) : kR lc M M2 := ⟨fun a j q q2 => (h2.1 a j q q2).trans (h.1 a j q q2), h2.2.trans h.2⟩
theorem kR.w {lc : Nat} {M M1 : zM} {c k : Nat} {x : Int32} (h : kR lc M M1) (hc : (c = 20 ∧ (k ≤ 1 ∨ 4 ≤ k)) ∨ (lc ≤ c ∧ c ≤ lc + 8)) : kR lc M (zw M1 c k x) := ⟨fun a j q q2 => (zw_ne (by omega)).trans (h.1 a j q q2), h.2⟩
theorem kR_at (lc a : Nat) (M : zM) : kR lc M (rAt a M) := kR.rf.w (by omega)
theorem kR_S (lc e : Nat) (M : zM) : kR lc M (rS e M) := kR_at lc _ M
theorem kR_fail (lc : Nat) (w p : Int32) (M : zM) : kR lc M (rFail w p M) := by
  unfold rFail
  split
  · exact (kR.rf.w (by omega)).w (by omega)
  · exact kR.rf
theorem kR_T (lc e : Nat) (c : Int32) (M : zM) : kR lc M (rTm e c M) := by
  unfold rTm
  split
  · exact kR_at _ _ _
  · exact kR_S _ _ _
theorem kR_Nd (lc e : Nat) (c : Int32) (M : zM) : kR lc M (rNd e c M) := by
  unfold rNd
  split
  · exact kR_T _ _ _ _
  · exact (kR_T _ _ _ _).tr (kR_fail _ _ _ _)
theorem kR_W (lc e j : Nat) (M : zM) : kR lc M (rWm e j M) := by
  unfold rWm
  split
  · exact kR_at _ _ _
  · exact kR_S _ _ _
theorem kR_Nm (lc e lo hi : Nat) (M : zM) : kR lc M (rNm e lo hi M) := by
  unfold rNm
  split
  · exact (kR_at _ _ _).tr (kR_fail _ _ _ _)
  · split
    · exact (kR_at _ _ _).tr (kR_fail _ _ _ _)
    · exact kR_at _ _ _
theorem kR_Vm (lc e : Nat) (M : zM) : kR lc M (rVm e M) := by
  have h1 : kR lc M (rVc e M) := ((kR_T lc e _ M).tr (kR_Nm lc e _ _ _)).tr (kR_T lc e _ _)
  unfold rVm
  split
  · exact h1.tr (kR_Nm _ _ _ _ _)
  · exact h1
theorem kR_La (lc e lc2 w : Nat) (M : zM) : kR lc M (rLa e lc2 w M) := by
  unfold rLa
  split
  · exact (kR_S _ _ _).tr (kR_fail _ _ _ _)
  · exact kR.rf
theorem kR_Om (lc e j lo hi : Nat) (M : zM) : kR lc M (rOm e j lo hi M) := by
  unfold rOm
  split
  · exact (kR_W _ _ _ _).tr (kR_Nm _ _ _ _ _)
  · exact kR_W _ _ _ _
theorem kR_sa (lc w k : Nat) (v1 v2 v3 : Int32) (M : zM) : kR lc M (lSetActIf lc w k v1 v2 v3 M) := by
  unfold lSetActIf
  split
  · exact kR.rf
  · exact ((kR.rf.w (by omega)).w (by omega)).w (by omega)
theorem kR_add (lc w k : Nat) (r x q : Int32) (M : zM) : kR lc M (lAdd lc w k r x q M) := by
  unfold lAdd
  split
  · exact kR.rf
  · exact ((((((kR.rf.w (by omega)).w (by omega)).w (by omega)).w (by omega)).w (by omega)).w (by omega)).w (by omega)
theorem kR_Ac (lc e w : Nat) (M : zM) : kR lc M (rAc e lc w M) := by
  unfold rAc
  split
  · exact ((kR_W _ _ _ _).tr (kR_Vm _ _ _)).tr (kR_sa _ _ _ _ _ _ _)
  · split
    · exact (((kR_W _ _ _ _).tr (kR_Vm _ _ _)).tr (kR_Vm _ _ _)).tr (kR_sa _ _ _ _ _ _ _)
    · split
      · exact (kR_W _ _ _ _).tr (kR_sa _ _ _ _ _ _ _)
      · split
        · exact (kR_W _ _ _ _).tr (kR_sa _ _ _ _ _ _ _)
        · split
          · exact kR_W _ _ _ _
          · exact (kR_W _ _ _ _).tr (kR_fail _ _ _ _)
theorem kR_O3 (lc e n w : Nat) (M : zM) : kR lc M (rO3 e lc n w M) := (((kR_La lc e lc w M).tr (kR_Om lc e _ _ _ _)).tr (kR_Om lc e _ _ _ _)).tr (kR_Om lc e _ _ _ _)
theorem kR_Lie (lc e n w : Nat) (M : zM) : kR lc M (rLie e lc n w M) := by
  unfold rLie
  split
  · exact ((kR_O3 lc e n w M).tr (kR_add lc _ _ _ _ _ _)).tr (kR_Ac _ _ _ _)
  · exact kR_O3 lc e n w M
theorem kR_Lx (lc e n w : Nat) : ∀ (f : Nat) (M : zM), kR lc M (rLx e lc n w f M)
  | 0, _ => kR.rf
  | f + 1, M => by
    unfold rLx
    split
    · split
      · exact kR_T _ _ _ _
      · exact (((kR_T _ _ _ _).tr (kR_Lie lc e n w _)).tr (kR_Nd _ _ _ _)).tr (kR_Lx lc e n w f _)
    · exact kR.rf
theorem kR_Q1 (lc e : Nat) (M : zM) : kR lc M (rQ1 e M) := by
  unfold rQ1
  split
  · exact kR_W _ _ _ _
  · exact (kR_W _ _ _ _).tr (kR_fail _ _ _ _)
theorem kR_Q2 (lc e n : Nat) (M : zM) : kR lc M (rQ2 e n M) := ((kR_Q1 lc e M).tr (kR_S _ _ _)).tr (kR_Nm _ _ _ _ _)
theorem kR_Q3 (lc e n : Nat) (M : zM) : kR lc M (rQ3 e lc n M) := by
  unfold rQ3
  split
  · exact (kR_Q2 lc e n M).tr (kR_fail _ _ _ _)
  · exact kR_Q2 lc e n M
theorem kR_Liar (lc e n : Nat) (M : zM) : kR lc M (rLiar e lc n M) := by
  have h4 : kR lc M (rQ4 e lc n M) := (kR_Q3 lc e n M).tr (kR_Nd _ _ _ _)
  unfold rLiar
  split
  · exact (h4.w (by omega)).tr (kR_Lx lc e n _ 13 _)
  · exact h4
theorem kR_Lo (lc e n : Nat) : ∀ (f : Nat) (M : zM), kR lc M (rLo e lc n f M)
  | 0, _ => kR.rf
  | f + 1, M => by
    unfold rLo
    split
    · split
      · exact ((kR_S _ _ _).tr (kR_Liar lc e n _)).tr (kR_Lo lc e n f _)
      · exact kR_S _ _ _
    · exact kR.rf
theorem kR_clear (lc : Nat) (M : zM) : kR lc M (lClear lc M) := by
  have : ∀ k, kR lc M (zfor (fun i M => zw M (lc + 1 + 1) i (nI 0)) k (zw M lc 0 (nI 0))) := fun k => by
    induction k with
    | zero => exact kR.rf.w (by omega)
    | succ k ih => exact ih.w (by omega)
  exact this 7
theorem kR_Read (lc e n : Nat) (M : zM) : kR lc M (rRead lc e n M) := by
  have h1 : kR lc M (zw (zw (zw (zw (zw (zw M 20 4 (nI 0)) 20 5 (nI e)) 20 6 (nI n)) 20 7 (nI 0)) 20 1 (-1)) 20 0 (nI 0)) := (((((kR.rf.w (by omega)).w (by omega)).w (by omega)).w (by omega)).w (by omega)).w (by omega)
  exact (h1.tr (kR_clear lc _)).tr (kR_Lo lc e n 301 _)
theorem lyL.r {lc : Nat} (h : lyL lc) : lyR lc := ⟨h.o, by unfold lyL at h; omega, by unfold lyL at h; omega⟩
set_option maxHeartbeats 1000000 in
theorem zf_lies0 (l : Launch) (G : zG) (M : zM) (lc rc n s e : Nat) (h40 : M.1 40 0 = nI n) (hn3 : 3 ≤ n ∧ n ≤ 7) (h43 : M.1 40 3 = nI lc) (hL : lyL lc) (h22 : M.1 20 2 = nI rc) (hR2 : lyL rc) (h20 : M.1 20 0 = nI s) (hs : s ≤ 300) (he : e ≤ s) (hw : ¬ (rRead rc e n M).1 20 7 = 0) : zC l G 9 yX10_lies cX10_lies 4 (Option.some Jvm.ClassFile.FieldType.int) [.ref (0 : Nat), .int (nI e)] M (zP (some (.int ((rRead rc e n M).1 20 7 - nI 10))) ((rRead rc e n M))) := by
  refine zC_of (by decide) (Nat.le_of_ble_eq_true rfl) (fun X Q hQ hX hl hR hr => ?_)
  refine zV_loc (L' := [.ref (0 : Nat), .int (nI e), .null, .null]) rfl ?_
  obtain ⟨R, hRR⟩ : ∃ R, R = (rRead rc e n M) := ⟨_, rfl⟩
  have hK := kR_Read rc e n M
  rw [← hRR] at hK
  have hR22 : R.1 20 2 = nI rc := (hK.1 20 2 (by omega) (by unfold lyL at hR2; omega)).trans h22
  have hR43 : R.1 40 3 = nI lc := (hK.1 40 3 (by omega) (by unfold lyL at hR2; omega)).trans h43
  rw [← hRR] at hw
  refine zV_aload_n hX dX10_lies_0 rfl ?_
  refine zV_iload_n hX dX10_lies_1 rfl ?_
  refine zV_if_ltN hX (tgt := 20) dX10_lies_2 (by decide) (by omega) (fun c_2 => ?_)
  refine zV_iload_n hX dX10_lies_5 rfl ?_
  refine zV_aload_n hX dX10_lies_6 rfl ?_
  refine zV_getc hX dX10_lies_7 zf_X10_10 zo0.1 rfl ?_
  refine zV_geti hX (x := nI s) dX10_lies_10 zf_X10_115 zo20.1 rfl (h20) ?_
  refine zV_icmp_gtN hX (tgt := 20) dX10_lies_13 (by decide) ⟨by omega, by omega⟩ (fun c_13 => ?_) (fun c_13 => ?_)
  · refine zV_iconst hX (v := nI 0) dX10_lies_20 (by decide) ?_
    refine zV_topi (zb false) rfl ?_
    exfalso
    omega
  · refine zV_iconst hX (v := nI 1) dX10_lies_16 (by decide) ?_
    refine zV_goto hX (tgt := 21) dX10_lies_17 (by decide) ?_
    refine zV_topi (zb true) rfl ?_
    refine zV_cV1p hX hR hl dX10_lies_21 (zc_need1 l G _) zt_X10_need rfl zml_X10_72 zo0.1 ⟨by decide, by decide⟩ (Nat.le_of_ble_eq_true rfl) ?_
    dsimp only [Option.toList, List.cons_append, List.nil_append]
    refine zV_aload_n hX dX10_lies_24 rfl ?_
    refine zV_getc hX dX10_lies_25 zf_X10_10 zo0.1 rfl ?_
    refine zV_iload_n hX dX10_lies_28 rfl ?_
    refine zV_aload_n hX dX10_lies_29 rfl ?_
    refine zV_getc hX dX10_lies_30 zf_X10_19 zo0.1 rfl ?_
    refine zV_geti hX (x := nI n) dX10_lies_33 zf_X10_118 zo40.1 rfl (h40) ?_
    refine zV_cV2p hX hR hl dX10_lies_36 (zc_read l G M rc e n h22 hR2.r (by omega) hn3) zt_X7_read rfl zml_X10_121 zo20.1 ⟨by decide, by decide⟩ (Nat.le_of_ble_eq_true rfl) ?_
    dsimp only [Option.toList, List.cons_append, List.nil_append]
    refine zV_mem hRR.symm ?_
    refine zV_topi (R.1 20 7) (by rw [hRR]) ?_
    refine zV_istore_n hX dX10_lies_39 (by decide) ?_
    dsimp only [zst1, zst2, zclr, zc2]
    refine zV_iload_n hX dX10_lies_40 rfl ?_
    refine zV_if_eq hX (tgt := 49) dX10_lies_41 (by decide) (fun c_41 => absurd c_41 (hw)) (fun c_41 => ?_)
    refine zV_iload_n hX dX10_lies_44 rfl ?_
    refine zV_bipush hX (v := nI 10) dX10_lies_45 (by decide) ?_
    refine zV_isub hX dX10_lies_47 ?_
    exact zV_reti hX hQ hr (⟨by rw [← hRR], hRR⟩) dX10_lies_48
set_option maxHeartbeats 1000000 in
theorem zf_lies1 (l : Launch) (G : zG) (M : zM) (lc rc n s e : Nat) (h40 : M.1 40 0 = nI n) (hn3 : 3 ≤ n ∧ n ≤ 7) (h43 : M.1 40 3 = nI lc) (hL : lyL lc) (h22 : M.1 20 2 = nI rc) (hR2 : lyL rc) (h20 : M.1 20 0 = nI s) (hs : s ≤ 300) (he : e ≤ s) (hw : (rRead rc e n M).1 20 7 = 0) : zC l G 9 yX10_lies cX10_lies 4 (Option.some Jvm.ClassFile.FieldType.int) [.ref (0 : Nat), .int (nI e)] M (zP (some (.int (zpop ((rRead rc e n M).1 rc 0)))) (zw (zw (rRead rc e n M) 40 3 (nI rc)) 20 2 (nI lc))) := by
  refine zC_of (by decide) (Nat.le_of_ble_eq_true rfl) (fun X Q hQ hX hl hR hr => ?_)
  refine zV_loc (L' := [.ref (0 : Nat), .int (nI e), .null, .null]) rfl ?_
  obtain ⟨R, hRR⟩ : ∃ R, R = (rRead rc e n M) := ⟨_, rfl⟩
  have hK := kR_Read rc e n M
  rw [← hRR] at hK
  have hR22 : R.1 20 2 = nI rc := (hK.1 20 2 (by omega) (by unfold lyL at hR2; omega)).trans h22
  have hR43 : R.1 40 3 = nI lc := (hK.1 40 3 (by omega) (by unfold lyL at hR2; omega)).trans h43
  rw [← hRR] at hw
  refine zV_aload_n hX dX10_lies_0 rfl ?_
  refine zV_iload_n hX dX10_lies_1 rfl ?_
  refine zV_if_ltN hX (tgt := 20) dX10_lies_2 (by decide) (by omega) (fun c_2 => ?_)
  refine zV_iload_n hX dX10_lies_5 rfl ?_
  refine zV_aload_n hX dX10_lies_6 rfl ?_
  refine zV_getc hX dX10_lies_7 zf_X10_10 zo0.1 rfl ?_
  refine zV_geti hX (x := nI s) dX10_lies_10 zf_X10_115 zo20.1 rfl (h20) ?_
  refine zV_icmp_gtN hX (tgt := 20) dX10_lies_13 (by decide) ⟨by omega, by omega⟩ (fun c_13 => ?_) (fun c_13 => ?_)
  · refine zV_iconst hX (v := nI 0) dX10_lies_20 (by decide) ?_
    refine zV_topi (zb false) rfl ?_
    exfalso
    omega
  · refine zV_iconst hX (v := nI 1) dX10_lies_16 (by decide) ?_
    refine zV_goto hX (tgt := 21) dX10_lies_17 (by decide) ?_
    refine zV_topi (zb true) rfl ?_
    refine zV_cV1p hX hR hl dX10_lies_21 (zc_need1 l G _) zt_X10_need rfl zml_X10_72 zo0.1 ⟨by decide, by decide⟩ (Nat.le_of_ble_eq_true rfl) ?_
    dsimp only [Option.toList, List.cons_append, List.nil_append]
    refine zV_aload_n hX dX10_lies_24 rfl ?_
    refine zV_getc hX dX10_lies_25 zf_X10_10 zo0.1 rfl ?_
    refine zV_iload_n hX dX10_lies_28 rfl ?_
    refine zV_aload_n hX dX10_lies_29 rfl ?_
    refine zV_getc hX dX10_lies_30 zf_X10_19 zo0.1 rfl ?_
    refine zV_geti hX (x := nI n) dX10_lies_33 zf_X10_118 zo40.1 rfl (h40) ?_
    refine zV_cV2p hX hR hl dX10_lies_36 (zc_read l G M rc e n h22 hR2.r (by omega) hn3) zt_X7_read rfl zml_X10_121 zo20.1 ⟨by decide, by decide⟩ (Nat.le_of_ble_eq_true rfl) ?_
    dsimp only [Option.toList, List.cons_append, List.nil_append]
    refine zV_mem hRR.symm ?_
    refine zV_topi (R.1 20 7) (by rw [hRR]) ?_
    refine zV_istore_n hX dX10_lies_39 (by decide) ?_
    dsimp only [zst1, zst2, zclr, zc2]
    refine zV_iload_n hX dX10_lies_40 rfl ?_
    refine zV_if_eq hX (tgt := 49) dX10_lies_41 (by decide) (fun c_41 => ?_) (fun c_41 => absurd c_41 (not_not_intro hw))
    refine zV_aload_n hX dX10_lies_49 rfl ?_
    refine zV_getc hX dX10_lies_50 zf_X10_19 zo0.1 rfl ?_
    refine zV_getp hX dX10_lies_53 zf_X10_125 zo40.1 rfl (hR43) hL.lt ?_
    refine zV_astore_n hX dX10_lies_56 (by decide) ?_
    dsimp only [zst1, zst2, zclr, zc2]
    refine zV_aload_n hX dX10_lies_57 rfl ?_
    refine zV_getc hX dX10_lies_58 zf_X10_19 zo0.1 rfl ?_
    refine zV_aload_n hX dX10_lies_61 rfl ?_
    refine zV_getc hX dX10_lies_62 zf_X10_10 zo0.1 rfl ?_
    refine zV_getp hX dX10_lies_65 zf_X10_129 zo20.1 rfl (hR22) hR2.lt ?_
    refine zV_putp hX dX10_lies_68 zf_X10_125 zp_1_3 zo40.1 rfl (hR2.lt) ?_
    refine zV_aload_n hX dX10_lies_71 rfl ?_
    refine zV_getc hX dX10_lies_72 zf_X10_10 zo0.1 rfl ?_
    refine zV_aload_n hX dX10_lies_75 rfl ?_
    refine zV_putp hX dX10_lies_76 zf_X10_129 zp_6_2 zo20.1 rfl (hL.lt) ?_
    refine zV_aload_n hX dX10_lies_79 rfl ?_
    refine zV_getc hX dX10_lies_80 zf_X10_19 zo0.1 rfl ?_
    refine zV_getp hX dX10_lies_83 zf_X10_125 zo40.1 rfl ((zw_ne (by omega)).trans zw_same) hR2.lt ?_
    refine zV_geti hX (x := R.1 rc 0) dX10_lies_86 zf_X10_132 hR2.o.1 rfl ((zw_ne (by unfold lyL at hR2; omega)).trans (zw_ne (by unfold lyL at hR2; omega))) ?_
    refine zV_cS1p hX hR hl dX10_lies_89 (zc_bitCount l G _ _) zt_J6_bitCount_0f7a4 rfl zml_X10_137 (by decide) (Nat.le_of_ble_eq_true rfl) ?_
    dsimp only [Option.toList, List.cons_append, List.nil_append]
    exact zV_reti hX hQ hr (⟨by rw [← hRR], by rw [← hRR]⟩) dX10_lies_92
set_option maxHeartbeats 1000000 in
theorem zf_liesK (l : Launch) (G : zG) (M : zM) (hst : l.stackTraces = false) (s : Nat) (k : Int32) (h20 : M.1 20 0 = nI s) (hs : s ≤ 300) (hk : mIn k (nI 0) (nI s) = false) : zCx l G 9 1 6 yX10_lies cX10_lies 4 (Option.some Jvm.ClassFile.FieldType.int) [.ref (0 : Nat), .int k] M zIAE (mBa M) := by
  refine zCx_of (by decide) (Nat.le_of_ble_eq_true rfl) (fun X Q hQ hX hl hR hEx ht => ?_)
  refine zV_loc (L' := [.ref (0 : Nat), .int k, .null, .null]) rfl ?_
  refine zV_aload_n hX dX10_lies_0 rfl ?_
  refine zV_iload_n hX dX10_lies_1 rfl ?_
  refine zV_if_lt hX (tgt := 20) dX10_lies_2 (by decide) (fun c_2 => ?_) (fun c_2 => ?_)
  · refine zV_iconst hX (v := nI 0) dX10_lies_20 (by decide) ?_
    refine zV_topi (zb false) rfl ?_
    exact zX_cV1 hX hEx hR hl hQ ht dX10_lies_21 (zc_need0 l G _ hst) zt_X10_need rfl zml_X10_72 zo0.1 ⟨by decide, by decide⟩ (Nat.le_of_ble_eq_true rfl) (by omega)
  · refine zV_iload_n hX dX10_lies_5 rfl ?_
    refine zV_aload_n hX dX10_lies_6 rfl ?_
    refine zV_getc hX dX10_lies_7 zf_X10_10 zo0.1 rfl ?_
    refine zV_geti hX (x := nI s) dX10_lies_10 zf_X10_115 zo20.1 rfl (h20) ?_
    refine zV_icmp_gt hX (tgt := 20) dX10_lies_13 (by decide) (fun c_13 => ?_) (fun c_13 => ?_)
    · refine zV_iconst hX (v := nI 0) dX10_lies_20 (by decide) ?_
      refine zV_topi (zb false) rfl ?_
      exact zX_cV1 hX hEx hR hl hQ ht dX10_lies_21 (zc_need0 l G _ hst) zt_X10_need rfl zml_X10_72 zo0.1 ⟨by decide, by decide⟩ (Nat.le_of_ble_eq_true rfl) (by omega)
    · refine zV_iconst hX (v := nI 1) dX10_lies_16 (by decide) ?_
      refine zV_goto hX (tgt := 21) dX10_lies_17 (by decide) ?_
      refine zV_topi (zb true) rfl ?_
      rw [mIn_t (show ¬ k < nI 0 from c_2) c_13] at hk
      exact absurd hk (by decide)
