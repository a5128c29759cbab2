section zLdcw
variable {G : zG} {X : zX} {Q : State → Prop} {own : String} {cc : ByteArray} {nL cells slots pc : Nat} {L S : List Value} {M : zM}
theorem zV_ldcsw (h : zOk G X own cc nL) {idx j : Nat} {tx : String} (d : decode cc pc = .ok (.ldc_w idx, 3)) (hm : (own, idx, tx, j) ∈ zSR) (k : zV G X Q nL cells slots (pc + 3) L (.ref (5000 + j) :: S) M) : zV G X Q nL cells slots pc L S M := fun H locs ls hW hS hy T hT Y => by
  have hr := h.2.2.2.2.2.2.1.2.2.2.2.1 _ hm
  obtain ⟨t, a, b⟩ := k H locs ls hW hS hy T hT Y
  exact ⟨t, Y.ldcStringW h.1 h.2.2.2.1 hr.1 hr.2 (g := F0 _ pc ls _) rfl (by rw [h.2.1]; exact d) t a, b⟩
end zLdcw
theorem mWr_6 {w p : Int32} {M : zM} (hw : ¬ w = 0) : ¬ (mWr w p M).1 300 6 = 0 := by
  unfold mWr
  split
  · rw [zw_ne (by omega), zw_same]; exact hw
  · assumption
theorem uNm_ok {e lo hi : Nat} {M : zM} (h : (uNm e lo hi M).1 300 6 = 0) : M.1 300 6 = 0 ∧ lo ≤ uNv e M ∧ uNv e M ≤ hi ∧ uNm e lo hi M = uNc e M := by
  unfold uNm at h ⊢
  split at h
  · rename_i h6
    split at h
    · exact absurd h (mWr_6 (by decide))
    · rename_i hb
      rw [if_pos h6, if_neg hb]
      exact ⟨h6, by omega, by omega, rfl⟩
  · exact absurd h (by assumption)
theorem uNx_b {e lo hi : Nat} {M : zM} (hl : lo ≤ hi) : ∃ v, uNx e lo hi M = nI v ∧ lo ≤ v ∧ v ≤ hi := by
  unfold uNx
  split
  · rename_i h
    obtain ⟨-, h2, h3, -⟩ := uNm_ok h
    exact ⟨_, rfl, h2, h3⟩
  · exact ⟨lo, rfl, Nat.le_refl lo, hl⟩
/-- frame of the reader -/
def uFr (a j : Nat) : Prop := a = 300 ∧ (j = 4 ∨ j = 6 ∨ j = 7 ∨ j = 15)
abbrev kU (M M' : zM) : Prop := zKf uFr M M'
theorem uAt_k (a : Nat) (M : zM) : kU M (uAt a M) := zKf.rf.w (by unfold uFr; omega)
theorem mWr_k (w p : Int32) (M : zM) : kU M (mWr w p M) := by
  unfold mWr
  split
  · exact (zKf.rf.w (by unfold uFr; omega)).w (by unfold uFr; omega)
  · exact zKf.rf
theorem uNb_k (e : Nat) (M : zM) : kU M (uNb e M) := by
  unfold uNb uNa
  refine zKf.w ?_ (by unfold uFr; omega)
  split
  · exact (uAt_k _ M).tr (mWr_k _ _ _)
  · exact uAt_k _ M
theorem uNm_k (e lo hi : Nat) (M : zM) : kU M (uNm e lo hi M) := by
  unfold uNm
  split
  · split
    · exact ((uNb_k e M).tr (uAt_k _ _)).tr (mWr_k _ _ _)
    · exact (uNb_k e M).tr (uAt_k _ _)
  · exact zKf.rf
theorem uTm_k (e j : Nat) (M : zM) : kU M (uTm e j M) := by
  unfold uTm
  split
  · split
    · exact uAt_k _ M
    · exact uAt_k _ M
  · exact zKf.rf
theorem uSg_k (e : Nat) (c : Int32) (M : zM) : kU M (uSg e c M) := by
  unfold uSg
  split
  · split
    · exact uAt_k _ M
    · exact (uAt_k _ M).tr (mWr_k _ _ _)
  · exact zKf.rf
-- a value
def uVa (e : Nat) (M : zM) : zM := if uBy e M (uSp e M) = nI 45 then uAt (uSp e M + 1) M else uS e M
def uVb (e : Nat) (M : zM) : zM := uNm e 0 99999 (uVa e M)
def uVn (e : Nat) (M : zM) : Int32 := uNx e 0 99999 (uVa e M)
def uVc (e : Nat) (M : zM) : zM := uAt (uSp e (uVb e M) + 1) (uVb e M)
def uVs (e : Nat) (M : zM) : Bool := decide ((uVb e M).1 300 6 = 0) && decide (uBy e (uVb e M) (uSp e (uVb e M)) = nI 47)
def uVm (e : Nat) (M : zM) : zM := if uVs e M then uNm e 1 999 (uVc e M) else if (uVb e M).1 300 6 = 0 then uS e (uVb e M) else uVb e M
def uVd (e : Nat) (M : zM) : Int32 := if uVs e M then uNx e 1 999 (uVc e M) else nI 1
def uVg (e : Nat) (M : zM) : Bool := decide (uBy e M (uSp e M) = nI 45)
def uVx (e : Nat) (M : zM) : Int32 := if uVg e M then -(uVn e M) else uVn e M
def uVv (e : Nat) (M : zM) : Int32 := if M.1 300 6 = 0 then frac (uVx e M) (uVd e M) else nI 0
def uVz (e : Nat) (M : zM) : zM := if M.1 300 6 = 0 then uVm e M else M
theorem uSt_Va {e n : Nat} {M : zM} (h : uSt e n M) (he : e ≤ 300) : uSt e n (uVa e M) := by
  unfold uVa
  split
  · rename_i hb; exact uSt_at h (uBy_is (by decide) hb).1 he
  · exact uSt_S h he
theorem uSt_Vb {e n : Nat} {M : zM} (h : uSt e n M) (he : e ≤ 300) : uSt e n (uVb e M) := uSt_Nm (uSt_Va h he) he
theorem uVs_in {e : Nat} {M : zM} (h : uVs e M = true) : uSp e (uVb e M) < e := by
  unfold uVs at h
  rw [Bool.and_eq_true, decide_eq_true_eq, decide_eq_true_eq] at h
  exact (uBy_is (by decide) h.2).1
theorem uSt_Vm {e n : Nat} {M : zM} (h : uSt e n M) (he : e ≤ 300) : uSt e n (uVm e M) := by
  have hb := uSt_Vb h he
  unfold uVm
  split
  · rename_i hs; exact uSt_Nm (uSt_at hb (uVs_in hs) he) he
  · split
    · exact uSt_S hb he
    · exact hb
theorem uSt_Vz {e n : Nat} {M : zM} (h : uSt e n M) (he : e ≤ 300) : uSt e n (uVz e M) := by
  unfold uVz
  split
  · exact uSt_Vm h he
  · exact h
theorem uVz_k (e : Nat) (M : zM) : kU M (uVz e M) := by
  have ha : kU M (uVa e M) := by
    unfold uVa
    split
    · exact uAt_k _ M
    · exact uAt_k _ M
  have hb : kU M (uVb e M) := ha.tr (uNm_k _ _ _ _)
  unfold uVz uVm
  split
  · split
    · exact (hb.tr (uAt_k _ _)).tr (uNm_k _ _ _ _)
    · split
      · exact hb.tr (uAt_k _ _)
      · exact hb
  · exact zKf.rf
theorem uVx_b (e : Nat) (M : zM) : ∃ A : Nat, (uVx e M).toInt.natAbs = A ∧ A ≤ 99999 := by
  obtain ⟨v, h1, h2, h3⟩ := uNx_b (e := e) (lo := 0) (hi := 99999) (M := uVa e M) (by decide)
  refine ⟨v, ?_, h3⟩
  unfold uVx uVn
  rw [h1]
  split
  · rw [neg_nI (by omega)]; omega
  · rw [toInt_nI' (by omega)]; omega
theorem uVd_b (e : Nat) (M : zM) : ∃ B : Nat, uVd e M = nI B ∧ 1 ≤ B ∧ B ≤ 999 := by
  unfold uVd
  split
  · exact uNx_b (by decide)
  · exact ⟨1, rfl, by decide, by decide⟩
theorem uVv_ok (e : Nat) (M : zM) : okV (uVv e M) := by
  unfold uVv
  split
  · obtain ⟨A, h1, h2⟩ := uVx_b e M
    obtain ⟨B, h3, h4, h5⟩ := uVd_b e M
    rw [h3]
    exact frac_ok h1 h2 (toInt_nI' (by omega)) h4 h5
  · exact ⟨false, 0, 0, ⟨rfl, by decide, by decide⟩, Or.inr rfl, by decide⟩
set_option maxHeartbeats 1000000 in
theorem zc_valueHere (l : Launch) (G : zG) (M : zM) (e n : Nat) (hM : uSt e n M) (he : e ≤ 300) : zC l G 3 yX11_valueHere cX11_valueHere 4 (Option.some Jvm.ClassFile.FieldType.int) [.ref (300 : Nat)] M (zP (some (.int (uVv e M))) (uVz e M)) := by
  refine zC_of (by decide) (Nat.le_of_ble_eq_true rfl) (fun X Q hQ hX hl hR hr => ?_)
  refine zV_loc (L' := [.ref (300 : Nat), .null, .null, .null]) rfl ?_
  have J83 : M.1 300 6 = 0 → zV G X Q 4 0 0 83 [.ref (300 : Nat), .int (zb (uVg e M)), .int (uVn e M), .int (uVd e M)] [] (uVm e M) := by
    intro h6
    obtain ⟨A, hA, hA2⟩ := uVx_b e M
    obtain ⟨B, hB, hB2, hB3⟩ := uVd_b e M
    have hB1 : (uVd e M).toInt = (B : Int) := by rw [hB, toInt_nI' (by omega)]
    refine zV_iload_n hX dX11_valueHere_83 rfl ?_
    refine zV_if_eqB hX (tgt := 92) dX11_valueHere_84 (by decide) (fun c_84 => ?_) (fun c_84 => ?_)
    · have e3 : uVx e M = uVn e M := by unfold uVx; rw [c_84]; rfl
      refine zV_iload_n hX dX11_valueHere_92 rfl ?_
      refine zV_topi (uVx e M) e3.symm ?_
      refine zV_iload_n hX dX11_valueHere_93 rfl ?_
      refine zV_cS2p hX hR hl dX11_valueHere_94 (zc_mbits l G _ _ _ A B hA hA2 hB1 hB2 hB3) zt_X11_bits rfl zml_X11_185 (by decide) (Nat.le_of_ble_eq_true rfl) ?_
      dsimp only [Option.toList, List.cons_append, List.nil_append]
      exact zV_reti hX hQ hr (⟨by rw [uVv, if_pos h6], by rw [uVz, if_pos h6]⟩) dX11_valueHere_97
    · have e3 : uVx e M = -(uVn e M) := by unfold uVx; rw [c_84]; rfl
      refine zV_iload_n hX dX11_valueHere_87 rfl ?_
      refine zV_ineg hX dX11_valueHere_88 ?_
      refine zV_goto hX (tgt := 93) dX11_valueHere_89 (by decide) ?_
      refine zV_topi (uVx e M) e3.symm ?_
      refine zV_iload_n hX dX11_valueHere_93 rfl ?_
      refine zV_cS2p hX hR hl dX11_valueHere_94 (zc_mbits l G _ _ _ A B hA hA2 hB1 hB2 hB3) zt_X11_bits rfl zml_X11_185 (by decide) (Nat.le_of_ble_eq_true rfl) ?_
      dsimp only [Option.toList, List.cons_append, List.nil_append]
      exact zV_reti hX hQ hr (⟨by rw [uVv, if_pos h6], by rw [uVz, if_pos h6]⟩) dX11_valueHere_97
  have J38 : M.1 300 6 = 0 → zV G X Q 4 0 0 38 [.ref (300 : Nat), .int (zb (uVg e M)), .null, .null] [] (uVa e M) := by
    intro h6
    refine zV_aload_n hX dX11_valueHere_38 rfl ?_
    refine zV_iconst hX (v := nI 0) dX11_valueHere_39 (by decide) ?_
    refine zV_ldc hX dX11_valueHere_40 zkc_X11_184 ?_
    refine zV_topi (nI 99999) (by decide) ?_
    refine zV_cV2p hX hR hl dX11_valueHere_42 (zc_number l G _ e n 0 99999 (uSt_Va hM he) he (by decide) (by decide)) zt_X11_number rfl zml_X11_249 zo300.1 ⟨by decide, by decide⟩ (Nat.le_of_ble_eq_true rfl) ?_
    dsimp only [Option.toList, List.cons_append, List.nil_append]
    refine zV_istore_n hX dX11_valueHere_45 (by decide) ?_
    dsimp only [zst1, zst2, zclr, zc2]
    refine zV_iconst hX (v := nI 1) dX11_valueHere_46 (by decide) ?_
    refine zV_istore_n hX dX11_valueHere_47 (by decide) ?_
    dsimp only [zst1, zst2, zclr, zc2]
    refine zV_aload_n hX dX11_valueHere_48 rfl ?_
    refine zV_cV0p hX hR hl dX11_valueHere_49 (zc_fine l G _) zt_X11_fine rfl zml_X11_208 zo300.1 ⟨by decide, by decide⟩ (Nat.le_of_ble_eq_true rfl) ?_
    dsimp only [Option.toList, List.cons_append, List.nil_append]
    refine zV_if_eqB hX (tgt := 83) dX11_valueHere_52 (by decide) (fun c_52 => ?_) (fun c_52 => ?_)
    · have e1 : uVs e M = false := by unfold uVs; rw [show decide ((uVb e M).1 300 6 = 0) = false from c_52]; rfl
      have e2 : uVm e M = uVb e M := by rw [uVm, if_neg (by rw [e1]; decide), if_neg (show ¬ (uVb e M).1 300 6 = 0 from of_decide_eq_false c_52)]
      refine zV_mem e2.symm ?_
      refine zV_loc (L' := [.ref (300 : Nat), .int (zb (uVg e M)), .int (uVn e M), .int (uVd e M)]) (by unfold uVd uVn; rw [e1]; try rfl) ?_
      exact J83 h6
    · have hb6 : (uVb e M).1 300 6 = 0 := of_decide_eq_true c_52
      refine zV_aload_n hX dX11_valueHere_55 rfl ?_
      refine zV_cV0p hX hR hl dX11_valueHere_56 (zc_here l G _ e n (uSt_Vb hM he) he) zt_X11_here rfl zml_X11_212 zo300.1 ⟨by decide, by decide⟩ (Nat.le_of_ble_eq_true rfl) ?_
      dsimp only [Option.toList, List.cons_append, List.nil_append]
      refine zV_bipush hX (v := nI 47) dX11_valueHere_59 (by decide) ?_
      refine zV_icmp_ne hX (tgt := 83) dX11_valueHere_61 (by decide) (fun c_61 => ?_) (fun c_61 => ?_)
      · have e1 : uVs e M = false := by unfold uVs; rw [show decide (uBy e (uVb e M) (uSp e (uVb e M)) = nI 47) = false from decide_eq_false c_61, Bool.and_false]
        have e2 : uVm e M = uS e (uVb e M) := by rw [uVm, if_neg (by rw [e1]; decide), if_pos hb6]
        refine zV_mem e2.symm ?_
        refine zV_loc (L' := [.ref (300 : Nat), .int (zb (uVg e M)), .int (uVn e M), .int (uVd e M)]) (by unfold uVd uVn; rw [e1]; try rfl) ?_
        exact J83 h6
      · have e1 : uVs e M = true := by unfold uVs; rw [decide_eq_true hb6, show decide (uBy e (uVb e M) (uSp e (uVb e M)) = nI 47) = true from decide_eq_true c_61]; rfl
        have e2 : uVm e M = uNm e 1 999 (uVc e M) := by rw [uVm, if_pos e1]
        refine zV_aload_n hX dX11_valueHere_64 rfl ?_
        refine zV_dup hX dX11_valueHere_65 rfl ?_
        refine zV_geti hX dX11_valueHere_66 zf_X11_195 zo300.1 rfl (zw_same) ?_
        refine zV_iconst hX (v := nI 1) dX11_valueHere_69 (by decide) ?_
        refine zV_iaddN hX dX11_valueHere_70 ?_
        refine zV_puti hX dX11_valueHere_71 zf_X11_195 zp_9_4 zo300.1 rfl ?_
        refine zV_mem (show _ = uVc e M from uAt_uAt _ _ _) ?_
        refine zV_aload_n hX dX11_valueHere_74 rfl ?_
        refine zV_iconst hX (v := nI 1) dX11_valueHere_75 (by decide) ?_
        refine zV_sipush hX (v := nI 999) dX11_valueHere_76 (by decide) ?_
        refine zV_cV2p hX hR hl dX11_valueHere_79 (zc_number l G _ e n 1 999 (uSt_at (uSt_Vb hM he) (uVs_in e1) he) he (by decide) (by decide)) zt_X11_number rfl zml_X11_249 zo300.1 ⟨by decide, by decide⟩ (Nat.le_of_ble_eq_true rfl) ?_
        dsimp only [Option.toList, List.cons_append, List.nil_append]
        refine zV_istore_n hX dX11_valueHere_82 (by decide) ?_
        dsimp only [zst1, zst2, zclr, zc2]
        refine zV_mem e2.symm ?_
        refine zV_loc (L' := [.ref (300 : Nat), .int (zb (uVg e M)), .int (uVn e M), .int (uVd e M)]) (by unfold uVd uVn; rw [e1]; try rfl) ?_
        exact J83 h6
  refine zV_aload_n hX dX11_valueHere_0 rfl ?_
  refine zV_cV0p hX hR hl dX11_valueHere_1 (zc_fine l G M) zt_X11_fine rfl zml_X11_208 zo300.1 ⟨by decide, by decide⟩ (Nat.le_of_ble_eq_true rfl) ?_
  dsimp only [Option.toList, List.cons_append, List.nil_append]
  refine zV_if_neB hX (tgt := 9) dX11_valueHere_4 (by decide) (fun c_4 => ?_) (fun c_4 => ?_)
  · have h6 : M.1 300 6 = 0 := by simpa using c_4
    refine zV_aload_n hX dX11_valueHere_9 rfl ?_
    refine zV_cV0p hX hR hl dX11_valueHere_10 (zc_here l G M e n hM he) zt_X11_here rfl zml_X11_212 zo300.1 ⟨by decide, by decide⟩ (Nat.le_of_ble_eq_true rfl) ?_
    dsimp only [Option.toList, List.cons_append, List.nil_append]
    refine zV_bipush hX (v := nI 45) dX11_valueHere_13 (by decide) ?_
    refine zV_icmp_ne hX (tgt := 22) dX11_valueHere_15 (by decide) (fun c_15 => ?_) (fun c_15 => ?_)
    · have e1 : uVg e M = false := decide_eq_false c_15
      have e2 : uVa e M = uS e M := if_neg c_15
      refine zV_iconst hX (v := nI 0) dX11_valueHere_22 (by decide) ?_
      refine zV_istore_n hX dX11_valueHere_23 (by decide) ?_
      dsimp only [zst1, zst2, zclr, zc2]
      refine zV_iload_n hX dX11_valueHere_24 rfl ?_
      refine zV_if_eqN hX (tgt := 38) dX11_valueHere_25 (by decide) (by omega) (fun c_25 => ?_) (fun c_25 => ?_)
      · first
          | exact absurd c_25 (by decide)
          | exact zV_mem (show _ = uVa e M by rw [e2]; all_goals first | rfl | exact uAt_uAt _ _ _) (zV_loc (L' := [.ref (300 : Nat), .int (zb (uVg e M)), .null, .null]) (by rw [e1]; rfl) (J38 h6))
      · refine zV_aload_n hX dX11_valueHere_28 rfl ?_
        refine zV_dup hX dX11_valueHere_29 rfl ?_
        refine zV_geti hX dX11_valueHere_30 zf_X11_195 zo300.1 rfl (zw_same) ?_
        refine zV_iconst hX (v := nI 1) dX11_valueHere_33 (by decide) ?_
        refine zV_iaddN hX dX11_valueHere_34 ?_
        refine zV_puti hX dX11_valueHere_35 zf_X11_195 zp_9_4 zo300.1 rfl ?_
        first
          | exact absurd c_25 (by decide)
          | exact zV_mem (show _ = uVa e M by rw [e2]; all_goals first | rfl | exact uAt_uAt _ _ _) (zV_loc (L' := [.ref (300 : Nat), .int (zb (uVg e M)), .null, .null]) (by rw [e1]; rfl) (J38 h6))
    · have e1 : uVg e M = true := decide_eq_true c_15
      have e2 : uVa e M = uAt (uSp e M + 1) M := if_pos c_15
      refine zV_iconst hX (v := nI 1) dX11_valueHere_18 (by decide) ?_
      refine zV_goto hX (tgt := 23) dX11_valueHere_19 (by decide) ?_
      refine zV_istore_n hX dX11_valueHere_23 (by decide) ?_
      dsimp only [zst1, zst2, zclr, zc2]
      refine zV_iload_n hX dX11_valueHere_24 rfl ?_
      refine zV_if_eqN hX (tgt := 38) dX11_valueHere_25 (by decide) (by omega) (fun c_25 => ?_) (fun c_25 => ?_)
      · first
          | exact absurd c_25 (by decide)
          | exact zV_mem (show _ = uVa e M by rw [e2]; all_goals first | rfl | exact uAt_uAt _ _ _) (zV_loc (L' := [.ref (300 : Nat), .int (zb (uVg e M)), .null, .null]) (by rw [e1]; rfl) (J38 h6))
      · refine zV_aload_n hX dX11_valueHere_28 rfl ?_
        refine zV_dup hX dX11_valueHere_29 rfl ?_
        refine zV_geti hX dX11_valueHere_30 zf_X11_195 zo300.1 rfl (zw_same) ?_
        refine zV_iconst hX (v := nI 1) dX11_valueHere_33 (by decide) ?_
        refine zV_iaddN hX dX11_valueHere_34 ?_
        refine zV_puti hX dX11_valueHere_35 zf_X11_195 zp_9_4 zo300.1 rfl ?_
        first
          | exact absurd c_25 (by decide)
          | exact zV_mem (show _ = uVa e M by rw [e2]; all_goals first | rfl | exact uAt_uAt _ _ _) (zV_loc (L' := [.ref (300 : Nat), .int (zb (uVg e M)), .null, .null]) (by rw [e1]; rfl) (J38 h6))
  · have h6 : ¬ M.1 300 6 = 0 := by simpa using c_4
    refine zV_iconst hX (v := nI 0) dX11_valueHere_7 (by decide) ?_
    exact zV_reti hX hQ hr (⟨by rw [uVv, if_neg h6]; try rfl, by rw [uVz, if_neg h6]⟩) dX11_valueHere_8
def uA5 (e : Nat) (M : zM) : zM := uTm e 4 M
def uA6 (e : Nat) (M : zM) : zM := uTm e 5 (uA5 e M)
def uA7 (e : Nat) (M : zM) : zM := uTm e 6 (uA6 e M)
def uA8 (e : Nat) (M : zM) : zM := uTm e 7 (uA7 e M)
def uA9 (e : Nat) (M : zM) : zM := uTm e 8 (uA8 e M)
def uAx (e : Nat) (M : zM) : Nat := if uTk e 4 M then 0 else if uTk e 5 (uA5 e M) then 1 else if uTk e 6 (uA6 e M) then 2 else if uTk e 7 (uA7 e M) then 3 else 4
def uAm (e : Nat) (M : zM) : zM := if uTk e 4 M then uA5 e M else if uTk e 5 (uA5 e M) then uA6 e M else if uTk e 6 (uA6 e M) then uA7 e M else if uTk e 7 (uA7 e M) then uA8 e M else if uTk e 8 (uA8 e M) then uA9 e M else mWr (nI 1) ((uA9 e M).1 300 4) (uA9 e M)
theorem uAx_lt (e : Nat) (M : zM) : uAx e M ≤ 4 := by
  unfold uAx
  split
  · decide
  · split
    · decide
    · split
      · decide
      · split <;> decide
theorem uSt_Am {e n : Nat} {M : zM} (h : uSt e n M) (he : e ≤ 300) : uSt e n (uAm e M) := by
  have h5 : uSt e n (uA5 e M) := uSt_Tm h he
  have h6 : uSt e n (uA6 e M) := uSt_Tm h5 he
  have h7 : uSt e n (uA7 e M) := uSt_Tm h6 he
  have h8 : uSt e n (uA8 e M) := uSt_Tm h7 he
  have h9 : uSt e n (uA9 e M) := uSt_Tm h8 he
  unfold uAm
  split
  · exact h5
  · split
    · exact h6
    · split
      · exact h7
      · split
        · exact h8
        · split
          · exact h9
          · exact uSt_W h9
theorem uAm_k (e : Nat) (M : zM) : kU M (uAm e M) := by
  have h5 : kU M (uA5 e M) := uTm_k _ _ _
  have h6 : kU M (uA6 e M) := h5.tr (uTm_k _ _ _)
  have h7 : kU M (uA7 e M) := h6.tr (uTm_k _ _ _)
  have h8 : kU M (uA8 e M) := h7.tr (uTm_k _ _ _)
  have h9 : kU M (uA9 e M) := h8.tr (uTm_k _ _ _)
  unfold uAm
  split
  · exact h5
  · split
    · exact h6
    · split
      · exact h7
      · split
        · exact h8
        · split
          · exact h9
          · exact h9.tr (mWr_k _ _ _)
def uLb (e : Nat) (M : zM) : Bool := uWb e 1 M || uWb e 2 M || uWb e 3 M || uWb e 4 M || uWb e 5 M || uWb e 6 M || uWb e 7 M || uWb e 8 M
set_option maxHeartbeats 1000000 in
theorem zc_actHere (l : Launch) (G : zG) (M : zM) (e n : Nat) (hM : uSt e n M) (he : e ≤ 300) : zC l G 6 yX11_actHere cX11_actHere 1 (Option.some Jvm.ClassFile.FieldType.int) [.ref (300 : Nat)] M (zP (some (.int (nI (uAx e M)))) (uAm e M)) := by
  refine zC_of (by decide) (Nat.le_of_ble_eq_true rfl) (fun X Q hQ hX hl hR hr => ?_)
  refine zV_loc (L' := [.ref (300 : Nat)]) rfl ?_
  have h5 : uSt e n (uA5 e M) := uSt_Tm hM he
  have h6 : uSt e n (uA6 e M) := uSt_Tm h5 he
  have h7 : uSt e n (uA7 e M) := uSt_Tm h6 he
  have h8 : uSt e n (uA8 e M) := uSt_Tm h7 he
  have h9 : uSt e n (uA9 e M) := uSt_Tm h8 he
  refine zV_aload_n hX dX11_actHere_0 rfl ?_
  refine zV_ldcs hX (j := 4) dX11_actHere_1 zsr_X11_252 ?_
  refine zV_cV1p hX hR hl dX11_actHere_3 (zc_takes l G M e n 4 hM he (by decide)) zt_X11_takes rfl zml_X11_253 zo300.1 ⟨by decide, by decide⟩ (Nat.le_of_ble_eq_true rfl) ?_
  dsimp only [Option.toList, List.cons_append, List.nil_append]
  refine zV_mem (show _ = uA5 e M from rfl) ?_
  refine zV_if_eqB hX (tgt := 11) dX11_actHere_6 (by decide) (fun c_6 => ?_) (fun c_6 => ?_)
  · refine zV_aload_n hX dX11_actHere_11 rfl ?_
    refine zV_ldcsw hX (j := 5) dX11_actHere_12 zsr_X11_257 ?_
    refine zV_cV1p hX hR hl dX11_actHere_15 (zc_takes l G (uA5 e M) e n 5 h5 he (by decide)) zt_X11_takes rfl zml_X11_253 zo300.1 ⟨by decide, by decide⟩ (Nat.le_of_ble_eq_true rfl) ?_
    dsimp only [Option.toList, List.cons_append, List.nil_append]
    refine zV_mem (show _ = uA6 e M from rfl) ?_
    refine zV_if_eqB hX (tgt := 23) dX11_actHere_18 (by decide) (fun c_18 => ?_) (fun c_18 => ?_)
    · refine zV_aload_n hX dX11_actHere_23 rfl ?_
      refine zV_ldcsw hX (j := 6) dX11_actHere_24 zsr_X11_259 ?_
      refine zV_cV1p hX hR hl dX11_actHere_27 (zc_takes l G (uA6 e M) e n 6 h6 he (by decide)) zt_X11_takes rfl zml_X11_253 zo300.1 ⟨by decide, by decide⟩ (Nat.le_of_ble_eq_true rfl) ?_
      dsimp only [Option.toList, List.cons_append, List.nil_append]
      refine zV_mem (show _ = uA7 e M from rfl) ?_
      refine zV_if_eqB hX (tgt := 35) dX11_actHere_30 (by decide) (fun c_30 => ?_) (fun c_30 => ?_)
      · refine zV_aload_n hX dX11_actHere_35 rfl ?_
        refine zV_ldcsw hX (j := 7) dX11_actHere_36 zsr_X11_261 ?_
        refine zV_cV1p hX hR hl dX11_actHere_39 (zc_takes l G (uA7 e M) e n 7 h7 he (by decide)) zt_X11_takes rfl zml_X11_253 zo300.1 ⟨by decide, by decide⟩ (Nat.le_of_ble_eq_true rfl) ?_
        dsimp only [Option.toList, List.cons_append, List.nil_append]
        refine zV_mem (show _ = uA8 e M from rfl) ?_
        refine zV_if_eqB hX (tgt := 47) dX11_actHere_42 (by decide) (fun c_42 => ?_) (fun c_42 => ?_)
        · refine zV_aload_n hX dX11_actHere_47 rfl ?_
          refine zV_ldcsw hX (j := 8) dX11_actHere_48 zsr_X11_263 ?_
          refine zV_cV1p hX hR hl dX11_actHere_51 (zc_takes l G (uA8 e M) e n 8 h8 he (by decide)) zt_X11_takes rfl zml_X11_253 zo300.1 ⟨by decide, by decide⟩ (Nat.le_of_ble_eq_true rfl) ?_
          dsimp only [Option.toList, List.cons_append, List.nil_append]
          refine zV_mem (show _ = uA9 e M from rfl) ?_
          refine zV_if_neB hX (tgt := 66) dX11_actHere_54 (by decide) (fun c_54 => ?_) (fun c_54 => ?_)
          · refine zV_iconst hX (v := nI 4) dX11_actHere_66 (by decide) ?_
            exact zV_reti hX hQ hr (⟨by rw [uAx, if_neg (by rw [c_6]; decide), if_neg (by rw [c_18]; decide), if_neg (by rw [c_30]; decide), if_neg (by rw [c_42]; decide)], by rw [uAm, if_neg (by rw [c_6]; decide), if_neg (by rw [c_18]; decide), if_neg (by rw [c_30]; decide), if_neg (by rw [c_42]; decide)]; first | rw [if_pos c_54] | rw [if_neg (by rw [c_54]; decide)]⟩) dX11_actHere_67
          · refine zV_aload_n hX dX11_actHere_57 rfl ?_
            refine zV_iconst hX (v := nI 1) dX11_actHere_58 (by decide) ?_
            refine zV_aload_n hX dX11_actHere_59 rfl ?_
            refine zV_geti hX dX11_actHere_60 zf_X11_195 zo300.1 rfl (rfl) ?_
            refine zV_cV2p hX hR hl dX11_actHere_63 (zc_wrong l G _ _ _) zt_X11_wrong rfl zml_X11_219 zo300.1 ⟨by decide, by decide⟩ (Nat.le_of_ble_eq_true rfl) ?_
            dsimp only [Option.toList, List.cons_append, List.nil_append]
            refine zV_iconst hX (v := nI 4) dX11_actHere_66 (by decide) ?_
            exact zV_reti hX hQ hr (⟨by rw [uAx, if_neg (by rw [c_6]; decide), if_neg (by rw [c_18]; decide), if_neg (by rw [c_30]; decide), if_neg (by rw [c_42]; decide)], by rw [uAm, if_neg (by rw [c_6]; decide), if_neg (by rw [c_18]; decide), if_neg (by rw [c_30]; decide), if_neg (by rw [c_42]; decide)]; first | rw [if_pos c_54] | rw [if_neg (by rw [c_54]; decide)]⟩) dX11_actHere_67
        · refine zV_iconst hX (v := nI 3) dX11_actHere_45 (by decide) ?_
          exact zV_reti hX hQ hr (⟨by rw [uAx, if_neg (by rw [c_6]; decide), if_neg (by rw [c_18]; decide), if_neg (by rw [c_30]; decide), if_pos c_42], by rw [uAm, if_neg (by rw [c_6]; decide), if_neg (by rw [c_18]; decide), if_neg (by rw [c_30]; decide), if_pos c_42]⟩) dX11_actHere_46
      · refine zV_iconst hX (v := nI 2) dX11_actHere_33 (by decide) ?_
        exact zV_reti hX hQ hr (⟨by rw [uAx, if_neg (by rw [c_6]; decide), if_neg (by rw [c_18]; decide), if_pos c_30], by rw [uAm, if_neg (by rw [c_6]; decide), if_neg (by rw [c_18]; decide), if_pos c_30]⟩) dX11_actHere_34
    · refine zV_iconst hX (v := nI 1) dX11_actHere_21 (by decide) ?_
      exact zV_reti hX hQ hr (⟨by rw [uAx, if_neg (by rw [c_6]; decide), if_pos c_18], by rw [uAm, if_neg (by rw [c_6]; decide), if_pos c_18]⟩) dX11_actHere_22
  · refine zV_iconst hX (v := nI 0) dX11_actHere_9 (by decide) ?_
    exact zV_reti hX hQ hr (⟨by rw [uAx, if_pos c_6], by rw [uAm, if_pos c_6]⟩) dX11_actHere_10
set_option maxHeartbeats 1000000 in
theorem zc_isLieHere (l : Launch) (G : zG) (M : zM) (e n : Nat) (hM : uSt e n M) (he : e ≤ 300) : zC l G 5 yX11_isLieHere cX11_isLieHere 2 (Option.some Jvm.ClassFile.FieldType.boolean) [.ref (300 : Nat)] M (zP (some (.int (zb (uLb e M)))) (uS e M)) := by
  refine zC_of (by decide) (Nat.le_of_ble_eq_true rfl) (fun X Q hQ hX hl hR hr => ?_)
  refine zV_loc (L' := [.ref (300 : Nat), .null]) rfl ?_
  refine zV_aload_n hX dX11_isLieHere_0 rfl ?_
  refine zV_cV0p hX hR hl dX11_isLieHere_1 (zc_wordHere l G M e n hM he) zt_X11_wordHere rfl zml_X11_242 zo300.1 ⟨by decide, by decide⟩ (Nat.le_of_ble_eq_true rfl) ?_
  dsimp only [Option.toList, List.cons_append, List.nil_append]
  refine zV_istore_n hX dX11_isLieHere_4 (by decide) ?_
  dsimp only [zst1, zst2, zclr, zc2]
  refine zV_iload_n hX dX11_isLieHere_5 rfl ?_
  refine zV_ldcsw hX (j := 1) dX11_isLieHere_6 zsr_X11_265 ?_
  refine zV_cS1p hX hR hl dX11_isLieHere_9 (zc_coded l G _ 1 (by decide)) zt_X11_coded rfl zml_X11_245 (by decide) (Nat.le_of_ble_eq_true rfl) ?_
  dsimp only [Option.toList, List.cons_append, List.nil_append]
  refine zV_icmp_eq hX (tgt := 84) dX11_isLieHere_12 (by decide) (fun c_12 => ?_) (fun c_12 => ?_)
  · have e9 : uLb e M = true := by simp [uLb, (uWc_iff (by decide)).mp c_12]
    refine zV_iconst hX (v := nI 1) dX11_isLieHere_84 (by decide) ?_
    refine zV_goto hX (tgt := 89) dX11_isLieHere_85 (by decide) ?_
    exact zV_retz hX hQ hr (rfl) (⟨by rw [e9]; rfl, rfl⟩) dX11_isLieHere_89
  · have g1 : uWb e 1 M = false := by cases hb : uWb e 1 M with | false => rfl | true => exact absurd ((uWc_iff (by decide)).mpr hb) c_12
    refine zV_iload_n hX dX11_isLieHere_15 rfl ?_
    refine zV_ldcsw hX (j := 2) dX11_isLieHere_16 zsr_X11_267 ?_
    refine zV_cS1p hX hR hl dX11_isLieHere_19 (zc_coded l G _ 2 (by decide)) zt_X11_coded rfl zml_X11_245 (by decide) (Nat.le_of_ble_eq_true rfl) ?_
    dsimp only [Option.toList, List.cons_append, List.nil_append]
    refine zV_icmp_eq hX (tgt := 84) dX11_isLieHere_22 (by decide) (fun c_22 => ?_) (fun c_22 => ?_)
    · have e9 : uLb e M = true := by simp [uLb, (uWc_iff (by decide)).mp c_22]
      refine zV_iconst hX (v := nI 1) dX11_isLieHere_84 (by decide) ?_
      refine zV_goto hX (tgt := 89) dX11_isLieHere_85 (by decide) ?_
      exact zV_retz hX hQ hr (rfl) (⟨by rw [e9]; rfl, rfl⟩) dX11_isLieHere_89
    · have g2 : uWb e 2 M = false := by cases hb : uWb e 2 M with | false => rfl | true => exact absurd ((uWc_iff (by decide)).mpr hb) c_22
      refine zV_iload_n hX dX11_isLieHere_25 rfl ?_
      refine zV_ldcsw hX (j := 3) dX11_isLieHere_26 zsr_X11_269 ?_
      refine zV_cS1p hX hR hl dX11_isLieHere_29 (zc_coded l G _ 3 (by decide)) zt_X11_coded rfl zml_X11_245 (by decide) (Nat.le_of_ble_eq_true rfl) ?_
      dsimp only [Option.toList, List.cons_append, List.nil_append]
      refine zV_icmp_eq hX (tgt := 84) dX11_isLieHere_32 (by decide) (fun c_32 => ?_) (fun c_32 => ?_)
      · have e9 : uLb e M = true := by simp [uLb, (uWc_iff (by decide)).mp c_32]
        refine zV_iconst hX (v := nI 1) dX11_isLieHere_84 (by decide) ?_
        refine zV_goto hX (tgt := 89) dX11_isLieHere_85 (by decide) ?_
        exact zV_retz hX hQ hr (rfl) (⟨by rw [e9]; rfl, rfl⟩) dX11_isLieHere_89
      · have g3 : uWb e 3 M = false := by cases hb : uWb e 3 M with | false => rfl | true => exact absurd ((uWc_iff (by decide)).mpr hb) c_32
        refine zV_iload_n hX dX11_isLieHere_35 rfl ?_
        refine zV_ldcs hX (j := 4) dX11_isLieHere_36 zsr_X11_252 ?_
        refine zV_cS1p hX hR hl dX11_isLieHere_38 (zc_coded l G _ 4 (by decide)) zt_X11_coded rfl zml_X11_245 (by decide) (Nat.le_of_ble_eq_true rfl) ?_
        dsimp only [Option.toList, List.cons_append, List.nil_append]
        refine zV_icmp_eq hX (tgt := 84) dX11_isLieHere_41 (by decide) (fun c_41 => ?_) (fun c_41 => ?_)
        · have e9 : uLb e M = true := by simp [uLb, (uWc_iff (by decide)).mp c_41]
          refine zV_iconst hX (v := nI 1) dX11_isLieHere_84 (by decide) ?_
          refine zV_goto hX (tgt := 89) dX11_isLieHere_85 (by decide) ?_
          exact zV_retz hX hQ hr (rfl) (⟨by rw [e9]; rfl, rfl⟩) dX11_isLieHere_89
        · have g4 : uWb e 4 M = false := by cases hb : uWb e 4 M with | false => rfl | true => exact absurd ((uWc_iff (by decide)).mpr hb) c_41
          refine zV_iload_n hX dX11_isLieHere_44 rfl ?_
          refine zV_ldcsw hX (j := 5) dX11_isLieHere_45 zsr_X11_257 ?_
          refine zV_cS1p hX hR hl dX11_isLieHere_48 (zc_coded l G _ 5 (by decide)) zt_X11_coded rfl zml_X11_245 (by decide) (Nat.le_of_ble_eq_true rfl) ?_
          dsimp only [Option.toList, List.cons_append, List.nil_append]
          refine zV_icmp_eq hX (tgt := 84) dX11_isLieHere_51 (by decide) (fun c_51 => ?_) (fun c_51 => ?_)
          · have e9 : uLb e M = true := by simp [uLb, (uWc_iff (by decide)).mp c_51]
            refine zV_iconst hX (v := nI 1) dX11_isLieHere_84 (by decide) ?_
            refine zV_goto hX (tgt := 89) dX11_isLieHere_85 (by decide) ?_
            exact zV_retz hX hQ hr (rfl) (⟨by rw [e9]; rfl, rfl⟩) dX11_isLieHere_89
          · have g5 : uWb e 5 M = false := by cases hb : uWb e 5 M with | false => rfl | true => exact absurd ((uWc_iff (by decide)).mpr hb) c_51
            refine zV_iload_n hX dX11_isLieHere_54 rfl ?_
            refine zV_ldcsw hX (j := 6) dX11_isLieHere_55 zsr_X11_259 ?_
            refine zV_cS1p hX hR hl dX11_isLieHere_58 (zc_coded l G _ 6 (by decide)) zt_X11_coded rfl zml_X11_245 (by decide) (Nat.le_of_ble_eq_true rfl) ?_
            dsimp only [Option.toList, List.cons_append, List.nil_append]
            refine zV_icmp_eq hX (tgt := 84) dX11_isLieHere_61 (by decide) (fun c_61 => ?_) (fun c_61 => ?_)
            · have e9 : uLb e M = true := by simp [uLb, (uWc_iff (by decide)).mp c_61]
              refine zV_iconst hX (v := nI 1) dX11_isLieHere_84 (by decide) ?_
              refine zV_goto hX (tgt := 89) dX11_isLieHere_85 (by decide) ?_
              exact zV_retz hX hQ hr (rfl) (⟨by rw [e9]; rfl, rfl⟩) dX11_isLieHere_89
            · have g6 : uWb e 6 M = false := by cases hb : uWb e 6 M with | false => rfl | true => exact absurd ((uWc_iff (by decide)).mpr hb) c_61
              refine zV_iload_n hX dX11_isLieHere_64 rfl ?_
              refine zV_ldcsw hX (j := 7) dX11_isLieHere_65 zsr_X11_261 ?_
              refine zV_cS1p hX hR hl dX11_isLieHere_68 (zc_coded l G _ 7 (by decide)) zt_X11_coded rfl zml_X11_245 (by decide) (Nat.le_of_ble_eq_true rfl) ?_
              dsimp only [Option.toList, List.cons_append, List.nil_append]
              refine zV_icmp_eq hX (tgt := 84) dX11_isLieHere_71 (by decide) (fun c_71 => ?_) (fun c_71 => ?_)
              · have e9 : uLb e M = true := by simp [uLb, (uWc_iff (by decide)).mp c_71]
                refine zV_iconst hX (v := nI 1) dX11_isLieHere_84 (by decide) ?_
                refine zV_goto hX (tgt := 89) dX11_isLieHere_85 (by decide) ?_
                exact zV_retz hX hQ hr (rfl) (⟨by rw [e9]; rfl, rfl⟩) dX11_isLieHere_89
              · have g7 : uWb e 7 M = false := by cases hb : uWb e 7 M with | false => rfl | true => exact absurd ((uWc_iff (by decide)).mpr hb) c_71
                refine zV_iload_n hX dX11_isLieHere_74 rfl ?_
                refine zV_ldcsw hX (j := 8) dX11_isLieHere_75 zsr_X11_263 ?_
                refine zV_cS1p hX hR hl dX11_isLieHere_78 (zc_coded l G _ 8 (by decide)) zt_X11_coded rfl zml_X11_245 (by decide) (Nat.le_of_ble_eq_true rfl) ?_
                dsimp only [Option.toList, List.cons_append, List.nil_append]
                refine zV_icmp_ne hX (tgt := 88) dX11_isLieHere_81 (by decide) (fun c_81 => ?_) (fun c_81 => ?_)
                · have g8 : uWb e 8 M = false := by cases hb : uWb e 8 M with | false => rfl | true => exact absurd ((uWc_iff (by decide)).mpr hb) c_81
                  have e9 : uLb e M = false := by simp [uLb, g1, g2, g3, g4, g5, g6, g7, g8]
                  refine zV_iconst hX (v := nI 0) dX11_isLieHere_88 (by decide) ?_
                  exact zV_retz hX hQ hr (rfl) (⟨by rw [e9]; rfl, rfl⟩) dX11_isLieHere_89
                · have e9 : uLb e M = true := by simp [uLb, (uWc_iff (by decide)).mp c_81]
                  refine zV_iconst hX (v := nI 1) dX11_isLieHere_84 (by decide) ?_
                  refine zV_goto hX (tgt := 89) dX11_isLieHere_85 (by decide) ?_
                  exact zV_retz hX hQ hr (rfl) (⟨by rw [e9]; rfl, rfl⟩) dX11_isLieHere_89
