-- words by their codes
def wCd (f : Nat → Nat) : Nat → Nat
  | 0 => 0
  | k + 1 => 27 * wCd f k + f k
theorem wCd_s {f : Nat → Nat} {k : Nat} : wCd f (k + 1) = 27 * wCd f k + f k := rfl
theorem wCd_inj {f g : Nat → Nat} : ∀ {a b : Nat}, (∀ i, i < a → 1 ≤ f i ∧ f i ≤ 26) → (∀ i, i < b → 1 ≤ g i ∧ g i ≤ 26) → wCd f a = wCd g b → a = b ∧ ∀ i, i < a → f i = g i
  | 0, 0, _, _, _ => ⟨rfl, fun i h => absurd h (Nat.not_lt_zero i)⟩
  | 0, b + 1, _, hg, h => by
    rw [wCd_s] at h
    have := hg b (Nat.lt_succ_self b)
    have h : 0 = 27 * wCd g b + g b := h
    omega
  | a + 1, 0, hf, _, h => by
    rw [wCd_s] at h
    have := hf a (Nat.lt_succ_self a)
    have h : 27 * wCd f a + f a = 0 := h
    omega
  | a + 1, b + 1, hf, hg, h => by
    rw [wCd_s, wCd_s] at h
    have h1 := hf a (Nat.lt_succ_self a)
    have h2 := hg b (Nat.lt_succ_self b)
    have h3 : f a = g b := by omega
    have h4 : wCd f a = wCd g b := by omega
    obtain ⟨h5, h6⟩ := wCd_inj (fun i hi => hf i (by omega)) (fun i hi => hg i (by omega)) h4
    refine ⟨by omega, fun i hi => ?_⟩
    rcases Nat.lt_or_ge i a with q | q
    · exact h6 i q
    · rw [show i = a by omega]
      subst h5
      exact h3
theorem wCd_ext {f g : Nat → Nat} : ∀ {k : Nat}, (∀ i, i < k → f i = g i) → wCd f k = wCd g k
  | 0, _ => rfl
  | k + 1, h => by rw [wCd_s, wCd_s, h k (Nat.lt_succ_self k), wCd_ext (fun i hi => h i (by omega))]
theorem wCd_lt {f : Nat → Nat} : ∀ {k : Nat}, (∀ i, i < k → f i ≤ 26) → wCd f k < 27 ^ k
  | 0, _ => Nat.zero_lt_one
  | k + 1, h => by
    have h1 := wCd_lt (f := f) (k := k) (fun i hi => h i (by omega))
    have h2 := h k (Nat.lt_succ_self k)
    rw [wCd_s, Nat.pow_succ]
    omega
theorem tlo_nI {v : Int32} (h : tlo v = true) : v = nI (zN v) ∧ 97 ≤ zN v ∧ zN v ≤ 122 := by
  simp only [tlo, Bool.and_eq_true, decide_eq_true_eq] at h
  obtain ⟨h1, h2⟩ := h
  have h0 : ¬ v < 0 := fun z => by
    have := Int32.le_iff_toInt_le.mp h1
    have z := Int32.lt_iff_toInt_lt.mp z
    rw [show (nI 97).toInt = 97 from rfl] at this
    rw [show (0 : Int32).toInt = 0 from rfl] at z
    omega
  obtain ⟨j, hj, rfl⟩ := nI_of h0
  rw [zN_nI hj]
  exact ⟨rfl, (nI_leI (by decide) hj).mp h1, (nI_leI hj (by decide)).mp h2⟩
def uWl (e : Nat) (M : zM) : Nat := tEnd (uLt M) e (uSp e M)
def uWf (e : Nat) (M : zM) (i : Nat) : Nat := zN (M.1 309 (uSp e M + i)) - 96
def uWc (e : Nat) (M : zM) : Int32 := if uWl e M = uSp e M ∨ 6 < uWl e M - uSp e M then -1 else nI (wCd (uWf e M) (uWl e M - uSp e M))
def uWb (e j : Nat) (M : zM) : Bool := decide (uWl e M - uSp e M = zSLen.getD j 0) && zall (fun i => M.1 309 (uSp e M + i) == (zSByt.getD j []).getD i 0) (zSLen.getD j 0)
def jWf (j i : Nat) : Nat := zN ((zSByt.getD j []).getD i 0) - 96
def jWc (j : Nat) : Int32 := nI (wCd (jWf j) (zSLen.getD j 0))
theorem jB_lo : ∀ j, j < 9 → ∀ i, i < zSLen.getD j 0 → tlo ((zSByt.getD j []).getD i 0) = true := by decide +kernel
theorem jL_6 : ∀ j, j < 9 → 1 ≤ zSLen.getD j 0 ∧ zSLen.getD j 0 ≤ 6 := by decide
theorem uWl_le {e n : Nat} {M : zM} (h : uSt e n M) : uWl e M ≤ e := tEnd_le (uSp_le h)
theorem uWl_ge (e : Nat) (M : zM) : uSp e M ≤ uWl e M := tEnd_ge _ _ _
theorem uWf_lo {e i : Nat} {M : zM} (h : i < uWl e M - uSp e M) : tlo (M.1 309 (uSp e M + i)) = true := tEnd_in (q := uLt M) (Nat.le_add_right _ _) (show uSp e M + i < uWl e M by omega)
theorem uWf_b {e i : Nat} {M : zM} (h : i < uWl e M - uSp e M) : 1 ≤ uWf e M i ∧ uWf e M i ≤ 26 := by
  obtain ⟨-, h2, h3⟩ := tlo_nI (uWf_lo h)
  unfold uWf
  omega
theorem jWf_b {j i : Nat} (hj : j < 9) (h : i < zSLen.getD j 0) : 1 ≤ jWf j i ∧ jWf j i ≤ 26 := by
  obtain ⟨-, h2, h3⟩ := tlo_nI (jB_lo j hj i h)
  unfold jWf
  omega
theorem wCd_31 {f : Nat → Nat} {k : Nat} (h : ∀ i, i < k → f i ≤ 26) (hk : k ≤ 6) : wCd f k < 2 ^ 31 := by
  have h1 := wCd_lt h
  have h2 : 27 ^ k ≤ 27 ^ 6 := Nat.pow_le_pow_right (by decide) hk
  have h3 : (27 : Nat) ^ 6 < 2 ^ 31 := by decide
  omega
theorem zN_lo {x y : Int32} (hx : tlo x = true) (hy : tlo y = true) (h : zN x - 96 = zN y - 96) : x = y := by
  obtain ⟨a1, a2, a3⟩ := tlo_nI hx
  obtain ⟨b1, b2, b3⟩ := tlo_nI hy
  rw [a1, b1, show zN x = zN y by omega]
/-- the codes are like just when the words are -/
theorem uWc_iff {e j : Nat} {M : zM} (hj : j < 9) : uWc e M = jWc j ↔ uWb e j M = true := by
  have hL := jL_6 j hj
  have hg := uWl_ge e M
  have hjc : wCd (jWf j) (zSLen.getD j 0) < 2 ^ 31 := wCd_31 (fun i hi => (jWf_b hj hi).2) hL.2
  unfold uWc uWb
  by_cases h : uWl e M = uSp e M ∨ 6 < uWl e M - uSp e M
  · rw [if_pos h, decide_eq_false (by omega), Bool.false_and]
    constructor
    · intro q
      have : (0 : Int32) ≤ jWc j := nI_pos' hjc
      rw [← q] at this
      exact absurd this (by decide)
    · intro q; cases q
  · rw [if_neg h]
    have huc : wCd (uWf e M) (uWl e M - uSp e M) < 2 ^ 31 := wCd_31 (fun i hi => (uWf_b hi).2) (by omega)
    rw [Bool.and_eq_true, decide_eq_true_eq, zall_true]
    unfold jWc
    rw [nI_eq huc hjc]
    constructor
    · intro q
      obtain ⟨q1, q2⟩ := wCd_inj (fun i hi => uWf_b hi) (fun i hi => jWf_b hj hi) q
      refine ⟨q1, fun i hi => ?_⟩
      rw [zN_lo (uWf_lo (e := e) (by omega)) (jB_lo j hj i hi) (q2 i (by omega))]
      exact beq_self_eq_true _
    · intro q
      rw [q.1]
      refine wCd_ext (fun i hi => ?_)
      unfold uWf jWf
      rw [show M.1 309 (uSp e M + i) = (zSByt.getD j []).getD i 0 from by simpa using q.2 i hi]
def uTk (e j : Nat) (M : zM) : Bool := decide (M.1 300 6 = 0) && uWb e j M
def uTm (e j : Nat) (M : zM) : zM := if M.1 300 6 = 0 then (if uWb e j M then uAt (uSp e M + zSLen.getD j 0) M else uS e M) else M
def uSg (e : Nat) (c : Int32) (M : zM) : zM := if M.1 300 6 = 0 then (if uBy e M (uSp e M) = c then uAt (uSp e M + 1) M else mWr (nI 1) (nI (uSp e M)) (uS e M)) else M
theorem uWb_in {e n j : Nat} {M : zM} (h : uSt e n M) (hb : uWb e j M = true) : uSp e M + zSLen.getD j 0 ≤ e := by
  simp only [uWb, Bool.and_eq_true, decide_eq_true_eq] at hb
  have h1 := uWl_le h
  have h2 := uWl_ge e M
  omega
theorem uSt_Tm {e n j : Nat} {M : zM} (h : uSt e n M) (he : e ≤ 300) : uSt e n (uTm e j M) := by
  unfold uTm
  split
  · split
    · rename_i hb; exact uSt_at h (uWb_in h hb) he
    · exact uSt_S h he
  · exact h
theorem uSt_Sg {e n : Nat} {c : Int32} {M : zM} (h : uSt e n M) (he : e ≤ 300) (hc : ¬ (-1 : Int32) = c) : uSt e n (uSg e c M) := by
  unfold uSg
  split
  · split
    · rename_i hb; exact uSt_at h (uBy_is hc hb).1 he
    · exact uSt_W (uSt_S h he)
  · exact h
set_option maxHeartbeats 1000000 in
theorem zc_wordHere (l : Launch) (G : zG) (M : zM) (e n : Nat) (hM : uSt e n M) (he : e ≤ 300) : zC l G 2 yX11_wordHere cX11_wordHere 3 (Option.some Jvm.ClassFile.FieldType.int) [.ref (300 : Nat)] M (zP (some (.int (uWc e M))) (uS e M)) := by
  refine zC_of (by decide) (Nat.le_of_ble_eq_true rfl) (fun X Q hQ hX hl hR hr => ?_)
  refine zV_loc (L' := [.ref (300 : Nat), .null, .null]) rfl ?_
  have J62 : zV G X Q 3 0 0 62 [.ref (300 : Nat), .int (nI (wCd (uWf e M) (min (uWl e M - uSp e M) 6))), .int (nI (uWl e M - uSp e M))] [] (uS e M) := by
    have hwl := uWl_le hM
    have hwg := uWl_ge e M
    refine zV_iload_n hX dX11_wordHere_62 rfl ?_
    refine zV_if_eqN hX (tgt := 72) dX11_wordHere_63 (by decide) (by omega) (fun c_63 => ?_) (fun c_63 => ?_)
    · have e9 : uWc e M = -1 := if_pos (Or.inl (by omega))
      refine zV_iconst hX (v := (-1)) dX11_wordHere_72 (by decide) ?_
      refine zV_goto hX (tgt := 77) dX11_wordHere_73 (by decide) ?_
      exact zV_reti hX hQ hr (⟨by rw [e9], rfl⟩) dX11_wordHere_77
    · refine zV_iload_n hX dX11_wordHere_66 rfl ?_
      refine zV_bipush hX (v := nI 6) dX11_wordHere_67 (by decide) ?_
      refine zV_icmp_leN hX (tgt := 76) dX11_wordHere_69 (by decide) ⟨by omega, by omega⟩ (fun c_69 => ?_) (fun c_69 => ?_)
      · have e9 : uWc e M = nI (wCd (uWf e M) (min (uWl e M - uSp e M) 6)) := by rw [uWc, if_neg (by omega), Nat.min_eq_left c_69]
        refine zV_iload_n hX dX11_wordHere_76 rfl ?_
        exact zV_reti hX hQ hr (⟨by rw [e9], rfl⟩) dX11_wordHere_77
      · have e9 : uWc e M = -1 := if_pos (Or.inr c_69)
        refine zV_iconst hX (v := (-1)) dX11_wordHere_72 (by decide) ?_
        refine zV_goto hX (tgt := 77) dX11_wordHere_73 (by decide) ?_
        exact zV_reti hX hQ hr (⟨by rw [e9], rfl⟩) dX11_wordHere_77
  have L9 : ∀ (f9 i : Nat), e - i < f9 → (uSp e M) + i ≤ e → tEnd (uLt M) e ((uSp e M) + i) = uWl e M → zV G X Q 3 0 0 9 [.ref (300 : Nat), .int (nI (wCd (uWf e M) (min i 6))), .int (nI i)] [] (uS e M) := by
    intro f9
    induction f9 with
    | zero => intro i hi1 hi2 hi4; exact absurd hi1 (Nat.not_lt_zero _)
    | succ f9 ih =>
      intro i hi1 hi2 hi4
      refine zV_aload_n hX dX11_wordHere_9 rfl ?_
      refine zV_aload_n hX dX11_wordHere_10 rfl ?_
      refine zV_geti hX dX11_wordHere_11 zf_X11_195 zo300.1 rfl (zw_same) ?_
      refine zV_iload_n hX dX11_wordHere_14 rfl ?_
      refine zV_iaddN hX dX11_wordHere_15 ?_
      refine zV_cV1p hX hR hl dX11_wordHere_16 (zc_byteAt l G (uS e M) e ((uSp e M) + i) (by rw [uS, uAt_c (by omega)]; exact hM.2.2.1) he (by omega)) zt_X11_byteAt rfl zml_X11_198 zo300.1 ⟨by decide, by decide⟩ (Nat.le_of_ble_eq_true rfl) ?_
      dsimp only [Option.toList, List.cons_append, List.nil_append]
      refine zV_topi (uBy e M ((uSp e M) + i)) (by rw [uS, uBy_e (fun i => uAt_c (by omega))]) ?_
      refine zV_cS1p hX hR hl dX11_wordHere_19 (zc_misSmall l G _ _) zt_X11_isSmall rfl zml_X11_230 (by decide) (Nat.le_of_ble_eq_true rfl) ?_
      dsimp only [Option.toList, List.cons_append, List.nil_append]
      refine zV_if_eqB hX (tgt := 62) dX11_wordHere_22 (by decide) (fun c_22 => ?_) (fun c_22 => ?_)
      · have e9 : (uSp e M) + i = uWl e M := by rw [← hi4]; exact (uBy_nl c_22).symm
        have h5 : i = uWl e M - uSp e M := by omega
        exact zV_loc (by rw [h5]) J62
      · obtain ⟨hke, hkd⟩ := uBy_l c_22
        have e9 := tEnd_t (q := uLt M) hke hkd
        obtain ⟨hd1, hd2, hd3⟩ := tlo_nI hkd
        have e8 : uBy e M ((uSp e M) + i) = nI (zN (M.1 309 ((uSp e M) + i))) := (if_pos hke).trans hd1
        refine zV_iload_n hX dX11_wordHere_25 rfl ?_
        refine zV_bipush hX (v := nI 6) dX11_wordHere_26 (by decide) ?_
        refine zV_icmp_geN hX (tgt := 54) dX11_wordHere_28 (by decide) ⟨by omega, by omega⟩ (fun c_28 => ?_) (fun c_28 => ?_)
        · have e7 : (wCd (uWf e M) (min (i + 1) 6)) = (wCd (uWf e M) (min i 6)) := by rw [show min (i + 1) 6 = min i 6 by omega]
          refine zV_iload_n hX dX11_wordHere_54 rfl ?_
          refine zV_istore_n hX dX11_wordHere_55 (by decide) ?_
          dsimp only [zst1, zst2, zclr, zc2]
          refine zV_iincN hX (b := 1) dX11_wordHere_56 rfl (by decide) ?_
          dsimp only [zst1, zst2, zclr, zc2]
          refine zV_goto hX (tgt := 9) dX11_wordHere_59 (by decide) ?_
          have h9 := ih (i + 1) (by omega) (by omega) (e9.trans hi4)
          rw [e7] at h9
          exact h9
        · have e7 : (wCd (uWf e M) (min (i + 1) 6)) = 27 * (wCd (uWf e M) (min i 6)) + zN (M.1 309 ((uSp e M) + i)) - 97 + 1 := by rw [show min (i + 1) 6 = i + 1 by omega, show min i 6 = i by omega, wCd_s]; unfold uWf; omega
          refine zV_bipush hX (v := nI 27) dX11_wordHere_31 (by decide) ?_
          refine zV_iload_n hX dX11_wordHere_33 rfl ?_
          refine zV_imulN hX dX11_wordHere_34 ?_
          refine zV_aload_n hX dX11_wordHere_35 rfl ?_
          refine zV_aload_n hX dX11_wordHere_36 rfl ?_
          refine zV_geti hX dX11_wordHere_37 zf_X11_195 zo300.1 rfl (zw_same) ?_
          refine zV_iload_n hX dX11_wordHere_40 rfl ?_
          refine zV_iaddN hX dX11_wordHere_41 ?_
          refine zV_cV1p hX hR hl dX11_wordHere_42 (zc_byteAt l G (uS e M) e ((uSp e M) + i) (by rw [uS, uAt_c (by omega)]; exact hM.2.2.1) he (by omega)) zt_X11_byteAt rfl zml_X11_198 zo300.1 ⟨by decide, by decide⟩ (Nat.le_of_ble_eq_true rfl) ?_
          dsimp only [Option.toList, List.cons_append, List.nil_append]
          refine zV_topi (uBy e M ((uSp e M) + i)) (by rw [uS, uBy_e (fun i => uAt_c (by omega))]) ?_
          refine zV_topi (nI (zN (M.1 309 ((uSp e M) + i)))) e8 ?_
          refine zV_iaddN hX dX11_wordHere_45 ?_
          refine zV_bipush hX (v := nI 97) dX11_wordHere_46 (by decide) ?_
          refine zV_isubN hX dX11_wordHere_48 (by omega) ?_
          refine zV_iconst hX (v := nI 1) dX11_wordHere_49 (by decide) ?_
          refine zV_iaddN hX dX11_wordHere_50 ?_
          refine zV_goto hX (tgt := 55) dX11_wordHere_51 (by decide) ?_
          refine zV_istore_n hX dX11_wordHere_55 (by decide) ?_
          dsimp only [zst1, zst2, zclr, zc2]
          refine zV_iincN hX (b := 1) dX11_wordHere_56 rfl (by decide) ?_
          dsimp only [zst1, zst2, zclr, zc2]
          refine zV_goto hX (tgt := 9) dX11_wordHere_59 (by decide) ?_
          have h9 := ih (i + 1) (by omega) (by omega) (e9.trans hi4)
          rw [e7] at h9
          exact h9
  refine zV_aload_n hX dX11_wordHere_0 rfl ?_
  refine zV_cV0p hX hR hl dX11_wordHere_1 (zc_here l G M e n hM he) zt_X11_here rfl zml_X11_212 zo300.1 ⟨by decide, by decide⟩ (Nat.le_of_ble_eq_true rfl) ?_
  dsimp only [Option.toList, List.cons_append, List.nil_append]
  refine zV_pop hX dX11_wordHere_4 rfl ?_
  refine zV_iconst hX (v := nI 0) dX11_wordHere_5 (by decide) ?_
  refine zV_istore_n hX dX11_wordHere_6 (by decide) ?_
  dsimp only [zst1, zst2, zclr, zc2]
  refine zV_iconst hX (v := nI 0) dX11_wordHere_7 (by decide) ?_
  refine zV_istore_n hX dX11_wordHere_8 (by decide) ?_
  dsimp only [zst1, zst2, zclr, zc2]
  exact L9 (e + 1) 0 (by omega) (by have := uSp_le hM; omega) rfl
set_option maxHeartbeats 1000000 in
theorem zc_coded (l : Launch) (G : zG) (M : zM) (j : Nat) (hj : j < 9) : zC l G 4 yX11_coded cX11_coded 3 (Option.some Jvm.ClassFile.FieldType.int) [.ref (5000 + j)] M (zP (some (.int (jWc j))) M) := by
  refine zC_of (by decide) (Nat.le_of_ble_eq_true rfl) (fun X Q hQ hX hl hR hr => ?_)
  refine zV_loc (L' := [.ref (5000 + j), .null, .null]) rfl ?_
  have hL := jL_6 j hj
  have L4 : ∀ (f9 i : Nat), 100 - i < f9 → i ≤ zSLen.getD j 0 → zV G X Q 3 0 0 4 [.ref (5000 + j), .int (nI (wCd (jWf j) i)), .int (nI i)] [] M := by
    intro f9
    induction f9 with
    | zero => intro i hi1 hi2; exact absurd hi1 (Nat.not_lt_zero _)
    | succ f9 ih =>
      intro i hi1 hi2
      refine zV_iload_n hX dX11_coded_4 rfl ?_
      refine zV_aload_n hX dX11_coded_5 rfl ?_
      refine zV_cT0p hX hR hl dX11_coded_6 (zc_slength l G _ j (by omega)) zt_J0_length_8abf5 rfl rfl zml_X11_233 ⟨(by omega), Nat.le_of_ble_eq_true rfl⟩ (Nat.le_of_ble_eq_true rfl) ?_
      dsimp only [Option.toList, List.cons_append, List.nil_append]
      refine zV_icmp_geN hX (tgt := 34) dX11_coded_9 (by decide) ⟨by omega, by omega⟩ (fun c_9 => ?_) (fun c_9 => ?_)
      · have e9 : i = zSLen.getD j 0 := by omega
        refine zV_iload_n hX dX11_coded_34 rfl ?_
        exact zV_reti hX hQ hr (⟨by rw [e9]; try rfl, rfl⟩) dX11_coded_35
      · have hlo := jB_lo j hj i c_9
        obtain ⟨hd1, hd2, hd3⟩ := tlo_nI hlo
        refine zV_bipush hX (v := nI 27) dX11_coded_12 (by decide) ?_
        refine zV_iload_n hX dX11_coded_14 rfl ?_
        refine zV_imulN hX dX11_coded_15 ?_
        refine zV_aload_n hX dX11_coded_16 rfl ?_
        refine zV_iload_n hX dX11_coded_17 rfl ?_
        refine zV_cT1p hX hR hl dX11_coded_18 (zc_charAt l G _ j i (by omega) c_9) zt_J0_charAt_5068e rfl rfl zml_X11_238 ⟨(by omega), Nat.le_of_ble_eq_true rfl⟩ (Nat.le_of_ble_eq_true rfl) ?_
        dsimp only [Option.toList, List.cons_append, List.nil_append]
        refine zV_topi (nI (zN ((zSByt.getD j []).getD i 0))) hd1 ?_
        refine zV_iaddN hX dX11_coded_21 ?_
        refine zV_bipush hX (v := nI 97) dX11_coded_22 (by decide) ?_
        refine zV_isubN hX dX11_coded_24 (by omega) ?_
        refine zV_iconst hX (v := nI 1) dX11_coded_25 (by decide) ?_
        refine zV_iaddN hX dX11_coded_26 ?_
        refine zV_istore_n hX dX11_coded_27 (by decide) ?_
        dsimp only [zst1, zst2, zclr, zc2]
        refine zV_iincN hX (b := 1) dX11_coded_28 rfl (by decide) ?_
        dsimp only [zst1, zst2, zclr, zc2]
        refine zV_goto hX (tgt := 4) dX11_coded_31 (by decide) ?_
        have h9 := ih (i + 1) (by omega) (by omega)
        rw [wCd_s] at h9
        unfold jWf at h9
        exact zV_loc (by show ([_, .int (nI (27 * wCd (jWf j) i + zN ((zSByt.getD j []).getD i 0) - 97 + 1)), _] : List Value) = [_, .int (nI (27 * wCd (jWf j) i + (zN ((zSByt.getD j []).getD i 0) - 96))), _]; rw [show 27 * wCd (jWf j) i + zN ((zSByt.getD j []).getD i 0) - 97 + 1 = 27 * wCd (jWf j) i + (zN ((zSByt.getD j []).getD i 0) - 96) by omega]) h9
  refine zV_iconst hX (v := nI 0) dX11_coded_0 (by decide) ?_
  refine zV_istore_n hX dX11_coded_1 (by decide) ?_
  dsimp only [zst1, zst2, zclr, zc2]
  refine zV_iconst hX (v := nI 0) dX11_coded_2 (by decide) ?_
  refine zV_istore_n hX dX11_coded_3 (by decide) ?_
  dsimp only [zst1, zst2, zclr, zc2]
  exact L4 101 0 (by omega) (Nat.zero_le _)
set_option maxHeartbeats 1000000 in
theorem zc_takes (l : Launch) (G : zG) (M : zM) (e n j : Nat) (hM : uSt e n M) (he : e ≤ 300) (hj : j < 9) : zC l G 5 yX11_takes cX11_takes 2 (Option.some Jvm.ClassFile.FieldType.boolean) [.ref (300 : Nat), .ref (5000 + j)] M (zP (some (.int (zb (uTk e j M)))) (uTm e j M)) := by
  refine zC_of (by decide) (Nat.le_of_ble_eq_true rfl) (fun X Q hQ hX hl hR hr => ?_)
  refine zV_loc (L' := [.ref (300 : Nat), .ref (5000 + j)]) rfl ?_
  refine zV_aload_n hX dX11_takes_0 rfl ?_
  refine zV_cV0p hX hR hl dX11_takes_1 (zc_fine l G M) zt_X11_fine rfl zml_X11_208 zo300.1 ⟨by decide, by decide⟩ (Nat.le_of_ble_eq_true rfl) ?_
  dsimp only [Option.toList, List.cons_append, List.nil_append]
  refine zV_if_eqB hX (tgt := 18) dX11_takes_4 (by decide) (fun c_4 => ?_) (fun c_4 => ?_)
  · have h6 : ¬ M.1 300 6 = 0 := by simpa using c_4
    have e9 : uTk e j M = false := by unfold uTk; rw [decide_eq_false h6]; rfl
    have e8 : uTm e j M = M := if_neg h6
    refine zV_iconst hX (v := nI 0) dX11_takes_18 (by decide) ?_
    exact zV_retz hX hQ hr (rfl) (⟨by rw [e9]; rfl, e8.symm⟩) dX11_takes_19
  · have h6 : M.1 300 6 = 0 := by simpa using c_4
    refine zV_aload_n hX dX11_takes_7 rfl ?_
    refine zV_cV0p hX hR hl dX11_takes_8 (zc_wordHere l G M e n hM he) zt_X11_wordHere rfl zml_X11_242 zo300.1 ⟨by decide, by decide⟩ (Nat.le_of_ble_eq_true rfl) ?_
    dsimp only [Option.toList, List.cons_append, List.nil_append]
    refine zV_aload_n hX dX11_takes_11 rfl ?_
    refine zV_cS1p hX hR hl dX11_takes_12 (zc_coded l G _ j hj) zt_X11_coded rfl zml_X11_245 (by decide) (Nat.le_of_ble_eq_true rfl) ?_
    dsimp only [Option.toList, List.cons_append, List.nil_append]
    refine zV_icmp_eq hX (tgt := 20) dX11_takes_15 (by decide) (fun c_15 => ?_) (fun c_15 => ?_)
    · have hb : uWb e j M = true := (uWc_iff hj).mp c_15
      have e9 : uTk e j M = true := by unfold uTk; rw [decide_eq_true h6, hb]; rfl
      have e8 : uTm e j M = uAt (uSp e M + zSLen.getD j 0) M := by rw [uTm, if_pos h6, if_pos hb]
      refine zV_aload_n hX dX11_takes_20 rfl ?_
      refine zV_dup hX dX11_takes_21 rfl ?_
      refine zV_geti hX dX11_takes_22 zf_X11_195 zo300.1 rfl (zw_same) ?_
      refine zV_aload_n hX dX11_takes_25 rfl ?_
      refine zV_cT0p hX hR hl dX11_takes_26 (zc_slength l G _ j (by omega)) zt_J0_length_8abf5 rfl rfl zml_X11_233 ⟨(by omega), Nat.le_of_ble_eq_true rfl⟩ (Nat.le_of_ble_eq_true rfl) ?_
      dsimp only [Option.toList, List.cons_append, List.nil_append]
      refine zV_iaddN hX dX11_takes_29 ?_
      refine zV_puti hX dX11_takes_30 zf_X11_195 zp_9_4 zo300.1 rfl ?_
      refine zV_iconst hX (v := nI 1) dX11_takes_33 (by decide) ?_
      exact zV_retz hX hQ hr (rfl) (⟨by rw [e9]; rfl, by rw [e8]; exact uAt_uAt _ _ _⟩) dX11_takes_34
    · have hb : uWb e j M = false := by cases hb : uWb e j M with | false => rfl | true => exact absurd ((uWc_iff hj).mpr hb) c_15
      have e9 : uTk e j M = false := by unfold uTk; rw [hb, Bool.and_false]
      have e8 : uTm e j M = uS e M := by rw [uTm, if_pos h6, if_neg (by rw [hb]; decide)]
      refine zV_iconst hX (v := nI 0) dX11_takes_18 (by decide) ?_
      exact zV_retz hX hQ hr (rfl) (⟨by rw [e9]; rfl, e8.symm⟩) dX11_takes_19
set_option maxHeartbeats 1000000 in
theorem zc_sign (l : Launch) (G : zG) (M : zM) (e n : Nat) (c : Int32) (hM : uSt e n M) (he : e ≤ 300) : zC l G 2 yX11_sign cX11_sign 2 (Option.none : Option Jvm.ClassFile.FieldType) [.ref (300 : Nat), .int c] M (zP none (uSg e c M)) := by
  refine zC_of (by decide) (Nat.le_of_ble_eq_true rfl) (fun X Q hQ hX hl hR hr => ?_)
  refine zV_loc (L' := [.ref (300 : Nat), .int c]) rfl ?_
  refine zV_aload_n hX dX11_sign_0 rfl ?_
  refine zV_cV0p hX hR hl dX11_sign_1 (zc_fine l G M) zt_X11_fine rfl zml_X11_208 zo300.1 ⟨by decide, by decide⟩ (Nat.le_of_ble_eq_true rfl) ?_
  dsimp only [Option.toList, List.cons_append, List.nil_append]
  refine zV_if_neB hX (tgt := 8) dX11_sign_4 (by decide) (fun c_4 => ?_) (fun c_4 => ?_)
  · have h6 : M.1 300 6 = 0 := by simpa using c_4
    refine zV_aload_n hX dX11_sign_8 rfl ?_
    refine zV_cV0p hX hR hl dX11_sign_9 (zc_here l G M e n hM he) zt_X11_here rfl zml_X11_212 zo300.1 ⟨by decide, by decide⟩ (Nat.le_of_ble_eq_true rfl) ?_
    dsimp only [Option.toList, List.cons_append, List.nil_append]
    refine zV_iload_n hX dX11_sign_12 rfl ?_
    refine zV_icmp_ne hX (tgt := 29) dX11_sign_13 (by decide) (fun c_13 => ?_) (fun c_13 => ?_)
    · have e8 : uSg e c M = mWr (nI 1) (nI (uSp e M)) (uS e M) := by rw [uSg, if_pos h6, if_neg c_13]
      refine zV_aload_n hX dX11_sign_29 rfl ?_
      refine zV_iconst hX (v := nI 1) dX11_sign_30 (by decide) ?_
      refine zV_aload_n hX dX11_sign_31 rfl ?_
      refine zV_geti hX dX11_sign_32 zf_X11_195 zo300.1 rfl (zw_same) ?_
      refine zV_cV2p hX hR hl dX11_sign_35 (zc_wrong l G _ _ _) zt_X11_wrong rfl zml_X11_219 zo300.1 ⟨by decide, by decide⟩ (Nat.le_of_ble_eq_true rfl) ?_
      dsimp only [Option.toList, List.cons_append, List.nil_append]
      exact zV_retv hX hQ hr (⟨rfl, by rw [e8]; all_goals first | rfl | exact uAt_uAt _ _ _⟩) dX11_sign_38
    · have e8 : uSg e c M = uAt (uSp e M + 1) M := by rw [uSg, if_pos h6, if_pos c_13]
      refine zV_aload_n hX dX11_sign_16 rfl ?_
      refine zV_dup hX dX11_sign_17 rfl ?_
      refine zV_geti hX dX11_sign_18 zf_X11_195 zo300.1 rfl (zw_same) ?_
      refine zV_iconst hX (v := nI 1) dX11_sign_21 (by decide) ?_
      refine zV_iaddN hX dX11_sign_22 ?_
      refine zV_puti hX dX11_sign_23 zf_X11_195 zp_9_4 zo300.1 rfl ?_
      refine zV_goto hX (tgt := 38) dX11_sign_26 (by decide) ?_
      exact zV_retv hX hQ hr (⟨rfl, by rw [e8]; all_goals first | rfl | exact uAt_uAt _ _ _⟩) dX11_sign_38
  · have h6 : ¬ M.1 300 6 = 0 := by simpa using c_4
    exact zV_retv hX hQ hr (⟨rfl, by rw [uSg, if_neg h6]⟩) dX11_sign_7
