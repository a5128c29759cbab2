-- READER of the model: its text row 309, its place field 4 of 300
abbrev uA (M : zM) : Nat := zN (M.1 300 4)
abbrev uAt (a : Nat) (M : zM) : zM := zw M 300 4 (nI a)
def uBy (e : Nat) (M : zM) (i : Nat) : Int32 := if i < e then M.1 309 i else -1
def uBl (M : zM) (i : Nat) : Bool := M.1 309 i == nI 32
def uLt (M : zM) (i : Nat) : Bool := tlo (M.1 309 i)
def uDi (M : zM) (i : Nat) : Bool := tdg (M.1 309 i)
def uSp (e : Nat) (M : zM) : Nat := tEnd (uBl M) e (uA M)
def uS (e : Nat) (M : zM) : zM := uAt (uSp e M) M
/-- how the model stands while it reads: e bytes, n members -/
def uSt (e n : Nat) (M : zM) : Prop := M.1 300 4 = nI (uA M) ∧ uA M ≤ e ∧ M.1 300 3 = nI e ∧ M.1 300 9 = nI n
theorem uAt_self {a : Nat} {M : zM} (h : M.1 300 4 = nI a) : uAt a M = M := by
  unfold uAt
  rw [← h]
  unfold zw
  refine Prod.ext (funext fun c => ?_) rfl
  show (if c = 300 then upd (M.1 300) 4 (M.1 300 4) else M.1 c) = M.1 c
  split
  · rename_i e; subst e
    funext i
    unfold upd
    split
    · rename_i e; rw [e]
    · rfl
  · rfl
theorem uAt_uAt (a b : Nat) (M : zM) : uAt a (uAt b M) = uAt a M := by
  unfold uAt zw
  refine Prod.ext (funext fun c => ?_) rfl
  show (if c = 300 then upd (if 300 = 300 then upd (M.1 300) 4 (nI b) else M.1 300) 4 (nI a) else (if c = 300 then upd (M.1 300) 4 (nI b) else M.1 c)) = (if c = 300 then upd (M.1 300) 4 (nI a) else M.1 c)
  split
  · funext i
    simp only [upd]
    split
    · rfl
    · rename_i h; exact if_neg h
  · rfl
theorem uA_at {a : Nat} {M : zM} (h : a ≤ 300) : uA (uAt a M) = a := by
  show zN ((zw M 300 4 (nI a)).1 300 4) = a
  rw [zw_same, zN_nI (by omega)]
theorem uAt_c {a : Nat} {M : zM} {c j : Nat} (h : c ≠ 300 ∨ j ≠ 4) : (uAt a M).1 c j = M.1 c j := zw_ne h
theorem uSt_at {e n a : Nat} {M : zM} (h : uSt e n M) (ha : a ≤ e) (he : e ≤ 300) : uSt e n (uAt a M) := by
  obtain ⟨h1, h2, h3, h4⟩ := h
  have hA : uA (uAt a M) = a := uA_at (Nat.le_trans ha he)
  exact ⟨by rw [hA]; exact zw_same, by rw [hA]; exact ha, by rw [uAt_c (by omega), h3], by rw [uAt_c (by omega), h4]⟩
theorem uSp_le {e n : Nat} {M : zM} (h : uSt e n M) : uSp e M ≤ e := tEnd_le h.2.1
theorem uSt_S {e n : Nat} {M : zM} (h : uSt e n M) (he : e ≤ 300) : uSt e n (uS e M) := uSt_at h (uSp_le h) he
theorem uBy_e {e : Nat} {M M' : zM} (h : ∀ i, M'.1 309 i = M.1 309 i) : uBy e M' = uBy e M := by funext i; unfold uBy; rw [h]
theorem uBl_e {M M' : zM} (h : ∀ i, M'.1 309 i = M.1 309 i) : uBl M' = uBl M := by funext i; unfold uBl; rw [h]
theorem uLt_e {M M' : zM} (h : ∀ i, M'.1 309 i = M.1 309 i) : uLt M' = uLt M := by funext i; unfold uLt; rw [h]
theorem uDi_e {M M' : zM} (h : ∀ i, M'.1 309 i = M.1 309 i) : uDi M' = uDi M := by funext i; unfold uDi; rw [h]
theorem uBy_is {e i : Nat} {M : zM} {c : Int32} (hc : ¬ (-1 : Int32) = c) (h : uBy e M i = c) : i < e ∧ M.1 309 i = c := by
  unfold uBy at h
  split at h
  · rename_i hi; exact ⟨hi, h⟩
  · exact absurd h hc
theorem uBy_d {e i : Nat} {M : zM} (h : tdg (uBy e M i) = true) : i < e ∧ uDi M i = true := by
  unfold uBy at h
  split at h
  · rename_i hi; exact ⟨hi, h⟩
  · exact absurd h (by decide)
theorem uBy_l {e i : Nat} {M : zM} (h : tlo (uBy e M i) = true) : i < e ∧ uLt M i = true := by
  unfold uBy at h
  split at h
  · rename_i hi; exact ⟨hi, h⟩
  · exact absurd h (by decide)
theorem uBy_nd {e i : Nat} {M : zM} (h : tdg (uBy e M i) = false) : tEnd (uDi M) e i = i := by
  unfold uBy at h
  split at h
  · exact tEnd_f h
  · exact tEnd_e (by omega)
theorem uBy_nl {e i : Nat} {M : zM} (h : tlo (uBy e M i) = false) : tEnd (uLt M) e i = i := by
  unfold uBy at h
  split at h
  · exact tEnd_f h
  · exact tEnd_e (by omega)
theorem uSp_S {e n : Nat} {M : zM} (h : uSt e n M) (he : e ≤ 300) : uSp e (uS e M) = uSp e M := by
  unfold uSp uS
  rw [uBl_e (fun i => uAt_c (by omega)), uA_at (Nat.le_trans (uSp_le h) he)]
  exact tEnd_idem h.2.1
theorem uS_S {e n : Nat} {M : zM} (h : uSt e n M) (he : e ≤ 300) : uS e (uS e M) = uS e M := by
  have h1 := uSp_S h he
  show uAt (uSp e (uS e M)) (uS e M) = _
  rw [h1]
  exact uAt_uAt _ _ _
theorem mWr_c {w p : Int32} {M : zM} {a j : Nat} (h : a ≠ 300 ∨ (j ≠ 6 ∧ j ≠ 7)) : (mWr w p M).1 a j = M.1 a j := by
  unfold mWr
  split
  · rw [zw_ne (by omega), zw_ne (by omega)]
  · rfl
theorem uSt_of {e n : Nat} {M M' : zM} (h : uSt e n M) (h3 : M'.1 300 3 = M.1 300 3) (h4 : M'.1 300 4 = M.1 300 4) (h9 : M'.1 300 9 = M.1 300 9) : uSt e n M' := by
  unfold uSt uA
  rw [h3, h4, h9]
  exact h
theorem uSt_W {e n : Nat} {M : zM} {w p : Int32} (h : uSt e n M) : uSt e n (mWr w p M) := uSt_of h (mWr_c (by omega)) (mWr_c (by omega)) (mWr_c (by omega))
set_option maxHeartbeats 1000000 in
theorem zc_byteAt (l : Launch) (G : zG) (M : zM) (e i : Nat) (h3 : M.1 300 3 = nI e) (he : e ≤ 300) (hi : i < 1000) : zC l G 0 yX11_byteAt cX11_byteAt 2 (Option.some Jvm.ClassFile.FieldType.int) [.ref (300 : Nat), .int (nI i)] M (zP (some (.int (uBy e M i))) M) := by
  refine zC_of (by decide) (Nat.le_of_ble_eq_true rfl) (fun X Q hQ hX hl hR hr => ?_)
  refine zV_loc (L' := [.ref (300 : Nat), .int (nI i)]) rfl ?_
  refine zV_iload_n hX dX11_byteAt_0 rfl ?_
  refine zV_aload_n hX dX11_byteAt_1 rfl ?_
  refine zV_geti hX dX11_byteAt_2 zf_X11_192 zo300.1 rfl (h3) ?_
  refine zV_icmp_ltN hX (tgt := 12) dX11_byteAt_5 (by decide) ⟨by omega, by omega⟩ (fun c_5 => ?_) (fun c_5 => ?_)
  · have e9 : uBy e M i = M.1 309 i := if_pos c_5
    refine zV_aload_n hX dX11_byteAt_12 rfl ?_
    refine zV_geta hX dX11_byteAt_13 zf_X11_17 zo300.1 rfl ?_
    refine zV_iload_n hX dX11_byteAt_16 rfl ?_
    refine zV_iald hX dX11_byteAt_17 (zo300.a 8 rfl) (rfl) ⟨by omega, by omega⟩ (rfl) ?_
    exact zV_reti hX hQ hr (⟨by rw [e9], rfl⟩) dX11_byteAt_18
  · have e9 : uBy e M i = -1 := if_neg (by omega)
    refine zV_iconst hX (v := (-1)) dX11_byteAt_8 (by decide) ?_
    refine zV_goto hX (tgt := 18) dX11_byteAt_9 (by decide) ?_
    exact zV_reti hX hQ hr (⟨by rw [e9], rfl⟩) dX11_byteAt_18
set_option maxHeartbeats 1000000 in
theorem zc_here (l : Launch) (G : zG) (M : zM) (e n : Nat) (hM : uSt e n M) (he : e ≤ 300) : zC l G 1 yX11_here cX11_here 1 (Option.some Jvm.ClassFile.FieldType.int) [.ref (300 : Nat)] M (zP (some (.int (uBy e M (uSp e M)))) (uS e M)) := by
  refine zC_of (by decide) (Nat.le_of_ble_eq_true rfl) (fun X Q hQ hX hl hR hr => ?_)
  refine zV_loc (L' := [.ref (300 : Nat)]) rfl ?_
  have L0 : ∀ (f9 k : Nat), e - k < f9 → k ≤ e → tEnd (uBl M) e k = uSp e M → zV G X Q 1 0 0 0 [.ref (300 : Nat)] [] (uAt k M) := by
    intro f9
    induction f9 with
    | zero => intro k hk1 hk2 hk3; exact absurd hk1 (Nat.not_lt_zero _)
    | succ f9 ih =>
      intro k hk1 hk2 hk3
      refine zV_aload_n hX dX11_here_0 rfl ?_
      refine zV_aload_n hX dX11_here_1 rfl ?_
      refine zV_geti hX dX11_here_2 zf_X11_195 zo300.1 rfl (zw_same) ?_
      refine zV_cV1p hX hR hl dX11_here_5 (zc_byteAt l G (uAt k M) e k (by rw [uAt_c (by omega)]; exact hM.2.2.1) he (by omega)) zt_X11_byteAt rfl zml_X11_198 zo300.1 ⟨by decide, by decide⟩ (Nat.le_of_ble_eq_true rfl) ?_
      dsimp only [Option.toList, List.cons_append, List.nil_append]
      refine zV_topi (uBy e M k) (by rw [uBy_e (fun i => uAt_c (by omega))]) ?_
      refine zV_bipush hX (v := nI 32) dX11_here_8 (by decide) ?_
      refine zV_icmp_ne hX (tgt := 26) dX11_here_10 (by decide) (fun c_10 => ?_) (fun c_10 => ?_)
      · have e9 : k = uSp e M := by rw [← hk3]; rcases Nat.lt_or_ge k e with q | q; exact (tEnd_f (by have h := c_10; unfold uBy at h; rw [if_pos q] at h; simp [uBl, h])).symm; exact (tEnd_e q).symm
        refine zV_aload_n hX dX11_here_26 rfl ?_
        refine zV_aload_n hX dX11_here_27 rfl ?_
        refine zV_geti hX dX11_here_28 zf_X11_195 zo300.1 rfl (zw_same) ?_
        refine zV_cV1p hX hR hl dX11_here_31 (zc_byteAt l G (uAt k M) e k (by rw [uAt_c (by omega)]; exact hM.2.2.1) he (by omega)) zt_X11_byteAt rfl zml_X11_198 zo300.1 ⟨by decide, by decide⟩ (Nat.le_of_ble_eq_true rfl) ?_
        dsimp only [Option.toList, List.cons_append, List.nil_append]
        refine zV_topi (uBy e M k) (by rw [uBy_e (fun i => uAt_c (by omega))]) ?_
        exact zV_reti hX hQ hr (⟨by rw [e9], by rw [e9]; rfl⟩) dX11_here_34
      · obtain ⟨hke, hkb⟩ := uBy_is (by decide) c_10
        have e9 := tEnd_t (q := uBl M) hke (by simp [uBl, hkb])
        refine zV_aload_n hX dX11_here_13 rfl ?_
        refine zV_dup hX dX11_here_14 rfl ?_
        refine zV_geti hX dX11_here_15 zf_X11_195 zo300.1 rfl (zw_same) ?_
        refine zV_iconst hX (v := nI 1) dX11_here_18 (by decide) ?_
        refine zV_iaddN hX dX11_here_19 ?_
        refine zV_puti hX dX11_here_20 zf_X11_195 zp_9_4 zo300.1 rfl ?_
        refine zV_goto hX (tgt := 0) dX11_here_23 (by decide) ?_
        refine zV_mem (uAt_uAt _ _ _) ?_
        exact ih (k + 1) (by omega) (by omega) (e9.trans hk3)
  exact zV_mem (uAt_self hM.1).symm (L0 (e + 1) (uA M) (by omega) hM.2.1 rfl)
def uNum (b : Nat → Int32) (s : Nat) : Nat → Nat
  | 0 => 0
  | k + 1 => min (10 * uNum b s k + zN (b (s + k)) - 48) 1000000
theorem uNum_le (b : Nat → Int32) (s : Nat) : ∀ k, uNum b s k ≤ 1000000
  | 0 => Nat.zero_le _
  | k + 1 => Nat.min_le_right _ _
theorem uNum_s {b : Nat → Int32} {s k : Nat} : uNum b s (k + 1) = min (10 * uNum b s k + zN (b (s + k)) - 48) 1000000 := rfl
def uNd (e : Nat) (M : zM) : Nat := tEnd (uDi M) e (uSp e M)
def uNv (e : Nat) (M : zM) : Nat := uNum (M.1 309) (uSp e M) (uNd e M - uSp e M)
def uNa (e : Nat) (M : zM) : zM := if uNd e M = uSp e M then mWr (nI 1) (nI (uSp e M)) (uS e M) else uS e M
def uNb (e : Nat) (M : zM) : zM := zw (uNa e M) 300 15 (nI (uSp e M))
def uNc (e : Nat) (M : zM) : zM := uAt (uNd e M) (uNb e M)
def uNm (e lo hi : Nat) (M : zM) : zM := if M.1 300 6 = 0 then (if uNv e M < lo ∨ hi < uNv e M then mWr (nI 2) (nI (uSp e M)) (uNc e M) else uNc e M) else M
def uNx (e lo hi : Nat) (M : zM) : Int32 := if (uNm e lo hi M).1 300 6 = 0 then nI (uNv e M) else nI lo
theorem uNa_c {e : Nat} {M : zM} {a j : Nat} (h : a ≠ 300 ∨ (j ≠ 4 ∧ j ≠ 6 ∧ j ≠ 7)) : (uNa e M).1 a j = M.1 a j := by
  unfold uNa
  split
  · rw [mWr_c (by omega)]; exact uAt_c (by omega)
  · exact uAt_c (by omega)
theorem uNb_c {e : Nat} {M : zM} {a j : Nat} (h : a ≠ 300 ∨ (j ≠ 4 ∧ j ≠ 6 ∧ j ≠ 7 ∧ j ≠ 15)) : (uNb e M).1 a j = M.1 a j := by
  unfold uNb
  rw [zw_ne (by omega)]
  exact uNa_c (by omega)
theorem uNa_4 {e : Nat} {M : zM} : (uNa e M).1 300 4 = nI (uSp e M) := by
  unfold uNa
  split
  · rw [mWr_c (by omega)]; exact zw_same
  · exact zw_same
theorem uNb_4 {e : Nat} {M : zM} : (uNb e M).1 300 4 = nI (uSp e M) := by
  unfold uNb
  rw [zw_ne (by omega)]
  exact uNa_4
theorem uNd_le {e n : Nat} {M : zM} (h : uSt e n M) : uNd e M ≤ e := tEnd_le (uSp_le h)
theorem uNm_c {e lo hi : Nat} {M : zM} {a j : Nat} (h : a ≠ 300 ∨ (j ≠ 4 ∧ j ≠ 6 ∧ j ≠ 7 ∧ j ≠ 15)) : (uNm e lo hi M).1 a j = M.1 a j := by
  unfold uNm
  split
  · split
    · rw [mWr_c (by omega)]; unfold uNc; rw [uAt_c (by omega)]; exact uNb_c h
    · unfold uNc; rw [uAt_c (by omega)]; exact uNb_c h
  · rfl
theorem uSt_Nm {e n lo hi : Nat} {M : zM} (h : uSt e n M) (he : e ≤ 300) : uSt e n (uNm e lo hi M) := by
  have hb : uSt e n (uNb e M) := by
    unfold uSt
    have hA : uA (uNb e M) = uSp e M := by unfold uA; rw [uNb_4, zN_nI (by have := uSp_le h; omega)]
    rw [hA, uNb_4, uNb_c (by omega), uNb_c (by omega)]
    exact ⟨rfl, uSp_le h, h.2.2.1, h.2.2.2⟩
  have hc : uSt e n (uNc e M) := uSt_at hb (uNd_le h) he
  unfold uNm
  split
  · split
    · exact uSt_W hc
    · exact hc
  · exact h
theorem mIn_nI {v a b : Nat} (hv : v < 2 ^ 31) (ha : a < 2 ^ 31) (hb : b < 2 ^ 31) : mIn (nI v) (nI a) (nI b) = !(decide (v < a ∨ b < v)) := by
  unfold mIn
  have h1 := nI_leI ha hv
  have h2 := nI_leI hv hb
  by_cases q : v < a
  · rw [decide_eq_false (fun z => absurd (h1.mp z) (by omega)), decide_eq_true (Or.inl q)]; rfl
  · by_cases q2 : b < v
    · rw [decide_eq_false (p := nI v ≤ nI b) (fun z => absurd (h2.mp z) (by omega)), decide_eq_true (Or.inr q2), Bool.and_false]; rfl
    · rw [decide_eq_true (h1.mpr (by omega)), decide_eq_true (h2.mpr (by omega)), decide_eq_false (by omega)]; rfl
theorem mLess_nI {a b : Nat} (ha : a < 2 ^ 31) (hb : b < 2 ^ 31) : mLess (nI a) (nI b) = nI (min b a) := by
  unfold mLess
  by_cases h : b ≤ a
  · rw [if_pos ((nI_leI hb ha).mpr h), Nat.min_eq_left h]
  · rw [if_neg (fun q => h ((nI_leI hb ha).mp q)), Nat.min_eq_right (by omega)]
set_option maxHeartbeats 1000000 in
theorem zc_number (l : Launch) (G : zG) (M : zM) (e n lo hi : Nat) (hM : uSt e n M) (he : e ≤ 300) (hlo : lo < 2 ^ 31) (hhi : hi < 2 ^ 31) : zC l G 2 yX11_number cX11_number 4 (Option.some Jvm.ClassFile.FieldType.int) [.ref (300 : Nat), .int (nI lo), .int (nI hi)] M (zP (some (.int (uNx e lo hi M))) (uNm e lo hi M)) := by
  refine zC_of (by decide) (Nat.le_of_ble_eq_true rfl) (fun X Q hQ hX hl hR hr => ?_)
  refine zV_loc (L' := [.ref (300 : Nat), .int (nI lo), .int (nI hi), .null]) rfl ?_
  have hsp := uSp_le hM
  have J105 : zV G X Q 4 0 0 105 [.ref (300 : Nat), .int (nI lo), .int (nI hi), .int (nI (uNv e M))] [] (uNm e lo hi M) := by
    refine zV_aload_n hX dX11_number_105 rfl ?_
    refine zV_cV0p hX hR hl dX11_number_106 (zc_fine l G _) zt_X11_fine rfl zml_X11_208 zo300.1 ⟨by decide, by decide⟩ (Nat.le_of_ble_eq_true rfl) ?_
    dsimp only [Option.toList, List.cons_append, List.nil_append]
    refine zV_if_eqB hX (tgt := 116) dX11_number_109 (by decide) (fun c_109 => ?_) (fun c_109 => ?_)
    · refine zV_iload_n hX dX11_number_116 rfl ?_
      exact zV_reti hX hQ hr (⟨by first | (rw [uNx, if_neg (by simpa using c_109)]; done) | (rw [uNx, if_pos (by simpa using c_109)]; done), rfl⟩) dX11_number_117
    · refine zV_iload_n hX dX11_number_112 rfl ?_
      refine zV_goto hX (tgt := 117) dX11_number_113 (by decide) ?_
      exact zV_reti hX hQ hr (⟨by first | (rw [uNx, if_neg (by simpa using c_109)]; done) | (rw [uNx, if_pos (by simpa using c_109)]; done), rfl⟩) dX11_number_117
  have J87 : M.1 300 6 = 0 → zV G X Q 4 0 0 87 [.ref (300 : Nat), .int (nI lo), .int (nI hi), .int (nI (uNv e M))] [] (uNc e M) := by
    intro h6
    have hnl : uNv e M ≤ 1000000 := uNum_le _ _ _
    refine zV_iload_n hX dX11_number_87 rfl ?_
    refine zV_iload_n hX dX11_number_88 rfl ?_
    refine zV_iload_n hX dX11_number_89 rfl ?_
    refine zV_cS3p hX hR hl dX11_number_90 (zc_min l G _ _ _ _) zt_X11_in rfl zml_X11_162 (by decide) (Nat.le_of_ble_eq_true rfl) ?_
    dsimp only [Option.toList, List.cons_append, List.nil_append]
    refine zV_topi (zb (!(decide (uNv e M < lo ∨ hi < uNv e M)))) (by rw [mIn_nI (by omega) hlo hhi]) ?_
    refine zV_if_neB hX (tgt := 105) dX11_number_93 (by decide) (fun c_93 => ?_) (fun c_93 => ?_)
    · have e9 : uNm e lo hi M = uNc e M := by rw [uNm, if_pos h6, if_neg (by simpa using c_93)]
      exact zV_mem e9.symm J105
    · have e9 : uNm e lo hi M = mWr (nI 2) (nI (uSp e M)) (uNc e M) := by rw [uNm, if_pos h6, if_pos (by have h := c_93; exact of_decide_eq_true (by cases hh : decide (uNv e M < lo ∨ hi < uNv e M) with | true => rfl | false => rw [hh] at h; exact absurd h (by decide)))]
      refine zV_aload_n hX dX11_number_96 rfl ?_
      refine zV_iconst hX (v := nI 2) dX11_number_97 (by decide) ?_
      refine zV_aload_n hX dX11_number_98 rfl ?_
      refine zV_geti hX dX11_number_99 zf_X11_223 zo300.1 rfl ((uAt_c (by omega)).trans zw_same) ?_
      refine zV_cV2p hX hR hl dX11_number_102 (zc_wrong l G _ _ _) zt_X11_wrong rfl zml_X11_219 zo300.1 ⟨by decide, by decide⟩ (Nat.le_of_ble_eq_true rfl) ?_
      dsimp only [Option.toList, List.cons_append, List.nil_append]
      exact zV_mem e9.symm J105
  have L38 : M.1 300 6 = 0 → ∀ (f9 k : Nat), e - k < f9 → k ≤ e → uSp e M ≤ k → tEnd (uDi M) e k = uNd e M → zV G X Q 4 0 0 38 [.ref (300 : Nat), .int (nI lo), .int (nI hi), .int (nI (uNum (M.1 309) (uSp e M) (k - uSp e M)))] [] (uAt k (uNb e M)) := by
    intro h6
    intro f9
    induction f9 with
    | zero => intro k hk1 hk2 hk3 hk4; exact absurd hk1 (Nat.not_lt_zero _)
    | succ f9 ih =>
      intro k hk1 hk2 hk3 hk4
      refine zV_aload_n hX dX11_number_38 rfl ?_
      refine zV_aload_n hX dX11_number_39 rfl ?_
      refine zV_geti hX dX11_number_40 zf_X11_195 zo300.1 rfl (zw_same) ?_
      refine zV_cV1p hX hR hl dX11_number_43 (zc_byteAt l G (uAt k (uNb e M)) e k (by rw [uAt_c (by omega), uNb_c (by omega)]; exact hM.2.2.1) he (by omega)) zt_X11_byteAt rfl zml_X11_198 zo300.1 ⟨by decide, by decide⟩ (Nat.le_of_ble_eq_true rfl) ?_
      dsimp only [Option.toList, List.cons_append, List.nil_append]
      refine zV_topi (uBy e M k) (by rw [uBy_e (fun i => (uAt_c (by omega)).trans (uNb_c (by omega)))]) ?_
      refine zV_cS1p hX hR hl dX11_number_46 (zc_misDigit l G _ _) zt_X11_isDigit rfl zml_X11_216 (by decide) (Nat.le_of_ble_eq_true rfl) ?_
      dsimp only [Option.toList, List.cons_append, List.nil_append]
      refine zV_if_eqB hX (tgt := 87) dX11_number_49 (by decide) (fun c_49 => ?_) (fun c_49 => ?_)
      · have e9 : k = uNd e M := by rw [← hk4]; exact (uBy_nd c_49).symm
        refine zV_mem (show _ = uNc e M by rw [e9]; try rfl) (zV_loc (by rw [e9]; try rfl) (J87 h6))
      · obtain ⟨hke, hkd⟩ := uBy_d c_49
        have e9 := tEnd_t (q := uDi M) hke hkd
        obtain ⟨hd1, hd2, hd3⟩ := tdg_nI hkd
        have e8 : uBy e M k = nI (zN (M.1 309 k)) := (if_pos hke).trans hd1
        refine zV_ldc hX dX11_number_52 zkc_X11_226 ?_
        refine zV_topi (nI 1000000) (by decide) ?_
        refine zV_bipush hX (v := nI 10) dX11_number_54 (by decide) ?_
        refine zV_iload_n hX dX11_number_56 rfl ?_
        refine zV_imulN hX dX11_number_57 ?_
        refine zV_aload_n hX dX11_number_58 rfl ?_
        refine zV_aload_n hX dX11_number_59 rfl ?_
        refine zV_geti hX dX11_number_60 zf_X11_195 zo300.1 rfl (zw_same) ?_
        refine zV_cV1p hX hR hl dX11_number_63 (zc_byteAt l G (uAt k (uNb e M)) e k (by rw [uAt_c (by omega), uNb_c (by omega)]; exact hM.2.2.1) he (by omega)) zt_X11_byteAt rfl zml_X11_198 zo300.1 ⟨by decide, by decide⟩ (Nat.le_of_ble_eq_true rfl) ?_
        dsimp only [Option.toList, List.cons_append, List.nil_append]
        refine zV_topi (uBy e M k) (by rw [uBy_e (fun i => (uAt_c (by omega)).trans (uNb_c (by omega)))]) ?_
        refine zV_topi (nI (zN (M.1 309 k))) e8 ?_
        refine zV_iaddN hX dX11_number_66 ?_
        refine zV_bipush hX (v := nI 48) dX11_number_67 (by decide) ?_
        have hnl := uNum_le (M.1 309) (uSp e M) (k - uSp e M)
        refine zV_isubN hX dX11_number_69 (by omega) ?_
        refine zV_cS2p hX hR hl dX11_number_70 (zc_less l G _ _ _) zt_X11_less rfl zml_X11_227 (by decide) (Nat.le_of_ble_eq_true rfl) ?_
        dsimp only [Option.toList, List.cons_append, List.nil_append]
        refine zV_topi (nI (uNum (M.1 309) (uSp e M) (k + 1 - uSp e M))) (by rw [mLess_nI (by omega) (by omega), show k + 1 - uSp e M = (k - uSp e M) + 1 by omega]; rw [uNum_s, show uSp e M + (k - uSp e M) = k by omega]) ?_
        refine zV_istore_n hX dX11_number_73 (by decide) ?_
        dsimp only [zst1, zst2, zclr, zc2]
        refine zV_aload_n hX dX11_number_74 rfl ?_
        refine zV_dup hX dX11_number_75 rfl ?_
        refine zV_geti hX dX11_number_76 zf_X11_195 zo300.1 rfl (zw_same) ?_
        refine zV_iconst hX (v := nI 1) dX11_number_79 (by decide) ?_
        refine zV_iaddN hX dX11_number_80 ?_
        refine zV_puti hX dX11_number_81 zf_X11_195 zp_9_4 zo300.1 rfl ?_
        refine zV_goto hX (tgt := 38) dX11_number_84 (by decide) ?_
        refine zV_mem (uAt_uAt _ _ _) ?_
        exact ih (k + 1) (by omega) (by omega) (by omega) (e9.trans hk4)
  have J28 : M.1 300 6 = 0 → zV G X Q 4 0 0 28 [.ref (300 : Nat), .int (nI lo), .int (nI hi), .null] [] (uNa e M) := by
    intro h6
    refine zV_aload_n hX dX11_number_28 rfl ?_
    refine zV_aload_n hX dX11_number_29 rfl ?_
    refine zV_geti hX dX11_number_30 zf_X11_195 zo300.1 rfl (uNa_4) ?_
    refine zV_puti hX dX11_number_33 zf_X11_223 zp_9_15 zo300.1 rfl ?_
    refine zV_iconst hX (v := nI 0) dX11_number_36 (by decide) ?_
    refine zV_istore_n hX dX11_number_37 (by decide) ?_
    dsimp only [zst1, zst2, zclr, zc2]
    refine zV_mem (show _ = uAt (uSp e M) (uNb e M) from (uAt_self uNb_4).symm) ?_
    exact zV_loc (by rw [Nat.sub_self]; try rfl) (L38 h6 (e + 1) (uSp e M) (by omega) hsp (Nat.le_refl _) rfl)
  refine zV_aload_n hX dX11_number_0 rfl ?_
  refine zV_cV0p hX hR hl dX11_number_1 (zc_fine l G M) zt_X11_fine rfl zml_X11_208 zo300.1 ⟨by decide, by decide⟩ (Nat.le_of_ble_eq_true rfl) ?_
  dsimp only [Option.toList, List.cons_append, List.nil_append]
  refine zV_if_neB hX (tgt := 9) dX11_number_4 (by decide) (fun c_4 => ?_) (fun c_4 => ?_)
  · have h6 : M.1 300 6 = 0 := by simpa using c_4
    refine zV_aload_n hX dX11_number_9 rfl ?_
    refine zV_cV0p hX hR hl dX11_number_10 (zc_here l G M e n hM he) zt_X11_here rfl zml_X11_212 zo300.1 ⟨by decide, by decide⟩ (Nat.le_of_ble_eq_true rfl) ?_
    dsimp only [Option.toList, List.cons_append, List.nil_append]
    refine zV_cS1p hX hR hl dX11_number_13 (zc_misDigit l G _ _) zt_X11_isDigit rfl zml_X11_216 (by decide) (Nat.le_of_ble_eq_true rfl) ?_
    dsimp only [Option.toList, List.cons_append, List.nil_append]
    refine zV_if_neB hX (tgt := 28) dX11_number_16 (by decide) (fun c_16 => ?_) (fun c_16 => ?_)
    · have e9 : uNa e M = uS e M := if_neg (by obtain ⟨q1, q2⟩ := uBy_d c_16; have := tEnd_t q1 q2; have := tEnd_ge (uDi M) e ((uSp e M) + 1); unfold uNd; omega)
      exact zV_mem e9.symm (J28 h6)
    · have e9 : uNa e M = mWr (nI 1) (nI (uSp e M)) (uS e M) := if_pos (uBy_nd c_16)
      refine zV_aload_n hX dX11_number_19 rfl ?_
      refine zV_iconst hX (v := nI 1) dX11_number_20 (by decide) ?_
      refine zV_aload_n hX dX11_number_21 rfl ?_
      refine zV_geti hX dX11_number_22 zf_X11_195 zo300.1 rfl (zw_same) ?_
      refine zV_cV2p hX hR hl dX11_number_25 (zc_wrong l G _ _ _) zt_X11_wrong rfl zml_X11_219 zo300.1 ⟨by decide, by decide⟩ (Nat.le_of_ble_eq_true rfl) ?_
      dsimp only [Option.toList, List.cons_append, List.nil_append]
      exact zV_mem e9.symm (J28 h6)
  · have h6 : ¬ M.1 300 6 = 0 := by simpa using c_4
    refine zV_iload_n hX dX11_number_7 rfl ?_
    exact zV_reti hX hQ hr (⟨by rw [uNx, uNm, if_neg h6, if_neg h6], by rw [uNm, if_neg h6]⟩) dX11_number_8
