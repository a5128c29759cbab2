-- ATTACKS of the class
def fWl (n r i : Nat) : Nat := if i = 0 then n - 1 else if r = 2 then n - 2 else 0
theorem fWl_le {n r i : Nat} (hn : n ≤ 4) : fWl n r i ≤ 3 := by
  unfold fWl
  split
  · omega
  · split <;> omega
theorem p3_le {k : Nat} (h : k ≤ 3) : 1 ≤ 3 ^ k ∧ 3 ^ k ≤ 27 := by
  match k, h with
  | 0, _ => decide
  | 1, _ => decide
  | 2, _ => decide
  | 3, _ => decide
def fA0 (lt n r i : Nat) (M : zM) : zM := zw (zw (gBegin 50 lt n (r - 1) M) 55 0 1065353216) lt 0 ((zw (gBegin 50 lt n (r - 1) M) 55 0 1065353216).1 lt 0 ||| (nI 1 <<< (nI i &&& 31)))
def fAs (lt i d to cnt : Nat) (M : zM) : zM := lSetActIf lt i (cnt + 1) (if d = 2 then nI 2 else nI 0) (FP.i2f (nI d)).toInt32 (nI 0) (lAdd lt i cnt (if i = 0 then nI 1 else nI 2) (nI to) (-1) M)
def fAk (lt n r i w : Nat) (M : zM) : Nat → Nat × Nat × zM
  | 0 => (3 ^ fWl n r i / 3, 0, fA0 lt n r i M)
  | k + 1 => if k + 1 ≠ i ∧ 0 < (fAk lt n r i w M k).1 then ((fAk lt n r i w M k).1 / 3, (fAk lt n r i w M k).2.1 + 1, fAs lt i (w / (fAk lt n r i w M k).1 % 3) (k + 1) (fAk lt n r i w M k).2.1 (fAk lt n r i w M k).2.2) else fAk lt n r i w M k
theorem fAd_fl : ∀ d, d < 3 → ∃ s E T, fld (FP.i2f (nI d)) s E T
  | 0, _ => ⟨false, 0, 0, by decide +kernel, by decide, by decide⟩
  | 1, _ => ⟨false, 127, 0, by decide +kernel, by decide, by decide⟩
  | 2, _ => ⟨false, 128, 0, by decide +kernel, by decide, by decide⟩
theorem fA1_fl : fld FP.fconst1 false 127 0 := ⟨by decide +kernel, by decide, by decide⟩
/-- what holds while a way is told as LIES -/
def fAI (lt n r i cnt : Nat) (M : zM) : Prop := M.1 50 0 = nI n ∧ M.1 50 1 = nI (r - 1) ∧ M.1 50 3 = nI lt ∧ ∀ m, m < 7 → M.1 (lt + 1 + 1) m = nI (if m = i then cnt else 0)
theorem gBegin_o {g c n t : Nat} {M : zM} {a j : Nat} (h : a ≠ g + 5) (h2 : a ≠ g ∨ 2 < j) : (gBegin g c n t M).1 a j = (lClear c M).1 a j ∨ (gBegin g c n t M).1 a j = (lClear c (zw (zw (zw M g 0 (nI n)) g 1 (nI t)) g 2 (nI 0))).1 a j := by
  right
  have : ∀ k, (zfor (fun i M => zw M (g + 1 + 4) i (nI 0)) k (lClear c (zw (zw (zw M g 0 (nI n)) g 1 (nI t)) g 2 (nI 0)))).1 a j = (lClear c (zw (zw (zw M g 0 (nI n)) g 1 (nI t)) g 2 (nI 0))).1 a j := fun k => by
    induction k with
    | zero => rfl
    | succ k ih => exact (zw_ne (by omega)).trans ih
  exact this 7
theorem fAI_0 {lt n r i : Nat} {M : zM} (hL : lyL lt) (h3 : M.1 50 3 = nI lt) : fAI lt n r i 0 (fA0 lt n r i M) := by
  have hl : 180 ≤ lt := by unfold lyL at hL; omega
  unfold fA0
  refine ⟨?_, ?_, ?_, fun m hm => ?_⟩
  · rw [zw_ne (by omega), zw_ne (by omega)]; exact gBegin_01 (by omega) (j := 0) (by decide)
  · rw [zw_ne (by omega), zw_ne (by omega)]; exact gBegin_01 (by omega) (j := 1) (by decide)
  · rw [zw_ne (by omega), zw_ne (by omega)]
    have h1 : ∀ k, (zfor (fun i M => zw M (50 + 1 + 4) i (nI 0)) k (lClear lt (zw (zw (zw M 50 0 (nI n)) 50 1 (nI (r - 1))) 50 2 (nI 0)))).1 50 3 = nI lt := fun k => by
      induction k with
      | zero =>
        show (lClear lt _).1 50 3 = _
        rw [lClear_c (Or.inl (by omega)), zw_ne (by omega), zw_ne (by omega), zw_ne (by omega)]; exact h3
      | succ k ih => exact (zw_ne (by omega)).trans ih
    exact h1 7
  · rw [zw_ne (by omega), zw_ne (by omega)]
    have h1 : ∀ k, (zfor (fun i M => zw M (50 + 1 + 4) i (nI 0)) k (lClear lt (zw (zw (zw M 50 0 (nI n)) 50 1 (nI (r - 1))) 50 2 (nI 0)))).1 (lt + 1 + 1) m = nI 0 := fun k => by
      induction k with
      | zero => exact lClear_k hm
      | succ k ih => exact (zw_ne (by omega)).trans ih
    rw [show (if m = i then 0 else 0) = 0 from ite_self 0]
    exact h1 7
theorem fAI_s {lt n r i cnt d to : Nat} {M : zM} (hL : lyL lt) (hi : i < 7) (hc : cnt < 12) (h : fAI lt n r i cnt M) : fAI lt n r i (cnt + 1) (fAs lt i d to cnt M) := by
  have hl : 180 ≤ lt := by unfold lyL at hL; omega
  unfold fAs
  refine ⟨?_, ?_, ?_, fun m hm => ?_⟩
  · rw [lSetActIf_c (by omega), lAdd_c (by omega)]; exact h.1
  · rw [lSetActIf_c (by omega), lAdd_c (by omega)]; exact h.2.1
  · rw [lSetActIf_c (by omega), lAdd_c (by omega)]; exact h.2.2.1
  · rw [lSetActIf_c (by omega), lAdd_k hc]
    by_cases e : m = i
    · rw [if_pos e, if_pos e]
    · rw [if_neg e, if_neg e]
      have := h.2.2.2 m hm
      rw [if_neg e] at this
      exact this
theorem fAI_k {lt n r i w : Nat} {M : zM} (hL : lyL lt) (hi : i < 7) (h3 : M.1 50 3 = nI lt) : ∀ k, k ≤ 4 → (fAk lt n r i w M k).2.1 ≤ k ∧ (fAk lt n r i w M k).1 ≤ 3 ^ fWl n r i ∧ fAI lt n r i (fAk lt n r i w M k).2.1 (fAk lt n r i w M k).2.2
  | 0, _ => ⟨Nat.le_refl _, Nat.div_le_self _ _, fAI_0 hL h3⟩
  | k + 1, hk => by
    obtain ⟨h1, h2, h4⟩ := fAI_k (w := w) (n := n) (r := r) hL hi h3 k (by omega)
    unfold fAk
    split
    · exact ⟨Nat.succ_le_succ h1, Nat.le_trans (Nat.div_le_self _ _) h2, fAI_s hL hi (by omega) h4⟩
    · exact ⟨Nat.le_succ_of_le h1, h2, h4⟩
/-- an attack -/
def fAt (lt n r i w : Nat) (M : zM) : zM := oPlay 90 50 lt n (r - 1) 0 (fun m => if m = i then (fAk lt n r i w M (n - 1)).2.1 else 0) (fAk lt n r i w M (n - 1)).2.2
def fBr (n i : Nat) (R : zM) : Bool := if i = 0 then decide (1 < zunl (R.1 (90 + 1 + 16)) (R.1 90 10) n) else !oObeyed 90 n 0 R
set_option maxHeartbeats 1000000 in
theorem zf_needAttack (l : Launch) (G : zG) (M : zM) (n r i : Nat) (hn3 : 3 ≤ n ∧ n ≤ 4) (hrr : 1 ≤ r ∧ r ≤ 2) (hi : i < n) : zC l G 1 yX10_needAttack cX10_needAttack 4 (Option.none : Option Jvm.ClassFile.FieldType) [.ref (0 : Nat), .int (nI n), .int (nI r), .int (nI i)] M (zP none M) := by
  refine zC_of (by decide) (Nat.le_of_ble_eq_true rfl) (fun X Q hQ hX hl hR hr => ?_)
  refine zV_loc (L' := [.ref (0 : Nat), .int (nI n), .int (nI r), .int (nI i)]) rfl ?_
  refine zV_aload_n hX dX10_needAttack_0 rfl ?_
  refine zV_iload_n hX dX10_needAttack_1 rfl ?_
  refine zV_iconst hX (v := nI 3) dX10_needAttack_2 (by decide) ?_
  refine zV_icmp_eqN hX (tgt := 11) dX10_needAttack_3 (by decide) ⟨by omega, by omega⟩ (fun c_3 => ?_) (fun c_3 => ?_)
  · refine zV_iconst hX (v := nI 1) dX10_needAttack_11 (by decide) ?_
    refine zV_goto hX (tgt := 16) dX10_needAttack_12 (by decide) ?_
    refine zV_topi (zb true) rfl ?_
    refine zV_cV1p hX hR hl dX10_needAttack_16 (zc_need1 l G _) zt_X10_need rfl zml_X10_72 zo0.1 ⟨by decide, by decide⟩ (Nat.le_of_ble_eq_true rfl) ?_
    dsimp only [Option.toList, List.cons_append, List.nil_append]
    refine zV_aload_n hX dX10_needAttack_19 rfl ?_
    refine zV_iload_n hX dX10_needAttack_20 rfl ?_
    refine zV_if_ltN hX (tgt := 33) dX10_needAttack_21 (by decide) (by omega) (fun c_21 => ?_)
    refine zV_iload_n hX dX10_needAttack_24 rfl ?_
    refine zV_iload_n hX dX10_needAttack_25 rfl ?_
    refine zV_icmp_geN hX (tgt := 33) dX10_needAttack_26 (by decide) ⟨by omega, by omega⟩ (fun c_26 => ?_) (fun c_26 => ?_)
    · refine zV_iconst hX (v := nI 0) dX10_needAttack_33 (by decide) ?_
      refine zV_topi (zb false) rfl ?_
      exfalso
      omega
    · refine zV_iconst hX (v := nI 1) dX10_needAttack_29 (by decide) ?_
      refine zV_goto hX (tgt := 34) dX10_needAttack_30 (by decide) ?_
      refine zV_topi (zb true) rfl ?_
      refine zV_cV1p hX hR hl dX10_needAttack_34 (zc_such1 l G _) zt_X10_needSuch rfl zml_X10_87 zo0.1 ⟨by decide, by decide⟩ (Nat.le_of_ble_eq_true rfl) ?_
      dsimp only [Option.toList, List.cons_append, List.nil_append]
      refine zV_aload_n hX dX10_needAttack_37 rfl ?_
      refine zV_iload_n hX dX10_needAttack_38 rfl ?_
      refine zV_iconst hX (v := nI 1) dX10_needAttack_39 (by decide) ?_
      refine zV_icmp_eqN hX (tgt := 48) dX10_needAttack_40 (by decide) ⟨by omega, by omega⟩ (fun c_40 => ?_) (fun c_40 => ?_)
      · refine zV_iconst hX (v := nI 1) dX10_needAttack_48 (by decide) ?_
        refine zV_goto hX (tgt := 53) dX10_needAttack_49 (by decide) ?_
        refine zV_topi (zb true) rfl ?_
        refine zV_cV1p hX hR hl dX10_needAttack_53 (zc_need1 l G _) zt_X10_need rfl zml_X10_72 zo0.1 ⟨by decide, by decide⟩ (Nat.le_of_ble_eq_true rfl) ?_
        dsimp only [Option.toList, List.cons_append, List.nil_append]
        exact zV_retv hX hQ hr (⟨rfl, rfl⟩) dX10_needAttack_56
      · refine zV_iload_n hX dX10_needAttack_43 rfl ?_
        refine zV_iconst hX (v := nI 2) dX10_needAttack_44 (by decide) ?_
        refine zV_icmp_neN hX (tgt := 52) dX10_needAttack_45 (by decide) ⟨by omega, by omega⟩ (fun c_45 => ?_) (fun c_45 => ?_)
        · refine zV_iconst hX (v := nI 0) dX10_needAttack_52 (by decide) ?_
          refine zV_topi (zb false) rfl ?_
          exfalso
          omega
        · refine zV_iconst hX (v := nI 1) dX10_needAttack_48 (by decide) ?_
          refine zV_goto hX (tgt := 53) dX10_needAttack_49 (by decide) ?_
          refine zV_topi (zb true) rfl ?_
          refine zV_cV1p hX hR hl dX10_needAttack_53 (zc_need1 l G _) zt_X10_need rfl zml_X10_72 zo0.1 ⟨by decide, by decide⟩ (Nat.le_of_ble_eq_true rfl) ?_
          dsimp only [Option.toList, List.cons_append, List.nil_append]
          exact zV_retv hX hQ hr (⟨rfl, rfl⟩) dX10_needAttack_56
  · refine zV_iload_n hX dX10_needAttack_6 rfl ?_
    refine zV_iconst hX (v := nI 4) dX10_needAttack_7 (by decide) ?_
    refine zV_icmp_neN hX (tgt := 15) dX10_needAttack_8 (by decide) ⟨by omega, by omega⟩ (fun c_8 => ?_) (fun c_8 => ?_)
    · refine zV_iconst hX (v := nI 0) dX10_needAttack_15 (by decide) ?_
      refine zV_topi (zb false) rfl ?_
      exfalso
      omega
    · refine zV_iconst hX (v := nI 1) dX10_needAttack_11 (by decide) ?_
      refine zV_goto hX (tgt := 16) dX10_needAttack_12 (by decide) ?_
      refine zV_topi (zb true) rfl ?_
      refine zV_cV1p hX hR hl dX10_needAttack_16 (zc_need1 l G _) zt_X10_need rfl zml_X10_72 zo0.1 ⟨by decide, by decide⟩ (Nat.le_of_ble_eq_true rfl) ?_
      dsimp only [Option.toList, List.cons_append, List.nil_append]
      refine zV_aload_n hX dX10_needAttack_19 rfl ?_
      refine zV_iload_n hX dX10_needAttack_20 rfl ?_
      refine zV_if_ltN hX (tgt := 33) dX10_needAttack_21 (by decide) (by omega) (fun c_21 => ?_)
      refine zV_iload_n hX dX10_needAttack_24 rfl ?_
      refine zV_iload_n hX dX10_needAttack_25 rfl ?_
      refine zV_icmp_geN hX (tgt := 33) dX10_needAttack_26 (by decide) ⟨by omega, by omega⟩ (fun c_26 => ?_) (fun c_26 => ?_)
      · refine zV_iconst hX (v := nI 0) dX10_needAttack_33 (by decide) ?_
        refine zV_topi (zb false) rfl ?_
        exfalso
        omega
      · refine zV_iconst hX (v := nI 1) dX10_needAttack_29 (by decide) ?_
        refine zV_goto hX (tgt := 34) dX10_needAttack_30 (by decide) ?_
        refine zV_topi (zb true) rfl ?_
        refine zV_cV1p hX hR hl dX10_needAttack_34 (zc_such1 l G _) zt_X10_needSuch rfl zml_X10_87 zo0.1 ⟨by decide, by decide⟩ (Nat.le_of_ble_eq_true rfl) ?_
        dsimp only [Option.toList, List.cons_append, List.nil_append]
        refine zV_aload_n hX dX10_needAttack_37 rfl ?_
        refine zV_iload_n hX dX10_needAttack_38 rfl ?_
        refine zV_iconst hX (v := nI 1) dX10_needAttack_39 (by decide) ?_
        refine zV_icmp_eqN hX (tgt := 48) dX10_needAttack_40 (by decide) ⟨by omega, by omega⟩ (fun c_40 => ?_) (fun c_40 => ?_)
        · refine zV_iconst hX (v := nI 1) dX10_needAttack_48 (by decide) ?_
          refine zV_goto hX (tgt := 53) dX10_needAttack_49 (by decide) ?_
          refine zV_topi (zb true) rfl ?_
          refine zV_cV1p hX hR hl dX10_needAttack_53 (zc_need1 l G _) zt_X10_need rfl zml_X10_72 zo0.1 ⟨by decide, by decide⟩ (Nat.le_of_ble_eq_true rfl) ?_
          dsimp only [Option.toList, List.cons_append, List.nil_append]
          exact zV_retv hX hQ hr (⟨rfl, rfl⟩) dX10_needAttack_56
        · refine zV_iload_n hX dX10_needAttack_43 rfl ?_
          refine zV_iconst hX (v := nI 2) dX10_needAttack_44 (by decide) ?_
          refine zV_icmp_neN hX (tgt := 52) dX10_needAttack_45 (by decide) ⟨by omega, by omega⟩ (fun c_45 => ?_) (fun c_45 => ?_)
          · refine zV_iconst hX (v := nI 0) dX10_needAttack_52 (by decide) ?_
            refine zV_topi (zb false) rfl ?_
            exfalso
            omega
          · refine zV_iconst hX (v := nI 1) dX10_needAttack_48 (by decide) ?_
            refine zV_goto hX (tgt := 53) dX10_needAttack_49 (by decide) ?_
            refine zV_topi (zb true) rfl ?_
            refine zV_cV1p hX hR hl dX10_needAttack_53 (zc_need1 l G _) zt_X10_need rfl zml_X10_72 zo0.1 ⟨by decide, by decide⟩ (Nat.le_of_ble_eq_true rfl) ?_
            dsimp only [Option.toList, List.cons_append, List.nil_append]
            exact zV_retv hX hQ hr (⟨rfl, rfl⟩) dX10_needAttack_56
theorem m34a {x : Int32} (h : x = nI 3) : mIn x (nI 3) (nI 4) = true := by subst h; decide
theorem m34b {x : Int32} (h : x = nI 4) : mIn x (nI 3) (nI 4) = true := by subst h; decide
theorem m12a {x : Int32} (h : x = nI 1) : mIn x (nI 1) (nI 2) = true := by subst h; decide
theorem m12b {x : Int32} (h : x = nI 2) : mIn x (nI 1) (nI 2) = true := by subst h; decide
set_option maxHeartbeats 1000000 in
theorem zf_needAttackN (l : Launch) (G : zG) (M : zM) (hst : l.stackTraces = false) (x r i : Int32) (hx : mIn x (nI 3) (nI 4) = false) : zCx l G 6 1 6 yX10_needAttack cX10_needAttack 4 (Option.none : Option Jvm.ClassFile.FieldType) [.ref (0 : Nat), .int x, .int r, .int i] M zIAE (mBa M) := by
  refine zCx_of (by decide) (Nat.le_of_ble_eq_true rfl) (fun X Q hQ hX hl hR hEx ht => ?_)
  refine zV_loc (L' := [.ref (0 : Nat), .int x, .int r, .int i]) rfl ?_
  refine zV_aload_n hX dX10_needAttack_0 rfl ?_
  refine zV_iload_n hX dX10_needAttack_1 rfl ?_
  refine zV_iconst hX (v := nI 3) dX10_needAttack_2 (by decide) ?_
  refine zV_icmp_eq hX (tgt := 11) dX10_needAttack_3 (by decide) (fun c_3 => ?_) (fun c_3 => ?_)
  · refine zV_iconst hX (v := nI 1) dX10_needAttack_11 (by decide) ?_
    refine zV_goto hX (tgt := 16) dX10_needAttack_12 (by decide) ?_
    refine zV_topi (zb true) rfl ?_
    first | (rw [m34a c_3] at hx; exact absurd hx (by decide)) | (rw [m34b c_8] at hx; exact absurd hx (by decide))
  · refine zV_iload_n hX dX10_needAttack_6 rfl ?_
    refine zV_iconst hX (v := nI 4) dX10_needAttack_7 (by decide) ?_
    refine zV_icmp_ne hX (tgt := 15) dX10_needAttack_8 (by decide) (fun c_8 => ?_) (fun c_8 => ?_)
    · refine zV_iconst hX (v := nI 0) dX10_needAttack_15 (by decide) ?_
      refine zV_topi (zb false) rfl ?_
      exact zX_cV1 hX hEx hR hl hQ ht dX10_needAttack_16 (zc_need0 l G _ hst) zt_X10_need rfl zml_X10_72 zo0.1 ⟨by decide, by decide⟩ (Nat.le_of_ble_eq_true rfl) (by omega)
    · refine zV_iconst hX (v := nI 1) dX10_needAttack_11 (by decide) ?_
      refine zV_goto hX (tgt := 16) dX10_needAttack_12 (by decide) ?_
      refine zV_topi (zb true) rfl ?_
      first | (rw [m34a c_3] at hx; exact absurd hx (by decide)) | (rw [m34b c_8] at hx; exact absurd hx (by decide))
set_option maxHeartbeats 1000000 in
theorem zf_needAttackI (l : Launch) (G : zG) (M : zM) (hst : l.stackTraces = false) (n : Nat) (r x : Int32) (hn3 : 3 ≤ n ∧ n ≤ 4) (hx : zmem x n = false) : zCx l G 6 1 6 yX10_needAttack cX10_needAttack 4 (Option.none : Option Jvm.ClassFile.FieldType) [.ref (0 : Nat), .int (nI n), .int r, .int x] M zNSE (mBs M) := by
  refine zCx_of (by decide) (Nat.le_of_ble_eq_true rfl) (fun X Q hQ hX hl hR hEx ht => ?_)
  refine zV_loc (L' := [.ref (0 : Nat), .int (nI n), .int r, .int x]) rfl ?_
  refine zV_aload_n hX dX10_needAttack_0 rfl ?_
  refine zV_iload_n hX dX10_needAttack_1 rfl ?_
  refine zV_iconst hX (v := nI 3) dX10_needAttack_2 (by decide) ?_
  refine zV_icmp_eqN hX (tgt := 11) dX10_needAttack_3 (by decide) ⟨by omega, by omega⟩ (fun c_3 => ?_) (fun c_3 => ?_)
  · refine zV_iconst hX (v := nI 1) dX10_needAttack_11 (by decide) ?_
    refine zV_goto hX (tgt := 16) dX10_needAttack_12 (by decide) ?_
    refine zV_topi (zb true) rfl ?_
    refine zK_cV1p hX hR hl dX10_needAttack_16 (zCk.of (zc_need1 l G _)) zt_X10_need rfl zml_X10_72 zo0.1 ⟨by decide, by decide⟩ (Nat.le_of_ble_eq_true rfl) (by omega) ⟨rfl, rfl⟩ ?_
    dsimp only [Option.toList, List.cons_append, List.nil_append]
    refine zV_aload_n hX dX10_needAttack_19 rfl ?_
    refine zV_iload_n hX dX10_needAttack_20 rfl ?_
    refine zV_if_lt hX (tgt := 33) dX10_needAttack_21 (by decide) (fun c_21 => ?_) (fun c_21 => ?_)
    · refine zV_iconst hX (v := nI 0) dX10_needAttack_33 (by decide) ?_
      refine zV_topi (zb false) rfl ?_
      exact zX_cV1 hX hEx hR hl hQ ht dX10_needAttack_34 (zc_such0 l G _ hst) zt_X10_needSuch rfl zml_X10_87 zo0.1 ⟨by decide, by decide⟩ (Nat.le_of_ble_eq_true rfl) (by omega)
    · refine zV_iload_n hX dX10_needAttack_24 rfl ?_
      refine zV_iload_n hX dX10_needAttack_25 rfl ?_
      refine zV_icmp_ge hX (tgt := 33) dX10_needAttack_26 (by decide) (fun c_26 => ?_) (fun c_26 => ?_)
      · refine zV_iconst hX (v := nI 0) dX10_needAttack_33 (by decide) ?_
        refine zV_topi (zb false) rfl ?_
        exact zX_cV1 hX hEx hR hl hQ ht dX10_needAttack_34 (zc_such0 l G _ hst) zt_X10_needSuch rfl zml_X10_87 zo0.1 ⟨by decide, by decide⟩ (Nat.le_of_ble_eq_true rfl) (by omega)
      · refine zV_iconst hX (v := nI 1) dX10_needAttack_29 (by decide) ?_
        refine zV_goto hX (tgt := 34) dX10_needAttack_30 (by decide) ?_
        refine zV_topi (zb true) rfl ?_
        unfold zmem at hx
        rw [decide_eq_false (show ¬ x < 0 from c_21), decide_eq_false c_26] at hx
        exact absurd hx (by decide)
  · refine zV_iload_n hX dX10_needAttack_6 rfl ?_
    refine zV_iconst hX (v := nI 4) dX10_needAttack_7 (by decide) ?_
    refine zV_icmp_neN hX (tgt := 15) dX10_needAttack_8 (by decide) ⟨by omega, by omega⟩ (fun c_8 => ?_) (fun c_8 => ?_)
    · refine zV_iconst hX (v := nI 0) dX10_needAttack_15 (by decide) ?_
      refine zV_topi (zb false) rfl ?_
      exfalso
      omega
    · refine zV_iconst hX (v := nI 1) dX10_needAttack_11 (by decide) ?_
      refine zV_goto hX (tgt := 16) dX10_needAttack_12 (by decide) ?_
      refine zV_topi (zb true) rfl ?_
      refine zK_cV1p hX hR hl dX10_needAttack_16 (zCk.of (zc_need1 l G _)) zt_X10_need rfl zml_X10_72 zo0.1 ⟨by decide, by decide⟩ (Nat.le_of_ble_eq_true rfl) (by omega) ⟨rfl, rfl⟩ ?_
      dsimp only [Option.toList, List.cons_append, List.nil_append]
      refine zV_aload_n hX dX10_needAttack_19 rfl ?_
      refine zV_iload_n hX dX10_needAttack_20 rfl ?_
      refine zV_if_lt hX (tgt := 33) dX10_needAttack_21 (by decide) (fun c_21 => ?_) (fun c_21 => ?_)
      · refine zV_iconst hX (v := nI 0) dX10_needAttack_33 (by decide) ?_
        refine zV_topi (zb false) rfl ?_
        exact zX_cV1 hX hEx hR hl hQ ht dX10_needAttack_34 (zc_such0 l G _ hst) zt_X10_needSuch rfl zml_X10_87 zo0.1 ⟨by decide, by decide⟩ (Nat.le_of_ble_eq_true rfl) (by omega)
      · refine zV_iload_n hX dX10_needAttack_24 rfl ?_
        refine zV_iload_n hX dX10_needAttack_25 rfl ?_
        refine zV_icmp_ge hX (tgt := 33) dX10_needAttack_26 (by decide) (fun c_26 => ?_) (fun c_26 => ?_)
        · refine zV_iconst hX (v := nI 0) dX10_needAttack_33 (by decide) ?_
          refine zV_topi (zb false) rfl ?_
          exact zX_cV1 hX hEx hR hl hQ ht dX10_needAttack_34 (zc_such0 l G _ hst) zt_X10_needSuch rfl zml_X10_87 zo0.1 ⟨by decide, by decide⟩ (Nat.le_of_ble_eq_true rfl) (by omega)
        · refine zV_iconst hX (v := nI 1) dX10_needAttack_29 (by decide) ?_
          refine zV_goto hX (tgt := 34) dX10_needAttack_30 (by decide) ?_
          refine zV_topi (zb true) rfl ?_
          unfold zmem at hx
          rw [decide_eq_false (show ¬ x < 0 from c_21), decide_eq_false c_26] at hx
          exact absurd hx (by decide)
set_option maxHeartbeats 1000000 in
theorem zf_needAttackR (l : Launch) (G : zG) (M : zM) (hst : l.stackTraces = false) (n i : Nat) (x : Int32) (hn3 : 3 ≤ n ∧ n ≤ 4) (hi : i < n) (hx : mIn x (nI 1) (nI 2) = false) : zCx l G 6 1 6 yX10_needAttack cX10_needAttack 4 (Option.none : Option Jvm.ClassFile.FieldType) [.ref (0 : Nat), .int (nI n), .int x, .int (nI i)] M zIAE (mBa M) := by
  refine zCx_of (by decide) (Nat.le_of_ble_eq_true rfl) (fun X Q hQ hX hl hR hEx ht => ?_)
  refine zV_loc (L' := [.ref (0 : Nat), .int (nI n), .int x, .int (nI i)]) rfl ?_
  refine zV_aload_n hX dX10_needAttack_0 rfl ?_
  refine zV_iload_n hX dX10_needAttack_1 rfl ?_
  refine zV_iconst hX (v := nI 3) dX10_needAttack_2 (by decide) ?_
  refine zV_icmp_eqN hX (tgt := 11) dX10_needAttack_3 (by decide) ⟨by omega, by omega⟩ (fun c_3 => ?_) (fun c_3 => ?_)
  · refine zV_iconst hX (v := nI 1) dX10_needAttack_11 (by decide) ?_
    refine zV_goto hX (tgt := 16) dX10_needAttack_12 (by decide) ?_
    refine zV_topi (zb true) rfl ?_
    refine zK_cV1p hX hR hl dX10_needAttack_16 (zCk.of (zc_need1 l G _)) zt_X10_need rfl zml_X10_72 zo0.1 ⟨by decide, by decide⟩ (Nat.le_of_ble_eq_true rfl) (by omega) ⟨rfl, rfl⟩ ?_
    dsimp only [Option.toList, List.cons_append, List.nil_append]
    refine zV_aload_n hX dX10_needAttack_19 rfl ?_
    refine zV_iload_n hX dX10_needAttack_20 rfl ?_
    refine zV_if_ltN hX (tgt := 33) dX10_needAttack_21 (by decide) (by omega) (fun c_21 => ?_)
    refine zV_iload_n hX dX10_needAttack_24 rfl ?_
    refine zV_iload_n hX dX10_needAttack_25 rfl ?_
    refine zV_icmp_geN hX (tgt := 33) dX10_needAttack_26 (by decide) ⟨by omega, by omega⟩ (fun c_26 => ?_) (fun c_26 => ?_)
    · refine zV_iconst hX (v := nI 0) dX10_needAttack_33 (by decide) ?_
      refine zV_topi (zb false) rfl ?_
      exfalso
      omega
    · refine zV_iconst hX (v := nI 1) dX10_needAttack_29 (by decide) ?_
      refine zV_goto hX (tgt := 34) dX10_needAttack_30 (by decide) ?_
      refine zV_topi (zb true) rfl ?_
      refine zK_cV1p hX hR hl dX10_needAttack_34 (zCk.of (zc_such1 l G _)) zt_X10_needSuch rfl zml_X10_87 zo0.1 ⟨by decide, by decide⟩ (Nat.le_of_ble_eq_true rfl) (by omega) ⟨rfl, rfl⟩ ?_
      dsimp only [Option.toList, List.cons_append, List.nil_append]
      refine zV_aload_n hX dX10_needAttack_37 rfl ?_
      refine zV_iload_n hX dX10_needAttack_38 rfl ?_
      refine zV_iconst hX (v := nI 1) dX10_needAttack_39 (by decide) ?_
      refine zV_icmp_eq hX (tgt := 48) dX10_needAttack_40 (by decide) (fun c_40 => ?_) (fun c_40 => ?_)
      · refine zV_iconst hX (v := nI 1) dX10_needAttack_48 (by decide) ?_
        refine zV_goto hX (tgt := 53) dX10_needAttack_49 (by decide) ?_
        refine zV_topi (zb true) rfl ?_
        first | (rw [m12a c_40] at hx; exact absurd hx (by decide)) | (rw [m12b c_45] at hx; exact absurd hx (by decide))
      · refine zV_iload_n hX dX10_needAttack_43 rfl ?_
        refine zV_iconst hX (v := nI 2) dX10_needAttack_44 (by decide) ?_
        refine zV_icmp_ne hX (tgt := 52) dX10_needAttack_45 (by decide) (fun c_45 => ?_) (fun c_45 => ?_)
        · refine zV_iconst hX (v := nI 0) dX10_needAttack_52 (by decide) ?_
          refine zV_topi (zb false) rfl ?_
          exact zX_cV1 hX hEx hR hl hQ ht dX10_needAttack_53 (zc_need0 l G _ hst) zt_X10_need rfl zml_X10_72 zo0.1 ⟨by decide, by decide⟩ (Nat.le_of_ble_eq_true rfl) (by omega)
        · refine zV_iconst hX (v := nI 1) dX10_needAttack_48 (by decide) ?_
          refine zV_goto hX (tgt := 53) dX10_needAttack_49 (by decide) ?_
          refine zV_topi (zb true) rfl ?_
          first | (rw [m12a c_40] at hx; exact absurd hx (by decide)) | (rw [m12b c_45] at hx; exact absurd hx (by decide))
  · refine zV_iload_n hX dX10_needAttack_6 rfl ?_
    refine zV_iconst hX (v := nI 4) dX10_needAttack_7 (by decide) ?_
    refine zV_icmp_neN hX (tgt := 15) dX10_needAttack_8 (by decide) ⟨by omega, by omega⟩ (fun c_8 => ?_) (fun c_8 => ?_)
    · refine zV_iconst hX (v := nI 0) dX10_needAttack_15 (by decide) ?_
      refine zV_topi (zb false) rfl ?_
      exfalso
      omega
    · refine zV_iconst hX (v := nI 1) dX10_needAttack_11 (by decide) ?_
      refine zV_goto hX (tgt := 16) dX10_needAttack_12 (by decide) ?_
      refine zV_topi (zb true) rfl ?_
      refine zK_cV1p hX hR hl dX10_needAttack_16 (zCk.of (zc_need1 l G _)) zt_X10_need rfl zml_X10_72 zo0.1 ⟨by decide, by decide⟩ (Nat.le_of_ble_eq_true rfl) (by omega) ⟨rfl, rfl⟩ ?_
      dsimp only [Option.toList, List.cons_append, List.nil_append]
      refine zV_aload_n hX dX10_needAttack_19 rfl ?_
      refine zV_iload_n hX dX10_needAttack_20 rfl ?_
      refine zV_if_ltN hX (tgt := 33) dX10_needAttack_21 (by decide) (by omega) (fun c_21 => ?_)
      refine zV_iload_n hX dX10_needAttack_24 rfl ?_
      refine zV_iload_n hX dX10_needAttack_25 rfl ?_
      refine zV_icmp_geN hX (tgt := 33) dX10_needAttack_26 (by decide) ⟨by omega, by omega⟩ (fun c_26 => ?_) (fun c_26 => ?_)
      · refine zV_iconst hX (v := nI 0) dX10_needAttack_33 (by decide) ?_
        refine zV_topi (zb false) rfl ?_
        exfalso
        omega
      · refine zV_iconst hX (v := nI 1) dX10_needAttack_29 (by decide) ?_
        refine zV_goto hX (tgt := 34) dX10_needAttack_30 (by decide) ?_
        refine zV_topi (zb true) rfl ?_
        refine zK_cV1p hX hR hl dX10_needAttack_34 (zCk.of (zc_such1 l G _)) zt_X10_needSuch rfl zml_X10_87 zo0.1 ⟨by decide, by decide⟩ (Nat.le_of_ble_eq_true rfl) (by omega) ⟨rfl, rfl⟩ ?_
        dsimp only [Option.toList, List.cons_append, List.nil_append]
        refine zV_aload_n hX dX10_needAttack_37 rfl ?_
        refine zV_iload_n hX dX10_needAttack_38 rfl ?_
        refine zV_iconst hX (v := nI 1) dX10_needAttack_39 (by decide) ?_
        refine zV_icmp_eq hX (tgt := 48) dX10_needAttack_40 (by decide) (fun c_40 => ?_) (fun c_40 => ?_)
        · refine zV_iconst hX (v := nI 1) dX10_needAttack_48 (by decide) ?_
          refine zV_goto hX (tgt := 53) dX10_needAttack_49 (by decide) ?_
          refine zV_topi (zb true) rfl ?_
          first | (rw [m12a c_40] at hx; exact absurd hx (by decide)) | (rw [m12b c_45] at hx; exact absurd hx (by decide))
        · refine zV_iload_n hX dX10_needAttack_43 rfl ?_
          refine zV_iconst hX (v := nI 2) dX10_needAttack_44 (by decide) ?_
          refine zV_icmp_ne hX (tgt := 52) dX10_needAttack_45 (by decide) (fun c_45 => ?_) (fun c_45 => ?_)
          · refine zV_iconst hX (v := nI 0) dX10_needAttack_52 (by decide) ?_
            refine zV_topi (zb false) rfl ?_
            exact zX_cV1 hX hEx hR hl hQ ht dX10_needAttack_53 (zc_need0 l G _ hst) zt_X10_need rfl zml_X10_72 zo0.1 ⟨by decide, by decide⟩ (Nat.le_of_ble_eq_true rfl) (by omega)
          · refine zV_iconst hX (v := nI 1) dX10_needAttack_48 (by decide) ?_
            refine zV_goto hX (tgt := 53) dX10_needAttack_49 (by decide) ?_
            refine zV_topi (zb true) rfl ?_
            first | (rw [m12a c_40] at hx; exact absurd hx (by decide)) | (rw [m12b c_45] at hx; exact absurd hx (by decide))
set_option maxHeartbeats 1000000 in
theorem zc_liarsMessages (l : Launch) (G : zG) (M : zM) (n r i : Nat) (hn3 : 3 ≤ n ∧ n ≤ 4) (hrr : 1 ≤ r ∧ r ≤ 2) (hi : i < n) : zC l G 0 yX10_liarsMessages cX10_liarsMessages 3 (Option.some Jvm.ClassFile.FieldType.int) [.int (nI n), .int (nI r), .int (nI i)] M (zP (some (.int (nI (fWl n r i)))) M) := by
  refine zC_of (by decide) (Nat.le_of_ble_eq_true rfl) (fun X Q hQ hX hl hR hr => ?_)
  refine zV_loc (L' := [.int (nI n), .int (nI r), .int (nI i)]) rfl ?_
  refine zV_iload_n hX dX10_liarsMessages_0 rfl ?_
  refine zV_if_neN hX (tgt := 8) dX10_liarsMessages_1 (by decide) (by omega) (fun c_1 => ?_) (fun c_1 => ?_)
  · refine zV_iload_n hX dX10_liarsMessages_8 rfl ?_
    refine zV_iconst hX (v := nI 2) dX10_liarsMessages_9 (by decide) ?_
    refine zV_icmp_neN hX (tgt := 19) dX10_liarsMessages_10 (by decide) ⟨by omega, by omega⟩ (fun c_10 => ?_) (fun c_10 => ?_)
    · refine zV_iconst hX (v := nI 0) dX10_liarsMessages_19 (by decide) ?_
      exact zV_reti hX hQ hr (⟨by unfold fWl; first | (rw [if_neg (by omega), if_pos c_10]; done) | (rw [if_neg (by omega), if_neg c_10]; done), rfl⟩) dX10_liarsMessages_20
    · refine zV_iload_n hX dX10_liarsMessages_13 rfl ?_
      refine zV_iconst hX (v := nI 2) dX10_liarsMessages_14 (by decide) ?_
      refine zV_isubN hX dX10_liarsMessages_15 (by omega) ?_
      refine zV_goto hX (tgt := 20) dX10_liarsMessages_16 (by decide) ?_
      exact zV_reti hX hQ hr (⟨by unfold fWl; first | (rw [if_neg (by omega), if_pos c_10]; done) | (rw [if_neg (by omega), if_neg c_10]; done), rfl⟩) dX10_liarsMessages_20
  · refine zV_iload_n hX dX10_liarsMessages_4 rfl ?_
    refine zV_iconst hX (v := nI 1) dX10_liarsMessages_5 (by decide) ?_
    refine zV_isubN hX dX10_liarsMessages_6 (by omega) ?_
    exact zV_reti hX hQ hr (⟨by unfold fWl; rw [if_pos c_1], rfl⟩) dX10_liarsMessages_7
set_option maxHeartbeats 1000000 in
theorem zc_waysOf (l : Launch) (G : zG) (M : zM) (n r i : Nat) (hn3 : 3 ≤ n ∧ n ≤ 4) (hrr : 1 ≤ r ∧ r ≤ 2) (hi : i < n) : zC l G 1 yX10_waysOf cX10_waysOf 5 (Option.some Jvm.ClassFile.FieldType.int) [.int (nI n), .int (nI r), .int (nI i)] M (zP (some (.int (nI (3 ^ fWl n r i)))) M) := by
  refine zC_of (by decide) (Nat.le_of_ble_eq_true rfl) (fun X Q hQ hX hl hR hr => ?_)
  refine zV_loc (L' := [.int (nI n), .int (nI r), .int (nI i), .null, .null]) rfl ?_
  have L10 : ∀ (f9 k : Nat), fWl n r i - k < f9 → k ≤ fWl n r i → zV G X Q 5 0 0 10 [.int (nI n), .int (nI r), .int (nI i), .int (nI (3 ^ k)), .int (nI (fWl n r i - k))] [] M := by
    intro f9
    induction f9 with
    | zero => intro k hk1 hk2; exact absurd hk1 (Nat.not_lt_zero _)
    | succ f9 ih =>
      intro k hk1 hk2
      have hw3 := fWl_le (r := r) (i := i) hn3.2
      refine zV_iload hX dX10_waysOf_10 rfl ?_
      refine zV_if_leN hX (tgt := 25) dX10_waysOf_12 (by decide) (by omega) (fun c_12 => ?_) (fun c_12 => ?_)
      · refine zV_iload_n hX dX10_waysOf_25 rfl ?_
        exact zV_reti hX hQ hr (⟨by rw [show k = fWl n r i by omega], rfl⟩) dX10_waysOf_26
      · refine zV_iload_n hX dX10_waysOf_15 rfl ?_
        refine zV_iconst hX (v := nI 3) dX10_waysOf_16 (by decide) ?_
        refine zV_imulN hX dX10_waysOf_17 ?_
        refine zV_istore_n hX dX10_waysOf_18 (by decide) ?_
        dsimp only [zst1, zst2, zclr, zc2]
        refine zV_iinc hX dX10_waysOf_19 rfl (nI_dc (by omega)) (by decide) ?_
        dsimp only [zst1, zst2, zclr, zc2]
        refine zV_goto hX (tgt := 10) dX10_waysOf_22 (by decide) ?_
        have h9 := ih (k + 1) (by omega) (by omega)
        rw [Nat.pow_succ, show fWl n r i - (k + 1) = fWl n r i - k - 1 by omega] at h9
        exact h9
  refine zV_iconst hX (v := nI 1) dX10_waysOf_0 (by decide) ?_
  refine zV_istore_n hX dX10_waysOf_1 (by decide) ?_
  dsimp only [zst1, zst2, zclr, zc2]
  refine zV_iload_n hX dX10_waysOf_2 rfl ?_
  refine zV_iload_n hX dX10_waysOf_3 rfl ?_
  refine zV_iload_n hX dX10_waysOf_4 rfl ?_
  refine zV_cS3p hX hR hl dX10_waysOf_5 (zc_liarsMessages l G M n r i hn3 hrr hi) zt_X10_liarsMessages rfl zml_X10_355 (by decide) (Nat.le_of_ble_eq_true rfl) ?_
  dsimp only [Option.toList, List.cons_append, List.nil_append]
  refine zV_istore hX dX10_waysOf_8 (by decide) ?_
  dsimp only [zst1, zst2, zclr, zc2]
  exact L10 (fWl n r i + 1) 0 (by omega) (by omega)
set_option maxHeartbeats 1000000 in
theorem zf_attack (l : Launch) (G : zG) (M : zM) (lt n r i w : Nat) (hn3 : 3 ≤ n ∧ n ≤ 4) (hrr : 1 ≤ r ∧ r ≤ 2) (hi : i < n) (hw : w < 27) (h53 : M.1 50 3 = nI lt) (hT : lyL lt) : zC l G 5 yX10_attack cX10_attack 9 (Option.none : Option Jvm.ClassFile.FieldType) [.ref (0 : Nat), .int (nI n), .int (nI r), .int (nI i), .int (nI w)] M (zP none (fAt lt n r i w M)) := by
  refine zC_of (by decide) (Nat.le_of_ble_eq_true rfl) (fun X Q hQ hX hl hR hr => ?_)
  refine zV_loc (L' := [.ref (0 : Nat), .int (nI n), .int (nI r), .int (nI i), .int (nI w), .null, .null, .null, .null]) rfl ?_
  have hw3 := fWl_le (r := r) (i := i) hn3.2
  have hp3 := p3_le hw3
  have hb53 : (zw (gBegin 50 lt n (r - 1) M) 55 0 1065353216).1 50 3 = nI lt := by have h9 := (fAI_0 (n := n) (r := r) (i := i) hT h53).2.2.1; unfold fA0 at h9; rw [zw_ne (by unfold lyL at hT; omega)] at h9; exact h9
  have L48 : ∀ (f9 k : Nat), n - k < f9 → k + 1 ≤ n → ∀ x7 x8 : Value, zV G X Q 9 0 0 48 [.ref (0 : Nat), .int (nI n), .int (nI r), .int (nI i), .int (nI w), .int (nI (fAk lt n r i w M k).1), .int (nI (k + 1)), x7, x8] [] (fAk lt n r i w M k).2.2 := by
    intro f9
    induction f9 with
    | zero => intro k hk1 hk2 x7 x8; exact absurd hk1 (Nat.not_lt_zero _)
    | succ f9 ih =>
      intro k hk1 hk2 x7 x8
      obtain ⟨hc1, hpl, hI⟩ := fAI_k (n := n) (r := r) (i := i) (w := w) (M := M) hT (by omega) h53 k (by omega)
      have hw3 := fWl_le (r := r) (i := i) hn3.2
      have hp3 := p3_le hw3
      have hlt180 : 180 ≤ lt := by unfold lyL at hT; omega
      have hck : (fAk lt n r i w M k).2.2.1 (lt + 1 + 1) i = nI (fAk lt n r i w M k).2.1 := by rw [hI.2.2.2 i (by omega), if_pos rfl]
      have hdg : (w / (fAk lt n r i w M k).1 % 3) < 3 := Nat.mod_lt _ (by decide)
      obtain ⟨s8, E8, T8, hf8⟩ := fAd_fl (w / (fAk lt n r i w M k).1 % 3) hdg
      have hdv : w / (fAk lt n r i w M k).1 ≤ w := Nat.div_le_self _ _
      refine zV_iload hX dX10_attack_48 rfl ?_
      refine zV_iload_n hX dX10_attack_50 rfl ?_
      refine zV_icmp_geN hX (tgt := 142) dX10_attack_51 (by decide) ⟨by omega, by omega⟩ (fun c_51 => ?_) (fun c_51 => ?_)
      · have hkn : k = n - 1 := by omega
        have hI9 := hI
        have hc9 := hc1
        rw [hkn] at hI9 hc9 ⊢
        refine zV_aload_n hX dX10_attack_142 rfl ?_
        refine zV_getc hX dX10_attack_143 zf_X10_33 zo0.1 rfl ?_
        refine zV_aload_n hX dX10_attack_146 rfl ?_
        refine zV_getc hX dX10_attack_147 zf_X10_23 zo0.1 rfl ?_
        refine zV_iconst hX (v := nI 0) dX10_attack_150 (by decide) ?_
        refine zV_cV2p hX hR hl dX10_attack_151 (zc_play l G _ 90 50 lt n (r - 1) 0 (fun m => if m = i then (fAk lt n r i w M (n - 1)).2.1 else 0) zo90 zo50 (by decide) (hT.ok (by decide)) hI9.1 (by omega) hI9.2.1 (by omega) hI9.2.2.1 hT.lt (fun m hm => ⟨hI9.2.2.2 m hm, by show (if m = i then (fAk lt n r i w M (n - 1)).2.1 else 0) ≤ 12; split <;> omega⟩) (by omega) (by omega)) zt_X6_play rfl zml_X10_146 zo90.1 ⟨by decide, by decide⟩ (Nat.le_of_ble_eq_true rfl) ?_
        dsimp only [Option.toList, List.cons_append, List.nil_append]
        exact zV_retv hX hQ hr (⟨rfl, rfl⟩) dX10_attack_154
      · refine zV_iload hX dX10_attack_54 rfl ?_
        refine zV_iload_n hX dX10_attack_56 rfl ?_
        refine zV_icmp_eqN hX (tgt := 136) dX10_attack_57 (by decide) ⟨by omega, by omega⟩ (fun c_57 => ?_) (fun c_57 => ?_)
        · refine zV_iincN hX (b := 1) dX10_attack_136 rfl (by decide) ?_
          dsimp only [zst1, zst2, zclr, zc2]
          refine zV_goto hX (tgt := 48) dX10_attack_139 (by decide) ?_
          first | (have e9 : fAk lt n r i w M (k + 1) = fAk lt n r i w M k := if_neg (by omega); have h9 := ih (k + 1) (by omega) (by omega); rw [e9] at h9; exact h9 _ _) | (have e9 : fAk lt n r i w M (k + 1) = ((fAk lt n r i w M k).1 / 3, (fAk lt n r i w M k).2.1 + 1, fAs lt i (w / (fAk lt n r i w M k).1 % 3) (k + 1) (fAk lt n r i w M k).2.1 (fAk lt n r i w M k).2.2) := if_pos ⟨by omega, by omega⟩; have h9 := ih (k + 1) (by omega) (by omega); rw [e9] at h9; rw [show fAs lt i (w / (fAk lt n r i w M k).1 % 3) (k + 1) (fAk lt n r i w M k).2.1 (fAk lt n r i w M k).2.2 = lSetActIf lt i ((fAk lt n r i w M k).2.1 + 1) (if (w / (fAk lt n r i w M k).1 % 3) = 2 then nI 2 else nI 0) (FP.i2f (nI (w / (fAk lt n r i w M k).1 % 3))).toInt32 (nI 0) (lAdd lt i (fAk lt n r i w M k).2.1 (if i = 0 then nI 1 else nI 2) (nI (k + 1)) (-1) (fAk lt n r i w M k).2.2) from rfl, if_pos c_83, if_pos c_102] at h9; exact h9 _ _) | (have e9 : fAk lt n r i w M (k + 1) = ((fAk lt n r i w M k).1 / 3, (fAk lt n r i w M k).2.1 + 1, fAs lt i (w / (fAk lt n r i w M k).1 % 3) (k + 1) (fAk lt n r i w M k).2.1 (fAk lt n r i w M k).2.2) := if_pos ⟨by omega, by omega⟩; have h9 := ih (k + 1) (by omega) (by omega); rw [e9] at h9; rw [show fAs lt i (w / (fAk lt n r i w M k).1 % 3) (k + 1) (fAk lt n r i w M k).2.1 (fAk lt n r i w M k).2.2 = lSetActIf lt i ((fAk lt n r i w M k).2.1 + 1) (if (w / (fAk lt n r i w M k).1 % 3) = 2 then nI 2 else nI 0) (FP.i2f (nI (w / (fAk lt n r i w M k).1 % 3))).toInt32 (nI 0) (lAdd lt i (fAk lt n r i w M k).2.1 (if i = 0 then nI 1 else nI 2) (nI (k + 1)) (-1) (fAk lt n r i w M k).2.2) from rfl, if_pos c_83, if_neg (by omega)] at h9; exact h9 _ _) | (have e9 : fAk lt n r i w M (k + 1) = ((fAk lt n r i w M k).1 / 3, (fAk lt n r i w M k).2.1 + 1, fAs lt i (w / (fAk lt n r i w M k).1 % 3) (k + 1) (fAk lt n r i w M k).2.1 (fAk lt n r i w M k).2.2) := if_pos ⟨by omega, by omega⟩; have h9 := ih (k + 1) (by omega) (by omega); rw [e9] at h9; rw [show fAs lt i (w / (fAk lt n r i w M k).1 % 3) (k + 1) (fAk lt n r i w M k).2.1 (fAk lt n r i w M k).2.2 = lSetActIf lt i ((fAk lt n r i w M k).2.1 + 1) (if (w / (fAk lt n r i w M k).1 % 3) = 2 then nI 2 else nI 0) (FP.i2f (nI (w / (fAk lt n r i w M k).1 % 3))).toInt32 (nI 0) (lAdd lt i (fAk lt n r i w M k).2.1 (if i = 0 then nI 1 else nI 2) (nI (k + 1)) (-1) (fAk lt n r i w M k).2.2) from rfl, if_neg c_83, if_pos c_102] at h9; exact h9 _ _) | (have e9 : fAk lt n r i w M (k + 1) = ((fAk lt n r i w M k).1 / 3, (fAk lt n r i w M k).2.1 + 1, fAs lt i (w / (fAk lt n r i w M k).1 % 3) (k + 1) (fAk lt n r i w M k).2.1 (fAk lt n r i w M k).2.2) := if_pos ⟨by omega, by omega⟩; have h9 := ih (k + 1) (by omega) (by omega); rw [e9] at h9; rw [show fAs lt i (w / (fAk lt n r i w M k).1 % 3) (k + 1) (fAk lt n r i w M k).2.1 (fAk lt n r i w M k).2.2 = lSetActIf lt i ((fAk lt n r i w M k).2.1 + 1) (if (w / (fAk lt n r i w M k).1 % 3) = 2 then nI 2 else nI 0) (FP.i2f (nI (w / (fAk lt n r i w M k).1 % 3))).toInt32 (nI 0) (lAdd lt i (fAk lt n r i w M k).2.1 (if i = 0 then nI 1 else nI 2) (nI (k + 1)) (-1) (fAk lt n r i w M k).2.2) from rfl, if_neg c_83, if_neg (by omega)] at h9; exact h9 _ _)
        · refine zV_iload hX dX10_attack_60 rfl ?_
          refine zV_if_leN hX (tgt := 136) dX10_attack_62 (by decide) (by omega) (fun c_62 => ?_) (fun c_62 => ?_)
          · refine zV_iincN hX (b := 1) dX10_attack_136 rfl (by decide) ?_
            dsimp only [zst1, zst2, zclr, zc2]
            refine zV_goto hX (tgt := 48) dX10_attack_139 (by decide) ?_
            first | (have e9 : fAk lt n r i w M (k + 1) = fAk lt n r i w M k := if_neg (by omega); have h9 := ih (k + 1) (by omega) (by omega); rw [e9] at h9; exact h9 _ _) | (have e9 : fAk lt n r i w M (k + 1) = ((fAk lt n r i w M k).1 / 3, (fAk lt n r i w M k).2.1 + 1, fAs lt i (w / (fAk lt n r i w M k).1 % 3) (k + 1) (fAk lt n r i w M k).2.1 (fAk lt n r i w M k).2.2) := if_pos ⟨by omega, by omega⟩; have h9 := ih (k + 1) (by omega) (by omega); rw [e9] at h9; rw [show fAs lt i (w / (fAk lt n r i w M k).1 % 3) (k + 1) (fAk lt n r i w M k).2.1 (fAk lt n r i w M k).2.2 = lSetActIf lt i ((fAk lt n r i w M k).2.1 + 1) (if (w / (fAk lt n r i w M k).1 % 3) = 2 then nI 2 else nI 0) (FP.i2f (nI (w / (fAk lt n r i w M k).1 % 3))).toInt32 (nI 0) (lAdd lt i (fAk lt n r i w M k).2.1 (if i = 0 then nI 1 else nI 2) (nI (k + 1)) (-1) (fAk lt n r i w M k).2.2) from rfl, if_pos c_83, if_pos c_102] at h9; exact h9 _ _) | (have e9 : fAk lt n r i w M (k + 1) = ((fAk lt n r i w M k).1 / 3, (fAk lt n r i w M k).2.1 + 1, fAs lt i (w / (fAk lt n r i w M k).1 % 3) (k + 1) (fAk lt n r i w M k).2.1 (fAk lt n r i w M k).2.2) := if_pos ⟨by omega, by omega⟩; have h9 := ih (k + 1) (by omega) (by omega); rw [e9] at h9; rw [show fAs lt i (w / (fAk lt n r i w M k).1 % 3) (k + 1) (fAk lt n r i w M k).2.1 (fAk lt n r i w M k).2.2 = lSetActIf lt i ((fAk lt n r i w M k).2.1 + 1) (if (w / (fAk lt n r i w M k).1 % 3) = 2 then nI 2 else nI 0) (FP.i2f (nI (w / (fAk lt n r i w M k).1 % 3))).toInt32 (nI 0) (lAdd lt i (fAk lt n r i w M k).2.1 (if i = 0 then nI 1 else nI 2) (nI (k + 1)) (-1) (fAk lt n r i w M k).2.2) from rfl, if_pos c_83, if_neg (by omega)] at h9; exact h9 _ _) | (have e9 : fAk lt n r i w M (k + 1) = ((fAk lt n r i w M k).1 / 3, (fAk lt n r i w M k).2.1 + 1, fAs lt i (w / (fAk lt n r i w M k).1 % 3) (k + 1) (fAk lt n r i w M k).2.1 (fAk lt n r i w M k).2.2) := if_pos ⟨by omega, by omega⟩; have h9 := ih (k + 1) (by omega) (by omega); rw [e9] at h9; rw [show fAs lt i (w / (fAk lt n r i w M k).1 % 3) (k + 1) (fAk lt n r i w M k).2.1 (fAk lt n r i w M k).2.2 = lSetActIf lt i ((fAk lt n r i w M k).2.1 + 1) (if (w / (fAk lt n r i w M k).1 % 3) = 2 then nI 2 else nI 0) (FP.i2f (nI (w / (fAk lt n r i w M k).1 % 3))).toInt32 (nI 0) (lAdd lt i (fAk lt n r i w M k).2.1 (if i = 0 then nI 1 else nI 2) (nI (k + 1)) (-1) (fAk lt n r i w M k).2.2) from rfl, if_neg c_83, if_pos c_102] at h9; exact h9 _ _) | (have e9 : fAk lt n r i w M (k + 1) = ((fAk lt n r i w M k).1 / 3, (fAk lt n r i w M k).2.1 + 1, fAs lt i (w / (fAk lt n r i w M k).1 % 3) (k + 1) (fAk lt n r i w M k).2.1 (fAk lt n r i w M k).2.2) := if_pos ⟨by omega, by omega⟩; have h9 := ih (k + 1) (by omega) (by omega); rw [e9] at h9; rw [show fAs lt i (w / (fAk lt n r i w M k).1 % 3) (k + 1) (fAk lt n r i w M k).2.1 (fAk lt n r i w M k).2.2 = lSetActIf lt i ((fAk lt n r i w M k).2.1 + 1) (if (w / (fAk lt n r i w M k).1 % 3) = 2 then nI 2 else nI 0) (FP.i2f (nI (w / (fAk lt n r i w M k).1 % 3))).toInt32 (nI 0) (lAdd lt i (fAk lt n r i w M k).2.1 (if i = 0 then nI 1 else nI 2) (nI (k + 1)) (-1) (fAk lt n r i w M k).2.2) from rfl, if_neg c_83, if_neg (by omega)] at h9; exact h9 _ _)
          · refine zV_iload hX dX10_attack_65 rfl ?_
            refine zV_iload hX dX10_attack_67 rfl ?_
            refine zV_idivN hX dX10_attack_69 ⟨by omega, by omega, by omega⟩ ?_
            refine zV_iconst hX (v := nI 3) dX10_attack_70 (by decide) ?_
            refine zV_iremN hX dX10_attack_71 ⟨by omega, by decide, by decide⟩ ?_
            refine zV_istore hX dX10_attack_72 (by decide) ?_
            dsimp only [zst1, zst2, zclr, zc2]
            refine zV_iload hX dX10_attack_74 rfl ?_
            refine zV_iconst hX (v := nI 3) dX10_attack_76 (by decide) ?_
            refine zV_idivN hX dX10_attack_77 ⟨by omega, by decide, by decide⟩ ?_
            refine zV_istore hX dX10_attack_78 (by decide) ?_
            dsimp only [zst1, zst2, zclr, zc2]
            refine zV_iload hX dX10_attack_80 rfl ?_
            refine zV_iconst hX (v := nI 2) dX10_attack_82 (by decide) ?_
            refine zV_icmp_neN hX (tgt := 90) dX10_attack_83 (by decide) ⟨by omega, by decide⟩ (fun c_83 => ?_) (fun c_83 => ?_)
            · refine zV_iconst hX (v := nI 0) dX10_attack_90 (by decide) ?_
              refine zV_istore hX dX10_attack_91 (by decide) ?_
              dsimp only [zst1, zst2, zclr, zc2]
              refine zV_aload_n hX dX10_attack_93 rfl ?_
              refine zV_getc hX dX10_attack_94 zf_X10_23 zo0.1 rfl ?_
              refine zV_getp hX dX10_attack_97 zf_X10_125 zo50.1 rfl (hI.2.2.1) hT.lt ?_
              refine zV_iload_n hX dX10_attack_100 rfl ?_
              refine zV_iload_n hX dX10_attack_101 rfl ?_
              refine zV_if_neN hX (tgt := 109) dX10_attack_102 (by decide) (by omega) (fun c_102 => ?_) (fun c_102 => ?_)
              · refine zV_iconst hX (v := nI 2) dX10_attack_109 (by decide) ?_
                refine zV_iload hX dX10_attack_110 rfl ?_
                refine zV_iconst hX (v := (-1)) dX10_attack_112 (by decide) ?_
                refine zV_cV4p hX hR hl dX10_attack_113 (zc_add l G (fAk lt n r i w M k).2.2 lt i (fAk lt n r i w M k).2.1 _ _ _ hT.o (by omega) hck (by omega)) zt_X4_add rfl zml_X10_361 hT.o.1 ⟨by decide, by decide⟩ (Nat.le_of_ble_eq_true rfl) ?_
                dsimp only [Option.toList, List.cons_append, List.nil_append]
                refine zV_aload_n hX dX10_attack_116 rfl ?_
                refine zV_getc hX dX10_attack_117 zf_X10_23 zo0.1 rfl ?_
                refine zV_getp hX dX10_attack_120 zf_X10_125 zo50.1 rfl ((lAdd_c (by omega)).trans hI.2.2.1) hT.lt ?_
                refine zV_iload_n hX dX10_attack_123 rfl ?_
                refine zV_iload hX dX10_attack_124 rfl ?_
                refine zV_iload hX dX10_attack_126 rfl ?_
                refine zV_i2f hX dX10_attack_128 ?_
                refine zV_cS1p hX hR hl dX10_attack_129 (zc_bitsOf l G _ _ s8 E8 T8 hf8) zt_X1_bitsOf rfl zml_X10_97 (by decide) (Nat.le_of_ble_eq_true rfl) ?_
                dsimp only [Option.toList, List.cons_append, List.nil_append]
                refine zV_iconst hX (v := nI 0) dX10_attack_132 (by decide) ?_
                refine zV_cV4p hX hR hl dX10_attack_133 (zc_setAct l G _ lt i ((fAk lt n r i w M k).2.1 + 1) _ _ _ hT.o (by omega) ((lAdd_k (by omega)).trans (if_pos rfl)) (by omega)) zt_X4_setAct rfl zml_X10_364 hT.o.1 ⟨by decide, by decide⟩ (Nat.le_of_ble_eq_true rfl) ?_
                dsimp only [Option.toList, List.cons_append, List.nil_append]
                refine zV_iincN hX (b := 1) dX10_attack_136 rfl (by decide) ?_
                dsimp only [zst1, zst2, zclr, zc2]
                refine zV_goto hX (tgt := 48) dX10_attack_139 (by decide) ?_
                first | (have e9 : fAk lt n r i w M (k + 1) = fAk lt n r i w M k := if_neg (by omega); have h9 := ih (k + 1) (by omega) (by omega); rw [e9] at h9; exact h9 _ _) | (have e9 : fAk lt n r i w M (k + 1) = ((fAk lt n r i w M k).1 / 3, (fAk lt n r i w M k).2.1 + 1, fAs lt i (w / (fAk lt n r i w M k).1 % 3) (k + 1) (fAk lt n r i w M k).2.1 (fAk lt n r i w M k).2.2) := if_pos ⟨by omega, by omega⟩; have h9 := ih (k + 1) (by omega) (by omega); rw [e9] at h9; rw [show fAs lt i (w / (fAk lt n r i w M k).1 % 3) (k + 1) (fAk lt n r i w M k).2.1 (fAk lt n r i w M k).2.2 = lSetActIf lt i ((fAk lt n r i w M k).2.1 + 1) (if (w / (fAk lt n r i w M k).1 % 3) = 2 then nI 2 else nI 0) (FP.i2f (nI (w / (fAk lt n r i w M k).1 % 3))).toInt32 (nI 0) (lAdd lt i (fAk lt n r i w M k).2.1 (if i = 0 then nI 1 else nI 2) (nI (k + 1)) (-1) (fAk lt n r i w M k).2.2) from rfl, if_pos c_83, if_pos c_102] at h9; exact h9 _ _) | (have e9 : fAk lt n r i w M (k + 1) = ((fAk lt n r i w M k).1 / 3, (fAk lt n r i w M k).2.1 + 1, fAs lt i (w / (fAk lt n r i w M k).1 % 3) (k + 1) (fAk lt n r i w M k).2.1 (fAk lt n r i w M k).2.2) := if_pos ⟨by omega, by omega⟩; have h9 := ih (k + 1) (by omega) (by omega); rw [e9] at h9; rw [show fAs lt i (w / (fAk lt n r i w M k).1 % 3) (k + 1) (fAk lt n r i w M k).2.1 (fAk lt n r i w M k).2.2 = lSetActIf lt i ((fAk lt n r i w M k).2.1 + 1) (if (w / (fAk lt n r i w M k).1 % 3) = 2 then nI 2 else nI 0) (FP.i2f (nI (w / (fAk lt n r i w M k).1 % 3))).toInt32 (nI 0) (lAdd lt i (fAk lt n r i w M k).2.1 (if i = 0 then nI 1 else nI 2) (nI (k + 1)) (-1) (fAk lt n r i w M k).2.2) from rfl, if_pos c_83, if_neg (by omega)] at h9; exact h9 _ _) | (have e9 : fAk lt n r i w M (k + 1) = ((fAk lt n r i w M k).1 / 3, (fAk lt n r i w M k).2.1 + 1, fAs lt i (w / (fAk lt n r i w M k).1 % 3) (k + 1) (fAk lt n r i w M k).2.1 (fAk lt n r i w M k).2.2) := if_pos ⟨by omega, by omega⟩; have h9 := ih (k + 1) (by omega) (by omega); rw [e9] at h9; rw [show fAs lt i (w / (fAk lt n r i w M k).1 % 3) (k + 1) (fAk lt n r i w M k).2.1 (fAk lt n r i w M k).2.2 = lSetActIf lt i ((fAk lt n r i w M k).2.1 + 1) (if (w / (fAk lt n r i w M k).1 % 3) = 2 then nI 2 else nI 0) (FP.i2f (nI (w / (fAk lt n r i w M k).1 % 3))).toInt32 (nI 0) (lAdd lt i (fAk lt n r i w M k).2.1 (if i = 0 then nI 1 else nI 2) (nI (k + 1)) (-1) (fAk lt n r i w M k).2.2) from rfl, if_neg c_83, if_pos c_102] at h9; exact h9 _ _) | (have e9 : fAk lt n r i w M (k + 1) = ((fAk lt n r i w M k).1 / 3, (fAk lt n r i w M k).2.1 + 1, fAs lt i (w / (fAk lt n r i w M k).1 % 3) (k + 1) (fAk lt n r i w M k).2.1 (fAk lt n r i w M k).2.2) := if_pos ⟨by omega, by omega⟩; have h9 := ih (k + 1) (by omega) (by omega); rw [e9] at h9; rw [show fAs lt i (w / (fAk lt n r i w M k).1 % 3) (k + 1) (fAk lt n r i w M k).2.1 (fAk lt n r i w M k).2.2 = lSetActIf lt i ((fAk lt n r i w M k).2.1 + 1) (if (w / (fAk lt n r i w M k).1 % 3) = 2 then nI 2 else nI 0) (FP.i2f (nI (w / (fAk lt n r i w M k).1 % 3))).toInt32 (nI 0) (lAdd lt i (fAk lt n r i w M k).2.1 (if i = 0 then nI 1 else nI 2) (nI (k + 1)) (-1) (fAk lt n r i w M k).2.2) from rfl, if_neg c_83, if_neg (by omega)] at h9; exact h9 _ _)
              · refine zV_iconst hX (v := nI 1) dX10_attack_105 (by decide) ?_
                refine zV_goto hX (tgt := 110) dX10_attack_106 (by decide) ?_
                refine zV_iload hX dX10_attack_110 rfl ?_
                refine zV_iconst hX (v := (-1)) dX10_attack_112 (by decide) ?_
                refine zV_cV4p hX hR hl dX10_attack_113 (zc_add l G (fAk lt n r i w M k).2.2 lt i (fAk lt n r i w M k).2.1 _ _ _ hT.o (by omega) hck (by omega)) zt_X4_add rfl zml_X10_361 hT.o.1 ⟨by decide, by decide⟩ (Nat.le_of_ble_eq_true rfl) ?_
                dsimp only [Option.toList, List.cons_append, List.nil_append]
                refine zV_aload_n hX dX10_attack_116 rfl ?_
                refine zV_getc hX dX10_attack_117 zf_X10_23 zo0.1 rfl ?_
                refine zV_getp hX dX10_attack_120 zf_X10_125 zo50.1 rfl ((lAdd_c (by omega)).trans hI.2.2.1) hT.lt ?_
                refine zV_iload_n hX dX10_attack_123 rfl ?_
                refine zV_iload hX dX10_attack_124 rfl ?_
                refine zV_iload hX dX10_attack_126 rfl ?_
                refine zV_i2f hX dX10_attack_128 ?_
                refine zV_cS1p hX hR hl dX10_attack_129 (zc_bitsOf l G _ _ s8 E8 T8 hf8) zt_X1_bitsOf rfl zml_X10_97 (by decide) (Nat.le_of_ble_eq_true rfl) ?_
                dsimp only [Option.toList, List.cons_append, List.nil_append]
                refine zV_iconst hX (v := nI 0) dX10_attack_132 (by decide) ?_
                refine zV_cV4p hX hR hl dX10_attack_133 (zc_setAct l G _ lt i ((fAk lt n r i w M k).2.1 + 1) _ _ _ hT.o (by omega) ((lAdd_k (by omega)).trans (if_pos rfl)) (by omega)) zt_X4_setAct rfl zml_X10_364 hT.o.1 ⟨by decide, by decide⟩ (Nat.le_of_ble_eq_true rfl) ?_
                dsimp only [Option.toList, List.cons_append, List.nil_append]
                refine zV_iincN hX (b := 1) dX10_attack_136 rfl (by decide) ?_
                dsimp only [zst1, zst2, zclr, zc2]
                refine zV_goto hX (tgt := 48) dX10_attack_139 (by decide) ?_
                first | (have e9 : fAk lt n r i w M (k + 1) = fAk lt n r i w M k := if_neg (by omega); have h9 := ih (k + 1) (by omega) (by omega); rw [e9] at h9; exact h9 _ _) | (have e9 : fAk lt n r i w M (k + 1) = ((fAk lt n r i w M k).1 / 3, (fAk lt n r i w M k).2.1 + 1, fAs lt i (w / (fAk lt n r i w M k).1 % 3) (k + 1) (fAk lt n r i w M k).2.1 (fAk lt n r i w M k).2.2) := if_pos ⟨by omega, by omega⟩; have h9 := ih (k + 1) (by omega) (by omega); rw [e9] at h9; rw [show fAs lt i (w / (fAk lt n r i w M k).1 % 3) (k + 1) (fAk lt n r i w M k).2.1 (fAk lt n r i w M k).2.2 = lSetActIf lt i ((fAk lt n r i w M k).2.1 + 1) (if (w / (fAk lt n r i w M k).1 % 3) = 2 then nI 2 else nI 0) (FP.i2f (nI (w / (fAk lt n r i w M k).1 % 3))).toInt32 (nI 0) (lAdd lt i (fAk lt n r i w M k).2.1 (if i = 0 then nI 1 else nI 2) (nI (k + 1)) (-1) (fAk lt n r i w M k).2.2) from rfl, if_pos c_83, if_pos c_102] at h9; exact h9 _ _) | (have e9 : fAk lt n r i w M (k + 1) = ((fAk lt n r i w M k).1 / 3, (fAk lt n r i w M k).2.1 + 1, fAs lt i (w / (fAk lt n r i w M k).1 % 3) (k + 1) (fAk lt n r i w M k).2.1 (fAk lt n r i w M k).2.2) := if_pos ⟨by omega, by omega⟩; have h9 := ih (k + 1) (by omega) (by omega); rw [e9] at h9; rw [show fAs lt i (w / (fAk lt n r i w M k).1 % 3) (k + 1) (fAk lt n r i w M k).2.1 (fAk lt n r i w M k).2.2 = lSetActIf lt i ((fAk lt n r i w M k).2.1 + 1) (if (w / (fAk lt n r i w M k).1 % 3) = 2 then nI 2 else nI 0) (FP.i2f (nI (w / (fAk lt n r i w M k).1 % 3))).toInt32 (nI 0) (lAdd lt i (fAk lt n r i w M k).2.1 (if i = 0 then nI 1 else nI 2) (nI (k + 1)) (-1) (fAk lt n r i w M k).2.2) from rfl, if_pos c_83, if_neg (by omega)] at h9; exact h9 _ _) | (have e9 : fAk lt n r i w M (k + 1) = ((fAk lt n r i w M k).1 / 3, (fAk lt n r i w M k).2.1 + 1, fAs lt i (w / (fAk lt n r i w M k).1 % 3) (k + 1) (fAk lt n r i w M k).2.1 (fAk lt n r i w M k).2.2) := if_pos ⟨by omega, by omega⟩; have h9 := ih (k + 1) (by omega) (by omega); rw [e9] at h9; rw [show fAs lt i (w / (fAk lt n r i w M k).1 % 3) (k + 1) (fAk lt n r i w M k).2.1 (fAk lt n r i w M k).2.2 = lSetActIf lt i ((fAk lt n r i w M k).2.1 + 1) (if (w / (fAk lt n r i w M k).1 % 3) = 2 then nI 2 else nI 0) (FP.i2f (nI (w / (fAk lt n r i w M k).1 % 3))).toInt32 (nI 0) (lAdd lt i (fAk lt n r i w M k).2.1 (if i = 0 then nI 1 else nI 2) (nI (k + 1)) (-1) (fAk lt n r i w M k).2.2) from rfl, if_neg c_83, if_pos c_102] at h9; exact h9 _ _) | (have e9 : fAk lt n r i w M (k + 1) = ((fAk lt n r i w M k).1 / 3, (fAk lt n r i w M k).2.1 + 1, fAs lt i (w / (fAk lt n r i w M k).1 % 3) (k + 1) (fAk lt n r i w M k).2.1 (fAk lt n r i w M k).2.2) := if_pos ⟨by omega, by omega⟩; have h9 := ih (k + 1) (by omega) (by omega); rw [e9] at h9; rw [show fAs lt i (w / (fAk lt n r i w M k).1 % 3) (k + 1) (fAk lt n r i w M k).2.1 (fAk lt n r i w M k).2.2 = lSetActIf lt i ((fAk lt n r i w M k).2.1 + 1) (if (w / (fAk lt n r i w M k).1 % 3) = 2 then nI 2 else nI 0) (FP.i2f (nI (w / (fAk lt n r i w M k).1 % 3))).toInt32 (nI 0) (lAdd lt i (fAk lt n r i w M k).2.1 (if i = 0 then nI 1 else nI 2) (nI (k + 1)) (-1) (fAk lt n r i w M k).2.2) from rfl, if_neg c_83, if_neg (by omega)] at h9; exact h9 _ _)
            · refine zV_iconst hX (v := nI 2) dX10_attack_86 (by decide) ?_
              refine zV_goto hX (tgt := 91) dX10_attack_87 (by decide) ?_
              refine zV_istore hX dX10_attack_91 (by decide) ?_
              dsimp only [zst1, zst2, zclr, zc2]
              refine zV_aload_n hX dX10_attack_93 rfl ?_
              refine zV_getc hX dX10_attack_94 zf_X10_23 zo0.1 rfl ?_
              refine zV_getp hX dX10_attack_97 zf_X10_125 zo50.1 rfl (hI.2.2.1) hT.lt ?_
              refine zV_iload_n hX dX10_attack_100 rfl ?_
              refine zV_iload_n hX dX10_attack_101 rfl ?_
              refine zV_if_neN hX (tgt := 109) dX10_attack_102 (by decide) (by omega) (fun c_102 => ?_) (fun c_102 => ?_)
              · refine zV_iconst hX (v := nI 2) dX10_attack_109 (by decide) ?_
                refine zV_iload hX dX10_attack_110 rfl ?_
                refine zV_iconst hX (v := (-1)) dX10_attack_112 (by decide) ?_
                refine zV_cV4p hX hR hl dX10_attack_113 (zc_add l G (fAk lt n r i w M k).2.2 lt i (fAk lt n r i w M k).2.1 _ _ _ hT.o (by omega) hck (by omega)) zt_X4_add rfl zml_X10_361 hT.o.1 ⟨by decide, by decide⟩ (Nat.le_of_ble_eq_true rfl) ?_
                dsimp only [Option.toList, List.cons_append, List.nil_append]
                refine zV_aload_n hX dX10_attack_116 rfl ?_
                refine zV_getc hX dX10_attack_117 zf_X10_23 zo0.1 rfl ?_
                refine zV_getp hX dX10_attack_120 zf_X10_125 zo50.1 rfl ((lAdd_c (by omega)).trans hI.2.2.1) hT.lt ?_
                refine zV_iload_n hX dX10_attack_123 rfl ?_
                refine zV_iload hX dX10_attack_124 rfl ?_
                refine zV_iload hX dX10_attack_126 rfl ?_
                refine zV_i2f hX dX10_attack_128 ?_
                refine zV_cS1p hX hR hl dX10_attack_129 (zc_bitsOf l G _ _ s8 E8 T8 hf8) zt_X1_bitsOf rfl zml_X10_97 (by decide) (Nat.le_of_ble_eq_true rfl) ?_
                dsimp only [Option.toList, List.cons_append, List.nil_append]
                refine zV_iconst hX (v := nI 0) dX10_attack_132 (by decide) ?_
                refine zV_cV4p hX hR hl dX10_attack_133 (zc_setAct l G _ lt i ((fAk lt n r i w M k).2.1 + 1) _ _ _ hT.o (by omega) ((lAdd_k (by omega)).trans (if_pos rfl)) (by omega)) zt_X4_setAct rfl zml_X10_364 hT.o.1 ⟨by decide, by decide⟩ (Nat.le_of_ble_eq_true rfl) ?_
                dsimp only [Option.toList, List.cons_append, List.nil_append]
                refine zV_iincN hX (b := 1) dX10_attack_136 rfl (by decide) ?_
                dsimp only [zst1, zst2, zclr, zc2]
                refine zV_goto hX (tgt := 48) dX10_attack_139 (by decide) ?_
                first | (have e9 : fAk lt n r i w M (k + 1) = fAk lt n r i w M k := if_neg (by omega); have h9 := ih (k + 1) (by omega) (by omega); rw [e9] at h9; exact h9 _ _) | (have e9 : fAk lt n r i w M (k + 1) = ((fAk lt n r i w M k).1 / 3, (fAk lt n r i w M k).2.1 + 1, fAs lt i (w / (fAk lt n r i w M k).1 % 3) (k + 1) (fAk lt n r i w M k).2.1 (fAk lt n r i w M k).2.2) := if_pos ⟨by omega, by omega⟩; have h9 := ih (k + 1) (by omega) (by omega); rw [e9] at h9; rw [show fAs lt i (w / (fAk lt n r i w M k).1 % 3) (k + 1) (fAk lt n r i w M k).2.1 (fAk lt n r i w M k).2.2 = lSetActIf lt i ((fAk lt n r i w M k).2.1 + 1) (if (w / (fAk lt n r i w M k).1 % 3) = 2 then nI 2 else nI 0) (FP.i2f (nI (w / (fAk lt n r i w M k).1 % 3))).toInt32 (nI 0) (lAdd lt i (fAk lt n r i w M k).2.1 (if i = 0 then nI 1 else nI 2) (nI (k + 1)) (-1) (fAk lt n r i w M k).2.2) from rfl, if_pos c_83, if_pos c_102] at h9; exact h9 _ _) | (have e9 : fAk lt n r i w M (k + 1) = ((fAk lt n r i w M k).1 / 3, (fAk lt n r i w M k).2.1 + 1, fAs lt i (w / (fAk lt n r i w M k).1 % 3) (k + 1) (fAk lt n r i w M k).2.1 (fAk lt n r i w M k).2.2) := if_pos ⟨by omega, by omega⟩; have h9 := ih (k + 1) (by omega) (by omega); rw [e9] at h9; rw [show fAs lt i (w / (fAk lt n r i w M k).1 % 3) (k + 1) (fAk lt n r i w M k).2.1 (fAk lt n r i w M k).2.2 = lSetActIf lt i ((fAk lt n r i w M k).2.1 + 1) (if (w / (fAk lt n r i w M k).1 % 3) = 2 then nI 2 else nI 0) (FP.i2f (nI (w / (fAk lt n r i w M k).1 % 3))).toInt32 (nI 0) (lAdd lt i (fAk lt n r i w M k).2.1 (if i = 0 then nI 1 else nI 2) (nI (k + 1)) (-1) (fAk lt n r i w M k).2.2) from rfl, if_pos c_83, if_neg (by omega)] at h9; exact h9 _ _) | (have e9 : fAk lt n r i w M (k + 1) = ((fAk lt n r i w M k).1 / 3, (fAk lt n r i w M k).2.1 + 1, fAs lt i (w / (fAk lt n r i w M k).1 % 3) (k + 1) (fAk lt n r i w M k).2.1 (fAk lt n r i w M k).2.2) := if_pos ⟨by omega, by omega⟩; have h9 := ih (k + 1) (by omega) (by omega); rw [e9] at h9; rw [show fAs lt i (w / (fAk lt n r i w M k).1 % 3) (k + 1) (fAk lt n r i w M k).2.1 (fAk lt n r i w M k).2.2 = lSetActIf lt i ((fAk lt n r i w M k).2.1 + 1) (if (w / (fAk lt n r i w M k).1 % 3) = 2 then nI 2 else nI 0) (FP.i2f (nI (w / (fAk lt n r i w M k).1 % 3))).toInt32 (nI 0) (lAdd lt i (fAk lt n r i w M k).2.1 (if i = 0 then nI 1 else nI 2) (nI (k + 1)) (-1) (fAk lt n r i w M k).2.2) from rfl, if_neg c_83, if_pos c_102] at h9; exact h9 _ _) | (have e9 : fAk lt n r i w M (k + 1) = ((fAk lt n r i w M k).1 / 3, (fAk lt n r i w M k).2.1 + 1, fAs lt i (w / (fAk lt n r i w M k).1 % 3) (k + 1) (fAk lt n r i w M k).2.1 (fAk lt n r i w M k).2.2) := if_pos ⟨by omega, by omega⟩; have h9 := ih (k + 1) (by omega) (by omega); rw [e9] at h9; rw [show fAs lt i (w / (fAk lt n r i w M k).1 % 3) (k + 1) (fAk lt n r i w M k).2.1 (fAk lt n r i w M k).2.2 = lSetActIf lt i ((fAk lt n r i w M k).2.1 + 1) (if (w / (fAk lt n r i w M k).1 % 3) = 2 then nI 2 else nI 0) (FP.i2f (nI (w / (fAk lt n r i w M k).1 % 3))).toInt32 (nI 0) (lAdd lt i (fAk lt n r i w M k).2.1 (if i = 0 then nI 1 else nI 2) (nI (k + 1)) (-1) (fAk lt n r i w M k).2.2) from rfl, if_neg c_83, if_neg (by omega)] at h9; exact h9 _ _)
              · refine zV_iconst hX (v := nI 1) dX10_attack_105 (by decide) ?_
                refine zV_goto hX (tgt := 110) dX10_attack_106 (by decide) ?_
                refine zV_iload hX dX10_attack_110 rfl ?_
                refine zV_iconst hX (v := (-1)) dX10_attack_112 (by decide) ?_
                refine zV_cV4p hX hR hl dX10_attack_113 (zc_add l G (fAk lt n r i w M k).2.2 lt i (fAk lt n r i w M k).2.1 _ _ _ hT.o (by omega) hck (by omega)) zt_X4_add rfl zml_X10_361 hT.o.1 ⟨by decide, by decide⟩ (Nat.le_of_ble_eq_true rfl) ?_
                dsimp only [Option.toList, List.cons_append, List.nil_append]
                refine zV_aload_n hX dX10_attack_116 rfl ?_
                refine zV_getc hX dX10_attack_117 zf_X10_23 zo0.1 rfl ?_
                refine zV_getp hX dX10_attack_120 zf_X10_125 zo50.1 rfl ((lAdd_c (by omega)).trans hI.2.2.1) hT.lt ?_
                refine zV_iload_n hX dX10_attack_123 rfl ?_
                refine zV_iload hX dX10_attack_124 rfl ?_
                refine zV_iload hX dX10_attack_126 rfl ?_
                refine zV_i2f hX dX10_attack_128 ?_
                refine zV_cS1p hX hR hl dX10_attack_129 (zc_bitsOf l G _ _ s8 E8 T8 hf8) zt_X1_bitsOf rfl zml_X10_97 (by decide) (Nat.le_of_ble_eq_true rfl) ?_
                dsimp only [Option.toList, List.cons_append, List.nil_append]
                refine zV_iconst hX (v := nI 0) dX10_attack_132 (by decide) ?_
                refine zV_cV4p hX hR hl dX10_attack_133 (zc_setAct l G _ lt i ((fAk lt n r i w M k).2.1 + 1) _ _ _ hT.o (by omega) ((lAdd_k (by omega)).trans (if_pos rfl)) (by omega)) zt_X4_setAct rfl zml_X10_364 hT.o.1 ⟨by decide, by decide⟩ (Nat.le_of_ble_eq_true rfl) ?_
                dsimp only [Option.toList, List.cons_append, List.nil_append]
                refine zV_iincN hX (b := 1) dX10_attack_136 rfl (by decide) ?_
                dsimp only [zst1, zst2, zclr, zc2]
                refine zV_goto hX (tgt := 48) dX10_attack_139 (by decide) ?_
                first | (have e9 : fAk lt n r i w M (k + 1) = fAk lt n r i w M k := if_neg (by omega); have h9 := ih (k + 1) (by omega) (by omega); rw [e9] at h9; exact h9 _ _) | (have e9 : fAk lt n r i w M (k + 1) = ((fAk lt n r i w M k).1 / 3, (fAk lt n r i w M k).2.1 + 1, fAs lt i (w / (fAk lt n r i w M k).1 % 3) (k + 1) (fAk lt n r i w M k).2.1 (fAk lt n r i w M k).2.2) := if_pos ⟨by omega, by omega⟩; have h9 := ih (k + 1) (by omega) (by omega); rw [e9] at h9; rw [show fAs lt i (w / (fAk lt n r i w M k).1 % 3) (k + 1) (fAk lt n r i w M k).2.1 (fAk lt n r i w M k).2.2 = lSetActIf lt i ((fAk lt n r i w M k).2.1 + 1) (if (w / (fAk lt n r i w M k).1 % 3) = 2 then nI 2 else nI 0) (FP.i2f (nI (w / (fAk lt n r i w M k).1 % 3))).toInt32 (nI 0) (lAdd lt i (fAk lt n r i w M k).2.1 (if i = 0 then nI 1 else nI 2) (nI (k + 1)) (-1) (fAk lt n r i w M k).2.2) from rfl, if_pos c_83, if_pos c_102] at h9; exact h9 _ _) | (have e9 : fAk lt n r i w M (k + 1) = ((fAk lt n r i w M k).1 / 3, (fAk lt n r i w M k).2.1 + 1, fAs lt i (w / (fAk lt n r i w M k).1 % 3) (k + 1) (fAk lt n r i w M k).2.1 (fAk lt n r i w M k).2.2) := if_pos ⟨by omega, by omega⟩; have h9 := ih (k + 1) (by omega) (by omega); rw [e9] at h9; rw [show fAs lt i (w / (fAk lt n r i w M k).1 % 3) (k + 1) (fAk lt n r i w M k).2.1 (fAk lt n r i w M k).2.2 = lSetActIf lt i ((fAk lt n r i w M k).2.1 + 1) (if (w / (fAk lt n r i w M k).1 % 3) = 2 then nI 2 else nI 0) (FP.i2f (nI (w / (fAk lt n r i w M k).1 % 3))).toInt32 (nI 0) (lAdd lt i (fAk lt n r i w M k).2.1 (if i = 0 then nI 1 else nI 2) (nI (k + 1)) (-1) (fAk lt n r i w M k).2.2) from rfl, if_pos c_83, if_neg (by omega)] at h9; exact h9 _ _) | (have e9 : fAk lt n r i w M (k + 1) = ((fAk lt n r i w M k).1 / 3, (fAk lt n r i w M k).2.1 + 1, fAs lt i (w / (fAk lt n r i w M k).1 % 3) (k + 1) (fAk lt n r i w M k).2.1 (fAk lt n r i w M k).2.2) := if_pos ⟨by omega, by omega⟩; have h9 := ih (k + 1) (by omega) (by omega); rw [e9] at h9; rw [show fAs lt i (w / (fAk lt n r i w M k).1 % 3) (k + 1) (fAk lt n r i w M k).2.1 (fAk lt n r i w M k).2.2 = lSetActIf lt i ((fAk lt n r i w M k).2.1 + 1) (if (w / (fAk lt n r i w M k).1 % 3) = 2 then nI 2 else nI 0) (FP.i2f (nI (w / (fAk lt n r i w M k).1 % 3))).toInt32 (nI 0) (lAdd lt i (fAk lt n r i w M k).2.1 (if i = 0 then nI 1 else nI 2) (nI (k + 1)) (-1) (fAk lt n r i w M k).2.2) from rfl, if_neg c_83, if_pos c_102] at h9; exact h9 _ _) | (have e9 : fAk lt n r i w M (k + 1) = ((fAk lt n r i w M k).1 / 3, (fAk lt n r i w M k).2.1 + 1, fAs lt i (w / (fAk lt n r i w M k).1 % 3) (k + 1) (fAk lt n r i w M k).2.1 (fAk lt n r i w M k).2.2) := if_pos ⟨by omega, by omega⟩; have h9 := ih (k + 1) (by omega) (by omega); rw [e9] at h9; rw [show fAs lt i (w / (fAk lt n r i w M k).1 % 3) (k + 1) (fAk lt n r i w M k).2.1 (fAk lt n r i w M k).2.2 = lSetActIf lt i ((fAk lt n r i w M k).2.1 + 1) (if (w / (fAk lt n r i w M k).1 % 3) = 2 then nI 2 else nI 0) (FP.i2f (nI (w / (fAk lt n r i w M k).1 % 3))).toInt32 (nI 0) (lAdd lt i (fAk lt n r i w M k).2.1 (if i = 0 then nI 1 else nI 2) (nI (k + 1)) (-1) (fAk lt n r i w M k).2.2) from rfl, if_neg c_83, if_neg (by omega)] at h9; exact h9 _ _)
  refine zV_aload_n hX dX10_attack_0 rfl ?_
  refine zV_getc hX dX10_attack_1 zf_X10_23 zo0.1 rfl ?_
  refine zV_iload_n hX dX10_attack_4 rfl ?_
  refine zV_iload_n hX dX10_attack_5 rfl ?_
  refine zV_iconst hX (v := nI 1) dX10_attack_6 (by decide) ?_
  refine zV_isubN hX dX10_attack_7 (by omega) ?_
  refine zV_cV2p hX hR hl dX10_attack_8 (zc_gbegin l G M 50 lt n (r - 1) zo50 hT.o h53 hT.lt) zt_X2_begin rfl zml_X10_68 zo50.1 ⟨by decide, by decide⟩ (Nat.le_of_ble_eq_true rfl) ?_
  dsimp only [Option.toList, List.cons_append, List.nil_append]
  refine zV_aload_n hX dX10_attack_11 rfl ?_
  refine zV_getc hX dX10_attack_12 zf_X10_23 zo0.1 rfl ?_
  refine zV_geta hX dX10_attack_15 zf_X10_94 zo50.1 rfl ?_
  refine zV_iconst hX (v := nI 0) dX10_attack_18 (by decide) ?_
  refine zV_fconst1 hX dX10_attack_19 ?_
  refine zV_cS1p hX hR hl dX10_attack_20 (zc_bitsOf l G _ _ false 127 0 fA1_fl) zt_X1_bitsOf rfl zml_X10_97 (by decide) (Nat.le_of_ble_eq_true rfl) ?_
  dsimp only [Option.toList, List.cons_append, List.nil_append]
  refine zV_iast hX dX10_attack_23 (zo50.a 4 rfl) (rfl) ⟨by omega, by omega⟩ ?_
  refine zV_aload_n hX dX10_attack_24 rfl ?_
  refine zV_getc hX dX10_attack_25 zf_X10_23 zo0.1 rfl ?_
  refine zV_getp hX dX10_attack_28 zf_X10_125 zo50.1 rfl (hb53) hT.lt ?_
  refine zV_iload_n hX dX10_attack_31 rfl ?_
  refine zV_cV1p hX hR hl dX10_attack_32 (zc_addLiar l G _ lt i hT.o) zt_X4_addLiar rfl zml_X10_358 hT.o.1 ⟨by decide, by decide⟩ (Nat.le_of_ble_eq_true rfl) ?_
  dsimp only [Option.toList, List.cons_append, List.nil_append]
  refine zV_mem (show _ = (fAk lt n r i w M 0).2.2 from rfl) ?_
  refine zV_iload_n hX dX10_attack_35 rfl ?_
  refine zV_iload_n hX dX10_attack_36 rfl ?_
  refine zV_iload_n hX dX10_attack_37 rfl ?_
  refine zV_cS3p hX hR hl dX10_attack_38 (zc_waysOf l G _ n r i hn3 hrr hi) zt_X10_waysOf rfl zml_X10_320 (by decide) (Nat.le_of_ble_eq_true rfl) ?_
  dsimp only [Option.toList, List.cons_append, List.nil_append]
  refine zV_iconst hX (v := nI 3) dX10_attack_41 (by decide) ?_
  refine zV_idivN hX dX10_attack_42 ⟨by omega, by decide, by decide⟩ ?_
  refine zV_istore hX dX10_attack_43 (by decide) ?_
  dsimp only [zst1, zst2, zclr, zc2]
  refine zV_iconst hX (v := nI 1) dX10_attack_45 (by decide) ?_
  refine zV_istore hX dX10_attack_46 (by decide) ?_
  dsimp only [zst1, zst2, zclr, zc2]
  exact L48 (n + 1) 0 (by omega) (by omega) _ _
set_option maxHeartbeats 1000000 in
theorem zf_isBroken (l : Launch) (G : zG) (M : zM) (n i : Nat) (hn3 : 3 ≤ n ∧ n ≤ 4) (hi : i < n) (h97 : M.1 90 7 = nI n) (h90 : M.1 90 0 = nI 0) : zC l G 4 yX10_isBroken cX10_isBroken 2 (Option.some Jvm.ClassFile.FieldType.boolean) [.ref (0 : Nat), .int (nI i)] M (zP (some (.int (zb (fBr n i M)))) M) := by
  refine zC_of (by decide) (Nat.le_of_ble_eq_true rfl) (fun X Q hQ hX hl hR hr => ?_)
  refine zV_loc (L' := [.ref (0 : Nat), .int (nI i)]) rfl ?_
  refine zV_iload_n hX dX10_isBroken_0 rfl ?_
  refine zV_if_neN hX (tgt := 23) dX10_isBroken_1 (by decide) (by omega) (fun c_1 => ?_) (fun c_1 => ?_)
  · refine zV_aload_n hX dX10_isBroken_23 rfl ?_
    refine zV_getc hX dX10_isBroken_24 zf_X10_33 zo0.1 rfl ?_
    refine zV_cV0p hX hR hl dX10_isBroken_27 (zc_obeyed l G M 90 n 0 zo90 h97 (by omega) h90) zt_X6_obeyed rfl zml_X10_214 zo90.1 ⟨by decide, by decide⟩ (Nat.le_of_ble_eq_true rfl) ?_
    dsimp only [Option.toList, List.cons_append, List.nil_append]
    refine zV_if_neB hX (tgt := 37) dX10_isBroken_30 (by decide) (fun c_30 => ?_) (fun c_30 => ?_)
    · refine zV_iconst hX (v := nI 0) dX10_isBroken_37 (by decide) ?_
      exact zV_retz hX hQ hr (rfl) (⟨by unfold fBr; first | (rw [if_pos c_1, decide_eq_true (by omega)]; rfl) | (rw [if_pos c_1, decide_eq_false (by omega)]; rfl) | (rw [if_neg (by omega), c_30]; rfl), rfl⟩) dX10_isBroken_38
    · refine zV_iconst hX (v := nI 1) dX10_isBroken_33 (by decide) ?_
      refine zV_goto hX (tgt := 38) dX10_isBroken_34 (by decide) ?_
      exact zV_retz hX hQ hr (rfl) (⟨by unfold fBr; first | (rw [if_pos c_1, decide_eq_true (by omega)]; rfl) | (rw [if_pos c_1, decide_eq_false (by omega)]; rfl) | (rw [if_neg (by omega), c_30]; rfl), rfl⟩) dX10_isBroken_38
  · refine zV_aload_n hX dX10_isBroken_4 rfl ?_
    refine zV_getc hX dX10_isBroken_5 zf_X10_33 zo0.1 rfl ?_
    have hz7 := zcnt_le (fun i => !(bit (M.1 90 10) i || zany (fun k => !bit (M.1 90 10) k && M.1 (90 + 1 + 16) k == M.1 (90 + 1 + 16) i) i)) n
    rw [show zcnt (fun i => !(bit (M.1 90 10) i || zany (fun k => !bit (M.1 90 10) k && M.1 (90 + 1 + 16) k == M.1 (90 + 1 + 16) i) i)) n = zunl (M.1 (90 + 1 + 16)) (M.1 90 10) n from rfl] at hz7
    refine zV_cV0p hX hR hl dX10_isBroken_8 (zc_ounlike l G M 90 n zo90 h97 (by omega)) zt_X6_unlike rfl zml_X10_150 zo90.1 ⟨by decide, by decide⟩ (Nat.le_of_ble_eq_true rfl) ?_
    dsimp only [Option.toList, List.cons_append, List.nil_append]
    refine zV_iconst hX (v := nI 1) dX10_isBroken_11 (by decide) ?_
    refine zV_icmp_leN hX (tgt := 19) dX10_isBroken_12 (by decide) ⟨by omega, by omega⟩ (fun c_12 => ?_) (fun c_12 => ?_)
    · refine zV_iconst hX (v := nI 0) dX10_isBroken_19 (by decide) ?_
      refine zV_goto hX (tgt := 38) dX10_isBroken_20 (by decide) ?_
      exact zV_retz hX hQ hr (rfl) (⟨by unfold fBr; first | (rw [if_pos c_1, decide_eq_true (by omega)]; rfl) | (rw [if_pos c_1, decide_eq_false (by omega)]; rfl) | (rw [if_neg (by omega), c_30]; rfl), rfl⟩) dX10_isBroken_38
    · refine zV_iconst hX (v := nI 1) dX10_isBroken_15 (by decide) ?_
      refine zV_goto hX (tgt := 38) dX10_isBroken_16 (by decide) ?_
      exact zV_retz hX hQ hr (rfl) (⟨by unfold fBr; first | (rw [if_pos c_1, decide_eq_true (by omega)]; rfl) | (rw [if_pos c_1, decide_eq_false (by omega)]; rfl) | (rw [if_neg (by omega), c_30]; rfl), rfl⟩) dX10_isBroken_38
