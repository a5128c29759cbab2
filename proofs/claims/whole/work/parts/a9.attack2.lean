section zAtk2
variable {lt n r i w k cnt d to : Nat} {A M : zM}
/-- what a play in thought of an attack may touch -/
def fAx (lt a j : Nat) : Prop := (a = 50 ∧ j ≤ 2) ∨ a = 55 ∨ (lt ≤ a ∧ a ≤ lt + 8)
theorem fA0_at (hl : 180 ≤ lt) : (fA0 lt n r i M).1 50 2 = nI 0 ∧ (fA0 lt n r i M).1 55 0 = 1065353216 ∧ (fA0 lt n r i M).1 lt 0 = (nI 0 ||| (nI 1 <<< (nI i &&& 31))) ∧ ∀ a j, ¬ fAx lt a j → (fA0 lt n r i M).1 a j = M.1 a j := by
  have g2 : (gBegin 50 lt n (r - 1) M).1 50 2 = nI 0 := by
    unfold gBegin lClear
    rw [zfor_ne (by decide), zfor_ne (by omega), zw_ne (Or.inl (by omega))]
    exact zw_same
  have g0 : (gBegin 50 lt n (r - 1) M).1 lt 0 = nI 0 := by
    unfold gBegin lClear
    rw [zfor_ne (by omega), zfor_ne (by omega)]
    exact zw_same
  have gc : ∀ a j, ¬ fAx lt a j → (gBegin 50 lt n (r - 1) M).1 a j = M.1 a j := fun a j h => by
    unfold fAx at h
    unfold gBegin lClear
    rw [zfor_ne (by omega), zfor_ne (by omega), zw_ne (by omega), zw_ne (by omega), zw_ne (by omega), zw_ne (by omega)]
  unfold fA0
  refine ⟨?_, ?_, ?_, fun a j h => ?_⟩
  · rw [zw_ne (by omega), zw_ne (by omega)]; exact g2
  · rw [zw_ne (by omega), zw_same]
  · rw [zw_same, zw_ne (by omega), g0]
  · have h' := h
    unfold fAx at h'
    rw [zw_ne (by omega), zw_ne (by omega)]
    exact gc a j h
/-- the lie with number idx, as way w has it -/
def vL (lt n r i w idx : Nat) (A : zM) : Prop := A.1 (lt + 1 + 2) (i * 12 + idx) = (if i = 0 then nI 1 else nI 2) ∧ A.1 (lt + 1 + 3) (i * 12 + idx) = nI (vTo i idx) ∧ A.1 (lt + 1 + 4) (i * 12 + idx) = -1 ∧ A.1 (lt + 1 + 5) (i * 12 + idx) = (if vDg n r i w idx = 2 then nI 2 else nI 0) ∧ A.1 (lt + 1 + 6) (i * 12 + idx) = (FP.i2f (nI (vDg n r i w idx))).toInt32 ∧ A.1 (lt + 1 + 7) (i * 12 + idx) = nI 0
theorem fAs_at (hc : cnt < 12) : (fAs lt i d to cnt A).1 (lt + 1 + 2) (i * 12 + cnt) = (if i = 0 then nI 1 else nI 2) ∧ (fAs lt i d to cnt A).1 (lt + 1 + 3) (i * 12 + cnt) = nI to ∧ (fAs lt i d to cnt A).1 (lt + 1 + 4) (i * 12 + cnt) = -1 ∧ (fAs lt i d to cnt A).1 (lt + 1 + 5) (i * 12 + cnt) = (if d = 2 then nI 2 else nI 0) ∧ (fAs lt i d to cnt A).1 (lt + 1 + 6) (i * 12 + cnt) = (FP.i2f (nI d)).toInt32 ∧ (fAs lt i d to cnt A).1 (lt + 1 + 7) (i * 12 + cnt) = nI 0 ∧ ∀ a j, ¬ (lt + 2 ≤ a ∧ a ≤ lt + 8 ∧ (a = lt + 2 ∨ j = i * 12 + cnt)) → (fAs lt i d to cnt A).1 a j = A.1 a j := by
  have e : fAs lt i d to cnt A = lSetAct lt (i * 12 + cnt) (if d = 2 then nI 2 else nI 0) (FP.i2f (nI d)).toInt32 (nI 0) (lAdd lt i cnt (if i = 0 then nI 1 else nI 2) (nI to) (-1) A) := by
    unfold fAs lSetActIf
    rw [if_neg (Nat.succ_ne_zero cnt)]
    rfl
  rw [e]
  obtain ⟨s1, s2, s3, s4⟩ := lSet_at (rc := lt) (a := i * 12 + cnt) (v1 := if d = 2 then nI 2 else nI 0) (v2 := (FP.i2f (nI d)).toInt32) (v3 := nI 0) (A := lAdd lt i cnt (if i = 0 then nI 1 else nI 2) (nI to) (-1) A)
  obtain ⟨m1, m2, m3, -, -⟩ := lAdd_at (rc := lt) (w := i) (A := A) hc (r := if i = 0 then nI 1 else nI 2) (x := nI to) (o := -1)
  refine ⟨by rw [s4 _ _ (by omega), m1], by rw [s4 _ _ (by omega), m2], by rw [s4 _ _ (by omega), m3], s1, s2, s3, fun a j h => ?_⟩
  unfold lSetAct lAdd lSetAct
  rw [if_neg (by omega), zw_ne (by omega), zw_ne (by omega), zw_ne (by omega), zw_ne (by omega), zw_ne (by omega), zw_ne (by omega), zw_ne (by omega), zw_ne (by omega), zw_ne (by omega), zw_ne (by omega)]
def vC (n r i k : Nat) : Nat := if fWl n r i = 0 then 0 else if i = 0 ∨ k < i then k else k - 1
def fAd (lt n r i w cnt : Nat) (M A : zM) : Prop := A.1 50 2 = nI 0 ∧ A.1 55 0 = 1065353216 ∧ A.1 lt 0 = (nI 0 ||| (nI 1 <<< (nI i &&& 31))) ∧ (∀ a j, ¬ fAx lt a j → A.1 a j = M.1 a j) ∧ ∀ idx, idx < cnt → vL lt n r i w idx A
theorem fAk_at (hl : 180 ≤ lt) (hn : 3 ≤ n ∧ n ≤ 4) (hr : 1 ≤ r ∧ r ≤ 2) (hi : i < n) : ∀ k, k ≤ n - 1 → (fAk lt n r i w M k).2.1 = vC n r i k ∧ (fAk lt n r i w M k).1 = 3 ^ fWl n r i / 3 ^ (vC n r i k + 1) ∧ fAd lt n r i w (vC n r i k) M (fAk lt n r i w M k).2.2
  | 0, _ => by
    have e : vC n r i 0 = 0 := by unfold vC; split; rfl; split; rfl; rfl
    obtain ⟨a1, a2, a3, a4⟩ := fA0_at (lt := lt) (n := n) (r := r) (i := i) (M := M) hl
    rw [e]
    exact ⟨rfl, rfl, a1, a2, a3, a4, fun idx h => absurd h (Nat.not_lt_zero _)⟩
  | k + 1, hk => by
    obtain ⟨h1, h2, h3⟩ := fAk_at hl hn hr hi k (by omega)
    have hb3 : fWl n r i ≤ 3 := fWl_le hn.2
    have hc12 : vC n r i k < 12 := by unfold vC; split; omega; split <;> omega
    have step : fAk lt n r i w M (k + 1) = if k + 1 ≠ i ∧ 0 < (fAk lt n r i w M k).1 then ((fAk lt n r i w M k).1 / 3, (fAk lt n r i w M k).2.1 + 1, fAs lt i (w / (fAk lt n r i w M k).1 % 3) (k + 1) (fAk lt n r i w M k).2.1 (fAk lt n r i w M k).2.2) else fAk lt n r i w M k := rfl
    rw [step, h1, h2]
    generalize hgA : (fAk lt n r i w M k).2.2 = A at *
    obtain ⟨a1, a2, a3, a4, a5⟩ := h3
    by_cases g : k + 1 ≠ i ∧ 0 < 3 ^ fWl n r i / 3 ^ (vC n r i k + 1)
    · rw [if_pos g]
      have hb0 : fWl n r i ≠ 0 := fun z => by
        have g2 := g.2
        rw [z] at g2
        have h9 : vC n r i k = 0 := by unfold vC; rw [if_pos z]
        rw [h9] at g2
        exact absurd g2 (by decide)
      have hC : vC n r i (k + 1) = vC n r i k + 1 := by
        unfold vC
        rw [if_neg hb0, if_neg hb0]
        by_cases i0 : i = 0
        · rw [if_pos (Or.inl i0), if_pos (Or.inl i0)]
        · by_cases ki : k < i
          · rw [if_pos (Or.inr ki), if_pos (Or.inr (by omega))]
          · rw [if_neg (by omega), if_neg (by omega)]
            omega
      have hT : vTo i (vC n r i k) = k + 1 := by
        unfold vC vTo
        rw [if_neg hb0]
        by_cases i0 : i = 0
        · rw [if_pos (Or.inl i0), if_pos (Or.inl i0)]
        · by_cases ki : k < i
          · rw [if_pos (c := i = 0 ∨ k < i) (Or.inr ki), if_pos (Or.inr (by omega))]
          · rw [if_neg (c := i = 0 ∨ k < i) (by omega), if_neg (by omega)]
            omega
      obtain ⟨s1, s2, s3, s4, s5, s6, s7⟩ := fAs_at (lt := lt) (i := i) (d := w / (3 ^ fWl n r i / 3 ^ (vC n r i k + 1)) % 3) (to := k + 1) (A := A) hc12
      rw [hC]
      refine ⟨rfl, ?_, ?_, ?_, ?_, fun a j h => ?_, fun idx hidx => ?_⟩
      · rw [Nat.div_div_eq_div_mul, ← Nat.pow_succ]
      · rw [s7 _ _ (by omega)]; exact a1
      · rw [s7 _ _ (by omega)]; exact a2
      · rw [s7 _ _ (by omega)]; exact a3
      · have h' := h
        unfold fAx at h'
        rw [s7 _ _ (by omega)]
        exact a4 a j h
      · by_cases ei : idx = vC n r i k
        · subst ei
          exact ⟨s1, by rw [hT]; exact s2, s3, s4, s5, s6⟩
        · have hv := a5 idx (by omega)
          unfold vL at hv ⊢
          rw [s7 _ _ (by omega), s7 _ _ (by omega), s7 _ _ (by omega), s7 _ _ (by omega), s7 _ _ (by omega), s7 _ _ (by omega)]
          exact hv
    · rw [if_neg g]
      have hC : vC n r i (k + 1) = vC n r i k := by
        by_cases hb0 : fWl n r i = 0
        · unfold vC
          rw [if_pos hb0, if_pos hb0]
        · have hlt : k + 1 ≠ i → False := fun hk2 => by
            apply g
            refine ⟨hk2, Nat.div_pos (Nat.pow_le_pow_right (by decide) ?_) (Nat.pow_pos (by decide))⟩
            unfold vC
            rw [if_neg hb0]
            have hb1 : fWl n r i = if i = 0 then n - 1 else n - 2 := by
              unfold fWl at hb0 ⊢
              by_cases i0 : i = 0
              · rw [if_pos i0, if_pos i0]
              · rw [if_neg i0, if_neg i0] at *
                by_cases r2 : r = 2
                · rw [if_pos r2]
                · rw [if_neg r2] at hb0
                  exact absurd rfl hb0
            rw [hb1]
            by_cases i0 : i = 0
            · rw [if_pos (Or.inl i0), if_pos i0]
              omega
            · rw [if_neg i0]
              by_cases ki : k < i
              · rw [if_pos (Or.inr ki)]
                omega
              · rw [if_neg (by omega)]
                omega
          have hk2 : k + 1 = i := Classical.byContradiction hlt
          unfold vC
          rw [if_neg hb0, if_neg hb0, if_neg (by omega), if_pos (Or.inr (by omega))]
          omega
      rw [hC]
      refine ⟨h1, h2, ?_⟩
      rw [hgA]
      exact ⟨a1, a2, a3, a4, a5⟩
theorem vC_end (hn : 3 ≤ n ∧ n ≤ 4) (hi : i < n) : vC n r i (n - 1) = fWl n r i := by
  unfold vC fWl
  by_cases i0 : i = 0
  · rw [if_pos i0, if_neg (by omega), if_pos (Or.inl i0)]
  · rw [if_neg i0]
    by_cases r2 : r = 2
    · rw [if_pos r2, if_neg (by omega), if_neg (by omega)]
      omega
    · rw [if_neg r2, if_pos rfl]
end zAtk2
