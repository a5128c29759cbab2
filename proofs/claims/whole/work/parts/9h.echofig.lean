section zEcho
theorem eNot_bit {row : Nat → Int32} {i : Nat} (hi : i < 7) : ∀ k, k ≤ 7 → bit (eNot row k) i = (decide (i < k) && decide (row i = 0))
  | 0, _ => by rw [show eNot row 0 = nI 0 from rfl, bit_0 (by omega)]; simp
  | k + 1, hk => by
    show bit (eNot row k ||| (if row k = 0 then nI 1 <<< (nI k &&& 31) else nI 0)) i = _
    rw [bit_or _ _ (by omega), eNot_bit hi k (by omega)]
    by_cases e : row k = 0
    · rw [if_pos e, bit_sh (by omega) (by omega)]
      by_cases e2 : i = k
      · subst e2; simp [e]
      · have h1 : decide (i < k + 1) = decide (i < k) := by
          rw [decide_eq_decide]; omega
        rw [h1]; simp [e2]
    · rw [if_neg e, bit_0 (by omega)]
      by_cases e2 : i = k
      · subst e2; simp [e]
      · have h1 : decide (i < k + 1) = decide (i < k) := by
          rw [decide_eq_decide]; omega
        rw [h1]; simp
/-- how many accept unlike values, out of the class's figures and out of the reference's -/
theorem eFig0 {row v acc : Nat → Int32} {lo : Int32} {D : zM} {n : Nat} (hn7 : n ≤ 7) (h1 : ∀ i, i < n → bit lo i = mLiar D i) (h2 : ∀ i, i < n → v i = D.1 356 i) (h3 : ∀ i, i < n → row i = D.1 357 i) : zunl v (lo ||| eNot row 7) n = mUq (mNo D) (D.1 356) n :=
  zunl_mUq (fun i hi => by
    rw [bit_or _ _ (by omega), eNot_bit (by omega) 7 (by decide), h1 i hi, h3 i hi]
    unfold mNo
    rw [show decide (i < 7) = true from decide_eq_true (by omega), Bool.true_and]) h2
theorem eFig1 {row : Nat → Int32} {lo : Int32} {D : zM} {n : Nat} (h1 : ∀ i, i < n → bit lo i = mLiar D i) (h3 : ∀ i, i < n → row i = D.1 357 i) (h4 : ∀ i, i < n → ∃ r : Nat, r < 100 ∧ row i = nI r) : zcnt (fun m => !decide (row m ≤ 0) && !bit lo m) n = zcnt (fun m => !mNo D m) n := by
  refine zcnt_congr n (fun i hi => ?_)
  obtain ⟨r, hr, e⟩ := h4 i hi
  unfold mNo
  rw [h1 i hi, show D.1 (300 + 1 + 56) i = row i from (h3 i hi).symm, e]
  have hz : (nI r ≤ 0) ↔ (nI r = 0) := by
    constructor
    · intro h
      have := (nI_leI (a := r) (b := 0) (by omega) (by decide)).mp h
      rw [show r = 0 by omega]; rfl
    · intro h; rw [h]; exact Int32.le_refl _
  rw [show decide (nI r ≤ 0) = decide (nI r = 0) from by rw [decide_eq_decide]; exact hz]
  cases mLiar D i <;> cases decide (nI r = 0) <;> rfl
theorem eFig2 {row : Nat → Int32} {lo : Int32} {D : zM} {n : Nat} (h1 : ∀ i, i < n → bit lo i = mLiar D i) (h3 : ∀ i, i < n → row i = D.1 357 i) (h4 : ∀ i, i < n → ∃ r : Nat, r < 100 ∧ row i = nI r) : ∀ k, k ≤ n → eLast row lo k = mAcL D k ∧ ∃ r : Nat, r < 100 ∧ eLast row lo k = nI r := by
  intro k
  induction k with
  | zero => exact fun _ => ⟨rfl, 0, by decide, rfl⟩
  | succ k ih =>
    intro hk
    obtain ⟨e1, r1, hr1, e2⟩ := ih (by omega)
    obtain ⟨r, hr, e⟩ := h4 k (by omega)
    show (if bit lo k then eLast row lo k else zmax (eLast row lo k) (row k)) = (if mNo D k then mAcL D k else if D.1 (300 + 1 + 56) k ≤ mAcL D k then mAcL D k else D.1 (300 + 1 + 56) k) ∧ ∃ r : Nat, r < 100 ∧ (if bit lo k then eLast row lo k else zmax (eLast row lo k) (row k)) = nI r
    unfold mNo zmax
    rw [h1 k (by omega), show D.1 (300 + 1 + 56) k = row k from (h3 k (by omega)).symm, ← e1, e, e2]
    cases mLiar D k with
    | true => exact ⟨by simp, r1, hr1, by simp⟩
    | false =>
      simp only [Bool.false_or, decide_eq_true_eq, Bool.false_eq_true, if_false]
      have hlt : (nI r1 < nI r) ↔ r1 < r := nI_ltI (by omega) (by omega)
      have hle : (nI r ≤ nI r1) ↔ r ≤ r1 := nI_leI (by omega) (by omega)
      by_cases h0 : nI r = 0
      · have hr0 : r = 0 := nI_inj (by omega) (by decide) h0
        rw [if_pos h0, if_neg (fun h => by have := hlt.mp h; omega)]
        exact ⟨rfl, r1, hr1, rfl⟩
      · rw [if_neg h0]
        by_cases h5 : r1 < r
        · rw [if_pos (hlt.mpr h5), if_neg (fun h => by have := hle.mp h; omega)]
          exact ⟨rfl, r, hr, rfl⟩
        · rw [if_neg (fun h => h5 (hlt.mp h)), if_pos (hle.mpr (by omega))]
          exact ⟨rfl, r1, hr1, rfl⟩
end zEcho
