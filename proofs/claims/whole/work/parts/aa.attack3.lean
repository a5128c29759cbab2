section zAtk3
variable {lt n r i w k cnt d to : Nat} {A B M R D : zM}
theorem zIl_W {lc n : Nat} {M : zM} {cn : Nat → Nat} {lb : Nat → Bool} (h : zIl lc n M cn lb) : zWd lc cn (zMn cn lb) M M := fun w r x ow tr hw => by
  have e : ((zMn cn lb w).getD 0) = cn w := by
    unfold zMn
    cases hb : lb w with
    | false => exact ((h.1 w hw).2.2.1 hb).symm
    | true => rfl
  unfold mSay
  rw [e]
  exact zIl_say h hw (cn w) 0 (by omega)
theorem vB_at (hk : k < 13) : (vB n r i w).1 (mLc i k) 0 = (if i = 0 then nI 1 else nI 2) ∧ (vB n r i w).1 (mLc i k) 1 = nI (vTo i k) ∧ (vB n r i w).1 (mLc i k) 2 = -1 ∧ (vB n r i w).1 (mLc i k) 3 = (if vDg n r i w k = 2 then nI 2 else nI 0) ∧ (vB n r i w).1 (mLc i k) 4 = (FP.i2f (nI (vDg n r i w k))).toInt32 ∧ (vB n r i w).1 (mLc i k) 5 = 0 := by
  have e : mLc i k - (3100 + 13 * i) = k := by unfold mLc; omega
  unfold vB
  dsimp only
  rw [e, if_neg (show ¬ mLc i k = 313 by unfold mLc; omega), if_neg (show ¬ mLc i k = 1208 by unfold mLc; omega), if_pos (show 3100 + 13 * i ≤ mLc i k ∧ mLc i k < 3113 + 13 * i by unfold mLc; omega), if_neg (show ¬ mLc i k = 313 by unfold mLc; omega), if_neg (show ¬ mLc i k = 1208 by unfold mLc; omega), if_pos (show 3100 + 13 * i ≤ mLc i k ∧ mLc i k < 3113 + 13 * i by unfold mLc; omega), if_neg (show ¬ mLc i k = 313 by unfold mLc; omega), if_neg (show ¬ mLc i k = 1208 by unfold mLc; omega), if_pos (show 3100 + 13 * i ≤ mLc i k ∧ mLc i k < 3113 + 13 * i by unfold mLc; omega), if_neg (show ¬ mLc i k = 313 by unfold mLc; omega), if_neg (show ¬ mLc i k = 1208 by unfold mLc; omega), if_pos (show 3100 + 13 * i ≤ mLc i k ∧ mLc i k < 3113 + 13 * i by unfold mLc; omega), if_neg (show ¬ mLc i k = 313 by unfold mLc; omega), if_neg (show ¬ mLc i k = 1208 by unfold mLc; omega), if_pos (show 3100 + 13 * i ≤ mLc i k ∧ mLc i k < 3113 + 13 * i by unfold mLc; omega), if_neg (show ¬ mLc i k = 313 by unfold mLc; omega), if_neg (show ¬ mLc i k = 1208 by unfold mLc; omega), if_pos (show 3100 + 13 * i ≤ mLc i k ∧ mLc i k < 3113 + 13 * i by unfold mLc; omega)]
  exact ⟨rfl, rfl, rfl, rfl, rfl, rfl⟩
/-- the lies of an attack, told alike -/
theorem vW (hl : 180 ≤ lt ∧ lt ≤ 200) (hn : 3 ≤ n ∧ n ≤ 4) (hi : i < n) (h : fAd lt n r i w (fWl n r i) M A) (hc : ∀ m, m < 7 → A.1 (lt + 1 + 1) m = nI (if m = i then fWl n r i else 0)) : zWd lt (fun m => if m = i then fWl n r i else 0) (vMn n r i) A (vB n r i w) ∧ ∀ m, m < 7 → bit (A.1 lt 0) m = mLiar (vB n r i w) m := by
  obtain ⟨a1, a2, a3, a4, a5⟩ := h
  have hb3 : fWl n r i ≤ 3 := fWl_le hn.2
  obtain ⟨C, hC⟩ : ∃ C : zM, C = (fun a j => if a = 1208 ∨ 3100 ≤ a then (vB n r i w).1 a j else A.1 a j, A.2) := ⟨_, rfl⟩
  have c1 : ∀ a j, ¬ (a = 1208 ∨ 3100 ≤ a) → C.1 a j = A.1 a j := fun a j h => by rw [hC]; exact if_neg h
  have c2 : ∀ a j, (a = 1208 ∨ 3100 ≤ a) → C.1 a j = (vB n r i w).1 a j := fun a j h => by rw [hC]; exact if_pos h
  have v8 : ∀ m, (vB n r i w).1 1208 m = if m = i then nI (fWl n r i) else -1 := fun m => rfl
  have hbit : ∀ m, m < 7 → bit (A.1 lt 0) m = decide (m = i) := fun m hm => by
    rw [a3, bit_or _ _ (by omega), bit_0 (by omega), bit_sh (by omega) (by omega), Bool.false_or]
  have hI : zIl lt n C (fun m => if m = i then fWl n r i else 0) (fun m => decide (m = i)) := by
    refine ⟨fun m hm => ?_, ?_, fun m k' hm hk' => ?_⟩
    · rw [c1 (lt + 1 + 1) _ (by omega), c1 lt 0 (by omega), c2 1208 _ (by omega), v8, hbit m hm, hc m hm]
      show nI (if m = i then fWl n r i else 0) = nI (if m = i then fWl n r i else 0) ∧ (if m = i then fWl n r i else 0) ≤ 12 ∧ (decide (m = i) = false → (if m = i then fWl n r i else 0) = 0) ∧ (n ≤ m → decide (m = i) = false) ∧ (if m = i then nI (fWl n r i) else -1) = (if decide (m = i) = true then nI (if m = i then fWl n r i else 0) else -1) ∧ decide (m = i) = decide (m = i)
      refine ⟨rfl, ?_, fun z => ?_, fun z => ?_, ?_, rfl⟩
      · split <;> omega
      · rw [if_neg (of_decide_eq_false z)]
      · exact decide_eq_false (by omega)
      · by_cases e : m = i
        · rw [if_pos e, if_pos (decide_eq_true e), if_pos e]
        · rw [if_neg e, if_neg (by rw [decide_eq_false e]; decide)]
    · rw [c1 lt 0 (by omega), a3]
      have key : ∀ n, n < 5 → ∀ i, i < n → (nI 0 ||| (nI 1 <<< (nI i &&& 31))) = zLb (fun m => decide (m = i)) n := by decide
      exact key n (by omega) i hi
    · by_cases e : m = i
      · subst e
        simp only [if_true] at hk'
        obtain ⟨l1, l2, l3, l4, l5, l6⟩ := a5 k' hk'
        obtain ⟨b1, b2, b3, b4, b5, b6⟩ := vB_at (n := n) (r := r) (i := m) (w := w) (k := k') (by omega)
        have q : ∀ j, C.1 (mLc m k') j = (vB n r m w).1 (mLc m k') j := fun j => c2 _ _ (by unfold mLc; omega)
        unfold zLie
        rw [c1 (lt + 1 + 2) _ (by omega), c1 (lt + 1 + 3) _ (by omega), c1 (lt + 1 + 4) _ (by omega), c1 (lt + 1 + 5) _ (by omega), c1 (lt + 1 + 6) _ (by omega), c1 (lt + 1 + 7) _ (by omega), q, q, q, q, q, q, l1, l2, l3, l4, l5, l6, b1, b2, b3, b4, b5, b6]
        refine ⟨Or.inr ?_, rfl, rfl, rfl, fun _ => rfl, fun _ => rfl⟩
        by_cases m0 : m = 0
        · rw [if_pos m0]
          exact ⟨1, by omega, by omega, rfl, rfl⟩
        · rw [if_neg m0]
          exact ⟨2, by omega, by omega, rfl, rfl⟩
      · simp only [e, if_false] at hk'
        exact absurd hk' (Nat.not_lt_zero _)
  have hM : zMn (fun m => if m = i then fWl n r i else 0) (fun m => decide (m = i)) = vMn n r i := by
    funext m
    unfold zMn vMn
    by_cases e : m = i
    · simp [e]
    · simp [e]
  have hW := zIl_W hI
  rw [hM] at hW
  refine ⟨hW.keep (fun a k h1 h2 => (c1 a k (by omega)).symm) (fun a k h => (c2 a k (Or.inr h)).symm), fun m hm => ?_⟩
  rw [hbit m hm]
  unfold mLiar
  rw [show (vB n r i w).1 (1000 + 16 * 13 + 0) m = if m = i then nI (fWl n r i) else -1 from v8 m]
  by_cases e : m = i
  · rw [if_pos e, decide_eq_true e, decide_eq_false (nI_m1 (by omega))]
    rfl
  · rw [if_neg e, decide_eq_false e, decide_eq_true rfl]
    rfl
theorem zunl_congr {p q : Nat → Int32} {a b : Int32} {n : Nat} (h1 : ∀ i, i < n → p i = q i) (h2 : ∀ i, i < n → bit a i = bit b i) : zunl p a n = zunl q b n := by
  unfold zunl
  refine zcnt_congr n (fun i hi => ?_)
  rw [h2 i hi, zany_congr i (fun k hk => by rw [h1 k (by omega), h1 i hi, h2 k (by omega)])]
/-- an attack, in both -/
theorem fAt_v (hL : lyL lt) (h53 : M.1 50 3 = nI lt) (hn : 3 ≤ n ∧ n ≤ 4) (hr : 1 ≤ r ∧ r ≤ 2) (hi : i < n) : fBr n i (fAt lt n r i w M) = vBr n r i w ∧ zunl ((fAt lt n r i w M).1 (90 + 1 + 16)) ((fAt lt n r i w M).1 90 10) n = vUn n r i w ∧ ∀ a j, ¬ fAx lt a j → ¬ (90 ≤ a ∧ a ≤ 110) → (fAt lt n r i w M).1 a j = M.1 a j := by
  have hl : 180 ≤ lt ∧ lt ≤ 200 := by unfold lyL at hL; omega
  obtain ⟨k1, k2, k3⟩ := fAk_at (lt := lt) (w := w) (M := M) hl.1 hn hr hi (n - 1) (Nat.le_refl _)
  obtain ⟨-, -, -, -, -, kc⟩ := fAI_k (lt := lt) (n := n) (r := r) (i := i) (w := w) (M := M) hL (by omega) h53 (n - 1) (by omega)
  rw [vC_end hn hi] at k1 k3
  rw [k1] at kc
  unfold fAt
  rw [k1]
  generalize (fAk lt n r i w M (n - 1)).2.2 = A at *
  obtain ⟨w1, w2⟩ := vW hl hn hi k3 kc
  obtain ⟨a1, a2, a3, a4, a5⟩ := k3
  have v11 : (vB n r i w).1 300 11 = nI 0 := by
    unfold vB
    dsimp only
    rw [if_neg (by omega), if_neg (by omega), if_neg (by omega)]
    rfl
  have hP := (orPlay (o := 90) (g := 50) (lc := lt) (t := r - 1) (c := 0) (mn := vMn n r i) (A := A) (B := vB n r i w) ⟨by omega, by omega, by omega⟩ ⟨hn.1, by omega⟩ (by omega) (by omega) w1 (a1.trans v11.symm) (a2.trans rfl) (fun m hm => w2 m (by omega))).1
  rw [show r - 1 + 1 = r by omega] at hP
  obtain ⟨-, -, d3, -, d5, d6⟩ := hP
  rw [show r - 1 + 1 = r by omega] at d3
  have hu : zunl ((oPlay 90 50 lt n (r - 1) 0 (fun m => if m = i then fWl n r i else 0) A).1 (90 + 1 + 16)) ((oPlay 90 50 lt n (r - 1) 0 (fun m => if m = i then fWl n r i else 0) A).1 90 10) n = vUn n r i w := zunl_congr d3 d6
  refine ⟨?_, hu, fun a j h1 h2 => ?_⟩
  · unfold fBr vBr
    by_cases i0 : i = 0
    · rw [if_pos i0, if_pos i0, hu]
    · rw [if_neg i0, if_neg i0]
      unfold oObeyed
      rw [d6 0 (by omega), d5]
      congr 2
      exact zall_congr n (fun m hm => by rw [d6 m hm, d3 m hm]; rfl)
  · rw [← a4 a j h1]
    exact (oFi.p4 90 50 lt n (r - 1) 0 (fun m => if m = i then fWl n r i else 0) n A).1.at (by omega)
end zAtk3
