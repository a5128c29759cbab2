section zSign
theorem zcnt_any (p : Nat → Bool) : ∀ n, 0 < zcnt p n ↔ zany p n = true
  | 0 => ⟨fun h => absurd h (Nat.lt_irrefl 0), fun h => by cases h⟩
  | n + 1 => by
    rw [zcnt_s]
    show _ ↔ (zany p n || p n) = true
    have ih := zcnt_any p n
    cases hp : p n with
    | true => simp
    | false => simp only [Bool.or_false]; rw [← ih]; simp
variable {lc n c : Nat} {cn : Nat → Nat} {mn : Nat → Option Nat} {lb : Nat → Bool} {V : Nat → Int32}
/-- the signed trial, alike in both -/
def sgR (lc : Nat) (cn : Nat → Nat) (mn : Nat → Option Nat) (lb : Nat → Bool) (A B : zM) : Prop :=
  (∀ x, x < 7 → A.1 125 x = B.1 332 x ∧ (∀ i, i < mTk9 B x → A.1 129 (x * 7 + i) = B.1 (1544 + x) i ∧ A.1 130 (x * 7 + i) = B.1 (1560 + x) i ∧ A.1 131 (x * 7 + i) = B.1 (1576 + x) i ∧ A.1 132 (x * 7 + i) = B.1 (1592 + x) i) ∧ B.1 334 x = (if mTk9 B x = 0 then nI 0 else A.1 132 (x * 7 + mTk9 B x - 1)) ∧ A.1 126 x = B.1 333 x) ∧ A.1 120 1 = B.1 300 38 ∧ A.1 120 2 = B.1 300 39 ∧ A.1 120 3 = B.1 300 40 ∧ zS lc cn mn lb A B
theorem sgS {A B : zM} (hl : 180 ≤ lc) (h : zS lc cn mn lb A B) {A2 B2 : zM} (hA : ∀ a k, a < 120 ∨ 132 < a → A2.1 a k = A.1 a k) (hB : ∀ a k, ¬ mFrS a k → B2.1 a k = B.1 a k) : zS lc cn mn lb A2 B2 :=
  h.keep (fun a k h1 h2 => hA a k (by omega)) (hA _ _ (by omega)) (fun a k h1 => hB a k (by unfold mFrS; omega)) (hB _ _ (by unfold mFrS; omega))
theorem sgTake (hl : 180 ≤ lc) (hc : c < 7) {A B : zM} (h : sgR lc cn mn lb A B) (hg : gOk c V B) {x f r : Nat} {s v : Int32} (hx : x < 7) : sgR lc cn mn lb (sTake 120 x f s r v A) (mTakes x v s f r B) := by
  obtain ⟨h1, h2, h3, h4, h5⟩ := h
  have hq : ∀ y, y < 7 → B.1 332 y = nI (mTk9 B y) ∧ mTk9 B y ≤ 6 := fun y hy => ⟨(hg y hy).1, hg.le6 hc hy⟩
  obtain ⟨q1, q2⟩ := hq x hx
  have eA : zN (A.1 125 x) = mTk9 B x := by rw [(h1 x hx).1]
  unfold sTake mTakes
  rw [show zN (A.1 (120 + 1 + 4) x) = mTk9 B x from eA, if_neg (show ¬ 7 ≤ mTk9 B x by omega)]
  have ec : zcnt (fun j => A.1 (120 + 1 + 8) (j + x * 7) == v) (mTk9 B x) = zcnt (fun i => mTB B x i == v) (mTk9 B x) := zcnt_congr _ (fun i hi => by
    rw [show A.1 (120 + 1 + 8) (i + x * 7) = A.1 129 (x * 7 + i) by (show A.1 129 (i + x * 7) = _; rw [Nat.add_comm i]), ((h1 x hx).2.1 i hi).1])
  rw [ec]
  by_cases hz : zany (fun i => mTB B x i == v) (mTk9 B x) = true
  · rw [if_pos hz, if_pos ((zcnt_any _ _).mpr hz)]
    exact ⟨h1, h2, h3, h4, h5⟩
  · rw [if_neg hz, if_neg (fun e => hz ((zcnt_any _ _).mp e))]
    generalize hQ : mTk9 B x = q at *
    have eB : ∀ y, mTk9 (mPutT x q v s f r B) y = if y = x then q + 1 else mTk9 B y := fun y => by
      show zN ((mPutT x q v s f r B).1 332 y) = _
      unfold mPutT
      simp only [zw_at]
      by_cases e : y = x
      · simp [e, zN_nI (show q + 1 < 2 ^ 31 by omega)]
      · simp [e]
        repeat rw [if_neg (by omega)]
    refine ⟨fun y hy => ?_, ?_, ?_, ?_, sgS hl h5 (fun a k ha => ?_) (fun a k ha => ?_)⟩
    · obtain ⟨g1, g2, g3, g4⟩ := h1 y hy
      obtain ⟨w1, w2⟩ := hq y hy
      rw [eB]
      by_cases e : y = x
      · subst e
        rw [if_pos rfl]
        unfold sPut mPutT
        refine ⟨by simp only [zw_at]; simp, fun i hi => ?_, ?_, ?_⟩
        · by_cases ei : i = q
          · subst ei
            simp only [zw_at]
            simp
            repeat rw [if_neg (by omega)]
            simp
            exact fun _ h9 => absurd h9 (by omega)
          · have g5 := g2 i (by omega)
            simp only [zw_at]
            simp [ei]
            repeat rw [if_neg (by omega)]
            exact g5
        · simp only [zw_at]
          simp
        · simp only [zw_at]
          simp
          repeat rw [if_neg (by omega)]
          exact g4
      · rw [if_neg e]
        unfold sPut mPutT
        refine ⟨?_, fun i hi => ?_, ?_, ?_⟩
        · simp only [zw_at]
          simp [e]
          repeat rw [if_neg (by omega)]
          exact g1
        · have g5 := g2 i hi
          simp only [zw_at]
          repeat rw [if_neg (by omega)]
          exact g5
        · simp only [zw_at]
          repeat rw [if_neg (by omega)]
          rw [g3]
          by_cases e0 : mTk9 B y = 0
          · rw [if_pos e0, if_pos e0]
          · rw [if_neg e0, if_neg e0]
            repeat rw [if_neg (by omega)]
        · simp only [zw_at]
          repeat rw [if_neg (by omega)]
          exact g4
    · unfold sPut mPutT
      simp only [zw_at]
      repeat rw [if_neg (by omega)]
      exact h2
    · unfold sPut mPutT
      simp only [zw_at]
      repeat rw [if_neg (by omega)]
      exact h3
    · unfold sPut mPutT
      simp only [zw_at]
      repeat rw [if_neg (by omega)]
      exact h4
    · unfold sPut
      simp only [zw_at]
      repeat rw [if_neg (by omega)]
    · unfold mFrS at ha
      unfold mPutT
      simp only [zw_at]
      repeat rw [if_neg (by omega)]
end zSign
