section zOrd
-- what the reference lays aside, and back
theorem mLay_F {c p : Nat} (hc : c ≠ 328 ∧ c ≠ 300) {M : zM} : ∀ k, (∀ j, j < k → (mLay c p false k M).1 328 (p + j) = M.1 c j) ∧ ∀ a j, ¬ (a = 300 ∧ j = 28) → ¬ (a = 328 ∧ p ≤ j ∧ j < p + k) → (mLay c p false k M).1 a j = M.1 a j
  | 0 => ⟨fun j h => absurd h (Nat.not_lt_zero _), fun _ _ _ _ => rfl⟩
  | k + 1 => by
    obtain ⟨h1, h2⟩ := mLay_F (p := p) hc (M := M) k
    have e : mLay c p false (k + 1) M = zw (zw (mLay c p false k M) 328 (p + k) ((mLay c p false k M).1 c k)) 300 28 (nI (p + k + 1)) := rfl
    rw [e]
    generalize mLay c p false k M = D at *
    refine ⟨fun j hj => ?_, fun a j g1 g2 => by rw [zw_ne (by omega), zw_ne (by omega)]; exact h2 a j g1 (by omega)⟩
    rw [zw_ne (by omega)]
    by_cases ej : j = k
    · subst ej
      rw [zw_same]
      exact h2 c j (by omega) (by omega)
    · rw [zw_ne (by omega)]; exact h1 j (by omega)
theorem mLay_T {c p : Nat} (hc : c ≠ 328 ∧ c ≠ 300) {M : zM} : ∀ k, (∀ j, j < k → (mLay c p true k M).1 c j = M.1 328 (p + j)) ∧ ∀ a j, ¬ (a = 300 ∧ j = 28) → ¬ (a = c ∧ j < k) → (mLay c p true k M).1 a j = M.1 a j
  | 0 => ⟨fun j h => absurd h (Nat.not_lt_zero _), fun _ _ _ _ => rfl⟩
  | k + 1 => by
    obtain ⟨h1, h2⟩ := mLay_T (p := p) hc (M := M) k
    have e : mLay c p true (k + 1) M = zw (zw (mLay c p true k M) c k ((mLay c p true k M).1 328 (p + k))) 300 28 (nI (p + k + 1)) := rfl
    rw [e]
    generalize mLay c p true k M = D at *
    refine ⟨fun j hj => ?_, fun a j g1 g2 => by rw [zw_ne (by omega), zw_ne (by omega)]; exact h2 a j g1 (by omega)⟩
    rw [zw_ne (by omega)]
    by_cases ej : j = k
    · subst ej
      rw [zw_same]
      exact h2 328 (p + j) (by omega) (by omega)
    · rw [zw_ne (by omega)]; exact h1 j (by omega)
theorem mLayQ_F {c p : Nat} (hc : c ≠ 328 ∧ c ≠ 300) {M : zM} : ∀ k, (∀ j, j < k → (mLayQ c p false k M).1 328 (p + j) = if M.1 c j = 0 then nI 0 else nI 1) ∧ ∀ a j, ¬ (a = 300 ∧ j = 28) → ¬ (a = 328 ∧ p ≤ j ∧ j < p + k) → (mLayQ c p false k M).1 a j = M.1 a j
  | 0 => ⟨fun j h => absurd h (Nat.not_lt_zero _), fun _ _ _ _ => rfl⟩
  | k + 1 => by
    obtain ⟨h1, h2⟩ := mLayQ_F (p := p) hc (M := M) k
    have e : mLayQ c p false (k + 1) M = zw (zw (mLayQ c p false k M) 328 (p + k) (if (mLayQ c p false k M).1 c k = 0 then nI 0 else nI 1)) 300 28 (nI (p + k + 1)) := rfl
    rw [e]
    generalize mLayQ c p false k M = D at *
    refine ⟨fun j hj => ?_, fun a j g1 g2 => by rw [zw_ne (by omega), zw_ne (by omega)]; exact h2 a j g1 (by omega)⟩
    rw [zw_ne (by omega)]
    by_cases ej : j = k
    · subst ej
      rw [zw_same, h2 c j (by omega) (by omega)]
    · rw [zw_ne (by omega)]; exact h1 j (by omega)
theorem mLayQ_T {c p : Nat} (hc : c ≠ 328 ∧ c ≠ 300) {M : zM} : ∀ k, (∀ j, j < k → (mLayQ c p true k M).1 c j = if M.1 328 (p + j) = nI 1 then nI 1 else nI 0) ∧ ∀ a j, ¬ (a = 300 ∧ j = 28) → ¬ (a = c ∧ j < k) → (mLayQ c p true k M).1 a j = M.1 a j
  | 0 => ⟨fun j h => absurd h (Nat.not_lt_zero _), fun _ _ _ _ => rfl⟩
  | k + 1 => by
    obtain ⟨h1, h2⟩ := mLayQ_T (p := p) hc (M := M) k
    have e : mLayQ c p true (k + 1) M = zw (zw (mLayQ c p true k M) c k (if (mLayQ c p true k M).1 328 (p + k) = nI 1 then nI 1 else nI 0)) 300 28 (nI (p + k + 1)) := rfl
    rw [e]
    generalize mLayQ c p true k M = D at *
    refine ⟨fun j hj => ?_, fun a j g1 g2 => by rw [zw_ne (by omega), zw_ne (by omega)]; exact h2 a j g1 (by omega)⟩
    rw [zw_ne (by omega)]
    by_cases ej : j = k
    · subst ej
      rw [zw_same, h2 328 (p + j) (by omega) (by omega)]
    · rw [zw_ne (by omega)]; exact h1 j (by omega)
/-- what of one member is laid aside -/
def zSv (m : Nat) (D M : zM) : Prop := (∀ j, j < 57 → D.1 328 (13 + 119 * m + j) = M.1 (1000 + 16 * 20 + m) j) ∧ (∀ j, j < 5 → D.1 328 (13 + 119 * m + 57 + j) = M.1 (1000 + 16 * 22 + m) j) ∧ ∀ j, j < 57 → D.1 328 (13 + 119 * m + 62 + j) = if M.1 (1000 + 16 * 21 + m) j = 0 then nI 0 else nI 1
theorem mLayM_F {m : Nat} {M : zM} : zSv m (mLayM false m M) M ∧ ∀ a j, ¬ (a = 300 ∧ j = 28) → ¬ (a = 328 ∧ 13 + 119 * m ≤ j ∧ j < 13 + 119 * (m + 1)) → (mLayM false m M).1 a j = M.1 a j := by
  unfold mLayM
  obtain ⟨f1, f2⟩ := mLay_F (c := 1000 + 16 * 20 + m) (p := 13 + 119 * m) ⟨by omega, by omega⟩ (M := M) 57
  generalize mLay (1000 + 16 * 20 + m) (13 + 119 * m) false 57 M = D1 at *
  obtain ⟨g1, g2⟩ := mLay_F (c := 1000 + 16 * 22 + m) (p := 13 + 119 * m + 57) ⟨by omega, by omega⟩ (M := D1) 5
  generalize mLay (1000 + 16 * 22 + m) (13 + 119 * m + 57) false 5 D1 = D2 at *
  obtain ⟨h1, h2⟩ := mLayQ_F (c := 1000 + 16 * 21 + m) (p := 13 + 119 * m + 62) ⟨by omega, by omega⟩ (M := D2) 57
  generalize mLayQ (1000 + 16 * 21 + m) (13 + 119 * m + 62) false 57 D2 = D3 at *
  refine ⟨⟨fun j hj => ?_, fun j hj => ?_, fun j hj => ?_⟩, fun a j q1 q2 => by rw [h2 a j q1 (by omega), g2 a j q1 (by omega)]; exact f2 a j q1 (by omega)⟩
  · rw [h2 _ _ (by omega) (by omega), g2 _ _ (by omega) (by omega)]; exact f1 j hj
  · rw [h2 _ _ (by omega) (by omega), g1 j hj]; exact f2 _ _ (by omega) (by omega)
  · rw [h1 j hj, g2 _ _ (by omega) (by omega), f2 _ _ (by omega) (by omega)]
theorem mLayM_T {m : Nat} {M : zM} : ((∀ j, j < 57 → (mLayM true m M).1 (1000 + 16 * 20 + m) j = M.1 328 (13 + 119 * m + j)) ∧ (∀ j, j < 5 → (mLayM true m M).1 (1000 + 16 * 22 + m) j = M.1 328 (13 + 119 * m + 57 + j)) ∧ ∀ j, j < 57 → (mLayM true m M).1 (1000 + 16 * 21 + m) j = if M.1 328 (13 + 119 * m + 62 + j) = nI 1 then nI 1 else nI 0) ∧ ∀ a j, ¬ (a = 300 ∧ j = 28) → a ≠ 1000 + 16 * 20 + m → a ≠ 1000 + 16 * 21 + m → a ≠ 1000 + 16 * 22 + m → (mLayM true m M).1 a j = M.1 a j := by
  unfold mLayM
  obtain ⟨f1, f2⟩ := mLay_T (c := 1000 + 16 * 20 + m) (p := 13 + 119 * m) ⟨by omega, by omega⟩ (M := M) 57
  generalize mLay (1000 + 16 * 20 + m) (13 + 119 * m) true 57 M = D1 at *
  obtain ⟨g1, g2⟩ := mLay_T (c := 1000 + 16 * 22 + m) (p := 13 + 119 * m + 57) ⟨by omega, by omega⟩ (M := D1) 5
  generalize mLay (1000 + 16 * 22 + m) (13 + 119 * m + 57) true 5 D1 = D2 at *
  obtain ⟨h1, h2⟩ := mLayQ_T (c := 1000 + 16 * 21 + m) (p := 13 + 119 * m + 62) ⟨by omega, by omega⟩ (M := D2) 57
  generalize mLayQ (1000 + 16 * 21 + m) (13 + 119 * m + 62) true 57 D2 = D3 at *
  refine ⟨⟨fun j hj => ?_, fun j hj => ?_, fun j hj => ?_⟩, fun a j q1 q2 q3 q4 => by rw [h2 a j q1 (by omega), g2 a j q1 (by omega)]; exact f2 a j q1 (by omega)⟩
  · rw [h2 _ _ (by omega) (by omega), g2 _ _ (by omega) (by omega)]; exact f1 j hj
  · rw [h2 _ _ (by omega) (by omega), g1 j hj]; exact f2 _ _ (by omega) (by omega)
  · rw [h1 j hj, g2 _ _ (by omega) (by omega), f2 _ _ (by omega) (by omega)]
theorem mFew_at {M : zM} : ∀ i, (∀ k, k < i → (mFew M i).1 330 k = mNow M k) ∧ ∀ a j, ¬ (a = 300 ∧ j = 28) → a ≠ 330 → (mFew M i).1 a j = M.1 a j
  | 0 => ⟨fun k h => absurd h (Nat.not_lt_zero _), fun a j g1 g2 => by show (zw M 300 28 (nI 0)).1 a j = _; rw [zw_ne (by omega)]⟩
  | i + 1 => by
    obtain ⟨h1, h2⟩ := mFew_at (M := M) i
    have e : mFew M (i + 1) = zw (mFew M i) 330 i (mNow M i) := rfl
    rw [e]
    refine ⟨fun k hk => ?_, fun a j g1 g2 => by rw [zw_ne (by omega)]; exact h2 a j g1 g2⟩
    by_cases ek : k = i
    · subst ek; exact zw_same
    · rw [zw_ne (by omega)]; exact h1 k (by omega)
theorem mFewB_6 {M : zM} : (mFewB M).1 300 17 = M.1 330 0 ∧ (mFewB M).1 300 18 = M.1 330 1 ∧ (mFewB M).1 300 19 = M.1 330 2 ∧ (mFewB M).1 300 24 = M.1 330 3 ∧ (mFewB M).1 300 25 = M.1 330 4 ∧ (mFewB M).1 300 26 = M.1 330 5 := by
  unfold mFewB
  refine ⟨?_, ?_, ?_, ?_, ?_, zw_same⟩
  · rw [zw_ne (by omega), zw_ne (by omega), zw_ne (by omega), zw_ne (by omega), zw_ne (by omega)]; exact zw_same
  · rw [zw_ne (by omega), zw_ne (by omega), zw_ne (by omega), zw_ne (by omega)]; exact zw_same
  · rw [zw_ne (by omega), zw_ne (by omega), zw_ne (by omega)]; exact zw_same
  · rw [zw_ne (by omega), zw_ne (by omega)]; exact zw_same
  · rw [zw_ne (by omega)]; exact zw_same
theorem mFewB_o {M : zM} {a j : Nat} (h : ¬ (a = 300 ∧ ((17 ≤ j ∧ j ≤ 19) ∨ (24 ≤ j ∧ j ≤ 26)))) : (mFewB M).1 a j = M.1 a j := by
  unfold mFewB
  rw [zw_ne (by omega), zw_ne (by omega), zw_ne (by omega), zw_ne (by omega), zw_ne (by omega), zw_ne (by omega)]
theorem mLays_F (M : zM) : (∀ k, k < 6 → (mLays false M).1 328 k = mNow M k) ∧ (∀ j, j < 7 → (mLays false M).1 328 (6 + j) = M.1 324 j) ∧ (∀ m, m < 7 → zSv m (mLays false M) M) ∧ ∀ a j, ¬ (a = 300 ∧ j = 28) → a ≠ 328 → a ≠ 330 → (mLays false M).1 a j = M.1 a j := by
  unfold mLays mLayH
  obtain ⟨f1, f2⟩ := mFew_at (M := M) 6
  generalize mFew M 6 = D1 at *
  obtain ⟨g1, g2⟩ := mLay_F (c := 330) (p := 0) ⟨by omega, by omega⟩ (M := D1) 6
  generalize mLay 330 0 false 6 D1 = D2 at *
  have q330 : ∀ k, k < 6 → D2.1 330 k = mNow M k := fun k hk => by rw [g2 _ _ (by omega) (by omega)]; exact f1 k hk
  have q328 : ∀ k, k < 6 → D2.1 328 k = mNow M k := fun k hk => by
    have h9 := g1 k hk
    rw [Nat.zero_add] at h9
    rw [h9]
    exact f1 k hk
  have q0 : ∀ a j, ¬ (a = 300 ∧ j = 28) → a ≠ 328 → a ≠ 330 → D2.1 a j = M.1 a j := fun a j h1 h2 h3 => by rw [g2 a j h1 (by omega)]; exact f2 a j h1 h3
  have q1 : ∀ a j, ¬ (a = 300 ∧ j = 28) → a ≠ 328 → a ≠ 330 → (mFewB D2).1 a j = M.1 a j := fun a j h1 h2 h3 => by
    by_cases e : a = 300 ∧ ((17 ≤ j ∧ j ≤ 19) ∨ (24 ≤ j ∧ j ≤ 26))
    · obtain ⟨b1, b2, b3, b4, b5, b6⟩ := mFewB_6 (M := D2)
      obtain ⟨rfl, he⟩ := e
      rcases (show j = 17 ∨ j = 18 ∨ j = 19 ∨ j = 24 ∨ j = 25 ∨ j = 26 by omega) with rfl | rfl | rfl | rfl | rfl | rfl
      · rw [b1, q330 0 (by decide)]; rfl
      · rw [b2, q330 1 (by decide)]; rfl
      · rw [b3, q330 2 (by decide)]; rfl
      · rw [b4, q330 3 (by decide)]; rfl
      · rw [b5, q330 4 (by decide)]; rfl
      · rw [b6, q330 5 (by decide)]; rfl
    · rw [mFewB_o e]; exact q0 a j h1 h2 h3
  have q2 : ∀ k, k < 6 → (mFewB D2).1 328 k = mNow M k := fun k hk => by rw [mFewB_o (by omega)]; exact q328 k hk
  generalize mFewB D2 = D3 at *
  obtain ⟨h1, h2⟩ := mLay_F (c := 324) (p := 6) ⟨by omega, by omega⟩ (M := D3) 7
  generalize mLay 324 6 false 7 D3 = D4 at *
  have r0 : ∀ a j, ¬ (a = 300 ∧ j = 28) → a ≠ 328 → a ≠ 330 → D4.1 a j = M.1 a j := fun a j z1 z2 z3 => by rw [h2 a j z1 (by omega)]; exact q1 a j z1 z2 z3
  have key : ∀ m, m ≤ 7 → (∀ j, j < 13 → (zfor (mLayM false) m D4).1 328 j = D4.1 328 j) ∧ (∀ e, e < m → zSv e (zfor (mLayM false) m D4) M) ∧ ∀ a j, ¬ (a = 300 ∧ j = 28) → a ≠ 328 → a ≠ 330 → (zfor (mLayM false) m D4).1 a j = M.1 a j := by
    intro m
    induction m with
    | zero => exact fun _ => ⟨fun _ _ => rfl, fun e h => absurd h (Nat.not_lt_zero _), r0⟩
    | succ m ih =>
      intro hm
      obtain ⟨k1, k2, k3⟩ := ih (by omega)
      show (∀ j, j < 13 → (mLayM false m (zfor (mLayM false) m D4)).1 328 j = D4.1 328 j) ∧ (∀ e, e < m + 1 → zSv e (mLayM false m (zfor (mLayM false) m D4)) M) ∧ ∀ a j, ¬ (a = 300 ∧ j = 28) → a ≠ 328 → a ≠ 330 → (mLayM false m (zfor (mLayM false) m D4)).1 a j = M.1 a j
      generalize zfor (mLayM false) m D4 = E at *
      obtain ⟨⟨s1, s2, s3⟩, s4⟩ := mLayM_F (m := m) (M := E)
      refine ⟨fun j hj => by rw [s4 _ _ (by omega) (by omega)]; exact k1 j hj, fun e he => ?_, fun a j z1 z2 z3 => by rw [s4 a j z1 (by omega)]; exact k3 a j z1 z2 z3⟩
      by_cases ee : e = m
      · subst ee
        exact ⟨fun j hj => by rw [s1 j hj]; exact k3 _ _ (by omega) (by omega) (by omega), fun j hj => by rw [s2 j hj]; exact k3 _ _ (by omega) (by omega) (by omega), fun j hj => by rw [s3 j hj, k3 _ _ (by omega) (by omega) (by omega)]⟩
      · obtain ⟨z1, z2, z3⟩ := k2 e (by omega)
        exact ⟨fun j hj => by rw [s4 _ _ (by omega) (by omega)]; exact z1 j hj, fun j hj => by rw [s4 _ _ (by omega) (by omega)]; exact z2 j hj, fun j hj => by rw [s4 _ _ (by omega) (by omega)]; exact z3 j hj⟩
  obtain ⟨k1, k2, k3⟩ := key 7 (Nat.le_refl 7)
  refine ⟨fun k hk => ?_, fun j hj => ?_, k2, k3⟩
  · rw [k1 k (by omega), h2 _ _ (by omega) (by omega)]; exact q2 k hk
  · rw [k1 (6 + j) (by omega), h1 j hj]; exact q1 _ _ (by omega) (by omega) (by omega)
theorem mLays_T (E : zM) : ((mLays true E).1 300 17 = E.1 328 0 ∧ (mLays true E).1 300 18 = E.1 328 1 ∧ (mLays true E).1 300 19 = E.1 328 2 ∧ (mLays true E).1 300 24 = E.1 328 3 ∧ (mLays true E).1 300 25 = E.1 328 4 ∧ (mLays true E).1 300 26 = E.1 328 5) ∧ (∀ j, j < 7 → (mLays true E).1 324 j = E.1 328 (6 + j)) ∧ ∀ m, m < 7 → (∀ j, j < 57 → (mLays true E).1 (1000 + 16 * 20 + m) j = E.1 328 (13 + 119 * m + j)) ∧ (∀ j, j < 5 → (mLays true E).1 (1000 + 16 * 22 + m) j = E.1 328 (13 + 119 * m + 57 + j)) ∧ ∀ j, j < 57 → (mLays true E).1 (1000 + 16 * 21 + m) j = if E.1 328 (13 + 119 * m + 62 + j) = nI 1 then nI 1 else nI 0 := by
  unfold mLays mLayH
  obtain ⟨f1, f2⟩ := mFew_at (M := E) 6
  generalize mFew E 6 = D1 at *
  obtain ⟨g1, g2⟩ := mLay_T (c := 330) (p := 0) ⟨by omega, by omega⟩ (M := D1) 6
  generalize mLay 330 0 true 6 D1 = D2 at *
  have q330 : ∀ k, k < 6 → D2.1 330 k = E.1 328 k := fun k hk => by
    rw [g1 k hk, Nat.zero_add]
    exact f2 _ _ (by omega) (by omega)
  have q328 : ∀ j, D2.1 328 j = E.1 328 j := fun j => by rw [g2 _ _ (by omega) (by omega)]; exact f2 _ _ (by omega) (by omega)
  obtain ⟨b1, b2, b3, b4, b5, b6⟩ := mFewB_6 (M := D2)
  have c328 : ∀ j, (mFewB D2).1 328 j = E.1 328 j := fun j => by rw [mFewB_o (by omega)]; exact q328 j
  rw [q330 0 (by decide)] at b1
  rw [q330 1 (by decide)] at b2
  rw [q330 2 (by decide)] at b3
  rw [q330 3 (by decide)] at b4
  rw [q330 4 (by decide)] at b5
  rw [q330 5 (by decide)] at b6
  generalize mFewB D2 = D3 at *
  obtain ⟨h1, h2⟩ := mLay_T (c := 324) (p := 6) ⟨by omega, by omega⟩ (M := D3) 7
  generalize mLay 324 6 true 7 D3 = D4 at *
  have key : ∀ m, m ≤ 7 → (∀ e, e < m → (∀ j, j < 57 → (zfor (mLayM true) m D4).1 (1000 + 16 * 20 + e) j = E.1 328 (13 + 119 * e + j)) ∧ (∀ j, j < 5 → (zfor (mLayM true) m D4).1 (1000 + 16 * 22 + e) j = E.1 328 (13 + 119 * e + 57 + j)) ∧ ∀ j, j < 57 → (zfor (mLayM true) m D4).1 (1000 + 16 * 21 + e) j = if E.1 328 (13 + 119 * e + 62 + j) = nI 1 then nI 1 else nI 0) ∧ ∀ a j, ¬ (a = 300 ∧ j = 28) → ¬ (1320 ≤ a ∧ a < 1368) → (zfor (mLayM true) m D4).1 a j = D4.1 a j := by
    intro m
    induction m with
    | zero => exact fun _ => ⟨fun e h => absurd h (Nat.not_lt_zero _), fun _ _ _ _ => rfl⟩
    | succ m ih =>
      intro hm
      obtain ⟨k1, k2⟩ := ih (by omega)
      show (∀ e, e < m + 1 → (∀ j, j < 57 → (mLayM true m (zfor (mLayM true) m D4)).1 (1000 + 16 * 20 + e) j = E.1 328 (13 + 119 * e + j)) ∧ (∀ j, j < 5 → (mLayM true m (zfor (mLayM true) m D4)).1 (1000 + 16 * 22 + e) j = E.1 328 (13 + 119 * e + 57 + j)) ∧ ∀ j, j < 57 → (mLayM true m (zfor (mLayM true) m D4)).1 (1000 + 16 * 21 + e) j = if E.1 328 (13 + 119 * e + 62 + j) = nI 1 then nI 1 else nI 0) ∧ ∀ a j, ¬ (a = 300 ∧ j = 28) → ¬ (1320 ≤ a ∧ a < 1368) → (mLayM true m (zfor (mLayM true) m D4)).1 a j = D4.1 a j
      generalize zfor (mLayM true) m D4 = D5 at *
      obtain ⟨⟨s1, s2, s3⟩, s4⟩ := mLayM_T (m := m) (M := D5)
      have e328 : ∀ j, D5.1 328 j = E.1 328 j := fun j => by rw [k2 _ _ (by omega) (by omega), h2 _ _ (by omega) (by omega)]; exact c328 j
      refine ⟨fun e he => ?_, fun a j z1 z2 => by rw [s4 a j z1 (by omega) (by omega) (by omega)]; exact k2 a j z1 z2⟩
      by_cases ee : e = m
      · subst ee
        exact ⟨fun j hj => by rw [s1 j hj]; exact e328 _, fun j hj => by rw [s2 j hj]; exact e328 _, fun j hj => by rw [s3 j hj, e328]⟩
      · obtain ⟨z1, z2, z3⟩ := k1 e (by omega)
        exact ⟨fun j hj => by rw [s4 _ _ (by omega) (by omega) (by omega) (by omega)]; exact z1 j hj, fun j hj => by rw [s4 _ _ (by omega) (by omega) (by omega) (by omega)]; exact z2 j hj, fun j hj => by rw [s4 _ _ (by omega) (by omega) (by omega) (by omega)]; exact z3 j hj⟩
  obtain ⟨k1, k2⟩ := key 7 (Nat.le_refl 7)
  have hk3 : ∀ j, j ≠ 28 → (zfor (mLayM true) 7 D4).1 300 j = D3.1 300 j := fun j hj => by rw [k2 _ _ (by omega) (by omega), h2 _ _ (by omega) (by omega)]
  refine ⟨⟨by rw [hk3 _ (by decide)]; exact b1, by rw [hk3 _ (by decide)]; exact b2, by rw [hk3 _ (by decide)]; exact b3, by rw [hk3 _ (by decide)]; exact b4, by rw [hk3 _ (by decide)]; exact b5, by rw [hk3 _ (by decide)]; exact b6⟩, fun j hj => ?_, k1⟩
  rw [k2 _ _ (by omega) (by omega), h1 j hj]
  exact c328 _
/-- the latest trial lies again as it was -/
def zBk (M D : zM) : Prop := (∀ k, ((17 ≤ k ∧ k ≤ 19) ∨ (24 ≤ k ∧ k ≤ 26)) → D.1 300 k = M.1 300 k) ∧ (∀ j, j < 7 → D.1 324 j = M.1 324 j) ∧ ∀ m, m < 7 → (∀ j, j < 57 → D.1 (1000 + 16 * 20 + m) j = M.1 (1000 + 16 * 20 + m) j) ∧ (∀ j, j < 5 → D.1 (1000 + 16 * 22 + m) j = M.1 (1000 + 16 * 22 + m) j) ∧ ∀ j, j < 57 → ∀ g : Bool, M.1 (1000 + 16 * 21 + m) j = zb g → D.1 (1000 + 16 * 21 + m) j = zb g
theorem zBk.rf {M D : zM} (h : ∀ a j, ((a = 300 ∧ ((17 ≤ j ∧ j ≤ 19) ∨ (24 ≤ j ∧ j ≤ 26))) ∨ a = 324 ∨ (1320 ≤ a ∧ a < 1368)) → D.1 a j = M.1 a j) : zBk M D :=
  ⟨fun k hk => h _ _ (by omega), fun j _ => h _ _ (by omega), fun m hm => ⟨fun j _ => h _ _ (by omega), fun j _ => h _ _ (by omega), fun j _ g hg => by rw [h _ _ (by omega)]; exact hg⟩⟩
theorem zBk.tr {M D E : zM} (h1 : zBk M D) (h2 : zBk D E) : zBk M E :=
  ⟨fun k hk => (h2.1 k hk).trans (h1.1 k hk), fun j hj => (h2.2.1 j hj).trans (h1.2.1 j hj), fun m hm => ⟨fun j hj => ((h2.2.2 m hm).1 j hj).trans ((h1.2.2 m hm).1 j hj), fun j hj => ((h2.2.2 m hm).2.1 j hj).trans ((h1.2.2 m hm).2.1 j hj), fun j hj g hg => (h2.2.2 m hm).2.2 j hj g ((h1.2.2 m hm).2.2 j hj g hg)⟩⟩
variable {n c t lc : Nat} {cn : Nat → Nat} {mn : Nat → Option Nat} {lb : Nat → Bool}
theorem mOrd_back (hc7 : c < 7) (hn7 : n ≤ 7) (B : zM) : zBk B (mOrd c n t mn B) := by
  unfold mOrd mOg
  obtain ⟨f1, f2, f3, f4⟩ := mLays_F B
  have hK := (mGo_K (k := t + 1) (t := t) hc7 hn7 mn (mLays false B)).1
  obtain ⟨⟨b1, b2, b3, b4, b5, b6⟩, g2, g3⟩ := mLays_T (mGo c n t mn (t + 1) (mLays false B))
  have e328 : ∀ j, (mGo c n t mn (t + 1) (mLays false B)).1 328 j = (mLays false B).1 328 j := fun j => hK _ _ (by unfold mFrB; omega)
  refine ⟨fun k hk => ?_, fun j hj => by rw [g2 j hj, e328]; exact f2 j hj, fun m hm => ⟨fun j hj => by rw [(g3 m hm).1 j hj, e328]; exact (f3 m hm).1 j hj, fun j hj => by rw [(g3 m hm).2.1 j hj, e328]; exact (f3 m hm).2.1 j hj, fun j hj g hg => ?_⟩⟩
  · rcases (show k = 17 ∨ k = 18 ∨ k = 19 ∨ k = 24 ∨ k = 25 ∨ k = 26 by omega) with rfl | rfl | rfl | rfl | rfl | rfl
    · rw [b1, e328, f1 0 (by decide)]; rfl
    · rw [b2, e328, f1 1 (by decide)]; rfl
    · rw [b3, e328, f1 2 (by decide)]; rfl
    · rw [b4, e328, f1 3 (by decide)]; rfl
    · rw [b5, e328, f1 4 (by decide)]; rfl
    · rw [b6, e328, f1 5 (by decide)]; rfl
  · rw [(g3 m hm).2.2 j hj, e328, (f3 m hm).2.2 j hj, hg]
    cases g <;> decide
theorem mRs_same57 {B B2 : zM} {m cut : Nat} (hn7 : n ≤ 7) (hcut : cut ≤ 3) (h : ∀ j, j < 57 → B2.1 (1000 + 16 * 20 + m) j = B.1 (1000 + 16 * 20 + m) j) (hd : B2.1 300 24 = B.1 300 24) : ∀ k p, p < 57 → mRs B2 n c m cut k p = mRs B n c m cut k p
  | 0, p, hp => h p hp
  | k + 1, p, hp => by
    show (if cut ≤ zlen p ∨ (0 < p ∧ zlast c p = m) then B2.1 (1000 + 16 * 20 + m) p else mPick (mIsIn c p) (fun q => mRs B2 n c m cut k (zlong p q)) n (B2.1 300 24)) = (if cut ≤ zlen p ∨ (0 < p ∧ zlast c p = m) then B.1 (1000 + 16 * 20 + m) p else mPick (mIsIn c p) (fun q => mRs B n c m cut k (zlong p q)) n (B.1 300 24))
    by_cases e : cut ≤ zlen p ∨ (0 < p ∧ zlast c p = m)
    · rw [if_pos e, if_pos e]; exact h p hp
    · rw [if_neg e, if_neg e, hd]
      have hp8 : p < 8 := zlen_8 (by
        have : ¬ cut ≤ zlen p := fun h => e (Or.inl h)
        omega)
      exact mPick_congr (fun q hq => mRs_same57 hn7 hcut h hd k (zlong p q) (zlong_lt hp8 (by omega)))
theorem zIt1_back {M D : zM} (h : zIt1 M) (hb : zBk M D) (h60 : ∀ a j, 60 ≤ a → a ≤ 80 → D.1 a j = M.1 a j) (h9 : D.1 300 9 = M.1 300 9) (h10 : D.1 300 10 = M.1 300 10) : zIt1 D := by
  obtain ⟨n, t, c, a1, a2, a3, a4, a5, a6, a7, a8, a9, t1, t2, t3, t4, t5, t6, t7, t8, t9, u1, u2, u3, u4, u5⟩ := h
  obtain ⟨b1, b2, b3⟩ := hb
  have hR : ∀ m, m < n → ∀ p, p < 57 → mRs D n c m (t + 1) 2 p = mRs M n c m (t + 1) 2 p := fun m hm p hp => mRs_same57 a1.2 (by omega) (fun j hj => (b3 m (by omega)).1 j hj) (b1 24 (by omega)) 2 p hp
  refine ⟨n, t, c, a1, a2, a3, h9.trans a4, h10.trans a5, by rw [h60 _ _ (by omega) (by omega)]; exact a6, by rw [b1 17 (by omega)]; exact a7, by rw [h60 _ _ (by omega) (by omega)]; exact a8, by rw [h60 _ _ (by omega) (by omega)]; exact a9, fun p hp => by rw [h60 _ _ (by omega) (by omega)]; exact t1 p hp, ?_, ?_, ?_, fun s hs => ?_, fun m p hm hp hp2 => ?_, fun m hm => ?_, fun m hm hmc => ⟨?_, ?_⟩, fun m hm => ?_, ?_, fun m hm => ?_, ?_, ?_, fun m hm q hq b hb1 hb2 => ?_⟩
  · rw [h60 _ _ (by omega) (by omega), b1 24 (by omega)]; exact t2
  · rw [h60 _ _ (by omega) (by omega), b1 18 (by omega)]; exact t3
  · rw [h60 _ _ (by omega) (by omega), b1 19 (by omega)]; exact t4
  · rw [h60 _ _ (by omega) (by omega), b2 s (by omega)]; exact t5 s hs
  · obtain ⟨q1, q2, ⟨g, q3⟩, q4⟩ := t6 m p hm hp hp2
    have hfl := (b3 m (by omega)).2.2 p hp g q3
    refine ⟨by rw [h60 _ _ (by omega) (by omega), (b3 m (by omega)).1 p hp]; exact q1, by rw [h60 _ _ (by omega) (by omega), hfl]; exact q2.trans q3, ⟨g, hfl⟩, by rw [h60 _ _ (by omega) (by omega), hR m hm p hp]; exact q4⟩
  · rw [h60 _ _ (by omega) (by omega), t7 m hm]
    congr 1
    refine zcnt_congr 57 (fun p hp => ?_)
    cases hh : mHas n c t m p with
    | false => rfl
    | true =>
      obtain ⟨-, -, ⟨g, q3⟩, -⟩ := t6 m p hm hp hh
      rw [q3, (b3 m (by omega)).2.2 p hp g q3]
  · rw [h60 _ _ (by omega) (by omega), (b3 m (by omega)).2.1 _ (by omega)]; exact (t8 m hm hmc).1
  · obtain ⟨s, q1, q2, q3⟩ := (t8 m hm hmc).2
    have hrow : ∀ q, q < 5 → D.1 (1000 + 16 * 22 + m) q = M.1 (1000 + 16 * 22 + m) q := fun q hq => (b3 m (by omega)).2.1 q hq
    have hen : ∀ q, q < 5 → (enB t D m q ↔ enB t M m q) := fun q hq => by
      unfold enB
      rw [hrow q hq]
    refine ⟨s, by rw [h60 _ _ (by omega) (by omega)]; exact q1, q2, ?_⟩
    rcases q3 with ⟨g1, g2⟩ | ⟨g1, g2, g3, g4⟩
    · exact Or.inl ⟨g1, fun q z1 z2 => by rw [hen q (by omega)]; exact g2 q z1 z2⟩
    · exact Or.inr ⟨g1, g2, (hen s (by omega)).mpr g3, fun q z1 z2 => by rw [hen q (by omega)]; exact g4 q z1 z2⟩
  · rw [h60 _ _ (by omega) (by omega), t9 m hm]
    unfold mDec
    by_cases e : m = c
    · rw [if_pos e, if_pos e, b1 26 (by omega)]
    · rw [if_neg e, if_neg e]
      exact (hR m hm 0 (by decide)).symm
  · rw [h60 _ _ (by omega) (by omega), b1 26 (by omega)]; exact u1
  · rw [h60 _ _ (by omega) (by omega), b1 25 (by omega)]; exact u2 m hm
  · rw [h60 _ _ (by omega) (by omega)]; exact u3
  · rw [h60 _ _ (by omega) (by omega)]; exact u4
  · rw [(b3 m (by omega)).2.1 q hq]; exact u5 m hm q hq b hb1 hb2
theorem zInv.back {M D : zM} (h : zInv M) (hb : zBk M D) (H : ∀ a j, (a = 0 ∨ a = 302 ∨ a = 20 ∨ a = 24 ∨ a = 40 ∨ a = 45 ∨ a = 50 ∨ (60 ≤ a ∧ a ≤ 80) ∨ (180 ≤ a ∧ a ≤ 208) ∨ (a = 300 ∧ (j = 2 ∨ j = 5 ∨ j = 9 ∨ j = 10 ∨ j = 11)) ∨ a = 309 ∨ a = 313 ∨ a = 1208 ∨ 3100 ≤ a) → D.1 a j = M.1 a j) : zInv D := by
  obtain ⟨hg, hc, hr, hp, hv, ht⟩ := h
  refine ⟨zIg_same hg (H _ _ (by omega)) (H _ _ (by omega)) (H _ _ (by omega)) (H _ _ (by omega)) (H _ _ (by omega)) (H _ _ (by omega)) (fun j => ⟨H _ _ (by omega), H _ _ (by omega)⟩), ⟨?_, ?_⟩, zIr_same hr (fun c k h => H c k (by omega)), zIp_same hp (H _ _ (by omega)) (H _ _ (by omega)) (H _ _ (by omega)) (H _ _ (by omega)) (fun a k h1 h2 => H a k (by omega)) (fun k => H _ _ (by omega)) (fun a k h => H a k (by omega)), mlV_of hv (fun a k h => H a k (by omega)), ?_⟩
  · rw [H 0 10 (by omega), H 302 0 (by omega)]; exact hc.1
  · rw [H 0 11 (by omega), H 302 1 (by omega)]; exact hc.2
  · rcases ht with h | h
    · exact Or.inl (zIt0_same h (fun a k h1 h2 => H a k (by omega)) (fun k h1 h2 => hb.1 k (by omega)))
    · exact Or.inr (zIt1_back h hb (fun a j h1 h2 => H a j (by omega)) (H _ _ (by omega)) (H _ _ (by omega)))
/-- a trial in thought, by both -/
theorem ordPlay (hn : 3 ≤ n ∧ n ≤ 7) (hc : c < n) (ht : t ≤ 2) (hl : 180 ≤ lc ∧ lc ≤ 200) {A B : zM} (hS : zS lc cn mn lb A B) (hv : ∀ j, j < 7 → A.1 45 j = B.1 313 j) : orDone 90 lc n c t cn mn (oPlay 90 40 lc n t c cn A) (mOg c n t mn B) := by
  have hF := (mLays_O false B).1
  unfold mOg
  exact (orPlay (o := 90) (g := 40) (lc := lc) (t := t) (mn := mn) (A := A) (B := mLays false B) ⟨by omega, by omega, by omega⟩ hn hc ht (zWd.keep (A := A) (B := B) hS.1 (fun _ _ _ _ => rfl) (fun a k h => hF a k (by unfold mFrO; omega))) (by rw [hF _ _ (by unfold mFrO; omega)]; exact hS.2.1) (by rw [hF _ _ (by unfold mFrO; omega)]; exact hv c (by omega)) (fun m hm => by
    rw [(hS.2.2 m (by omega)).1, ← (hS.2.2 m (by omega)).2]
    unfold mLiar
    rw [hF _ _ (by unfold mFrO; omega)])).1
end zOrd
