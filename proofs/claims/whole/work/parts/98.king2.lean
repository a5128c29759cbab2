section zKing2
variable {lc n t : Nat} {cn : Nat → Nat} {mn : Nat → Option Nat} {lb : Nat → Bool}
theorem kgR.B {A B B2 : zM} (hl : 180 ≤ lc) (h : kgR lc n cn mn lb A B) (hB : ∀ a k, ¬ (343 ≤ a ∧ a ≤ 347) → B2.1 a k = B.1 a k) : kgR lc n cn mn lb A B2 :=
  ⟨by rw [hB _ _ (by omega)]; exact h.1, by rw [hB _ _ (by omega)]; exact h.2.1, kgS hl h.2.2 (fun _ _ _ => rfl) (fun b j hb => hB b j (fun e => hb (by unfold mFrK; omega)))⟩
theorem kgR.A {A B A2 : zM} (hl : 180 ≤ lc) (h : kgR lc n cn mn lb A B) (hA : ∀ a k, ¬ (143 ≤ a ∧ a ≤ 147) → A2.1 a k = A.1 a k) : kgR lc n cn mn lb A2 B :=
  ⟨by rw [hA _ _ (by omega)]; exact h.1, by rw [hA _ _ (by omega)]; exact h.2.1, kgS hl h.2.2 (fun b j hb => hA b j (by omega)) (fun _ _ _ => rfl)⟩
/-- the most frequent, with its number -/
def kgM (n : Nat) (A B : zM) (k : Nat) : Prop := ∀ i, i < k → A.1 145 i = B.1 345 i ∧ A.1 146 i = B.1 346 i
theorem kgC1 (hl : 180 ≤ lc) (hn7 : n ≤ 7) {m : Nat} (hm : m < n) {A B : zM} (h : kgR lc n cn mn lb A B) (hv : kgV n A B) (hM : kgM n A B m) : kgR lc n cn mn lb (kC1 140 40 lc n cn m A) (mPc1 n mn m B) ∧ kgV n (kC1 140 40 lc n cn m A) (mPc1 n mn m B) ∧ kgM n (kC1 140 40 lc n cn m A) (mPc1 n mn m B) (m + 1) := by
  obtain ⟨h1, h2, h3, h4, h5⟩ := kgH hl hn7 hm h hv
  unfold kC1 mPc1
  generalize kH 140 40 lc cn m n A = A1 at *
  generalize mPa mn m n B = B1 at *
  obtain ⟨⟨p1, p2⟩, p3⟩ := mPb_at (n := n) (m := m) (B := zw B1 346 m (nI 0)) hn7 zw_same n
  have e347 : (zw B1 346 m (nI 0)).1 347 = B1.1 347 := funext fun j => zw_ne (Or.inl (by decide))
  rw [e347] at p1 p2
  have ecg : ∀ i, i < n → zcnt (fun j => A1.1 144 j == A1.1 144 i) n = zcnt (fun j => B1.1 347 j == B1.1 347 i) n := fun i hi => zcnt_congr n (fun j hj => by rw [h3 j hj, h3 i hi])
  have efm : zfm (fun i => zcnt (fun j => A1.1 144 j == A1.1 144 i) n) n = zfm (fun i => zcnt (fun j => B1.1 347 j == B1.1 347 i) n) n := zfm_congr n ecg
  have hpos : 0 < (zfm (fun i => zcnt (fun j => B1.1 347 j == B1.1 347 i) n) n).2 := by
    have g1 := zfm_ge (fun i => zcnt (fun j => B1.1 347 j == B1.1 347 i) n) n 0 (by omega)
    have g2 : 0 < zcnt (fun j => B1.1 347 j == B1.1 347 0) n := zcnt_pos (m := 0) (by simp) n (by omega)
    exact Nat.lt_of_lt_of_le g2 g1
  have hval := zfm_val _ n hpos
  have hlt : (zfm (fun i => zcnt (fun j => B1.1 347 j == B1.1 347 i) n) n).1 < n := zfm_in _ n (by omega)
  have hmo : kMo (A1.1 144) n = (zfm (fun i => zcnt (fun j => B1.1 347 j == B1.1 347 i) n) n).1 := by
    unfold kMo
    rw [efm]
  show kgR lc n cn mn lb (zw (zw A1 145 m (A1.1 144 (kMo (A1.1 144) n))) 146 m (nI (zcnt (fun j => A1.1 144 j == A1.1 144 (kMo (A1.1 144) n)) n))) (mPb n m n (zw B1 346 m (nI 0))) ∧ kgV n (zw (zw A1 145 m (A1.1 144 (kMo (A1.1 144) n))) 146 m (nI (zcnt (fun j => A1.1 144 j == A1.1 144 (kMo (A1.1 144) n)) n))) (mPb n m n (zw B1 346 m (nI 0))) ∧ kgM n (zw (zw A1 145 m (A1.1 144 (kMo (A1.1 144) n))) 146 m (nI (zcnt (fun j => A1.1 144 j == A1.1 144 (kMo (A1.1 144) n)) n))) (mPb n m n (zw B1 346 m (nI 0))) (m + 1)
  rw [hmo, ecg _ hlt]
  generalize zfm (fun i => zcnt (fun j => B1.1 347 j == B1.1 347 i) n) n = z at *
  refine ⟨((h1.wA hl (by omega)).wA hl (by omega)).B hl (fun a k ha => ?_), fun i hi => ?_, fun i hi => ?_⟩
  · rw [p3 _ _ (by omega), zw_ne (Or.inl (by omega))]
  · rw [zw_ne (Or.inl (by omega)), zw_ne (Or.inl (by omega)), p3 _ _ (by omega), zw_ne (Or.inl (by omega))]; exact h2 i hi
  · by_cases ei : i = m
    · subst ei
      rw [zw_ne (Or.inl (by decide)), zw_same, zw_same, p1, p2 hpos, h3 _ hlt]
      exact ⟨rfl, by rw [← hval]⟩
    · have hM2 := hM i (by omega)
      rw [zw_ne (Or.inl (by decide)), zw_ne (Or.inr ei), zw_ne (Or.inr ei), zw_ne (Or.inl (by decide)), p3 _ _ (by omega), p3 _ _ (by omega), zw_ne (Or.inl (by decide)), zw_ne (Or.inr ei), h4 _ _ (Or.inl rfl), h4 _ _ (Or.inr rfl), h5 _ _ (Or.inl rfl), h5 _ _ (Or.inr rfl)]
      exact hM2
theorem kgC (hl : 180 ≤ lc) (hn7 : n ≤ 7) {A B : zM} (h : kgR lc n cn mn lb A B) (hv : kgV n A B) : kgR lc n cn mn lb (kC 140 40 lc n cn n A) (mPc n mn n B) ∧ kgV n (kC 140 40 lc n cn n A) (mPc n mn n B) ∧ kgM n (kC 140 40 lc n cn n A) (mPc n mn n B) n :=
  zfor_pair (R := fun k A2 B2 => kgR lc n cn mn lb A2 B2 ∧ kgV n A2 B2 ∧ kgM n A2 B2 k) (f := kC1 140 40 lc n cn) (g := mPc1 n mn) (n := n) (fun i A2 B2 hi hR => kgC1 hl hn7 hi hR.1 hR.2.1 hR.2.2) ⟨h, hv, fun i hi => absurd hi (Nat.not_lt_zero _)⟩ n (Nat.le_refl n)
theorem kgPick {x f v : Int32} {a : Nat} : (if nI a < x then v else f) = (if x ≤ nI a then f else v) := by
  by_cases h : nI a < x
  · rw [if_pos h, if_neg (Int32.not_le.mpr h)]
  · rw [if_neg h, if_pos (Int32.not_lt.mp h)]
/-- the king's round -/
theorem kgF (hl : 180 ≤ lc) (hn7 : n ≤ 7) {kg : Nat} (hkg : kg < n) {A B : zM} (h : kgR lc n cn mn lb A B) (hM : kgM n A B n) : kgR lc n cn mn lb (kF 140 40 lc n t cn kg n A) (mPd n t mn kg n B) ∧ kgM n (kF 140 40 lc n t cn kg n A) (mPd n t mn kg n B) n ∧ ∀ i, i < n → (kF 140 40 lc n t cn kg n A).1 143 i = (mPd n t mn kg n B).1 344 i := by
  refine zfor_pair (R := fun k A2 B2 => kgR lc n cn mn lb A2 B2 ∧ kgM n A2 B2 n ∧ ∀ i, i < k → A2.1 143 i = B2.1 344 i) (f := kF1 140 40 lc n t cn kg) (g := mPd1 n t mn kg) (n := n) (fun m A2 B2 hm hR => ?_) ⟨h, hM, fun i hi => absurd hi (Nat.not_lt_zero _)⟩ n (Nat.le_refl n)
  obtain ⟨r1, r2, r3⟩ := hR
  have q1 := r2 m hm
  have q2 := r2 kg hkg
  unfold kF1 mPd1 mPw
  by_cases e : m = kg
  · rw [if_pos e, if_pos e]
    refine ⟨(r1.wA hl (by omega)).wB hl (by omega), fun i hi => ?_, fun i hi => ?_⟩
    · rw [zw_ne (Or.inl (by omega)), zw_ne (Or.inl (by omega)), zw_ne (Or.inl (by omega)), zw_ne (Or.inl (by omega))]; exact r2 i hi
    · by_cases ei : i = m
      · subst ei
        rw [zw_same, zw_same, kgPick]
        show (if A2.1 146 i ≤ _ then A2.1 145 kg else A2.1 145 i) = (if B2.1 346 i ≤ _ then B2.1 345 kg else B2.1 345 i)
        rw [q1.1, q1.2, q2.1]
      · rw [zw_ne (Or.inr ei), zw_ne (Or.inr ei)]; exact r3 i (by omega)
  · rw [if_neg e, if_neg e]
    have hw : kWh lc cn 2 kg m (A2.1 (140 + 1 + 4) kg) A2 = mSay B2 mn kg 2 m (nI kg) (B2.1 (300 + 1 + 44) kg) := by
      unfold kWh
      rw [show A2.1 (140 + 1 + 4) kg = B2.1 (300 + 1 + 44) kg from q2.1]
      exact r1.2.2.1 kg 2 m _ _ (by omega)
    unfold mCried mCv
    rw [hw, show A2.1 40 2 = B2.1 300 11 from r1.2.2.2.1]
    generalize mSay B2 mn kg 2 m (nI kg) (B2.1 (300 + 1 + 44) kg) = w
    refine ⟨((kgCnt hl r1 w _).wA hl (by omega)).wB hl (by omega), fun i hi => ?_, fun i hi => ?_⟩
    · rw [zw_ne (Or.inl (by omega)), zw_ne (Or.inl (by omega)), zw_ne (Or.inl (by omega)), zw_ne (Or.inl (by omega)), kCnt_o (by omega), kCnt_o (by omega), mCt_o (by omega), mCt_o (by omega)]; exact r2 i hi
    · by_cases ei : i = m
      · subst ei
        rw [zw_same, zw_same, kgPick]
        show (if A2.1 146 i ≤ _ then _ else A2.1 145 i) = (if B2.1 346 i ≤ _ then _ else B2.1 345 i)
        rw [q1.1, q1.2]
      · rw [zw_ne (Or.inr ei), zw_ne (Or.inr ei), kCnt_o (by omega), mCt_o (by omega)]; exact r3 i (by omega)
theorem mPe_at {B : zM} : ∀ k, (∀ i, i < k → (mPe k B).1 343 i = B.1 344 i) ∧ ∀ a j, a ≠ 343 → (mPe k B).1 a j = B.1 a j
  | 0 => ⟨fun i hi => absurd hi (Nat.not_lt_zero _), fun _ _ _ => rfl⟩
  | k + 1 => by
    obtain ⟨h1, h2⟩ := mPe_at (B := B) k
    show (∀ i, i < k + 1 → (zw (mPe k B) 343 k ((mPe k B).1 344 k)).1 343 i = B.1 344 i) ∧ ∀ a j, a ≠ 343 → (zw (mPe k B) 343 k ((mPe k B).1 344 k)).1 a j = B.1 a j
    refine ⟨fun i hi => ?_, fun a j ha => ?_⟩
    · by_cases e : i = k
      · subst e; rw [zw_same]; exact h2 _ _ (by decide)
      · rw [zw_ne (Or.inr e)]; exact h1 i (by omega)
    · rw [zw_ne (Or.inl ha)]; exact h2 a j ha
theorem kgPh (hl : 180 ≤ lc) (hn7 : n ≤ 7) {kg : Nat} (hkg : kg < n) {A B : zM} (h : kgR lc n cn mn lb A B) (hv : kgV n A B) : kgR lc n cn mn lb (kPh 140 40 lc n t cn kg A) (mPhase n t mn kg B) ∧ kgV n (kPh 140 40 lc n t cn kg A) (mPhase n t mn kg B) := by
  obtain ⟨c1, c2, c3⟩ := kgC hl hn7 h hv
  obtain ⟨d1, d2, d3⟩ := kgF (t := t) hl hn7 hkg c1 c3
  unfold kPh mPhase kUn
  generalize kF 140 40 lc n t cn kg n (kC 140 40 lc n cn n A) = A2 at *
  generalize mPd n t mn kg n (mPc n mn n B) = B2 at *
  obtain ⟨e1, e2⟩ := mPe_at (B := B2) n
  refine ⟨(d1.wA hl (by omega)).B hl (fun a k ha => e2 a k (by omega)), fun i hi => ?_⟩
  rw [zw_ne (Or.inl (by omega)), e1 i hi]
  exact d3 i hi
theorem kH0_at {A : zM} : ∀ k, (∀ i, i < k → (kH0 140 40 k A).1 143 i = A.1 45 i) ∧ (kH0 140 40 k A).1 140 0 = nI 0 ∧ (kH0 140 40 k A).1 140 1 = nI 0 ∧ ∀ a j, a ≠ 143 → a ≠ 140 → (kH0 140 40 k A).1 a j = A.1 a j
  | 0 => ⟨fun i hi => absurd hi (Nat.not_lt_zero _), by show (zw (zw A 140 0 (nI 0)) 140 1 (nI 0)).1 140 0 = _; rw [zw_ne (Or.inr (by decide))]; exact zw_same, zw_same, fun a j h1 h2 => by show (zw (zw A 140 0 (nI 0)) 140 1 (nI 0)).1 a j = _; rw [zw_ne (Or.inl h2), zw_ne (Or.inl h2)]⟩
  | k + 1 => by
    obtain ⟨h1, h2, h3, h4⟩ := kH0_at (A := A) k
    show (∀ i, i < k + 1 → (zw (kH0 140 40 k A) 143 k ((kH0 140 40 k A).1 45 k)).1 143 i = A.1 45 i) ∧ (zw (kH0 140 40 k A) 143 k ((kH0 140 40 k A).1 45 k)).1 140 0 = nI 0 ∧ (zw (kH0 140 40 k A) 143 k ((kH0 140 40 k A).1 45 k)).1 140 1 = nI 0 ∧ ∀ a j, a ≠ 143 → a ≠ 140 → (zw (kH0 140 40 k A) 143 k ((kH0 140 40 k A).1 45 k)).1 a j = A.1 a j
    refine ⟨fun i hi => ?_, by rw [zw_ne (Or.inl (by decide))]; exact h2, by rw [zw_ne (Or.inl (by decide))]; exact h3, fun a j g1 g2 => by rw [zw_ne (Or.inl g1)]; exact h4 a j g1 g2⟩
    by_cases e : i = k
    · subst e; rw [zw_same]; exact h4 _ _ (by decide) (by decide)
    · rw [zw_ne (Or.inr e)]; exact h1 i (by omega)
theorem mCwn_at {B : zM} : ∀ k, (∀ i, i < k → (mCwn k B).1 343 i = B.1 313 i) ∧ (mCwn k B).1 300 47 = nI 0 ∧ (mCwn k B).1 300 48 = nI 0 ∧ ∀ a j, a ≠ 343 → ¬ (a = 300 ∧ (j = 47 ∨ j = 48)) → (mCwn k B).1 a j = B.1 a j
  | 0 => ⟨fun i hi => absurd hi (Nat.not_lt_zero _), by show (zw (zw B 300 47 (nI 0)) 300 48 (nI 0)).1 300 47 = _; rw [zw_ne (Or.inr (by decide))]; exact zw_same, zw_same, fun a j h1 h2 => by show (zw (zw B 300 47 (nI 0)) 300 48 (nI 0)).1 a j = _; rw [zw_ne (by omega), zw_ne (by omega)]⟩
  | k + 1 => by
    obtain ⟨h1, h2, h3, h4⟩ := mCwn_at (B := B) k
    show (∀ i, i < k + 1 → (zw (mCwn k B) 343 k ((mCwn k B).1 313 k)).1 343 i = B.1 313 i) ∧ (zw (mCwn k B) 343 k ((mCwn k B).1 313 k)).1 300 47 = nI 0 ∧ (zw (mCwn k B) 343 k ((mCwn k B).1 313 k)).1 300 48 = nI 0 ∧ ∀ a j, a ≠ 343 → ¬ (a = 300 ∧ (j = 47 ∨ j = 48)) → (zw (mCwn k B) 343 k ((mCwn k B).1 313 k)).1 a j = B.1 a j
    refine ⟨fun i hi => ?_, by rw [zw_ne (Or.inl (by decide))]; exact h2, by rw [zw_ne (Or.inl (by decide))]; exact h3, fun a j g1 g2 => by rw [zw_ne (Or.inl g1)]; exact h4 a j g1 g2⟩
    by_cases e : i = k
    · subst e; rw [zw_same]; exact h4 _ _ (by omega) (by omega)
    · rw [zw_ne (Or.inr e)]; exact h1 i (by omega)
/-- the kings, phase by phase, are the same in both -/
theorem kgP (hl : 180 ≤ lc) (hn7 : n ≤ 7) {k : Nat} (hk : k ≤ n) {A B : zM} (hS : zS lc cn mn lb A B) (hv : ∀ j, j < 7 → A.1 45 j = B.1 313 j) : kgR lc n cn mn lb (kP 140 40 lc n t cn k A) (mKg n t mn k B) ∧ kgV n (kP 140 40 lc n t cn k A) (mKg n t mn k B) := by
  obtain ⟨a1, a2, a3, a4⟩ := kH0_at (A := A) 7
  obtain ⟨b1, b2, b3, b4⟩ := mCwn_at (B := B) n
  unfold kP mKg kUn
  generalize kH0 140 40 7 A = A2 at *
  generalize mCwn n B = B2 at *
  refine zfor_pair (R := fun _ A B => kgR lc n cn mn lb A B ∧ kgV n A B) (f := kPh 140 40 lc n t cn) (g := fun i M => mPhase n t mn i M) (n := k) (fun i A3 B3 hi hR => kgPh hl hn7 (by omega) hR.1 hR.2) ⟨?_, fun i hi => ?_⟩ k (Nat.le_refl k)
  · have h0 : kgR lc n cn mn lb A2 B2 := ⟨a2.trans b2.symm, a3.trans b3.symm, kgS hl hS (fun a j ha => a4 a j (by omega) (by omega)) (fun a j ha => b4 a j (fun e => ha (by unfold mFrK; omega)) (fun e => ha (by unfold mFrK; omega)))⟩
    exact h0.wA hl (by omega)
  · rw [zw_ne (Or.inl (by omega)), a1 i (by omega), b1 i hi]; exact hv i (by omega)
-- the invariant gives the likeness
def zMn (cn : Nat → Nat) (lb : Nat → Bool) (m : Nat) : Option Nat := if lb m then some (cn m) else none
theorem zIl_ln {M : zM} (h : zIl lc n M cn lb) {B : zM} (hB : ∀ k, B.1 1208 k = M.1 1208 k) : mLn 0 B (zMn cn lb) := by
  intro s hs
  obtain ⟨-, h2, -, -, h5, -⟩ := h.1 s hs
  refine ⟨?_, fun k hk => ?_⟩
  · rw [show (1000 + 16 * 13 + 0 : Nat) = 1208 from rfl, hB, h5]
    unfold zMn
    cases lb s <;> rfl
  · unfold zMn at hk
    cases hb : lb s with
    | false => rw [hb] at hk; cases hk
    | true => rw [hb] at hk; cases hk; exact h2
theorem zIl_S {M : zM} (h : zIl lc n M cn lb) (h2 : M.1 40 2 = M.1 300 11) : zS lc cn (zMn cn lb) lb M M := by
  refine ⟨fun w r x ow tr hw => ?_, h2, fun m hm => ⟨(h.1 m hm).2.2.2.2.2, zIl_liar h hm⟩⟩
  have e : ((zMn cn lb w).getD 0) = cn w := by
    unfold zMn
    cases hb : lb w with
    | false => exact ((h.1 w hw).2.2.1 hb).symm
    | true => rfl
  unfold mSay
  rw [e]
  exact zIl_say h hw (cn w) 0 (by omega)
end zKing2
