section zSign4
variable {lc n c t : Nat} {cn : Nat → Nat} {mn : Nat → Option Nat} {lb : Nat → Bool} {V : Nat → Int32}
theorem sgBegin (hl : 180 ≤ lc) {A B : zM} (h : zS lc cn mn lb A B) : sgR lc cn mn lb (sBegin 120 40 A) (mSz c 7 B) := by
  have a1 : ∀ x, x < 7 → (sBegin 120 40 A).1 125 x = nI 0 := fun x hx => by
    unfold sBegin
    exact zfor_set (fun M => by simp [zw_at]) (fun i M h => by simp [zw_at, Ne.symm h]) 7 hx
  have a2 : ∀ x, x < 7 → (sBegin 120 40 A).1 126 x = nI 0 := fun x hx => by
    unfold sBegin
    exact zfor_set (fun M => by simp [zw_at]) (fun i M h => by simp [zw_at, Ne.symm h]) 7 hx
  have a3 : ∀ j, (sBegin 120 40 A).1 120 j = (zw (zw (zw (zw A 120 7 (A.1 40 0)) 120 1 (nI 0)) 120 2 (nI 0)) 120 3 (nI 0)).1 120 j := fun j => by
    unfold sBegin
    exact zfor_at (fun i M => by rw [zw_ne (by omega), zw_ne (by omega)]) 7 _
  have b1 : ∀ x, x < 7 → (mSz c 7 B).1 332 x = nI 0 := fun x hx => by
    unfold mSz
    exact zfor_set (fun M => by simp [zw_at]) (fun i M h => by simp [zw_at, Ne.symm h]) 7 hx
  have b2 : ∀ x, x < 7 → (mSz c 7 B).1 333 x = nI 0 := fun x hx => by
    unfold mSz
    exact zfor_set (fun M => by simp [zw_at]) (fun i M h => by simp [zw_at, Ne.symm h]) 7 hx
  have b3 : ∀ x, x < 7 → (mSz c 7 B).1 334 x = nI 0 := fun x hx => by
    unfold mSz
    exact zfor_set (fun M => by simp [zw_at]) (fun i M h => by simp [zw_at, Ne.symm h]) 7 hx
  have b4 : ∀ j, (mSz c 7 B).1 300 j = (mS0 c B).1 300 j := fun j => by
    unfold mSz
    exact zfor_at (fun i M => by rw [zw_ne (by omega), zw_ne (by omega), zw_ne (by omega)]) 7 _
  refine ⟨fun x hx => ?_, by rw [a3, b4]; unfold mS0; simp [zw_at], by rw [a3, b4]; unfold mS0; simp [zw_at], by rw [a3, b4]; unfold mS0; simp [zw_at], sgS hl h (fun a k ha => sBegin_out 120 40 A (by omega)) (fun a k ha => (mSz_S (c := c) (k := 7) B).1 a k ha)⟩
  have e : mTk9 (mSz c 7 B) x = 0 := by show zN ((mSz c 7 B).1 332 x) = 0; rw [b1 x hx]; rfl
  rw [e]
  exact ⟨by rw [a1 x hx, b1 x hx], fun i hi => absurd hi (Nat.not_lt_zero _), by rw [if_pos rfl]; exact b3 x hx, by rw [a2 x hx, b2 x hx]⟩
theorem sgFirst (hl : 180 ≤ lc) (hc : c < 7) (hn7 : n ≤ 7) {A B : zM} (h : zS lc cn mn lb A B) (hv : A.1 45 c = B.1 313 c) : sgR lc cn mn lb (sP1 120 40 lc c cn n A) (mSf c mn n B) := by
  unfold sP1
  have key := zfor_pair (R := fun k A2 B2 => sgR lc cn mn lb A2 B2 ∧ B2 = mSf c mn k B) (f := sF1 120 lc c cn (A.1 (40 + 1 + 4) c)) (g := mWf c mn) (n := n) (A := sBegin 120 40 A) (B := mSz c 7 B) (fun x A2 B2 hx hR => ?_) ⟨sgBegin hl h, rfl⟩ n (Nat.le_refl n)
  · exact key.1
  · obtain ⟨r1, r2⟩ := hR
    have hg := mSf_ok hc mn B (k := x) (by omega)
    have e313 : B2.1 313 c = B.1 313 c := by rw [r2]; exact (mSf_S (by omega) mn B).1 _ _ (by unfold mFrS; omega)
    refine ⟨?_, by rw [r2]; rfl⟩
    rw [← r2] at hg
    rw [sF1_W]
    unfold mWf
    by_cases e : x = c
    · rw [if_pos e, if_pos e]; exact r1
    · rw [if_neg e, if_neg e, r1.2.2.2.2.1 c 1 x _ _ hc, show A.1 (40 + 1 + 4) c = B2.1 (300 + 1 + 12) c from hv.trans e313.symm]
      exact sgWw hl hc r1 hg hc (by omega) _
theorem sgAll (hl : 180 ≤ lc) (hc : c < 7) (hn7 : n ≤ 7) {A B : zM} (h : zS lc cn mn lb A B) (hv : A.1 45 c = B.1 313 c) : sgR lc cn mn lb (sP2 120 40 lc n c cn t A) (mSigns c n mn t B) ∧ gOk c (gV B mn c (B.1 (300 + 1 + 12) c)) (mSigns c n mn t B) := by
  unfold sP2 mSigns
  exact zfor_pair (R := fun _ A2 B2 => sgR lc cn mn lb A2 B2 ∧ gOk c (gV B mn c (B.1 (300 + 1 + 12) c)) B2) (f := fun i M => sRd 120 lc n (i + 2) cn n M) (g := fun i M => mWS n (i + 2) mn n M) (n := t) (fun i A2 B2 hi hR => sgRd hl hc hn7 (by omega) hR.1 hR.2) ⟨sgFirst hl hc hn7 h hv, mSf_ok hc mn B (by omega)⟩ t (Nat.le_refl t)
theorem sgDe {A : zM} : ∀ k, (∀ i, i < k → (sDe 120 40 k A).1 127 i = if A.1 125 i = nI 1 then A.1 129 (i * 7) else A.1 40 2) ∧ ∀ a j, a ≠ 127 → (sDe 120 40 k A).1 a j = A.1 a j
  | 0 => ⟨fun i hi => absurd hi (Nat.not_lt_zero _), fun _ _ _ => rfl⟩
  | k + 1 => by
    obtain ⟨h1, h2⟩ := sgDe (A := A) k
    show (∀ i, i < k + 1 → (zw (sDe 120 40 k A) 127 k (if (sDe 120 40 k A).1 125 k = nI 1 then (sDe 120 40 k A).1 129 (k * 7) else (sDe 120 40 k A).1 40 2)).1 127 i = _) ∧ ∀ a j, a ≠ 127 → (zw (sDe 120 40 k A) 127 k (if (sDe 120 40 k A).1 125 k = nI 1 then (sDe 120 40 k A).1 129 (k * 7) else (sDe 120 40 k A).1 40 2)).1 a j = A.1 a j
    rw [h2 125 k (by decide), h2 129 (k * 7) (by decide), h2 40 2 (by decide)]
    refine ⟨fun i hi => ?_, fun a j ha => ?_⟩
    · by_cases e : i = k
      · subst e; rw [zw_same]
      · rw [zw_ne (Or.inr e)]; exact h1 i (by omega)
    · rw [zw_ne (Or.inl ha)]; exact h2 a j ha
theorem sPlay_in {A : zM} : ∀ a j, a < 120 ∨ 132 < a → (sP2 120 40 lc n c cn t A).1 a j = A.1 a j := by
  intro a j ha
  exact (sFi.p2 120 40 lc n c cn t A).1 a j ha
/-- what the signed trial leaves, alike in both -/
theorem sgPlay (hl : 180 ≤ lc ∧ lc ≤ 200) (hc : c < n) (hn7 : n ≤ 7) {A B : zM} (h : zS lc cn mn lb A B) (hv : ∀ j, j < 7 → A.1 45 j = B.1 313 j) : sgR lc cn mn lb (sPlay 120 40 lc n t c cn A) (mSigns c n mn t B) ∧ gOk c (gV B mn c (B.1 (300 + 1 + 12) c)) (mSigns c n mn t B) ∧ (∀ i, i < n → (sPlay 120 40 lc n t c cn A).1 127 i = mSgB (mSigns c n mn t B) c i) ∧ (sPlay 120 40 lc n t c cn A).1 120 0 = nI (mUq (mLiar (mSigns c n mn t B)) (mSgB (mSigns c n mn t B) c) n) := by
  obtain ⟨h1, h2⟩ := sgAll (t := t) hl.1 (by omega) hn7 h (hv c (by omega))
  have hB := (mSigns_S (c := c) (k := t) hn7 mn B).1
  have e45 : (sP2 120 40 lc n c cn t A).1 45 c = B.1 313 c := by
    have h9 := sPlay_in (lc := lc) (n := n) (c := c) (cn := cn) (t := t) (A := A)
    rw [h9 45 c (by omega)]
    exact hv c (by omega)
  unfold sPlay sDecide
  generalize sP2 120 40 lc n c cn t A = A2 at *
  generalize mSigns c n mn t B = B2 at *
  obtain ⟨d1, d2⟩ := sgDe (A := A2) n
  have row : ∀ i, i < n → (zw (sDe 120 40 n A2) (120 + 1 + 6) c (A2.1 (40 + 1 + 4) c)).1 127 i = mSgB B2 c i := fun i hi => by
    unfold mSgB
    by_cases e : i = c
    · subst e
      rw [if_pos rfl, zw_same]
      rw [show A2.1 (40 + 1 + 4) i = B.1 313 i from e45, hB _ _ (by unfold mFrS; omega)]
    · rw [if_neg e, zw_ne (Or.inr e), d1 i hi, show A2.1 125 i = B2.1 (300 + 1 + 31) i from (h1.1 i (by omega)).1, show A2.1 40 2 = B2.1 300 11 from h1.2.2.2.2.2.1]
      by_cases e1 : B2.1 (300 + 1 + 31) i = nI 1
      · rw [if_pos e1, if_pos e1]
        have hk : mTk9 B2 i = 1 := by show zN (B2.1 (300 + 1 + 31) i) = 1; rw [e1]; rfl
        exact ((h1.1 i (by omega)).2.1 0 (by omega)).1
      · rw [if_neg e1, if_neg e1]
  refine ⟨h1.to hl.1 (fun x hx => ⟨?_, fun i => ⟨?_, ?_, ?_, ?_⟩⟩) (fun x hx => ⟨rfl, rfl, fun i => ⟨rfl, rfl, rfl, rfl⟩⟩) (fun x hx => ?_) ?_ ?_ ?_ (sgS hl.1 h1.2.2.2.2 (fun a k ha => ?_) (fun _ _ _ => rfl)), h2, fun i hi => ?_, ?_⟩
  · rw [zw_ne (by omega), zw_ne (by omega), d2 _ _ (by omega)]
  · rw [zw_ne (by omega), zw_ne (by omega), d2 _ _ (by omega)]
  · rw [zw_ne (by omega), zw_ne (by omega), d2 _ _ (by omega)]
  · rw [zw_ne (by omega), zw_ne (by omega), d2 _ _ (by omega)]
  · rw [zw_ne (by omega), zw_ne (by omega), d2 _ _ (by omega)]
  · rw [zw_ne (by omega), zw_ne (by omega), d2 _ _ (by omega)]; exact (h1.1 x hx).2.2.2
  · rw [zw_ne (by omega), zw_ne (by omega), d2 _ _ (by omega)]; exact h1.2.1
  · rw [zw_ne (by omega), zw_ne (by omega), d2 _ _ (by omega)]; exact h1.2.2.1
  · rw [zw_ne (by omega), zw_ne (by omega), d2 _ _ (by omega)]; exact h1.2.2.2.1
  · rw [zw_ne (by omega), zw_ne (by omega), d2 _ _ (by omega)]
  · rw [zw_ne (by omega)]; exact row i hi
  · rw [zw_same]
    congr 1
    exact zunl_mUq (fun m hm => by rw [(h1.2.2.2.2.2.2 m (by omega)).1, (h1.2.2.2.2.2.2 m (by omega)).2]) row
end zSign4
