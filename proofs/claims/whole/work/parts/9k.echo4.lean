section zEcho4
variable {lc n c t : Nat} {cn : Nat → Nat} {mn : Nat → Option Nat} {lb : Nat → Bool}
theorem mEz_at (m : Nat) (M : zM) : ∀ k, (∀ e, e < k → (mEz m k M).1 (1000 + 16 * 51 + m) e = nI 0 ∧ (mEz m k M).1 (1000 + 16 * 52 + m) e = nI 0) ∧ ∀ a j, a ≠ 1000 + 16 * 51 + m → a ≠ 1000 + 16 * 52 + m → (mEz m k M).1 a j = M.1 a j
  | 0 => ⟨fun e h => absurd h (Nat.not_lt_zero _), fun _ _ _ _ => rfl⟩
  | k + 1 => by
    obtain ⟨h1, h2⟩ := mEz_at m M k
    show (∀ e, e < k + 1 → (zw (zw (mEz m k M) (1000 + 16 * 51 + m) k (nI 0)) (1000 + 16 * 52 + m) k (nI 0)).1 (1000 + 16 * 51 + m) e = nI 0 ∧ (zw (zw (mEz m k M) (1000 + 16 * 51 + m) k (nI 0)) (1000 + 16 * 52 + m) k (nI 0)).1 (1000 + 16 * 52 + m) e = nI 0) ∧ ∀ a j, a ≠ 1000 + 16 * 51 + m → a ≠ 1000 + 16 * 52 + m → (zw (zw (mEz m k M) (1000 + 16 * 51 + m) k (nI 0)) (1000 + 16 * 52 + m) k (nI 0)).1 a j = M.1 a j
    refine ⟨fun e he => ?_, fun a j g1 g2 => by rw [zw_ne (Or.inl g2), zw_ne (Or.inl g1)]; exact h2 a j g1 g2⟩
    by_cases e1 : e = k
    · subst e1
      exact ⟨by rw [zw_ne (Or.inl (by omega))]; exact zw_same, zw_same⟩
    · obtain ⟨q1, q2⟩ := h1 e (by omega)
      exact ⟨by rw [zw_ne (Or.inl (by omega)), zw_ne (Or.inr e1)]; exact q1, by rw [zw_ne (Or.inr e1), zw_ne (Or.inl (by omega))]; exact q2⟩
theorem mEa_at (B : zM) : ∀ k, k ≤ 7 → (∀ x, x < k → ((mEa c n k B).1 358 x = zb (decide (x = c)) ∧ (mEa c n k B).1 355 x = B.1 313 x ∧ (mEa c n k B).1 354 x = nI 0 ∧ (mEa c n k B).1 356 x = nI 0 ∧ (mEa c n k B).1 357 x = nI 0) ∧ ∀ e, e < n → (mEa c n k B).1 (1000 + 16 * 51 + x) e = nI 0 ∧ (mEa c n k B).1 (1000 + 16 * 52 + x) e = nI 0) ∧ ((mEa c n k B).1 300 47 = nI 0 ∧ (mEa c n k B).1 300 48 = nI 0) ∧ ∀ j, (mEa c n k B).1 313 j = B.1 313 j
  | 0, _ => ⟨fun x h => absurd h (Nat.not_lt_zero _), ⟨by show (zw (zw B 300 47 (nI 0)) 300 48 (nI 0)).1 300 47 = _; rw [zw_ne (Or.inr (by decide))]; exact zw_same, zw_same⟩, fun j => by show (zw (zw B 300 47 (nI 0)) 300 48 (nI 0)).1 313 j = _; rw [zw_ne (Or.inl (by decide)), zw_ne (Or.inl (by decide))]⟩
  | k + 1, hk => by
    obtain ⟨h1, h2, h3⟩ := mEa_at B k (by omega)
    show (∀ x, x < k + 1 → ((mEz k n (mEb c k (mEa c n k B))).1 358 x = zb (decide (x = c)) ∧ (mEz k n (mEb c k (mEa c n k B))).1 355 x = B.1 313 x ∧ (mEz k n (mEb c k (mEa c n k B))).1 354 x = nI 0 ∧ (mEz k n (mEb c k (mEa c n k B))).1 356 x = nI 0 ∧ (mEz k n (mEb c k (mEa c n k B))).1 357 x = nI 0) ∧ ∀ e, e < n → (mEz k n (mEb c k (mEa c n k B))).1 (1000 + 16 * 51 + x) e = nI 0 ∧ (mEz k n (mEb c k (mEa c n k B))).1 (1000 + 16 * 52 + x) e = nI 0) ∧ ((mEz k n (mEb c k (mEa c n k B))).1 300 47 = nI 0 ∧ (mEz k n (mEb c k (mEa c n k B))).1 300 48 = nI 0) ∧ ∀ j, (mEz k n (mEb c k (mEa c n k B))).1 313 j = B.1 313 j
    generalize mEa c n k B = D at *
    obtain ⟨z1, z2⟩ := mEz_at k (mEb c k D) n
    generalize mEz k n (mEb c k D) = E at *
    have b : ∀ a j, ¬ (354 ≤ a ∧ a ≤ 358 ∧ j = k) → (mEb c k D).1 a j = D.1 a j := fun a j h => by
      unfold mEb
      rw [zw_ne (by omega), zw_ne (by omega), zw_ne (by omega), zw_ne (by omega), zw_ne (by omega)]
    have bk : (mEb c k D).1 358 k = zb (decide (k = c)) ∧ (mEb c k D).1 355 k = D.1 313 k ∧ (mEb c k D).1 354 k = nI 0 ∧ (mEb c k D).1 356 k = nI 0 ∧ (mEb c k D).1 357 k = nI 0 := by
      unfold mEb
      refine ⟨by simp [zw_at], by simp [zw_at], by simp [zw_at], by simp [zw_at], by simp [zw_at]⟩
    refine ⟨fun x hx => ?_, ⟨by rw [z2 _ _ (by omega) (by omega), b _ _ (by omega)]; exact h2.1, by rw [z2 _ _ (by omega) (by omega), b _ _ (by omega)]; exact h2.2⟩, fun j => by rw [z2 _ _ (by omega) (by omega), b _ _ (by omega)]; exact h3 j⟩
    rw [z2 358 _ (by omega) (by omega), z2 355 _ (by omega) (by omega), z2 354 _ (by omega) (by omega), z2 356 _ (by omega) (by omega), z2 357 _ (by omega) (by omega)]
    by_cases e : x = k
    · subst e
      refine ⟨⟨bk.1, bk.2.1.trans (h3 x), bk.2.2.1, bk.2.2.2.1, bk.2.2.2.2⟩, fun e he => z1 e he⟩
    · obtain ⟨⟨q1, q2, q3, q4, q5⟩, q6⟩ := h1 x (by omega)
      refine ⟨⟨by rw [b _ _ (by omega)]; exact q1, by rw [b _ _ (by omega)]; exact q2, by rw [b _ _ (by omega)]; exact q3, by rw [b _ _ (by omega)]; exact q4, by rw [b _ _ (by omega)]; exact q5⟩, fun e he => ?_⟩
      rw [z2 _ _ (by omega) (by omega), z2 _ _ (by omega) (by omega), b _ _ (by omega), b _ _ (by omega)]
      exact q6 e he
theorem mEd_at (B : zM) : ∀ k, k ≤ 7 → (∀ x, x < k → (mEd c k B).1 358 x = B.1 (1000 + 16 * 51 + x) c ∧ (mEd c k B).1 355 x = B.1 (1000 + 16 * 49 + x) c ∧ (mEd c k B).1 (1000 + 16 * 51 + x) c = nI 0) ∧ ∀ a j, ¬ ((a = 358 ∨ a = 355) ∧ j < k) → ¬ (1816 ≤ a ∧ a < 1816 + k ∧ j = c) → (mEd c k B).1 a j = B.1 a j
  | 0, _ => ⟨fun x h => absurd h (Nat.not_lt_zero _), fun _ _ _ _ => rfl⟩
  | k + 1, hk => by
    obtain ⟨h1, h2⟩ := mEd_at B k (by omega)
    have e : mEd c (k + 1) B = zw (zw (zw (mEd c k B) 358 k ((mEd c k B).1 (1000 + 16 * 51 + k) c)) 355 k ((mEd c k B).1 (1000 + 16 * 49 + k) c)) (1000 + 16 * 51 + k) c (nI 0) := rfl
    rw [e]
    generalize mEd c k B = D at *
    refine ⟨fun x hx => ?_, fun a j g1 g2 => ?_⟩
    · by_cases ex : x = k
      · subst ex
        refine ⟨?_, ?_, zw_same⟩
        · rw [zw_ne (by omega), zw_ne (by omega), zw_same]; exact h2 _ _ (by omega) (by omega)
        · rw [zw_ne (by omega), zw_same]; exact h2 _ _ (by omega) (by omega)
      · obtain ⟨q1, q2, q3⟩ := h1 x (by omega)
        refine ⟨?_, ?_, ?_⟩
        · rw [zw_ne (by omega), zw_ne (by omega), zw_ne (by omega)]; exact q1
        · rw [zw_ne (by omega), zw_ne (by omega), zw_ne (by omega)]; exact q2
        · rw [zw_ne (by omega), zw_ne (by omega), zw_ne (by omega)]; exact q3
    · rw [zw_ne (by omega), zw_ne (by omega), zw_ne (by omega)]; exact h2 a j (by omega) (by omega)
theorem eBegin_at {A : zM} : (∀ x, x < 7 → (eBegin 150 c A).1 153 x = nI 0 ∧ (eBegin 150 c A).1 154 x = nI 0 ∧ (eBegin 150 c A).1 155 x = nI 0 ∧ (eBegin 150 c A).1 156 x = nI 0 ∧ (eBegin 150 c A).1 157 x = nI 0) ∧ (eBegin 150 c A).1 150 0 = nI 0 ∧ (eBegin 150 c A).1 150 1 = nI 0 ∧ (eBegin 150 c A).1 150 8 = nI 0 := by
  unfold eBegin
  refine ⟨fun x hx => ⟨zfor_set (fun M => by simp [zw_at]) (fun i M h => by simp [zw_at, Ne.symm h]) 7 hx, zfor_set (fun M => by simp [zw_at]) (fun i M h => by simp [zw_at, Ne.symm h]) 7 hx, zfor_set (fun M => by simp [zw_at]) (fun i M h => by simp [zw_at, Ne.symm h]) 7 hx, zfor_set (fun M => by simp [zw_at]) (fun i M h => by simp [zw_at, Ne.symm h]) 7 hx, zfor_set (fun M => by simp [zw_at]) (fun i M h => by simp [zw_at, Ne.symm h]) 7 hx⟩, ?_, ?_, ?_⟩
  · rw [zfor_at (fun i M => by rw [zw_ne (by omega), zw_ne (by omega), zw_ne (by omega), zw_ne (by omega), zw_ne (by omega)])]
    simp [zw_at]
  · rw [zfor_at (fun i M => by rw [zw_ne (by omega), zw_ne (by omega), zw_ne (by omega), zw_ne (by omega), zw_ne (by omega)])]
    simp [zw_at]
  · rw [zfor_at (fun i M => by rw [zw_ne (by omega), zw_ne (by omega), zw_ne (by omega), zw_ne (by omega), zw_ne (by omega)])]
    simp [zw_at]
/-- of one caller all the others are still -/
theorem mCalls_one {q : Nat} {B : zM} (hc : c < n) (hn7 : n ≤ 7) (h1 : ∀ s, s < n → s ≠ c → B.1 358 s = 0) (h2 : ¬ B.1 358 c = 0) : ∀ k, k ≤ n → mCalls n mn c q 49 51 k B = if c < k then mCX mn c q 49 51 c n B else B
  | 0, _ => by rw [if_neg (Nat.not_lt_zero _)]; rfl
  | k + 1, hk => by
    show mCs n mn c q 49 51 k (mCalls n mn c q 49 51 k B) = _
    rw [mCalls_one hc hn7 h1 h2 k (by omega)]
    unfold mCs
    by_cases e : c < k
    · rw [if_pos e, if_pos (show c < k + 1 by omega), (mCX_X (ka := 49) (kb := 51) hn7 mn c q c B).1 _ _ (by unfold mFrX; omega), if_pos (h1 k (by omega) (by omega))]
    · rw [if_neg e]
      by_cases e2 : k = c
      · subst e2
        rw [if_neg (show ¬ B.1 (300 + 1 + 57) k = 0 from h2), if_pos (by omega)]
      · rw [if_pos (show B.1 (300 + 1 + 57) k = 0 from h1 k (by omega) e2), if_neg (by omega)]
/-- the order itself -/
theorem ecOrd (hl : 180 ≤ lc) (hn7 : n ≤ 7) (hc : c < n) {own : Int32} {A B : zM} (h0 : ecC lc cn mn lb A B) (hA : ∀ x, x < 7 → bit (A.1 150 8) x = false) (hB : B.1 355 c = own) : ecC lc cn mn lb (eS 150 lc c cn own n A) (mCX mn c 1 49 51 c n B) ∧ (∀ x, x < n → bit ((eS 150 lc c cn own n A).1 150 8) x = (!decide ((mCX mn c 1 49 51 c n B).1 (1000 + 16 * 51 + x) c = 0)) ∧ (¬ (mCX mn c 1 49 51 c n B).1 (1000 + 16 * 51 + x) c = 0 → (eS 150 lc c cn own n A).1 160 x = (mCX mn c 1 49 51 c n B).1 (1000 + 16 * 49 + x) c)) ∧ (∀ a j, a ≠ 150 → a ≠ 160 → (eS 150 lc c cn own n A).1 a j = A.1 a j) ∧ ∀ x y, y ≠ c → (mCX mn c 1 49 51 c n B).1 (1000 + 16 * 51 + x) y = B.1 (1000 + 16 * 51 + x) y := by
  have key := zfor_pair (R := fun k A2 B2 => ecC lc cn mn lb A2 B2 ∧ (∀ x, x < k → bit (A2.1 150 8) x = (!decide (B2.1 (1000 + 16 * 51 + x) c = 0)) ∧ (¬ B2.1 (1000 + 16 * 51 + x) c = 0 → A2.1 160 x = B2.1 (1000 + 16 * 49 + x) c)) ∧ (∀ x, k ≤ x → x < 7 → bit (A2.1 150 8) x = false) ∧ (∀ a j, a ≠ 150 → a ≠ 160 → A2.1 a j = A.1 a j) ∧ (∀ x y, y ≠ c → B2.1 (1000 + 16 * 51 + x) y = B.1 (1000 + 16 * 51 + x) y) ∧ B2.1 355 c = own) (f := eS1 150 lc c cn own) (g := mCx mn c 1 49 51 c) (n := n) (A := A) (B := B) (fun x A2 B2 hx hR => ?_) ⟨h0, fun x h => absurd h (Nat.not_lt_zero _), fun x _ h => hA x h, fun _ _ _ _ => rfl, fun _ _ _ => rfl, hB⟩ n (Nat.le_refl n)
  · exact ⟨key.1, key.2.1, key.2.2.2.1, key.2.2.2.2.1⟩
  · obtain ⟨r1, r2, r3, r4, r5, r6⟩ := hR
    have fin : ∀ (o : Option (Option Int32)) (A3 B3 : zM), ecC lc cn mn lb A3 B3 → (∀ a j, (a = 150 → 2 ≤ j) → A3.1 a j = A2.1 a j) → (∀ a j, a ≠ 300 → B3.1 a j = B2.1 a j) → ecC lc cn mn lb (eP 150 x o A3) (zw (zw B3 (1000 + 16 * 49 + x) c (zval o (nI 0))) (1000 + 16 * 51 + x) c (zb (mIv o))) ∧ (∀ y, y < x + 1 → bit ((eP 150 x o A3).1 150 8) y = (!decide ((zw (zw B3 (1000 + 16 * 49 + x) c (zval o (nI 0))) (1000 + 16 * 51 + x) c (zb (mIv o))).1 (1000 + 16 * 51 + y) c = 0)) ∧ (¬ (zw (zw B3 (1000 + 16 * 49 + x) c (zval o (nI 0))) (1000 + 16 * 51 + x) c (zb (mIv o))).1 (1000 + 16 * 51 + y) c = 0 → (eP 150 x o A3).1 160 y = (zw (zw B3 (1000 + 16 * 49 + x) c (zval o (nI 0))) (1000 + 16 * 51 + x) c (zb (mIv o))).1 (1000 + 16 * 49 + y) c)) ∧ (∀ y, x + 1 ≤ y → y < 7 → bit ((eP 150 x o A3).1 150 8) y = false) ∧ (∀ a j, a ≠ 150 → a ≠ 160 → (eP 150 x o A3).1 a j = A.1 a j) ∧ (∀ y u, u ≠ c → (zw (zw B3 (1000 + 16 * 49 + x) c (zval o (nI 0))) (1000 + 16 * 51 + x) c (zb (mIv o))).1 (1000 + 16 * 51 + y) u = B.1 (1000 + 16 * 51 + y) u) ∧ (zw (zw B3 (1000 + 16 * 49 + x) c (zval o (nI 0))) (1000 + 16 * 51 + x) c (zb (mIv o))).1 355 c = own := fun o A3 B3 g1 g2 g3 => by
      have fP : ∀ a j, ¬ (a = 150 ∧ j = 8) → ¬ (a = 160 ∧ j = x) → (eP 150 x o A3).1 a j = A3.1 a j := fun a j h1 h2 => by
        unfold eP
        split
        · rw [zw_ne (by omega), zw_ne (by omega)]
        · rfl
      refine ⟨g1.go hl (fun a j ha => fP a j (by omega) (by omega)) (fun a j ha => by rw [zw_ne (Or.inl (by omega)), zw_ne (Or.inl (by omega))]), fun y hy => ?_, fun y hy1 hy2 => ?_, fun a j h1 h2 => by rw [fP a j (by omega) (by omega), g2 a j (fun e => absurd e h1)]; exact r4 a j h1 h2, fun y u hu => by rw [zw_ne (Or.inr hu), zw_ne (Or.inr hu), g3 _ _ (by omega)]; exact r5 y u hu, by rw [zw_ne (Or.inl (by omega)), zw_ne (Or.inl (by omega)), g3 _ _ (by omega)]; exact r6⟩
      · by_cases e : y = x
        · subst e
          rw [zw_same, zw_ne (a := 1000 + 16 * 49 + y) (Or.inl (by omega)), zw_same]
          have hb0 : bit (A3.1 150 8) y = false := by rw [g2 _ _ (by omega)]; exact r3 y (Nat.le_refl y) (by omega)
          match o with
          | none =>
            rw [show zb (mIv none) = 0 from rfl]
            exact ⟨hb0, fun hh => absurd rfl hh⟩
          | some none =>
            rw [show zb (mIv (some none)) = 0 from rfl]
            exact ⟨hb0, fun hh => absurd rfl hh⟩
          | some (some v) =>
            rw [show zb (mIv (some (some v))) = nI 1 from rfl]
            have h9 : decide (nI 1 = 0) = false := by decide
            refine ⟨?_, fun _ => zw_same⟩
            show bit ((zw (zw A3 150 8 (A3.1 150 8 ||| (nI 1 <<< (nI y &&& 31)))) (150 + 1 + 9) y v).1 150 8) y = _
            rw [zw_ne (Or.inl (by decide)), zw_same, bit_or _ _ (by omega), bit_sh (by omega) (by omega), h9]
            simp
        · have hy9 := r2 y (by omega)
          rw [zw_ne (Or.inl (by omega)), zw_ne (Or.inl (by omega)), zw_ne (Or.inl (by omega)), zw_ne (Or.inl (by omega)), g3 _ _ (by omega), g3 _ _ (by omega), fP 160 y (by omega) (by omega), g2 160 _ (by omega)]
          refine ⟨?_, hy9.2⟩
          rw [← hy9.1, ← g2 150 8 (by omega)]
          match o with
          | none => rfl
          | some none => rfl
          | some (some v) =>
            show bit ((zw (zw A3 150 8 (A3.1 150 8 ||| (nI 1 <<< (nI x &&& 31)))) (150 + 1 + 9) x v).1 150 8) y = _
            rw [zw_ne (Or.inl (by decide)), zw_same, bit_or _ _ (by omega), bit_sh (by omega) (by omega)]
            simp [e]
      · have hb0 : bit (A3.1 150 8) y = false := by rw [g2 _ _ (by omega)]; exact r3 y (by omega) hy2
        match o with
        | none => exact hb0
        | some none => exact hb0
        | some (some v) =>
          show bit ((zw (zw A3 150 8 (A3.1 150 8 ||| (nI 1 <<< (nI x &&& 31)))) (150 + 1 + 9) x v).1 150 8) y = _
          have e : y ≠ x := by omega
          rw [zw_ne (Or.inl (by decide)), zw_same, bit_or _ _ (by omega), bit_sh (by omega) (by omega), hb0]
          simp [e]
    have hC2 : ecC lc cn mn lb A2 (zw B2 300 16 own) := r1.go hl (fun _ _ _ => rfl) (fun a j ha => zw_ne (by omega))
    unfold eS1 mCx mCm mCw
    rw [show B2.1 (300 + 1 + 54) c = own from r6]
    by_cases e : x = c
    · simp only [if_pos e]
      exact fin _ A2 (zw B2 300 16 own) hC2 (fun _ _ _ => rfl) (fun a j ha => zw_ne (Or.inl ha))
    · simp only [if_neg e]
      have hw9 : eWh lc cn 1 c x (nI c) own A2 = mSay (zw B2 300 16 own) mn c 1 x (nI c) own := hC2.2.2.1 c 1 x (nI c) own (by omega)
      rw [hw9]
      generalize mSay (zw B2 300 16 own) mn c 1 x (nI c) own = o
      exact fin o (kCnt 150 o A2) (mCt o own (zw B2 300 16 own)) (ecCnt hl hC2 o own) (fun a j ha => kCnt_e ha) (fun a j ha => by rw [mCt_o ha, zw_ne (Or.inl ha)])
/-- the echoes, round by round, are the same in both -/
theorem ecPlay (hl : 180 ≤ lc) (hn7 : n ≤ 7) (hc : c < n) {A B : zM} (hS : zS lc cn mn lb A B) (hv : ∀ j, j < 7 → A.1 45 j = B.1 313 j) : ecR lc n 7 cn mn lb (ePlay 150 40 lc c n t cn A) (mEcho n c t mn 4 B) := by
  obtain ⟨a1, a2, a3, a4⟩ := eBegin_at (c := c) (A := A)
  have a5 := (eFi.b 150 c A).1
  obtain ⟨b1, ⟨b2, b3⟩, -⟩ := mEa_at (c := c) (n := n) B n hn7
  have b4 := (mEa_E (c := c) (n := n) hn7 B).1
  unfold ePlay ePb ePa mEcho mEe mEc
  rw [show A.1 (40 + 1 + 4) c = B.1 313 c from hv c (by omega)]
  generalize eBegin 150 c A = A0 at *
  generalize mEa c n n B = B0 at *
  have h0 : ecC lc cn mn lb A0 B0 := ⟨a2.trans b2.symm, a3.trans b3.symm, hS.keep (fun a k g1 g2 => a5 a k (by omega)) (a5 _ _ (by omega)) (fun a k g1 => b4 a k (by unfold mFrE; omega)) (b4 _ _ (by unfold mFrE; omega))⟩
  obtain ⟨o1, o2, o3, o4⟩ := ecOrd hl hn7 hc h0 (fun x hx => by rw [a4]; exact bit_0 (by omega)) (b1 c hc).1.2.1
  have hone := mCalls_one (mn := mn) (q := 1) (B := B0) hc hn7 (fun s hs hsc => by rw [(b1 s hs).1.1, decide_eq_false hsc]; rfl) (by rw [(b1 c hc).1.1, decide_eq_true rfl]; decide) n (Nat.le_refl n)
  rw [if_pos hc] at hone
  rw [hone]
  have hX1 := (mCX_X (ka := 49) (kb := 51) (k := n) hn7 mn c 1 c B0).1
  generalize eS 150 lc c cn (B.1 313 c) n A0 = A1 at *
  generalize mCX mn c 1 49 51 c n B0 = B1 at *
  obtain ⟨d1, d2⟩ := mEd_at (c := c) B1 n hn7
  generalize mEd c n B1 = B2 at *
  have hz51 : ∀ x, x < n → ∀ w, w < n → B2.1 (1000 + 16 * 51 + x) w = 0 := fun x hx w hw => by
    by_cases e : w = c
    · subst e; exact (d1 x hx).2.2
    · rw [d2 _ _ (by omega) (by omega), o4 x w e]; exact ((b1 x hx).2 w hw).1
  have hz52 : ∀ x, x < n → ∀ w, w < n → B2.1 (1000 + 16 * 52 + x) w = 0 := fun x hx w hw => by
    rw [d2 _ _ (by omega) (by omega), hX1 _ _ (by unfold mFrX; omega)]; exact ((b1 x hx).2 w hw).2
  have t1 : eTb n 161 156 49 51 A1 B2 := fun x hx w hw => by
    rw [o3 _ _ (by omega) (by omega), (a1 x (by omega)).2.2.2.1, bit_0 (by omega)]
    by_cases hwn : w < n
    · rw [hz51 x hx w hwn]
      exact ⟨by simp, fun _ h => absurd rfl h⟩
    · exact ⟨by simp [hwn], fun h => absurd h hwn⟩
  have t2 : eTb n 162 157 50 52 A1 B2 := fun x hx w hw => by
    rw [o3 _ _ (by omega) (by omega), (a1 x (by omega)).2.2.2.2, bit_0 (by omega)]
    by_cases hwn : w < n
    · rw [hz52 x hx w hwn]
      exact ⟨by simp, fun _ h => absurd rfl h⟩
    · exact ⟨by simp [hwn], fun h => absurd h hwn⟩
  have h2 : ecC lc cn mn lb A1 B2 := o1.go hl (fun _ _ _ => rfl) (fun a j ha => d2 a j (by omega) (by omega))
  obtain ⟨s1, s2, s3, s4⟩ := ecRound (c := c) (q := 2) (f := eE1 150 lc c n cn) (p := fun m => bit (A1.1 150 8) m) (v := fun m => A1.1 160 m) eAB1 hl hn7 (fun m A3 hm hf => by
    unfold eE1
    rw [show A3.1 150 8 = A1.1 150 8 from hf _ _ (by omega) (by omega) (by omega), show A3.1 (150 + 1 + 9) m = A1.1 160 m from hf _ _ (by omega) (by omega) (by omega)]) h2 t1 (fun w hw _ x hx => hz51 x hx w hw) (fun m hm => by
    obtain ⟨g1, g2⟩ := o2 m hm
    obtain ⟨e1, e2, -⟩ := d1 m hm
    refine ⟨by rw [e1]; exact g1, fun hp => ?_⟩
    rw [e2]
    refine g2 (fun e => ?_)
    rw [show bit (A1.1 150 8) m = true from hp, decide_eq_true e] at g1
    cases g1)
  have hX3 := (mCalls_X (ka := 49) (kb := 51) (k := n) hn7 mn c 2 B2).1
  generalize zfor (eE1 150 lc c n cn) n A1 = A3 at *
  generalize mCalls n mn c 2 49 51 n B2 = B3 at *
  refine zfor_pair (R := fun i A B => ecR lc n (i + 3) cn mn lb A B) (f := eRnd 150 lc c n t cn) (g := mEh n c t mn) (n := 4) (fun i A4 B4 hi hR => ?_) ⟨s1, fun x hx => ?_, s2, t2.go hn7 (fun a j ha => s4 a j (by omega) (by omega) (by omega)) (fun x j hx => ⟨hX3 _ _ (by unfold mFrX; omega), hX3 _ _ (by unfold mFrX; omega)⟩), fun w hw _ x hx => ?_⟩ 4 (Nat.le_refl 4)
  · unfold eRnd mEh
    exact ecAc (r := i + 3) hl hn7 (by omega) (ecRb (r := i + 3) hl hn7 (by omega) hR)
  · have q1 := a1 x (by omega)
    have q2 := (b1 x hx).1
    rw [s4 153 _ (by omega) (by omega) (by omega), s4 154 _ (by omega) (by omega) (by omega), s4 155 _ (by omega) (by omega) (by omega), o3 153 _ (by omega) (by omega), o3 154 _ (by omega) (by omega), o3 155 _ (by omega) (by omega), hX3 356 _ (by unfold mFrX; omega), hX3 357 _ (by unfold mFrX; omega), hX3 354 _ (by unfold mFrX; omega), d2 356 _ (by omega) (by omega), d2 357 _ (by omega) (by omega), d2 354 _ (by omega) (by omega), hX1 356 _ (by unfold mFrX; omega), hX1 357 _ (by unfold mFrX; omega), hX1 354 _ (by unfold mFrX; omega), q1.1, q1.2.1, q1.2.2.1, q2.2.2.1, q2.2.2.2.1, q2.2.2.2.2]
    exact ⟨rfl, rfl, rfl, ⟨0, by omega, rfl⟩, ⟨0, by omega, rfl⟩⟩
  · rw [hX3 _ _ (by unfold mFrX; omega)]; exact hz52 x hx w hw
end zEcho4
