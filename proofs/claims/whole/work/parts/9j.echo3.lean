section zEcho3
variable {lc n c t : Nat} {cn : Nat → Nat} {mn : Nat → Option Nat} {lb : Nat → Bool} {ra sa ka kb : Nat}
def ecW (n r : Nat) (A B : zM) : Prop := ∀ x, x < n → A.1 153 x = B.1 356 x ∧ A.1 154 x = B.1 357 x ∧ A.1 155 x = B.1 354 x ∧ (∃ q : Nat, q < r ∧ A.1 154 x = nI q) ∧ ∃ q : Nat, q < r ∧ A.1 155 x = nI q
/-- all that the echoes hold alike, ahead of round r -/
def ecR (lc n r : Nat) (cn : Nat → Nat) (mn : Nat → Option Nat) (lb : Nat → Bool) (A B : zM) : Prop := ecC lc cn mn lb A B ∧ ecW n r A B ∧ eTb n 161 156 49 51 A B ∧ eTb n 162 157 50 52 A B ∧ ∀ w, w < n → B.1 354 w = 0 → ∀ x, x < n → B.1 (1000 + 16 * 52 + x) w = 0
theorem eAB1 : eAB 161 156 49 51 := Or.inl ⟨rfl, rfl, rfl, rfl⟩
theorem eAB2 : eAB 162 157 50 52 := Or.inr ⟨rfl, rfl, rfl, rfl⟩
theorem ecHas (hn7 : n ≤ 7) {A B : zM} (h : eTb n ra sa ka kb A B) {m : Nat} (hm : m < n) (th : Nat) : zfst (eAb (fun i => A.1 ra (m * 7 + i)) (A.1 sa m) th) 7 = mHf B (1000 + 16 * ka + m) (1000 + 16 * kb + m) n th ∧ ∀ a, mHf B (1000 + 16 * ka + m) (1000 + 16 * kb + m) n th = some a → A.1 ra (m * 7 + a) = B.1 (1000 + 16 * ka + m) a := by
  have hb : ∀ w, w < n → bit (A.1 sa m) w = !decide (B.1 (1000 + 16 * kb + m) w = 0) := fun w hw => by
    rw [(h m hm w (by omega)).1, decide_eq_true hw, Bool.true_and]
  have hb0 : ∀ w, n ≤ w → w < 7 → bit (A.1 sa m) w = false := fun w hw h7 => by
    rw [(h m hm w h7).1, decide_eq_false (by omega), Bool.false_and]
  have hz : ∀ s, B.1 (1000 + 16 * kb + m) s = 0 → mHq B (1000 + 16 * ka + m) (1000 + 16 * kb + m) s n = 0 := fun s hs => by
    unfold mHq
    exact zcnt_none n (fun i _ => by rw [decide_eq_true hs]; rfl)
  refine ⟨?_, fun a ha => ?_⟩
  · have h9 := zfst_ext (p := eAb (fun i => A.1 ra (m * 7 + i)) (A.1 sa m) th) (q := fun s => decide (th < mHq B (1000 + 16 * ka + m) (1000 + 16 * kb + m) s n)) (n := n) (fun s hs => ?_) (7 - n) (fun i h1 h2 => ?_)
    · rw [show n + (7 - n) = 7 by omega] at h9
      exact h9
    · show (bit (A.1 sa m) s && decide (th < zcnt (fun i => bit (A.1 sa m) i && A.1 ra (m * 7 + i) == A.1 ra (m * 7 + s)) 7)) = _
      by_cases e : B.1 (1000 + 16 * kb + m) s = 0
      · rw [hb s hs, decide_eq_true e, hz s e]
        simp
      · have hc : zcnt (fun i => bit (A.1 sa m) i && A.1 ra (m * 7 + i) == A.1 ra (m * 7 + s)) 7 = mHq B (1000 + 16 * ka + m) (1000 + 16 * kb + m) s n := by
          have h8 := zcnt_ext (p := fun i => bit (A.1 sa m) i && A.1 ra (m * 7 + i) == A.1 ra (m * 7 + s)) (q := fun e => !decide (B.1 (1000 + 16 * kb + m) s = 0) && !decide (B.1 (1000 + 16 * kb + m) e = 0) && B.1 (1000 + 16 * ka + m) e == B.1 (1000 + 16 * ka + m) s) (n := n) (fun i hi => ?_) (7 - n) (fun i h1 h2 => ?_)
          · rw [show n + (7 - n) = 7 by omega] at h8
            exact h8
          · show (bit (A.1 sa m) i && A.1 ra (m * 7 + i) == A.1 ra (m * 7 + s)) = (!decide (B.1 (1000 + 16 * kb + m) s = 0) && !decide (B.1 (1000 + 16 * kb + m) i = 0) && B.1 (1000 + 16 * ka + m) i == B.1 (1000 + 16 * ka + m) s)
            rw [hb i hi, (h m hm s (by omega)).2 hs e, decide_eq_false e]
            by_cases e2 : B.1 (1000 + 16 * kb + m) i = 0
            · rw [decide_eq_true e2]; rfl
            · rw [(h m hm i (by omega)).2 hi e2, decide_eq_false e2]; rfl
          · show (bit (A.1 sa m) i && A.1 ra (m * 7 + i) == A.1 ra (m * 7 + s)) = false
            rw [hb0 i h1 (by omega)]; rfl
        rw [hb s hs, decide_eq_false e, hc]
        rfl
    · show (bit (A.1 sa m) i && decide (th < zcnt (fun j => bit (A.1 sa m) j && A.1 ra (m * 7 + j) == A.1 ra (m * 7 + i)) 7)) = false
      rw [hb0 i h1 (by omega)]; rfl
  · have h1 := zfst_lt ha
    have h2 : decide (th < mHq B (1000 + 16 * ka + m) (1000 + 16 * kb + m) a n) = true := zfst_true ha
    have h3 : ¬ B.1 (1000 + 16 * kb + m) a = 0 := fun e => by
      rw [hz a e] at h2
      simp at h2
    exact (h m hm a (by omega)).2 h1 h3
/-- who says READY now, on what -/
theorem ecRa (hl : 180 ≤ lc) (hn7 : n ≤ 7) {r : Nat} (hr : 3 ≤ r ∧ r < 100) {A B : zM} (h : ecR lc n r cn mn lb A B) : ecR lc n (r + 1) cn mn lb (eRa 150 r n t n A) (mEf n t r n B) ∧ ∀ m, m < n → decide ((eRa 150 r n t n A).1 155 m = nI r) = (!decide ((mEf n t r n B).1 358 m = 0)) ∧ ((eRa 150 r n t n A).1 155 m = nI r → (eRa 150 r n t n A).1 163 m = (mEf n t r n B).1 355 m ∧ ∀ x, x < n → (mEf n t r n B).1 (1000 + 16 * 52 + x) m = 0) := by
  obtain ⟨g1, g2, g3, g4, g5⟩ := h
  have key := zfor_pair (R := fun k A2 B2 => ecR lc n (r + 1) cn mn lb A2 B2 ∧ (∀ m, m < k → decide (A2.1 155 m = nI r) = (!decide (B2.1 358 m = 0)) ∧ (A2.1 155 m = nI r → A2.1 163 m = B2.1 355 m ∧ ∀ x, x < n → B2.1 (1000 + 16 * 52 + x) m = 0)) ∧ (∀ m, k ≤ m → m < n → ∃ q : Nat, q < r ∧ A2.1 155 m = nI q)) (f := eR1 150 r n t) (g := mEf1 n t r) (n := n) (A := A) (B := B) (fun m A2 B2 hm hR => ?_) ⟨⟨g1, fun x hx => ?_, g3, g4, g5⟩, fun m hm => absurd hm (Nat.not_lt_zero _), fun m _ hm => (g2 m hm).2.2.2.2⟩ n (Nat.le_refl n)
  · exact ⟨key.1, key.2.1⟩
  · obtain ⟨⟨r1, r2, r3, r4, r5⟩, r6, r7⟩ := hR
    obtain ⟨q0, hq0, eq0⟩ := r7 m (Nat.le_refl m) hm
    obtain ⟨w1, w2, w3, -, -⟩ := r2 m hm
    have fin : ∀ A3 B3 : zM, (∀ a j, ¬ ((a = 163 ∨ a = 155) ∧ j = m) → A3.1 a j = A2.1 a j) → (∀ a j, ¬ ((a = 358 ∨ a = 355 ∨ a = 354) ∧ j = m) → ¬ (a = 300 ∧ j = 58) → B3.1 a j = B2.1 a j) → A3.1 155 m = B3.1 354 m → (∃ q : Nat, q < r + 1 ∧ A3.1 155 m = nI q) → decide (A3.1 155 m = nI r) = (!decide (B3.1 358 m = 0)) → (A3.1 155 m = nI r → A3.1 163 m = B3.1 355 m ∧ B2.1 354 m = 0) → (B3.1 354 m = 0 → B2.1 354 m = 0) → ecR lc n (r + 1) cn mn lb A3 B3 ∧ (∀ k, k < m + 1 → decide (A3.1 155 k = nI r) = (!decide (B3.1 358 k = 0)) ∧ (A3.1 155 k = nI r → A3.1 163 k = B3.1 355 k ∧ ∀ x, x < n → B3.1 (1000 + 16 * 52 + x) k = 0)) ∧ (∀ k, m + 1 ≤ k → k < n → ∃ q : Nat, q < r ∧ A3.1 155 k = nI q) := by
      intro A3 B3 fA fB e1 e2 e3 e4 e5
      refine ⟨⟨r1.go hl (fun a j ha => fA a j (by omega)) (fun a j ha => fB a j (by omega) (by omega)), fun x hx => ?_, r3.go hn7 (fun a j ha => fA a j (by omega)) (fun x j hx => ⟨fB _ _ (by omega) (by omega), fB _ _ (by omega) (by omega)⟩), r4.go hn7 (fun a j ha => fA a j (by omega)) (fun x j hx => ⟨fB _ _ (by omega) (by omega), fB _ _ (by omega) (by omega)⟩), fun w hw e x hx => ?_⟩, fun k hk => ?_, fun k hk1 hk2 => ?_⟩
      · obtain ⟨v1, v2, v3, v4, v5⟩ := r2 x hx
        by_cases ex : x = m
        · subst ex
          exact ⟨by rw [fA _ _ (by omega), fB _ _ (by omega) (by omega)]; exact v1, by rw [fA _ _ (by omega), fB _ _ (by omega) (by omega)]; exact v2, e1, by rw [fA _ _ (by omega)]; exact v4, e2⟩
        · exact ⟨by rw [fA _ _ (by omega), fB _ _ (by omega) (by omega)]; exact v1, by rw [fA _ _ (by omega), fB _ _ (by omega) (by omega)]; exact v2, by rw [fA _ _ (by omega), fB _ _ (by omega) (by omega)]; exact v3, by rw [fA _ _ (by omega)]; exact v4, by rw [fA _ _ (by omega)]; exact v5⟩
      · rw [fB _ _ (by omega) (by omega)]
        refine r5 w hw ?_ x hx
        by_cases ew : w = m
        · subst ew; exact e5 e
        · rw [fB _ _ (by omega) (by omega)] at e; exact e
      · by_cases ek : k = m
        · subst ek
          refine ⟨e3, fun e => ⟨(e4 e).1, fun x hx => ?_⟩⟩
          rw [fB _ _ (by omega) (by omega)]
          exact r5 k hm (e4 e).2 x hx
        · obtain ⟨u1, u2⟩ := r6 k (by omega)
          rw [fA _ _ (by omega), fA _ _ (by omega), fB 358 _ (by omega) (by omega), fB 355 _ (by omega) (by omega)]
          refine ⟨u1, fun e => ⟨(u2 e).1, fun x hx => ?_⟩⟩
          rw [fB _ _ (by omega) (by omega)]; exact (u2 e).2 x hx
      · rw [fA _ _ (by omega)]; exact r7 k (by omega) hk2
    have hmark : ∀ v : Int32, A2.1 155 m = nI 0 → ecR lc n (r + 1) cn mn lb (zw (zw A2 163 m v) 155 m (nI r)) (mEu r m (zw B2 300 58 v)) ∧ (∀ k, k < m + 1 → decide ((zw (zw A2 163 m v) 155 m (nI r)).1 155 k = nI r) = (!decide ((mEu r m (zw B2 300 58 v)).1 358 k = 0)) ∧ ((zw (zw A2 163 m v) 155 m (nI r)).1 155 k = nI r → (zw (zw A2 163 m v) 155 m (nI r)).1 163 k = (mEu r m (zw B2 300 58 v)).1 355 k ∧ ∀ x, x < n → (mEu r m (zw B2 300 58 v)).1 (1000 + 16 * 52 + x) k = 0)) ∧ (∀ k, m + 1 ≤ k → k < n → ∃ q : Nat, q < r ∧ (zw (zw A2 163 m v) 155 m (nI r)).1 155 k = nI q) := fun v hz => by
      have e354 : (mEu r m (zw B2 300 58 v)).1 354 m = nI r := zw_same
      have e358 : (mEu r m (zw B2 300 58 v)).1 358 m = nI 1 := by unfold mEu; simp [zw_at]
      have e355 : (mEu r m (zw B2 300 58 v)).1 355 m = v := by unfold mEu; simp [zw_at]
      have hz2 : B2.1 354 m = 0 := w3.symm.trans hz
      refine fin _ _ (fun a j ha => by rw [zw_ne (by omega), zw_ne (by omega)]) (fun a j ha hb => by unfold mEu; rw [zw_ne (by omega), zw_ne (by omega), zw_ne (by omega), zw_ne (by omega)]) (zw_same.trans e354.symm) ⟨r, by omega, zw_same⟩ ?_ (fun _ => ⟨?_, hz2⟩) (fun _ => hz2)
      · rw [zw_same, e358]
        simp only [decide_true]
        decide
      · rw [e355, zw_ne (Or.inl (by decide))]; exact zw_same
    have hstay : A2.1 155 m ≠ nI r → ecR lc n (r + 1) cn mn lb A2 (zw B2 358 m (nI 0)) ∧ (∀ k, k < m + 1 → decide (A2.1 155 k = nI r) = (!decide ((zw B2 358 m (nI 0)).1 358 k = 0)) ∧ (A2.1 155 k = nI r → A2.1 163 k = (zw B2 358 m (nI 0)).1 355 k ∧ ∀ x, x < n → (zw B2 358 m (nI 0)).1 (1000 + 16 * 52 + x) k = 0)) ∧ (∀ k, m + 1 ≤ k → k < n → ∃ q : Nat, q < r ∧ A2.1 155 k = nI q) := fun hne => by
      refine fin _ _ (fun _ _ _ => rfl) (fun a j ha hb => zw_ne (by omega)) (by rw [zw_ne (by omega)]; exact w3) ⟨q0, by omega, eq0⟩ ?_ (fun e => absurd e hne) (fun e => by rw [zw_ne (by omega)] at e; exact e)
      rw [decide_eq_false hne, zw_same]
      rfl
    unfold eR1 mEf1
    rw [show B2.1 (300 + 1 + 53) m = A2.1 155 m from w3.symm]
    by_cases hz : A2.1 155 m = nI 0
    · rw [if_pos (show A2.1 (150 + 1 + 4) m = nI 0 from hz), if_neg (fun e => e hz)]
      unfold eMk
      obtain ⟨p1, p2⟩ := ecHas hn7 r3 hm ((n + t) / 2)
      obtain ⟨p3, p4⟩ := ecHas hn7 r4 hm t
      rw [show zfst (eAb (fun i => A2.1 (150 + 1 + 10) (m * 7 + i)) (A2.1 (150 + 1 + 5) m) ((n + t) / 2)) 7 = _ from p1, show zfst (eAb (fun i => A2.1 (150 + 1 + 11) (m * 7 + i)) (A2.1 (150 + 1 + 6) m) t) 7 = _ from p3]
      unfold mHm
      cases hE : mHf B2 (1000 + 16 * 49 + m) (1000 + 16 * 51 + m) n ((n + t) / 2) with
      | some a =>
        have e := p2 a hE
        show _ ∧ _
        simp only [Option.isSome_some, if_true]
        rw [← e]
        exact hmark _ hz
      | none =>
        simp only [Option.isSome_none, Bool.false_eq_true, if_false]
        cases hE2 : mHf B2 (1000 + 16 * 50 + m) (1000 + 16 * 52 + m) n t with
        | some b =>
          have e := p4 b hE2
          simp only [Option.isSome_some, if_true]
          rw [← e]
          exact hmark _ hz
        | none =>
          simp only [Option.isSome_none, Bool.false_eq_true, if_false]
          exact hstay (fun e => by have := nI_inj (by omega) (by omega) (hz.symm.trans e); omega)
    · rw [if_neg (show ¬ A2.1 (150 + 1 + 4) m = nI 0 from hz), if_pos (show ¬ A2.1 155 m = 0 from hz)]
      exact hstay (fun e => by have := nI_inj (by omega) (by omega) (eq0.symm.trans e); omega)
  · obtain ⟨v1, v2, v3, ⟨q4, l4, v4⟩, ⟨q5, l5, v5⟩⟩ := g2 x hx
    exact ⟨v1, v2, v3, ⟨q4, by omega, v4⟩, ⟨q5, by omega, v5⟩⟩
/-- READY is said -/
theorem ecRb (hl : 180 ≤ lc) (hn7 : n ≤ 7) {r : Nat} (hr : 3 ≤ r ∧ r < 100) {A B : zM} (h : ecR lc n r cn mn lb A B) : ecR lc n (r + 1) cn mn lb (eRb 150 lc c n cn t r n A) (mCalls n mn c 3 50 52 n (mEf n t r n B)) := by
  obtain ⟨⟨g1, g2, g3, g4, g5⟩, g6⟩ := ecRa (t := t) hl hn7 hr h
  unfold eRb
  generalize eRa 150 r n t n A = A2 at *
  generalize mEf n t r n B = B2 at *
  obtain ⟨s1, s2, s3, s4⟩ := ecRound (c := c) (q := 3) (f := eR2 150 lc c n cn r) (p := fun m => decide (A2.1 155 m = nI r)) (v := fun m => A2.1 163 m) eAB2 hl hn7 (fun m A3 hm hf => by
    unfold eR2
    rw [show A3.1 (150 + 1 + 4) m = A2.1 155 m from hf _ _ (by omega) (by omega) (by omega), show A3.1 (150 + 1 + 12) m = A2.1 163 m from hf _ _ (by omega) (by omega) (by omega)]
    by_cases e : A2.1 155 m = nI r
    · rw [if_pos e, if_pos (decide_eq_true e)]
    · rw [if_neg e, if_neg (by rw [decide_eq_false e]; decide)]) g1 g4 (fun w hw hp x hx => (((g6 w hw).2 (of_decide_eq_true hp)).2 x hx)) (fun m hm => ⟨(g6 m hm).1, fun hp => ((g6 m hm).2 (of_decide_eq_true hp)).1⟩)
  have hX := mCalls_X (ka := 50) (kb := 52) (k := n) hn7 mn c 3 B2
  have fB : ∀ a j, ¬ mFrX 50 52 a j → (mCalls n mn c 3 50 52 n B2).1 a j = B2.1 a j := hX.1
  refine ⟨s1, fun x hx => ?_, g3.go hn7 (fun a j ha => s4 a j (by omega) (by omega) (by omega)) (fun x j hx => ⟨fB _ _ (by unfold mFrX; omega), fB _ _ (by unfold mFrX; omega)⟩), s2, fun w hw e x hx => ?_⟩
  · obtain ⟨v1, v2, v3, v4, v5⟩ := g2 x hx
    rw [s4 153 _ (by omega) (by omega) (by omega), s4 154 _ (by omega) (by omega) (by omega), s4 155 _ (by omega) (by omega) (by omega), fB 356 _ (by unfold mFrX; omega), fB 357 _ (by unfold mFrX; omega), fB 354 _ (by unfold mFrX; omega)]
    exact ⟨v1, v2, v3, v4, v5⟩
  · rw [fB 354 _ (by unfold mFrX; omega)] at e
    rw [s3 w hw (by
      refine decide_eq_false (fun e2 => ?_)
      have e3 := (g2 w hw).2.2.1
      have := nI_inj (a := r) (b := 0) (by omega) (by omega) (e2.symm.trans (e3.trans e))
      omega) x]
    exact g5 w hw e x hx
/-- who accepts -/
theorem ecAc (hl : 180 ≤ lc) (hn7 : n ≤ 7) {r : Nat} (hr : 3 ≤ r ∧ r < 100) {A B : zM} (h : ecR lc n (r + 1) cn mn lb A B) : ecR lc n (r + 1) cn mn lb (eAc 150 n r t A) (mEg n t r n B) := by
  refine zfor_pair (R := fun _ A2 B2 => ecR lc n (r + 1) cn mn lb A2 B2) (f := eA1 150 r t) (g := mEg1 n t r) (n := n) (fun m A2 B2 hm hR => ?_) h n (Nat.le_refl n)
  obtain ⟨r1, r2, r3, r4, r5⟩ := hR
  obtain ⟨v1, v2, v3, ⟨q, hq, v4⟩, v5⟩ := id (r2 m hm)
  obtain ⟨p3, p4⟩ := ecHas hn7 r4 hm (2 * t)
  have hstay : ecR lc n (r + 1) cn mn lb A2 B2 := ⟨r1, r2, r3, r4, r5⟩
  unfold eA1 mEg1
  rw [show zfst (eAb (fun i => A2.1 (150 + 1 + 11) (m * 7 + i)) (A2.1 (150 + 1 + 6) m) (2 * t)) 7 = _ from p3, show B2.1 (300 + 1 + 56) m = A2.1 154 m from v2.symm, v4]
  unfold mHm
  by_cases h0 : q = 0
  · subst h0
    rw [if_neg (show ¬ (0 : Int32) < nI 0 by decide)]
    cases hE : mHf B2 (1000 + 16 * 50 + m) (1000 + 16 * 52 + m) n (2 * t) with
    | none =>
      simp only [Option.isSome_none, Bool.false_eq_true, if_false]
      exact hstay
    | some a =>
      have e := p4 a hE
      simp only [Option.isSome_some, if_true]
      rw [← e, show (zw B2 300 58 (A2.1 162 (m * 7 + a))).1 300 58 = A2.1 162 (m * 7 + a) from zw_same]
      refine ⟨r1.go hl (fun a j ha => by rw [zw_ne (by omega), zw_ne (by omega)]) (fun a j ha => by rw [zw_ne (by omega), zw_ne (by omega), zw_ne (by omega)]), fun x hx => ?_, r3.go hn7 (fun a j ha => by rw [zw_ne (by omega), zw_ne (by omega)]) (fun x j hx => ⟨by rw [zw_ne (by omega), zw_ne (by omega), zw_ne (by omega)], by rw [zw_ne (by omega), zw_ne (by omega), zw_ne (by omega)]⟩), r4.go hn7 (fun a j ha => by rw [zw_ne (by omega), zw_ne (by omega)]) (fun x j hx => ⟨by rw [zw_ne (by omega), zw_ne (by omega), zw_ne (by omega)], by rw [zw_ne (by omega), zw_ne (by omega), zw_ne (by omega)]⟩), fun w hw e9 x hx => ?_⟩
      · obtain ⟨u1, u2, u3, u4, u5⟩ := r2 x hx
        by_cases ex : x = m
        · subst ex
          refine ⟨by simp [zw_at], by simp [zw_at], ?_, ⟨r, by omega, zw_same⟩, ?_⟩
          · rw [zw_ne (by omega), zw_ne (by omega), zw_ne (by omega), zw_ne (by omega), zw_ne (by omega)]; exact u3
          · rw [zw_ne (by omega), zw_ne (by omega)]; exact u5
        · refine ⟨?_, ?_, ?_, ?_, ?_⟩
          · rw [zw_ne (by omega), zw_ne (by omega), zw_ne (by omega), zw_ne (by omega), zw_ne (by omega)]; exact u1
          · rw [zw_ne (by omega), zw_ne (by omega), zw_ne (by omega), zw_ne (by omega), zw_ne (by omega)]; exact u2
          · rw [zw_ne (by omega), zw_ne (by omega), zw_ne (by omega), zw_ne (by omega), zw_ne (by omega)]; exact u3
          · rw [zw_ne (by omega), zw_ne (by omega)]; exact u4
          · rw [zw_ne (by omega), zw_ne (by omega)]; exact u5
      · rw [zw_ne (by omega), zw_ne (by omega), zw_ne (by omega)] at e9
        rw [zw_ne (by omega), zw_ne (by omega), zw_ne (by omega)]
        exact r5 w hw e9 x hx
  · rw [if_pos ((nI_0lt (by omega)).mpr (by omega))]
    cases hE : mHf B2 (1000 + 16 * 50 + m) (1000 + 16 * 52 + m) n (2 * t) with
    | none => exact hstay
    | some a =>
      show ecR lc n (r + 1) cn mn lb (if nI q = nI 0 then _ else A2) B2
      rw [if_neg (show ¬ nI q = nI 0 from nI_nz (by omega) (by omega))]
      exact hstay
end zEcho3
