section zEcho2
theorem zcnt_ext {p q : Nat → Bool} {n : Nat} (h1 : ∀ i, i < n → p i = q i) : ∀ j, (∀ i, n ≤ i → i < n + j → p i = false) → zcnt p (n + j) = zcnt q n
  | 0, _ => zcnt_congr n h1
  | j + 1, h2 => by
    show zcnt p (n + j) + (if p (n + j) then 1 else 0) = _
    rw [zcnt_ext h1 j (fun i a b => h2 i a (by omega)), h2 (n + j) (by omega) (by omega)]
    rfl
theorem zfst_congr {p q : Nat → Bool} : ∀ n, (∀ i, i < n → p i = q i) → zfst p n = zfst q n
  | 0, _ => rfl
  | n + 1, h => by unfold zfst; rw [zfst_congr n (fun i hi => h i (by omega)), h n (by omega)]
theorem zfst_ext {p q : Nat → Bool} {n : Nat} (h1 : ∀ i, i < n → p i = q i) : ∀ j, (∀ i, n ≤ i → i < n + j → p i = false) → zfst p (n + j) = zfst q n
  | 0, _ => zfst_congr n h1
  | j + 1, h2 => (zfst_keep (h2 (n + j) (by omega) (by omega))).trans (zfst_ext h1 j (fun i a b => h2 i a (by omega)))
theorem zfst_true {q : Nat → Bool} : ∀ {k a : Nat}, zfst q k = some a → q a = true
  | 0, a, h => by simp [zfst] at h
  | k + 1, a, h => by
    unfold zfst at h
    cases e : zfst q k with
    | some b =>
      rw [e] at h
      cases h
      exact zfst_true e
    | none =>
      rw [e] at h
      simp only at h
      split at h
      · rename_i hq; cases h; exact hq
      · cases h
theorem zcnt_none {p : Nat → Bool} : ∀ n, (∀ i, i < n → p i = false) → zcnt p n = 0
  | 0, _ => rfl
  | n + 1, h => by rw [zcnt_s, zcnt_none n (fun i hi => h i (by omega)), h n (by omega)]; rfl
variable {lc n c t : Nat} {cn : Nat → Nat} {mn : Nat → Option Nat} {lb : Nat → Bool} {ra sa ka kb : Nat}
/-- what the echoes count, alike -/
def ecC (lc : Nat) (cn : Nat → Nat) (mn : Nat → Option Nat) (lb : Nat → Bool) (A B : zM) : Prop := A.1 150 0 = B.1 300 47 ∧ A.1 150 1 = B.1 300 48 ∧ zS lc cn mn lb A B
/-- a table of what is heard: bits and values here, rows of flags and values there -/
def eTb (n ra sa ka kb : Nat) (A B : zM) : Prop := ∀ x, x < n → ∀ w, w < 7 → bit (A.1 sa x) w = (decide (w < n) && !decide (B.1 (1000 + 16 * kb + x) w = 0)) ∧ (w < n → ¬ B.1 (1000 + 16 * kb + x) w = 0 → A.1 ra (x * 7 + w) = B.1 (1000 + 16 * ka + x) w)
def eAB (ra sa ka kb : Nat) : Prop := (ra = 161 ∧ sa = 156 ∧ ka = 49 ∧ kb = 51) ∨ (ra = 162 ∧ sa = 157 ∧ ka = 50 ∧ kb = 52)
theorem ecC.go {A B A2 B2 : zM} (hl : 180 ≤ lc) (h : ecC lc cn mn lb A B) (hA : ∀ a j, (a < 150 ∨ 163 < a ∨ (a = 150 ∧ j < 2)) → A2.1 a j = A.1 a j) (hB : ∀ a j, ((a = 300 ∧ (j = 47 ∨ j = 48 ∨ j = 11)) ∨ a = 1208 ∨ 3100 ≤ a) → B2.1 a j = B.1 a j) : ecC lc cn mn lb A2 B2 :=
  ⟨by rw [hA _ _ (by omega), hB _ _ (by omega)]; exact h.1, by rw [hA _ _ (by omega), hB _ _ (by omega)]; exact h.2.1, h.2.2.keep (fun a k h1 h2 => hA a k (by omega)) (hA _ _ (by omega)) (fun a k h1 => hB a k (by omega)) (hB _ _ (by omega))⟩
theorem kCnt_e {w : Option (Option Int32)} {A : zM} {a k : Nat} (h : a = 150 → 2 ≤ k) : (kCnt 150 w A).1 a k = A.1 a k := by
  unfold kCnt
  rw [zw_ne (by omega), zw_ne (by omega)]
theorem ecCnt {A B : zM} (hl : 180 ≤ lc) (h : ecC lc cn mn lb A B) (w : Option (Option Int32)) (v : Int32) : ecC lc cn mn lb (kCnt 150 w A) (mCt w v B) := by
  refine ⟨?_, ?_, h.2.2.keep (fun a k h1 h2 => kCnt_e (by omega)) (kCnt_e (by omega)) (fun a k h1 => mCt_o (by omega)) ?_⟩
  · unfold kCnt mCt mSb
    simp [zw_at, h.1]
  · unfold kCnt mCt mSb
    simp [zw_at, h.2.1]
  · unfold mCt mSb
    rw [zw_ne (by omega), zw_ne (by omega), zw_ne (by omega)]
theorem eTb.go {A B A2 B2 : zM} (h : eTb n ra sa ka kb A B) (hn7 : n ≤ 7) (hA : ∀ a j, (a = sa ∨ a = ra) → A2.1 a j = A.1 a j) (hB : ∀ x j, x < 7 → B2.1 (1000 + 16 * kb + x) j = B.1 (1000 + 16 * kb + x) j ∧ B2.1 (1000 + 16 * ka + x) j = B.1 (1000 + 16 * ka + x) j) : eTb n ra sa ka kb A2 B2 := fun x hx w hw => by
  rw [hA _ _ (Or.inl rfl), hA _ _ (Or.inr rfl), (hB x w (by omega)).1, (hB x w (by omega)).2]
  exact h x hx w hw
/-- one word, heard by one member -/
theorem ecPut (hab : eAB ra sa ka kb) (hn7 : n ≤ 7) {A B : zM} (h : eTb n ra sa ka kb A B) {x w : Nat} (hx : x < n) (hw : w < n) (hz : B.1 (1000 + 16 * kb + x) w = 0) (o : Option (Option Int32)) : eTb n ra sa ka kb (eQ ra sa x w o A) (zw (zw B (1000 + 16 * ka + x) w (zval o (nI 0))) (1000 + 16 * kb + x) w (zb (mIv o))) := by
  intro y hy u hu
  obtain ⟨h1, h2⟩ := h y hy u hu
  have hne : ∀ v f : Int32, ¬ (y = x ∧ u = w) → (zw (zw B (1000 + 16 * ka + x) w v) (1000 + 16 * kb + x) w f).1 (1000 + 16 * kb + y) u = B.1 (1000 + 16 * kb + y) u ∧ (zw (zw B (1000 + 16 * ka + x) w v) (1000 + 16 * kb + x) w f).1 (1000 + 16 * ka + y) u = B.1 (1000 + 16 * ka + y) u := fun v f e => by
    unfold eAB at hab
    exact ⟨by rw [zw_ne (by omega), zw_ne (by omega)], by rw [zw_ne (by omega), zw_ne (by omega)]⟩
  have heq : ∀ v f : Int32, (zw (zw B (1000 + 16 * ka + x) w v) (1000 + 16 * kb + x) w f).1 (1000 + 16 * kb + x) w = f ∧ (zw (zw B (1000 + 16 * ka + x) w v) (1000 + 16 * kb + x) w f).1 (1000 + 16 * ka + x) w = v := fun v f => ⟨zw_same, by rw [zw_ne (by unfold eAB at hab; omega)]; exact zw_same⟩
  have hrs : ra ≠ sa := by unfold eAB at hab; omega
  by_cases e : y = x ∧ u = w
  · obtain ⟨rfl, rfl⟩ := e
    rw [(heq _ _).1, (heq _ _).2]
    rw [hz] at h1
    match o with
    | none =>
      rw [show zb (mIv none) = 0 from rfl]
      exact ⟨h1, fun _ hh => absurd rfl hh⟩
    | some none =>
      rw [show zb (mIv (some none)) = 0 from rfl]
      exact ⟨h1, fun _ hh => absurd rfl hh⟩
    | some (some v) =>
      rw [show zb (mIv (some (some v))) = nI 1 from rfl]
      have h9 : decide (nI 1 = 0) = false := by decide
      refine ⟨?_, fun _ _ => ?_⟩
      · show bit ((zw (zw A ra (y * 7 + u) v) sa y (A.1 sa y ||| (nI 1 <<< (nI u &&& 31)))).1 sa y) u = _
        rw [zw_same, bit_or _ _ (by omega), bit_sh (by omega) (by omega), h9]
        simp [hw]
      · show (zw (zw A ra (y * 7 + u) v) sa y (A.1 sa y ||| (nI 1 <<< (nI u &&& 31)))).1 ra (y * 7 + u) = v
        rw [zw_ne (Or.inl hrs)]; exact zw_same
  · rw [(hne _ _ e).1, (hne _ _ e).2]
    match o with
    | none => exact ⟨h1, h2⟩
    | some none => exact ⟨h1, h2⟩
    | some (some v) =>
      refine ⟨?_, fun g1 g2 => ?_⟩
      · show bit ((zw (zw A ra (x * 7 + w) v) sa x (A.1 sa x ||| (nI 1 <<< (nI w &&& 31)))).1 sa y) u = _
        by_cases ey : y = x
        · subst ey
          have hu9 : u ≠ w := fun e2 => e ⟨rfl, e2⟩
          rw [zw_same, bit_or _ _ (by omega), bit_sh (by omega) (by omega), h1]
          simp [hu9]
        · rw [zw_ne (Or.inr ey), zw_ne (Or.inl (Ne.symm hrs))]; exact h1
      · show (zw (zw A ra (x * 7 + w) v) sa x (A.1 sa x ||| (nI 1 <<< (nI w &&& 31)))).1 ra (y * 7 + u) = _
        rw [zw_ne (Or.inl hrs), zw_ne (Or.inr (by omega))]; exact h2 g1 g2
theorem eT_fr (q w : Nat) (tr : Int32) (k : Nat) {A : zM} {a j : Nat} (h1 : a ≠ ra) (h2 : a ≠ sa) (h3 : a = 150 → 2 ≤ j) : (eT 150 lc c cn q w tr ra sa k A).1 a j = A.1 a j := by
  unfold eT
  refine zfor_at (fun i M => ?_) k A
  have hQ : ∀ o (M : zM), (eQ ra sa i w o M).1 a j = M.1 a j := fun o M => by
    unfold eQ
    split
    · rw [zw_ne (Or.inl h2), zw_ne (Or.inl h1)]
    · rfl
  unfold eT1
  split
  · exact hQ _ _
  · rw [hQ]; exact kCnt_e h3
/-- one member says a thing to all -/
theorem ecSay (hab : eAB ra sa ka kb) (hl : 180 ≤ lc) (hn7 : n ≤ 7) {w q : Nat} (hw : w < n) {tr : Int32} {A B : zM} (h0 : ecC lc cn mn lb A B) (h1 : eTb n ra sa ka kb A B) (hz : ∀ x, x < n → B.1 (1000 + 16 * kb + x) w = 0) (htr : B.1 355 w = tr) : ecC lc cn mn lb (eT 150 lc c cn q w tr ra sa n A) (mCX mn c q ka kb w n B) ∧ eTb n ra sa ka kb (eT 150 lc c cn q w tr ra sa n A) (mCX mn c q ka kb w n B) ∧ ∀ x y, y ≠ w → (mCX mn c q ka kb w n B).1 (1000 + 16 * kb + x) y = B.1 (1000 + 16 * kb + x) y := by
  have key := zfor_pair (R := fun k A2 B2 => ecC lc cn mn lb A2 B2 ∧ eTb n ra sa ka kb A2 B2 ∧ (∀ x, k ≤ x → x < n → B2.1 (1000 + 16 * kb + x) w = 0) ∧ (∀ x y, y ≠ w → B2.1 (1000 + 16 * kb + x) y = B.1 (1000 + 16 * kb + x) y) ∧ B2.1 355 w = tr) (f := eT1 150 lc c cn q w tr ra sa) (g := mCx mn c q ka kb w) (n := n) (A := A) (B := B) (fun x A2 B2 hx hR => ?_) ⟨h0, h1, fun x _ hx => hz x hx, fun _ _ _ => rfl, htr⟩ n (Nat.le_refl n)
  · exact ⟨key.1, key.2.1, key.2.2.2.1⟩
  · obtain ⟨r1, r2, r3, r4, r5⟩ := hR
    have gz := r3 x (Nat.le_refl x) hx
    have hK : (ka = 49 ∧ kb = 51) ∨ (ka = 50 ∧ kb = 52) := by unfold eAB at hab; omega
    -- the words, then what is heard
    have fin : ∀ (o : Option (Option Int32)) (A3 B3 : zM), ecC lc cn mn lb A3 B3 → (∀ a j, (a = sa ∨ a = ra) → A3.1 a j = A2.1 a j) → (∀ a j, a ≠ 300 → B3.1 a j = B2.1 a j) → ecC lc cn mn lb (eQ ra sa x w o A3) (zw (zw B3 (1000 + 16 * ka + x) w (zval o (nI 0))) (1000 + 16 * kb + x) w (zb (mIv o))) ∧ eTb n ra sa ka kb (eQ ra sa x w o A3) (zw (zw B3 (1000 + 16 * ka + x) w (zval o (nI 0))) (1000 + 16 * kb + x) w (zb (mIv o))) ∧ (∀ y, x + 1 ≤ y → y < n → (zw (zw B3 (1000 + 16 * ka + x) w (zval o (nI 0))) (1000 + 16 * kb + x) w (zb (mIv o))).1 (1000 + 16 * kb + y) w = 0) ∧ (∀ y u, u ≠ w → (zw (zw B3 (1000 + 16 * ka + x) w (zval o (nI 0))) (1000 + 16 * kb + x) w (zb (mIv o))).1 (1000 + 16 * kb + y) u = B.1 (1000 + 16 * kb + y) u) ∧ (zw (zw B3 (1000 + 16 * ka + x) w (zval o (nI 0))) (1000 + 16 * kb + x) w (zb (mIv o))).1 355 w = tr := fun o A3 B3 g1 g2 g3 => by
      refine ⟨g1.go hl (fun a j ha => ?_) (fun a j ha => ?_), ecPut hab hn7 (r2.go hn7 g2 (fun y j hy => ⟨g3 _ _ (by omega), g3 _ _ (by omega)⟩)) hx hw (by rw [g3 _ _ (by omega)]; exact gz) o, fun y hy1 hy2 => ?_, fun y u hu => ?_, ?_⟩
      · unfold eAB at hab
        unfold eQ
        split
        · rw [zw_ne (Or.inl (by omega)), zw_ne (Or.inl (by omega))]
        · rfl
      · rw [zw_ne (Or.inl (by omega)), zw_ne (Or.inl (by omega))]
      · rw [zw_ne (Or.inl (by omega)), zw_ne (Or.inl (by omega)), g3 _ _ (by omega)]; exact r3 y (by omega) hy2
      · rw [zw_ne (Or.inr hu), zw_ne (Or.inr hu), g3 _ _ (by omega)]; exact r4 y u hu
      · rw [zw_ne (Or.inl (by omega)), zw_ne (Or.inl (by omega)), g3 _ _ (by omega)]; exact r5
    have hC2 : ecC lc cn mn lb A2 (zw B2 300 16 tr) := r1.go hl (fun _ _ _ => rfl) (fun a j ha => zw_ne (by omega))
    unfold eT1 mCx mCm mCw
    rw [show B2.1 (300 + 1 + 54) w = tr from r5]
    by_cases e : x = w
    · simp only [if_pos e]
      exact fin _ A2 (zw B2 300 16 tr) hC2 (fun _ _ _ => rfl) (fun a j ha => zw_ne (Or.inl ha))
    · simp only [if_neg e]
      have hw9 : eWh lc cn q w x (nI c) tr A2 = mSay (zw B2 300 16 tr) mn w q x (nI c) tr := hC2.2.2.1 w q x (nI c) tr (by omega)
      rw [hw9]
      generalize mSay (zw B2 300 16 tr) mn w q x (nI c) tr = o
      exact fin o (kCnt 150 o A2) (mCt o tr (zw B2 300 16 tr)) (ecCnt hl hC2 o tr) (fun a j ha => kCnt_e (by unfold eAB at hab; omega)) (fun a j ha => by rw [mCt_o ha, zw_ne (Or.inl ha)])
/-- all that say one say it -/
theorem ecRound (hab : eAB ra sa ka kb) (hl : 180 ≤ lc) (hn7 : n ≤ 7) {q : Nat} {f : Nat → zM → zM} {p : Nat → Bool} {v : Nat → Int32} {A B : zM} (hf : ∀ m A2, m < n → (∀ a j, a ≠ ra → a ≠ sa → (a = 150 → 2 ≤ j) → A2.1 a j = A.1 a j) → f m A2 = if p m then eT 150 lc c cn q m (v m) ra sa n A2 else A2) (h0 : ecC lc cn mn lb A B) (h1 : eTb n ra sa ka kb A B) (hz : ∀ w, w < n → p w = true → ∀ x, x < n → B.1 (1000 + 16 * kb + x) w = 0) (hp : ∀ m, m < n → p m = !decide (B.1 358 m = 0) ∧ (p m = true → v m = B.1 355 m)) : ecC lc cn mn lb (zfor f n A) (mCalls n mn c q ka kb n B) ∧ eTb n ra sa ka kb (zfor f n A) (mCalls n mn c q ka kb n B) ∧ (∀ y, y < n → p y = false → ∀ x, (mCalls n mn c q ka kb n B).1 (1000 + 16 * kb + x) y = B.1 (1000 + 16 * kb + x) y) ∧ (∀ a j, a ≠ ra → a ≠ sa → (a = 150 → 2 ≤ j) → (zfor f n A).1 a j = A.1 a j) := by
  have hK : mKab ka kb := by unfold eAB at hab; unfold mKab; omega
  have key := zfor_pair (R := fun k A2 B2 => ecC lc cn mn lb A2 B2 ∧ eTb n ra sa ka kb A2 B2 ∧ (∀ y, (k ≤ y ∨ p y = false) → ∀ x, B2.1 (1000 + 16 * kb + x) y = B.1 (1000 + 16 * kb + x) y) ∧ (∀ a j, a ≠ ra → a ≠ sa → (a = 150 → 2 ≤ j) → A2.1 a j = A.1 a j) ∧ zKf (mFrX ka kb) B B2) (f := f) (g := mCs n mn c q ka kb) (n := n) (A := A) (B := B) (fun m A2 B2 hm hR => ?_) ⟨h0, h1, fun _ _ _ => rfl, fun _ _ _ _ _ => rfl, zKf.rf⟩ n (Nat.le_refl n)
  · exact ⟨key.1, key.2.1, fun y hy hpy => key.2.2.1 y (Or.inr hpy), key.2.2.2.1⟩
  · obtain ⟨r1, r2, r3, r4, r5⟩ := hR
    obtain ⟨p1, p2⟩ := hp m hm
    have hX := mCs_X (ka := ka) (kb := kb) hn7 mn c q m B2
    rw [hf m A2 hm r4]
    unfold mCs at hX ⊢
    have e358 : B2.1 (300 + 1 + 57) m = B.1 358 m := r5.1 _ _ (by unfold mFrX; unfold mKab at hK; omega)
    have e355 : B2.1 355 m = B.1 355 m := r5.1 _ _ (by unfold mFrX; unfold mKab at hK; omega)
    rw [e358] at hX ⊢
    by_cases hb : B.1 358 m = 0
    · have hpm : p m = false := by rw [p1, decide_eq_true hb]; rfl
      rw [if_pos hb, hpm]
      exact ⟨r1, r2, fun y hy => r3 y (hy.imp (fun h => by omega) id), r4, r5⟩
    · have hpm : p m = true := by rw [p1, decide_eq_false hb]; rfl
      rw [if_neg hb] at hX ⊢
      rw [if_pos hpm]
      obtain ⟨s1, s2, s3⟩ := ecSay (c := c) (q := q) hab hl hn7 hm r1 r2 (fun x hx => by rw [r3 m (Or.inl (Nat.le_refl m)) x]; exact hz m hm hpm x hx) (show B2.1 355 m = v m by rw [e355]; exact (p2 hpm).symm)
      refine ⟨s1, s2, fun y hy x => ?_, fun a j g1 g2 g3 => by rw [eT_fr q m (v m) n g1 g2 g3]; exact r4 a j g1 g2 g3, r5.tr hX⟩
      have hym : y ≠ m := fun e => by
        subst e
        rcases hy with h | h
        · omega
        · rw [hpm] at h; cases h
      rw [s3 x y hym]
      exact r3 y (hy.imp (fun h => by omega) id) x
end zEcho2
