section zKing
/-- two memories, the class's and the reference's, that say alike -/
def zS (lc : Nat) (cn : Nat → Nat) (mn : Nat → Option Nat) (lb : Nat → Bool) (A B : zM) : Prop :=
  (∀ w r x (ow tr : Int32), w < 7 → lSaidF A lc w r x ow tr (cn w) 0 = mSay B mn w r x ow tr) ∧ A.1 40 2 = B.1 300 11 ∧ ∀ m, m < 7 → bit (A.1 lc 0) m = lb m ∧ mLiar B m = lb m
theorem lSaidF_same {A A2 : zM} {lc w r x : Nat} {ow tr : Int32} (h : ∀ a k, lc ≤ a → a ≤ lc + 8 → A2.1 a k = A.1 a k) : ∀ j i, lSaidF A2 lc w r x ow tr j i = lSaidF A lc w r x ow tr j i
  | 0, _ => rfl
  | j + 1, i => by
    show (if lHit A2 lc (w * 12 + i) r x ow then lAct A2 lc (w * 12 + i) x tr else _) = (if lHit A lc (w * 12 + i) r x ow then lAct A lc (w * 12 + i) x tr else _)
    rw [lSaidF_same h j (i + 1)]
    unfold lHit lAct
    rw [h (lc + 1 + 2) _ (by omega) (by omega), h (lc + 1 + 3) _ (by omega) (by omega), h (lc + 1 + 4) _ (by omega) (by omega), h (lc + 1 + 5) _ (by omega) (by omega), h (lc + 1 + 6) _ (by omega) (by omega), h (lc + 1 + 7) _ (by omega) (by omega)]
theorem mSayF_same {B B2 : zM} {w r x : Nat} {ow tr : Int32} (h : ∀ a k, 3100 ≤ a → B2.1 a k = B.1 a k) : ∀ j i, mSayF B2 w r x ow tr j i = mSayF B w r x ow tr j i
  | 0, _ => rfl
  | j + 1, i => by
    show (if mHit B2 (mLc w i) r x ow then mAct B2 (mLc w i) x tr else _) = (if mHit B (mLc w i) r x ow then mAct B (mLc w i) x tr else _)
    rw [mSayF_same h j (i + 1)]
    have g : 3100 ≤ mLc w i := by unfold mLc; omega
    unfold mHit mAct
    rw [h _ 0 g, h _ 1 g, h _ 2 g, h _ 3 g, h _ 4 g, h _ 5 g]
theorem zS.keep {lc : Nat} {cn : Nat → Nat} {mn : Nat → Option Nat} {lb : Nat → Bool} {A B A2 B2 : zM} (h : zS lc cn mn lb A B) (hA : ∀ a k, lc ≤ a → a ≤ lc + 8 → A2.1 a k = A.1 a k) (hA2 : A2.1 40 2 = A.1 40 2) (hB : ∀ a k, a = 1208 ∨ 3100 ≤ a → B2.1 a k = B.1 a k) (hB2 : B2.1 300 11 = B.1 300 11) : zS lc cn mn lb A2 B2 := by
  refine ⟨fun w r x ow tr hw => ?_, by rw [hA2, hB2]; exact h.2.1, fun m hm => ⟨?_, ?_⟩⟩
  · rw [lSaidF_same hA]
    unfold mSay
    rw [mSayF_same (fun a k ha => hB a k (Or.inr ha))]
    exact h.1 w r x ow tr hw
  · rw [hA _ _ (by omega) (by omega)]; exact (h.2.2 m hm).1
  · have h1 := (h.2.2 m hm).2
    unfold mLiar at h1 ⊢
    rw [hB (1000 + 16 * 13 + 0) m (Or.inl rfl)]
    exact h1
theorem zfor_pair {R : Nat → zM → zM → Prop} {f g : Nat → zM → zM} {n : Nat} {A B : zM} (h : ∀ i A B, i < n → R i A B → R (i + 1) (f i A) (g i B)) (h0 : R 0 A B) : ∀ k, k ≤ n → R k (zfor f k A) (zfor g k B)
  | 0, _ => h0
  | k + 1, hk => h k _ _ (by omega) (zfor_pair h h0 k (by omega))
theorem zfm_val (g : Nat → Nat) : ∀ k, 0 < (zfm g k).2 → (zfm g k).2 = g (zfm g k).1
  | 0, h => absurd h (Nat.lt_irrefl 0)
  | k + 1, h => by
    unfold zfm at h ⊢
    split
    · rfl
    · rename_i e; rw [if_neg e] at h; exact zfm_val g k h
theorem zfm_ge (g : Nat → Nat) : ∀ k i, i < k → g i ≤ (zfm g k).2
  | 0, _, h => absurd h (Nat.not_lt_zero _)
  | k + 1, i, h => by
    unfold zfm
    split
    · rename_i e
      rcases Nat.lt_or_ge i k with h1 | h1
      · exact Nat.le_of_lt (Nat.lt_of_le_of_lt (zfm_ge g k i h1) e)
      · rw [show i = k by omega]; exact Nat.le_refl _
    · rename_i e
      rcases Nat.lt_or_ge i k with h1 | h1
      · exact zfm_ge g k i h1
      · rw [show i = k by omega]; omega
theorem zcnt_pos {p : Nat → Bool} {m : Nat} (hp : p m = true) : ∀ n, m < n → 0 < zcnt p n
  | 0, h => absurd h (Nat.not_lt_zero _)
  | n + 1, h => by
    rw [zcnt_s]
    rcases Nat.lt_or_ge m n with h1 | h1
    · have := zcnt_pos hp n h1; omega
    · rw [show n = m by omega, hp]; simp
theorem zcnt_congr {p q : Nat → Bool} : ∀ n, (∀ i, i < n → p i = q i) → zcnt p n = zcnt q n
  | 0, _ => rfl
  | n + 1, h => by rw [zcnt_s, zcnt_s, zcnt_congr n (fun i hi => h i (by omega)), h n (by omega)]
theorem zfm_congr {g h : Nat → Nat} : ∀ n, (∀ i, i < n → g i = h i) → zfm g n = zfm h n
  | 0, _ => rfl
  | n + 1, e => by unfold zfm; rw [zfm_congr n (fun i hi => e i (by omega)), e n (by omega)]
variable {lc n t : Nat} {cn : Nat → Nat} {mn : Nat → Option Nat} {lb : Nat → Bool}
/-- what the kings hold alike -/
def kgR (lc n : Nat) (cn : Nat → Nat) (mn : Nat → Option Nat) (lb : Nat → Bool) (A B : zM) : Prop := A.1 140 0 = B.1 300 47 ∧ A.1 140 1 = B.1 300 48 ∧ zS lc cn mn lb A B
def kgV (n : Nat) (A B : zM) : Prop := ∀ i, i < n → A.1 143 i = B.1 343 i
theorem kgS {A B : zM} (hl : 180 ≤ lc) (h : zS lc cn mn lb A B) {A2 B2 : zM} (hA : ∀ a k, a < 140 ∨ 147 < a → A2.1 a k = A.1 a k) (hB : ∀ a k, ¬ mFrK a k → B2.1 a k = B.1 a k) : zS lc cn mn lb A2 B2 :=
  h.keep (fun a k h1 h2 => hA a k (by omega)) (hA _ _ (by omega)) (fun a k h1 => hB a k (by unfold mFrK; omega)) (hB _ _ (by unfold mFrK; omega))
/-- one word more, counted alike -/
theorem kgCnt {A B : zM} (hl : 180 ≤ lc) (h : kgR lc n cn mn lb A B) (w : Option (Option Int32)) (v : Int32) : kgR lc n cn mn lb (kCnt 140 w A) (mCt w v B) := by
  refine ⟨?_, ?_, kgS hl h.2.2 (fun a k ha => ?_) (fun a k ha => (mCt_K w v B).1 a k ha)⟩
  · unfold kCnt mCt mSb
    simp [zw_at, h.1]
  · unfold kCnt mCt mSb
    simp [zw_at, h.2.1]
  · unfold kCnt
    rw [zw_ne (Or.inl (by omega)), zw_ne (Or.inl (by omega))]
theorem kCnt_o {w : Option (Option Int32)} {A : zM} {a k : Nat} (h : a ≠ 140) : (kCnt 140 w A).1 a k = A.1 a k := by
  unfold kCnt
  rw [zw_ne (Or.inl h), zw_ne (Or.inl h)]
theorem mCt_o {w : Option (Option Int32)} {v : Int32} {B : zM} {a k : Nat} (h : a ≠ 300) : (mCt w v B).1 a k = B.1 a k := by
  unfold mCt mSb
  rw [zw_ne (Or.inl h), zw_ne (Or.inl h), zw_ne (Or.inl h)]
theorem kgR.wA {A B : zM} (hl : 180 ≤ lc) (h : kgR lc n cn mn lb A B) {a k : Nat} {x : Int32} (ha : 143 ≤ a ∧ a ≤ 147) : kgR lc n cn mn lb (zw A a k x) B :=
  ⟨by rw [zw_ne (Or.inl (by omega))]; exact h.1, by rw [zw_ne (Or.inl (by omega))]; exact h.2.1, kgS hl h.2.2 (fun b j hb => zw_ne (Or.inl (by omega))) (fun _ _ _ => rfl)⟩
theorem kgR.wB {A B : zM} (hl : 180 ≤ lc) (h : kgR lc n cn mn lb A B) {a k : Nat} {x : Int32} (ha : 343 ≤ a ∧ a ≤ 347) : kgR lc n cn mn lb A (zw B a k x) :=
  ⟨by rw [zw_ne (Or.inl (by omega))]; exact h.1, by rw [zw_ne (Or.inl (by omega))]; exact h.2.1, kgS hl h.2.2 (fun _ _ _ => rfl) (fun b j hb => zw_ne (Or.inl (fun e => hb (by unfold mFrK; omega))))⟩
/-- what member m hears of the others -/
theorem kgH (hl : 180 ≤ lc) (hn7 : n ≤ 7) {m : Nat} (hm : m < n) {A B : zM} (h : kgR lc n cn mn lb A B) (hv : kgV n A B) : kgR lc n cn mn lb (kH 140 40 lc cn m n A) (mPa mn m n B) ∧ kgV n (kH 140 40 lc cn m n A) (mPa mn m n B) ∧ (∀ i, i < n → (kH 140 40 lc cn m n A).1 144 i = (mPa mn m n B).1 347 i) ∧ (∀ a k, (a = 145 ∨ a = 146) → (kH 140 40 lc cn m n A).1 a k = A.1 a k) ∧ (∀ a k, (a = 345 ∨ a = 346) → (mPa mn m n B).1 a k = B.1 a k) := by
  have key := zfor_pair (R := fun k A2 B2 => kgR lc n cn mn lb A2 B2 ∧ kgV n A2 B2 ∧ (∀ i, i < k → A2.1 144 i = B2.1 347 i) ∧ (∀ a k, (a = 145 ∨ a = 146) → A2.1 a k = A.1 a k) ∧ (∀ a k, (a = 345 ∨ a = 346) → B2.1 a k = B.1 a k)) (f := kH1 140 40 lc cn m) (g := mPa1 mn m) (n := n) (A := A) (B := B) (fun s A2 B2 hs hR => ?_) ⟨h, hv, fun i hi => absurd hi (Nat.not_lt_zero _), fun _ _ _ => rfl, fun _ _ _ => rfl⟩ n (Nat.le_refl n)
  · exact key
  · obtain ⟨r1, r2, r3, r4, r5⟩ := hR
    unfold kH1 mPa1
    by_cases e : s = m
    · rw [if_pos e, if_pos e]
      refine ⟨(r1.wA hl (by omega)).wB hl (by omega), fun i hi => ?_, fun i hi => ?_, fun a k ha => ?_, fun a k ha => ?_⟩
      · rw [zw_ne (Or.inl (by omega)), zw_ne (Or.inl (by omega))]; exact r2 i hi
      · by_cases ei : i = s
        · subst ei; rw [zw_same, zw_same, e]; exact r2 m hm
        · rw [zw_ne (Or.inr ei), zw_ne (Or.inr ei)]; exact r3 i (by omega)
      · rw [zw_ne (Or.inl (by omega))]; exact r4 a k ha
      · rw [zw_ne (Or.inl (by omega))]; exact r5 a k ha
    · rw [if_neg e, if_neg e]
      have hw : kWh lc cn 1 s m (A2.1 (140 + 1 + 2) s) A2 = mSay B2 mn s 1 m (nI s) (B2.1 (300 + 1 + 42) s) := by
        unfold kWh
        rw [show A2.1 (140 + 1 + 2) s = B2.1 (300 + 1 + 42) s from r2 s hs]
        exact r1.2.2.1 s 1 m _ _ (by omega)
      unfold mCried mCv
      rw [hw, show A2.1 40 2 = B2.1 300 11 from r1.2.2.2.1]
      generalize mSay B2 mn s 1 m (nI s) (B2.1 (300 + 1 + 42) s) = w
      refine ⟨((kgCnt hl r1 w _).wA hl (by omega)).wB hl (by omega), fun i hi => ?_, fun i hi => ?_, fun a k ha => ?_, fun a k ha => ?_⟩
      · rw [zw_ne (Or.inl (by omega)), zw_ne (Or.inl (by omega)), kCnt_o (by omega), mCt_o (by omega)]; exact r2 i hi
      · by_cases ei : i = s
        · subst ei; rw [zw_same, zw_same]
        · rw [zw_ne (Or.inr ei), zw_ne (Or.inr ei), kCnt_o (by omega), mCt_o (by omega)]; exact r3 i (by omega)
      · rw [zw_ne (Or.inl (by omega)), kCnt_o (by omega)]; exact r4 a k ha
      · rw [zw_ne (Or.inl (by omega)), mCt_o (by omega)]; exact r5 a k ha
/-- the reference's search for the most frequent -/
theorem mPb_at {m : Nat} {B : zM} (hn7 : n ≤ 7) (h0 : B.1 346 m = nI 0) : ∀ k, ((mPb n m k B).1 346 m = nI (zfm (fun i => zcnt (fun e => B.1 347 e == B.1 347 i) n) k).2 ∧ (0 < (zfm (fun i => zcnt (fun e => B.1 347 e == B.1 347 i) n) k).2 → (mPb n m k B).1 345 m = B.1 347 (zfm (fun i => zcnt (fun e => B.1 347 e == B.1 347 i) n) k).1)) ∧ ∀ a j, ¬ ((a = 345 ∨ a = 346) ∧ j = m) → (mPb n m k B).1 a j = B.1 a j
  | 0 => ⟨⟨h0, fun h => absurd h (Nat.lt_irrefl 0)⟩, fun _ _ _ => rfl⟩
  | k + 1 => by
    obtain ⟨⟨h1, h2⟩, h3⟩ := mPb_at (m := m) hn7 h0 k
    show ((mPb1 n m k (mPb n m k B)).1 346 m = _ ∧ (_ → (mPb1 n m k (mPb n m k B)).1 345 m = _)) ∧ ∀ a j, _ → (mPb1 n m k (mPb n m k B)).1 a j = _
    have e347 : (mPb n m k B).1 (300 + 1 + 46) = B.1 347 := funext fun j => h3 _ _ (by omega)
    have hb : zcnt (fun e => B.1 347 e == B.1 347 k) n ≤ 7 := Nat.le_trans (zcnt_le _ n) hn7
    have hz : (zfm (fun i => zcnt (fun e => B.1 347 e == B.1 347 i) n) k).2 ≤ 7 := zfm_le _ 7 (fun i => Nat.le_trans (zcnt_le _ n) hn7) k
    unfold mPb1
    rw [e347]
    have hcond : (nI (zcnt (fun e => B.1 347 e == B.1 347 k) n) ≤ (mPb n m k B).1 (300 + 1 + 45) m) ↔ zcnt (fun e => B.1 347 e == B.1 347 k) n ≤ (zfm (fun i => zcnt (fun e => B.1 347 e == B.1 347 i) n) k).2 := by
      rw [show (mPb n m k B).1 (300 + 1 + 45) m = _ from h1]
      exact nI_leI (by omega) (by omega)
    by_cases hc : zcnt (fun e => B.1 347 e == B.1 347 k) n ≤ (zfm (fun i => zcnt (fun e => B.1 347 e == B.1 347 i) n) k).2
    · rw [if_pos (hcond.mpr hc)]
      have ez : zfm (fun i => zcnt (fun e => B.1 347 e == B.1 347 i) n) (k + 1) = zfm (fun i => zcnt (fun e => B.1 347 e == B.1 347 i) n) k := if_neg (by show ¬ (_ < zcnt (fun e => B.1 347 e == B.1 347 k) n); omega)
      rw [ez]
      exact ⟨⟨h1, h2⟩, h3⟩
    · rw [if_neg (fun h => hc (hcond.mp h))]
      have ez : zfm (fun i => zcnt (fun e => B.1 347 e == B.1 347 i) n) (k + 1) = (k, zcnt (fun e => B.1 347 e == B.1 347 k) n) := if_pos (by show _ < zcnt (fun e => B.1 347 e == B.1 347 k) n; omega)
      rw [ez]
      refine ⟨⟨?_, fun _ => zw_same⟩, fun a j haj => ?_⟩
      · rw [zw_ne (Or.inl (by decide))]; exact zw_same
      · rw [zw_ne (by omega), zw_ne (by omega)]; exact h3 a j haj
end zKing
