section zNear2
theorem nIns_hi {sc : Nat} {x : Int32} : ∀ (i : Nat) (M : zM) (j : Nat), i < j → (nIns sc x i M).1 sc j = M.1 sc j
  | 0, M, j, h => zw_ne (Or.inr (by omega))
  | i + 1, M, j, h => by
    unfold nIns
    split
    · rw [nIns_hi i _ j (by omega), zw_ne (Or.inr (by omega))]
    · exact zw_ne (Or.inr (by omega))
theorem nIns_row {s1 s2 : Nat} {x : Int32} : ∀ (i : Nat) (A B : zM), (∀ j, j < i → A.1 s1 j = B.1 s2 j) → ∀ j, j ≤ i → (nIns s1 x i A).1 s1 j = (nIns s2 x i B).1 s2 j
  | 0, A, B, h, j, hj => by
    have e : j = 0 := by omega
    subst e
    show (zw A s1 0 x).1 s1 0 = (zw B s2 0 x).1 s2 0
    rw [zw_same, zw_same]
  | i + 1, A, B, h, j, hj => by
    unfold nIns
    rw [h i (by omega)]
    split
    · by_cases e : j = i + 1
      · subst e
        rw [nIns_hi i _ _ (by omega), nIns_hi i _ _ (by omega), zw_same, zw_same]
      · exact nIns_row i _ _ (fun k hk => by rw [zw_ne (Or.inr (by omega)), zw_ne (Or.inr (by omega))]; exact h k (by omega)) j (by omega)
    · by_cases e : j = i + 1
      · subst e
        rw [zw_same, zw_same]
      · rw [zw_ne (Or.inr e), zw_ne (Or.inr e)]; exact h j (by omega)
theorem nSum_congr {S T : Nat → UInt32} {t : Nat} : ∀ j, (∀ a, t ≤ a → a ≤ t + j → S a = T a) → nSum S t j = nSum T t j
  | 0, h => h t (Nat.le_refl t) (Nat.le_refl t)
  | j + 1, h => by
    show FP.fadd (nSum S t j) (S (t + 1 + j)) = FP.fadd (nSum T t j) (T (t + 1 + j))
    rw [nSum_congr j (fun a h1 h2 => h a h1 (by omega)), h (t + 1 + j) (by omega) (by omega)]
theorem nMvR_congr {S T : Nat → UInt32} {t left md : Nat} (hl : 1 ≤ left) (h : ∀ a, a < t + left → S a = T a) : nMvR S t left md = nMvR T t left md := by
  unfold nMvR
  rw [h t (by omega), h (t + left - 1) (by omega), nSum_congr (left - 1) (fun a h1 h2 => h a (by omega))]
variable {lc n t md : Nat} {cn : Nat → Nat} {lb : Nat → Bool}
/-- what NEARER holds alike -/
def nrR (lc n : Nat) (cn : Nat → Nat) (lb : Nat → Bool) (A B : zM) : Prop := zS lc cn (zMn cn lb) lb A B ∧ ∀ i, i < n → A.1 171 i = B.1 360 i ∧ (lb i = true → A.1 171 i = A.1 45 i)
theorem nrR.go {A B A2 B2 : zM} (hl : 180 ≤ lc) (h : nrR lc n cn lb A B) (hA : ∀ a j, (a < 172 ∨ 173 < a) → A2.1 a j = A.1 a j) (hB : ∀ a j, (a = 300 ∧ j = 11) ∨ a = 360 ∨ a = 1208 ∨ 3100 ≤ a → B2.1 a j = B.1 a j) : nrR lc n cn lb A2 B2 :=
  ⟨h.1.keep (fun a k h1 h2 => hA a k (by omega)) (hA _ _ (by omega)) (fun a k h1 => hB a k (by omega)) (hB _ _ (by omega)), fun i hi => by rw [hA 171 i (by omega), hA 45 i (by omega), hB 360 i (by omega)]; exact h.2 i hi⟩
theorem nrH (hl : 180 ≤ lc) (hn7 : n ≤ 7) {A B : zM} (h : nrR lc n cn lb A B) {m s : Nat} (hm : m < n) (hs : s < n) (hlm : lb m = false) : nH 170 40 lc cn m s A = mNw (zMn cn lb) m s B := by
  obtain ⟨hS, hr⟩ := h
  unfold nH mNw
  rw [(hS.2.2 s (by omega)).1]
  by_cases e : s = m
  · subst e
    rw [hlm, if_neg (by decide), if_pos rfl]; exact (hr s hs).1
  · rw [if_neg e]
    cases hb : lb s with
    | true =>
      rw [if_pos rfl]
      have h2 := (hr s hs).2 hb
      rw [show A.1 (40 + 1 + 4) s = B.1 360 s from h2.symm.trans (hr s hs).1, hS.1 s 1 m (nI s) (B.1 360 s) (by omega), show A.1 (170 + 1 + 0) m = B.1 360 m from (hr m hm).1]
    | false =>
      rw [if_neg (by decide)]
      have e2 : mSay B (zMn cn lb) s 1 m (nI s) (B.1 360 s) = some (some (B.1 360 s)) := by
        unfold mSay zMn
        rw [hb]
        rfl
      rw [e2]; exact (hr s hs).1
theorem nH_same {m s : Nat} (hl : 180 ≤ lc) {A A2 : zM} (h : ∀ a j, a ≠ 173 → A2.1 a j = A.1 a j) : nH 170 40 lc cn m s A2 = nH 170 40 lc cn m s A := by
  unfold nH
  rw [lSaidF_same (fun a k h1 h2 => h a k (by omega)), h lc 0 (by omega), h (40 + 1 + 4) _ (by omega), h (170 + 1 + 0) _ (by omega), h (170 + 1 + 0) _ (by omega)]
theorem mNw_same {mn : Nat → Option Nat} {m s : Nat} {B B2 : zM} (h : ∀ a j, (a = 360 ∨ 3100 ≤ a) → B2.1 a j = B.1 a j) : mNw mn m s B2 = mNw mn m s B := by
  unfold mNw mSay
  rw [mSayF_same (fun a k ha => h a k (Or.inr ha)), h 360 m (Or.inl rfl), h 360 s (Or.inl rfl)]
theorem mNa_fr (mn : Nat → Option Nat) (m k : Nat) {B : zM} {a j : Nat} (h1 : a ≠ 300) (h2 : a ≠ 362) : (mNa mn m k B).1 a j = B.1 a j := by
  unfold mNa
  refine zfor_at (fun i M => ?_) k B
  unfold mNa1
  rw [zw_ne (Or.inl h2), mNm_c _ _ _ _ h1]
theorem mNa_at (mn : Nat → Option Nat) (m : Nat) (B : zM) : ∀ k j, j < k → (mNa mn m k B).1 362 j = mNw mn m j B
  | 0, j, h => absurd h (Nat.not_lt_zero _)
  | k + 1, j, h => by
    show (zw (mNm mn m k (mNa mn m k B)) 362 k (mNw mn m k (mNa mn m k B))).1 362 j = _
    by_cases e : j = k
    · subst e
      rw [zw_same]
      exact mNw_same (fun a i ha => mNa_fr mn m j (by omega) (by omega))
    · rw [zw_ne (Or.inr e), mNm_c _ _ _ _ (by decide)]
      exact mNa_at mn m B k j (by omega)
theorem mSrt_hi (M : zM) : ∀ k j, k < j → (mSrt k M).1 362 j = M.1 362 j
  | 0, _, _ => rfl
  | k + 1, j, h => by
    show (nIns 362 ((mSrt k M).1 362 (k + 1)) (k + 1) (mSrt k M)).1 362 j = _
    rw [nIns_hi _ _ _ h]
    exact mSrt_hi M k j (by omega)
theorem nrRow (hl : 180 ≤ lc) (hn7 : n ≤ 7) {A B : zM} (h : nrR lc n cn lb A B) {m : Nat} (hm : m < n) (hlm : lb m = false) : ∀ k, k + 1 ≤ n → ∀ j, j ≤ k → (nMv1 170 40 lc cn m (k + 1) A).1 173 j = (mSrt k (mNa (zMn cn lb) m n B)).1 362 j
  | 0, hk, j, hj => by
    have e : j = 0 := by omega
    subst e
    show (zw A 173 0 (nH 170 40 lc cn m 0 A)).1 173 0 = (mNa (zMn cn lb) m n B).1 362 0
    rw [zw_same, mNa_at _ _ _ _ _ (by omega)]
    exact nrH hl hn7 h hm (by omega) hlm
  | k + 1, hk, j, hj => by
    have ih := nrRow hl hn7 h hm hlm k (by omega)
    show (nIns 173 (nH 170 40 lc cn m (k + 1) (nMv1 170 40 lc cn m (k + 1) A)) (k + 1) (nMv1 170 40 lc cn m (k + 1) A)).1 173 j = (nIns 362 ((mSrt k (mNa (zMn cn lb) m n B)).1 362 (k + 1)) (k + 1) (mSrt k (mNa (zMn cn lb) m n B))).1 362 j
    rw [mSrt_hi _ _ _ (Nat.lt_succ_self k), mNa_at _ _ _ _ _ (by omega), nH_same hl (fun a i ha => nMv1_o 170 40 lc cn m (k + 1) A ha), nrH hl hn7 h hm (by omega) hlm]
    exact nIns_row (k + 1) _ _ (fun i hi => ih i (by omega)) j hj
theorem mNc_at9 (B : zM) (j : Nat) : ∀ k, (mNc k B).1 360 j = if j < k then B.1 361 j else B.1 360 j
  | 0 => by rw [if_neg (Nat.not_lt_zero j)]; rfl
  | k + 1 => by
    have ho : ∀ i, (mNc k B).1 361 i = B.1 361 i := fun i => by
      unfold mNc
      exact zfor_at (fun i M => zw_ne (Or.inl (by omega))) k B
    show (zw (mNc k B) 360 k ((mNc k B).1 361 k)).1 360 j = _
    by_cases e : j = k
    · subst e
      rw [zw_same, ho, if_pos (by omega)]
    · rw [zw_ne (Or.inr e), mNc_at9 B j k]
      by_cases q : j < k
      · rw [if_pos q, if_pos (by omega)]
      · rw [if_neg q, if_neg (by omega)]
/-- a step is the same in both -/
theorem nrStep (hl : 180 ≤ lc) (hn7 : n ≤ 7) {A B : zM} (h : nrR lc n cn lb A B) : nrR lc n cn lb (nStep 170 40 lc n t md cn A) (mNst n t md (zMn cn lb) B) := by
  have key := zfor_pair (R := fun k A2 B2 => nrR lc n cn lb A2 B2 ∧ ∀ i, i < k → A2.1 172 i = B2.1 361 i ∧ (lb i = true → A2.1 172 i = A2.1 171 i)) (f := nS1 170 40 lc n t md cn) (g := mNoK1 n t md (zMn cn lb)) (n := n) (A := A) (B := B) (fun m A2 B2 hm hR => ?_) ⟨h, fun i hi => absurd hi (Nat.not_lt_zero _)⟩ n (Nat.le_refl n)
  · unfold nStep mNst nSt mNoK
    generalize zfor (nS1 170 40 lc n t md cn) n A = A3 at *
    generalize zfor (mNoK1 n t md (zMn cn lb)) n B = B3 at *
    obtain ⟨⟨k1, k2⟩, k3⟩ := key
    have oA : ∀ a j, a ≠ 171 → (nCp 170 n A3).1 a j = A3.1 a j := fun a j ha => nCp_o 170 n A3 ha
    have oB : ∀ a j, a ≠ 360 → (mNc n B3).1 a j = B3.1 a j := fun a j ha => by
      unfold mNc
      exact zfor_at (fun i M => zw_ne (Or.inl ha)) n B3
    refine ⟨k1.keep (fun a k h1 h2 => oA a k (by omega)) (oA _ _ (by omega)) (fun a k h1 => oB a k (by omega)) (oB _ _ (by omega)), fun i hi => ?_⟩
    rw [show (nCp 170 n A3).1 171 i = if i < n then A3.1 172 i else A3.1 171 i from nCp_at 170 A3 i n, mNc_at9, if_pos hi, if_pos hi, oA 45 i (by omega)]
    refine ⟨(k3 i hi).1, fun hb => ?_⟩
    rw [(k3 i hi).2 hb]
    exact (k2 i hi).2 hb
  · obtain ⟨r1, r2⟩ := hR
    have hq : mLiar B2 m = lb m := (r1.1.2.2 m (by omega)).2
    have hq2 : bit (A2.1 lc 0) m = lb m := (r1.1.2.2 m (by omega)).1
    have fin : ∀ (A3 B3 : zM) (v w : Int32), (∀ a j, (a < 172 ∨ 173 < a ∨ a = 172) → A3.1 a j = A2.1 a j) → (∀ a j, (a = 300 ∧ j = 11) ∨ a = 360 ∨ a = 361 ∨ a = 1208 ∨ 3100 ≤ a → B3.1 a j = B2.1 a j) → v = w → (lb m = true → v = A2.1 171 m) → nrR lc n cn lb (zw A3 172 m v) (zw B3 361 m w) ∧ ∀ i, i < m + 1 → (zw A3 172 m v).1 172 i = (zw B3 361 m w).1 361 i ∧ (lb i = true → (zw A3 172 m v).1 172 i = (zw A3 172 m v).1 171 i) := fun A3 B3 v w fA fB e1 e2 => by
      refine ⟨r1.go hl (fun a j ha => by rw [zw_ne (Or.inl (by omega))]; exact fA a j (by omega)) (fun a j ha => by rw [zw_ne (Or.inl (by omega))]; exact fB a j (by omega)), fun i hi => ?_⟩
      rw [zw_ne (a := 171) (Or.inl (by decide)), fA 171 i (by omega)]
      by_cases ei : i = m
      · subst ei
        rw [zw_same, zw_same]
        exact ⟨e1, e2⟩
      · rw [zw_ne (Or.inr ei), zw_ne (Or.inr ei), fA 172 i (by omega), fB 361 i (by omega)]
        exact r2 i (by omega)
    unfold nS1 mNoK1
    rw [hq, hq2]
    have e0 : A2.1 (170 + 1 + 0) m = B2.1 360 m := (r1.2 m hm).1
    cases hb : lb m with
    | true =>
      rw [if_pos (by simp), if_pos rfl]
      exact fin A2 B2 _ _ (fun _ _ _ => rfl) (fun _ _ _ => rfl) e0 (fun _ => rfl)
    | false =>
      rw [Bool.or_false, if_neg (show ¬ false = true by decide)]
      have fA9 : ∀ a j, (a < 172 ∨ 173 < a ∨ a = 172) → (nMv1 170 40 lc cn m n A2).1 a j = A2.1 a j := fun a j ha => nMv1_o 170 40 lc cn m n A2 (by omega)
      have fB9 : ∀ a j, (a = 300 ∧ j = 11) ∨ a = 360 ∨ a = 361 ∨ a = 1208 ∨ 3100 ≤ a → (mNs9 n (zMn cn lb) m B2).1 a j = B2.1 a j := fun a j ha => by
        unfold mNs9
        rw [mSrt_h a j (by omega)]
        by_cases e : a = 300
        · exact (mNa_N (zMn cn lb) m n B2).1 a j (by unfold mFrN; omega)
        · exact mNa_fr _ _ _ e (by omega)
      unfold mNv
      by_cases hq3 : n ≤ 2 * t
      · rw [if_pos (decide_eq_true hq3), if_pos hq3]
        exact fin A2 _ _ _ (fun _ _ _ => rfl) fB9 e0 (fun _ => rfl)
      · rw [if_neg (by rw [decide_eq_false hq3]; decide), if_neg hq3]
        refine fin _ _ _ _ fA9 fB9 ?_ (fun e => by rw [hb] at e; cases e)
        unfold nMv
        rw [nMvR_congr (T := mNS (mNs9 n (zMn cn lb) m B2)) (by omega) (fun a ha => ?_)]
        have h9 := nrRow hl hn7 r1 hm hb (n - 1) (by omega) a (by omega)
        rw [show n - 1 + 1 = n by omega] at h9
        show ((nMv1 170 40 lc cn m n A2).1 173 a).toUInt32 = ((mNs9 n (zMn cn lb) m B2).1 362 a).toUInt32
        rw [h9]
        rfl
theorem mNb_at9 (B : zM) (j : Nat) : ∀ k, j < k → (mNb k B).1 360 j = B.1 313 j
  | 0, h => absurd h (Nat.not_lt_zero _)
  | k + 1, h => by
    have ho : ∀ i, (mNb k B).1 313 i = B.1 313 i := fun i => by
      unfold mNb
      exact zfor_at (fun i M => zw_ne (Or.inl (by omega))) k B
    show (zw (mNb k B) 360 k ((mNb k B).1 313 k)).1 360 j = _
    by_cases e : j = k
    · subst e
      rw [zw_same, ho]
    · rw [zw_ne (Or.inr e)]
      exact mNb_at9 B j k (by omega)
theorem nrBeg (hl : 180 ≤ lc) (hn7 : n ≤ 7) {A B : zM} (hS : zS lc cn (zMn cn lb) lb A B) (hv : ∀ j, j < 7 → A.1 45 j = B.1 313 j) : nrR lc n cn lb (nBeg 170 40 7 A) (mNb n B) := by
  have oA : ∀ a j, a ≠ 171 → (nBeg 170 40 7 A).1 a j = A.1 a j := fun a j ha => by
    unfold nBeg
    exact zfor_at (fun i M => zw_ne (Or.inl ha)) 7 A
  have oB : ∀ a j, a ≠ 360 → (mNb n B).1 a j = B.1 a j := fun a j ha => by
    unfold mNb
    exact zfor_at (fun i M => zw_ne (Or.inl ha)) n B
  refine ⟨hS.keep (fun a k h1 h2 => oA a k (by omega)) (oA _ _ (by omega)) (fun a k h1 => oB a k (by omega)) (oB _ _ (by omega)), fun i hi => ?_⟩
  have e1 : (nBeg 170 40 7 A).1 171 i = A.1 45 i := nBeg_at 170 40 A (by omega) i 7 (by omega)
  rw [mNb_at9 _ _ _ hi, e1, oA 45 i (by decide)]
  exact ⟨hv i (by omega), fun _ => rfl⟩
theorem nrPl (hl : 180 ≤ lc) (hn7 : n ≤ 7) {A B : zM} (hS : zS lc cn (zMn cn lb) lb A B) (hv : ∀ j, j < 7 → A.1 45 j = B.1 313 j) (k : Nat) : nrR lc n cn lb (nPl 170 40 lc n t md cn k A) (mNg n t md (zMn cn lb) k B) := by
  unfold nPl mNg
  exact zfor_pair (R := fun _ A B => nrR lc n cn lb A B) (n := k) (fun i A2 B2 _ hR => nrStep hl hn7 hR) (nrBeg hl hn7 hS hv) k (Nat.le_refl k)
theorem nrW (hn7 : n ≤ 7) {A B : zM} (h : nrR lc n cn lb A B) (hb : ∀ i, i < 7 → fb 1 (A.1 171 i).toUInt32) : nWd (A.1 171) (A.1 lc 0) n = mSpr n B :=
  nWd_mSpr (fun i hi => by rw [(h.1.2.2 i (by omega)).1, (h.1.2.2 i (by omega)).2]) (fun i hi => (h.2 i hi).1) (fun i hi => hb i (by omega))
theorem nrSum (hn7 : n ≤ 7) {A B : zM} (h : nrR lc n cn lb A B) : ∀ k, k ≤ n → dSum (A.1 171) (A.1 lc 0) k = mDs B k
  | 0, _ => rfl
  | k + 1, hk => by
    show FP.dadd (dSum (A.1 171) (A.1 lc 0) k) (if bit (A.1 lc 0) k then FP.dconst0 else FP.f2d (A.1 171 k).toUInt32) = FP.dadd (mDs B k) (if mLiar B k then FP.dconst0 else FP.f2d (B.1 360 k).toUInt32)
    rw [nrSum hn7 h k (by omega), (h.1.2.2 k (by omega)).1, (h.1.2.2 k (by omega)).2, (h.2 k (by omega)).1]
theorem nrLs (hl : 180 ≤ lc) (hn7 : n ≤ 7) (hL : lyF lc 170 (170 + 3)) {lim : UInt32} : ∀ (f k : Nat) (A B : zM), nIv 170 40 lc n t cn A → nrR lc n cn lb A B → (nLs 170 40 lc n t md cn lim f k A).1 = (mLq n t md (zMn cn lb) lim f k B).1 ∧ kZ 170 (170 + 3) A (nLs 170 40 lc n t md cn lim f k A).2 ∧ kN B (mLq n t md (zMn cn lb) lim f k B).2
  | 0, k, A, B, _, _ => ⟨rfl, kZ.rf, zKf.rf⟩
  | f + 1, k, A, B, hi, h => by
    unfold nLs mLq
    rw [show nWd (A.1 (170 + 1 + 0)) (A.1 lc 0) n = mSpr n B from nrW hn7 h (fun i hi9 => hi.2.2.2.2.2.2 i hi9)]
    split
    · exact ⟨rfl, kZ.rf, zKf.rf⟩
    · obtain ⟨g1, g2, g3⟩ := nrLs hl hn7 hL (lim := lim) f (k + 1) _ _ (nStep_iv (md := md) hi hL (by omega) hn7) (nrStep (t := t) (md := md) hl hn7 h)
      exact ⟨g1, ((nSt_Z 170 40 lc n t md cn n A).tr (nCp_Z 170 n _)).tr g2, (mNst_N n t md _ B).tr g3⟩
end zNear2
