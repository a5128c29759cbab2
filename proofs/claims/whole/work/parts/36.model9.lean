-- SIGNED of the model: a whole run
theorem pig : ∀ (m k : Nat) (f : Nat → Nat), (∀ i, i < k → f i < m) → (∀ i j, i < j → j < k → f i ≠ f j) → k ≤ m
  | 0, k, f, h1, _ => Nat.le_of_not_lt (fun q => absurd (h1 0 q) (Nat.not_lt_zero _))
  | m + 1, 0, _, _, _ => Nat.zero_le _
  | m + 1, k + 1, f, h1, h2 => by
    have := pig m k (fun i => if f k < f i then f i - 1 else f i) (fun i hi => by
      have q1 := h1 i (by omega)
      have q2 := h1 k (by omega)
      have q3 := h2 i k hi (by omega)
      show (if f k < f i then f i - 1 else f i) < m
      split <;> omega) (fun i j hij hj => by
      have q1 := h2 i j hij (by omega)
      have q2 := h2 i k (by omega) (by omega)
      have q3 := h2 j k (by omega) (by omega)
      show (if f k < f i then f i - 1 else f i) ≠ (if f k < f j then f j - 1 else f j)
      split <;> split <;> omega)
    omega
/-- what one write to x may change -/
def mFrW (x a j : Nat) : Prop := (a = 300 ∧ (j = 16 ∨ (38 ≤ j ∧ j ≤ 40))) ∨ a = 333 ∨ ((a = 332 ∨ a = 334) ∧ j = x) ∨ a = 1544 + x ∨ a = 1560 + x ∨ a = 1576 + x ∨ a = 1592 + x
def mFrS (a j : Nat) : Prop := (a = 300 ∧ (j = 16 ∨ (38 ≤ j ∧ j ≤ 41))) ∨ (332 ≤ a ∧ a ≤ 334) ∨ (1544 ≤ a ∧ a < 1600)
theorem mFrW_S {x : Nat} (hx : x < 7) (a j : Nat) (h : mFrW x a j) : mFrS a j := by unfold mFrW at h; unfold mFrS; omega
theorem mTakes_W (x : Nat) (v sg : Int32) (f r : Nat) (M : zM) : zKf (mFrW x) M (mTakes x v sg f r M) := by
  unfold mTakes
  split
  · exact zKf.rf
  · unfold mPutT
    exact (((((zKf.rf.w (by unfold mFrW; omega)).w (by unfold mFrW; omega)).w (by unfold mFrW; omega)).w (by unfold mFrW; omega)).w (by unfold mFrW; omega)).w (by unfold mFrW; omega)
theorem mWc_W (s x : Nat) (M : zM) : zKf (mFrW x) M (mWc s M) := (zKf.rf.w (by unfold mFrW; omega)).w (by unfold mFrW; omega)
theorem mWw_W (w : Option (Option Int32)) (s x r : Nat) (v sg : Int32) (M : zM) : zKf (mFrW x) M (mWw w s x r v sg M) := by
  unfold mWw
  split
  · exact zKf.rf
  · exact (mWc_W s x M).w (by unfold mFrW; omega)
  · split
    · exact (mWc_W s x M).w (by unfold mFrW; omega)
    · exact (mWc_W s x M).tr (mTakes_W x _ _ _ _ _)
theorem mWrites_W (mn : Nat → Option Nat) (s x r : Nat) (o v sg : Int32) (M : zM) : zKf (mFrW x) M (mWrites mn s x r o v sg M) := by
  unfold mWrites
  exact (show zKf (mFrW x) M (mSb _ v M) from zKf.rf.w (by unfold mFrW; omega)).tr (mWw_W _ s x r v sg _)
/-- the values that the commander c may bring in are V; what each has taken is of them, and unlike -/
def gOk (c : Nat) (V : Nat → Int32) (M : zM) : Prop := ∀ x, x < 7 → M.1 332 x = nI (mTk9 M x) ∧ mTk9 M x ≤ 59 ∧ (∀ i, i < mTk9 M x → ∃ y, y < 7 ∧ y ≠ c ∧ M.1 (1544 + x) i = V y) ∧ ∀ i j, i < j → j < mTk9 M x → M.1 (1544 + x) i ≠ M.1 (1544 + x) j
theorem gOk.tok {c : Nat} {V : Nat → Int32} {M : zM} (h : gOk c V M) : mTok M := fun x hx => ⟨(h x hx).1, (h x hx).2.1⟩
theorem gOk.le6 {c : Nat} {V : Nat → Int32} {M : zM} (h : gOk c V M) (hc : c < 7) {x : Nat} (hx : x < 7) : mTk9 M x ≤ 6 := by
  obtain ⟨-, -, h3, h4⟩ := h x hx
  have hf : ∀ i, ∃ y, i < mTk9 M x → y < 7 ∧ y ≠ c ∧ M.1 (1544 + x) i = V y := fun i => by
    by_cases hi : i < mTk9 M x
    · obtain ⟨y, hy⟩ := h3 i hi
      exact ⟨y, fun _ => hy⟩
    · exact ⟨0, fun q => absurd q hi⟩
  refine pig 6 (mTk9 M x) (fun i => if c < Classical.choose (hf i) then Classical.choose (hf i) - 1 else Classical.choose (hf i)) (fun i hi => ?_) (fun i j hij hj => ?_)
  · have q := Classical.choose_spec (hf i) hi
    show (if _ < _ then _ else _) < 6
    split <;> omega
  · have qi := Classical.choose_spec (hf i) (by omega)
    have qj := Classical.choose_spec (hf j) hj
    have hne : Classical.choose (hf i) ≠ Classical.choose (hf j) := fun e => h4 i j hij hj (by rw [qi.2.2, qj.2.2, e])
    show (if _ < _ then _ else _) ≠ (if _ < _ then _ else _)
    split <;> split <;> omega
theorem gOk_of {c : Nat} {V : Nat → Int32} {M M' : zM} (h : gOk c V M) (h1 : ∀ x, x < 7 → M'.1 332 x = M.1 332 x) (h2 : ∀ x i, x < 7 → M'.1 (1544 + x) i = M.1 (1544 + x) i) : gOk c V M' := fun x hx => by
  have e : mTk9 M' x = mTk9 M x := by unfold mTk9; rw [show 300 + 1 + 31 = 332 from rfl, h1 x hx]
  rw [e]
  obtain ⟨a, b, d, f⟩ := h x hx
  refine ⟨by rw [h1 x hx]; exact a, b, fun i hi => ?_, fun i j hij hj => ?_⟩
  · rw [h2 x i hx]; exact d i hi
  · rw [h2 x i hx, h2 x j hx]; exact f i j hij hj
theorem gOk_takes {c x f r : Nat} {V : Nat → Int32} {v sg : Int32} {M : zM} (h : gOk c V M) (hc : c < 7) (hx : x < 7) (hv : ∃ y, y < 7 ∧ y ≠ c ∧ v = V y) : gOk c V (mTakes x v sg f r M) := by
  unfold mTakes
  split
  · exact h
  · rename_i hz
    have hle := h.le6 hc hx
    have hnew : ∀ i, i < mTk9 M x → M.1 (1544 + x) i ≠ v := fun i hi e => hz (zany_true (k := i) hi (by show (mTB M x i == v) = true; unfold mTB; rw [show 1000 + 16 * 34 + x = 1544 + x by omega, e]; simp))
    intro z hz7
    have e332 : (mPutT x (mTk9 M x) v sg f r M).1 332 z = if z = x then nI (mTk9 M x + 1) else M.1 332 z := by
      unfold mPutT
      rw [zw_ne (by omega), zw_at]
      by_cases hzx : z = x
      · rw [if_pos ⟨rfl, hzx⟩, if_pos hzx]
      · rw [if_neg (fun q => hzx q.2), if_neg hzx, zw_ne (by omega), zw_ne (by omega), zw_ne (by omega), zw_ne (by omega)]
    have eB : ∀ i, (mPutT x (mTk9 M x) v sg f r M).1 (1544 + z) i = if z = x ∧ i = mTk9 M x then v else M.1 (1544 + z) i := fun i => by
      unfold mPutT
      rw [zw_ne (by omega), zw_ne (by omega), zw_ne (by omega), zw_ne (by omega), zw_ne (by omega), zw_at]
      by_cases hq : z = x ∧ i = mTk9 M x
      · rw [if_pos ⟨by omega, hq.2⟩, if_pos hq]
      · rw [if_neg (fun q => hq ⟨by omega, q.2⟩), if_neg hq]
    obtain ⟨g1, g2, g3, g4⟩ := h z hz7
    by_cases hzx : z = x
    · have hk : mTk9 (mPutT x (mTk9 M x) v sg f r M) z = mTk9 M x + 1 := by
        show zN ((mPutT x (mTk9 M x) v sg f r M).1 332 z) = _
        rw [e332, if_pos hzx, zN_nI (by omega)]
      subst hzx
      rw [hk]
      refine ⟨by rw [e332, if_pos rfl], by omega, fun i hi => ?_, fun i j hij hj => ?_⟩
      · rw [eB]
        by_cases hi2 : i = mTk9 M z
        · rw [if_pos ⟨rfl, hi2⟩]; exact hv
        · rw [if_neg (fun q => hi2 q.2)]; exact g3 i (by omega)
      · rw [eB, eB, if_neg (fun q => by omega)]
        by_cases hj2 : j = mTk9 M z
        · rw [if_pos ⟨rfl, hj2⟩]; exact hnew i (by omega)
        · rw [if_neg (fun q => hj2 q.2)]; exact g4 i j hij (by omega)
    · have hk : mTk9 (mPutT x (mTk9 M x) v sg f r M) z = mTk9 M z := by
        show zN ((mPutT x (mTk9 M x) v sg f r M).1 332 z) = _
        rw [e332, if_neg hzx]
      rw [hk]
      refine ⟨by rw [e332, if_neg hzx]; exact g1, g2, fun i hi => ?_, fun i j hij hj => ?_⟩
      · rw [eB, if_neg (fun q => hzx q.1)]; exact g3 i hi
      · rw [eB, eB, if_neg (fun q => hzx q.1), if_neg (fun q => hzx q.1)]; exact g4 i j hij hj
theorem gOk_wc {c s : Nat} {V : Nat → Int32} {M : zM} (h : gOk c V M) : gOk c V (mWc s M) := gOk_of h (fun x _ => mWc_c (by omega)) (fun x i hx => mWc_c (by omega))
theorem gOk_writes {c s x r : Nat} {V : Nat → Int32} {mn : Nat → Option Nat} {o v sg : Int32} {M : zM} (h : gOk c V M) (hc : c < 7) (hx : x < 7) (hv : ∀ u, mSay M mn s r x o v = some (some u) → (1 < r ∧ ¬ u = v) ∨ ∃ y, y < 7 ∧ y ≠ c ∧ u = V y) : gOk c V (mWrites mn s x r o v sg M) := by
  unfold mWrites
  have h1 : gOk c V (mSb (mSay M mn s r x o v) v M) := gOk_of h (fun x _ => zw_ne (by omega)) (fun x i hx => zw_ne (by omega))
  cases hw : mSay M mn s r x o v with
  | none => rw [hw] at h1; exact h1
  | some w => cases w with
    | none => rw [hw] at h1; exact gOk_of (gOk_wc (s := s) h1) (fun x _ => zw_ne (by omega)) (fun x i hx => zw_ne (by omega))
    | some u =>
      rw [hw] at h1
      show gOk c V (if 1 < r ∧ ¬ u = v then _ else _)
      split
      · exact gOk_of (gOk_wc (s := s) h1) (fun x _ => zw_ne (by omega)) (fun x i hx => zw_ne (by omega))
      · rename_i hn
        exact gOk_takes (gOk_wc h1) hc hx ((hv u hw).resolve_left hn)
def gV (M0 : zM) (mn : Nat → Option Nat) (c : Nat) (own : Int32) (y : Nat) : Int32 := mSa (mSay M0 mn c 1 y (nI c) own) own
def mWf (c : Nat) (mn : Nat → Option Nat) (x : Nat) (M : zM) : zM := if x = c then M else mWrites mn c x 1 (nI c) (M.1 (300 + 1 + 12) c) (nI 0) M
def mWx (s k r : Nat) (mn : Nat → Option Nat) (x : Nat) (M : zM) : zM := if x = s then M else if bit (M.1 (1000 + 16 * 35 + s) k) x then M else mWrites mn s x r (M.1 (1000 + 16 * 36 + s) k) (M.1 (1000 + 16 * 34 + s) k) (M.1 (1000 + 16 * 35 + s) k) M
def mWX (s k r : Nat) (mn : Nat → Option Nat) (j : Nat) (M : zM) : zM := zfor (mWx s k r mn) j M
def mWk (n s r : Nat) (mn : Nat → Option Nat) (k : Nat) (M : zM) : zM := if M.1 (1000 + 16 * 37 + s) k = nI (r - 1) then mWX s k r mn n M else M
def mWK (n s r : Nat) (mn : Nat → Option Nat) (j : Nat) (M : zM) : zM := zfor (mWk n s r mn) j M
def mWs (n r : Nat) (mn : Nat → Option Nat) (s : Nat) (M : zM) : zM := mWK n s r mn (mTk9 M s) M
def mWS (n r : Nat) (mn : Nat → Option Nat) (j : Nat) (M : zM) : zM := zfor (mWs n r mn) j M
def mS0 (c : Nat) (M : zM) : zM := zw (zw (zw (zw M 300 41 (nI c)) 300 38 (nI 0)) 300 39 (nI 0)) 300 40 (nI 0)
def mSz (c k : Nat) (M : zM) : zM := zfor (fun m M => zw (zw (zw M (300 + 1 + 31) m (nI 0)) (300 + 1 + 32) m (nI 0)) (300 + 1 + 33) m (nI 0)) k (mS0 c M)
def mSf (c : Nat) (mn : Nat → Option Nat) (k : Nat) (M : zM) : zM := zfor (mWf c mn) k (mSz c 7 M)
def mSigns (c n : Nat) (mn : Nat → Option Nat) (k : Nat) (M : zM) : zM := zfor (fun i M => mWS n (i + 2) mn n M) k (mSf c mn n M)
abbrev kS (M M' : zM) : Prop := zKf mFrS M M'
theorem mWrites_S {x : Nat} (hx : x < 7) (mn : Nat → Option Nat) (s r : Nat) (o v sg : Int32) (M : zM) : kS M (mWrites mn s x r o v sg M) := (mWrites_W mn s x r o v sg M).mono (mFrW_S hx)
theorem mWx_S {x : Nat} (hx : x < 7) (s k r : Nat) (mn : Nat → Option Nat) (M : zM) : kS M (mWx s k r mn x M) := by
  unfold mWx
  split
  · exact zKf.rf
  · split
    · exact zKf.rf
    · exact mWrites_S hx _ _ _ _ _ _ _
/-- nothing of the row of s is changed by what it writes itself -/
theorem mWx_own {s k r x a j : Nat} (hs : s < 7) (hx : x < 7) (mn : Nat → Option Nat) (M : zM) (h : (a = 332 ∧ j = s) ∨ a = 1544 + s ∨ a = 1560 + s ∨ a = 1576 + s ∨ a = 1592 + s) : (mWx s k r mn x M).1 a j = M.1 a j := by
  unfold mWx
  split
  · rfl
  · split
    · rfl
    · exact (mWrites_W mn s x r _ _ _ M).1 a j (by unfold mFrW; omega)
theorem mWX_own {s k r n a j : Nat} (hs : s < 7) (hn : n ≤ 7) (mn : Nat → Option Nat) (M : zM) (h : (a = 332 ∧ j = s) ∨ a = 1544 + s ∨ a = 1560 + s ∨ a = 1576 + s ∨ a = 1592 + s) : (mWX s k r mn n M).1 a j = M.1 a j := by
  unfold mWX
  induction n with
  | zero => rfl
  | succ n ih => show (mWx s k r mn n (zfor _ n M)).1 a j = _; rw [mWx_own hs (by omega) mn _ h]; exact ih (by omega)
theorem mWk_own {s k r n a j : Nat} (hs : s < 7) (hn : n ≤ 7) (mn : Nat → Option Nat) (M : zM) (h : (a = 332 ∧ j = s) ∨ a = 1544 + s ∨ a = 1560 + s ∨ a = 1576 + s ∨ a = 1592 + s) : (mWk n s r mn k M).1 a j = M.1 a j := by
  unfold mWk
  split
  · exact mWX_own hs hn mn M h
  · rfl
theorem mWK_own {s q r n a j : Nat} (hs : s < 7) (hn : n ≤ 7) (mn : Nat → Option Nat) (M : zM) (h : (a = 332 ∧ j = s) ∨ a = 1544 + s ∨ a = 1560 + s ∨ a = 1576 + s ∨ a = 1592 + s) : (mWK n s r mn q M).1 a j = M.1 a j := by
  unfold mWK
  induction q with
  | zero => rfl
  | succ q ih => show (mWk n s r mn q (zfor _ q M)).1 a j = _; rw [mWk_own hs hn mn _ h]; exact ih
theorem mWX_S {s k r n : Nat} (hn : n ≤ 7) (mn : Nat → Option Nat) (M : zM) : kS M (mWX s k r mn n M) := zKf.for n M (fun i M hi => mWx_S (by omega) s k r mn M)
theorem mWk_S {s k r n : Nat} (hn : n ≤ 7) (mn : Nat → Option Nat) (M : zM) : kS M (mWk n s r mn k M) := by
  unfold mWk
  split
  · exact mWX_S hn mn M
  · exact zKf.rf
theorem mWK_S {s q r n : Nat} (hn : n ≤ 7) (mn : Nat → Option Nat) (M : zM) : kS M (mWK n s r mn q M) := zKf.for q M (fun i M _ => mWk_S hn mn M)
theorem mWS_S {q r n : Nat} (hn : n ≤ 7) (mn : Nat → Option Nat) (M : zM) : kS M (mWS n r mn q M) := zKf.for q M (fun i M _ => mWK_S hn mn M)
theorem mWf_S {c x : Nat} (hx : x < 7) (mn : Nat → Option Nat) (M : zM) : kS M (mWf c mn x M) := by
  unfold mWf
  split
  · exact zKf.rf
  · exact mWrites_S hx _ _ _ _ _ _ _
theorem mSz_S {c k : Nat} (M : zM) : kS M (mSz c k M) := by
  refine zKf.tr (M1 := mS0 c M) ?_ (zKf.for k _ (fun i M _ => ?_))
  · exact (((zKf.rf.w (by unfold mFrS; omega)).w (by unfold mFrS; omega)).w (by unfold mFrS; omega)).w (by unfold mFrS; omega)
  · exact ((zKf.rf.w (by unfold mFrS; omega)).w (by unfold mFrS; omega)).w (by unfold mFrS; omega)
theorem mSf_S {c k : Nat} (hk : k ≤ 7) (mn : Nat → Option Nat) (M : zM) : kS M (mSf c mn k M) := (mSz_S M).tr (zKf.for k _ (fun i M hi => mWf_S (by omega) mn M))
theorem mSigns_S {c n k : Nat} (hn : n ≤ 7) (mn : Nat → Option Nat) (M : zM) : kS M (mSigns c n mn k M) := (mSf_S hn mn M).tr (zKf.for k _ (fun i M _ => mWS_S hn mn M))
theorem kS.ln {M M1 : zM} (h : kS M M1) {mn : Nat → Option Nat} (e : mLn 0 M mn) : mLn 0 M1 mn := fun s hs => ⟨(h.1 _ _ (by unfold mFrS; omega)).trans (e s hs).1, (e s hs).2⟩
theorem kS.say {M M1 : zM} (h : kS M M1) (mn : Nat → Option Nat) (s r x : Nat) (o tr : Int32) : mSay M1 mn s r x o tr = mSay M mn s r x o tr := mSayF_eq (fun a j ha => h.1 a j (by unfold mFrS; omega)) s r x o tr _ _
theorem mSz_ok {c : Nat} {V : Nat → Int32} (M : zM) : gOk c V (mSz c 7 M) := by
  have h : ∀ k x, x < k → (mSz c k M).1 332 x = nI 0 := fun k => by
    induction k with
    | zero => exact fun x hx => absurd hx (Nat.not_lt_zero _)
    | succ k ih =>
      intro x hx
      show (zw (zw (zw (mSz c k M) 332 k (nI 0)) 333 k (nI 0)) 334 k (nI 0)).1 332 x = _
      rw [zw_ne (by omega), zw_ne (by omega), zw_at]
      by_cases hxk : x = k
      · rw [if_pos ⟨rfl, hxk⟩]
      · rw [if_neg (fun q => hxk q.2)]; exact ih x (by omega)
  intro x hx
  have h1 := h 7 x hx
  have h2 : mTk9 (mSz c 7 M) x = 0 := by show zN ((mSz c 7 M).1 332 x) = 0; rw [h1]; rfl
  rw [h2]
  exact ⟨h1, Nat.zero_le _, fun i hi => absurd hi (Nat.not_lt_zero _), fun i j _ hj => absurd hj (Nat.not_lt_zero _)⟩
theorem mSf_ok {c : Nat} (hc : c < 7) (mn : Nat → Option Nat) (M : zM) : ∀ {k : Nat}, k ≤ 7 → gOk c (gV M mn c (M.1 (300 + 1 + 12) c)) (mSf c mn k M)
  | 0, _ => mSz_ok M
  | k + 1, hk => by
    show gOk c _ (mWf c mn k (mSf c mn k M))
    have ih := mSf_ok hc mn M (k := k) (by omega)
    unfold mWf
    split
    · exact ih
    · rename_i hkc
      have hS := mSf_S (c := c) (k := k) (by omega) mn M
      have e1 : (mSf c mn k M).1 (300 + 1 + 12) c = M.1 (300 + 1 + 12) c := hS.1 _ _ (by unfold mFrS; omega)
      rw [e1]
      refine gOk_writes ih hc (by omega) (fun u hu => Or.inr ⟨k, by omega, hkc, ?_⟩)
      rw [hS.say] at hu
      unfold gV
      rw [hu]; rfl
theorem mWx_ok {c s k r x : Nat} {V : Nat → Int32} (hc : c < 7) (hs : s < 7) (hx : x < 7) (hr : 2 ≤ r) (mn : Nat → Option Nat) {M : zM} (h : gOk c V M) (hk : k < mTk9 M s) : gOk c V (mWx s k r mn x M) := by
  unfold mWx
  split
  · exact h
  · split
    · exact h
    · refine gOk_writes h hc hx (fun u hu => ?_)
      by_cases e : u = M.1 (1000 + 16 * 34 + s) k
      · right
        obtain ⟨y, h1, h2, h3⟩ := (h s hs).2.2.1 k hk
        refine ⟨y, h1, h2, ?_⟩
        rw [e, ← h3, show 1000 + 16 * 34 + s = 1544 + s by omega]
      · exact Or.inl ⟨by omega, e⟩
theorem mWX_ok {c s k r n : Nat} {V : Nat → Int32} (hc : c < 7) (hs : s < 7) (hn : n ≤ 7) (hr : 2 ≤ r) (mn : Nat → Option Nat) {M : zM} (h : gOk c V M) (hk : k < mTk9 M s) : gOk c V (mWX s k r mn n M) := by
  induction n with
  | zero => exact h
  | succ n ih =>
    show gOk c V (mWx s k r mn n (mWX s k r mn n M))
    refine mWx_ok hc hs (by omega) hr mn (ih (by omega)) ?_
    show k < zN _
    rw [mWX_own hs (by omega) mn M (Or.inl ⟨rfl, rfl⟩)]
    exact hk
theorem mWK_ok {c s q r n : Nat} {V : Nat → Int32} (hc : c < 7) (hs : s < 7) (hn : n ≤ 7) (hr : 2 ≤ r) (mn : Nat → Option Nat) {M : zM} (h : gOk c V M) (hq : q ≤ mTk9 M s) : gOk c V (mWK n s r mn q M) := by
  induction q with
  | zero => exact h
  | succ q ih =>
    show gOk c V (mWk n s r mn q (mWK n s r mn q M))
    have h1 := ih (by omega)
    unfold mWk
    split
    · refine mWX_ok hc hs hn hr mn h1 ?_
      show q < zN _
      rw [mWK_own hs hn mn M (Or.inl ⟨rfl, rfl⟩)]
      exact hq
    · exact h1
theorem mWS_ok {c q r n : Nat} {V : Nat → Int32} (hc : c < 7) (hn : n ≤ 7) (hr : 2 ≤ r) (hq : q ≤ 7) (mn : Nat → Option Nat) {M : zM} (h : gOk c V M) : gOk c V (mWS n r mn q M) := by
  induction q with
  | zero => exact h
  | succ q ih => exact mWK_ok hc (by omega) hn hr mn (ih (by omega)) (Nat.le_refl _)
theorem mSigns_ok {c n k : Nat} (hc : c < 7) (hn : n ≤ 7) (mn : Nat → Option Nat) (M : zM) : gOk c (gV M mn c (M.1 (300 + 1 + 12) c)) (mSigns c n mn k M) := by
  induction k with
  | zero => exact mSf_ok hc mn M hn
  | succ k ih => exact mWS_ok hc hn (by omega) hn mn ih
set_option maxHeartbeats 1000000 in
theorem zc_signs (l : Launch) (G : zG) (M : zM) (n c t : Nat) (mn : Nat → Option Nat) (hn : M.1 300 9 = nI n) (hn7 : n ≤ 7) (ht : M.1 300 10 = nI t) (ht2 : t ≤ 2) (hc7 : c < 7) (hmn : mLn 0 M mn) : zC l G 3 yX11_signs cX11_signs 6 (Option.none : Option Jvm.ClassFile.FieldType) [.ref (300 : Nat), .int (nI c)] M (zP none (mSigns c n mn t M)) := by
  refine zC_of (by decide) (Nat.le_of_ble_eq_true rfl) (fun X Q hQ hX hl hR hr => ?_)
  refine zV_loc (L' := [.ref (300 : Nat), .int (nI c), .null, .null, .null, .null]) rfl ?_
  have J91 : ∀ v2 : Value, zV G X Q 6 0 0 91 [.ref (300 : Nat), .int (nI c), v2, .null, .null, .null] [] (mSf c mn n M) := by
    intro v2
    have L93 : ∀ (f9 q : Nat) (v3 v4 v5 : Value), t - q < f9 → q ≤ t → zV G X Q 6 0 0 93 [.ref (300 : Nat), .int (nI c), .int (nI (q + 2)), v3, v4, v5] [] (mSigns c n mn q M) := by
      intro f9
      induction f9 with
      | zero => intro q v3 v4 v5 hq1 hq2; exact absurd hq1 (Nat.not_lt_zero _)
      | succ f9 ih =>
        intro q v3 v4 v5 hq1 hq2
        have hG := mSigns_S (c := c) (k := q) hn7 mn M
        have hGo := mSigns_ok (k := q) hc7 hn7 mn M
        have J233 : q < t → ∀ v3 v4 v5 : Value, zV G X Q 6 0 0 233 [.ref (300 : Nat), .int (nI c), .int (nI (q + 2)), v3, v4, v5] [] (mSigns c n mn (q + 1) M) := by
          intro hq9 v3 v4 v5
          refine zV_iincN hX (b := 1) dX11_signs_233 rfl (by decide) ?_
          dsimp only [zst1, zst2, zclr, zc2]
          refine zV_goto hX (tgt := 93) dX11_signs_236 (by decide) ?_
          exact ih (q + 1) _ _ _ (by omega) (by omega)
        have L105 : q < t → ∀ (f9 s : Nat) (v4 v5 : Value), n - s < f9 → s ≤ n → zV G X Q 6 0 0 105 [.ref (300 : Nat), .int (nI c), .int (nI (q + 2)), .int (nI s), v4, v5] [] (mWS n (q + 2) mn s (mSigns c n mn q M)) := by
          intro hq9
          intro f9
          induction f9 with
          | zero => intro s v4 v5 hs1 hs2; exact absurd hs1 (Nat.not_lt_zero _)
          | succ f9 ih2 =>
            intro s v4 v5 hs1 hs2
            have hA := hG.tr (mWS_S (q := s) (r := q + 2) hn7 mn (mSigns c n mn q M))
            have hAo := mWS_ok (q := s) (r := q + 2) hc7 hn7 (by omega) (by omega) mn hGo
            have J227 : s < n → ∀ v4 v5 : Value, zV G X Q 6 0 0 227 [.ref (300 : Nat), .int (nI c), .int (nI (q + 2)), .int (nI s), v4, v5] [] (mWS n (q + 2) mn (s + 1) (mSigns c n mn q M)) := by
              intro c_110 v4 v5
              refine zV_iincN hX (b := 1) dX11_signs_227 rfl (by decide) ?_
              dsimp only [zst1, zst2, zclr, zc2]
              refine zV_goto hX (tgt := 105) dX11_signs_230 (by decide) ?_
              exact ih2 (s + 1) _ _ (by omega) (by omega)
            have L116 : s < n → ∀ (f9 k : Nat) (v5 : Value), mTk9 (mWS n (q + 2) mn s (mSigns c n mn q M)) s - k < f9 → k ≤ mTk9 (mWS n (q + 2) mn s (mSigns c n mn q M)) s → zV G X Q 6 0 0 116 [.ref (300 : Nat), .int (nI c), .int (nI (q + 2)), .int (nI s), .int (nI k), v5] [] (mWK n s (q + 2) mn k (mWS n (q + 2) mn s (mSigns c n mn q M))) := by
              intro c_110
              intro f9
              induction f9 with
              | zero => intro k v5 hk1 hk2; exact absurd hk1 (Nat.not_lt_zero _)
              | succ f9 ih3 =>
                intro k v5 hk1 hk2
                have hB := hA.tr (mWK_S (s := s) (q := k) (r := q + 2) hn7 mn (mWS n (q + 2) mn s (mSigns c n mn q M)))
                have hBo := mWK_ok (q := k) (r := q + 2) hc7 (show s < 7 by omega) hn7 (by omega) mn hAo hk2
                have hkB : k < mTk9 (mWS n (q + 2) mn s (mSigns c n mn q M)) s → k < mTk9 (mWK n s (q + 2) mn k (mWS n (q + 2) mn s (mSigns c n mn q M))) s := fun z => by show k < zN _; rw [mWK_own (by omega) hn7 mn (mWS n (q + 2) mn s (mSigns c n mn q M)) (Or.inl ⟨rfl, rfl⟩)]; exact z
                have J221 : s < n → k < mTk9 (mWS n (q + 2) mn s (mSigns c n mn q M)) s → ∀ v5 : Value, zV G X Q 6 0 0 221 [.ref (300 : Nat), .int (nI c), .int (nI (q + 2)), .int (nI s), .int (nI k), v5] [] (mWk n s (q + 2) mn k (mWK n s (q + 2) mn k (mWS n (q + 2) mn s (mSigns c n mn q M)))) := by
                  intro c_110 c_124 v5
                  refine zV_iincN hX (b := 1) dX11_signs_221 rfl (by decide) ?_
                  dsimp only [zst1, zst2, zclr, zc2]
                  refine zV_goto hX (tgt := 116) dX11_signs_224 (by decide) ?_
                  exact ih3 (k + 1) _ (by omega) (by omega)
                have L148 : s < n → k < mTk9 (mWS n (q + 2) mn s (mSigns c n mn q M)) s → mWk n s (q + 2) mn k (mWK n s (q + 2) mn k (mWS n (q + 2) mn s (mSigns c n mn q M))) = mWX s k (q + 2) mn n (mWK n s (q + 2) mn k (mWS n (q + 2) mn s (mSigns c n mn q M))) → ∀ (f9 x : Nat), n - x < f9 → x ≤ n → zV G X Q 6 0 0 148 [.ref (300 : Nat), .int (nI c), .int (nI (q + 2)), .int (nI s), .int (nI k), .int (nI x)] [] (mWX s k (q + 2) mn x (mWK n s (q + 2) mn k (mWS n (q + 2) mn s (mSigns c n mn q M)))) := by
                  intro c_110 c_124 e9
                  intro f9
                  induction f9 with
                  | zero => intro x hx1 hx2; exact absurd hx1 (Nat.not_lt_zero _)
                  | succ f9 ih4 =>
                    intro x hx1 hx2
                    have hC := hB.tr (mWX_S (s := s) (k := k) (r := q + 2) (n := x) (by omega) mn (mWK n s (q + 2) mn k (mWS n (q + 2) mn s (mSigns c n mn q M))))
                    have hCo := mWX_ok (k := k) (r := q + 2) (n := x) hc7 (show s < 7 by omega) (by omega) (by omega) mn hBo (hkB c_124)
                    refine zV_iload hX dX11_signs_148 rfl ?_
                    refine zV_aload_n hX dX11_signs_150 rfl ?_
                    refine zV_geti hX dX11_signs_151 zf_X11_20 zo300.1 rfl (hC.at hn (by unfold mFrS; omega)) ?_
                    refine zV_icmp_geN hX (tgt := 221) dX11_signs_154 (by decide) ⟨by omega, by omega⟩ (fun c_154 => ?_) (fun c_154 => ?_)
                    · have hxn : x = n := by omega
                      refine zV_mem (show _ = mWk n s (q + 2) mn k (mWK n s (q + 2) mn k (mWS n (q + 2) mn s (mSigns c n mn q M))) by rw [e9, hxn]) (J221 c_110 c_124 _)
                    · refine zV_iload hX dX11_signs_157 rfl ?_
                      refine zV_iload_n hX dX11_signs_159 rfl ?_
                      refine zV_icmp_eqN hX (tgt := 215) dX11_signs_160 (by decide) ⟨by omega, by omega⟩ (fun c_160 => ?_) (fun c_160 => ?_)
                      · have e8 : mWx s k (q + 2) mn x (mWX s k (q + 2) mn x (mWK n s (q + 2) mn k (mWS n (q + 2) mn s (mSigns c n mn q M)))) = (mWX s k (q + 2) mn x (mWK n s (q + 2) mn k (mWS n (q + 2) mn s (mSigns c n mn q M)))) := if_pos c_160
                        refine zV_iincN hX (b := 1) dX11_signs_215 rfl (by decide) ?_
                        dsimp only [zst1, zst2, zclr, zc2]
                        refine zV_goto hX (tgt := 148) dX11_signs_218 (by decide) ?_
                        have h9 := ih4 (x + 1) (by omega) (by omega)
                        rw [show mWX s k (q + 2) mn (x + 1) (mWK n s (q + 2) mn k (mWS n (q + 2) mn s (mSigns c n mn q M))) = mWx s k (q + 2) mn x (mWX s k (q + 2) mn x (mWK n s (q + 2) mn k (mWS n (q + 2) mn s (mSigns c n mn q M)))) from rfl, e8] at h9
                        exact h9
                      · refine zV_aload_n hX dX11_signs_163 rfl ?_
                        refine zV_geta hX dX11_signs_164 zf_X11_77 zo300.1 rfl ?_
                        refine zV_iload_n hX dX11_signs_167 rfl ?_
                        refine zV_aald hX dX11_signs_168 (t := 0) (zo300.a 35 rfl) (by decide) (rfl) ⟨by omega, by omega⟩ (mRow 35 (by decide)) ?_
                        refine zV_iload hX dX11_signs_169 rfl ?_
                        refine zV_iald hX dX11_signs_171 (mSh35 (by omega)) (rfl) ⟨by have := (hAo s (by omega)).2.1; omega, by omega⟩ (rfl) ?_
                        refine zV_iload hX dX11_signs_172 rfl ?_
                        refine zV_ishr hX dX11_signs_174 ?_
                        refine zV_iconst hX (v := nI 1) dX11_signs_175 (by decide) ?_
                        refine zV_iand hX dX11_signs_176 ?_
                        refine zV_if_ne hX (tgt := 215) dX11_signs_177 (by decide) (fun c_177 => ?_) (fun c_177 => ?_)
                        · have hb9 : bit ((mWX s k (q + 2) mn x (mWK n s (q + 2) mn k (mWS n (q + 2) mn s (mSigns c n mn q M)))).1 (1000 + 16 * 35 + s) k) x = true := by unfold bit; exact decide_eq_true c_177
                          have e8 : mWx s k (q + 2) mn x (mWX s k (q + 2) mn x (mWK n s (q + 2) mn k (mWS n (q + 2) mn s (mSigns c n mn q M)))) = (mWX s k (q + 2) mn x (mWK n s (q + 2) mn k (mWS n (q + 2) mn s (mSigns c n mn q M)))) := by unfold mWx; rw [if_neg c_160, if_pos hb9]
                          refine zV_iincN hX (b := 1) dX11_signs_215 rfl (by decide) ?_
                          dsimp only [zst1, zst2, zclr, zc2]
                          refine zV_goto hX (tgt := 148) dX11_signs_218 (by decide) ?_
                          have h9 := ih4 (x + 1) (by omega) (by omega)
                          rw [show mWX s k (q + 2) mn (x + 1) (mWK n s (q + 2) mn k (mWS n (q + 2) mn s (mSigns c n mn q M))) = mWx s k (q + 2) mn x (mWX s k (q + 2) mn x (mWK n s (q + 2) mn k (mWS n (q + 2) mn s (mSigns c n mn q M)))) from rfl, e8] at h9
                          exact h9
                        · have hb9 : bit ((mWX s k (q + 2) mn x (mWK n s (q + 2) mn k (mWS n (q + 2) mn s (mSigns c n mn q M)))).1 (1000 + 16 * 35 + s) k) x = false := by unfold bit; exact decide_eq_false (not_not_intro c_177)
                          have e8 : mWx s k (q + 2) mn x (mWX s k (q + 2) mn x (mWK n s (q + 2) mn k (mWS n (q + 2) mn s (mSigns c n mn q M)))) = mWrites mn s x (q + 2) ((mWX s k (q + 2) mn x (mWK n s (q + 2) mn k (mWS n (q + 2) mn s (mSigns c n mn q M)))).1 (1000 + 16 * 36 + s) k) ((mWX s k (q + 2) mn x (mWK n s (q + 2) mn k (mWS n (q + 2) mn s (mSigns c n mn q M)))).1 (1000 + 16 * 34 + s) k) ((mWX s k (q + 2) mn x (mWK n s (q + 2) mn k (mWS n (q + 2) mn s (mSigns c n mn q M)))).1 (1000 + 16 * 35 + s) k) (mWX s k (q + 2) mn x (mWK n s (q + 2) mn k (mWS n (q + 2) mn s (mSigns c n mn q M)))) := by unfold mWx; rw [if_neg c_160, if_neg (by rw [hb9]; decide)]
                          refine zV_aload_n hX dX11_signs_180 rfl ?_
                          refine zV_iload_n hX dX11_signs_181 rfl ?_
                          refine zV_iload hX dX11_signs_182 rfl ?_
                          refine zV_iload_n hX dX11_signs_184 rfl ?_
                          refine zV_aload_n hX dX11_signs_185 rfl ?_
                          refine zV_geta hX dX11_signs_186 zf_X11_80 zo300.1 rfl ?_
                          refine zV_iload_n hX dX11_signs_189 rfl ?_
                          refine zV_aald hX dX11_signs_190 (t := 0) (zo300.a 36 rfl) (by decide) (rfl) ⟨by omega, by omega⟩ (mRow 36 (by decide)) ?_
                          refine zV_iload hX dX11_signs_191 rfl ?_
                          refine zV_iald hX dX11_signs_193 (mSh36 (by omega)) (rfl) ⟨by have := (hAo s (by omega)).2.1; omega, by omega⟩ (rfl) ?_
                          refine zV_aload_n hX dX11_signs_194 rfl ?_
                          refine zV_geta hX dX11_signs_195 zf_X11_74 zo300.1 rfl ?_
                          refine zV_iload_n hX dX11_signs_198 rfl ?_
                          refine zV_aald hX dX11_signs_199 (t := 0) (zo300.a 34 rfl) (by decide) (rfl) ⟨by omega, by omega⟩ (mRow 34 (by decide)) ?_
                          refine zV_iload hX dX11_signs_200 rfl ?_
                          refine zV_iald hX dX11_signs_202 (mSh34 (by omega)) (rfl) ⟨by have := (hAo s (by omega)).2.1; omega, by omega⟩ (rfl) ?_
                          refine zV_aload_n hX dX11_signs_203 rfl ?_
                          refine zV_geta hX dX11_signs_204 zf_X11_77 zo300.1 rfl ?_
                          refine zV_iload_n hX dX11_signs_207 rfl ?_
                          refine zV_aald hX dX11_signs_208 (t := 0) (zo300.a 35 rfl) (by decide) (rfl) ⟨by omega, by omega⟩ (mRow 35 (by decide)) ?_
                          refine zV_iload hX dX11_signs_209 rfl ?_
                          refine zV_iald hX dX11_signs_211 (mSh35 (by omega)) (rfl) ⟨by have := (hAo s (by omega)).2.1; omega, by omega⟩ (rfl) ?_
                          refine zV_cV6p hX hR hl dX11_signs_212 (zc_writes l G (mWX s k (q + 2) mn x (mWK n s (q + 2) mn k (mWS n (q + 2) mn s (mSigns c n mn q M)))) s x (q + 2) ((mWX s k (q + 2) mn x (mWK n s (q + 2) mn k (mWS n (q + 2) mn s (mSigns c n mn q M)))).1 (1000 + 16 * 36 + s) k) ((mWX s k (q + 2) mn x (mWK n s (q + 2) mn k (mWS n (q + 2) mn s (mSigns c n mn q M)))).1 (1000 + 16 * 34 + s) k) ((mWX s k (q + 2) mn x (mWK n s (q + 2) mn k (mWS n (q + 2) mn s (mSigns c n mn q M)))).1 (1000 + 16 * 35 + s) k) mn (kS.ln hC hmn) hCo.tok (by omega) (by omega) (by omega)) zt_X11_writes rfl zml_X11_428 zo300.1 ⟨by decide, by decide⟩ (Nat.le_of_ble_eq_true rfl) ?_
                          dsimp only [Option.toList, List.cons_append, List.nil_append]
                          refine zV_iincN hX (b := 1) dX11_signs_215 rfl (by decide) ?_
                          dsimp only [zst1, zst2, zclr, zc2]
                          refine zV_goto hX (tgt := 148) dX11_signs_218 (by decide) ?_
                          have h9 := ih4 (x + 1) (by omega) (by omega)
                          rw [show mWX s k (q + 2) mn (x + 1) (mWK n s (q + 2) mn k (mWS n (q + 2) mn s (mSigns c n mn q M))) = mWx s k (q + 2) mn x (mWX s k (q + 2) mn x (mWK n s (q + 2) mn k (mWS n (q + 2) mn s (mSigns c n mn q M)))) from rfl, e8] at h9
                          exact h9
                refine zV_iload hX dX11_signs_116 rfl ?_
                refine zV_aload_n hX dX11_signs_118 rfl ?_
                refine zV_geta hX dX11_signs_119 zf_X11_65 zo300.1 rfl ?_
                refine zV_iload_n hX dX11_signs_122 rfl ?_
                refine zV_iald hX (v := nI (mTk9 (mWS n (q + 2) mn s (mSigns c n mn q M)) s)) dX11_signs_123 (zo300.a 31 rfl) (rfl) ⟨by omega, by omega⟩ ((mWK_own (by omega) hn7 mn (mWS n (q + 2) mn s (mSigns c n mn q M)) (Or.inl ⟨rfl, rfl⟩)).trans (hAo s (by omega)).1) ?_
                refine zV_icmp_geN hX (tgt := 227) dX11_signs_124 (by decide) ⟨by have := (hAo s (by omega)).2.1; omega, by have := (hAo s (by omega)).2.1; omega⟩ (fun c_124 => ?_) (fun c_124 => ?_)
                · have hkk : k = mTk9 (mWS n (q + 2) mn s (mSigns c n mn q M)) s := by omega
                  refine zV_mem (show _ = mWS n (q + 2) mn (s + 1) (mSigns c n mn q M) by show _ = mWK n s (q + 2) mn (mTk9 (mWS n (q + 2) mn s (mSigns c n mn q M)) s) (mWS n (q + 2) mn s (mSigns c n mn q M)); rw [← hkk]) (J227 c_110 _ _)
                · refine zV_aload_n hX dX11_signs_127 rfl ?_
                  refine zV_geta hX dX11_signs_128 zf_X11_83 zo300.1 rfl ?_
                  refine zV_iload_n hX dX11_signs_131 rfl ?_
                  refine zV_aald hX dX11_signs_132 (t := 0) (zo300.a 37 rfl) (by decide) (rfl) ⟨by omega, by omega⟩ (mRow 37 (by decide)) ?_
                  refine zV_iload hX dX11_signs_133 rfl ?_
                  refine zV_iald hX dX11_signs_135 (mSh37 (by omega)) (rfl) ⟨by have := (hAo s (by omega)).2.1; omega, by omega⟩ (rfl) ?_
                  refine zV_iload_n hX dX11_signs_136 rfl ?_
                  refine zV_iconst hX (v := nI 1) dX11_signs_137 (by decide) ?_
                  refine zV_isubN hX dX11_signs_138 (by omega) ?_
                  refine zV_icmp_eq hX (tgt := 145) dX11_signs_139 (by decide) (fun c_139 => ?_) (fun c_139 => ?_)
                  · have e9 : mWk n s (q + 2) mn k (mWK n s (q + 2) mn k (mWS n (q + 2) mn s (mSigns c n mn q M))) = mWX s k (q + 2) mn n (mWK n s (q + 2) mn k (mWS n (q + 2) mn s (mSigns c n mn q M))) := if_pos c_139
                    refine zV_iconst hX (v := nI 0) dX11_signs_145 (by decide) ?_
                    refine zV_istore hX dX11_signs_146 (by decide) ?_
                    dsimp only [zst1, zst2, zclr, zc2]
                    exact L148 c_110 c_124 e9 (n + 1) 0 (by omega) (by omega)
                  · have e9 : mWk n s (q + 2) mn k (mWK n s (q + 2) mn k (mWS n (q + 2) mn s (mSigns c n mn q M))) = (mWK n s (q + 2) mn k (mWS n (q + 2) mn s (mSigns c n mn q M))) := if_neg c_139
                    refine zV_goto hX (tgt := 221) dX11_signs_142 (by decide) ?_
                    refine zV_mem e9.symm (J221 c_110 c_124 _)
            refine zV_iload_n hX dX11_signs_105 rfl ?_
            refine zV_aload_n hX dX11_signs_106 rfl ?_
            refine zV_geti hX dX11_signs_107 zf_X11_20 zo300.1 rfl (hA.at hn (by unfold mFrS; omega)) ?_
            refine zV_icmp_geN hX (tgt := 233) dX11_signs_110 (by decide) ⟨by omega, by omega⟩ (fun c_110 => ?_) (fun c_110 => ?_)
            · have hsn : s = n := by omega
              refine zV_mem (show _ = mSigns c n mn (q + 1) M by show _ = mWS n (q + 2) mn n (mSigns c n mn q M); rw [hsn]) (J233 hq9 _ _ _)
            · refine zV_iconst hX (v := nI 0) dX11_signs_113 (by decide) ?_
              refine zV_istore hX dX11_signs_114 (by decide) ?_
              dsimp only [zst1, zst2, zclr, zc2]
              exact L116 c_110 (mTk9 (mWS n (q + 2) mn s (mSigns c n mn q M)) s + 1) 0 _ (by omega) (by omega)
        refine zV_iload_n hX dX11_signs_93 rfl ?_
        refine zV_aload_n hX dX11_signs_94 rfl ?_
        refine zV_geti hX dX11_signs_95 zf_X11_23 zo300.1 rfl (hG.at ht (by unfold mFrS; omega)) ?_
        refine zV_iconst hX (v := nI 1) dX11_signs_98 (by decide) ?_
        refine zV_iaddN hX dX11_signs_99 ?_
        refine zV_icmp_gtN hX (tgt := 239) dX11_signs_100 (by decide) ⟨by omega, by omega⟩ (fun c_100 => ?_) (fun c_100 => ?_)
        · exact zV_retv hX hQ hr (⟨rfl, by rw [show q = t by omega]⟩) dX11_signs_239
        · refine zV_iconst hX (v := nI 0) dX11_signs_103 (by decide) ?_
          refine zV_istore_n hX dX11_signs_104 (by decide) ?_
          dsimp only [zst1, zst2, zclr, zc2]
          exact L105 (by omega) (n + 1) 0 _ _ (by omega) (by omega)
    refine zV_iconst hX (v := nI 2) dX11_signs_91 (by decide) ?_
    refine zV_istore_n hX dX11_signs_92 (by decide) ?_
    dsimp only [zst1, zst2, zclr, zc2]
    exact L93 (t + 1) 0 _ _ _ (by omega) (by omega)
  have J55 : ∀ v2 : Value, zV G X Q 6 0 0 55 [.ref (300 : Nat), .int (nI c), v2, .null, .null, .null] [] (mSz c 7 M) := by
    intro v2
    have L57 : ∀ (f9 k : Nat), n - k < f9 → k ≤ n → zV G X Q 6 0 0 57 [.ref (300 : Nat), .int (nI c), .int (nI k), .null, .null, .null] [] (mSf c mn k M) := by
      intro f9
      induction f9 with
      | zero => intro k hk1 hk2; exact absurd hk1 (Nat.not_lt_zero _)
      | succ f9 ih =>
        intro k hk1 hk2
        have hF := mSf_S (c := c) (k := k) (by omega) mn M
        have hFo := mSf_ok hc7 mn M (k := k) (by omega)
        refine zV_iload_n hX dX11_signs_57 rfl ?_
        refine zV_aload_n hX dX11_signs_58 rfl ?_
        refine zV_geti hX dX11_signs_59 zf_X11_20 zo300.1 rfl (hF.at hn (by unfold mFrS; omega)) ?_
        refine zV_icmp_geN hX (tgt := 91) dX11_signs_62 (by decide) ⟨by omega, by omega⟩ (fun c_62 => ?_) (fun c_62 => ?_)
        · have hkn : k = n := by omega
          rw [hkn]
          exact J91 _
        · refine zV_iload_n hX dX11_signs_65 rfl ?_
          refine zV_iload_n hX dX11_signs_66 rfl ?_
          refine zV_icmp_eqN hX (tgt := 85) dX11_signs_67 (by decide) ⟨by omega, by omega⟩ (fun c_67 => ?_) (fun c_67 => ?_)
          · have e9 : mWf c mn k (mSf c mn k M) = (mSf c mn k M) := if_pos c_67
            refine zV_iincN hX (b := 1) dX11_signs_85 rfl (by decide) ?_
            dsimp only [zst1, zst2, zclr, zc2]
            refine zV_goto hX (tgt := 57) dX11_signs_88 (by decide) ?_
            have h9 := ih (k + 1) (by omega) (by omega)
            rw [show mSf c mn (k + 1) M = mWf c mn k (mSf c mn k M) from rfl, e9] at h9
            exact h9
          · have e9 : mWf c mn k (mSf c mn k M) = mWrites mn c k 1 (nI c) ((mSf c mn k M).1 (300 + 1 + 12) c) (nI 0) (mSf c mn k M) := if_neg c_67
            refine zV_aload_n hX dX11_signs_70 rfl ?_
            refine zV_iload_n hX dX11_signs_71 rfl ?_
            refine zV_iload_n hX dX11_signs_72 rfl ?_
            refine zV_iconst hX (v := nI 1) dX11_signs_73 (by decide) ?_
            refine zV_iload_n hX dX11_signs_74 rfl ?_
            refine zV_aload_n hX dX11_signs_75 rfl ?_
            refine zV_geta hX dX11_signs_76 zf_X11_26 zo300.1 rfl ?_
            refine zV_iload_n hX dX11_signs_79 rfl ?_
            refine zV_iald hX dX11_signs_80 (zo300.a 12 rfl) (rfl) ⟨by omega, by omega⟩ (rfl) ?_
            refine zV_iconst hX (v := nI 0) dX11_signs_81 (by decide) ?_
            refine zV_cV6p hX hR hl dX11_signs_82 (zc_writes l G (mSf c mn k M) c k 1 (nI c) ((mSf c mn k M).1 (300 + 1 + 12) c) (nI 0) mn (kS.ln hF hmn) hFo.tok hc7 (by omega) (by decide)) zt_X11_writes rfl zml_X11_428 zo300.1 ⟨by decide, by decide⟩ (Nat.le_of_ble_eq_true rfl) ?_
            dsimp only [Option.toList, List.cons_append, List.nil_append]
            refine zV_iincN hX (b := 1) dX11_signs_85 rfl (by decide) ?_
            dsimp only [zst1, zst2, zclr, zc2]
            refine zV_goto hX (tgt := 57) dX11_signs_88 (by decide) ?_
            have h9 := ih (k + 1) (by omega) (by omega)
            rw [show mSf c mn (k + 1) M = mWf c mn k (mSf c mn k M) from rfl, e9] at h9
            exact h9
    refine zV_iconst hX (v := nI 0) dX11_signs_55 (by decide) ?_
    refine zV_istore_n hX dX11_signs_56 (by decide) ?_
    dsimp only [zst1, zst2, zclr, zc2]
    exact L57 (n + 1) 0 (by omega) (by omega)
  have L22 : ∀ (f9 k : Nat) , 7 - k < f9 → k ≤ 7 → zV G X Q 6 0 0 22 [.ref (300 : Nat), .int (nI c), .int (nI k), .null, .null, .null] [] (mSz c k M) := by
    intro f9
    induction f9 with
    | zero => intro k hk1 hk2; exact absurd hk1 (Nat.not_lt_zero _)
    | succ f9 ih =>
      intro k hk1 hk2
      refine zV_iload_n hX dX11_signs_22 rfl ?_
      refine zV_bipush hX (v := nI 7) dX11_signs_23 (by decide) ?_
      refine zV_icmp_geN hX (tgt := 55) dX11_signs_25 (by decide) ⟨by omega, by omega⟩ (fun c_25 => ?_) (fun c_25 => ?_)
      · obtain rfl : k = 7 := by omega
        exact J55 _
      · refine zV_aload_n hX dX11_signs_28 rfl ?_
        refine zV_geta hX dX11_signs_29 zf_X11_65 zo300.1 rfl ?_
        refine zV_iload_n hX dX11_signs_32 rfl ?_
        refine zV_iconst hX (v := nI 0) dX11_signs_33 (by decide) ?_
        refine zV_iast hX dX11_signs_34 (zo300.a 31 rfl) (rfl) ⟨by omega, by omega⟩ ?_
        refine zV_aload_n hX dX11_signs_35 rfl ?_
        refine zV_geta hX dX11_signs_36 zf_X11_68 zo300.1 rfl ?_
        refine zV_iload_n hX dX11_signs_39 rfl ?_
        refine zV_iconst hX (v := nI 0) dX11_signs_40 (by decide) ?_
        refine zV_iast hX dX11_signs_41 (zo300.a 32 rfl) (rfl) ⟨by omega, by omega⟩ ?_
        refine zV_aload_n hX dX11_signs_42 rfl ?_
        refine zV_geta hX dX11_signs_43 zf_X11_71 zo300.1 rfl ?_
        refine zV_iload_n hX dX11_signs_46 rfl ?_
        refine zV_iconst hX (v := nI 0) dX11_signs_47 (by decide) ?_
        refine zV_iast hX dX11_signs_48 (zo300.a 33 rfl) (rfl) ⟨by omega, by omega⟩ ?_
        refine zV_iincN hX (b := 1) dX11_signs_49 rfl (by decide) ?_
        dsimp only [zst1, zst2, zclr, zc2]
        refine zV_goto hX (tgt := 22) dX11_signs_52 (by decide) ?_
        exact ih (k + 1) (by omega) (by omega)
  refine zV_aload_n hX dX11_signs_0 rfl ?_
  refine zV_iload_n hX dX11_signs_1 rfl ?_
  refine zV_puti hX dX11_signs_2 zf_X11_425 zp_9_41 zo300.1 rfl ?_
  refine zV_aload_n hX dX11_signs_5 rfl ?_
  refine zV_iconst hX (v := nI 0) dX11_signs_6 (by decide) ?_
  refine zV_puti hX dX11_signs_7 zf_X11_413 zp_9_38 zo300.1 rfl ?_
  refine zV_aload_n hX dX11_signs_10 rfl ?_
  refine zV_iconst hX (v := nI 0) dX11_signs_11 (by decide) ?_
  refine zV_puti hX dX11_signs_12 zf_X11_419 zp_9_39 zo300.1 rfl ?_
  refine zV_aload_n hX dX11_signs_15 rfl ?_
  refine zV_iconst hX (v := nI 0) dX11_signs_16 (by decide) ?_
  refine zV_puti hX dX11_signs_17 zf_X11_416 zp_9_40 zo300.1 rfl ?_
  refine zV_iconst hX (v := nI 0) dX11_signs_20 (by decide) ?_
  refine zV_istore_n hX dX11_signs_21 (by decide) ?_
  dsimp only [zst1, zst2, zclr, zc2]
  exact L22 8 0 (by omega) (by omega)
