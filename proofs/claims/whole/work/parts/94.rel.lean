section zRel3
/-- a lie of the class (place a of LIES at c) and one of the reference (row q) -/
def zLie (M : zM) (c a q : Nat) : Prop :=
  ((M.1 (c + 1 + 2) a = -1 ∧ M.1 q 0 = 0) ∨ ∃ r, 1 ≤ r ∧ r < 1000 ∧ M.1 (c + 1 + 2) a = nI r ∧ M.1 q 0 = nI r) ∧ M.1 (c + 1 + 3) a = M.1 q 1 ∧ M.1 (c + 1 + 4) a = M.1 q 2 ∧ M.1 (c + 1 + 5) a = M.1 q 3 ∧ (M.1 q 3 = 0 ∨ M.1 q 3 = nI 1 → M.1 (c + 1 + 6) a = M.1 q 4) ∧ (M.1 q 3 = nI 1 → M.1 (c + 1 + 7) a = M.1 q 5)
def zLb (lb : Nat → Bool) : Nat → Int32
  | 0 => nI 0
  | k + 1 => zLb lb k ||| (if lb k then nI 1 <<< (nI k &&& 31) else nI 0)
/-- the lies that are read: how many each member has, who is a liar; alike in both -/
def zIl (c n : Nat) (M : zM) (cn : Nat → Nat) (lb : Nat → Bool) : Prop :=
  (∀ m, m < 7 → M.1 (c + 1 + 1) m = nI (cn m) ∧ cn m ≤ 12 ∧ (lb m = false → cn m = 0) ∧ (n ≤ m → lb m = false) ∧ M.1 1208 m = (if lb m then nI (cn m) else -1) ∧ bit (M.1 c 0) m = lb m) ∧ M.1 c 0 = zLb lb n ∧ ∀ m k, m < 7 → k < cn m → zLie M c (m * 12 + k) (mLc m k)
def zIp (M : zM) : Prop := ∃ (lc lt rc n : Nat) (cn : Nat → Nat) (lb : Nat → Bool), lyL lc ∧ lyL lt ∧ lyL rc ∧ lc ≠ lt ∧ lc ≠ rc ∧ lt ≠ rc ∧ M.1 40 3 = nI lc ∧ M.1 50 3 = nI lt ∧ M.1 20 2 = nI rc ∧ lyV lc M ∧ lyV rc M ∧ M.1 40 0 = nI n ∧ n ≤ 7 ∧ zIl lc n M cn lb
/-- no trial yet, in this group -/
def zIt0 (M : zM) : Prop := M.1 60 0 = -1 ∧ M.1 300 17 = -1 ∧ M.1 60 1 = nI 0 ∧ M.1 300 18 = nI 0 ∧ M.1 60 2 = nI 0 ∧ M.1 300 19 = nI 0 ∧ (∀ j, j < 7 → M.1 64 j = nI 0 ∧ M.1 76 j = nI 0 ∧ M.1 65 j = nI 0 ∧ M.1 66 j = nI 0 ∧ M.1 67 j = nI 0 ∧ M.1 77 j = nI 0) ∧ ∃ n6 t6 : Nat, M.1 60 7 = nI n6 ∧ n6 ≤ 7 ∧ M.1 60 8 = nI t6 ∧ t6 ≤ 2
theorem lfit_m1 {b : Int32} : lfit (-1) b = true := rfl
theorem zLie_hit {M : zM} {c a q r x : Nat} {ow : Int32} (h : zLie M c a q) : lHit M c a r x ow = mHit M q r x ow := by
  obtain ⟨h1, h2, h3, -⟩ := h
  unfold lHit mHit
  rw [h2, h3]
  congr 1
  congr 1
  rcases h1 with ⟨e1, e2⟩ | ⟨r2, g1, g2, e1, e2⟩
  · rw [e1, e2]; rfl
  · rw [e1, e2]
    unfold lfit
    have f1 : (nI r2 == -1) = false := by rw [beq_eq_false_iff_ne]; exact nI_m1 (by omega)
    have f2 : (nI r2 == 0) = false := by rw [beq_eq_false_iff_ne]; exact nI_ne0 (by omega) (by omega)
    rw [f1, f2]
theorem zLie_act {M : zM} {c a q x : Nat} {tr : Int32} (h : zLie M c a q) : lAct M c a x tr = mAct M q x tr := by
  obtain ⟨-, -, -, h4, h5, h6⟩ := h
  unfold lAct mAct
  rw [h4]
  generalize M.1 q 3 = w at h5 h6
  by_cases e0 : w = 0
  · subst e0
    rw [if_pos (show (0 : Int32) = nI 0 from rfl), if_neg (show ¬ (0 : Int32) = nI 2 by decide), if_neg (show ¬ (0 : Int32) = nI 3 by decide), if_pos (Or.inl rfl), if_neg (fun h => absurd h.1 (by decide)), h5 (Or.inl rfl)]
  · by_cases e1 : w = nI 1
    · subst e1
      rw [if_neg (show ¬ nI 1 = nI 0 by decide), if_pos rfl, if_neg (show ¬ nI 1 = nI 2 by decide), if_neg (show ¬ nI 1 = nI 3 by decide), if_pos (Or.inr rfl), h5 (Or.inr rfl), h6 rfl]
      by_cases hx : x % 2 = 0
      · rw [if_pos hx, if_neg (fun h => by have := h.2; omega)]
      · rw [if_neg hx, if_pos ⟨rfl, by omega⟩]
    · rw [if_neg (show ¬ w = nI 0 from e0), if_neg e1]
      by_cases e2 : w = nI 2
      · rw [if_pos e2, if_pos e2]
      · rw [if_neg e2, if_neg e2]
        by_cases e3 : w = nI 3
        · rw [if_pos e3, if_pos e3]
        · rw [if_neg e3, if_neg e3, if_neg (fun h => h.elim e0 e1)]
theorem zIl_say {c n : Nat} {M : zM} {cn : Nat → Nat} {lb : Nat → Bool} (h : zIl c n M cn lb) {w r x : Nat} {ow tr : Int32} (hw : w < 7) : ∀ (j i : Nat), i + j ≤ cn w → lSaidF M c w r x ow tr j i = mSayF M w r x ow tr j i
  | 0, _, _ => rfl
  | j + 1, i, hj => by
    have hl := h.2.2 w i hw (by omega)
    show (if lHit M c (w * 12 + i) r x ow then _ else _) = (if mHit M (mLc w i) r x ow then _ else _)
    rw [zLie_hit hl, zLie_act hl, zIl_say h hw j (i + 1) (by omega)]
theorem zIl_liar {c n : Nat} {M : zM} {cn : Nat → Nat} {lb : Nat → Bool} (h : zIl c n M cn lb) {m : Nat} (hm : m < 7) : mLiar M m = lb m := by
  obtain ⟨-, h2, -, -, h5, -⟩ := h.1 m hm
  unfold mLiar
  show (!decide (M.1 1208 m = -1)) = _
  rw [h5]
  cases lb m with
  | false => rfl
  | true =>
    have := nI_m1 (show cn m < 2 ^ 31 by omega)
    simp [this]
theorem zIl_mLiB {c n : Nat} {M : zM} {cn : Nat → Nat} {lb : Nat → Bool} (h : zIl c n M cn lb) : ∀ k, k ≤ 7 → mLiB M k = zLb lb k
  | 0, _ => rfl
  | k + 1, hk => by
    show mLiB M k ||| _ = zLb lb k ||| _
    rw [zIl_mLiB h k (by omega), zIl_liar h (by omega)]
theorem zIl_mLiN {c n : Nat} {M : zM} {cn : Nat → Nat} {lb : Nat → Bool} (h : zIl c n M cn lb) : ∀ k, k ≤ 7 → mLiN M k = zsumI (fun i => M.1 (c + 1 + 1) i) k
  | 0, _ => rfl
  | k + 1, hk => by
    obtain ⟨h1, -, h3, -, h5, -⟩ := h.1 k (by omega)
    show mLiN M k + (if mLiar M k then M.1 1208 k else nI 0) = zsumI (fun i => M.1 (c + 1 + 1) i) k + M.1 (c + 1 + 1) k
    rw [zIl_mLiN h k (by omega), zIl_liar h (by omega), h5, h1]
    cases hb : lb k with
    | false => rw [h3 hb]; rfl
    | true => rfl
theorem zsumI_tail {c n : Nat} {M : zM} {cn : Nat → Nat} {lb : Nat → Bool} (h : zIl c n M cn lb) : ∀ k, n + k ≤ 7 → zsumI (fun i => M.1 (c + 1 + 1) i) (n + k) = zsumI (fun i => M.1 (c + 1 + 1) i) n
  | 0, _ => rfl
  | k + 1, hk => by
    obtain ⟨h1, -, h3, h4, -, -⟩ := h.1 (n + k) (by omega)
    show zsumI (fun i => M.1 (c + 1 + 1) i) (n + k) + M.1 (c + 1 + 1) (n + k) = _
    rw [zsumI_tail h k (by omega), h1, h3 (h4 (by omega))]
    exact Int32.add_zero _
/-- the relation of the lies depends on their own cells only -/
theorem zIl_same {c n : Nat} {M M2 : zM} {cn : Nat → Nat} {lb : Nat → Bool} (h : zIl c n M cn lb) (hc : ∀ a k, c ≤ a → a ≤ c + 8 → M2.1 a k = M.1 a k) (h1 : ∀ k, M2.1 1208 k = M.1 1208 k) (h2 : ∀ a k, 3100 ≤ a → M2.1 a k = M.1 a k) : zIl c n M2 cn lb := by
  refine ⟨fun m hm => ?_, ?_, fun m k hm hk => ?_⟩
  · rw [hc _ _ (by omega) (by omega), h1, hc _ _ (by omega) (by omega)]
    exact h.1 m hm
  · rw [hc _ _ (by omega) (by omega)]; exact h.2.1
  · have h3 := h.2.2 m k hm hk
    unfold zLie at h3 ⊢
    have g : 3100 ≤ mLc m k := by unfold mLc; omega
    rw [hc (c + 1 + 2) _ (by omega) (by omega), hc (c + 1 + 3) _ (by omega) (by omega), hc (c + 1 + 4) _ (by omega) (by omega), hc (c + 1 + 5) _ (by omega) (by omega), hc (c + 1 + 6) _ (by omega) (by omega), hc (c + 1 + 7) _ (by omega) (by omega), h2 (mLc m k) 0 g, h2 (mLc m k) 1 g, h2 (mLc m k) 2 g, h2 (mLc m k) 3 g, h2 (mLc m k) 4 g, h2 (mLc m k) 5 g]
    exact h3
theorem zIp_same {M M2 : zM} (h : zIp M) (h0 : M2.1 40 0 = M.1 40 0) (h3 : M2.1 40 3 = M.1 40 3) (h5 : M2.1 50 3 = M.1 50 3) (hr : M2.1 20 2 = M.1 20 2) (hc : ∀ a k, 180 ≤ a → a ≤ 208 → M2.1 a k = M.1 a k) (h1 : ∀ k, M2.1 1208 k = M.1 1208 k) (h2 : ∀ a k, 3100 ≤ a → M2.1 a k = M.1 a k) : zIp M2 := by
  obtain ⟨lc, lt, rc, n, cn, lb, a1, a2, a3, a4, a5, a6, a7, a8, a9, b1, b2, b3, b4, b5⟩ := h
  have c1 : 180 ≤ lc ∧ lc ≤ 200 := by unfold lyL at a1; omega
  have c2 : 180 ≤ rc ∧ rc ≤ 200 := by unfold lyL at a3; omega
  refine ⟨lc, lt, rc, n, cn, lb, a1, a2, a3, a4, a5, a6, by rw [h3, a7], by rw [h5, a8], by rw [hr, a9], fun a ha => ?_, fun a ha => ?_, by rw [h0, b3], b4, zIl_same b5 (fun a k h6 h7 => hc a k (by omega) (by omega)) h1 h2⟩
  · rw [hc _ _ (by omega) (by omega), hc _ _ (by omega) (by omega)]; exact b1 a ha
  · rw [hc _ _ (by omega) (by omega), hc _ _ (by omega) (by omega)]; exact b2 a ha
theorem zIt0_same {M M2 : zM} (h : zIt0 M) (hc : ∀ a k, 60 ≤ a → a ≤ 80 → M2.1 a k = M.1 a k) (h1 : ∀ k, 17 ≤ k → k ≤ 19 → M2.1 300 k = M.1 300 k) : zIt0 M2 := by
  obtain ⟨a1, a2, a3, a4, a5, a6, a7, n6, t6, a8, a9, b1, b2⟩ := h
  refine ⟨by rw [hc _ _ (by decide) (by decide), a1], by rw [h1 _ (by decide) (by decide), a2], by rw [hc _ _ (by decide) (by decide), a3], by rw [h1 _ (by decide) (by decide), a4], by rw [hc _ _ (by decide) (by decide), a5], by rw [h1 _ (by decide) (by decide), a6], fun j hj => ?_, n6, t6, by rw [hc _ _ (by decide) (by decide), a8], a9, by rw [hc _ _ (by decide) (by decide), b1], b2⟩
  rw [hc _ _ (by decide) (by decide), hc _ _ (by decide) (by decide), hc _ _ (by decide) (by decide), hc _ _ (by decide) (by decide), hc _ _ (by decide) (by decide), hc _ _ (by decide) (by decide)]
  exact a7 j hj
end zRel3
