section zSign2
variable {lc n c : Nat} {cn : Nat → Nat} {mn : Nat → Option Nat} {lb : Nat → Bool} {V : Nat → Int32}
/-- what does not touch the books -/
theorem sgR.to {A B A2 B2 : zM} (hl : 180 ≤ lc) (h : sgR lc cn mn lb A B) (h1 : ∀ x, x < 7 → A2.1 125 x = A.1 125 x ∧ (∀ i, A2.1 129 i = A.1 129 i ∧ A2.1 130 i = A.1 130 i ∧ A2.1 131 i = A.1 131 i ∧ A2.1 132 i = A.1 132 i)) (h2 : ∀ x, x < 7 → B2.1 332 x = B.1 332 x ∧ B2.1 334 x = B.1 334 x ∧ ∀ i, B2.1 (1544 + x) i = B.1 (1544 + x) i ∧ B2.1 (1560 + x) i = B.1 (1560 + x) i ∧ B2.1 (1576 + x) i = B.1 (1576 + x) i ∧ B2.1 (1592 + x) i = B.1 (1592 + x) i) (h3 : ∀ x, x < 7 → A2.1 126 x = B2.1 333 x) (h4 : A2.1 120 1 = B2.1 300 38) (h5 : A2.1 120 2 = B2.1 300 39) (h6 : A2.1 120 3 = B2.1 300 40) (h7 : zS lc cn mn lb A2 B2) : sgR lc cn mn lb A2 B2 := by
  refine ⟨fun x hx => ?_, h4, h5, h6, h7⟩
  obtain ⟨g1, g2, g3, g4⟩ := h.1 x hx
  obtain ⟨a1, a2⟩ := h1 x hx
  obtain ⟨b1, b2, b3⟩ := h2 x hx
  have e : mTk9 B2 x = mTk9 B x := by show zN (B2.1 332 x) = zN (B.1 332 x); rw [b1]
  rw [e]
  refine ⟨by rw [a1, b1]; exact g1, fun i hi => ?_, ?_, h3 x hx⟩
  · rw [(a2 _).1, (a2 _).2.1, (a2 _).2.2.1, (a2 _).2.2.2, (b3 i).1, (b3 i).2.1, (b3 i).2.2.1, (b3 i).2.2.2]
    exact g2 i hi
  · rw [b2, (a2 _).2.2.2]; exact g3
theorem sgR.b16 {A B : zM} (hl : 180 ≤ lc) (h : sgR lc cn mn lb A B) {v : Int32} : sgR lc cn mn lb A (zw B 300 16 v) :=
  h.to hl (fun x hx => ⟨rfl, fun i => ⟨rfl, rfl, rfl, rfl⟩⟩) (fun x hx => ⟨zw_ne (by omega), zw_ne (by omega), fun i => ⟨zw_ne (by omega), zw_ne (by omega), zw_ne (by omega), zw_ne (by omega)⟩⟩) (fun x hx => by rw [zw_ne (by omega)]; exact (h.1 x hx).2.2.2) (by rw [zw_ne (by omega)]; exact h.2.1) (by rw [zw_ne (by omega)]; exact h.2.2.1) (by rw [zw_ne (by omega)]; exact h.2.2.2.1) (sgS hl h.2.2.2.2 (fun _ _ _ => rfl) (fun a k ha => zw_ne (by unfold mFrS at ha; omega)))
/-- one word written, counted alike -/
theorem sgCnt (hl : 180 ≤ lc) {A B : zM} (h : sgR lc cn mn lb A B) {s : Nat} (hs : s < 7) (w : Option (Option Int32)) : sgR lc cn mn lb (sCnt 120 s w A) (if w = none then B else if w = some none then zw (mWc s B) 300 40 ((mWc s B).1 300 40 + nI 1) else mWc s B) := by
  obtain ⟨h1, h2, h3, h4, h5⟩ := h
  match w with
  | none =>
    rw [if_pos rfl]
    unfold sCnt
    rw [if_pos rfl, if_neg (by simp)]
    have e : A.1 120 3 + nI 0 = A.1 120 3 := Int32.add_zero _
    refine sgR.to (A := A) (B := B) hl ⟨h1, h2, h3, h4, h5⟩ (fun x hx => ⟨zw_ne (by omega), fun i => ⟨zw_ne (by omega), zw_ne (by omega), zw_ne (by omega), zw_ne (by omega)⟩⟩) (fun x hx => ⟨rfl, rfl, fun i => ⟨rfl, rfl, rfl, rfl⟩⟩) (fun x hx => by rw [zw_ne (by omega)]; exact (h1 x hx).2.2.2) (by rw [zw_ne (by omega)]; exact h2) (by rw [zw_ne (by omega)]; exact h3) (by rw [zw_same, e]; exact h4) (sgS hl h5 (fun a k ha => zw_ne (by omega)) (fun _ _ _ => rfl))
  | some none =>
    rw [if_neg (by simp), if_pos rfl]
    unfold sCnt mWc
    rw [if_neg (by simp), if_pos rfl]
    refine sgR.to (A := A) (B := B) hl ⟨h1, h2, h3, h4, h5⟩ (fun x hx => ⟨by simp [zw_at], fun i => ⟨by simp [zw_at], by simp [zw_at], by simp [zw_at], by simp [zw_at]⟩⟩) (fun x hx => ⟨by simp [zw_at], by simp [zw_at], fun i => ⟨?_, ?_, ?_, ?_⟩⟩) (fun x hx => ?_) (by simp [zw_at, h2]) (by simp [zw_at, h3]) (by simp [zw_at, h4]) (sgS hl h5 (fun a k ha => ?_) (fun a k ha => ?_))
    · rw [zw_ne (by omega), zw_ne (by omega), zw_ne (by omega)]
    · rw [zw_ne (by omega), zw_ne (by omega), zw_ne (by omega)]
    · rw [zw_ne (by omega), zw_ne (by omega), zw_ne (by omega)]
    · rw [zw_ne (by omega), zw_ne (by omega), zw_ne (by omega)]
    · simp only [zw_at]
      by_cases e : x = s
      · subst e; simp; exact (h1 x hx).2.2.2
      · simp [e]; exact (h1 x hx).2.2.2
    · rw [zw_ne (by omega), zw_ne (by omega), zw_ne (by omega)]
    · unfold mFrS at ha
      rw [zw_ne (by omega), zw_ne (by omega), zw_ne (by omega)]
  | some (some u) =>
    rw [if_neg (by simp), if_neg (by simp)]
    unfold sCnt mWc
    rw [if_neg (by simp), if_neg (by simp)]
    have e : A.1 120 3 + nI 0 = A.1 120 3 := Int32.add_zero _
    refine sgR.to (A := A) (B := B) hl ⟨h1, h2, h3, h4, h5⟩ (fun x hx => ⟨by simp [zw_at], fun i => ⟨by simp [zw_at], by simp [zw_at], by simp [zw_at], by simp [zw_at]⟩⟩) (fun x hx => ⟨by simp [zw_at], by simp [zw_at], fun i => ⟨?_, ?_, ?_, ?_⟩⟩) (fun x hx => ?_) (by simp [zw_at, h2]) (by simp [zw_at, h3]) (by rw [e]; simp [zw_at, h4]) (sgS hl h5 (fun a k ha => ?_) (fun a k ha => ?_))
    · rw [zw_ne (by omega), zw_ne (by omega)]
    · rw [zw_ne (by omega), zw_ne (by omega)]
    · rw [zw_ne (by omega), zw_ne (by omega)]
    · rw [zw_ne (by omega), zw_ne (by omega)]
    · simp only [zw_at]
      by_cases e : x = s
      · subst e; simp; exact (h1 x hx).2.2.2
      · simp [e]; exact (h1 x hx).2.2.2
    · rw [zw_ne (by omega), zw_ne (by omega), zw_ne (by omega)]
    · unfold mFrS at ha
      rw [zw_ne (by omega), zw_ne (by omega)]
/-- the class's side of one word -/
def sgW (s x r : Nat) (v S : Int32) (w : Option (Option Int32)) (A : zM) : zM := match w with
  | some (some u) => if 1 < r ∧ ¬ u = v then zw (sCnt 120 s (some (some u)) A) 120 2 (A.1 120 2 + nI 1) else sTake 120 x s S r u (sCnt 120 s (some (some u)) A)
  | y => sCnt 120 s y A
theorem sgWw (hl : 180 ≤ lc) (hc : c < 7) {A B : zM} (h : sgR lc cn mn lb A B) (hg : gOk c V B) {s x r : Nat} {v sg : Int32} (hs : s < 7) (hx : x < 7) (w : Option (Option Int32)) : sgR lc cn mn lb (sgW s x r v (sg ||| (nI 1 <<< (nI s &&& 31))) w A) (mWw w s x r v sg (mSb w v B)) := by
  have h0 : sgR lc cn mn lb A (mSb w v B) := h.b16 hl
  have hg0 : gOk c V (mSb w v B) := gOk_of hg (fun x _ => zw_ne (by omega)) (fun x i _ => zw_ne (by omega))
  generalize mSb w v B = B0 at h0 hg0 ⊢
  have hC := sgCnt hl h0 hs w
  match w with
  | none =>
    rw [if_pos rfl] at hC
    exact hC
  | some none =>
    rw [if_neg (by simp), if_pos rfl] at hC
    exact hC
  | some (some u) =>
    rw [if_neg (by simp), if_neg (by simp)] at hC
    show sgR lc cn mn lb (if 1 < r ∧ ¬ u = v then zw (sCnt 120 s (some (some u)) A) 120 2 (A.1 120 2 + nI 1) else sTake 120 x s (sg ||| (nI 1 <<< (nI s &&& 31))) r u (sCnt 120 s (some (some u)) A)) (if 1 < r ∧ ¬ u = v then zw (mWc s B0) 300 39 ((mWc s B0).1 300 39 + nI 1) else mTakes x u (sg ||| (nI 1 <<< (nI s &&& 31))) s r (mWc s B0))
    by_cases e : 1 < r ∧ ¬ u = v
    · rw [if_pos e, if_pos e]
      have e2 : (sCnt 120 s (some (some u)) A).1 120 2 = A.1 120 2 := by unfold sCnt; rw [if_neg (by simp)]; simp [zw_at]
      rw [← e2]
      refine hC.to hl (fun x hx => ⟨zw_ne (by omega), fun i => ⟨zw_ne (by omega), zw_ne (by omega), zw_ne (by omega), zw_ne (by omega)⟩⟩) (fun x hx => ⟨zw_ne (by omega), zw_ne (by omega), fun i => ⟨zw_ne (by omega), zw_ne (by omega), zw_ne (by omega), zw_ne (by omega)⟩⟩) (fun x hx => by rw [zw_ne (by omega), zw_ne (by omega)]; exact (hC.1 x hx).2.2.2) (by rw [zw_ne (by omega), zw_ne (by omega)]; exact hC.2.1) (by rw [zw_same, zw_same, hC.2.2.1]) (by rw [zw_ne (by omega), zw_ne (by omega)]; exact hC.2.2.2.1) (sgS hl hC.2.2.2.2 (fun a k ha => zw_ne (by omega)) (fun a k ha => zw_ne (by unfold mFrS at ha; omega)))
    · rw [if_neg e, if_neg e]
      exact sgTake hl hc hC (gOk_wc hg0) hx
end zSign2
