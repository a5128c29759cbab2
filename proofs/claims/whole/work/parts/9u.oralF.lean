section zOralF
variable {o lc n c t g : Nat} {cn : Nat → Nat} {mn : Nat → Option Nat}
theorem oForget_at {A : zM} {j : Nat} (hj : j < 7) : (oForget o A).1 (o + 1 + 3) j = nI 0 ∧ (oForget o A).1 (o + 1 + 15) j = nI 0 ∧ (oForget o A).1 (o + 1 + 4) j = nI 0 ∧ (oForget o A).1 (o + 1 + 5) j = nI 0 ∧ (oForget o A).1 (o + 1 + 6) j = nI 0 ∧ (oForget o A).1 (o + 1 + 16) j = nI 0 := by
  unfold oForget
  refine ⟨zfor_set (fun M => ?_) (fun i M h => ?_) 7 hj, zfor_set (fun M => ?_) (fun i M h => ?_) 7 hj, zfor_set (fun M => ?_) (fun i M h => ?_) 7 hj, zfor_set (fun M => ?_) (fun i M h => ?_) 7 hj, zfor_set (fun M => ?_) (fun i M h => ?_) 7 hj, zfor_set (fun M => ?_) (fun i M h => ?_) 7 hj⟩
  · rw [zw_ne (by omega), zw_ne (by omega), zw_ne (by omega), zw_ne (by omega), zw_ne (by omega)]; exact zw_same
  · rw [zw_ne (by omega), zw_ne (by omega), zw_ne (by omega), zw_ne (by omega), zw_ne (by omega), zw_ne (by omega)]
  · rw [zw_ne (by omega), zw_ne (by omega), zw_ne (by omega), zw_ne (by omega)]; exact zw_same
  · rw [zw_ne (by omega), zw_ne (by omega), zw_ne (by omega), zw_ne (by omega), zw_ne (by omega), zw_ne (by omega)]
  · rw [zw_ne (by omega), zw_ne (by omega), zw_ne (by omega)]; exact zw_same
  · rw [zw_ne (by omega), zw_ne (by omega), zw_ne (by omega), zw_ne (by omega), zw_ne (by omega), zw_ne (by omega)]
  · rw [zw_ne (by omega), zw_ne (by omega)]; exact zw_same
  · rw [zw_ne (by omega), zw_ne (by omega), zw_ne (by omega), zw_ne (by omega), zw_ne (by omega), zw_ne (by omega)]
  · rw [zw_ne (by omega)]; exact zw_same
  · rw [zw_ne (by omega), zw_ne (by omega), zw_ne (by omega), zw_ne (by omega), zw_ne (by omega), zw_ne (by omega)]
  · exact zw_same
  · rw [zw_ne (by omega), zw_ne (by omega), zw_ne (by omega), zw_ne (by omega), zw_ne (by omega), zw_ne (by omega)]
theorem oForget_12 {A : zM} : (oForget o A).1 o 1 = nI 0 ∧ (oForget o A).1 o 2 = nI 0 := by
  unfold oForget
  constructor
  · rw [zfor_at (fun i M => by rw [zw_ne (by omega), zw_ne (by omega), zw_ne (by omega), zw_ne (by omega), zw_ne (by omega), zw_ne (by omega)]), zw_ne (by omega)]; exact zw_same
  · rw [zfor_at (fun i M => by rw [zw_ne (by omega), zw_ne (by omega), zw_ne (by omega), zw_ne (by omega), zw_ne (by omega), zw_ne (by omega)])]; exact zw_same
/-- how the class begins -/
theorem oP1_at (hc : c < 7) (A : zM) : (∀ j, j < 7 → (oP1 o g lc n t c A).1 (o + 1 + 3) j = nI 0 ∧ (oP1 o g lc n t c A).1 (o + 1 + 15) j = nI 0 ∧ (oP1 o g lc n t c A).1 (o + 1 + 4) j = (if j = c then nI 1 else nI 0) ∧ (oP1 o g lc n t c A).1 (o + 1 + 5) j = nI 0 ∧ (oP1 o g lc n t c A).1 (o + 1 + 6) j = nI 0) ∧ (oP1 o g lc n t c A).1 o 1 = nI 0 ∧ (oP1 o g lc n t c A).1 o 2 = nI 0 ∧ orL o n c (oP1 o g lc n t c A) ∧ (oP1 o g lc n t c A).1 (o + 1 + 16) c = A.1 (g + 1 + 4) c := by
  have hlay : ∀ D : zM, ∀ p, p < 57 → (oLay o c n 57 D).1 (o + 1 + 18) p = zlay c n p := fun D p hp => by
    unfold oLay
    exact zfor_set (fun M => zw_same) (fun i M h => zw_ne (Or.inr (Ne.symm h))) 57 hp
  have hlo : ∀ D : zM, ∀ a j, a ≠ o + 1 + 18 → (oLay o c n 57 D).1 a j = D.1 a j := fun D a j ha => by rw [(oLay_fr o c n 57 D).1 a ha]
  have h0 : ∀ a j, a ≠ o → (oP0 o g lc n t c A).1 a j = (oForget o A).1 a j := fun a j ha => by
    unfold oP0
    rw [zw_ne (Or.inl ha), zw_ne (Or.inl ha), zw_ne (Or.inl ha), zw_ne (Or.inl ha), zw_ne (Or.inl ha), zw_ne (Or.inl ha)]
  have h1 : ∀ j, j = 1 ∨ j = 2 → (oP0 o g lc n t c A).1 o j = (oForget o A).1 o j := fun j hj => by
    unfold oP0
    rw [zw_ne (by omega), zw_ne (by omega), zw_ne (by omega), zw_ne (by omega), zw_ne (by omega), zw_ne (by omega)]
  unfold oP1
  refine ⟨fun j hj => ?_, ?_, ?_, fun p hp => ?_, zw_same⟩
  · obtain ⟨f1, f2, f3, f4, f5, -⟩ := oForget_at (o := o) (A := A) hj
    refine ⟨?_, ?_, ?_, ?_, ?_⟩
    · rw [zw_ne (by omega), zw_ne (by omega), hlo _ _ _ (by omega), h0 _ _ (by omega)]; exact f1
    · rw [zw_ne (by omega), zw_ne (by omega), hlo _ _ _ (by omega), h0 _ _ (by omega)]; exact f2
    · rw [zw_ne (by omega)]
      by_cases e : j = c
      · rw [e, zw_same, if_pos rfl]
      · rw [zw_ne (by omega), if_neg e, hlo _ _ _ (by omega), h0 _ _ (by omega)]; exact f3
    · rw [zw_ne (by omega), zw_ne (by omega), hlo _ _ _ (by omega), h0 _ _ (by omega)]; exact f4
    · rw [zw_ne (by omega), zw_ne (by omega), hlo _ _ _ (by omega), h0 _ _ (by omega)]; exact f5
  · rw [zw_ne (by omega), zw_ne (by omega), hlo _ _ _ (by omega), h1 1 (Or.inl rfl)]; exact oForget_12.1
  · rw [zw_ne (by omega), zw_ne (by omega), hlo _ _ _ (by omega), h1 2 (Or.inr rfl)]; exact oForget_12.2
  · rw [zw_ne (by omega), zw_ne (by omega)]; exact hlay _ p hp
theorem mGz_at (m : Nat) (M : zM) (j : Nat) : ∀ k, j < k → (mGz m k M).1 (1000 + 16 * 22 + m) j = nI 0
  | 0, h => absurd h (Nat.not_lt_zero _)
  | k + 1, h => by
    show (zw (mGz m k M) (1000 + 16 * 22 + m) k (nI 0)).1 _ j = _
    by_cases e : j = k
    · rw [e]; exact zw_same
    · rw [zw_ne (Or.inr e)]; exact mGz_at m M j k (by omega)
theorem mGz_fr (m : Nat) (M : zM) {a j : Nat} (h : a ≠ 1000 + 16 * 22 + m) : ∀ k, (mGz m k M).1 a j = M.1 a j
  | 0 => rfl
  | k + 1 => by
    show (zw (mGz m k M) (1000 + 16 * 22 + m) k (nI 0)).1 a j = _
    rw [zw_ne (Or.inl h)]
    exact mGz_fr m M h k
/-- how the reference begins -/
theorem mGa_at (B : zM) : ∀ k, k ≤ 7 → ((mGa c k B).1 300 18 = nI 0 ∧ (mGa c k B).1 300 19 = nI 0 ∧ (mGa c k B).1 300 24 = B.1 300 11 ∧ (mGa c k B).1 300 26 = B.1 313 c) ∧ (∀ m, m < k → (mGa c k B).1 324 m = nI 0 ∧ ∀ q, q < 5 → (mGa c k B).1 (1000 + 16 * 22 + m) q = nI 0) ∧ (∀ i, i < 7 → bit ((mGa c k B).1 300 25) i = (decide (i < k) && mLiar B i)) ∧ ∀ j, (mGa c k B).1 1208 j = B.1 1208 j
  | 0, _ => by
    refine ⟨⟨?_, ?_, ?_, ?_⟩, fun m h => absurd h (Nat.not_lt_zero _), fun i hi => ?_, fun j => ?_⟩
    · show (mG0 c B).1 300 18 = _; unfold mG0; rw [zw_ne (by omega), zw_ne (by omega), zw_ne (by omega), zw_ne (by omega)]; exact zw_same
    · show (mG0 c B).1 300 19 = _; unfold mG0; rw [zw_ne (by omega), zw_ne (by omega), zw_ne (by omega)]; exact zw_same
    · show (mG0 c B).1 300 24 = _; unfold mG0; rw [zw_ne (by omega), zw_ne (by omega)]; exact zw_same
    · show (mG0 c B).1 300 26 = _; unfold mG0; rw [zw_ne (by omega)]; exact zw_same
    · show bit ((mG0 c B).1 300 25) i = _
      unfold mG0
      rw [zw_same, bit_0 (by omega)]
      rfl
    · show (mG0 c B).1 1208 j = _
      unfold mG0
      rw [zw_ne (by omega), zw_ne (by omega), zw_ne (by omega), zw_ne (by omega), zw_ne (by omega), zw_ne (by omega)]
  | k + 1, hk => by
    obtain ⟨⟨h1, h2, h3, h4⟩, h5, h6, h7⟩ := mGa_at B k (by omega)
    have e9 : mGa c (k + 1) B = mGz k 5 (mGb k (mGa c k B)) := rfl
    rw [e9]
    generalize mGa c k B = D at *
    have hb : ∀ a j, ¬ (a = 300 ∧ j = 25) → ¬ (a = 324 ∧ j = k) → (mGb k D).1 a j = D.1 a j := fun a j g1 g2 => by unfold mGb; rw [zw_ne (by omega), zw_ne (by omega)]
    have hz : ∀ a j, a ≠ 1000 + 16 * 22 + k → (mGz k 5 (mGb k D)).1 a j = (mGb k D).1 a j := fun a j ha => mGz_fr k _ ha 5
    have hli : mLiar D k = mLiar B k := by
      unfold mLiar
      rw [show D.1 (1000 + 16 * 13 + 0) k = B.1 (1000 + 16 * 13 + 0) k from h7 k]
    refine ⟨⟨by rw [hz _ _ (by omega), hb _ _ (by omega) (by omega)]; exact h1, by rw [hz _ _ (by omega), hb _ _ (by omega) (by omega)]; exact h2, by rw [hz _ _ (by omega), hb _ _ (by omega) (by omega)]; exact h3, by rw [hz _ _ (by omega), hb _ _ (by omega) (by omega)]; exact h4⟩, fun m hm => ?_, fun i hi => ?_, fun j => by rw [hz _ _ (by omega), hb _ _ (by omega) (by omega)]; exact h7 j⟩
    · by_cases e : m = k
      · subst e
        refine ⟨?_, fun q hq => mGz_at m _ q 5 hq⟩
        rw [hz _ _ (by omega)]
        exact zw_same
      · obtain ⟨q1, q2⟩ := h5 m (by omega)
        exact ⟨by rw [hz _ _ (by omega), hb _ _ (by omega) (by omega)]; exact q1, fun q hq => by rw [hz _ _ (by omega), hb _ _ (by omega) (by omega)]; exact q2 q hq⟩
    · rw [hz _ _ (by omega)]
      unfold mGb
      rw [zw_ne (by omega), zw_same, bit_or _ _ (by omega), h6 i hi, hli]
      cases hb9 : mLiar B k with
      | true =>
        rw [if_pos rfl, bit_sh (by omega) (by omega)]
        by_cases e : i = k
        · rw [e, hb9, decide_eq_true (rfl : k = k), decide_eq_true (show k < k + 1 by omega)]
          simp
        · rw [decide_eq_false e, Bool.or_false, show decide (i < k) = decide (i < k + 1) by rw [decide_eq_decide]; omega]
      | false =>
        rw [if_neg (by decide), bit_0 (by omega), Bool.or_false]
        by_cases e : i = k
        · rw [e, hb9, Bool.and_false, Bool.and_false]
        · rw [show decide (i < k) = decide (i < k + 1) by rw [decide_eq_decide]; omega]
theorem zany_none {P : Nat → Bool} : ∀ N, (∀ i, i < N → P i = false) → zany P N = false
  | 0, _ => rfl
  | N + 1, h => by
    show (zany P N || P N) = false
    rw [zany_none N (fun i hi => h i (by omega)), h N (by omega)]
    rfl
theorem orStop.go {r m : Nat} {A B A2 B2 : zM} (h : orStop o t r m A B) (hA : A2.1 (o + 1 + 4) m = A.1 (o + 1 + 4) m) (hB : ∀ q, B2.1 (1000 + 16 * 22 + m) q = B.1 (1000 + 16 * 22 + m) q) : orStop o t r m A2 B2 := by
  obtain ⟨s, q1, q2, q3⟩ := h
  refine ⟨s, by rw [hA]; exact q1, q2, ?_⟩
  unfold enB at q3 ⊢
  simp only [hB]
  exact q3
theorem orBegin (hO : orO o lc) (hn : 3 ≤ n ∧ n ≤ 7) (hc : c < n) {A B : zM} (hW : zWd lc cn mn A B) (hdef : A.1 g 2 = B.1 300 11) : orR o lc n c 1 cn mn (fun _ _ => false) (oP1 o g lc n t c A) (mGa c n B) ∧ ∀ m, m < n → m ≠ c → orStop o t 0 m (oP1 o g lc n t c A) (mGa c n B) := by
  obtain ⟨o1, o2, o3⟩ := id hO
  obtain ⟨a1, a2, a3, a4, -⟩ := oP1_at (o := o) (g := g) (lc := lc) (n := n) (t := t) (c := c) (by omega) A
  have aF := oFi.p1 o g lc n t c A
  obtain ⟨⟨b1, b2, b3, b4⟩, b5, b6, b7⟩ := mGa_at (c := c) B n hn.2
  have bK := (mGa_K (c := c) hn.2 B).1
  refine ⟨⟨⟨hW.keep (fun a k g1 g2 => aF.out (by omega)) (fun a k g1 => bK a k (by unfold mFrB; omega)), a4, ?_, a2.trans b1.symm, a3.trans b2.symm, fun s hs => ?_, fun m p _ _ h => (by cases h), fun m hm => ?_⟩, fun m hm hmc => ⟨?_, fun b hb1 hb2 => ?_, fun i hi => ?_⟩⟩, fun m hm hmc => ⟨0, ?_, by omega, Or.inl ⟨rfl, fun q q1 q2 => absurd q1 (by omega)⟩⟩⟩
  · rw [aF.2.2.2.2.1, b3]; exact hdef
  · rw [(a1 s (by omega)).2.2.2.2, (b5 s hs).1]
  · rw [(a1 m (by omega)).2.2.2.1]
    exact congrArg nI (zcnt_none 57 (fun i _ => rfl)).symm
  · rw [(a1 m (by omega)).1, (b5 m hm).2 _ (by omega)]
  · rw [(a1 m (by omega)).1]; exact bt_0 b
  · rw [(a1 m (by omega)).2.1, bt_0]
    exact (zany_none 57 (fun i _ => rfl)).symm
  · rw [(a1 m (by omega)).2.2.1, if_neg hmc]
theorem oEnd_c (r k : Nat) (A : zM) {a : Nat} (ha : a ≠ o + 1 + 19) : (oEnd o n t c r k A).1 a c = A.1 a c := by
  have hs : ∀ m p (D : zM), m ≠ c → (oSus1 o n t c m p D).1 a c = D.1 a c := fun m p D hm => by
    have hf : (oGa o (o + 1 + 12) (m * 57) p n D).2.1 a c = D.1 a c := by rw [(oGa_fr o (o + 1 + 12) (m * 57) p D n).1 a ha]
    unfold oSus1
    split
    · split
      · exact hf
      · rw [zw_ne (by omega)]; exact hf
    · rfl
  have hS : ∀ m k (D : zM), m ≠ c → (oSus o n t c m r k D).1 a c = D.1 a c := fun m k D hm => by
    unfold oSus
    exact zfor_at (fun i M => hs m _ M hm) k D
  have hA : ∀ m (D : zM), m ≠ c → (oEndA o n t c m r D).1 a c = D.1 a c := fun m D hm => by
    unfold oEndA
    rw [zw_ne (by omega), zw_ne (by omega)]
    exact hS m _ D hm
  unfold oEnd
  refine zfor_at (fun m M => ?_) k A
  show (oEnd1 o n t c r m M).1 a c = M.1 a c
  unfold oEnd1
  split
  · rfl
  · rename_i hm
    split
    · rw [zw_ne (by omega)]; exact hA m M hm
    · exact hA m M hm
/-- a whole trial is the same in both -/
theorem orPlay (hO : orO o lc) (hn : 3 ≤ n ∧ n ≤ 7) (hc : c < n) (ht : t ≤ 2) {A B : zM} (hW : zWd lc cn mn A B) (hdef : A.1 g 2 = B.1 300 11) (hval : A.1 (g + 1 + 4) c = B.1 313 c) (hli : ∀ m, m < n → bit (A.1 lc 0) m = mLiar B m) : orDone o lc n c t cn mn (oPlay o g lc n t c cn A) (mGo c n t mn (t + 1) B) ∧ (oPlay o g lc n t c cn A).1 (o + 1 + 3) c = nI 0 ∧ (oPlay o g lc n t c cn A).1 (o + 1 + 4) c = nI 1 := by
  obtain ⟨o1, o2, o3⟩ := id hO
  obtain ⟨h1, s1⟩ := orBegin (g := g) (t := t) hO hn hc hW hdef
  obtain ⟨a1, -, -, -, a16⟩ := oP1_at (o := o) (g := g) (lc := lc) (n := n) (t := t) (c := c) (by omega) A
  have aF := oFi.p4 o g lc n t c cn n A
  obtain ⟨⟨-, -, -, b4⟩, b5, b6, -⟩ := mGa_at (c := c) B n hn.2
  have bC := (mGo_C (k := t + 1) (t := t) (c := c) (by omega) hn.2 mn B).1
  unfold oPlay at aF ⊢
  have eGo : mGo c n t mn (t + 1) B = zfor (fun i M => mRk c n t mn (1 + i + 1) n M) t (mRk c n t mn (0 + 1) n (mGa c n B)) := by
    unfold mGo
    rw [Nat.add_comm t 1, zfor_add 1 t]
    rfl
  rw [eGo] at bC ⊢
  generalize mGa c n B = B1 at *
  have hB26 : B1.1 300 26 = A.1 (g + 1 + 4) c := b4.trans hval.symm
  have p2 : orR o lc n c 1 cn mn (hdR n c t 1) (oP2 o g lc n t c cn n A) (mF c mn n B1) := orFirst hO hn hc h1 hB26
  have k2 : ∀ a, (a = o + 1 + 3 ∨ a = o + 1 + 4 ∨ a = o + 1 + 16) → ∀ j, (oP2 o g lc n t c cn n A).1 a j = (oP1 o g lc n t c A).1 a j := fun a ha j => by
    unfold oP2
    refine zfor_at (fun i M => ?_) n _
    unfold oF1
    split
    · rfl
    · exact oHear_ne (by omega) (by omega) (by omega) (by omega)
  have m2 := (mF_K (c := c) (k := n) (by omega) hn.2 mn B1).1
  have s2 : ∀ m, m < n → m ≠ c → orStop o t (1 - 1) m (oP2 o g lc n t c cn n A) (mF c mn n B1) := fun m hm hmc => (s1 m hm hmc).go (k2 _ (by omega) m) (fun q => m2 _ _ (by unfold mFrA; omega))
  obtain ⟨p3, s3⟩ := orEnd hO hn hc ht (r := 1) ⟨by omega, by omega⟩ p2 s2
  have eR : mRk c n t mn (0 + 1) n B1 = zfor (mFs n c t 1) n (mF c mn n B1) := rfl
  rw [eR] at bC ⊢
  -- the further rounds
  have key := zfor_pair (R := fun i A2 B2 => orR o lc n c (i + 2) cn mn (hdR n c t (i + 1)) A2 B2 ∧ (∀ m, m < n → m ≠ c → orStop o t (i + 1) m A2 B2) ∧ A2.1 (o + 1 + 3) c = nI 0 ∧ A2.1 (o + 1 + 4) c = nI 1 ∧ A2.1 (o + 1 + 16) c = A.1 (g + 1 + 4) c) (f := oRo o lc n t c cn) (g := fun i M => mRk c n t mn (1 + i + 1) n M) (n := t) (A := oEnd o n t c 1 n (oP2 o g lc n t c cn n A)) (B := zfor (mFs n c t 1) n (mF c mn n B1)) (fun i A2 B2 hi hR => ?_) ⟨p3, s3, ?_, ?_, ?_⟩ t (Nat.le_refl t)
  · show orDone o lc n c t cn mn (zfor (oDe o n t c) n (oP3 o g lc n t c cn t A)) _ ∧ (zfor (oDe o n t c) n (oP3 o g lc n t c cn t A)).1 (o + 1 + 3) c = nI 0 ∧ (zfor (oDe o n t c) n (oP3 o g lc n t c cn t A)).1 (o + 1 + 4) c = nI 1
    have e3 : oP3 o g lc n t c cn t A = zfor (oRo o lc n t c cn) t (oEnd o n t c 1 n (oP2 o g lc n t c cn n A)) := rfl
    have aF' : oFi o g lc n t c A (zfor (oDe o n t c) n (oP3 o g lc n t c cn t A)) := aF
    rw [e3] at aF' ⊢
    obtain ⟨⟨kS, kF⟩, kSt, kc3, kc4, kc16⟩ := key
    generalize zfor (oRo o lc n t c cn) t (oEnd o n t c 1 n (oP2 o g lc n t c cn n A)) = A4 at *
    generalize zfor (fun i M => mRk c n t mn (1 + i + 1) n M) t (zfor (mFs n c t 1) n (mF c mn n B1)) = B4 at *
    have hv : ∀ m p, m < n → p < 57 → mHas n c t m p = true → A4.1 (o + 1 + 12) (m * 57 + p) = B4.1 (1000 + 16 * 20 + m) p := fun m p hm hp hh => (kS.2.2.2.2.2.2.1 m p hm hp (by
      unfold hdR
      rw [hh, decide_eq_true (mHas_iff.mp hh).2.2.1]
      rfl)).1
    have dec : ∀ k, k ≤ n → (∀ a j, a ≠ o + 1 + 19 → a ≠ o + 1 + 14 → ¬ (a = o + 1 + 16 ∧ j ≠ c) → (zfor (oDe o n t c) k A4).1 a j = A4.1 a j) ∧ (∀ m, m < k → m ≠ c → (zfor (oDe o n t c) k A4).1 (o + 1 + 16) m = mRs B4 n c m (t + 1) 2 0 ∧ ∀ p, p < 57 → mHas n c t m p = true → (zfor (oDe o n t c) k A4).1 (o + 1 + 14) (m * 57 + p) = mRs B4 n c m (t + 1) 2 p) := by
      intro k
      induction k with
      | zero => exact fun _ => ⟨fun _ _ _ _ _ => rfl, fun m h => absurd h (Nat.not_lt_zero _)⟩
      | succ k ih =>
        intro hk
        obtain ⟨g1, g2⟩ := ih (by omega)
        show (∀ a j, a ≠ o + 1 + 19 → a ≠ o + 1 + 14 → ¬ (a = o + 1 + 16 ∧ j ≠ c) → (oDe o n t c k (zfor (oDe o n t c) k A4)).1 a j = A4.1 a j) ∧ (∀ m, m < k + 1 → m ≠ c → (oDe o n t c k (zfor (oDe o n t c) k A4)).1 (o + 1 + 16) m = mRs B4 n c m (t + 1) 2 0 ∧ ∀ p, p < 57 → mHas n c t m p = true → (oDe o n t c k (zfor (oDe o n t c) k A4)).1 (o + 1 + 14) (m * 57 + p) = mRs B4 n c m (t + 1) 2 p)
        generalize zfor (oDe o n t c) k A4 = D at *
        unfold oDe
        by_cases e : k = c
        · rw [if_pos e]
          exact ⟨g1, fun m hm hmc => g2 m (by omega) hmc⟩
        · rw [if_neg e]
          obtain ⟨r1, r2⟩ := oRes_at (t := t) hO hn hc (m := k) (cut := t + 1) (jc := 14) (row := k * 57) (by omega) e ⟨by omega, by omega⟩ (Nat.le_refl _) (Or.inl rfl) (A := D) (B := B4) (fun q hq => by rw [g1 _ _ (by omega) (by omega) (by omega)]; exact kS.2.1 q hq) (by rw [g1 _ _ (by omega) (by omega) (by omega)]; exact kS.2.2.1) (fun p hp hh => by rw [g1 _ _ (by omega) (by omega) (by omega)]; exact hv k p (by omega) hp hh) (t + 1) (Nat.le_refl _)
          generalize oRes o n c k (t + 1) 14 (k * 57) (t + 1) D = D2 at *
          refine ⟨fun a j h1 h2 h3 => by rw [zw_ne (by omega), r1 a j h1 (by omega)]; exact g1 a j h1 h2 h3, fun m hm hmc => ?_⟩
          have hz14 : ∀ j, (zw D2 (o + 1 + 16) k (D2.1 (o + 1 + 14) (k * 57 + 0))).1 (o + 1 + 14) j = D2.1 (o + 1 + 14) j := fun j => zw_ne (by omega)
          by_cases em : m = k
          · subst em
            have hr : ∀ p, p < 57 → mHas n c t m p = true → D2.1 (o + 1 + 14) (m * 57 + p) = mRs B4 n c m (t + 1) 2 p := fun p hp hh => r2 p hp hh (by have := zlen_pos p; omega) (mHas_iff.mp hh).2.2.1
            refine ⟨?_, fun p hp hh => by rw [hz14]; exact hr p hp hh⟩
            rw [zw_same]
            refine hr 0 (by decide) (mHas_iff.mpr ⟨rfl, hmc, by show 1 ≤ t + 1; omega, Or.inl ?_⟩)
            unfold mIsIn
            rw [decide_eq_false hmc]
            rfl
          · obtain ⟨q1, q2⟩ := g2 m (by omega) hmc
            refine ⟨by rw [zw_ne (by omega), r1 _ _ (by omega) (by omega)]; exact q1, fun p hp hh => ?_⟩
            rw [hz14, r1 _ _ (by omega) (by omega)]
            exact q2 p hp hh
    obtain ⟨d1, d2⟩ := dec n (Nat.le_refl n)
    generalize zfor (oDe o n t c) n A4 = A5 at *
    obtain ⟨h1, h2, h3, h4, h5, h6, h7, h8⟩ := kS
    have hB4 : ∀ j, (j = 24 ∨ j = 25 ∨ j = 26) → B4.1 300 j = B1.1 300 j := fun j hj => bC _ _ (by unfold mFrC; omega)
    refine ⟨⟨⟨h1.keep (fun a k g1 g2 => d1 a k (by omega) (by omega) (by omega)) (fun _ _ _ => rfl), fun q hq => by rw [d1 _ _ (by omega) (by omega) (by omega)]; exact h2 q hq, by rw [d1 _ _ (by omega) (by omega) (by omega)]; exact h3, by rw [d1 _ _ (by omega) (by omega) (by omega)]; exact h4, by rw [d1 _ _ (by omega) (by omega) (by omega)]; exact h5, fun s hs => by rw [d1 _ _ (by omega) (by omega) (by omega)]; exact h6 s hs, fun m p hm hp hh => by rw [d1 _ _ (by omega) (by omega) (by omega), d1 _ _ (by omega) (by omega) (by omega)]; exact h7 m p hm hp hh, fun m hm => by rw [d1 _ _ (by omega) (by omega) (by omega)]; exact h8 m hm⟩, fun m hm hmc => ⟨?_, (kSt m hm hmc).go (d1 _ _ (by omega) (by omega) (by omega)) (fun _ => rfl)⟩, fun m hm => ?_, fun m p hm hmc hp hh => (d2 m hm hmc).2 p hp hh, ?_, fun m hm => ?_⟩, ?_, ?_⟩
    · rw [d1 _ _ (by omega) (by omega) (by omega)]
      have h9 := (kF m hm hmc).1
      rw [show t + 2 - 1 = t + 1 by omega] at h9
      exact h9
    · unfold mDec
      by_cases e : m = c
      · rw [if_pos e, e, d1 _ _ (by omega) (by omega) (by omega), kc16, hB4 26 (by omega), hB26]
      · rw [if_neg e]
        exact (d2 m hm e).1
    · rw [aF'.2.2.2.2.2.2, hB4 26 (by omega), hB26]
    · rw [aF'.2.2.2.2.2.1, hB4 25 (by omega), b6 m (by omega), hli m hm, decide_eq_true hm, Bool.true_and]
    · rw [d1 _ _ (by omega) (by omega) (by omega)]; exact kc3
    · rw [d1 _ _ (by omega) (by omega) (by omega)]; exact kc4
  · obtain ⟨rR, rS, rc3, rc4, rc16⟩ := hR
    show orR o lc n c (i + 1 + 2) cn mn (hdR n c t (i + 1 + 1)) (oRo o lc n t c cn i A2) (mRk c n t mn (1 + i + 1) n B2) ∧ (∀ m, m < n → m ≠ c → orStop o t (i + 1 + 1) m (oRo o lc n t c cn i A2) (mRk c n t mn (1 + i + 1) n B2)) ∧ (oRo o lc n t c cn i A2).1 (o + 1 + 3) c = nI 0 ∧ (oRo o lc n t c cn i A2).1 (o + 1 + 4) c = nI 1 ∧ (oRo o lc n t c cn i A2).1 (o + 1 + 16) c = A.1 (g + 1 + 4) c
    have e5 : mRk c n t mn (1 + i + 1) n B2 = zfor (mFs n c t (i + 2)) n (mNr c n (i + 2) mn n B2) := by
      rw [show 1 + i + 1 = i + 2 by omega]
      unfold mRk mRa
      rw [if_neg (by omega)]
    rw [e5]
    unfold oRo
    have t1 : orR o lc n c (i + 2) cn mn (hdR n c t (i + 2)) (oTR o lc c (i + 2) n cn n A2) (mNr c n (i + 2) mn n B2) := orTell hO hn hc ⟨by omega, by omega⟩ (by omega) (by rw [show i + 2 - 1 = i + 1 by omega]; exact rR)
    have st := oTR_st o lc c (i + 2) n cn n A2
    have hst : ∀ a j, (a = o + 1 + 3 ∨ a = o + 1 + 4 ∨ a = o + 1 + 16) → (oTR o lc c (i + 2) n cn n A2).1 a j = A2.1 a j := fun a j ha => st.1.at (by omega)
    have mk := (mNr_K (c := c) (n := n) (r := i + 2) (k := n) hn.2 hn.2 mn B2).1
    obtain ⟨u1, u2⟩ := orEnd hO hn hc ht (r := i + 2) ⟨by omega, by omega⟩ t1 (fun m hm hmc => (rS m hm hmc).go (hst _ _ (by omega)) (fun q => mk _ _ (by unfold mFrA; omega)))
    refine ⟨u1, u2, ?_, ?_, ?_⟩
    · rw [oEnd_c _ _ _ (by omega), hst _ _ (by omega)]; exact rc3
    · rw [oEnd_c _ _ _ (by omega), hst _ _ (by omega)]; exact rc4
    · rw [oEnd_c _ _ _ (by omega), hst _ _ (by omega)]; exact rc16
  · rw [oEnd_c _ _ _ (by omega), k2 _ (by omega)]; exact (a1 c (by omega)).1
  · rw [oEnd_c _ _ _ (by omega), k2 _ (by omega), (a1 c (by omega)).2.2.1, if_pos rfl]
  · rw [oEnd_c _ _ _ (by omega), k2 _ (by omega)]; exact a16
end zOralF
