section zNear
theorem fb_ne {j : Nat} {x : UInt32} (h : fb j x) : Jvm.FP.Core.val32 x ≠ .nan := by
  obtain ⟨s, N, h, -⟩ := h
  exact sq_ne h
theorem fb_fin {j : Nat} {x : UInt32} (h : fb j x) : ∃ s c q, Jvm.FP.Core.val32 x = .fin s c q := by
  obtain ⟨s, N, ⟨c, q, e, -⟩, -⟩ := h
  exact ⟨s, c, q, e⟩
theorem cmpV_lt {a b : UInt32} (ha : fb 1 a) (hb : fb 1 b) : (¬ 0 ≤ Op.cmpValue (FP.fcmp a b) .g) ↔ Jvm.FP.Core.fkey a < Jvm.FP.Core.fkey b := by
  rcases Int.lt_trichotomy (Jvm.FP.Core.fkey a) (Jvm.FP.Core.fkey b) with h | h | h
  · rw [show FP.fcmp a b = some .lt from (Jvm.FP.Core.fcmp_lt_key (fb_ne ha) (fb_ne hb)).mpr h]
    exact ⟨fun _ => h, fun _ => by decide⟩
  · rw [show FP.fcmp a b = some .eq from (Jvm.FP.Core.fcmp_eq_key (fb_ne ha) (fb_ne hb)).mpr h]
    exact ⟨fun hh => absurd (by decide) hh, fun hh => by omega⟩
  · rw [show FP.fcmp a b = some .gt from (Jvm.FP.Core.fcmp_gt_key (fb_ne ha) (fb_ne hb)).mpr h]
    exact ⟨fun hh => absurd (by decide) hh, fun hh => by omega⟩
theorem cmpV_gt {a b : UInt32} (ha : fb 1 a) (hb : fb 1 b) : (¬ Op.cmpValue (FP.fcmp a b) .l ≤ 0) ↔ Jvm.FP.Core.fkey b < Jvm.FP.Core.fkey a := by
  rcases Int.lt_trichotomy (Jvm.FP.Core.fkey a) (Jvm.FP.Core.fkey b) with h | h | h
  · rw [show FP.fcmp a b = some .lt from (Jvm.FP.Core.fcmp_lt_key (fb_ne ha) (fb_ne hb)).mpr h]
    exact ⟨fun hh => absurd (by decide) hh, fun hh => by omega⟩
  · rw [show FP.fcmp a b = some .eq from (Jvm.FP.Core.fcmp_eq_key (fb_ne ha) (fb_ne hb)).mpr h]
    exact ⟨fun hh => absurd (by decide) hh, fun hh => by omega⟩
  · rw [show FP.fcmp a b = some .gt from (Jvm.FP.Core.fcmp_gt_key (fb_ne ha) (fb_ne hb)).mpr h]
    exact ⟨fun _ => h, fun _ => by decide⟩
def fZe (x : UInt32) : Prop := x.toNat = 0 ∨ x.toNat = 2147483648
theorem fZe_val {x : UInt32} (h : fZe x) : ∃ s, Jvm.FP.Core.val32 x = .fin s 0 Jvm.FP.Core.b32.qmin := by
  rcases h with h | h
  · have e : x = 0 := UInt32.toNat.inj h
    subst e
    exact ⟨false, by decide +kernel⟩
  · have e : x = 2147483648 := UInt32.toNat.inj h
    subst e
    exact ⟨true, by decide +kernel⟩
theorem fZe_fz {x : UInt32} : Jvm.FP.Core.FZero x ↔ fZe x := by
  have h := x.toNat_lt
  unfold fZe
  rw [Jvm.FP.Core.zero_bits232]
  omega
theorem fZe_key {x : UInt32} : fZe x ↔ Jvm.FP.Core.fkey x = 0 := by
  have h := x.toNat_lt
  unfold fZe Jvm.FP.Core.fkey
  split <;> omega
theorem key_eq {x y : UInt32} (hx : fb 1 x) (hy : fb 1 y) (h : Jvm.FP.Core.fkey x = Jvm.FP.Core.fkey y) : x = y ∨ (fZe x ∧ fZe y) := by
  by_cases hz : fZe y
  · exact Or.inr ⟨fZe_key.mpr (h.trans (fZe_key.mp hz)), hz⟩
  · exact Or.inl (Jvm.FP.Core.eq_bits32 (fun q => hz (fZe_fz.mp q)) ((Jvm.FP.Core.fcmp_eq_key (fb_ne hx) (fb_ne hy)).mpr h))
theorem sum_z {s s' t : Bool} {q r : Int} {d : Nat} (hd : d ≠ 0) : Jvm.FP.Core.exactSum (.fin s 0 q) (.fin t d r) = Jvm.FP.Core.exactSum (.fin s' 0 q) (.fin t d r) := by
  have hU : ∀ s, Jvm.FP.Core.sumUnits s 0 q t d r (min q r) = Jvm.FP.Core.signed t (Jvm.FP.Core.inUnits d r (min q r)) := fun s => by
    unfold Jvm.FP.Core.sumUnits
    rw [show Jvm.FP.Core.inUnits 0 q (min q r) = 0 from Nat.zero_mul _, Jvm.FP.Core.signed_zero, Int.zero_add]
  have hne : ¬ Jvm.FP.Core.signed t (Jvm.FP.Core.inUnits d r (min q r)) = 0 := fun e => by
    have h1 := (Jvm.FP.Core.signed_eq_zero t _).mp e
    exact (Nat.ne_of_gt (Nat.mul_pos (Nat.pos_of_ne_zero hd) (Nat.two_pow_pos _))) h1
  unfold Jvm.FP.Core.exactSum
  simp only []
  rw [hU s, hU s']
  unfold Jvm.FP.Core.sumSign
  rw [if_neg hne, if_neg hne]
theorem fin_d {y : UInt32} (hy : fb 1 y) (hz : ¬ fZe y) : ∃ t d r, Jvm.FP.Core.val32 y = .fin t d r ∧ d ≠ 0 := by
  obtain ⟨t, d, r, e⟩ := fb_fin hy
  refine ⟨t, d, r, e, fun h => hz (fZe_fz.mp ⟨t, r, ?_⟩)⟩
  rw [e, h]
theorem fsub_zl {x x' y : UInt32} (hx : fZe x) (hx' : fZe x') (hy : fb 1 y) (hz : ¬ fZe y) : FP.fsub x y = FP.fsub x' y := by
  obtain ⟨s, e1⟩ := fZe_val hx
  obtain ⟨s', e2⟩ := fZe_val hx'
  obtain ⟨t, d, r, e3, hd⟩ := fin_d hy hz
  show Jvm.FP.Core.of32 (Jvm.FP.Core.round Jvm.FP.Core.b32 (Jvm.FP.Core.exactSum (Jvm.FP.Core.val32 x) (Jvm.FP.Core.negate (Jvm.FP.Core.val32 y)))) = Jvm.FP.Core.of32 (Jvm.FP.Core.round Jvm.FP.Core.b32 (Jvm.FP.Core.exactSum (Jvm.FP.Core.val32 x') (Jvm.FP.Core.negate (Jvm.FP.Core.val32 y))))
  rw [e1, e2, e3]
  show Jvm.FP.Core.of32 (Jvm.FP.Core.round Jvm.FP.Core.b32 (Jvm.FP.Core.exactSum (.fin s 0 Jvm.FP.Core.b32.qmin) (.fin (!t) d r))) = _
  rw [sum_z (s' := s') hd]
  rfl
theorem fsub_zr {x x' y : UInt32} (hx : fZe x) (hx' : fZe x') (hy : fb 1 y) (hz : ¬ fZe y) : FP.fsub y x = FP.fsub y x' := by
  obtain ⟨s, e1⟩ := fZe_val hx
  obtain ⟨s', e2⟩ := fZe_val hx'
  obtain ⟨t, d, r, e3, hd⟩ := fin_d hy hz
  show Jvm.FP.Core.of32 (Jvm.FP.Core.round Jvm.FP.Core.b32 (Jvm.FP.Core.exactSum (Jvm.FP.Core.val32 y) (Jvm.FP.Core.negate (Jvm.FP.Core.val32 x)))) = Jvm.FP.Core.of32 (Jvm.FP.Core.round Jvm.FP.Core.b32 (Jvm.FP.Core.exactSum (Jvm.FP.Core.val32 y) (Jvm.FP.Core.negate (Jvm.FP.Core.val32 x'))))
  rw [e1, e2, e3]
  show Jvm.FP.Core.of32 (Jvm.FP.Core.round Jvm.FP.Core.b32 (Jvm.FP.Core.exactSum (.fin t d r) (.fin (!s) 0 Jvm.FP.Core.b32.qmin))) = Jvm.FP.Core.of32 (Jvm.FP.Core.round Jvm.FP.Core.b32 (Jvm.FP.Core.exactSum (.fin t d r) (.fin (!s') 0 Jvm.FP.Core.b32.qmin)))
  rw [Jvm.FP.Core.exactSum_comm, sum_z (s' := !s') hd, Jvm.FP.Core.exactSum_comm]
/-- the difference of the greatest and the least, whichever of equal ones they are -/
theorem fsub_alike {x x' y y' : UInt32} (hx : fb 1 x) (hx' : fb 1 x') (hy : fb 1 y) (hy' : fb 1 y') (h1 : Jvm.FP.Core.fkey x = Jvm.FP.Core.fkey x') (h2 : Jvm.FP.Core.fkey y = Jvm.FP.Core.fkey y') (h3 : Jvm.FP.Core.fkey x = Jvm.FP.Core.fkey y → x = y ∧ x' = y') : FP.fsub x y = FP.fsub x' y' := by
  by_cases hk : Jvm.FP.Core.fkey x = Jvm.FP.Core.fkey y
  · obtain ⟨rfl, rfl⟩ := h3 hk
    rcases key_eq hx hx' h1 with e | ⟨e1, e2⟩
    · rw [e]
    · have h9 : ∀ z : UInt32, fZe z → FP.fsub z z = 0 := fun z hz => by
        rcases hz with h | h
        · have e : z = 0 := UInt32.toNat.inj h
          subst e
          decide +kernel
        · have e : z = 2147483648 := UInt32.toNat.inj h
          subst e
          decide +kernel
      rw [h9 x e1, h9 x' e2]
  · rcases key_eq hx hx' h1 with e | ⟨e1, e2⟩
    · subst e
      rcases key_eq hy hy' h2 with e | ⟨e3, e4⟩
      · rw [e]
      · exact fsub_zr e3 e4 hx (fun hz => hk ((fZe_key.mp hz).trans (fZe_key.mp e3).symm))
    · rcases key_eq hy hy' h2 with e | ⟨e3, e4⟩
      · subst e
        exact fsub_zl e1 e2 hy (fun hz => hk ((fZe_key.mp e1).trans (fZe_key.mp hz).symm))
      · exact absurd ((fZe_key.mp e1).trans (fZe_key.mp e3).symm) hk
/-- the first and the last of the least ones -/
def wR (K : Nat → Int) (li : Nat → Bool) (a b k : Nat) : Prop := a < k ∧ b < k ∧ li a = false ∧ li b = false ∧ (∀ i, i < k → li i = false → K a ≤ K i) ∧ (∀ i, i < a → li i = false → K a < K i) ∧ K b = K a ∧ ∀ i, b < i → i < k → li i = false → K a < K i
theorem wR_skip {K : Nat → Int} {li : Nat → Bool} {a b k : Nat} (h : wR K li a b k) (hk : li k = true) : wR K li a b (k + 1) := by
  obtain ⟨h1, h2, h3, h4, h5, h6, h7, h8⟩ := h
  have hne : ∀ i, i < k + 1 → li i = false → i < k := fun i hi hl => by
    rcases Nat.lt_or_ge i k with q | q
    · exact q
    · rw [show i = k by omega, hk] at hl; cases hl
  exact ⟨by omega, by omega, h3, h4, fun i hi hl => h5 i (hne i hi hl) hl, h6, h7, fun i hb hi hl => h8 i hb (hne i hi hl) hl⟩
theorem wR_step {K : Nat → Int} {li : Nat → Bool} {a b k : Nat} (h : wR K li a b k) (hk : li k = false) : wR K li (if K k < K a then k else a) (if K b < K k then b else k) (k + 1) := by
  obtain ⟨h1, h2, h3, h4, h5, h6, h7, h8⟩ := h
  have hc : ∀ i, i < k + 1 → i = k ∨ i < k := fun i hi => by omega
  rcases Int.lt_trichotomy (K k) (K a) with q | q | q
  · rw [if_pos q, if_neg (by omega)]
    exact ⟨by omega, by omega, hk, hk, fun i hi hl => by rcases hc i hi with e | e; rw [e]; exact Int.le_refl _; have := h5 i e hl; omega, fun i hi hl => by have := h5 i hi hl; omega, rfl, fun i hb hi hl => absurd hb (by omega)⟩
  · rw [if_neg (by omega), if_neg (by omega)]
    exact ⟨by omega, by omega, h3, hk, fun i hi hl => by rcases hc i hi with e | e; rw [e, q]; exact Int.le_refl _; exact h5 i e hl, h6, q, fun i hb hi hl => absurd hb (by omega)⟩
  · rw [if_neg (by omega), if_pos (by omega)]
    exact ⟨by omega, by omega, h3, h4, fun i hi hl => by rcases hc i hi with e | e; rw [e]; omega; exact h5 i e hl, h6, h7, fun i hb hi hl => by rcases hc i hi with e | e; rw [e]; exact q; exact h8 i hb e hl⟩
/-- the class's search and the reference's, side by side -/
theorem wB {has : Nat → Int32} {li : Int32} {f : Int32 → Int32 → Bool} {K : UInt32 → Int} {lr : Nat → Bool} {any : Nat → Bool} {m : Nat → UInt32} {n : Nat} (hlr : ∀ i, i < n → bit li i = lr i) (hf : ∀ i j, i < n → j < n → f (has i) (has j) = decide (K (has i).toUInt32 < K (has j).toUInt32)) (ha0 : any 0 = false) (has_ : ∀ k, any (k + 1) = if lr k then any k else true) (hm0 : m 0 = FP.fconst0) (hms : ∀ k, k < n → ∀ b, b < n → m k = (has b).toUInt32 → lr k = false → any k = true → m (k + 1) = if K (has b).toUInt32 < K (has k).toUInt32 then (has b).toUInt32 else (has k).toUInt32) (hm1 : ∀ k, k < n → lr k = true → m (k + 1) = m k) (hm2 : ∀ k, k < n → lr k = false → any k = false → m (k + 1) = (has k).toUInt32) : ∀ k, k ≤ n → (nWl has li f k = none ∧ any k = false ∧ m k = FP.fconst0 ∧ ∀ i, i < k → lr i = true) ∨ ∃ a b, nWl has li f k = some a ∧ any k = true ∧ m k = (has b).toUInt32 ∧ wR (fun i => K (has i).toUInt32) lr a b k := by
  intro k
  induction k with
  | zero => exact fun _ => Or.inl ⟨rfl, ha0, hm0, fun i hi => absurd hi (Nat.not_lt_zero _)⟩
  | succ k ih =>
    intro hk
    have e : nWl has li f (k + 1) = if bit li k then nWl has li f k else match nWl has li f k with
      | none => some k
      | some a => if f (has k) (has a) then some k else some a := rfl
    rw [e, has_ k, hlr k (by omega)]
    cases hl : lr k with
    | true =>
      rw [if_pos rfl, if_pos rfl, hm1 k (by omega) hl]
      rcases ih (by omega) with ⟨h1, h2, h3, h4⟩ | ⟨a, b, h1, h2, h3, h4⟩
      · refine Or.inl ⟨h1, h2, h3, fun i hi => ?_⟩
        rcases Nat.lt_or_ge i k with q | q
        · exact h4 i q
        · rw [show i = k by omega]; exact hl
      · exact Or.inr ⟨a, b, h1, h2, h3, wR_skip h4 hl⟩
    | false =>
      rw [if_neg (by decide), if_neg (by decide)]
      refine Or.inr ?_
      rcases ih (by omega) with ⟨h1, h2, h3, h4⟩ | ⟨a, b, h1, h2, h3, h4⟩
      · rw [h1, hm2 k (by omega) hl h2]
        refine ⟨k, k, rfl, rfl, rfl, by omega, by omega, hl, hl, fun i hi hl2 => ?_, fun i hi hl2 => ?_, rfl, fun i hb hi hl2 => absurd hb (by omega)⟩
        · rcases Nat.lt_or_ge i k with q | q
          · rw [h4 i q] at hl2; cases hl2
          · rw [show i = k by omega]; exact Int.le_refl _
        · rw [h4 i hi] at hl2; cases hl2
      · have hlt := h4
        obtain ⟨g1, g2, -⟩ := hlt
        rw [h1, hms k (by omega) b (by omega) h3 hl h2]
        refine ⟨(if K (has k).toUInt32 < K (has a).toUInt32 then k else a), (if K (has b).toUInt32 < K (has k).toUInt32 then b else k), ?_, rfl, ?_, wR_step h4 hl⟩
        · show (if f (has k) (has a) = true then some k else some a) = _
          rw [hf k a (by omega) (by omega)]
          by_cases q : K (has k).toUInt32 < K (has a).toUInt32
          · rw [if_pos q, if_pos (decide_eq_true q)]
          · rw [if_neg q, if_neg (by rw [decide_eq_false q]; decide)]
        · by_cases q : K (has b).toUInt32 < K (has k).toUInt32
          · rw [if_pos q, if_pos q]
          · rw [if_neg q, if_neg q]
theorem nWd_mSpr {has : Nat → Int32} {li : Int32} {D : zM} {n : Nat} (hl : ∀ i, i < n → bit li i = mLiar D i) (hh : ∀ i, i < n → has i = D.1 360 i) (hb : ∀ i, i < n → fb 1 (has i).toUInt32) : nWd has li n = mSpr n D := by
  have hL := wB (has := has) (li := li) (f := nLtB) (K := fun x => Jvm.FP.Core.fkey x) (lr := mLiar D) (any := mAny D) (m := mLst D) (n := n) hl (fun i j hi hj => by
    unfold nLtB
    rw [decide_eq_decide]
    exact cmpV_lt (hb i hi) (hb j hj)) rfl (fun k => rfl) rfl (fun k hk b hb2 e1 e2 e3 => by
    show (if mLiar D k then mLst D k else if mAny D k = true ∧ ¬ 0 ≤ Op.cmpValue (FP.fcmp (mLst D k) (D.1 360 k).toUInt32) .g then mLst D k else (D.1 360 k).toUInt32) = _
    rw [if_neg (by rw [e2]; decide), e3, e1, ← hh k hk]
    by_cases q : Jvm.FP.Core.fkey (has b).toUInt32 < Jvm.FP.Core.fkey (has k).toUInt32
    · rw [if_pos q, if_pos ⟨rfl, (cmpV_lt (hb b hb2) (hb k hk)).mpr q⟩]
    · rw [if_neg q, if_neg (fun h => q ((cmpV_lt (hb b hb2) (hb k hk)).mp h.2))]) (fun k hk e => by
    show (if mLiar D k then mLst D k else _) = _
    rw [if_pos e]) (fun k hk e1 e2 => by
    show (if mLiar D k then mLst D k else if mAny D k = true ∧ ¬ 0 ≤ Op.cmpValue (FP.fcmp (mLst D k) (D.1 360 k).toUInt32) .g then mLst D k else (D.1 360 k).toUInt32) = _
    rw [if_neg (by rw [e1]; decide), if_neg (fun h => by rw [e2] at h; exact absurd h.1 (by decide)), hh k hk]) n (Nat.le_refl n)
  have hG := wB (has := has) (li := li) (f := nGt) (K := fun x => - Jvm.FP.Core.fkey x) (lr := mLiar D) (any := mAny D) (m := mMst D) (n := n) hl (fun i j hi hj => by
    unfold nGt
    rw [decide_eq_decide]
    exact (cmpV_gt (hb i hi) (hb j hj)).trans (by omega)) rfl (fun k => rfl) rfl (fun k hk b hb2 e1 e2 e3 => by
    show (if mLiar D k then mMst D k else if mAny D k = true ∧ ¬ Op.cmpValue (FP.fcmp (mMst D k) (D.1 360 k).toUInt32) .l ≤ 0 then mMst D k else (D.1 360 k).toUInt32) = _
    rw [if_neg (by rw [e2]; decide), e3, e1, ← hh k hk]
    by_cases q : - Jvm.FP.Core.fkey (has b).toUInt32 < - Jvm.FP.Core.fkey (has k).toUInt32
    · rw [if_pos q, if_pos ⟨rfl, (cmpV_gt (hb b hb2) (hb k hk)).mpr (by omega)⟩]
    · rw [if_neg q, if_neg (fun h => q (by have := (cmpV_gt (hb b hb2) (hb k hk)).mp h.2; omega))]) (fun k hk e => by
    show (if mLiar D k then mMst D k else _) = _
    rw [if_pos e]) (fun k hk e1 e2 => by
    show (if mLiar D k then mMst D k else if mAny D k = true ∧ ¬ Op.cmpValue (FP.fcmp (mMst D k) (D.1 360 k).toUInt32) .l ≤ 0 then mMst D k else (D.1 360 k).toUInt32) = _
    rw [if_neg (by rw [e1]; decide), if_neg (fun h => by rw [e2] at h; exact absurd h.1 (by decide)), hh k hk]) n (Nat.le_refl n)
  unfold nWd mSpr
  rcases hL with ⟨l1, l2, l3, -⟩ | ⟨a1, b1, l1, l2, l3, la, lb, lc, ld, le, lf, lg, lh⟩
  · rcases hG with ⟨g1, g2, g3, -⟩ | ⟨a2, b2, g1, g2, g3, -⟩
    · rw [l1, g1, l3, g3]
      show FP.fconst0 = FP.fsub FP.fconst0 FP.fconst0
      decide +kernel
    · rw [l2] at g2; cases g2
  · rcases hG with ⟨g1, g2, g3, -⟩ | ⟨a2, b2, g1, g2, g3, ga, gb, gc, gd, ge, gf, gg, gh⟩
    · rw [l2] at g2; cases g2
    · rw [l1, g1, l3, g3]
      simp only [] at le lf lg lh ge gf gg gh ⊢
      refine fsub_alike (hb a2 (by omega)) (hb b2 (by omega)) (hb a1 (by omega)) (hb b1 (by omega)) (by omega) (by omega) (fun e => ?_)
      have ea : a1 = a2 := by
        rcases Nat.lt_trichotomy a1 a2 with q | q | q
        · have := gf a1 q lc; omega
        · exact q
        · have := lf a2 q gc; omega
      have eb : b1 = b2 := by
        rcases Nat.lt_trichotomy b1 b2 with q | q | q
        · have := lh b2 q (by omega) gd; omega
        · exact q
        · have := gh b1 q (by omega) ld; omega
      rw [ea, eb]
      exact ⟨rfl, rfl⟩
end zNear
