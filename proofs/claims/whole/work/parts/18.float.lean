-- numbers of a format by their size in least units
def fv (f : Jvm.FP.Core.Fmt) (d : Jvm.FP.Core.Datum) (s : Bool) (N : Nat) : Prop := ∃ (c : Nat) (q : Int), d = .fin s c q ∧ f.qmin ≤ q ∧ c * 2 ^ (q - f.qmin).toNat = N
theorem fq_canon {f : Jvm.FP.Core.Fmt} (hf : Jvm.FP.Core.Good f) (s : Bool) : ∀ (e c : Nat), c < 2 ^ f.p → (e : Int) + f.qmin ≤ f.qmax → ∃ c' e' : Nat, Jvm.FP.Core.fits f (.fin s c' ((e' : Int) + f.qmin)) ∧ c' * 2 ^ e' = c * 2 ^ e
  | 0, c, hc, he => ⟨c, 0, ⟨hc, by omega, he, Or.inl (by omega)⟩, rfl⟩
  | e + 1, c, hc, he => by
    by_cases ht : f.tails ≤ c
    · exact ⟨c, e + 1, ⟨hc, by omega, he, Or.inr ht⟩, rfl⟩
    · have h2 := Jvm.FP.Core.two_tails hf
      obtain ⟨c', e', h1, h3⟩ := fq_canon hf s e (2 * c) (by omega) (by omega)
      refine ⟨c', e', h1, ?_⟩
      rw [h3, Nat.pow_succ, Nat.mul_comm 2 c, Nat.mul_assoc, Nat.mul_comm 2 (2 ^ e)]
theorem fq_round {f : Jvm.FP.Core.Fmt} (hf : Jvm.FP.Core.Good f) {s : Bool} {A B c e a k : Nat} {E : Int} (hB : 0 < B) (hc : c < 2 ^ f.p) (he : (e : Int) + f.qmin ≤ f.qmax) (hE : E = (a : Int) - k + f.qmin) (h : A * 2 ^ a = c * B * 2 ^ (e + k)) : fv f (Jvm.FP.Core.roundRatio f s A B E) s (c * 2 ^ e) := by
  obtain ⟨c', e', h1, h3⟩ := fq_canon hf s e c hc he
  refine ⟨c', (e' : Int) + f.qmin, ?_, h1.2.1, ?_⟩
  · apply Jvm.FP.Core.roundRatio_exact hf hB h1
    have h4 : A * 2 ^ a = c' * B * 2 ^ (e' + k) := by
      rw [h, Nat.pow_add, Nat.pow_add, ← Nat.mul_assoc, ← Nat.mul_assoc, Nat.mul_right_comm c B, Nat.mul_right_comm c' B, h3]
    subst hE
    rcases Nat.lt_or_ge a (e' + k) with q | q
    · rw [show ((a : Int) - k + f.qmin - ((e' : Int) + f.qmin)).toNat = 0 by omega, show ((e' : Int) + f.qmin - ((a : Int) - k + f.qmin)).toNat = e' + k - a by omega]
      apply Nat.eq_of_mul_eq_mul_right (Nat.two_pow_pos a)
      rw [Nat.pow_zero, Nat.mul_one, h4, Nat.mul_assoc (c' * B) (2 ^ (e' + k - a)) (2 ^ a), ← Nat.pow_add, show e' + k - a + a = e' + k by omega]
    · rw [show ((a : Int) - k + f.qmin - ((e' : Int) + f.qmin)).toNat = a - (e' + k) by omega, show ((e' : Int) + f.qmin - ((a : Int) - k + f.qmin)).toNat = 0 by omega]
      apply Nat.eq_of_mul_eq_mul_right (Nat.two_pow_pos (e' + k))
      rw [Nat.pow_zero, Nat.mul_one, ← h4, Nat.mul_assoc, ← Nat.pow_add, show a - (e' + k) + (e' + k) = a by omega]
  · rw [show ((e' : Int) + f.qmin - f.qmin).toNat = e' by omega, h3]
theorem fv_same {f : Jvm.FP.Core.Fmt} {d : Jvm.FP.Core.Datum} {s t : Bool} {N M : Nat} (h : fv f d s N) (h2 : fv f d t M) : s = t ∧ N = M := by
  obtain ⟨c, q, rfl, hq, rfl⟩ := h
  obtain ⟨c2, q2, e, hq2, rfl⟩ := h2
  cases e
  exact ⟨rfl, rfl⟩
def dq (x : UInt64) (s : Bool) (N : Nat) : Prop := fv Jvm.FP.Core.b64 (Jvm.FP.Core.val64 x) s N
def sq (x : UInt32) (s : Bool) (N : Nat) : Prop := fv Jvm.FP.Core.b32 (Jvm.FP.Core.val32 x) s N
theorem dq_ne {x : UInt64} {s : Bool} {N : Nat} (h : dq x s N) : Jvm.FP.Core.val64 x ≠ .nan := by
  obtain ⟨c, q, e, -⟩ := h
  rw [e]; exact fun h => nomatch h
theorem sq_ne {x : UInt32} {s : Bool} {N : Nat} (h : sq x s N) : Jvm.FP.Core.val32 x ≠ .nan := by
  obtain ⟨c, q, e, -⟩ := h
  rw [e]; exact fun h => nomatch h
theorem vn64 {x : UInt64} (h : Jvm.FP.Core.val64 x ≠ .nan) : vf_n64 x := by
  have h1 := (Jvm.FP.Core.notNaN_iff x).mpr h
  unfold vf_n64
  rw [UInt64.le_iff_toNat_le, UInt64.toNat_and]
  have h2 : (x.toNat &&& (0x7fffffffffffffff : UInt64).toNat) = x.toNat % 2 ^ 63 := Nat.and_two_pow_sub_one_eq_mod x.toNat 63
  rw [h2]
  have h3 := Jvm.FP.Core.isNaN_bits x
  rw [h1] at h3
  exact Nat.not_lt.mp (fun q => absurd (h3.mpr q) (by decide))
theorem vn32 {x : UInt32} (h : Jvm.FP.Core.val32 x ≠ .nan) : vf_n32 x := by
  have h1 := (Jvm.FP.Core.notNaN_iff32 x).mpr h
  unfold vf_n32
  rw [UInt32.le_iff_toNat_le, UInt32.toNat_and]
  have h2 : (x.toNat &&& (0x7fffffff : UInt32).toNat) = x.toNat % 2 ^ 31 := Nat.and_two_pow_sub_one_eq_mod x.toNat 31
  rw [h2]
  have h3 := Jvm.FP.Core.isNaN_bits32 x
  rw [h1] at h3
  exact Nat.not_lt.mp (fun q => absurd (h3.mpr q) (by decide))
theorem dq_n {x : UInt64} {s : Bool} {N : Nat} (h : dq x s N) : vf_n64 x := vn64 (dq_ne h)
theorem sq_n {x : UInt32} {s : Bool} {N : Nat} (h : sq x s N) : vf_n32 x := vn32 (sq_ne h)
theorem dq_neg {x : UInt64} {s : Bool} {N : Nat} (h : dq x s N) : dq (FP.dneg x) (!s) N := by
  obtain ⟨c, q, e, h1, h2⟩ := h
  exact ⟨c, q, by rw [Jvm.FP.val64_dneg, e]; rfl, h1, h2⟩
theorem sq_neg {x : UInt32} {s : Bool} {N : Nat} (h : sq x s N) : sq (FP.fneg x) (!s) N := by
  obtain ⟨c, q, e, h1, h2⟩ := h
  exact ⟨c, q, by rw [Jvm.FP.val32_fneg, e]; rfl, h1, h2⟩
theorem q64 : Jvm.FP.Core.b64.qmin = -1074 := by decide +kernel
theorem q32 : Jvm.FP.Core.b32.qmin = -149 := by decide +kernel
theorem x64 : Jvm.FP.Core.b64.qmax = 971 := by decide +kernel
theorem x32 : Jvm.FP.Core.b32.qmax = 104 := by decide +kernel
theorem dq_mul {x y : UInt64} {s : Bool} {N m c e : Nat} (hy : Jvm.FP.Core.val64 y = .fin false (2 ^ 52) ((m : Int) - 52)) (h : dq x s N) (hN : N * 2 ^ m = c * 2 ^ e) (hc : c < 2 ^ 53) (he : e ≤ 2045) : dq (FP.dmul x y) s (c * 2 ^ e) := by
  obtain ⟨c1, q, e1, h1, h2⟩ := h
  rw [q64] at h1 h2
  show fv _ (Jvm.FP.Core.val64 (Jvm.FP.Core.dmul x y)) _ _
  rw [Jvm.FP.Core.val64_dmul, e1, hy]
  show fv _ (Jvm.FP.Core.roundRatio _ (s != false) (c1 * 2 ^ 52) 1 (q + ((m : Int) - 52))) _ _
  rw [show (s != false) = s by cases s <;> rfl]
  refine fq_round (a := (q - -1074).toNat + m) (k := 52) Jvm.FP.Core.good_b64 (by decide) hc (by rw [q64, x64]; omega) (by rw [q64]; omega) ?_
  rw [Nat.mul_one, Nat.pow_add, Nat.pow_add 2 e, ← Nat.mul_assoc c, ← hN, ← h2]
  simp only [Nat.mul_assoc, Nat.mul_comm, Nat.mul_left_comm]
theorem dq_half {x y : UInt64} {s : Bool} {c e : Nat} (hy : Jvm.FP.Core.val64 y = .fin false (2 ^ 52) (-51)) (h : dq x s (c * 2 ^ (e + 1))) (hc : c < 2 ^ 53) (he : e ≤ 2045) : dq (FP.ddiv x y) s (c * 2 ^ e) := by
  obtain ⟨c1, q, e1, h1, h2⟩ := h
  rw [q64] at h1 h2
  show fv _ (Jvm.FP.Core.val64 (Jvm.FP.Core.ddiv x y)) _ _
  rw [Jvm.FP.Core.val64_ddiv, e1, hy]
  show fv _ (if 2 ^ 52 = 0 then (if c1 = 0 then .nan else .inf (s != false)) else Jvm.FP.Core.roundRatio _ (s != false) c1 (2 ^ 52) (q - -51)) _ _
  rw [if_neg (by decide), show (s != false) = s by cases s <;> rfl]
  refine fq_round (a := (q - -1074).toNat + 51) (k := 0) Jvm.FP.Core.good_b64 (by decide) hc (by rw [q64, x64]; omega) (by rw [q64]; omega) ?_
  rw [Nat.pow_add, ← Nat.mul_assoc, h2, Nat.pow_succ, Nat.add_zero]
  show _ * 2251799813685248 = c * 4503599627370496 * 2 ^ e
  rw [show (4503599627370496 : Nat) = 2 * 2251799813685248 by decide]
  simp only [Nat.mul_assoc, Nat.mul_comm, Nat.mul_left_comm]
theorem dq_cmp {x y : UInt64} {s t : Bool} {N M : Nat} (h : dq x s N) (h2 : dq y t M) : FP.dcmp x y = some (compare (Jvm.FP.Core.signed s N) (Jvm.FP.Core.signed t M)) := by
  show Jvm.FP.Core.dcmp x y = _
  rw [Jvm.FP.Core.dcmp_zval (dq_ne h) (dq_ne h2)]
  obtain ⟨c, q, e, -, rfl⟩ := h
  obtain ⟨c2, q2, e2, -, rfl⟩ := h2
  rw [e, e2]; rfl
theorem sq_cmp {x y : UInt32} {s t : Bool} {N M : Nat} (h : sq x s N) (h2 : sq y t M) : FP.fcmp x y = some (compare (Jvm.FP.Core.signed s N) (Jvm.FP.Core.signed t M)) := by
  show Jvm.FP.Core.fcmp x y = _
  rw [Jvm.FP.Core.fcmp_zval (sq_ne h) (sq_ne h2)]
  obtain ⟨c, q, e, -, rfl⟩ := h
  obtain ⟨c2, q2, e2, -, rfl⟩ := h2
  rw [e, e2]; rfl
theorem dq_f2d {x : UInt32} {s : Bool} {N : Nat} (h : sq x s N) : dq (FP.f2d x) s (N * 2 ^ 925) := by
  rw [Jvm.FP.f2d_core ((Jvm.FP.Core.notNaN_iff32 x).mpr (sq_ne h))]
  have hf := Jvm.FP.Core.val32_fits x
  obtain ⟨c, q, e, h1, rfl⟩ := h
  rw [e] at hf
  obtain ⟨f1, f2, f3, -⟩ := hf
  rw [q32] at h1 ⊢
  rw [x32] at f3
  show fv _ (Jvm.FP.Core.val64 (Jvm.FP.Core.f2d x)) _ _
  rw [Jvm.FP.Core.val64_f2d, e, show c * 2 ^ (q - -149).toNat * 2 ^ 925 = c * 2 ^ (q + 1074).toNat by rw [Nat.mul_assoc, ← Nat.pow_add, show (q - -149).toNat + 925 = (q + 1074).toNat by omega]]
  refine fq_round (a := (q + 1074).toNat) (k := 0) Jvm.FP.Core.good_b64 (by decide) (Nat.lt_of_lt_of_le f1 (by decide)) (by rw [q64, x64]; omega) (by rw [q64]; omega) ?_
  rw [Nat.mul_one, Nat.add_zero]
theorem dq_d2f {x : UInt64} {s : Bool} {c e : Nat} (h : dq x s (c * 2 ^ e * 2 ^ 925)) (hc : c < 2 ^ 24) (he : e ≤ 253) : sq (FP.d2f x) s (c * 2 ^ e) := by
  rw [Jvm.FP.d2f_core ((Jvm.FP.Core.notNaN_iff x).mpr (dq_ne h))]
  obtain ⟨c1, q, e1, h1, h2⟩ := h
  rw [q64] at h1 h2
  show fv _ (Jvm.FP.Core.val32 (Jvm.FP.Core.d2f x)) _ _
  rw [Jvm.FP.Core.val32_d2f, e1]
  refine fq_round (a := (q - -1074).toNat) (k := 925) Jvm.FP.Core.good_b32 (by decide) hc (by rw [q32, x32]; omega) (by rw [q32]; omega) ?_
  rw [h2, Nat.mul_one, Nat.pow_add, Nat.mul_assoc]
theorem dq_i2d {n : Nat} (h : n < 2 ^ 31) : dq (FP.i2d (nI n)) false (n * 2 ^ 1074) := by
  show fv _ (Jvm.FP.Core.val64 (Jvm.FP.Core.i2d (nI n))) _ _
  rw [Jvm.FP.Core.val64_i2d]
  have e : (nI n).toInt = (n : Int) := Int32.toInt_ofNat_of_lt h
  rw [e]
  show fv _ (Jvm.FP.Core.roundRatio _ (decide ((n : Int) < 0)) (n : Int).natAbs 1 0) _ _
  rw [show decide ((n : Int) < 0) = false from decide_eq_false (by omega), Int.natAbs_natCast]
  refine fq_round (a := 1074) (k := 0) Jvm.FP.Core.good_b64 (by decide) (Nat.lt_of_lt_of_le h (by decide)) (by rw [q64, x64]; omega) (by rw [q64]; omega) ?_
  rw [Nat.mul_one]
theorem dq_sub1 {x y : UInt64} {N c e : Nat} (hy : Jvm.FP.Core.val64 y = .fin false (2 ^ 52) (-52)) (h : dq x false N) (hN : N = c * 2 ^ e + 2 ^ 1074) (hc : c < 2 ^ 53) (he : e ≤ 2045) : dq (FP.dsub x y) false (c * 2 ^ e) := by
  obtain ⟨c1, q, e1, h1, h2⟩ := h
  rw [q64] at h1 h2
  rw [hN] at h2
  show fv _ (Jvm.FP.Core.val64 (Jvm.FP.Core.dsub x y)) _ _
  rw [Jvm.FP.Core.val64_dsub, e1, hy]
  obtain ⟨r, hr⟩ : ∃ r : Int, r = min q (-52) := ⟨_, rfl⟩
  show fv _ (Jvm.FP.Core.roundRatio _ (Jvm.FP.Core.sumSign false true (Jvm.FP.Core.sumUnits false c1 q true (2 ^ 52) (-52) (min q (-52)))) (Jvm.FP.Core.sumUnits false c1 q true (2 ^ 52) (-52) (min q (-52))).natAbs 1 (min q (-52))) _ _
  rw [← hr]
  obtain ⟨u, hu⟩ : ∃ u : Nat, u = (r + 1074).toNat := ⟨_, rfl⟩
  have hr2 : r = (u : Int) - 1074 := by omega
  have e2 : Jvm.FP.Core.sumUnits false c1 q true (2 ^ 52) (-52) r = ((c1 * 2 ^ (q - r).toNat : Nat) : Int) - ((2 ^ 52 * 2 ^ (-52 - r).toNat : Nat) : Int) := rfl
  have p1 : c1 * 2 ^ (q - r).toNat * 2 ^ u = c * 2 ^ e + 2 ^ 1074 := by rw [Nat.mul_assoc, ← Nat.pow_add, show (q - r).toNat + u = (q - -1074).toNat by omega, h2]
  have p2 : 2 ^ 52 * 2 ^ (-52 - r).toNat * 2 ^ u = 2 ^ 1074 := by rw [Nat.mul_assoc, ← Nat.pow_add, ← Nat.pow_add, show 52 + ((-52 - r).toNat + u) = 1074 by omega]
  obtain ⟨v, hv⟩ : ∃ v : Nat, v = c1 * 2 ^ (q - r).toNat := ⟨_, rfl⟩
  obtain ⟨w, hw⟩ : ∃ w : Nat, w = 2 ^ 52 * 2 ^ (-52 - r).toNat := ⟨_, rfl⟩
  rw [← hv] at p1 e2
  rw [← hw] at p2 e2
  have hwv : w ≤ v := by
    apply Nat.le_of_mul_le_mul_right _ (Nat.two_pow_pos u)
    rw [p1, p2]; exact Nat.le_add_left _ _
  have p3 : (v - w) * 2 ^ u = c * 2 ^ e := by rw [Nat.sub_mul, p1, p2, Nat.add_sub_cancel]
  rw [e2, show ((v : Int) - (w : Int)).natAbs = v - w by omega]
  have p4 : Jvm.FP.Core.sumSign false true ((v : Int) - (w : Int)) = false := by
    unfold Jvm.FP.Core.sumSign
    split
    · rfl
    · exact decide_eq_false (by omega)
  rw [p4]
  refine fq_round (a := u) (k := 0) Jvm.FP.Core.good_b64 (by decide) hc (by rw [q64, x64]; omega) (by rw [q64, hr2]; omega) ?_
  rw [p3, Nat.mul_one, Nat.add_zero]
theorem dq_mag {x : UInt64} {s : Bool} {N : Nat} (h : dq x s N) : Jvm.FP.Core.sgn (Jvm.FP.Core.val64 x) = s ∧ Jvm.FP.Core.zmag Jvm.FP.Core.b64 (Jvm.FP.Core.val64 x) = N := by
  obtain ⟨c, q, e, h1, rfl⟩ := h
  rw [e]; exact ⟨rfl, rfl⟩
theorem dq_d2i {x : UInt64} {n : Nat} (h : dq x false (n * 2 ^ 1074)) (hn : n < 2 ^ 31) : FP.d2i x = nI n := by
  refine Int32.toInt.inj ?_
  show (Jvm.FP.Core.d2i x).toInt = _
  rw [Jvm.FP.Core.d2i_val (dq_ne h), (dq_mag h).1, (dq_mag h).2]
  rw [show n * 2 ^ 1074 / Jvm.FP.Core.one64 = n from Nat.mul_div_cancel n (Nat.two_pow_pos 1074)]
  have e : (nI n).toInt = (n : Int) := Int32.toInt_ofNat_of_lt hn
  rw [e]
  show max (-2 ^ 31) (min (2 ^ 31 - 1) (n : Int)) = (n : Int)
  omega
theorem dq_d2l {x : UInt64} {n : Nat} (h : dq x false (n * 2 ^ 1074)) (hn : n < 2 ^ 63) : (FP.d2l x).toInt = (n : Int) := by
  show (Jvm.FP.Core.d2l x).toInt = _
  rw [Jvm.FP.Core.d2l_val (dq_ne h), (dq_mag h).1, (dq_mag h).2]
  rw [show n * 2 ^ 1074 / Jvm.FP.Core.one64 = n from Nat.mul_div_cancel n (Nat.two_pow_pos 1074)]
  show max (-2 ^ 63) (min (2 ^ 63 - 1) (n : Int)) = (n : Int)
  omega
