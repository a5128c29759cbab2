-- bounds: floats of at most k times 2^17
def fb (k : Nat) (x : UInt32) : Prop := ∃ s N, sq x s N ∧ N ≤ k * 2 ^ 166
theorem rr_b {s : Bool} {A B k : Nat} {e e0 : Int} (hB : 0 < B) (hk : k < 100) (h0 : e0 ≤ -149) (h0e : e0 ≤ e) (h : Jvm.FP.Core.inUnits A e e0 ≤ (k * 2 ^ 166) * 2 ^ (-149 - e0).toNat * B) : ∃ N, fv Jvm.FP.Core.b32 (Jvm.FP.Core.roundRatio Jvm.FP.Core.b32 s A B e) s N ∧ N ≤ k * 2 ^ 166 := by
  obtain ⟨c', e', h1, h3⟩ := fq_canon Jvm.FP.Core.good_b32 false 166 k (Nat.lt_trans hk (by decide)) (by rw [q32, x32]; decide)
  have hz : Jvm.FP.Core.zmag Jvm.FP.Core.b32 (.fin false c' ((e' : Int) + Jvm.FP.Core.b32.qmin)) = k * 2 ^ 166 := by
    show c' * 2 ^ ((e' : Int) + Jvm.FP.Core.b32.qmin - Jvm.FP.Core.b32.qmin).toNat = _
    rw [show ((e' : Int) + Jvm.FP.Core.b32.qmin - Jvm.FP.Core.b32.qmin).toNat = e' by omega, h3]
  have h4 := Jvm.FP.Core.zmag_roundRatio_le (f := Jvm.FP.Core.b32) Jvm.FP.Core.good_b32 (s := s) (A := A) (B := B) (e := e) (e0 := e0) (V := .fin false c' ((e' : Int) + Jvm.FP.Core.b32.qmin)) hB h1 (fun q => nomatch q) (by rw [q32]; exact h0) h0e (by rw [hz, q32]; exact h)
  rw [hz] at h4
  have h5 := Jvm.FP.Core.roundRatio_ne_nan Jvm.FP.Core.b32 s A B e
  have h6 := Jvm.FP.Core.sgn_roundRatio Jvm.FP.Core.b32 s A B e
  have h7 := Jvm.FP.Core.roundRatio_fits Jvm.FP.Core.good_b32 s A hB e
  cases hr : Jvm.FP.Core.roundRatio Jvm.FP.Core.b32 s A B e with
  | nan => exact absurd hr h5
  | inf t =>
    rw [hr] at h4
    have h8 : 2 ^ 23 * 2 ^ 254 ≤ k * 2 ^ 166 := by
      have : Jvm.FP.Core.zmag Jvm.FP.Core.b32 (.inf t) = 2 ^ 23 * 2 ^ 254 := by
        show Jvm.FP.Core.b32.tails * 2 ^ (Jvm.FP.Core.b32.exps - 2) = _
        rw [t32, e32]
      rw [this] at h4; exact h4
    rw [show 254 = 88 + 166 by decide, Nat.pow_add, ← Nat.mul_assoc] at h8
    have h9 := Nat.le_of_mul_le_mul_right h8 (Nat.two_pow_pos 166)
    have : (100 : Nat) ≤ 2 ^ 23 * 2 ^ 88 := by decide
    omega
  | fin t c q =>
    rw [hr] at h4 h6 h7
    have ht : t = s := h6
    subst ht
    exact ⟨_, ⟨c, q, rfl, h7.2.1, rfl⟩, h4⟩
theorem fb_n {k : Nat} {x : UInt32} (h : fb k x) : vf_n32 x := by
  obtain ⟨s, N, h, -⟩ := h
  exact sq_n h
theorem sum_b {s t : Bool} {c d : Nat} {q r : Int} {f : Int} {N P : Nat} (hq : f ≤ q) (hr : f ≤ r) (hN : c * 2 ^ (q - f).toNat = N) (hP : d * 2 ^ (r - f).toNat = P) : Jvm.FP.Core.inUnits (Jvm.FP.Core.sumUnits s c q t d r (min q r)).natAbs (min q r) f ≤ N + P := by
  obtain ⟨m, hm⟩ : ∃ m, m = min q r := ⟨_, rfl⟩
  rw [← hm]
  have h1 : (Jvm.FP.Core.sumUnits s c q t d r m).natAbs ≤ c * 2 ^ (q - m).toNat + d * 2 ^ (r - m).toNat := by
    refine Nat.le_trans (Int.natAbs_add_le _ _) ?_
    rw [Jvm.FP.Core.natAbs_signed, Jvm.FP.Core.natAbs_signed]
    exact Nat.le_refl _
  have h2 := Nat.mul_le_mul_right (2 ^ (m - f).toNat) h1
  rw [Nat.add_mul, Nat.mul_assoc, Nat.mul_assoc, ← Nat.pow_add, ← Nat.pow_add, show (q - m).toNat + (m - f).toNat = (q - f).toNat by omega, show (r - m).toNat + (m - f).toNat = (r - f).toNat by omega, hN, hP] at h2
  exact h2
theorem fb_add {j k : Nat} {x y : UInt32} (hx : fb j x) (hy : fb k y) (hjk : j + k < 100) : fb (j + k) (FP.fadd x y) := by
  obtain ⟨s, N, ⟨c, q, e1, h1, h2⟩, hN⟩ := hx
  obtain ⟨t, P, ⟨d, r, e2, h3, h4⟩, hP⟩ := hy
  have hb := sum_b (s := s) (t := t) h1 h3 h2 h4
  have h5 := rr_b (s := Jvm.FP.Core.sumSign s t (Jvm.FP.Core.sumUnits s c q t d r (min q r))) (A := (Jvm.FP.Core.sumUnits s c q t d r (min q r)).natAbs) (B := 1) (k := j + k) (e := min q r) (e0 := -149) (by decide) hjk (Int.le_refl _) (by rw [q32] at h1 h3; omega) (by
    rw [q32] at hb
    refine Nat.le_trans hb ?_
    rw [show (-149 - -149 : Int).toNat = 0 from rfl, Nat.pow_zero, Nat.mul_one, Nat.mul_one, Nat.add_mul]
    exact Nat.add_le_add hN hP)
  obtain ⟨Z, h6, h7⟩ := h5
  refine ⟨Jvm.FP.Core.sumSign s t (Jvm.FP.Core.sumUnits s c q t d r (min q r)), Z, ?_, h7⟩
  show fv _ (Jvm.FP.Core.val32 (Jvm.FP.Core.fadd x y)) _ _
  rw [Jvm.FP.Core.val32_fadd, e1, e2]
  exact h6
theorem fb_sub {j k : Nat} {x y : UInt32} (hx : fb j x) (hy : fb k y) (hjk : j + k < 100) : fb (j + k) (FP.fsub x y) := by
  show fb (j + k) (Jvm.FP.Core.fsub x y)
  rw [Jvm.FP.Core.fsub_eq]
  refine fb_add hx ?_ hjk
  obtain ⟨t, P, ⟨d, r, e2, h3, h4⟩, hP⟩ := hy
  exact ⟨!t, P, ⟨d, r, by rw [Jvm.FP.Core.val32_fneg, e2]; rfl, h3, h4⟩, hP⟩
theorem sq_i2f {n : Nat} (h : n < 2 ^ 24) : sq (FP.i2f (nI n)) false (n * 2 ^ 149) := by
  show fv _ (Jvm.FP.Core.val32 (Jvm.FP.Core.i2f (nI n))) _ _
  rw [Jvm.FP.Core.val32_i2f]
  have e : (nI n).toInt = (n : Int) := Int32.toInt_ofNat_of_lt (Nat.lt_trans h (by decide))
  rw [e]
  show fv _ (Jvm.FP.Core.roundRatio _ (decide ((n : Int) < 0)) (n : Int).natAbs 1 0) _ _
  rw [show decide ((n : Int) < 0) = false from decide_eq_false (by omega), Int.natAbs_natCast]
  refine fq_round (a := 149) (k := 0) Jvm.FP.Core.good_b32 (by decide) h (by rw [q32, x32]; omega) (by rw [q32]; omega) ?_
  rw [Nat.mul_one]
theorem fb_div {k : Nat} {x y : UInt32} (hx : fb k x) (hy : sq y false (k * 2 ^ 149)) (hk : 0 < k) : fb 1 (FP.fdiv x y) := by
  obtain ⟨s, N, ⟨c, q, e1, h1, h2⟩, hN⟩ := hx
  have hf := Jvm.FP.Core.val32_fits y
  obtain ⟨d, r, e2, h3, h4⟩ := hy
  rw [e2] at hf
  have hr := hf.2.2.1
  rw [q32] at h1 h2 h3 h4
  rw [x32] at hr
  have hd : 0 < d := Nat.pos_of_ne_zero (fun q => by
    rw [q, Nat.zero_mul] at h4
    exact absurd h4 (Nat.ne_of_lt (Nat.mul_pos hk (Nat.two_pow_pos 149))))
  have h5 := rr_b (s := (s != false)) (A := c) (B := d) (k := 1) (e := q - r) (e0 := -449) hd (by decide) (by decide) (by omega) (by
    rw [show (-149 - -449 : Int).toNat = 300 from rfl, Nat.one_mul]
    show c * 2 ^ (q - r - -449).toNat ≤ _
    apply Nat.le_of_mul_le_mul_right _ (Nat.two_pow_pos (r - -149).toNat)
    rw [Nat.mul_assoc c, ← Nat.pow_add, show (q - r - -449).toNat + (r - -149).toNat = (q - -149).toNat + (149 + 300) by omega, Nat.pow_add, ← Nat.mul_assoc, h2, Nat.mul_assoc (2 ^ 166 * 2 ^ 300) d, h4, Nat.pow_add 2 149 300]
    rw [show 2 ^ 166 * 2 ^ 300 * (k * 2 ^ 149) = k * 2 ^ 166 * (2 ^ 149 * 2 ^ 300) by simp only [Nat.mul_assoc, Nat.mul_comm, Nat.mul_left_comm]]
    exact Nat.mul_le_mul_right _ hN)
  obtain ⟨Z, h6, h7⟩ := h5
  refine ⟨(s != false), Z, ?_, h7⟩
  show fv _ (Jvm.FP.Core.val32 (Jvm.FP.Core.fdiv x y)) _ _
  rw [Jvm.FP.Core.val32_fdiv, e1, e2]
  show fv _ (if d = 0 then (if c = 0 then .nan else .inf (s != false)) else Jvm.FP.Core.roundRatio _ (s != false) c d (q - r)) _ _
  rw [if_neg (Nat.ne_of_gt hd)]
  exact h6
theorem i2f_2 : FP.fconst2 = FP.i2f (nI 2) := by decide +kernel
theorem fb_mono {j k : Nat} {x : UInt32} (h : fb j x) (hjk : j ≤ k) : fb k x := by
  obtain ⟨s, N, h1, h2⟩ := h
  exact ⟨s, N, h1, Nat.le_trans h2 (Nat.mul_le_mul_right _ hjk)⟩
/-- a VALUE's word: 0, or a float that is neither too small nor too great -/
def okV (v : Int32) : Prop := ∃ s E T, fld v.toUInt32 s E T ∧ (0 < E ∨ v = 0) ∧ E ≤ 143
theorem okV_fb {v : Int32} (h : okV v) : fb 1 v.toUInt32 := by
  obtain ⟨s, E, T, h1, -, h3⟩ := h
  refine ⟨s, _, fld_sq h1, ?_⟩
  have hT := h1.2.2
  rw [Nat.one_mul]
  split
  · exact Nat.le_trans (Nat.le_of_lt hT) (Nat.pow_le_pow_right (by decide) (by decide))
  · have h4 : (2 ^ 23 + T) * 2 ^ (E - 1) ≤ 2 ^ 24 * 2 ^ (E - 1) := Nat.mul_le_mul_right _ (by omega)
    refine Nat.le_trans h4 ?_
    rw [← Nat.pow_add]
    exact Nat.pow_le_pow_right (by decide) (by omega)
theorem fb_fld {k : Nat} {x : UInt32} (h : fb k x) : ∃ s E T, fld x s E T := by
  obtain ⟨s, N, ⟨c, q, e, -⟩, -⟩ := h
  exact fld_of ⟨s, c, q, e⟩
theorem fb_z : fb 0 FP.fconst0 := ⟨false, 0, sq_zero, Nat.zero_le _⟩
