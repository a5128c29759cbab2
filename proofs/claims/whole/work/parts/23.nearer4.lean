def nLeB (w x : UInt32) : Bool := decide (¬ 0 < Op.cmpValue (FP.fcmp w x) .g)
def nLs (o g lc n t md : Nat) (cn : Nat → Nat) (lim : UInt32) : Nat → Nat → zM → Int32 × zM
  | 0, _, M => (-1, M)
  | f + 1, k, M => if nLeB (nWd (M.1 (o + 1 + 0)) (M.1 lc 0) n) lim then (nI k, M) else nLs o g lc n t md cn lim f (k + 1) (nStep o g lc n t md cn M)
set_option maxHeartbeats 1000000 in
theorem zc_leastSteps (l : Launch) (G : zG) (M : zM) (o g lc n t md : Nat) (lim : UInt32) (cn : Nat → Nat) (hO : zOb 4 o) (hG : zOb 1 g) (h0 : nI0 o g lc n t cn M) (hn7 : n ≤ 7) (ht2 : t ≤ 2) (hlc : lc < 2 ^ 31) (hL : lyF lc o (o + 3)) (hgo : g + 5 < o ∨ o + 3 < g) (hmd2 : md < 2) : zC l G 5 yX5_leastSteps cX5_leastSteps 5 (Option.some Jvm.ClassFile.FieldType.int) [.ref o, .ref g, .float lim, .int (nI md)] M (zP (some (.int (nLs o g lc n t md cn lim 61 0 (nBeg o g 7 M)).1)) (nLs o g lc n t md cn lim 61 0 (nBeg o g 7 M)).2) := by
  refine zC_of (by decide) (Nat.le_of_ble_eq_true rfl) (fun X Q hQ hX hl hR hr => ?_)
  refine zV_loc (L' := [.ref o, .ref g, .float lim, .int (nI md), .null]) rfl ?_
  have L8 : ∀ (f9 k : Nat) (M9 : zM), 61 - k < f9 → k ≤ 61 → nIv o g lc n t cn M9 → nLs o g lc n t md cn lim (61 - k) k M9 = nLs o g lc n t md cn lim 61 0 (nBeg o g 7 M) → zV G X Q 5 0 0 8 [.ref o, .ref g, .float lim, .int (nI md), .int (nI k)] [] M9 := by
    intro f9
    induction f9 with
    | zero => intro k M9 hk1 hk2 h9 he; exact absurd hk1 (Nat.not_lt_zero _)
    | succ f9 ih =>
      intro k M9 hk1 hk2 h9 he
      refine zV_iload hX dX5_leastSteps_8 rfl ?_
      refine zV_bipush hX (v := nI 60) dX5_leastSteps_10 (by decide) ?_
      refine zV_icmp_gtN hX (tgt := 40) dX5_leastSteps_12 (by decide) ⟨by omega, by omega⟩ (fun c_12 => ?_) (fun c_12 => ?_)
      · have e8 : nLs o g lc n t md cn lim (61 - k) k M9 = (-1, M9) := by rw [show 61 - k = 0 by omega]; rfl
        refine zV_iconst hX (v := (-1)) dX5_leastSteps_40 (by decide) ?_
        exact zV_reti hX hQ hr (⟨by rw [← he, e8], by rw [← he, e8]⟩) dX5_leastSteps_41
      · obtain ⟨fu, hfu⟩ : ∃ fu, 61 - k = fu + 1 := ⟨60 - k, by omega⟩
        refine zV_aload_n hX dX5_leastSteps_15 rfl ?_
        refine zV_aload_n hX dX5_leastSteps_16 rfl ?_
        refine zV_cV1p hX hR hl dX5_leastSteps_17 (zc_width l G _ o g lc n t cn hO hG h9 hn7 ht2 hlc hL hgo) zt_X5_width rfl zml_X5_29 hO.1 ⟨by decide, by decide⟩ (Nat.le_of_ble_eq_true rfl) ?_
        dsimp only [Option.toList, List.cons_append, List.nil_append]
        refine zV_fload_n hX dX5_leastSteps_20 rfl ?_
        refine zV_fcmp hX dX5_leastSteps_21 ?_
        refine zV_if_gt hX (tgt := 28) dX5_leastSteps_22 (by decide) (fun c_22 => ?_) (fun c_22 => ?_)
        · have e8 : nLs o g lc n t md cn lim (61 - (k + 1)) (k + 1) (nStep o g lc n t md cn M9) = nLs o g lc n t md cn lim (61 - k) k M9 := by rw [hfu, show 61 - (k + 1) = fu by omega]; exact (if_neg (fun q => absurd c_22 (of_decide_eq_true q))).symm
          refine zV_aload_n hX dX5_leastSteps_28 rfl ?_
          refine zV_aload_n hX dX5_leastSteps_29 rfl ?_
          refine zV_iload_n hX dX5_leastSteps_30 rfl ?_
          refine zV_cV2p hX hR hl dX5_leastSteps_31 (zc_nstep l G _ o g lc n t md cn hO hG h9 hn7 ht2 hlc hL hgo hmd2) zt_X5_step rfl zml_X5_25 hO.1 ⟨by decide, by decide⟩ (Nat.le_of_ble_eq_true rfl) ?_
          dsimp only [Option.toList, List.cons_append, List.nil_append]
          have h10 := nStep_iv (md := md) h9 hL hgo hn7
          refine zV_iincN hX (b := 1) dX5_leastSteps_34 rfl (by decide) ?_
          dsimp only [zst1, zst2, zclr, zc2]
          refine zV_goto hX (tgt := 8) dX5_leastSteps_37 (by decide) ?_
          exact ih (k + 1) _ (by omega) (by omega) h10 (e8.trans he)
        · have e8 : nLs o g lc n t md cn lim (61 - k) k M9 = (nI k, M9) := by rw [hfu]; exact if_pos (decide_eq_true c_22)
          refine zV_iload hX dX5_leastSteps_25 rfl ?_
          exact zV_reti hX hQ hr (⟨by rw [← he, e8], by rw [← he, e8]⟩) dX5_leastSteps_27
  refine zV_aload_n hX dX5_leastSteps_0 rfl ?_
  refine zV_aload_n hX dX5_leastSteps_1 rfl ?_
  refine zV_cV1p hX hR hl dX5_leastSteps_2 (zc_nbegin l G M o g hO hG hgo h0.2.2.2.2.1) zt_X5_begin rfl zml_X5_21 hO.1 ⟨by decide, by decide⟩ (Nat.le_of_ble_eq_true rfl) ?_
  dsimp only [Option.toList, List.cons_append, List.nil_append]
  refine zV_iconst hX (v := nI 0) dX5_leastSteps_5 (by decide) ?_
  refine zV_istore hX dX5_leastSteps_6 (by decide) ?_
  dsimp only [zst1, zst2, zclr, zc2]
  exact L8 62 0 _ (by omega) (by omega) (nBeg_iv h0 hL hgo) rfl
-- sums of floats as doubles
theorem rr_d {s : Bool} {A k V : Nat} {m : Int} (hm : -1074 ≤ m) (hV : A * 2 ^ (m - -1074).toNat = V) (hk : k < 100) (hb : V ≤ k * 2 ^ 1091) (hd : 2 ^ 925 ∣ V) : ∃ Z, fv Jvm.FP.Core.b64 (Jvm.FP.Core.roundRatio Jvm.FP.Core.b64 s A 1 m) s Z ∧ Z ≤ k * 2 ^ 1091 ∧ 2 ^ 925 ∣ Z ∧ (Z = 0 → V = 0) := by
  obtain ⟨u, hu⟩ : ∃ u : Nat, m = (u : Int) - 1074 := ⟨(m + 1074).toNat, by omega⟩
  have hV2 : A * 2 ^ u = V := by rw [← hV, show (m - -1074).toNat = u by omega]
  rcases Nat.lt_or_ge V (2 ^ 53 * 2 ^ 925) with q | q
  · obtain ⟨w, hw⟩ := hd
    have hw2 : V = w * 2 ^ 925 := by rw [hw, Nat.mul_comm]
    have hw3 : w < 2 ^ 53 := by rw [hw2] at q; exact Nat.lt_of_mul_lt_mul_right q
    have h := fq_round (f := Jvm.FP.Core.b64) (s := s) (A := A) (B := 1) (c := w) (e := 925) (a := u) (k := 0) (E := m) Jvm.FP.Core.good_b64 (by decide) hw3 (by rw [q64, x64]; decide) (by rw [q64, hu]; omega) (by rw [hV2, hw2, Nat.mul_one, Nat.add_zero])
    rw [← hw2] at h
    exact ⟨V, h, hb, ⟨w, hw⟩, fun z => z⟩
  · obtain ⟨c', e', h1, h3⟩ := fq_canon Jvm.FP.Core.good_b64 false 1091 k (Nat.lt_trans hk (by decide)) (by rw [q64, x64]; decide)
    have hz : Jvm.FP.Core.zmag Jvm.FP.Core.b64 (.fin false c' ((e' : Int) + Jvm.FP.Core.b64.qmin)) = k * 2 ^ 1091 := by
      show c' * 2 ^ ((e' : Int) + Jvm.FP.Core.b64.qmin - Jvm.FP.Core.b64.qmin).toNat = _
      rw [show ((e' : Int) + Jvm.FP.Core.b64.qmin - Jvm.FP.Core.b64.qmin).toNat = e' by omega, h3]
    obtain ⟨c2, e2, h21, h23⟩ := fq_canon Jvm.FP.Core.good_b64 false 978 1 (by decide) (by rw [q64, x64]; decide)
    have hz2 : Jvm.FP.Core.zmag Jvm.FP.Core.b64 (.fin false c2 ((e2 : Int) + Jvm.FP.Core.b64.qmin)) = 1 * 2 ^ 978 := by
      show c2 * 2 ^ ((e2 : Int) + Jvm.FP.Core.b64.qmin - Jvm.FP.Core.b64.qmin).toNat = _
      rw [show ((e2 : Int) + Jvm.FP.Core.b64.qmin - Jvm.FP.Core.b64.qmin).toNat = e2 by omega, h23]
    have hin : Jvm.FP.Core.inUnits A m (-1074) = V := hV
    have hq : 2 ^ 978 ≤ V := by
      have h9 := q
      rw [← Nat.pow_add, show 53 + 925 = 978 by decide] at h9
      exact h9
    have h4 := Jvm.FP.Core.zmag_roundRatio_le (f := Jvm.FP.Core.b64) Jvm.FP.Core.good_b64 (s := s) (A := A) (B := 1) (e := m) (e0 := -1074) (V := .fin false c' ((e' : Int) + Jvm.FP.Core.b64.qmin)) (by decide) h1 (fun q => nomatch q) (by rw [q64]; exact Int.le_refl _) hm (by rw [hz, q64, hin, Nat.mul_one]; show V ≤ k * 2 ^ 1091 * 2 ^ 0; rw [Nat.pow_zero, Nat.mul_one]; exact hb)
    have h4b := Jvm.FP.Core.zmag_roundRatio_ge (f := Jvm.FP.Core.b64) Jvm.FP.Core.good_b64 (s := s) (A := A) (B := 1) (e := m) (e0 := -1074) (V := .fin false c2 ((e2 : Int) + Jvm.FP.Core.b64.qmin)) (by decide) h21 (by rw [q64]; exact Int.le_refl _) hm (by rw [hz2, q64, hin, Nat.mul_one, show (-1074 - -1074 : Int).toNat = 0 from rfl, Nat.pow_zero, Nat.mul_one, Nat.one_mul]; exact hq)
    rw [hz] at h4
    rw [hz2] at h4b
    have h5 := Jvm.FP.Core.roundRatio_ne_nan Jvm.FP.Core.b64 s A 1 m
    have h6 := Jvm.FP.Core.sgn_roundRatio Jvm.FP.Core.b64 s A 1 m
    have h7 := Jvm.FP.Core.roundRatio_fits Jvm.FP.Core.good_b64 s A (B := 1) (by decide) m
    cases hr : Jvm.FP.Core.roundRatio Jvm.FP.Core.b64 s A 1 m with
    | nan => exact absurd hr h5
    | inf t =>
      rw [hr] at h4
      have h8 : 2 ^ 52 * 2 ^ 2046 ≤ k * 2 ^ 1091 := by
        have : Jvm.FP.Core.zmag Jvm.FP.Core.b64 (.inf t) = 2 ^ 52 * 2 ^ 2046 := by
          show Jvm.FP.Core.b64.tails * 2 ^ (Jvm.FP.Core.b64.exps - 2) = _
          rw [t64, e64]
        rw [this] at h4; exact h4
      rw [show 2046 = 955 + 1091 by decide, Nat.pow_add, ← Nat.mul_assoc] at h8
      have h9 := Nat.le_of_mul_le_mul_right h8 (Nat.two_pow_pos 1091)
      have h10 : (100 : Nat) ≤ 2 ^ 52 * 1 := by decide
      have h11 : 2 ^ 52 * 1 ≤ 2 ^ 52 * 2 ^ 955 := Nat.mul_le_mul_left _ (Nat.two_pow_pos 955)
      omega
    | fin t c q9 =>
      rw [hr] at h4 h4b h6 h7
      have ht : t = s := h6
      subst ht
      obtain ⟨f1, f2, -, -⟩ := h7
      rw [q64] at f2
      obtain ⟨v, hv⟩ : ∃ v : Nat, q9 = (v : Int) - 1074 := ⟨(q9 + 1074).toNat, by omega⟩
      have hzz : Jvm.FP.Core.zmag Jvm.FP.Core.b64 (.fin t c q9) = c * 2 ^ v := by
        show c * 2 ^ (q9 - Jvm.FP.Core.b64.qmin).toNat = _
        rw [q64, show (q9 - -1074).toNat = v by omega]
      rw [hzz] at h4 h4b
      have hcv : 925 ≤ v := by
        rcases Nat.lt_or_ge v 925 with r | r
        · have h12 : c * 2 ^ v < 2 ^ 53 * 2 ^ v := Nat.mul_lt_mul_of_pos_right f1 (Nat.two_pow_pos v)
          have h13 : 2 ^ 53 * 2 ^ v ≤ 2 ^ 53 * 2 ^ 925 := Nat.mul_le_mul_left _ (Nat.pow_le_pow_right (by decide) (Nat.le_of_lt r))
          rw [← Nat.pow_add 2 53 925, show 53 + 925 = 978 by decide] at h13
          rw [Nat.one_mul] at h4b
          exact absurd (Nat.le_trans h4b (Nat.le_of_lt h12)) (fun z => by
            exact absurd (Nat.lt_of_le_of_lt h4b h12) (Nat.not_lt.mpr h13))
        · exact r
      refine ⟨c * 2 ^ v, ⟨c, q9, rfl, by rw [q64]; exact f2, by rw [q64, show (q9 - -1074).toNat = v by omega]⟩, h4, ?_, fun z => ?_⟩
      · exact Nat.dvd_trans (Nat.pow_dvd_pow 2 hcv) (Nat.dvd_mul_left _ _)
      · rw [z, Nat.one_mul] at h4b
        exact absurd h4b (Nat.not_le.mpr (Nat.two_pow_pos 978))
def db (k : Nat) (x : UInt64) : Prop := ∃ s N, dq x s N ∧ N ≤ k * 2 ^ 1091 ∧ 2 ^ 925 ∣ N ∧ (N = 0 → s = false)
theorem sum_d {s t : Bool} {c d : Nat} {q r m : Int} {N P : Nat} (hm : m = min q r) (h1 : -1074 ≤ q) (h2 : -1074 ≤ r) (hN : c * 2 ^ (q - -1074).toNat = N) (hP : d * 2 ^ (r - -1074).toNat = P) : Jvm.FP.Core.sumUnits s c q t d r m * ((2 ^ (m - -1074).toNat : Nat) : Int) = Jvm.FP.Core.signed s N + Jvm.FP.Core.signed t P := by
  have e1 : c * 2 ^ (q - m).toNat * 2 ^ (m - -1074).toNat = N := by rw [Nat.mul_assoc, ← Nat.pow_add, show (q - m).toNat + (m - -1074).toNat = (q - -1074).toNat by omega, hN]
  have e2 : d * 2 ^ (r - m).toNat * 2 ^ (m - -1074).toNat = P := by rw [Nat.mul_assoc, ← Nat.pow_add, show (r - m).toNat + (m - -1074).toNat = (r - -1074).toNat by omega, hP]
  show (Jvm.FP.Core.signed s (c * 2 ^ (q - m).toNat) + Jvm.FP.Core.signed t (d * 2 ^ (r - m).toNat)) * _ = _
  rw [Int.add_mul, ← Jvm.FP.Core.signed_mul, ← Jvm.FP.Core.signed_mul, e1, e2]
theorem sg_dvd {s : Bool} {N : Nat} {K : Nat} (h : K ∣ N) : (K : Int) ∣ Jvm.FP.Core.signed s N := by
  cases s
  · exact Int.natCast_dvd_natCast.mpr h
  · exact Int.dvd_neg.mpr (Int.natCast_dvd_natCast.mpr h)
theorem db_add {j : Nat} {x y : UInt64} {t : Bool} {P : Nat} (hx : db j x) (hy : dq y t P) (hP : P ≤ 1 * 2 ^ 1091) (hd : 2 ^ 925 ∣ P) (hj : j < 50) : db (j + 1) (FP.dadd x y) := by
  obtain ⟨s, N, ⟨c, q, e1, h1, h2⟩, hN, hdN, hz⟩ := hx
  obtain ⟨d, r, e2, h3, h4⟩ := hy
  rw [q64] at h1 h2 h3 h4
  obtain ⟨m, hm⟩ : ∃ m, m = min q r := ⟨_, rfl⟩
  have hs := sum_d (s := s) (t := t) hm h1 h3 h2 h4
  have hV : (Jvm.FP.Core.sumUnits s c q t d r m).natAbs * 2 ^ (m - -1074).toNat = (Jvm.FP.Core.signed s N + Jvm.FP.Core.signed t P).natAbs := by rw [← hs, Int.natAbs_mul, Int.natAbs_natCast]
  have hb : (Jvm.FP.Core.signed s N + Jvm.FP.Core.signed t P).natAbs ≤ (j + 1) * 2 ^ 1091 := by
    refine Nat.le_trans (Int.natAbs_add_le _ _) ?_
    rw [Jvm.FP.Core.natAbs_signed, Jvm.FP.Core.natAbs_signed, Nat.add_mul]
    exact Nat.add_le_add hN hP
  have hdv : 2 ^ 925 ∣ (Jvm.FP.Core.signed s N + Jvm.FP.Core.signed t P).natAbs := Int.ofNat_dvd_left.mp (Int.dvd_add (sg_dvd hdN) (sg_dvd hd))
  obtain ⟨Z, h6, h7, h8, h9⟩ := rr_d (s := Jvm.FP.Core.sumSign s t (Jvm.FP.Core.sumUnits s c q t d r m)) (by omega) hV (by omega) hb hdv
  refine ⟨Jvm.FP.Core.sumSign s t (Jvm.FP.Core.sumUnits s c q t d r m), Z, ?_, h7, h8, fun z => ?_⟩
  · show fv _ (Jvm.FP.Core.val64 (Jvm.FP.Core.dadd x y)) _ _
    rw [Jvm.FP.Core.val64_dadd, e1, e2]
    rw [hm] at h6 ⊢
    exact h6
  · have hv0 := h9 z
    have hu0 : Jvm.FP.Core.sumUnits s c q t d r m = 0 := by
      have h10 := hV.trans hv0
      have h11 := (Nat.mul_eq_zero.mp h10).resolve_right (Nat.ne_of_gt (Nat.two_pow_pos _))
      exact Int.natAbs_eq_zero.mp h11
    unfold Jvm.FP.Core.sumSign
    rw [if_pos hu0]
    by_cases e : N = 0
    · rw [hz e]; rfl
    · have h12 := Int.natAbs_eq_zero.mp hv0
      cases s
      · rfl
      · cases t
        · rfl
        · have h13 : -(N : Int) + -(P : Int) = 0 := h12
          omega
theorem db_f {j : Nat} {x : UInt64} {y : UInt32} (hx : db j x) (hy : fb 1 y) (hj : j < 50) : db (j + 1) (FP.dadd x (FP.f2d y)) := by
  obtain ⟨t, P, h1, h2⟩ := hy
  refine db_add hx (dq_f2d h1) ?_ (Nat.dvd_mul_left _ _) hj
  have h3 := Nat.mul_le_mul_right (2 ^ 925) h2
  rw [Nat.mul_assoc, ← Nat.pow_add, show 166 + 925 = 1091 by decide] at h3
  exact h3
theorem db_z {j : Nat} {x : UInt64} (hx : db j x) (hj : j < 50) : db (j + 1) (FP.dadd x FP.dconst0) := db_add hx dq_zero (Nat.zero_le _) (Nat.dvd_zero _) hj
theorem db_0 : db 0 FP.dconst0 := ⟨false, 0, dq_zero, Nat.zero_le _, Nat.dvd_zero _, fun _ => rfl⟩
theorem db_n {j : Nat} {x : UInt64} (h : db j x) : vf_n64 x := by
  obtain ⟨s, N, h, -⟩ := h
  exact dq_n h
def dSum (has : Nat → Int32) (li : Int32) : Nat → UInt64
  | 0 => FP.dconst0
  | k + 1 => FP.dadd (dSum has li k) (if bit li k then FP.dconst0 else FP.f2d (has k).toUInt32)
theorem dSum_db {has : Nat → Int32} {li : Int32} (h : ∀ m, m < 7 → fb 1 (has m).toUInt32) : ∀ k, k ≤ 7 → db k (dSum has li k)
  | 0, _ => db_0
  | k + 1, hk => by
    unfold dSum
    split
    · exact db_z (dSum_db h k (by omega)) (by omega)
    · exact db_f (dSum_db h k (by omega)) (h k (by omega)) (by omega)
set_option maxHeartbeats 1000000 in
theorem zc_sum (l : Launch) (G : zG) (M : zM) (o g lc n t : Nat) (cn : Nat → Nat) (hO : zOb 4 o) (hG : zOb 1 g) (hiv : nIv o g lc n t cn M) (hn7 : n ≤ 7) (ht2 : t ≤ 2) (hlc : lc < 2 ^ 31) (hL : lyF lc o (o + 3)) (hgo : g + 5 < o ∨ o + 3 < g) : zC l G 2 yX5_sum cX5_sum 5 (Option.some Jvm.ClassFile.FieldType.double) [.ref o, .ref g] M (zP (some (.double (dSum (M.1 (o + 1 + 0)) (M.1 lc 0) n))) M) := by
  refine zC_of (by decide) (Nat.le_of_ble_eq_true rfl) (fun X Q hQ hX hl hR hr => ?_)
  refine zV_loc (L' := [.ref o, .ref g, .null, .null, .null]) rfl ?_
  have L5 : ∀ (f9 k : Nat), n - k < f9 → k ≤ n → zV G X Q 5 0 0 5 [.ref o, .ref g, .double (dSum (M.1 (o + 1 + 0)) (M.1 lc 0) k), .null, .int (nI k)] [] M := by
    intro f9
    induction f9 with
    | zero => intro k hk1 hk2; exact absurd hk1 (Nat.not_lt_zero _)
    | succ f9 ih =>
      intro k hk1 hk2
      refine zV_iload hX dX5_sum_5 rfl ?_
      refine zV_aload_n hX dX5_sum_7 rfl ?_
      refine zV_geti hX dX5_sum_8 zf_X5_33 hG.1 rfl (hiv.1) ?_
      refine zV_icmp_geN hX (tgt := 47) dX5_sum_11 (by decide) ⟨by omega, by omega⟩ (fun c_11 => ?_) (fun c_11 => ?_)
      · refine zV_dload_n hX dX5_sum_47 rfl ?_
        exact zV_retd hX hQ hr (⟨by rw [show k = n by omega], rfl⟩) dX5_sum_48
      · refine zV_dload_n hX dX5_sum_14 rfl ?_
        refine zV_aload_n hX dX5_sum_15 rfl ?_
        refine zV_getp hX dX5_sum_16 zf_X5_39 hG.1 rfl (hiv.2.2.1) hlc ?_
        refine zV_iload hX dX5_sum_19 rfl ?_
        refine zV_cV1p hX hR hl dX5_sum_21 (zc_isLiar l G M lc k hL.1) zt_X4_isLiar rfl zml_X5_43 hL.1.1 ⟨by decide, by decide⟩ (Nat.le_of_ble_eq_true rfl) ?_
        dsimp only [Option.toList, List.cons_append, List.nil_append]
        refine zV_if_eqB hX (tgt := 31) dX5_sum_24 (by decide) (fun c_24 => ?_) (fun c_24 => ?_)
        · have e9 : dSum (M.1 (o + 1 + 0)) (M.1 lc 0) (k + 1) = FP.dadd (dSum (M.1 (o + 1 + 0)) (M.1 lc 0) k) (FP.f2d (M.1 (o + 1 + 0) k).toUInt32) := by rw [dSum, if_neg (by rw [c_24]; decide)]
          have hd9 := dSum_db (li := M.1 lc 0) hiv.2.2.2.2.2.2 (k + 1) (by omega)
          rw [e9] at hd9
          have hf9 := (hiv.2.2.2.2.2.2 k (by omega))
          have hn9 : vf_n64 (FP.f2d (M.1 (o + 1 + 0) k).toUInt32) := by obtain ⟨s8, N8, h81, -⟩ := hf9; exact dq_n (dq_f2d h81)
          refine zV_aload_n hX dX5_sum_31 rfl ?_
          refine zV_geta hX dX5_sum_32 zf_X5_9 hO.1 rfl ?_
          refine zV_iload hX dX5_sum_35 rfl ?_
          refine zV_fald hX dX5_sum_37 (hO.a 0 rfl) (rfl) ⟨by omega, by omega⟩ (rfl) ?_
          refine zV_f2d hX dX5_sum_38 (hn9) ?_
          refine zV_dadd hX dX5_sum_39 (db_n hd9) ?_
          refine zV_dstore_n hX dX5_sum_40 (by decide) ?_
          dsimp only [zst1, zst2, zclr, zc2]
          refine zV_iincN hX (b := 1) dX5_sum_41 rfl (by decide) ?_
          dsimp only [zst1, zst2, zclr, zc2]
          refine zV_goto hX (tgt := 5) dX5_sum_44 (by decide) ?_
          have h8 := ih (k + 1) (by omega) (by omega)
          rw [e9] at h8
          exact h8
        · have e9 : dSum (M.1 (o + 1 + 0)) (M.1 lc 0) (k + 1) = FP.dadd (dSum (M.1 (o + 1 + 0)) (M.1 lc 0) k) FP.dconst0 := by rw [dSum, if_pos c_24]
          have hd9 := dSum_db (li := M.1 lc 0) hiv.2.2.2.2.2.2 (k + 1) (by omega)
          rw [e9] at hd9
          refine zV_dconst0 hX dX5_sum_27 ?_
          refine zV_goto hX (tgt := 39) dX5_sum_28 (by decide) ?_
          refine zV_dadd hX dX5_sum_39 (db_n hd9) ?_
          refine zV_dstore_n hX dX5_sum_40 (by decide) ?_
          dsimp only [zst1, zst2, zclr, zc2]
          refine zV_iincN hX (b := 1) dX5_sum_41 rfl (by decide) ?_
          dsimp only [zst1, zst2, zclr, zc2]
          refine zV_goto hX (tgt := 5) dX5_sum_44 (by decide) ?_
          have h8 := ih (k + 1) (by omega) (by omega)
          rw [e9] at h8
          exact h8
  refine zV_dconst0 hX dX5_sum_0 ?_
  refine zV_dstore_n hX dX5_sum_1 (by decide) ?_
  dsimp only [zst1, zst2, zclr, zc2]
  refine zV_iconst hX (v := nI 0) dX5_sum_2 (by decide) ?_
  refine zV_istore hX dX5_sum_3 (by decide) ?_
  dsimp only [zst1, zst2, zclr, zc2]
  exact L5 (n + 1) 0 (by omega) (by omega)
