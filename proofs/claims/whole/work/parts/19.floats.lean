theorem iv_nI {n : Nat} (h : n < 2 ^ 31) : (nI n).toInt = (n : Int) := Int32.toInt_ofNat_of_lt h
theorem dc_int {x y : UInt64} {s t : Bool} {N M : Nat} {op : CmpOp} (h : dq x s N) (h2 : dq y t M) : (Op.cmpValue (FP.dcmp x y) op < 0 ↔ Jvm.FP.Core.signed s N < Jvm.FP.Core.signed t M) ∧ (0 ≤ Op.cmpValue (FP.dcmp x y) op ↔ Jvm.FP.Core.signed t M ≤ Jvm.FP.Core.signed s N) ∧ (Op.cmpValue (FP.dcmp x y) op = 0 ↔ Jvm.FP.Core.signed s N = Jvm.FP.Core.signed t M) := by
  rw [dq_cmp h h2]
  generalize Jvm.FP.Core.signed s N = I
  generalize Jvm.FP.Core.signed t M = J
  rw [show compare I J = (if I < J then Ordering.lt else if I = J then Ordering.eq else Ordering.gt) from rfl]
  rcases Int.lt_trichotomy I J with q | q | q
  · rw [if_pos q]
    exact ⟨⟨fun _ => q, fun _ => by cases op <;> decide⟩, ⟨fun h => absurd h (by cases op <;> decide), fun h => by omega⟩, ⟨fun h => absurd h (by cases op <;> decide), fun h => by omega⟩⟩
  · rw [if_neg (by omega), if_pos q]
    exact ⟨⟨fun h => absurd h (by cases op <;> decide), fun h => by omega⟩, ⟨fun _ => by omega, fun _ => by cases op <;> decide⟩, ⟨fun _ => q, fun _ => by cases op <;> rfl⟩⟩
  · rw [if_neg (by omega), if_neg (by omega)]
    exact ⟨⟨fun h => absurd h (by cases op <;> decide), fun h => by omega⟩, ⟨fun _ => by omega, fun _ => by cases op <;> decide⟩, ⟨fun h => absurd h (by cases op <;> decide), fun h => by omega⟩⟩
theorem fc_int {x y : UInt32} {s t : Bool} {N M : Nat} {op : CmpOp} (h : sq x s N) (h2 : sq y t M) : (Op.cmpValue (FP.fcmp x y) op < 0 ↔ Jvm.FP.Core.signed s N < Jvm.FP.Core.signed t M) ∧ (0 ≤ Op.cmpValue (FP.fcmp x y) op ↔ Jvm.FP.Core.signed t M ≤ Jvm.FP.Core.signed s N) ∧ (Op.cmpValue (FP.fcmp x y) op = 0 ↔ Jvm.FP.Core.signed s N = Jvm.FP.Core.signed t M) := by
  rw [sq_cmp h h2]
  generalize Jvm.FP.Core.signed s N = I
  generalize Jvm.FP.Core.signed t M = J
  rw [show compare I J = (if I < J then Ordering.lt else if I = J then Ordering.eq else Ordering.gt) from rfl]
  rcases Int.lt_trichotomy I J with q | q | q
  · rw [if_pos q]
    exact ⟨⟨fun _ => q, fun _ => by cases op <;> decide⟩, ⟨fun h => absurd h (by cases op <;> decide), fun h => by omega⟩, ⟨fun h => absurd h (by cases op <;> decide), fun h => by omega⟩⟩
  · rw [if_neg (by omega), if_pos q]
    exact ⟨⟨fun h => absurd h (by cases op <;> decide), fun h => by omega⟩, ⟨fun _ => by omega, fun _ => by cases op <;> decide⟩, ⟨fun _ => q, fun _ => by cases op <;> rfl⟩⟩
  · rw [if_neg (by omega), if_neg (by omega)]
    exact ⟨⟨fun h => absurd h (by cases op <;> decide), fun h => by omega⟩, ⟨fun _ => by omega, fun _ => by cases op <;> decide⟩, ⟨fun h => absurd h (by cases op <;> decide), fun h => by omega⟩⟩
theorem dc_nat {x y : UInt64} {N M : Nat} {op : CmpOp} (h : dq x false N) (h2 : dq y false M) : (Op.cmpValue (FP.dcmp x y) op < 0 ↔ N < M) ∧ (0 ≤ Op.cmpValue (FP.dcmp x y) op ↔ M ≤ N) := by
  obtain ⟨a, b, -⟩ := dc_int (op := op) h h2
  have e1 : Jvm.FP.Core.signed false N = (N : Int) := rfl
  have e2 : Jvm.FP.Core.signed false M = (M : Int) := rfl
  rw [e1, e2] at a b
  exact ⟨a.trans Int.ofNat_lt, b.trans Int.ofNat_le⟩
theorem v2m : Jvm.FP.Core.val64 4611686018427387904 = .fin false (2 ^ 52) (((1 : Nat) : Int) - 52) := by decide +kernel
theorem v2h : Jvm.FP.Core.val64 4611686018427387904 = .fin false (2 ^ 52) (-51) := by decide +kernel
theorem v1s : Jvm.FP.Core.val64 FP.dconst1 = .fin false (2 ^ 52) (-52) := by decide +kernel
theorem v23 : Jvm.FP.Core.val64 4710765210229538816 = .fin false (2 ^ 52) (((23 : Nat) : Int) - 52) := by decide +kernel
theorem v52 : Jvm.FP.Core.val64 4841369599423283200 = .fin false (2 ^ 52) (((52 : Nat) : Int) - 52) := by decide +kernel
theorem v0s : Jvm.FP.Core.val64 FP.dconst0 = .fin false 0 (-1074) := by decide +kernel
theorem dq_one : dq FP.dconst1 false (2 ^ 1074) := ⟨2 ^ 52, -52, v1s, by rw [q64]; decide, by rw [q64, ← Nat.pow_add, show 52 + (-52 - -1074 : Int).toNat = 1074 by omega]⟩
theorem dq_two : dq 4611686018427387904 false (2 ^ 1075) := ⟨2 ^ 52, -51, v2h, by rw [q64]; decide, by rw [q64, ← Nat.pow_add, show 52 + (-51 - -1074 : Int).toNat = 1075 by omega]⟩
theorem dq_zero : dq FP.dconst0 false 0 := ⟨0, -1074, v0s, by rw [q64]; decide, Nat.zero_mul _⟩
theorem pw1 (c a : Nat) : c * 2 ^ a * 2 ^ 1 = c * 2 ^ (a + 1) := by rw [Nat.mul_assoc, ← Nat.pow_add]
theorem pwge {c L f i : Nat} (h : 2 ^ L ≤ c) (hL : L + f = i) : 2 ^ i ≤ c * 2 ^ f := by
  rw [← hL, Nat.pow_add]; exact Nat.mul_le_mul_right _ h
theorem pwlt {c L f i : Nat} (h : c < 2 ^ (L + 1)) (hL : L + f + 1 = i) : c * 2 ^ f < 2 ^ i := by
  rw [← hL, show L + f + 1 = (L + 1) + f by omega, Nat.pow_add]; exact Nat.mul_lt_mul_of_pos_right h (Nat.two_pow_pos f)
theorem pwle {a b : Nat} (h : a ≤ b) : 2 ^ a ≤ 2 ^ b := Nat.pow_le_pow_right (by decide) h
theorem in_dec {p : Int32} {j : Nat} (h : p.toInt = -(j : Int)) (hj : j < 2000) : (p + Int32.ofInt (-1)).toInt = -((j + 1 : Nat) : Int) := by
  rw [Int32.toInt_add, h]
  show Int.bmod (-(j : Int) + -1) (2 ^ 32) = _
  rw [Int.bmod_def]
  split <;> omega
set_option maxHeartbeats 1000000 in
theorem zc_scaledU (l : Launch) (G : zG) (M : zM) (x : UInt64) (s : Bool) (c e k : Nat) (h0 : dq x s (c * 2 ^ e)) (hc : c < 2 ^ 53) (he : e + k ≤ 2045) : zC l G 0 yX1_scaled cX1_scaled 4 (Option.some Jvm.ClassFile.FieldType.double) [.double x, .int (nI k)] M ((fun r M2 => M2 = M ∧ ∃ y9, r = some (.double y9) ∧ dq y9 s (c * 2 ^ (e + k)))) := by
  refine zC_of (by decide) (Nat.le_of_ble_eq_true rfl) (fun X Q hQ hX hl hR hr => ?_)
  refine zV_loc (L' := [.double x, .null, .int (nI k), .null]) rfl ?_
  have L2 : ∀ (f9 j : Nat) (x : UInt64), k - j < f9 → j ≤ k → dq x s (c * 2 ^ (e + j)) → zV G X Q 4 0 0 2 [.double x, .null, .int (nI k), .int (nI j)] [] M := by
    intro f9
    induction f9 with
    | zero => intro j x hj1 hj2 hx; exact absurd hj1 (Nat.not_lt_zero _)
    | succ f9 ih =>
      intro j x hj1 hj2 hx
      refine zV_iload_n hX dX1_scaled_2 rfl ?_
      refine zV_iload_n hX dX1_scaled_3 rfl ?_
      refine zV_icmp_geN hX (tgt := 19) dX1_scaled_4 (by decide) ⟨by omega, by omega⟩ (fun c_4 => ?_) (fun c_4 => ?_)
      · refine zV_iconst hX (v := nI 0) dX1_scaled_19 (by decide) ?_
        refine zV_istore_n hX dX1_scaled_20 (by decide) ?_
        dsimp only [zst1, zst2, zclr, zc2]
        refine zV_iload_n hX dX1_scaled_21 rfl ?_
        refine zV_iload_n hX dX1_scaled_22 rfl ?_
        refine zV_icmp_leN hX (tgt := 38) dX1_scaled_23 (by decide) ⟨by omega, by omega⟩ (fun c_23 => ?_) (fun c_23 => absurd c_23 (Nat.not_lt_zero _))
        refine zV_dload_n hX dX1_scaled_38 rfl ?_
        exact zV_retd hX hQ hr (⟨rfl, _, rfl, by rw [show k = j by omega]; exact hx⟩) dX1_scaled_39
      · refine zV_dload_n hX dX1_scaled_7 rfl ?_
        refine zV_ldc2d hX dX1_scaled_8 zkc_X1_30 ?_
        have hx2 : dq (FP.dmul x 4611686018427387904) s (c * 2 ^ (e + (j + 1))) := dq_mul (m := 1) v2m hx (pw1 c (e + j)) hc (by omega)
        refine zV_dmul hX dX1_scaled_11 (dq_n hx2) ?_
        refine zV_dstore_n hX dX1_scaled_12 (by decide) ?_
        dsimp only [zst1, zst2, zclr, zc2]
        refine zV_iincN hX (b := 1) dX1_scaled_13 rfl (by decide) ?_
        dsimp only [zst1, zst2, zclr, zc2]
        refine zV_goto hX (tgt := 2) dX1_scaled_16 (by decide) ?_
        exact ih (j + 1) _ (by omega) (by omega) hx2
  refine zV_iconst hX (v := nI 0) dX1_scaled_0 (by decide) ?_
  refine zV_istore_n hX dX1_scaled_1 (by decide) ?_
  dsimp only [zst1, zst2, zclr, zc2]
  exact L2 (k + 1) 0 x (by omega) (by omega) h0
set_option maxHeartbeats 1000000 in
theorem zc_scaledD (l : Launch) (G : zG) (M : zM) (x : UInt64) (s : Bool) (c e k : Nat) (p : Int32) (h0 : dq x s (c * 2 ^ (e + k))) (hc : c < 2 ^ 53) (he : e + k ≤ 2045) (hk : k < 2000) (hp : p.toInt = -(k : Int)) : zC l G 0 yX1_scaled cX1_scaled 4 (Option.some Jvm.ClassFile.FieldType.double) [.double x, .int p] M ((fun r M2 => M2 = M ∧ ∃ y9, r = some (.double y9) ∧ dq y9 s (c * 2 ^ e))) := by
  refine zC_of (by decide) (Nat.le_of_ble_eq_true rfl) (fun X Q hQ hX hl hR hr => ?_)
  refine zV_loc (L' := [.double x, .null, .int p, .null]) rfl ?_
  have L21 : ∀ (f9 j : Nat) (x : UInt64) (i : Int32), k - j < f9 → j ≤ k → i.toInt = -(j : Int) → dq x s (c * 2 ^ (e + (k - j))) → zV G X Q 4 0 0 21 [.double x, .null, .int p, .int i] [] M := by
    intro f9
    induction f9 with
    | zero => intro j x i hj1 hj2 hi hx; exact absurd hj1 (Nat.not_lt_zero _)
    | succ f9 ih =>
      intro j x i hj1 hj2 hi hx
      refine zV_iload_n hX dX1_scaled_21 rfl ?_
      refine zV_iload_n hX dX1_scaled_22 rfl ?_
      refine zV_icmp_le hX (tgt := 38) dX1_scaled_23 (by decide) (fun c_23 => ?_) (fun c_23 => ?_)
      · have hkj := Int32.le_iff_toInt_le.mp c_23
        rw [hp, hi] at hkj
        refine zV_dload_n hX dX1_scaled_38 rfl ?_
        exact zV_retd hX hQ hr (⟨rfl, _, rfl, by have hx3 := hx; rw [show k - j = 0 by omega] at hx3; exact hx3⟩) dX1_scaled_39
      · have hkj : j < k := Nat.not_le.mp (fun q => c_23 (Int32.le_iff_toInt_le.mpr (by rw [hp, hi]; omega)))
        refine zV_dload_n hX dX1_scaled_26 rfl ?_
        refine zV_ldc2d hX dX1_scaled_27 zkc_X1_30 ?_
        rw [show k - j = k - (j + 1) + 1 by omega, ← Nat.add_assoc] at hx
        have hx2 := dq_half v2h hx hc (by omega)
        refine zV_ddiv hX dX1_scaled_30 (dq_n hx2) ?_
        refine zV_dstore_n hX dX1_scaled_31 (by decide) ?_
        dsimp only [zst1, zst2, zclr, zc2]
        refine zV_iinc hX dX1_scaled_32 rfl (rfl) (by decide) ?_
        dsimp only [zst1, zst2, zclr, zc2]
        refine zV_goto hX (tgt := 21) dX1_scaled_35 (by decide) ?_
        exact ih (j + 1) _ _ (by omega) (by omega) (in_dec hi (by omega)) hx2
  refine zV_iconst hX (v := nI 0) dX1_scaled_0 (by decide) ?_
  refine zV_istore_n hX dX1_scaled_1 (by decide) ?_
  dsimp only [zst1, zst2, zclr, zc2]
  refine zV_iload_n hX dX1_scaled_2 rfl ?_
  refine zV_iload_n hX dX1_scaled_3 rfl ?_
  refine zV_icmp_ge hX (tgt := 19) dX1_scaled_4 (by decide) (fun c_4 => ?_) (fun c_4 => absurd c_4 (fun q => q (Int32.le_iff_toInt_le.mpr (by rw [hp]; show -(k : Int) ≤ 0; omega))))
  refine zV_iconst hX (v := nI 0) dX1_scaled_19 (by decide) ?_
  refine zV_istore_n hX dX1_scaled_20 (by decide) ?_
  dsimp only [zst1, zst2, zclr, zc2]
  exact L21 (k + 1) 0 x (nI 0) (by omega) (by omega) rfl h0
def zPI (P : Int) (M : zM) : Option Value → zM → Prop := fun r M2 => M2 = M ∧ ∃ r9, r = some (.int r9) ∧ r9.toInt = P
def zPD (s : Bool) (N : Nat) (M : zM) : Option Value → zM → Prop := fun r M2 => M2 = M ∧ ∃ y9, r = some (.double y9) ∧ dq y9 s N
set_option maxHeartbeats 1000000 in
theorem zc_powA (l : Launch) (G : zG) (M : zM) (x : UInt64) (c f k L : Nat) (lp : Int32) (h0 : dq x false (c * 2 ^ (f + k))) (hc : c < 2 ^ 53) (hk : k ≤ 1024) (hfk : f + k ≤ 2045) (h1 : 2 ^ L ≤ c) (h2 : c < 2 ^ (L + 1)) (hL : L + f = 1074) : zC l G 0 yX1_powerOf cX1_powerOf 5 (Option.some Jvm.ClassFile.FieldType.int) [.double x, .int lp] M (zPI (k : Int) M) := by
  refine zC_of (by decide) (Nat.le_of_ble_eq_true rfl) (fun X Q hQ hX hl hR hr => ?_)
  refine zV_loc (L' := [.double x, .null, .int lp, .null, .null]) rfl ?_
  have L5 : ∀ (f9 j : Nat) (x : UInt64), k - j < f9 → j ≤ k → dq x false (c * 2 ^ (f + (k - j))) → zV G X Q 5 0 0 5 [.double x, .null, .int lp, .int (nI j), .int (nI j)] [] M := by
    intro f9
    induction f9 with
    | zero => intro j x hj1 hj2 hx; exact absurd hj1 (Nat.not_lt_zero _)
    | succ f9 ih =>
      intro j x hj1 hj2 hx
      refine zV_iload hX dX1_powerOf_5 rfl ?_
      refine zV_sipush hX (v := nI 1100) dX1_powerOf_7 (by decide) ?_
      refine zV_icmp_geN hX (tgt := 36) dX1_powerOf_10 (by decide) ⟨by omega, by omega⟩ (fun c_10 => absurd c_10 (by omega)) (fun c_10 => ?_)
      refine zV_dload_n hX dX1_powerOf_13 rfl ?_
      refine zV_ldc2d hX dX1_powerOf_14 zkc_X1_30 ?_
      refine zV_dcmp hX dX1_powerOf_17 ?_
      refine zV_if_lt hX (tgt := 36) dX1_powerOf_18 (by decide) (fun c_18 => ?_) (fun c_18 => ?_)
      · have hkj : k - j = 0 := Nat.eq_zero_of_not_pos (fun q => absurd ((dc_nat hx dq_two).1.mp c_18) (Nat.not_lt.mpr (Nat.le_trans (pwle (by omega)) (pwge h1 rfl))))
        refine zV_iconst hX (v := nI 0) dX1_powerOf_36 (by decide) ?_
        refine zV_istore hX dX1_powerOf_37 (by decide) ?_
        dsimp only [zst1, zst2, zclr, zc2]
        refine zV_iload hX dX1_powerOf_39 rfl ?_
        refine zV_sipush hX (v := nI 1100) dX1_powerOf_41 (by decide) ?_
        refine zV_icmp_geN hX (tgt := 73) dX1_powerOf_44 (by decide) ⟨by omega, by omega⟩ (fun c_44 => absurd c_44 (by omega)) (fun c_44 => ?_)
        refine zV_dload_n hX dX1_powerOf_47 rfl ?_
        refine zV_dconst1 hX dX1_powerOf_48 ?_
        refine zV_dcmp hX dX1_powerOf_49 ?_
        refine zV_if_ge hX (tgt := 73) dX1_powerOf_50 (by decide) (fun c_50 => ?_) (fun c_50 => absurd c_50 (fun q => q ((dc_nat hx dq_one).2.mpr (Nat.le_trans (pwle (by omega)) (pwge h1 rfl)))))
        refine zV_iload_n hX dX1_powerOf_73 rfl ?_
        exact zV_reti hX hQ hr (⟨rfl, _, rfl, by rw [iv_nI (by omega)]; omega⟩) dX1_powerOf_74
      · have hkj : 0 < k - j := Nat.pos_of_ne_zero (fun q => c_18 ((dc_nat hx dq_two).1.mpr (Nat.lt_of_lt_of_le (pwlt h2 rfl) (pwle (by omega)))))
        refine zV_dload_n hX dX1_powerOf_21 rfl ?_
        refine zV_ldc2d hX dX1_powerOf_22 zkc_X1_30 ?_
        have hx1 := hx
        rw [show f + (k - j) = f + (k - (j + 1)) + 1 by omega] at hx1
        have hx2 := dq_half v2h hx1 hc (by omega)
        refine zV_ddiv hX dX1_powerOf_25 (dq_n hx2) ?_
        refine zV_dstore_n hX dX1_powerOf_26 (by decide) ?_
        dsimp only [zst1, zst2, zclr, zc2]
        refine zV_iincN hX (b := 1) dX1_powerOf_27 rfl (by decide) ?_
        dsimp only [zst1, zst2, zclr, zc2]
        refine zV_iincN hX (b := 1) dX1_powerOf_30 rfl (by decide) ?_
        dsimp only [zst1, zst2, zclr, zc2]
        refine zV_goto hX (tgt := 5) dX1_powerOf_33 (by decide) ?_
        exact ih (j + 1) _ (by omega) (by omega) hx2
  refine zV_iconst hX (v := nI 0) dX1_powerOf_0 (by decide) ?_
  refine zV_istore_n hX dX1_powerOf_1 (by decide) ?_
  dsimp only [zst1, zst2, zclr, zc2]
  refine zV_iconst hX (v := nI 0) dX1_powerOf_2 (by decide) ?_
  refine zV_istore hX dX1_powerOf_3 (by decide) ?_
  dsimp only [zst1, zst2, zclr, zc2]
  exact L5 (k + 1) 0 x (by omega) (by omega) h0
set_option maxHeartbeats 1000000 in
theorem zc_powB (l : Launch) (G : zG) (M : zM) (x : UInt64) (c e k L m : Nat) (lp : Int32) (h0 : dq x false (c * 2 ^ e)) (hc : c < 2 ^ 53) (hk : 1 ≤ k) (hm : m ≤ 1022) (hlp : lp.toInt = -(m : Int)) (h1 : 2 ^ L ≤ c) (h2 : c < 2 ^ (L + 1)) (hL : L + e + k = 1074) : zC l G 0 yX1_powerOf cX1_powerOf 5 (Option.some Jvm.ClassFile.FieldType.int) [.double x, .int lp] M (zPI (-((min k m : Nat) : Int)) M) := by
  refine zC_of (by decide) (Nat.le_of_ble_eq_true rfl) (fun X Q hQ hX hl hR hr => ?_)
  refine zV_loc (L' := [.double x, .null, .int lp, .null, .null]) rfl ?_
  have L39 : ∀ (f9 j : Nat) (x : UInt64) (p : Int32), m - j < f9 → j ≤ m → j ≤ k → p.toInt = -(j : Int) → dq x false (c * 2 ^ (e + j)) → zV G X Q 5 0 0 39 [.double x, .null, .int lp, .int p, .int (nI j)] [] M := by
    intro f9
    induction f9 with
    | zero => intro j x p hj1 hj2 hj3 hp hx; exact absurd hj1 (Nat.not_lt_zero _)
    | succ f9 ih =>
      intro j x p hj1 hj2 hj3 hp hx
      refine zV_iload hX dX1_powerOf_39 rfl ?_
      refine zV_sipush hX (v := nI 1100) dX1_powerOf_41 (by decide) ?_
      refine zV_icmp_geN hX (tgt := 73) dX1_powerOf_44 (by decide) ⟨by omega, by omega⟩ (fun c_44 => absurd c_44 (by omega)) (fun c_44 => ?_)
      refine zV_dload_n hX dX1_powerOf_47 rfl ?_
      refine zV_dconst1 hX dX1_powerOf_48 ?_
      refine zV_dcmp hX dX1_powerOf_49 ?_
      refine zV_if_ge hX (tgt := 73) dX1_powerOf_50 (by decide) (fun c_50 => ?_) (fun c_50 => ?_)
      · have hkj : k ≤ j := Nat.not_lt.mp (fun q => absurd ((dc_nat hx dq_one).2.mp c_50) (Nat.not_le.mpr (Nat.lt_of_lt_of_le (pwlt h2 rfl) (pwle (by omega)))))
        refine zV_iload_n hX dX1_powerOf_73 rfl ?_
        exact zV_reti hX hQ hr (⟨rfl, _, rfl, by rw [hp]; omega⟩) dX1_powerOf_74
      · have hkj : j < k := Nat.not_le.mp (fun q => c_50 ((dc_nat hx dq_one).2.mpr (Nat.le_trans (pwle (by omega)) (pwge h1 rfl))))
        refine zV_iload_n hX dX1_powerOf_53 rfl ?_
        refine zV_iload_n hX dX1_powerOf_54 rfl ?_
        refine zV_icmp_le hX (tgt := 73) dX1_powerOf_55 (by decide) (fun c_55 => ?_) (fun c_55 => ?_)
        · have hmj := Int32.le_iff_toInt_le.mp c_55
          rw [hp, hlp] at hmj
          refine zV_iload_n hX dX1_powerOf_73 rfl ?_
          exact zV_reti hX hQ hr (⟨rfl, _, rfl, by rw [hp]; omega⟩) dX1_powerOf_74
        · have hmj : j < m := Nat.not_le.mp (fun q => c_55 (Int32.le_iff_toInt_le.mpr (by rw [hp, hlp]; omega)))
          refine zV_dload_n hX dX1_powerOf_58 rfl ?_
          refine zV_ldc2d hX dX1_powerOf_59 zkc_X1_30 ?_
          have hx2 : dq (FP.dmul x 4611686018427387904) false (c * 2 ^ (e + (j + 1))) := dq_mul (m := 1) v2m hx (pw1 c (e + j)) hc (by omega)
          refine zV_dmul hX dX1_powerOf_62 (dq_n hx2) ?_
          refine zV_dstore_n hX dX1_powerOf_63 (by decide) ?_
          dsimp only [zst1, zst2, zclr, zc2]
          refine zV_iinc hX dX1_powerOf_64 rfl (rfl) (by decide) ?_
          dsimp only [zst1, zst2, zclr, zc2]
          refine zV_iincN hX (b := 1) dX1_powerOf_67 rfl (by decide) ?_
          dsimp only [zst1, zst2, zclr, zc2]
          refine zV_goto hX (tgt := 39) dX1_powerOf_70 (by decide) ?_
          exact ih (j + 1) _ _ (by omega) (by omega) (by omega) (in_dec hp (by omega)) hx2
  refine zV_iconst hX (v := nI 0) dX1_powerOf_0 (by decide) ?_
  refine zV_istore_n hX dX1_powerOf_1 (by decide) ?_
  dsimp only [zst1, zst2, zclr, zc2]
  refine zV_iconst hX (v := nI 0) dX1_powerOf_2 (by decide) ?_
  refine zV_istore hX dX1_powerOf_3 (by decide) ?_
  dsimp only [zst1, zst2, zclr, zc2]
  refine zV_iload hX dX1_powerOf_5 rfl ?_
  refine zV_sipush hX (v := nI 1100) dX1_powerOf_7 (by decide) ?_
  refine zV_icmp_geN hX (tgt := 36) dX1_powerOf_10 (by decide) ⟨by omega, by omega⟩ (fun c_10 => absurd c_10 (by omega)) (fun c_10 => ?_)
  refine zV_dload_n hX dX1_powerOf_13 rfl ?_
  refine zV_ldc2d hX dX1_powerOf_14 zkc_X1_30 ?_
  refine zV_dcmp hX dX1_powerOf_17 ?_
  refine zV_if_lt hX (tgt := 36) dX1_powerOf_18 (by decide) (fun c_18 => ?_) (fun c_18 => absurd c_18 (fun q => q ((dc_nat h0 dq_two).1.mpr (Nat.lt_of_lt_of_le (pwlt h2 rfl) (pwle (by omega))))))
  refine zV_iconst hX (v := nI 0) dX1_powerOf_36 (by decide) ?_
  refine zV_istore hX dX1_powerOf_37 (by decide) ?_
  dsimp only [zst1, zst2, zclr, zc2]
  exact L39 (m + 1) 0 x (nI 0) (by omega) (by omega) (by omega) rfl h0
theorem zc_pow (l : Launch) (G : zG) (M : zM) (x : UInt64) (c e L m : Nat) (lp : Int32) (h0 : dq x false (c * 2 ^ e)) (hc : c < 2 ^ 53) (he : e ≤ 2045) (hm : m ≤ 1022) (hlp : lp.toInt = -(m : Int)) (h1 : 2 ^ L ≤ c) (h2 : c < 2 ^ (L + 1)) (hL : L ≤ 52) : zC l G 0 yX1_powerOf cX1_powerOf 5 (Option.some Jvm.ClassFile.FieldType.int) [.double x, .int lp] M (zPI (max ((L : Int) + e - 1074) (-(m : Int))) M) := by
  rcases Nat.lt_or_ge (L + e) 1074 with q | q
  · have h := zc_powB l G M x c e (1074 - (L + e)) L m lp h0 hc (by omega) hm hlp h1 h2 (by omega)
    rw [show -((min (1074 - (L + e)) m : Nat) : Int) = max ((L : Int) + e - 1074) (-(m : Int)) by omega] at h
    exact h
  · have h := zc_powA l G M x c (1074 - L) (e + L - 1074) L lp (by rw [show 1074 - L + (e + L - 1074) = e by omega]; exact h0) hc (by omega) (by omega) h1 h2 (by omega)
    rw [show ((e + L - 1074 : Nat) : Int) = max ((L : Int) + e - 1074) (-(m : Int)) by omega] at h
    exact h
theorem zc_scaled (l : Launch) (G : zG) (M : zM) (x : UInt64) (s : Bool) (c e u : Nat) (p : Int32) (h0 : dq x s (c * 2 ^ e)) (hc : c < 2 ^ 53) (he : e ≤ 2045) (hu : u ≤ 2045) (hp : p.toInt = (u : Int) - e) (h9 : e < u + 2000) : zC l G 0 yX1_scaled cX1_scaled 4 (Option.some Jvm.ClassFile.FieldType.double) [.double x, .int p] M (zPD s (c * 2 ^ u) M) := by
  rcases Nat.lt_or_ge u e with q | q
  · have h := zc_scaledD l G M x s c u (e - u) p (by rw [show u + (e - u) = e by omega]; exact h0) hc (by omega) (by omega) (by omega)
    exact h
  · have hpk : p = nI (u - e) := Int32.toInt.inj (by rw [hp, iv_nI (by omega)]; omega)
    have h := zc_scaledU l G M x s c e (u - e) h0 hc (by omega)
    rw [show e + (u - e) = u by omega] at h
    rw [hpk]
    exact h
theorem sq_zero : sq FP.fconst0 false 0 := ⟨0, -149, by rw [show Jvm.FP.Core.val32 FP.fconst0 = _ from Jvm.FP.Core.val32_fconst0, q32], by rw [q32]; decide, Nat.zero_mul _⟩
theorem fdiv_z {x : UInt32} {s : Bool} (h : sq x s 0) : Jvm.FP.Core.val32 (FP.fdiv FP.fconst1 x) = .inf s := by
  obtain ⟨c, q, e, -, h2⟩ := h
  have hc : c = 0 := (Nat.mul_eq_zero.mp h2).resolve_right (Nat.ne_of_gt (Nat.two_pow_pos _))
  subst hc
  show Jvm.FP.Core.val32 (Jvm.FP.Core.fdiv Jvm.FP.Core.fconst1 x) = _
  rw [Jvm.FP.Core.val32_fdiv, e, Jvm.FP.Core.val32_fconst1]
  show (if 0 = 0 then (if 2 ^ 23 = 0 then Jvm.FP.Core.Datum.nan else Jvm.FP.Core.Datum.inf (false != s)) else Jvm.FP.Core.roundRatio Jvm.FP.Core.b32 (false != s) (2 ^ 23) 0 (-23 - q)) = _
  rw [if_pos rfl, if_neg (by decide)]
  cases s <;> rfl
theorem fc_inf {y : UInt32} {s : Bool} {op : CmpOp} (h : Jvm.FP.Core.val32 y = .inf s) : (0 ≤ Op.cmpValue (FP.fcmp y FP.fconst0) op ↔ s = false) := by
  show (0 ≤ Op.cmpValue (Jvm.FP.Core.fcmp y Jvm.FP.Core.fconst0) op ↔ s = false)
  rw [show Jvm.FP.Core.fcmp y Jvm.FP.Core.fconst0 = Jvm.FP.Core.order (Jvm.FP.Core.val32 y) (Jvm.FP.Core.val32 Jvm.FP.Core.fconst0) from rfl, h, Jvm.FP.Core.val32_fconst0]
  cases s
  · exact ⟨fun _ => rfl, fun _ => by cases op <;> decide⟩
  · exact ⟨fun q => absurd q (by cases op <;> decide), fun q => by cases q⟩
theorem sg_lt {s : Bool} {N : Nat} : Jvm.FP.Core.signed s N < Jvm.FP.Core.signed false 0 ↔ (s = true ∧ 0 < N) := by
  cases s
  · exact ⟨fun h => absurd (show (N : Int) < 0 from h) (by omega), fun h => by cases h.1⟩
  · exact ⟨fun h => ⟨rfl, by have h : -(N : Int) < 0 := h; omega⟩, fun h => by show -(N : Int) < 0; have := h.2; omega⟩
theorem sg_eq {s : Bool} {N : Nat} : Jvm.FP.Core.signed s N = Jvm.FP.Core.signed false 0 ↔ N = 0 := by
  cases s
  · exact ⟨fun h => by have h : (N : Int) = 0 := h; omega, fun h => by subst h; rfl⟩
  · exact ⟨fun h => by have h : -(N : Int) = 0 := h; omega, fun h => by subst h; rfl⟩
theorem sg_le {s : Bool} {N : Nat} : Jvm.FP.Core.signed false 0 ≤ Jvm.FP.Core.signed s N ↔ (s = false ∨ N = 0) := by
  cases s
  · exact ⟨fun _ => Or.inl rfl, fun _ => by show (0 : Int) ≤ N; omega⟩
  · exact ⟨fun h => Or.inr (by have h : (0 : Int) ≤ -(N : Int) := h; omega), fun h => by rcases h with h | h; cases h; show (0 : Int) ≤ -(N : Int); omega⟩
set_option maxHeartbeats 1000000 in
theorem zc_isMinus (l : Launch) (G : zG) (M : zM) (x : UInt32) (s : Bool) (N : Nat) (hx : sq x s N) : zC l G 0 yX1_isMinus cX1_isMinus 1 (Option.some Jvm.ClassFile.FieldType.boolean) [.float x] M (zP (some (.int (zb s))) M) := by
  refine zC_of (by decide) (Nat.le_of_ble_eq_true rfl) (fun X Q hQ hX hl hR hr => ?_)
  refine zV_loc (L' := [.float x]) rfl ?_
  refine zV_fload_n hX dX1_isMinus_0 rfl ?_
  refine zV_fconst0 hX dX1_isMinus_1 ?_
  refine zV_fcmp hX dX1_isMinus_2 ?_
  refine zV_if_lt hX (tgt := 20) dX1_isMinus_3 (by decide) (fun c_3 => ?_) (fun c_3 => ?_)
  · have hs : s = true := (sg_lt.mp ((fc_int hx sq_zero).1.mp c_3)).1
    refine zV_iconst hX (v := nI 1) dX1_isMinus_20 (by decide) ?_
    refine zV_goto hX (tgt := 25) dX1_isMinus_21 (by decide) ?_
    exact zV_retz hX hQ hr (rfl) (⟨by rw [hs]; rfl, rfl⟩) dX1_isMinus_25
  · have hs0 : s = false ∨ N = 0 := by rcases Nat.eq_zero_or_pos N with q | q; exact Or.inr q; cases s; exact Or.inl rfl; exact absurd ((fc_int hx sq_zero).1.mpr (sg_lt.mpr ⟨rfl, q⟩)) c_3
    refine zV_fload_n hX dX1_isMinus_6 rfl ?_
    refine zV_fconst0 hX dX1_isMinus_7 ?_
    refine zV_fcmp hX dX1_isMinus_8 ?_
    refine zV_if_ne hX (tgt := 24) dX1_isMinus_9 (by decide) (fun c_9 => ?_) (fun c_9 => ?_)
    · have hs : s = false := hs0.resolve_right (fun q => c_9 ((fc_int hx sq_zero).2.2.mpr (sg_eq.mpr q)))
      refine zV_iconst hX (v := nI 0) dX1_isMinus_24 (by decide) ?_
      exact zV_retz hX hQ hr (rfl) (⟨by rw [hs]; rfl, rfl⟩) dX1_isMinus_25
    · have hN0 := sg_eq.mp ((fc_int hx sq_zero).2.2.mp c_9)
      rw [hN0] at hx
      have hd := fdiv_z hx
      refine zV_fconst1 hX dX1_isMinus_12 ?_
      refine zV_fload_n hX dX1_isMinus_13 rfl ?_
      refine zV_fdiv hX dX1_isMinus_14 (vn32 (by rw [hd]; exact fun q => nomatch q)) ?_
      refine zV_fconst0 hX dX1_isMinus_15 ?_
      refine zV_fcmp hX dX1_isMinus_16 ?_
      refine zV_if_ge hX (tgt := 24) dX1_isMinus_17 (by decide) (fun c_17 => ?_) (fun c_17 => ?_)
      · have hs : s = false := (fc_inf hd).mp c_17
        refine zV_iconst hX (v := nI 0) dX1_isMinus_24 (by decide) ?_
        exact zV_retz hX hQ hr (rfl) (⟨by rw [hs]; rfl, rfl⟩) dX1_isMinus_25
      · have hs : s = true := by cases s; exact absurd ((fc_inf hd).mpr rfl) c_17; rfl
        refine zV_iconst hX (v := nI 1) dX1_isMinus_20 (by decide) ?_
        refine zV_goto hX (tgt := 25) dX1_isMinus_21 (by decide) ?_
        exact zV_retz hX hQ hr (rfl) (⟨by rw [hs]; rfl, rfl⟩) dX1_isMinus_25
def sgw (s : Bool) : Int32 := if s then -2147483648 else nI 0
theorem sgw_n (s : Bool) : (sgw s).toBitVec.toNat = s.toNat * 2 ^ 31 := by cases s <;> decide
theorem nI_bv {n : Nat} (h : n < 2 ^ 32) : (nI n).toBitVec.toNat = n := by
  show (BitVec.ofNat 32 n).toNat = n
  rw [BitVec.toNat_ofNat, Nat.mod_eq_of_lt h]
theorem or_add {a b k : Nat} (h : b < 2 ^ k) : (a * 2 ^ k) ||| b = a * 2 ^ k + b := by
  rw [← Nat.shiftLeft_eq, Nat.shiftLeft_add_eq_or_of_lt h]
theorem asm32 (s : Bool) {E T : Nat} (hE : E < 256) (hT : T < 2 ^ 23) : (sgw s ||| (nI E <<< (nI 23 &&& 31)) ||| nI T).toBitVec.toNat = (s.toNat * 256 + E) * 2 ^ 23 + T := by
  have e1 : (nI E <<< (nI 23 &&& 31)).toBitVec.toNat = E * 2 ^ 23 := by
    have : nI 23 &&& 31 = 23 := by decide
    rw [this]
    show ((nI E).toBitVec <<< (BitVec.smod (23 : Int32).toBitVec 32)).toNat = _
    rw [show BitVec.smod (23 : Int32).toBitVec 32 = 23#32 by decide]
    show ((nI E).toBitVec <<< (23#32).toNat).toNat = _
    rw [BitVec.toNat_shiftLeft, nI_bv (by omega), Nat.shiftLeft_eq]
    show E * 2 ^ 23 % 2 ^ 32 = _
    rw [Nat.mod_eq_of_lt (by omega)]
  show ((sgw s).toBitVec ||| (nI E <<< (nI 23 &&& 31)).toBitVec ||| (nI T).toBitVec).toNat = _
  rw [BitVec.toNat_or, BitVec.toNat_or, e1, sgw_n, nI_bv (by omega), or_add (b := E * 2 ^ 23) (by omega), show s.toNat * 2 ^ 31 + E * 2 ^ 23 = (s.toNat * 256 + E) * 2 ^ 23 by omega, or_add hT]
theorem asm32z (s : Bool) {T : Nat} (hT : T < 2 ^ 23) : (sgw s ||| nI T).toBitVec.toNat = (s.toNat * 256 + 0) * 2 ^ 23 + T := by
  show ((sgw s).toBitVec ||| (nI T).toBitVec).toNat = _
  rw [BitVec.toNat_or, sgw_n, nI_bv (by omega), or_add (by omega)]
  omega
/-- a float's fields: what its bits are -/
def fld (x : UInt32) (s : Bool) (E T : Nat) : Prop := x.toNat = (s.toNat * 256 + E) * 2 ^ 23 + T ∧ E < 255 ∧ T < 2 ^ 23
theorem fld_i {x : UInt32} {s : Bool} {E T : Nat} {v : Int32} (h : fld x s E T) (hv : v.toBitVec.toNat = (s.toNat * 256 + E) * 2 ^ 23 + T) : v = x.toInt32 := by
  apply Int32.toBitVec.inj
  apply BitVec.eq_of_toNat_eq
  rw [hv, ← h.1]; rfl
theorem t32 : Jvm.FP.Core.b32.tails = 2 ^ 23 := by decide
theorem e32 : Jvm.FP.Core.b32.exps = 256 := by decide
theorem fld_val {x : UInt32} {s : Bool} {E T : Nat} (h : fld x s E T) : Jvm.FP.Core.val32 x = if E = 0 then .fin s T (-149) else .fin s (2 ^ 23 + T) (-149 + ((E : Int) - 1)) := by
  obtain ⟨h1, h2, h3⟩ := h
  have e : x.toNat = Jvm.FP.Core.assemble Jvm.FP.Core.b32 s E T := by rw [h1]; unfold Jvm.FP.Core.assemble; rw [t32, e32]
  show Jvm.FP.Core.decode Jvm.FP.Core.b32 x.toNat = _
  rw [e, Jvm.FP.Core.decode_assemble _ _ _ _ (by rw [e32]; omega) (by rw [t32]; exact h3), e32, t32, q32, if_neg (by omega)]
theorem fld_sq {x : UInt32} {s : Bool} {E T : Nat} (h : fld x s E T) : sq x s (if E = 0 then T else (2 ^ 23 + T) * 2 ^ (E - 1)) := by
  have hv := fld_val h
  by_cases hE : E = 0
  · rw [if_pos hE] at hv ⊢
    exact ⟨T, -149, hv, by rw [q32]; decide, by rw [q32]; exact Nat.mul_one T⟩
  · rw [if_neg hE] at hv ⊢
    exact ⟨2 ^ 23 + T, _, hv, by rw [q32]; omega, by rw [q32, show (-149 + ((E : Int) - 1) - -149).toNat = E - 1 by omega]⟩
theorem fld_of {x : UInt32} (h : Jvm.FP.Core.FFin x) : ∃ s E T, fld x s E T := by
  have h1 := (Jvm.FP.Core.fin_bits32 x).mp h
  have h2 := x.toNat_lt
  refine ⟨decide (2 ^ 31 ≤ x.toNat), x.toNat / 2 ^ 23 % 256, x.toNat % 2 ^ 23, ?_, by omega, Nat.mod_lt _ (by decide)⟩
  by_cases q : 2 ^ 31 ≤ x.toNat
  · rw [decide_eq_true q]; show x.toNat = (1 * 256 + _) * 2 ^ 23 + _; omega
  · rw [decide_eq_false q]; show x.toNat = (0 * 256 + _) * 2 ^ 23 + _; omega
theorem fld_pre {x : UInt32} {s : Bool} {E T : Nat} (h : fld x s E T) : ∃ c, (E = 0 ∧ c = T ∨ 0 < E ∧ c = 2 ^ 23 + T) ∧ sq x s (c * 2 ^ (E - 1)) ∧ c < 2 ^ 24 := by
  have h1 := fld_sq h
  have hT := h.2.2
  by_cases hE : E = 0
  · rw [if_pos hE] at h1
    exact ⟨T, Or.inl ⟨hE, rfl⟩, by rw [hE]; rw [show T * 2 ^ (0 - 1) = T from Nat.mul_one T]; exact h1, by omega⟩
  · rw [if_neg hE] at h1
    exact ⟨2 ^ 23 + T, Or.inr ⟨by omega, rfl⟩, h1, by omega⟩
theorem lg_pre {c B : Nat} (h0 : 0 < c) (hB : c < 2 ^ (B + 1)) : ∃ L, 2 ^ L ≤ c ∧ c < 2 ^ (L + 1) ∧ L ≤ B ∧ (2 ^ B ≤ c → L = B) ∧ (c < 2 ^ B → L < B) := by
  have h1 : 2 ^ c.log2 ≤ c := Nat.log2_self_le (by omega)
  have h2 : c < 2 ^ (c.log2 + 1) := Nat.lt_log2_self
  have h3 : c.log2 ≤ B := Nat.not_lt.mp (fun q => by
    have := Nat.pow_le_pow_right (n := 2) (by decide) (show B + 1 ≤ c.log2 by omega)
    omega)
  refine ⟨c.log2, h1, h2, h3, fun q => ?_, fun q => ?_⟩
  · rcases Nat.lt_or_ge c.log2 B with r | r
    · have := Nat.pow_le_pow_right (n := 2) (by decide) (show c.log2 + 1 ≤ B by omega)
      omega
    · omega
  · rcases Nat.lt_or_ge c.log2 B with r | r
    · exact r
    · have := Nat.pow_le_pow_right (n := 2) (by decide) r
      omega
theorem in_neg {p : Int32} {P : Int} (h : p.toInt = P) (hP : -2000 < P ∧ P < 2000) : (-p).toInt = -P := by
  rw [Int32.toInt_neg, h]
  rw [Int.bmod_def]
  split <;> omega
theorem in_add {p : Int32} {P : Int} {n : Nat} (h : p.toInt = P) (hn : n < 2000) (hP : -2000 < P ∧ P < 2000) (h0 : 0 ≤ P + n) : p + nI n = nI (P + n).toNat := by
  apply Int32.toInt.inj
  rw [Int32.toInt_add, h, iv_nI (by omega), iv_nI (by omega), Int.bmod_def]
  split <;> omega
set_option maxHeartbeats 1000000 in
theorem zc_bitsOf (l : Launch) (G : zG) (M : zM) (x : UInt32) (s : Bool) (E T : Nat) (h : fld x s E T) : zC l G 1 yX1_bitsOf cX1_bitsOf 5 (Option.some Jvm.ClassFile.FieldType.int) [.float x] M (zP (some (.int x.toInt32)) M) := by
  refine zC_of (by decide) (Nat.le_of_ble_eq_true rfl) (fun X Q hQ hX hl hR hr => ?_)
  refine zV_loc (L' := [.float x, .null, .null, .null, .null]) rfl ?_
  have hT := h.2.2
  have hE9 := h.2.1
  obtain ⟨c, hcd, hx, hc⟩ := fld_pre h
  have J13 : ∀ w9 : Int32, w9 = sgw s → zV G X Q 5 0 0 13 [.float x, .null, .null, .null, .null] [.int w9] M := by
    intro w9 hw9
    subst hw9
    have J36 : 0 < c * 2 ^ (E - 1) → ∀ d9 : UInt64, dq d9 false (c * 2 ^ (E - 1 + 925)) → zV G X Q 5 0 0 36 [.float x, .int (sgw s), .null, .null, .null] [.double d9] M := by
      intro hpos d9 hd
      have hc0 : 0 < c := Nat.pos_of_ne_zero (fun q => by rw [q, Nat.zero_mul] at hpos; exact absurd hpos (Nat.lt_irrefl 0))
      obtain ⟨L, h1, h2, hL, hL1, hL2⟩ := lg_pre (B := 23) hc0 hc
      refine zV_dstore_n hX dX1_bitsOf_36 (by decide) ?_
      dsimp only [zst1, zst2, zclr, zc2]
      refine zV_dload_n hX dX1_bitsOf_37 rfl ?_
      refine zV_bipush hX (v := (-126)) dX1_bitsOf_38 (by decide) ?_
      refine zV_cS2 hX hR hl dX1_bitsOf_40 (zc_pow l G M d9 c (E - 1 + 925) L 126 (-126) hd (by omega) (by omega) (by decide) (by decide) h1 h2 (by omega)) zt_X1_powerOf rfl zml_X1_14 (by decide) (Nat.le_of_ble_eq_true rfl) (fun r M1 hp => ?_)
      obtain ⟨e9, r9, rfl, hr9⟩ := hp
      rw [e9]
      have hr8 : r9.toInt = ((E - 1 : Nat) : Int) - 126 := by rw [hr9]; rcases hcd with ⟨g1, g2⟩ | ⟨g1, g2⟩ <;> omega
      dsimp only [Option.toList, List.cons_append, List.nil_append]
      refine zV_istore hX dX1_bitsOf_43 (by decide) ?_
      dsimp only [zst1, zst2, zclr, zc2]
      refine zV_dload_n hX dX1_bitsOf_45 rfl ?_
      refine zV_iload hX dX1_bitsOf_46 rfl ?_
      refine zV_ineg hX dX1_bitsOf_48 ?_
      refine zV_cS2 hX hR hl dX1_bitsOf_49 (zc_scaled l G M d9 false c (E - 1 + 925) 1051 _ hd (by omega) (by omega) (by omega) (by rw [in_neg hr8 (by omega)]; omega) (by omega)) zt_X1_scaled rfl zml_X1_18 (by decide) (Nat.le_of_ble_eq_true rfl) (fun r M1 hp => ?_)
      obtain ⟨e9, y9, rfl, hy⟩ := hp
      rw [e9]
      dsimp only [Option.toList, List.cons_append, List.nil_append]
      refine zV_dstore_n hX dX1_bitsOf_52 (by decide) ?_
      dsimp only [zst1, zst2, zclr, zc2]
      refine zV_dload_n hX dX1_bitsOf_53 rfl ?_
      refine zV_dconst1 hX dX1_bitsOf_54 ?_
      refine zV_dcmp hX dX1_bitsOf_55 ?_
      refine zV_if_ge hX (tgt := 68) dX1_bitsOf_56 (by decide) (fun c_56 => ?_) (fun c_56 => ?_)
      · have hE : 0 < E := Nat.pos_of_ne_zero (fun q => absurd ((dc_nat hy dq_one).2.mp c_56) (Nat.not_le.mpr (pwlt (L := 22) (by rcases hcd with ⟨g1, g2⟩ | ⟨g1, g2⟩ <;> omega) rfl)))
        have hcT : c = 2 ^ 23 + T := by rcases hcd with ⟨g1, g2⟩ | ⟨g1, g2⟩ <;> omega
        have hz : dq (FP.dsub y9 FP.dconst1) false (T * 2 ^ 1051) := dq_sub1 v1s hy (by rw [hcT, Nat.add_mul, ← Nat.pow_add, Nat.add_comm]) (by omega) (by omega)
        have hw : dq (FP.dmul (FP.dsub y9 FP.dconst1) 4710765210229538816) false (T * 2 ^ 1074) := dq_mul (m := 23) v23 hz (by rw [Nat.mul_assoc, ← Nat.pow_add]) (by omega) (by omega)
        refine zV_iload_n hX dX1_bitsOf_68 rfl ?_
        refine zV_iload hX dX1_bitsOf_69 rfl ?_
        refine zV_bipush hX (v := nI 127) dX1_bitsOf_71 (by decide) ?_
        refine zV_iadd hX dX1_bitsOf_73 ?_
        refine zV_topi (nI E) (by rw [in_add hr8 (by omega) (by omega) (by omega)]; congr 1; omega) ?_
        refine zV_bipush hX (v := nI 23) dX1_bitsOf_74 (by decide) ?_
        refine zV_ishl hX dX1_bitsOf_76 ?_
        refine zV_ior hX dX1_bitsOf_77 ?_
        refine zV_dload_n hX dX1_bitsOf_78 rfl ?_
        refine zV_dconst1 hX dX1_bitsOf_79 ?_
        refine zV_dsub hX dX1_bitsOf_80 (dq_n hz) ?_
        refine zV_ldc2d hX dX1_bitsOf_81 zkc_X1_22 ?_
        refine zV_dmul hX dX1_bitsOf_84 (dq_n hw) ?_
        refine zV_d2i hX dX1_bitsOf_85 ?_
        refine zV_topi (nI T) (dq_d2i hw (by omega)) ?_
        refine zV_ior hX dX1_bitsOf_86 ?_
        exact zV_reti hX hQ hr (⟨congrArg (fun z => some (Value.int z)) (fld_i h (asm32 s (by omega) hT)), rfl⟩) dX1_bitsOf_87
      · have hE : E = 0 := Nat.eq_zero_of_not_pos (fun q => c_56 ((dc_nat hy dq_one).2.mpr (pwge (L := 23) (by rcases hcd with ⟨g1, g2⟩ | ⟨g1, g2⟩ <;> omega) rfl)))
        have hcT : c = T := by rcases hcd with ⟨g1, g2⟩ | ⟨g1, g2⟩ <;> omega
        have hw : dq (FP.dmul y9 4710765210229538816) false (T * 2 ^ 1074) := dq_mul (m := 23) v23 hy (by rw [hcT, Nat.mul_assoc, ← Nat.pow_add]) (by omega) (by omega)
        refine zV_iload_n hX dX1_bitsOf_59 rfl ?_
        refine zV_dload_n hX dX1_bitsOf_60 rfl ?_
        refine zV_ldc2d hX dX1_bitsOf_61 zkc_X1_22 ?_
        refine zV_dmul hX dX1_bitsOf_64 (dq_n hw) ?_
        refine zV_d2i hX dX1_bitsOf_65 ?_
        refine zV_topi (nI T) (dq_d2i hw (by omega)) ?_
        refine zV_ior hX dX1_bitsOf_66 ?_
        exact zV_reti hX hQ hr (⟨congrArg (fun z => some (Value.int z)) (fld_i h (by rw [hE]; exact asm32z s hT)), rfl⟩) dX1_bitsOf_67
    refine zV_istore_n hX dX1_bitsOf_13 (by decide) ?_
    dsimp only [zst1, zst2, zclr, zc2]
    refine zV_fload_n hX dX1_bitsOf_14 rfl ?_
    refine zV_fconst0 hX dX1_bitsOf_15 ?_
    refine zV_fcmp hX dX1_bitsOf_16 ?_
    refine zV_if_ne hX (tgt := 22) dX1_bitsOf_17 (by decide) (fun c_17 => ?_) (fun c_17 => ?_)
    · have hpos : 0 < c * 2 ^ (E - 1) := Nat.pos_of_ne_zero (fun q => c_17 ((fc_int hx sq_zero).2.2.mpr (sg_eq.mpr q)))
      refine zV_fload_n hX dX1_bitsOf_22 rfl ?_
      refine zV_fconst0 hX dX1_bitsOf_23 ?_
      refine zV_fcmp hX dX1_bitsOf_24 ?_
      refine zV_if_ge hX (tgt := 34) dX1_bitsOf_25 (by decide) (fun c_25 => ?_) (fun c_25 => ?_)
      · have hs : s = false := (sg_le.mp ((fc_int hx sq_zero).2.1.mp c_25)).resolve_right (Nat.ne_of_gt hpos)
        refine zV_fload_n hX dX1_bitsOf_34 rfl ?_
        refine zV_f2d hX dX1_bitsOf_35 (dq_n (dq_f2d hx)) ?_
        exact J36 hpos _ (by first | (have h9 := dq_f2d hx; rw [hs, Nat.mul_assoc, ← Nat.pow_add] at h9; exact h9) | (have h9 := dq_neg (dq_f2d hx); rw [hs, Nat.mul_assoc, ← Nat.pow_add] at h9; exact h9))
      · have hs : s = true := by cases s; exact absurd ((fc_int hx sq_zero).2.1.mpr (sg_le.mpr (Or.inl rfl))) c_25; rfl
        refine zV_fload_n hX dX1_bitsOf_28 rfl ?_
        refine zV_f2d hX dX1_bitsOf_29 (dq_n (dq_f2d hx)) ?_
        refine zV_dneg hX dX1_bitsOf_30 ?_
        refine zV_goto hX (tgt := 36) dX1_bitsOf_31 (by decide) ?_
        exact J36 hpos _ (by first | (have h9 := dq_f2d hx; rw [hs, Nat.mul_assoc, ← Nat.pow_add] at h9; exact h9) | (have h9 := dq_neg (dq_f2d hx); rw [hs, Nat.mul_assoc, ← Nat.pow_add] at h9; exact h9))
    · have hN0 := sg_eq.mp ((fc_int hx sq_zero).2.2.mp c_17)
      have hc0 : c = 0 := (Nat.mul_eq_zero.mp hN0).resolve_right (Nat.ne_of_gt (Nat.two_pow_pos _))
      refine zV_iload_n hX dX1_bitsOf_20 rfl ?_
      exact zV_reti hX hQ hr (⟨congrArg (fun z => some (Value.int z)) (fld_i h (by rw [sgw_n, show E = 0 by omega, show T = 0 by omega]; omega)), rfl⟩) dX1_bitsOf_21
  refine zV_fload_n hX dX1_bitsOf_0 rfl ?_
  refine zV_cS1p hX hR hl dX1_bitsOf_1 (zc_isMinus l G M x s _ hx) zt_X1_isMinus rfl zml_X1_7 (by decide) (Nat.le_of_ble_eq_true rfl) ?_
  dsimp only [Option.toList, List.cons_append, List.nil_append]
  refine zV_if_eqB hX (tgt := 12) dX1_bitsOf_4 (by decide) (fun c_4 => ?_) (fun c_4 => ?_)
  · refine zV_iconst hX (v := nI 0) dX1_bitsOf_12 (by decide) ?_
    exact J13 _ (by rw [c_4]; rfl)
  · refine zV_ldc hX dX1_bitsOf_7 zkc_X1_13 ?_
    refine zV_goto hX (tgt := 13) dX1_bitsOf_9 (by decide) ?_
    exact J13 _ (by rw [c_4]; rfl)
theorem bt_tn (x : Int32) (i : Nat) : bt x i = x.toBitVec.toNat.testBit i := rfl
theorem bt_nI {n : Nat} (h : n < 2 ^ 32) (i : Nat) : bt (nI n) i = n.testBit i := by rw [bt_tn, nI_bv h]
theorem b_T : ∀ i, i < 32 → bt (nI 8388607) i = decide (i < 23) := by decide +kernel
theorem fbE {v : Int32} {s : Bool} {E T : Nat} (h : fld v.toUInt32 s E T) : (v >>> (nI 23 &&& 31)) &&& nI 255 = nI E := by
  have h1 : v.toBitVec.toNat = (s.toNat * 256 + E) * 2 ^ 23 + T := h.1
  have hE := h.2.1
  have hT := h.2.2
  have e1 : E = v.toBitVec.toNat / 2 ^ 23 % 2 ^ 8 := by cases s <;> (simp only [Bool.toNat_true, Bool.toNat_false] at h1; omega)
  apply b_ext
  intro i hi
  rw [b_and, show (nI 255) = (255 : Int32) from rfl, b_255, bt_nI (by omega)]
  by_cases q : i < 8
  · rw [b_sshr 23 (by decide) v hi, if_pos (by omega), decide_eq_true q, Bool.and_true, bt_tn, e1, Nat.testBit_mod_two_pow, decide_eq_true q, Bool.true_and, Nat.testBit_div_two_pow, Nat.add_comm 23 i]
  · rw [decide_eq_false q, Bool.and_false, e1, Nat.testBit_mod_two_pow, decide_eq_false q, Bool.false_and]
theorem fbT {v : Int32} {s : Bool} {E T : Nat} (h : fld v.toUInt32 s E T) : v &&& nI 8388607 = nI T := by
  have h1 : v.toBitVec.toNat = (s.toNat * 256 + E) * 2 ^ 23 + T := h.1
  have hT := h.2.2
  have e1 : T = v.toBitVec.toNat % 2 ^ 23 := by rw [h1]; omega
  apply b_ext
  intro i hi
  rw [b_and, b_T i hi, bt_nI (by omega), bt_tn, e1, Nat.testBit_mod_two_pow, Bool.and_comm]
theorem fbS {v : Int32} {s : Bool} {E T : Nat} (h : fld v.toUInt32 s E T) : 0 ≤ v ↔ s = false := by
  have h1 : v.toBitVec.toNat = (s.toNat * 256 + E) * 2 ^ 23 + T := h.1
  have hE := h.2.1
  have hT := h.2.2
  rw [Int32.le_iff_toInt_le]
  show (0 : Int) ≤ v.toBitVec.toInt ↔ _
  rw [BitVec.toInt_eq_toNat_cond]
  cases s
  · simp only [Bool.toNat_false] at h1
    rw [if_pos (by omega)]
    exact ⟨fun _ => rfl, fun _ => by omega⟩
  · simp only [Bool.toNat_true] at h1
    rw [if_neg (by omega)]
    exact ⟨fun q => absurd q (by have := v.toBitVec.isLt; omega), fun q => by cases q⟩
theorem fl_eq {x f : UInt32} {s : Bool} {E T : Nat} (h : fld x s E T) (hE : 0 < E) (hf : sq f s ((T + 8388608) * 2 ^ (E - 1))) : f = x := by
  have h1 := fld_sq h
  rw [if_neg (by omega), show 2 ^ 23 + T = T + 8388608 by omega] at h1
  refine Jvm.FP.Core.eq_bits32 ?_ ?_
  · rintro ⟨s', q', e'⟩
    have hv := fld_val h
    rw [if_neg (by omega), e'] at hv
    injection hv with _ e2 _
    omega
  · have h2 := sq_cmp hf h1
    rw [show FP.fcmp f x = Jvm.FP.Core.fcmp f x from rfl] at h2
    rw [h2]
    congr 1
    generalize Jvm.FP.Core.signed s _ = I
    show (if I < I then Ordering.lt else if I = I then Ordering.eq else Ordering.gt) = _
    rw [if_neg (by omega), if_pos rfl]
set_option maxHeartbeats 1000000 in
theorem zc_floatOf (l : Launch) (G : zG) (M : zM) (v : Int32) (s : Bool) (E T : Nat) (h : fld v.toUInt32 s E T) (hok : 0 < E ∨ v = 0) : zC l G 1 yX1_floatOf cX1_floatOf 5 (Option.some Jvm.ClassFile.FieldType.float) [.int v] M (zP (some (.float v.toUInt32)) M) := by
  refine zC_of (by decide) (Nat.le_of_ble_eq_true rfl) (fun X Q hQ hX hl hR hr => ?_)
  refine zV_loc (L' := [.int v, .null, .null, .null, .null]) rfl ?_
  have hT := h.2.2
  have hE9 := h.2.1
  refine zV_iload_n hX dX1_floatOf_0 rfl ?_
  refine zV_bipush hX (v := nI 23) dX1_floatOf_1 (by decide) ?_
  refine zV_ishr hX dX1_floatOf_3 ?_
  refine zV_sipush hX (v := nI 255) dX1_floatOf_4 (by decide) ?_
  refine zV_iand hX dX1_floatOf_7 ?_
  refine zV_topi (nI E) (fbE h) ?_
  refine zV_istore_n hX dX1_floatOf_8 (by decide) ?_
  dsimp only [zst1, zst2, zclr, zc2]
  refine zV_iload_n hX dX1_floatOf_9 rfl ?_
  refine zV_if_neN hX (tgt := 15) dX1_floatOf_10 (by decide) (by omega) (fun c_10 => ?_) (fun c_10 => ?_)
  · refine zV_iload_n hX dX1_floatOf_15 rfl ?_
    refine zV_ldc hX dX1_floatOf_16 zkc_X1_28 ?_
    refine zV_topi (nI 8388607) (by decide) ?_
    refine zV_iand hX dX1_floatOf_18 ?_
    refine zV_topi (nI T) (fbT h) ?_
    refine zV_ldc hX dX1_floatOf_19 zkc_X1_29 ?_
    refine zV_topi (nI 8388608) (by decide) ?_
    refine zV_iaddN hX dX1_floatOf_21 ?_
    refine zV_i2d hX dX1_floatOf_22 ?_
    have hi := dq_i2d (n := T + 8388608) (by omega)
    refine zV_dstore_n hX dX1_floatOf_23 (by decide) ?_
    dsimp only [zst1, zst2, zclr, zc2]
    refine zV_dload_n hX dX1_floatOf_24 rfl ?_
    refine zV_iload_n hX dX1_floatOf_25 rfl ?_
    refine zV_sipush hX (v := nI 150) dX1_floatOf_26 (by decide) ?_
    refine zV_isub hX dX1_floatOf_29 ?_
    refine zV_cS2 hX hR hl dX1_floatOf_30 (zc_scaled l G M _ false (T + 8388608) 1074 (E + 924) _ hi (by omega) (by omega) (by omega) (by rw [Int32.toInt_sub, iv_nI (by omega), iv_nI (by omega), Int.bmod_def]; split <;> omega) (by omega)) zt_X1_scaled rfl zml_X1_18 (by decide) (Nat.le_of_ble_eq_true rfl) (fun r M1 hp => ?_)
    obtain ⟨e9, y9, rfl, hy⟩ := hp
    rw [e9]
    have hf : sq (FP.d2f y9) false ((T + 8388608) * 2 ^ (E - 1)) := dq_d2f (by rw [Nat.mul_assoc, ← Nat.pow_add, show E - 1 + 925 = E + 924 by omega]; exact hy) (by omega) (by omega)
    dsimp only [Option.toList, List.cons_append, List.nil_append]
    refine zV_d2f hX dX1_floatOf_33 (sq_n hf) ?_
    refine zV_fstore hX dX1_floatOf_34 (by decide) ?_
    dsimp only [zst1, zst2, zclr, zc2]
    refine zV_iload_n hX dX1_floatOf_36 rfl ?_
    refine zV_if_ge hX (tgt := 46) dX1_floatOf_37 (by decide) (fun c_37 => ?_) (fun c_37 => ?_)
    · have hs : s = false := (fbS h).mp c_37
      rw [← hs] at hf
      refine zV_fload hX dX1_floatOf_46 rfl ?_
      exact zV_retf hX hQ hr (⟨congrArg (fun z => some (Value.float z)) (fl_eq h (by omega) (by first | exact hf2 | exact hf)), rfl⟩) dX1_floatOf_48
    · have hs : s = true := by cases s; exact absurd ((fbS h).mpr rfl) c_37; rfl
      have hf2 := sq_neg hf
      rw [show (!false) = s by rw [hs]; rfl] at hf2
      refine zV_fload hX dX1_floatOf_40 rfl ?_
      refine zV_fneg hX dX1_floatOf_42 ?_
      refine zV_goto hX (tgt := 48) dX1_floatOf_43 (by decide) ?_
      exact zV_retf hX hQ hr (⟨congrArg (fun z => some (Value.float z)) (fl_eq h (by omega) (by first | exact hf2 | exact hf)), rfl⟩) dX1_floatOf_48
  · have hv0 : v = 0 := hok.resolve_left (by omega)
    refine zV_fconst0 hX dX1_floatOf_13 ?_
    exact zV_retf hX hQ hr (⟨by rw [hv0]; rfl, rfl⟩) dX1_floatOf_14
def sgl (s : Bool) : Int64 := if s then -9223372036854775808 else 0
theorem sgl_n (s : Bool) : (sgl s).toBitVec.toNat = s.toNat * 2 ^ 63 := by cases s <;> decide
theorem lv_bv {w : Int64} {n : Nat} (h : w.toInt = (n : Int)) (hn : n < 2 ^ 63) : w.toBitVec.toNat = n := by
  have h1 : w.toBitVec.toInt = (n : Int) := h
  rw [BitVec.toInt_eq_toNat_cond] at h1
  have := w.toBitVec.isLt
  split at h1 <;> omega
theorem asm64 (s : Bool) {E T : Nat} {w : Int64} (hE : E < 2048) (hT : T < 2 ^ 52) (hw : w.toInt = (T : Int)) : (sgl s ||| ((nI E).toInt64 <<< ((nI 52).toInt64 &&& 63)) ||| w).toBitVec.toNat = (s.toNat * 2048 + E) * 2 ^ 52 + T := by
  have e0 : (nI E).toInt64.toBitVec.toNat = E := lv_bv (by rw [Int32.toInt_toInt64, iv_nI (by omega)]) (by omega)
  have e1 : ((nI E).toInt64 <<< ((nI 52).toInt64 &&& 63)).toBitVec.toNat = E * 2 ^ 52 := by
    have : (nI 52).toInt64 &&& 63 = 52 := by decide
    rw [this]
    show ((nI E).toInt64.toBitVec <<< (BitVec.smod (52 : Int64).toBitVec 64)).toNat = _
    rw [show BitVec.smod (52 : Int64).toBitVec 64 = 52#64 by decide]
    show ((nI E).toInt64.toBitVec <<< (52#64).toNat).toNat = _
    rw [BitVec.toNat_shiftLeft, e0, Nat.shiftLeft_eq]
    show E * 2 ^ 52 % 2 ^ 64 = _
    rw [Nat.mod_eq_of_lt (by omega)]
  show ((sgl s).toBitVec ||| ((nI E).toInt64 <<< ((nI 52).toInt64 &&& 63)).toBitVec ||| w.toBitVec).toNat = _
  rw [BitVec.toNat_or, BitVec.toNat_or, e1, sgl_n, lv_bv hw (by omega), or_add (b := E * 2 ^ 52) (by omega), show s.toNat * 2 ^ 63 + E * 2 ^ 52 = (s.toNat * 2048 + E) * 2 ^ 52 by omega, or_add hT]
/-- a double's fields -/
def fld6 (x : UInt64) (s : Bool) (E T : Nat) : Prop := x.toNat = (s.toNat * 2048 + E) * 2 ^ 52 + T ∧ E < 2047 ∧ T < 2 ^ 52
theorem t64 : Jvm.FP.Core.b64.tails = 2 ^ 52 := by decide
theorem e64 : Jvm.FP.Core.b64.exps = 2048 := by decide
theorem fld6_sq {x : UInt64} {s : Bool} {E T : Nat} (h : fld6 x s E T) (hE : 0 < E) : dq x s ((2 ^ 52 + T) * 2 ^ (E - 1)) := by
  obtain ⟨h1, h2, h3⟩ := h
  have e : x.toNat = Jvm.FP.Core.assemble Jvm.FP.Core.b64 s E T := by rw [h1]; unfold Jvm.FP.Core.assemble; rw [t64, e64]
  have hv : Jvm.FP.Core.val64 x = .fin s (2 ^ 52 + T) (-1074 + ((E : Int) - 1)) := by
    show Jvm.FP.Core.decode Jvm.FP.Core.b64 x.toNat = _
    rw [e, Jvm.FP.Core.decode_assemble _ _ _ _ (by rw [e64]; omega) (by rw [t64]; exact h3), e64, t64, q64, if_neg (by omega), if_neg (by omega)]
  exact ⟨2 ^ 52 + T, _, hv, by rw [q64]; omega, by rw [q64, show (-1074 + ((E : Int) - 1) - -1074).toNat = E - 1 by omega]⟩
theorem fld6_i {x : UInt64} {s : Bool} {E T : Nat} {v : Int64} (h : fld6 x s E T) (hv : v.toBitVec.toNat = (s.toNat * 2048 + E) * 2 ^ 52 + T) : v = x.toInt64 := by
  apply Int64.toBitVec.inj
  apply BitVec.eq_of_toNat_eq
  rw [hv, ← h.1]; rfl
set_option maxHeartbeats 1000000 in
theorem zc_bitsOfDouble (l : Launch) (G : zG) (M : zM) (x : UInt64) (s : Bool) (E T : Nat) (h : fld6 x s E T) (hE : 0 < E) : zC l G 1 yX1_bitsOfDouble cX1_bitsOfDouble 7 (Option.some Jvm.ClassFile.FieldType.long) [.double x] M (zP (some (.long x.toInt64)) M) := by
  refine zC_of (by decide) (Nat.le_of_ble_eq_true rfl) (fun X Q hQ hX hl hR hr => ?_)
  refine zV_loc (L' := [.double x, .null, .null, .null, .null, .null, .null]) rfl ?_
  have hT := h.2.2
  have hE9 := h.2.1
  have hx := fld6_sq h hE
  have hpos : 0 < ((2 ^ 52 + T) * 2 ^ (E - 1)) := Nat.mul_pos (by omega) (Nat.two_pow_pos _)
  have J21 : ∀ w9 : Int64, w9 = sgl s → zV G X Q 7 0 0 21 [.double x, .null, .null, .null, .null, .null, .null] [.long w9] M := by
    intro w9 hw9
    subst hw9
    have J34 : ∀ d9 : UInt64, dq d9 false ((2 ^ 52 + T) * 2 ^ (E - 1)) → zV G X Q 7 0 0 34 [.double x, .null, .long (sgl s), .null, .null, .null, .null] [.double d9] M := by
      intro d9 hd
      refine zV_dstore hX dX1_bitsOfDouble_34 (by decide) ?_
      dsimp only [zst1, zst2, zclr, zc2]
      refine zV_dload hX dX1_bitsOfDouble_36 rfl ?_
      refine zV_sipush hX (v := (-1022)) dX1_bitsOfDouble_38 (by decide) ?_
      refine zV_cS2 hX hR hl dX1_bitsOfDouble_41 (zc_pow l G M d9 (2 ^ 52 + T) (E - 1) 52 1022 (-1022) hd (by omega) (by omega) (by decide) (by decide) (by omega) (by omega) (by omega)) zt_X1_powerOf rfl zml_X1_14 (by decide) (Nat.le_of_ble_eq_true rfl) (fun r M1 hp => ?_)
      obtain ⟨e9, r9, rfl, hr9⟩ := hp
      rw [e9]
      have hr8 : r9.toInt = (E : Int) - 1023 := by rw [hr9]; omega
      dsimp only [Option.toList, List.cons_append, List.nil_append]
      refine zV_istore hX dX1_bitsOfDouble_44 (by decide) ?_
      dsimp only [zst1, zst2, zclr, zc2]
      refine zV_dload hX dX1_bitsOfDouble_46 rfl ?_
      refine zV_iload hX dX1_bitsOfDouble_48 rfl ?_
      refine zV_ineg hX dX1_bitsOfDouble_50 ?_
      refine zV_cS2 hX hR hl dX1_bitsOfDouble_51 (zc_scaled l G M d9 false (2 ^ 52 + T) (E - 1) 1022 _ hd (by omega) (by omega) (by omega) (by rw [in_neg hr8 (by omega)]; omega) (by omega)) zt_X1_scaled rfl zml_X1_18 (by decide) (Nat.le_of_ble_eq_true rfl) (fun r M1 hp => ?_)
      obtain ⟨e9, y9, rfl, hy⟩ := hp
      rw [e9]
      have hz : dq (FP.dsub y9 FP.dconst1) false (T * 2 ^ 1022) := dq_sub1 v1s hy (by rw [Nat.add_mul, ← Nat.pow_add, Nat.add_comm]) (by omega) (by omega)
      have hw : dq (FP.dmul (FP.dsub y9 FP.dconst1) 4841369599423283200) false (T * 2 ^ 1074) := dq_mul (m := 52) v52 hz (by rw [Nat.mul_assoc, ← Nat.pow_add]) (by omega) (by omega)
      dsimp only [Option.toList, List.cons_append, List.nil_append]
      refine zV_dstore hX dX1_bitsOfDouble_54 (by decide) ?_
      dsimp only [zst1, zst2, zclr, zc2]
      refine zV_lload_n hX dX1_bitsOfDouble_56 rfl ?_
      refine zV_iload hX dX1_bitsOfDouble_57 rfl ?_
      refine zV_sipush hX (v := nI 1023) dX1_bitsOfDouble_59 (by decide) ?_
      refine zV_iadd hX dX1_bitsOfDouble_62 ?_
      refine zV_topi (nI E) (by rw [in_add hr8 (by omega) (by omega) (by omega)]; congr 1; omega) ?_
      refine zV_i2l hX dX1_bitsOfDouble_63 ?_
      refine zV_bipush hX (v := nI 52) dX1_bitsOfDouble_64 (by decide) ?_
      refine zV_lshl hX dX1_bitsOfDouble_66 ?_
      refine zV_lor hX dX1_bitsOfDouble_67 ?_
      refine zV_dload hX dX1_bitsOfDouble_68 rfl ?_
      refine zV_dconst1 hX dX1_bitsOfDouble_70 ?_
      refine zV_dsub hX dX1_bitsOfDouble_71 (dq_n hz) ?_
      refine zV_ldc2d hX dX1_bitsOfDouble_72 zkc_X1_26 ?_
      refine zV_dmul hX dX1_bitsOfDouble_75 (dq_n hw) ?_
      refine zV_d2l hX dX1_bitsOfDouble_76 ?_
      refine zV_lor hX dX1_bitsOfDouble_77 ?_
      exact zV_retl hX hQ hr (⟨congrArg (fun z => some (Value.long z)) (fld6_i h (asm64 s (by omega) hT (dq_d2l hw (by omega)))), rfl⟩) dX1_bitsOfDouble_78
    refine zV_lstore_n hX dX1_bitsOfDouble_21 (by decide) ?_
    dsimp only [zst1, zst2, zclr, zc2]
    refine zV_dload_n hX dX1_bitsOfDouble_22 rfl ?_
    refine zV_dconst0 hX dX1_bitsOfDouble_23 ?_
    refine zV_dcmp hX dX1_bitsOfDouble_24 ?_
    refine zV_if_ge hX (tgt := 33) dX1_bitsOfDouble_25 (by decide) (fun c_25 => ?_) (fun c_25 => ?_)
    · have hs : s = false := (sg_le.mp ((dc_int hx dq_zero).2.1.mp c_25)).resolve_right (Nat.ne_of_gt hpos)
      refine zV_dload_n hX dX1_bitsOfDouble_33 rfl ?_
      exact J34 _ (by first | (have h9 := hx; rw [hs] at h9; exact h9) | (have h9 := dq_neg hx; rw [hs] at h9; exact h9))
    · have hs : s = true := by cases s; exact absurd ((dc_int hx dq_zero).2.1.mpr (sg_le.mpr (Or.inl rfl))) c_25; rfl
      refine zV_dload_n hX dX1_bitsOfDouble_28 rfl ?_
      refine zV_dneg hX dX1_bitsOfDouble_29 ?_
      refine zV_goto hX (tgt := 34) dX1_bitsOfDouble_30 (by decide) ?_
      exact J34 _ (by first | (have h9 := hx; rw [hs] at h9; exact h9) | (have h9 := dq_neg hx; rw [hs] at h9; exact h9))
  refine zV_dload_n hX dX1_bitsOfDouble_0 rfl ?_
  refine zV_dconst0 hX dX1_bitsOfDouble_1 ?_
  refine zV_dcmp hX dX1_bitsOfDouble_2 ?_
  refine zV_if_ne hX (tgt := 8) dX1_bitsOfDouble_3 (by decide) (fun c_3 => ?_) (fun c_3 => absurd c_3 (fun q => Nat.ne_of_gt hpos (sg_eq.mp ((dc_int hx dq_zero).2.2.mp q))))
  refine zV_dload_n hX dX1_bitsOfDouble_8 rfl ?_
  refine zV_dconst0 hX dX1_bitsOfDouble_9 ?_
  refine zV_dcmp hX dX1_bitsOfDouble_10 ?_
  refine zV_if_ge hX (tgt := 20) dX1_bitsOfDouble_11 (by decide) (fun c_11 => ?_) (fun c_11 => ?_)
  · have hs : s = false := (sg_le.mp ((dc_int hx dq_zero).2.1.mp c_11)).resolve_right (Nat.ne_of_gt hpos)
    refine zV_lconst hX (v := 0) dX1_bitsOfDouble_20 rfl ?_
    exact J21 _ (by rw [hs]; rfl)
  · have hs : s = true := by cases s; exact absurd ((dc_int hx dq_zero).2.1.mpr (sg_le.mpr (Or.inl rfl))) c_11; rfl
    refine zV_ldc2 hX dX1_bitsOfDouble_14 zkc_X1_24 ?_
    refine zV_goto hX (tgt := 21) dX1_bitsOfDouble_17 (by decide) ?_
    exact J21 _ (by rw [hs]; rfl)
set_option maxHeartbeats 1000000 in
theorem zc_bitsOfDouble0 (l : Launch) (G : zG) (M : zM)  : zC l G 1 yX1_bitsOfDouble cX1_bitsOfDouble 7 (Option.some Jvm.ClassFile.FieldType.long) [.double FP.dconst0] M (zP (some (.long 0)) M) := by
  refine zC_of (by decide) (Nat.le_of_ble_eq_true rfl) (fun X Q hQ hX hl hR hr => ?_)
  refine zV_loc (L' := [.double FP.dconst0, .null, .null, .null, .null, .null, .null]) rfl ?_
  refine zV_dload_n hX dX1_bitsOfDouble_0 rfl ?_
  refine zV_dconst0 hX dX1_bitsOfDouble_1 ?_
  refine zV_dcmp hX dX1_bitsOfDouble_2 ?_
  refine zV_if_ne hX (tgt := 8) dX1_bitsOfDouble_3 (by decide) (fun c_3 => absurd c_3 (fun q => q ((dc_int dq_zero dq_zero).2.2.mpr rfl))) (fun c_3 => ?_)
  refine zV_lconst hX (v := 0) dX1_bitsOfDouble_6 rfl ?_
  exact zV_retl hX hQ hr (⟨rfl, rfl⟩) dX1_bitsOfDouble_7
