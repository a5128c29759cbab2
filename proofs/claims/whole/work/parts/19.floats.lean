theorem iv_nI {n : Nat} (h : n < 2 ^ 31) : (nI n).toInt = (n : Int) := Int32.toInt_ofNat_of_lt h
theorem dc_int {x y : UInt64} {s t : Bool} {N M : Nat} {op : CmpOp} (h : dq x s N) (h2 : dq y t M) : (Op.cmpValue (FP.dcmp x y) op < 0 ↔ Jvm.FP.Core.signed s N < Jvm.FP.Core.signed t M) ∧ (0 ≤ Op.cmpValue (FP.dcmp x y) op ↔ Jvm.FP.Core.signed t M ≤ Jvm.FP.Core.signed s N) ∧ (Op.cmpValue (FP.dcmp x y) op = 0 ↔ Jvm.FP.Core.signed s N = Jvm.FP.Core.signed t M) := by
  rw [dq_cmp h h2]
  generalize Jvm.FP.Core.signed s N = I
  generalize Jvm.FP.Core.signed t M = J
  rw [show compare I J = (if I < J then Ordering.lt else if I = J then Ordering.eq else Ordering.gt) from rfl]
  rcases Int.lt_trichotomy I J with q | q | q
  · rw [if_pos q]
    exact ⟨⟨fun _ => q, fun _ => by cases op <;> decide⟩, ⟨fun h => absurd h (by cases op <;> decide), fun h => by omega⟩, ⟨fun h => absurd h (by cases op <;> decide), fun h => by omega⟩⟩
  · rw [if_neg (by omega), if_pos q]
    exact ⟨⟨fun h => absurd h (by cases op <;> decide), fun h => by omega⟩, ⟨fun _ => by omega, fun _ => by cases op <;> decide⟩, ⟨fun _ => q, fun _ => by cases op <;> rfl⟩⟩
  · rw [if_neg (by omega), if_neg (by omega)]
    exact ⟨⟨fun h => absurd h (by cases op <;> decide), fun h => by omega⟩, ⟨fun _ => by omega, fun _ => by cases op <;> decide⟩, ⟨fun h => absurd h (by cases op <;> decide), fun h => by omega⟩⟩
theorem fc_int {x y : UInt32} {s t : Bool} {N M : Nat} {op : CmpOp} (h : sq x s N) (h2 : sq y t M) : (Op.cmpValue (FP.fcmp x y) op < 0 ↔ Jvm.FP.Core.signed s N < Jvm.FP.Core.signed t M) ∧ (0 ≤ Op.cmpValue (FP.fcmp x y) op ↔ Jvm.FP.Core.signed t M ≤ Jvm.FP.Core.signed s N) ∧ (Op.cmpValue (FP.fcmp x y) op = 0 ↔ Jvm.FP.Core.signed s N = Jvm.FP.Core.signed t M) := by
  rw [sq_cmp h h2]
  generalize Jvm.FP.Core.signed s N = I
  generalize Jvm.FP.Core.signed t M = J
  rw [show compare I J = (if I < J then Ordering.lt else if I = J then Ordering.eq else Ordering.gt) from rfl]
  rcases Int.lt_trichotomy I J with q | q | q
  · rw [if_pos q]
    exact ⟨⟨fun _ => q, fun _ => by cases op <;> decide⟩, ⟨fun h => absurd h (by cases op <;> decide), fun h => by omega⟩, ⟨fun h => absurd h (by cases op <;> decide), fun h => by omega⟩⟩
  · rw [if_neg (by omega), if_pos q]
    exact ⟨⟨fun h => absurd h (by cases op <;> decide), fun h => by omega⟩, ⟨fun _ => by omega, fun _ => by cases op <;> decide⟩, ⟨fun _ => q, fun _ => by cases op <;> rfl⟩⟩
  · rw [if_neg (by omega), if_neg (by omega)]
    exact ⟨⟨fun h => absurd h (by cases op <;> decide), fun h => by omega⟩, ⟨fun _ => by omega, fun _ => by cases op <;> decide⟩, ⟨fun h => absurd h (by cases op <;> decide), fun h => by omega⟩⟩
theorem dc_nat {x y : UInt64} {N M : Nat} {op : CmpOp} (h : dq x false N) (h2 : dq y false M) : (Op.cmpValue (FP.dcmp x y) op < 0 ↔ N < M) ∧ (0 ≤ Op.cmpValue (FP.dcmp x y) op ↔ M ≤ N) := by
  obtain ⟨a, b, -⟩ := dc_int (op := op) h h2
  have e1 : Jvm.FP.Core.signed false N = (N : Int) := rfl
  have e2 : Jvm.FP.Core.signed false M = (M : Int) := rfl
  rw [e1, e2] at a b
  exact ⟨a.trans Int.ofNat_lt, b.trans Int.ofNat_le⟩
theorem v2m : Jvm.FP.Core.val64 4611686018427387904 = .fin false (2 ^ 52) (((1 : Nat) : Int) - 52) := by decide +kernel
theorem v2h : Jvm.FP.Core.val64 4611686018427387904 = .fin false (2 ^ 52) (-51) := by decide +kernel
theorem v1s : Jvm.FP.Core.val64 FP.dconst1 = .fin false (2 ^ 52) (-52) := by decide +kernel
theorem v23 : Jvm.FP.Core.val64 4710765210229538816 = .fin false (2 ^ 52) (((23 : Nat) : Int) - 52) := by decide +kernel
theorem v52 : Jvm.FP.Core.val64 4841369599423283200 = .fin false (2 ^ 52) (((52 : Nat) : Int) - 52) := by decide +kernel
theorem v0s : Jvm.FP.Core.val64 FP.dconst0 = .fin false 0 (-1074) := by decide +kernel
theorem dq_one : dq FP.dconst1 false (2 ^ 1074) := ⟨2 ^ 52, -52, v1s, by rw [q64]; decide, by rw [q64, ← Nat.pow_add, show 52 + (-52 - -1074 : Int).toNat = 1074 by omega]⟩
theorem dq_two : dq 4611686018427387904 false (2 ^ 1075) := ⟨2 ^ 52, -51, v2h, by rw [q64]; decide, by rw [q64, ← Nat.pow_add, show 52 + (-51 - -1074 : Int).toNat = 1075 by omega]⟩
theorem dq_zero : dq FP.dconst0 false 0 := ⟨0, -1074, v0s, by rw [q64]; decide, Nat.zero_mul _⟩
theorem pw1 (c a : Nat) : c * 2 ^ a * 2 ^ 1 = c * 2 ^ (a + 1) := by rw [Nat.mul_assoc, ← Nat.pow_add]
theorem pwge {c L f i : Nat} (h : 2 ^ L ≤ c) (hL : L + f = i) : 2 ^ i ≤ c * 2 ^ f := by
  rw [← hL, Nat.pow_add]; exact Nat.mul_le_mul_right _ h
theorem pwlt {c L f i : Nat} (h : c < 2 ^ (L + 1)) (hL : L + f + 1 = i) : c * 2 ^ f < 2 ^ i := by
  rw [← hL, show L + f + 1 = (L + 1) + f by omega, Nat.pow_add]; exact Nat.mul_lt_mul_of_pos_right h (Nat.two_pow_pos f)
theorem pwle {a b : Nat} (h : a ≤ b) : 2 ^ a ≤ 2 ^ b := Nat.pow_le_pow_right (by decide) h
theorem in_dec {p : Int32} {j : Nat} (h : p.toInt = -(j : Int)) (hj : j < 2000) : (p + Int32.ofInt (-1)).toInt = -((j + 1 : Nat) : Int) := by
  rw [Int32.toInt_add, h]
  show Int.bmod (-(j : Int) + -1) (2 ^ 32) = _
  rw [Int.bmod_def]
  split <;> omega
set_option maxHeartbeats 1000000 in
theorem zc_scaledU (l : Launch) (G : zG) (M : zM) (x : UInt64) (s : Bool) (c e k : Nat) (h0 : dq x s (c * 2 ^ e)) (hc : c < 2 ^ 53) (he : e + k ≤ 2045) : zC l G 0 yX1_scaled cX1_scaled 4 (Option.some Jvm.ClassFile.FieldType.double) [.double x, .int (nI k)] M ((fun r M2 => M2 = M ∧ ∃ y9, r = some (.double y9) ∧ dq y9 s (c * 2 ^ (e + k)))) := by
  refine zC_of (by decide) (Nat.le_of_ble_eq_true rfl) (fun X Q hQ hX hl hR hr => ?_)
  refine zV_loc (L' := [.double x, .null, .int (nI k), .null]) rfl ?_
  have L2 : ∀ (f9 j : Nat) (x : UInt64), k - j < f9 → j ≤ k → dq x s (c * 2 ^ (e + j)) → zV G X Q 4 0 0 2 [.double x, .null, .int (nI k), .int (nI j)] [] M := by
    intro f9
    induction f9 with
    | zero => intro j x hj1 hj2 hx; exact absurd hj1 (Nat.not_lt_zero _)
    | succ f9 ih =>
      intro j x hj1 hj2 hx
      refine zV_iload_n hX dX1_scaled_2 rfl ?_
      refine zV_iload_n hX dX1_scaled_3 rfl ?_
      refine zV_icmp_geN hX (tgt := 19) dX1_scaled_4 (by decide) ⟨by omega, by omega⟩ (fun c_4 => ?_) (fun c_4 => ?_)
      · refine zV_iconst hX (v := nI 0) dX1_scaled_19 (by decide) ?_
        refine zV_istore_n hX dX1_scaled_20 (by decide) ?_
        dsimp only [zst1, zst2, zclr, zc2]
        refine zV_iload_n hX dX1_scaled_21 rfl ?_
        refine zV_iload_n hX dX1_scaled_22 rfl ?_
        refine zV_icmp_leN hX (tgt := 38) dX1_scaled_23 (by decide) ⟨by omega, by omega⟩ (fun c_23 => ?_) (fun c_23 => absurd c_23 (Nat.not_lt_zero _))
        refine zV_dload_n hX dX1_scaled_38 rfl ?_
        exact zV_retd hX hQ hr (⟨rfl, _, rfl, by rw [show k = j by omega]; exact hx⟩) dX1_scaled_39
      · refine zV_dload_n hX dX1_scaled_7 rfl ?_
        refine zV_ldc2d hX dX1_scaled_8 zkc_X1_30 ?_
        have hx2 : dq (FP.dmul x 4611686018427387904) s (c * 2 ^ (e + (j + 1))) := dq_mul (m := 1) v2m hx (pw1 c (e + j)) hc (by omega)
        refine zV_dmul hX dX1_scaled_11 (dq_n hx2) ?_
        refine zV_dstore_n hX dX1_scaled_12 (by decide) ?_
        dsimp only [zst1, zst2, zclr, zc2]
        refine zV_iincN hX (b := 1) dX1_scaled_13 rfl (by decide) ?_
        dsimp only [zst1, zst2, zclr, zc2]
        refine zV_goto hX (tgt := 2) dX1_scaled_16 (by decide) ?_
        exact ih (j + 1) _ (by omega) (by omega) hx2
  refine zV_iconst hX (v := nI 0) dX1_scaled_0 (by decide) ?_
  refine zV_istore_n hX dX1_scaled_1 (by decide) ?_
  dsimp only [zst1, zst2, zclr, zc2]
  exact L2 (k + 1) 0 x (by omega) (by omega) h0
set_option maxHeartbeats 1000000 in
theorem zc_scaledD (l : Launch) (G : zG) (M : zM) (x : UInt64) (s : Bool) (c e k : Nat) (p : Int32) (h0 : dq x s (c * 2 ^ (e + k))) (hc : c < 2 ^ 53) (he : e + k ≤ 2045) (hk : k < 2000) (hp : p.toInt = -(k : Int)) : zC l G 0 yX1_scaled cX1_scaled 4 (Option.some Jvm.ClassFile.FieldType.double) [.double x, .int p] M ((fun r M2 => M2 = M ∧ ∃ y9, r = some (.double y9) ∧ dq y9 s (c * 2 ^ e))) := by
  refine zC_of (by decide) (Nat.le_of_ble_eq_true rfl) (fun X Q hQ hX hl hR hr => ?_)
  refine zV_loc (L' := [.double x, .null, .int p, .null]) rfl ?_
  have L21 : ∀ (f9 j : Nat) (x : UInt64) (i : Int32), k - j < f9 → j ≤ k → i.toInt = -(j : Int) → dq x s (c * 2 ^ (e + (k - j))) → zV G X Q 4 0 0 21 [.double x, .null, .int p, .int i] [] M := by
    intro f9
    induction f9 with
    | zero => intro j x i hj1 hj2 hi hx; exact absurd hj1 (Nat.not_lt_zero _)
    | succ f9 ih =>
      intro j x i hj1 hj2 hi hx
      refine zV_iload_n hX dX1_scaled_21 rfl ?_
      refine zV_iload_n hX dX1_scaled_22 rfl ?_
      refine zV_icmp_le hX (tgt := 38) dX1_scaled_23 (by decide) (fun c_23 => ?_) (fun c_23 => ?_)
      · have hkj := Int32.le_iff_toInt_le.mp c_23
        rw [hp, hi] at hkj
        refine zV_dload_n hX dX1_scaled_38 rfl ?_
        exact zV_retd hX hQ hr (⟨rfl, _, rfl, by have hx3 := hx; rw [show k - j = 0 by omega] at hx3; exact hx3⟩) dX1_scaled_39
      · have hkj : j < k := Nat.not_le.mp (fun q => c_23 (Int32.le_iff_toInt_le.mpr (by rw [hp, hi]; omega)))
        refine zV_dload_n hX dX1_scaled_26 rfl ?_
        refine zV_ldc2d hX dX1_scaled_27 zkc_X1_30 ?_
        rw [show k - j = k - (j + 1) + 1 by omega, ← Nat.add_assoc] at hx
        have hx2 := dq_half v2h hx hc (by omega)
        refine zV_ddiv hX dX1_scaled_30 (dq_n hx2) ?_
        refine zV_dstore_n hX dX1_scaled_31 (by decide) ?_
        dsimp only [zst1, zst2, zclr, zc2]
        refine zV_iinc hX dX1_scaled_32 rfl (rfl) (by decide) ?_
        dsimp only [zst1, zst2, zclr, zc2]
        refine zV_goto hX (tgt := 21) dX1_scaled_35 (by decide) ?_
        exact ih (j + 1) _ _ (by omega) (by omega) (in_dec hi (by omega)) hx2
  refine zV_iconst hX (v := nI 0) dX1_scaled_0 (by decide) ?_
  refine zV_istore_n hX dX1_scaled_1 (by decide) ?_
  dsimp only [zst1, zst2, zclr, zc2]
  refine zV_iload_n hX dX1_scaled_2 rfl ?_
  refine zV_iload_n hX dX1_scaled_3 rfl ?_
  refine zV_icmp_ge hX (tgt := 19) dX1_scaled_4 (by decide) (fun c_4 => ?_) (fun c_4 => absurd c_4 (fun q => q (Int32.le_iff_toInt_le.mpr (by rw [hp]; show -(k : Int) ≤ 0; omega))))
  refine zV_iconst hX (v := nI 0) dX1_scaled_19 (by decide) ?_
  refine zV_istore_n hX dX1_scaled_20 (by decide) ?_
  dsimp only [zst1, zst2, zclr, zc2]
  exact L21 (k + 1) 0 x (nI 0) (by omega) (by omega) rfl h0
