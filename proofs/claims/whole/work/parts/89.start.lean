section zStart
/-- where a cell lies: the world's cells one after another, the others where they lay before -/
def zAd (base tF tB b0 : Nat) (adK adV : Nat → Nat) (c : Nat) : Nat := if c ∈ zOrdL then base + zOrdL.idxOf c else if c = 4001 then tF else if c = 4002 then tB else if c = 4003 then b0 else if c < 6000 then adK (c - 5000) else adV (c - 6000)
theorem zAd_in {base tF tB b0 : Nat} {adK adV : Nat → Nat} {q c : Nat} (h : zOrdL[q]? = some c) : zAd base tF tB b0 adK adV c = base + q := by
  have hm : c ∈ zOrdL := List.mem_of_getElem? h
  unfold zAd
  rw [if_pos hm]
  have h2 : zOrdL[zOrdL.idxOf c]? = some c := by
    rw [List.getElem?_eq_getElem (List.idxOf_lt_length_of_mem hm), List.getElem_idxOf]
  rw [zOrd_q h2 h]
theorem zOrd_hi : ∀ c ∈ zOrdL, c < 4000 := by decide +kernel
theorem zAd_out {base tF tB b0 : Nat} {adK adV : Nat → Nat} {c : Nat} (h : 4000 ≤ c) : zAd base tF tB b0 adK adV c = if c = 4001 then tF else if c = 4002 then tB else if c = 4003 then b0 else if c < 6000 then adK (c - 5000) else adV (c - 6000) := by
  unfold zAd
  rw [if_neg (fun e => by have := zOrd_hi c e; omega)]
theorem zSh_hi {c : Nat} (h : 3300 ≤ c) : (zSh c).1 = 0 := Decidable.byContradiction (fun e => by have := zSh_lt e; omega)
theorem zAd_A {base tF tB b0 : Nat} {adK adV : Nat → Nat} {D : va_G} {ac : Nat → ClassId} {q : Nat} (h : zA (zAd base tF tB b0 adK adV, D, ac) base q) : base ≤ q := by
  rcases h with ⟨c, h1, h2⟩ | h
  · have hc : c ∈ zOrdL := by
      rcases Nat.lt_or_ge c 3300 with h3 | h3
      · exact zOrd_all c h3 h1
      · exact absurd (zSh_hi h3) h1
    obtain ⟨k, hk⟩ := List.getElem?_of_mem hc
    have h4 : q = base + k := h2.trans (zAd_in hk)
    omega
  · exact h
abbrev zNar : List Cond := flatC (Jvm.Cond.and given_1 narrow_1)
def zTmL : List Term := [.string "OralOrders$Reader" 51, .string "OralOrders$Reader" 84, .string "OralOrders$Reader" 89, .string "OralOrders$Reader" 91, .string "OralOrders$Reader" 93, .string "OralOrders$Reader" 95, .string "OralOrders$Reader" 97, .string "OralOrders$Reader" 99, .string "OralOrders$Reader" 101, .string "OralOrders" 343, .string "OralOrders" 350]
def zTm (i : Nat) : Term := zTmL.getD i (.int 0)
theorem zSn_1 : ∀ i, i < 11 → (Cond.exactly (zTm i) "java/lang/String") ∈ zNar := by decide +kernel
theorem zSn_2 : ∀ i, i < 11 → (Cond.eq (.field (zTm i) "java/lang/String" "coder" "B") (.int 0)) ∈ zNar := by decide +kernel
theorem zSn_3 : ∀ i, i < 11 → (Cond.arrayOf (.field (zTm i) "java/lang/String" "value" "[B") .byte) ∈ zNar := by decide +kernel
theorem zSn_4 : ∀ i, i < 11 → (Cond.eq (.length (.field (zTm i) "java/lang/String" "value" "[B")) (.int (Int32.ofNat (zSLen.getD i 0)))) ∈ zNar := by decide +kernel
theorem zSn_5 : ∀ i, i < 11 → ∀ j, j < zSLen.getD i 0 → (Cond.eq (.elem (.field (zTm i) "java/lang/String" "value" "[B") (.int (Int32.ofNat j))) (.int ((zSByt.getD i []).getD j 0))) ∈ zNar := by decide +kernel
theorem zSn6_0_1 : (Cond.not (Cond.eq (zTm 0) (zTm 1))) ∈ zNar ∨ (Cond.not (Cond.eq (zTm 1) (zTm 0))) ∈ zNar := Or.inl (List.mem_of_getElem? (i := 116) (by decide +kernel))
theorem zSn6_0_2 : (Cond.not (Cond.eq (zTm 0) (zTm 2))) ∈ zNar ∨ (Cond.not (Cond.eq (zTm 2) (zTm 0))) ∈ zNar := Or.inl (List.mem_of_getElem? (i := 125) (by decide +kernel))
theorem zSn6_0_3 : (Cond.not (Cond.eq (zTm 0) (zTm 3))) ∈ zNar ∨ (Cond.not (Cond.eq (zTm 3) (zTm 0))) ∈ zNar := Or.inl (List.mem_of_getElem? (i := 135) (by decide +kernel))
theorem zSn6_0_4 : (Cond.not (Cond.eq (zTm 0) (zTm 4))) ∈ zNar ∨ (Cond.not (Cond.eq (zTm 4) (zTm 0))) ∈ zNar := Or.inl (List.mem_of_getElem? (i := 149) (by decide +kernel))
theorem zSn6_0_5 : (Cond.not (Cond.eq (zTm 0) (zTm 5))) ∈ zNar ∨ (Cond.not (Cond.eq (zTm 5) (zTm 0))) ∈ zNar := Or.inl (List.mem_of_getElem? (i := 164) (by decide +kernel))
theorem zSn6_0_6 : (Cond.not (Cond.eq (zTm 0) (zTm 6))) ∈ zNar ∨ (Cond.not (Cond.eq (zTm 6) (zTm 0))) ∈ zNar := Or.inl (List.mem_of_getElem? (i := 181) (by decide +kernel))
theorem zSn6_0_7 : (Cond.not (Cond.eq (zTm 0) (zTm 7))) ∈ zNar ∨ (Cond.not (Cond.eq (zTm 7) (zTm 0))) ∈ zNar := Or.inl (List.mem_of_getElem? (i := 197) (by decide +kernel))
theorem zSn6_0_8 : (Cond.not (Cond.eq (zTm 0) (zTm 8))) ∈ zNar ∨ (Cond.not (Cond.eq (zTm 8) (zTm 0))) ∈ zNar := Or.inl (List.mem_of_getElem? (i := 214) (by decide +kernel))
theorem zSn6_0_9 : (Cond.not (Cond.eq (zTm 0) (zTm 9))) ∈ zNar ∨ (Cond.not (Cond.eq (zTm 9) (zTm 0))) ∈ zNar := Or.inr (List.mem_of_getElem? (i := 104) (by decide +kernel))
theorem zSn6_0_10 : (Cond.not (Cond.eq (zTm 0) (zTm 10))) ∈ zNar ∨ (Cond.not (Cond.eq (zTm 10) (zTm 0))) ∈ zNar := Or.inr (List.mem_of_getElem? (i := 103) (by decide +kernel))
theorem zSn6_1_2 : (Cond.not (Cond.eq (zTm 1) (zTm 2))) ∈ zNar ∨ (Cond.not (Cond.eq (zTm 2) (zTm 1))) ∈ zNar := Or.inl (List.mem_of_getElem? (i := 126) (by decide +kernel))
theorem zSn6_1_3 : (Cond.not (Cond.eq (zTm 1) (zTm 3))) ∈ zNar ∨ (Cond.not (Cond.eq (zTm 3) (zTm 1))) ∈ zNar := Or.inl (List.mem_of_getElem? (i := 136) (by decide +kernel))
theorem zSn6_1_4 : (Cond.not (Cond.eq (zTm 1) (zTm 4))) ∈ zNar ∨ (Cond.not (Cond.eq (zTm 4) (zTm 1))) ∈ zNar := Or.inl (List.mem_of_getElem? (i := 150) (by decide +kernel))
theorem zSn6_1_5 : (Cond.not (Cond.eq (zTm 1) (zTm 5))) ∈ zNar ∨ (Cond.not (Cond.eq (zTm 5) (zTm 1))) ∈ zNar := Or.inl (List.mem_of_getElem? (i := 165) (by decide +kernel))
theorem zSn6_1_6 : (Cond.not (Cond.eq (zTm 1) (zTm 6))) ∈ zNar ∨ (Cond.not (Cond.eq (zTm 6) (zTm 1))) ∈ zNar := Or.inl (List.mem_of_getElem? (i := 182) (by decide +kernel))
theorem zSn6_1_7 : (Cond.not (Cond.eq (zTm 1) (zTm 7))) ∈ zNar ∨ (Cond.not (Cond.eq (zTm 7) (zTm 1))) ∈ zNar := Or.inl (List.mem_of_getElem? (i := 198) (by decide +kernel))
theorem zSn6_1_8 : (Cond.not (Cond.eq (zTm 1) (zTm 8))) ∈ zNar ∨ (Cond.not (Cond.eq (zTm 8) (zTm 1))) ∈ zNar := Or.inl (List.mem_of_getElem? (i := 215) (by decide +kernel))
theorem zSn6_1_9 : (Cond.not (Cond.eq (zTm 1) (zTm 9))) ∈ zNar ∨ (Cond.not (Cond.eq (zTm 9) (zTm 1))) ∈ zNar := Or.inr (List.mem_of_getElem? (i := 115) (by decide +kernel))
theorem zSn6_1_10 : (Cond.not (Cond.eq (zTm 1) (zTm 10))) ∈ zNar ∨ (Cond.not (Cond.eq (zTm 10) (zTm 1))) ∈ zNar := Or.inr (List.mem_of_getElem? (i := 114) (by decide +kernel))
theorem zSn6_2_3 : (Cond.not (Cond.eq (zTm 2) (zTm 3))) ∈ zNar ∨ (Cond.not (Cond.eq (zTm 3) (zTm 2))) ∈ zNar := Or.inl (List.mem_of_getElem? (i := 137) (by decide +kernel))
theorem zSn6_2_4 : (Cond.not (Cond.eq (zTm 2) (zTm 4))) ∈ zNar ∨ (Cond.not (Cond.eq (zTm 4) (zTm 2))) ∈ zNar := Or.inl (List.mem_of_getElem? (i := 151) (by decide +kernel))
theorem zSn6_2_5 : (Cond.not (Cond.eq (zTm 2) (zTm 5))) ∈ zNar ∨ (Cond.not (Cond.eq (zTm 5) (zTm 2))) ∈ zNar := Or.inl (List.mem_of_getElem? (i := 166) (by decide +kernel))
theorem zSn6_2_6 : (Cond.not (Cond.eq (zTm 2) (zTm 6))) ∈ zNar ∨ (Cond.not (Cond.eq (zTm 6) (zTm 2))) ∈ zNar := Or.inl (List.mem_of_getElem? (i := 183) (by decide +kernel))
theorem zSn6_2_7 : (Cond.not (Cond.eq (zTm 2) (zTm 7))) ∈ zNar ∨ (Cond.not (Cond.eq (zTm 7) (zTm 2))) ∈ zNar := Or.inl (List.mem_of_getElem? (i := 199) (by decide +kernel))
theorem zSn6_2_8 : (Cond.not (Cond.eq (zTm 2) (zTm 8))) ∈ zNar ∨ (Cond.not (Cond.eq (zTm 8) (zTm 2))) ∈ zNar := Or.inl (List.mem_of_getElem? (i := 216) (by decide +kernel))
theorem zSn6_2_9 : (Cond.not (Cond.eq (zTm 2) (zTm 9))) ∈ zNar ∨ (Cond.not (Cond.eq (zTm 9) (zTm 2))) ∈ zNar := Or.inr (List.mem_of_getElem? (i := 124) (by decide +kernel))
theorem zSn6_2_10 : (Cond.not (Cond.eq (zTm 2) (zTm 10))) ∈ zNar ∨ (Cond.not (Cond.eq (zTm 10) (zTm 2))) ∈ zNar := Or.inr (List.mem_of_getElem? (i := 123) (by decide +kernel))
theorem zSn6_3_4 : (Cond.not (Cond.eq (zTm 3) (zTm 4))) ∈ zNar ∨ (Cond.not (Cond.eq (zTm 4) (zTm 3))) ∈ zNar := Or.inl (List.mem_of_getElem? (i := 152) (by decide +kernel))
theorem zSn6_3_5 : (Cond.not (Cond.eq (zTm 3) (zTm 5))) ∈ zNar ∨ (Cond.not (Cond.eq (zTm 5) (zTm 3))) ∈ zNar := Or.inl (List.mem_of_getElem? (i := 167) (by decide +kernel))
theorem zSn6_3_6 : (Cond.not (Cond.eq (zTm 3) (zTm 6))) ∈ zNar ∨ (Cond.not (Cond.eq (zTm 6) (zTm 3))) ∈ zNar := Or.inl (List.mem_of_getElem? (i := 184) (by decide +kernel))
theorem zSn6_3_7 : (Cond.not (Cond.eq (zTm 3) (zTm 7))) ∈ zNar ∨ (Cond.not (Cond.eq (zTm 7) (zTm 3))) ∈ zNar := Or.inl (List.mem_of_getElem? (i := 200) (by decide +kernel))
theorem zSn6_3_8 : (Cond.not (Cond.eq (zTm 3) (zTm 8))) ∈ zNar ∨ (Cond.not (Cond.eq (zTm 8) (zTm 3))) ∈ zNar := Or.inl (List.mem_of_getElem? (i := 217) (by decide +kernel))
theorem zSn6_3_9 : (Cond.not (Cond.eq (zTm 3) (zTm 9))) ∈ zNar ∨ (Cond.not (Cond.eq (zTm 9) (zTm 3))) ∈ zNar := Or.inr (List.mem_of_getElem? (i := 134) (by decide +kernel))
theorem zSn6_3_10 : (Cond.not (Cond.eq (zTm 3) (zTm 10))) ∈ zNar ∨ (Cond.not (Cond.eq (zTm 10) (zTm 3))) ∈ zNar := Or.inr (List.mem_of_getElem? (i := 133) (by decide +kernel))
theorem zSn6_4_5 : (Cond.not (Cond.eq (zTm 4) (zTm 5))) ∈ zNar ∨ (Cond.not (Cond.eq (zTm 5) (zTm 4))) ∈ zNar := Or.inl (List.mem_of_getElem? (i := 168) (by decide +kernel))
theorem zSn6_4_6 : (Cond.not (Cond.eq (zTm 4) (zTm 6))) ∈ zNar ∨ (Cond.not (Cond.eq (zTm 6) (zTm 4))) ∈ zNar := Or.inl (List.mem_of_getElem? (i := 185) (by decide +kernel))
theorem zSn6_4_7 : (Cond.not (Cond.eq (zTm 4) (zTm 7))) ∈ zNar ∨ (Cond.not (Cond.eq (zTm 7) (zTm 4))) ∈ zNar := Or.inl (List.mem_of_getElem? (i := 201) (by decide +kernel))
theorem zSn6_4_8 : (Cond.not (Cond.eq (zTm 4) (zTm 8))) ∈ zNar ∨ (Cond.not (Cond.eq (zTm 8) (zTm 4))) ∈ zNar := Or.inl (List.mem_of_getElem? (i := 218) (by decide +kernel))
theorem zSn6_4_9 : (Cond.not (Cond.eq (zTm 4) (zTm 9))) ∈ zNar ∨ (Cond.not (Cond.eq (zTm 9) (zTm 4))) ∈ zNar := Or.inr (List.mem_of_getElem? (i := 148) (by decide +kernel))
theorem zSn6_4_10 : (Cond.not (Cond.eq (zTm 4) (zTm 10))) ∈ zNar ∨ (Cond.not (Cond.eq (zTm 10) (zTm 4))) ∈ zNar := Or.inr (List.mem_of_getElem? (i := 147) (by decide +kernel))
theorem zSn6_5_6 : (Cond.not (Cond.eq (zTm 5) (zTm 6))) ∈ zNar ∨ (Cond.not (Cond.eq (zTm 6) (zTm 5))) ∈ zNar := Or.inl (List.mem_of_getElem? (i := 186) (by decide +kernel))
theorem zSn6_5_7 : (Cond.not (Cond.eq (zTm 5) (zTm 7))) ∈ zNar ∨ (Cond.not (Cond.eq (zTm 7) (zTm 5))) ∈ zNar := Or.inl (List.mem_of_getElem? (i := 202) (by decide +kernel))
theorem zSn6_5_8 : (Cond.not (Cond.eq (zTm 5) (zTm 8))) ∈ zNar ∨ (Cond.not (Cond.eq (zTm 8) (zTm 5))) ∈ zNar := Or.inl (List.mem_of_getElem? (i := 219) (by decide +kernel))
theorem zSn6_5_9 : (Cond.not (Cond.eq (zTm 5) (zTm 9))) ∈ zNar ∨ (Cond.not (Cond.eq (zTm 9) (zTm 5))) ∈ zNar := Or.inr (List.mem_of_getElem? (i := 163) (by decide +kernel))
theorem zSn6_5_10 : (Cond.not (Cond.eq (zTm 5) (zTm 10))) ∈ zNar ∨ (Cond.not (Cond.eq (zTm 10) (zTm 5))) ∈ zNar := Or.inr (List.mem_of_getElem? (i := 162) (by decide +kernel))
theorem zSn6_6_7 : (Cond.not (Cond.eq (zTm 6) (zTm 7))) ∈ zNar ∨ (Cond.not (Cond.eq (zTm 7) (zTm 6))) ∈ zNar := Or.inl (List.mem_of_getElem? (i := 203) (by decide +kernel))
theorem zSn6_6_8 : (Cond.not (Cond.eq (zTm 6) (zTm 8))) ∈ zNar ∨ (Cond.not (Cond.eq (zTm 8) (zTm 6))) ∈ zNar := Or.inl (List.mem_of_getElem? (i := 220) (by decide +kernel))
theorem zSn6_6_9 : (Cond.not (Cond.eq (zTm 6) (zTm 9))) ∈ zNar ∨ (Cond.not (Cond.eq (zTm 9) (zTm 6))) ∈ zNar := Or.inr (List.mem_of_getElem? (i := 180) (by decide +kernel))
theorem zSn6_6_10 : (Cond.not (Cond.eq (zTm 6) (zTm 10))) ∈ zNar ∨ (Cond.not (Cond.eq (zTm 10) (zTm 6))) ∈ zNar := Or.inr (List.mem_of_getElem? (i := 179) (by decide +kernel))
theorem zSn6_7_8 : (Cond.not (Cond.eq (zTm 7) (zTm 8))) ∈ zNar ∨ (Cond.not (Cond.eq (zTm 8) (zTm 7))) ∈ zNar := Or.inl (List.mem_of_getElem? (i := 221) (by decide +kernel))
theorem zSn6_7_9 : (Cond.not (Cond.eq (zTm 7) (zTm 9))) ∈ zNar ∨ (Cond.not (Cond.eq (zTm 9) (zTm 7))) ∈ zNar := Or.inr (List.mem_of_getElem? (i := 196) (by decide +kernel))
theorem zSn6_7_10 : (Cond.not (Cond.eq (zTm 7) (zTm 10))) ∈ zNar ∨ (Cond.not (Cond.eq (zTm 10) (zTm 7))) ∈ zNar := Or.inr (List.mem_of_getElem? (i := 195) (by decide +kernel))
theorem zSn6_8_9 : (Cond.not (Cond.eq (zTm 8) (zTm 9))) ∈ zNar ∨ (Cond.not (Cond.eq (zTm 9) (zTm 8))) ∈ zNar := Or.inr (List.mem_of_getElem? (i := 213) (by decide +kernel))
theorem zSn6_8_10 : (Cond.not (Cond.eq (zTm 8) (zTm 10))) ∈ zNar ∨ (Cond.not (Cond.eq (zTm 10) (zTm 8))) ∈ zNar := Or.inr (List.mem_of_getElem? (i := 212) (by decide +kernel))
theorem zSn6_9_10 : (Cond.not (Cond.eq (zTm 9) (zTm 10))) ∈ zNar ∨ (Cond.not (Cond.eq (zTm 10) (zTm 9))) ∈ zNar := Or.inr (List.mem_of_getElem? (i := 94) (by decide +kernel))
theorem zSn_6 (i : Nat) (hi : i < 11) (j : Nat) (hj : j < 11) (hij : i ≠ j) : (Cond.not (Cond.eq (zTm i) (zTm j))) ∈ zNar ∨ (Cond.not (Cond.eq (zTm j) (zTm i))) ∈ zNar := by
  match i, j, hi, hj, hij with
  | 0, 0, _, _, h => exact absurd rfl h
  | 0, 1, _, _, _ => exact zSn6_0_1
  | 0, 2, _, _, _ => exact zSn6_0_2
  | 0, 3, _, _, _ => exact zSn6_0_3
  | 0, 4, _, _, _ => exact zSn6_0_4
  | 0, 5, _, _, _ => exact zSn6_0_5
  | 0, 6, _, _, _ => exact zSn6_0_6
  | 0, 7, _, _, _ => exact zSn6_0_7
  | 0, 8, _, _, _ => exact zSn6_0_8
  | 0, 9, _, _, _ => exact zSn6_0_9
  | 0, 10, _, _, _ => exact zSn6_0_10
  | 1, 0, _, _, _ => exact zSn6_0_1.symm
  | 1, 1, _, _, h => exact absurd rfl h
  | 1, 2, _, _, _ => exact zSn6_1_2
  | 1, 3, _, _, _ => exact zSn6_1_3
  | 1, 4, _, _, _ => exact zSn6_1_4
  | 1, 5, _, _, _ => exact zSn6_1_5
  | 1, 6, _, _, _ => exact zSn6_1_6
  | 1, 7, _, _, _ => exact zSn6_1_7
  | 1, 8, _, _, _ => exact zSn6_1_8
  | 1, 9, _, _, _ => exact zSn6_1_9
  | 1, 10, _, _, _ => exact zSn6_1_10
  | 2, 0, _, _, _ => exact zSn6_0_2.symm
  | 2, 1, _, _, _ => exact zSn6_1_2.symm
  | 2, 2, _, _, h => exact absurd rfl h
  | 2, 3, _, _, _ => exact zSn6_2_3
  | 2, 4, _, _, _ => exact zSn6_2_4
  | 2, 5, _, _, _ => exact zSn6_2_5
  | 2, 6, _, _, _ => exact zSn6_2_6
  | 2, 7, _, _, _ => exact zSn6_2_7
  | 2, 8, _, _, _ => exact zSn6_2_8
  | 2, 9, _, _, _ => exact zSn6_2_9
  | 2, 10, _, _, _ => exact zSn6_2_10
  | 3, 0, _, _, _ => exact zSn6_0_3.symm
  | 3, 1, _, _, _ => exact zSn6_1_3.symm
  | 3, 2, _, _, _ => exact zSn6_2_3.symm
  | 3, 3, _, _, h => exact absurd rfl h
  | 3, 4, _, _, _ => exact zSn6_3_4
  | 3, 5, _, _, _ => exact zSn6_3_5
  | 3, 6, _, _, _ => exact zSn6_3_6
  | 3, 7, _, _, _ => exact zSn6_3_7
  | 3, 8, _, _, _ => exact zSn6_3_8
  | 3, 9, _, _, _ => exact zSn6_3_9
  | 3, 10, _, _, _ => exact zSn6_3_10
  | 4, 0, _, _, _ => exact zSn6_0_4.symm
  | 4, 1, _, _, _ => exact zSn6_1_4.symm
  | 4, 2, _, _, _ => exact zSn6_2_4.symm
  | 4, 3, _, _, _ => exact zSn6_3_4.symm
  | 4, 4, _, _, h => exact absurd rfl h
  | 4, 5, _, _, _ => exact zSn6_4_5
  | 4, 6, _, _, _ => exact zSn6_4_6
  | 4, 7, _, _, _ => exact zSn6_4_7
  | 4, 8, _, _, _ => exact zSn6_4_8
  | 4, 9, _, _, _ => exact zSn6_4_9
  | 4, 10, _, _, _ => exact zSn6_4_10
  | 5, 0, _, _, _ => exact zSn6_0_5.symm
  | 5, 1, _, _, _ => exact zSn6_1_5.symm
  | 5, 2, _, _, _ => exact zSn6_2_5.symm
  | 5, 3, _, _, _ => exact zSn6_3_5.symm
  | 5, 4, _, _, _ => exact zSn6_4_5.symm
  | 5, 5, _, _, h => exact absurd rfl h
  | 5, 6, _, _, _ => exact zSn6_5_6
  | 5, 7, _, _, _ => exact zSn6_5_7
  | 5, 8, _, _, _ => exact zSn6_5_8
  | 5, 9, _, _, _ => exact zSn6_5_9
  | 5, 10, _, _, _ => exact zSn6_5_10
  | 6, 0, _, _, _ => exact zSn6_0_6.symm
  | 6, 1, _, _, _ => exact zSn6_1_6.symm
  | 6, 2, _, _, _ => exact zSn6_2_6.symm
  | 6, 3, _, _, _ => exact zSn6_3_6.symm
  | 6, 4, _, _, _ => exact zSn6_4_6.symm
  | 6, 5, _, _, _ => exact zSn6_5_6.symm
  | 6, 6, _, _, h => exact absurd rfl h
  | 6, 7, _, _, _ => exact zSn6_6_7
  | 6, 8, _, _, _ => exact zSn6_6_8
  | 6, 9, _, _, _ => exact zSn6_6_9
  | 6, 10, _, _, _ => exact zSn6_6_10
  | 7, 0, _, _, _ => exact zSn6_0_7.symm
  | 7, 1, _, _, _ => exact zSn6_1_7.symm
  | 7, 2, _, _, _ => exact zSn6_2_7.symm
  | 7, 3, _, _, _ => exact zSn6_3_7.symm
  | 7, 4, _, _, _ => exact zSn6_4_7.symm
  | 7, 5, _, _, _ => exact zSn6_5_7.symm
  | 7, 6, _, _, _ => exact zSn6_6_7.symm
  | 7, 7, _, _, h => exact absurd rfl h
  | 7, 8, _, _, _ => exact zSn6_7_8
  | 7, 9, _, _, _ => exact zSn6_7_9
  | 7, 10, _, _, _ => exact zSn6_7_10
  | 8, 0, _, _, _ => exact zSn6_0_8.symm
  | 8, 1, _, _, _ => exact zSn6_1_8.symm
  | 8, 2, _, _, _ => exact zSn6_2_8.symm
  | 8, 3, _, _, _ => exact zSn6_3_8.symm
  | 8, 4, _, _, _ => exact zSn6_4_8.symm
  | 8, 5, _, _, _ => exact zSn6_5_8.symm
  | 8, 6, _, _, _ => exact zSn6_6_8.symm
  | 8, 7, _, _, _ => exact zSn6_7_8.symm
  | 8, 8, _, _, h => exact absurd rfl h
  | 8, 9, _, _, _ => exact zSn6_8_9
  | 8, 10, _, _, _ => exact zSn6_8_10
  | 9, 0, _, _, _ => exact zSn6_0_9.symm
  | 9, 1, _, _, _ => exact zSn6_1_9.symm
  | 9, 2, _, _, _ => exact zSn6_2_9.symm
  | 9, 3, _, _, _ => exact zSn6_3_9.symm
  | 9, 4, _, _, _ => exact zSn6_4_9.symm
  | 9, 5, _, _, _ => exact zSn6_5_9.symm
  | 9, 6, _, _, _ => exact zSn6_6_9.symm
  | 9, 7, _, _, _ => exact zSn6_7_9.symm
  | 9, 8, _, _, _ => exact zSn6_8_9.symm
  | 9, 9, _, _, h => exact absurd rfl h
  | 9, 10, _, _, _ => exact zSn6_9_10
  | 10, 0, _, _, _ => exact zSn6_0_10.symm
  | 10, 1, _, _, _ => exact zSn6_1_10.symm
  | 10, 2, _, _, _ => exact zSn6_2_10.symm
  | 10, 3, _, _, _ => exact zSn6_3_10.symm
  | 10, 4, _, _, _ => exact zSn6_4_10.symm
  | 10, 5, _, _, _ => exact zSn6_5_10.symm
  | 10, 6, _, _, _ => exact zSn6_6_10.symm
  | 10, 7, _, _, _ => exact zSn6_7_10.symm
  | 10, 8, _, _, _ => exact zSn6_8_10.symm
  | 10, 9, _, _, _ => exact zSn6_9_10.symm
  | 10, 10, _, _, h => exact absurd rfl h
  | _ + 11, _, h, _, _ => omega
  | _, _ + 11, _, h, _ => omega
theorem zSn_7 : ∀ q ∈ zSR, (Term.string q.1 q.2.1 = zTm q.2.2.2 ∨ (Cond.eq (zTm q.2.2.2) (.string q.1 q.2.1)) ∈ zNar) ∧ q.2.2.2 < 11 := by decide +kernel
theorem zSn_8 : ∀ q ∈ zSR, Cond.stringRef q.1 q.2.1 q.2.2.1 ∈ lw_tbl := by decide +kernel
theorem zSn_9 : ∀ j, j < 5 → (Cond.eq (.elem (.static "OralOrders$Oral" "FROM" "[I") (.int (Int32.ofNat j))) (.int (zFROM.getD j 0))) ∈ zNar := by decide +kernel
theorem zSt_facts {s : State} {args : Array Value} {A : Nat → Prop} (hts : ∀ w ∈ lw_tbl, w.before args s = true) (hg : ∀ w ∈ zNar, w.before args s = true) (hA : ∀ a : Nat, a < s.heap.size → ¬ A a) :
    ∃ (tF tB : Nat) (adK adV : Nat → Nat), va_Z "OralOrders$Oral" "FROM" "[I" (.ref tF) A s s.heap ∧ va_T .int tF 5 (fun j => .int (zFROM.getD j 0)) A s s.heap ∧ va_Z "java/lang/String" "COMPACT_STRINGS" "Z" (.int 1) A s s.heap ∧ vk_S 11 zSLen zSByt adK adV A s s.heap ∧ (∀ q ∈ zSR, vk_R q.1 q.2.1 q.2.2.1 (adK q.2.2.2) s) ∧
      vx_Zq Bundle.tN "UNASSIGNED_STACK" Bundle.steD A s s.heap ∧ vx_Zq Bundle.tN "SUPPRESSED_SENTINEL" Bundle.listD A s s.heap ∧ (va_Z "jdk/internal/util/Preconditions" "SIOOBE_FORMATTER" "Ljava/util/function/BiFunction;" .null A s s.heap ∨ va_Z "jdk/internal/util/Preconditions" "SIOOBE_FORMATTER" "Ljava/util/function/BiFunction;" (.ref tB) A s s.heap) := by
  obtain ⟨tF, hF1, hF2⟩ := va_Tof (tm := .static "OralOrders$Oral" "FROM" "[I") (ty := .int) (N := 5) (f := fun j => .int (zFROM.getD j 0)) (A := A) (by decide) (hg _ (by decide +kernel)) (va_eqt (hg _ (by decide +kernel))) (fun j hj => va_eqt (hg _ (zSn_9 j hj))) hA
  obtain ⟨adK, adV, hS, hSe⟩ := vk_Sof (N := 11) (tm := zTm) (len := zSLen) (byt := zSByt) (A := A) (args := args) (s := s) (by decide) (fun i hi => hg _ (zSn_1 i hi)) (fun i hi => hg _ (zSn_2 i hi)) (fun i hi => hg _ (zSn_3 i hi)) (fun i hi => hg _ (zSn_4 i hi)) (fun i hi j hj => hg _ (zSn_5 i hi j hj)) (fun i j hi hj hij => (zSn_6 i hi j hj hij).imp (hg _) (hg _)) hA
  have hB := va_Zqof (args := args) (s := s) (C := "jdk/internal/util/Preconditions") (n := "SIOOBE_FORMATTER") (d := "Ljava/util/function/BiFunction;") (A := A) (hts _ (by decide +kernel)) (hts _ (by decide +kernel)) (hg _ (by decide +kernel)) hA
  have hB2 : ∃ tB : Nat, va_Z "jdk/internal/util/Preconditions" "SIOOBE_FORMATTER" "Ljava/util/function/BiFunction;" .null A s s.heap ∨ va_Z "jdk/internal/util/Preconditions" "SIOOBE_FORMATTER" "Ljava/util/function/BiFunction;" (.ref tB) A s s.heap := by
    rcases hB with h | ⟨t, h⟩
    · exact ⟨0, Or.inl h⟩
    · exact ⟨t, Or.inr h⟩
  obtain ⟨tB, hB⟩ := hB2
  refine ⟨tF, tB, adK, adV, va_Zref (hts _ (by decide +kernel)) (hts _ (by decide +kernel)) hF1 hA, hF2, va_Zof (hts _ (by decide +kernel)) (hts _ (by decide +kernel)) (va_eqi (hg _ (by decide +kernel))) hA, hS, fun q hq => ?_, vx_Zqof (hts _ (by decide +kernel)) (hts _ (by decide +kernel)) (hg _ (by decide +kernel)) hA, vx_Zqof (hts _ (by decide +kernel)) (hts _ (by decide +kernel)) (hg _ (by decide +kernel)) hA, hB⟩
  obtain ⟨h1, h2⟩ := zSn_7 q hq
  refine vk_R.of (hts _ (zSn_8 q hq)) ?_
  rcases h1 with h1 | h1
  · rw [h1]; exact hSe _ h2
  · exact va_eqR (hg _ h1) (hSe _ h2)
theorem zIn_all : ∀ q ∈ vwCl, Cond.instantiable q.1 q.2.2 ∈ lw_tbl := by decide +kernel
theorem zTsub {w : Cond} (h : w ∈ zT) : w ∈ lw_tbl := (List.mem_filter.mp h).1
theorem zKn_all {s : State} {args : Array Value} (hts : ∀ w ∈ lw_tbl, w.before args s = true) : ∃ (dC : Nat → ClassId) (dI : Nat → Nat → Nat), ∀ (k : Nat) (q : vw_C), vwCl[k]? = some q → u_Kn s q.1 q.2.1 q.2.2 (dC k) (dI k) := by
  have h : ∀ k : Nat, ∃ d : ClassId × (Nat → Nat), ∀ q : vw_C, vwCl[k]? = some q → u_Kn s q.1 q.2.1 q.2.2 d.1 d.2 := by
    intro k
    cases hq : vwCl[k]? with
    | none => exact ⟨(0, fun _ => 0), fun q h => by cases h⟩
    | some q =>
      have hi : Cond.instantiable q.1 q.2.2 ∈ lw_tbl := zIn_all q (List.mem_of_getElem? hq)
      obtain ⟨cC, iS, hk⟩ := u_known (n := q.2.2) hts (fun w hw => zTsub (zUin q (List.mem_of_getElem? hq) w hw)) (hts _ hi)
      exact ⟨(cC, iS), fun q2 h2 => by cases h2; exact hk⟩
  obtain ⟨f, hf⟩ := Classical.axiomOfChoice h
  exact ⟨fun k => (f k).1, fun k => (f k).2, fun k q hq => hf k q hq⟩
end zStart
