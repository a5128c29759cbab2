-- ATTACKS of the model
def aMs (n : Nat) : Nat → Int32 × Int32
  | 0 => (nI 1, nI n - nI 1)
  | i + 1 => ((aMs n i).1 * (nI n - nI (i + 2) + nI 1), (aMs n i).2 + (aMs n i).1 * (nI n - nI (i + 2) + nI 1) * (nI n - nI (i + 2)))
set_option maxHeartbeats 1000000 in
theorem zc_mmsgOf (l : Launch) (G : zG) (M : zM) (n t : Nat) (hn7 : n < 100) (h1 : 1 ≤ t) (ht : t < 100) : zC l G 0 yX11_messagesOf cX11_messagesOf 5 (Option.some Jvm.ClassFile.FieldType.int) [.int (nI n), .int (nI t)] M (zP (some (.int (aMs n (t - 1)).2)) M) := by
  refine zC_of (by decide) (Nat.le_of_ble_eq_true rfl) (fun X Q hQ hX hl hR hr => ?_)
  refine zV_loc (L' := [.int (nI n), .int (nI t), .null, .null, .null]) rfl ?_
  have L9 : ∀ (f9 i : Nat), t - i < f9 → i + 1 ≤ t → zV G X Q 5 0 0 9 [.int (nI n), .int (nI t), .int (aMs n i).1, .int (aMs n i).2, .int (nI (i + 2))] [] M := by
    intro f9
    induction f9 with
    | zero => intro i hi1 hi2; exact absurd hi1 (Nat.not_lt_zero _)
    | succ f9 ih =>
      intro i hi1 hi2
      refine zV_iload hX dX11_messagesOf_9 rfl ?_
      refine zV_iload_n hX dX11_messagesOf_11 rfl ?_
      refine zV_icmp_gtN hX (tgt := 46) dX11_messagesOf_12 (by decide) ⟨by omega, by omega⟩ (fun c_12 => ?_) (fun c_12 => ?_)
      · refine zV_iload_n hX dX11_messagesOf_46 rfl ?_
        exact zV_reti hX hQ hr (⟨by rw [show i = t - 1 by omega], rfl⟩) dX11_messagesOf_47
      · refine zV_iload_n hX dX11_messagesOf_15 rfl ?_
        refine zV_iload_n hX dX11_messagesOf_16 rfl ?_
        refine zV_iload_n hX dX11_messagesOf_17 rfl ?_
        refine zV_iload hX dX11_messagesOf_18 rfl ?_
        refine zV_isub hX dX11_messagesOf_20 ?_
        refine zV_iconst hX (v := nI 1) dX11_messagesOf_21 (by decide) ?_
        refine zV_iadd hX dX11_messagesOf_22 ?_
        refine zV_imul hX dX11_messagesOf_23 ?_
        refine zV_iload_n hX dX11_messagesOf_24 rfl ?_
        refine zV_iload hX dX11_messagesOf_25 rfl ?_
        refine zV_isub hX dX11_messagesOf_27 ?_
        refine zV_imul hX dX11_messagesOf_28 ?_
        refine zV_iadd hX dX11_messagesOf_29 ?_
        refine zV_istore_n hX dX11_messagesOf_30 (by decide) ?_
        dsimp only [zst1, zst2, zclr, zc2]
        refine zV_iload_n hX dX11_messagesOf_31 rfl ?_
        refine zV_iload_n hX dX11_messagesOf_32 rfl ?_
        refine zV_iload hX dX11_messagesOf_33 rfl ?_
        refine zV_isub hX dX11_messagesOf_35 ?_
        refine zV_iconst hX (v := nI 1) dX11_messagesOf_36 (by decide) ?_
        refine zV_iadd hX dX11_messagesOf_37 ?_
        refine zV_imul hX dX11_messagesOf_38 ?_
        refine zV_istore_n hX dX11_messagesOf_39 (by decide) ?_
        dsimp only [zst1, zst2, zclr, zc2]
        refine zV_iincN hX (b := 1) dX11_messagesOf_40 rfl (by decide) ?_
        dsimp only [zst1, zst2, zclr, zc2]
        refine zV_goto hX (tgt := 9) dX11_messagesOf_43 (by decide) ?_
        exact ih (i + 1) (by omega) (by omega)
  refine zV_iconst hX (v := nI 1) dX11_messagesOf_0 (by decide) ?_
  refine zV_istore_n hX dX11_messagesOf_1 (by decide) ?_
  dsimp only [zst1, zst2, zclr, zc2]
  refine zV_iload_n hX dX11_messagesOf_2 rfl ?_
  refine zV_iconst hX (v := nI 1) dX11_messagesOf_3 (by decide) ?_
  refine zV_isub hX dX11_messagesOf_4 ?_
  refine zV_istore_n hX dX11_messagesOf_5 (by decide) ?_
  dsimp only [zst1, zst2, zclr, zc2]
  refine zV_iconst hX (v := nI 2) dX11_messagesOf_6 (by decide) ?_
  refine zV_istore hX dX11_messagesOf_7 (by decide) ?_
  dsimp only [zst1, zst2, zclr, zc2]
  exact L9 (t + 1) 0 (by omega) (by omega)
def aMb (n x c : Nat) : Nat := if c = 0 then n - 1 else if x = 2 then n - 2 else 0
theorem aMb_le (n x c : Nat) : aMb n x c ≤ n := by
  unfold aMb
  split
  · omega
  · split <;> omega
set_option maxHeartbeats 1000000 in
theorem zc_mmsgBy (l : Launch) (G : zG) (M : zM) (n x c : Nat) (hn2 : 2 ≤ n) (hn7 : n ≤ 7) (hx : x < 3) (hc : c < 4) : zC l G 0 yX11_messagesBy cX11_messagesBy 3 (Option.some Jvm.ClassFile.FieldType.int) [.int (nI n), .int (nI x), .int (nI c)] M (zP (some (.int (nI (aMb n x c)))) M) := by
  refine zC_of (by decide) (Nat.le_of_ble_eq_true rfl) (fun X Q hQ hX hl hR hr => ?_)
  refine zV_loc (L' := [.int (nI n), .int (nI x), .int (nI c)]) rfl ?_
  refine zV_iload_n hX dX11_messagesBy_0 rfl ?_
  refine zV_if_neN hX (tgt := 10) dX11_messagesBy_1 (by decide) (by omega) (fun c_1 => ?_) (fun c_1 => ?_)
  · refine zV_iload_n hX dX11_messagesBy_10 rfl ?_
    refine zV_iconst hX (v := nI 2) dX11_messagesBy_11 (by decide) ?_
    refine zV_icmp_neN hX (tgt := 21) dX11_messagesBy_12 (by decide) ⟨by omega, by omega⟩ (fun c_12 => ?_) (fun c_12 => ?_)
    · refine zV_iconst hX (v := nI 0) dX11_messagesBy_21 (by decide) ?_
      exact zV_reti hX hQ hr (⟨by first | (rw [aMb, if_pos c_1]; done) | (rw [aMb, if_neg (by omega), if_pos c_12]; done) | (rw [aMb, if_neg (by omega), if_neg c_12]; done), rfl⟩) dX11_messagesBy_22
    · refine zV_iload_n hX dX11_messagesBy_15 rfl ?_
      refine zV_iconst hX (v := nI 2) dX11_messagesBy_16 (by decide) ?_
      refine zV_isubN hX dX11_messagesBy_17 (by omega) ?_
      refine zV_goto hX (tgt := 22) dX11_messagesBy_18 (by decide) ?_
      exact zV_reti hX hQ hr (⟨by first | (rw [aMb, if_pos c_1]; done) | (rw [aMb, if_neg (by omega), if_pos c_12]; done) | (rw [aMb, if_neg (by omega), if_neg c_12]; done), rfl⟩) dX11_messagesBy_22
  · refine zV_iload_n hX dX11_messagesBy_4 rfl ?_
    refine zV_iconst hX (v := nI 1) dX11_messagesBy_5 (by decide) ?_
    refine zV_isubN hX dX11_messagesBy_6 (by omega) ?_
    refine zV_goto hX (tgt := 22) dX11_messagesBy_7 (by decide) ?_
    exact zV_reti hX hQ hr (⟨by first | (rw [aMb, if_pos c_1]; done) | (rw [aMb, if_neg (by omega), if_pos c_12]; done) | (rw [aMb, if_neg (by omega), if_neg c_12]; done), rfl⟩) dX11_messagesBy_22
set_option maxHeartbeats 1000000 in
theorem zc_mpower (l : Launch) (G : zG) (M : zM) (x : Int32) (e : Nat) (he6 : e ≤ 6) (he : ∀ j, j ≤ 6 → (x ≤ nI j ↔ e ≤ j)) : zC l G 0 yX11_power cX11_power 3 (Option.some Jvm.ClassFile.FieldType.int) [.int x] M (zP (some (.int (nI (3 ^ e)))) M) := by
  refine zC_of (by decide) (Nat.le_of_ble_eq_true rfl) (fun X Q hQ hX hl hR hr => ?_)
  refine zV_loc (L' := [.int x, .null, .null]) rfl ?_
  have L4 : ∀ (f9 i : Nat), e - i < f9 → i ≤ e → zV G X Q 3 0 0 4 [.int x, .int (nI (3 ^ i)), .int (nI i)] [] M := by
    intro f9
    induction f9 with
    | zero => intro i hi1 hi2; exact absurd hi1 (Nat.not_lt_zero _)
    | succ f9 ih =>
      intro i hi1 hi2
      refine zV_iload_n hX dX11_power_4 rfl ?_
      refine zV_iload_n hX dX11_power_5 rfl ?_
      refine zV_icmp_ge hX (tgt := 19) dX11_power_6 (by decide) (fun c_6 => ?_) (fun c_6 => ?_)
      · have hie : i = e := by have := (he i (by omega)).mp c_6; omega
        refine zV_iload_n hX dX11_power_19 rfl ?_
        exact zV_reti hX hQ hr (⟨by rw [hie], rfl⟩) dX11_power_20
      · have hie : i < e := by rcases Nat.lt_or_ge i e with q | q; exact q; exact absurd ((he i (by omega)).mpr q) c_6
        refine zV_iload_n hX dX11_power_9 rfl ?_
        refine zV_iconst hX (v := nI 3) dX11_power_10 (by decide) ?_
        refine zV_imulN hX dX11_power_11 ?_
        refine zV_istore_n hX dX11_power_12 (by decide) ?_
        dsimp only [zst1, zst2, zclr, zc2]
        refine zV_iincN hX (b := 1) dX11_power_13 rfl (by decide) ?_
        dsimp only [zst1, zst2, zclr, zc2]
        refine zV_goto hX (tgt := 4) dX11_power_16 (by decide) ?_
        exact ih (i + 1) (by omega) (by omega)
  refine zV_iconst hX (v := nI 1) dX11_power_0 (by decide) ?_
  refine zV_istore_n hX dX11_power_1 (by decide) ?_
  dsimp only [zst1, zst2, zclr, zc2]
  refine zV_iconst hX (v := nI 0) dX11_power_2 (by decide) ?_
  refine zV_istore_n hX dX11_power_3 (by decide) ?_
  dsimp only [zst1, zst2, zclr, zc2]
  exact L4 (e + 1) 0 (by omega) (by omega)
def aTl (a b k : Nat) : Nat := if a / 3 ^ (b - 1 - k) % 3 = 1 then 1 else 0
theorem aTl_le (a b k : Nat) : aTl a b k ≤ 1 := by
  unfold aTl
  split <;> omega
theorem aTl_e : ∀ b, b ≤ 7 → ∀ k, k ≤ 6 → ∀ j, j ≤ 6 → (nI b - nI 1 - nI k ≤ nI j ↔ b - 1 - k ≤ j) := by decide +kernel
set_option maxHeartbeats 1000000 in
theorem zc_mtoldBy (l : Launch) (G : zG) (M : zM) (a b k : Nat) (ha : a < 1000) (hb : b ≤ 7) (hk : k ≤ 6) : zC l G 1 yX11_toldBy cX11_toldBy 3 (Option.some Jvm.ClassFile.FieldType.int) [.int (nI a), .int (nI b), .int (nI k)] M (zP (some (.int (nI (aTl a b k)))) M) := by
  refine zC_of (by decide) (Nat.le_of_ble_eq_true rfl) (fun X Q hQ hX hl hR hr => ?_)
  refine zV_loc (L' := [.int (nI a), .int (nI b), .int (nI k)]) rfl ?_
  have h30 : 0 < 3 ^ (b - 1 - k) := Nat.pow_pos (by decide)
  have h31 : 3 ^ (b - 1 - k) ≤ 3 ^ 6 := Nat.pow_le_pow_right (by decide) (by omega)
  have h32 : (3 : Nat) ^ 6 = 729 := by decide
  have h33 : a / 3 ^ (b - 1 - k) ≤ a := Nat.div_le_self _ _
  refine zV_iload_n hX dX11_toldBy_0 rfl ?_
  refine zV_iload_n hX dX11_toldBy_1 rfl ?_
  refine zV_iconst hX (v := nI 1) dX11_toldBy_2 (by decide) ?_
  refine zV_isub hX dX11_toldBy_3 ?_
  refine zV_iload_n hX dX11_toldBy_4 rfl ?_
  refine zV_isub hX dX11_toldBy_5 ?_
  refine zV_cS1p hX hR hl dX11_toldBy_6 (zc_mpower l G M _ (b - 1 - k) (by omega) (aTl_e b hb k hk)) zt_X11_power rfl zml_X11_514 (by decide) (Nat.le_of_ble_eq_true rfl) ?_
  dsimp only [Option.toList, List.cons_append, List.nil_append]
  refine zV_idivN hX dX11_toldBy_9 ⟨by omega, h30, by omega⟩ ?_
  refine zV_iconst hX (v := nI 3) dX11_toldBy_10 (by decide) ?_
  refine zV_iremN hX dX11_toldBy_11 ⟨by omega, by decide, by decide⟩ ?_
  refine zV_iconst hX (v := nI 1) dX11_toldBy_12 (by decide) ?_
  refine zV_icmp_neN hX (tgt := 20) dX11_toldBy_13 (by decide) ⟨by omega, by decide⟩ (fun c_13 => ?_) (fun c_13 => ?_)
  · refine zV_iconst hX (v := nI 0) dX11_toldBy_20 (by decide) ?_
    exact zV_reti hX hQ hr (⟨by first | (rw [aTl, if_pos c_13]; done) | (rw [aTl, if_neg c_13]; done), rfl⟩) dX11_toldBy_21
  · refine zV_iconst hX (v := nI 1) dX11_toldBy_16 (by decide) ?_
    refine zV_goto hX (tgt := 21) dX11_toldBy_17 (by decide) ?_
    exact zV_reti hX hQ hr (⟨by first | (rw [aTl, if_pos c_13]; done) | (rw [aTl, if_neg c_13]; done), rfl⟩) dX11_toldBy_21
def aTv (c a b i : Nat) : Nat := if c = 0 then aTl a b i else 1
theorem aTv_le (c a b i : Nat) : aTv c a b i ≤ 1 := by
  unfold aTv
  split
  · exact aTl_le _ _ _
  · exact Nat.le_refl 1
def aT1 (c a b : Nat) (k : Nat) (M : zM) : zM := zfor (fun i M => zw M 364 (i + 1) (nI (aTv c a b i))) k (zw M 363 0 (nI 1))
def aTs1 (c a b i j : Nat) : Nat := if j + 1 = c ∧ i ≠ c then aTl a b (if i < c then i - 1 else i - 2) else aTv c a b j
theorem aTs1_le (c a b i j : Nat) : aTs1 c a b i j ≤ 1 := by
  unfold aTs1
  split
  · exact aTl_le _ _ _
  · exact aTv_le _ _ _ _
def aTs (c a b i : Nat) : Nat → Nat
  | 0 => 0
  | j + 1 => aTs c a b i j + aTs1 c a b i j
theorem aTs_le (c a b i : Nat) : ∀ j, aTs c a b i j ≤ j
  | 0 => Nat.le_refl 0
  | j + 1 => Nat.add_le_add (aTs_le c a b i j) (aTs1_le c a b i j)
def aTr (n md c a b i : Nat) : Nat := if md = 1 then aTv c a b (i - 1) else if 2 * aTs c a b i (n - 1) ≤ n - 1 then 0 else 1
theorem aTr_le (n md c a b i : Nat) : aTr n md c a b i ≤ 1 := by
  unfold aTr
  split
  · exact aTv_le _ _ _ _
  · split <;> omega
def aT2 (n md c a b : Nat) (k : Nat) (M : zM) : zM := zfor (fun i M => zw M 363 (i + 1) (nI (aTr n md c a b (i + 1)))) k (aT1 c a b (n - 1) M)
def aTry (n md c a : Nat) (M : zM) : zM := aT2 n md c a (aMb n md c) (n - 1) M
/-- what the way makes of member i's order -/
def aOd (n md c a i : Nat) : Nat := if i = 0 then 1 else aTr n md c a (aMb n md c) i
theorem aOd_le (n md c a i : Nat) : aOd n md c a i ≤ 1 := by
  unfold aOd
  split
  · exact Nat.le_refl 1
  · exact aTr_le _ _ _ _ _ _
theorem aT1_at (c a b : Nat) (M : zM) (j : Nat) : ∀ k, j < k → (aT1 c a b k M).1 364 (j + 1) = nI (aTv c a b j)
  | 0, h => absurd h (Nat.not_lt_zero j)
  | k + 1, h => by
    show (zw (aT1 c a b k M) 364 (k + 1) _).1 364 (j + 1) = _
    rw [zw_at]
    by_cases e : j = k
    · rw [if_pos ⟨rfl, by omega⟩, e]
    · rw [if_neg (fun q => e (by omega))]
      exact aT1_at c a b M j k (by omega)
theorem aT1_0 (c a b : Nat) (M : zM) : ∀ k, (aT1 c a b k M).1 363 0 = nI 1
  | 0 => by show (zw M 363 0 (nI 1)).1 363 0 = _; rw [zw_same]
  | k + 1 => by
    show (zw (aT1 c a b k M) 364 (k + 1) _).1 363 0 = _
    rw [zw_ne (by omega)]
    exact aT1_0 c a b M k
theorem aT2_at (n md c a b : Nat) (M : zM) (j : Nat) (hj : j < n - 1) : ∀ k, (aT2 n md c a b k M).1 364 (j + 1) = nI (aTv c a b j)
  | 0 => aT1_at c a b M j (n - 1) hj
  | k + 1 => by
    show (zw (aT2 n md c a b k M) 363 (k + 1) _).1 364 (j + 1) = _
    rw [zw_ne (by omega)]
    exact aT2_at n md c a b M j hj k
theorem aT2_o (n md c a b : Nat) (M : zM) (j : Nat) : ∀ k, j ≤ k → (aT2 n md c a b k M).1 363 j = nI (if j = 0 then 1 else aTr n md c a b j)
  | 0, h => by
    obtain rfl : j = 0 := by omega
    exact aT1_0 c a b M (n - 1)
  | k + 1, h => by
    show (zw (aT2 n md c a b k M) 363 (k + 1) _).1 363 j = _
    rw [zw_at]
    by_cases e : j = k + 1
    · rw [if_pos ⟨rfl, e⟩, if_neg (by omega), e]
    · rw [if_neg (fun q => e q.2)]
      exact aT2_o n md c a b M j k (by omega)
theorem aTry_at {n md c a j : Nat} {M : zM} (h : j < n) : (aTry n md c a M).1 363 j = nI (aOd n md c a j) := aT2_o n md c a _ M j (n - 1) (by omega)
/-- only the two rows of ways change -/
abbrev kA (M M' : zM) : Prop := zKf (fun a _ => a = 363 ∨ a = 364) M M'
theorem aTry_k (n md c a : Nat) (M : zM) : kA M (aTry n md c a M) := (((zKf.rf (F := fun a _ => a = 363 ∨ a = 364) (M := M)).w (Or.inl rfl)).tr (zKf.for (n - 1) _ (fun i M _ => zKf.rf.w (Or.inr rfl)))).tr (zKf.for (n - 1) _ (fun i M _ => zKf.rf.w (Or.inl rfl)))
set_option maxHeartbeats 1000000 in
theorem zc_tries (l : Launch) (G : zG) (M : zM) (n md c a : Nat) (hn2 : 2 ≤ n) (hn7 : n ≤ 4) (hmd : md < 3) (hc : c < 4) (ha : a < 1000) : zC l G 2 yX11_tries cX11_tries 10 (Option.none : Option Jvm.ClassFile.FieldType) [.ref (300 : Nat), .int (nI n), .int (nI md), .int (nI c), .int (nI a)] M (zP none (aTry n md c a M)) := by
  refine zC_of (by decide) (Nat.le_of_ble_eq_true rfl) (fun X Q hQ hX hl hR hr => ?_)
  refine zV_loc (L' := [.ref (300 : Nat), .int (nI n), .int (nI md), .int (nI c), .int (nI a), .null, .null, .null, .null, .null]) rfl ?_
  have L59 : ∀ b : Nat, b = aMb n md c → ∀ (f9 k : Nat) (v7 v8 v9 : Value), n - k < f9 → k + 1 ≤ n → zV G X Q 10 0 0 59 [.ref (300 : Nat), .int (nI n), .int (nI md), .int (nI c), .int (nI a), .int (nI b), .int (nI (k + 1)), v7, v8, v9] [] (aT2 n md c a b k M) := by
    intro b hb
    have hb7 : b ≤ 7 := by have := aMb_le n md c; omega
    intro f9
    induction f9 with
    | zero => intro k v7 v8 v9 hk1 hk2; exact absurd hk1 (Nat.not_lt_zero _)
    | succ f9 ih =>
      intro k v7 v8 v9 hk1 hk2
      have J137 : k + 1 < n → ∀ v8 v9 : Value, zV G X Q 10 0 0 137 [.ref (300 : Nat), .int (nI n), .int (nI md), .int (nI c), .int (nI a), .int (nI b), .int (nI (k + 1)), .int (nI (aTs c a b (k + 1) (n - 1))), v8, v9] [] (aT2 n md c a b k M) := by
        intro hkn v8 v9
        have hsl := aTs_le c a b (k + 1) (n - 1)
        refine zV_aload_n hX dX11_tries_137 rfl ?_
        refine zV_geta hX dX11_tries_138 zf_X11_139 zo300.1 rfl ?_
        refine zV_iload hX dX11_tries_141 rfl ?_
        refine zV_iload_n hX dX11_tries_143 rfl ?_
        refine zV_iconst hX (v := nI 1) dX11_tries_144 (by decide) ?_
        refine zV_icmp_neN hX (tgt := 158) dX11_tries_145 (by decide) ⟨by omega, by omega⟩ (fun c_145 => ?_) (fun c_145 => ?_)
        · have e8 : aTr n md c a b (k + 1) = if 2 * aTs c a b (k + 1) (n - 1) ≤ n - 1 then 0 else 1 := if_neg c_145
          refine zV_iconst hX (v := nI 2) dX11_tries_158 (by decide) ?_
          refine zV_iload hX dX11_tries_159 rfl ?_
          refine zV_imulN hX dX11_tries_161 ?_
          refine zV_iload_n hX dX11_tries_162 rfl ?_
          refine zV_iconst hX (v := nI 1) dX11_tries_163 (by decide) ?_
          refine zV_isubN hX dX11_tries_164 (by omega) ?_
          refine zV_icmp_leN hX (tgt := 172) dX11_tries_165 (by decide) ⟨by omega, by omega⟩ (fun c_165 => ?_) (fun c_165 => ?_)
          · rw [if_pos c_165] at e8
            refine zV_iconst hX (v := nI 0) dX11_tries_172 (by decide) ?_
            refine zV_iast hX dX11_tries_173 (zo300.a 62 rfl) (rfl) ⟨by omega, by omega⟩ ?_
            refine zV_iincN hX (b := 1) dX11_tries_174 rfl (by decide) ?_
            dsimp only [zst1, zst2, zclr, zc2]
            refine zV_goto hX (tgt := 59) dX11_tries_177 (by decide) ?_
            refine zV_mem (show _ = aT2 n md c a b (k + 1) M from ?_) (ih (k + 1) _ _ _ (by omega) (by omega))
            show _ = zw (aT2 n md c a b k M) 363 (k + 1) (nI (aTr n md c a b (k + 1)))
            rw [e8]; try rfl
          · rw [if_neg (by omega)] at e8
            refine zV_iconst hX (v := nI 1) dX11_tries_168 (by decide) ?_
            refine zV_goto hX (tgt := 173) dX11_tries_169 (by decide) ?_
            refine zV_iast hX dX11_tries_173 (zo300.a 62 rfl) (rfl) ⟨by omega, by omega⟩ ?_
            refine zV_iincN hX (b := 1) dX11_tries_174 rfl (by decide) ?_
            dsimp only [zst1, zst2, zclr, zc2]
            refine zV_goto hX (tgt := 59) dX11_tries_177 (by decide) ?_
            refine zV_mem (show _ = aT2 n md c a b (k + 1) M from ?_) (ih (k + 1) _ _ _ (by omega) (by omega))
            show _ = zw (aT2 n md c a b k M) 363 (k + 1) (nI (aTr n md c a b (k + 1)))
            rw [e8]; try rfl
        · have e8 : aTr n md c a b (k + 1) = aTv c a b k := if_pos c_145
          refine zV_aload_n hX dX11_tries_148 rfl ?_
          refine zV_geta hX dX11_tries_149 zf_X11_142 zo300.1 rfl ?_
          refine zV_iload hX dX11_tries_152 rfl ?_
          refine zV_iald hX (v := nI (aTv c a b k)) dX11_tries_154 (zo300.a 63 rfl) (rfl) ⟨by omega, by omega⟩ (aT2_at n md c a b M k (by omega) k) ?_
          refine zV_goto hX (tgt := 173) dX11_tries_155 (by decide) ?_
          refine zV_iast hX dX11_tries_173 (zo300.a 62 rfl) (rfl) ⟨by omega, by omega⟩ ?_
          refine zV_iincN hX (b := 1) dX11_tries_174 rfl (by decide) ?_
          dsimp only [zst1, zst2, zclr, zc2]
          refine zV_goto hX (tgt := 59) dX11_tries_177 (by decide) ?_
          refine zV_mem (show _ = aT2 n md c a b (k + 1) M from ?_) (ih (k + 1) _ _ _ (by omega) (by omega))
          show _ = zw (aT2 n md c a b k M) 363 (k + 1) (nI (aTr n md c a b (k + 1)))
          rw [e8]; try rfl
      have L74 : k + 1 < n → ∀ (f9 j : Nat), n - j < f9 → j + 1 ≤ n → zV G X Q 10 0 0 74 [.ref (300 : Nat), .int (nI n), .int (nI md), .int (nI c), .int (nI a), .int (nI b), .int (nI (k + 1)), .int (nI (aTs c a b (k + 1) j)), .int (nI 0), .int (nI (j + 1))] [] (aT2 n md c a b k M) := by
        intro hkn
        intro f9
        induction f9 with
        | zero => intro j hj1 hj2; exact absurd hj1 (Nat.not_lt_zero _)
        | succ f9 ih2 =>
          intro j hj1 hj2
          refine zV_iload hX dX11_tries_74 rfl ?_
          refine zV_iload_n hX dX11_tries_76 rfl ?_
          refine zV_icmp_geN hX (tgt := 137) dX11_tries_77 (by decide) ⟨by omega, by omega⟩ (fun c_77 => ?_) (fun c_77 => ?_)
          · exact zV_loc (by rw [show j = n - 1 by omega]) (J137 hkn _ _)
          · refine zV_iload hX dX11_tries_80 rfl ?_
            refine zV_iload hX dX11_tries_82 rfl ?_
            refine zV_iload_n hX dX11_tries_84 rfl ?_
            refine zV_icmp_neN hX (tgt := 121) dX11_tries_85 (by decide) ⟨by omega, by omega⟩ (fun c_85 => ?_) (fun c_85 => ?_)
            · have e8 : aTs1 c a b (k + 1) j = aTv c a b j := if_neg (fun q => c_85 q.1)
              refine zV_aload_n hX dX11_tries_121 rfl ?_
              refine zV_geta hX dX11_tries_122 zf_X11_142 zo300.1 rfl ?_
              refine zV_iload hX dX11_tries_125 rfl ?_
              refine zV_iald hX (v := nI (aTv c a b j)) dX11_tries_127 (zo300.a 63 rfl) (rfl) ⟨by omega, by omega⟩ (aT2_at n md c a b M j (by omega) k) ?_
              refine zV_iaddN hX dX11_tries_128 ?_
              refine zV_istore hX dX11_tries_129 (by decide) ?_
              dsimp only [zst1, zst2, zclr, zc2]
              refine zV_iincN hX (b := 1) dX11_tries_131 rfl (by decide) ?_
              dsimp only [zst1, zst2, zclr, zc2]
              refine zV_goto hX (tgt := 74) dX11_tries_134 (by decide) ?_
              refine zV_loc (L' := [.ref (300 : Nat), .int (nI n), .int (nI md), .int (nI c), .int (nI a), .int (nI b), .int (nI (k + 1)), .int (nI (aTs c a b (k + 1) (j + 1))), .int (nI 0), .int (nI (j + 1 + 1))]) (by show _ = ([_, _, _, _, _, _, _, .int (nI (aTs c a b (k + 1) j + aTs1 c a b (k + 1) j)), _, _] : List Value); rw [e8]) (ih2 (j + 1) (by omega) (by omega))
            · refine zV_iload hX dX11_tries_88 rfl ?_
              refine zV_iload_n hX dX11_tries_90 rfl ?_
              refine zV_icmp_eqN hX (tgt := 121) dX11_tries_91 (by decide) ⟨by omega, by omega⟩ (fun c_91 => ?_) (fun c_91 => ?_)
              · have e8 : aTs1 c a b (k + 1) j = aTv c a b j := if_neg (fun q => q.2 c_91)
                refine zV_aload_n hX dX11_tries_121 rfl ?_
                refine zV_geta hX dX11_tries_122 zf_X11_142 zo300.1 rfl ?_
                refine zV_iload hX dX11_tries_125 rfl ?_
                refine zV_iald hX (v := nI (aTv c a b j)) dX11_tries_127 (zo300.a 63 rfl) (rfl) ⟨by omega, by omega⟩ (aT2_at n md c a b M j (by omega) k) ?_
                refine zV_iaddN hX dX11_tries_128 ?_
                refine zV_istore hX dX11_tries_129 (by decide) ?_
                dsimp only [zst1, zst2, zclr, zc2]
                refine zV_iincN hX (b := 1) dX11_tries_131 rfl (by decide) ?_
                dsimp only [zst1, zst2, zclr, zc2]
                refine zV_goto hX (tgt := 74) dX11_tries_134 (by decide) ?_
                refine zV_loc (L' := [.ref (300 : Nat), .int (nI n), .int (nI md), .int (nI c), .int (nI a), .int (nI b), .int (nI (k + 1)), .int (nI (aTs c a b (k + 1) (j + 1))), .int (nI 0), .int (nI (j + 1 + 1))]) (by show _ = ([_, _, _, _, _, _, _, .int (nI (aTs c a b (k + 1) j + aTs1 c a b (k + 1) j)), _, _] : List Value); rw [e8]) (ih2 (j + 1) (by omega) (by omega))
              · have e8 : aTs1 c a b (k + 1) j = aTl a b (if k + 1 < c then k + 1 - 1 else k + 1 - 2) := if_pos ⟨c_85, c_91⟩
                refine zV_iload hX dX11_tries_94 rfl ?_
                refine zV_iload hX dX11_tries_96 rfl ?_
                refine zV_iload hX dX11_tries_98 rfl ?_
                refine zV_iload_n hX dX11_tries_100 rfl ?_
                refine zV_icmp_geN hX (tgt := 111) dX11_tries_101 (by decide) ⟨by omega, by omega⟩ (fun c_101 => ?_) (fun c_101 => ?_)
                · rw [if_neg (by omega)] at e8
                  refine zV_iload hX dX11_tries_111 rfl ?_
                  refine zV_iconst hX (v := nI 2) dX11_tries_113 (by decide) ?_
                  refine zV_isubN hX dX11_tries_114 (by omega) ?_
                  refine zV_cS3p hX hR hl dX11_tries_115 (zc_mtoldBy l G _ a b _ ha hb7 (by omega)) zt_X11_toldBy rfl zml_X11_520 (by decide) (Nat.le_of_ble_eq_true rfl) ?_
                  dsimp only [Option.toList, List.cons_append, List.nil_append]
                  refine zV_goto hX (tgt := 128) dX11_tries_118 (by decide) ?_
                  refine zV_iaddN hX dX11_tries_128 ?_
                  refine zV_istore hX dX11_tries_129 (by decide) ?_
                  dsimp only [zst1, zst2, zclr, zc2]
                  refine zV_iincN hX (b := 1) dX11_tries_131 rfl (by decide) ?_
                  dsimp only [zst1, zst2, zclr, zc2]
                  refine zV_goto hX (tgt := 74) dX11_tries_134 (by decide) ?_
                  refine zV_loc (L' := [.ref (300 : Nat), .int (nI n), .int (nI md), .int (nI c), .int (nI a), .int (nI b), .int (nI (k + 1)), .int (nI (aTs c a b (k + 1) (j + 1))), .int (nI 0), .int (nI (j + 1 + 1))]) (by show _ = ([_, _, _, _, _, _, _, .int (nI (aTs c a b (k + 1) j + aTs1 c a b (k + 1) j)), _, _] : List Value); rw [e8]) (ih2 (j + 1) (by omega) (by omega))
                · rw [if_pos c_101] at e8
                  refine zV_iload hX dX11_tries_104 rfl ?_
                  refine zV_iconst hX (v := nI 1) dX11_tries_106 (by decide) ?_
                  refine zV_isubN hX dX11_tries_107 (by omega) ?_
                  refine zV_goto hX (tgt := 115) dX11_tries_108 (by decide) ?_
                  refine zV_cS3p hX hR hl dX11_tries_115 (zc_mtoldBy l G _ a b _ ha hb7 (by omega)) zt_X11_toldBy rfl zml_X11_520 (by decide) (Nat.le_of_ble_eq_true rfl) ?_
                  dsimp only [Option.toList, List.cons_append, List.nil_append]
                  refine zV_goto hX (tgt := 128) dX11_tries_118 (by decide) ?_
                  refine zV_iaddN hX dX11_tries_128 ?_
                  refine zV_istore hX dX11_tries_129 (by decide) ?_
                  dsimp only [zst1, zst2, zclr, zc2]
                  refine zV_iincN hX (b := 1) dX11_tries_131 rfl (by decide) ?_
                  dsimp only [zst1, zst2, zclr, zc2]
                  refine zV_goto hX (tgt := 74) dX11_tries_134 (by decide) ?_
                  refine zV_loc (L' := [.ref (300 : Nat), .int (nI n), .int (nI md), .int (nI c), .int (nI a), .int (nI b), .int (nI (k + 1)), .int (nI (aTs c a b (k + 1) (j + 1))), .int (nI 0), .int (nI (j + 1 + 1))]) (by show _ = ([_, _, _, _, _, _, _, .int (nI (aTs c a b (k + 1) j + aTs1 c a b (k + 1) j)), _, _] : List Value); rw [e8]) (ih2 (j + 1) (by omega) (by omega))
      refine zV_iload hX dX11_tries_59 rfl ?_
      refine zV_iload_n hX dX11_tries_61 rfl ?_
      refine zV_icmp_geN hX (tgt := 180) dX11_tries_62 (by decide) ⟨by omega, by omega⟩ (fun c_62 => ?_) (fun c_62 => ?_)
      · exact zV_retv hX hQ hr (⟨rfl, by rw [hb, show k = n - 1 by omega]; rfl⟩) dX11_tries_180
      · refine zV_iconst hX (v := nI 0) dX11_tries_65 (by decide) ?_
        refine zV_istore hX dX11_tries_66 (by decide) ?_
        dsimp only [zst1, zst2, zclr, zc2]
        refine zV_iconst hX (v := nI 0) dX11_tries_68 (by decide) ?_
        refine zV_istore hX dX11_tries_69 (by decide) ?_
        dsimp only [zst1, zst2, zclr, zc2]
        refine zV_iconst hX (v := nI 1) dX11_tries_71 (by decide) ?_
        refine zV_istore hX dX11_tries_72 (by decide) ?_
        dsimp only [zst1, zst2, zclr, zc2]
        exact L74 (by omega) (n + 1) 0 (by omega) (by omega)
  have J56 : ∀ b : Nat, b = aMb n md c → ∀ v6 v7 v8 v9 : Value, zV G X Q 10 0 0 56 [.ref (300 : Nat), .int (nI n), .int (nI md), .int (nI c), .int (nI a), .int (nI b), v6, v7, v8, v9] [] (aT1 c a b (n - 1) M) := by
    intro b hb v6 v7 v8 v9
    refine zV_iconst hX (v := nI 1) dX11_tries_56 (by decide) ?_
    refine zV_istore hX dX11_tries_57 (by decide) ?_
    dsimp only [zst1, zst2, zclr, zc2]
    exact L59 b hb (n + 1) 0 _ _ _ (by omega) (by omega)
  have L18 : ∀ b : Nat, b = aMb n md c → ∀ (f9 k : Nat) (v7 v8 v9 : Value), n - k < f9 → k + 1 ≤ n → zV G X Q 10 0 0 18 [.ref (300 : Nat), .int (nI n), .int (nI md), .int (nI c), .int (nI a), .int (nI b), .int (nI (k + 1)), v7, v8, v9] [] (aT1 c a b k M) := by
    intro b hb
    have hb7 : b ≤ 7 := by have := aMb_le n md c; omega
    intro f9
    induction f9 with
    | zero => intro k v7 v8 v9 hk1 hk2; exact absurd hk1 (Nat.not_lt_zero _)
    | succ f9 ih =>
      intro k v7 v8 v9 hk1 hk2
      refine zV_iload hX dX11_tries_18 rfl ?_
      refine zV_iload_n hX dX11_tries_20 rfl ?_
      refine zV_icmp_geN hX (tgt := 56) dX11_tries_21 (by decide) ⟨by omega, by omega⟩ (fun c_21 => ?_) (fun c_21 => ?_)
      · exact zV_mem (show aT1 c a b k M = aT1 c a b (n - 1) M by rw [show k = n - 1 by omega]) (J56 b hb _ _ _ _)
      · refine zV_aload_n hX dX11_tries_24 rfl ?_
        refine zV_geta hX dX11_tries_25 zf_X11_142 zo300.1 rfl ?_
        refine zV_iload hX dX11_tries_28 rfl ?_
        refine zV_iload_n hX dX11_tries_30 rfl ?_
        refine zV_if_neN hX (tgt := 48) dX11_tries_31 (by decide) (by omega) (fun c_31 => ?_) (fun c_31 => ?_)
        · have e8 : aTv c a b k = 1 := by rw [aTv, if_neg (by omega)]
          refine zV_iconst hX (v := nI 1) dX11_tries_48 (by decide) ?_
          refine zV_iast hX dX11_tries_49 (zo300.a 63 rfl) (rfl) ⟨by omega, by omega⟩ ?_
          refine zV_iincN hX (b := 1) dX11_tries_50 rfl (by decide) ?_
          dsimp only [zst1, zst2, zclr, zc2]
          refine zV_goto hX (tgt := 18) dX11_tries_53 (by decide) ?_
          refine zV_mem (show _ = aT1 c a b (k + 1) M from ?_) (ih (k + 1) _ _ _ (by omega) (by omega))
          show _ = zw (aT1 c a b k M) 364 (k + 1) (nI (aTv c a b k))
          rw [e8]; try rfl
        · have e8 : aTv c a b k = aTl a b k := by rw [aTv, if_pos c_31]
          refine zV_iload hX dX11_tries_34 rfl ?_
          refine zV_iload hX dX11_tries_36 rfl ?_
          refine zV_iload hX dX11_tries_38 rfl ?_
          refine zV_iconst hX (v := nI 1) dX11_tries_40 (by decide) ?_
          refine zV_isubN hX dX11_tries_41 (by omega) ?_
          refine zV_cS3p hX hR hl dX11_tries_42 (zc_mtoldBy l G _ a b (k + 1 - 1) ha hb7 (by omega)) zt_X11_toldBy rfl zml_X11_520 (by decide) (Nat.le_of_ble_eq_true rfl) ?_
          dsimp only [Option.toList, List.cons_append, List.nil_append]
          refine zV_goto hX (tgt := 49) dX11_tries_45 (by decide) ?_
          refine zV_iast hX dX11_tries_49 (zo300.a 63 rfl) (rfl) ⟨by omega, by omega⟩ ?_
          refine zV_iincN hX (b := 1) dX11_tries_50 rfl (by decide) ?_
          dsimp only [zst1, zst2, zclr, zc2]
          refine zV_goto hX (tgt := 18) dX11_tries_53 (by decide) ?_
          refine zV_mem (show _ = aT1 c a b (k + 1) M from ?_) (ih (k + 1) _ _ _ (by omega) (by omega))
          show _ = zw (aT1 c a b k M) 364 (k + 1) (nI (aTv c a b k))
          rw [e8]; try rfl
  refine zV_iload_n hX dX11_tries_0 rfl ?_
  refine zV_iload_n hX dX11_tries_1 rfl ?_
  refine zV_iload_n hX dX11_tries_2 rfl ?_
  refine zV_cS3p hX hR hl dX11_tries_3 (zc_mmsgBy l G M n md c hn2 (by omega) hmd hc) zt_X11_messagesBy rfl zml_X11_517 (by decide) (Nat.le_of_ble_eq_true rfl) ?_
  dsimp only [Option.toList, List.cons_append, List.nil_append]
  obtain ⟨b, hb⟩ : ∃ b, b = aMb n md c := ⟨_, rfl⟩
  have hb7 : b ≤ 7 := by have := aMb_le n md c; omega
  rw [← hb]
  refine zV_mem (M' := M) rfl ?_
  refine zV_istore hX dX11_tries_6 (by decide) ?_
  dsimp only [zst1, zst2, zclr, zc2]
  refine zV_aload_n hX dX11_tries_8 rfl ?_
  refine zV_geta hX dX11_tries_9 zf_X11_139 zo300.1 rfl ?_
  refine zV_iconst hX (v := nI 0) dX11_tries_12 (by decide) ?_
  refine zV_iconst hX (v := nI 1) dX11_tries_13 (by decide) ?_
  refine zV_iast hX dX11_tries_14 (zo300.a 62 rfl) (rfl) ⟨by decide, by omega⟩ ?_
  refine zV_iconst hX (v := nI 1) dX11_tries_15 (by decide) ?_
  refine zV_istore hX dX11_tries_16 (by decide) ?_
  dsimp only [zst1, zst2, zclr, zc2]
  exact zV_mem rfl (L18 b hb (n + 1) 0 _ _ _ (by omega) (by omega))
def aBkI (f : Nat → Nat) (c i k : Nat) : Bool := zall (fun j => decide (j = 0) || decide (j = c) || decide (f j = f i)) k
def aBk1 (f : Nat → Nat) (c i : Nat) : Bool := decide (i = 0) || decide (i = c) || ((decide (c = 0) || decide (f i = 1)) && aBkI f c i i)
def aBk (f : Nat → Nat) (n c : Nat) : Bool := !zall (aBk1 f c) n
theorem zb_or (a b : Bool) : zb a ||| zb b = zb (a || b) := by cases a <;> cases b <;> decide
set_option maxHeartbeats 1000000 in
theorem zc_misBroken (l : Launch) (G : zG) (M : zM) (n c : Nat) (f : Nat → Nat) (hn2 : 2 ≤ n) (hn7 : n ≤ 4) (hc : c < 4) (hf : ∀ i, i < n → M.1 363 i = nI (f i)) (hf1 : ∀ i, f i ≤ 1) : zC l G 0 yX11_isBroken cX11_isBroken 5 (Option.some Jvm.ClassFile.FieldType.boolean) [.ref (300 : Nat), .int (nI n), .int (nI c)] M (zP (some (.int (zb (aBk f n c)))) M) := by
  refine zC_of (by decide) (Nat.le_of_ble_eq_true rfl) (fun X Q hQ hX hl hR hr => ?_)
  refine zV_loc (L' := [.ref (300 : Nat), .int (nI n), .int (nI c), .null, .null]) rfl ?_
  have L2 : ∀ (f9 i : Nat) (v4 : Value), n - i < f9 → i + 1 ≤ n → zall (aBk1 f c) (i + 1) = true → zV G X Q 5 0 0 2 [.ref (300 : Nat), .int (nI n), .int (nI c), .int (nI (i + 1)), v4] [] M := by
    intro f9
    induction f9 with
    | zero => intro i v4 hi1 hi2 hi3; exact absurd hi1 (Nat.not_lt_zero _)
    | succ f9 ih =>
      intro i v4 hi1 hi2 hi3
      have L34 : i + 1 < n → i + 1 ≠ c → (decide (c = 0) || decide (f (i + 1) = 1)) = true → ∀ (f9 j : Nat), n - j < f9 → j ≤ i → aBkI f c (i + 1) (j + 1) = true → zV G X Q 5 0 0 34 [.ref (300 : Nat), .int (nI n), .int (nI c), .int (nI (i + 1)), .int (nI (j + 1))] [] M := by
        intro hin c_9 e8
        intro f9
        induction f9 with
        | zero => intro j hj1 hj2 hj3; exact absurd hj1 (Nat.not_lt_zero _)
        | succ f9 ih2 =>
          intro j hj1 hj2 hj3
          refine zV_iload hX dX11_isBroken_34 rfl ?_
          refine zV_iload_n hX dX11_isBroken_36 rfl ?_
          refine zV_icmp_geN hX (tgt := 70) dX11_isBroken_37 (by decide) ⟨by omega, by omega⟩ (fun c_37 => ?_) (fun c_37 => ?_)
          · have e9 : zall (aBk1 f c) (i + 2) = true := by show (zall (aBk1 f c) (i + 1) && aBk1 f c (i + 1)) = true; rw [hi3, aBk1, e8]; obtain rfl : i = j := (by omega); rw [hj3]; simp
            refine zV_iincN hX (b := 1) dX11_isBroken_70 rfl (by decide) ?_
            dsimp only [zst1, zst2, zclr, zc2]
            refine zV_goto hX (tgt := 2) dX11_isBroken_73 (by decide) ?_
            exact ih (i + 1) _ (by omega) (by omega) e9
          · refine zV_iload hX dX11_isBroken_40 rfl ?_
            refine zV_iload_n hX dX11_isBroken_42 rfl ?_
            refine zV_icmp_eqN hX (tgt := 64) dX11_isBroken_43 (by decide) ⟨by omega, by omega⟩ (fun c_43 => ?_) (fun c_43 => ?_)
            · have e7 : aBkI f c (i + 1) (j + 2) = true := by show (aBkI f c (i + 1) (j + 1) && _) = true; rw [hj3]; simp [c_43]
              refine zV_iincN hX (b := 1) dX11_isBroken_64 rfl (by decide) ?_
              dsimp only [zst1, zst2, zclr, zc2]
              refine zV_goto hX (tgt := 34) dX11_isBroken_67 (by decide) ?_
              exact ih2 (j + 1) (by omega) (by omega) e7
            · refine zV_aload_n hX dX11_isBroken_46 rfl ?_
              refine zV_geta hX dX11_isBroken_47 zf_X11_139 zo300.1 rfl ?_
              refine zV_iload hX dX11_isBroken_50 rfl ?_
              refine zV_iald hX (v := nI (f (j + 1))) dX11_isBroken_52 (zo300.a 62 rfl) (rfl) ⟨by omega, by omega⟩ (hf (j + 1) (by omega)) ?_
              refine zV_aload_n hX dX11_isBroken_53 rfl ?_
              refine zV_geta hX dX11_isBroken_54 zf_X11_139 zo300.1 rfl ?_
              refine zV_iload_n hX dX11_isBroken_57 rfl ?_
              refine zV_iald hX (v := nI (f (i + 1))) dX11_isBroken_58 (zo300.a 62 rfl) (rfl) ⟨by omega, by omega⟩ (hf (i + 1) (by omega)) ?_
              refine zV_icmp_eqN hX (tgt := 64) dX11_isBroken_59 (by decide) ⟨by have := hf1 (j + 1); omega, by have := hf1 (i + 1); omega⟩ (fun c_59 => ?_) (fun c_59 => ?_)
              · have e7 : aBkI f c (i + 1) (j + 2) = true := by show (aBkI f c (i + 1) (j + 1) && _) = true; rw [hj3]; simp [c_59]
                refine zV_iincN hX (b := 1) dX11_isBroken_64 rfl (by decide) ?_
                dsimp only [zst1, zst2, zclr, zc2]
                refine zV_goto hX (tgt := 34) dX11_isBroken_67 (by decide) ?_
                exact ih2 (j + 1) (by omega) (by omega) e7
              · refine zV_iconst hX (v := nI 1) dX11_isBroken_62 (by decide) ?_
                exact zV_retz hX hQ hr (rfl) (⟨by rw [aBk, zall_false (k := i + 1) (by omega) (by rw [aBk1, show aBkI f c (i + 1) (i + 1) = false from zall_false (k := j + 1) (by omega) (by simp [c_43, c_59])]; simp [c_9])]; rfl, rfl⟩) dX11_isBroken_63
      refine zV_iload_n hX dX11_isBroken_2 rfl ?_
      refine zV_iload_n hX dX11_isBroken_3 rfl ?_
      refine zV_icmp_geN hX (tgt := 76) dX11_isBroken_4 (by decide) ⟨by omega, by omega⟩ (fun c_4 => ?_) (fun c_4 => ?_)
      · have hin : i + 1 = n := by omega
        refine zV_iconst hX (v := nI 0) dX11_isBroken_76 (by decide) ?_
        exact zV_retz hX hQ hr (rfl) (⟨by rw [aBk, ← hin, hi3]; rfl, rfl⟩) dX11_isBroken_77
      · refine zV_iload_n hX dX11_isBroken_7 rfl ?_
        refine zV_iload_n hX dX11_isBroken_8 rfl ?_
        refine zV_icmp_neN hX (tgt := 15) dX11_isBroken_9 (by decide) ⟨by omega, by omega⟩ (fun c_9 => ?_) (fun c_9 => ?_)
        · refine zV_iload_n hX dX11_isBroken_15 rfl ?_
          refine zV_if_eqN hX (tgt := 31) dX11_isBroken_16 (by decide) (by omega) (fun c_16 => ?_) (fun c_16 => ?_)
          · refine zV_iconst hX (v := nI 1) dX11_isBroken_31 (by decide) ?_
            refine zV_istore hX dX11_isBroken_32 (by decide) ?_
            dsimp only [zst1, zst2, zclr, zc2]
            exact L34 (by omega) c_9 (by first | (rw [decide_eq_true c_16]; rfl) | (rw [decide_eq_true c_26]; simp)) (n + 1) 0 (by omega) (by omega) rfl
          · refine zV_aload_n hX dX11_isBroken_19 rfl ?_
            refine zV_geta hX dX11_isBroken_20 zf_X11_139 zo300.1 rfl ?_
            refine zV_iload_n hX dX11_isBroken_23 rfl ?_
            refine zV_iald hX (v := nI (f (i + 1))) dX11_isBroken_24 (zo300.a 62 rfl) (rfl) ⟨by omega, by omega⟩ (hf (i + 1) (by omega)) ?_
            refine zV_iconst hX (v := nI 1) dX11_isBroken_25 (by decide) ?_
            refine zV_icmp_eqN hX (tgt := 31) dX11_isBroken_26 (by decide) ⟨by have := hf1 (i + 1); omega, by omega⟩ (fun c_26 => ?_) (fun c_26 => ?_)
            · refine zV_iconst hX (v := nI 1) dX11_isBroken_31 (by decide) ?_
              refine zV_istore hX dX11_isBroken_32 (by decide) ?_
              dsimp only [zst1, zst2, zclr, zc2]
              exact L34 (by omega) c_9 (by first | (rw [decide_eq_true c_16]; rfl) | (rw [decide_eq_true c_26]; simp)) (n + 1) 0 (by omega) (by omega) rfl
            · refine zV_iconst hX (v := nI 1) dX11_isBroken_29 (by decide) ?_
              exact zV_retz hX hQ hr (rfl) (⟨by rw [aBk, zall_false (k := i + 1) (by omega) (by simp [aBk1, c_9, c_26]; omega)]; rfl, rfl⟩) dX11_isBroken_30
        · have e9 : zall (aBk1 f c) (i + 2) = true := by show (zall (aBk1 f c) (i + 1) && aBk1 f c (i + 1)) = true; rw [hi3, show aBk1 f c (i + 1) = true by simp [aBk1, c_9]]; rfl
          refine zV_goto hX (tgt := 70) dX11_isBroken_12 (by decide) ?_
          refine zV_iincN hX (b := 1) dX11_isBroken_70 rfl (by decide) ?_
          dsimp only [zst1, zst2, zclr, zc2]
          refine zV_goto hX (tgt := 2) dX11_isBroken_73 (by decide) ?_
          exact ih (i + 1) _ (by omega) (by omega) e9
  refine zV_iconst hX (v := nI 1) dX11_isBroken_0 (by decide) ?_
  refine zV_istore_n hX dX11_isBroken_1 (by decide) ?_
  dsimp only [zst1, zst2, zclr, zc2]
  exact L2 (n + 1) 0 _ (by omega) (by omega) rfl
def aKd (f : Nat → Nat) (v c : Nat) : Nat → Bool
  | 0 => false
  | i + 1 => aKd f v c i || (decide (i ≠ c) && decide (f i = v))
def aKds (f : Nat → Nat) (n c : Nat) : Nat := (if aKd f 0 c n then 1 else 0) + (if aKd f 1 c n then 1 else 0)
set_option maxHeartbeats 1000000 in
theorem zc_kinds (l : Launch) (G : zG) (M : zM) (n c : Nat) (f : Nat → Nat) (hn2 : 2 ≤ n) (hn7 : n ≤ 4) (hc : c < 4) (hf : ∀ i, i < n → M.1 363 i = nI (f i)) (hf1 : ∀ i, f i ≤ 1) : zC l G 0 yX11_kinds cX11_kinds 6 (Option.some Jvm.ClassFile.FieldType.int) [.ref (300 : Nat), .int (nI n), .int (nI c)] M (zP (some (.int (nI (aKds f n c)))) M) := by
  refine zC_of (by decide) (Nat.le_of_ble_eq_true rfl) (fun X Q hQ hX hl hR hr => ?_)
  refine zV_loc (L' := [.ref (300 : Nat), .int (nI n), .int (nI c), .null, .null, .null]) rfl ?_
  have L8 : ∀ (f9 i : Nat), n - i < f9 → i ≤ n → zV G X Q 6 0 0 8 [.ref (300 : Nat), .int (nI n), .int (nI c), .int (zb (aKd f 0 c i)), .int (zb (aKd f 1 c i)), .int (nI i)] [] M := by
    intro f9
    induction f9 with
    | zero => intro i hi1 hi2; exact absurd hi1 (Nat.not_lt_zero _)
    | succ f9 ih =>
      intro i hi1 hi2
      have J38 : i < n → zV G X Q 6 0 0 38 [.ref (300 : Nat), .int (nI n), .int (nI c), .int (zb (aKd f 0 c (i + 1))), .int (zb (aKd f 1 c i)), .int (nI i)] [] M := by
        intro hin
        refine zV_iload hX dX11_kinds_38 rfl ?_
        refine zV_iload hX dX11_kinds_40 rfl ?_
        refine zV_iload_n hX dX11_kinds_42 rfl ?_
        refine zV_icmp_eqN hX (tgt := 61) dX11_kinds_43 (by decide) ⟨by omega, by omega⟩ (fun c_43 => ?_) (fun c_43 => ?_)
        · refine zV_iconst hX (v := nI 0) dX11_kinds_61 (by decide) ?_
          refine zV_topi (zb (decide (i ≠ c) && decide (f i = 1))) (by first | (simp [c_43]; rfl) | (rw [show decide (f i = 1) = false from decide_eq_false (by omega), Bool.and_false]; rfl)) ?_
          refine zV_ior hX dX11_kinds_62 ?_
          refine zV_topi (zb (aKd f 1 c (i + 1))) (zb_or _ _) ?_
          refine zV_istore hX dX11_kinds_63 (by decide) ?_
          dsimp only [zst1, zst2, zclr, zc2]
          refine zV_iincN hX (b := 1) dX11_kinds_65 rfl (by decide) ?_
          dsimp only [zst1, zst2, zclr, zc2]
          refine zV_goto hX (tgt := 8) dX11_kinds_68 (by decide) ?_
          exact ih (i + 1) (by omega) (by omega)
        · refine zV_aload_n hX dX11_kinds_46 rfl ?_
          refine zV_geta hX dX11_kinds_47 zf_X11_139 zo300.1 rfl ?_
          refine zV_iload hX dX11_kinds_50 rfl ?_
          refine zV_iald hX (v := nI (f i)) dX11_kinds_52 (zo300.a 62 rfl) (rfl) ⟨by omega, by omega⟩ (hf i (by omega)) ?_
          refine zV_iconst hX (v := nI 1) dX11_kinds_53 (by decide) ?_
          refine zV_icmp_neN hX (tgt := 61) dX11_kinds_54 (by decide) ⟨by have := hf1 i; omega, by omega⟩ (fun c_54 => ?_) (fun c_54 => ?_)
          · refine zV_iconst hX (v := nI 0) dX11_kinds_61 (by decide) ?_
            refine zV_topi (zb (decide (i ≠ c) && decide (f i = 1))) (by first | (simp [c_43, c_54]; rfl) | (rw [show decide (f i = 1) = false from decide_eq_false (by omega), Bool.and_false]; rfl)) ?_
            refine zV_ior hX dX11_kinds_62 ?_
            refine zV_topi (zb (aKd f 1 c (i + 1))) (zb_or _ _) ?_
            refine zV_istore hX dX11_kinds_63 (by decide) ?_
            dsimp only [zst1, zst2, zclr, zc2]
            refine zV_iincN hX (b := 1) dX11_kinds_65 rfl (by decide) ?_
            dsimp only [zst1, zst2, zclr, zc2]
            refine zV_goto hX (tgt := 8) dX11_kinds_68 (by decide) ?_
            exact ih (i + 1) (by omega) (by omega)
          · refine zV_iconst hX (v := nI 1) dX11_kinds_57 (by decide) ?_
            refine zV_goto hX (tgt := 62) dX11_kinds_58 (by decide) ?_
            refine zV_topi (zb (decide (i ≠ c) && decide (f i = 1))) (by first | (simp [c_43, c_54]; rfl) | (rw [show decide (f i = 1) = false from decide_eq_false (by omega), Bool.and_false]; rfl)) ?_
            refine zV_ior hX dX11_kinds_62 ?_
            refine zV_topi (zb (aKd f 1 c (i + 1))) (zb_or _ _) ?_
            refine zV_istore hX dX11_kinds_63 (by decide) ?_
            dsimp only [zst1, zst2, zclr, zc2]
            refine zV_iincN hX (b := 1) dX11_kinds_65 rfl (by decide) ?_
            dsimp only [zst1, zst2, zclr, zc2]
            refine zV_goto hX (tgt := 8) dX11_kinds_68 (by decide) ?_
            exact ih (i + 1) (by omega) (by omega)
      refine zV_iload hX dX11_kinds_8 rfl ?_
      refine zV_iload_n hX dX11_kinds_10 rfl ?_
      refine zV_icmp_geN hX (tgt := 71) dX11_kinds_11 (by decide) ⟨by omega, by omega⟩ (fun c_11 => ?_) (fun c_11 => ?_)
      · refine zV_iload_n hX dX11_kinds_71 rfl ?_
        refine zV_if_eqB hX (tgt := 79) dX11_kinds_72 (by decide) (fun c_72 => ?_) (fun c_72 => ?_)
        · refine zV_iconst hX (v := nI 0) dX11_kinds_79 (by decide) ?_
          refine zV_iload hX dX11_kinds_80 rfl ?_
          refine zV_if_eqB hX (tgt := 89) dX11_kinds_82 (by decide) (fun c_82 => ?_) (fun c_82 => ?_)
          · refine zV_iconst hX (v := nI 0) dX11_kinds_89 (by decide) ?_
            refine zV_iaddN hX dX11_kinds_90 ?_
            exact zV_reti hX hQ hr (⟨by rw [aKds, show n = i by omega]; simp [c_72, c_82], rfl⟩) dX11_kinds_91
          · refine zV_iconst hX (v := nI 1) dX11_kinds_85 (by decide) ?_
            refine zV_goto hX (tgt := 90) dX11_kinds_86 (by decide) ?_
            refine zV_iaddN hX dX11_kinds_90 ?_
            exact zV_reti hX hQ hr (⟨by rw [aKds, show n = i by omega]; simp [c_72, c_82], rfl⟩) dX11_kinds_91
        · refine zV_iconst hX (v := nI 1) dX11_kinds_75 (by decide) ?_
          refine zV_goto hX (tgt := 80) dX11_kinds_76 (by decide) ?_
          refine zV_iload hX dX11_kinds_80 rfl ?_
          refine zV_if_eqB hX (tgt := 89) dX11_kinds_82 (by decide) (fun c_82 => ?_) (fun c_82 => ?_)
          · refine zV_iconst hX (v := nI 0) dX11_kinds_89 (by decide) ?_
            refine zV_iaddN hX dX11_kinds_90 ?_
            exact zV_reti hX hQ hr (⟨by rw [aKds, show n = i by omega]; simp [c_72, c_82], rfl⟩) dX11_kinds_91
          · refine zV_iconst hX (v := nI 1) dX11_kinds_85 (by decide) ?_
            refine zV_goto hX (tgt := 90) dX11_kinds_86 (by decide) ?_
            refine zV_iaddN hX dX11_kinds_90 ?_
            exact zV_reti hX hQ hr (⟨by rw [aKds, show n = i by omega]; simp [c_72, c_82], rfl⟩) dX11_kinds_91
      · refine zV_iload_n hX dX11_kinds_14 rfl ?_
        refine zV_iload hX dX11_kinds_15 rfl ?_
        refine zV_iload_n hX dX11_kinds_17 rfl ?_
        refine zV_icmp_eqN hX (tgt := 35) dX11_kinds_18 (by decide) ⟨by omega, by omega⟩ (fun c_18 => ?_) (fun c_18 => ?_)
        · refine zV_iconst hX (v := nI 0) dX11_kinds_35 (by decide) ?_
          refine zV_topi (zb (decide (i ≠ c) && decide (f i = 0))) (by first | (simp [c_11, c_18]; rfl) | (rw [show decide (f i = 0) = false from decide_eq_false (by omega), Bool.and_false]; rfl)) ?_
          refine zV_ior hX dX11_kinds_36 ?_
          refine zV_topi (zb (aKd f 0 c (i + 1))) (zb_or _ _) ?_
          refine zV_istore_n hX dX11_kinds_37 (by decide) ?_
          dsimp only [zst1, zst2, zclr, zc2]
          exact J38 (by omega)
        · refine zV_aload_n hX dX11_kinds_21 rfl ?_
          refine zV_geta hX dX11_kinds_22 zf_X11_139 zo300.1 rfl ?_
          refine zV_iload hX dX11_kinds_25 rfl ?_
          refine zV_iald hX (v := nI (f i)) dX11_kinds_27 (zo300.a 62 rfl) (rfl) ⟨by omega, by omega⟩ (hf i (by omega)) ?_
          refine zV_if_neN hX (tgt := 35) dX11_kinds_28 (by decide) (by have := hf1 i; omega) (fun c_28 => ?_) (fun c_28 => ?_)
          · refine zV_iconst hX (v := nI 0) dX11_kinds_35 (by decide) ?_
            refine zV_topi (zb (decide (i ≠ c) && decide (f i = 0))) (by first | (simp [c_11, c_18, c_28]; rfl) | (rw [show decide (f i = 0) = false from decide_eq_false (by omega), Bool.and_false]; rfl)) ?_
            refine zV_ior hX dX11_kinds_36 ?_
            refine zV_topi (zb (aKd f 0 c (i + 1))) (zb_or _ _) ?_
            refine zV_istore_n hX dX11_kinds_37 (by decide) ?_
            dsimp only [zst1, zst2, zclr, zc2]
            exact J38 (by omega)
          · refine zV_iconst hX (v := nI 1) dX11_kinds_31 (by decide) ?_
            refine zV_goto hX (tgt := 36) dX11_kinds_32 (by decide) ?_
            refine zV_topi (zb (decide (i ≠ c) && decide (f i = 0))) (by first | (simp [c_11, c_18, c_28]; rfl) | (rw [show decide (f i = 0) = false from decide_eq_false (by omega), Bool.and_false]; rfl)) ?_
            refine zV_ior hX dX11_kinds_36 ?_
            refine zV_topi (zb (aKd f 0 c (i + 1))) (zb_or _ _) ?_
            refine zV_istore_n hX dX11_kinds_37 (by decide) ?_
            dsimp only [zst1, zst2, zclr, zc2]
            exact J38 (by omega)
  refine zV_iconst hX (v := nI 0) dX11_kinds_0 (by decide) ?_
  refine zV_istore_n hX dX11_kinds_1 (by decide) ?_
  dsimp only [zst1, zst2, zclr, zc2]
  refine zV_iconst hX (v := nI 0) dX11_kinds_2 (by decide) ?_
  refine zV_istore hX dX11_kinds_3 (by decide) ?_
  dsimp only [zst1, zst2, zclr, zc2]
  refine zV_iconst hX (v := nI 0) dX11_kinds_5 (by decide) ?_
  refine zV_istore hX dX11_kinds_6 (by decide) ?_
  dsimp only [zst1, zst2, zclr, zc2]
  exact L8 (n + 1) 0 (by omega) (by omega)
