def zush (x : Int32) (k : Nat) : Int32 := (x.toUInt32 >>> ((nI k).toUInt32 &&& Int32.toUInt32 31)).toInt32
def zpa (x : Int32) : Int32 := x - (zush x 1 &&& nI 1431655765)
def zpb (x : Int32) : Int32 := (x &&& nI 858993459) + (zush x 2 &&& nI 858993459)
def zpc (x : Int32) : Int32 := (x + zush x 4) &&& nI 252645135
def zpd (x : Int32) : Int32 := x + zush x 8
def zpe (x : Int32) : Int32 := x + zush x 16
def zpop (x : Int32) : Int32 := zpe (zpd (zpc (zpb (zpa x)))) &&& nI 63
/-- nothing outside C has changed -/
def zFr (C : Nat → Prop) (M M' : zM) : Prop := (∀ a : Nat, ¬ C a → M'.1 a = M.1 a) ∧ M'.2 = M.2
theorem zFr.rf {C : Nat → Prop} {M : zM} : zFr C M M := ⟨fun _ _ => rfl, rfl⟩
theorem zFr.tr {C : Nat → Prop} {M M1 M2 : zM} (h : zFr C M M1) (h2 : zFr C M1 M2) : zFr C M M2 := ⟨fun a ha => (h2.1 a ha).trans (h.1 a ha), h2.2.trans h.2⟩
theorem zFr.w {C : Nat → Prop} {M M1 : zM} {c k : Nat} {x : Int32} (h : zFr C M M1) (hc : C c) : zFr C M (zw M1 c k x) := ⟨fun a ha => by
  have hne : a ≠ c := fun e => ha (e ▸ hc)
  rw [← h.1 a ha]
  simp [zw, hne], h.2⟩
theorem zFr.mono {C D : Nat → Prop} {M M1 : zM} (h : zFr C M M1) (hCD : ∀ a, C a → D a) : zFr D M M1 := ⟨fun a ha => h.1 a (fun q => ha (hCD a q)), h.2⟩
theorem zFr.for {C : Nat → Prop} {f : Nat → zM → zM} (hf : ∀ i M, zFr C M (f i M)) : ∀ (n : Nat) (M : zM), zFr C M (zfor f n M)
  | 0, M => zFr.rf
  | n + 1, M => (zFr.for hf n M).tr (hf n _)
theorem zFr.at {C : Nat → Prop} {M M1 : zM} (h : zFr C M M1) {a j : Nat} (ha : ¬ C a) : M1.1 a j = M.1 a j := by rw [h.1 a ha]
def oGa (o rows row p : Nat) : Nat → zM → Nat × zM
  | 0, M => (0, M)
  | k + 1, M => if oOn o M p k then oGa o rows row p k M else ((oGa o rows row p k M).1 + 1, zw (oGa o rows row p k M).2 (o + 1 + 19) (oGa o rows row p k M).1 (M.1 rows (row + zlong p k)))
theorem oGa_fr (o rows row p : Nat) (M : zM) : ∀ k, zFr (fun a => a = o + 1 + 19) M (oGa o rows row p k M).2
  | 0 => zFr.rf
  | k + 1 => by
    unfold oGa
    split
    · exact oGa_fr o rows row p M k
    · exact (oGa_fr o rows row p M k).w rfl
theorem oGa_le (o rows row p : Nat) (M : zM) : ∀ k, (oGa o rows row p k M).1 ≤ k
  | 0 => Nat.le_refl 0
  | k + 1 => by
    have := oGa_le o rows row p M k
    unfold oGa
    split
    · omega
    · show _ + 1 ≤ k + 1; omega
theorem oOn_fr {C : Nat → Prop} {o : Nat} {M M1 : zM} (h : zFr C M M1) (ho : ¬ C (o + 1 + 18)) (p m : Nat) : oOn o M1 p m = oOn o M p m := by unfold oOn; rw [h.1 _ ho]
theorem oPath_fr {C : Nat → Prop} {o : Nat} {M M1 : zM} (h : zFr C M M1) (ho : ¬ C (o + 1 + 18)) (p : Nat) : oPath o M1 p = oPath o M p := by unfold oPath; rw [h.1 _ ho]
theorem zlong_lt {p m : Nat} (hp : p < 8) (hm : m < 7) : zlong p m < 57 := by unfold zlong; split <;> omega
theorem zfm_lt (g : Nat → Nat) : ∀ k, (zfm g k).1 ≤ k
  | 0 => Nat.le_refl 0
  | k + 1 => by
    have := zfm_lt g k
    unfold zfm
    split
    · exact Nat.le_succ k
    · omega
theorem zfm_in (g : Nat → Nat) : ∀ k, 0 < k → (zfm g k).1 < k
  | 0, h => absurd h (Nat.lt_irrefl 0)
  | k + 1, _ => by
    unfold zfm
    split
    · exact Nat.lt_succ_self k
    · exact Nat.lt_succ_of_le (zfm_lt g k)
theorem zfm_7 {g : Nat → Nat} {k : Nat} (h : k ≤ 7) : (zfm g k).1 < 7 := by
  rcases Nat.eq_zero_or_pos k with rfl | q
  · exact Nat.zero_lt_succ 6
  · exact Nat.lt_of_lt_of_le (zfm_in g k q) h
set_option maxHeartbeats 1000000 in
theorem zc_bitCount (l : Launch) (G : zG) (M : zM) (x : Int32) : zC l G 0 yJ6_bitCount_0f7a4 cJ6_bitCount_0f7a4 1 (Option.some Jvm.ClassFile.FieldType.int) [.int x] M (zP (some (.int (zpop x))) M) := by
  refine zC_of (by decide) (Nat.le_of_ble_eq_true rfl) (fun X Q hQ hX hl hR hr => ?_)
  refine zV_loc (L' := [.int x]) rfl ?_
  refine zV_iload_n hX dJ6_bitCount_0f7a4_0 rfl ?_
  refine zV_iload_n hX dJ6_bitCount_0f7a4_1 rfl ?_
  refine zV_iconst hX (v := nI 1) dJ6_bitCount_0f7a4_2 (by decide) ?_
  refine zV_iushr hX dJ6_bitCount_0f7a4_3 ?_
  refine zV_ldcw hX dJ6_bitCount_0f7a4_4 zkc_J6_265 ?_
  refine zV_topi (nI 1431655765) (by decide) ?_
  refine zV_iand hX dJ6_bitCount_0f7a4_7 ?_
  refine zV_isub hX dJ6_bitCount_0f7a4_8 ?_
  refine zV_istore_n hX dJ6_bitCount_0f7a4_9 (by decide) ?_
  dsimp only [zst1, zst2, zclr, zc2]
  refine zV_iload_n hX dJ6_bitCount_0f7a4_10 rfl ?_
  refine zV_ldcw hX dJ6_bitCount_0f7a4_11 zkc_J6_266 ?_
  refine zV_topi (nI 858993459) (by decide) ?_
  refine zV_iand hX dJ6_bitCount_0f7a4_14 ?_
  refine zV_iload_n hX dJ6_bitCount_0f7a4_15 rfl ?_
  refine zV_iconst hX (v := nI 2) dJ6_bitCount_0f7a4_16 (by decide) ?_
  refine zV_iushr hX dJ6_bitCount_0f7a4_17 ?_
  refine zV_ldcw hX dJ6_bitCount_0f7a4_18 zkc_J6_266 ?_
  refine zV_topi (nI 858993459) (by decide) ?_
  refine zV_iand hX dJ6_bitCount_0f7a4_21 ?_
  refine zV_iadd hX dJ6_bitCount_0f7a4_22 ?_
  refine zV_istore_n hX dJ6_bitCount_0f7a4_23 (by decide) ?_
  dsimp only [zst1, zst2, zclr, zc2]
  refine zV_iload_n hX dJ6_bitCount_0f7a4_24 rfl ?_
  refine zV_iload_n hX dJ6_bitCount_0f7a4_25 rfl ?_
  refine zV_iconst hX (v := nI 4) dJ6_bitCount_0f7a4_26 (by decide) ?_
  refine zV_iushr hX dJ6_bitCount_0f7a4_27 ?_
  refine zV_iadd hX dJ6_bitCount_0f7a4_28 ?_
  refine zV_ldcw hX dJ6_bitCount_0f7a4_29 zkc_J6_267 ?_
  refine zV_topi (nI 252645135) (by decide) ?_
  refine zV_iand hX dJ6_bitCount_0f7a4_32 ?_
  refine zV_istore_n hX dJ6_bitCount_0f7a4_33 (by decide) ?_
  dsimp only [zst1, zst2, zclr, zc2]
  refine zV_iload_n hX dJ6_bitCount_0f7a4_34 rfl ?_
  refine zV_iload_n hX dJ6_bitCount_0f7a4_35 rfl ?_
  refine zV_bipush hX (v := nI 8) dJ6_bitCount_0f7a4_36 (by decide) ?_
  refine zV_iushr hX dJ6_bitCount_0f7a4_38 ?_
  refine zV_iadd hX dJ6_bitCount_0f7a4_39 ?_
  refine zV_istore_n hX dJ6_bitCount_0f7a4_40 (by decide) ?_
  dsimp only [zst1, zst2, zclr, zc2]
  refine zV_iload_n hX dJ6_bitCount_0f7a4_41 rfl ?_
  refine zV_iload_n hX dJ6_bitCount_0f7a4_42 rfl ?_
  refine zV_bipush hX (v := nI 16) dJ6_bitCount_0f7a4_43 (by decide) ?_
  refine zV_iushr hX dJ6_bitCount_0f7a4_45 ?_
  refine zV_iadd hX dJ6_bitCount_0f7a4_46 ?_
  refine zV_istore_n hX dJ6_bitCount_0f7a4_47 (by decide) ?_
  dsimp only [zst1, zst2, zclr, zc2]
  refine zV_iload_n hX dJ6_bitCount_0f7a4_48 rfl ?_
  refine zV_bipush hX (v := nI 63) dJ6_bitCount_0f7a4_49 (by decide) ?_
  refine zV_iand hX dJ6_bitCount_0f7a4_51 ?_
  exact zV_reti hX hQ hr (⟨rfl, rfl⟩) dJ6_bitCount_0f7a4_52
set_option maxHeartbeats 1000000 in
theorem zc_gather (l : Launch) (G : zG) (M : zM) (o rows row p n len : Nat) (hO : zOb 5 o) (hn : M.1 o 7 = nI n) (hn7 : n ≤ 7) (hrs : zSh rows = (20, len)) (hrl : row + 57 ≤ len) (hlen : len ≤ 2000) (hro : rows ≠ o + 1 + 19) (hp : p < 8) : zC l G 1 yX6_gather cX6_gather 6 (Option.some Jvm.ClassFile.FieldType.int) [.ref o, .ref rows, .int (nI row), .int (nI p)] M (zP (some (.int (nI (oGa o rows row p n M).1))) (oGa o rows row p n M).2) := by
  refine zC_of (by decide) (Nat.le_of_ble_eq_true rfl) (fun X Q hQ hX hl hR hr => ?_)
  refine zV_loc (L' := [.ref o, .ref rows, .int (nI row), .int (nI p), .null, .null]) rfl ?_
  have L6 : ∀ (f9 k : Nat), n - k < f9 → k ≤ n → zV G X Q 6 0 0 6 [.ref o, .ref rows, .int (nI row), .int (nI p), .int (nI (oGa o rows row p k M).1), .int (nI k)] [] (oGa o rows row p k M).2 := by
    intro f9
    induction f9 with
    | zero => intro k hk1 hk2; exact absurd hk1 (Nat.not_lt_zero _)
    | succ f9 ih =>
      intro k hk1 hk2
      refine zV_iload hX dX6_gather_6 rfl ?_
      refine zV_aload_n hX dX6_gather_8 rfl ?_
      refine zV_geti hX dX6_gather_9 zf_X6_67 hO.1 rfl ((by rw [(oGa_fr o rows row p M k).at (by omega), hn])) ?_
      refine zV_icmp_geN hX (tgt := 51) dX6_gather_12 (by decide) ⟨by omega, by omega⟩ (fun c_12 => ?_) (fun c_12 => ?_)
      · refine zV_iload hX dX6_gather_51 rfl ?_
        exact zV_reti hX hQ hr (⟨by rw [show k = n by omega], by rw [show k = n by omega]⟩) dX6_gather_53
      · refine zV_aload_n hX dX6_gather_15 rfl ?_
        refine zV_iload_n hX dX6_gather_16 rfl ?_
        refine zV_iload hX dX6_gather_17 rfl ?_
        refine zV_cV2p hX hR hl dX6_gather_19 (zc_isOn l G _ o p k hO (by omega)) zt_X6_isOn rfl zml_X6_132 hO.1 ⟨by decide, by decide⟩ (Nat.le_of_ble_eq_true rfl) ?_
        dsimp only [Option.toList, List.cons_append, List.nil_append]
        refine zV_topi (zb (oOn o M p k)) (by rw [oOn_fr (oGa_fr o rows row p M k) (by omega)]) ?_
        refine zV_if_neB hX (tgt := 45) dX6_gather_22 (by decide) (fun c_22 => ?_) (fun c_22 => ?_)
        · have e9 : oGa o rows row p (k + 1) M = (oGa o rows row p k M) := by rw [oGa, if_pos c_22]
          refine zV_iincN hX (b := 1) dX6_gather_45 rfl (by decide) ?_
          dsimp only [zst1, zst2, zclr, zc2]
          refine zV_goto hX (tgt := 6) dX6_gather_48 (by decide) ?_
          have h9 := ih (k + 1) (by omega) (by omega)
          rw [e9] at h9
          exact h9
        · have e9 : oGa o rows row p (k + 1) M = ((oGa o rows row p k M).1 + 1, zw (oGa o rows row p k M).2 (o + 1 + 19) (oGa o rows row p k M).1 (M.1 rows (row + zlong p k))) := by rw [oGa, if_neg (by simp [c_22])]
          refine zV_aload_n hX dX6_gather_25 rfl ?_
          refine zV_geta hX dX6_gather_26 zf_X6_50 hO.1 rfl ?_
          refine zV_iload hX dX6_gather_29 rfl ?_
          refine zV_aload_n hX dX6_gather_31 rfl ?_
          refine zV_iload_n hX dX6_gather_32 rfl ?_
          refine zV_iload_n hX dX6_gather_33 rfl ?_
          refine zV_iload hX dX6_gather_34 rfl ?_
          refine zV_cS2p hX hR hl dX6_gather_36 (zc_longerBy l G _ p k (by omega)) zt_X6_longerBy rfl zml_X6_166 (by decide) (Nat.le_of_ble_eq_true rfl) ?_
          dsimp only [Option.toList, List.cons_append, List.nil_append]
          refine zV_iaddN hX dX6_gather_39 ?_
          refine zV_iald hX (v := M.1 rows (row + zlong p k)) dX6_gather_40 hrs (rfl) ⟨by have := zlong_lt (m := k) hp (by omega); omega, by omega⟩ ((by rw [(oGa_fr o rows row p M k).at (by omega)])) ?_
          refine zV_iast hX dX6_gather_41 (hO.a 19 rfl) (rfl) ⟨by have := oGa_le o rows row p M k; omega, by omega⟩ ?_
          refine zV_iincN hX (b := 1) dX6_gather_42 rfl (by decide) ?_
          dsimp only [zst1, zst2, zclr, zc2]
          refine zV_iincN hX (b := 1) dX6_gather_45 rfl (by decide) ?_
          dsimp only [zst1, zst2, zclr, zc2]
          refine zV_goto hX (tgt := 6) dX6_gather_48 (by decide) ?_
          have h9 := ih (k + 1) (by omega) (by omega)
          rw [e9] at h9
          exact h9
  refine zV_iconst hX (v := nI 0) dX6_gather_0 (by decide) ?_
  refine zV_istore hX dX6_gather_1 (by decide) ?_
  dsimp only [zst1, zst2, zclr, zc2]
  refine zV_iconst hX (v := nI 0) dX6_gather_3 (by decide) ?_
  refine zV_istore hX dX6_gather_4 (by decide) ?_
  dsimp only [zst1, zst2, zclr, zc2]
  exact L6 (n + 1) 0 (by omega) (by omega)
def oMo (o : Nat) (g : Nat × zM) : Nat := (zfm (fun i => zcnt (fun j => g.2.1 (o + 1 + 19) j == g.2.1 (o + 1 + 19) i) g.1) g.1).1
def oMv (o : Nat) (g : Nat × zM) : Int32 := g.2.1 (o + 1 + 19) (oMo o g)
def oMc (o : Nat) (g : Nat × zM) : Nat := zcnt (fun j => g.2.1 (o + 1 + 19) j == oMv o g) g.1
theorem oMo_7 {o rows row p n : Nat} {M : zM} (h : n ≤ 7) : oMo o (oGa o rows row p n M) < 7 := zfm_7 (Nat.le_trans (oGa_le o rows row p M n) h)
def oMaj (o rows row p n : Nat) (M : zM) : Int32 := if (oGa o rows row p n M).1 < 2 * oMc o (oGa o rows row p n M) then oMv o (oGa o rows row p n M) else M.1 o 9
set_option maxHeartbeats 1000000 in
theorem zc_majority (l : Launch) (G : zG) (M : zM) (o rows row p n len : Nat) (hO : zOb 5 o) (hn : M.1 o 7 = nI n) (hn7 : n ≤ 7) (hrs : zSh rows = (20, len)) (hrl : row + 57 ≤ len) (hlen : len ≤ 2000) (hro : rows ≠ o + 1 + 19) (hp : p < 8) : zC l G 2 yX6_majority cX6_majority 6 (Option.some Jvm.ClassFile.FieldType.int) [.ref o, .ref rows, .int (nI row), .int (nI p)] M (zP (some (.int (oMaj o rows row p n M))) (oGa o rows row p n M).2) := by
  refine zC_of (by decide) (Nat.le_of_ble_eq_true rfl) (fun X Q hQ hX hl hR hr => ?_)
  refine zV_loc (L' := [.ref o, .ref rows, .int (nI row), .int (nI p), .null, .null]) rfl ?_
  have hz1 := oGa_le o rows row p M n
  have hz2 := oMo_7 (o := o) (rows := rows) (row := row) (p := p) (M := M) hn7
  have hz3 : oMc o (oGa o rows row p n M) ≤ 7 := Nat.le_trans (zcnt_le _ _) (Nat.le_trans hz1 hn7)
  refine zV_aload_n hX dX6_majority_0 rfl ?_
  refine zV_aload_n hX dX6_majority_1 rfl ?_
  refine zV_iload_n hX dX6_majority_2 rfl ?_
  refine zV_iload_n hX dX6_majority_3 rfl ?_
  refine zV_cV3p hX hR hl dX6_majority_4 (zc_gather l G M o rows row p n len hO hn hn7 hrs hrl hlen hro hp) zt_X6_gather rfl zml_X6_178 hO.1 ⟨by decide, by decide⟩ (Nat.le_of_ble_eq_true rfl) ?_
  dsimp only [Option.toList, List.cons_append, List.nil_append]
  refine zV_istore hX dX6_majority_7 (by decide) ?_
  dsimp only [zst1, zst2, zclr, zc2]
  refine zV_aload_n hX dX6_majority_9 rfl ?_
  refine zV_geta hX dX6_majority_10 zf_X6_50 hO.1 rfl ?_
  refine zV_iload hX dX6_majority_13 rfl ?_
  refine zV_cS2p hX hR hl dX6_majority_15 (zc_firstOfMost l G _ (o + 1 + 19) 7 _ (hO.a 19 rfl) (by decide) (by omega)) zt_X9_firstOfMost rfl zml_X6_181 (by decide) (Nat.le_of_ble_eq_true rfl) ?_
  dsimp only [Option.toList, List.cons_append, List.nil_append]
  refine zV_istore hX dX6_majority_18 (by decide) ?_
  dsimp only [zst1, zst2, zclr, zc2]
  refine zV_iconst hX (v := nI 2) dX6_majority_20 (by decide) ?_
  refine zV_aload_n hX dX6_majority_21 rfl ?_
  refine zV_geta hX dX6_majority_22 zf_X6_50 hO.1 rfl ?_
  refine zV_iconst hX (v := nI 0) dX6_majority_25 (by decide) ?_
  refine zV_iload hX dX6_majority_26 rfl ?_
  refine zV_aload_n hX dX6_majority_28 rfl ?_
  refine zV_geta hX dX6_majority_29 zf_X6_50 hO.1 rfl ?_
  refine zV_iload hX dX6_majority_32 rfl ?_
  refine zV_iald hX dX6_majority_34 (hO.a 19 rfl) (rfl) ⟨hz2, by omega⟩ (rfl) ?_
  refine zV_cS4p hX hR hl dX6_majority_35 (zc_alike l G _ (o + 1 + 19) 7 0 _ _ (hO.a 19 rfl) (by decide) (by omega)) zt_X9_alike rfl zml_X6_185 (by decide) (Nat.le_of_ble_eq_true rfl) ?_
  dsimp only [Option.toList, List.cons_append, List.nil_append]
  refine zV_imulN hX dX6_majority_38 ?_
  refine zV_iload hX dX6_majority_39 rfl ?_
  refine zV_icmp_leN hX (tgt := 54) dX6_majority_41 (by decide) ⟨(by show 2 * oMc o _ < _; omega), by omega⟩ (fun c_41 => ?_) (fun c_41 => ?_)
  · have e9 : oMaj o rows row p n M = M.1 o 9 := by show (if _ then _ else _) = _; exact if_neg (Nat.not_lt.mpr c_41)
    refine zV_aload_n hX dX6_majority_54 rfl ?_
    refine zV_geti hX (x := M.1 o 9) dX6_majority_55 zf_X6_75 hO.1 rfl (((oGa_fr o rows row p M n).at (by omega))) ?_
    exact zV_reti hX hQ hr (⟨by rw [e9]; try rfl, rfl⟩) dX6_majority_58
  · have e9 : oMaj o rows row p n M = oMv o (oGa o rows row p n M) := by show (if _ then _ else _) = _; exact if_pos c_41
    refine zV_aload_n hX dX6_majority_44 rfl ?_
    refine zV_geta hX dX6_majority_45 zf_X6_50 hO.1 rfl ?_
    refine zV_iload hX dX6_majority_48 rfl ?_
    refine zV_iald hX dX6_majority_50 (hO.a 19 rfl) (rfl) ⟨hz2, by omega⟩ (rfl) ?_
    refine zV_goto hX (tgt := 58) dX6_majority_51 (by decide) ?_
    exact zV_reti hX hQ hr (⟨by rw [e9]; try rfl, rfl⟩) dX6_majority_58
def zfr (L : Nat) : Nat := if L = 2 then 1 else if L = 3 then 8 else if L = 4 then 57 else 0
def oSus1 (o n t c m p : Nat) (M : zM) : zM :=
  if oPath o M p && !oOn o M p m then
    (if nI (oGa o (o + 1 + 12) (m * 57) p n M).1 - nI t ≤ nI (oMc o (oGa o (o + 1 + 12) (m * 57) p n M)) then (oGa o (o + 1 + 12) (m * 57) p n M).2
     else zw (oGa o (o + 1 + 12) (m * 57) p n M).2 (o + 1 + 15) m (M.1 (o + 1 + 15) m ||| (nI 1 <<< (nI (zlast c p) &&& 31))))
  else M
theorem oSus1_fr (o n t c m p : Nat) (M : zM) : zFr (fun a => a = o + 1 + 19 ∨ a = o + 1 + 15) M (oSus1 o n t c m p M) := by
  have h : zFr (fun a => a = o + 1 + 19 ∨ a = o + 1 + 15) M (oGa o (o + 1 + 12) (m * 57) p n M).2 := (oGa_fr o _ _ p M n).mono (fun a h => Or.inl h)
  unfold oSus1
  split
  · split
    · exact h
    · exact h.w (Or.inr rfl)
  · exact zFr.rf
def oSus (o n t c m r : Nat) (k : Nat) (M : zM) : zM := zfor (fun i M => oSus1 o n t c m (zfr (r - 1) + i) M) k M
theorem oSus_fr (o n t c m r : Nat) (k : Nat) (M : zM) : zFr (fun a => a = o + 1 + 19 ∨ a = o + 1 + 15) M (oSus o n t c m r k M) := zFr.for (fun i M => oSus1_fr o n t c m _ M) k M
theorem zfr_from : ∀ j, j < 5 → zFROM.getD j 0 = nI (zfr j) := by decide
set_option maxHeartbeats 1000000 in
theorem zc_suspect (l : Launch) (G : zG) (M : zM) (o n t c m r : Nat) (hO : zOb 5 o) (hn : M.1 o 7 = nI n) (hn7 : n ≤ 7) (ht : M.1 o 8 = nI t) (hcm : M.1 o 0 = nI c) (hm : m < 7) (hr1 : 1 ≤ r) (hr3 : r ≤ 3) : zC l G 2 yX6_suspect cX6_suspect 6 (Option.none : Option Jvm.ClassFile.FieldType) [.ref o, .int (nI m), .int (nI r)] M (zP none (oSus o n t c m r (zfr r - zfr (r - 1)) M)) := by
  refine zC_of (by decide) (Nat.le_of_ble_eq_true rfl) (fun X Q hQ hX hl hR hr => ?_)
  refine zV_loc (L' := [.ref o, .int (nI m), .int (nI r), .null, .null, .null]) rfl ?_
  have hq1 : zfr r ≤ 8 ∧ zfr (r - 1) ≤ zfr r := by rcases (show r = 1 ∨ r = 2 ∨ r = 3 by omega) with rfl | rfl | rfl <;> decide
  have L8 : ∀ (f9 k : Nat) (v1 v2 : Value), zfr r - (zfr (r - 1) + k) < f9 → (zfr (r - 1) + k) ≤ zfr r → zV G X Q 6 0 0 8 [.ref o, .int (nI m), .int (nI r), .int (nI (zfr (r - 1) + k)), v1, v2] [] (oSus o n t c m r k M) := by
    intro f9
    induction f9 with
    | zero => intro k v1 v2 hk1 hk2; exact absurd hk1 (Nat.not_lt_zero _)
    | succ f9 ih =>
      intro k v1 v2 hk1 hk2
      have hfr := oSus_fr o n t c m r k M
      have hz1 := oGa_le o (o + 1 + 12) (m * 57) (zfr (r - 1) + k) (oSus o n t c m r k M) n
      have hz2 := oMo_7 (o := o) (rows := o + 1 + 12) (row := m * 57) (p := (zfr (r - 1) + k)) (M := (oSus o n t c m r k M)) hn7
      have hg9 := oGa_fr o (o + 1 + 12) (m * 57) (zfr (r - 1) + k) (oSus o n t c m r k M) n
      refine zV_iload_n hX dX6_suspect_8 rfl ?_
      refine zV_from hX dX6_suspect_9 zfl_X6_139 ?_
      refine zV_iload_n hX dX6_suspect_12 rfl ?_
      refine zV_ifrom hX dX6_suspect_13 rfl (by omega) (zfr_from _ (by omega)) ?_
      refine zV_icmp_geN hX (tgt := 109) dX6_suspect_14 (by decide) ⟨by omega, by omega⟩ (fun c_14 => ?_) (fun c_14 => ?_)
      · exact zV_retv hX hQ hr (⟨rfl, by rw [show k = zfr r - zfr (r - 1) by omega]⟩) dX6_suspect_109
      · refine zV_aload_n hX dX6_suspect_17 rfl ?_
        refine zV_iload_n hX dX6_suspect_18 rfl ?_
        refine zV_cV1p hX hR hl dX6_suspect_19 (zc_isPath l G _ o (zfr (r - 1) + k) hO (by omega)) zt_X6_isPath rfl zml_X6_128 hO.1 ⟨by decide, by decide⟩ (Nat.le_of_ble_eq_true rfl) ?_
        dsimp only [Option.toList, List.cons_append, List.nil_append]
        refine zV_if_eqB hX (tgt := 103) dX6_suspect_22 (by decide) (fun c_22 => ?_) (fun c_22 => ?_)
        · have e9 : oSus1 o n t c m (zfr (r - 1) + k) (oSus o n t c m r k M) = (oSus o n t c m r k M) := by rw [oSus1, if_neg (by simp [c_22])]
          refine zV_iincN hX (b := 1) dX6_suspect_103 rfl (by decide) ?_
          dsimp only [zst1, zst2, zclr, zc2]
          refine zV_goto hX (tgt := 8) dX6_suspect_106 (by decide) ?_
          have h9 := fun v1 v2 => ih (k + 1) v1 v2 (by omega) (by omega)
          simp only [show oSus o n t c m r (k + 1) M = oSus1 o n t c m (zfr (r - 1) + k) (oSus o n t c m r k M) from rfl, e9] at h9
          exact h9 _ _
        · refine zV_aload_n hX dX6_suspect_25 rfl ?_
          refine zV_iload_n hX dX6_suspect_26 rfl ?_
          refine zV_iload_n hX dX6_suspect_27 rfl ?_
          refine zV_cV2p hX hR hl dX6_suspect_28 (zc_isOn l G _ o (zfr (r - 1) + k) m hO (by omega)) zt_X6_isOn rfl zml_X6_132 hO.1 ⟨by decide, by decide⟩ (Nat.le_of_ble_eq_true rfl) ?_
          dsimp only [Option.toList, List.cons_append, List.nil_append]
          refine zV_if_neB hX (tgt := 103) dX6_suspect_31 (by decide) (fun c_31 => ?_) (fun c_31 => ?_)
          · have e9 : oSus1 o n t c m (zfr (r - 1) + k) (oSus o n t c m r k M) = (oSus o n t c m r k M) := by rw [oSus1, if_neg (by simp [c_31])]
            refine zV_iincN hX (b := 1) dX6_suspect_103 rfl (by decide) ?_
            dsimp only [zst1, zst2, zclr, zc2]
            refine zV_goto hX (tgt := 8) dX6_suspect_106 (by decide) ?_
            have h9 := fun v1 v2 => ih (k + 1) v1 v2 (by omega) (by omega)
            simp only [show oSus o n t c m r (k + 1) M = oSus1 o n t c m (zfr (r - 1) + k) (oSus o n t c m r k M) from rfl, e9] at h9
            exact h9 _ _
          · refine zV_aload_n hX dX6_suspect_34 rfl ?_
            refine zV_aload_n hX dX6_suspect_35 rfl ?_
            refine zV_geta hX dX6_suspect_36 zf_X6_28 hO.1 rfl ?_
            refine zV_iload_n hX dX6_suspect_39 rfl ?_
            refine zV_bipush hX (v := nI 57) dX6_suspect_40 (by decide) ?_
            refine zV_imulN hX dX6_suspect_42 ?_
            refine zV_iload_n hX dX6_suspect_43 rfl ?_
            refine zV_cV3p hX hR hl dX6_suspect_44 (zc_gather l G _ o (o + 1 + 12) (m * 57) (zfr (r - 1) + k) n 399 hO (by rw [hfr.at (by omega), hn]) hn7 (hO.a 12 rfl) (by omega) (by decide) (by omega) (by omega)) zt_X6_gather rfl zml_X6_178 hO.1 ⟨by decide, by decide⟩ (Nat.le_of_ble_eq_true rfl) ?_
            dsimp only [Option.toList, List.cons_append, List.nil_append]
            refine zV_istore hX dX6_suspect_47 (by decide) ?_
            dsimp only [zst1, zst2, zclr, zc2]
            refine zV_aload_n hX dX6_suspect_49 rfl ?_
            refine zV_geta hX dX6_suspect_50 zf_X6_50 hO.1 rfl ?_
            refine zV_iload hX dX6_suspect_53 rfl ?_
            refine zV_cS2p hX hR hl dX6_suspect_55 (zc_firstOfMost l G _ (o + 1 + 19) 7 _ (hO.a 19 rfl) (by decide) (by omega)) zt_X9_firstOfMost rfl zml_X6_181 (by decide) (Nat.le_of_ble_eq_true rfl) ?_
            dsimp only [Option.toList, List.cons_append, List.nil_append]
            refine zV_istore hX dX6_suspect_58 (by decide) ?_
            dsimp only [zst1, zst2, zclr, zc2]
            refine zV_aload_n hX dX6_suspect_60 rfl ?_
            refine zV_geta hX dX6_suspect_61 zf_X6_50 hO.1 rfl ?_
            refine zV_iconst hX (v := nI 0) dX6_suspect_64 (by decide) ?_
            refine zV_iload hX dX6_suspect_65 rfl ?_
            refine zV_aload_n hX dX6_suspect_67 rfl ?_
            refine zV_geta hX dX6_suspect_68 zf_X6_50 hO.1 rfl ?_
            refine zV_iload hX dX6_suspect_71 rfl ?_
            refine zV_iald hX dX6_suspect_73 (hO.a 19 rfl) (rfl) ⟨hz2, by omega⟩ (rfl) ?_
            refine zV_cS4p hX hR hl dX6_suspect_74 (zc_alike l G _ (o + 1 + 19) 7 0 _ _ (hO.a 19 rfl) (by decide) (by omega)) zt_X9_alike rfl zml_X6_185 (by decide) (Nat.le_of_ble_eq_true rfl) ?_
            dsimp only [Option.toList, List.cons_append, List.nil_append]
            refine zV_iload hX dX6_suspect_77 rfl ?_
            refine zV_aload_n hX dX6_suspect_79 rfl ?_
            refine zV_geti hX dX6_suspect_80 zf_X6_71 hO.1 rfl ((by rw [hg9.at (by omega), hfr.at (by omega), ht])) ?_
            refine zV_isub hX dX6_suspect_83 ?_
            refine zV_icmp_ge hX (tgt := 103) dX6_suspect_84 (by decide) (fun c_84 => ?_) (fun c_84 => ?_)
            · have e9 : oSus1 o n t c m (zfr (r - 1) + k) (oSus o n t c m r k M) = (oGa o (o + 1 + 12) (m * 57) (zfr (r - 1) + k) n (oSus o n t c m r k M)).2 := by rw [oSus1, if_pos (by simp [c_22, c_31])]; exact if_pos c_84
              refine zV_iincN hX (b := 1) dX6_suspect_103 rfl (by decide) ?_
              dsimp only [zst1, zst2, zclr, zc2]
              refine zV_goto hX (tgt := 8) dX6_suspect_106 (by decide) ?_
              have h9 := fun v1 v2 => ih (k + 1) v1 v2 (by omega) (by omega)
              simp only [show oSus o n t c m r (k + 1) M = oSus1 o n t c m (zfr (r - 1) + k) (oSus o n t c m r k M) from rfl, e9] at h9
              exact h9 _ _
            · have e9 : oSus1 o n t c m (zfr (r - 1) + k) (oSus o n t c m r k M) = zw (oGa o (o + 1 + 12) (m * 57) (zfr (r - 1) + k) n (oSus o n t c m r k M)).2 (o + 1 + 15) m ((oSus o n t c m r k M).1 (o + 1 + 15) m ||| (nI 1 <<< (nI (zlast c (zfr (r - 1) + k)) &&& 31))) := by rw [oSus1, if_pos (by simp [c_22, c_31])]; exact if_neg c_84
              refine zV_aload_n hX dX6_suspect_87 rfl ?_
              refine zV_geta hX dX6_suspect_88 zf_X6_38 hO.1 rfl ?_
              refine zV_iload_n hX dX6_suspect_91 rfl ?_
              refine zV_dup2 hX dX6_suspect_92 rfl rfl ?_
              refine zV_iald hX (v := (oSus o n t c m r k M).1 (o + 1 + 15) m) dX6_suspect_93 (hO.a 15 rfl) (rfl) ⟨by omega, by omega⟩ (hg9.at (by omega)) ?_
              refine zV_iconst hX (v := nI 1) dX6_suspect_94 (by decide) ?_
              refine zV_aload_n hX dX6_suspect_95 rfl ?_
              refine zV_iload_n hX dX6_suspect_96 rfl ?_
              refine zV_cV1p hX hR hl dX6_suspect_97 (zc_lastOf l G _ o (zfr (r - 1) + k) c hO (by rw [hg9.at (by omega), hfr.at (by omega), hcm]) (by omega)) zt_X6_lastOf rfl zml_X6_135 hO.1 ⟨by decide, by decide⟩ (Nat.le_of_ble_eq_true rfl) ?_
              dsimp only [Option.toList, List.cons_append, List.nil_append]
              refine zV_ishl hX dX6_suspect_100 ?_
              refine zV_ior hX dX6_suspect_101 ?_
              refine zV_iast hX dX6_suspect_102 (hO.a 15 rfl) (rfl) ⟨by omega, by omega⟩ ?_
              refine zV_iincN hX (b := 1) dX6_suspect_103 rfl (by decide) ?_
              dsimp only [zst1, zst2, zclr, zc2]
              refine zV_goto hX (tgt := 8) dX6_suspect_106 (by decide) ?_
              have h9 := fun v1 v2 => ih (k + 1) v1 v2 (by omega) (by omega)
              simp only [show oSus o n t c m r (k + 1) M = oSus1 o n t c m (zfr (r - 1) + k) (oSus o n t c m r k M) from rfl, e9] at h9
              exact h9 _ _
  refine zV_from hX dX6_suspect_0 zfl_X6_139 ?_
  refine zV_iload_n hX dX6_suspect_3 rfl ?_
  refine zV_iconst hX (v := nI 1) dX6_suspect_4 (by decide) ?_
  refine zV_isubN hX dX6_suspect_5 (by omega) ?_
  refine zV_ifrom hX dX6_suspect_6 rfl (by omega) (zfr_from _ (by omega)) ?_
  refine zV_istore_n hX dX6_suspect_7 (by decide) ?_
  dsimp only [zst1, zst2, zclr, zc2]
  exact L8 (zfr r + 1) 0 _ _ (by omega) (by omega)
