-- text constants: cell 5000 + j, its bytes 6000 + j
section zText
variable {G : zG} {X : zX} {Q : State → Prop} {own : String} {cc : ByteArray} {nL cells slots pc : Nat} {L S : List Value} {M : zM}
theorem zV_strv (h : zOk G X own cc nL) {idx j : Nat} (d : decode cc pc = .ok (.getfield idx, 3)) (hw : Cond.fieldLink own idx "java/lang/String" "value" "[B" ∈ zT) (hj : j < 11) (k : zV G X Q nL cells slots (pc + 3) L (.ref (6000 + j) :: S) M) : zV G X Q nL cells slots pc L (.ref (5000 + j) :: S) M := fun H locs ls hW hS hl => vk_getf h.1 h.2.1 (h.2.2.2.2.2.2.1.2.2.2.1.1 j hj).2.2.1 hS h.2.2.2.1 (h.2.2.2.2.1 _ hw) (fun _ hx => hx) d (k H locs ls hW hS hl)
theorem zV_strc (h : zOk G X own cc nL) {idx j : Nat} (d : decode cc pc = .ok (.getfield idx, 3)) (hw : Cond.fieldLink own idx "java/lang/String" "coder" "B" ∈ zT) (hj : j < 11) (k : zV G X Q nL cells slots (pc + 3) L (.int 0 :: S) M) : zV G X Q nL cells slots pc L (.ref (5000 + j) :: S) M := fun H locs ls hW hS hl => vk_getf h.1 h.2.1 (h.2.2.2.2.2.2.1.2.2.2.1.1 j hj).2.1 hS h.2.2.2.1 (h.2.2.2.2.1 _ hw) (fun _ hx => hx) d (k H locs ls hW hS hl)
theorem zV_strl (h : zOk G X own cc nL) {j : Nat} (d : decode cc pc = .ok (.arraylength, 1)) (hj : j < 11) (k : zV G X Q nL cells slots (pc + 1) L (.int (nI (zSLen.getD j 0)) :: S) M) : zV G X Q nL cells slots pc L (.ref (6000 + j) :: S) M := fun H locs ls hW hS hl => va_tlen h.1 h.2.1 (h.2.2.2.2.2.2.1.2.2.2.1.1 j hj).2.2.2 hS rfl d (k H locs ls hW hS hl)
theorem zSLen_lt : ∀ j, j < 11 → zSLen.getD j 0 < 100 := by decide
theorem zV_strb (h : zOk G X own cc nL) {j k9 : Nat} {i : Int32} (d : decode cc pc = .ok (.baload, 1)) (hj : j < 11) (hi : i = nI k9) (hk9 : k9 < zSLen.getD j 0) (k : zV G X Q nL cells slots (pc + 1) L (.int ((zSByt.getD j []).getD k9 0) :: S) M) : zV G X Q nL cells slots pc L (.int i :: .ref (6000 + j) :: S) M := by
  intro H locs ls hW hS hl
  subst hi
  have h9 := zSLen_lt j hj
  have hcl : (nI k9).toNatClampNeg = k9 := nI_clamp (by omega)
  exact va_tb h.1 h.2.1 (h.2.2.2.2.2.2.1.2.2.2.1.1 j hj).2.2.2 hS (vp_in_nI hk9 (by omega)) (v := .int ((zSByt.getD j []).getD k9 0)) (by rw [hcl]) d (k H locs ls hW hS hl)
theorem zV_getcs (h : zOk G X own cc nL) {idx : Nat} (d : decode cc pc = .ok (.getstatic idx, 3)) (hw : Cond.fieldLink own idx "java/lang/String" "COMPACT_STRINGS" "Z" ∈ zT) (k : zV G X Q nL cells slots (pc + 3) L (.int 1 :: S) M) : zV G X Q nL cells slots pc L S M := fun H locs ls hW hS hl => va_gets h.1 h.2.1 h.2.2.2.2.2.2.1.2.2.1 hS h.2.2.2.1 (h.2.2.2.2.1 _ hw) (fun _ hx => hx) d (k H locs ls hW hS hl)
theorem zV_getsi (h : zOk G X own cc nL) {idx : Nat} (d : decode cc pc = .ok (.getstatic idx, 3)) (hw : Cond.fieldLink own idx "jdk/internal/util/Preconditions" "SIOOBE_FORMATTER" "Ljava/util/function/BiFunction;" ∈ zT) (k : ∀ v : Value, v = .null ∨ v = .ref 4002 → zV G X Q nL cells slots (pc + 3) L (v :: S) M) : zV G X Q nL cells slots pc L S M := fun H locs ls hW hS hl =>
  (h.2.2.2.2.2.2.1.2.2.2.2.2.2.2).elim (fun hz => va_gets h.1 h.2.1 hz hS h.2.2.2.1 (h.2.2.2.2.1 _ hw) (fun _ hx => hx) d (k .null (Or.inl rfl) H locs ls hW hS hl)) (fun hz => va_gets h.1 h.2.1 hz hS h.2.2.2.1 (h.2.2.2.2.1 _ hw) (fun _ hx => hx) d (k (.ref 4002) (Or.inr rfl) H locs ls hW hS hl))

def zTgT (y : MethodName) (cc : ByteArray) (nL : Nat) (ret : Option FieldType) (n : Nat) : Prop := zTg1 y cc nL ret n ∧ Cond.instanceMethod y ∈ zT ∧ Cond.selects y.cls y y ∈ zT
theorem zV_callT (h : zOk G X own cc nL) {D d : Nat} (hR : X.2.2.2.1 = zRm D) (hd : d < D) {l : Launch} (hlc : X.2.1 = l) {y : MethodName} {cc2 : ByteArray} {nL2 n idx j : Nat} {ret : Option FieldType} {As : List Value} {post : Option Value → zM → Prop} (hC : zC l G d y cc2 nL2 ret (.ref (5000 + j) :: As) M post) (hT : zTgT y cc2 nL2 ret n) (hm : Cond.methodLink own idx y ∈ zT) (hj : j < 11) (hyc : y.cls = "java/lang/String") (hn : As.length = n) (hroom : (S.map fun v => v.category).sum ≤ 8) (hdg : decode cc pc = .ok (.invokevirtual idx, 3))
    (kk : ∀ (r : Option Value) (M' : zM), post r M' → zV G X Q nL cells slots (pc + 3) L (r.toList ++ S) M') (hcs : cells ≤ 0 ∧ slots ≤ 0) : zV G X Q nL cells slots pc L (As.reverse ++ .ref (5000 + j) :: S) M := by
  intro H locs ls hW hS hl
  subst hlc
  obtain ⟨⟨t1, t2, t3, t4⟩, t5, t6⟩ := hT
  have hgood : GoodIn zT (wsV own idx y.cls y (.code y cc2 nL2 ret :: zT)) := by
    intro w hw
    have hm : w ∈ zT := by
      unfold wsV at hw
      simp only [List.cons_append, List.nil_append, List.mem_cons] at hw
      rcases hw with rfl | rfl | rfl | rfl | rfl | hw
      · exact hm
      · exact t5
      · exact t6
      · exact t2
      · exact t1
      · exact hw
    exact ⟨hm, good_of_word (zTg w hm)⟩
  have e : ((As.reverse ++ .ref (5000 + j) :: S).map (zv G)) = (As.map (zv G)).reverse ++ .ref (G.1 (5000 + j)) :: S.map (zv G) := by simp [zv]
  rw [e]
  refine zV_go (D := D) (d := d) (mc := 0) (y := y) (cc2 := cc2) (nL2 := nL2) (ret := ret) (As := As) kk hS hl (va_runV (Ts := zT) (As := As.map (zv G)) (n := n) ⟨h.1, h.2.1, h.2.2.1, h.2.2.2.1, h.2.2.2.2.1⟩ (hC H.size) (cwV n h.2.2.2.2.1 hgood rfl rfl rfl ⟨rfl, t4⟩ ⟨?_, ?_⟩) ⟨zPc_blind, (by rw [hyc]; exact vk_recv (i := j) h.2.2.2.2.2.2.1.2.2.2.1 hj hS), zPre (As := .ref (5000 + j) :: As) (own2 := own) (cc2 := cc) h hW hS⟩ rfl (by rw [List.length_map]; exact hn) hl.1 rfl (lv_room (by rw [zCat]; exact hroom)) hdg ⟨?_, ?_⟩)
  · rw [hR]; show d + 1 + 1 ≤ D + 1; omega
  · rw [hR]; show 8 + (nL2 + 11) + (100 * d + 100) ≤ 100 * D + 100; omega
  · have := hcs.1; omega
  · have := hcs.2; omega
theorem zV_cT0p (h : zOk G X own cc nL) {D d0 : Nat} (hR : X.2.2.2.1 = zRm D) {l : Launch} (hlc : X.2.1 = l) {y : MethodName} {cc2 : ByteArray} {nL2 n idx j : Nat} {ret : Option FieldType} {w : Option Value} {M2 : zM} (hdg : decode cc pc = .ok (.invokevirtual idx, 3)) (hC : zC l G d0 y cc2 nL2 ret (.ref (5000 + j) :: []) M (zP w M2)) (hT : zTgT y cc2 nL2 ret n) (hyc : y.cls = "java/lang/String") (hn : 0 = n) (hm : Cond.methodLink own idx y ∈ zT) (hj : j < 11 ∧ d0 < D) (hroom : (S.map fun v => v.category).sum ≤ 8) (kk : zV G X Q nL 0 0 (pc + 3) L (w.toList ++ S) M2) : zV G X Q nL 0 0 pc L (.ref (5000 + j) :: S) M := zV_callT (As := []) h hR hj.2 hlc hC hT hm hj.1 hyc hn hroom hdg (fun r M' hp => by obtain ⟨rfl, rfl⟩ := hp; exact kk) ⟨Nat.le_refl 0, Nat.le_refl 0⟩
theorem zV_cT1p (h : zOk G X own cc nL) {D d0 : Nat} (hR : X.2.2.2.1 = zRm D) {l : Launch} (hlc : X.2.1 = l) {y : MethodName} {cc2 : ByteArray} {nL2 n idx j : Nat} {ret : Option FieldType} {v1 : Value} {w : Option Value} {M2 : zM} (hdg : decode cc pc = .ok (.invokevirtual idx, 3)) (hC : zC l G d0 y cc2 nL2 ret (.ref (5000 + j) :: [v1]) M (zP w M2)) (hT : zTgT y cc2 nL2 ret n) (hyc : y.cls = "java/lang/String") (hn : 1 = n) (hm : Cond.methodLink own idx y ∈ zT) (hj : j < 11 ∧ d0 < D) (hroom : (S.map fun v => v.category).sum ≤ 8) (kk : zV G X Q nL 0 0 (pc + 3) L (w.toList ++ S) M2) : zV G X Q nL 0 0 pc L (v1 :: .ref (5000 + j) :: S) M := zV_callT (As := [v1]) h hR hj.2 hlc hC hT hm hj.1 hyc hn hroom hdg (fun r M' hp => by obtain ⟨rfl, rfl⟩ := hp; exact kk) ⟨Nat.le_refl 0, Nat.le_refl 0⟩
end zText
theorem zt_J0_length_8abf5 : zTgT yJ0_length_8abf5 cJ0_length_8abf5 1 (Option.some Jvm.ClassFile.FieldType.int) 0 := ⟨⟨zco_J0_length_8abf5, zin_J0, by decide, by decide +kernel⟩, zim_J0_length_8abf5, zse_J0_length_8abf5⟩
theorem zt_J0_coder_7d493 : zTgT yJ0_coder_7d493 cJ0_coder_7d493 1 (Option.some Jvm.ClassFile.FieldType.byte) 0 := ⟨⟨zco_J0_coder_7d493, zin_J0, by decide, by decide +kernel⟩, zim_J0_coder_7d493, zse_J0_coder_7d493⟩
theorem zt_J0_charAt_5068e : zTgT yJ0_charAt_5068e cJ0_charAt_5068e 2 (Option.some Jvm.ClassFile.FieldType.char) 1 := ⟨⟨zco_J0_charAt_5068e, zin_J0, by decide, by decide +kernel⟩, zim_J0_charAt_5068e, zse_J0_charAt_5068e⟩
theorem zt_J0_isLatin1_aae02 : zTgT yJ0_isLatin1_aae02 cJ0_isLatin1_aae02 1 (Option.some Jvm.ClassFile.FieldType.boolean) 0 := ⟨⟨zco_J0_isLatin1_aae02, zin_J0, by decide, by decide +kernel⟩, zim_J0_isLatin1_aae02, zse_J0_isLatin1_aae02⟩
theorem sb_ch : ∀ j, j < 11 → ∀ k, k < zSLen.getD j 0 → ((((zSByt.getD j []).getD k 0) &&& nI 255).toUInt32 % 65536).toInt32 = (zSByt.getD j []).getD k 0 := by decide +kernel
theorem sb_nr : ∀ j, j < 11 → ∀ k, k < zSLen.getD j 0 → narrow .char (.int ((zSByt.getD j []).getD k 0)) = .int ((zSByt.getD j []).getD k 0) := by decide +kernel
set_option maxHeartbeats 1000000 in
theorem zc_coder (l : Launch) (G : zG) (M : zM) (j : Nat) (hj : j < 11) : zC l G 0 yJ0_coder_7d493 cJ0_coder_7d493 1 (Option.some Jvm.ClassFile.FieldType.byte) [.ref (5000 + j)] M (zP (some (.int 0)) M) := by
  refine zC_of (by decide) (Nat.le_of_ble_eq_true rfl) (fun X Q hQ hX hl hR hr => ?_)
  refine zV_loc (L' := [.ref (5000 + j)]) rfl ?_
  refine zV_getcs hX dJ0_coder_7d493_0 zfl_J0_38 ?_
  refine zV_if_eq hX (tgt := 13) dJ0_coder_7d493_3 (by decide) (fun c_3 => absurd c_3 (by decide)) (fun c_3 => ?_)
  refine zV_aload_n hX dJ0_coder_7d493_6 rfl ?_
  refine zV_strc hX dJ0_coder_7d493_7 zfl_J0_15 hj ?_
  refine zV_goto hX (tgt := 14) dJ0_coder_7d493_10 (by decide) ?_
  exact zV_retz hX hQ hr (rfl) (⟨rfl, rfl⟩) dJ0_coder_7d493_14
set_option maxHeartbeats 1000000 in
theorem zc_isLatin1 (l : Launch) (G : zG) (M : zM) (j : Nat) (hj : j < 11) : zC l G 0 yJ0_isLatin1_aae02 cJ0_isLatin1_aae02 1 (Option.some Jvm.ClassFile.FieldType.boolean) [.ref (5000 + j)] M (zP (some (.int (zb true))) M) := by
  refine zC_of (by decide) (Nat.le_of_ble_eq_true rfl) (fun X Q hQ hX hl hR hr => ?_)
  refine zV_loc (L' := [.ref (5000 + j)]) rfl ?_
  refine zV_getcs hX dJ0_isLatin1_aae02_0 zfl_J0_38 ?_
  refine zV_if_eq hX (tgt := 17) dJ0_isLatin1_aae02_3 (by decide) (fun c_3 => absurd c_3 (by decide)) (fun c_3 => ?_)
  refine zV_aload_n hX dJ0_isLatin1_aae02_6 rfl ?_
  refine zV_strc hX dJ0_isLatin1_aae02_7 zfl_J0_15 hj ?_
  refine zV_if_ne hX (tgt := 17) dJ0_isLatin1_aae02_10 (by decide) (fun c_10 => absurd c_10 (by decide)) (fun c_10 => ?_)
  refine zV_iconst hX (v := nI 1) dJ0_isLatin1_aae02_13 (by decide) ?_
  refine zV_goto hX (tgt := 18) dJ0_isLatin1_aae02_14 (by decide) ?_
  exact zV_retz hX hQ hr (rfl) (⟨rfl, rfl⟩) dJ0_isLatin1_aae02_18
set_option maxHeartbeats 1000000 in
theorem zc_slength (l : Launch) (G : zG) (M : zM) (j : Nat) (hj : j < 11) : zC l G 1 yJ0_length_8abf5 cJ0_length_8abf5 1 (Option.some Jvm.ClassFile.FieldType.int) [.ref (5000 + j)] M (zP (some (.int (nI (zSLen.getD j 0)))) M) := by
  refine zC_of (by decide) (Nat.le_of_ble_eq_true rfl) (fun X Q hQ hX hl hR hr => ?_)
  refine zV_loc (L' := [.ref (5000 + j)]) rfl ?_
  refine zV_aload_n hX dJ0_length_8abf5_0 rfl ?_
  refine zV_strv hX dJ0_length_8abf5_1 zfl_J0_9 hj ?_
  refine zV_strl hX dJ0_length_8abf5_4 hj ?_
  refine zV_aload_n hX dJ0_length_8abf5_5 rfl ?_
  refine zV_cT0p hX hR hl dJ0_length_8abf5_6 (zc_coder l G M j hj) zt_J0_coder_7d493 rfl rfl zml_J0_335 ⟨hj, Nat.le_of_ble_eq_true rfl⟩ (Nat.le_of_ble_eq_true rfl) ?_
  dsimp only [Option.toList, List.cons_append, List.nil_append]
  refine zV_ishr hX dJ0_length_8abf5_9 ?_
  exact zV_reti hX hQ hr (⟨congrArg (fun z => some (Value.int z)) (Int32.shiftRight_zero), rfl⟩) dJ0_length_8abf5_10
set_option maxHeartbeats 1000000 in
theorem zc_pcheckn (l : Launch) (G : zG) (M : zM) (k n : Nat) (hk : k < n) (hn : n < 2 ^ 31) : zC l G 0 yJ3_checkIndex_8e157 cJ3_checkIndex_8e157 3 (Option.some Jvm.ClassFile.FieldType.int) [.int (nI k), .int (nI n), .null] M (zP (some (.int (nI k))) M) := by
  refine zC_of (by decide) (Nat.le_of_ble_eq_true rfl) (fun X Q hQ hX hl hR hr => ?_)
  refine zV_loc (L' := [.int (nI k), .int (nI n), .null]) rfl ?_
  refine zV_iload_n hX dJ3_checkIndex_8e157_0 rfl ?_
  refine zV_if_ltN hX (tgt := 9) dJ3_checkIndex_8e157_1 (by decide) (by omega) (fun c_1 => ?_)
  refine zV_iload_n hX dJ3_checkIndex_8e157_4 rfl ?_
  refine zV_iload_n hX dJ3_checkIndex_8e157_5 rfl ?_
  refine zV_icmp_ltN hX (tgt := 16) dJ3_checkIndex_8e157_6 (by decide) ⟨by omega, by omega⟩ (fun c_6 => ?_) (fun c_6 => absurd c_6 (by omega))
  refine zV_iload_n hX dJ3_checkIndex_8e157_16 rfl ?_
  exact zV_reti hX hQ hr (⟨rfl, rfl⟩) dJ3_checkIndex_8e157_17
set_option maxHeartbeats 1000000 in
theorem zc_pcheckr (l : Launch) (G : zG) (M : zM) (k n : Nat) (hk : k < n) (hn : n < 2 ^ 31) : zC l G 0 yJ3_checkIndex_8e157 cJ3_checkIndex_8e157 3 (Option.some Jvm.ClassFile.FieldType.int) [.int (nI k), .int (nI n), .ref 4002] M (zP (some (.int (nI k))) M) := by
  refine zC_of (by decide) (Nat.le_of_ble_eq_true rfl) (fun X Q hQ hX hl hR hr => ?_)
  refine zV_loc (L' := [.int (nI k), .int (nI n), .ref 4002]) rfl ?_
  refine zV_iload_n hX dJ3_checkIndex_8e157_0 rfl ?_
  refine zV_if_ltN hX (tgt := 9) dJ3_checkIndex_8e157_1 (by decide) (by omega) (fun c_1 => ?_)
  refine zV_iload_n hX dJ3_checkIndex_8e157_4 rfl ?_
  refine zV_iload_n hX dJ3_checkIndex_8e157_5 rfl ?_
  refine zV_icmp_ltN hX (tgt := 16) dJ3_checkIndex_8e157_6 (by decide) ⟨by omega, by omega⟩ (fun c_6 => ?_) (fun c_6 => absurd c_6 (by omega))
  refine zV_iload_n hX dJ3_checkIndex_8e157_16 rfl ?_
  exact zV_reti hX hQ hr (⟨rfl, rfl⟩) dJ3_checkIndex_8e157_17
theorem zc_pcheck (l : Launch) (G : zG) (M : zM) (k n : Nat) (v : Value) (hv : v = .null ∨ v = .ref 4002) (hk : k < n) (hn : n < 2 ^ 31) : zC l G 0 yJ3_checkIndex_8e157 cJ3_checkIndex_8e157 3 (Option.some Jvm.ClassFile.FieldType.int) [.int (nI k), .int (nI n), v] M (zP (some (.int (nI k))) M) := by
  rcases hv with rfl | rfl
  · exact zc_pcheckn l G M k n hk hn
  · exact zc_pcheckr l G M k n hk hn
set_option maxHeartbeats 1000000 in
theorem zc_scheck (l : Launch) (G : zG) (M : zM) (k n : Nat) (hk : k < n) (hn : n < 2 ^ 31) : zC l G 1 yJ0_checkIndex_df160 cJ0_checkIndex_df160 2 (Option.none : Option Jvm.ClassFile.FieldType) [.int (nI k), .int (nI n)] M (zP none M) := by
  refine zC_of (by decide) (Nat.le_of_ble_eq_true rfl) (fun X Q hQ hX hl hR hr => ?_)
  refine zV_loc (L' := [.int (nI k), .int (nI n)]) rfl ?_
  refine zV_iload_n hX dJ0_checkIndex_df160_0 rfl ?_
  refine zV_iload_n hX dJ0_checkIndex_df160_1 rfl ?_
  refine zV_getsi hX dJ0_checkIndex_df160_2 zfl_J0_1053 (fun v hv => ?_)
  refine zV_cS3p hX hR hl dJ0_checkIndex_df160_5 (zc_pcheck l G M k n v hv hk hn) zt_J3_checkIndex_8e157 rfl zml_J0_1059 (by decide) (Nat.le_of_ble_eq_true rfl) ?_
  dsimp only [Option.toList, List.cons_append, List.nil_append]
  refine zV_pop hX dJ0_checkIndex_df160_8 rfl ?_
  exact zV_retv hX hQ hr (⟨rfl, rfl⟩) dJ0_checkIndex_df160_9
set_option maxHeartbeats 1000000 in
theorem zc_lcharAt (l : Launch) (G : zG) (M : zM) (j k : Nat) (hj : j < 11) (hk : k < zSLen.getD j 0) : zC l G 2 yJ1_charAt_3b067 cJ1_charAt_3b067 2 (Option.some Jvm.ClassFile.FieldType.char) [.ref (6000 + j), .int (nI k)] M (zP (some (.int ((zSByt.getD j []).getD k 0))) M) := by
  refine zC_of (by decide) (Nat.le_of_ble_eq_true rfl) (fun X Q hQ hX hl hR hr => ?_)
  refine zV_loc (L' := [.ref (6000 + j), .int (nI k)]) rfl ?_
  refine zV_iload_n hX dJ1_charAt_3b067_0 rfl ?_
  refine zV_aload_n hX dJ1_charAt_3b067_1 rfl ?_
  refine zV_strl hX dJ1_charAt_3b067_2 hj ?_
  refine zV_cS2p hX hR hl dJ1_charAt_3b067_3 (zc_scheck l G M k (zSLen.getD j 0) hk (Nat.lt_trans (zSLen_lt j hj) (by decide))) zt_J0_checkIndex_df160 rfl zml_J1_9 (by decide) (Nat.le_of_ble_eq_true rfl) ?_
  dsimp only [Option.toList, List.cons_append, List.nil_append]
  refine zV_aload_n hX dJ1_charAt_3b067_6 rfl ?_
  refine zV_iload_n hX dJ1_charAt_3b067_7 rfl ?_
  refine zV_strb hX dJ1_charAt_3b067_8 hj rfl hk ?_
  refine zV_sipush hX (v := nI 255) dJ1_charAt_3b067_9 (by decide) ?_
  refine zV_iand hX dJ1_charAt_3b067_12 ?_
  refine zV_i2c hX dJ1_charAt_3b067_13 ?_
  refine zV_topi ((zSByt.getD j []).getD k 0) (sb_ch j hj k hk) ?_
  exact zV_retz hX hQ hr (sb_nr j hj k hk) (⟨rfl, rfl⟩) dJ1_charAt_3b067_14
set_option maxHeartbeats 1000000 in
theorem zc_charAt (l : Launch) (G : zG) (M : zM) (j k : Nat) (hj : j < 11) (hk : k < zSLen.getD j 0) : zC l G 3 yJ0_charAt_5068e cJ0_charAt_5068e 2 (Option.some Jvm.ClassFile.FieldType.char) [.ref (5000 + j), .int (nI k)] M (zP (some (.int ((zSByt.getD j []).getD k 0))) M) := by
  refine zC_of (by decide) (Nat.le_of_ble_eq_true rfl) (fun X Q hQ hX hl hR hr => ?_)
  refine zV_loc (L' := [.ref (5000 + j), .int (nI k)]) rfl ?_
  refine zV_aload_n hX dJ0_charAt_5068e_0 rfl ?_
  refine zV_cT0p hX hR hl dJ0_charAt_5068e_1 (zc_isLatin1 l G M j hj) zt_J0_isLatin1_aae02 rfl rfl zml_J0_492 ⟨hj, Nat.le_of_ble_eq_true rfl⟩ (Nat.le_of_ble_eq_true rfl) ?_
  dsimp only [Option.toList, List.cons_append, List.nil_append]
  refine zV_if_eqB hX (tgt := 16) dJ0_charAt_5068e_4 (by decide) (fun c_4 => absurd c_4 (by decide)) (fun c_4 => ?_)
  refine zV_aload_n hX dJ0_charAt_5068e_7 rfl ?_
  refine zV_strv hX dJ0_charAt_5068e_8 zfl_J0_9 hj ?_
  refine zV_iload_n hX dJ0_charAt_5068e_11 rfl ?_
  refine zV_cS2p hX hR hl dJ0_charAt_5068e_12 (zc_lcharAt l G M j k hj hk) zt_J1_charAt_3b067 rfl zml_J0_495 (by decide) (Nat.le_of_ble_eq_true rfl) ?_
  dsimp only [Option.toList, List.cons_append, List.nil_append]
  exact zV_retz hX hQ hr (sb_nr j hj k hk) (⟨rfl, rfl⟩) dJ0_charAt_5068e_15
