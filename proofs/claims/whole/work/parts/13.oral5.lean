def oRes1 (o n c m cut jc row L p : Nat) (M : zM) : zM :=
  if oPath o M p && oHears o c M m p then
    (if L = cut ∨ zlast c p = m then zw M (o + 1 + jc) (row + p) (M.1 (o + 1 + 12) (m * 57 + p)) else zw (oGa o (o + 1 + jc) row p n M).2 (o + 1 + jc) (row + p) (oMaj o (o + 1 + jc) row p n M))
  else M
theorem oRes1_fr (o n c m cut jc row L p : Nat) (M : zM) : zFr (fun a => a = o + 1 + 19 ∨ a = o + 1 + jc) M (oRes1 o n c m cut jc row L p M) := by
  unfold oRes1
  split
  · split
    · exact zFr.w zFr.rf (Or.inr rfl)
    · exact zFr.w ((oGa_fr o _ row p M n).mono (fun a h => Or.inl h)) (Or.inr rfl)
  · exact zFr.rf
def oResL (o n c m cut jc row L k : Nat) (M : zM) : zM := zfor (fun i M => oRes1 o n c m cut jc row L (zfr L + i) M) k M
theorem oResL_fr (o n c m cut jc row L k : Nat) (M : zM) : zFr (fun a => a = o + 1 + 19 ∨ a = o + 1 + jc) M (oResL o n c m cut jc row L k M) := zFr.for (fun i M => oRes1_fr o n c m cut jc row L _ M) k M
def oRes (o n c m cut jc row k : Nat) (M : zM) : zM := zfor (fun i M => oResL o n c m cut jc row (cut - i) (zfr (cut - i + 1) - zfr (cut - i)) M) k M
theorem oRes_fr (o n c m cut jc row k : Nat) (M : zM) : zFr (fun a => a = o + 1 + 19 ∨ a = o + 1 + jc) M (oRes o n c m cut jc row k M) := zFr.for (fun i M => oResL_fr o n c m cut jc row _ _ M) k M
theorem nI_dec {a : Nat} (h : 0 < a) : nI a + Int32.ofInt (-1) = nI (a - 1) := by
  obtain ⟨b, rfl⟩ : ∃ b, a = b + 1 := ⟨a - 1, by omega⟩
  exact pk_m1 b
set_option maxHeartbeats 1000000 in
theorem zc_resolve (l : Launch) (G : zG) (M : zM) (o n c m cut jc row len : Nat) (hO : zOb 5 o) (hn : M.1 o 7 = nI n) (hn7 : n ≤ 7) (hcm : M.1 o 0 = nI c) (hc7 : c < 7) (hm : m < 7) (hcut : cut ≤ 3) (hjc : jc = 14 ∨ jc = 17) (hsh : zSh (o + 1 + jc) = (20, len)) (hrl : row + 57 ≤ len) (hlen : len ≤ 2000) : zC l G 3 yX6_resolve cX6_resolve 8 (Option.none : Option Jvm.ClassFile.FieldType) [.ref o, .int (nI m), .int (nI cut), .ref (o + 1 + jc), .int (nI row)] M (zP none (oRes o n c m cut jc row cut M)) := by
  refine zC_of (by decide) (Nat.le_of_ble_eq_true rfl) (fun X Q hQ hX hl hR hr => ?_)
  refine zV_loc (L' := [.ref o, .int (nI m), .int (nI cut), .ref (o + 1 + jc), .int (nI row), .null, .null, .null]) rfl ?_
  have L3 : ∀ (f9 k : Nat) (v1 v2 : Value), cut - k < f9 → k ≤ cut → zV G X Q 8 0 0 3 [.ref o, .int (nI m), .int (nI cut), .ref (o + 1 + jc), .int (nI row), .int (nI (cut - k)), v1, v2] [] (oRes o n c m cut jc row k M) := by
    intro f9
    induction f9 with
    | zero => intro k v1 v2 hk1 hk2; exact absurd hk1 (Nat.not_lt_zero _)
    | succ f9 ih =>
      intro k v1 v2 hk1 hk2
      have L17 : k < cut → ∀ (f9 j : Nat) (v2 : Value), zfr ((cut - k) + 1) - (zfr (cut - k) + j) < f9 → (zfr (cut - k) + j) ≤ zfr ((cut - k) + 1) → zV G X Q 8 0 0 17 [.ref o, .int (nI m), .int (nI cut), .ref (o + 1 + jc), .int (nI row), .int (nI (cut - k)), .int (nI (zfr (cut - k) + j)), v2] [] (oResL o n c m cut jc row (cut - k) j (oRes o n c m cut jc row k M)) := by
        intro hkc
        intro f9
        induction f9 with
        | zero => intro j v2 hj1 hj2; exact absurd hj1 (Nat.not_lt_zero _)
        | succ f9 ih2 =>
          intro j v2 hj1 hj2
          have hst := (oRes_fr o n c m cut jc row k M).tr (oResL_fr o n c m cut jc row (cut - k) j (oRes o n c m cut jc row k M))
          have hq8 : zfr ((cut - k) + 1) ≤ 57 ∧ zfr (cut - k) ≤ zfr ((cut - k) + 1) := by rcases (show (cut - k) = 1 ∨ (cut - k) = 2 ∨ (cut - k) = 3 by omega) with q | q | q <;> rw [q] <;> decide
          refine zV_iload hX dX6_resolve_17 rfl ?_
          refine zV_from hX dX6_resolve_19 zfl_X6_139 ?_
          refine zV_iload hX dX6_resolve_22 rfl ?_
          refine zV_iconst hX (v := nI 1) dX6_resolve_24 (by decide) ?_
          refine zV_iaddN hX dX6_resolve_25 ?_
          refine zV_ifrom hX dX6_resolve_26 rfl (by omega) (zfr_from _ (by omega)) ?_
          refine zV_icmp_geN hX (tgt := 109) dX6_resolve_27 (by decide) ⟨by omega, by omega⟩ (fun c_27 => ?_) (fun c_27 => ?_)
          · refine zV_iinc hX dX6_resolve_109 rfl (nI_dec (by omega)) (by decide) ?_
            dsimp only [zst1, zst2, zclr, zc2]
            refine zV_goto hX (tgt := 3) dX6_resolve_112 (by decide) ?_
            have h9 := ih (k + 1) (.int (nI (zfr (cut - k) + j))) v2 (by omega) (by omega)
            rw [show oRes o n c m cut jc row (k + 1) M = oResL o n c m cut jc row (cut - k) (zfr ((cut - k) + 1) - zfr (cut - k)) (oRes o n c m cut jc row k M) from rfl, show zfr ((cut - k) + 1) - zfr (cut - k) = j by omega, show cut - (k + 1) = cut - k - 1 by omega] at h9
            exact h9
          · have hq9 : (zfr (cut - k) + j) < zfr ((cut - k) + 1) := by omega
            refine zV_aload_n hX dX6_resolve_30 rfl ?_
            refine zV_iload hX dX6_resolve_31 rfl ?_
            refine zV_cV1p hX hR hl dX6_resolve_33 (zc_isPath l G _ o (zfr (cut - k) + j) hO (by omega)) zt_X6_isPath rfl zml_X6_128 hO.1 ⟨by decide, by decide⟩ (Nat.le_of_ble_eq_true rfl) ?_
            dsimp only [Option.toList, List.cons_append, List.nil_append]
            refine zV_if_eqB hX (tgt := 103) dX6_resolve_36 (by decide) (fun c_36 => ?_) (fun c_36 => ?_)
            · have e9 : oRes1 o n c m cut jc row (cut - k) (zfr (cut - k) + j) (oResL o n c m cut jc row (cut - k) j (oRes o n c m cut jc row k M)) = (oResL o n c m cut jc row (cut - k) j (oRes o n c m cut jc row k M)) := by rw [oRes1, if_neg (by simp [c_36])]
              refine zV_iincN hX (b := 1) dX6_resolve_103 rfl (by decide) ?_
              dsimp only [zst1, zst2, zclr, zc2]
              refine zV_goto hX (tgt := 17) dX6_resolve_106 (by decide) ?_
              have h9 := fun v => ih2 (j + 1) v (by omega) (by omega)
              simp only [show oResL o n c m cut jc row (cut - k) (j + 1) (oRes o n c m cut jc row k M) = oRes1 o n c m cut jc row (cut - k) (zfr (cut - k) + j) (oResL o n c m cut jc row (cut - k) j (oRes o n c m cut jc row k M)) from rfl, e9] at h9
              exact h9 _
            · refine zV_aload_n hX dX6_resolve_39 rfl ?_
              refine zV_iload_n hX dX6_resolve_40 rfl ?_
              refine zV_iload hX dX6_resolve_41 rfl ?_
              refine zV_cV2p hX hR hl dX6_resolve_43 (zc_hears l G _ o m (zfr (cut - k) + j) c hO (by rw [hst.at (by rcases hjc with rfl | rfl <;> omega), hcm]) hc7 hm (by omega)) zt_X6_hears rfl zml_X6_189 hO.1 ⟨by decide, by decide⟩ (Nat.le_of_ble_eq_true rfl) ?_
              dsimp only [Option.toList, List.cons_append, List.nil_append]
              refine zV_if_eqB hX (tgt := 103) dX6_resolve_46 (by decide) (fun c_46 => ?_) (fun c_46 => ?_)
              · have e9 : oRes1 o n c m cut jc row (cut - k) (zfr (cut - k) + j) (oResL o n c m cut jc row (cut - k) j (oRes o n c m cut jc row k M)) = (oResL o n c m cut jc row (cut - k) j (oRes o n c m cut jc row k M)) := by rw [oRes1, if_neg (by simp [c_46])]
                refine zV_iincN hX (b := 1) dX6_resolve_103 rfl (by decide) ?_
                dsimp only [zst1, zst2, zclr, zc2]
                refine zV_goto hX (tgt := 17) dX6_resolve_106 (by decide) ?_
                have h9 := fun v => ih2 (j + 1) v (by omega) (by omega)
                simp only [show oResL o n c m cut jc row (cut - k) (j + 1) (oRes o n c m cut jc row k M) = oRes1 o n c m cut jc row (cut - k) (zfr (cut - k) + j) (oResL o n c m cut jc row (cut - k) j (oRes o n c m cut jc row k M)) from rfl, e9] at h9
                exact h9 _
              · refine zV_iload hX dX6_resolve_49 rfl ?_
                refine zV_iload_n hX dX6_resolve_51 rfl ?_
                refine zV_icmp_eqN hX (tgt := 65) dX6_resolve_52 (by decide) ⟨by omega, by omega⟩ (fun c_52 => ?_) (fun c_52 => ?_)
                · have e9 : oRes1 o n c m cut jc row (cut - k) (zfr (cut - k) + j) (oResL o n c m cut jc row (cut - k) j (oRes o n c m cut jc row k M)) = zw (oResL o n c m cut jc row (cut - k) j (oRes o n c m cut jc row k M)) (o + 1 + jc) (row + (zfr (cut - k) + j)) ((oResL o n c m cut jc row (cut - k) j (oRes o n c m cut jc row k M)).1 (o + 1 + 12) (m * 57 + (zfr (cut - k) + j))) := by rw [oRes1, if_pos (by simp [c_36, c_46]), if_pos (Or.inl c_52)]
                  refine zV_iconst hX (v := nI 1) dX6_resolve_65 (by decide) ?_
                  refine zV_topi (zb true) rfl ?_
                  refine zV_goto hX (tgt := 70) dX6_resolve_66 (by decide) ?_
                  refine zV_istore hX dX6_resolve_70 (by decide) ?_
                  dsimp only [zst1, zst2, zclr, zc2]
                  refine zV_aload_n hX dX6_resolve_72 rfl ?_
                  refine zV_iload hX dX6_resolve_73 rfl ?_
                  refine zV_iload hX dX6_resolve_75 rfl ?_
                  refine zV_iaddN hX dX6_resolve_77 ?_
                  refine zV_iload hX dX6_resolve_78 rfl ?_
                  refine zV_if_eqB hX (tgt := 93) dX6_resolve_80 (by decide) (fun c_80 => absurd c_80 (by decide)) (fun c_80 => ?_)
                  refine zV_aload_n hX dX6_resolve_83 rfl ?_
                  refine zV_iload_n hX dX6_resolve_84 rfl ?_
                  refine zV_iload hX dX6_resolve_85 rfl ?_
                  refine zV_cV2p hX hR hl dX6_resolve_87 (zc_heardBy l G _ o m (zfr (cut - k) + j) hO hm (by omega)) zt_X6_heardBy rfl zml_X6_163 hO.1 ⟨by decide, by decide⟩ (Nat.le_of_ble_eq_true rfl) ?_
                  dsimp only [Option.toList, List.cons_append, List.nil_append]
                  refine zV_goto hX (tgt := 102) dX6_resolve_90 (by decide) ?_
                  refine zV_iast hX dX6_resolve_102 hsh (rfl) ⟨by omega, by omega⟩ ?_
                  refine zV_iincN hX (b := 1) dX6_resolve_103 rfl (by decide) ?_
                  dsimp only [zst1, zst2, zclr, zc2]
                  refine zV_goto hX (tgt := 17) dX6_resolve_106 (by decide) ?_
                  have h9 := fun v => ih2 (j + 1) v (by omega) (by omega)
                  simp only [show oResL o n c m cut jc row (cut - k) (j + 1) (oRes o n c m cut jc row k M) = oRes1 o n c m cut jc row (cut - k) (zfr (cut - k) + j) (oResL o n c m cut jc row (cut - k) j (oRes o n c m cut jc row k M)) from rfl, e9] at h9
                  exact h9 _
                · refine zV_aload_n hX dX6_resolve_55 rfl ?_
                  refine zV_iload hX dX6_resolve_56 rfl ?_
                  refine zV_cV1p hX hR hl dX6_resolve_58 (zc_lastOf l G _ o (zfr (cut - k) + j) c hO (by rw [hst.at (by rcases hjc with rfl | rfl <;> omega), hcm]) (by omega)) zt_X6_lastOf rfl zml_X6_135 hO.1 ⟨by decide, by decide⟩ (Nat.le_of_ble_eq_true rfl) ?_
                  dsimp only [Option.toList, List.cons_append, List.nil_append]
                  refine zV_iload_n hX dX6_resolve_61 rfl ?_
                  refine zV_icmp_neN hX (tgt := 69) dX6_resolve_62 (by decide) ⟨by have := zlast_lt (c := c) (p := (zfr (cut - k) + j)) (by omega) hc7; omega, by omega⟩ (fun c_62 => ?_) (fun c_62 => ?_)
                  · have e9 : oRes1 o n c m cut jc row (cut - k) (zfr (cut - k) + j) (oResL o n c m cut jc row (cut - k) j (oRes o n c m cut jc row k M)) = zw (oGa o (o + 1 + jc) row (zfr (cut - k) + j) n (oResL o n c m cut jc row (cut - k) j (oRes o n c m cut jc row k M))).2 (o + 1 + jc) (row + (zfr (cut - k) + j)) (oMaj o (o + 1 + jc) row (zfr (cut - k) + j) n (oResL o n c m cut jc row (cut - k) j (oRes o n c m cut jc row k M))) := by rw [oRes1, if_pos (by simp [c_36, c_46]), if_neg (fun q => q.elim c_52 c_62)]
                    refine zV_iconst hX (v := nI 0) dX6_resolve_69 (by decide) ?_
                    refine zV_topi (zb false) rfl ?_
                    refine zV_istore hX dX6_resolve_70 (by decide) ?_
                    dsimp only [zst1, zst2, zclr, zc2]
                    refine zV_aload_n hX dX6_resolve_72 rfl ?_
                    refine zV_iload hX dX6_resolve_73 rfl ?_
                    refine zV_iload hX dX6_resolve_75 rfl ?_
                    refine zV_iaddN hX dX6_resolve_77 ?_
                    refine zV_iload hX dX6_resolve_78 rfl ?_
                    refine zV_if_eqB hX (tgt := 93) dX6_resolve_80 (by decide) (fun c_80 => ?_) (fun c_80 => absurd c_80 (by decide))
                    refine zV_aload_n hX dX6_resolve_93 rfl ?_
                    refine zV_aload_n hX dX6_resolve_94 rfl ?_
                    refine zV_iload hX dX6_resolve_95 rfl ?_
                    refine zV_iload hX dX6_resolve_97 rfl ?_
                    refine zV_cV3p hX hR hl dX6_resolve_99 (zc_majority l G _ o (o + 1 + jc) row (zfr (cut - k) + j) n len hO (by rw [hst.at (by rcases hjc with rfl | rfl <;> omega), hn]) hn7 hsh hrl hlen (by rcases hjc with rfl | rfl <;> omega) (by rcases (show (cut - k) = 1 ∨ (cut - k) = 2 ∨ (cut - k) = 3 by omega) with q | q | q <;> simp [q, zfr] at hq9 ⊢ <;> omega)) zt_X6_majority rfl zml_X6_192 hO.1 ⟨by decide, by decide⟩ (Nat.le_of_ble_eq_true rfl) ?_
                    dsimp only [Option.toList, List.cons_append, List.nil_append]
                    refine zV_iast hX dX6_resolve_102 hsh (rfl) ⟨by omega, by omega⟩ ?_
                    refine zV_iincN hX (b := 1) dX6_resolve_103 rfl (by decide) ?_
                    dsimp only [zst1, zst2, zclr, zc2]
                    refine zV_goto hX (tgt := 17) dX6_resolve_106 (by decide) ?_
                    have h9 := fun v => ih2 (j + 1) v (by omega) (by omega)
                    simp only [show oResL o n c m cut jc row (cut - k) (j + 1) (oRes o n c m cut jc row k M) = oRes1 o n c m cut jc row (cut - k) (zfr (cut - k) + j) (oResL o n c m cut jc row (cut - k) j (oRes o n c m cut jc row k M)) from rfl, e9] at h9
                    exact h9 _
                  · have e9 : oRes1 o n c m cut jc row (cut - k) (zfr (cut - k) + j) (oResL o n c m cut jc row (cut - k) j (oRes o n c m cut jc row k M)) = zw (oResL o n c m cut jc row (cut - k) j (oRes o n c m cut jc row k M)) (o + 1 + jc) (row + (zfr (cut - k) + j)) ((oResL o n c m cut jc row (cut - k) j (oRes o n c m cut jc row k M)).1 (o + 1 + 12) (m * 57 + (zfr (cut - k) + j))) := by rw [oRes1, if_pos (by simp [c_36, c_46]), if_pos (Or.inr c_62)]
                    refine zV_iconst hX (v := nI 1) dX6_resolve_65 (by decide) ?_
                    refine zV_topi (zb true) rfl ?_
                    refine zV_goto hX (tgt := 70) dX6_resolve_66 (by decide) ?_
                    refine zV_istore hX dX6_resolve_70 (by decide) ?_
                    dsimp only [zst1, zst2, zclr, zc2]
                    refine zV_aload_n hX dX6_resolve_72 rfl ?_
                    refine zV_iload hX dX6_resolve_73 rfl ?_
                    refine zV_iload hX dX6_resolve_75 rfl ?_
                    refine zV_iaddN hX dX6_resolve_77 ?_
                    refine zV_iload hX dX6_resolve_78 rfl ?_
                    refine zV_if_eqB hX (tgt := 93) dX6_resolve_80 (by decide) (fun c_80 => absurd c_80 (by decide)) (fun c_80 => ?_)
                    refine zV_aload_n hX dX6_resolve_83 rfl ?_
                    refine zV_iload_n hX dX6_resolve_84 rfl ?_
                    refine zV_iload hX dX6_resolve_85 rfl ?_
                    refine zV_cV2p hX hR hl dX6_resolve_87 (zc_heardBy l G _ o m (zfr (cut - k) + j) hO hm (by omega)) zt_X6_heardBy rfl zml_X6_163 hO.1 ⟨by decide, by decide⟩ (Nat.le_of_ble_eq_true rfl) ?_
                    dsimp only [Option.toList, List.cons_append, List.nil_append]
                    refine zV_goto hX (tgt := 102) dX6_resolve_90 (by decide) ?_
                    refine zV_iast hX dX6_resolve_102 hsh (rfl) ⟨by omega, by omega⟩ ?_
                    refine zV_iincN hX (b := 1) dX6_resolve_103 rfl (by decide) ?_
                    dsimp only [zst1, zst2, zclr, zc2]
                    refine zV_goto hX (tgt := 17) dX6_resolve_106 (by decide) ?_
                    have h9 := fun v => ih2 (j + 1) v (by omega) (by omega)
                    simp only [show oResL o n c m cut jc row (cut - k) (j + 1) (oRes o n c m cut jc row k M) = oRes1 o n c m cut jc row (cut - k) (zfr (cut - k) + j) (oResL o n c m cut jc row (cut - k) j (oRes o n c m cut jc row k M)) from rfl, e9] at h9
                    exact h9 _
      refine zV_iload hX dX6_resolve_3 rfl ?_
      refine zV_iconst hX (v := nI 1) dX6_resolve_5 (by decide) ?_
      refine zV_icmp_ltN hX (tgt := 115) dX6_resolve_6 (by decide) ⟨by omega, by omega⟩ (fun c_6 => ?_) (fun c_6 => ?_)
      · exact zV_retv hX hQ hr (⟨rfl, by rw [show k = cut by omega]⟩) dX6_resolve_115
      · refine zV_from hX dX6_resolve_9 zfl_X6_139 ?_
        refine zV_iload hX dX6_resolve_12 rfl ?_
        refine zV_ifrom hX dX6_resolve_14 rfl (by omega) (zfr_from _ (by omega)) ?_
        refine zV_istore hX dX6_resolve_15 (by decide) ?_
        dsimp only [zst1, zst2, zclr, zc2]
        exact L17 (by omega) (zfr ((cut - k) + 1) + 1) 0 _ (by omega) (by rcases (show (cut - k) = 1 ∨ (cut - k) = 2 ∨ (cut - k) = 3 by omega) with q | q | q <;> rw [q] <;> decide)
  refine zV_iload_n hX dX6_resolve_0 rfl ?_
  refine zV_istore hX dX6_resolve_1 (by decide) ?_
  dsimp only [zst1, zst2, zclr, zc2]
  exact L3 (cut + 1) 0 _ _ (by omega) (by omega)
def zfst (q : Nat → Bool) : Nat → Option Nat
  | 0 => none
  | k + 1 => match zfst q k with
    | some a => some a
    | none => if q k then some k else none
def zfv (q : Nat → Bool) (k : Nat) : Int32 := match zfst q k with
  | none => -1
  | some a => nI a
def zcom (q : Nat → Bool) (v : Nat → Int32) : Nat → Bool
  | 0 => true
  | k + 1 => zcom q v k && (!q k || (match zfst q (k + 1) with
    | some a => v k == v a
    | none => true))
theorem zfst_lt {q : Nat → Bool} : ∀ {k a : Nat}, zfst q k = some a → a < k
  | 0, a, h => by simp [zfst] at h
  | k + 1, a, h => by
    unfold zfst at h
    cases e : zfst q k with
    | some b =>
      rw [e] at h
      have := zfst_lt e
      cases h
      omega
    | none =>
      rw [e] at h
      simp only at h
      split at h
      · cases h; omega
      · cases h
theorem zfst_keep {q : Nat → Bool} {k : Nat} (h : q k = false) : zfst q (k + 1) = zfst q k := by
  rw [zfst]
  cases e : zfst q k with
  | some a => rfl
  | none => simp [h]
theorem zfst_old {q : Nat → Bool} {k a : Nat} (h : zfst q k = some a) : zfst q (k + 1) = some a := by rw [zfst, h]
theorem zfst_new {q : Nat → Bool} {k : Nat} (h : zfst q k = none) (hq : q k = true) : zfst q (k + 1) = some k := by rw [zfst, h]; simp [hq]
theorem zfv_some {q : Nat → Bool} {k a : Nat} (h : zfst q k = some a) : zfv q k = nI a := by rw [zfv, h]
theorem zfv_ne {q : Nat → Bool} {k : Nat} (h : ¬ zfv q k = -1) : ∃ a, zfst q k = some a ∧ zfv q k = nI a := by
  cases e : zfst q k with
  | none => exact absurd (by rw [zfv, e]) h
  | some a => exact ⟨a, rfl, zfv_some e⟩
theorem nI_m1 {a : Nat} (h : a < 2 ^ 31) : ¬ nI a = -1 := fun e => by
  have h1 : (nI a).toInt = (-1 : Int32).toInt := by rw [e]
  rw [nI_toInt h] at h1
  have : (-1 : Int32).toInt = -1 := by decide
  omega
theorem zfv_none {q : Nat → Bool} {k : Nat} (hk : k < 2 ^ 31) (h : zfv q k = -1) : zfst q k = none := by
  cases e : zfst q k with
  | none => rfl
  | some a =>
    rw [zfv_some e] at h
    exact absurd h (nI_m1 (Nat.lt_trans (zfst_lt e) hk))
theorem zcom_f {q : Nat → Bool} {v : Nat → Int32} {k : Nat} : ∀ {n : Nat}, k < n → zcom q v (k + 1) = false → zcom q v n = false
  | 0, h, _ => absurd h (Nat.not_lt_zero k)
  | n + 1, h, hp => by
    rcases Nat.lt_or_ge k n with e | e
    · rw [zcom, zcom_f e hp]; rfl
    · rw [show n = k by omega]; exact hp
def oCq (o : Nat) (M : zM) (p : Nat) : Nat → Bool := fun i => !bit (M.1 o 10) i && !oOn o M p i
def oCv (o : Nat) (M : zM) (p : Nat) : Nat → Int32 := fun i => M.1 (o + 1 + 14) (i * 57 + p)
def oCom (o n p : Nat) (M : zM) : Bool := zcom (oCq o M p) (oCv o M p) n
set_option maxHeartbeats 1000000 in
theorem zc_isCommon (l : Launch) (G : zG) (M : zM) (o n p : Nat) (hO : zOb 5 o) (hn : M.1 o 7 = nI n) (hn7 : n ≤ 7) (hp : p < 57) : zC l G 1 yX6_isCommon cX6_isCommon 4 (Option.some Jvm.ClassFile.FieldType.boolean) [.ref o, .int (nI p)] M (zP (some (.int (zb (oCom o n p M)))) M) := by
  refine zC_of (by decide) (Nat.le_of_ble_eq_true rfl) (fun X Q hQ hX hl hR hr => ?_)
  refine zV_loc (L' := [.ref o, .int (nI p), .null, .null]) rfl ?_
  have L4 : ∀ (f9 k : Nat), n - k < f9 → k ≤ n → zcom (oCq o M p) (oCv o M p) k = true → zV G X Q 4 0 0 4 [.ref o, .int (nI p), .int (zfv (oCq o M p) k), .int (nI k)] [] M := by
    intro f9
    induction f9 with
    | zero => intro k hk1 hk2 hk3; exact absurd hk1 (Nat.not_lt_zero _)
    | succ f9 ih =>
      intro k hk1 hk2 hk3
      have J42 : k < n → bit (M.1 o 10) k = false → oOn o M p k = false → ∀ (a : Nat), zfst (oCq o M p) (k + 1) = some a → (oCq o M p) k = true → zV G X Q 4 0 0 42 [.ref o, .int (nI p), .int (zfv (oCq o M p) k), .int (nI k)] [.int (nI a)] M := by
        intro c_9 c_20 c_29 a ha e8
        refine zV_istore_n hX dX6_isCommon_42 (by decide) ?_
        dsimp only [zst1, zst2, zclr, zc2]
        refine zV_aload_n hX dX6_isCommon_43 rfl ?_
        refine zV_iload_n hX dX6_isCommon_44 rfl ?_
        refine zV_iload_n hX dX6_isCommon_45 rfl ?_
        refine zV_cV2p hX hR hl dX6_isCommon_46 (zc_resolvedBy l G M o k p hO (by omega) hp) zt_X6_resolvedBy rfl zml_X6_114 hO.1 ⟨by decide, by decide⟩ (Nat.le_of_ble_eq_true rfl) ?_
        dsimp only [Option.toList, List.cons_append, List.nil_append]
        refine zV_aload_n hX dX6_isCommon_49 rfl ?_
        refine zV_iload_n hX dX6_isCommon_50 rfl ?_
        refine zV_iload_n hX dX6_isCommon_51 rfl ?_
        refine zV_cV2p hX hR hl dX6_isCommon_52 (zc_resolvedBy l G M o a p hO (by have := zfst_lt ha; omega) hp) zt_X6_resolvedBy rfl zml_X6_114 hO.1 ⟨by decide, by decide⟩ (Nat.le_of_ble_eq_true rfl) ?_
        dsimp only [Option.toList, List.cons_append, List.nil_append]
        refine zV_icmp_eq hX (tgt := 60) dX6_isCommon_55 (by decide) (fun c_55 => ?_) (fun c_55 => ?_)
        · have e9 : zcom (oCq o M p) (oCv o M p) (k + 1) = true := by rw [zcom, hk3, ha]; show (true && (!_ || (oCv o M p) k == (oCv o M p) a)) = true; rw [show (oCv o M p) k = (oCv o M p) a from c_55]; simp
          refine zV_iincN hX (b := 1) dX6_isCommon_60 rfl (by decide) ?_
          dsimp only [zst1, zst2, zclr, zc2]
          refine zV_goto hX (tgt := 4) dX6_isCommon_63 (by decide) ?_
          have h9 := ih (k + 1) (by omega) (by omega) e9
          rw [zfv_some ha] at h9
          exact h9
        · refine zV_iconst hX (v := nI 0) dX6_isCommon_58 (by decide) ?_
          exact zV_retz hX hQ hr (rfl) (⟨by rw [oCom, zcom_f (k := k) (by omega) (by rw [zcom, ha, e8]; show (_ && (!true || (oCv o M p) k == (oCv o M p) a)) = false; rw [beq_false_of_ne (show (oCv o M p) k ≠ (oCv o M p) a from c_55)]; simp)]; rfl, rfl⟩) dX6_isCommon_59
      refine zV_iload_n hX dX6_isCommon_4 rfl ?_
      refine zV_aload_n hX dX6_isCommon_5 rfl ?_
      refine zV_geti hX dX6_isCommon_6 zf_X6_67 hO.1 rfl (hn) ?_
      refine zV_icmp_geN hX (tgt := 66) dX6_isCommon_9 (by decide) ⟨by omega, by omega⟩ (fun c_9 => ?_) (fun c_9 => ?_)
      · refine zV_iconst hX (v := nI 1) dX6_isCommon_66 (by decide) ?_
        exact zV_retz hX hQ hr (rfl) (⟨by rw [oCom, show n = k by omega, hk3]; rfl, rfl⟩) dX6_isCommon_67
      · refine zV_aload_n hX dX6_isCommon_12 rfl ?_
        refine zV_geti hX dX6_isCommon_13 zf_X6_85 hO.1 rfl rfl ?_
        refine zV_iload_n hX dX6_isCommon_16 rfl ?_
        refine zV_cS2p hX hR hl dX6_isCommon_17 (zc_isIn l G M _ k) zt_X9_isIn rfl zml_X6_124 (by decide) (Nat.le_of_ble_eq_true rfl) ?_
        dsimp only [Option.toList, List.cons_append, List.nil_append]
        refine zV_if_neB hX (tgt := 60) dX6_isCommon_20 (by decide) (fun c_20 => ?_) (fun c_20 => ?_)
        · have e8 : (oCq o M p) k = false := by simp [oCq, c_20]
          have e9 : zcom (oCq o M p) (oCv o M p) (k + 1) = true := by rw [zcom, hk3, e8]; rfl
          refine zV_iincN hX (b := 1) dX6_isCommon_60 rfl (by decide) ?_
          dsimp only [zst1, zst2, zclr, zc2]
          refine zV_goto hX (tgt := 4) dX6_isCommon_63 (by decide) ?_
          have h9 := ih (k + 1) (by omega) (by omega) e9
          rw [zfv, zfst_keep e8] at h9
          exact h9
        · refine zV_aload_n hX dX6_isCommon_23 rfl ?_
          refine zV_iload_n hX dX6_isCommon_24 rfl ?_
          refine zV_iload_n hX dX6_isCommon_25 rfl ?_
          refine zV_cV2p hX hR hl dX6_isCommon_26 (zc_isOn l G M o p k hO hp) zt_X6_isOn rfl zml_X6_132 hO.1 ⟨by decide, by decide⟩ (Nat.le_of_ble_eq_true rfl) ?_
          dsimp only [Option.toList, List.cons_append, List.nil_append]
          refine zV_if_neB hX (tgt := 60) dX6_isCommon_29 (by decide) (fun c_29 => ?_) (fun c_29 => ?_)
          · have e8 : (oCq o M p) k = false := by simp [oCq, c_29]
            have e9 : zcom (oCq o M p) (oCv o M p) (k + 1) = true := by rw [zcom, hk3, e8]; rfl
            refine zV_iincN hX (b := 1) dX6_isCommon_60 rfl (by decide) ?_
            dsimp only [zst1, zst2, zclr, zc2]
            refine zV_goto hX (tgt := 4) dX6_isCommon_63 (by decide) ?_
            have h9 := ih (k + 1) (by omega) (by omega) e9
            rw [zfv, zfst_keep e8] at h9
            exact h9
          · have e8 : (oCq o M p) k = true := by simp [oCq, c_20, c_29]
            refine zV_iload_n hX dX6_isCommon_32 rfl ?_
            refine zV_iconst hX (v := (-1)) dX6_isCommon_33 (by decide) ?_
            refine zV_icmp_ne hX (tgt := 41) dX6_isCommon_34 (by decide) (fun c_34 => ?_) (fun c_34 => ?_)
            · obtain ⟨a, ha, ha2⟩ := zfv_ne c_34
              refine zV_iload_n hX dX6_isCommon_41 rfl ?_
              refine zV_topi (nI a) ha2 ?_
              exact J42 c_9 c_20 c_29 a (zfst_old ha) e8
            · refine zV_iload_n hX dX6_isCommon_37 rfl ?_
              refine zV_goto hX (tgt := 42) dX6_isCommon_38 (by decide) ?_
              exact J42 c_9 c_20 c_29 k (zfst_new (zfv_none (by omega) c_34) e8) e8
  refine zV_iconst hX (v := (-1)) dX6_isCommon_0 (by decide) ?_
  refine zV_istore_n hX dX6_isCommon_1 (by decide) ?_
  dsimp only [zst1, zst2, zclr, zc2]
  refine zV_iconst hX (v := nI 0) dX6_isCommon_2 (by decide) ?_
  refine zV_istore_n hX dX6_isCommon_3 (by decide) ?_
  dsimp only [zst1, zst2, zclr, zc2]
  exact L4 (n + 1) 0 (by omega) (by omega) rfl
def oHcp (o n p : Nat) (M : zM) : Bool := oCom o n 0 M || oCom o n p M || (decide (8 ≤ p) && oCom o n (1 + zsec p) M)
set_option maxHeartbeats 1000000 in
theorem zc_hcp (l : Launch) (G : zG) (M : zM) (o n p : Nat) (hO : zOb 5 o) (hn : M.1 o 7 = nI n) (hn7 : n ≤ 7) (hp : p < 57) : zC l G 2 yX6_hasCommonPart cX6_hasCommonPart 2 (Option.some Jvm.ClassFile.FieldType.boolean) [.ref o, .int (nI p)] M (zP (some (.int (zb (oHcp o n p M)))) M) := by
  refine zC_of (by decide) (Nat.le_of_ble_eq_true rfl) (fun X Q hQ hX hl hR hr => ?_)
  refine zV_loc (L' := [.ref o, .int (nI p)]) rfl ?_
  refine zV_aload_n hX dX6_hasCommonPart_0 rfl ?_
  refine zV_iconst hX (v := nI 0) dX6_hasCommonPart_1 (by decide) ?_
  refine zV_cV1p hX hR hl dX6_hasCommonPart_2 (zc_isCommon l G M o n 0 hO hn hn7 (by decide)) zt_X6_isCommon rfl zml_X6_142 hO.1 ⟨by decide, by decide⟩ (Nat.le_of_ble_eq_true rfl) ?_
  dsimp only [Option.toList, List.cons_append, List.nil_append]
  refine zV_if_neB hX (tgt := 35) dX6_hasCommonPart_5 (by decide) (fun c_5 => ?_) (fun c_5 => ?_)
  · have e9 : oHcp o n p M = true := by simp [oHcp, c_5]
    refine zV_iconst hX (v := nI 1) dX6_hasCommonPart_35 (by decide) ?_
    refine zV_goto hX (tgt := 40) dX6_hasCommonPart_36 (by decide) ?_
    exact zV_retz hX hQ hr (rfl) (⟨by rw [e9]; rfl, rfl⟩) dX6_hasCommonPart_40
  · refine zV_aload_n hX dX6_hasCommonPart_8 rfl ?_
    refine zV_iload_n hX dX6_hasCommonPart_9 rfl ?_
    refine zV_cV1p hX hR hl dX6_hasCommonPart_10 (zc_isCommon l G M o n p hO hn hn7 hp) zt_X6_isCommon rfl zml_X6_142 hO.1 ⟨by decide, by decide⟩ (Nat.le_of_ble_eq_true rfl) ?_
    dsimp only [Option.toList, List.cons_append, List.nil_append]
    refine zV_if_neB hX (tgt := 35) dX6_hasCommonPart_13 (by decide) (fun c_13 => ?_) (fun c_13 => ?_)
    · have e9 : oHcp o n p M = true := by simp [oHcp, c_13]
      refine zV_iconst hX (v := nI 1) dX6_hasCommonPart_35 (by decide) ?_
      refine zV_goto hX (tgt := 40) dX6_hasCommonPart_36 (by decide) ?_
      exact zV_retz hX hQ hr (rfl) (⟨by rw [e9]; rfl, rfl⟩) dX6_hasCommonPart_40
    · refine zV_iload_n hX dX6_hasCommonPart_16 rfl ?_
      refine zV_bipush hX (v := nI 8) dX6_hasCommonPart_17 (by decide) ?_
      refine zV_icmp_ltN hX (tgt := 39) dX6_hasCommonPart_19 (by decide) ⟨by omega, by omega⟩ (fun c_19 => ?_) (fun c_19 => ?_)
      · have e9 : oHcp o n p M = false := by rw [oHcp, c_5, c_13, decide_eq_false (by omega)]; rfl
        refine zV_iconst hX (v := nI 0) dX6_hasCommonPart_39 (by decide) ?_
        exact zV_retz hX hQ hr (rfl) (⟨by rw [e9]; rfl, rfl⟩) dX6_hasCommonPart_40
      · refine zV_aload_n hX dX6_hasCommonPart_22 rfl ?_
        refine zV_iconst hX (v := nI 1) dX6_hasCommonPart_23 (by decide) ?_
        refine zV_iload_n hX dX6_hasCommonPart_24 rfl ?_
        refine zV_cS1p hX hR hl dX6_hasCommonPart_25 (zc_secondOf l G M p (by omega) hp) zt_X6_secondOf rfl zml_X6_148 (by decide) (Nat.le_of_ble_eq_true rfl) ?_
        dsimp only [Option.toList, List.cons_append, List.nil_append]
        refine zV_iaddN hX dX6_hasCommonPart_28 ?_
        refine zV_cV1p hX hR hl dX6_hasCommonPart_29 (zc_isCommon l G M o n (1 + zsec p) hO hn hn7 (by unfold zsec; split <;> omega)) zt_X6_isCommon rfl zml_X6_142 hO.1 ⟨by decide, by decide⟩ (Nat.le_of_ble_eq_true rfl) ?_
        dsimp only [Option.toList, List.cons_append, List.nil_append]
        refine zV_if_eqB hX (tgt := 39) dX6_hasCommonPart_32 (by decide) (fun c_32 => ?_) (fun c_32 => ?_)
        · have e9 : oHcp o n p M = false := by rw [oHcp, c_5, c_13, c_32, Bool.and_false]; rfl
          refine zV_iconst hX (v := nI 0) dX6_hasCommonPart_39 (by decide) ?_
          exact zV_retz hX hQ hr (rfl) (⟨by rw [e9]; rfl, rfl⟩) dX6_hasCommonPart_40
        · have e9 : oHcp o n p M = true := by rw [oHcp, c_32, decide_eq_true c_19]; simp
          refine zV_iconst hX (v := nI 1) dX6_hasCommonPart_35 (by decide) ?_
          refine zV_goto hX (tgt := 40) dX6_hasCommonPart_36 (by decide) ?_
          exact zV_retz hX hQ hr (rfl) (⟨by rw [e9]; rfl, rfl⟩) dX6_hasCommonPart_40
def oOnes (o n L : Nat) (M : zM) : Nat := zcnt (fun i => oPath o M (zfr L + i) && oCom o n (zfr L + i) M) (zfr (L + 1) - zfr L)
set_option maxHeartbeats 1000000 in
theorem zc_commonOnes (l : Launch) (G : zG) (M : zM) (o n L : Nat) (hO : zOb 5 o) (hn : M.1 o 7 = nI n) (hn7 : n ≤ 7) (hL1 : 1 ≤ L) (hL3 : L ≤ 3) : zC l G 2 yX6_commonOnes cX6_commonOnes 4 (Option.some Jvm.ClassFile.FieldType.int) [.ref o, .int (nI L)] M (zP (some (.int (if M.1 o 0 = -1 then nI 0 else nI (oOnes o n L M)))) M) := by
  refine zC_of (by decide) (Nat.le_of_ble_eq_true rfl) (fun X Q hQ hX hl hR hr => ?_)
  refine zV_loc (L' := [.ref o, .int (nI L), .null, .null]) rfl ?_
  have hq1 : zfr (L + 1) ≤ 57 ∧ zfr L ≤ zfr (L + 1) := by rcases (show L = 1 ∨ L = 2 ∨ L = 3 by omega) with rfl | rfl | rfl <;> decide
  have L16 : ¬ M.1 o 0 = -1 → ∀ (f9 k : Nat), zfr (L + 1) - (zfr L + k) < f9 → (zfr L + k) ≤ zfr (L + 1) → zV G X Q 4 0 0 16 [.ref o, .int (nI L), .int (nI (zcnt (fun i => oPath o M (zfr L + i) && oCom o n (zfr L + i) M) k)), .int (nI (zfr L + k))] [] M := by
    intro c_7
    intro f9
    induction f9 with
    | zero => intro k hk1 hk2; exact absurd hk1 (Nat.not_lt_zero _)
    | succ f9 ih =>
      intro k hk1 hk2
      refine zV_iload_n hX dX6_commonOnes_16 rfl ?_
      refine zV_from hX dX6_commonOnes_17 zfl_X6_139 ?_
      refine zV_iload_n hX dX6_commonOnes_20 rfl ?_
      refine zV_iconst hX (v := nI 1) dX6_commonOnes_21 (by decide) ?_
      refine zV_iaddN hX dX6_commonOnes_22 ?_
      refine zV_ifrom hX dX6_commonOnes_23 rfl (by omega) (zfr_from _ (by omega)) ?_
      refine zV_icmp_geN hX (tgt := 57) dX6_commonOnes_24 (by decide) ⟨by omega, by omega⟩ (fun c_24 => ?_) (fun c_24 => ?_)
      · refine zV_iload_n hX dX6_commonOnes_57 rfl ?_
        exact zV_reti hX hQ hr (⟨by first | rw [if_pos c_7] | (rw [if_neg c_7, oOnes, show zfr (L + 1) - zfr L = k by omega]), rfl⟩) dX6_commonOnes_58
      · refine zV_iload_n hX dX6_commonOnes_27 rfl ?_
        refine zV_aload_n hX dX6_commonOnes_28 rfl ?_
        refine zV_iload_n hX dX6_commonOnes_29 rfl ?_
        refine zV_cV1p hX hR hl dX6_commonOnes_30 (zc_isPath l G M o (zfr L + k) hO (by omega)) zt_X6_isPath rfl zml_X6_128 hO.1 ⟨by decide, by decide⟩ (Nat.le_of_ble_eq_true rfl) ?_
        dsimp only [Option.toList, List.cons_append, List.nil_append]
        refine zV_if_eqB hX (tgt := 48) dX6_commonOnes_33 (by decide) (fun c_33 => ?_) (fun c_33 => ?_)
        · have e9 : zcnt (fun i => oPath o M (zfr L + i) && oCom o n (zfr L + i) M) (k + 1) = zcnt (fun i => oPath o M (zfr L + i) && oCom o n (zfr L + i) M) k + 0 := by rw [zcnt]; simp [c_33]
          refine zV_iconst hX (v := nI 0) dX6_commonOnes_48 (by decide) ?_
          refine zV_iaddN hX dX6_commonOnes_49 ?_
          refine zV_istore_n hX dX6_commonOnes_50 (by decide) ?_
          dsimp only [zst1, zst2, zclr, zc2]
          refine zV_iincN hX (b := 1) dX6_commonOnes_51 rfl (by decide) ?_
          dsimp only [zst1, zst2, zclr, zc2]
          refine zV_goto hX (tgt := 16) dX6_commonOnes_54 (by decide) ?_
          exact e9 ▸ ih (k + 1) (by omega) (by omega)
        · refine zV_aload_n hX dX6_commonOnes_36 rfl ?_
          refine zV_iload_n hX dX6_commonOnes_37 rfl ?_
          refine zV_cV1p hX hR hl dX6_commonOnes_38 (zc_isCommon l G M o n (zfr L + k) hO hn hn7 (by omega)) zt_X6_isCommon rfl zml_X6_142 hO.1 ⟨by decide, by decide⟩ (Nat.le_of_ble_eq_true rfl) ?_
          dsimp only [Option.toList, List.cons_append, List.nil_append]
          refine zV_if_eqB hX (tgt := 48) dX6_commonOnes_41 (by decide) (fun c_41 => ?_) (fun c_41 => ?_)
          · have e9 : zcnt (fun i => oPath o M (zfr L + i) && oCom o n (zfr L + i) M) (k + 1) = zcnt (fun i => oPath o M (zfr L + i) && oCom o n (zfr L + i) M) k + 0 := by rw [zcnt]; simp [c_41]
            refine zV_iconst hX (v := nI 0) dX6_commonOnes_48 (by decide) ?_
            refine zV_iaddN hX dX6_commonOnes_49 ?_
            refine zV_istore_n hX dX6_commonOnes_50 (by decide) ?_
            dsimp only [zst1, zst2, zclr, zc2]
            refine zV_iincN hX (b := 1) dX6_commonOnes_51 rfl (by decide) ?_
            dsimp only [zst1, zst2, zclr, zc2]
            refine zV_goto hX (tgt := 16) dX6_commonOnes_54 (by decide) ?_
            exact e9 ▸ ih (k + 1) (by omega) (by omega)
          · have e9 : zcnt (fun i => oPath o M (zfr L + i) && oCom o n (zfr L + i) M) (k + 1) = zcnt (fun i => oPath o M (zfr L + i) && oCom o n (zfr L + i) M) k + 1 := by rw [zcnt]; simp [c_33, c_41]
            refine zV_iconst hX (v := nI 1) dX6_commonOnes_44 (by decide) ?_
            refine zV_goto hX (tgt := 49) dX6_commonOnes_45 (by decide) ?_
            refine zV_iaddN hX dX6_commonOnes_49 ?_
            refine zV_istore_n hX dX6_commonOnes_50 (by decide) ?_
            dsimp only [zst1, zst2, zclr, zc2]
            refine zV_iincN hX (b := 1) dX6_commonOnes_51 rfl (by decide) ?_
            dsimp only [zst1, zst2, zclr, zc2]
            refine zV_goto hX (tgt := 16) dX6_commonOnes_54 (by decide) ?_
            exact e9 ▸ ih (k + 1) (by omega) (by omega)
  refine zV_iconst hX (v := nI 0) dX6_commonOnes_0 (by decide) ?_
  refine zV_istore_n hX dX6_commonOnes_1 (by decide) ?_
  dsimp only [zst1, zst2, zclr, zc2]
  refine zV_aload_n hX dX6_commonOnes_2 rfl ?_
  refine zV_geti hX dX6_commonOnes_3 zf_X6_9 hO.1 rfl rfl ?_
  refine zV_iconst hX (v := (-1)) dX6_commonOnes_6 (by decide) ?_
  refine zV_icmp_eq hX (tgt := 57) dX6_commonOnes_7 (by decide) (fun c_7 => ?_) (fun c_7 => ?_)
  · refine zV_iload_n hX dX6_commonOnes_57 rfl ?_
    exact zV_reti hX hQ hr (⟨by first | rw [if_pos c_7] | (rw [if_neg c_7, oOnes, show zfr (L + 1) - zfr L = k by omega]), rfl⟩) dX6_commonOnes_58
  · refine zV_from hX dX6_commonOnes_10 zfl_X6_139 ?_
    refine zV_iload_n hX dX6_commonOnes_13 rfl ?_
    refine zV_ifrom hX dX6_commonOnes_14 rfl (by omega) (zfr_from _ (by omega)) ?_
    refine zV_istore_n hX dX6_commonOnes_15 (by decide) ?_
    dsimp only [zst1, zst2, zclr, zc2]
    exact L16 c_7 (zfr (L + 1) + 1) 0 (by omega) (by omega)
def oCov (o n t : Nat) (M : zM) : Bool := zall (fun i => !oPath o M (zfr (t + 1) + i) || oHcp o n (zfr (t + 1) + i) M) (zfr (t + 2) - zfr (t + 1))
set_option maxHeartbeats 1000000 in
theorem zc_isCovered (l : Launch) (G : zG) (M : zM) (o n t : Nat) (hO : zOb 5 o) (hn : M.1 o 7 = nI n) (hn7 : n ≤ 7) (ht : M.1 o 8 = nI t) (ht2 : t ≤ 2) : zC l G 3 yX6_isCovered cX6_isCovered 2 (Option.some Jvm.ClassFile.FieldType.boolean) [.ref o] M (zP (some (.int (zb (if M.1 o 0 = -1 then false else oCov o n t M)))) M) := by
  refine zC_of (by decide) (Nat.le_of_ble_eq_true rfl) (fun X Q hQ hX hl hR hr => ?_)
  refine zV_loc (L' := [.ref o, .null]) rfl ?_
  have hq1 : zfr (t + 2) ≤ 57 ∧ zfr (t + 1) ≤ zfr (t + 2) := by rcases (show t = 0 ∨ t = 1 ∨ t = 2 by omega) with rfl | rfl | rfl <;> decide
  have L21 : ¬ M.1 o 0 = -1 → ∀ (f9 k : Nat), zfr (t + 2) - (zfr (t + 1) + k) < f9 → (zfr (t + 1) + k) ≤ zfr (t + 2) → zall (fun i => !oPath o M (zfr (t + 1) + i) || oHcp o n (zfr (t + 1) + i) M) k = true → zV G X Q 2 0 0 21 [.ref o, .int (nI (zfr (t + 1) + k))] [] M := by
    intro c_5
    intro f9
    induction f9 with
    | zero => intro k hk1 hk2 hk3; exact absurd hk1 (Nat.not_lt_zero _)
    | succ f9 ih =>
      intro k hk1 hk2 hk3
      refine zV_iload_n hX dX6_isCovered_21 rfl ?_
      refine zV_from hX dX6_isCovered_22 zfl_X6_139 ?_
      refine zV_aload_n hX dX6_isCovered_25 rfl ?_
      refine zV_geti hX dX6_isCovered_26 zf_X6_71 hO.1 rfl (ht) ?_
      refine zV_iconst hX (v := nI 2) dX6_isCovered_29 (by decide) ?_
      refine zV_iaddN hX dX6_isCovered_30 ?_
      refine zV_ifrom hX dX6_isCovered_31 rfl (by omega) (zfr_from _ (by omega)) ?_
      refine zV_icmp_geN hX (tgt := 59) dX6_isCovered_32 (by decide) ⟨by omega, by omega⟩ (fun c_32 => ?_) (fun c_32 => ?_)
      · refine zV_iconst hX (v := nI 1) dX6_isCovered_59 (by decide) ?_
        exact zV_retz hX hQ hr (rfl) (⟨by rw [if_neg c_5, oCov, show zfr (t + 2) - zfr (t + 1) = k by omega, hk3]; rfl, rfl⟩) dX6_isCovered_60
      · refine zV_aload_n hX dX6_isCovered_35 rfl ?_
        refine zV_iload_n hX dX6_isCovered_36 rfl ?_
        refine zV_cV1p hX hR hl dX6_isCovered_37 (zc_isPath l G M o (zfr (t + 1) + k) hO (by omega)) zt_X6_isPath rfl zml_X6_128 hO.1 ⟨by decide, by decide⟩ (Nat.le_of_ble_eq_true rfl) ?_
        dsimp only [Option.toList, List.cons_append, List.nil_append]
        refine zV_if_eqB hX (tgt := 53) dX6_isCovered_40 (by decide) (fun c_40 => ?_) (fun c_40 => ?_)
        · have e9 : zall (fun i => !oPath o M (zfr (t + 1) + i) || oHcp o n (zfr (t + 1) + i) M) (k + 1) = true := by rw [zall, hk3]; simp [c_40]
          refine zV_iincN hX (b := 1) dX6_isCovered_53 rfl (by decide) ?_
          dsimp only [zst1, zst2, zclr, zc2]
          refine zV_goto hX (tgt := 21) dX6_isCovered_56 (by decide) ?_
          exact ih (k + 1) (by omega) (by omega) e9
        · refine zV_aload_n hX dX6_isCovered_43 rfl ?_
          refine zV_iload_n hX dX6_isCovered_44 rfl ?_
          refine zV_cV1p hX hR hl dX6_isCovered_45 (zc_hcp l G M o n (zfr (t + 1) + k) hO hn hn7 (by omega)) zt_X6_hasCommonPart rfl zml_X6_145 hO.1 ⟨by decide, by decide⟩ (Nat.le_of_ble_eq_true rfl) ?_
          dsimp only [Option.toList, List.cons_append, List.nil_append]
          refine zV_if_neB hX (tgt := 53) dX6_isCovered_48 (by decide) (fun c_48 => ?_) (fun c_48 => ?_)
          · have e9 : zall (fun i => !oPath o M (zfr (t + 1) + i) || oHcp o n (zfr (t + 1) + i) M) (k + 1) = true := by rw [zall, hk3]; simp [c_48]
            refine zV_iincN hX (b := 1) dX6_isCovered_53 rfl (by decide) ?_
            dsimp only [zst1, zst2, zclr, zc2]
            refine zV_goto hX (tgt := 21) dX6_isCovered_56 (by decide) ?_
            exact ih (k + 1) (by omega) (by omega) e9
          · refine zV_iconst hX (v := nI 0) dX6_isCovered_51 (by decide) ?_
            exact zV_retz hX hQ hr (rfl) (⟨by rw [if_neg c_5, oCov, zall_false (k := k) (by omega) (by simp [c_40, c_48])]; rfl, rfl⟩) dX6_isCovered_52
  refine zV_aload_n hX dX6_isCovered_0 rfl ?_
  refine zV_geti hX dX6_isCovered_1 zf_X6_9 hO.1 rfl rfl ?_
  refine zV_iconst hX (v := (-1)) dX6_isCovered_4 (by decide) ?_
  refine zV_icmp_ne hX (tgt := 10) dX6_isCovered_5 (by decide) (fun c_5 => ?_) (fun c_5 => ?_)
  · refine zV_from hX dX6_isCovered_10 zfl_X6_139 ?_
    refine zV_aload_n hX dX6_isCovered_13 rfl ?_
    refine zV_geti hX dX6_isCovered_14 zf_X6_71 hO.1 rfl (ht) ?_
    refine zV_iconst hX (v := nI 1) dX6_isCovered_17 (by decide) ?_
    refine zV_iaddN hX dX6_isCovered_18 ?_
    refine zV_ifrom hX dX6_isCovered_19 rfl (by omega) (zfr_from _ (by omega)) ?_
    refine zV_istore_n hX dX6_isCovered_20 (by decide) ?_
    dsimp only [zst1, zst2, zclr, zc2]
    exact L21 c_5 (zfr (t + 2) + 1) 0 (by omega) (by omega) rfl
  · refine zV_iconst hX (v := nI 0) dX6_isCovered_8 (by decide) ?_
    exact zV_retz hX hQ hr (rfl) (⟨by rw [if_pos c_5]; rfl, rfl⟩) dX6_isCovered_9
