/-- every kind of call keeps the invariant, and both answer alike -/
def opAll (l : Launch) (G : zG) (I : zM → Prop) (M : zM) : Prop :=
  (∀ v1 v2 : Int32, opI l G I yL_group cL_group 5 [(0, 10, 13, 13)] yX11_group cX11_group 4 [.int v1, .int v2] M) ∧
  (∀ v1 v2 v3 : Int32, opI l G I yL_value cL_value 6 [(0, 12, 15, 19), (0, 12, 19, 13)] yX11_value cX11_value 5 [.int v1, .int v2, .int v3] M) ∧
  (∀ v1 v2 : Int32, opI l G I yL_missing cL_missing 5 [(0, 10, 13, 13)] yX11_missing cX11_missing 4 [.int v1, .int v2] M) ∧
  (∀ v1 v2 v3 v4 v5 : Int32, opP l G I (Option.some Jvm.ClassFile.FieldType.int) yX10_feed cX10_feed 6 yX11_feed cX11_feed 8 [.int v1, .int v2, .int v3, .int v4, .int v5] M) ∧
  (∀ v1 : Int32, opI l G I yL_lies cL_lies 4 [(0, 9, 12, 13)] yX11_lies cX11_lies 5 [.int v1] M) ∧
  (opP l G I (Option.some Jvm.ClassFile.FieldType.int) yX10_fault cX10_fault 1 yX11_fault cX11_fault 1 [] M) ∧
  (∀ v1 : Int32, opI l G I yL_run cL_run 4 [(0, 9, 12, 19)] yX11_run cX11_run 2 [.int v1] M) ∧
  (∀ v1 : Int32, opI l G I yL_told cL_told 4 [(0, 9, 12, 13)] yX11_told cX11_told 2 [.int v1] M) ∧
  (∀ v1 v2 : Int32, opI l G I yL_member cL_member 5 [(0, 10, 13, 19), (0, 10, 17, 13)] yX11_member cX11_member 3 [.int v1, .int v2] M) ∧
  (∀ v1 v2 v3 v4 v5 : Int32, opI l G I yL_heard cL_heard 8 [(0, 16, 19, 19), (0, 16, 23, 13)] yX11_heard cX11_heard 8 [.int v1, .int v2, .int v3, .int v4, .int v5] M) ∧
  (∀ v1 v2 : Int32, opI l G I yL_cut cL_cut 5 [(0, 10, 13, 19), (0, 10, 17, 13)] yX11_cut cX11_cut 3 [.int v1, .int v2] M) ∧
  (∀ v1 v2 v3 : Int32, opZ l G I yL_common cL_common 6 [(0, 19, 22, 19)] yX11_common cX11_common 4 [.int v1, .int v2, .int v3] M) ∧
  (∀ v1 : Int32, opI l G I yL_commons cL_commons 4 [(0, 9, 12, 13)] yX11_commons cX11_commons 4 [.int v1] M) ∧
  (opP l G I (Option.some Jvm.ClassFile.FieldType.boolean) yX10_covered cX10_covered 1 yX11_covered cX11_covered 3 [] M) ∧
  (∀ v1 : Int32, opZ l G I yL_agreed cL_agreed 4 [(0, 16, 19, 13)] yX11_agreed cX11_agreed 2 [.int v1] M) ∧
  (∀ v1 v2 : Int32, opI l G I yL_order cL_order 5 [(0, 10, 13, 19)] yX11_order cX11_order 3 [.int v1, .int v2] M) ∧
  (∀ v1 v2 : Int32, opI l G I yL_most cL_most 5 [(0, 10, 13, 19), (0, 10, 17, 13)] yX11_most cX11_most 8 [.int v1, .int v2] M) ∧
  (opP l G I (Option.some Jvm.ClassFile.FieldType.int) yX10_agreeing cX10_agreeing 3 yX11_agreeing cX11_agreeing 3 [] M) ∧
  (∀ v1 v2 : Int32, opI l G I yL_signed cL_signed 5 [(0, 10, 13, 19), (0, 10, 17, 13)] yX11_signed cX11_signed 3 [.int v1, .int v2] M) ∧
  (∀ v1 v2 v3 : Int32, opI l G I yL_signedOf cL_signedOf 6 [(0, 12, 15, 19), (0, 12, 19, 13)] yX11_signedOf cX11_signedOf 4 [.int v1, .int v2, .int v3] M) ∧
  (∀ v1 v2 v3 v4 : Int32, opI l G I yL_taken cL_taken 7 [(0, 14, 17, 19), (0, 14, 21, 13)] yX11_taken cX11_taken 6 [.int v1, .int v2, .int v3, .int v4] M) ∧
  (opP l G I (Option.some Jvm.ClassFile.FieldType.int) yX10_gains cX10_gains 3 yX11_gains cX11_gains 4 [] M) ∧
  (∀ v1 v2 : Int32, opI l G I yL_king cL_king 5 [(0, 10, 13, 19), (0, 10, 17, 13)] yX11_king cX11_king 4 [.int v1, .int v2] M) ∧
  (∀ v1 : Int32, opI l G I yL_kings cL_kings 4 [(0, 9, 12, 13)] yX11_kings cX11_kings 5 [.int v1] M) ∧
  (∀ v1 v2 : Int32, opI l G I yL_echoes cL_echoes 5 [(0, 10, 13, 19), (0, 10, 17, 13)] yX11_echoes cX11_echoes 3 [.int v1, .int v2] M) ∧
  (∀ v1 v2 v3 : Int32, opI l G I yL_echoesOf cL_echoesOf 6 [(0, 12, 15, 19), (0, 12, 19, 13)] yX11_echoesOf cX11_echoesOf 4 [.int v1, .int v2, .int v3] M) ∧
  (∀ v1 v2 : Int32, opI l G I yL_messages cL_messages 5 [(0, 10, 13, 13)] yX11_messages cX11_messages 3 [.int v1, .int v2] M) ∧
  (∀ v1 v2 v3 : Int32, opI l G I yL_nearer cL_nearer 6 [(0, 12, 15, 19), (0, 12, 19, 13)] yX11_nearer cX11_nearer 4 [.int v1, .int v2, .int v3] M) ∧
  (∀ v1 v2 : Int32, opI l G I yL_spread cL_spread 5 [(0, 10, 13, 13)] yX11_spread cX11_spread 3 [.int v1, .int v2] M) ∧
  (∀ v1 v2 v3 : Int32, opI l G I yL_steps cL_steps 6 [(0, 12, 15, 13)] yX11_steps cX11_steps 5 [.int v1, .int v2, .int v3] M) ∧
  (∀ v1 v2 : Int32, opJ l G I yL_total cL_total 5 [(0, 9, 12, 13)] yX11_total cX11_total 6 [.int v1, .int v2] M) ∧
  (∀ v1 v2 v3 v4 : Int32, opI l G I yL_attacks cL_attacks 7 [(0, 14, 17, 19), (0, 14, 21, 13)] yX11_attacks cX11_attacks 10 [.int v1, .int v2, .int v3, .int v4] M) ∧
  (∀ v1 v2 v3 v4 : Int32, opZ l G I yL_breaks cL_breaks 7 [(0, 21, 24, 19), (0, 21, 28, 13)] yX11_breaks cX11_breaks 5 [.int v1, .int v2, .int v3, .int v4] M) ∧
  (∀ v1 v2 : Int32, opI l G I yL_fewest cL_fewest 5 [(0, 10, 13, 13)] yX11_fewest cX11_fewest 4 [.int v1, .int v2] M) ∧
  (∀ v1 : Int32, opP l G I (Option.some Jvm.ClassFile.FieldType.int) yX10_status cX10_status 2 yX11_status cX11_status 2 [.int v1] M)
theorem law_gt {n k : Nat} (hn : n ≤ 3072) (hk : k ≤ 3100) : (nI n - nI 6 < nI k) ↔ n < k + 6 := by
  have h1 : (nI n - nI 6).toInt = (n : Int) - 6 := by
    rw [Int32.toInt_sub, nI_toInt (by omega), nI_toInt (by omega)]
    exact Int.bmod_eq_of_le (by omega) (by omega)
  rw [Int32.lt_iff_toInt_lt, h1, nI_toInt (by omega)]
  omega
set_option maxHeartbeats 2000000 in
theorem law_loop (l : Launch) {G : zG} {I : zM → Prop} {X : zX} {Q : State → Prop} {n b0 c0 s0 : Nat} {xs : Nat → Int32} (hX : zOk G X yL_law.cls cL_law 8) (hEx : zEx X.2.2.2.2.1) (hNc : va_Nc zIAE zNSE X.2.2.2.2.1) (hR : X.2.2.2.1 = room_1) (hl : X.2.1 = l) (hxs : va_X b0 n xs X.2.2.2.2.1 X.2.2.2.2.1.heap) (hb : b0 < X.2.2.2.2.1.heap.size ∧ ¬ zA G X.2.2.2.2.1.heap.size b0 ∧ G.1 4003 = b0) (hn : n ≤ 3072) (hc0 : c0 ≤ 590000 ∧ s0 ≤ 7200000) (hall : ∀ M, I M → opAll l G I M) (hEnd : ∀ (L9 : List Value) (M : zM), I M → zV G X Q 8 601024 7293034 2453 L9 [.int (nI 1)] M) :
    ∀ (f k : Nat) (M : zM) (v5 v6 v7 : Value), n + 6 - 6 * k < f → 6 * k ≤ n → I M → zV G X Q 8 (c0 + 15 * k) (s0 + 90 * k) 23 [.ref (4003 : Nat), .ref (0 : Nat), .ref (300 : Nat), .ref (220 : Nat), .int (nI (6 * k)), v5, v6, v7] [] M := by
  intro f
  induction f with
  | zero => intro k M v5 v6 v7 hf; exact absurd hf (Nat.not_lt_zero _)
  | succ f ih =>
    intro k M v5 v6 v7 hf hkn hI
    have h35 := hall M hI
    unfold opAll at h35
    have J23 : ∀ k : Nat, n < 6 * k + 6 → 6 * k ≤ n + 6 → ∀ (M2 : zM) (v5 v6 v7 : Value), I M2 → zV G X Q 8 (c0 + 15 * k) (s0 + 90 * k) 23 [.ref (4003 : Nat), .ref (0 : Nat), .ref (300 : Nat), .ref (220 : Nat), .int (nI (6 * k)), v5, v6, v7] [] M2 := by
      intro k hk1 hk2 M2 v5 v6 v7 hI2
      refine zV_iload hX dL_law_23 rfl ?_
      refine zV_aload_n hX dL_law_25 rfl ?_
      refine zV_slen hX hxs hb dL_law_26 ?_
      refine zV_bipush hX (v := nI 6) dL_law_27 (by decide) ?_
      refine zV_isub hX dL_law_29 ?_
      refine zV_icmp_gt hX (tgt := 2452) dL_law_30 (by decide) (fun c_30 => ?_) (fun c_30 => absurd c_30 (not_not_intro ((law_gt hn (by omega)).mpr (by omega))))
      refine zV_widen (c1 := 601024) (s1 := 7293034) (by omega) (by omega) ?_
      refine zV_iconst hX (v := nI 1) dL_law_2452 (by decide) ?_
      exact hEnd _ M2 hI2
    have J46 : ∀ (M2 : zM) (v5 v6 v7 : Value), I M2 → zV G X Q 8 (c0 + 15 * k + 15) (s0 + 90 * k + 90) 2446 [.ref (4003 : Nat), .ref (0 : Nat), .ref (300 : Nat), .ref (220 : Nat), .int (nI (6 * k)), v5, v6, v7] [] M2 := by
      intro M2 v5 v6 v7 hI2
      refine zV_iincN hX (b := 6) dL_law_2446 rfl (by decide) ?_
      dsimp only [zst1, zst2, zclr, zc2]
      refine zV_goto hX (tgt := 23) dL_law_2449 (by decide) ?_
      rw [show 6 * k + 6 = 6 * (k + 1) by omega]
      refine zV_cs (c1 := c0 + 15 * (k + 1)) (s1 := s0 + 90 * (k + 1)) (by omega) (by omega) ?_
      by_cases hq : 6 * (k + 1) ≤ n
      · exact ih (k + 1) M2 v5 v6 v7 (by omega) hq hI2
      · exact J23 (k + 1) (by omega) (by omega) M2 v5 v6 v7 hI2
    refine zV_iload hX dL_law_23 rfl ?_
    refine zV_aload_n hX dL_law_25 rfl ?_
    refine zV_slen hX hxs hb dL_law_26 ?_
    refine zV_bipush hX (v := nI 6) dL_law_27 (by decide) ?_
    refine zV_isub hX dL_law_29 ?_
    refine zV_icmp_gt hX (tgt := 2452) dL_law_30 (by decide) (fun c_30 => ?_) (fun c_30 => ?_)
    · refine zV_widen (c1 := 601024) (s1 := 7293034) (by omega) (by omega) ?_
      refine zV_iconst hX (v := nI 1) dL_law_2452 (by decide) ?_
      exact hEnd _ M hI
    · have hk6 : 6 * k + 6 ≤ n := by rw [law_gt (by omega) (by omega)] at c_30; omega
      refine zV_aload_n hX dL_law_33 rfl ?_
      refine zV_iload hX dL_law_34 rfl ?_
      refine zV_sld hX hxs hb dL_law_36 rfl ⟨by omega, by omega⟩ ?_
      refine zV_bipush hX (v := nI 63) dL_law_37 (by decide) ?_
      refine zV_iand hX dL_law_39 ?_
      refine zV_case 0 (fun s_0 => ?_) (fun s_0 => ?_)
      · refine zV_tin hX (tgt := 196) dL_law_40 (by decide) (by decide) (off := 156) (by decide) (by decide) ?_
        exact law_c0 l hX hEx hNc hR hl hxs hb hk6 (by omega) ⟨by omega, by omega⟩ (h35.1 (xs (6 * k + 1)) (xs (6 * k + 2))) J46 v5 v6 v7
      refine zV_case 1 (fun s_1 => ?_) (fun s_1 => ?_)
      · refine zV_tin hX (tgt := 264) dL_law_40 (by decide) (by decide) (off := 224) (by decide) (by decide) ?_
        exact law_c1 l hX hEx hNc hR hl hxs hb hk6 (by omega) ⟨by omega, by omega⟩ (h35.2.1 (xs (6 * k + 1)) (xs (6 * k + 2)) (xs (6 * k + 3))) J46 v5 v6 v7
      refine zV_case 2 (fun s_2 => ?_) (fun s_2 => ?_)
      · refine zV_tin hX (tgt := 344) dL_law_40 (by decide) (by decide) (off := 304) (by decide) (by decide) ?_
        exact law_c2 l hX hEx hNc hR hl hxs hb hk6 (by omega) ⟨by omega, by omega⟩ (h35.2.2.1 (xs (6 * k + 1)) (xs (6 * k + 2))) J46 v5 v6 v7
      refine zV_case 3 (fun s_3 => ?_) (fun s_3 => ?_)
      · refine zV_tin hX (tgt := 412) dL_law_40 (by decide) (by decide) (off := 372) (by decide) (by decide) ?_
        exact law_c3 l hX hEx hNc hR hl hxs hb hk6 (by omega) ⟨by omega, by omega⟩ (h35.2.2.2.1 (xs (6 * k + 1)) (xs (6 * k + 2)) (xs (6 * k + 3)) (xs (6 * k + 4)) (xs (6 * k + 5))) J46 v5 v6 v7
      refine zV_case 4 (fun s_4 => ?_) (fun s_4 => ?_)
      · refine zV_tin hX (tgt := 485) dL_law_40 (by decide) (by decide) (off := 445) (by decide) (by decide) ?_
        exact law_c4 l hX hEx hNc hR hl hxs hb hk6 (by omega) ⟨by omega, by omega⟩ (h35.2.2.2.2.1 (xs (6 * k + 1))) J46 v5 v6 v7
      refine zV_case 5 (fun s_5 => ?_) (fun s_5 => ?_)
      · refine zV_tin hX (tgt := 541) dL_law_40 (by decide) (by decide) (off := 501) (by decide) (by decide) ?_
        exact law_c5 l hX hEx hNc hR hl hxs hb hk6 (by omega) ⟨by omega, by omega⟩ (h35.2.2.2.2.2.1 ) J46 v5 v6 v7
      refine zV_case 6 (fun s_6 => ?_) (fun s_6 => ?_)
      · refine zV_tin hX (tgt := 554) dL_law_40 (by decide) (by decide) (off := 514) (by decide) (by decide) ?_
        exact law_c6 l hX hEx hNc hR hl hxs hb hk6 (by omega) ⟨by omega, by omega⟩ (h35.2.2.2.2.2.2.1 (xs (6 * k + 1))) J46 v5 v6 v7
      refine zV_case 7 (fun s_7 => ?_) (fun s_7 => ?_)
      · refine zV_tin hX (tgt := 610) dL_law_40 (by decide) (by decide) (off := 570) (by decide) (by decide) ?_
        exact law_c7 l hX hEx hNc hR hl hxs hb hk6 (by omega) ⟨by omega, by omega⟩ (h35.2.2.2.2.2.2.2.1 (xs (6 * k + 1))) J46 v5 v6 v7
      refine zV_case 8 (fun s_8 => ?_) (fun s_8 => ?_)
      · refine zV_tin hX (tgt := 666) dL_law_40 (by decide) (by decide) (off := 626) (by decide) (by decide) ?_
        exact law_c8 l hX hEx hNc hR hl hxs hb hk6 (by omega) ⟨by omega, by omega⟩ (h35.2.2.2.2.2.2.2.2.1 (xs (6 * k + 1)) (xs (6 * k + 2))) J46 v5 v6 v7
      refine zV_case 9 (fun s_9 => ?_) (fun s_9 => ?_)
      · refine zV_tin hX (tgt := 734) dL_law_40 (by decide) (by decide) (off := 694) (by decide) (by decide) ?_
        exact law_c9 l hX hEx hNc hR hl hxs hb hk6 (by omega) ⟨by omega, by omega⟩ (h35.2.2.2.2.2.2.2.2.2.1 (xs (6 * k + 1)) (xs (6 * k + 2)) (xs (6 * k + 3)) (xs (6 * k + 4)) (xs (6 * k + 5))) J46 v5 v6 v7
      refine zV_case 10 (fun s_10 => ?_) (fun s_10 => ?_)
      · refine zV_tin hX (tgt := 838) dL_law_40 (by decide) (by decide) (off := 798) (by decide) (by decide) ?_
        exact law_c10 l hX hEx hNc hR hl hxs hb hk6 (by omega) ⟨by omega, by omega⟩ (h35.2.2.2.2.2.2.2.2.2.2.1 (xs (6 * k + 1)) (xs (6 * k + 2))) J46 v5 v6 v7
      refine zV_case 11 (fun s_11 => ?_) (fun s_11 => ?_)
      · refine zV_tin hX (tgt := 906) dL_law_40 (by decide) (by decide) (off := 866) (by decide) (by decide) ?_
        exact law_c11 l hX hEx hNc hR hl hxs hb hk6 (by omega) ⟨by omega, by omega⟩ (h35.2.2.2.2.2.2.2.2.2.2.2.1 (xs (6 * k + 1)) (xs (6 * k + 2)) (xs (6 * k + 3))) J46 v5 v6 v7
      refine zV_case 12 (fun s_12 => ?_) (fun s_12 => ?_)
      · refine zV_tin hX (tgt := 993) dL_law_40 (by decide) (by decide) (off := 953) (by decide) (by decide) ?_
        exact law_c12 l hX hEx hNc hR hl hxs hb hk6 (by omega) ⟨by omega, by omega⟩ (h35.2.2.2.2.2.2.2.2.2.2.2.2.1 (xs (6 * k + 1))) J46 v5 v6 v7
      refine zV_case 13 (fun s_13 => ?_) (fun s_13 => ?_)
      · refine zV_tin hX (tgt := 1049) dL_law_40 (by decide) (by decide) (off := 1009) (by decide) (by decide) ?_
        exact law_c13 l hX hEx hNc hR hl hxs hb hk6 (by omega) ⟨by omega, by omega⟩ (h35.2.2.2.2.2.2.2.2.2.2.2.2.2.1 ) J46 v5 v6 v7
      refine zV_case 14 (fun s_14 => ?_) (fun s_14 => ?_)
      · refine zV_tin hX (tgt := 1062) dL_law_40 (by decide) (by decide) (off := 1022) (by decide) (by decide) ?_
        exact law_c14 l hX hEx hNc hR hl hxs hb hk6 (by omega) ⟨by omega, by omega⟩ (h35.2.2.2.2.2.2.2.2.2.2.2.2.2.2.1 (xs (6 * k + 1))) J46 v5 v6 v7
      refine zV_case 15 (fun s_15 => ?_) (fun s_15 => ?_)
      · refine zV_tin hX (tgt := 1125) dL_law_40 (by decide) (by decide) (off := 1085) (by decide) (by decide) ?_
        exact law_c15 l hX hEx hNc hR hl hxs hb hk6 (by omega) ⟨by omega, by omega⟩ (h35.2.2.2.2.2.2.2.2.2.2.2.2.2.2.2.1 (xs (6 * k + 1)) (xs (6 * k + 2))) J46 v5 v6 v7
      refine zV_case 16 (fun s_16 => ?_) (fun s_16 => ?_)
      · refine zV_tin hX (tgt := 1193) dL_law_40 (by decide) (by decide) (off := 1153) (by decide) (by decide) ?_
        exact law_c16 l hX hEx hNc hR hl hxs hb hk6 (by omega) ⟨by omega, by omega⟩ (h35.2.2.2.2.2.2.2.2.2.2.2.2.2.2.2.2.1 (xs (6 * k + 1)) (xs (6 * k + 2))) J46 v5 v6 v7
      refine zV_case 17 (fun s_17 => ?_) (fun s_17 => ?_)
      · refine zV_tin hX (tgt := 1261) dL_law_40 (by decide) (by decide) (off := 1221) (by decide) (by decide) ?_
        exact law_c17 l hX hEx hNc hR hl hxs hb hk6 (by omega) ⟨by omega, by omega⟩ (h35.2.2.2.2.2.2.2.2.2.2.2.2.2.2.2.2.2.1 ) J46 v5 v6 v7
      refine zV_case 18 (fun s_18 => ?_) (fun s_18 => ?_)
      · refine zV_tin hX (tgt := 1274) dL_law_40 (by decide) (by decide) (off := 1234) (by decide) (by decide) ?_
        exact law_c18 l hX hEx hNc hR hl hxs hb hk6 (by omega) ⟨by omega, by omega⟩ (h35.2.2.2.2.2.2.2.2.2.2.2.2.2.2.2.2.2.2.1 (xs (6 * k + 1)) (xs (6 * k + 2))) J46 v5 v6 v7
      refine zV_case 19 (fun s_19 => ?_) (fun s_19 => ?_)
      · refine zV_tin hX (tgt := 1342) dL_law_40 (by decide) (by decide) (off := 1302) (by decide) (by decide) ?_
        exact law_c19 l hX hEx hNc hR hl hxs hb hk6 (by omega) ⟨by omega, by omega⟩ (h35.2.2.2.2.2.2.2.2.2.2.2.2.2.2.2.2.2.2.2.1 (xs (6 * k + 1)) (xs (6 * k + 2)) (xs (6 * k + 3))) J46 v5 v6 v7
      refine zV_case 20 (fun s_20 => ?_) (fun s_20 => ?_)
      · refine zV_tin hX (tgt := 1422) dL_law_40 (by decide) (by decide) (off := 1382) (by decide) (by decide) ?_
        exact law_c20 l hX hEx hNc hR hl hxs hb hk6 (by omega) ⟨by omega, by omega⟩ (h35.2.2.2.2.2.2.2.2.2.2.2.2.2.2.2.2.2.2.2.2.1 (xs (6 * k + 1)) (xs (6 * k + 2)) (xs (6 * k + 3)) (xs (6 * k + 4))) J46 v5 v6 v7
      refine zV_case 21 (fun s_21 => ?_) (fun s_21 => ?_)
      · refine zV_tin hX (tgt := 1514) dL_law_40 (by decide) (by decide) (off := 1474) (by decide) (by decide) ?_
        exact law_c21 l hX hEx hNc hR hl hxs hb hk6 (by omega) ⟨by omega, by omega⟩ (h35.2.2.2.2.2.2.2.2.2.2.2.2.2.2.2.2.2.2.2.2.2.1 ) J46 v5 v6 v7
      refine zV_case 22 (fun s_22 => ?_) (fun s_22 => ?_)
      · refine zV_tin hX (tgt := 1527) dL_law_40 (by decide) (by decide) (off := 1487) (by decide) (by decide) ?_
        exact law_c22 l hX hEx hNc hR hl hxs hb hk6 (by omega) ⟨by omega, by omega⟩ (h35.2.2.2.2.2.2.2.2.2.2.2.2.2.2.2.2.2.2.2.2.2.2.1 (xs (6 * k + 1)) (xs (6 * k + 2))) J46 v5 v6 v7
      refine zV_case 23 (fun s_23 => ?_) (fun s_23 => ?_)
      · refine zV_tin hX (tgt := 1595) dL_law_40 (by decide) (by decide) (off := 1555) (by decide) (by decide) ?_
        exact law_c23 l hX hEx hNc hR hl hxs hb hk6 (by omega) ⟨by omega, by omega⟩ (h35.2.2.2.2.2.2.2.2.2.2.2.2.2.2.2.2.2.2.2.2.2.2.2.1 (xs (6 * k + 1))) J46 v5 v6 v7
      refine zV_case 24 (fun s_24 => ?_) (fun s_24 => ?_)
      · refine zV_tin hX (tgt := 1651) dL_law_40 (by decide) (by decide) (off := 1611) (by decide) (by decide) ?_
        exact law_c24 l hX hEx hNc hR hl hxs hb hk6 (by omega) ⟨by omega, by omega⟩ (h35.2.2.2.2.2.2.2.2.2.2.2.2.2.2.2.2.2.2.2.2.2.2.2.2.1 (xs (6 * k + 1)) (xs (6 * k + 2))) J46 v5 v6 v7
      refine zV_case 25 (fun s_25 => ?_) (fun s_25 => ?_)
      · refine zV_tin hX (tgt := 1719) dL_law_40 (by decide) (by decide) (off := 1679) (by decide) (by decide) ?_
        exact law_c25 l hX hEx hNc hR hl hxs hb hk6 (by omega) ⟨by omega, by omega⟩ (h35.2.2.2.2.2.2.2.2.2.2.2.2.2.2.2.2.2.2.2.2.2.2.2.2.2.1 (xs (6 * k + 1)) (xs (6 * k + 2)) (xs (6 * k + 3))) J46 v5 v6 v7
      refine zV_case 26 (fun s_26 => ?_) (fun s_26 => ?_)
      · refine zV_tin hX (tgt := 1799) dL_law_40 (by decide) (by decide) (off := 1759) (by decide) (by decide) ?_
        exact law_c26 l hX hEx hNc hR hl hxs hb hk6 (by omega) ⟨by omega, by omega⟩ (h35.2.2.2.2.2.2.2.2.2.2.2.2.2.2.2.2.2.2.2.2.2.2.2.2.2.2.1 (xs (6 * k + 1)) (xs (6 * k + 2))) J46 v5 v6 v7
      refine zV_case 27 (fun s_27 => ?_) (fun s_27 => ?_)
      · refine zV_tin hX (tgt := 1867) dL_law_40 (by decide) (by decide) (off := 1827) (by decide) (by decide) ?_
        exact law_c27 l hX hEx hNc hR hl hxs hb hk6 (by omega) ⟨by omega, by omega⟩ (h35.2.2.2.2.2.2.2.2.2.2.2.2.2.2.2.2.2.2.2.2.2.2.2.2.2.2.2.1 (xs (6 * k + 1)) (xs (6 * k + 2)) (xs (6 * k + 3))) J46 v5 v6 v7
      refine zV_case 28 (fun s_28 => ?_) (fun s_28 => ?_)
      · refine zV_tin hX (tgt := 1947) dL_law_40 (by decide) (by decide) (off := 1907) (by decide) (by decide) ?_
        exact law_c28 l hX hEx hNc hR hl hxs hb hk6 (by omega) ⟨by omega, by omega⟩ (h35.2.2.2.2.2.2.2.2.2.2.2.2.2.2.2.2.2.2.2.2.2.2.2.2.2.2.2.2.1 (xs (6 * k + 1)) (xs (6 * k + 2))) J46 v5 v6 v7
      refine zV_case 29 (fun s_29 => ?_) (fun s_29 => ?_)
      · refine zV_tin hX (tgt := 2015) dL_law_40 (by decide) (by decide) (off := 1975) (by decide) (by decide) ?_
        exact law_c29 l hX hEx hNc hR hl hxs hb hk6 (by omega) ⟨by omega, by omega⟩ (h35.2.2.2.2.2.2.2.2.2.2.2.2.2.2.2.2.2.2.2.2.2.2.2.2.2.2.2.2.2.1 (xs (6 * k + 1)) (xs (6 * k + 2)) (xs (6 * k + 3))) J46 v5 v6 v7
      refine zV_case 30 (fun s_30 => ?_) (fun s_30 => ?_)
      · refine zV_tin hX (tgt := 2095) dL_law_40 (by decide) (by decide) (off := 2055) (by decide) (by decide) ?_
        exact law_c30 l hX hEx hNc hR hl hxs hb hk6 (by omega) ⟨by omega, by omega⟩ (h35.2.2.2.2.2.2.2.2.2.2.2.2.2.2.2.2.2.2.2.2.2.2.2.2.2.2.2.2.2.2.1 (xs (6 * k + 1)) (xs (6 * k + 2))) J46 v5 v6 v7
      refine zV_case 31 (fun s_31 => ?_) (fun s_31 => ?_)
      · refine zV_tin hX (tgt := 2162) dL_law_40 (by decide) (by decide) (off := 2122) (by decide) (by decide) ?_
        exact law_c31 l hX hEx hNc hR hl hxs hb hk6 (by omega) ⟨by omega, by omega⟩ (h35.2.2.2.2.2.2.2.2.2.2.2.2.2.2.2.2.2.2.2.2.2.2.2.2.2.2.2.2.2.2.2.1 (xs (6 * k + 1)) (xs (6 * k + 2)) (xs (6 * k + 3)) (xs (6 * k + 4))) J46 v5 v6 v7
      refine zV_case 32 (fun s_32 => ?_) (fun s_32 => ?_)
      · refine zV_tin hX (tgt := 2254) dL_law_40 (by decide) (by decide) (off := 2214) (by decide) (by decide) ?_
        exact law_c32 l hX hEx hNc hR hl hxs hb hk6 (by omega) ⟨by omega, by omega⟩ (h35.2.2.2.2.2.2.2.2.2.2.2.2.2.2.2.2.2.2.2.2.2.2.2.2.2.2.2.2.2.2.2.2.1 (xs (6 * k + 1)) (xs (6 * k + 2)) (xs (6 * k + 3)) (xs (6 * k + 4))) J46 v5 v6 v7
      refine zV_case 33 (fun s_33 => ?_) (fun s_33 => ?_)
      · refine zV_tin hX (tgt := 2353) dL_law_40 (by decide) (by decide) (off := 2313) (by decide) (by decide) ?_
        exact law_c33 l hX hEx hNc hR hl hxs hb hk6 (by omega) ⟨by omega, by omega⟩ (h35.2.2.2.2.2.2.2.2.2.2.2.2.2.2.2.2.2.2.2.2.2.2.2.2.2.2.2.2.2.2.2.2.2.1 (xs (6 * k + 1)) (xs (6 * k + 2))) J46 v5 v6 v7
      refine zV_case 34 (fun s_34 => ?_) (fun s_34 => ?_)
      · refine zV_tin hX (tgt := 2421) dL_law_40 (by decide) (by decide) (off := 2381) (by decide) (by decide) ?_
        exact law_c34 l hX hEx hNc hR hl hxs hb hk6 (by omega) ⟨by omega, by omega⟩ (h35.2.2.2.2.2.2.2.2.2.2.2.2.2.2.2.2.2.2.2.2.2.2.2.2.2.2.2.2.2.2.2.2.2.2 (xs (6 * k + 1))) J46 v5 v6 v7
      refine zV_tout hX (tgt := 2446) dL_law_40 (zsw_out 34 (by decide) (fun j hj => by match j, hj with | 0, _ => exact s_0 | 1, _ => exact s_1 | 2, _ => exact s_2 | 3, _ => exact s_3 | 4, _ => exact s_4 | 5, _ => exact s_5 | 6, _ => exact s_6 | 7, _ => exact s_7 | 8, _ => exact s_8 | 9, _ => exact s_9 | 10, _ => exact s_10 | 11, _ => exact s_11 | 12, _ => exact s_12 | 13, _ => exact s_13 | 14, _ => exact s_14 | 15, _ => exact s_15 | 16, _ => exact s_16 | 17, _ => exact s_17 | 18, _ => exact s_18 | 19, _ => exact s_19 | 20, _ => exact s_20 | 21, _ => exact s_21 | 22, _ => exact s_22 | 23, _ => exact s_23 | 24, _ => exact s_24 | 25, _ => exact s_25 | 26, _ => exact s_26 | 27, _ => exact s_27 | 28, _ => exact s_28 | 29, _ => exact s_29 | 30, _ => exact s_30 | 31, _ => exact s_31 | 32, _ => exact s_32 | 33, _ => exact s_33 | 34, _ => exact s_34 | _ + 35, h => omega)) (by decide) ?_
      refine zV_widen (c1 := c0 + 15 * k + 15) (s1 := s0 + 90 * k + 90) (by omega) (by omega) ?_
      exact J46 M v5 v6 v7 hI
