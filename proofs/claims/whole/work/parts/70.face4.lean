/-- what holds of the group -/
def fGr (lc n t : Nat) (cn : Nat → Nat) (M : zM) : Prop := M.1 40 0 = nI n ∧ M.1 40 1 = nI t ∧ M.1 40 3 = nI lc ∧ lyN lc M cn
theorem fGr.fr {lc n t : Nat} {cn : Nat → Nat} {M M1 : zM} (hL : lyL lc) (h : fGr lc n t cn M) (hF : ∀ a j, (a = 40 ∨ (180 ≤ a ∧ a < 300)) → M1.1 a j = M.1 a j) : fGr lc n t cn M1 := ⟨(hF 40 0 (Or.inl rfl)).trans h.1, (hF 40 1 (Or.inl rfl)).trans h.2.1, (hF 40 3 (Or.inl rfl)).trans h.2.2.1, fun m hm => ⟨(hF _ _ (Or.inr (by unfold lyL at hL; omega))).trans (h.2.2.2 m hm).1, (h.2.2.2 m hm).2⟩⟩
/-- what a play on o leaves alone -/
def fOut (P : Nat → Prop) (M M1 : zM) : Prop := ∀ a j, ¬ P a → M1.1 a j = M.1 a j
theorem fOut.rf {P : Nat → Prop} {M : zM} : fOut P M M := fun _ _ _ => rfl
theorem fOut.tr {P : Nat → Prop} {M M1 M2 : zM} (h : fOut P M M1) (h2 : fOut P M1 M2) : fOut P M M2 := fun a j q => (h2 a j q).trans (h a j q)
theorem fOut.w {P : Nat → Prop} {M M1 : zM} {c k : Nat} {x : Int32} (h : fOut P M M1) (hc : P c) : fOut P M (zw M1 c k x) := fun a j q => (zw_ne (Or.inl (fun e => q (by rw [e]; exact hc)))).trans (h a j q)
theorem fOut.mono {P Q : Nat → Prop} {M M1 : zM} (h : fOut P M M1) (hh : ∀ a, P a → Q a) : fOut Q M M1 := fun a j q => h a j (fun e => q (hh a e))
theorem fOut.for {P : Nat → Prop} {f : Nat → zM → zM} : ∀ (n : Nat) (M : zM), (∀ i M, i < n → fOut P M (f i M)) → fOut P M (zfor f n M)
  | 0, _, _ => fOut.rf
  | n + 1, M, h => (fOut.for n M (fun i M hi => h i M (by omega))).tr (h n _ (by omega))
theorem oPlay_out (o lc n t c : Nat) (cn : Nat → Nat) (M : zM) : fOut (fun a => o ≤ a ∧ a ≤ o + 20) M (oPlay o 40 lc n t c cn M) := fun a j q => (oFi.p4 o 40 lc n t c cn n M).1.at q
theorem sDe_out (o g : Nat) (M : zM) : ∀ k, fOut (fun a => a = o + 1 + 6) M (sDe o g k M)
  | 0 => fOut.rf
  | k + 1 => (sDe_out o g M k).w rfl
theorem sPlay_out (o lc n t c : Nat) (cn : Nat → Nat) (M : zM) : fOut (fun a => o ≤ a ∧ a ≤ o + 12) M (sPlay o 40 lc n t c cn M) := by
  have h1 : fOut (fun a => o ≤ a ∧ a ≤ o + 12) M (sP2 o 40 lc n c cn t M) := fun a j q => (sFi.p2 o 40 lc n c cn t M).1 a j (by omega)
  have h2 := (sDe_out o 40 (sP2 o 40 lc n c cn t M) n).mono (Q := fun a => o ≤ a ∧ a ≤ o + 12) (fun a h => by omega)
  exact ((h1.tr h2).w (by omega)).w (by omega)
theorem sPlay_k7 (o lc n t c : Nat) (cn : Nat → Nat) (M : zM) : zk7 (sPlay o 40 lc n t c cn M) (o + 1 + 4) := by
  intro m hm
  obtain ⟨k, hk, e⟩ := (sFi.p2 o 40 lc n c cn t M).2.2 m hm
  refine ⟨k, hk, ?_⟩
  unfold sPlay sDecide
  rw [zw_ne (by omega), zw_ne (by omega), sDe_out o 40 _ n _ _ (by omega)]
  exact e
theorem kP_out (o lc n t k : Nat) (cn : Nat → Nat) (M : zM) : fOut (fun a => o ≤ a ∧ a ≤ o + 7) M (kP o 40 lc n t cn k M) := fun a j q => kP_Z o 40 lc n t cn k M a j (by omega)
theorem ePlay_out (o lc c n t : Nat) (cn : Nat → Nat) (M : zM) : fOut (fun a => o ≤ a ∧ a ≤ o + 13) M (ePlay o 40 lc c n t cn M) := fun a j q => (eFi.p o 40 lc c n t cn 4 M).1 a j (by omega)
theorem fGr.out {lc n t lo hi : Nat} {cn : Nat → Nat} {M M1 : zM} (hL : lyL lc) (h : fGr lc n t cn M) (hF : fOut (fun a => lo ≤ a ∧ a ≤ hi) M M1) (hlo : 40 < lo ∧ hi < 180) : fGr lc n t cn M1 := h.fr hL (fun a j q => hF a j (by omega))
set_option maxHeartbeats 1000000 in
theorem zf_order (l : Launch) (G : zG) (M : zM) (lc n t : Nat) (cn : Nat → Nat) (j i : Nat)  (h40 : M.1 40 0 = nI n) (hn7 : n ≤ 7) (h41 : M.1 40 1 = nI t) (ht2 : t ≤ 2) (h43 : M.1 40 3 = nI lc) (hL : lyL lc) (hcn : lyN lc M cn) (hj : j < n) (hi : i < n) : zC l G 9 yX10_order cX10_order 3 (Option.some Jvm.ClassFile.FieldType.int) [.ref (0 : Nat), .int (nI j), .int (nI i)] M (zP (some (.int ((oPlay 90 40 lc n t i cn M).1 107 j))) ((oPlay 90 40 lc n t i cn M))) := by
  refine zC_of (by decide) (Nat.le_of_ble_eq_true rfl) (fun X Q hQ hX hl hR hr => ?_)
  refine zV_loc (L' := [.ref (0 : Nat), .int (nI j), .int (nI i)]) rfl ?_
  have g40 := h40
  have g41 := h41
  have g43 := h43
  have gcn := hcn
  have hgr : fGr lc n t cn M := ⟨h40, h41, h43, hcn⟩
  refine zV_aload_n hX dX10_order_0 rfl ?_
  refine zV_aload_n hX dX10_order_1 rfl ?_
  refine zV_getc hX dX10_order_2 zf_X10_19 zo0.1 rfl ?_
  refine zV_iload_n hX dX10_order_5 rfl ?_
  refine zV_cV1p hX hR hl dX10_order_6 (zc_holds l G _ 40 n _ zo40 (h40)) zt_X2_holds rfl zml_X10_83 zo40.1 ⟨by decide, by decide⟩ (Nat.le_of_ble_eq_true rfl) ?_
  dsimp only [Option.toList, List.cons_append, List.nil_append]
  refine zV_topi (zb true) (by rw [zmem_nI (by omega) (by omega), decide_eq_true hj]) ?_
  refine zV_if_eqB hX (tgt := 27) dX10_order_9 (by decide) (fun c_9 => absurd c_9 (by decide)) (fun c_9 => ?_)
  refine zV_aload_n hX dX10_order_12 rfl ?_
  refine zV_getc hX dX10_order_13 zf_X10_19 zo0.1 rfl ?_
  refine zV_iload_n hX dX10_order_16 rfl ?_
  refine zV_cV1p hX hR hl dX10_order_17 (zc_holds l G _ 40 n _ zo40 (h40)) zt_X2_holds rfl zml_X10_83 zo40.1 ⟨by decide, by decide⟩ (Nat.le_of_ble_eq_true rfl) ?_
  dsimp only [Option.toList, List.cons_append, List.nil_append]
  refine zV_topi (zb true) (by rw [zmem_nI (by omega) (by omega), decide_eq_true hi]) ?_
  refine zV_if_eqB hX (tgt := 27) dX10_order_20 (by decide) (fun c_20 => absurd c_20 (by decide)) (fun c_20 => ?_)
  refine zV_iconst hX (v := nI 1) dX10_order_23 (by decide) ?_
  refine zV_goto hX (tgt := 28) dX10_order_24 (by decide) ?_
  refine zV_topi (zb true) rfl ?_
  refine zV_cV1p hX hR hl dX10_order_28 (zc_such1 l G _) zt_X10_needSuch rfl zml_X10_87 zo0.1 ⟨by decide, by decide⟩ (Nat.le_of_ble_eq_true rfl) ?_
  dsimp only [Option.toList, List.cons_append, List.nil_append]
  refine zV_aload_n hX dX10_order_31 rfl ?_
  refine zV_getc hX dX10_order_32 zf_X10_33 zo0.1 rfl ?_
  refine zV_aload_n hX dX10_order_35 rfl ?_
  refine zV_getc hX dX10_order_36 zf_X10_19 zo0.1 rfl ?_
  refine zV_iload_n hX dX10_order_39 rfl ?_
  refine zV_cV2p hX hR hl dX10_order_40 (zc_play l G _ 90 40 lc n t i cn zo90 zo40 (by decide) (hL.ok (by decide)) g40 hn7 g41 ht2 g43 hL.lt gcn (by omega) (by omega)) zt_X6_play rfl zml_X10_146 zo90.1 ⟨by decide, by decide⟩ (Nat.le_of_ble_eq_true rfl) ?_
  dsimp only [Option.toList, List.cons_append, List.nil_append]
  refine zV_aload_n hX dX10_order_43 rfl ?_
  refine zV_getc hX dX10_order_44 zf_X10_33 zo0.1 rfl ?_
  refine zV_iload_n hX dX10_order_47 rfl ?_
  refine zV_cV1p hX hR hl dX10_order_48 (zc_decided l G _ 90 j zo90 (by omega)) zt_X6_decided rfl zml_X10_171 zo90.1 ⟨by decide, by decide⟩ (Nat.le_of_ble_eq_true rfl) ?_
  dsimp only [Option.toList, List.cons_append, List.nil_append]
  exact zV_reti hX hQ hr (⟨rfl, rfl⟩) dX10_order_51
set_option maxHeartbeats 1000000 in
theorem zf_orderX (l : Launch) (G : zG) (M : zM) (hst : l.stackTraces = false) (n : Nat) (x z : Int32) (h40 : M.1 40 0 = nI n) (hn7 : n ≤ 7) (hx : zmem x n = false) : zCx l G 9 1 6 yX10_order cX10_order 3 (Option.some Jvm.ClassFile.FieldType.int) [.ref (0 : Nat), .int x, .int z] M zNSE (mBs M) := by
  refine zCx_of (by decide) (Nat.le_of_ble_eq_true rfl) (fun X Q hQ hX hl hR hEx ht => ?_)
  refine zV_loc (L' := [.ref (0 : Nat), .int x, .int z]) rfl ?_
  refine zV_aload_n hX dX10_order_0 rfl ?_
  refine zV_aload_n hX dX10_order_1 rfl ?_
  refine zV_getc hX dX10_order_2 zf_X10_19 zo0.1 rfl ?_
  refine zV_iload_n hX dX10_order_5 rfl ?_
  refine zK_cV1p hX hR hl dX10_order_6 (zCk.of (zc_holds l G _ 40 n _ zo40 (h40))) zt_X2_holds rfl zml_X10_83 zo40.1 ⟨by decide, by decide⟩ (Nat.le_of_ble_eq_true rfl) (by omega) ⟨rfl, rfl⟩ ?_
  dsimp only [Option.toList, List.cons_append, List.nil_append]
  refine zV_topi (zb false) (by rw [hx]) ?_
  refine zV_if_eqB hX (tgt := 27) dX10_order_9 (by decide) (fun c_9 => ?_) (fun c_9 => absurd c_9 (by decide))
  refine zV_iconst hX (v := nI 0) dX10_order_27 (by decide) ?_
  refine zV_topi (zb false) rfl ?_
  exact zX_cV1 hX hEx hR hl hQ ht dX10_order_28 (zc_such0 l G _ hst) zt_X10_needSuch rfl zml_X10_87 zo0.1 ⟨by decide, by decide⟩ (Nat.le_of_ble_eq_true rfl) (by omega)
set_option maxHeartbeats 1000000 in
theorem zf_orderZ (l : Launch) (G : zG) (M : zM) (hst : l.stackTraces = false) (n j : Nat) (z : Int32) (h40 : M.1 40 0 = nI n) (hn7 : n ≤ 7) (hj : j < n) (hx : zmem z n = false) : zCx l G 9 1 6 yX10_order cX10_order 3 (Option.some Jvm.ClassFile.FieldType.int) [.ref (0 : Nat), .int (nI j), .int z] M zNSE (mBs M) := by
  refine zCx_of (by decide) (Nat.le_of_ble_eq_true rfl) (fun X Q hQ hX hl hR hEx ht => ?_)
  refine zV_loc (L' := [.ref (0 : Nat), .int (nI j), .int z]) rfl ?_
  refine zV_aload_n hX dX10_order_0 rfl ?_
  refine zV_aload_n hX dX10_order_1 rfl ?_
  refine zV_getc hX dX10_order_2 zf_X10_19 zo0.1 rfl ?_
  refine zV_iload_n hX dX10_order_5 rfl ?_
  refine zK_cV1p hX hR hl dX10_order_6 (zCk.of (zc_holds l G _ 40 n _ zo40 (h40))) zt_X2_holds rfl zml_X10_83 zo40.1 ⟨by decide, by decide⟩ (Nat.le_of_ble_eq_true rfl) (by omega) ⟨rfl, rfl⟩ ?_
  dsimp only [Option.toList, List.cons_append, List.nil_append]
  refine zV_topi (zb true) (by rw [zmem_nI (by omega) (by omega), decide_eq_true hj]) ?_
  refine zV_if_eqB hX (tgt := 27) dX10_order_9 (by decide) (fun c_9 => absurd c_9 (by decide)) (fun c_9 => ?_)
  refine zV_aload_n hX dX10_order_12 rfl ?_
  refine zV_getc hX dX10_order_13 zf_X10_19 zo0.1 rfl ?_
  refine zV_iload_n hX dX10_order_16 rfl ?_
  refine zK_cV1p hX hR hl dX10_order_17 (zCk.of (zc_holds l G _ 40 n _ zo40 (h40))) zt_X2_holds rfl zml_X10_83 zo40.1 ⟨by decide, by decide⟩ (Nat.le_of_ble_eq_true rfl) (by omega) ⟨rfl, rfl⟩ ?_
  dsimp only [Option.toList, List.cons_append, List.nil_append]
  refine zV_topi (zb false) (by rw [hx]) ?_
  refine zV_if_eqB hX (tgt := 27) dX10_order_20 (by decide) (fun c_20 => ?_) (fun c_20 => absurd c_20 (by decide))
  refine zV_iconst hX (v := nI 0) dX10_order_27 (by decide) ?_
  refine zV_topi (zb false) rfl ?_
  exact zX_cV1 hX hEx hR hl hQ ht dX10_order_28 (zc_such0 l G _ hst) zt_X10_needSuch rfl zml_X10_87 zo0.1 ⟨by decide, by decide⟩ (Nat.le_of_ble_eq_true rfl) (by omega)
def fMo (lc n t j : Nat) (cn : Nat → Nat) (k : Nat) (M : zM) : zM := zfor (fun i M => zw (oPlay 90 40 lc n t i cn M) 10 i ((oPlay 90 40 lc n t i cn M).1 107 j)) k M
theorem fMo_s {lc n t j k : Nat} {cn : Nat → Nat} {M : zM} : fMo lc n t j cn (k + 1) M = zw (oPlay 90 40 lc n t k cn (fMo lc n t j cn k M)) 10 k ((oPlay 90 40 lc n t k cn (fMo lc n t j cn k M)).1 107 j) := by
  unfold fMo
  exact zfor_s _ _ _
theorem fMo_out (lc n t j k : Nat) (cn : Nat → Nat) (M : zM) : fOut (fun a => a = 10 ∨ (90 ≤ a ∧ a ≤ 110)) M (fMo lc n t j cn k M) := fOut.for k M (fun i M _ => ((oPlay_out 90 lc n t i cn M).mono (fun a h => Or.inr h)).w (Or.inl rfl))
theorem fGr.mo {lc n t j k : Nat} {cn : Nat → Nat} {M : zM} (hL : lyL lc) (h : fGr lc n t cn M) : fGr lc n t cn (fMo lc n t j cn k M) := h.fr hL (fun a q hq => fMo_out lc n t j k cn M a q (by omega))
set_option maxHeartbeats 1000000 in
theorem zf_most (l : Launch) (G : zG) (M : zM) (lc n t : Nat) (cn : Nat → Nat) (j k : Nat)  (h40 : M.1 40 0 = nI n) (hn7 : n ≤ 7) (h41 : M.1 40 1 = nI t) (ht2 : t ≤ 2) (h43 : M.1 40 3 = nI lc) (hL : lyL lc) (hcn : lyN lc M cn) (hj : j < n) (hk : k < 2) : zC l G 9 yX10_most cX10_most 4 (Option.some Jvm.ClassFile.FieldType.int) [.ref (0 : Nat), .int (nI j), .int (nI k)] M (zP (some (.int (if k = 0 then (fMo lc n t j cn n M).1 10 (zfm (fun p => zcnt (fun q => (fMo lc n t j cn n M).1 10 q == (fMo lc n t j cn n M).1 10 p) n) n).1 else nI (zcnt (fun q => (fMo lc n t j cn n M).1 10 (q + 0) == (fMo lc n t j cn n M).1 10 (zfm (fun p => zcnt (fun q => (fMo lc n t j cn n M).1 10 q == (fMo lc n t j cn n M).1 10 p) n) n).1) n)))) ((fMo lc n t j cn n M))) := by
  refine zC_of (by decide) (Nat.le_of_ble_eq_true rfl) (fun X Q hQ hX hl hR hr => ?_)
  refine zV_loc (L' := [.ref (0 : Nat), .int (nI j), .int (nI k), .null]) rfl ?_
  have g40 := h40
  have g41 := h41
  have g43 := h43
  have gcn := hcn
  have hgr : fGr lc n t cn M := ⟨h40, h41, h43, hcn⟩
  clear g40 g41 g43 gcn
  have L32 : ∀ (f9 i : Nat), n - i < f9 → i ≤ n → zV G X Q 4 0 0 32 [.ref (0 : Nat), .int (nI j), .int (nI k), .int (nI i)] [] (fMo lc n t j cn i M) := by
    intro f9
    induction f9 with
    | zero => intro i hi1 hi2; exact absurd hi1 (Nat.not_lt_zero _)
    | succ f9 ih =>
      intro i hi1 hi2
      obtain ⟨g40, g41, g43, gcn⟩ := hgr.mo (j := j) (k := i) hL
      refine zV_iload_n hX dX10_most_32 rfl ?_
      refine zV_aload_n hX dX10_most_33 rfl ?_
      refine zV_getc hX dX10_most_34 zf_X10_19 zo0.1 rfl ?_
      refine zV_geti hX dX10_most_37 zf_X10_118 zo40.1 rfl (g40) ?_
      refine zV_icmp_geN hX (tgt := 75) dX10_most_40 (by decide) ⟨by omega, by omega⟩ (fun c_40 => ?_) (fun c_40 => ?_)
      · rw [show i = n by omega] at g40 ⊢
        obtain ⟨R, hRR⟩ : ∃ R, R = (fMo lc n t j cn n M) := ⟨_, rfl⟩
        rw [← hRR] at g40 ⊢
        obtain ⟨z, hz⟩ : ∃ z, z = (zfm (fun p => zcnt (fun q => R.1 10 q == R.1 10 p) n) n).1 := ⟨_, rfl⟩
        have hz7 : z < 7 := by rw [hz]; exact zfm_7 hn7
        refine zV_aload_n hX dX10_most_75 rfl ?_
        refine zV_geta hX dX10_most_76 zf_X10_64 zo0.1 rfl ?_
        refine zV_aload_n hX dX10_most_79 rfl ?_
        refine zV_getc hX dX10_most_80 zf_X10_19 zo0.1 rfl ?_
        refine zV_geti hX dX10_most_83 zf_X10_118 zo40.1 rfl (g40) ?_
        refine zV_cS2p hX hR hl dX10_most_86 (zc_firstOfMost l G R 10 7 n rfl (by omega) hn7) zt_X9_firstOfMost rfl zml_X10_217 (by decide) (Nat.le_of_ble_eq_true rfl) ?_
        dsimp only [Option.toList, List.cons_append, List.nil_append]
        refine zV_topi (nI z) (by rw [hz]) ?_
        refine zV_istore_n hX dX10_most_89 (by decide) ?_
        dsimp only [zst1, zst2, zclr, zc2]
        refine zV_iload_n hX dX10_most_90 rfl ?_
        refine zV_if_neN hX (tgt := 103) dX10_most_91 (by decide) (by omega) (fun c_91 => ?_) (fun c_91 => ?_)
        · refine zV_aload_n hX dX10_most_103 rfl ?_
          refine zV_geta hX dX10_most_104 zf_X10_64 zo0.1 rfl ?_
          refine zV_iconst hX (v := nI 0) dX10_most_107 (by decide) ?_
          refine zV_aload_n hX dX10_most_108 rfl ?_
          refine zV_getc hX dX10_most_109 zf_X10_19 zo0.1 rfl ?_
          refine zV_geti hX dX10_most_112 zf_X10_118 zo40.1 rfl (g40) ?_
          refine zV_aload_n hX dX10_most_115 rfl ?_
          refine zV_geta hX dX10_most_116 zf_X10_64 zo0.1 rfl ?_
          refine zV_iload_n hX dX10_most_119 rfl ?_
          refine zV_iald hX (v := R.1 10 z) dX10_most_120 (zo0.a 9 rfl) (rfl) ⟨by omega, by omega⟩ (rfl) ?_
          refine zV_cS4p hX hR hl dX10_most_121 (zc_alike l G R 10 7 0 n _ rfl (by omega) (by omega)) zt_X9_alike rfl zml_X10_223 (by decide) (Nat.le_of_ble_eq_true rfl) ?_
          dsimp only [Option.toList, List.cons_append, List.nil_append]
          exact zV_reti hX hQ hr (⟨by rw [← hRR, ← hz]; first | (rw [if_pos c_91]; done) | (rw [if_neg (by omega)]; done), hRR⟩) dX10_most_124
        · refine zV_aload_n hX dX10_most_94 rfl ?_
          refine zV_geta hX dX10_most_95 zf_X10_64 zo0.1 rfl ?_
          refine zV_iload_n hX dX10_most_98 rfl ?_
          refine zV_iald hX (v := R.1 10 z) dX10_most_99 (zo0.a 9 rfl) (rfl) ⟨by omega, by omega⟩ (rfl) ?_
          refine zV_goto hX (tgt := 124) dX10_most_100 (by decide) ?_
          exact zV_reti hX hQ hr (⟨by rw [← hRR, ← hz]; first | (rw [if_pos c_91]; done) | (rw [if_neg (by omega)]; done), hRR⟩) dX10_most_124
      · refine zV_aload_n hX dX10_most_43 rfl ?_
        refine zV_getc hX dX10_most_44 zf_X10_33 zo0.1 rfl ?_
        refine zV_aload_n hX dX10_most_47 rfl ?_
        refine zV_getc hX dX10_most_48 zf_X10_19 zo0.1 rfl ?_
        refine zV_iload_n hX dX10_most_51 rfl ?_
        refine zV_cV2p hX hR hl dX10_most_52 (zc_play l G _ 90 40 lc n t i cn zo90 zo40 (by decide) (hL.ok (by decide)) g40 hn7 g41 ht2 g43 hL.lt gcn (by omega) (by omega)) zt_X6_play rfl zml_X10_146 zo90.1 ⟨by decide, by decide⟩ (Nat.le_of_ble_eq_true rfl) ?_
        dsimp only [Option.toList, List.cons_append, List.nil_append]
        refine zV_aload_n hX dX10_most_55 rfl ?_
        refine zV_geta hX dX10_most_56 zf_X10_64 zo0.1 rfl ?_
        refine zV_iload_n hX dX10_most_59 rfl ?_
        refine zV_aload_n hX dX10_most_60 rfl ?_
        refine zV_getc hX dX10_most_61 zf_X10_33 zo0.1 rfl ?_
        refine zV_iload_n hX dX10_most_64 rfl ?_
        refine zV_cV1p hX hR hl dX10_most_65 (zc_decided l G _ 90 j zo90 (by omega)) zt_X6_decided rfl zml_X10_171 zo90.1 ⟨by decide, by decide⟩ (Nat.le_of_ble_eq_true rfl) ?_
        dsimp only [Option.toList, List.cons_append, List.nil_append]
        refine zV_iast hX dX10_most_68 (zo0.a 9 rfl) (rfl) ⟨by omega, by omega⟩ ?_
        refine zV_iincN hX (b := 1) dX10_most_69 rfl (by decide) ?_
        dsimp only [zst1, zst2, zclr, zc2]
        refine zV_goto hX (tgt := 32) dX10_most_72 (by decide) ?_
        refine zV_mem (fMo_s (k := i)).symm ?_
        exact ih (i + 1) (by omega) (by omega)
  refine zV_aload_n hX dX10_most_0 rfl ?_
  refine zV_aload_n hX dX10_most_1 rfl ?_
  refine zV_getc hX dX10_most_2 zf_X10_19 zo0.1 rfl ?_
  refine zV_iload_n hX dX10_most_5 rfl ?_
  refine zV_cV1p hX hR hl dX10_most_6 (zc_holds l G _ 40 n _ zo40 (h40)) zt_X2_holds rfl zml_X10_83 zo40.1 ⟨by decide, by decide⟩ (Nat.le_of_ble_eq_true rfl) ?_
  dsimp only [Option.toList, List.cons_append, List.nil_append]
  refine zV_topi (zb true) (by rw [zmem_nI (by omega) (by omega), decide_eq_true hj]) ?_
  refine zV_cV1p hX hR hl dX10_most_9 (zc_such1 l G _) zt_X10_needSuch rfl zml_X10_87 zo0.1 ⟨by decide, by decide⟩ (Nat.le_of_ble_eq_true rfl) ?_
  dsimp only [Option.toList, List.cons_append, List.nil_append]
  refine zV_aload_n hX dX10_most_12 rfl ?_
  refine zV_iload_n hX dX10_most_13 rfl ?_
  refine zV_if_eqN hX (tgt := 22) dX10_most_14 (by decide) (by omega) (fun c_14 => ?_) (fun c_14 => ?_)
  · refine zV_iconst hX (v := nI 1) dX10_most_22 (by decide) ?_
    refine zV_goto hX (tgt := 27) dX10_most_23 (by decide) ?_
    refine zV_topi (zb true) rfl ?_
    refine zV_cV1p hX hR hl dX10_most_27 (zc_need1 l G _) zt_X10_need rfl zml_X10_72 zo0.1 ⟨by decide, by decide⟩ (Nat.le_of_ble_eq_true rfl) ?_
    dsimp only [Option.toList, List.cons_append, List.nil_append]
    refine zV_iconst hX (v := nI 0) dX10_most_30 (by decide) ?_
    refine zV_istore_n hX dX10_most_31 (by decide) ?_
    dsimp only [zst1, zst2, zclr, zc2]
    exact L32 (n + 1) 0 (by omega) (by omega)
  · refine zV_iload_n hX dX10_most_17 rfl ?_
    refine zV_iconst hX (v := nI 1) dX10_most_18 (by decide) ?_
    refine zV_icmp_neN hX (tgt := 26) dX10_most_19 (by decide) ⟨by omega, by omega⟩ (fun c_19 => ?_) (fun c_19 => ?_)
    · refine zV_iconst hX (v := nI 0) dX10_most_26 (by decide) ?_
      refine zV_topi (zb false) rfl ?_
      exfalso
      omega
    · refine zV_iconst hX (v := nI 1) dX10_most_22 (by decide) ?_
      refine zV_goto hX (tgt := 27) dX10_most_23 (by decide) ?_
      refine zV_topi (zb true) rfl ?_
      refine zV_cV1p hX hR hl dX10_most_27 (zc_need1 l G _) zt_X10_need rfl zml_X10_72 zo0.1 ⟨by decide, by decide⟩ (Nat.le_of_ble_eq_true rfl) ?_
      dsimp only [Option.toList, List.cons_append, List.nil_append]
      refine zV_iconst hX (v := nI 0) dX10_most_30 (by decide) ?_
      refine zV_istore_n hX dX10_most_31 (by decide) ?_
      dsimp only [zst1, zst2, zclr, zc2]
      exact L32 (n + 1) 0 (by omega) (by omega)
set_option maxHeartbeats 1000000 in
theorem zf_mostX (l : Launch) (G : zG) (M : zM) (hst : l.stackTraces = false) (n : Nat) (x k : Int32) (h40 : M.1 40 0 = nI n) (hn7 : n ≤ 7) (hx : zmem x n = false) : zCx l G 9 1 6 yX10_most cX10_most 4 (Option.some Jvm.ClassFile.FieldType.int) [.ref (0 : Nat), .int x, .int k] M zNSE (mBs M) := by
  refine zCx_of (by decide) (Nat.le_of_ble_eq_true rfl) (fun X Q hQ hX hl hR hEx ht => ?_)
  refine zV_loc (L' := [.ref (0 : Nat), .int x, .int k, .null]) rfl ?_
  refine zV_aload_n hX dX10_most_0 rfl ?_
  refine zV_aload_n hX dX10_most_1 rfl ?_
  refine zV_getc hX dX10_most_2 zf_X10_19 zo0.1 rfl ?_
  refine zV_iload_n hX dX10_most_5 rfl ?_
  refine zK_cV1p hX hR hl dX10_most_6 (zCk.of (zc_holds l G _ 40 n _ zo40 (h40))) zt_X2_holds rfl zml_X10_83 zo40.1 ⟨by decide, by decide⟩ (Nat.le_of_ble_eq_true rfl) (by omega) ⟨rfl, rfl⟩ ?_
  dsimp only [Option.toList, List.cons_append, List.nil_append]
  refine zV_topi (zb false) (by rw [hx]) ?_
  exact zX_cV1 hX hEx hR hl hQ ht dX10_most_9 (zc_such0 l G _ hst) zt_X10_needSuch rfl zml_X10_87 zo0.1 ⟨by decide, by decide⟩ (Nat.le_of_ble_eq_true rfl) (by omega)
set_option maxHeartbeats 1000000 in
theorem zf_mostK (l : Launch) (G : zG) (M : zM) (hst : l.stackTraces = false) (n j : Nat) (k : Int32) (h40 : M.1 40 0 = nI n) (hn7 : n ≤ 7) (hj : j < n) (hk : mIn k (nI 0) (nI 1) = false) : zCx l G 9 1 6 yX10_most cX10_most 4 (Option.some Jvm.ClassFile.FieldType.int) [.ref (0 : Nat), .int (nI j), .int k] M zIAE (mBa M) := by
  refine zCx_of (by decide) (Nat.le_of_ble_eq_true rfl) (fun X Q hQ hX hl hR hEx ht => ?_)
  refine zV_loc (L' := [.ref (0 : Nat), .int (nI j), .int k, .null]) rfl ?_
  refine zV_aload_n hX dX10_most_0 rfl ?_
  refine zV_aload_n hX dX10_most_1 rfl ?_
  refine zV_getc hX dX10_most_2 zf_X10_19 zo0.1 rfl ?_
  refine zV_iload_n hX dX10_most_5 rfl ?_
  refine zK_cV1p hX hR hl dX10_most_6 (zCk.of (zc_holds l G _ 40 n _ zo40 (h40))) zt_X2_holds rfl zml_X10_83 zo40.1 ⟨by decide, by decide⟩ (Nat.le_of_ble_eq_true rfl) (by omega) ⟨rfl, rfl⟩ ?_
  dsimp only [Option.toList, List.cons_append, List.nil_append]
  refine zV_topi (zb true) (by rw [zmem_nI (by omega) (by omega), decide_eq_true hj]) ?_
  refine zK_cV1p hX hR hl dX10_most_9 (zCk.of (zc_such1 l G _)) zt_X10_needSuch rfl zml_X10_87 zo0.1 ⟨by decide, by decide⟩ (Nat.le_of_ble_eq_true rfl) (by omega) ⟨rfl, rfl⟩ ?_
  dsimp only [Option.toList, List.cons_append, List.nil_append]
  refine zV_aload_n hX dX10_most_12 rfl ?_
  refine zV_iload_n hX dX10_most_13 rfl ?_
  refine zV_if_eq hX (tgt := 22) dX10_most_14 (by decide) (fun c_14 => ?_) (fun c_14 => ?_)
  · refine zV_iconst hX (v := nI 1) dX10_most_22 (by decide) ?_
    refine zV_goto hX (tgt := 27) dX10_most_23 (by decide) ?_
    refine zV_topi (zb true) rfl ?_
    first | (rw [mIn_e0 c_14] at hk; exact absurd hk (by decide)) | (rw [mIn_e1 c_19] at hk; exact absurd hk (by decide))
  · refine zV_iload_n hX dX10_most_17 rfl ?_
    refine zV_iconst hX (v := nI 1) dX10_most_18 (by decide) ?_
    refine zV_icmp_ne hX (tgt := 26) dX10_most_19 (by decide) (fun c_19 => ?_) (fun c_19 => ?_)
    · refine zV_iconst hX (v := nI 0) dX10_most_26 (by decide) ?_
      refine zV_topi (zb false) rfl ?_
      exact zX_cV1 hX hEx hR hl hQ ht dX10_most_27 (zc_need0 l G _ hst) zt_X10_need rfl zml_X10_72 zo0.1 ⟨by decide, by decide⟩ (Nat.le_of_ble_eq_true rfl) (by omega)
    · refine zV_iconst hX (v := nI 1) dX10_most_22 (by decide) ?_
      refine zV_goto hX (tgt := 27) dX10_most_23 (by decide) ?_
      refine zV_topi (zb true) rfl ?_
      first | (rw [mIn_e0 c_14] at hk; exact absurd hk (by decide)) | (rw [mIn_e1 c_19] at hk; exact absurd hk (by decide))
def fAg (lc n t : Nat) (cn : Nat → Nat) (k : Nat) (M : zM) : zM := zfor (fun i M => oPlay 90 40 lc n t i cn M) k M
theorem fAg_s {lc n t k : Nat} {cn : Nat → Nat} {M : zM} : fAg lc n t cn (k + 1) M = oPlay 90 40 lc n t k cn (fAg lc n t cn k M) := by
  unfold fAg
  exact zfor_s _ _ _
theorem fAg_out (lc n t k : Nat) (cn : Nat → Nat) (M : zM) : fOut (fun a => 90 ≤ a ∧ a ≤ 110) M (fAg lc n t cn k M) := fOut.for k M (fun i M _ => oPlay_out 90 lc n t i cn M)
def fAgB (lc n t : Nat) (cn : Nat → Nat) (M : zM) (i : Nat) : Bool := decide (zunl ((fAg lc n t cn (i + 1) M).1 (90 + 1 + 16)) ((fAg lc n t cn (i + 1) M).1 90 10) n ≤ 1)
theorem fAgC_t {lc n t i : Nat} {cn : Nat → Nat} {M : zM} (h : fAgB lc n t cn M i = true) : zcnt (fAgB lc n t cn M) i + 1 = zcnt (fAgB lc n t cn M) (i + 1) := (zcnt_t h).symm
theorem fAgC_f {lc n t i : Nat} {cn : Nat → Nat} {M : zM} (h : fAgB lc n t cn M i = false) : zcnt (fAgB lc n t cn M) i + 0 = zcnt (fAgB lc n t cn M) (i + 1) := (zcnt_f h).symm
set_option maxHeartbeats 1000000 in
theorem zf_agreeing (l : Launch) (G : zG) (M : zM) (lc n t : Nat) (cn : Nat → Nat)  (h40 : M.1 40 0 = nI n) (hn7 : n ≤ 7) (h41 : M.1 40 1 = nI t) (ht2 : t ≤ 2) (h43 : M.1 40 3 = nI lc) (hL : lyL lc) (hcn : lyN lc M cn) : zC l G 9 yX10_agreeing cX10_agreeing 3 (Option.some Jvm.ClassFile.FieldType.int) [.ref (0 : Nat)] M (zP (some (.int (nI (zcnt (fAgB lc n t cn M) n)))) ((fAg lc n t cn n M))) := by
  refine zC_of (by decide) (Nat.le_of_ble_eq_true rfl) (fun X Q hQ hX hl hR hr => ?_)
  refine zV_loc (L' := [.ref (0 : Nat), .null, .null]) rfl ?_
  have hgr : fGr lc n t cn M := ⟨h40, h41, h43, hcn⟩
  have L4 : ∀ (f9 i : Nat), n - i < f9 → i ≤ n → zV G X Q 3 0 0 4 [.ref (0 : Nat), .int (nI (zcnt (fAgB lc n t cn M) i)), .int (nI i)] [] (fAg lc n t cn i M) := by
    intro f9
    induction f9 with
    | zero => intro i hi1 hi2; exact absurd hi1 (Nat.not_lt_zero _)
    | succ f9 ih =>
      intro i hi1 hi2
      obtain ⟨g40, g41, g43, gcn⟩ := hgr.out hL (fAg_out lc n t i cn M) (by decide)
      refine zV_iload_n hX dX10_agreeing_4 rfl ?_
      refine zV_aload_n hX dX10_agreeing_5 rfl ?_
      refine zV_getc hX dX10_agreeing_6 zf_X10_19 zo0.1 rfl ?_
      refine zV_geti hX dX10_agreeing_9 zf_X10_118 zo40.1 rfl (g40) ?_
      refine zV_icmp_geN hX (tgt := 52) dX10_agreeing_12 (by decide) ⟨by omega, by omega⟩ (fun c_12 => ?_) (fun c_12 => ?_)
      · refine zV_iload_n hX dX10_agreeing_52 rfl ?_
        exact zV_reti hX hQ hr (⟨by rw [show i = n by omega], by rw [show i = n by omega]⟩) dX10_agreeing_53
      · refine zV_aload_n hX dX10_agreeing_15 rfl ?_
        refine zV_getc hX dX10_agreeing_16 zf_X10_33 zo0.1 rfl ?_
        refine zV_aload_n hX dX10_agreeing_19 rfl ?_
        refine zV_getc hX dX10_agreeing_20 zf_X10_19 zo0.1 rfl ?_
        refine zV_iload_n hX dX10_agreeing_23 rfl ?_
        refine zV_cV2p hX hR hl dX10_agreeing_24 (zc_play l G _ 90 40 lc n t i cn zo90 zo40 (by decide) (hL.ok (by decide)) g40 hn7 g41 ht2 g43 hL.lt gcn (by omega) (by omega)) zt_X6_play rfl zml_X10_146 zo90.1 ⟨by decide, by decide⟩ (Nat.le_of_ble_eq_true rfl) ?_
        dsimp only [Option.toList, List.cons_append, List.nil_append]
        refine zV_mem (fAg_s (k := i)).symm ?_
        have h7 : (fAg lc n t cn (i + 1) M).1 90 7 = nI n := by rw [fAg_s]; exact (oFi.p4 90 40 lc n t i cn n _).2.2.1
        obtain ⟨u9, hU9⟩ : ∃ u, zunl ((fAg lc n t cn (i + 1) M).1 (90 + 1 + 16)) ((fAg lc n t cn (i + 1) M).1 90 10) n = u := ⟨_, rfl⟩
        have hu9 : u9 ≤ 7 := hU9 ▸ Nat.le_trans (zcnt_le _ _) hn7
        refine zV_iload_n hX dX10_agreeing_27 rfl ?_
        refine zV_aload_n hX dX10_agreeing_28 rfl ?_
        refine zV_getc hX dX10_agreeing_29 zf_X10_33 zo0.1 rfl ?_
        refine zV_cV0p hX hR hl dX10_agreeing_32 (zc_ounlike l G _ 90 n zo90 h7 hn7) zt_X6_unlike rfl zml_X10_150 zo90.1 ⟨by decide, by decide⟩ (Nat.le_of_ble_eq_true rfl) ?_
        dsimp only [Option.toList, List.cons_append, List.nil_append]
        refine zV_topi (nI u9) (by rw [hU9]) ?_
        refine zV_iconst hX (v := nI 1) dX10_agreeing_35 (by decide) ?_
        refine zV_icmp_gtN hX (tgt := 43) dX10_agreeing_36 (by decide) ⟨by omega, by omega⟩ (fun c_36 => ?_) (fun c_36 => ?_)
        · refine zV_iconst hX (v := nI 0) dX10_agreeing_43 (by decide) ?_
          refine zV_iaddN hX dX10_agreeing_44 ?_
          refine zV_istore_n hX dX10_agreeing_45 (by decide) ?_
          dsimp only [zst1, zst2, zclr, zc2]
          refine zV_iincN hX (b := 1) dX10_agreeing_46 rfl (by decide) ?_
          dsimp only [zst1, zst2, zclr, zc2]
          refine zV_goto hX (tgt := 4) dX10_agreeing_49 (by decide) ?_
          first | (rw [fAgC_t (by unfold fAgB; rw [hU9, decide_eq_true (by omega)])]; exact ih (i + 1) (by omega) (by omega)) | (rw [fAgC_f (by unfold fAgB; rw [hU9, decide_eq_false (by omega)])]; exact ih (i + 1) (by omega) (by omega))
        · refine zV_iconst hX (v := nI 1) dX10_agreeing_39 (by decide) ?_
          refine zV_goto hX (tgt := 44) dX10_agreeing_40 (by decide) ?_
          refine zV_iaddN hX dX10_agreeing_44 ?_
          refine zV_istore_n hX dX10_agreeing_45 (by decide) ?_
          dsimp only [zst1, zst2, zclr, zc2]
          refine zV_iincN hX (b := 1) dX10_agreeing_46 rfl (by decide) ?_
          dsimp only [zst1, zst2, zclr, zc2]
          refine zV_goto hX (tgt := 4) dX10_agreeing_49 (by decide) ?_
          first | (rw [fAgC_t (by unfold fAgB; rw [hU9, decide_eq_true (by omega)])]; exact ih (i + 1) (by omega) (by omega)) | (rw [fAgC_f (by unfold fAgB; rw [hU9, decide_eq_false (by omega)])]; exact ih (i + 1) (by omega) (by omega))
  refine zV_iconst hX (v := nI 0) dX10_agreeing_0 (by decide) ?_
  refine zV_istore_n hX dX10_agreeing_1 (by decide) ?_
  dsimp only [zst1, zst2, zclr, zc2]
  refine zV_iconst hX (v := nI 0) dX10_agreeing_2 (by decide) ?_
  refine zV_istore_n hX dX10_agreeing_3 (by decide) ?_
  dsimp only [zst1, zst2, zclr, zc2]
  exact L4 (n + 1) 0 (by omega) (by omega)
def fGn (lc n t : Nat) (cn : Nat → Nat) (k : Nat) (M : zM) : zM := zfor (fun i M => sPlay 120 40 lc n t i cn (oPlay 90 40 lc n t i cn M)) k M
theorem fGn_s {lc n t k : Nat} {cn : Nat → Nat} {M : zM} : fGn lc n t cn (k + 1) M = sPlay 120 40 lc n t k cn (oPlay 90 40 lc n t k cn (fGn lc n t cn k M)) := by
  unfold fGn
  exact zfor_s _ _ _
theorem fGn_out (lc n t k : Nat) (cn : Nat → Nat) (M : zM) : fOut (fun a => 90 ≤ a ∧ a ≤ 132) M (fGn lc n t cn k M) := fOut.for k M (fun i M _ => ((oPlay_out 90 lc n t i cn M).mono (fun a h => by omega)).tr ((sPlay_out 120 lc n t i cn _).mono (fun a h => by omega)))
def fGnB (lc n t : Nat) (cn : Nat → Nat) (M : zM) (i : Nat) : Bool := !decide (nI 1 < (fGn lc n t cn (i + 1) M).1 120 0) && decide (1 < zunl ((fGn lc n t cn (i + 1) M).1 (90 + 1 + 16)) ((fGn lc n t cn (i + 1) M).1 90 10) n)
theorem fGnC_t {lc n t i : Nat} {cn : Nat → Nat} {M : zM} (h : fGnB lc n t cn M i = true) : zcnt (fGnB lc n t cn M) i + 1 = zcnt (fGnB lc n t cn M) (i + 1) := (zcnt_t h).symm
theorem fGnC_f {lc n t i : Nat} {cn : Nat → Nat} {M : zM} (h : fGnB lc n t cn M i = false) : zcnt (fGnB lc n t cn M) i + 0 = zcnt (fGnB lc n t cn M) (i + 1) := (zcnt_f h).symm
set_option maxHeartbeats 1000000 in
theorem zf_gains (l : Launch) (G : zG) (M : zM) (lc n t : Nat) (cn : Nat → Nat)  (h40 : M.1 40 0 = nI n) (hn7 : n ≤ 7) (h41 : M.1 40 1 = nI t) (ht2 : t ≤ 2) (h43 : M.1 40 3 = nI lc) (hL : lyL lc) (hcn : lyN lc M cn) : zC l G 9 yX10_gains cX10_gains 3 (Option.some Jvm.ClassFile.FieldType.int) [.ref (0 : Nat)] M (zP (some (.int (nI (zcnt (fGnB lc n t cn M) n)))) ((fGn lc n t cn n M))) := by
  refine zC_of (by decide) (Nat.le_of_ble_eq_true rfl) (fun X Q hQ hX hl hR hr => ?_)
  refine zV_loc (L' := [.ref (0 : Nat), .null, .null]) rfl ?_
  have hgr : fGr lc n t cn M := ⟨h40, h41, h43, hcn⟩
  have L4 : ∀ (f9 i : Nat), n - i < f9 → i ≤ n → zV G X Q 3 0 0 4 [.ref (0 : Nat), .int (nI (zcnt (fGnB lc n t cn M) i)), .int (nI i)] [] (fGn lc n t cn i M) := by
    intro f9
    induction f9 with
    | zero => intro i hi1 hi2; exact absurd hi1 (Nat.not_lt_zero _)
    | succ f9 ih =>
      intro i hi1 hi2
      have hg9 := hgr.out hL (fGn_out lc n t i cn M) (by decide)
      have hg7 := hg9
      obtain ⟨g40, g41, g43, gcn⟩ := hg7
      refine zV_iload_n hX dX10_gains_4 rfl ?_
      refine zV_aload_n hX dX10_gains_5 rfl ?_
      refine zV_getc hX dX10_gains_6 zf_X10_19 zo0.1 rfl ?_
      refine zV_geti hX dX10_gains_9 zf_X10_118 zo40.1 rfl (g40) ?_
      refine zV_icmp_geN hX (tgt := 75) dX10_gains_12 (by decide) ⟨by omega, by omega⟩ (fun c_12 => ?_) (fun c_12 => ?_)
      · refine zV_iload_n hX dX10_gains_75 rfl ?_
        exact zV_reti hX hQ hr (⟨by rw [show i = n by omega], by rw [show i = n by omega]⟩) dX10_gains_76
      · refine zV_aload_n hX dX10_gains_15 rfl ?_
        refine zV_getc hX dX10_gains_16 zf_X10_33 zo0.1 rfl ?_
        refine zV_aload_n hX dX10_gains_19 rfl ?_
        refine zV_getc hX dX10_gains_20 zf_X10_19 zo0.1 rfl ?_
        refine zV_iload_n hX dX10_gains_23 rfl ?_
        refine zV_cV2p hX hR hl dX10_gains_24 (zc_play l G _ 90 40 lc n t i cn zo90 zo40 (by decide) (hL.ok (by decide)) g40 hn7 g41 ht2 g43 hL.lt gcn (by omega) (by omega)) zt_X6_play rfl zml_X10_146 zo90.1 ⟨by decide, by decide⟩ (Nat.le_of_ble_eq_true rfl) ?_
        dsimp only [Option.toList, List.cons_append, List.nil_append]
        have hg8 := hg9.out hL (oPlay_out 90 lc n t i cn _) (by decide)
        clear g40 g41 g43 gcn
        obtain ⟨g40, g41, g43, gcn⟩ := hg8
        refine zV_aload_n hX dX10_gains_27 rfl ?_
        refine zV_getc hX dX10_gains_28 zf_X10_39 zo0.1 rfl ?_
        refine zV_aload_n hX dX10_gains_31 rfl ?_
        refine zV_getc hX dX10_gains_32 zf_X10_19 zo0.1 rfl ?_
        refine zV_iload_n hX dX10_gains_35 rfl ?_
        refine zV_cV2p hX hR hl dX10_gains_36 (zc_splay l G _ 120 40 lc n t i cn zo120 zo40 (by decide) (hL.s (by decide)) g40 hn7 g41 ht2 g43 hL.lt gcn (by omega)) zt_X8_play rfl zml_X10_227 zo120.1 ⟨by decide, by decide⟩ (Nat.le_of_ble_eq_true rfl) ?_
        dsimp only [Option.toList, List.cons_append, List.nil_append]
        refine zV_mem (fGn_s (k := i)).symm ?_
        have h7 : (fGn lc n t cn (i + 1) M).1 90 7 = nI n := by rw [fGn_s, sPlay_out 120 lc n t i cn _ 90 7 (by decide)]; exact (oFi.p4 90 40 lc n t i cn n _).2.2.1
        obtain ⟨u9, hU9⟩ : ∃ u, zunl ((fGn lc n t cn (i + 1) M).1 (90 + 1 + 16)) ((fGn lc n t cn (i + 1) M).1 90 10) n = u := ⟨_, rfl⟩
        have hu9 : u9 ≤ 7 := hU9 ▸ Nat.le_trans (zcnt_le _ _) hn7
        refine zV_iload_n hX dX10_gains_39 rfl ?_
        refine zV_aload_n hX dX10_gains_40 rfl ?_
        refine zV_getc hX dX10_gains_41 zf_X10_39 zo0.1 rfl ?_
        refine zV_geti hX (x := (fGn lc n t cn (i + 1) M).1 120 0) dX10_gains_44 zf_X10_228 zo120.1 rfl (rfl) ?_
        refine zV_iconst hX (v := nI 1) dX10_gains_47 (by decide) ?_
        refine zV_icmp_gt hX (tgt := 66) dX10_gains_48 (by decide) (fun c_48 => ?_) (fun c_48 => ?_)
        · refine zV_iconst hX (v := nI 0) dX10_gains_66 (by decide) ?_
          refine zV_iaddN hX dX10_gains_67 ?_
          refine zV_istore_n hX dX10_gains_68 (by decide) ?_
          dsimp only [zst1, zst2, zclr, zc2]
          refine zV_iincN hX (b := 1) dX10_gains_69 rfl (by decide) ?_
          dsimp only [zst1, zst2, zclr, zc2]
          refine zV_goto hX (tgt := 4) dX10_gains_72 (by decide) ?_
          first | (rw [fGnC_f (by unfold fGnB; rw [decide_eq_true c_48]; rfl)]; exact ih (i + 1) (by omega) (by omega)) | (rw [fGnC_t (by unfold fGnB; rw [decide_eq_false c_48, hU9, decide_eq_true (by omega)]; rfl)]; exact ih (i + 1) (by omega) (by omega)) | (rw [fGnC_f (by unfold fGnB; rw [decide_eq_false c_48, hU9, decide_eq_false (by omega)]; rfl)]; exact ih (i + 1) (by omega) (by omega))
        · refine zV_aload_n hX dX10_gains_51 rfl ?_
          refine zV_getc hX dX10_gains_52 zf_X10_33 zo0.1 rfl ?_
          refine zV_cV0p hX hR hl dX10_gains_55 (zc_ounlike l G _ 90 n zo90 h7 hn7) zt_X6_unlike rfl zml_X10_150 zo90.1 ⟨by decide, by decide⟩ (Nat.le_of_ble_eq_true rfl) ?_
          dsimp only [Option.toList, List.cons_append, List.nil_append]
          refine zV_topi (nI u9) (by rw [hU9]) ?_
          refine zV_iconst hX (v := nI 1) dX10_gains_58 (by decide) ?_
          refine zV_icmp_leN hX (tgt := 66) dX10_gains_59 (by decide) ⟨by omega, by omega⟩ (fun c_59 => ?_) (fun c_59 => ?_)
          · refine zV_iconst hX (v := nI 0) dX10_gains_66 (by decide) ?_
            refine zV_iaddN hX dX10_gains_67 ?_
            refine zV_istore_n hX dX10_gains_68 (by decide) ?_
            dsimp only [zst1, zst2, zclr, zc2]
            refine zV_iincN hX (b := 1) dX10_gains_69 rfl (by decide) ?_
            dsimp only [zst1, zst2, zclr, zc2]
            refine zV_goto hX (tgt := 4) dX10_gains_72 (by decide) ?_
            first | (rw [fGnC_f (by unfold fGnB; rw [decide_eq_true c_48]; rfl)]; exact ih (i + 1) (by omega) (by omega)) | (rw [fGnC_t (by unfold fGnB; rw [decide_eq_false c_48, hU9, decide_eq_true (by omega)]; rfl)]; exact ih (i + 1) (by omega) (by omega)) | (rw [fGnC_f (by unfold fGnB; rw [decide_eq_false c_48, hU9, decide_eq_false (by omega)]; rfl)]; exact ih (i + 1) (by omega) (by omega))
          · refine zV_iconst hX (v := nI 1) dX10_gains_62 (by decide) ?_
            refine zV_goto hX (tgt := 67) dX10_gains_63 (by decide) ?_
            refine zV_iaddN hX dX10_gains_67 ?_
            refine zV_istore_n hX dX10_gains_68 (by decide) ?_
            dsimp only [zst1, zst2, zclr, zc2]
            refine zV_iincN hX (b := 1) dX10_gains_69 rfl (by decide) ?_
            dsimp only [zst1, zst2, zclr, zc2]
            refine zV_goto hX (tgt := 4) dX10_gains_72 (by decide) ?_
            first | (rw [fGnC_f (by unfold fGnB; rw [decide_eq_true c_48]; rfl)]; exact ih (i + 1) (by omega) (by omega)) | (rw [fGnC_t (by unfold fGnB; rw [decide_eq_false c_48, hU9, decide_eq_true (by omega)]; rfl)]; exact ih (i + 1) (by omega) (by omega)) | (rw [fGnC_f (by unfold fGnB; rw [decide_eq_false c_48, hU9, decide_eq_false (by omega)]; rfl)]; exact ih (i + 1) (by omega) (by omega))
  refine zV_iconst hX (v := nI 0) dX10_gains_0 (by decide) ?_
  refine zV_istore_n hX dX10_gains_1 (by decide) ?_
  dsimp only [zst1, zst2, zclr, zc2]
  refine zV_iconst hX (v := nI 0) dX10_gains_2 (by decide) ?_
  refine zV_istore_n hX dX10_gains_3 (by decide) ?_
  dsimp only [zst1, zst2, zclr, zc2]
  exact L4 (n + 1) 0 (by omega) (by omega)
