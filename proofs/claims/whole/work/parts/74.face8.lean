theorem fAt_f {lt n r i w : Nat} {M : zM} (hn : n ≤ 4) (hi : i < 7) (h53 : M.1 50 3 = nI lt) (hT : lyL lt) : (fAt lt n r i w M).1 90 7 = nI n ∧ (fAt lt n r i w M).1 90 0 = nI 0 ∧ (fAt lt n r i w M).1 50 3 = nI lt := by
  obtain ⟨-, -, hI⟩ := fAI_k (n := n) (r := r) (i := i) (w := w) (M := M) hT hi h53 (n - 1) (by omega)
  have hF := oFi.p4 90 50 lt n (r - 1) 0 (fun m => if m = i then (fAk lt n r i w M (n - 1)).2.1 else 0) n (fAk lt n r i w M (n - 1)).2.2
  exact ⟨hF.2.2.1, hF.2.1, (hF.out (Or.inl (by decide))).trans hI.2.2.1⟩
/-- all ways: so many break, the first of them, what is left in the memory -/
def fAL (lt n r i : Nat) (M : zM) : Nat → Nat × Option Nat × zM
  | 0 => (0, none, M)
  | p + 1 => if fBr n i (fAt lt n r i (3 ^ fWl n r i - 1 - p) (fAL lt n r i M p).2.2) = true then ((fAL lt n r i M p).1 + 1, some (3 ^ fWl n r i - 1 - p), fAt lt n r i (3 ^ fWl n r i - 1 - p) (fAL lt n r i M p).2.2) else ((fAL lt n r i M p).1, (fAL lt n r i M p).2.1, fAt lt n r i (3 ^ fWl n r i - 1 - p) (fAL lt n r i M p).2.2)
theorem fAL_t {lt n r i p : Nat} {M : zM} (h : fBr n i (fAt lt n r i (3 ^ fWl n r i - 1 - p) (fAL lt n r i M p).2.2) = true) : fAL lt n r i M (p + 1) = ((fAL lt n r i M p).1 + 1, some (3 ^ fWl n r i - 1 - p), fAt lt n r i (3 ^ fWl n r i - 1 - p) (fAL lt n r i M p).2.2) := if_pos h
theorem fAL_f {lt n r i p : Nat} {M : zM} (h : fBr n i (fAt lt n r i (3 ^ fWl n r i - 1 - p) (fAL lt n r i M p).2.2) = false) : fAL lt n r i M (p + 1) = ((fAL lt n r i M p).1, (fAL lt n r i M p).2.1, fAt lt n r i (3 ^ fWl n r i - 1 - p) (fAL lt n r i M p).2.2) := if_neg (by rw [h]; decide)
theorem fAL_53 {lt n r i : Nat} {M : zM} (hn : n ≤ 4) (hi : i < 7) (h53 : M.1 50 3 = nI lt) (hT : lyL lt) : ∀ p, (fAL lt n r i M p).2.2.1 50 3 = nI lt ∧ (fAL lt n r i M p).1 ≤ p
  | 0 => ⟨h53, Nat.le_refl _⟩
  | p + 1 => by
    obtain ⟨h1, h2⟩ := fAL_53 (r := r) hn hi h53 hT p
    have h3 := (fAt_f (r := r) (w := 3 ^ fWl n r i - 1 - p) hn hi h1 hT).2.2
    unfold fAL
    split
    · exact ⟨h3, Nat.succ_le_succ h2⟩
    · exact ⟨h3, Nat.le_succ_of_le h2⟩
set_option maxHeartbeats 1000000 in
theorem zf_breaks (l : Launch) (G : zG) (M : zM) (lt n r i w : Nat)  (hn3 : 3 ≤ n ∧ n ≤ 4) (hrr : 1 ≤ r ∧ r ≤ 2) (hi : i < n) (hw : w < 3 ^ fWl n r i) (h53 : M.1 50 3 = nI lt) (hT : lyL lt) : zC l G 9 yX10_breaks cX10_breaks 5 (Option.some Jvm.ClassFile.FieldType.boolean) [.ref (0 : Nat), .int (nI n), .int (nI r), .int (nI i), .int (nI w)] M (zP (some (.int (zb (fBr n i (fAt lt n r i w M))))) ((fAt lt n r i w M))) := by
  refine zC_of (by decide) (Nat.le_of_ble_eq_true rfl) (fun X Q hQ hX hl hR hr => ?_)
  refine zV_loc (L' := [.ref (0 : Nat), .int (nI n), .int (nI r), .int (nI i), .int (nI w)]) rfl ?_
  have hw3 := fWl_le (r := r) (i := i) hn3.2
  have hp3 := p3_le hw3
  obtain ⟨hx7, hx0, -⟩ := fAt_f (n := n) (r := r) (i := i) (w := w) hn3.2 (by omega) h53 hT
  refine zV_aload_n hX dX10_breaks_0 rfl ?_
  refine zV_iload_n hX dX10_breaks_1 rfl ?_
  refine zV_iload_n hX dX10_breaks_2 rfl ?_
  refine zV_iload_n hX dX10_breaks_3 rfl ?_
  refine zV_cV3p hX hR hl dX10_breaks_4 (zf_needAttack l G _ n r i hn3 hrr hi) zt_X10_needAttack rfl zml_X10_316 zo0.1 ⟨by decide, by decide⟩ (Nat.le_of_ble_eq_true rfl) ?_
  dsimp only [Option.toList, List.cons_append, List.nil_append]
  refine zV_aload_n hX dX10_breaks_7 rfl ?_
  refine zV_iload hX dX10_breaks_8 rfl ?_
  refine zV_if_ltN hX (tgt := 28) dX10_breaks_10 (by decide) (by omega) (fun c_10 => ?_)
  refine zV_iload hX dX10_breaks_13 rfl ?_
  refine zV_iload_n hX dX10_breaks_15 rfl ?_
  refine zV_iload_n hX dX10_breaks_16 rfl ?_
  refine zV_iload_n hX dX10_breaks_17 rfl ?_
  refine zV_cS3p hX hR hl dX10_breaks_18 (zc_waysOf l G _ n r i hn3 hrr hi) zt_X10_waysOf rfl zml_X10_320 (by decide) (Nat.le_of_ble_eq_true rfl) ?_
  dsimp only [Option.toList, List.cons_append, List.nil_append]
  refine zV_icmp_geN hX (tgt := 28) dX10_breaks_21 (by decide) ⟨by omega, by omega⟩ (fun c_21 => ?_) (fun c_21 => ?_)
  · refine zV_iconst hX (v := nI 0) dX10_breaks_28 (by decide) ?_
    refine zV_topi (zb false) rfl ?_
    exfalso
    omega
  · refine zV_iconst hX (v := nI 1) dX10_breaks_24 (by decide) ?_
    refine zV_goto hX (tgt := 29) dX10_breaks_25 (by decide) ?_
    refine zV_topi (zb true) rfl ?_
    refine zV_cV1p hX hR hl dX10_breaks_29 (zc_need1 l G _) zt_X10_need rfl zml_X10_72 zo0.1 ⟨by decide, by decide⟩ (Nat.le_of_ble_eq_true rfl) ?_
    dsimp only [Option.toList, List.cons_append, List.nil_append]
    refine zV_aload_n hX dX10_breaks_32 rfl ?_
    refine zV_iload_n hX dX10_breaks_33 rfl ?_
    refine zV_iload_n hX dX10_breaks_34 rfl ?_
    refine zV_iload_n hX dX10_breaks_35 rfl ?_
    refine zV_iload hX dX10_breaks_36 rfl ?_
    refine zV_cV4p hX hR hl dX10_breaks_38 (zf_attack l G _ lt n r i w hn3 hrr hi (by omega) h53 hT) zt_X10_attack rfl zml_X10_323 zo0.1 ⟨by decide, by decide⟩ (Nat.le_of_ble_eq_true rfl) ?_
    dsimp only [Option.toList, List.cons_append, List.nil_append]
    refine zV_aload_n hX dX10_breaks_41 rfl ?_
    refine zV_iload_n hX dX10_breaks_42 rfl ?_
    refine zV_cV1p hX hR hl dX10_breaks_43 (zf_isBroken l G _ n i hn3 hi hx7 hx0) zt_X10_isBroken rfl zml_X10_327 zo0.1 ⟨by decide, by decide⟩ (Nat.le_of_ble_eq_true rfl) ?_
    dsimp only [Option.toList, List.cons_append, List.nil_append]
    exact zV_retz hX hQ hr (zb_nar _) (⟨rfl, rfl⟩) dX10_breaks_46
set_option maxHeartbeats 1000000 in
theorem zf_breaksN (l : Launch) (G : zG) (M : zM) (hst : l.stackTraces = false) (x r i w : Int32) (hx : mIn x (nI 3) (nI 4) = false) : zCx l G 9 1 6 yX10_breaks cX10_breaks 5 (Option.some Jvm.ClassFile.FieldType.boolean) [.ref (0 : Nat), .int x, .int r, .int i, .int w] M zIAE (mBa M) := by
  refine zCx_of (by decide) (Nat.le_of_ble_eq_true rfl) (fun X Q hQ hX hl hR hEx ht => ?_)
  refine zV_loc (L' := [.ref (0 : Nat), .int x, .int r, .int i, .int w]) rfl ?_
  refine zV_aload_n hX dX10_breaks_0 rfl ?_
  refine zV_iload_n hX dX10_breaks_1 rfl ?_
  refine zV_iload_n hX dX10_breaks_2 rfl ?_
  refine zV_iload_n hX dX10_breaks_3 rfl ?_
  exact zX_cV3 hX hEx hR hl hQ ht dX10_breaks_4 (zf_needAttackN l G _ hst x r i hx) zt_X10_needAttack rfl zml_X10_316 zo0.1 ⟨by decide, by decide⟩ (Nat.le_of_ble_eq_true rfl) (by omega)
set_option maxHeartbeats 1000000 in
theorem zf_attacksN (l : Launch) (G : zG) (M : zM) (hst : l.stackTraces = false) (x r i w : Int32) (hx : mIn x (nI 3) (nI 4) = false) : zCx l G 9 1 6 yX10_attacks cX10_attacks 9 (Option.some Jvm.ClassFile.FieldType.int) [.ref (0 : Nat), .int x, .int r, .int i, .int w] M zIAE (mBa M) := by
  refine zCx_of (by decide) (Nat.le_of_ble_eq_true rfl) (fun X Q hQ hX hl hR hEx ht => ?_)
  refine zV_loc (L' := [.ref (0 : Nat), .int x, .int r, .int i, .int w, .null, .null, .null, .null]) rfl ?_
  refine zV_aload_n hX dX10_attacks_0 rfl ?_
  refine zV_iload_n hX dX10_attacks_1 rfl ?_
  refine zV_iload_n hX dX10_attacks_2 rfl ?_
  refine zV_iload_n hX dX10_attacks_3 rfl ?_
  exact zX_cV3 hX hEx hR hl hQ ht dX10_attacks_4 (zf_needAttackN l G _ hst x r i hx) zt_X10_needAttack rfl zml_X10_316 zo0.1 ⟨by decide, by decide⟩ (Nat.le_of_ble_eq_true rfl) (by omega)
set_option maxHeartbeats 1000000 in
theorem zf_breaksI (l : Launch) (G : zG) (M : zM) (hst : l.stackTraces = false) (n : Nat) (r x w : Int32) (hn3 : 3 ≤ n ∧ n ≤ 4) (hx : zmem x n = false) : zCx l G 9 1 6 yX10_breaks cX10_breaks 5 (Option.some Jvm.ClassFile.FieldType.boolean) [.ref (0 : Nat), .int (nI n), .int r, .int x, .int w] M zNSE (mBs M) := by
  refine zCx_of (by decide) (Nat.le_of_ble_eq_true rfl) (fun X Q hQ hX hl hR hEx ht => ?_)
  refine zV_loc (L' := [.ref (0 : Nat), .int (nI n), .int r, .int x, .int w]) rfl ?_
  refine zV_aload_n hX dX10_breaks_0 rfl ?_
  refine zV_iload_n hX dX10_breaks_1 rfl ?_
  refine zV_iload_n hX dX10_breaks_2 rfl ?_
  refine zV_iload_n hX dX10_breaks_3 rfl ?_
  exact zX_cV3 hX hEx hR hl hQ ht dX10_breaks_4 (zf_needAttackI l G _ hst n r x hn3 hx) zt_X10_needAttack rfl zml_X10_316 zo0.1 ⟨by decide, by decide⟩ (Nat.le_of_ble_eq_true rfl) (by omega)
set_option maxHeartbeats 1000000 in
theorem zf_attacksI (l : Launch) (G : zG) (M : zM) (hst : l.stackTraces = false) (n : Nat) (r x w : Int32) (hn3 : 3 ≤ n ∧ n ≤ 4) (hx : zmem x n = false) : zCx l G 9 1 6 yX10_attacks cX10_attacks 9 (Option.some Jvm.ClassFile.FieldType.int) [.ref (0 : Nat), .int (nI n), .int r, .int x, .int w] M zNSE (mBs M) := by
  refine zCx_of (by decide) (Nat.le_of_ble_eq_true rfl) (fun X Q hQ hX hl hR hEx ht => ?_)
  refine zV_loc (L' := [.ref (0 : Nat), .int (nI n), .int r, .int x, .int w, .null, .null, .null, .null]) rfl ?_
  refine zV_aload_n hX dX10_attacks_0 rfl ?_
  refine zV_iload_n hX dX10_attacks_1 rfl ?_
  refine zV_iload_n hX dX10_attacks_2 rfl ?_
  refine zV_iload_n hX dX10_attacks_3 rfl ?_
  exact zX_cV3 hX hEx hR hl hQ ht dX10_attacks_4 (zf_needAttackI l G _ hst n r x hn3 hx) zt_X10_needAttack rfl zml_X10_316 zo0.1 ⟨by decide, by decide⟩ (Nat.le_of_ble_eq_true rfl) (by omega)
set_option maxHeartbeats 1000000 in
theorem zf_breaksR (l : Launch) (G : zG) (M : zM) (hst : l.stackTraces = false) (n i : Nat) (x w : Int32) (hn3 : 3 ≤ n ∧ n ≤ 4) (hi : i < n) (hx : mIn x (nI 1) (nI 2) = false) : zCx l G 9 1 6 yX10_breaks cX10_breaks 5 (Option.some Jvm.ClassFile.FieldType.boolean) [.ref (0 : Nat), .int (nI n), .int x, .int (nI i), .int w] M zIAE (mBa M) := by
  refine zCx_of (by decide) (Nat.le_of_ble_eq_true rfl) (fun X Q hQ hX hl hR hEx ht => ?_)
  refine zV_loc (L' := [.ref (0 : Nat), .int (nI n), .int x, .int (nI i), .int w]) rfl ?_
  refine zV_aload_n hX dX10_breaks_0 rfl ?_
  refine zV_iload_n hX dX10_breaks_1 rfl ?_
  refine zV_iload_n hX dX10_breaks_2 rfl ?_
  refine zV_iload_n hX dX10_breaks_3 rfl ?_
  exact zX_cV3 hX hEx hR hl hQ ht dX10_breaks_4 (zf_needAttackR l G _ hst n i x hn3 hi hx) zt_X10_needAttack rfl zml_X10_316 zo0.1 ⟨by decide, by decide⟩ (Nat.le_of_ble_eq_true rfl) (by omega)
set_option maxHeartbeats 1000000 in
theorem zf_attacksR (l : Launch) (G : zG) (M : zM) (hst : l.stackTraces = false) (n i : Nat) (x w : Int32) (hn3 : 3 ≤ n ∧ n ≤ 4) (hi : i < n) (hx : mIn x (nI 1) (nI 2) = false) : zCx l G 9 1 6 yX10_attacks cX10_attacks 9 (Option.some Jvm.ClassFile.FieldType.int) [.ref (0 : Nat), .int (nI n), .int x, .int (nI i), .int w] M zIAE (mBa M) := by
  refine zCx_of (by decide) (Nat.le_of_ble_eq_true rfl) (fun X Q hQ hX hl hR hEx ht => ?_)
  refine zV_loc (L' := [.ref (0 : Nat), .int (nI n), .int x, .int (nI i), .int w, .null, .null, .null, .null]) rfl ?_
  refine zV_aload_n hX dX10_attacks_0 rfl ?_
  refine zV_iload_n hX dX10_attacks_1 rfl ?_
  refine zV_iload_n hX dX10_attacks_2 rfl ?_
  refine zV_iload_n hX dX10_attacks_3 rfl ?_
  exact zX_cV3 hX hEx hR hl hQ ht dX10_attacks_4 (zf_needAttackR l G _ hst n i x hn3 hi hx) zt_X10_needAttack rfl zml_X10_316 zo0.1 ⟨by decide, by decide⟩ (Nat.le_of_ble_eq_true rfl) (by omega)
set_option maxHeartbeats 1000000 in
theorem zf_breaksW (l : Launch) (G : zG) (M : zM) (hst : l.stackTraces = false) (n r i : Nat) (w : Int32)  (hn3 : 3 ≤ n ∧ n ≤ 4) (hrr : 1 ≤ r ∧ r ≤ 2) (hi : i < n) (hw : zmem w (3 ^ fWl n r i) = false) : zCx l G 9 1 6 yX10_breaks cX10_breaks 5 (Option.some Jvm.ClassFile.FieldType.boolean) [.ref (0 : Nat), .int (nI n), .int (nI r), .int (nI i), .int w] M zIAE (mBa M) := by
  refine zCx_of (by decide) (Nat.le_of_ble_eq_true rfl) (fun X Q hQ hX hl hR hEx ht => ?_)
  refine zV_loc (L' := [.ref (0 : Nat), .int (nI n), .int (nI r), .int (nI i), .int w]) rfl ?_
  refine zV_aload_n hX dX10_breaks_0 rfl ?_
  refine zV_iload_n hX dX10_breaks_1 rfl ?_
  refine zV_iload_n hX dX10_breaks_2 rfl ?_
  refine zV_iload_n hX dX10_breaks_3 rfl ?_
  refine zK_cV3p hX hR hl dX10_breaks_4 (zCk.of (zf_needAttack l G _ n r i hn3 hrr hi)) zt_X10_needAttack rfl zml_X10_316 zo0.1 ⟨by decide, by decide⟩ (Nat.le_of_ble_eq_true rfl) (by omega) ⟨rfl, rfl⟩ ?_
  dsimp only [Option.toList, List.cons_append, List.nil_append]
  refine zV_aload_n hX dX10_breaks_7 rfl ?_
  refine zV_iload hX dX10_breaks_8 rfl ?_
  refine zV_if_lt hX (tgt := 28) dX10_breaks_10 (by decide) (fun c_10 => ?_) (fun c_10 => ?_)
  · refine zV_iconst hX (v := nI 0) dX10_breaks_28 (by decide) ?_
    refine zV_topi (zb false) rfl ?_
    exact zX_cV1 hX hEx hR hl hQ ht dX10_breaks_29 (zc_need0 l G _ hst) zt_X10_need rfl zml_X10_72 zo0.1 ⟨by decide, by decide⟩ (Nat.le_of_ble_eq_true rfl) (by omega)
  · refine zV_iload hX dX10_breaks_13 rfl ?_
    refine zV_iload_n hX dX10_breaks_15 rfl ?_
    refine zV_iload_n hX dX10_breaks_16 rfl ?_
    refine zV_iload_n hX dX10_breaks_17 rfl ?_
    refine zK_cS3p hX hR hl dX10_breaks_18 (zCk.of (zc_waysOf l G _ n r i hn3 hrr hi)) zt_X10_waysOf rfl zml_X10_320 (by decide) (Nat.le_of_ble_eq_true rfl) (by omega) ⟨rfl, rfl⟩ ?_
    dsimp only [Option.toList, List.cons_append, List.nil_append]
    refine zV_icmp_ge hX (tgt := 28) dX10_breaks_21 (by decide) (fun c_21 => ?_) (fun c_21 => ?_)
    · refine zV_iconst hX (v := nI 0) dX10_breaks_28 (by decide) ?_
      refine zV_topi (zb false) rfl ?_
      exact zX_cV1 hX hEx hR hl hQ ht dX10_breaks_29 (zc_need0 l G _ hst) zt_X10_need rfl zml_X10_72 zo0.1 ⟨by decide, by decide⟩ (Nat.le_of_ble_eq_true rfl) (by omega)
    · refine zV_iconst hX (v := nI 1) dX10_breaks_24 (by decide) ?_
      refine zV_goto hX (tgt := 29) dX10_breaks_25 (by decide) ?_
      refine zV_topi (zb true) rfl ?_
      unfold zmem at hw
      rw [decide_eq_false (show ¬ w < 0 from c_10), decide_eq_false c_21] at hw
      exact absurd hw (by decide)
set_option maxHeartbeats 1000000 in
theorem zf_attacksW (l : Launch) (G : zG) (M : zM) (hst : l.stackTraces = false) (n r i : Nat) (w : Int32)  (hn3 : 3 ≤ n ∧ n ≤ 4) (hrr : 1 ≤ r ∧ r ≤ 2) (hi : i < n) (hw : mIn w (nI 0) (nI 3) = false) : zCx l G 9 1 6 yX10_attacks cX10_attacks 9 (Option.some Jvm.ClassFile.FieldType.int) [.ref (0 : Nat), .int (nI n), .int (nI r), .int (nI i), .int w] M zIAE (mBa M) := by
  refine zCx_of (by decide) (Nat.le_of_ble_eq_true rfl) (fun X Q hQ hX hl hR hEx ht => ?_)
  refine zV_loc (L' := [.ref (0 : Nat), .int (nI n), .int (nI r), .int (nI i), .int w, .null, .null, .null, .null]) rfl ?_
  refine zV_aload_n hX dX10_attacks_0 rfl ?_
  refine zV_iload_n hX dX10_attacks_1 rfl ?_
  refine zV_iload_n hX dX10_attacks_2 rfl ?_
  refine zV_iload_n hX dX10_attacks_3 rfl ?_
  refine zK_cV3p hX hR hl dX10_attacks_4 (zCk.of (zf_needAttack l G _ n r i hn3 hrr hi)) zt_X10_needAttack rfl zml_X10_316 zo0.1 ⟨by decide, by decide⟩ (Nat.le_of_ble_eq_true rfl) (by omega) ⟨rfl, rfl⟩ ?_
  dsimp only [Option.toList, List.cons_append, List.nil_append]
  refine zV_aload_n hX dX10_attacks_7 rfl ?_
  refine zV_iload hX dX10_attacks_8 rfl ?_
  refine zV_if_lt hX (tgt := 23) dX10_attacks_10 (by decide) (fun c_10 => ?_) (fun c_10 => ?_)
  · refine zV_iconst hX (v := nI 0) dX10_attacks_23 (by decide) ?_
    refine zV_topi (zb false) rfl ?_
    exact zX_cV1 hX hEx hR hl hQ ht dX10_attacks_24 (zc_need0 l G _ hst) zt_X10_need rfl zml_X10_72 zo0.1 ⟨by decide, by decide⟩ (Nat.le_of_ble_eq_true rfl) (by omega)
  · refine zV_iload hX dX10_attacks_13 rfl ?_
    refine zV_iconst hX (v := nI 3) dX10_attacks_15 (by decide) ?_
    refine zV_icmp_gt hX (tgt := 23) dX10_attacks_16 (by decide) (fun c_16 => ?_) (fun c_16 => ?_)
    · refine zV_iconst hX (v := nI 0) dX10_attacks_23 (by decide) ?_
      refine zV_topi (zb false) rfl ?_
      exact zX_cV1 hX hEx hR hl hQ ht dX10_attacks_24 (zc_need0 l G _ hst) zt_X10_need rfl zml_X10_72 zo0.1 ⟨by decide, by decide⟩ (Nat.le_of_ble_eq_true rfl) (by omega)
    · refine zV_iconst hX (v := nI 1) dX10_attacks_19 (by decide) ?_
      refine zV_goto hX (tgt := 24) dX10_attacks_20 (by decide) ?_
      refine zV_topi (zb true) rfl ?_
      rw [mIn_t (show ¬ w < nI 0 from c_10) c_16] at hw
      exact absurd hw (by decide)
theorem t2no (k : Nat) (hk : k ≤ 2) (a0 : nI k ≠ nI 0) (a1 : nI k ≠ nI 1) (a2 : nI k ≠ nI 2) : False := by
  match k, hk with
  | 0, _ => exact a0 rfl
  | 1, _ => exact a1 rfl
  | 2, _ => exact a2 rfl
def fAq (W b : Nat) (l : Option Nat) : Nat → Int32
  | 0 => nI W | 1 => nI b | _ => zoi l
set_option maxHeartbeats 1000000 in
theorem zf_attacks (l : Launch) (G : zG) (M : zM) (lt n r i k : Nat)  (hn3 : 3 ≤ n ∧ n ≤ 4) (hrr : 1 ≤ r ∧ r ≤ 2) (hi : i < n) (h53 : M.1 50 3 = nI lt) (hT : lyL lt) (b : Nat) (l9 : Option Nat) (R : zM) (hB : fAL lt n r i M (3 ^ fWl n r i) = (b, l9, R)) (hk : k ≤ 2) : zC l G 9 yX10_attacks cX10_attacks 9 (Option.some Jvm.ClassFile.FieldType.int) [.ref (0 : Nat), .int (nI n), .int (nI r), .int (nI i), .int (nI k)] M (zP (some (.int (fAq (3 ^ fWl n r i) b l9 k))) (R)) := by
  refine zC_of (by decide) (Nat.le_of_ble_eq_true rfl) (fun X Q hQ hX hl hR hr => ?_)
  refine zV_loc (L' := [.ref (0 : Nat), .int (nI n), .int (nI r), .int (nI i), .int (nI k), .null, .null, .null, .null]) rfl ?_
  have hw3 := fWl_le (r := r) (i := i) hn3.2
  have hp3 := p3_le hw3
  obtain ⟨hR3, -⟩ := fAL_53 (n := n) (r := r) (i := i) (M := M) hn3.2 (by omega) h53 hT (3 ^ fWl n r i)
  rw [hB] at hR3
  have J47 : zV G X Q 9 0 0 47 [.ref (0 : Nat), .int (nI n), .int (nI r), .int (nI i), .int (nI k), .int (nI (3 ^ fWl n r i)), .int (nI (fAL lt n r i M (3 ^ fWl n r i)).1), .int (zoi (fAL lt n r i M (3 ^ fWl n r i)).2.1), .int (-1)] [] (fAL lt n r i M (3 ^ fWl n r i)).2.2 := by
    rw [hB]
    dsimp only
    refine zV_iload hX dX10_attacks_47 rfl ?_
    refine zV_if_lt hX (tgt := 82) dX10_attacks_49 (by decide) (fun c_49 => ?_) (fun c_49 => absurd c_49 (not_not_intro (by decide)))
    refine zV_iload hX dX10_attacks_82 rfl ?_
    refine zV_case 0 (fun s_0 => ?_) (fun s_0 => ?_)
    · refine zV_tin hX (tgt := 112) dX10_attacks_84 (by decide) (by decide) (off := 28) (by decide) (by decide) ?_
      refine zV_iload hX dX10_attacks_112 rfl ?_
      exact zV_reti hX hQ hr (⟨by (first | rw [show k = 0 from (nI_eq (by omega) (by decide)).mp s_0] | rw [show k = 1 from (nI_eq (by omega) (by decide)).mp s_1] | rw [show k = 2 from (nI_eq (by omega) (by decide)).mp s_2]); rfl, rfl⟩) dX10_attacks_114
    refine zV_case 1 (fun s_1 => ?_) (fun s_1 => ?_)
    · refine zV_tin hX (tgt := 115) dX10_attacks_84 (by decide) (by decide) (off := 31) (by decide) (by decide) ?_
      refine zV_iload hX dX10_attacks_115 rfl ?_
      exact zV_reti hX hQ hr (⟨by (first | rw [show k = 0 from (nI_eq (by omega) (by decide)).mp s_0] | rw [show k = 1 from (nI_eq (by omega) (by decide)).mp s_1] | rw [show k = 2 from (nI_eq (by omega) (by decide)).mp s_2]); rfl, rfl⟩) dX10_attacks_117
    refine zV_case 2 (fun s_2 => ?_) (fun s_2 => ?_)
    · refine zV_tin hX (tgt := 118) dX10_attacks_84 (by decide) (by decide) (off := 34) (by decide) (by decide) ?_
      refine zV_iload hX dX10_attacks_118 rfl ?_
      exact zV_reti hX hQ hr (⟨by (first | rw [show k = 0 from (nI_eq (by omega) (by decide)).mp s_0] | rw [show k = 1 from (nI_eq (by omega) (by decide)).mp s_1] | rw [show k = 2 from (nI_eq (by omega) (by decide)).mp s_2]); rfl, rfl⟩) dX10_attacks_120
    refine zV_tout hX (tgt := 121) dX10_attacks_84 (zsw_out 2 (by decide) (fun j hj => by match j, hj with | 0, _ => exact s_0 | 1, _ => exact s_1 | 2, _ => exact s_2 | _ + 3, h => omega)) (by decide) ?_
    exact (t2no k hk s_0 s_1 s_2).elim
  have L47 : ∀ (f9 p : Nat), (3 ^ fWl n r i) - p < f9 → p < (3 ^ fWl n r i) → zV G X Q 9 0 0 47 [.ref (0 : Nat), .int (nI n), .int (nI r), .int (nI i), .int (nI k), .int (nI (3 ^ fWl n r i)), .int (nI (fAL lt n r i M p).1), .int (zoi (fAL lt n r i M p).2.1), .int (nI ((3 ^ fWl n r i) - 1 - p))] [] (fAL lt n r i M p).2.2 := by
    intro f9
    induction f9 with
    | zero => intro p hp1 hp2; exact absurd hp1 (Nat.not_lt_zero _)
    | succ f9 ih =>
      intro p hp1 hp2
      obtain ⟨hq3, hq1⟩ := fAL_53 (r := r) (i := i) (M := M) hn3.2 (by omega) h53 hT p
      obtain ⟨hx7, hx0, -⟩ := fAt_f (n := n) (r := r) (i := i) (w := ((3 ^ fWl n r i) - 1 - p)) hn3.2 (by omega) hq3 hT
      refine zV_iload hX dX10_attacks_47 rfl ?_
      refine zV_if_ltN hX (tgt := 82) dX10_attacks_49 (by decide) (by omega) (fun c_49 => ?_)
      refine zV_aload_n hX dX10_attacks_52 rfl ?_
      refine zV_iload_n hX dX10_attacks_53 rfl ?_
      refine zV_iload_n hX dX10_attacks_54 rfl ?_
      refine zV_iload_n hX dX10_attacks_55 rfl ?_
      refine zV_iload hX dX10_attacks_56 rfl ?_
      refine zV_cV4p hX hR hl dX10_attacks_58 (zf_attack l G (fAL lt n r i M p).2.2 lt n r i ((3 ^ fWl n r i) - 1 - p) hn3 hrr hi (by omega) hq3 hT) zt_X10_attack rfl zml_X10_323 zo0.1 ⟨by decide, by decide⟩ (Nat.le_of_ble_eq_true rfl) ?_
      dsimp only [Option.toList, List.cons_append, List.nil_append]
      refine zV_aload_n hX dX10_attacks_61 rfl ?_
      refine zV_iload_n hX dX10_attacks_62 rfl ?_
      refine zV_cV1p hX hR hl dX10_attacks_63 (zf_isBroken l G (fAt lt n r i ((3 ^ fWl n r i) - 1 - p) (fAL lt n r i M p).2.2) n i hn3 hi hx7 hx0) zt_X10_isBroken rfl zml_X10_327 zo0.1 ⟨by decide, by decide⟩ (Nat.le_of_ble_eq_true rfl) ?_
      dsimp only [Option.toList, List.cons_append, List.nil_append]
      refine zV_if_eqB hX (tgt := 76) dX10_attacks_66 (by decide) (fun c_66 => ?_) (fun c_66 => ?_)
      · refine zV_iinc hX dX10_attacks_76 rfl (rfl) (by decide) ?_
        dsimp only [zst1, zst2, zclr, zc2]
        refine zV_goto hX (tgt := 47) dX10_attacks_79 (by decide) ?_
        rcases Nat.lt_or_ge (p + 1) (3 ^ fWl n r i) with hq | hq
        · have h9 := ih (p + 1) (by omega) hq
          rw [nI_dc (by omega), show ((3 ^ fWl n r i) - 1 - p) - 1 = (3 ^ fWl n r i) - 1 - (p + 1) by omega]
          first | (rw [fAL_t c_66] at h9; exact h9) | (rw [fAL_f c_66] at h9; exact h9)
        · have h9 := J47
          rw [show fAL lt n r i M (3 ^ fWl n r i) = fAL lt n r i M (p + 1) from by rw [show p + 1 = (3 ^ fWl n r i) by omega]] at h9
          rw [show nI ((3 ^ fWl n r i) - 1 - p) + Int32.ofInt (-1) = -1 from by rw [show ((3 ^ fWl n r i) - 1 - p) = 0 by omega]; decide]
          first | (rw [fAL_t c_66] at h9; exact h9) | (rw [fAL_f c_66] at h9; exact h9)
      · refine zV_iincN hX (b := 1) dX10_attacks_69 rfl (by decide) ?_
        dsimp only [zst1, zst2, zclr, zc2]
        refine zV_iload hX dX10_attacks_72 rfl ?_
        refine zV_istore hX dX10_attacks_74 (by decide) ?_
        dsimp only [zst1, zst2, zclr, zc2]
        refine zV_iinc hX dX10_attacks_76 rfl (rfl) (by decide) ?_
        dsimp only [zst1, zst2, zclr, zc2]
        refine zV_goto hX (tgt := 47) dX10_attacks_79 (by decide) ?_
        rcases Nat.lt_or_ge (p + 1) (3 ^ fWl n r i) with hq | hq
        · have h9 := ih (p + 1) (by omega) hq
          rw [nI_dc (by omega), show ((3 ^ fWl n r i) - 1 - p) - 1 = (3 ^ fWl n r i) - 1 - (p + 1) by omega]
          first | (rw [fAL_t c_66] at h9; exact h9) | (rw [fAL_f c_66] at h9; exact h9)
        · have h9 := J47
          rw [show fAL lt n r i M (3 ^ fWl n r i) = fAL lt n r i M (p + 1) from by rw [show p + 1 = (3 ^ fWl n r i) by omega]] at h9
          rw [show nI ((3 ^ fWl n r i) - 1 - p) + Int32.ofInt (-1) = -1 from by rw [show ((3 ^ fWl n r i) - 1 - p) = 0 by omega]; decide]
          first | (rw [fAL_t c_66] at h9; exact h9) | (rw [fAL_f c_66] at h9; exact h9)
  refine zV_aload_n hX dX10_attacks_0 rfl ?_
  refine zV_iload_n hX dX10_attacks_1 rfl ?_
  refine zV_iload_n hX dX10_attacks_2 rfl ?_
  refine zV_iload_n hX dX10_attacks_3 rfl ?_
  refine zV_cV3p hX hR hl dX10_attacks_4 (zf_needAttack l G _ n r i hn3 hrr hi) zt_X10_needAttack rfl zml_X10_316 zo0.1 ⟨by decide, by decide⟩ (Nat.le_of_ble_eq_true rfl) ?_
  dsimp only [Option.toList, List.cons_append, List.nil_append]
  refine zV_aload_n hX dX10_attacks_7 rfl ?_
  refine zV_iload hX dX10_attacks_8 rfl ?_
  refine zV_if_ltN hX (tgt := 23) dX10_attacks_10 (by decide) (by omega) (fun c_10 => ?_)
  refine zV_iload hX dX10_attacks_13 rfl ?_
  refine zV_iconst hX (v := nI 3) dX10_attacks_15 (by decide) ?_
  refine zV_icmp_gtN hX (tgt := 23) dX10_attacks_16 (by decide) ⟨by omega, by omega⟩ (fun c_16 => ?_) (fun c_16 => ?_)
  · refine zV_iconst hX (v := nI 0) dX10_attacks_23 (by decide) ?_
    refine zV_topi (zb false) rfl ?_
    exfalso
    omega
  · refine zV_iconst hX (v := nI 1) dX10_attacks_19 (by decide) ?_
    refine zV_goto hX (tgt := 24) dX10_attacks_20 (by decide) ?_
    refine zV_topi (zb true) rfl ?_
    refine zV_cV1p hX hR hl dX10_attacks_24 (zc_need1 l G _) zt_X10_need rfl zml_X10_72 zo0.1 ⟨by decide, by decide⟩ (Nat.le_of_ble_eq_true rfl) ?_
    dsimp only [Option.toList, List.cons_append, List.nil_append]
    refine zV_iload_n hX dX10_attacks_27 rfl ?_
    refine zV_iload_n hX dX10_attacks_28 rfl ?_
    refine zV_iload_n hX dX10_attacks_29 rfl ?_
    refine zV_cS3p hX hR hl dX10_attacks_30 (zc_waysOf l G _ n r i hn3 hrr hi) zt_X10_waysOf rfl zml_X10_320 (by decide) (Nat.le_of_ble_eq_true rfl) ?_
    dsimp only [Option.toList, List.cons_append, List.nil_append]
    refine zV_istore hX dX10_attacks_33 (by decide) ?_
    dsimp only [zst1, zst2, zclr, zc2]
    refine zV_iconst hX (v := nI 0) dX10_attacks_35 (by decide) ?_
    refine zV_istore hX dX10_attacks_36 (by decide) ?_
    dsimp only [zst1, zst2, zclr, zc2]
    refine zV_iconst hX (v := (-1)) dX10_attacks_38 (by decide) ?_
    refine zV_istore hX dX10_attacks_39 (by decide) ?_
    dsimp only [zst1, zst2, zclr, zc2]
    refine zV_iload hX dX10_attacks_41 rfl ?_
    refine zV_iconst hX (v := nI 1) dX10_attacks_43 (by decide) ?_
    refine zV_isub hX dX10_attacks_44 ?_
    refine zV_istore hX dX10_attacks_45 (by decide) ?_
    dsimp only [zst1, zst2, zclr, zc2]
    rw [show nI (3 ^ fWl n r i) - nI 1 = nI ((3 ^ fWl n r i) - 1 - 0) from pk_sub (by omega)]
    exact L47 ((3 ^ fWl n r i) + 1) 0 (by omega) (by omega)
set_option maxHeartbeats 1000000 in
theorem zf_attacks3a (l : Launch) (G : zG) (M : zM) (lt n r i : Nat)  (hn3 : 3 ≤ n ∧ n ≤ 4) (hrr : 1 ≤ r ∧ r ≤ 2) (hi : i < n) (h53 : M.1 50 3 = nI lt) (hT : lyL lt) (b : Nat) (l9 : Option Nat) (R : zM) (hB : fAL lt n r i M (3 ^ fWl n r i) = (b, l9, R)) (hl9 : l9 = none) : zC l G 9 yX10_attacks cX10_attacks 9 (Option.some Jvm.ClassFile.FieldType.int) [.ref (0 : Nat), .int (nI n), .int (nI r), .int (nI i), .int (nI 3)] M (zP (some (.int (nI 0))) (R)) := by
  refine zC_of (by decide) (Nat.le_of_ble_eq_true rfl) (fun X Q hQ hX hl hR hr => ?_)
  refine zV_loc (L' := [.ref (0 : Nat), .int (nI n), .int (nI r), .int (nI i), .int (nI 3), .null, .null, .null, .null]) rfl ?_
  have hw3 := fWl_le (r := r) (i := i) hn3.2
  have hp3 := p3_le hw3
  obtain ⟨hR3, -⟩ := fAL_53 (n := n) (r := r) (i := i) (M := M) hn3.2 (by omega) h53 hT (3 ^ fWl n r i)
  rw [hB] at hR3
  subst hl9
  have J47 : zV G X Q 9 0 0 47 [.ref (0 : Nat), .int (nI n), .int (nI r), .int (nI i), .int (nI 3), .int (nI (3 ^ fWl n r i)), .int (nI (fAL lt n r i M (3 ^ fWl n r i)).1), .int (zoi (fAL lt n r i M (3 ^ fWl n r i)).2.1), .int (-1)] [] (fAL lt n r i M (3 ^ fWl n r i)).2.2 := by
    rw [hB]
    dsimp only
    refine zV_iload hX dX10_attacks_47 rfl ?_
    refine zV_if_lt hX (tgt := 82) dX10_attacks_49 (by decide) (fun c_49 => ?_) (fun c_49 => absurd c_49 (not_not_intro (by decide)))
    refine zV_iload hX dX10_attacks_82 rfl ?_
    refine zV_case 0 (fun s_0 => ?_) (fun s_0 => ?_)
    · refine zV_tin hX (tgt := 112) dX10_attacks_84 (by decide) (by decide) (off := 28) (by decide) (by decide) ?_
      exact absurd s_0 (by decide)
    refine zV_case 1 (fun s_1 => ?_) (fun s_1 => ?_)
    · refine zV_tin hX (tgt := 115) dX10_attacks_84 (by decide) (by decide) (off := 31) (by decide) (by decide) ?_
      exact absurd s_1 (by decide)
    refine zV_case 2 (fun s_2 => ?_) (fun s_2 => ?_)
    · refine zV_tin hX (tgt := 118) dX10_attacks_84 (by decide) (by decide) (off := 34) (by decide) (by decide) ?_
      exact absurd s_2 (by decide)
    refine zV_tout hX (tgt := 121) dX10_attacks_84 (zsw_out 2 (by decide) (fun j hj => by match j, hj with | 0, _ => exact s_0 | 1, _ => exact s_1 | 2, _ => exact s_2 | _ + 3, h => omega)) (by decide) ?_
    refine zV_iload hX dX10_attacks_121 rfl ?_
    refine zV_iconst hX (v := (-1)) dX10_attacks_123 (by decide) ?_
    refine zV_icmp_ne hX (tgt := 129) dX10_attacks_124 (by decide) (fun c_124 => absurd c_124 (fun q => q rfl)) (fun c_124 => ?_)
    refine zV_iconst hX (v := nI 0) dX10_attacks_127 (by decide) ?_
    exact zV_reti hX hQ hr (⟨rfl, rfl⟩) dX10_attacks_128
  have L47 : ∀ (f9 p : Nat), (3 ^ fWl n r i) - p < f9 → p < (3 ^ fWl n r i) → zV G X Q 9 0 0 47 [.ref (0 : Nat), .int (nI n), .int (nI r), .int (nI i), .int (nI 3), .int (nI (3 ^ fWl n r i)), .int (nI (fAL lt n r i M p).1), .int (zoi (fAL lt n r i M p).2.1), .int (nI ((3 ^ fWl n r i) - 1 - p))] [] (fAL lt n r i M p).2.2 := by
    intro f9
    induction f9 with
    | zero => intro p hp1 hp2; exact absurd hp1 (Nat.not_lt_zero _)
    | succ f9 ih =>
      intro p hp1 hp2
      obtain ⟨hq3, hq1⟩ := fAL_53 (r := r) (i := i) (M := M) hn3.2 (by omega) h53 hT p
      obtain ⟨hx7, hx0, -⟩ := fAt_f (n := n) (r := r) (i := i) (w := ((3 ^ fWl n r i) - 1 - p)) hn3.2 (by omega) hq3 hT
      refine zV_iload hX dX10_attacks_47 rfl ?_
      refine zV_if_ltN hX (tgt := 82) dX10_attacks_49 (by decide) (by omega) (fun c_49 => ?_)
      refine zV_aload_n hX dX10_attacks_52 rfl ?_
      refine zV_iload_n hX dX10_attacks_53 rfl ?_
      refine zV_iload_n hX dX10_attacks_54 rfl ?_
      refine zV_iload_n hX dX10_attacks_55 rfl ?_
      refine zV_iload hX dX10_attacks_56 rfl ?_
      refine zV_cV4p hX hR hl dX10_attacks_58 (zf_attack l G (fAL lt n r i M p).2.2 lt n r i ((3 ^ fWl n r i) - 1 - p) hn3 hrr hi (by omega) hq3 hT) zt_X10_attack rfl zml_X10_323 zo0.1 ⟨by decide, by decide⟩ (Nat.le_of_ble_eq_true rfl) ?_
      dsimp only [Option.toList, List.cons_append, List.nil_append]
      refine zV_aload_n hX dX10_attacks_61 rfl ?_
      refine zV_iload_n hX dX10_attacks_62 rfl ?_
      refine zV_cV1p hX hR hl dX10_attacks_63 (zf_isBroken l G (fAt lt n r i ((3 ^ fWl n r i) - 1 - p) (fAL lt n r i M p).2.2) n i hn3 hi hx7 hx0) zt_X10_isBroken rfl zml_X10_327 zo0.1 ⟨by decide, by decide⟩ (Nat.le_of_ble_eq_true rfl) ?_
      dsimp only [Option.toList, List.cons_append, List.nil_append]
      refine zV_if_eqB hX (tgt := 76) dX10_attacks_66 (by decide) (fun c_66 => ?_) (fun c_66 => ?_)
      · refine zV_iinc hX dX10_attacks_76 rfl (rfl) (by decide) ?_
        dsimp only [zst1, zst2, zclr, zc2]
        refine zV_goto hX (tgt := 47) dX10_attacks_79 (by decide) ?_
        rcases Nat.lt_or_ge (p + 1) (3 ^ fWl n r i) with hq | hq
        · have h9 := ih (p + 1) (by omega) hq
          rw [nI_dc (by omega), show ((3 ^ fWl n r i) - 1 - p) - 1 = (3 ^ fWl n r i) - 1 - (p + 1) by omega]
          first | (rw [fAL_t c_66] at h9; exact h9) | (rw [fAL_f c_66] at h9; exact h9)
        · have h9 := J47
          rw [show fAL lt n r i M (3 ^ fWl n r i) = fAL lt n r i M (p + 1) from by rw [show p + 1 = (3 ^ fWl n r i) by omega]] at h9
          rw [show nI ((3 ^ fWl n r i) - 1 - p) + Int32.ofInt (-1) = -1 from by rw [show ((3 ^ fWl n r i) - 1 - p) = 0 by omega]; decide]
          first | (rw [fAL_t c_66] at h9; exact h9) | (rw [fAL_f c_66] at h9; exact h9)
      · refine zV_iincN hX (b := 1) dX10_attacks_69 rfl (by decide) ?_
        dsimp only [zst1, zst2, zclr, zc2]
        refine zV_iload hX dX10_attacks_72 rfl ?_
        refine zV_istore hX dX10_attacks_74 (by decide) ?_
        dsimp only [zst1, zst2, zclr, zc2]
        refine zV_iinc hX dX10_attacks_76 rfl (rfl) (by decide) ?_
        dsimp only [zst1, zst2, zclr, zc2]
        refine zV_goto hX (tgt := 47) dX10_attacks_79 (by decide) ?_
        rcases Nat.lt_or_ge (p + 1) (3 ^ fWl n r i) with hq | hq
        · have h9 := ih (p + 1) (by omega) hq
          rw [nI_dc (by omega), show ((3 ^ fWl n r i) - 1 - p) - 1 = (3 ^ fWl n r i) - 1 - (p + 1) by omega]
          first | (rw [fAL_t c_66] at h9; exact h9) | (rw [fAL_f c_66] at h9; exact h9)
        · have h9 := J47
          rw [show fAL lt n r i M (3 ^ fWl n r i) = fAL lt n r i M (p + 1) from by rw [show p + 1 = (3 ^ fWl n r i) by omega]] at h9
          rw [show nI ((3 ^ fWl n r i) - 1 - p) + Int32.ofInt (-1) = -1 from by rw [show ((3 ^ fWl n r i) - 1 - p) = 0 by omega]; decide]
          first | (rw [fAL_t c_66] at h9; exact h9) | (rw [fAL_f c_66] at h9; exact h9)
  refine zV_aload_n hX dX10_attacks_0 rfl ?_
  refine zV_iload_n hX dX10_attacks_1 rfl ?_
  refine zV_iload_n hX dX10_attacks_2 rfl ?_
  refine zV_iload_n hX dX10_attacks_3 rfl ?_
  refine zV_cV3p hX hR hl dX10_attacks_4 (zf_needAttack l G _ n r i hn3 hrr hi) zt_X10_needAttack rfl zml_X10_316 zo0.1 ⟨by decide, by decide⟩ (Nat.le_of_ble_eq_true rfl) ?_
  dsimp only [Option.toList, List.cons_append, List.nil_append]
  refine zV_aload_n hX dX10_attacks_7 rfl ?_
  refine zV_iload hX dX10_attacks_8 rfl ?_
  refine zV_if_ltN hX (tgt := 23) dX10_attacks_10 (by decide) (by omega) (fun c_10 => ?_)
  refine zV_iload hX dX10_attacks_13 rfl ?_
  refine zV_iconst hX (v := nI 3) dX10_attacks_15 (by decide) ?_
  refine zV_icmp_gtN hX (tgt := 23) dX10_attacks_16 (by decide) ⟨by omega, by omega⟩ (fun c_16 => ?_) (fun c_16 => ?_)
  · refine zV_iconst hX (v := nI 0) dX10_attacks_23 (by decide) ?_
    refine zV_topi (zb false) rfl ?_
    exfalso
    omega
  · refine zV_iconst hX (v := nI 1) dX10_attacks_19 (by decide) ?_
    refine zV_goto hX (tgt := 24) dX10_attacks_20 (by decide) ?_
    refine zV_topi (zb true) rfl ?_
    refine zV_cV1p hX hR hl dX10_attacks_24 (zc_need1 l G _) zt_X10_need rfl zml_X10_72 zo0.1 ⟨by decide, by decide⟩ (Nat.le_of_ble_eq_true rfl) ?_
    dsimp only [Option.toList, List.cons_append, List.nil_append]
    refine zV_iload_n hX dX10_attacks_27 rfl ?_
    refine zV_iload_n hX dX10_attacks_28 rfl ?_
    refine zV_iload_n hX dX10_attacks_29 rfl ?_
    refine zV_cS3p hX hR hl dX10_attacks_30 (zc_waysOf l G _ n r i hn3 hrr hi) zt_X10_waysOf rfl zml_X10_320 (by decide) (Nat.le_of_ble_eq_true rfl) ?_
    dsimp only [Option.toList, List.cons_append, List.nil_append]
    refine zV_istore hX dX10_attacks_33 (by decide) ?_
    dsimp only [zst1, zst2, zclr, zc2]
    refine zV_iconst hX (v := nI 0) dX10_attacks_35 (by decide) ?_
    refine zV_istore hX dX10_attacks_36 (by decide) ?_
    dsimp only [zst1, zst2, zclr, zc2]
    refine zV_iconst hX (v := (-1)) dX10_attacks_38 (by decide) ?_
    refine zV_istore hX dX10_attacks_39 (by decide) ?_
    dsimp only [zst1, zst2, zclr, zc2]
    refine zV_iload hX dX10_attacks_41 rfl ?_
    refine zV_iconst hX (v := nI 1) dX10_attacks_43 (by decide) ?_
    refine zV_isub hX dX10_attacks_44 ?_
    refine zV_istore hX dX10_attacks_45 (by decide) ?_
    dsimp only [zst1, zst2, zclr, zc2]
    rw [show nI (3 ^ fWl n r i) - nI 1 = nI ((3 ^ fWl n r i) - 1 - 0) from pk_sub (by omega)]
    exact L47 ((3 ^ fWl n r i) + 1) 0 (by omega) (by omega)
set_option maxHeartbeats 1000000 in
theorem zf_attacks3b (l : Launch) (G : zG) (M : zM) (lt n r i : Nat) (a : Nat)  (hn3 : 3 ≤ n ∧ n ≤ 4) (hrr : 1 ≤ r ∧ r ≤ 2) (hi : i < n) (h53 : M.1 50 3 = nI lt) (hT : lyL lt) (b : Nat) (l9 : Option Nat) (R : zM) (hB : fAL lt n r i M (3 ^ fWl n r i) = (b, l9, R)) (hl9 : l9 = some a) (ha : a < (3 ^ fWl n r i)) : zC l G 9 yX10_attacks cX10_attacks 9 (Option.some Jvm.ClassFile.FieldType.int) [.ref (0 : Nat), .int (nI n), .int (nI r), .int (nI i), .int (nI 3)] M (zP (some (.int (nI (zunl ((fAt lt n r i a R).1 (90 + 1 + 16)) ((fAt lt n r i a R).1 90 10) n)))) (fAt lt n r i a R)) := by
  refine zC_of (by decide) (Nat.le_of_ble_eq_true rfl) (fun X Q hQ hX hl hR hr => ?_)
  refine zV_loc (L' := [.ref (0 : Nat), .int (nI n), .int (nI r), .int (nI i), .int (nI 3), .null, .null, .null, .null]) rfl ?_
  have hw3 := fWl_le (r := r) (i := i) hn3.2
  have hp3 := p3_le hw3
  obtain ⟨hR3, -⟩ := fAL_53 (n := n) (r := r) (i := i) (M := M) hn3.2 (by omega) h53 hT (3 ^ fWl n r i)
  rw [hB] at hR3
  subst hl9
  obtain ⟨hy7, -, -⟩ := fAt_f (n := n) (r := r) (i := i) (w := a) hn3.2 (by omega) hR3 hT
  have J47 : zV G X Q 9 0 0 47 [.ref (0 : Nat), .int (nI n), .int (nI r), .int (nI i), .int (nI 3), .int (nI (3 ^ fWl n r i)), .int (nI (fAL lt n r i M (3 ^ fWl n r i)).1), .int (zoi (fAL lt n r i M (3 ^ fWl n r i)).2.1), .int (-1)] [] (fAL lt n r i M (3 ^ fWl n r i)).2.2 := by
    rw [hB]
    dsimp only
    refine zV_iload hX dX10_attacks_47 rfl ?_
    refine zV_if_lt hX (tgt := 82) dX10_attacks_49 (by decide) (fun c_49 => ?_) (fun c_49 => absurd c_49 (not_not_intro (by decide)))
    refine zV_iload hX dX10_attacks_82 rfl ?_
    refine zV_case 0 (fun s_0 => ?_) (fun s_0 => ?_)
    · refine zV_tin hX (tgt := 112) dX10_attacks_84 (by decide) (by decide) (off := 28) (by decide) (by decide) ?_
      exact absurd s_0 (by decide)
    refine zV_case 1 (fun s_1 => ?_) (fun s_1 => ?_)
    · refine zV_tin hX (tgt := 115) dX10_attacks_84 (by decide) (by decide) (off := 31) (by decide) (by decide) ?_
      exact absurd s_1 (by decide)
    refine zV_case 2 (fun s_2 => ?_) (fun s_2 => ?_)
    · refine zV_tin hX (tgt := 118) dX10_attacks_84 (by decide) (by decide) (off := 34) (by decide) (by decide) ?_
      exact absurd s_2 (by decide)
    refine zV_tout hX (tgt := 121) dX10_attacks_84 (zsw_out 2 (by decide) (fun j hj => by match j, hj with | 0, _ => exact s_0 | 1, _ => exact s_1 | 2, _ => exact s_2 | _ + 3, h => omega)) (by decide) ?_
    refine zV_iload hX dX10_attacks_121 rfl ?_
    refine zV_iconst hX (v := (-1)) dX10_attacks_123 (by decide) ?_
    refine zV_icmp_ne hX (tgt := 129) dX10_attacks_124 (by decide) (fun c_124 => ?_) (fun c_124 => absurd c_124 (nI_m1 (by omega)))
    refine zV_aload_n hX dX10_attacks_129 rfl ?_
    refine zV_iload_n hX dX10_attacks_130 rfl ?_
    refine zV_iload_n hX dX10_attacks_131 rfl ?_
    refine zV_iload_n hX dX10_attacks_132 rfl ?_
    refine zV_iload hX dX10_attacks_133 rfl ?_
    refine zV_cV4p hX hR hl dX10_attacks_135 (zf_attack l G R lt n r i a hn3 hrr hi (by omega) hR3 hT) zt_X10_attack rfl zml_X10_323 zo0.1 ⟨by decide, by decide⟩ (Nat.le_of_ble_eq_true rfl) ?_
    dsimp only [Option.toList, List.cons_append, List.nil_append]
    refine zV_aload_n hX dX10_attacks_138 rfl ?_
    refine zV_getc hX dX10_attacks_139 zf_X10_33 zo0.1 rfl ?_
    refine zV_cV0p hX hR hl dX10_attacks_142 (zc_ounlike l G (fAt lt n r i a R) 90 n zo90 hy7 (by omega)) zt_X6_unlike rfl zml_X10_150 zo90.1 ⟨by decide, by decide⟩ (Nat.le_of_ble_eq_true rfl) ?_
    dsimp only [Option.toList, List.cons_append, List.nil_append]
    exact zV_reti hX hQ hr (⟨rfl, rfl⟩) dX10_attacks_145
  have L47 : ∀ (f9 p : Nat), (3 ^ fWl n r i) - p < f9 → p < (3 ^ fWl n r i) → zV G X Q 9 0 0 47 [.ref (0 : Nat), .int (nI n), .int (nI r), .int (nI i), .int (nI 3), .int (nI (3 ^ fWl n r i)), .int (nI (fAL lt n r i M p).1), .int (zoi (fAL lt n r i M p).2.1), .int (nI ((3 ^ fWl n r i) - 1 - p))] [] (fAL lt n r i M p).2.2 := by
    intro f9
    induction f9 with
    | zero => intro p hp1 hp2; exact absurd hp1 (Nat.not_lt_zero _)
    | succ f9 ih =>
      intro p hp1 hp2
      obtain ⟨hq3, hq1⟩ := fAL_53 (r := r) (i := i) (M := M) hn3.2 (by omega) h53 hT p
      obtain ⟨hx7, hx0, -⟩ := fAt_f (n := n) (r := r) (i := i) (w := ((3 ^ fWl n r i) - 1 - p)) hn3.2 (by omega) hq3 hT
      refine zV_iload hX dX10_attacks_47 rfl ?_
      refine zV_if_ltN hX (tgt := 82) dX10_attacks_49 (by decide) (by omega) (fun c_49 => ?_)
      refine zV_aload_n hX dX10_attacks_52 rfl ?_
      refine zV_iload_n hX dX10_attacks_53 rfl ?_
      refine zV_iload_n hX dX10_attacks_54 rfl ?_
      refine zV_iload_n hX dX10_attacks_55 rfl ?_
      refine zV_iload hX dX10_attacks_56 rfl ?_
      refine zV_cV4p hX hR hl dX10_attacks_58 (zf_attack l G (fAL lt n r i M p).2.2 lt n r i ((3 ^ fWl n r i) - 1 - p) hn3 hrr hi (by omega) hq3 hT) zt_X10_attack rfl zml_X10_323 zo0.1 ⟨by decide, by decide⟩ (Nat.le_of_ble_eq_true rfl) ?_
      dsimp only [Option.toList, List.cons_append, List.nil_append]
      refine zV_aload_n hX dX10_attacks_61 rfl ?_
      refine zV_iload_n hX dX10_attacks_62 rfl ?_
      refine zV_cV1p hX hR hl dX10_attacks_63 (zf_isBroken l G (fAt lt n r i ((3 ^ fWl n r i) - 1 - p) (fAL lt n r i M p).2.2) n i hn3 hi hx7 hx0) zt_X10_isBroken rfl zml_X10_327 zo0.1 ⟨by decide, by decide⟩ (Nat.le_of_ble_eq_true rfl) ?_
      dsimp only [Option.toList, List.cons_append, List.nil_append]
      refine zV_if_eqB hX (tgt := 76) dX10_attacks_66 (by decide) (fun c_66 => ?_) (fun c_66 => ?_)
      · refine zV_iinc hX dX10_attacks_76 rfl (rfl) (by decide) ?_
        dsimp only [zst1, zst2, zclr, zc2]
        refine zV_goto hX (tgt := 47) dX10_attacks_79 (by decide) ?_
        rcases Nat.lt_or_ge (p + 1) (3 ^ fWl n r i) with hq | hq
        · have h9 := ih (p + 1) (by omega) hq
          rw [nI_dc (by omega), show ((3 ^ fWl n r i) - 1 - p) - 1 = (3 ^ fWl n r i) - 1 - (p + 1) by omega]
          first | (rw [fAL_t c_66] at h9; exact h9) | (rw [fAL_f c_66] at h9; exact h9)
        · have h9 := J47
          rw [show fAL lt n r i M (3 ^ fWl n r i) = fAL lt n r i M (p + 1) from by rw [show p + 1 = (3 ^ fWl n r i) by omega]] at h9
          rw [show nI ((3 ^ fWl n r i) - 1 - p) + Int32.ofInt (-1) = -1 from by rw [show ((3 ^ fWl n r i) - 1 - p) = 0 by omega]; decide]
          first | (rw [fAL_t c_66] at h9; exact h9) | (rw [fAL_f c_66] at h9; exact h9)
      · refine zV_iincN hX (b := 1) dX10_attacks_69 rfl (by decide) ?_
        dsimp only [zst1, zst2, zclr, zc2]
        refine zV_iload hX dX10_attacks_72 rfl ?_
        refine zV_istore hX dX10_attacks_74 (by decide) ?_
        dsimp only [zst1, zst2, zclr, zc2]
        refine zV_iinc hX dX10_attacks_76 rfl (rfl) (by decide) ?_
        dsimp only [zst1, zst2, zclr, zc2]
        refine zV_goto hX (tgt := 47) dX10_attacks_79 (by decide) ?_
        rcases Nat.lt_or_ge (p + 1) (3 ^ fWl n r i) with hq | hq
        · have h9 := ih (p + 1) (by omega) hq
          rw [nI_dc (by omega), show ((3 ^ fWl n r i) - 1 - p) - 1 = (3 ^ fWl n r i) - 1 - (p + 1) by omega]
          first | (rw [fAL_t c_66] at h9; exact h9) | (rw [fAL_f c_66] at h9; exact h9)
        · have h9 := J47
          rw [show fAL lt n r i M (3 ^ fWl n r i) = fAL lt n r i M (p + 1) from by rw [show p + 1 = (3 ^ fWl n r i) by omega]] at h9
          rw [show nI ((3 ^ fWl n r i) - 1 - p) + Int32.ofInt (-1) = -1 from by rw [show ((3 ^ fWl n r i) - 1 - p) = 0 by omega]; decide]
          first | (rw [fAL_t c_66] at h9; exact h9) | (rw [fAL_f c_66] at h9; exact h9)
  refine zV_aload_n hX dX10_attacks_0 rfl ?_
  refine zV_iload_n hX dX10_attacks_1 rfl ?_
  refine zV_iload_n hX dX10_attacks_2 rfl ?_
  refine zV_iload_n hX dX10_attacks_3 rfl ?_
  refine zV_cV3p hX hR hl dX10_attacks_4 (zf_needAttack l G _ n r i hn3 hrr hi) zt_X10_needAttack rfl zml_X10_316 zo0.1 ⟨by decide, by decide⟩ (Nat.le_of_ble_eq_true rfl) ?_
  dsimp only [Option.toList, List.cons_append, List.nil_append]
  refine zV_aload_n hX dX10_attacks_7 rfl ?_
  refine zV_iload hX dX10_attacks_8 rfl ?_
  refine zV_if_ltN hX (tgt := 23) dX10_attacks_10 (by decide) (by omega) (fun c_10 => ?_)
  refine zV_iload hX dX10_attacks_13 rfl ?_
  refine zV_iconst hX (v := nI 3) dX10_attacks_15 (by decide) ?_
  refine zV_icmp_gtN hX (tgt := 23) dX10_attacks_16 (by decide) ⟨by omega, by omega⟩ (fun c_16 => ?_) (fun c_16 => ?_)
  · refine zV_iconst hX (v := nI 0) dX10_attacks_23 (by decide) ?_
    refine zV_topi (zb false) rfl ?_
    exfalso
    omega
  · refine zV_iconst hX (v := nI 1) dX10_attacks_19 (by decide) ?_
    refine zV_goto hX (tgt := 24) dX10_attacks_20 (by decide) ?_
    refine zV_topi (zb true) rfl ?_
    refine zV_cV1p hX hR hl dX10_attacks_24 (zc_need1 l G _) zt_X10_need rfl zml_X10_72 zo0.1 ⟨by decide, by decide⟩ (Nat.le_of_ble_eq_true rfl) ?_
    dsimp only [Option.toList, List.cons_append, List.nil_append]
    refine zV_iload_n hX dX10_attacks_27 rfl ?_
    refine zV_iload_n hX dX10_attacks_28 rfl ?_
    refine zV_iload_n hX dX10_attacks_29 rfl ?_
    refine zV_cS3p hX hR hl dX10_attacks_30 (zc_waysOf l G _ n r i hn3 hrr hi) zt_X10_waysOf rfl zml_X10_320 (by decide) (Nat.le_of_ble_eq_true rfl) ?_
    dsimp only [Option.toList, List.cons_append, List.nil_append]
    refine zV_istore hX dX10_attacks_33 (by decide) ?_
    dsimp only [zst1, zst2, zclr, zc2]
    refine zV_iconst hX (v := nI 0) dX10_attacks_35 (by decide) ?_
    refine zV_istore hX dX10_attacks_36 (by decide) ?_
    dsimp only [zst1, zst2, zclr, zc2]
    refine zV_iconst hX (v := (-1)) dX10_attacks_38 (by decide) ?_
    refine zV_istore hX dX10_attacks_39 (by decide) ?_
    dsimp only [zst1, zst2, zclr, zc2]
    refine zV_iload hX dX10_attacks_41 rfl ?_
    refine zV_iconst hX (v := nI 1) dX10_attacks_43 (by decide) ?_
    refine zV_isub hX dX10_attacks_44 ?_
    refine zV_istore hX dX10_attacks_45 (by decide) ?_
    dsimp only [zst1, zst2, zclr, zc2]
    rw [show nI (3 ^ fWl n r i) - nI 1 = nI ((3 ^ fWl n r i) - 1 - 0) from pk_sub (by omega)]
    exact L47 ((3 ^ fWl n r i) + 1) 0 (by omega) (by omega)
