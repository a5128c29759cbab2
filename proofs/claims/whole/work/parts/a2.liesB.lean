section zLiB
variable {rc e n w k lo hi j : Nat} {A A1 A2 B B1 B2 : zM} {c p x : Int32}
theorem tLen_cg {p q : Nat → Bool} : ∀ (k a : Nat), (∀ i, a ≤ i → i < a + k → p i = q i) → tLen p k a = tLen q k a
  | 0, _, _ => rfl
  | k + 1, a, h => by
    unfold tLen
    rw [h a (by omega) (by omega), tLen_cg k (a + 1) (fun i h1 h2 => h i (by omega) (by omega))]
theorem tEnd_cg {p q : Nat → Bool} {e a : Nat} (h : ∀ i, a ≤ i → i < e → p i = q i) : tEnd p e a = tEnd q e a := by
  unfold tEnd
  rw [tLen_cg _ _ (fun i h1 h2 => h i h1 (by omega))]
/-- class and reference, reading the same text -/
def rR (rc e n : Nat) (A B : zM) : Prop := rSt rc e n A ∧ uSt e n B ∧ (∀ j, j < 300 → A.1 24 j = B.1 309 j ∧ ¬ B.1 309 j = -1) ∧ A.1 20 7 = B.1 300 6 ∧ A.1 20 1 = B.1 300 7 ∧ (A.1 20 7 = 0 → rA A = uA B)
theorem rR.b0 (h : rR rc e n A B) (h0 : A.1 20 7 = 0) : B.1 300 6 = 0 := h.2.2.2.1.symm.trans h0
theorem rR.ko (h : rR rc e n A B) (h0 : ¬ A.1 20 7 = 0) (hA : rSt rc e n A1) (hB : uSt e n B1) (ka : ∀ j, A1.1 24 j = A.1 24 j) (kb : ∀ j, B1.1 309 j = B.1 309 j) (za : rZ A A1) (zb : uZ B B1) : rR rc e n A1 B1 := by
  obtain ⟨r1, r2, r3, r4, r5, r6⟩ := h
  obtain ⟨a1, a2⟩ := za h0
  obtain ⟨b1, b2⟩ := zb (by rw [← r4]; exact h0)
  exact ⟨hA, hB, fun j hj => by rw [ka, kb]; exact r3 j hj, by rw [a1, b1]; exact r4, by rw [a2, b2]; exact r5, fun q => absurd (a1.symm.trans q) h0⟩
theorem rR.koK (h : rR rc e n A B) (h0 : ¬ A.1 20 7 = 0) (hA : rSt rc e n A1) (hB : uSt e n B1) (ka : rK A A1) (kb : kU B B1) (zb : uZ B B1) : rR rc e n A1 B1 :=
  h.ko h0 hA hB (fun j => ka.1.1 _ _ (by unfold rFc; omega)) (fun j => kb.1 _ _ (by unfold uFr; omega)) ka.2 zb
theorem rR.at (h : rR rc e n A B) (hy : lyR rc) (he : e ≤ 300) (h0 : A.1 20 7 = 0) {a : Nat} (ha : a ≤ e) : rR rc e n (rAt a A) (uAt a B) := by
  obtain ⟨r1, r2, r3, r4, r5, r6⟩ := h
  refine ⟨rSt_at r1 hy ha he, uSt_at r2 ha he, fun j hj => ?_, ?_, ?_, fun _ => ?_⟩
  · rw [rAt_c (by omega), uAt_c (by omega)]; exact r3 j hj
  · rw [rAt_c (by omega), uAt_c (by omega)]; exact r4
  · rw [rAt_c (by omega), uAt_c (by omega)]; exact r5
  · rw [rA_at (by omega), uA_at (by omega)]
theorem rR.fail (h : rR rc e n A B) (hy : lyR rc) (h0 : A.1 20 7 = 0) (hx : ¬ x = 0) : rR rc e n (rFail x p A) (mWr x p B) := by
  have b0 := h.b0 h0
  obtain ⟨r1, r2, r3, r4, r5, r6⟩ := h
  have e1 : rFail x p A = zw (zw A 20 7 x) 20 1 p := if_pos h0
  have e2 : mWr x p B = zw (zw B 300 6 x) 300 7 p := if_pos b0
  refine ⟨rSt_fail r1 hy, uSt_W r2, fun j hj => ?_, ?_, ?_, fun q => ?_⟩
  · rw [(rFail_K x p A).1.1 24 j (by unfold rFc; omega), mWr_c (by omega)]; exact r3 j hj
  · rw [e1, e2, zw_ne (by omega), zw_same, zw_ne (by omega), zw_same]
  · rw [e1, e2, zw_same, zw_same]
  · rw [e1, zw_ne (by omega), zw_same] at q
    exact absurd q hx
theorem rR.wz (h : rR rc e n A B) {a j : Nat} {x : Int32} (ha : ¬ (a = 309 ∨ (a = 300 ∧ (j = 3 ∨ j = 4 ∨ j = 6 ∨ j = 7 ∨ j = 9)))) : rR rc e n A (zw B a j x) := by
  obtain ⟨r1, r2, r3, r4, r5, r6⟩ := h
  refine ⟨r1, uSt_of r2 (zw_ne (by omega)) (zw_ne (by omega)) (zw_ne (by omega)), fun j hj => ?_, ?_, ?_, fun q => ?_⟩
  · rw [zw_ne (by omega)]; exact r3 j hj
  · rw [zw_ne (by omega)]; exact r4
  · rw [zw_ne (by omega)]; exact r5
  · rw [r6 q]; unfold uA; rw [zw_ne (by omega)]
theorem rR.sp (h : rR rc e n A B) (he : e ≤ 300) (h0 : A.1 20 7 = 0) : rSp e A = uSp e B := by
  obtain ⟨r1, r2, r3, r4, r5, r6⟩ := h
  unfold rSp uSp
  rw [r6 h0]
  refine tEnd_cg (fun i h1 h2 => ?_)
  unfold tBl uBl
  rw [(r3 i (by omega)).1]
theorem rR.S (h : rR rc e n A B) (hy : lyR rc) (he : e ≤ 300) (h0 : A.1 20 7 = 0) : rR rc e n (rS e A) (uS e B) := by
  unfold rS uS
  rw [h.sp he h0]
  exact h.at hy he h0 (uSp_le h.2.1)
theorem rS_7 : (rS e A).1 20 7 = A.1 20 7 := rAt_c (by omega)
theorem rR.tb (h : rR rc e n A B) (he : e ≤ 300) (h0 : A.1 20 7 = 0) (hc : ¬ (-1 : Int32) = c) : rTb e c A = decide (uBy e B (uSp e B) = c) := by
  unfold rTb uBy
  rw [h.sp he h0]
  by_cases hl : uSp e B < e
  · rw [if_pos hl, decide_eq_true hl, (h.2.2.1 _ (by omega)).1, Bool.true_and]
    exact i32_beq _ _
  · rw [if_neg hl, decide_eq_false hl, decide_eq_false hc, Bool.false_and]
theorem uBy_lt (hc : ¬ (-1 : Int32) = c) (h : uBy e B j = c) : j < e := (uBy_is hc h).1
/-- a sign, taken where it stands -/
theorem ls_T (h : rR rc e n A B) (hy : lyR rc) (he : e ≤ 300) (h0 : A.1 20 7 = 0) (hc : ¬ (-1 : Int32) = c) : rR rc e n (rTm e c A) (if uBy e B (uSp e B) = c then uAt (uSp e B + 1) B else uS e B) := by
  have ht := h.tb he h0 hc
  unfold rTm
  by_cases g : uBy e B (uSp e B) = c
  · have hl := uBy_lt hc g
    rw [if_pos g, if_pos (by rw [ht]; exact decide_eq_true g), h.sp he h0]
    exact h.at hy he h0 (by omega)
  · rw [if_neg g, if_neg (by rw [ht, decide_eq_false g]; decide)]
    exact h.S hy he h0
theorem ls_Nd (h : rR rc e n A B) (hy : lyR rc) (he : e ≤ 300) (hc : ¬ (-1 : Int32) = c) : rR rc e n (rNd e c A) (uSg e c B) := by
  by_cases h0 : A.1 20 7 = 0
  · have ht := h.tb he h0 hc
    have hT := ls_T h hy he h0 hc
    unfold rNd uSg
    rw [if_pos (h.b0 h0)]
    by_cases g : uBy e B (uSp e B) = c
    · rw [if_pos g] at hT ⊢
      rw [if_pos (by rw [ht]; exact decide_eq_true g)]
      exact hT
    · have hf : ¬ rTb e c A = true := by rw [ht, decide_eq_false g]; decide
      rw [if_neg g] at hT ⊢
      rw [if_neg hf, h.sp he h0]
      exact hT.fail hy (by unfold rTm; rw [if_neg hf, rS_7]; exact h0) (by decide)
  · exact h.koK h0 (rSt_Nd h.1 hy he) (uSt_Sg h.2.1 he hc) (rNd_K _ _ _) (uSg_k _ _ _) (uSg_Z _ _ _)
theorem rR.wb (h : rR rc e n A B) (he : e ≤ 300) (h0 : A.1 20 7 = 0) : rWb e j A = uWb e j B := by
  have hs := h.sp he h0
  have hw : rWl e A = uWl e B := by
    unfold rWl uWl
    rw [hs]
    refine tEnd_cg (fun i h1 h2 => ?_)
    unfold tLt uLt
    rw [(h.2.2.1 i (by omega)).1]
  have hle := uWl_le h.2.1
  unfold rWb uWb
  rw [hw, hs]
  by_cases g : uWl e B - uSp e B = zSLen.getD j 0
  · rw [decide_eq_true g, Bool.true_and, Bool.true_and, Bool.eq_iff_iff, zall_true, zall_true]
    constructor
    · intro q i hi
      rw [← (h.2.2.1 _ (by omega)).1]; exact q i hi
    · intro q i hi
      rw [(h.2.2.1 _ (by omega)).1]; exact q i hi
  · rw [decide_eq_false g, Bool.false_and, Bool.false_and]
theorem rR.tk (h : rR rc e n A B) (he : e ≤ 300) (h0 : A.1 20 7 = 0) : uTk e j B = rWb e j A := by
  unfold uTk
  rw [decide_eq_true (h.b0 h0), Bool.true_and, h.wb he h0]
theorem ls_W (h : rR rc e n A B) (hy : lyR rc) (he : e ≤ 300) : rR rc e n (rWm e j A) (uTm e j B) := by
  by_cases h0 : A.1 20 7 = 0
  · have hb := h.wb (j := j) he h0
    unfold rWm uTm
    rw [if_pos (h.b0 h0), hb, h.sp he h0]
    by_cases g : uWb e j B = true
    · rw [if_pos g, if_pos g]
      exact h.at hy he h0 (uWb_in h.2.1 g)
    · rw [if_neg g, if_neg g]
      exact h.S hy he h0
  · exact h.koK h0 (rSt_W h.1 hy he) (uSt_Tm h.2.1 he) (rWm_K _ _ _) (uTm_k _ _ _) (uTm_Z _ _ _)
theorem tNum_u {b b' : Nat → Int32} {s : Nat} : ∀ (k : Nat), (∀ i, i < k → b (s + i) = b' (s + i) ∧ 48 ≤ zN (b' (s + i))) → tNum b s k = min (uNum b' s k) 100000
  | 0, _ => rfl
  | k + 1, h => by
    have ih := tNum_u k (fun i hi => h i (by omega))
    obtain ⟨h1, h2⟩ := h k (by omega)
    show min (tNum b s k * 10 + zN (b (s + k)) - 48) 100000 = min (min (10 * uNum b' s k + zN (b' (s + k)) - 48) 1000000) 100000
    rw [h1, ih]
    omega
/-- a number -/
theorem ls_Nm (h : rR rc e n A B) (hy : lyR rc) (he : e ≤ 300) (hh : hi < 100000) : rR rc e n (rNm e lo hi A) (uNm e lo hi B) ∧ ((rNm e lo hi A).1 20 7 = 0 → rNv e A = uNv e B ∧ rNx e lo hi A = nI (uNv e B) ∧ uNx e lo hi B = nI (uNv e B) ∧ lo ≤ uNv e B ∧ uNv e B ≤ hi) := by
  by_cases h0 : A.1 20 7 = 0
  · have hs := h.sp he h0
    have hd : rDe e A = uNd e B := by
      unfold rDe uNd
      rw [hs]
      refine tEnd_cg (fun i h1 h2 => ?_)
      unfold tDi uDi
      rw [(h.2.2.1 i (by omega)).1]
    have hle := uNd_le h.2.1
    have hge : uSp e B ≤ uNd e B := tEnd_ge _ _ _
    have hv : rNv e A = min (uNv e B) 100000 := by
      unfold rNv uNv
      rw [hs, hd]
      refine tNum_u _ (fun i hi => ?_)
      have e1 := (h.2.2.1 (uSp e B + i) (by omega)).1
      refine ⟨e1, ?_⟩
      have e2 : uDi B (uSp e B + i) = true := tEnd_in (q := uDi B) (e := e) (a := uSp e B) (by omega) (show uSp e B + i < uNd e B by omega)
      exact (tdg_nI (v := B.1 309 (uSp e B + i)) e2).2.1
    have hS := h.S hy he h0
    have hS0 : (rS e A).1 20 7 = 0 := rS_7.trans h0
    -- both, before they look at the bounds
    have hC : rR rc e n (if rDe e A = rSp e A then rFail (nI 1) (nI (rSp e A)) (rAt (rDe e A) A) else rAt (rDe e A) A) (uNc e B) := by
      unfold uNc uNb uNa
      rw [hd, hs]
      by_cases g : uNd e B = uSp e B
      · rw [if_pos g, if_pos g]
        have h1 := (hS.fail (x := nI 1) (p := nI (uSp e B)) hy hS0 (by decide)).wz (a := 300) (j := 15) (x := nI (uSp e B)) (by omega)
        have e1 : rAt (uNd e B) A = rS e A := by unfold rS; rw [g, hs]
        rw [e1]
        exact h1.koK (rFail_n (by decide)) h1.1 (uSt_at h1.2.1 hle he) rK.rf (uAt_k _ _) (uAt_Z _ _)
      · rw [if_neg g, if_neg g]
        have h1 := (hS.wz (a := 300) (j := 15) (x := nI (uSp e B)) (by omega)).at hy he hS0 hle
        have e1 : rAt (uNd e B) (rS e A) = rAt (uNd e B) A := rAt_rAt _ _ _
        rw [e1] at h1
        exact h1
    by_cases g : rDe e A = rSp e A
    · rw [if_pos g] at hC
      have hx : ¬ (rFail (nI 1) (nI (rSp e A)) (rAt (rDe e A) A)).1 20 7 = 0 := rFail_n (by decide)
      have e1 : rNm e lo hi A = rFail (nI 1) (nI (rSp e A)) (rAt (rDe e A) A) := if_pos g
      have e2 : uNm e lo hi B = uNc e B := by
        unfold uNm
        rw [if_pos (h.b0 h0)]
        split
        · exact if_neg (fun q => hx (hC.2.2.2.1.trans q))
        · rfl
      rw [e1, e2]
      exact ⟨hC, fun q => absurd q hx⟩
    · rw [if_neg g] at hC
      have hC0 : (rAt (rDe e A) A).1 20 7 = 0 := (rAt_c (by omega)).trans h0
      have e2 : uNm e lo hi B = if uNv e B < lo ∨ hi < uNv e B then mWr (nI 2) (nI (uSp e B)) (uNc e B) else uNc e B := if_pos (h.b0 h0)
      have e1 : rNm e lo hi A = if rNv e A < lo ∨ hi < rNv e A then rFail (nI 2) (nI (rSp e A)) (rAt (rDe e A) A) else rAt (rDe e A) A := if_neg g
      by_cases q : uNv e B < lo ∨ hi < uNv e B
      · have q' : rNv e A < lo ∨ hi < rNv e A := by rw [hv]; omega
        rw [if_pos q'] at e1
        rw [if_pos q] at e2
        rw [e1, e2, hs]
        exact ⟨hC.fail hy hC0 (by decide), fun z => absurd z (rFail_n (by decide))⟩
      · have q' : ¬ (rNv e A < lo ∨ hi < rNv e A) := by rw [hv]; omega
        have hv2 : rNv e A = uNv e B := by rw [hv]; omega
        rw [if_neg q'] at e1
        rw [if_neg q] at e2
        have z1 : rNx e lo hi A = nI (rNv e A) := if_pos (by rw [e1]; exact hC0)
        have z2 : uNx e lo hi B = nI (uNv e B) := if_pos (by rw [e2]; exact hC.b0 hC0)
        rw [e1, e2]
        exact ⟨hC, fun _ => ⟨hv2, by rw [z1, hv2], z2, by omega, by omega⟩⟩
  · exact ⟨h.koK h0 (rSt_Nm h.1 hy he) (uSt_Nm h.2.1 he) (rNm_K _ _ _ _) (uNm_k _ _ _ _) (uNm_Z _ _ _ _), fun q => absurd ((rNm_K e lo hi A).2.ok q) h0⟩
/-- a value -/
theorem ls_Vm (h : rR rc e n A B) (hy : lyR rc) (he : e ≤ 300) : rR rc e n (rVm e A) (uVz e B) ∧ ((rVm e A).1 20 7 = 0 → rVv e A = uVv e B) := by
  by_cases h0 : A.1 20 7 = 0
  · have b0 := h.b0 h0
    have eV : uVz e B = uVm e B := if_pos b0
    have hA : rR rc e n (rVa e A) (uVa e B) := ls_T h hy he h0 (by decide)
    obtain ⟨hB, hBv⟩ := ls_Nm (lo := 0) (hi := 99999) hA hy he (by decide)
    have hg : uVg e B = rTb e (nI 45) A := (h.tb he h0 (by decide)).symm
    rw [eV]
    have hB' : rR rc e n (rVb e A) (uVb e B) := hB
    have hKc : rK (rVb e A) (rVm e A) := by
      unfold rVm rVc
      split
      · exact (rTm_K _ _ _).tr (rNm_K _ _ _ _)
      · exact rTm_K _ _ _
    by_cases hb0 : (rVb e A).1 20 7 = 0
    · obtain ⟨v1, v2, v3, v4, v5⟩ := hBv hb0
      have hs : uVs e B = rTb e (nI 47) (rVb e A) := by
        rw [hB'.tb he hb0 (by decide)]
        unfold uVs
        rw [decide_eq_true (hB'.b0 hb0), Bool.true_and]
      have hT := ls_T (c := nI 47) hB' hy he hb0 (by decide)
      have hX : uVx e B = (if rTb e (nI 45) A then -(rNx e 0 99999 (rVa e A)) else rNx e 0 99999 (rVa e A)) := by
        unfold uVx uVn
        rw [hg, v2, v3]
      by_cases g : rTb e (nI 47) (rVb e A) = true
      · have g2 : uBy e (uVb e B) (uSp e (uVb e B)) = nI 47 := by
          rw [hB'.tb he hb0 (by decide)] at g
          exact of_decide_eq_true g
        rw [if_pos g2] at hT
        have hT' : rR rc e n (rVc e A) (uVc e B) := hT
        obtain ⟨hN, hNv⟩ := ls_Nm (lo := 1) (hi := 999) hT' hy he (by decide)
        have e1 : rVm e A = rNm e 1 999 (rVc e A) := if_pos g
        have e2 : uVm e B = uNm e 1 999 (uVc e B) := if_pos (hs.trans g)
        rw [e1, e2]
        refine ⟨hN, fun q => ?_⟩
        obtain ⟨w1, w2, w3, w4, w5⟩ := hNv q
        have d1 : rVd e A = nI (uNv e (uVc e B)) := (if_pos g).trans w2
        have d2 : uVd e B = nI (uNv e (uVc e B)) := (if_pos (hs.trans g)).trans w3
        unfold rVv uVv
        rw [if_pos b0, if_pos ⟨by rw [e1]; exact q, by rw [d1]; exact fun z => by have := (nI_ltI (by omega) (by omega)).mp z; omega⟩, d1, d2, hX]
      · have g2 : ¬ uBy e (uVb e B) (uSp e (uVb e B)) = nI 47 := by
          rw [hB'.tb he hb0 (by decide)] at g
          exact fun z => g (decide_eq_true z)
        rw [if_neg g2] at hT
        have hf : ¬ uVs e B = true := by rw [hs]; exact g
        have e1 : rVm e A = rVc e A := if_neg g
        have e2 : uVm e B = uS e (uVb e B) := by
          unfold uVm
          rw [if_neg hf, if_pos (hB'.b0 hb0)]
        rw [e1, e2]
        refine ⟨hT, fun q => ?_⟩
        have d1 : rVd e A = nI 1 := if_neg g
        have d2 : uVd e B = nI 1 := if_neg hf
        unfold rVv uVv
        rw [if_pos b0, if_pos ⟨by rw [e1]; exact q, by rw [d1]; decide⟩, d1, d2, hX]
    · have hf : ¬ uVs e B = true := by
        unfold uVs
        rw [decide_eq_false (fun z => hb0 (hB'.2.2.2.1.trans z)), Bool.false_and]
        decide
      have e2 : uVm e B = uVb e B := by
        unfold uVm
        rw [if_neg hf, if_neg (fun z => hb0 (hB'.2.2.2.1.trans z))]
      rw [e2]
      exact ⟨hB'.koK hb0 (rSt_Vm h.1 hy he) hB'.2.1 hKc zKf.rf uZ.rf, fun q => absurd (hKc.2.ok q) hb0⟩
  · exact ⟨h.koK h0 (rSt_Vm h.1 hy he) (uSt_Vz h.2.1 he) (rVm_K _ _) (uVz_k _ _) (uVz_Z _ _), fun q => absurd ((rVm_K e A).2.ok q) h0⟩
/-- a limit of a lie -/
theorem ls_Om (h : rR rc e n A B) (hy : lyR rc) (he : e ≤ 300) (hh : hi < 100000) : rR rc e n (rOm e j lo hi A) (uOm e j lo hi B) ∧ ∀ d, (rOm e j lo hi A).1 20 7 = 0 → (rOx e j lo hi A = -1 ∧ uOx e j lo hi d B = d) ∨ ∃ v, lo ≤ v ∧ v ≤ hi ∧ rOx e j lo hi A = nI v ∧ uOx e j lo hi d B = nI v := by
  have hW := ls_W (j := j) h hy he
  by_cases h0 : A.1 20 7 = 0
  · have ht := h.tk (j := j) he h0
    by_cases g : rWb e j A = true
    · have e1 : rOm e j lo hi A = rNm e lo hi (rWm e j A) := if_pos g
      have e2 : uOm e j lo hi B = uNm e lo hi (uTm e j B) := if_pos (ht.trans g)
      obtain ⟨hN, hNv⟩ := ls_Nm (lo := lo) (hi := hi) hW hy he hh
      rw [e1, e2]
      refine ⟨hN, fun d q => Or.inr ?_⟩
      obtain ⟨w1, w2, w3, w4, w5⟩ := hNv q
      exact ⟨_, w4, w5, (if_pos g).trans w2, (if_pos (ht.trans g)).trans w3⟩
    · have g2 : ¬ uTk e j B = true := by rw [ht]; exact g
      have e1 : rOm e j lo hi A = rWm e j A := if_neg g
      have e2 : uOm e j lo hi B = uTm e j B := if_neg g2
      rw [e1, e2]
      exact ⟨hW, fun d _ => Or.inl ⟨if_neg g, if_neg g2⟩⟩
  · exact ⟨h.koK h0 (rSt_Om h.1 hy he) (uSt_Om h.2.1 he) (rOm_K _ _ _ _ _) (uOm_k _ _ _ _ _) (uOm_Z _ _ _ _ _), fun d q => absurd ((rOm_K e j lo hi A).2.ok q) h0⟩
end zLiB
