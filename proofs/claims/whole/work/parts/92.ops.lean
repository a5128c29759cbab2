section zRel
-- what the class and the reference hold alike: the group
theorem zwL_1 {M : zM} {c k : Nat} {x : Int64} : (zwL M c k x).1 = M.1 := rfl
theorem zwL_22 {M : zM} {x : Int64} : (zwL M 220 0 x).2 220 0 = x := by simp [zwL, vp_updL]
theorem zmem_ex {x : Int32} {n : Nat} (h : zmem x n = true) (hn : n < 2 ^ 31) : ∃ j, j < n ∧ x = nI j := by
  unfold zmem at h
  simp only [Bool.and_eq_true, Bool.not_eq_true', decide_eq_false_iff_not] at h
  exact zmem_nat h.1 (Int32.not_le.mp h.2) hn
theorem mIn_ex {x : Int32} {a b : Nat} (h : mIn x (nI a) (nI b) = true) (ha : a < 2 ^ 31) (hb : b < 2 ^ 31) : ∃ j, a ≤ j ∧ j ≤ b ∧ x = nI j := by
  unfold mIn at h
  simp only [Bool.and_eq_true, decide_eq_true_eq] at h
  have h1 := Int32.le_iff_toInt_le.mp h.1
  have h2 := Int32.le_iff_toInt_le.mp h.2
  rw [nI_toInt ha] at h1
  rw [nI_toInt hb] at h2
  refine ⟨x.toInt.toNat, by omega, by omega, ?_⟩
  rw [← Int32.toInt_inj, nI_toInt (by omega)]
  omega
def zIg (M : zM) : Prop := ∃ n t : Nat, (3 ≤ n ∧ n ≤ 7) ∧ t ≤ 2 ∧ M.1 40 0 = nI n ∧ M.1 300 9 = nI n ∧ M.1 40 1 = nI t ∧ M.1 300 10 = nI t ∧ M.1 40 2 = M.1 300 11 ∧ ∀ j, j < 7 → M.1 45 j = M.1 313 j ∧ okV (M.1 45 j)
/-- .. the refusals, counted -/
def zIc (M : zM) : Prop := M.1 0 10 = M.1 302 0 ∧ M.1 0 11 = M.1 302 1
/-- .. the tape, its size, its fault -/
def zIr (M : zM) : Prop := ∃ s : Nat, s ≤ 300 ∧ M.1 20 0 = nI s ∧ M.1 300 2 = nI s ∧ M.1 20 1 = M.1 300 5 ∧ ∀ j, j < 300 → M.1 24 j = M.1 309 j ∧ ¬ M.1 309 j = -1
/-- the cells that the other relations speak of: tape, pointers, lies, the latest trial -/
def zKp (c k : Nat) : Prop := c = 20 ∨ c = 24 ∨ (c = 40 ∧ k ≠ 2) ∨ c = 50 ∨ (60 ≤ c ∧ c ≤ 80) ∨ (180 ≤ c ∧ c ≤ 208) ∨ (c = 300 ∧ (k = 2 ∨ k = 5 ∨ (17 ≤ k ∧ k ≤ 19) ∨ (24 ≤ k ∧ k ≤ 26))) ∨ c = 324 ∨ c = 309 ∨ c = 1208 ∨ (1320 ≤ c ∧ c < 1368) ∨ 3100 ≤ c
def zSame (M M2 : zM) : Prop := ∀ c k, zKp c k → M2.1 c k = M.1 c k
theorem okV_0 : okV 0 := by
  exact ⟨false, 0, 0, ⟨by decide +kernel, by decide, by decide⟩, Or.inr rfl, by decide⟩
theorem mTw_eq {w : Int32} {r : Nat} (hr : r < 2) {M : zM} : mTw w (nI r) M = zw (zw (zw M 300 0 (nI 0)) 300 0 w) 302 r (M.1 302 r + nI 1) := by
  unfold mTw mBad
  rw [if_pos ⟨rfl, zw_same⟩, nI_clamp (by omega)]
  congr 1
theorem zIg_same {M M2 : zM} (h : zIg M) (h0 : M2.1 40 0 = M.1 40 0) (h1 : M2.1 300 9 = M.1 300 9) (h2 : M2.1 40 1 = M.1 40 1) (h3 : M2.1 300 10 = M.1 300 10) (h4 : M2.1 40 2 = M.1 40 2) (h5 : M2.1 300 11 = M.1 300 11) (h6 : ∀ j, M2.1 45 j = M.1 45 j ∧ M2.1 313 j = M.1 313 j) : zIg M2 := by
  obtain ⟨n, t, a1, a2, a3, a4, a5, a6, a7, a8⟩ := h
  refine ⟨n, t, a1, a2, by rw [h0, a3], by rw [h1, a4], by rw [h2, a5], by rw [h3, a6], by rw [h4, h5, a7], fun j hj => ?_⟩
  rw [(h6 j).1, (h6 j).2]
  exact a8 j hj
/-- a refusal, counted by both: no such member, path or value -/
theorem zI_bs {M : zM} {w : Int32} (hg : zIg M) (hc : zIc M) : zIg (mTw w (nI 0) (mBs M)) ∧ zIc (mTw w (nI 0) (mBs M)) ∧ zSame M (mTw w (nI 0) (mBs M)) ∧ (mTw w (nI 0) (mBs M)).1 300 0 = w := by
  rw [mTw_eq (by decide)]
  unfold mBs
  refine ⟨zIg_same hg (by simp [zw_at]) (by simp [zw_at]) (by simp [zw_at]) (by simp [zw_at]) (by simp [zw_at]) (by simp [zw_at]) (fun j => ⟨by simp [zw_at], by simp [zw_at]⟩), ⟨?_, ?_⟩, fun c k hk => ?_, by simp [zw_at]⟩
  · simp [zw_at, hc.1]
  · simp [zw_at, hc.2]
  · unfold zKp at hk
    simp only [zw_at]
    rw [if_neg (by omega), if_neg (by omega), if_neg (by omega), if_neg (by omega)]
/-- .. another argument -/
theorem zI_ba {M : zM} {w : Int32} (hg : zIg M) (hc : zIc M) : zIg (mTw w (nI 1) (mBa M)) ∧ zIc (mTw w (nI 1) (mBa M)) ∧ zSame M (mTw w (nI 1) (mBa M)) ∧ (mTw w (nI 1) (mBa M)).1 300 0 = w := by
  rw [mTw_eq (by decide)]
  unfold mBa
  refine ⟨zIg_same hg (by simp [zw_at]) (by simp [zw_at]) (by simp [zw_at]) (by simp [zw_at]) (by simp [zw_at]) (by simp [zw_at]) (fun j => ⟨by simp [zw_at], by simp [zw_at]⟩), ⟨?_, ?_⟩, fun c k hk => ?_, by simp [zw_at]⟩
  · simp [zw_at, hc.1]
  · simp [zw_at, hc.2]
  · unfold zKp at hk
    simp only [zw_at]
    rw [if_neg (by omega), if_neg (by omega), if_neg (by omega), if_neg (by omega)]
theorem frac_okV {a b : Int32} (ha : mIn a (-99999) (nI 99999) = true) (hb : mIn b (nI 1) (nI 999) = true) : okV (frac a b) := by
  obtain ⟨A, h1, h2⟩ := mIn_A ha
  obtain ⟨B, h3, h4, h5⟩ := mIn_B hb
  exact frac_ok h1 h2 h3 h4 h5
variable {l : Launch} {G : zG} {I : zM → Prop} {M : zM}
/-- how an invariant is kept by what touches the group's own numbers only -/
def zKeeps (I : zM → Prop) (M : zM) : Prop := ∀ M2, zIg M2 → zIc M2 → zSame M M2 → I M2
theorem op_value (hst : l.stackTraces = false) (hg : zIg M) (hc : zIc M) (hk : zKeeps I M) (v1 v2 v3 : Int32) : opI l G I yL_value cL_value 6 [(0, 12, 15, 19), (0, 12, 19, 13)] yX11_value cX11_value 5 [.int v1, .int v2, .int v3] M := by
  obtain ⟨n, t, a1, a2, a3, a4, a5, a6, a7, a8⟩ := id hg
  cases hm : zmem v1 n with
  | false =>
    obtain ⟨b1, b2, b3, b4⟩ := zI_bs (w := nI 1) hg hc
    exact ⟨1, 3, 0, 0, nI 0, mBs M, _, by decide, by decide, by decide, by decide, zh_valueS l G M (mBs M) v1 v2 v3 (zf_valueX l G M hst n v1 v2 v3 a3 a1.2 hm), zCk.of (zc_mvalueX l G (mBs M) n v1 v2 v3 (by simp [mBs, zw_at, a4]) a1.2 (by omega) hm), b4, fun e => absurd e (by decide), hk _ b1 b2 b3⟩
  | true =>
    obtain ⟨j, hj, rfl⟩ := zmem_ex hm (by omega)
    cases ha : mIn v2 (-99999) (nI 99999) with
    | false =>
      obtain ⟨b1, b2, b3, b4⟩ := zI_ba (w := nI 2) hg hc
      exact ⟨2, 3, 0, 0, nI 0, mBa M, _, by decide, by decide, by decide, by decide, zh_valueI l G M (mBa M) (nI j) v2 v3 (zf_valueA l G M hst n j v2 v3 a3 a1.2 hj (by rw [ha]; rfl)), zCk.of (zc_mvalueA l G (mBa M) n j v2 v3 (by simp [mBa, zw_at, a4]) a1.2 (by omega) hj ha), b4, fun e => absurd e (by decide), hk _ b1 b2 b3⟩
    | true =>
      cases hb : mIn v3 (nI 1) (nI 999) with
      | false =>
        obtain ⟨b1, b2, b3, b4⟩ := zI_ba (w := nI 2) hg hc
        exact ⟨2, 3, 0, 0, nI 0, mBa M, _, by decide, by decide, by decide, by decide, zh_valueI l G M (mBa M) (nI j) v2 v3 (zf_valueA l G M hst n j v2 v3 a3 a1.2 hj (by rw [ha, hb]; rfl)), zCk.of (zc_mvalueB l G (mBa M) n j v2 v3 (by simp [mBa, zw_at, a4]) a1.2 (by omega) hj ha hb), b4, fun e => absurd e (by decide), hk _ b1 b2 b3⟩
      | true =>
        refine ⟨0, 3, 0, 0, M.1 45 j, zwL (zw M 45 j (frac v2 v3)) 220 0 (M.1 45 j).toInt64, zw (m0 (zwL (zw M 45 j (frac v2 v3)) 220 0 (M.1 45 j).toInt64)) 313 j (frac v2 v3), by decide, by decide, by decide, by decide, zh_value l G M _ (nI j) v2 v3 _ (zf_value l G M n j v2 v3 a3 a1.2 hj ha hb), ?_, by simp [zw_at], fun _ => by rw [zw_2, zw_2]; exact zwL_22, hk _ ?_ ?_ ?_⟩
        · have h9 := zCk.of (zc_mvalue l G (zwL (zw M 45 j (frac v2 v3)) 220 0 (M.1 45 j).toInt64) n j v2 v3 (by rw [zwL_1]; simp [zw_at, a4]) a1.2 (by omega) hj ha hb)
          rw [show (zwL (zw M 45 j (frac v2 v3)) 220 0 (M.1 45 j).toInt64).1 313 j = M.1 45 j by rw [zwL_1]; simp [zw_at, (a8 j (by omega)).1]] at h9
          exact h9
        · refine ⟨n, t, a1, a2, by simp [zw_at, zwL_1, a3], by simp [zw_at, zwL_1, a4], by simp [zw_at, zwL_1, a5], by simp [zw_at, zwL_1, a6], by simp [zw_at, zwL_1, a7], fun i hi => ?_⟩
          simp only [zw_at, zwL_1]
          by_cases e : i = j
          · subst e; simp; exact frac_okV ha hb
          · simp [e]; exact a8 i hi
        · exact ⟨by simp [zw_at, zwL_1, hc.1], by simp [zw_at, zwL_1, hc.2]⟩
        · intro c k hk9
          unfold zKp at hk9
          simp only [zw_at, zwL_1]
          rw [if_neg (by omega), if_neg (by omega), if_neg (by omega)]
theorem op_missing (hst : l.stackTraces = false) (hg : zIg M) (hc : zIc M) (hk : zKeeps I M) (v1 v2 : Int32) : opI l G I yL_missing cL_missing 5 [(0, 10, 13, 13)] yX11_missing cX11_missing 4 [.int v1, .int v2] M := by
  obtain ⟨n, t, a1, a2, a3, a4, a5, a6, a7, a8⟩ := id hg
  cases ha : mIn v1 (-99999) (nI 99999) with
  | false =>
    obtain ⟨b1, b2, b3, b4⟩ := zI_ba (w := nI 1) hg hc
    exact ⟨1, 3, 0, 0, nI 0, mBa M, _, by decide, by decide, by decide, by decide, zh_missingI l G M (mBa M) v1 v2 (zf_missingA l G M hst v1 v2 (by rw [ha]; rfl)), zCk.of (zc_mmissingA l G (mBa M) v1 v2 ha), b4, fun e => absurd e (by decide), hk _ b1 b2 b3⟩
  | true =>
    cases hb : mIn v2 (nI 1) (nI 999) with
    | false =>
      obtain ⟨b1, b2, b3, b4⟩ := zI_ba (w := nI 1) hg hc
      exact ⟨1, 3, 0, 0, nI 0, mBa M, _, by decide, by decide, by decide, by decide, zh_missingI l G M (mBa M) v1 v2 (zf_missingA l G M hst v1 v2 (by rw [ha, hb]; rfl)), zCk.of (zc_mmissingB l G (mBa M) v1 v2 ha hb), b4, fun e => absurd e (by decide), hk _ b1 b2 b3⟩
    | true =>
      refine ⟨0, 3, 0, 0, M.1 40 2, zwL (zw M 40 2 (frac v1 v2)) 220 0 (M.1 40 2).toInt64, zw (m0 (zwL (zw M 40 2 (frac v1 v2)) 220 0 (M.1 40 2).toInt64)) 300 11 (frac v1 v2), by decide, by decide, by decide, by decide, zh_missing l G M _ v1 v2 _ (zf_missing l G M v1 v2 ha hb), ?_, by simp [zw_at], fun _ => by rw [zw_2, zw_2]; exact zwL_22, hk _ ?_ ?_ ?_⟩
      · have h9 := zCk.of (zc_mmissing l G (zwL (zw M 40 2 (frac v1 v2)) 220 0 (M.1 40 2).toInt64) v1 v2 ha hb)
        rw [show (zwL (zw M 40 2 (frac v1 v2)) 220 0 (M.1 40 2).toInt64).1 300 11 = M.1 40 2 by rw [zwL_1]; simp [zw_at, a7]] at h9
        exact h9
      · refine ⟨n, t, a1, a2, by simp [zw_at, zwL_1, a3], by simp [zw_at, zwL_1, a4], by simp [zw_at, zwL_1, a5], by simp [zw_at, zwL_1, a6], by simp [zw_at, zwL_1], fun i hi => ?_⟩
        simp [zw_at, zwL_1]
        exact a8 i hi
      · exact ⟨by simp [zw_at, zwL_1, hc.1], by simp [zw_at, zwL_1, hc.2]⟩
      · intro c k hk9
        unfold zKp at hk9
        simp only [zw_at, zwL_1]
        rw [if_neg (by omega), if_neg (by omega), if_neg (by omega)]
/-- the one cell that every call of the reference sets anew -/
theorem zI_m0 (hg : zIg M) (hc : zIc M) : zIg (m0 M) ∧ zIc (m0 M) ∧ zSame M (m0 M) := by
  refine ⟨zIg_same hg (by simp [zw_at]) (by simp [zw_at]) (by simp [zw_at]) (by simp [zw_at]) (by simp [zw_at]) (by simp [zw_at]) (fun j => ⟨by simp [zw_at], by simp [zw_at]⟩), ⟨by simp [zw_at, hc.1], by simp [zw_at, hc.2]⟩, fun c k hk => ?_⟩
  unfold zKp at hk
  simp only [zw_at]
  rw [if_neg (by omega)]
theorem op_fault (hg : zIg M) (hc : zIc M) (hr : zIr M) (hk : zKeeps I M) : opP l G I (Option.some Jvm.ClassFile.FieldType.int) yX10_fault cX10_fault 1 yX11_fault cX11_fault 1 [] M := by
  obtain ⟨s, r1, r2, r3, r4, r5⟩ := hr
  obtain ⟨b1, b2, b3⟩ := zI_m0 hg hc
  refine ⟨0, 0, 0, M.1 20 1, M, m0 M, by decide, by decide, by decide, zf_fault l G M, ?_, hk _ b1 b2 b3⟩
  rw [r4]
  exact zCk.of (zc_mfault l G M)
theorem op_status (hg : zIg M) (hc : zIc M) (hk : zKeeps I M) (v1 : Int32) : opP l G I (Option.some Jvm.ClassFile.FieldType.int) yX10_status cX10_status 2 yX11_status cX11_status 2 [.int v1] M := by
  obtain ⟨b1, b2, b3⟩ := zI_m0 hg hc
  by_cases h0 : v1 = 0
  · subst h0
    refine ⟨1, 0, 0, M.1 0 10, M, m0 M, by decide, by decide, by decide, zf_status l G M 0, ?_, hk _ b1 b2 b3⟩
    rw [hc.1]
    exact zCk.of (zc_mstatus l G M 0 (by decide))
  · by_cases h1 : v1 = nI 1
    · subst h1
      refine ⟨1, 0, 0, M.1 0 11, M, m0 M, by decide, by decide, by decide, zf_status l G M (nI 1), ?_, hk _ b1 b2 b3⟩
      rw [hc.2]
      exact zCk.of (zc_mstatus l G M 1 (by decide))
    · refine ⟨1, 0, 0, -1, M, m0 M, by decide, by decide, by decide, ?_, zCk.of (zc_mstatusX l G M v1 (mIn_n01 h0 h1)), hk _ b1 b2 b3⟩
      have h9 := zf_status l G M v1
      rw [if_neg h0, if_neg h1] at h9
      exact h9
end zRel
