section zSign6
variable {l : Launch} {G : zG} {I : zM → Prop} {M : zM} {lc n t : Nat} {cn : Nat → Nat} {lb : Nat → Bool}
theorem zKeeps.bs (hg : zIg M) (hc : zIc M) (hk : zKeeps I M) {R D : zM} {w : Int32} (hcl : ∀ c i, c < 120 ∨ 132 < c → R.1 c i = M.1 c i) (hK : kS (m0 (mBs R)) D) : I (mBad true w (nI 0) D) ∧ (mBad true w (nI 0) D).1 300 0 = w := by
  have e0 : D.1 300 0 = 0 := by rw [hK.1 _ _ (by unfold mFrS; omega)]; exact zw_same
  have hD : ∀ c i, ¬ mFrS c i → ¬ (c = 300 ∧ i = 0) → ¬ (c = 0 ∧ i = 10) → (c < 120 ∨ 132 < c) → D.1 c i = M.1 c i := fun c i h1 h2 h3 h4 => by rw [hK.1 _ _ h1, zw_ne (by omega)]; unfold mBs; rw [zw_ne (by omega)]; exact hcl c i h4
  have hD0 : D.1 0 10 = M.1 0 10 + nI 1 := by rw [hK.1 _ _ (by unfold mFrS; omega), zw_ne (by omega)]; unfold mBs; rw [zw_same, hcl _ _ (by omega)]
  have eM : mBad true w (nI 0) D = zw (zw D 300 0 w) 302 0 (D.1 302 0 + nI 1) := by unfold mBad; rw [if_pos ⟨rfl, e0⟩]; rfl
  rw [eM]
  refine ⟨hk _ (zIg_same hg ?_ ?_ ?_ ?_ ?_ ?_ (fun j => ⟨?_, ?_⟩)) ⟨?_, ?_⟩ (fun c k h => ?_), ?_⟩
  · rw [zw_ne (by omega), zw_ne (by omega)]; exact hD _ _ (by unfold mFrS; omega) (by omega) (by omega) (by omega)
  · rw [zw_ne (by omega), zw_ne (by omega)]; exact hD _ _ (by unfold mFrS; omega) (by omega) (by omega) (by omega)
  · rw [zw_ne (by omega), zw_ne (by omega)]; exact hD _ _ (by unfold mFrS; omega) (by omega) (by omega) (by omega)
  · rw [zw_ne (by omega), zw_ne (by omega)]; exact hD _ _ (by unfold mFrS; omega) (by omega) (by omega) (by omega)
  · rw [zw_ne (by omega), zw_ne (by omega)]; exact hD _ _ (by unfold mFrS; omega) (by omega) (by omega) (by omega)
  · rw [zw_ne (by omega), zw_ne (by omega)]; exact hD _ _ (by unfold mFrS; omega) (by omega) (by omega) (by omega)
  · rw [zw_ne (by omega), zw_ne (by omega)]; exact hD _ _ (by unfold mFrS; omega) (by omega) (by omega) (by omega)
  · rw [zw_ne (by omega), zw_ne (by omega)]; exact hD _ _ (by unfold mFrS; omega) (by omega) (by omega) (by omega)
  · rw [zw_ne (by omega), zw_ne (by omega), zw_same, hD0, hD _ _ (by unfold mFrS; omega) (by omega) (by omega) (by omega), hc.1]
  · rw [zw_ne (by omega), zw_ne (by omega), zw_ne (by omega), zw_ne (by omega), hD _ _ (by unfold mFrS; omega) (by omega) (by omega) (by omega), hD _ _ (by unfold mFrS; omega) (by omega) (by omega) (by omega)]; exact hc.2
  · unfold zKp at h
    rw [zw_ne (by omega), zw_ne (by omega)]; exact hD _ _ (by unfold mFrS; omega) (by omega) (by omega) (by omega)
  · rw [zw_ne (by omega)]; exact zw_same
theorem zKeeps.ba (hg : zIg M) (hc : zIc M) (hk : zKeeps I M) {R D : zM} {w : Int32} (hcl : ∀ c i, c < 120 ∨ 132 < c → R.1 c i = M.1 c i) (hK : kS (m0 (mBa R)) D) : I (mBad true w (nI 1) D) ∧ (mBad true w (nI 1) D).1 300 0 = w := by
  have e0 : D.1 300 0 = 0 := by rw [hK.1 _ _ (by unfold mFrS; omega)]; exact zw_same
  have hD : ∀ c i, ¬ mFrS c i → ¬ (c = 300 ∧ i = 0) → ¬ (c = 0 ∧ i = 11) → (c < 120 ∨ 132 < c) → D.1 c i = M.1 c i := fun c i h1 h2 h3 h4 => by rw [hK.1 _ _ h1, zw_ne (by omega)]; unfold mBa; rw [zw_ne (by omega)]; exact hcl c i h4
  have hD0 : D.1 0 11 = M.1 0 11 + nI 1 := by rw [hK.1 _ _ (by unfold mFrS; omega), zw_ne (by omega)]; unfold mBa; rw [zw_same, hcl _ _ (by omega)]
  have eM : mBad true w (nI 1) D = zw (zw D 300 0 w) 302 1 (D.1 302 1 + nI 1) := by unfold mBad; rw [if_pos ⟨rfl, e0⟩]; rfl
  rw [eM]
  refine ⟨hk _ (zIg_same hg ?_ ?_ ?_ ?_ ?_ ?_ (fun j => ⟨?_, ?_⟩)) ⟨?_, ?_⟩ (fun c k h => ?_), ?_⟩
  · rw [zw_ne (by omega), zw_ne (by omega)]; exact hD _ _ (by unfold mFrS; omega) (by omega) (by omega) (by omega)
  · rw [zw_ne (by omega), zw_ne (by omega)]; exact hD _ _ (by unfold mFrS; omega) (by omega) (by omega) (by omega)
  · rw [zw_ne (by omega), zw_ne (by omega)]; exact hD _ _ (by unfold mFrS; omega) (by omega) (by omega) (by omega)
  · rw [zw_ne (by omega), zw_ne (by omega)]; exact hD _ _ (by unfold mFrS; omega) (by omega) (by omega) (by omega)
  · rw [zw_ne (by omega), zw_ne (by omega)]; exact hD _ _ (by unfold mFrS; omega) (by omega) (by omega) (by omega)
  · rw [zw_ne (by omega), zw_ne (by omega)]; exact hD _ _ (by unfold mFrS; omega) (by omega) (by omega) (by omega)
  · rw [zw_ne (by omega), zw_ne (by omega)]; exact hD _ _ (by unfold mFrS; omega) (by omega) (by omega) (by omega)
  · rw [zw_ne (by omega), zw_ne (by omega)]; exact hD _ _ (by unfold mFrS; omega) (by omega) (by omega) (by omega)
  · rw [zw_ne (by omega), zw_ne (by omega), zw_ne (by omega), zw_ne (by omega), hD _ _ (by unfold mFrS; omega) (by omega) (by omega) (by omega), hD _ _ (by unfold mFrS; omega) (by omega) (by omega) (by omega)]; exact hc.1
  · rw [zw_ne (by omega), zw_ne (by omega), zw_same, hD0, hD _ _ (by unfold mFrS; omega) (by omega) (by omega) (by omega), hc.2]
  · unfold zKp at h
    rw [zw_ne (by omega), zw_ne (by omega)]; exact hD _ _ (by unfold mFrS; omega) (by omega) (by omega) (by omega)
  · rw [zw_ne (by omega)]; exact zw_same
theorem mIn_q {k : Int32} {q : Nat} (hq : q ≤ 7) : mIn k (nI 0) (nI q - nI 1) = zmem k q := by
  rcases Nat.eq_zero_or_pos q with h | h
  · subst h
    unfold mIn zmem
    have e : (nI 0 - nI 1 : Int32) = -1 := by decide
    rw [e]
    by_cases h0 : k < 0
    · have : ¬ nI 0 ≤ k := fun e => absurd h0 (Int32.not_lt.mpr e)
      simp [this, h0]
    · have h1 : nI 0 ≤ k := Int32.not_lt.mp h0
      have h2 : ¬ k ≤ -1 := fun e => by
        have g1 := Int32.le_iff_toInt_le.mp e
        have g2 := Int32.le_iff_toInt_le.mp h1
        rw [nI_toInt (by decide)] at g2
        have g3 : (-1 : Int32).toInt = -1 := by decide
        omega
      simp [h1, h2]
  · exact mIn_mem h (by omega)
theorem op_taken (hst : l.stackTraces = false) (hg : zIg M) (hc : zIc M) (hp : zIp M) (hk : zKeeps I M) (v1 v2 v3 v4 : Int32) : opI l G I yL_taken cL_taken 7 [(0, 14, 17, 19), (0, 14, 21, 13)] yX11_taken cX11_taken 6 [.int v1, .int v2, .int v3, .int v4] M := by
  obtain ⟨lc, n, t, cn, lb, hP⟩ := zPl_of hg hp
  obtain ⟨a1, a2, a3, a4, a5, a6, a7, a8, a9, b1, b2, b3, b4⟩ := id hP
  cases hm : zmem v1 n with
  | false => exact opI_bs hg hc hk (by decide) (by decide) (zh_takenS l G M (mBs M) v1 v2 v3 v4 (zf_takenX l G M hst n v1 v2 v3 v4 a4 a1.2 hm)) (by decide) (zc_mtakenX l G (mBs M) n v1 v2 v3 v4 (by simp [mBs, zw_at, a5]) a1.2 (by omega) hm)
  | true =>
    obtain ⟨j, hj, rfl⟩ := zmem_ex hm (by omega)
    cases hm2 : zmem v2 n with
    | false => exact opI_bs hg hc hk (by decide) (by decide) (zh_takenS l G M (mBs M) (nI j) v2 v3 v4 (zf_takenZ l G M hst n j v2 v3 v4 a4 a1.2 hj hm2)) (by decide) (zc_mtakenZ l G (mBs M) n j v2 v3 v4 (by simp [mBs, zw_at, a5]) a1.2 (by omega) hj hm2)
    | true =>
      obtain ⟨i, hi, rfl⟩ := zmem_ex hm2 (by omega)
      obtain ⟨R, hR⟩ : ∃ R, R = sPlay 120 40 lc n t j cn M := ⟨_, rfl⟩
      obtain ⟨q, hq, eq⟩ := sPlay_k7 120 lc n t j cn M i (by omega)
      have eq2 : R.1 125 i = nI q := by rw [hR]; exact eq
      cases hm3 : zmem v3 q with
      | false =>
        obtain ⟨hcl, hln, p1, p2, p3, p4, hK⟩ := sgBoth hP hj hR (B := m0 (mBs R)) (fun c i h1 _ h => by rw [zw_ne (by omega)]; unfold mBs; rw [zw_ne (by omega)])
        have e : q = mTk9 (mSigns j n (zMn cn lb) t (m0 (mBs R))) i := nI_inj (by omega) (by have := (p4 i (by omega)).2; omega) (eq2.symm.trans (p4 i (by omega)).1)
        have hC := zf_takenK l G M hst lc n t cn j i q v3 v4 a4 a1.2 a6 a2 b1 a3 b2 hj hi eq hq hm3
        rw [← hR] at hC
        have hbs : ∀ c k, c ≠ 0 → (mBs R).1 c k = R.1 c k := fun c k h => by unfold mBs; rw [zw_ne (by omega)]
        obtain ⟨k1, k2⟩ := zKeeps.bs (w := nI 1) hg hc hk hcl hK
        exact ⟨1, 4, 0, 0, nI 0, mBs R, _, by decide, by decide, by decide, by decide, zh_takenS l G M (mBs R) (nI j) (nI i) v3 v4 hC, zCk.of (zc_mtakenK l G (mBs R) n t j i v3 v4 (zMn cn lb) (by rw [hbs _ _ (by decide), hcl _ _ (by omega)]; exact a5) a1.2 (by omega) (by rw [hbs _ _ (by decide), hcl _ _ (by omega)]; exact a7) a2 hj hi (zIl_ln b4 (fun i => by rw [hbs _ _ (by decide)]; exact hcl _ _ (by omega))) (by rw [← e, mIn_q hq]; exact hm3)), k2, fun e => absurd e (by decide), k1⟩
      | true =>
        obtain ⟨k, hk9, rfl⟩ := zmem_ex hm3 (by omega)
        cases hw : mIn v4 (nI 0) (nI 1) with
        | false =>
          obtain ⟨hcl, hln, p1, p2, p3, p4, hK⟩ := sgBoth hP hj hR (B := m0 (mBa R)) (fun c i h1 _ h => by rw [zw_ne (by omega)]; unfold mBa; rw [zw_ne (by omega)])
          have e : q = mTk9 (mSigns j n (zMn cn lb) t (m0 (mBa R))) i := nI_inj (by omega) (by have := (p4 i (by omega)).2; omega) (eq2.symm.trans (p4 i (by omega)).1)
          have hC := zf_takenW l G M hst lc n t cn j i k q v4 a4 a1.2 a6 a2 b1 a3 b2 hj hi eq hq hk9 hw
          rw [← hR] at hC
          have hba : ∀ c k, c ≠ 0 → (mBa R).1 c k = R.1 c k := fun c k h => by unfold mBa; rw [zw_ne (by omega)]
          obtain ⟨k1, k2⟩ := zKeeps.ba (w := nI 2) hg hc hk hcl hK
          exact ⟨2, 4, 0, 0, nI 0, mBa R, _, by decide, by decide, by decide, by decide, zh_takenI l G M (mBa R) (nI j) (nI i) (nI k) v4 hC, zCk.of (zc_mtakenW l G (mBa R) n t j i k v4 (zMn cn lb) (by rw [hba _ _ (by decide), hcl _ _ (by omega)]; exact a5) a1.2 (by omega) (by rw [hba _ _ (by decide), hcl _ _ (by omega)]; exact a7) a2 hj hi (zIl_ln b4 (fun i => by rw [hba _ _ (by decide)]; exact hcl _ _ (by omega))) hw (by rw [← e]; exact hk9)), k2, fun e => absurd e (by decide), k1⟩
        | true =>
          obtain ⟨w, -, hw9, rfl⟩ := mIn_ex hw (by decide) (by decide)
          have hC := zf_taken l G M lc n t cn j i k w q a4 a1.2 a6 a2 b1 a3 b2 hj hi eq hq hk9 (by omega)
          rw [← hR] at hC
          generalize hV : (if w = 0 then R.1 (120 + 1 + 8) (i * 7 + k) else R.1 (120 + 1 + 9) (i * 7 + k)) = V at hC
          obtain ⟨hcl, hln, p1, p2, p3, p4, hK⟩ := sgBoth hP hj hR (B := m0 (zwL R 220 0 V.toInt64)) (fun c i _ _ h => zw_ne (by omega))
          have e : q = mTk9 (mSigns j n (zMn cn lb) t (m0 (zwL R 220 0 V.toInt64))) i := nI_inj (by omega) (by have := (p4 i (by omega)).2; omega) (eq2.symm.trans (p4 i (by omega)).1)
          have h2 := zc_mtaken l G (zwL R 220 0 V.toInt64) n t j i k w (zMn cn lb) (by rw [zwL_1, hcl _ _ (by omega)]; exact a5) a1.2 (by omega) (by rw [zwL_1, hcl _ _ (by omega)]; exact a7) a2 hj hi (by omega) (zIl_ln b4 (fun i => by rw [zwL_1]; exact hcl _ _ (by omega))) (by rw [← e]; exact hk9)
          obtain ⟨k1, k2, k3⟩ := zKeeps.sg hg hc hk hcl hK
          obtain ⟨g1, g2, g3, g4⟩ := (p1.1 i (by omega)).2.1 k (by rw [← e]; exact hk9)
          rw [show (1000 + 16 * 34 + i : Nat) = 1544 + i by omega, show (1000 + 16 * 35 + i : Nat) = 1560 + i by omega, ← g1, ← g2] at h2
          rw [show (if w = 0 then R.1 129 (i * 7 + k) else R.1 130 (i * 7 + k)) = V from hV] at h2
          exact ⟨0, 4, 0, 0, V, _, _, by decide, by decide, by decide, by decide, zh_taken l G M _ (nI j) (nI i) (nI k) (nI w) _ hC, zCk.of h2, k2, fun _ => k3, k1⟩
end zSign6
