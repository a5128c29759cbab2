section zAsk
variable {n c t : Nat} {M : zM}
theorem m1_lt : ∀ n, n < 8 → (-1 : Int32) < nI n := by decide
theorem m1_nlt : ¬ (-1 : Int32) < -1 := by decide
theorem nI_nm1 {i : Nat} (h : i < 2 ^ 31) : ¬ nI i < -1 := fun q => by
  have h1 := Int32.lt_iff_toInt_lt.mp q
  rw [nI_toInt h, show (-1 : Int32).toInt = -1 by decide] at h1
  omega
theorem zlen_b {i : Nat} (hi : i < 7) : zlen (1 + i) = 2 := by
  unfold zlen
  rw [if_neg (by omega), if_pos (by omega)]
theorem zlen_d {i j : Nat} : zlen (8 + 7 * i + j) = 3 := by
  unfold zlen
  rw [if_neg (by omega), if_neg (by omega)]
theorem mTold_iff {a b d : Int32} : mTold n c t a b d = true ↔ a = nI c ∧ ¬ b < -1 ∧ ¬ d < -1 ∧ ¬ (b = -1 ∧ ¬ d = -1) ∧ b < nI n ∧ d < nI n ∧ mPath n c (mPn b d) = true ∧ zlen (mPn b d) ≤ t + 1 := by
  unfold mTold
  simp only [Bool.and_eq_true, Bool.not_eq_true', decide_eq_true_eq, decide_eq_false_iff_not, Bool.and_eq_false_iff, Bool.not_eq_false']
  constructor
  · rintro ⟨⟨⟨⟨⟨⟨⟨h1, h2⟩, h3⟩, h4⟩, h5⟩, h6⟩, h7⟩, h8⟩
    exact ⟨h1, h2, h3, fun q => h4.elim (fun z => z q.1) (fun z => q.2 z), h5, h6, h7, h8⟩
  · rintro ⟨h1, h2, h3, h4, h5, h6, h7, h8⟩
    refine ⟨⟨⟨⟨⟨⟨⟨h1, h2⟩, h3⟩, ?_⟩, h5⟩, h6⟩, h7⟩, h8⟩
    by_cases q : b = -1
    · exact Or.inr (Classical.byContradiction (fun z => h4 ⟨q, z⟩))
    · exact Or.inl q
/-- the path that is told, as both find it -/
theorem oPof_yes (hn : 3 ≤ n ∧ n ≤ 7) (hc : c < n) (h60 : M.1 60 0 = nI c) (hL : orL 60 n c M) {a b d : Int32} (hT : mTold n c t a b d = true) : oPof 60 n t M a b d = nI (mPn b d) ∧ mPn b d < 57 ∧ mPath n c (mPn b d) = true ∧ zlen (mPn b d) ≤ t + 1 ∧ mPo b d = nI (mPn b d) := by
  obtain ⟨h1, h2, h3, h4, h5, h6, h7, h8⟩ := mTold_iff.mp hT
  obtain ⟨p1, p2⟩ := mPo_nI hn.2 h2 h3 h5 h6
  refine ⟨?_, p2, h7, h8, p1⟩
  unfold oPof
  rw [h60, if_neg (fun q => q.elim (nI_m1 (by omega)) (fun z => z h1))]
  unfold mPn at h7 h8 p2 ⊢
  by_cases hb : b = -1
  · have hd : d = -1 := Classical.byContradiction (fun z => h4 ⟨hb, z⟩)
    rw [if_pos hb, if_pos hd, if_pos hb]
  · obtain ⟨q1, q2⟩ := not_m1 h2 hb h5 (by omega)
    rw [if_neg hb] at h7 h8 p2 ⊢
    rw [if_neg hb]
    have hb0 : ¬ b < 0 := by rw [q1]; exact nI_pos (by omega)
    by_cases hd : d = -1
    · rw [if_pos hd] at h7 h8 p2 ⊢
      rw [if_pos hd]
      have h9 := zlen_b (i := zN b) (by omega)
      rw [if_neg (by rintro (z | z | z); omega; exact hb0 z; exact z h5), hL.path hn hc (show 1 + b.toNatClampNeg < 57 from p2), if_pos (show mPath n c (1 + b.toNatClampNeg) = true from h7)]
      rfl
    · rw [if_neg hd] at h7 h8 p2 ⊢
      rw [if_neg hd]
      obtain ⟨q3, q4⟩ := not_m1 h3 hd h6 (by omega)
      have hd0 : ¬ d < 0 := by rw [q3]; exact nI_pos (by omega)
      have h9 := zlen_d (i := zN b) (j := zN d)
      rw [if_neg (by rintro (z | z | z); omega; exact hb0 z; exact z h5), if_neg (by rintro (z | z | z); omega; exact hd0 z; exact z h6), hL.path hn hc (show 8 + 7 * b.toNatClampNeg + d.toNatClampNeg < 57 from p2), if_pos (show mPath n c (8 + 7 * b.toNatClampNeg + d.toNatClampNeg) = true from h7)]
      rfl
theorem oPof_no (hn : 3 ≤ n ∧ n ≤ 7) (hc : c < n) (h60 : M.1 60 0 = nI c) (hL : orL 60 n c M) {a b d : Int32} (hT : mTold n c t a b d = false) : oPof 60 n t M a b d = -1 := by
  have hF : ¬ (a = nI c ∧ ¬ b < -1 ∧ ¬ d < -1 ∧ ¬ (b = -1 ∧ ¬ d = -1) ∧ b < nI n ∧ d < nI n ∧ mPath n c (mPn b d) = true ∧ zlen (mPn b d) ≤ t + 1) := fun h => by
    rw [mTold_iff.mpr h] at hT
    cases hT
  unfold oPof
  rw [h60]
  by_cases ha : a = nI c
  · rw [if_neg (fun q => q.elim (nI_m1 (by omega)) (fun z => z ha))]
    by_cases hb : b = -1
    · rw [if_pos hb]
      by_cases hd : d = -1
      · exfalso
        refine hF ⟨ha, by rw [hb]; exact m1_nlt, by rw [hd]; exact m1_nlt, fun z => z.2 hd, by rw [hb]; exact m1_lt n (by omega), by rw [hd]; exact m1_lt n (by omega), ?_, ?_⟩
        · unfold mPn; rw [if_pos hb]; rfl
        · unfold mPn; rw [if_pos hb]; show 1 ≤ t + 1; omega
      · rw [if_neg hd]
    · rw [if_neg hb]
      by_cases h1 : t < 1 ∨ b < 0 ∨ ¬ b < nI n
      · rw [if_pos h1]
      · rw [if_neg h1]
        have hb0 : ¬ b < 0 := fun z => h1 (Or.inr (Or.inl z))
        have hbn : b < nI n := Classical.byContradiction (fun z => h1 (Or.inr (Or.inr z)))
        obtain ⟨i, hi, rfl⟩ := nI_of hb0
        have hin : i < n := (nI_ltI hi (by omega)).mp hbn
        by_cases hd : d = -1
        · rw [if_pos hd, show (nI i).toNatClampNeg = i from nI_clamp hi, hL.path hn hc (by omega)]
          rw [if_neg (fun hp => hF ⟨ha, nI_nm1 hi, by rw [hd]; exact m1_nlt, fun z => hb z.1, hbn, by rw [hd]; exact m1_lt n (by omega), ?_, ?_⟩)]
          · unfold mPn; rw [if_neg hb, if_pos hd, zN_nI hi]; exact hp
          · unfold mPn; rw [if_neg hb, if_pos hd, zN_nI hi, zlen_b (by omega)]; omega
        · rw [if_neg hd]
          by_cases h2 : t < 2 ∨ d < 0 ∨ ¬ d < nI n
          · rw [if_pos h2]
          · rw [if_neg h2]
            have hd0 : ¬ d < 0 := fun z => h2 (Or.inr (Or.inl z))
            have hdn : d < nI n := Classical.byContradiction (fun z => h2 (Or.inr (Or.inr z)))
            obtain ⟨j, hj, rfl⟩ := nI_of hd0
            have hjn : j < n := (nI_ltI hj (by omega)).mp hdn
            rw [show (nI i).toNatClampNeg = i from nI_clamp hi, show (nI j).toNatClampNeg = j from nI_clamp hj, hL.path hn hc (by omega)]
            rw [if_neg (fun hp => hF ⟨ha, nI_nm1 hi, nI_nm1 hj, fun z => hb z.1, hbn, hdn, ?_, ?_⟩)]
            · unfold mPn; rw [if_neg hb, if_neg hd, zN_nI hi, zN_nI hj]; exact hp
            · unfold mPn; rw [if_neg hb, if_neg hd, zN_nI hi, zN_nI hj, zlen_d]; omega
  · rw [if_pos (Or.inr ha)]
theorem oPof_m1 {a b d : Int32} (h60 : M.1 60 0 = -1) : oPof 60 n t M a b d = -1 := by
  unfold oPof
  rw [if_pos (Or.inl h60)]
theorem oHears_has (hn : 3 ≤ n ∧ n ≤ 7) (hc : c < n) (hL : orL 60 n c M) {m p : Nat} (hm : m < n) (hp : p < 57) (hpp : mPath n c p = true) (hpl : zlen p ≤ t + 1) : oHears 60 c M m p = mHas n c t m p := by
  unfold oHears mHas
  rw [hL.on hn hc hp (by omega) hpp, hpp, decide_eq_true hpl]
  by_cases e : m = c
  · rw [e, isin_c, decide_eq_true (rfl : c = c)]
    cases h0 : decide (0 < p) with
    | false => rfl
    | true =>
      have hp0 := of_decide_eq_true h0
      have h9 := (path_q n (by omega) c (by omega) p hp hn.1 hc hpp (by have := zlen_1 (q := p); have := zlen_pos p; omega)).2.2.2.2.2.2
      rw [decide_eq_false h9]
      rfl
  · rw [decide_eq_false e]
    rfl
theorem mDec_same {M2 : zM} {cut m : Nat} (h1 : M2.1 300 26 = M.1 300 26) (h2 : M2.1 300 24 = M.1 300 24) (h3 : ∀ j, M2.1 (1000 + 16 * 20 + m) j = M.1 (1000 + 16 * 20 + m) j) : mDec M2 n c cut m = mDec M n c cut m := by
  unfold mDec
  by_cases e : m = c
  · rw [if_pos e, if_pos e]; exact h1
  · rw [if_neg e, if_neg e]
    exact mRs_same h3 h2 2 0
/-- what the reference begins an asked call with -/
theorem m0W {W : Int64} {a j : Nat} (h : ¬ (a = 300 ∧ j = 0)) : (m0 (zwL M 220 0 W)).1 a j = M.1 a j := by rw [zw_ne (by omega)]; rfl
theorem zcom_congr {q q2 : Nat → Bool} {v v2 : Nat → Int32} : ∀ n, (∀ i, i < n → q i = q2 i) → (∀ i, i < n → q i = true → v i = v2 i) → zcom q v n = zcom q2 v2 n
  | 0, _, _ => rfl
  | n + 1, h1, h2 => by
    show (zcom q v n && (!q n || (match zfst q (n + 1) with
      | some a => v n == v a
      | none => true))) = (zcom q2 v2 n && (!q2 n || (match zfst q2 (n + 1) with
      | some a => v2 n == v2 a
      | none => true)))
    rw [zcom_congr n (fun i hi => h1 i (by omega)) (fun i hi => h2 i (by omega)), h1 n (by omega), zfst_congr (n + 1) (fun i hi => h1 i hi)]
    cases hq : q2 n with
    | false => rfl
    | true =>
      cases hz : zfst q2 (n + 1) with
      | none => rfl
      | some a =>
        have ha := zfst_lt hz
        have hqa := zfst_true hz
        simp only []
        rw [h2 n (by omega) (by rw [h1 n (by omega)]; exact hq), h2 a ha (by rw [h1 a ha]; exact hqa)]
/-- whether all resolve a path alike -/
theorem oCom_mCom (hn : 3 ≤ n ∧ n ≤ 7) (hc : c < n) (h : zTr n c t M) {M2 : zM} (hM2 : ∀ a j, ¬ (a = 300 ∧ j = 0) → M2.1 a j = M.1 a j) {p : Nat} (hp : p < 57) (hpp : mPath n c p = true) (hpl : zlen p ≤ t + 1) : oCom 60 n p M = mCom M2 n c t p := by
  obtain ⟨t1, t2, t3, t4, t5, t6, t7, t8, t9, u1, u2, u3, u4, u5⟩ := h
  unfold oCom mCom
  have hq : ∀ i, i < n → oCq 60 M p i = mCq M2 c p i := fun i hi => by
    unfold oCq mCq mTrue
    rw [t1.on hn hc hp (by omega) hpp, u2 i hi, hM2 _ _ (by omega)]
  refine zcom_congr n hq (fun i hi hqi => ?_)
  rw [hq i hi] at hqi
  unfold mCq at hqi
  have hin : mIsIn c p i = false := by
    rw [Bool.and_eq_true, Bool.not_eq_true'] at hqi
    exact hqi.2
  have hic : i ≠ c := fun e => by rw [e, isin_c] at hin; cases hin
  show M.1 75 (i * 57 + p) = mRs M2 n c i (t + 1) 2 p
  rw [mRs_same (fun j => hM2 _ _ (by omega)) (hM2 _ _ (by omega))]
  exact (t6 i p hi hp (mHas_iff.mpr ⟨hpp, hic, hpl, Or.inl hin⟩)).2.2.2
theorem zcnt_range {P : Nat → Bool} {a b N : Nat} (hab : a ≤ b) (hbN : b ≤ N) (h1 : ∀ i, i < a → P i = false) (h2 : ∀ i, b ≤ i → i < N → P i = false) : zcnt P N = zcnt (fun i => P (a + i)) (b - a) := by
  have e1 : ∀ k, zcnt P (a + k) = zcnt (fun i => P (a + i)) k := fun k => by
    induction k with
    | zero => exact zcnt_none a h1
    | succ k ih =>
      show zcnt P (a + k) + (if P (a + k) then 1 else 0) = _
      rw [ih]
      rfl
  have e2 : ∀ k, b + k ≤ N → zcnt P (b + k) = zcnt P b := fun k => by
    induction k with
    | zero => exact fun _ => rfl
    | succ k ih =>
      intro hk
      show zcnt P (b + k) + (if P (b + k) then 1 else 0) = _
      rw [ih (by omega), h2 (b + k) (by omega) (by omega)]
      rfl
  have h3 := e2 (N - b) (by omega)
  rw [show b + (N - b) = N by omega] at h3
  have h4 := e1 (b - a)
  rw [show a + (b - a) = b by omega] at h4
  rw [h3, h4]
theorem zall_iff {P : Nat → Bool} : ∀ n, zall P n = true ↔ ∀ k, k < n → P k = true
  | 0 => ⟨fun _ k h => absurd h (Nat.not_lt_zero _), fun _ => rfl⟩
  | n + 1 => by
    show (zall P n && P n) = true ↔ _
    rw [Bool.and_eq_true, zall_iff n]
    constructor
    · rintro ⟨h1, h2⟩ k hk
      rcases Nat.lt_or_ge k n with h | h
      · exact h1 k h
      · rw [show k = n by omega]; exact h2
    · intro h
      exact ⟨fun k hk => h k (by omega), h n (by omega)⟩
variable {l : Launch} {G : zG}
theorem zInv.t0 (h : zInv M) (h1 : M.1 60 0 = -1) : zIt0 M := by
  rcases h.2.2.2.2.2 with q | ⟨n, t, c, a1, -, a3, -, -, a6, -⟩
  · exact q
  · rw [h1] at a6
    exact absurd a6.symm (nI_m1 (by omega))
/-- the trial that stands, in the group's own numbers -/
theorem zIt1.at (hg : zIg M) (h : zIt1 M) : ∃ n t c, (3 ≤ n ∧ n ≤ 7) ∧ t ≤ 2 ∧ c < n ∧ M.1 40 0 = nI n ∧ M.1 300 9 = nI n ∧ M.1 40 1 = nI t ∧ M.1 300 10 = nI t ∧ M.1 60 0 = nI c ∧ M.1 300 17 = nI c ∧ M.1 60 7 = nI n ∧ M.1 60 8 = nI t ∧ zTr n c t M := by
  obtain ⟨n, t, c, a1, a2, a3, a4, a5, a6, a7, a8, a9, hT⟩ := h
  obtain ⟨n1, t1, g1, g2, b1, b2, b3, b4, -⟩ := hg
  have e1 : n1 = n := nI_inj (by omega) (by omega) (b2.symm.trans a4)
  have e2 : t1 = t := nI_inj (by omega) (by omega) (b4.symm.trans a5)
  subst e1 e2
  exact ⟨n1, t1, c, a1, a2, a3, b1, a4, b3, a5, a6, a7, a8, a9, hT⟩
theorem op_heard (hst : l.stackTraces = false) (hI : zInv M) (v1 v2 v3 v4 v5 : Int32) : opI l G zInv yL_heard cL_heard 8 [(0, 16, 19, 19), (0, 16, 23, 13)] yX11_heard cX11_heard 8 [.int v1, .int v2, .int v3, .int v4, .int v5] M := by
  obtain ⟨hg, hc, -, -, -, ht⟩ := id hI
  have hk := hI.keeps
  obtain ⟨n, t, a1, a2, a3, a4, a5, a6, -⟩ := id hg
  cases hm : zmem v1 n with
  | false => exact opI_bs hg hc hk (by decide) (by decide) (zh_heardS l G M (mBs M) v1 v2 v3 v4 v5 (zf_heardX l G M hst n v1 v2 v3 v4 v5 a3 a1.2 hm)) (by decide) (zc_mheardX l G (mBs M) n v1 v2 v3 v4 v5 (by simp [mBs, zw_at, a4]) a1.2 (by omega) hm)
  | true =>
    obtain ⟨j, hj, rfl⟩ := zmem_ex hm (by omega)
    rcases ht with ht | ht
    · obtain ⟨q1, q2, q3, q4, q5, q6, q7, n6, t6, q8, q9, qa, qb⟩ := ht
      exact opI_bs hg hc hk (by decide) (by decide) (zh_heardS l G M (mBs M) (nI j) v2 v3 v4 v5 (zf_heardN l G M hst n n6 t6 j v2 v3 v4 v5 a3 a1.2 hj q8 q9 qa qb (oPof_m1 q1))) (by decide) (zc_mheardN l G (mBs M) n j v2 v3 v4 v5 (by simp [mBs, zw_at, a4]) a1.2 (by omega) (by simp [mBs, zw_at, q2]) hj)
    · obtain ⟨n, t, c, d1, d2, d3, d4, d5, d6, d7, d8, d9, e1, e2, hT⟩ := ht.at hg
      have en := nI_inj (by omega) (by omega) (a3.symm.trans d4)
      subst en
      have b9 : ∀ a k, ¬ (a = 0 ∧ k = 10) → (mBs M).1 a k = M.1 a k := fun a k h => by unfold mBs; rw [zw_ne (by omega)]
      have b8 : ∀ a k, ¬ (a = 0 ∧ k = 11) → (mBa M).1 a k = M.1 a k := fun a k h => by unfold mBa; rw [zw_ne (by omega)]
      cases hTo : mTold n c t v2 v3 v4 with
      | false => exact opI_bs hg hc hk (by decide) (by decide) (zh_heardS l G M (mBs M) (nI j) v2 v3 v4 v5 (zf_heardN l G M hst n n t j v2 v3 v4 v5 a3 a1.2 hj e1 a1.2 e2 d2 (oPof_no d1 d3 d8 hT.1 hTo))) (by decide) (zc_mheardT l G (mBs M) n c t j v2 v3 v4 v5 (by rw [b9 _ _ (by omega)]; exact d5) a1.2 (by omega) (by rw [b9 _ _ (by omega)]; exact d7) d2 (by rw [b9 _ _ (by omega)]; exact d9) (by omega) hj hTo)
      | true =>
        obtain ⟨p1, p2, p3, p4, p5⟩ := oPof_yes d1 d3 d8 hT.1 hTo
        generalize mPn v3 v4 = p at *
        have hhe := oHears_has (t := t) d1 d3 hT.1 hj p2 p3 p4
        cases hH : mHas n c t j p with
        | false => exact opI_bs hg hc hk (by decide) (by decide) (zh_heardS l G M (mBs M) (nI j) v2 v3 v4 v5 (zf_heardH l G M hst n n t c p j v2 v3 v4 v5 a3 a1.2 hj e1 a1.2 e2 d2 d8 (by omega) p1 p2 (hhe.trans hH))) (by decide) (zc_mheardH l G (mBs M) n c t j p v2 v3 v4 v5 (by rw [b9 _ _ (by omega)]; exact d5) a1.2 (by omega) (by rw [b9 _ _ (by omega)]; exact d7) d2 (by rw [b9 _ _ (by omega)]; exact d9) (by omega) hj hTo p5 p2 hH)
        | true =>
          cases hw : mIn v5 (nI 0) (nI 2) with
          | false => exact opI_ba hg hc hk (by decide) (by decide) (zh_heardI l G M (mBa M) (nI j) v2 v3 v4 v5 (zf_heardK l G M hst n n t c p j v2 v3 v4 v5 a3 a1.2 hj e1 a1.2 e2 d2 d8 (by omega) p1 p2 (hhe.trans hH) hw)) (by decide) (zc_mheardK l G (mBa M) n c t j p v2 v3 v4 v5 (by rw [b8 _ _ (by omega)]; exact d5) a1.2 (by omega) (by rw [b8 _ _ (by omega)]; exact d7) d2 (by rw [b8 _ _ (by omega)]; exact d9) (by omega) hj hTo p5 p2 hH hw)
          | true =>
            obtain ⟨k, -, hk9, rfl⟩ := mIn_ex hw (by decide) (by decide)
            obtain ⟨w1, w2, ⟨g, w3⟩, w4⟩ := hT.2.2.2.2.2.1 j p hj p2 hH
            have hC := zf_heard l G M n n t c p j k v2 v3 v4 g a3 a1.2 hj e1 a1.2 e2 d2 d8 (by omega) p1 p2 (hhe.trans hH) hk9 (w2.trans w3)
            have h2 := fun W => zc_mheard l G (zwL M 220 0 W) n c t j p k v2 v3 v4 d5 a1.2 (by omega) d7 d2 d9 (by omega) hj hTo p5 p2 hH hk9
            have hval : ∀ W : Int64, (if k = 0 then (zwL M 220 0 W).1 (1000 + 16 * 20 + j) p else if k = 1 then (if (zwL M 220 0 W).1 (1000 + 16 * 21 + j) p = 0 then nI 0 else nI 1) else mR (m0 (zwL M 220 0 W)) n c j (t + 1) p) = (if k = 0 then M.1 73 (j * 57 + p) else if k = 1 then zb g else M.1 75 (j * 57 + p)) := fun W => by
              rw [show (zwL M 220 0 W).1 (1000 + 16 * 20 + j) p = M.1 73 (j * 57 + p) from w1.symm, show (zwL M 220 0 W).1 (1000 + 16 * 21 + j) p = zb g from w3, show mR (m0 (zwL M 220 0 W)) n c j (t + 1) p = M.1 75 (j * 57 + p) from (mRs_same (fun i => m0W (by omega)) (m0W (by omega)) 2 p).trans w4.symm]
              congr 2
              cases g <;> rfl
            refine opI_m0 (d := 5) hg hc hk (zh_heard l G M M (nI j) v2 v3 v4 (nI k) _ hC) (by decide) ?_
            have h3 := h2 (if k = 0 then M.1 73 (j * 57 + p) else if k = 1 then zb g else M.1 75 (j * 57 + p)).toInt64
            rw [hval] at h3
            exact h3
end zAsk
