section zRel4
theorem mGrp_c {a b : Int32} {M : zM} {c k : Nat} (h1 : c ≠ 300) (h2 : c ≠ 313) (h3 : c ≠ 1208) : (mGrp a b M).1 c k = M.1 c k := by
  unfold mGrp
  rw [zw_ne (Or.inl h1), zw_ne (Or.inl h1), zw_ne (Or.inl h1), mEmp_c h3, mGv_c h2, zw_ne (Or.inl h1), zw_ne (Or.inl h1), zw_ne (Or.inl h1), zw_ne (Or.inl h1)]
theorem mGrp_3 {a b : Int32} {M : zM} {k : Nat} : (mGrp a b M).1 300 k = if k = 19 then nI 0 else if k = 18 then nI 0 else if k = 17 then -1 else if k = 11 then nI 0 else if k = 10 then b else if k = 9 then a else if k = 0 then nI 0 else M.1 300 k := by
  unfold mGrp
  simp only [zw_at, true_and]
  rw [mEmp_c (by decide), mGv_c (by decide)]
  simp only [zw_at, true_and]
theorem mGv_at {M : zM} {j : Nat} : ∀ k, j < k → (mGv k M).1 313 j = nI 0
  | 0, h => absurd h (Nat.not_lt_zero _)
  | k + 1, h => by
    show (zw (mGv k M) 313 k (nI 0)).1 313 j = _
    by_cases e : j = k
    · subst e; exact zw_same
    · rw [zw_ne (Or.inr e)]; exact mGv_at k (by omega)
theorem mGrp_v {a b : Int32} {M : zM} {j : Nat} (hj : j < 7) : (mGrp a b M).1 313 j = nI 0 := by
  unfold mGrp
  rw [zw_ne (Or.inl (by decide)), zw_ne (Or.inl (by decide)), zw_ne (Or.inl (by decide)), mEmp_c (by decide)]
  exact mGv_at 7 hj
theorem mGrp_l {a b : Int32} {M : zM} {j : Nat} (hj : j < 7) : (mGrp a b M).1 1208 j = -1 := by
  unfold mGrp
  rw [zw_ne (Or.inl (by decide)), zw_ne (Or.inl (by decide)), zw_ne (Or.inl (by decide))]
  exact mEmp_at 0 _ hj
theorem mGrp_2 {a b : Int32} {M : zM} : (mGrp a b M).2 = M.2 := (mEmp_k 0 _).2.trans (mGv_k 7 _).2
theorem zfor_z {a v : Nat} {M : zM} {j : Nat} : ∀ k, j < k → (zfor (fun i M => zw M a i (nI v)) k M).1 a j = nI v
  | 0, h => absurd h (Nat.not_lt_zero _)
  | k + 1, h => by
    show (zw (zfor (fun i M => zw M a i (nI v)) k M) a k (nI v)).1 a j = _
    by_cases e : j = k
    · subst e; exact zw_same
    · rw [zw_ne (Or.inr e)]; exact zfor_z k (by omega)
/-- the class's new group -/
theorem gB_c {lc n t : Nat} {M : zM} {c k : Nat} (h1 : c ≠ 40) (h2 : c ≠ 45) (h3 : c ≠ lc) (h4 : c ≠ lc + 1 + 1) : (gBegin 40 lc n t M).1 c k = M.1 c k := by
  unfold gBegin lClear
  rw [zfor_ne h2, zfor_ne h4, zw_ne (Or.inl h3), zw_ne (Or.inl h1), zw_ne (Or.inl h1), zw_ne (Or.inl h1)]
theorem gB_4 {lc n t : Nat} {M : zM} {k : Nat} (hl : 180 ≤ lc) : (gBegin 40 lc n t M).1 40 k = if k = 2 then nI 0 else if k = 1 then nI t else if k = 0 then nI n else M.1 40 k := by
  unfold gBegin lClear
  rw [zfor_ne (by decide), zfor_ne (by omega), zw_ne (Or.inl (by omega))]
  simp only [zw_at, true_and]
theorem gB_v {lc n t : Nat} {M : zM} {j : Nat} (hj : j < 7) : (gBegin 40 lc n t M).1 45 j = nI 0 := zfor_z 7 hj
theorem gB_l {lc n t : Nat} {M : zM} {j : Nat} (hl : 180 ≤ lc) (hj : j < 7) : (gBegin 40 lc n t M).1 (lc + 1 + 1) j = nI 0 := by
  unfold gBegin lClear
  rw [zfor_ne (by omega)]
  exact zfor_z 7 hj
theorem gB_0 {lc n t : Nat} {M : zM} {j : Nat} (hl : 180 ≤ lc) : (gBegin 40 lc n t M).1 lc j = if j = 0 then nI 0 else M.1 lc j := by
  unfold gBegin lClear
  rw [zfor_ne (by omega), zfor_ne (by omega)]
  simp only [zw_at, true_and]
  rw [if_neg (show ¬ (lc = 40 ∧ j = 2) by omega), if_neg (show ¬ (lc = 40 ∧ j = 1) by omega), if_neg (show ¬ (lc = 40 ∧ j = 0) by omega)]
theorem gB_2 {lc n t : Nat} {M : zM} : (gBegin 40 lc n t M).2 = M.2 := (zfor_w2 7 _).trans (zfor_w2 7 _)
theorem oF_c {M : zM} {c k : Nat} (h : c < 60 ∨ 80 < c) : (oForget 60 M).1 c k = M.1 c k := congrFun ((oForget_fr 60 M).1 c (by omega)) k
theorem oF_0 {M : zM} {k : Nat} : (oForget 60 M).1 60 k = if k = 2 then nI 0 else if k = 1 then nI 0 else if k = 0 then -1 else M.1 60 k := by
  unfold oForget
  rw [zfor_at (fun i M => by rw [zw_ne (by omega), zw_ne (by omega), zw_ne (by omega), zw_ne (by omega), zw_ne (by omega), zw_ne (by omega)])]
  simp only [zw_at, true_and]
theorem zfor_set {f : Nat → zM → zM} {a j : Nat} {v : Int32} {M : zM} (h1 : ∀ M, (f j M).1 a j = v) (h2 : ∀ i M, i ≠ j → (f i M).1 a j = M.1 a j) : ∀ k, j < k → (zfor f k M).1 a j = v
  | 0, h => absurd h (Nat.not_lt_zero _)
  | k + 1, h => by
    show (f k (zfor f k M)).1 a j = v
    by_cases e : k = j
    · subst e; exact h1 _
    · rw [h2 _ _ e]; exact zfor_set h1 h2 k (by omega)
theorem oF_j {M : zM} {j : Nat} (hj : j < 7) : (oForget 60 M).1 64 j = nI 0 ∧ (oForget 60 M).1 76 j = nI 0 ∧ (oForget 60 M).1 65 j = nI 0 ∧ (oForget 60 M).1 66 j = nI 0 ∧ (oForget 60 M).1 67 j = nI 0 ∧ (oForget 60 M).1 77 j = nI 0 := by
  unfold oForget
  refine ⟨zfor_set (fun M => by simp [zw_at]) (fun i M h => by simp [zw_at, Ne.symm h]) 7 hj, zfor_set (fun M => by simp [zw_at]) (fun i M h => by simp [zw_at, Ne.symm h]) 7 hj, zfor_set (fun M => by simp [zw_at]) (fun i M h => by simp [zw_at, Ne.symm h]) 7 hj, zfor_set (fun M => by simp [zw_at]) (fun i M h => by simp [zw_at, Ne.symm h]) 7 hj, zfor_set (fun M => by simp [zw_at]) (fun i M h => by simp [zw_at, Ne.symm h]) 7 hj, zfor_set (fun M => by simp [zw_at]) (fun i M h => by simp [zw_at, Ne.symm h]) 7 hj⟩
variable {l : Launch} {G : zG} {I : zM → Prop} {M : zM}
theorem op_group (hst : l.stackTraces = false) (hg : zIg M) (hc : zIc M) (hr : zIr M) (hp : zIp M) (h67 : ∃ n6 t6 : Nat, M.1 60 7 = nI n6 ∧ n6 ≤ 7 ∧ M.1 60 8 = nI t6 ∧ t6 ≤ 2) (hk : zKeeps I M) (hk2 : ∀ M2, zIg M2 → zIc M2 → zIr M2 → zIp M2 → zIt0 M2 → (∀ c k, 3100 ≤ c → M2.1 c k = M.1 c k) → I M2) (v1 v2 : Int32) : opI l G I yL_group cL_group 5 [(0, 10, 13, 13)] yX11_group cX11_group 4 [.int v1, .int v2] M := by
  cases ha : mIn v1 (nI 3) (nI 7) with
  | false => exact opI_ba hg hc hk (by decide) (by decide) (zh_groupI l G M (mBa M) v1 v2 (zf_groupX l G M hst v1 v2 (by rw [ha]; rfl))) (by decide) (zc_mgroupA l G (mBa M) v1 v2 ha)
  | true =>
    cases hb : mIn v2 (nI 0) (nI 2) with
    | false => exact opI_ba hg hc hk (by decide) (by decide) (zh_groupI l G M (mBa M) v1 v2 (zf_groupX l G M hst v1 v2 (by rw [ha, hb]; rfl))) (by decide) (zc_mgroupB l G (mBa M) v1 v2 ha hb)
    | true =>
      obtain ⟨a, a1, a2, rfl⟩ := mIn_ex ha (by decide) (by decide)
      obtain ⟨b, b1, b2, rfl⟩ := mIn_ex hb (by decide) (by decide)
      obtain ⟨lc, lt, rc, n, cn, lb, p1, p2, p3, p4, p5, p6, p7, p8, p9, q1, q2, q3, q4, q5⟩ := hp
      obtain ⟨s, r1, r2, r3, r4, r5⟩ := hr
      obtain ⟨n6, t6, t1, t2, t3, t4⟩ := h67
      have hl : 180 ≤ lc ∧ lc ≤ 200 := by unfold lyL at p1; omega
      have hlr : 180 ≤ rc ∧ rc ≤ 200 ∧ (lc + 10 ≤ rc ∨ rc + 10 ≤ lc) := by unfold lyL at p1 p3; omega
      generalize hD : (oForget 60 (gBegin 40 lc a b M)) = D
      have e40 : ∀ k, D.1 40 k = if k = 2 then nI 0 else if k = 1 then nI b else if k = 0 then nI a else M.1 40 k := fun k => by rw [← hD, oF_c (by omega)]; exact gB_4 hl.1
      have e60 : ∀ k, D.1 60 k = if k = 2 then nI 0 else if k = 1 then nI 0 else if k = 0 then -1 else M.1 60 k := fun k => by rw [← hD, oF_0, gB_c (by omega) (by omega) (by omega) (by omega)]
      have eo : ∀ c k, (c < 60 ∨ 80 < c) → c ≠ 40 → c ≠ 45 → c ≠ lc → c ≠ lc + 1 + 1 → D.1 c k = M.1 c k := fun c k h1 h2 h3 h4 h5 => by rw [← hD, oF_c h1, gB_c h2 h3 h4 h5]
      have e45 : ∀ j, j < 7 → D.1 45 j = nI 0 := fun j hj => by rw [← hD, oF_c (by omega)]; exact gB_v hj
      have el : ∀ j, j < 7 → D.1 (lc + 1 + 1) j = nI 0 := fun j hj => by rw [← hD, oF_c (by omega)]; exact gB_l hl.1 hj
      have el0 : D.1 lc 0 = nI 0 := by rw [← hD, oF_c (by omega), gB_0 hl.1]; rfl
      have e6 : ∀ j, j < 7 → D.1 64 j = nI 0 ∧ D.1 76 j = nI 0 ∧ D.1 65 j = nI 0 ∧ D.1 66 j = nI 0 ∧ D.1 67 j = nI 0 ∧ D.1 77 j = nI 0 := fun j hj => by rw [← hD]; exact oF_j hj
      have h2 := zc_mgroup l G (zwL D 220 0 (nI (b + 1)).toInt64) (nI a) (nI b) ha hb
      rw [show nI b + nI 1 = nI (b + 1) from nI_inc b 1] at h2
      refine ⟨0, 2, 0, 0, nI (b + 1), _, _, by decide, by decide, by decide, by decide, zh_group l G M _ (nI a) (nI b) _ (by rw [← hD]; exact zf_group l G M lc a b p7 p1 ⟨a1, a2⟩ b2), zCk.of h2, mGrp_3, fun _ => by rw [mGrp_2]; exact zwL_22 (M := D), ?_⟩
      generalize hE : mGrp (nI a) (nI b) (zwL D 220 0 (nI (b + 1)).toInt64) = E
      have f3 : ∀ k, E.1 300 k = if k = 19 then nI 0 else if k = 18 then nI 0 else if k = 17 then -1 else if k = 11 then nI 0 else if k = 10 then nI b else if k = 9 then nI a else if k = 0 then nI 0 else D.1 300 k := fun k => by rw [← hE]; exact mGrp_3
      have fc : ∀ c k, c ≠ 300 → c ≠ 313 → c ≠ 1208 → E.1 c k = D.1 c k := fun c k h1 h2 h3 => by rw [← hE, mGrp_c h1 h2 h3]; rfl
      have fv : ∀ j, j < 7 → E.1 313 j = nI 0 := fun j hj => by rw [← hE]; exact mGrp_v hj
      have fl : ∀ j, j < 7 → E.1 1208 j = -1 := fun j hj => by rw [← hE]; exact mGrp_l hj
      refine hk2 E ⟨a, b, ⟨a1, a2⟩, b2, ?_, ?_, ?_, ?_, ?_, fun j hj => ?_⟩ ⟨?_, ?_⟩ ⟨s, r1, ?_, ?_, ?_, fun j hj => ?_⟩ ⟨lc, lt, rc, a, fun _ => 0, fun _ => false, p1, p2, p3, p4, p5, p6, ?_, ?_, ?_, fun x hx => ?_, fun x hx => ?_, ?_, a2, fun m hm => ?_, ?_, fun m k _ hk9 => absurd hk9 (Nat.not_lt_zero _)⟩ ⟨?_, ?_, ?_, ?_, ?_, ?_, fun j hj => ?_, n6, t6, ?_, t2, ?_, t4⟩ (fun c k h => by rw [fc _ _ (by omega) (by omega) (by omega), eo _ _ (by omega) (by omega) (by omega) (by omega) (by omega)])
      · rw [fc _ _ (by decide) (by decide) (by decide), e40]; rfl
      · rw [f3]; rfl
      · rw [fc _ _ (by decide) (by decide) (by decide), e40]; rfl
      · rw [f3]; rfl
      · rw [fc _ _ (by decide) (by decide) (by decide), e40, f3]; rfl
      · rw [fc _ _ (by decide) (by decide) (by decide), e45 j hj, fv j hj]; exact ⟨rfl, okV_0⟩
      · rw [fc _ _ (by decide) (by decide) (by decide), fc _ _ (by decide) (by decide) (by decide), eo _ _ (by omega) (by decide) (by decide) (by omega) (by omega), eo _ _ (by omega) (by decide) (by decide) (by omega) (by omega)]; exact hc.1
      · rw [fc _ _ (by decide) (by decide) (by decide), fc _ _ (by decide) (by decide) (by decide), eo _ _ (by omega) (by decide) (by decide) (by omega) (by omega), eo _ _ (by omega) (by decide) (by decide) (by omega) (by omega)]; exact hc.2
      · rw [fc _ _ (by decide) (by decide) (by decide), eo _ _ (by omega) (by decide) (by decide) (by omega) (by omega)]; exact r2
      · rw [f3, eo _ _ (by omega) (by decide) (by decide) (by omega) (by omega)]; exact r3
      · rw [fc _ _ (by decide) (by decide) (by decide), f3, eo _ _ (by omega) (by decide) (by decide) (by omega) (by omega), eo _ _ (by omega) (by decide) (by decide) (by omega) (by omega)]; exact r4
      · rw [fc _ _ (by decide) (by decide) (by decide), fc _ _ (by decide) (by decide) (by decide), eo _ _ (by omega) (by decide) (by decide) (by omega) (by omega), eo _ _ (by omega) (by decide) (by decide) (by omega) (by omega)]; exact r5 j hj
      · rw [fc _ _ (by decide) (by decide) (by decide), e40]; exact p7
      · rw [fc _ _ (by decide) (by decide) (by decide), eo _ _ (by omega) (by decide) (by decide) (by omega) (by omega)]; exact p8
      · rw [fc _ _ (by decide) (by decide) (by decide), eo _ _ (by omega) (by decide) (by decide) (by omega) (by omega)]; exact p9
      · rw [fc _ _ (by omega) (by omega) (by omega), fc _ _ (by omega) (by omega) (by omega), eo _ _ (by omega) (by omega) (by omega) (by omega) (by omega), eo _ _ (by omega) (by omega) (by omega) (by omega) (by omega)]; exact q1 x hx
      · rw [fc _ _ (by omega) (by omega) (by omega), fc _ _ (by omega) (by omega) (by omega), eo _ _ (by omega) (by omega) (by omega) (by omega) (by omega), eo _ _ (by omega) (by omega) (by omega) (by omega) (by omega)]; exact q2 x hx
      · rw [fc _ _ (by decide) (by decide) (by decide), e40]; rfl
      · rw [fc _ _ (by omega) (by omega) (by omega), el m hm, fl m hm, fc _ _ (by omega) (by omega) (by omega), el0]
        refine ⟨rfl, Nat.zero_le _, fun _ => rfl, fun _ => rfl, rfl, ?_⟩
        have h9 : ∀ m, m < 7 → bit (nI 0) m = false := by decide
        exact h9 m hm
      · rw [fc _ _ (by omega) (by omega) (by omega), el0]
        have h9 : ∀ k, k < 8 → zLb (fun _ => false) k = nI 0 := by decide
        exact (h9 a (by omega)).symm
      · rw [fc _ _ (by decide) (by decide) (by decide), e60]; rfl
      · rw [f3]; rfl
      · rw [fc _ _ (by decide) (by decide) (by decide), e60]; rfl
      · rw [f3]; rfl
      · rw [fc _ _ (by decide) (by decide) (by decide), e60]; rfl
      · rw [f3]; rfl
      · rw [fc _ _ (by decide) (by decide) (by decide), fc _ _ (by decide) (by decide) (by decide), fc _ _ (by decide) (by decide) (by decide), fc _ _ (by decide) (by decide) (by decide), fc _ _ (by decide) (by decide) (by decide), fc _ _ (by decide) (by decide) (by decide)]; exact e6 j hj
      · rw [fc _ _ (by decide) (by decide) (by decide), e60]; exact t1
      · rw [fc _ _ (by decide) (by decide) (by decide), e60]; exact t3
end zRel4
