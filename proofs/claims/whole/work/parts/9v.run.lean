section zRunA
variable {o lc n c t r : Nat} {cn : Nat → Nat} {mn : Nat → Option Nat}
theorem mFi_hi {m : Nat} (hc7 : c < 7) {B : zM} (h : ∀ b, 7 ≤ b → b < 32 → bt (B.1 (1000 + 16 * 22 + m) (r - 1)) b = false) (b : Nat) (hb1 : 7 ≤ b) (hb2 : b < 32) : bt (mFi n c t m r B 57) b = false := by
  rw [mFi_bits hc7 57 (Nat.le_refl _) b hb2, h b hb1 hb2, Bool.false_or]
  refine zany_none 57 (fun p hp => ?_)
  have := zlast_lt (c := c) hp hc7
  rw [decide_eq_false (show ¬ zlast c p = b by omega), Bool.and_false, Bool.and_false]
/-- in no round anyone is found that is no member -/
theorem mGo_hi (hc7 : c < 7) (hn7 : n ≤ 7) (B : zM) : ∀ k, k ≤ 4 → (∀ m, m < n → ∀ q, q < 5 → ∀ b, 7 ≤ b → b < 32 → bt ((mGo c n t mn k B).1 (1000 + 16 * 22 + m) q) b = false)
  | 0, _, m, hm, q, hq, b, _, _ => by
    show bt ((mGa c n B).1 (1000 + 16 * 22 + m) q) b = false
    rw [((mGa_at B n hn7).2.1 m hm).2 q hq]
    exact bt_0 b
  | k + 1, hk, m, hm, q, hq, b, hb1, hb2 => by
    have ih := mGo_hi hc7 hn7 B k (by omega)
    show bt ((zfor (mFs n c t (k + 1)) n (mRa c n mn (k + 1) (mGo c n t mn k B))).1 (1000 + 16 * 22 + m) q) b = false
    generalize mGo c n t mn k B = D at *
    have hA : ∀ m, (mRa c n mn (k + 1) D).1 (1000 + 16 * 22 + m) = D.1 (1000 + 16 * 22 + m) := fun m => by
      funext j
      unfold mRa
      split
      · exact (mF_K hc7 hn7 mn D).1 _ _ (by unfold mFrA; omega)
      · exact (mNr_K hn7 hn7 mn D).1 _ _ (by unfold mFrA; omega)
    have key : ∀ e, e ≤ n → ∀ m, m < n → ∀ q, q < 5 → ∀ b, 7 ≤ b → b < 32 → bt ((zfor (mFs n c t (k + 1)) e (mRa c n mn (k + 1) D)).1 (1000 + 16 * 22 + m) q) b = false := by
      intro e
      induction e with
      | zero =>
        intro _ m hm q hq b hb1 hb2
        show bt ((mRa c n mn (k + 1) D).1 (1000 + 16 * 22 + m) q) b = false
        rw [hA m]
        exact ih m hm q hq b hb1 hb2
      | succ e ih2 =>
        intro he m hm q hq b hb1 hb2
        have i2 := ih2 (by omega)
        show bt ((mFs n c t (k + 1) e (zfor (mFs n c t (k + 1)) e (mRa c n mn (k + 1) D))).1 (1000 + 16 * 22 + m) q) b = false
        generalize zfor (mFs n c t (k + 1)) e (mRa c n mn (k + 1) D) = E at *
        unfold mFs
        split
        · exact i2 m hm q hq b hb1 hb2
        · unfold mFin
          rw [zw_at]
          split
          · exact mFi_hi hc7 (fun b g1 g2 => i2 e (by omega) (k + 1 - 1) (by omega) b g1 g2) b hb1 hb2
          · exact i2 m hm q hq b hb1 hb2
    exact key n (Nat.le_refl n) m hm q hq b hb1 hb2
/-- the latest trial, as both keep it -/
def zTr (n c t : Nat) (M : zM) : Prop :=
  orL 60 n c M ∧ M.1 60 9 = M.1 300 24 ∧ M.1 60 1 = M.1 300 18 ∧ M.1 60 2 = M.1 300 19 ∧ (∀ s, s < n → M.1 67 s = M.1 324 s) ∧
  (∀ m p, m < n → p < 57 → mHas n c t m p = true → M.1 73 (m * 57 + p) = M.1 (1000 + 16 * 20 + m) p ∧ M.1 74 (m * 57 + p) = M.1 (1000 + 16 * 21 + m) p ∧ (∃ g : Bool, M.1 (1000 + 16 * 21 + m) p = zb g) ∧ M.1 75 (m * 57 + p) = mRs M n c m (t + 1) 2 p) ∧
  (∀ m, m < n → M.1 66 m = nI (zcnt (fun p => mHas n c t m p && !decide (M.1 (1000 + 16 * 21 + m) p = 0)) 57)) ∧
  (∀ m, m < n → m ≠ c → M.1 64 m = M.1 (1000 + 16 * 22 + m) (t + 1) ∧ orStop 60 t (t + 1) m M M) ∧
  (∀ m, m < n → M.1 77 m = mDec M n c (t + 1) m) ∧ M.1 60 11 = M.1 300 26 ∧ (∀ m, m < n → bit (M.1 60 10) m = bit (M.1 300 25) m) ∧ M.1 64 c = nI 0 ∧ M.1 65 c = nI 1 ∧
  ∀ m, m < n → ∀ q, q < 5 → ∀ b, 7 ≤ b → b < 32 → bt (M.1 (1000 + 16 * 22 + m) q) b = false
/-- a trial stands -/
def zIt1 (M : zM) : Prop := ∃ n t c : Nat, (3 ≤ n ∧ n ≤ 7) ∧ t ≤ 2 ∧ c < n ∧ M.1 300 9 = nI n ∧ M.1 300 10 = nI t ∧ M.1 60 0 = nI c ∧ M.1 300 17 = nI c ∧ M.1 60 7 = nI n ∧ M.1 60 8 = nI t ∧ zTr n c t M
/-- the cells that the trial speaks of -/
def zKt (c k : Nat) : Prop := (60 ≤ c ∧ c ≤ 77) ∨ c = 79 ∨ (c = 300 ∧ (k = 9 ∨ k = 10 ∨ (17 ≤ k ∧ k ≤ 19) ∨ (24 ≤ k ∧ k ≤ 26))) ∨ c = 324 ∨ (1320 ≤ c ∧ c < 1368)
theorem zTr_same {M M2 : zM} (h : zTr n c t M) (hn7 : n ≤ 7) (hc : c < n) (hh : ∀ c k, zKt c k → M2.1 c k = M.1 c k) : zTr n c t M2 := by
  obtain ⟨t1, t2, t3, t4, t5, t6, t7, t8, t9, u1, u2, u3, u4, u5⟩ := h
  have H : ∀ c k, ((60 ≤ c ∧ c ≤ 77) ∨ c = 79 ∨ (c = 300 ∧ (k = 9 ∨ k = 10 ∨ (17 ≤ k ∧ k ≤ 19) ∨ (24 ≤ k ∧ k ≤ 26))) ∨ c = 324 ∨ (1320 ≤ c ∧ c < 1368)) → M2.1 c k = M.1 c k := hh
  have hR : ∀ m cut, m < n → ∀ k p, mRs M2 n c m cut k p = mRs M n c m cut k p := fun m cut hm => mRs_same (fun j => H _ _ (by omega)) (H _ _ (by omega))
  refine ⟨fun p hp => by rw [H _ _ (by omega)]; exact t1 p hp, ?_, ?_, ?_, fun s hs => ?_, fun m p hm hp hp2 => ?_, fun m hm => ?_, fun m hm hmc => ⟨?_, (t8 m hm hmc).2.go (H _ _ (by omega)) (fun q => H _ _ (by omega))⟩, fun m hm => ?_, ?_, fun m hm => ?_, ?_, ?_, fun m hm q hq b hb1 hb2 => ?_⟩
  · rw [H 60 9 (by omega), H 300 24 (by omega)]; exact t2
  · rw [H 60 1 (by omega), H 300 18 (by omega)]; exact t3
  · rw [H 60 2 (by omega), H 300 19 (by omega)]; exact t4
  · rw [H 67 _ (by omega), H 324 _ (by omega)]; exact t5 s hs
  · rw [H 73 _ (by omega), H 74 _ (by omega), H 75 _ (by omega), H (1000 + 16 * 20 + m) _ (by omega), H (1000 + 16 * 21 + m) _ (by omega), hR m _ hm]; exact t6 m p hm hp hp2
  · rw [H 66 _ (by omega), t7 m hm]
    congr 1
    exact zcnt_congr 57 (fun p hp => by rw [H (1000 + 16 * 21 + m) _ (by omega)])
  · rw [H 64 _ (by omega), H (1000 + 16 * 22 + m) _ (by omega)]; exact (t8 m hm hmc).1
  · rw [H 77 _ (by omega), t9 m hm]
    unfold mDec
    rw [H 300 26 (by omega)]
    by_cases e : m = c
    · rw [if_pos e, if_pos e]
    · rw [if_neg e, if_neg e]
      exact (hR m _ hm 2 0).symm
  · rw [H 60 11 (by omega), H 300 26 (by omega)]; exact u1
  · rw [H 60 10 (by omega), H 300 25 (by omega)]; exact u2 m hm
  · rw [H 64 _ (by omega)]; exact u3
  · rw [H 65 _ (by omega)]; exact u4
  · rw [H (1000 + 16 * 22 + m) _ (by omega)]; exact u5 m hm q hq b hb1 hb2
theorem zIt1_same {M M2 : zM} (h : zIt1 M) (hh : ∀ c k, zKt c k → M2.1 c k = M.1 c k) : zIt1 M2 := by
  obtain ⟨n, t, c, a1, a2, a3, a4, a5, a6, a7, a8, a9, hT⟩ := h
  have H : ∀ c k, ((60 ≤ c ∧ c ≤ 77) ∨ c = 79 ∨ (c = 300 ∧ (k = 9 ∨ k = 10 ∨ (17 ≤ k ∧ k ≤ 19) ∨ (24 ≤ k ∧ k ≤ 26))) ∨ c = 324 ∨ (1320 ≤ c ∧ c < 1368)) → M2.1 c k = M.1 c k := hh
  exact ⟨n, t, c, a1, a2, a3, by rw [H _ _ (by omega)]; exact a4, by rw [H _ _ (by omega)]; exact a5, by rw [H _ _ (by omega)]; exact a6, by rw [H _ _ (by omega)]; exact a7, by rw [H _ _ (by omega)]; exact a8, by rw [H _ _ (by omega)]; exact a9, zTr_same hT a1.2 a3 hh⟩
theorem zIt1.a {M : zM} (h : zIt1 M) : zIta M := by
  obtain ⟨n, t, c, a1, a2, a3, a4, a5, a6, a7, a8, a9, t1, t2, t3, t4, -⟩ := h
  exact ⟨a6.trans a7.symm, t3, t4⟩
/-- what class and reference hold alike, between two calls -/
def zInv (M : zM) : Prop := zIg M ∧ zIc M ∧ zIr M ∧ zIp M ∧ mlV M ∧ (zIt0 M ∨ zIt1 M)
theorem zIr_same {M M2 : zM} (h : zIr M) (hh : ∀ c k, (c = 20 ∨ c = 24 ∨ c = 309 ∨ (c = 300 ∧ (k = 2 ∨ k = 5))) → M2.1 c k = M.1 c k) : zIr M2 := by
  obtain ⟨s, r1, r2, r3, r4, r5⟩ := h
  exact ⟨s, r1, by rw [hh _ _ (by omega)]; exact r2, by rw [hh _ _ (by omega)]; exact r3, by rw [hh 20 1 (by omega), hh 300 5 (by omega)]; exact r4, fun j hj => by rw [hh 24 j (by omega), hh 309 j (by omega)]; exact r5 j hj⟩
theorem zInv.keeps {M : zM} (h : zInv M) : zKeeps zInv M := by
  obtain ⟨hg, hc, hr, hp, hv, ht⟩ := h
  intro M2 hg2 hc2 hs
  have H : ∀ c k, (c = 20 ∨ c = 24 ∨ (c = 40 ∧ k ≠ 2) ∨ c = 50 ∨ (60 ≤ c ∧ c ≤ 80) ∨ (180 ≤ c ∧ c ≤ 208) ∨ (c = 300 ∧ (k = 2 ∨ k = 5 ∨ (17 ≤ k ∧ k ≤ 19) ∨ (24 ≤ k ∧ k ≤ 26))) ∨ c = 324 ∨ c = 309 ∨ c = 1208 ∨ (1320 ≤ c ∧ c < 1368) ∨ 3100 ≤ c) → M2.1 c k = M.1 c k := hs
  refine ⟨hg2, hc2, zIr_same hr (fun c k h => H c k (by omega)), zIp_same hp (H _ _ (by omega)) (H _ _ (by omega)) (H _ _ (by omega)) (H _ _ (by omega)) (fun a k h1 h2 => H a k (by omega)) (fun k => H _ _ (by omega)) (fun a k h => H a k (by omega)), mlV_of hv (fun a k h => H a k (by omega)), ?_⟩
  rcases ht with h | h
  · exact Or.inl (zIt0_same h (fun a k h1 h2 => H a k (by omega)) (fun k h1 h2 => H _ _ (by omega)))
  · refine Or.inr ?_
    obtain ⟨n, t, c, a1, a2, a3, a4, a5, a6, a7, a8, a9, hT⟩ := h
    -- how many there are stays: class and reference tell it in the same way
    obtain ⟨n1, t1, -, -, b1, b2, b3, b4, -⟩ := hg
    obtain ⟨n2, t2, -, -, c1, c2, c3, c4, -⟩ := hg2
    have e9 : M2.1 300 9 = M.1 300 9 := by rw [c2, ← c1, H 40 0 (by omega), b1, ← b2]
    have e10 : M2.1 300 10 = M.1 300 10 := by rw [c4, ← c3, H 40 1 (by omega), b3, ← b4]
    refine zIt1_same ⟨n, t, c, a1, a2, a3, a4, a5, a6, a7, a8, a9, hT⟩ (fun c k h => ?_)
    unfold zKt at h
    by_cases h9 : c = 300 ∧ (k = 9 ∨ k = 10)
    · obtain ⟨rfl, rfl | rfl⟩ := h9
      · exact e9
      · exact e10
    · exact H c k (by omega)
theorem zInv.keepsR {M : zM} (h : zInv M) : zKeepsR zInv M := by
  obtain ⟨hg, hc, hr, hp, hv, ht⟩ := h
  intro M2 hr2 hs
  have H : ∀ c k, ¬ (c = 24 ∨ c = 309 ∨ (c = 20 ∧ k = 0) ∨ (c = 300 ∧ (k = 2 ∨ k = 0))) → M2.1 c k = M.1 c k := fun c k h => hs c k (by omega) (by omega) (by omega) (by omega)
  refine ⟨zIg_same hg (H _ _ (by omega)) (H _ _ (by omega)) (H _ _ (by omega)) (H _ _ (by omega)) (H _ _ (by omega)) (H _ _ (by omega)) (fun j => ⟨H _ _ (by omega), H _ _ (by omega)⟩), ⟨?_, ?_⟩, hr2, zIp_same hp (H _ _ (by omega)) (H _ _ (by omega)) (H _ _ (by omega)) (H _ _ (by omega)) (fun a k h1 h2 => H a k (by omega)) (fun k => H _ _ (by omega)) (fun a k h => H a k (by omega)), mlV_of hv (fun a k h => H a k (by omega)), ?_⟩
  · rw [H 0 10 (by omega), H 302 0 (by omega)]; exact hc.1
  · rw [H 0 11 (by omega), H 302 1 (by omega)]; exact hc.2
  · rcases ht with h | h
    · exact Or.inl (zIt0_same h (fun a k h1 h2 => H a k (by omega)) (fun k h1 h2 => H _ _ (by omega)))
    · exact Or.inr (zIt1_same h (fun c k h => H c k (by unfold zKt at h; omega)))
theorem zInv.ta {M : zM} (h : zInv M) : zIta M := by
  rcases h.2.2.2.2.2 with q | q
  · exact q.a
  · exact q.a
theorem zInv_begin : zInv mBegin := ⟨mBegin_g, mBegin_c, mBegin_r, mBegin_p, mBegin_v, Or.inl mBegin_t⟩
/-- after a trial's play: what holds of its memory -/
theorem zTr_of {D : zM} (hn : 3 ≤ n ∧ n ≤ 7) (hc : c < n) (ht : t ≤ 2) {R B : zM} (hD : D = mGo c n t mn (t + 1) B) (h : orDone 60 lc n c t cn mn R D) (h64 : R.1 (60 + 1 + 3) c = nI 0) (h65 : R.1 (60 + 1 + 4) c = nI 1) (hRD : ∀ a j, 60 ≤ a → a ≤ 80 → D.1 a j = R.1 a j) : zTr n c t D := by
  obtain ⟨⟨s1, s2, s3, s4, s5, s6, s7, s8⟩, d2, d3, d4, d5, d6⟩ := h
  have hH : ∀ m p, mHas n c t m p = true → hdR n c t (t + 1) m p = true := fun m p hh => by
    unfold hdR
    rw [hh, decide_eq_true (mHas_iff.mp hh).2.2.1]
    rfl
  have hH2 : ∀ m p, hdR n c t (t + 1) m p = mHas n c t m p := fun m p => by
    cases hb : mHas n c t m p with
    | true => exact hH m p hb
    | false => unfold hdR; rw [hb]; rfl
  refine ⟨fun p hp => by rw [hRD _ _ (by omega) (by omega)]; exact s2 p hp, ?_, ?_, ?_, fun s hs => ?_, fun m p hm hp hh => ?_, fun m hm => ?_, fun m hm hmc => ⟨?_, (d2 m hm hmc).2.go (hRD _ _ (by omega) (by omega)) (fun _ => rfl)⟩, fun m hm => ?_, ?_, fun m hm => ?_, ?_, ?_, ?_⟩
  · rw [hRD _ _ (by omega) (by omega)]; exact s3
  · rw [hRD _ _ (by omega) (by omega)]; exact s4
  · rw [hRD _ _ (by omega) (by omega)]; exact s5
  · rw [hRD _ _ (by omega) (by omega)]; exact s6 s hs
  · obtain ⟨q1, q2, q3⟩ := s7 m p hm hp (hH m p hh)
    refine ⟨by rw [hRD _ _ (by omega) (by omega)]; exact q1, by rw [hRD _ _ (by omega) (by omega)]; exact q2, q3, ?_⟩
    rw [hRD _ _ (by omega) (by omega)]
    exact d4 m p hm (mHas_iff.mp hh).2.1 hp hh
  · rw [hRD _ _ (by omega) (by omega), show R.1 66 m = _ from s8 m hm]
    congr 1
    exact zcnt_congr 57 (fun p hp => by rw [hH2])
  · rw [hRD _ _ (by omega) (by omega)]; exact (d2 m hm hmc).1
  · rw [hRD _ _ (by omega) (by omega)]; exact d3 m hm
  · rw [hRD _ _ (by omega) (by omega)]; exact d5
  · rw [hRD _ _ (by omega) (by omega)]; exact d6 m hm
  · rw [hRD _ _ (by omega) (by omega)]; exact h64
  · rw [hRD _ _ (by omega) (by omega)]; exact h65
  · rw [hD]; exact mGo_hi (by omega) hn.2 B (t + 1) (by omega)
variable {l : Launch} {G : zG} {M : zM}
theorem zunl_mUn {row : Nat → Int32} {lo : Int32} {D : zM} (h1 : ∀ i, i < n → bit lo i = bit (D.1 300 25) i) (h2 : ∀ i, i < n → row i = mDec D n c (t + 1) i) : zunl row lo n = mUn D n c t true n := by
  unfold zunl mUn
  refine zcnt_congr n (fun i hi => ?_)
  have hO : ∀ k, mOut D c true k = bit (D.1 300 25) k := fun k => by
    unfold mOut mTrue
    simp
  rw [Bool.not_or, zany_all, hO, h1 i hi]
  congr 1
  unfold mFst
  refine zall_congr i (fun k hk => ?_)
  rw [hO, h1 k (by omega), h2 k (by omega), h2 i hi, Bool.not_and, Bool.not_not]
theorem op_run (hst : l.stackTraces = false) (hI : zInv M) (v1 : Int32) : opI l G zInv yL_run cL_run 4 [(0, 9, 12, 19)] yX11_run cX11_run 2 [.int v1] M := by
  obtain ⟨hg, hc, hr, hp, hv, -⟩ := id hI
  have hk := hI.keeps
  obtain ⟨lc, n, t, cn, lb, hP⟩ := zPl_of hg hp
  obtain ⟨a1, a2, a3, a4, a5, a6, a7, a8, a9, b1, b2, b3, b4⟩ := id hP
  have hl : 180 ≤ lc ∧ lc ≤ 200 := by unfold lyL at a3; omega
  cases hm : zmem v1 n with
  | false => exact opI_bs hg hc hk (by decide) (by decide) (zh_runS l G M (mBs M) v1 (zf_runX l G M hst n v1 a4 a1.2 hm)) (by decide) (zc_mrunX l G (mBs M) n v1 (by simp [mBs, zw_at, a5]) a1.2 (by omega) hm)
  | true =>
    obtain ⟨j, hj, rfl⟩ := zmem_ex hm (by omega)
    have hC := zf_run l G M lc n t cn j a4 a1.2 a6 a2 b1 a3 b2 hj
    obtain ⟨R, hR⟩ : ∃ R, R = oPlay 60 40 lc n t j cn M := ⟨_, rfl⟩
    have hFi := oFi.p4 60 40 lc n t j cn n M
    rw [show oP4 60 40 lc n t j cn n M = R from hR.symm] at hFi
    rw [← hR] at hC
    obtain ⟨V, hV⟩ : ∃ V, V = nI (zunl (R.1 77) (R.1 60 10) n) := ⟨_, rfl⟩
    rw [← hV] at hC
    have hcl : ∀ c i, c < 60 ∨ 80 < c → R.1 c i = M.1 c i := fun c i h => hFi.out (by omega)
    have h2 := zc_mrun l G (zwL R 220 0 V.toInt64) n t j (zMn cn lb) (by rw [zwL_1, hcl _ _ (by omega)]; exact a5) a1.2 (by omega) (by rw [zwL_1, hcl _ _ (by omega)]; exact a7) a2 (by omega) hj (zIl_ln b4 (fun i => by rw [zwL_1]; exact hcl _ _ (by omega)))
    obtain ⟨B, hB⟩ : ∃ B, B = m0 (zwL R 220 0 V.toInt64) := ⟨_, rfl⟩
    have hBR : ∀ c k, ¬ (c = 300 ∧ k = 0) → B.1 c k = R.1 c k := fun c k h => by rw [hB]; exact zw_ne (by omega)
    have hS := zIl_S b4 a8
    obtain ⟨p1, p2, p3⟩ := orPlay (o := 60) (g := 40) (lc := lc) (t := t) (mn := zMn cn lb) (A := M) (B := B) ⟨by omega, by omega, by omega⟩ a1 hj a2 (zWd.keep (A := M) (B := M) hS.1 (fun _ _ _ _ => rfl) (fun a k h => by rw [hBR _ _ (by omega), hcl _ _ (by omega)])) (by rw [hBR _ _ (by omega), hcl _ _ (by omega)]; exact a8) (by rw [hBR _ _ (by omega), hcl _ _ (by omega)]; exact (a9 j (by omega)).1) (fun m hm9 => by
      rw [(hS.2.2 m (by omega)).1, ← (hS.2.2 m (by omega)).2]
      unfold mLiar
      rw [hBR _ _ (by omega), hcl _ _ (by omega)])
    rw [← hR] at p1 p2 p3
    have hK := mGo_K (k := t + 1) (t := t) (c := j) (by omega) a1.2 (zMn cn lb) B
    obtain ⟨D, hD⟩ : ∃ D, D = mGo j n t (zMn cn lb) (t + 1) B := ⟨_, rfl⟩
    have hD2 : mRun j n t (zMn cn lb) (zwL R 220 0 V.toInt64) = D := by rw [hD, hB]; rfl
    rw [hD2] at h2
    rw [← hD] at p1 hK
    have hDR : ∀ a k, ¬ mFrB a k → ¬ (a = 300 ∧ k = 0) → D.1 a k = R.1 a k := fun a k h1 h2 => by rw [hK.1 a k h1, hBR a k h2]
    have hT : zTr n j t D := zTr_of a1 hj a2 hD p1 p2 p3 (fun a k h1 h2 => hDR a k (by unfold mFrB; omega) (by omega))
    have hv9 : nI (mUn D n j t true n) = V := by
      rw [hV, zunl_mUn (c := j) (t := t) (D := D) p1.2.2.2.2.2 p1.2.2.1]
    rw [hv9] at h2
    refine ⟨0, 7, 0, 0, V, _, _, by decide, by decide, by decide, by decide, zh_run l G M _ (nI j) _ hC, zCk.of h2, ?_, fun _ => ?_, ?_⟩
    · rw [hK.1 _ _ (by unfold mFrB; omega), hB]; exact zw_same
    · rw [hK.2, hB]; exact zwL_22 (M := R)
    · have H : ∀ a k, ¬ mFrB a k → ¬ (a = 300 ∧ k = 0) → (a < 60 ∨ 80 < a) → D.1 a k = M.1 a k := fun a k h1 h2 h3 => (hDR a k h1 h2).trans (hcl a k h3)
      have G9 : ∀ a k, ¬ ((a = 300 ∧ (k = 0 ∨ (16 ≤ k ∧ k ≤ 19) ∨ (24 ≤ k ∧ k ≤ 26))) ∨ a = 324 ∨ (1320 ≤ a ∧ a < 1368) ∨ (60 ≤ a ∧ a ≤ 80)) → D.1 a k = M.1 a k := fun a k h => H a k (by unfold mFrB; omega) (by omega) (by omega)
      refine ⟨zIg_same hg (G9 _ _ (by omega)) (G9 _ _ (by omega)) (G9 _ _ (by omega)) (G9 _ _ (by omega)) (G9 _ _ (by omega)) (G9 _ _ (by omega)) (fun j => ⟨G9 _ _ (by omega), G9 _ _ (by omega)⟩), ⟨?_, ?_⟩, zIr_same hr (fun c k h => G9 c k (by omega)), zIp_same hp (G9 _ _ (by omega)) (G9 _ _ (by omega)) (G9 _ _ (by omega)) (G9 _ _ (by omega)) (fun a k h1 h2 => G9 a k (by omega)) (fun k => G9 _ _ (by omega)) (fun a k h => G9 a k (by omega)), mlV_of hv (fun a k h => G9 a k (by omega)), Or.inr ⟨n, t, j, a1, a2, hj, ?_, ?_, ?_, ?_, ?_, ?_, hT⟩⟩
      · rw [G9 0 10 (by omega), G9 302 0 (by omega)]; exact hc.1
      · rw [G9 0 11 (by omega), G9 302 1 (by omega)]; exact hc.2
      · rw [G9 _ _ (by omega)]; exact a5
      · rw [G9 _ _ (by omega)]; exact a7
      · rw [hDR _ _ (by unfold mFrB; omega) (by omega)]; exact hFi.2.1
      · rw [hD, (mGo_C (k := t + 1) (t := t) (c := j) (by omega) a1.2 (zMn cn lb) B).1 _ _ (by unfold mFrC; omega)]; exact mGa_17 B a1.2
      · rw [hDR _ _ (by unfold mFrB; omega) (by omega)]; exact hFi.2.2.1
      · rw [hDR _ _ (by unfold mFrB; omega) (by omega)]; exact hFi.2.2.2.1
end zRunA
