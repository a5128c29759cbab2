section zRel5
theorem mBegin_1 : (mBegin.1 40 0 = nI 4 ∧ mBegin.1 300 9 = nI 4 ∧ mBegin.1 40 1 = nI 1 ∧ mBegin.1 300 10 = nI 1 ∧ mBegin.1 40 2 = mBegin.1 300 11) ∧ (∀ j, j < 7 → mBegin.1 45 j = mBegin.1 313 j ∧ mBegin.1 45 j = 0) ∧ (mBegin.1 0 10 = mBegin.1 302 0 ∧ mBegin.1 0 11 = mBegin.1 302 1) := by decide +kernel
theorem mBegin_3 : (mBegin.1 20 0 = nI 0 ∧ mBegin.1 300 2 = nI 0 ∧ mBegin.1 20 1 = mBegin.1 300 5) ∧ ∀ j, j < 300 → mBegin.1 24 j = mBegin.1 309 j ∧ ¬ mBegin.1 309 j = -1 := by decide +kernel
theorem mBegin_4 : (mBegin.1 40 3 = nI 180 ∧ mBegin.1 50 3 = nI 190 ∧ mBegin.1 20 2 = nI 200) ∧ (∀ a, a < 84 → mBegin.1 187 a = 0 ∧ mBegin.1 188 a = 0 ∧ mBegin.1 207 a = 0 ∧ mBegin.1 208 a = 0) ∧ (∀ m, m < 7 → mBegin.1 182 m = nI 0 ∧ mBegin.1 1208 m = -1 ∧ bit (mBegin.1 180 0) m = false) ∧ mBegin.1 180 0 = zLb (fun _ => false) 4 := by decide +kernel
theorem mBegin_5 : (mBegin.1 60 0 = -1 ∧ mBegin.1 300 17 = -1 ∧ mBegin.1 60 1 = nI 0 ∧ mBegin.1 300 18 = nI 0 ∧ mBegin.1 60 2 = nI 0 ∧ mBegin.1 300 19 = nI 0) ∧ (∀ j, j < 7 → mBegin.1 64 j = nI 0 ∧ mBegin.1 76 j = nI 0 ∧ mBegin.1 65 j = nI 0 ∧ mBegin.1 66 j = nI 0 ∧ mBegin.1 67 j = nI 0 ∧ mBegin.1 77 j = nI 0) ∧ mBegin.1 60 7 = nI 0 ∧ mBegin.1 60 8 = nI 0 := by decide +kernel
theorem nI_inj {a b : Nat} (ha : a < 2 ^ 31) (hb : b < 2 ^ 31) (h : nI a = nI b) : a = b := by
  have h1 := congrArg Int32.toInt h
  rw [nI_toInt ha, nI_toInt hb] at h1
  omega
theorem mBegin_g : zIg mBegin := by
  obtain ⟨⟨h1, h2, h3, h4, h5⟩, h6, -⟩ := mBegin_1
  exact ⟨4, 1, by decide, by decide, h1, h2, h3, h4, h5, fun j hj => ⟨(h6 j hj).1, by rw [(h6 j hj).2]; exact okV_0⟩⟩
theorem mBegin_c : zIc mBegin := mBegin_1.2.2
theorem mBegin_r : zIr mBegin := ⟨0, by decide, mBegin_3.1.1, mBegin_3.1.2.1, mBegin_3.1.2.2, mBegin_3.2⟩
theorem mBegin_p : zIp mBegin := by
  obtain ⟨⟨h1, h2, h3⟩, h4, h5, h6⟩ := mBegin_4
  refine ⟨180, 190, 200, 4, fun _ => 0, fun _ => false, Or.inl rfl, Or.inr (Or.inl rfl), Or.inr (Or.inr rfl), by decide, by decide, by decide, h1, h2, h3, fun a ha => ?_, fun a ha => ?_, mBegin_1.1.1, by decide, fun m hm => ?_, h6, fun m k _ hk => absurd hk (Nat.not_lt_zero _)⟩
  · rw [show mBegin.1 (180 + 1 + 6) a = 0 from (h4 a ha).1, show mBegin.1 (180 + 1 + 7) a = 0 from (h4 a ha).2.1]; exact ⟨okV_0, okV_0⟩
  · rw [show mBegin.1 (200 + 1 + 6) a = 0 from (h4 a ha).2.2.1, show mBegin.1 (200 + 1 + 7) a = 0 from (h4 a ha).2.2.2]; exact ⟨okV_0, okV_0⟩
  · exact ⟨(h5 m hm).1, Nat.zero_le _, fun _ => rfl, fun _ => rfl, (h5 m hm).2.1, (h5 m hm).2.2⟩
theorem mBegin_v0 : ∀ s, s < 7 → ∀ i, i < 13 → mBegin.1 (mLc s i) 4 = 0 ∧ mBegin.1 (mLc s i) 5 = 0 := by decide +kernel
theorem mBegin_v : mlV mBegin := fun s i hs hi => by
  rw [(mBegin_v0 s hs i hi).1, (mBegin_v0 s hs i hi).2]
  exact ⟨okV_0, okV_0⟩
theorem mBegin_t : zIt0 mBegin := by
  obtain ⟨⟨h1, h2, h3, h4, h5, h6⟩, h7, h8, h9⟩ := mBegin_5
  exact ⟨h1, h2, h3, h4, h5, h6, h7, 0, 0, h8, by decide, h9, by decide⟩
variable {l : Launch} {G : zG} {I : zM → Prop} {M : zM}
/-- what TOLD tells of the latest trial, alike in both -/
def zIta (M : zM) : Prop := M.1 60 0 = M.1 300 17 ∧ M.1 60 1 = M.1 300 18 ∧ M.1 60 2 = M.1 300 19
theorem zIt0.a (h : zIt0 M) : zIta M := ⟨h.1.trans h.2.1.symm, h.2.2.1.trans h.2.2.2.1.symm, h.2.2.2.2.1.trans h.2.2.2.2.2.1.symm⟩
theorem op_told (hst : l.stackTraces = false) (hg : zIg M) (hc : zIc M) (hr : zIr M) (hp : zIp M) (ht : zIta M) (hk : zKeeps I M) (v1 : Int32) : opI l G I yL_told cL_told 4 [(0, 9, 12, 13)] yX11_told cX11_told 2 [.int v1] M := by
  cases ha : mIn v1 (nI 0) (nI 9) with
  | false => exact opI_ba hg hc hk (by decide) (by decide) (zh_toldI l G M (mBa M) v1 (zf_toldX l G M hst v1 ha)) (by decide) (zc_mtoldX l G (mBa M) v1 ha)
  | true =>
    obtain ⟨j, -, hj, rfl⟩ := mIn_ex ha (by decide) (by decide)
    obtain ⟨n, t, a1, a2, a3, a4, a5, a6, a7, a8⟩ := id hg
    obtain ⟨lc, lt, rc, n2, cn, lb, p1, p2, p3, p4, p5, p6, p7, p8, p9, q1, q2, q3, q4, q5⟩ := hp
    obtain ⟨s, r1, r2, r3, r4, r5⟩ := hr
    have en : n2 = n := nI_inj (by omega) (by omega) (q3.symm.trans a3)
    subst en
    have hl : 180 ≤ lc ∧ lc ≤ 200 := by unfold lyL at p1; omega
    have e : ∀ W : Int64, fTd lc t M j = mTd n2 (zwL M 220 0 W) j := by
      intro W
      have q5' : zIl lc n2 (m0 (zwL M 220 0 W)) cn lb := zIl_same q5 (fun a k _ _ => zw_ne (Or.inl (by omega))) (fun k => zw_ne (Or.inl (by decide))) (fun a k _ => zw_ne (Or.inl (by omega)))
      match j, hj with
      | 0, _ => show M.1 40 0 = M.1 300 9; rw [a3, a4]
      | 1, _ => show M.1 40 1 = M.1 300 10; rw [a5, a6]
      | 2, _ => show nI (t + 1) = M.1 300 10 + nI 1; rw [a6]; exact (nI_inc t 1).symm
      | 3, _ => show M.1 lc 0 = mLiB _ n2; rw [zIl_mLiB q5' n2 q4]; exact q5.2.1
      | 4, _ => exact ht.1
      | 5, _ => exact ht.2.1
      | 6, _ => exact ht.2.2
      | 7, _ =>
        show zsumI (fun i => M.1 (lc + 1 + 1) i) 7 = mLiN _ n2
        rw [zIl_mLiN q5' n2 q4]
        have h9 := zsumI_tail q5 (7 - n2) (by omega)
        rw [show n2 + (7 - n2) = 7 by omega] at h9
        rw [h9]
        congr 1
        funext i
        exact (zw_ne (Or.inl (by omega))).symm
      | 8, _ => show M.1 20 0 = M.1 300 2; rw [r2, r3]
      | 9, _ => exact a7
    have h2 := zc_mtold l G (zwL M 220 0 (fTd lc t M j).toInt64) n2 j a4 q4 (by omega) hj
    rw [← e (fTd lc t M j).toInt64] at h2
    exact opI_m0 hg hc hk (zh_told l G M M (nI j) _ (zf_told l G M lc n2 t cn j a3 a1.2 a5 a2 p7 p1 (fun m hm => ⟨(q5.1 m hm).1, (q5.1 m hm).2.1⟩) hj)) (by decide) h2
end zRel5
