section zKing3
variable {l : Launch} {G : zG} {I : zM → Prop} {M : zM}
theorem zKeeps.go (hg : zIg M) (hc : zIc M) (hk : zKeeps I M) {M2 : zM} (h : ∀ c k, (zKp c k ∨ c = 0 ∨ c = 45 ∨ c = 313 ∨ c = 302 ∨ c = 40 ∨ (c = 300 ∧ (k = 9 ∨ k = 10 ∨ k = 11))) → M2.1 c k = M.1 c k) : I M2 := by
  refine hk M2 (zIg_same hg (h _ _ (by omega)) (h _ _ (by omega)) (h _ _ (by omega)) (h _ _ (by omega)) (h _ _ (by omega)) (h _ _ (by omega)) (fun j => ⟨h _ _ (by omega), h _ _ (by omega)⟩)) ⟨?_, ?_⟩ (fun c k hck => h c k (Or.inl hck))
  · rw [h _ _ (by omega), h _ _ (by omega)]; exact hc.1
  · rw [h _ _ (by omega), h _ _ (by omega)]; exact hc.2
/-- where the relations of the group and of the lies meet: what every play wants -/
def zPl (M : zM) (lc n t : Nat) (cn : Nat → Nat) (lb : Nat → Bool) : Prop := (3 ≤ n ∧ n ≤ 7) ∧ t ≤ 2 ∧ lyL lc ∧ M.1 40 0 = nI n ∧ M.1 300 9 = nI n ∧ M.1 40 1 = nI t ∧ M.1 300 10 = nI t ∧ M.1 40 2 = M.1 300 11 ∧ (∀ j, j < 7 → M.1 45 j = M.1 313 j ∧ okV (M.1 45 j)) ∧ M.1 40 3 = nI lc ∧ lyN lc M cn ∧ lyV lc M ∧ zIl lc n M cn lb
theorem zPl_of (hg : zIg M) (hp : zIp M) : ∃ lc n t cn lb, zPl M lc n t cn lb := by
  obtain ⟨n, t, a1, a2, a3, a4, a5, a6, a7, a8⟩ := hg
  obtain ⟨lc, lt, rc, n2, cn, lb, p1, p2, p3, p4, p5, p6, p7, p8, p9, q1, q2, q3, q4, q5⟩ := hp
  have en : n2 = n := nI_inj (by omega) (by omega) (q3.symm.trans a3)
  subst en
  exact ⟨lc, n2, t, cn, lb, a1, a2, p1, a3, a4, a5, a6, a7, a8, p7, fun m hm => ⟨(q5.1 m hm).1, (q5.1 m hm).2.1⟩, q1, q5⟩
theorem op_king (hst : l.stackTraces = false) (hg : zIg M) (hc : zIc M) (hp : zIp M) (hk : zKeeps I M) (v1 v2 : Int32) : opI l G I yL_king cL_king 5 [(0, 10, 13, 19), (0, 10, 17, 13)] yX11_king cX11_king 4 [.int v1, .int v2] M := by
  obtain ⟨lc, n, t, cn, lb, a1, a2, a3, a4, a5, a6, a7, a8, a9, b1, b2, b3, b4⟩ := zPl_of hg hp
  have hl : 180 ≤ lc ∧ lc ≤ 200 := by unfold lyL at a3; omega
  cases hm : zmem v1 n with
  | false => exact opI_bs hg hc hk (by decide) (by decide) (zh_kingS l G M (mBs M) v1 v2 (zf_kingX l G M hst n v1 v2 a4 a1.2 hm)) (by decide) (zc_mkingX l G (mBs M) n v1 v2 (by simp [mBs, zw_at, a5]) a1.2 (by omega) hm)
  | true =>
    obtain ⟨j, hj, rfl⟩ := zmem_ex hm (by omega)
    cases hw : mIn v2 (nI 0) (nI (t + 1)) with
    | false => exact opI_ba hg hc hk (by decide) (by decide) (zh_kingI l G M (mBa M) (nI j) v2 (zf_kingK l G M hst n t j v2 a4 a1.2 a6 hj hw)) (by decide) (zc_mkingK l G (mBa M) n t j v2 (by simp [mBa, zw_at, a5]) a1.2 (by omega) (by simp [mBa, zw_at, a7]) a2 hj hw)
    | true =>
      obtain ⟨k, -, hk9, rfl⟩ := mIn_ex hw (by decide) (by omega)
      have hC := zf_king l G M lc n t cn j k a4 a1.2 a6 a2 b1 a3 b2 hj hk9
      have hZ := kP_Z 140 40 lc n t cn k M
      obtain ⟨v, hv⟩ : ∃ v, v = (kP 140 40 lc n t cn k M).1 143 j := ⟨_, rfl⟩
      have hcl : ∀ c i, c < 140 ∨ 147 < c → (zwL (kP 140 40 lc n t cn k M) 220 0 v.toInt64).1 c i = M.1 c i := fun c i h => hZ c i h
      have h2 := zc_mking l G (zwL (kP 140 40 lc n t cn k M) 220 0 v.toInt64) n t j k (zMn cn lb) (by rw [hcl _ _ (by omega)]; exact a5) a1.2 (by omega) (by rw [hcl _ _ (by omega)]; exact a7) a2 hj hk9 (zIl_ln b4 (fun i => hcl _ _ (by omega)))
      have hS : zS lc cn (zMn cn lb) lb M (m0 (zwL (kP 140 40 lc n t cn k M) 220 0 v.toInt64)) := (zIl_S b4 a8).keep (fun _ _ _ _ => rfl) rfl (fun c i h => by rw [zw_ne (by omega)]; exact hcl _ _ (by omega)) (by rw [zw_ne (by omega)]; exact hcl _ _ (by omega))
      obtain ⟨-, hV⟩ := kgP (t := t) (k := k) hl.1 a1.2 (by omega) hS (fun i hi => by rw [zw_ne (by omega), hcl _ _ (by omega)]; exact (a9 i hi).1)
      rw [← hV j hj, ← hv] at h2
      have hK := mKg_K n t (zMn cn lb) k (m0 (zwL (kP 140 40 lc n t cn k M) 220 0 v.toInt64))
      refine ⟨0, 4, 0, 0, v, _, _, by decide, by decide, by decide, by decide, zh_king l G M _ (nI j) (nI k) _ (by rw [hv]; exact hC), zCk.of h2, ?_, fun _ => ?_, zKeeps.go hg hc hk (fun c i h => ?_)⟩
      · rw [hK.1 _ _ (by unfold mFrK; omega)]; exact zw_same
      · rw [hK.2]; exact zwL_22 (M := kP 140 40 lc n t cn k M)
      · unfold zKp at h
        rw [hK.1 _ _ (by unfold mFrK; omega), zw_ne (by omega), hcl _ _ (by omega)]
end zKing3
