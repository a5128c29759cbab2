section zNear3
variable {l : Launch} {G : zG} {I : zM → Prop} {M : zM} {lc n t md : Nat} {cn : Nat → Nat} {lb : Nat → Bool}
theorem mIn_iff {x a b : Int32} : mIn x a b = true ↔ a ≤ x ∧ x ≤ b := by
  unfold mIn
  simp only [Bool.and_eq_true, decide_eq_true_eq]
theorem mlV_of {M M2 : zM} (h : mlV M) (hh : ∀ a k, 3100 ≤ a → M2.1 a k = M.1 a k) : mlV M2 := fun s i hs hi => by
  have hq : 3100 ≤ mLc s i := by unfold mLc; omega
  rw [hh _ _ hq, hh _ _ hq]
  exact h s i hs hi
theorem zKeeps.nr (hg : zIg M) (hc : zIc M) (hk : zKeeps I M) {R D : zM} {W : Int64} (hcl : ∀ c i, c < 170 ∨ 173 < c → R.1 c i = M.1 c i) (hK : kN (m0 (zwL R 220 0 W)) D) : I D ∧ D.1 300 0 = nI 0 ∧ D.2 220 0 = W := by
  refine ⟨zKeeps.go hg hc hk (fun c i h => ?_), ?_, ?_⟩
  · unfold zKp at h
    rw [hK.1 _ _ (by unfold mFrN; omega), zw_ne (by omega)]
    exact hcl _ _ (by omega)
  · rw [hK.1 _ _ (by unfold mFrN; omega)]; exact zw_same
  · rw [hK.2]; exact zwL_22 (M := R)
theorem nPl_Z (k : Nat) : kZ 170 (170 + 3) M (nPl 170 40 lc n t md cn k M) := (nBeg_Z 170 40 7 M).tr (kZ.for (fun _ A => (nSt_Z 170 40 lc n t md cn n A).tr (nCp_Z 170 n _)) k _)
theorem mNg_N (mn : Nat → Option Nat) (k : Nat) (B : zM) : kN B (mNg n t md mn k B) := (mNb_N n B).tr (zKf.for k _ (fun i A _ => mNst_N n t md mn A))
/-- what NEARER's calls want of the class's play R and of what the reference then begins with -/
theorem nrBoth (hP : zPl M lc n t cn lb) {R : zM} (hcl : ∀ c i, c < 170 ∨ 173 < c → R.1 c i = M.1 c i) {B : zM} (hB : ∀ c k, c ≠ 0 → c ≠ 302 → ¬ (c = 300 ∧ k = 0) → B.1 c k = R.1 c k) : zS lc cn (zMn cn lb) lb M B ∧ (∀ j, j < 7 → M.1 45 j = B.1 313 j) ∧ mLn 0 B (zMn cn lb) ∧ ∀ m, m < 7 → okV (B.1 313 m) := by
  obtain ⟨a1, a2, a3, a4, a5, a6, a7, a8, a9, b1, b2, b3, b4⟩ := hP
  have h313 : ∀ j, B.1 313 j = M.1 313 j := fun j => by rw [hB _ _ (by omega) (by omega) (by omega), hcl _ _ (by omega)]
  refine ⟨(zIl_S b4 a8).keep (fun _ _ _ _ => rfl) rfl (fun c i h => by rw [hB _ _ (by omega) (by omega) (by omega)]; exact hcl _ _ (by omega)) (by rw [hB _ _ (by omega) (by omega) (by omega)]; exact hcl _ _ (by omega)), fun j hj => by rw [h313]; exact (a9 j hj).1, zIl_ln b4 (fun i => by rw [hB _ _ (by omega) (by omega) (by omega)]; exact hcl _ _ (by omega)), fun m hm => ?_⟩
  rw [h313, ← (a9 m hm).1]
  exact (a9 m hm).2
theorem op_nearer (hst : l.stackTraces = false) (hg : zIg M) (hc : zIc M) (hp : zIp M) (hlv : mlV M) (hk : zKeeps I M) (v1 v2 v3 : Int32) : opI l G I yL_nearer cL_nearer 6 [(0, 12, 15, 19), (0, 12, 19, 13)] yX11_nearer cX11_nearer 4 [.int v1, .int v2, .int v3] M := by
  obtain ⟨lc, n, t, cn, lb, hP⟩ := zPl_of hg hp
  obtain ⟨a1, a2, a3, a4, a5, a6, a7, a8, a9, b1, b2, b3, b4⟩ := id hP
  have hl : 180 ≤ lc ∧ lc ≤ 200 := by unfold lyL at a3; omega
  cases hm : zmem v3 n with
  | false => exact opI_bs hg hc hk (by decide) (by decide) (zh_nearerS l G M (mBs M) v1 v2 v3 (zf_nearerX l G M hst n v1 v2 v3 a4 a1.2 hm)) (by decide) (zc_mnearerX l G (mBs M) n v1 v2 v3 (by simp [mBs, zw_at, a5]) a1.2 (by omega) hm)
  | true =>
    obtain ⟨j, hj, rfl⟩ := zmem_ex hm (by omega)
    cases ha : mIn v1 (nI 0) (nI 60) with
    | false => exact opI_ba hg hc hk (by decide) (by decide) (zh_nearerI l G M (mBa M) v1 v2 (nI j) (zf_nearerA l G M hst n j v1 v2 a4 a1.2 hj (by rw [ha]; rfl))) (by decide) (zc_mnearerA l G (mBa M) n j v1 v2 (by simp [mBa, zw_at, a5]) a1.2 (by omega) hj ha)
    | true =>
      cases hb : mIn v2 (nI 0) (nI 1) with
      | false => exact opI_ba hg hc hk (by decide) (by decide) (zh_nearerI l G M (mBa M) v1 v2 (nI j) (zf_nearerA l G M hst n j v1 v2 a4 a1.2 hj (by rw [ha, hb]; rfl))) (by decide) (zc_mnearerB l G (mBa M) n j v1 v2 (by simp [mBa, zw_at, a5]) a1.2 (by omega) hj ha hb)
      | true =>
        obtain ⟨st, -, hst9, rfl⟩ := mIn_ex ha (by decide) (by decide)
        obtain ⟨md, -, hmd, rfl⟩ := mIn_ex hb (by decide) (by decide)
        obtain ⟨R, hR⟩ : ∃ R, R = nPl 170 40 lc n t md cn st M := ⟨_, rfl⟩
        have hC := zf_nearer l G M lc n t cn st md j a4 a1.2 a6 a2 b1 a3 b2 (fun m hm => (a9 m hm).2) b3 hst9 (by omega) hj
        rw [← hR] at hC
        have hcl : ∀ c i, c < 170 ∨ 173 < c → R.1 c i = M.1 c i := fun c i h => by rw [hR]; exact nPl_Z st c i h
        obtain ⟨n1, n2, n3, n4⟩ := nrBoth hP hcl (B := m0 (zwL R 220 0 (R.1 171 j).toInt64)) (fun c i _ _ h => zw_ne (by omega))
        have p1 := nrPl (t := t) (md := md) hl.1 a1.2 n1 n2 st
        rw [← hR] at p1
        have h2 := zc_mnearer l G (zwL R 220 0 (R.1 171 j).toInt64) n t md st j (zMn cn lb) (by rw [zwL_1, hcl _ _ (by omega)]; exact a5) a1.2 (by omega) (by rw [zwL_1, hcl _ _ (by omega)]; exact a7) a2 hst9 (by omega) (zIl_ln b4 (fun i => by rw [zwL_1]; exact hcl _ _ (by omega))) (mlV_of hlv (fun a k h => by rw [zwL_1]; exact hcl _ _ (by omega))) (fun m hm => by rw [zwL_1, hcl _ _ (by omega), ← (a9 m hm).1]; exact (a9 m hm).2) hj
        rw [← (p1.2 j hj).1] at h2
        obtain ⟨k1, k2, k3⟩ := zKeeps.nr hg hc hk hcl (mNg_N (zMn cn lb) st (m0 (zwL R 220 0 (R.1 171 j).toInt64)) (n := n) (t := t) (md := md))
        exact ⟨0, 5, 0, 0, R.1 171 j, _, _, by decide, by decide, by decide, by decide, zh_nearer l G M _ (nI st) (nI md) (nI j) _ hC, zCk.of h2, k2, fun _ => k3, k1⟩
theorem op_spread (hst : l.stackTraces = false) (hg : zIg M) (hc : zIc M) (hp : zIp M) (hlv : mlV M) (hk : zKeeps I M) (v1 v2 : Int32) : opI l G I yL_spread cL_spread 5 [(0, 10, 13, 13)] yX11_spread cX11_spread 3 [.int v1, .int v2] M := by
  obtain ⟨lc, n, t, cn, lb, hP⟩ := zPl_of hg hp
  obtain ⟨a1, a2, a3, a4, a5, a6, a7, a8, a9, b1, b2, b3, b4⟩ := id hP
  have hl : 180 ≤ lc ∧ lc ≤ 200 := by unfold lyL at a3; omega
  cases ha : mIn v1 (nI 0) (nI 60) with
  | false => exact opI_ba hg hc hk (by decide) (by decide) (zh_spreadI l G M (mBa M) v1 v2 (zf_spreadA l G M hst v1 v2 (by rw [ha]; rfl))) (by decide) (zc_mspreadA l G (mBa M) v1 v2 ha)
  | true =>
    cases hb : mIn v2 (nI 0) (nI 1) with
    | false => exact opI_ba hg hc hk (by decide) (by decide) (zh_spreadI l G M (mBa M) v1 v2 (zf_spreadA l G M hst v1 v2 (by rw [ha, hb]; rfl))) (by decide) (zc_mspreadB l G (mBa M) v1 v2 ha hb)
    | true =>
      obtain ⟨st, -, hst9, rfl⟩ := mIn_ex ha (by decide) (by decide)
      obtain ⟨md, -, hmd, rfl⟩ := mIn_ex hb (by decide) (by decide)
      obtain ⟨R, hR⟩ : ∃ R, R = nPl 170 40 lc n t md cn st M := ⟨_, rfl⟩
      have hC := zf_spread l G M lc n t cn st md a4 a1.2 a6 a2 b1 a3 b2 (fun m hm => (a9 m hm).2) b3 hst9 (by omega)
      have hiv : nIv 170 40 lc n t cn (nPl 170 40 lc n t md cn st M) := nPl_iv ⟨a4, a6, b1, b2, fun m hm => (a9 m hm).2, b3⟩ (a3.f (by decide)) (by omega) a1.2 st
      rw [← hR] at hC hiv
      have hcl : ∀ c i, c < 170 ∨ 173 < c → R.1 c i = M.1 c i := fun c i h => by rw [hR]; exact nPl_Z st c i h
      obtain ⟨V, hV⟩ : ∃ V, V = (nWd (R.1 171) (R.1 lc 0) n).toInt32 := ⟨_, rfl⟩
      rw [show (nWd (R.1 (170 + 1 + 0)) (R.1 lc 0) n).toInt32 = V from hV.symm] at hC
      obtain ⟨n1, n2, n3, n4⟩ := nrBoth hP hcl (B := m0 (zwL R 220 0 V.toInt64)) (fun c i _ _ h => zw_ne (by omega))
      have p1 := nrPl (t := t) (md := md) hl.1 a1.2 n1 n2 st
      rw [← hR] at p1
      have h2 := zc_mspread l G (zwL R 220 0 V.toInt64) n t md st (zMn cn lb) (by rw [zwL_1, hcl _ _ (by omega)]; exact a5) a1.2 (by omega) (by rw [zwL_1, hcl _ _ (by omega)]; exact a7) a2 hst9 (by omega) (zIl_ln b4 (fun i => by rw [zwL_1]; exact hcl _ _ (by omega))) (mlV_of hlv (fun a k h => by rw [zwL_1]; exact hcl _ _ (by omega))) (fun m hm => by rw [zwL_1, hcl _ _ (by omega), ← (a9 m hm).1]; exact (a9 m hm).2)
      rw [← nrW a1.2 p1 (fun i hi => hiv.2.2.2.2.2.2 i hi), ← hV] at h2
      obtain ⟨k1, k2, k3⟩ := zKeeps.nr hg hc hk hcl (mNg_N (zMn cn lb) st (m0 (zwL R 220 0 V.toInt64)) (n := n) (t := t) (md := md))
      exact ⟨0, 5, 0, 0, V, _, _, by decide, by decide, by decide, by decide, zh_spread l G M _ (nI st) (nI md) _ hC, zCk.of h2, k2, fun _ => k3, k1⟩
theorem op_total (hst : l.stackTraces = false) (hg : zIg M) (hc : zIc M) (hp : zIp M) (hlv : mlV M) (hk : zKeeps I M) (v1 v2 : Int32) : opJ l G I yL_total cL_total 5 [(0, 9, 12, 13)] yX11_total cX11_total 6 [.int v1, .int v2] M := by
  obtain ⟨lc, n, t, cn, lb, hP⟩ := zPl_of hg hp
  obtain ⟨a1, a2, a3, a4, a5, a6, a7, a8, a9, b1, b2, b3, b4⟩ := id hP
  have hl : 180 ≤ lc ∧ lc ≤ 200 := by unfold lyL at a3; omega
  cases ha : mIn v1 (nI 0) (nI 60) with
  | false => exact opJ_ba hg hc hk (by decide) (by decide) (zh_totalI l G M (mBa M) v1 v2 (zf_totalA l G M hst v1 v2 (by rw [ha]; rfl))) (by decide) (zc_mtotalA l G (mBa M) v1 v2 ha)
  | true =>
    cases hb : mIn v2 (nI 0) (nI 1) with
    | false => exact opJ_ba hg hc hk (by decide) (by decide) (zh_totalI l G M (mBa M) v1 v2 (zf_totalA l G M hst v1 v2 (by rw [ha, hb]; rfl))) (by decide) (zc_mtotalB l G (mBa M) v1 v2 ha hb)
    | true =>
      obtain ⟨st, -, hst9, rfl⟩ := mIn_ex ha (by decide) (by decide)
      obtain ⟨md, -, hmd, rfl⟩ := mIn_ex hb (by decide) (by decide)
      obtain ⟨R, hR⟩ : ∃ R, R = nPl 170 40 lc n t md cn st M := ⟨_, rfl⟩
      have hC := zf_total l G M lc n t cn st md a4 a1.2 a6 a2 b1 a3 b2 (fun m hm => (a9 m hm).2) b3 hst9 (by omega)
      rw [← hR] at hC
      have hcl : ∀ c i, c < 170 ∨ 173 < c → R.1 c i = M.1 c i := fun c i h => by rw [hR]; exact nPl_Z st c i h
      obtain ⟨V, hV⟩ : ∃ V, V = (dSum (R.1 171) (R.1 lc 0) n).toInt64 := ⟨_, rfl⟩
      rw [show (dSum (R.1 (170 + 1 + 0)) (R.1 lc 0) n).toInt64 = V from hV.symm] at hC
      obtain ⟨n1, n2, n3, n4⟩ := nrBoth hP hcl (B := m0 (zwL R 220 0 V)) (fun c i _ _ h => zw_ne (by omega))
      have p1 := nrPl (t := t) (md := md) hl.1 a1.2 n1 n2 st
      rw [← hR] at p1
      have h2 := zc_mtotal l G (zwL R 220 0 V) n t md st (zMn cn lb) (by rw [zwL_1, hcl _ _ (by omega)]; exact a5) a1.2 (by omega) (by rw [zwL_1, hcl _ _ (by omega)]; exact a7) a2 hst9 (by omega) (zIl_ln b4 (fun i => by rw [zwL_1]; exact hcl _ _ (by omega))) (mlV_of hlv (fun a k h => by rw [zwL_1]; exact hcl _ _ (by omega))) (fun m hm => by rw [zwL_1, hcl _ _ (by omega), ← (a9 m hm).1]; exact (a9 m hm).2)
      rw [← nrSum a1.2 p1 n (Nat.le_refl n), ← hV] at h2
      obtain ⟨k1, k2, k3⟩ := zKeeps.nr hg hc hk hcl (mNg_N (zMn cn lb) st (m0 (zwL R 220 0 V)) (n := n) (t := t) (md := md))
      exact ⟨0, 5, 0, 0, V, _, _, by decide, by decide, by decide, by decide, zh_total l G M _ (nI st) (nI md) _ hC, zCk.of h2, k2, fun _ => k3, k1⟩
theorem op_steps (hst : l.stackTraces = false) (hg : zIg M) (hc : zIc M) (hp : zIp M) (hlv : mlV M) (hk : zKeeps I M) (v1 v2 v3 : Int32) : opI l G I yL_steps cL_steps 6 [(0, 12, 15, 13)] yX11_steps cX11_steps 5 [.int v1, .int v2, .int v3] M := by
  obtain ⟨lc, n, t, cn, lb, hP⟩ := zPl_of hg hp
  obtain ⟨a1, a2, a3, a4, a5, a6, a7, a8, a9, b1, b2, b3, b4⟩ := id hP
  have hl : 180 ≤ lc ∧ lc ≤ 200 := by unfold lyL at a3; omega
  cases ha : mIn v1 (nI 0) (nI 99999) with
  | false =>
    refine opI_ba hg hc hk (k := 1) (by decide) (by decide) (zh_stepsI l G M (mBa M) v1 v2 v3 ?_) (by decide) (zc_mstepsA l G (mBa M) v1 v2 v3 ha)
    cases hq : mIn v1 (-99999) (nI 99999) && mIn v2 (nI 1) (nI 999) with
    | false => exact zf_stepsA l G M hst v1 v2 v3 hq
    | true =>
      rw [Bool.and_eq_true] at hq
      refine zf_stepsN l G M hst v1 v2 v3 hq.1 hq.2 ?_
      have h1 := mIn_iff.mp hq.1
      exact Int32.not_le.mp (fun h => by rw [show mIn v1 (nI 0) (nI 99999) = true from mIn_iff.mpr ⟨h, h1.2⟩] at ha; cases ha)
  | true =>
    obtain ⟨a, -, ha9, rfl⟩ := mIn_ex ha (by decide) (by decide)
    have hneg : ¬ nI a < 0 := fun h => absurd ((mIn_iff.mp ha).1) (Int32.not_le.mpr h)
    have ha5 : mIn (nI a) (-99999) (nI 99999) = true := mIn_iff.mpr ⟨Int32.le_trans (by decide) (mIn_iff.mp ha).1, (mIn_iff.mp ha).2⟩
    cases hb : mIn v2 (nI 1) (nI 999) with
    | false => exact opI_ba hg hc hk (k := 1) (by decide) (by decide) (zh_stepsI l G M (mBa M) (nI a) v2 v3 (zf_stepsA l G M hst (nI a) v2 v3 (by rw [hb, Bool.and_false]))) (by decide) (zc_mstepsB l G (mBa M) (nI a) v2 v3 ha hb)
    | true =>
      cases hw : mIn v3 (nI 0) (nI 1) with
      | false => exact opI_ba hg hc hk (k := 1) (by decide) (by decide) (zh_stepsI l G M (mBa M) (nI a) v2 v3 (zf_stepsM l G M hst (nI a) v2 v3 ha5 hb hw)) (by decide) (zc_mstepsC l G (mBa M) (nI a) v2 v3 ha hb hw)
      | true =>
        have hC0 := fun md => zf_steps l G M lc n t cn md (nI a) v2 a4 a1.2 a6 a2 b1 a3 b2 (fun m hm => (a9 m hm).2) b3 ha5 hb hneg
        obtain ⟨b, hb1, hb2, rfl⟩ := mIn_ex hb (by decide) (by decide)
        obtain ⟨md, -, hmd, rfl⟩ := mIn_ex hw (by decide) (by decide)
        have hC := hC0 md (by omega)
        have hLF : lyF lc 170 (170 + 3) := a3.f (by decide)
        have hiv : nIv 170 40 lc n t cn (nBeg 170 40 7 M) := nBeg_iv ⟨a4, a6, b1, b2, fun m hm => (a9 m hm).2, b3⟩ hLF (by omega)
        obtain ⟨R, hR⟩ : ∃ R, R = (nLs 170 40 lc n t md cn (aLim a b) 61 0 (nBeg 170 40 7 M)).2 := ⟨_, rfl⟩
        obtain ⟨V, hV⟩ : ∃ V, V = (nLs 170 40 lc n t md cn (aLim a b) 61 0 (nBeg 170 40 7 M)).1 := ⟨_, rfl⟩
        have hcl : ∀ c i, c < 170 ∨ 173 < c → R.1 c i = M.1 c i := fun c i h => by
          rw [hR]
          have h0 : nrR lc n cn lb (nBeg 170 40 7 M) (mNb n M) := nrBeg hl.1 a1.2 (zIl_S b4 a8) (fun j hj => (a9 j hj).1)
          exact ((nBeg_Z 170 40 7 M).tr (nrLs (md := md) (lim := aLim a b) hl.1 a1.2 hLF 61 0 _ _ hiv h0).2.1) c i h
        have hC9 : zC l G 9 yX10_steps cX10_steps 4 (Option.some Jvm.ClassFile.FieldType.int) [.ref (0 : Nat), .int (nI a), .int (nI b), .int (nI md)] M (zP (some (.int V)) R) := by
          rw [hR, hV]
          exact hC
        obtain ⟨n1, n2, n3, n4⟩ := nrBoth hP hcl (B := m0 (zwL R 220 0 V.toInt64)) (fun c i _ _ h => zw_ne (by omega))
        obtain ⟨q1, q2, q3⟩ := nrLs (md := md) (lim := aLim a b) hl.1 a1.2 hLF 61 0 _ _ hiv (nrBeg hl.1 a1.2 n1 n2)
        have h2 := zc_msteps l G (zwL R 220 0 V.toInt64) n t a b md (zMn cn lb) (by rw [zwL_1, hcl _ _ (by omega)]; exact a5) a1.2 (by omega) (by rw [zwL_1, hcl _ _ (by omega)]; exact a7) a2 ha9 hb1 hb2 (by omega) (zIl_ln b4 (fun i => by rw [zwL_1]; exact hcl _ _ (by omega))) (mlV_of hlv (fun a k h => by rw [zwL_1]; exact hcl _ _ (by omega))) (fun m hm => by rw [zwL_1, hcl _ _ (by omega), ← (a9 m hm).1]; exact (a9 m hm).2)
        rw [← q1, ← hV] at h2
        obtain ⟨k1, k2, k3⟩ := zKeeps.nr hg hc hk hcl ((mNb_N n _).tr q3)
        exact ⟨0, 5, 0, 0, V, _, _, by decide, by decide, by decide, by decide, zh_steps l G M _ (nI a) (nI b) (nI md) _ hC9, zCk.of h2, k2, fun _ => k3, k1⟩
end zNear3
