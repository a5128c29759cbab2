section zEcho5
theorem zpop_tab : ∀ v, v < 128 → zpop (nI v) = nI (zcnt (fun i => v.testBit i) 7) := by decide +kernel
theorem zpop_cnt {x : Int32} (h : ∀ b, 7 ≤ b → b < 32 → bt x b = false) : zpop x = nI (zcnt (fun i => bit x i) 7) := by
  have hv : x.toBitVec.toNat < 2 ^ 7 := Nat.lt_pow_two_of_testBit _ (fun i hi => by
    rw [← bt_tn]
    rcases Nat.lt_or_ge i 32 with h1 | h1
    · exact h i hi h1
    · exact b_big h1)
  have e : nI x.toBitVec.toNat = x := b_ext (fun i hi => by rw [bt_nI (by omega), bt_tn])
  have h1 := zpop_tab x.toBitVec.toNat (by omega)
  rw [e] at h1
  rw [h1]
  congr 1
  exact zcnt_congr 7 (fun i hi => by rw [bit_bt (by omega), bt_tn])
variable {lc n c t : Nat} {cn : Nat → Nat} {mn : Nat → Option Nat} {lb : Nat → Bool}
/-- no bit but of members -/
def zHi (M : zM) : Prop := ∀ s x, (s = 156 ∨ s = 157) → x < 7 → ∀ b, 7 ≤ b → b < 32 → bt (M.1 s x) b = false
theorem zHi.go {M M2 : zM} (h : zHi M) (hh : ∀ s x, (s = 156 ∨ s = 157) → M2.1 s x = M.1 s x) : zHi M2 := fun s x hs hx b h1 h2 => by rw [hh s x hs]; exact h s x hs hx b h1 h2
theorem zHi.for {f : Nat → zM → zM} (hf : ∀ i M, i < n → zHi M → zHi (f i M)) : ∀ k, k ≤ n → ∀ M, zHi M → zHi (zfor f k M)
  | 0, _, _, h => h
  | k + 1, hk, M, h => hf k _ (by omega) (zHi.for hf k (by omega) M h)
theorem zHi_Q {ra sa x w : Nat} {o : Option (Option Int32)} {M : zM} (hw : w < 7) (hra : ra ≠ 156 ∧ ra ≠ 157) (h : zHi M) : zHi (eQ ra sa x w o M) := by
  match o with
  | none => exact h
  | some none => exact h
  | some (some v) =>
    show zHi (zw (zw M ra (x * 7 + w) v) sa x (M.1 sa x ||| (nI 1 <<< (nI w &&& 31))))
    intro s y hs hy b h1 h2
    rw [zw_at]
    split
    · rename_i e
      rw [b_or, bt_sh (by omega) h2, decide_eq_false (by omega), Bool.or_false, ← e.1, ← e.2]
      exact h s y hs hy b h1 h2
    · rw [zw_ne (Or.inl (by omega))]; exact h s y hs hy b h1 h2
theorem zHi_T {q w : Nat} {tr : Int32} {ra sa : Nat} (hw : w < 7) (hra : ra ≠ 156 ∧ ra ≠ 157) {M : zM} (h : zHi M) : zHi (eT 150 lc c cn q w tr ra sa n M) := by
  unfold eT
  refine zHi.for (n := n) (fun x M _ hM => ?_) n (Nat.le_refl n) M h
  unfold eT1
  split
  · exact zHi_Q hw hra hM
  · exact zHi_Q hw hra (hM.go (fun s x hs => kCnt_e (by omega)))
theorem zHi_P {A : zM} (hn7 : n ≤ 7) : zHi (ePlay 150 40 lc c n t cn A) := by
  obtain ⟨a1, -, -, -⟩ := eBegin_at (c := c) (A := A)
  have h0 : zHi (eS 150 lc c cn (A.1 (40 + 1 + 4) c) n (eBegin 150 c A)) := by
    have hs9 : ∀ s x, (s = 156 ∨ s = 157) → (eS 150 lc c cn (A.1 (40 + 1 + 4) c) n (eBegin 150 c A)).1 s x = (eBegin 150 c A).1 s x := fun s x hs => by
      unfold eS
      refine zfor_at (fun i M => ?_) n _
      have hP : ∀ o (M : zM), (eP 150 i o M).1 s x = M.1 s x := fun o M => by
        unfold eP
        split
        · rw [zw_ne (by omega), zw_ne (by omega)]
        · rfl
      unfold eS1
      split
      · exact hP _ _
      · rw [hP]; exact kCnt_e (by omega)
    intro s x hs hx b h1 h2
    rw [hs9 s x hs]
    rcases hs with rfl | rfl
    · rw [(a1 x hx).2.2.2.1]; exact bt_0 b
    · rw [(a1 x hx).2.2.2.2]; exact bt_0 b
  unfold ePlay ePb ePa
  refine zHi.for (n := 4) (fun i M _ hM => ?_) 4 (Nat.le_refl 4) _ (zHi.for (n := n) (fun m M hm hM => ?_) n (Nat.le_refl n) _ h0)
  · unfold eRnd eRb eAc eRa
    refine zHi.for (n := n) (fun m M hm hM => ?_) n (Nat.le_refl n) _ (zHi.for (n := n) (fun m M hm hM => ?_) n (Nat.le_refl n) _ (zHi.for (n := n) (fun m M hm hM => ?_) n (Nat.le_refl n) _ hM))
    · refine hM.go (fun s x hs => ?_)
      unfold eA1
      split
      · split
        · rw [zw_ne (by omega), zw_ne (by omega)]
        · rfl
      · rfl
    · unfold eR2
      split
      · exact zHi_T (by omega) (by omega) hM
      · exact hM
    · refine hM.go (fun s x hs => ?_)
      unfold eR1 eMk
      split
      · split
        · rw [zw_ne (by omega), zw_ne (by omega)]
        · split
          · rw [zw_ne (by omega), zw_ne (by omega)]
          · rfl
      · rfl
  · unfold eE1
    split
    · exact zHi_T (by omega) (by omega) hM
    · exact hM
theorem eTb_cnt {ra sa ka kb : Nat} {A B : zM} (hn7 : n ≤ 7) (h : eTb n ra sa ka kb A B) {x : Nat} (hx : x < n) : zcnt (fun i => bit (A.1 sa x) i) 7 = zcnt (fun e => !decide (B.1 (1000 + 16 * kb + x) e = 0)) n := by
  have h8 := zcnt_ext (p := fun i => bit (A.1 sa x) i) (q := fun e => !decide (B.1 (1000 + 16 * kb + x) e = 0)) (n := n) (fun i hi => ?_) (7 - n) (fun i h1 h2 => ?_)
  · rw [show n + (7 - n) = 7 by omega] at h8
    exact h8
  · show bit (A.1 sa x) i = _
    rw [(h x hx i (by omega)).1, decide_eq_true hi, Bool.true_and]
  · show bit (A.1 sa x) i = _
    rw [(h x hx i (by omega)).1, decide_eq_false (by omega), Bool.false_and]
variable {l : Launch} {G : zG} {I : zM → Prop} {M : zM}
/-- the echoes by the class, then by the reference -/
theorem ecBoth (hP : zPl M lc n t cn lb) {j : Nat} (hj : j < n) {R : zM} (hR : R = ePlay 150 40 lc j n t cn M) {B : zM} (hB : ∀ c k, c ≠ 0 → c ≠ 302 → ¬ (c = 300 ∧ k = 0) → B.1 c k = R.1 c k) :
    (∀ c i, c < 150 ∨ 163 < c → R.1 c i = M.1 c i) ∧ ecR lc n 7 cn (zMn cn lb) lb R (mEcho n j t (zMn cn lb) 4 B) ∧ zHi R ∧ kE B (mEcho n j t (zMn cn lb) 4 B) := by
  obtain ⟨a1, a2, a3, a4, a5, a6, a7, a8, a9, b1, b2, b3, b4⟩ := hP
  have hl : 180 ≤ lc ∧ lc ≤ 200 := by unfold lyL at a3; omega
  have hcl : ∀ c i, c < 150 ∨ 163 < c → R.1 c i = M.1 c i := fun c i h => by rw [hR]; exact (eFi.p 150 40 lc j n t cn 4 M).1 c i (by omega)
  have hS : zS lc cn (zMn cn lb) lb M B := (zIl_S b4 a8).keep (fun _ _ _ _ => rfl) rfl (fun c i h => by rw [hB _ _ (by omega) (by omega) (by omega)]; exact hcl _ _ (by omega)) (by rw [hB _ _ (by omega) (by omega) (by omega)]; exact hcl _ _ (by omega))
  have p1 := ecPlay (t := t) hl.1 a1.2 hj hS (fun i hi => by rw [hB _ _ (by omega) (by omega) (by omega), hcl _ _ (by omega)]; exact (a9 i hi).1)
  rw [← hR] at p1
  exact ⟨hcl, p1, by rw [hR]; exact zHi_P a1.2, mEcho_E a1.2 j t _ 4 B⟩
theorem zKeeps.ec (hg : zIg M) (hc : zIc M) (hk : zKeeps I M) {R D : zM} {W : Int64} (hcl : ∀ c i, c < 150 ∨ 163 < c → R.1 c i = M.1 c i) (hK : kE (m0 (zwL R 220 0 W)) D) : I D ∧ D.1 300 0 = nI 0 ∧ D.2 220 0 = W := by
  refine ⟨zKeeps.go hg hc hk (fun c i h => ?_), ?_, ?_⟩
  · unfold zKp at h
    rw [hK.1 _ _ (by unfold mFrE; omega), zw_ne (by omega)]
    exact hcl _ _ (by omega)
  · rw [hK.1 _ _ (by unfold mFrE; omega)]; exact zw_same
  · rw [hK.2]; exact zwL_22 (M := R)
theorem op_echoes (hst : l.stackTraces = false) (hg : zIg M) (hc : zIc M) (hp : zIp M) (hk : zKeeps I M) (v1 v2 : Int32) : opI l G I yL_echoes cL_echoes 5 [(0, 10, 13, 19), (0, 10, 17, 13)] yX11_echoes cX11_echoes 3 [.int v1, .int v2] M := by
  obtain ⟨lc, n, t, cn, lb, hP⟩ := zPl_of hg hp
  obtain ⟨a1, a2, a3, a4, a5, a6, a7, a8, a9, b1, b2, b3, b4⟩ := id hP
  cases hm : zmem v1 n with
  | false => exact opI_bs hg hc hk (by decide) (by decide) (zh_echoesS l G M (mBs M) v1 v2 (zf_echoesX l G M hst n v1 v2 a4 a1.2 hm)) (by decide) (zc_mechoesX l G (mBs M) n v1 v2 (by simp [mBs, zw_at, a5]) a1.2 (by omega) hm)
  | true =>
    obtain ⟨j, hj, rfl⟩ := zmem_ex hm (by omega)
    cases hw : mIn v2 (nI 0) (nI 4) with
    | false => exact opI_ba hg hc hk (by decide) (by decide) (zh_echoesI l G M (mBa M) (nI j) v2 (zf_echoesK l G M hst n j v2 a4 a1.2 hj hw)) (by decide) (zc_mechoesK l G (mBa M) n j v2 (by simp [mBa, zw_at, a5]) a1.2 (by omega) hj hw)
    | true =>
      obtain ⟨k, -, hk9, rfl⟩ := mIn_ex hw (by decide) (by decide)
      obtain ⟨R, hR⟩ : ∃ R, R = ePlay 150 40 lc j n t cn M := ⟨_, rfl⟩
      have hC := zf_echoes l G M lc n t cn j k a4 a1.2 a6 a2 b1 a3 b2 hj hk9
      rw [← hR] at hC
      obtain ⟨hcl, p1, -, hK⟩ := ecBoth hP hj hR (B := m0 (zwL R 220 0 (fEc lc n R k).toInt64)) (fun c i _ _ h => zw_ne (by omega))
      have h2 := zc_mechoes l G (zwL R 220 0 (fEc lc n R k).toInt64) n t j k (zMn cn lb) (by rw [zwL_1, hcl _ _ (by omega)]; exact a5) a1.2 (by omega) (by rw [zwL_1, hcl _ _ (by omega)]; exact a7) a2 hj hk9 (zIl_ln b4 (fun i => by rw [zwL_1]; exact hcl _ _ (by omega)))
      obtain ⟨k1, k2, k3⟩ := zKeeps.ec hg hc hk hcl hK
      have hv : ∀ D : zM, ecR lc n 7 cn (zMn cn lb) lb R D → (if k < 3 then mAcO D n k else if k = 3 then D.1 300 47 else D.1 300 48) = fEc lc n R k := fun D q1 => by
        obtain ⟨⟨c1, c2, c3⟩, w, -, -, -⟩ := q1
        have e1 : ∀ i, i < n → bit (R.1 lc 0) i = mLiar D i := fun i hi => by rw [(c3.2.2 i (by omega)).1, (c3.2.2 i (by omega)).2]
        have e4 : ∀ i, i < n → ∃ r : Nat, r < 100 ∧ R.1 154 i = nI r := fun i hi => by
          obtain ⟨-, -, -, ⟨q, h1, h2⟩, -⟩ := w i hi
          exact ⟨q, by omega, h2⟩
        match k, hk9 with
        | 0, _ => exact congrArg nI (eFig0 (acc := fun _ => 0) a1.2 e1 (fun i hi => (w i hi).1) (fun i hi => (w i hi).2.1)).symm
        | 1, _ => exact congrArg nI (eFig1 e1 (fun i hi => (w i hi).2.1) e4).symm
        | 2, _ => exact ((eFig2 e1 (fun i hi => (w i hi).2.1) e4) n (Nat.le_refl n)).1.symm
        | 3, _ => exact c1.symm
        | 4, _ => exact c2.symm
      rw [hv _ p1] at h2
      exact ⟨0, 4, 0, 0, fEc lc n R k, _, _, by decide, by decide, by decide, by decide, zh_echoes l G M _ (nI j) (nI k) _ hC, zCk.of h2, k2, fun _ => k3, k1⟩
theorem op_echoesOf (hst : l.stackTraces = false) (hg : zIg M) (hc : zIc M) (hp : zIp M) (hk : zKeeps I M) (v1 v2 v3 : Int32) : opI l G I yL_echoesOf cL_echoesOf 6 [(0, 12, 15, 19), (0, 12, 19, 13)] yX11_echoesOf cX11_echoesOf 4 [.int v1, .int v2, .int v3] M := by
  obtain ⟨lc, n, t, cn, lb, hP⟩ := zPl_of hg hp
  obtain ⟨a1, a2, a3, a4, a5, a6, a7, a8, a9, b1, b2, b3, b4⟩ := id hP
  cases hm : zmem v1 n with
  | false => exact opI_bs hg hc hk (by decide) (by decide) (zh_echoesOfS l G M (mBs M) v1 v2 v3 (zf_echoesOfX l G M hst n v1 v2 v3 a4 a1.2 hm)) (by decide) (zc_mechoesOfX l G (mBs M) n v1 v2 v3 (by simp [mBs, zw_at, a5]) a1.2 (by omega) hm)
  | true =>
    obtain ⟨j, hj, rfl⟩ := zmem_ex hm (by omega)
    cases hm2 : zmem v2 n with
    | false => exact opI_bs hg hc hk (by decide) (by decide) (zh_echoesOfS l G M (mBs M) (nI j) v2 v3 (zf_echoesOfZ l G M hst n j v2 v3 a4 a1.2 hj hm2)) (by decide) (zc_mechoesOfZ l G (mBs M) n j v2 v3 (by simp [mBs, zw_at, a5]) a1.2 (by omega) hj hm2)
    | true =>
      obtain ⟨i, hi, rfl⟩ := zmem_ex hm2 (by omega)
      cases hw : mIn v3 (nI 0) (nI 4) with
      | false => exact opI_ba hg hc hk (by decide) (by decide) (zh_echoesOfI l G M (mBa M) (nI j) (nI i) v3 (zf_echoesOfK l G M hst n j i v3 a4 a1.2 hj hi hw)) (by decide) (zc_mechoesOfK l G (mBa M) n j i v3 (by simp [mBa, zw_at, a5]) a1.2 (by omega) hj hi hw)
      | true =>
        obtain ⟨k, -, hk9, rfl⟩ := mIn_ex hw (by decide) (by decide)
        obtain ⟨R, hR⟩ : ∃ R, R = ePlay 150 40 lc j n t cn M := ⟨_, rfl⟩
        have hC := zf_echoesOf l G M lc n t cn j i k a4 a1.2 a6 a2 b1 a3 b2 hj hi hk9
        rw [← hR] at hC
        obtain ⟨hcl, p1, hHi, hK⟩ := ecBoth hP hj hR (B := m0 (zwL R 220 0 (fEo R i k).toInt64)) (fun c i _ _ h => zw_ne (by omega))
        have h2 := zc_mechoesOf l G (zwL R 220 0 (fEo R i k).toInt64) n t j i k (zMn cn lb) (by rw [zwL_1, hcl _ _ (by omega)]; exact a5) a1.2 (by omega) (by rw [zwL_1, hcl _ _ (by omega)]; exact a7) a2 hj hi hk9 (zIl_ln b4 (fun i => by rw [zwL_1]; exact hcl _ _ (by omega)))
        obtain ⟨k1, k2, k3⟩ := zKeeps.ec hg hc hk hcl hK
        have hv : ∀ D : zM, ecR lc n 7 cn (zMn cn lb) lb R D → mEo n i D k = fEo R i k := fun D q1 => by
          obtain ⟨-, w, u1, u2, -⟩ := q1
          obtain ⟨w1, w2, w3, -, -⟩ := w i hi
          match k, hk9 with
          | 0, _ => exact w1.symm
          | 1, _ => exact w2.symm
          | 2, _ => exact w3.symm
          | 3, _ =>
            show _ = zpop (R.1 156 i)
            rw [zpop_cnt (hHi 156 i (Or.inl rfl) (by omega)), eTb_cnt a1.2 u1 hi]
            rfl
          | 4, _ =>
            show _ = zpop (R.1 157 i)
            rw [zpop_cnt (hHi 157 i (Or.inr rfl) (by omega)), eTb_cnt a1.2 u2 hi]
            rfl
        rw [hv _ p1] at h2
        exact ⟨0, 4, 0, 0, fEo R i k, _, _, by decide, by decide, by decide, by decide, zh_echoesOf l G M _ (nI j) (nI i) (nI k) _ hC, zCk.of h2, k2, fun _ => k3, k1⟩
end zEcho5
