section zLiA
variable {rc e n w k lo hi j : Nat} {A A1 A2 B B1 B2 : zM} {c p x : Int32}
/-- the reader of the class: what it touches, and that the first fault stays -/
def rFc (a j : Nat) : Prop := a = 20 ∧ (j = 1 ∨ j = 4 ∨ j = 7)
def rZ (A A1 : zM) : Prop := ¬ A.1 20 7 = 0 → A1.1 20 7 = A.1 20 7 ∧ A1.1 20 1 = A.1 20 1
def rK (A A1 : zM) : Prop := zKf rFc A A1 ∧ rZ A A1
theorem rZ.tr (h : rZ A A1) (h2 : rZ A1 A2) : rZ A A2 := fun q => by
  obtain ⟨a, b⟩ := h q
  obtain ⟨c, d⟩ := h2 (by rw [a]; exact q)
  exact ⟨c.trans a, d.trans b⟩
theorem rZ.ok (h : rZ A A1) (q : A1.1 20 7 = 0) : A.1 20 7 = 0 := Classical.byContradiction fun g => g ((h g).1.symm.trans q)
theorem rK.rf : rK A A := ⟨zKf.rf, fun _ => ⟨rfl, rfl⟩⟩
theorem rK.tr (h : rK A A1) (h2 : rK A1 A2) : rK A A2 := ⟨h.1.tr h2.1, h.2.tr h2.2⟩
theorem rAt_K (a : Nat) (A : zM) : rK A (rAt a A) := ⟨zKf.rf.w (by unfold rFc; omega), fun _ => ⟨zw_ne (by omega), zw_ne (by omega)⟩⟩
theorem rFail_K (x p : Int32) (A : zM) : rK A (rFail x p A) := by
  unfold rFail
  split
  · rename_i h
    exact ⟨(zKf.rf.w (by unfold rFc; omega)).w (by unfold rFc; omega), fun q => absurd h q⟩
  · exact rK.rf
theorem rTm_K (e : Nat) (c : Int32) (A : zM) : rK A (rTm e c A) := by
  unfold rTm
  split
  · exact rAt_K _ _
  · exact rAt_K _ _
theorem rNd_K (e : Nat) (c : Int32) (A : zM) : rK A (rNd e c A) := by
  unfold rNd
  split
  · exact rTm_K _ _ _
  · exact (rTm_K _ _ _).tr (rFail_K _ _ _)
theorem rWm_K (e j : Nat) (A : zM) : rK A (rWm e j A) := by
  unfold rWm
  split
  · exact rAt_K _ _
  · exact rAt_K _ _
theorem rNm_K (e lo hi : Nat) (A : zM) : rK A (rNm e lo hi A) := by
  unfold rNm
  split
  · exact (rAt_K _ _).tr (rFail_K _ _ _)
  · split
    · exact (rAt_K _ _).tr (rFail_K _ _ _)
    · exact rAt_K _ _
theorem rVm_K (e : Nat) (A : zM) : rK A (rVm e A) := by
  have h : rK A (rVc e A) := ((rTm_K _ _ _).tr (rNm_K _ _ _ _)).tr (rTm_K _ _ _)
  unfold rVm
  split
  · exact h.tr (rNm_K _ _ _ _)
  · exact h
theorem rOm_K (e j lo hi : Nat) (A : zM) : rK A (rOm e j lo hi A) := by
  unfold rOm
  split
  · exact (rWm_K _ _ _).tr (rNm_K _ _ _ _)
  · exact rWm_K _ _ _
theorem rLa_K (e rc w : Nat) (A : zM) : rK A (rLa e rc w A) := by
  unfold rLa
  split
  · exact (rAt_K _ _).tr (rFail_K _ _ _)
  · exact rK.rf
theorem rO3_K (e rc n w : Nat) (A : zM) : rK A (rO3 e rc n w A) := (((rLa_K _ _ _ _).tr (rOm_K _ _ _ _ _)).tr (rOm_K _ _ _ _ _)).tr (rOm_K _ _ _ _ _)
theorem rQ3_K (e rc n : Nat) (A : zM) : rK A (rQ3 e rc n A) := by
  have h1 : rK A (rQ1 e A) := by
    unfold rQ1
    split
    · exact rWm_K _ _ _
    · exact (rWm_K _ _ _).tr (rFail_K _ _ _)
  have h2 : rK A (rQ2 e n A) := (h1.tr (rAt_K _ _)).tr (rNm_K _ _ _ _)
  unfold rQ3
  split
  · exact h2.tr (rFail_K _ _ _)
  · exact h2
theorem rQ4_K (e rc n : Nat) (A : zM) : rK A (rQ4 e rc n A) := (rQ3_K _ _ _ _).tr (rNd_K _ _ _)
/-- .. while it reads a lie of w that has k before -/
def rFl (rc w k : Nat) (a j : Nat) : Prop := rFc a j ∨ (a = rc + 1 + 1 ∧ j = w) ∨ (rc + 3 ≤ a ∧ a ≤ rc + 8 ∧ j = w * 12 + k)
def rKl (rc w k : Nat) (A A1 : zM) : Prop := zKf (rFl rc w k) A A1 ∧ rZ A A1 ∧ (lyV rc A → lyV rc A1)
theorem rKl.tr (h : rKl rc w k A A1) (h2 : rKl rc w k A1 A2) : rKl rc w k A A2 := ⟨h.1.tr h2.1, h.2.1.tr h2.2.1, fun q => h2.2.2 (h.2.2 q)⟩
theorem lyV_K (hr : 100 ≤ rc) (h : rK A A1) (q : lyV rc A) : lyV rc A1 := fun a ha => by
  rw [h.1.1 _ _ (by unfold rFc; omega), h.1.1 _ _ (by unfold rFc; omega)]
  exact q a ha
theorem rK.l (hr : 100 ≤ rc) (h : rK A A1) : rKl rc w k A A1 := ⟨h.1.mono (fun _ _ q => Or.inl q), h.2, lyV_K hr h⟩
theorem lSet_K (hr : 100 ≤ rc) {v1 v2 v3 : Int32} (h2 : okV v2) (h3 : okV v3) (A : zM) : rKl rc w k A (lSetAct rc (w * 12 + k) v1 v2 v3 A) := by
  unfold lSetAct
  refine ⟨((zKf.rf.w (by unfold rFl; omega)).w (by unfold rFl; omega)).w (by unfold rFl; omega), fun _ => ⟨?_, ?_⟩, fun q a ha => ?_⟩
  · rw [zw_ne (by omega), zw_ne (by omega), zw_ne (by omega)]
  · rw [zw_ne (by omega), zw_ne (by omega), zw_ne (by omega)]
  · constructor
    · rw [zw_ne (by omega), zw_at]
      split
      · exact h2
      · rw [zw_ne (by omega)]; exact (q a ha).1
    · rw [zw_at]
      split
      · exact h3
      · rw [zw_ne (by omega), zw_ne (by omega)]; exact (q a ha).2
theorem lAdd_K (hr : 100 ≤ rc) (w k : Nat) (r x o : Int32) (A : zM) : rKl rc w k A (lAdd rc w k r x o A) := by
  unfold lAdd
  split
  · exact rK.rf.l hr
  · refine rKl.tr (A1 := zw (zw (zw (zw A (rc + 1 + 1) w (nI (k + 1))) (rc + 1 + 2) (w * 12 + k) r) (rc + 1 + 3) (w * 12 + k) x) (rc + 1 + 4) (w * 12 + k) o) ⟨(((zKf.rf.w (by unfold rFl; omega)).w (by unfold rFl; omega)).w (by unfold rFl; omega)).w (by unfold rFl; omega), fun _ => ⟨?_, ?_⟩, fun q a ha => ?_⟩ (lSet_K hr okV_0 okV_0 _)
    · rw [zw_ne (by omega), zw_ne (by omega), zw_ne (by omega), zw_ne (by omega)]
    · rw [zw_ne (by omega), zw_ne (by omega), zw_ne (by omega), zw_ne (by omega)]
    · rw [zw_ne (by omega), zw_ne (by omega), zw_ne (by omega), zw_ne (by omega), zw_ne (by omega), zw_ne (by omega), zw_ne (by omega), zw_ne (by omega)]
      exact q a ha
theorem lyK_K (hr : 100 ≤ rc) (h : rK A A1) : lyK rc w A1 = lyK rc w A := by
  unfold lyK
  rw [h.1.1 _ _ (by unfold rFc; omega)]
/-- the deed of a lie that was begun -/
theorem rAc_K (hr : 100 ≤ rc) (hk : lyK rc w A = k + 1) : rKl rc w k A (rAc e rc w A) := by
  have H : ∀ {A1 : zM} {v1 v2 v3 : Int32}, rK A A1 → okV v2 → okV v3 → rKl rc w k A (lSetActIf rc w (lyK rc w A1) v1 v2 v3 A1) := fun h h2 h3 => by
    rw [lyK_K hr h, hk]
    unfold lSetActIf
    rw [if_neg (Nat.succ_ne_zero k)]
    exact (h.l hr).tr (lSet_K hr h2 h3 _)
  unfold rAc
  split
  · exact H ((rWm_K _ _ _).tr (rVm_K _ _)) rVv_ok okV_0
  · split
    · exact H (((rWm_K _ _ _).tr (rVm_K _ _)).tr (rVm_K _ _)) rVv_ok rVv_ok
    · split
      · exact H (rWm_K _ _ _) okV_0 okV_0
      · split
        · exact H (rWm_K _ _ _) okV_0 okV_0
        · split
          · exact (rWm_K _ _ _).l hr
          · exact ((rWm_K _ _ _).tr (rFail_K _ _ _)).l hr
theorem rLie_K (hr : 100 ≤ rc) (hk : lyK rc w A = k) (hk2 : k ≤ 12) (hw : w < 7) : rKl rc w k A (rLie e rc n w A) := by
  have h3 := rO3_K e rc n w A
  unfold rLie
  split
  · rename_i h0
    have hk3 : lyK rc w (rO3 e rc n w A) = k := (lyK_K hr h3).trans hk
    by_cases e12 : 12 ≤ k
    · exfalso
      have h1 : ¬ (rLa e rc w A).1 20 7 = 0 := by
        unfold rLa
        rw [if_pos (by omega)]
        refine rFail_n ?_
        split
        · decide
        · decide
      have h2 : rK (rLa e rc w A) (rO3 e rc n w A) := ((rOm_K _ _ _ _ _).tr (rOm_K _ _ _ _ _)).tr (rOm_K _ _ _ _ _)
      exact h1 (h2.2.ok h0)
    · have h4 : rKl rc w k (rO3 e rc n w A) (rAdd e rc n w A) := by
        unfold rAdd
        rw [hk3]
        exact lAdd_K hr _ _ _ _ _ _
      refine ((h3.l hr).tr h4).tr (rAc_K hr ?_)
      unfold rAdd
      rw [hk3]
      unfold lyK
      rw [lAdd_k (by omega), if_pos rfl]
      exact nI_clamp (by omega)
  · exact h3.l hr
/-- the reader of the reference: the first fault stays -/
def uZ (B B1 : zM) : Prop := ¬ B.1 300 6 = 0 → B1.1 300 6 = B.1 300 6 ∧ B1.1 300 7 = B.1 300 7
theorem uZ.tr (h : uZ B B1) (h2 : uZ B1 B2) : uZ B B2 := fun q => by
  obtain ⟨a, b⟩ := h q
  obtain ⟨c, d⟩ := h2 (by rw [a]; exact q)
  exact ⟨c.trans a, d.trans b⟩
theorem uZ.ok (h : uZ B B1) (q : B1.1 300 6 = 0) : B.1 300 6 = 0 := Classical.byContradiction fun g => g ((h g).1.symm.trans q)
theorem uZ.rf : uZ B B := fun _ => ⟨rfl, rfl⟩
theorem uAt_Z (a : Nat) (B : zM) : uZ B (uAt a B) := fun _ => ⟨zw_ne (by omega), zw_ne (by omega)⟩
theorem uW_Z {a j : Nat} {x : Int32} (h : a ≠ 300) (B : zM) : uZ B (zw B a j x) := fun _ => ⟨zw_ne (by omega), zw_ne (by omega)⟩
theorem mWr_Z (x p : Int32) (B : zM) : uZ B (mWr x p B) := fun q => by rw [mWr, if_neg q]; exact ⟨rfl, rfl⟩
theorem uTm_Z (e j : Nat) (B : zM) : uZ B (uTm e j B) := fun q => by rw [uTm, if_neg q]; exact ⟨rfl, rfl⟩
theorem uSg_Z (e : Nat) (c : Int32) (B : zM) : uZ B (uSg e c B) := fun q => by rw [uSg, if_neg q]; exact ⟨rfl, rfl⟩
theorem uNm_Z (e lo hi : Nat) (B : zM) : uZ B (uNm e lo hi B) := fun q => by rw [uNm, if_neg q]; exact ⟨rfl, rfl⟩
theorem uVz_Z (e : Nat) (B : zM) : uZ B (uVz e B) := fun q => by rw [uVz, if_neg q]; exact ⟨rfl, rfl⟩
theorem uOm_Z (e j lo hi : Nat) (B : zM) : uZ B (uOm e j lo hi B) := by
  unfold uOm
  split
  · exact (uTm_Z _ _ _).tr (uNm_Z _ _ _ _)
  · exact uTm_Z _ _ _
end zLiA
