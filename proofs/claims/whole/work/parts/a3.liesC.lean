section zLiC
variable {rc e n w k lo hi j q a : Nat} {A A1 A2 A3 B B1 B2 : zM} {c p x : Int32}
/-- a lie of the class in one memory, of the reference in another -/
def zLie2 (A B : zM) (c a q : Nat) : Prop :=
  ((A.1 (c + 1 + 2) a = -1 ∧ B.1 q 0 = 0) ∨ ∃ r, 1 ≤ r ∧ r < 1000 ∧ A.1 (c + 1 + 2) a = nI r ∧ B.1 q 0 = nI r) ∧ A.1 (c + 1 + 3) a = B.1 q 1 ∧ A.1 (c + 1 + 4) a = B.1 q 2 ∧ A.1 (c + 1 + 5) a = B.1 q 3 ∧ (B.1 q 3 = 0 ∨ B.1 q 3 = nI 1 → A.1 (c + 1 + 6) a = B.1 q 4) ∧ (B.1 q 3 = nI 1 → A.1 (c + 1 + 7) a = B.1 q 5) ∧ okV (B.1 q 4) ∧ okV (B.1 q 5)
theorem zLie2.go (h : zLie2 A B rc a q) (ha : ∀ b, rc + 3 ≤ b → b ≤ rc + 8 → A1.1 b a = A.1 b a) (hb : ∀ j, B1.1 q j = B.1 q j) : zLie2 A1 B1 rc a q := by
  unfold zLie2
  rw [ha _ (by omega) (by omega), ha _ (by omega) (by omega), ha _ (by omega) (by omega), ha _ (by omega) (by omega), ha _ (by omega) (by omega), ha _ (by omega) (by omega), hb, hb, hb, hb, hb, hb]
  exact h
theorem rR.sa (h : rR rc e n A B) (hA : rSt rc e n A1) (h20 : ∀ j, A1.1 20 j = A.1 20 j) (h24 : ∀ j, A1.1 24 j = A.1 24 j) : rR rc e n A1 B := by
  obtain ⟨r1, r2, r3, r4, r5, r6⟩ := h
  refine ⟨hA, r2, fun j hj => by rw [h24]; exact r3 j hj, by rw [h20]; exact r4, by rw [h20]; exact r5, fun z => ?_⟩
  rw [h20] at z
  have := r6 z
  unfold rA at this ⊢
  rw [h20]
  exact this
theorem uL3_c (hc : 301 ≤ q) : (uL3 e n q B).1 q 0 = uOx e 1 1 3 (nI 0) B ∧ (uL3 e n q B).1 q 1 = uOx e 2 0 (n - 1) (-1) (uL1 e q B) ∧ (uL3 e n q B).1 q 2 = uOx e 3 0 (n - 1) (-1) (uL2 e n q B) := by
  have H : ∀ j lo hi (D : zM) i, (uOm e j lo hi D).1 q i = D.1 q i := fun j lo hi D i => (uOm_k e j lo hi D).1 _ _ (by unfold uFr; omega)
  unfold uL3
  refine ⟨?_, ?_, zw_same⟩
  · rw [zw_ne (by omega), H]
    unfold uL2
    rw [zw_ne (by omega), H]
    unfold uL1
    exact zw_same
  · rw [zw_ne (by omega), H]
    unfold uL2
    exact zw_same
theorem uL7_c (hc : 301 ≤ q) : (∀ i, i < 3 → (uL7 e n q B).1 q i = (uL3 e n q B).1 q i) ∧ (uL7 e n q B).1 q 3 = nI (uAx e (uL4 e n q B)) ∧ (uAx e (uL4 e n q B) ≤ 1 → (uL7 e n q B).1 q 4 = uVv e (uL5 e n q B)) ∧ (uAx e (uL4 e n q B) = 1 → (uL7 e n q B).1 q 5 = uVv e (uL6 e n q B)) := by
  have hV : ∀ (D : zM) i, (uVz e D).1 q i = D.1 q i := fun D i => (uVz_k e D).1 _ _ (by unfold uFr; omega)
  have h5 : ∀ i, i < 3 → (uL5 e n q B).1 q i = (uL3 e n q B).1 q i := fun i hi => by
    unfold uL5
    rw [zw_ne (by omega), (uAm_k e _).1 _ _ (by unfold uFr; omega)]
    exact uAt_c (by omega)
  have h53 : (uL5 e n q B).1 q 3 = nI (uAx e (uL4 e n q B)) := zw_same
  have h6 : (∀ i, i < 4 → (uL6 e n q B).1 q i = (uL5 e n q B).1 q i) ∧ (uAx e (uL4 e n q B) ≤ 1 → (uL6 e n q B).1 q 4 = uVv e (uL5 e n q B)) := by
    unfold uL6
    split
    · exact ⟨fun i hi => by rw [zw_ne (by omega), hV], fun _ => zw_same⟩
    · rename_i g
      exact ⟨fun i hi => zw_ne (by omega), fun z => absurd z g⟩
  have h7 : (∀ i, i < 5 → (uL7 e n q B).1 q i = (uL6 e n q B).1 q i) ∧ (uAx e (uL4 e n q B) = 1 → (uL7 e n q B).1 q 5 = uVv e (uL6 e n q B)) := by
    unfold uL7
    split
    · exact ⟨fun i hi => by rw [zw_ne (by omega), hV], fun _ => zw_same⟩
    · rename_i g
      exact ⟨fun i hi => zw_ne (by omega), fun z => absurd z g⟩
  exact ⟨fun i hi => by rw [h7.1 i (by omega), h6.1 i (by omega), h5 i hi], by rw [h7.1 3 (by omega), h6.1 3 (by omega), h53], fun z => by rw [h7.1 4 (by omega)]; exact h6.2 z, h7.2⟩
theorem uL7_ok (hc : 301 ≤ q) : okV ((uL7 e n q B).1 q 4) ∧ okV ((uL7 e n q B).1 q 5) := by
  have hV : ∀ (D : zM) i, (uVz e D).1 q i = D.1 q i := fun D i => (uVz_k e D).1 _ _ (by unfold uFr; omega)
  have h6 : okV ((uL6 e n q B).1 q 4) := by
    unfold uL6
    split
    · rw [zw_same]; exact uVv_ok _ _
    · rw [zw_same]; exact okV_0
  unfold uL7
  split
  · rw [zw_same, zw_ne (by omega), hV]
    exact ⟨h6, uVv_ok _ _⟩
  · rw [zw_same, zw_ne (by omega)]
    exact ⟨h6, okV_0⟩
theorem uTm_no (h0 : B.1 300 6 = 0) (hs : uS e B = B) (h : uTk e j B = false) : uTm e j B = B := by
  have hb : uWb e j B = false := by
    unfold uTk at h
    rw [decide_eq_true h0, Bool.true_and] at h
    exact h
  unfold uTm
  rw [if_pos h0, hb]
  exact hs
/-- which deed stands here -/
theorem uA_sum (h0 : B.1 300 6 = 0) (hs : uS e B = B) : (uTk e 4 B = true ∧ uAx e B = 0 ∧ uAm e B = uTm e 4 B) ∨ (uTk e 4 B = false ∧ uTk e 5 B = true ∧ uAx e B = 1 ∧ uAm e B = uTm e 5 B) ∨ (uTk e 4 B = false ∧ uTk e 5 B = false ∧ uTk e 6 B = true ∧ uAx e B = 2 ∧ uAm e B = uTm e 6 B) ∨ (uTk e 4 B = false ∧ uTk e 5 B = false ∧ uTk e 6 B = false ∧ uTk e 7 B = true ∧ uAx e B = 3 ∧ uAm e B = uTm e 7 B) ∨ (uTk e 4 B = false ∧ uTk e 5 B = false ∧ uTk e 6 B = false ∧ uTk e 7 B = false ∧ uAx e B = 4 ∧ ((uTk e 8 B = true ∧ uAm e B = uTm e 8 B) ∨ (uTk e 8 B = false ∧ uAm e B = mWr (nI 1) (B.1 300 4) B))) := by
  cases t4 : uTk e 4 B with
  | true => exact Or.inl ⟨rfl, if_pos t4, if_pos t4⟩
  | false =>
    refine Or.inr ?_
    have e5 : uA5 e B = B := uTm_no h0 hs t4
    have f4 : ¬ uTk e 4 B = true := by rw [t4]; decide
    cases t5 : uTk e 5 B with
    | true =>
      refine Or.inl ⟨rfl, rfl, ?_, ?_⟩
      · unfold uAx; rw [if_neg f4, e5, if_pos t5]
      · unfold uAm uA6; rw [if_neg f4, e5, if_pos t5]
    | false =>
      refine Or.inr ?_
      have e6 : uA6 e B = B := by unfold uA6; rw [e5]; exact uTm_no h0 hs t5
      have f5 : ¬ uTk e 5 B = true := by rw [t5]; decide
      cases t6 : uTk e 6 B with
      | true =>
        refine Or.inl ⟨rfl, rfl, rfl, ?_, ?_⟩
        · unfold uAx; rw [if_neg f4, e5, if_neg f5, e6, if_pos t6]
        · unfold uAm uA7; rw [if_neg f4, e5, if_neg f5, e6, if_pos t6]
      | false =>
        refine Or.inr ?_
        have e7 : uA7 e B = B := by unfold uA7; rw [e6]; exact uTm_no h0 hs t6
        have f6 : ¬ uTk e 6 B = true := by rw [t6]; decide
        cases t7 : uTk e 7 B with
        | true =>
          refine Or.inl ⟨rfl, rfl, rfl, rfl, ?_, ?_⟩
          · unfold uAx; rw [if_neg f4, e5, if_neg f5, e6, if_neg f6, e7, if_pos t7]
          · unfold uAm uA8; rw [if_neg f4, e5, if_neg f5, e6, if_neg f6, e7, if_pos t7]
        | false =>
          have e8 : uA8 e B = B := by unfold uA8; rw [e7]; exact uTm_no h0 hs t7
          have f7 : ¬ uTk e 7 B = true := by rw [t7]; decide
          refine Or.inr ⟨rfl, rfl, rfl, rfl, ?_, ?_⟩
          · unfold uAx; rw [if_neg f4, e5, if_neg f5, e6, if_neg f6, e7, if_neg f7]
          · cases t8 : uTk e 8 B with
            | true =>
              refine Or.inl ⟨rfl, ?_⟩
              unfold uAm uA9; rw [if_neg f4, e5, if_neg f5, e6, if_neg f6, e7, if_neg f7, e8, if_pos t8]
            | false =>
              refine Or.inr ⟨rfl, ?_⟩
              have e9 : uA9 e B = B := by unfold uA9; rw [e8]; exact uTm_no h0 hs t8
              have f8 : ¬ uTk e 8 B = true := by rw [t8]; decide
              unfold uAm; rw [if_neg f4, e5, if_neg f5, e6, if_neg f6, e7, if_neg f7, e8, if_neg f8, e9]
theorem lAdd_at (hk : k < 12) {r x o : Int32} : (lAdd rc w k r x o A).1 (rc + 1 + 2) (w * 12 + k) = r ∧ (lAdd rc w k r x o A).1 (rc + 1 + 3) (w * 12 + k) = x ∧ (lAdd rc w k r x o A).1 (rc + 1 + 4) (w * 12 + k) = o ∧ (lAdd rc w k r x o A).1 (rc + 1 + 5) (w * 12 + k) = nI 4 ∧ (lAdd rc w k r x o A).1 (rc + 1 + 1) w = nI (k + 1) := by
  unfold lAdd lSetAct
  rw [if_neg (by omega)]
  refine ⟨?_, ?_, ?_, ?_, ?_⟩
  · rw [zw_ne (by omega), zw_ne (by omega), zw_ne (by omega), zw_ne (by omega), zw_ne (by omega), zw_same]
  · rw [zw_ne (by omega), zw_ne (by omega), zw_ne (by omega), zw_ne (by omega), zw_same]
  · rw [zw_ne (by omega), zw_ne (by omega), zw_ne (by omega), zw_same]
  · rw [zw_ne (by omega), zw_ne (by omega), zw_same]
  · rw [zw_ne (by omega), zw_ne (by omega), zw_ne (by omega), zw_ne (by omega), zw_ne (by omega), zw_ne (by omega), zw_same]
theorem lSet_at {v1 v2 v3 : Int32} : (lSetAct rc a v1 v2 v3 A).1 (rc + 1 + 5) a = v1 ∧ (lSetAct rc a v1 v2 v3 A).1 (rc + 1 + 6) a = v2 ∧ (lSetAct rc a v1 v2 v3 A).1 (rc + 1 + 7) a = v3 ∧ ∀ b i, b ≤ rc + 5 → (lSetAct rc a v1 v2 v3 A).1 b i = A.1 b i := by
  unfold lSetAct
  refine ⟨?_, ?_, zw_same, fun b i hb => ?_⟩
  · rw [zw_ne (by omega), zw_ne (by omega), zw_same]
  · rw [zw_ne (by omega), zw_same]
  · rw [zw_ne (by omega), zw_ne (by omega), zw_ne (by omega)]
/-- the lie, before its sign -/
def uL9 (e n q : Nat) (B : zM) : zM := if (uL3 e n q B).1 300 6 = 0 then uL7 e n q B else uL3 e n q B
theorem uLie_u9 : uLie e n q B = uSg e (nI 59) (uL9 e n q B) := by
  unfold uLie uL9
  split
  · rfl
  · rename_i h
    exact (uSg_no h).symm
/-- the deed of a lie: class from A3, reference from what is read of the limits -/
theorem ls_Ac (hy : lyR rc) (he : e ≤ 300) (hc : 3100 ≤ q) (h : rR rc e n A (uL3 e n q B)) (h0 : A.1 20 7 = 0) (hk : lyK rc w A = k + 1) (h4 : A.1 (rc + 1 + 5) (w * 12 + k) = nI 4) : rR rc e n (rAc e rc w A) (uL7 e n q B) ∧ ((rAc e rc w A).1 20 7 = 0 → (∀ b i, b ≤ rc + 5 → 100 ≤ b → (rAc e rc w A).1 b i = A.1 b i) ∧ (rAc e rc w A).1 (rc + 1 + 5) (w * 12 + k) = (uL7 e n q B).1 q 3 ∧ ((uL7 e n q B).1 q 3 = 0 ∨ (uL7 e n q B).1 q 3 = nI 1 → (rAc e rc w A).1 (rc + 1 + 6) (w * 12 + k) = (uL7 e n q B).1 q 4) ∧ ((uL7 e n q B).1 q 3 = nI 1 → (rAc e rc w A).1 (rc + 1 + 7) (w * 12 + k) = (uL7 e n q B).1 q 5)) := by
  have hr : 100 ≤ rc := hy.2.1
  obtain ⟨-, c3, c4, c5⟩ := uL7_c (e := e) (n := n) (B := B) (q := q) (by omega)
  have hS : rR rc e n (rS e A) (uL4 e n q B) := h.S hy he h0
  have hS0 : (rS e A).1 20 7 = 0 := rS_7.trans h0
  have hSS : uS e (uL4 e n q B) = uL4 e n q B := uS_S h.2.1 he
  have hT : ∀ j, uTk e j (uL4 e n q B) = rWb e j A := fun j => by rw [hS.tk he hS0, rWb_S h.1 he]
  have hW : ∀ j, rR rc e n (rWm e j A) (uTm e j (uL4 e n q B)) := fun j => by
    have := ls_W (j := j) hS hy he
    rw [rWm_S h.1 he] at this
    exact this
  have hset : ∀ {X : zM} {D : zM} {v1 v2 v3 : Int32}, rK A X → rR rc e n X D → rR rc e n (lSetActIf rc w (lyK rc w X) v1 v2 v3 X) D ∧ (∀ b i, b ≤ rc + 5 → 100 ≤ b → (lSetActIf rc w (lyK rc w X) v1 v2 v3 X).1 b i = A.1 b i) ∧ (lSetActIf rc w (lyK rc w X) v1 v2 v3 X).1 (rc + 1 + 5) (w * 12 + k) = v1 ∧ (lSetActIf rc w (lyK rc w X) v1 v2 v3 X).1 (rc + 1 + 6) (w * 12 + k) = v2 ∧ (lSetActIf rc w (lyK rc w X) v1 v2 v3 X).1 (rc + 1 + 7) (w * 12 + k) = v3 ∧ (lSetActIf rc w (lyK rc w X) v1 v2 v3 X).1 20 7 = X.1 20 7 := fun {X D v1 v2 v3} hX hD => by
    have hR := rSt_sa (w := w) (k := lyK rc w X) (v1 := v1) (v2 := v2) (v3 := v3) hD.1 hy
    have e1 : lSetActIf rc w (lyK rc w X) v1 v2 v3 X = lSetAct rc (w * 12 + k) v1 v2 v3 X := by
      rw [lyK_K hr hX, hk]
      unfold lSetActIf
      rw [if_neg (Nat.succ_ne_zero k)]
      rfl
    rw [e1] at hR ⊢
    obtain ⟨s1, s2, s3, s4⟩ := lSet_at (rc := rc) (a := w * 12 + k) (v1 := v1) (v2 := v2) (v3 := v3) (A := X)
    exact ⟨hD.sa hR (fun j => s4 _ _ (by omega)) (fun j => s4 _ _ (by omega)), fun b i h1 h2 => by rw [s4 b i h1]; exact hX.1.1 _ _ (by unfold rFc; omega), s1, s2, s3, s4 _ _ (by omega)⟩
  have hfr : ∀ {X : zM}, rK A X → ∀ b i, b ≤ rc + 5 → 100 ≤ b → X.1 b i = A.1 b i := fun hX b i _ h2 => hX.1.1 _ _ (by unfold rFc; omega)
  rcases uA_sum (hS.b0 hS0) hSS with ⟨t4, ax, am⟩ | ⟨t4, t5, ax, am⟩ | ⟨t4, t5, t6, ax, am⟩ | ⟨t4, t5, t6, t7, ax, am⟩ | ⟨t4, t5, t6, t7, ax, am⟩
  · rw [hT] at t4
    have e5 : uL5 e n q B = zw (uTm e 4 (uL4 e n q B)) q 3 (nI 0) := by unfold uL5; rw [am, ax]
    have e6 : uL6 e n q B = zw (uVz e (uL5 e n q B)) q 4 (uVv e (uL5 e n q B)) := if_pos (by omega)
    have e7 : uL7 e n q B = zw (uL6 e n q B) q 5 (nI 0) := if_neg (by omega)
    have h5 : rR rc e n (rWm e 4 A) (uL5 e n q B) := by rw [e5]; exact (hW 4).wz (by omega)
    obtain ⟨h6, v6⟩ := ls_Vm h5 hy he
    have h7 : rR rc e n (rVm e (rWm e 4 A)) (uL7 e n q B) := by rw [e7, e6]; exact (h6.wz (by omega)).wz (by omega)
    have eA : rAc e rc w A = _ := if_pos t4
    obtain ⟨s1, s2, s3, s4, s5, s6⟩ := hset (v1 := nI 0) (v2 := rVv e (rWm e 4 A)) (v3 := nI 0) ((rWm_K e 4 A).tr (rVm_K _ _)) h7
    rw [eA]
    refine ⟨s1, fun z => ⟨s2, by rw [s3, c3, ax], fun _ => ?_, fun z2 => ?_⟩⟩
    · rw [s4, c4 (by omega), v6 (s6.symm.trans z)]
    · rw [c3, ax] at z2
      exact absurd z2 (by decide)
  · rw [hT] at t4 t5
    have e5 : uL5 e n q B = zw (uTm e 5 (uL4 e n q B)) q 3 (nI 1) := by unfold uL5; rw [am, ax]
    have e6 : uL6 e n q B = zw (uVz e (uL5 e n q B)) q 4 (uVv e (uL5 e n q B)) := if_pos (by omega)
    have e7 : uL7 e n q B = zw (uVz e (uL6 e n q B)) q 5 (uVv e (uL6 e n q B)) := if_pos ax
    have h5 : rR rc e n (rWm e 5 A) (uL5 e n q B) := by rw [e5]; exact (hW 5).wz (by omega)
    obtain ⟨h6, v6⟩ := ls_Vm h5 hy he
    have h6' : rR rc e n (rVm e (rWm e 5 A)) (uL6 e n q B) := by rw [e6]; exact h6.wz (by omega)
    obtain ⟨h7, v7⟩ := ls_Vm h6' hy he
    have h7' : rR rc e n (rVm e (rVm e (rWm e 5 A))) (uL7 e n q B) := by rw [e7]; exact h7.wz (by omega)
    have eA : rAc e rc w A = lSetActIf rc w (lyK rc w (rVm e (rVm e (rWm e 5 A)))) (nI 1) (rVv e (rWm e 5 A)) (rVv e (rVm e (rWm e 5 A))) (rVm e (rVm e (rWm e 5 A))) := by
      unfold rAc
      rw [if_neg (by rw [t4]; decide), if_pos t5]
    obtain ⟨s1, s2, s3, s4, s5, s6⟩ := hset (v1 := nI 1) (v2 := rVv e (rWm e 5 A)) (v3 := rVv e (rVm e (rWm e 5 A))) (((rWm_K e 5 A).tr (rVm_K _ _)).tr (rVm_K _ _)) h7'
    rw [eA]
    refine ⟨s1, fun z => ?_⟩
    have z1 := s6.symm.trans z
    have z2 := (rVm_K e (rVm e (rWm e 5 A))).2.ok z1
    exact ⟨s2, by rw [s3, c3, ax], fun _ => by rw [s4, c4 (by omega), v6 z2], fun _ => by rw [s5, c5 ax, v7 z1]⟩
  · rw [hT] at t4 t5 t6
    have e5 : uL5 e n q B = zw (uTm e 6 (uL4 e n q B)) q 3 (nI 2) := by unfold uL5; rw [am, ax]
    have e6 : uL6 e n q B = zw (uL5 e n q B) q 4 (nI 0) := if_neg (by omega)
    have e7 : uL7 e n q B = zw (uL6 e n q B) q 5 (nI 0) := if_neg (by omega)
    have h7 : rR rc e n (rWm e 6 A) (uL7 e n q B) := by rw [e7, e6, e5]; exact (((hW 6).wz (by omega)).wz (by omega)).wz (by omega)
    have eA : rAc e rc w A = lSetActIf rc w (lyK rc w (rWm e 6 A)) (nI 2) (nI 0) (nI 0) (rWm e 6 A) := by
      unfold rAc
      rw [if_neg (by rw [t4]; decide), if_neg (by rw [t5]; decide), if_pos t6]
    obtain ⟨s1, s2, s3, s4, s5, s6⟩ := hset (v1 := nI 2) (v2 := nI 0) (v3 := nI 0) (rWm_K e 6 A) h7
    rw [eA, c3, ax]
    exact ⟨s1, fun _ => ⟨s2, s3, fun z => absurd z (by decide), fun z => absurd z (by decide)⟩⟩
  · rw [hT] at t4 t5 t6 t7
    have e5 : uL5 e n q B = zw (uTm e 7 (uL4 e n q B)) q 3 (nI 3) := by unfold uL5; rw [am, ax]
    have e6 : uL6 e n q B = zw (uL5 e n q B) q 4 (nI 0) := if_neg (by omega)
    have e7 : uL7 e n q B = zw (uL6 e n q B) q 5 (nI 0) := if_neg (by omega)
    have h7 : rR rc e n (rWm e 7 A) (uL7 e n q B) := by rw [e7, e6, e5]; exact (((hW 7).wz (by omega)).wz (by omega)).wz (by omega)
    have eA : rAc e rc w A = lSetActIf rc w (lyK rc w (rWm e 7 A)) (nI 3) (nI 0) (nI 0) (rWm e 7 A) := by
      unfold rAc
      rw [if_neg (by rw [t4]; decide), if_neg (by rw [t5]; decide), if_neg (by rw [t6]; decide), if_pos t7]
    obtain ⟨s1, s2, s3, s4, s5, s6⟩ := hset (v1 := nI 3) (v2 := nI 0) (v3 := nI 0) (rWm_K e 7 A) h7
    rw [eA, c3, ax]
    exact ⟨s1, fun _ => ⟨s2, s3, fun z => absurd z (by decide), fun z => absurd z (by decide)⟩⟩
  · rw [hT] at t4 t5 t6 t7
    have e6 : uL6 e n q B = zw (uL5 e n q B) q 4 (nI 0) := if_neg (by omega)
    have e7 : uL7 e n q B = zw (uL6 e n q B) q 5 (nI 0) := if_neg (by omega)
    rcases am with ⟨t8, am⟩ | ⟨t8, am⟩
    · rw [hT] at t8
      have e5 : uL5 e n q B = zw (uTm e 8 (uL4 e n q B)) q 3 (nI 4) := by unfold uL5; rw [am, ax]
      have h7 : rR rc e n (rWm e 8 A) (uL7 e n q B) := by rw [e7, e6, e5]; exact (((hW 8).wz (by omega)).wz (by omega)).wz (by omega)
      have eA : rAc e rc w A = rWm e 8 A := by
        unfold rAc
        rw [if_neg (by rw [t4]; decide), if_neg (by rw [t5]; decide), if_neg (by rw [t6]; decide), if_neg (by rw [t7]; decide), if_pos t8]
      rw [eA, c3, ax]
      refine ⟨h7, fun _ => ⟨hfr (rWm_K e 8 A), ?_, fun z => absurd z (by decide), fun z => absurd z (by decide)⟩⟩
      rw [(rWm_K e 8 A).1.1 _ _ (by unfold rFc; omega)]
      exact h4
    · rw [hT] at t8
      have e4 : (uL4 e n q B).1 300 4 = nI (uSp e (uL3 e n q B)) := zw_same
      have e5 : uL5 e n q B = zw (mWr (nI 1) (nI (uSp e (uL3 e n q B))) (uL4 e n q B)) q 3 (nI 4) := by unfold uL5; rw [am, ax, e4]
      have eW : rWm e 8 A = rS e A := by
        unfold rWm
        rw [if_neg (by rw [t8]; decide)]
      have eA : rAc e rc w A = rFail (nI 1) (nI (uSp e (uL3 e n q B))) (rS e A) := by
        unfold rAc
        rw [if_neg (by rw [t4]; decide), if_neg (by rw [t5]; decide), if_neg (by rw [t6]; decide), if_neg (by rw [t7]; decide), if_neg (by rw [t8]; decide), eW, h.sp he h0]
      have h7 : rR rc e n (rFail (nI 1) (nI (uSp e (uL3 e n q B))) (rS e A)) (uL7 e n q B) := by
        rw [e7, e6, e5]
        exact (((hS.fail hy hS0 (by decide)).wz (by omega)).wz (by omega)).wz (by omega)
      rw [eA]
      exact ⟨h7, fun z => absurd z (rFail_n (by decide))⟩
end zLiC
