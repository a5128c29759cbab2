section zLiD
variable {rc e n w k lo hi j q a : Nat} {A A1 A2 A3 B B1 B2 : zM} {c p x : Int32}
theorem ls_Lie (h : rR rc e n A B) (hy : lyR rc) (he : e ≤ 300) (hn : 1 ≤ n ∧ n ≤ 7) (h0 : A.1 20 7 = 0) (hk : lyK rc w A = k) (hk2 : k < 12) (hq : 3100 ≤ q) : rR rc e n (rLie e rc n w A) (uL9 e n q B) ∧ ((rLie e rc n w A).1 20 7 = 0 → zLie2 (rLie e rc n w A) (uL9 e n q B) rc (w * 12 + k) q ∧ (rLie e rc n w A).1 (rc + 1 + 1) w = nI (k + 1)) := by
  have hr : 100 ≤ rc := hy.2.1
  have eL : rLa e rc w A = A := if_neg (by omega)
  obtain ⟨g1, v1⟩ := ls_Om (j := 1) (lo := 1) (hi := 3) h hy he (by decide)
  have g1' : rR rc e n (rO1 e rc w A) (uL1 e q B) := by
    unfold rO1 uL1
    rw [eL]
    exact g1.wz (by omega)
  obtain ⟨g2, v2⟩ := ls_Om (j := 2) (lo := 0) (hi := n - 1) g1' hy he (by omega)
  have g2' : rR rc e n (rO2 e rc n w A) (uL2 e n q B) := g2.wz (by omega)
  obtain ⟨g3, v3⟩ := ls_Om (j := 3) (lo := 0) (hi := n - 1) g2' hy he (by omega)
  have g3' : rR rc e n (rO3 e rc n w A) (uL3 e n q B) := g3.wz (by omega)
  by_cases z3 : (rO3 e rc n w A).1 20 7 = 0
  · have e1 : rLie e rc n w A = rAc e rc w (rAdd e rc n w A) := if_pos z3
    have e9 : uL9 e n q B = uL7 e n q B := if_pos (g3'.b0 z3)
    have hk3 : lyK rc w (rO3 e rc n w A) = k := (lyK_K hr (rO3_K e rc n w A)).trans hk
    have hK3 : rK (rO2 e rc n w A) (rO3 e rc n w A) := rOm_K e 3 0 (n - 1) (rO2 e rc n w A)
    have hK2 : rK (rO1 e rc w A) (rO2 e rc n w A) := rOm_K e 2 0 (n - 1) (rO1 e rc w A)
    have z2 : (rO2 e rc n w A).1 20 7 = 0 := hK3.2.ok z3
    have z1' : (rO1 e rc w A).1 20 7 = 0 := hK2.2.ok z2
    have z1 : (rOm e 1 1 3 A).1 20 7 = 0 := by
      unfold rO1 at z1'
      rw [eL] at z1'
      exact z1'
    have z2b : (rOm e 2 0 (n - 1) (rO1 e rc w A)).1 20 7 = 0 := by
      have q := z2
      unfold rO2 at q
      exact q
    have z3b : (rOm e 3 0 (n - 1) (rO2 e rc n w A)).1 20 7 = 0 := by
      have q := z3
      unfold rO3 at q
      exact q
    have eAdd : rAdd e rc n w A = lAdd rc w k (rOx e 1 1 3 A) (rOx e 2 0 (n - 1) (rO1 e rc w A)) (rOx e 3 0 (n - 1) (rO2 e rc n w A)) (rO3 e rc n w A) := by
      unfold rAdd
      rw [hk3, eL]
    have hSt : rSt rc e n (rAdd e rc n w A) := rSt_add g3'.1 hy
    have g4 : rR rc e n (rAdd e rc n w A) (uL3 e n q B) := g3'.sa hSt (fun j => by rw [eAdd]; exact lAdd_c (by omega)) (fun j => by rw [eAdd]; exact lAdd_c (by omega))
    have z4 : (rAdd e rc n w A).1 20 7 = 0 := by rw [eAdd, lAdd_c (by omega)]; exact z3
    obtain ⟨m1, m2, m3, m4, m5⟩ := lAdd_at (rc := rc) (w := w) (A := rO3 e rc n w A) hk2 (r := rOx e 1 1 3 A) (x := rOx e 2 0 (n - 1) (rO1 e rc w A)) (o := rOx e 3 0 (n - 1) (rO2 e rc n w A))
    rw [← eAdd] at m1 m2 m3 m4 m5
    obtain ⟨f1, f2⟩ := ls_Ac hy he hq g4 z4 (k := k) (by unfold lyK; rw [m5]; exact nI_clamp (by omega)) m4
    rw [e1, e9]
    refine ⟨f1, fun z => ?_⟩
    obtain ⟨p1, p2, p3, p4⟩ := f2 z
    obtain ⟨c1, c2, c3⟩ := uL3_c (e := e) (n := n) (B := B) (q := q) (by omega)
    obtain ⟨d1, -⟩ := uL7_c (e := e) (n := n) (B := B) (q := q) (by omega)
    refine ⟨⟨?_, ?_, ?_, p2, p3, p4, uL7_ok (by omega)⟩, ?_⟩
    · rw [p1 _ _ (by omega) (by omega), m1, d1 0 (by omega), c1]
      rcases v1 (nI 0) z1 with ⟨a, b⟩ | ⟨v, a, b, c, d⟩
      · exact Or.inl ⟨a, b⟩
      · exact Or.inr ⟨v, a, by omega, c, d⟩
    · rw [p1 _ _ (by omega) (by omega), m2, d1 1 (by omega), c2]
      rcases v2 (-1) z2b with ⟨a, b⟩ | ⟨v, a, b, c, d⟩
      · rw [a, b]
      · rw [c, d]
    · rw [p1 _ _ (by omega) (by omega), m3, d1 2 (by omega), c3]
      rcases v3 (-1) z3b with ⟨a, b⟩ | ⟨v, a, b, c, d⟩
      · rw [a, b]
      · rw [c, d]
    · rw [p1 _ _ (by omega) (by omega)]
      exact m5
  · have e1 : rLie e rc n w A = rO3 e rc n w A := if_neg z3
    have e9 : uL9 e n q B = uL3 e n q B := if_neg (fun z => z3 (g3'.2.2.2.1.trans z))
    rw [e1, e9]
    exact ⟨g3', fun z => absurd z z3⟩
theorem rR.lb (h : rR rc e n A B) (he : e ≤ 300) (h0 : A.1 20 7 = 0) : rLb e A = uLb e B := by
  unfold rLb uLb
  rw [h.wb he h0, h.wb he h0, h.wb he h0, h.wb he h0, h.wb he h0, h.wb he h0, h.wb he h0, h.wb he h0]
/-- where no lie begins, both say so at the same place -/
theorem ls_no (h : rR rc e n A B) (hy : lyR rc) (he : e ≤ 300) (h0 : A.1 20 7 = 0) (hk : lyK rc w A = k) (hk2 : k < 12) (hl : uLb e B = false) : rR rc e n (rLie e rc n w (rS e A)) (mWr (nI 1) (nI (uSp e B)) (uS e B)) := by
  have hr : 100 ≤ rc := hy.2.1
  have hS := h.S hy he h0
  have hS0 : (rS e A).1 20 7 = 0 := rS_7.trans h0
  have hkS : lyK rc w (rS e A) = k := (lyK_K hr (rAt_K _ _)).trans hk
  rw [← h.lb he h0] at hl
  unfold rLb at hl
  simp only [Bool.or_eq_false_iff] at hl
  obtain ⟨⟨⟨⟨⟨⟨⟨l1, l2⟩, l3⟩, l4⟩, l5⟩, l6⟩, l7⟩, l8⟩ := hl
  have eL : rLa e rc w (rS e A) = rS e A := if_neg (by omega)
  have hO : ∀ {j lo hi : Nat}, rWb e j A = false → rOm e j lo hi (rS e A) = rS e A := fun {j lo hi} hj => by
    unfold rOm
    rw [if_neg (by rw [rWb_S h.1 he, hj]; decide), rWm_S h.1 he]
    unfold rWm
    rw [if_neg (by rw [hj]; decide)]
  have e1 : rO1 e rc w (rS e A) = rS e A := by unfold rO1; rw [eL]; exact hO l1
  have e2 : rO2 e rc n w (rS e A) = rS e A := by unfold rO2; rw [e1]; exact hO l2
  have e3 : rO3 e rc n w (rS e A) = rS e A := by unfold rO3; rw [e2]; exact hO l3
  have eLie : rLie e rc n w (rS e A) = rAc e rc w (rAdd e rc n w (rS e A)) := if_pos (by rw [e3]; exact hS0)
  rw [eLie]
  have hSt : rSt rc e n (rAdd e rc n w (rS e A)) := rSt_add (by rw [e3]; exact hS.1) hy
  have hA : ∀ b i, b < rc + 2 → (rAdd e rc n w (rS e A)).1 b i = (rS e A).1 b i := fun b i hb => by
    unfold rAdd
    rw [lAdd_c (by omega), e3]
  generalize rAdd e rc n w (rS e A) = A3 at *
  have g4 : rR rc e n A3 (uS e B) := hS.sa hSt (fun j => hA _ _ (by omega)) (fun j => hA _ _ (by omega))
  have z4 : A3.1 20 7 = 0 := (hA _ _ (by omega)).trans hS0
  have hb : ∀ j, rWb e j A3 = rWb e j A := fun j => by rw [g4.wb he z4, ← hS.wb he hS0, rWb_S h.1 he]
  have hs3 : rSp e A3 = uSp e B := by rw [g4.sp he z4, uSp_S h.2.1 he]
  have g5 := g4.S hy he z4
  rw [uS_S h.2.1 he] at g5
  have eA : rAc e rc w A3 = rFail (nI 1) (nI (uSp e B)) (rS e A3) := by
    unfold rAc
    rw [if_neg (by rw [hb, l4]; decide), if_neg (by rw [hb, l5]; decide), if_neg (by rw [hb, l6]; decide), if_neg (by rw [hb, l7]; decide), if_neg (by rw [hb, l8]; decide), hs3]
    unfold rWm
    rw [if_neg (by rw [hb, l8]; decide)]
  rw [eA]
  exact g5.fail hy (rS_7.trans z4) (by decide)
/-- a thirteenth lie -/
theorem ls_full (h : rR rc e n A B) (hy : lyR rc) (he : e ≤ 300) (h0 : A.1 20 7 = 0) (hk : lyK rc w A = 12) : rR rc e n (rLie e rc n w (rS e A)) (mWr (if uLb e B then nI 3 else nI 1) (nI (uSp e B)) (uS e B)) := by
  have hr : 100 ≤ rc := hy.2.1
  have hS := h.S hy he h0
  have hS0 : (rS e A).1 20 7 = 0 := rS_7.trans h0
  have hkS : lyK rc w (rS e A) = 12 := (lyK_K hr (rAt_K _ _)).trans hk
  have hL : rLb e (rS e A) = uLb e B := by
    rw [← h.lb he h0]
    unfold rLb
    rw [rWb_S h.1 he, rWb_S h.1 he, rWb_S h.1 he, rWb_S h.1 he, rWb_S h.1 he, rWb_S h.1 he, rWb_S h.1 he, rWb_S h.1 he]
  have hx : ¬ (if uLb e B then nI 3 else nI 1) = 0 := by
    split
    · decide
    · decide
  have e1 : rLa e rc w (rS e A) = rFail (if uLb e B then nI 3 else nI 1) (nI (uSp e B)) (rS e A) := by
    unfold rLa
    rw [if_pos (by omega), hL, rSp_S h.1 he, h.sp he h0, rS_S h.1 he]
  have hF := hS.fail (x := if uLb e B then nI 3 else nI 1) (p := nI (uSp e B)) hy hS0 hx
  rw [← e1] at hF
  have k1 : ¬ (rLa e rc w (rS e A)).1 20 7 = 0 := by rw [e1]; exact rFail_n hx
  have hK : rK (rLa e rc w (rS e A)) (rO3 e rc n w (rS e A)) := ((rOm_K _ _ _ _ _).tr (rOm_K _ _ _ _ _)).tr (rOm_K _ _ _ _ _)
  have k3 : ¬ (rO3 e rc n w (rS e A)).1 20 7 = 0 := fun z => k1 (hK.2.ok z)
  have eLie : rLie e rc n w (rS e A) = rO3 e rc n w (rS e A) := if_neg k3
  have hSt : rSt rc e n (rO3 e rc n w (rS e A)) := by
    rw [← eLie]
    exact rSt_Lie hS.1 hy he
  rw [eLie]
  exact hF.koK k1 hSt hF.2.1 hK zKf.rf uZ.rf
/-- what is read so far, alike -/
def rD (rc n : Nat) (A B : zM) : Prop := (∀ m, m < 7 → ((B.1 1209 m = -1 ∧ A.1 (rc + 1 + 1) m = nI 0 ∧ bt (A.1 rc 0) m = false) ∨ (m < n ∧ B.1 1209 m = A.1 (rc + 1 + 1) m ∧ bt (A.1 rc 0) m = true)) ∧ ∀ k, k < lyK rc m A → zLie2 A B rc (m * 12 + k) (uCl m k)) ∧ ∀ b, 7 ≤ b → b < 32 → bt (A.1 rc 0) b = false
theorem rD.go (h : rD rc n A B) (ha : ∀ b i, rc ≤ b → b ≤ rc + 8 → A1.1 b i = A.1 b i) (hb : ∀ b i, b = 1209 ∨ 3100 ≤ b → B1.1 b i = B.1 b i) : rD rc n A1 B1 := by
  refine ⟨fun m hm => ?_, fun b h1 h2 => by rw [ha _ _ (by omega) (by omega)]; exact h.2 b h1 h2⟩
  obtain ⟨g1, g2⟩ := h.1 m hm
  unfold lyK
  rw [hb _ _ (Or.inl rfl), ha _ _ (by omega) (by omega), ha _ _ (by omega) (by omega)]
  exact ⟨g1, fun k hk => (g2 k hk).go (fun b _ _ => ha _ _ (by omega) (by omega)) (fun j => hb _ _ (by unfold uCl; omega))⟩
theorem rD.lie (h : rD rc n A B) (hr : 100 ≤ rc) (hC : lyC rc A) (hw : w < 7) (hk : lyK rc w A = k) (hk2 : k < 12) (h9 : B.1 1209 w = nI k) (hA : zKf (rFl rc w k) A A1) (hA2 : A1.1 (rc + 1 + 1) w = nI (k + 1)) (hL : zLie2 A1 B1 rc (w * 12 + k) (uCl w k)) (hB : ∀ b i, b = 1209 ∨ 3100 ≤ b → b ≠ uCl w k → B1.1 b i = B.1 b i) : rD rc n A1 (zw B1 1209 w (nI (k + 1))) := by
  have e0 : A1.1 rc 0 = A.1 rc 0 := hA.1 _ _ (by unfold rFl rFc; omega)
  refine ⟨fun m hm => ?_, fun b h1 h2 => by rw [e0]; exact h.2 b h1 h2⟩
  obtain ⟨g1, g2⟩ := h.1 m hm
  have hz : ∀ i, (zw B1 1209 w (nI (k + 1))).1 (uCl w k) i = B1.1 (uCl w k) i := fun i => zw_ne (by unfold uCl; omega)
  by_cases em : m = w
  · subst em
    rw [zw_same, e0, hA2]
    rcases g1 with ⟨q1, q2, q3⟩ | ⟨q1, q2, q3⟩
    · rw [h9] at q1
      exact absurd q1 (nI_m1 (by omega))
    · refine ⟨Or.inr ⟨q1, rfl, q3⟩, fun k' hk' => ?_⟩
      have hk'' : k' < k + 1 := by
        unfold lyK at hk'
        rw [hA2, zN_nI (by omega)] at hk'
        exact hk'
      by_cases ek : k' = k
      · subst ek
        exact hL.go (fun _ _ _ => rfl) hz
      · refine (g2 k' (by omega)).go (fun b h1 h2 => hA.1 _ _ (by unfold rFl rFc; omega)) (fun j => ?_)
        rw [zw_ne (by unfold uCl; omega)]
        exact hB _ _ (by unfold uCl; omega) (by unfold uCl; omega)
  · have e2 : A1.1 (rc + 1 + 1) m = A.1 (rc + 1 + 1) m := hA.1 _ _ (by unfold rFl rFc; omega)
    have e3 : lyK rc m A1 = lyK rc m A := by unfold lyK; rw [e2]
    have e4 := (hC m hm).2
    rw [zw_ne (by omega), hB _ _ (Or.inl rfl) (by unfold uCl; omega), e0, e2, e3]
    refine ⟨g1, fun k' hk' => ?_⟩
    have hk'' : k' < 12 := by unfold lyK at hk'; omega
    refine (g2 k' hk').go (fun b h1 h2 => hA.1 _ _ (by unfold rFl rFc; omega)) (fun j => ?_)
    rw [zw_ne (by unfold uCl; omega)]
    exact hB _ _ (by unfold uCl; omega) (by unfold uCl; omega)
theorem rLx_no (h : ¬ A.1 20 7 = 0) : ∀ f, rLx e rc n w f A = A
  | 0 => rfl
  | f + 1 => if_neg h
/-- the lies of one liar -/
theorem ls_Lx (hy : lyR rc) (he : e ≤ 300) (hn : 1 ≤ n ∧ n ≤ 7) (hw : w < n) : ∀ (f k : Nat) {A B : zM}, k + f = 13 → rR rc e n A B → (A.1 20 7 = 0 → lyK rc w A = k ∧ k ≤ 12 ∧ B.1 1209 w = nI k ∧ rD rc n A B) → rR rc e n (rLx e rc n w f A) (uSg e (nI 125) (uLx e n w f k B)) ∧ ((rLx e rc n w f A).1 20 7 = 0 → rD rc n (rLx e rc n w f A) (uSg e (nI 125) (uLx e n w f k B)))
  | f, k, A, B, hf, h, hd => by
    have hr : 100 ≤ rc := hy.2.1
    by_cases h0 : A.1 20 7 = 0
    · obtain ⟨hk, hk12, h9, hD⟩ := hd h0
      match f, hf with
      | 0, hf => omega
      | f + 1, hf =>
        have b0 := h.b0 h0
        have hX : rLx e rc n w (f + 1) A = if rTb e (nI 125) A then rTm e (nI 125) A else rLx e rc n w f (rNd e (nI 59) (rLie e rc n w (rTm e (nI 125) A))) := if_pos h0
        have hU : uLx e n w (f + 1) k B = if uBy e B (uSp e B) = nI 125 then uS e B else if uLb e B then (if k = 12 then mWr (nI 3) (nI (uSp e B)) (uS e B) else uLx e n w f (k + 1) (zw (uLie e n (uCl w k) (uS e B)) 1209 w (nI (k + 1)))) else mWr (nI 1) (nI (uSp e B)) (uS e B) := if_pos b0
        have ht := h.tb (c := nI 125) he h0 (by decide)
        have hT := ls_T (c := nI 125) h hy he h0 (by decide)
        by_cases g : uBy e B (uSp e B) = nI 125
        · rw [if_pos (by rw [ht]; exact decide_eq_true g)] at hX
          rw [if_pos g] at hU hT
          have e1 : uSg e (nI 125) (uS e B) = uAt (uSp e B + 1) B := by
            unfold uSg
            rw [if_pos (show (uS e B).1 300 6 = 0 from (uAt_c (by omega)).trans b0), uSp_S h.2.1 he, uBy_e (M := B) (M' := uS e B) (fun i => uAt_c (by omega)), if_pos g]
            exact uAt_uAt _ _ _
          rw [hX, hU, e1]
          exact ⟨hT, fun _ => hD.go (fun b i h1 h2 => (rTm_K e (nI 125) A).1.1 _ _ (by unfold rFc; omega)) (fun b i hb => uAt_c (by omega))⟩
        · have eT : rTm e (nI 125) A = rS e A := if_neg (by rw [ht, decide_eq_false g]; decide)
          rw [if_neg (by rw [ht, decide_eq_false g]; decide), eT] at hX
          rw [if_neg g] at hU hT
          have hS := h.S hy he h0
          have hS0 : (rS e A).1 20 7 = 0 := rS_7.trans h0
          have bad : ∀ {x : Int32}, ¬ x = 0 → rR rc e n (rLie e rc n w (rS e A)) (mWr x (nI (uSp e B)) (uS e B)) → uLx e n w (f + 1) k B = mWr x (nI (uSp e B)) (uS e B) → rR rc e n (rLx e rc n w (f + 1) A) (uSg e (nI 125) (uLx e n w (f + 1) k B)) ∧ ((rLx e rc n w (f + 1) A).1 20 7 = 0 → rD rc n (rLx e rc n w (f + 1) A) (uSg e (nI 125) (uLx e n w (f + 1) k B))) := fun {x} hx hR hu => by
            have m6 : ¬ (mWr x (nI (uSp e B)) (uS e B)).1 300 6 = 0 := mWr_6 hx
            have k1 : ¬ (rLie e rc n w (rS e A)).1 20 7 = 0 := fun z => m6 (hR.b0 z)
            have hN := rNd_K e (nI 59) (rLie e rc n w (rS e A))
            have k2 : ¬ (rNd e (nI 59) (rLie e rc n w (rS e A))).1 20 7 = 0 := fun z => k1 (hN.2.ok z)
            rw [hX, hu, rLx_no k2, uSg_no m6]
            exact ⟨hR.koK k1 (rSt_Nd hR.1 hy he) hR.2.1 hN zKf.rf uZ.rf, fun z => absurd z k2⟩
          by_cases hl : uLb e B = true
          · rw [if_pos hl] at hU
            by_cases k12 : k = 12
            · rw [if_pos k12] at hU
              have hF := ls_full (n := n) h hy he h0 (hk.trans k12)
              rw [if_pos hl] at hF
              exact bad (by decide) hF hU
            · rw [if_neg k12] at hU
              have hkS : lyK rc w (rS e A) = k := (lyK_K hr (rAt_K _ _)).trans hk
              obtain ⟨g1, g2⟩ := ls_Lie hS hy he hn hS0 hkS (by omega) (q := uCl w k) (by unfold uCl; omega)
              have g3 := ls_Nd (c := nI 59) g1 hy he (by decide)
              rw [← uLie_u9] at g3
              have hKl := rLie_K (e := e) (n := n) hr hkS (by omega) (show w < 7 by omega)
              have hNK := rNd_K e (nI 59) (rLie e rc n w (rS e A))
              rw [hX, hU]
              refine ls_Lx hy he hn hw f (k + 1) (by omega) (g3.wz (by omega)) (fun z => ?_)
              have z1 := hNK.2.ok z
              obtain ⟨d1, d2⟩ := g2 z1
              have d3 : (rNd e (nI 59) (rLie e rc n w (rS e A))).1 (rc + 1 + 1) w = nI (k + 1) := (hNK.1.1 _ _ (by unfold rFc; omega)).trans d2
              refine ⟨by unfold lyK; rw [d3]; exact nI_clamp (by omega), by omega, zw_same, ?_⟩
              refine rD.lie (A := A) (B := B) hD hr h.1.2.2.2.2.2 (by omega) hk (by omega) h9 ?_ d3 ?_ (fun b i h1 h2 => ?_)
              · exact ((rAt_K (rSp e A) A).l (w := w) (k := k) hr).1.tr (hKl.1.tr (hNK.l (w := w) (k := k) hr).1)
              · refine d1.go (fun b h1 h2 => hNK.1.1 _ _ (by unfold rFc; omega)) (fun j => ?_)
                rw [uLie_u9]
                exact (uSg_k _ _ _).1 _ _ (by unfold uFr uCl; omega)
              · rw [(uLie_k e n (uCl w k) (uS e B)).1 b i (by unfold uFr; omega)]
                exact uAt_c (by omega)
          · rw [if_neg hl] at hU
            by_cases k12 : k = 12
            · have hF := ls_full (n := n) h hy he h0 (hk.trans k12)
              rw [if_neg hl] at hF
              exact bad (by decide) hF hU
            · exact bad (by decide) (ls_no h hy he h0 hk (by omega) (by simpa using hl)) hU
    · rw [rLx_no h0, uLx_no (fun z => h0 (h.2.2.2.1.trans z)), uSg_no (fun z => h0 (h.2.2.2.1.trans z))]
      exact ⟨h, fun z => absurd z h0⟩
end zLiD
