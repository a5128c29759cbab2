section zLiE
variable {rc e n w k lo hi j q a : Nat} {A A1 A2 A3 B B1 B2 : zM} {c p x : Int32}
theorem rNm_S (h : rSt rc e n A) (he : e ≤ 300) : rNm e lo hi (rS e A) = rNm e lo hi A ∧ rNv e (rS e A) = rNv e A := by
  have e1 := rSp_S h he
  have e2 : tDi (rS e A) = tDi A := by
    funext i
    unfold tDi rS
    rw [rAt_c (by omega)]
  have e3 : (rS e A).1 24 = A.1 24 := funext fun i => rAt_c (by omega)
  have e4 : rDe e (rS e A) = rDe e A := by unfold rDe; rw [e1, e2]
  have e5 : rNv e (rS e A) = rNv e A := by unfold rNv; rw [e1, e3, e4]
  have e6 : ∀ d, rAt d (rS e A) = rAt d A := fun d => rAt_rAt _ _ _
  refine ⟨?_, e5⟩
  unfold rNm
  rw [e1, e4, e5, e6]
theorem uQ1_Z (e : Nat) (B : zM) : uZ B (uQ1 e B) := by
  unfold uQ1
  split
  · exact uTm_Z _ _ _
  · exact (uTm_Z _ _ _).tr (mWr_Z _ _ _)
theorem rQ1_K (e : Nat) (A : zM) : rK A (rQ1 e A) := by
  unfold rQ1
  split
  · exact rWm_K _ _ _
  · exact (rWm_K _ _ _).tr (rFail_K _ _ _)
theorem rQ2_K (e n : Nat) (A : zM) : rK A (rQ2 e n A) := ((rQ1_K e A).tr (rAt_K _ _)).tr (rNm_K _ _ _ _)
theorem ls_Q1 (h : rR rc e n A B) (hy : lyR rc) (he : e ≤ 300) : rR rc e n (rQ1 e A) (uQ1 e B) := by
  by_cases h0 : A.1 20 7 = 0
  · have ht := h.tk (j := 0) he h0
    have hW := ls_W (j := 0) h hy he
    by_cases g : rWb e 0 A = true
    · have e1 : rQ1 e A = rWm e 0 A := if_pos g
      have e2 : uQ1 e B = uTm e 0 B := if_pos (ht.trans g)
      rw [e1, e2]
      exact hW
    · have e3 : rWm e 0 A = rS e A := if_neg g
      have e1 : rQ1 e A = rFail (nI 1) (nI (rSp e A)) (rS e A) := by
        unfold rQ1
        rw [if_neg g, e3]
      have e4 : uTm e 0 B = uS e B := by
        unfold uTm
        rw [if_pos (h.b0 h0), ← h.wb he h0, if_neg g]
      have e5 : (uS e B).1 300 4 = nI (uSp e B) := zw_same
      have e2 : uQ1 e B = mWr (nI 1) (nI (uSp e B)) (uS e B) := by
        unfold uQ1
        rw [if_neg (by rw [ht]; exact g), e4, e5]
      rw [e1, e2, h.sp he h0]
      exact (h.S hy he h0).fail hy (rS_7.trans h0) (by decide)
  · exact h.koK h0 (rSt_Q1 h.1 hy he) (uSt_Q1 h.2.1 he) (rQ1_K _ _) (uQ1_k _ _) (uQ1_Z _ _)
theorem ls_Q2 (h : rR rc e n A B) (hy : lyR rc) (he : e ≤ 300) (hn : 1 ≤ n ∧ n ≤ 7) : rR rc e n (rQ2 e n A) (uQ2 e n B) ∧ ((rQ2 e n A).1 20 7 = 0 → rQv e A = uQw e n B ∧ (uQ2 e n B).1 300 15 = nI (uSp e (uQ1 e B)) ∧ rSp e (rQ1 e A) = uSp e (uQ1 e B)) := by
  have h1 := ls_Q1 h hy he
  obtain ⟨g1, g2⟩ := ls_Nm (lo := 0) (hi := n - 1) h1 hy he (by omega)
  obtain ⟨s1, s2⟩ := rNm_S (lo := 0) (hi := n - 1) h1.1 he
  have e1 : rQ2 e n A = rNm e 0 (n - 1) (rQ1 e A) := s1
  have e2 : rQv e A = rNv e (rQ1 e A) := s2
  have e3 : uQ2 e n B = uNm e 0 (n - 1) (uQ1 e B) := rfl
  rw [e1, e3]
  refine ⟨g1, fun z => ?_⟩
  obtain ⟨v1, v2, v3, v4, v5⟩ := g2 z
  have z1 : (rQ1 e A).1 20 7 = 0 := (rNm_K e 0 (n - 1) (rQ1 e A)).2.ok z
  refine ⟨?_, ?_, h1.sp he z1⟩
  · rw [e2, v1]
    unfold uQw
    rw [v3, zN_nI (by omega)]
  · rw [(uNm_ok (g1.b0 z)).2.2.2]
    show (uAt (uNd e (uQ1 e B)) (zw (uNa e (uQ1 e B)) 300 15 (nI (uSp e (uQ1 e B))))).1 300 15 = _
    rw [uAt_c (by omega), zw_same]
theorem ls_Q3 (h : rR rc e n A B) (hy : lyR rc) (he : e ≤ 300) (hn : 1 ≤ n ∧ n ≤ 7) (hd : A.1 20 7 = 0 → rD rc n A B) : rR rc e n (rQ3 e rc n A) (uQ3 e n B) ∧ ((rQ3 e rc n A).1 20 7 = 0 → A.1 20 7 = 0 ∧ rQv e A = uQw e n B ∧ B.1 1209 (uQw e n B) = -1 ∧ A.1 (rc + 1 + 1) (uQw e n B) = nI 0) := by
  have hr : 100 ≤ rc := hy.2.1
  obtain ⟨g1, g2⟩ := ls_Q2 h hy he hn
  have hK2 := rQ2_K e n A
  have hw := (uQw_b (e := e) (n := n) (M := B) hn.1 hn.2).2
  by_cases z : (rQ2 e n A).1 20 7 = 0
  · obtain ⟨v1, v2, v3⟩ := g2 z
    have z0 := hK2.2.ok z
    have k2 : kU B (uQ2 e n B) := (uQ1_k e B).tr (uNm_k _ _ _ _)
    have e9 : (uQ2 e n B).1 1209 (uQw e n B) = B.1 1209 (uQw e n B) := k2.1 _ _ (by unfold uFr; omega)
    have e0 : (rQ2 e n A).1 rc 0 = A.1 rc 0 := hK2.1.1 _ _ (by unfold rFc; omega)
    have hC := (h.1.2.2.2.2.2 (uQw e n B) (by omega)).2
    rcases ((hd z0).1 (uQw e n B) (by omega)).1 with ⟨q1, q2, q3⟩ | ⟨q1, q2, q3⟩
    · have c1 : rQ3 e rc n A = rQ2 e n A := if_neg (fun g => by
        have g3 := g.2
        rw [v1, bit_bt (by omega), e0, q3] at g3
        exact absurd g3 (by decide))
      have c2 : uQ3 e n B = uQ2 e n B := if_neg (fun g => g.2 (e9.trans q1))
      rw [c1, c2]
      exact ⟨g1, fun _ => ⟨z0, v1, q1, q2⟩⟩
    · have c1 : rQ3 e rc n A = rFail (nI 4) (nI (rSp e (rQ1 e A))) (rQ2 e n A) := if_pos ⟨z, by rw [v1, bit_bt (by omega), e0, q3]⟩
      have h9 : ¬ B.1 1209 (uQw e n B) = -1 := by
        rw [q2, (h.1.2.2.2.2.2 (uQw e n B) (by omega)).1]
        exact nI_m1 (by omega)
      have c2 : uQ3 e n B = mWr (nI 4) ((uQ2 e n B).1 300 15) (uQ2 e n B) := if_pos ⟨g1.b0 z, by rw [e9]; exact h9⟩
      rw [c1, c2, v2, v3]
      exact ⟨g1.fail hy z (by decide), fun g => absurd g (rFail_n (by decide))⟩
  · have c1 : rQ3 e rc n A = rQ2 e n A := if_neg (fun g => z g.1)
    have c2 : uQ3 e n B = uQ2 e n B := if_neg (fun g => z (g1.2.2.2.1.trans g.1))
    rw [c1, c2]
    exact ⟨g1, fun g => absurd g z⟩
/-- a liar -/
theorem ls_Liar (h : rR rc e n A B) (hy : lyR rc) (he : e ≤ 300) (hn : 1 ≤ n ∧ n ≤ 7) (hd : A.1 20 7 = 0 → rD rc n A B) : rR rc e n (rLiar e rc n A) (uLiar e n B) ∧ ((rLiar e rc n A).1 20 7 = 0 → rD rc n (rLiar e rc n A) (uLiar e n B)) := by
  have hr : 100 ≤ rc := hy.2.1
  obtain ⟨g1, g2⟩ := ls_Q3 h hy he hn hd
  have g4 : rR rc e n (rQ4 e rc n A) (uQ4 e n B) := ls_Nd g1 hy he (by decide)
  have hw := (uQw_b (e := e) (n := n) (M := B) hn.1 hn.2).2
  by_cases z : (rQ4 e rc n A).1 20 7 = 0
  · have z3 : (rQ3 e rc n A).1 20 7 = 0 := (rNd_K e (nI 123) (rQ3 e rc n A)).2.ok z
    obtain ⟨z0, v1, q1, q2⟩ := g2 z3
    have hD := hd z0
    have hK := rQ4_K e rc n A
    have hU := uQ4_k e n B
    have e1 : rLiar e rc n A = rLx e rc n (uQw e n B) 13 (zw (rQ4 e rc n A) rc 0 ((rQ4 e rc n A).1 rc 0 ||| (nI 1 <<< (nI (uQw e n B) &&& 31)))) := by
      unfold rLiar
      rw [if_pos z, v1]
    have e2 : uLiar e n B = uSg e (nI 125) (uLx e n (uQw e n B) 13 0 (uQ5 e n B)) := if_pos (g4.b0 z)
    rw [e1, e2]
    have h5 : uQ5 e n B = zw (uQ4 e n B) 1209 (uQw e n B) (nI 0) := rfl
    rw [h5]
    generalize uQw e n B = w at *
    have hz : ∀ b i, ¬ (b = rc ∧ i = 0) → (zw (rQ4 e rc n A) rc 0 ((rQ4 e rc n A).1 rc 0 ||| (nI 1 <<< (nI w &&& 31)))).1 b i = (rQ4 e rc n A).1 b i := fun b i hb => zw_ne (by omega)
    have hR : rR rc e n (zw (rQ4 e rc n A) rc 0 ((rQ4 e rc n A).1 rc 0 ||| (nI 1 <<< (nI w &&& 31)))) (zw (uQ4 e n B) 1209 w (nI 0)) := (g4.sa (rSt_li g4.1 hy) (fun j => hz _ _ (by omega)) (fun j => hz _ _ (by omega))).wz (by omega)
    have hA : ∀ b i, ¬ (b = rc ∧ i = 0) → rc ≤ b → (zw (rQ4 e rc n A) rc 0 ((rQ4 e rc n A).1 rc 0 ||| (nI 1 <<< (nI w &&& 31)))).1 b i = A.1 b i := fun b i hb h2 => (hz b i hb).trans (hK.1.1 _ _ (by unfold rFc; omega))
    have hB : ∀ b i, ¬ (b = 1209 ∧ i = w) → (b = 1209 ∨ 3100 ≤ b) → (zw (uQ4 e n B) 1209 w (nI 0)).1 b i = B.1 b i := fun b i hb h2 => (zw_ne (by omega)).trans (hU.1 _ _ (by unfold uFr; omega))
    have e0 : (rQ4 e rc n A).1 rc 0 = A.1 rc 0 := hK.1.1 _ _ (by unfold rFc; omega)
    have eb : ∀ b, b < 32 → bt ((zw (rQ4 e rc n A) rc 0 ((rQ4 e rc n A).1 rc 0 ||| (nI 1 <<< (nI w &&& 31)))).1 rc 0) b = (bt (A.1 rc 0) b || decide (b = w)) := fun b hb => by
      rw [zw_same, b_or, e0, bt_sh (by omega) hb]
    refine ls_Lx hy he hn hw 13 0 (by omega) hR (fun _ => ⟨?_, by omega, zw_same, fun m hm => ?_, fun b h1 h2 => ?_⟩)
    · unfold lyK
      rw [hA _ _ (by omega) (by omega), q2]
      exact zN_nI (by decide)
    · obtain ⟨d1, d2⟩ := hD.1 m hm
      unfold lyK
      rw [hA (rc + 1 + 1) _ (by omega) (by omega), eb m (by omega)]
      refine ⟨?_, fun k hk => (d2 k hk).go (fun b h1 h2 => hA _ _ (by omega) (by omega)) (fun j => hB _ _ (by unfold uCl; omega) (by unfold uCl; omega))⟩
      by_cases em : m = w
      · subst em
        rw [zw_same, q2, decide_eq_true rfl, Bool.or_true]
        exact Or.inr ⟨hw, rfl, rfl⟩
      · rw [hB _ _ (by omega) (by omega), decide_eq_false em, Bool.or_false]
        exact d1
    · rw [eb b h2, hD.2 b h1 h2, decide_eq_false (by omega), Bool.false_or]
  · have e1 : rLiar e rc n A = rQ4 e rc n A := if_neg z
    have e2 : uLiar e n B = uQ4 e n B := if_neg (fun g => z (g4.2.2.2.1.trans g))
    rw [e1, e2]
    exact ⟨g4, fun g => absurd g z⟩
theorem rLo_no (h : ¬ A.1 20 7 = 0) : ∀ f, rLo e rc n f A = A
  | 0 => rfl
  | f + 1 => if_neg h
/-- the whole text -/
theorem ls_Lo (hy : lyR rc) (he : e ≤ 300) (hn : 1 ≤ n ∧ n ≤ 7) : ∀ (f : Nat) {A B : zM}, rR rc e n A B → (A.1 20 7 = 0 → rD rc n A B) → rR rc e n (rLo e rc n f A) (uLo e n f B) ∧ ((rLo e rc n f A).1 20 7 = 0 → rD rc n (rLo e rc n f A) (uLo e n f B))
  | 0, A, B, h, hd => ⟨h, hd⟩
  | f + 1, A, B, h, hd => by
    by_cases h0 : A.1 20 7 = 0
    · have hS := h.S hy he h0
      have hDS : rD rc n (rS e A) (uS e B) := (hd h0).go (fun b i h1 h2 => rAt_c (by have := hy.2.1; omega)) (fun b i hb => uAt_c (by omega))
      have e1 : rLo e rc n (f + 1) A = if rSp e A < e then rLo e rc n f (rLiar e rc n (rS e A)) else rS e A := if_pos h0
      have e2 : uLo e n (f + 1) B = if uBy e B (uSp e B) = -1 then uS e B else uLo e n f (uLiar e n (uS e B)) := if_pos (h.b0 h0)
      have hs := h.sp he h0
      by_cases g : rSp e A < e
      · have g2 : ¬ uBy e B (uSp e B) = -1 := by
          unfold uBy
          rw [if_pos (by rw [← hs]; exact g)]
          exact (h.2.2.1 _ (by omega)).2
        rw [if_pos g] at e1
        rw [if_neg g2] at e2
        rw [e1, e2]
        obtain ⟨r1, r2⟩ := ls_Liar hS hy he hn (fun _ => hDS)
        exact ls_Lo hy he hn f r1 r2
      · have g2 : uBy e B (uSp e B) = -1 := if_neg (by rw [← hs]; exact g)
        rw [if_neg g] at e1
        rw [if_pos g2] at e2
        rw [e1, e2]
        exact ⟨hS, fun _ => hDS⟩
    · rw [rLo_no h0, uLo_no (fun z => h0 (h.2.2.2.1.trans z))]
      exact ⟨h, fun z => absurd z h0⟩
end zLiE
