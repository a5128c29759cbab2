section zLiF
variable {rc e n w k lo hi j q a : Nat} {A A1 A2 A3 B B1 B2 M D : zM} {c p x : Int32}
def rFr (rc a j : Nat) : Prop := (a = 20 ∧ ¬ j = 2) ∨ (rc ≤ a ∧ a ≤ rc + 8)
def rKr (rc : Nat) (A A1 : zM) : Prop := zKf (rFr rc) A A1 ∧ (lyV rc A → lyV rc A1)
theorem rKr.tr (h : rKr rc A A1) (h2 : rKr rc A1 A2) : rKr rc A A2 := ⟨h.1.tr h2.1, fun q => h2.2 (h.2 q)⟩
theorem rKl.r (h : rKl rc w k A A1) : rKr rc A A1 := ⟨h.1.mono (fun a j q => by unfold rFl rFc at q; unfold rFr; omega), h.2.2⟩
theorem rK.r (hr : 100 ≤ rc) (h : rK A A1) : rKr rc A A1 := (h.l (w := 0) (k := 0) hr).r
theorem rLx_F (hy : lyR rc) (he : e ≤ 300) (hw : w < 7) : ∀ (f : Nat) {A : zM}, rSt rc e n A → rKr rc A (rLx e rc n w f A)
  | 0, A, _ => rK.rf.r hy.2.1
  | f + 1, A, h => by
    unfold rLx
    split
    · split
      · exact (rTm_K _ _ _).r hy.2.1
      · have hT : rSt rc e n (rTm e (nI 125) A) := rSt_T h hy he
        have hL := rLie_K (e := e) (n := n) (w := w) hy.2.1 rfl ((hT.2.2.2.2.2 w hw).2) hw
        exact ((((rTm_K _ _ _).r hy.2.1).tr hL.r).tr ((rNd_K _ _ _).r hy.2.1)).tr (rLx_F hy he hw f (rSt_Nd (rSt_Lie hT hy he) hy he))
    · exact rK.rf.r hy.2.1
theorem rQv_b (z : (rQ4 e rc n A).1 20 7 = 0) : rQv e A ≤ n - 1 := by
  unfold rQ4 at z
  have z2 := rQ3_7 (rNd_7 z)
  unfold rQ2 at z2
  have h := (rNm_v z2).2
  unfold rQv
  exact h
theorem rLiar_F (hy : lyR rc) (he : e ≤ 300) (hn : 1 ≤ n ∧ n ≤ 7) (h : rSt rc e n A) : rKr rc A (rLiar e rc n A) := by
  have h4 : rSt rc e n (rQ4 e rc n A) := rSt_Nd (rSt_Q3 h hy he) hy he
  have k4 := (rQ4_K e rc n A).r hy.2.1
  unfold rLiar
  split
  · rename_i z
    have hv : rQv e A ≤ n - 1 := rQv_b z
    refine k4.tr (rKr.tr ⟨zKf.rf.w (by unfold rFr; omega), fun q a ha => ?_⟩ (rLx_F hy he (by omega) 13 (rSt_li h4 hy)))
    rw [zw_ne (by omega), zw_ne (by omega)]
    exact q a ha
  · exact k4
theorem rLo_F (hy : lyR rc) (he : e ≤ 300) (hn : 1 ≤ n ∧ n ≤ 7) : ∀ (f : Nat) {A : zM}, rSt rc e n A → rKr rc A (rLo e rc n f A)
  | 0, A, _ => rK.rf.r hy.2.1
  | f + 1, A, h => by
    have hS : rSt rc e n (rS e A) := rSt_S h hy he
    unfold rLo
    split
    · split
      · exact (((rAt_K _ _).r hy.2.1).tr (rLiar_F hy he hn hS)).tr (rLo_F hy he hn f (rSt_Liar hS hy he))
      · exact (rAt_K _ _).r hy.2.1
    · exact rK.rf.r hy.2.1
theorem rBe_F (hy : lyR rc) : rKr rc A (rBe rc e n A) := by
  have hr := hy.2.1
  refine ⟨?_, fun q a ha => ?_⟩
  · unfold rBe lClear
    exact ((((((((zKf.rf.w (by unfold rFr; omega)).w (by unfold rFr; omega)).w (by unfold rFr; omega)).w (by unfold rFr; omega)).w (by unfold rFr; omega)).w (by unfold rFr; omega)).w (by unfold rFr; omega))).tr (zKf.for 7 _ (fun i M _ => zKf.rf.w (by unfold rFr; omega)))
  · unfold rBe
    rw [lClear_c (by omega), lClear_c (by omega), zw_ne (by omega), zw_ne (by omega), zw_ne (by omega), zw_ne (by omega), zw_ne (by omega), zw_ne (by omega), zw_ne (by omega), zw_ne (by omega), zw_ne (by omega), zw_ne (by omega), zw_ne (by omega), zw_ne (by omega)]
    exact q a ha
theorem rRead_F (hy : lyR rc) (he : e ≤ 300) (hn : 1 ≤ n ∧ n ≤ 7) (hp : A.1 20 2 = nI rc) : rKr rc A (rRead rc e n A) := (rBe_F hy).tr (rLo_F hy he hn 301 (rBe_st hy hp))
theorem rBe_0 (hy : lyR rc) : (rBe rc e n A).1 20 0 = nI 0 ∧ (rBe rc e n A).1 20 1 = -1 ∧ (rBe rc e n A).1 20 7 = nI 0 ∧ (rBe rc e n A).1 20 4 = nI 0 ∧ (rBe rc e n A).1 rc 0 = nI 0 := by
  have hr := hy.2.1
  have hz : ∀ j, (rBe rc e n A).1 20 j = (zw (zw (zw (zw (zw (zw A 20 4 (nI 0)) 20 5 (nI e)) 20 6 (nI n)) 20 7 (nI 0)) 20 1 (-1)) 20 0 (nI 0)).1 20 j := fun j => lClear_c (by omega)
  refine ⟨by rw [hz, zw_same], by rw [hz, zw_ne (by omega), zw_same], by rw [hz, zw_ne (by omega), zw_ne (by omega), zw_same], by rw [hz, zw_ne (by omega), zw_ne (by omega), zw_ne (by omega), zw_ne (by omega), zw_ne (by omega), zw_same], ?_⟩
  unfold rBe lClear
  rw [(zKf.for (F := fun a _ => a = rc + 1 + 1) 7 _ (fun i M _ => zKf.rf.w rfl)).1 rc 0 (by omega), zw_same]
/-- .. and the fields that no step of the reading touches -/
theorem rLx_0 (hy : lyR rc) (he : e ≤ 300) (hw : w < 7) : ∀ (f : Nat) {A : zM}, rSt rc e n A → (rLx e rc n w f A).1 20 0 = A.1 20 0
  | 0, A, _ => rfl
  | f + 1, A, h => by
    have hr := hy.2.1
    unfold rLx
    split
    · split
      · exact (rTm_K _ _ _).1.1 _ _ (by unfold rFc; omega)
      · have hT : rSt rc e n (rTm e (nI 125) A) := rSt_T h hy he
        have hL := rLie_K (e := e) (n := n) (w := w) hy.2.1 rfl ((hT.2.2.2.2.2 w hw).2) hw
        rw [rLx_0 hy he hw f (rSt_Nd (rSt_Lie hT hy he) hy he), (rNd_K _ _ _).1.1 _ _ (by unfold rFc; omega), hL.1.1 _ _ (by unfold rFl rFc; omega), (rTm_K _ _ _).1.1 _ _ (by unfold rFc; omega)]
    · rfl
theorem rLo_0 (hy : lyR rc) (he : e ≤ 300) (hn : 1 ≤ n ∧ n ≤ 7) : ∀ (f : Nat) {A : zM}, rSt rc e n A → (rLo e rc n f A).1 20 0 = A.1 20 0
  | 0, A, _ => rfl
  | f + 1, A, h => by
    have hr := hy.2.1
    have hS : rSt rc e n (rS e A) := rSt_S h hy he
    have hS0 : (rS e A).1 20 0 = A.1 20 0 := rAt_c (by omega)
    unfold rLo
    split
    · split
      · rw [rLo_0 hy he hn f (rSt_Liar hS hy he), ← hS0]
        have h4 : rSt rc e n (rQ4 e rc n (rS e A)) := rSt_Nd (rSt_Q3 hS hy he) hy he
        unfold rLiar
        split
        · rename_i z
          have hv : rQv e (rS e A) ≤ n - 1 := rQv_b z
          rw [rLx_0 hy he (by omega) 13 (rSt_li h4 hy), zw_ne (by omega)]
          exact (rQ4_K e rc n (rS e A)).1.1 _ _ (by unfold rFc; omega)
        · exact (rQ4_K e rc n (rS e A)).1.1 _ _ (by unfold rFc; omega)
      · exact hS0
    · rfl
/-- what the reference touches while it reads -/
def uFq (a j : Nat) : Prop := uFr a j ∨ a = 1209 ∨ (3191 ≤ a ∧ a < 3282)
theorem kU.fq (h : kU B B1) : zKf uFq B B1 := h.mono (fun _ _ q => Or.inl q)
theorem uLx_F (hw : w < 7) : ∀ (f k : Nat) {B : zM}, k + f = 13 → zKf uFq B (uLx e n w f k B)
  | 0, k, B, _ => zKf.rf
  | f + 1, k, B, hk => by
    unfold uLx
    split
    · split
      · exact (uAt_k _ _).fq
      · split
        · split
          · exact kU.fq ((uAt_k _ _).tr (mWr_k _ _ _))
          · have h1 : zKf uFq (uS e B) (uLie e n (uCl w k) (uS e B)) := (uLie_k e n (uCl w k) (uS e B)).mono (fun a j g => by unfold uFq; rcases g with g | g; exact Or.inl g; unfold uCl at g; omega)
            exact ((((uAt_k _ _).fq).tr h1).w (Or.inr (Or.inl rfl))).tr (uLx_F hw f (k + 1) (by omega))
        · exact kU.fq ((uAt_k _ _).tr (mWr_k _ _ _))
    · exact zKf.rf
theorem uLiar_F (hn : 1 ≤ n ∧ n ≤ 7) : zKf uFq B (uLiar e n B) := by
  have hw := (uQw_b (e := e) (n := n) (M := B) hn.1 hn.2).2
  unfold uLiar
  split
  · exact (((uQ4_k e n B).fq.w (Or.inr (Or.inl rfl))).tr (uLx_F (by omega) 13 0 (by omega))).tr (uSg_k _ _ _).fq
  · exact (uQ4_k e n B).fq
theorem uLo_F (hn : 1 ≤ n ∧ n ≤ 7) : ∀ (f : Nat) {B : zM}, zKf uFq B (uLo e n f B)
  | 0, B => zKf.rf
  | f + 1, B => by
    unfold uLo
    split
    · split
      · exact (uAt_k _ _).fq
      · exact (((uAt_k _ _).fq).tr (uLiar_F hn)).tr (uLo_F hn f)
    · exact zKf.rf
theorem uB1_c : (uB1 k M).1 300 0 = nI 0 ∧ (uB1 k M).1 300 2 = nI 0 ∧ (uB1 k M).1 300 4 = nI 0 ∧ (uB1 k M).1 300 6 = nI 0 ∧ (uB1 k M).1 300 7 = -1 ∧ (∀ a j, a ≠ 300 ∨ 8 ≤ j → a ≠ 1209 → (uB1 k M).1 a j = M.1 a j) ∧ (uB1 k M).2 = M.2 := by
  have hz : ∀ a j, a ≠ 1209 → (uB1 k M).1 a j = (zw (zw (zw (zw (zw (zw M 300 0 (nI 0)) 300 2 (nI 0)) 300 3 (nI k)) 300 4 (nI 0)) 300 6 (nI 0)) 300 7 (-1)).1 a j := fun a j ha => by unfold uB1; exact mEmp_c ha
  refine ⟨?_, ?_, ?_, ?_, ?_, fun a j h1 h2 => ?_, (mEmp_k 1 _).2⟩
  · rw [hz _ _ (by omega), zw_ne (by omega), zw_ne (by omega), zw_ne (by omega), zw_ne (by omega), zw_ne (by omega), zw_same]
  · rw [hz _ _ (by omega), zw_ne (by omega), zw_ne (by omega), zw_ne (by omega), zw_ne (by omega), zw_same]
  · rw [hz _ _ (by omega), zw_ne (by omega), zw_ne (by omega), zw_same]
  · rw [hz _ _ (by omega), zw_ne (by omega), zw_same]
  · rw [hz _ _ (by omega), zw_same]
  · rw [hz _ _ h2, zw_ne (by omega), zw_ne (by omega), zw_ne (by omega), zw_ne (by omega), zw_ne (by omega), zw_ne (by omega)]
-- what is copied at the end
theorem uC6_at {m i : Nat} : ∀ (k : Nat) (M : zM) (a j : Nat), (uC6 m i k M).1 a j = if a = mLc m i ∧ j < k then M.1 (uCl m i) j else M.1 a j
  | 0, M, a, j => (if_neg (fun h => Nat.not_lt_zero _ h.2)).symm
  | k + 1, M, a, j => by
    show (zw (uC6 m i k M) (mLc m i) k ((uC6 m i k M).1 (uCl m i) k)).1 a j = _
    have h1 : (uC6 m i k M).1 (uCl m i) k = M.1 (uCl m i) k := by
      rw [uC6_at k M, if_neg (fun h => by unfold uCl mLc at h; omega)]
    rw [zw_at, h1]
    by_cases g : a = mLc m i ∧ j = k
    · obtain ⟨rfl, rfl⟩ := g
      rw [if_pos ⟨rfl, rfl⟩, if_pos ⟨rfl, Nat.lt_succ_self _⟩]
    · rw [if_neg g, uC6_at k M]
      by_cases g2 : a = mLc m i ∧ j < k
      · rw [if_pos g2, if_pos ⟨g2.1, by omega⟩]
      · rw [if_neg g2, if_neg (fun z => by
          by_cases ej : j = k
          · exact g ⟨z.1, ej⟩
          · exact g2 ⟨z.1, by omega⟩)]
theorem uCi_at {m : Nat} : ∀ (c : Nat) (M : zM) (a j : Nat), (uCi m c M).1 a j = if 3100 + 13 * m ≤ a ∧ a < 3100 + 13 * m + c ∧ j < 6 then M.1 (a + 91) j else M.1 a j
  | 0, M, a, j => (if_neg (by omega)).symm
  | c + 1, M, a, j => by
    show (uC6 m c 6 (uCi m c M)).1 a j = _
    rw [uC6_at, uCi_at c M, uCi_at c M]
    by_cases g : a = mLc m c ∧ j < 6
    · obtain ⟨rfl, g2⟩ := g
      have e1 : mLc m c + 91 = uCl m c := by unfold mLc uCl; omega
      rw [if_pos ⟨rfl, g2⟩, if_neg (by unfold uCl; omega), if_pos (by unfold mLc; omega), e1]
    · rw [if_neg g]
      by_cases g2 : 3100 + 13 * m ≤ a ∧ a < 3100 + 13 * m + c ∧ j < 6
      · rw [if_pos g2, if_pos (by omega)]
      · rw [if_neg g2, if_neg (fun z => by
          by_cases ea : a = mLc m c
          · exact g ⟨ea, z.2.2⟩
          · unfold mLc at ea
            omega)]
theorem uCm_at (h : ∀ s, s < 7 → zN (M.1 1209 s) ≤ 12) : ∀ k, k ≤ 7 → (∀ m, m < 7 → (uCm k M).1 1208 m = if m < k then M.1 1209 m else M.1 1208 m) ∧ ∀ m i j, m < 7 → i < 13 → (uCm k M).1 (mLc m i) j = if m < k ∧ i < zN (M.1 1209 m) ∧ j < 6 then M.1 (uCl m i) j else M.1 (mLc m i) j
  | 0, _ => ⟨fun m _ => (if_neg (Nat.not_lt_zero _)).symm, fun m i j _ _ => (if_neg (fun z => Nat.not_lt_zero _ z.1)).symm⟩
  | k + 1, hk => by
    obtain ⟨h1, h2⟩ := uCm_at h k (by omega)
    have hf := uCm_k h k (by omega)
    have h9 : (uCm k M).1 1209 k = M.1 1209 k := hf.1 _ _ (by unfold uFc; omega)
    have hc := h k (by omega)
    have e0 : uCm (k + 1) M = uCi k (zN (M.1 1209 k)) (zw (uCm k M) 1208 k (M.1 1209 k)) := by
      show uCi k (zN ((uCm k M).1 1209 k)) (zw (uCm k M) 1208 k ((uCm k M).1 1209 k)) = _
      rw [h9]
    rw [e0]
    refine ⟨fun m hm => ?_, fun m i j hm hi => ?_⟩
    · rw [uCi_at, if_neg (by omega), zw_at]
      by_cases em : m = k
      · subst em
        rw [if_pos ⟨rfl, rfl⟩, if_pos (by omega)]
      · rw [if_neg (by omega), h1 m hm]
        by_cases g : m < k
        · rw [if_pos g, if_pos (by omega)]
        · rw [if_neg g, if_neg (by omega)]
    · rw [uCi_at, zw_ne (by unfold mLc; omega), zw_ne (by unfold mLc; omega)]
      have e1 : mLc m i + 91 = uCl m i := by unfold mLc uCl; omega
      have e2 : (uCm k M).1 (uCl m i) j = M.1 (uCl m i) j := hf.1 _ _ (by unfold uFc uCl; omega)
      rw [e1, e2, h2 m i j hm hi]
      by_cases em : m = k
      · subst em
        by_cases g : i < zN (M.1 1209 m) ∧ j < 6
        · rw [if_pos (by unfold mLc; omega), if_pos ⟨by omega, g⟩]
        · rw [if_neg (by unfold mLc; omega), if_neg (by omega), if_neg (fun z => g z.2)]
      · rw [if_neg (by unfold mLc; omega)]
        by_cases g : m < k
        · by_cases g2 : i < zN (M.1 1209 m) ∧ j < 6
          · rw [if_pos ⟨g, g2⟩, if_pos ⟨by omega, g2⟩]
          · rw [if_neg (fun z => g2 z.2), if_neg (fun z => g2 z.2)]
        · rw [if_neg (fun z => g z.1), if_neg (by omega)]
theorem zLb_bt {lb : Nat → Bool} {b : Nat} (hb : b < 32) : ∀ k, k ≤ 32 → bt (zLb lb k) b = (decide (b < k) && lb b)
  | 0, _ => by
    rw [decide_eq_false (Nat.not_lt_zero _), Bool.false_and]
    exact bt_0 b
  | k + 1, hk => by
    show bt (zLb lb k ||| (if lb k then nI 1 <<< (nI k &&& 31) else nI 0)) b = _
    rw [b_or, zLb_bt hb k (by omega)]
    by_cases eb : b = k
    · subst eb
      rw [decide_eq_false (Nat.lt_irrefl b), decide_eq_true (Nat.lt_succ_self b), Bool.false_and, Bool.false_or, Bool.true_and]
      cases hl : lb b with
      | true => rw [if_pos rfl, bt_sh hb hb, decide_eq_true rfl]
      | false => rw [if_neg (by decide)]; exact bt_0 b
    · have e1 : bt (if lb k then nI 1 <<< (nI k &&& 31) else nI 0) b = false := by
        split
        · rw [bt_sh (by omega) hb, decide_eq_false eb]
        · exact bt_0 b
      rw [e1, Bool.or_false]
      congr 1
      rw [decide_eq_decide]
      omega
/-- both hold the same lies, once all is read -/
theorem zIl_read {cn : Nat → Nat} {lb : Nat → Bool} (hcn : ∀ m, cn m = lyK rc m A) (hlb : ∀ m, lb m = !decide (B.1 1209 m = -1)) (hC : lyC rc A) (hn : n ≤ 7) (hD : rD rc n A B) (hA : ∀ b i, rc ≤ b → b ≤ rc + 8 → D.1 b i = A.1 b i) (h8 : ∀ m, m < 7 → D.1 1208 m = B.1 1209 m) (hL : ∀ m i j, m < 7 → i < lyK rc m A → j < 6 → D.1 (mLc m i) j = B.1 (uCl m i) j) : zIl rc n D cn lb := by
  refine ⟨fun m hm => ?_, ?_, fun m k hm hk => ?_⟩
  · obtain ⟨d1, -⟩ := hD.1 m hm
    obtain ⟨c1, c2⟩ := hC m hm
    rw [hA _ _ (by omega) (by omega), hA rc 0 (by omega) (by omega), h8 m hm, bit_bt (by omega), hcn]
    rcases d1 with ⟨q1, q2, q3⟩ | ⟨q1, q2, q3⟩
    · have hl : lb m = false := by rw [hlb, q1]; rfl
      have e0 : lyK rc m A = 0 := by unfold lyK; rw [q2]; exact zN_nI (by decide)
      rw [q1, q3, hl]
      exact ⟨c1, c2, fun _ => e0, fun _ => rfl, rfl, rfl⟩
    · have hne : ¬ B.1 1209 m = -1 := by rw [q2, c1]; exact nI_m1 (by omega)
      have hl : lb m = true := by rw [hlb, decide_eq_false hne]; rfl
      rw [q3, hl, if_pos rfl, q2]
      exact ⟨c1, c2, fun z => absurd z (by decide), fun z => absurd q1 (by omega), c1, rfl⟩
  · rw [hA rc 0 (by omega) (by omega)]
    refine b_ext (fun b hb => ?_)
    rw [zLb_bt hb n (by omega), hlb]
    by_cases h7 : b < 7
    · rcases (hD.1 b h7).1 with ⟨q1, q2, q3⟩ | ⟨q1, q2, q3⟩
      · rw [q3, q1]
        simp
      · have hne : ¬ B.1 1209 b = -1 := by rw [q2, (hC b h7).1]; exact nI_m1 (by have := (hC b h7).2; omega)
        rw [q3, decide_eq_false hne, decide_eq_true q1]
        rfl
    · rw [hD.2 b (by omega) hb, decide_eq_false (show ¬ b < n by omega), Bool.false_and]
  · rw [hcn] at hk
    have hk' : k < 12 := Nat.lt_of_lt_of_le hk (hC m hm).2
    obtain ⟨g1, g2, g3, g4, g5, g6, -⟩ := (hD.1 m hm).2 k hk
    unfold zLie
    rw [hA (rc + 1 + 2) _ (by omega) (by omega), hA (rc + 1 + 3) _ (by omega) (by omega), hA (rc + 1 + 4) _ (by omega) (by omega), hA (rc + 1 + 5) _ (by omega) (by omega), hA (rc + 1 + 6) _ (by omega) (by omega), hA (rc + 1 + 7) _ (by omega) (by omega), hL m k 0 hm hk (by decide), hL m k 1 hm hk (by decide), hL m k 2 hm hk (by decide), hL m k 3 hm hk (by decide), hL m k 4 hm hk (by decide), hL m k 5 hm hk (by decide)]
    exact ⟨g1, g2, g3, g4, g5, g6⟩
end zLiF
