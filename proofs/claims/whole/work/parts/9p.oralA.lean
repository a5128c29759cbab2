section zOralA
theorem zlay_tab : ∀ n, n < 8 → ∀ c, c < 7 → ∀ p, p < 57 → 3 ≤ n → c < n → (zlay c n p == 0) = !mPath n c p := by decide +kernel
theorem zset_tab : ∀ c, c < 7 → ∀ p, p < 57 → ∀ x, x < 7 → bit (zset c p) x = mIsIn c p x := by decide +kernel
variable {o n c : Nat}
/-- the paths are laid -/
def orL (o n c : Nat) (A : zM) : Prop := ∀ p, p < 57 → A.1 (o + 1 + 18) p = zlay c n p
theorem orL.path {A : zM} (h : orL o n c A) (hn : 3 ≤ n ∧ n ≤ 7) (hc : c < n) {p : Nat} (hp : p < 57) : oPath o A p = mPath n c p := by
  unfold oPath
  rw [h p hp, zlay_tab n (by omega) c (by omega) p hp hn.1 hc, Bool.not_not]
theorem orL.on {A : zM} (h : orL o n c A) (hn : 3 ≤ n ∧ n ≤ 7) (hc : c < n) {p x : Nat} (hp : p < 57) (hx : x < 7) (hm : mPath n c p = true) : oOn o A p x = mIsIn c p x := by
  unfold oOn
  have h1 := zlay_tab n (by omega) c (by omega) p hp hn.1 hc
  rw [h p hp]
  unfold zlay at h1 ⊢
  split at h1
  · rename_i e
    rw [if_pos e]
    exact zset_tab c (by omega) p hp x hx
  · rw [hm] at h1
    exact absurd h1 (by decide)
theorem zfr_len {L p : Nat} (hL : 1 ≤ L ∧ L ≤ 3) (hp : p < 57) : (zfr L ≤ p ∧ p < zfr (L + 1)) ↔ zlen p = L := by
  unfold zlen
  rcases (show L = 1 ∨ L = 2 ∨ L = 3 by omega) with rfl | rfl | rfl
  · rw [show zfr 1 = 0 from rfl, show zfr (1 + 1) = 1 from rfl]
    split
    · omega
    · split <;> omega
  · rw [show zfr 2 = 1 from rfl, show zfr (2 + 1) = 8 from rfl]
    split
    · omega
    · split <;> omega
  · rw [show zfr 3 = 8 from rfl, show zfr (3 + 1) = 57 from rfl]
    split
    · omega
    · split <;> omega
theorem zfor_id {f : Nat → zM → zM} {M : zM} : ∀ a, (∀ i, i < a → f i M = M) → zfor f a M = M
  | 0, _ => rfl
  | a + 1, h => by
    show f a (zfor f a M) = M
    rw [zfor_id a (fun i hi => h i (by omega))]
    exact h a (by omega)
theorem zfor_add {f : Nat → zM → zM} {M : zM} (a : Nat) : ∀ k, zfor f (a + k) M = zfor (fun i M => f (a + i) M) k (zfor f a M)
  | 0 => rfl
  | k + 1 => by
    show f (a + k) (zfor f (a + k) M) = f (a + k) (zfor (fun i M => f (a + i) M) k (zfor f a M))
    rw [zfor_add a k]
/-- a loop that does nothing outside of a range -/
theorem zfor_range {f : Nat → zM → zM} {a b N : Nat} {M : zM} (hab : a ≤ b) (hbN : b ≤ N) (h1 : ∀ i M, i < a → f i M = M) (h2 : ∀ i M, b ≤ i → i < N → f i M = M) : zfor f N M = zfor (fun i M => f (a + i) M) (b - a) M := by
  have e1 : zfor f b M = zfor (fun i M => f (a + i) M) (b - a) M := by
    have h := zfor_add (f := f) (M := M) a (b - a)
    rw [show a + (b - a) = b by omega, zfor_id a (fun i hi => h1 i M hi)] at h
    exact h
  have h := zfor_add (f := f) (M := M) b (N - b)
  rw [show b + (N - b) = N by omega] at h
  rw [h, zfor_id (N - b) (fun i hi => h2 (b + i) _ (by omega) (by omega)), e1]
variable {rows row p : Nat} {M : zM}
theorem oGa_spec (hr : rows ≠ o + 1 + 19) : ∀ k, (oGa o rows row p k M).1 = zcnt (fun i => !oOn o M p i) k ∧ (∀ x, zcnt (fun j => (oGa o rows row p k M).2.1 (o + 1 + 19) j == x) (oGa o rows row p k M).1 = zcnt (fun i => !oOn o M p i && M.1 rows (row + zlong p i) == x) k) ∧ ∀ j, j < (oGa o rows row p k M).1 → ∃ i, i < k ∧ oOn o M p i = false ∧ (oGa o rows row p k M).2.1 (o + 1 + 19) j = M.1 rows (row + zlong p i)
  | 0 => ⟨rfl, fun _ => rfl, fun j h => absurd h (Nat.not_lt_zero _)⟩
  | k + 1 => by
    obtain ⟨h1, h2, h3⟩ := oGa_spec hr k
    have e : oGa o rows row p (k + 1) M = if oOn o M p k then oGa o rows row p k M else ((oGa o rows row p k M).1 + 1, zw (oGa o rows row p k M).2 (o + 1 + 19) (oGa o rows row p k M).1 (M.1 rows (row + zlong p k))) := rfl
    rw [e]
    generalize oGa o rows row p k M = g at *
    obtain ⟨K, D⟩ := g
    simp only [] at h1 h2 h3 ⊢
    cases hk : oOn o M p k with
    | true =>
      rw [if_pos rfl]
      refine ⟨by rw [zcnt_s, hk]; exact h1, fun x => by rw [zcnt_s, hk]; exact h2 x, fun j hj => ?_⟩
      obtain ⟨i, hi, g1, g2⟩ := h3 j hj
      exact ⟨i, by omega, g1, g2⟩
    | false =>
      rw [if_neg (by decide)]
      refine ⟨by rw [zcnt_s, hk, ← h1]; rfl, fun x => ?_, fun j hj => ?_⟩
      · show zcnt (fun j => (zw D (o + 1 + 19) K (M.1 rows (row + zlong p k))).1 (o + 1 + 19) j == x) (K + 1) = _
        rw [zcnt_s, zcnt_s, hk, ← h2 x, zw_same]
        rw [zcnt_congr K (q := fun j => D.1 (o + 1 + 19) j == x) (fun j hj => by rw [zw_ne (Or.inr (by omega))])]
        rfl
      · show ∃ i, i < k + 1 ∧ oOn o M p i = false ∧ (zw D (o + 1 + 19) K (M.1 rows (row + zlong p k))).1 (o + 1 + 19) j = M.1 rows (row + zlong p i)
        have hj9 : j < K + 1 := hj
        by_cases ej : j = K
        · subst ej
          exact ⟨k, by omega, hk, zw_same⟩
        · obtain ⟨i, hi, g1, g2⟩ := h3 j (by omega)
          exact ⟨i, by omega, g1, by rw [zw_ne (Or.inr ej)]; exact g2⟩
/-- the most frequent of what is gathered -/
theorem oMc_spec (hr : rows ≠ o + 1 + 19) (hK : ∃ q, q < n ∧ oOn o M p q = false) : (∀ i, i < n → oOn o M p i = false → zcnt (fun r => !oOn o M p r && M.1 rows (row + zlong p r) == M.1 rows (row + zlong p i)) n ≤ oMc o (oGa o rows row p n M)) ∧ ∃ i, i < n ∧ oOn o M p i = false ∧ oMv o (oGa o rows row p n M) = M.1 rows (row + zlong p i) ∧ oMc o (oGa o rows row p n M) = zcnt (fun r => !oOn o M p r && M.1 rows (row + zlong p r) == M.1 rows (row + zlong p i)) n := by
  obtain ⟨h1, h2, h3⟩ := oGa_spec (o := o) (row := row) (p := p) (M := M) hr n
  unfold oMc oMv oMo
  generalize oGa o rows row p n M = g at *
  obtain ⟨K, D⟩ := g
  simp only [] at h1 h2 h3 ⊢
  obtain ⟨q, hq1, hq2⟩ := hK
  have hKp : 0 < K := by
    rw [h1]
    exact zcnt_pos (m := q) (by rw [hq2]; rfl) n hq1
  have hpos : 0 < (zfm (fun i => zcnt (fun j => D.1 (o + 1 + 19) j == D.1 (o + 1 + 19) i) K) K).2 := Nat.lt_of_lt_of_le (zcnt_pos (m := 0) (by simp) K hKp) (zfm_ge (fun i => zcnt (fun j => D.1 (o + 1 + 19) j == D.1 (o + 1 + 19) i) K) K 0 hKp)
  have hval := zfm_val _ K hpos
  have hin := zfm_in (fun i => zcnt (fun j => D.1 (o + 1 + 19) j == D.1 (o + 1 + 19) i) K) K hKp
  have hge := zfm_ge (fun i => zcnt (fun j => D.1 (o + 1 + 19) j == D.1 (o + 1 + 19) i) K) K
  generalize zfm (fun i => zcnt (fun j => D.1 (o + 1 + 19) j == D.1 (o + 1 + 19) i) K) K = z at *
  have hval : z.2 = zcnt (fun j => D.1 (o + 1 + 19) j == D.1 (o + 1 + 19) z.1) K := hval
  refine ⟨fun i hi hoi => ?_, ?_⟩
  · -- the value of i stands somewhere in the list
    have hc : 0 < zcnt (fun j => D.1 (o + 1 + 19) j == M.1 rows (row + zlong p i)) K := by
      rw [h2]
      exact zcnt_pos (m := i) (by rw [hoi]; simp) n hi
    obtain ⟨j, hj, ej⟩ : ∃ j, j < K ∧ D.1 (o + 1 + 19) j = M.1 rows (row + zlong p i) := by
      refine Classical.byContradiction (fun hn => ?_)
      rw [zcnt_none K (fun j hj => by
        refine beq_eq_false_iff_ne.mpr (fun e => hn ⟨j, hj, e⟩))] at hc
      exact absurd hc (Nat.lt_irrefl 0)
    rw [← h2, ← ej, ← hval]
    exact hge j hj
  · obtain ⟨i, hi, g1, g2⟩ := h3 z.1 hin
    exact ⟨i, hi, g1, g2, by rw [g2, h2]⟩
theorem zcnt_two {P : Nat → Bool} {v : Nat → Int32} {x y : Int32} (hxy : x ≠ y) : ∀ n, zcnt (fun r => P r && v r == x) n + zcnt (fun r => P r && v r == y) n ≤ zcnt P n
  | 0 => Nat.le_refl 0
  | n + 1 => by
    have ih := zcnt_two (P := P) (v := v) hxy n
    rw [zcnt_s, zcnt_s, zcnt_s]
    cases hP : P n with
    | false =>
      simp only [Bool.false_and]
      exact ih
    | true =>
      simp only [Bool.true_and]
      by_cases e1 : v n = x
      · have e2 : ¬ v n = y := fun e => hxy (e1.symm.trans e)
        rw [beq_iff_eq.mpr e1, beq_eq_false_iff_ne.mpr e2]
        simp
        omega
      · rw [beq_eq_false_iff_ne.mpr e1]
        cases (v n == y) <;> simp <;> omega
theorem mMx_ge {v : Nat → Int32} : ∀ k q, q < k → mIsIn c p q = false → mSo c p v q n ≤ mMx c p n v k
  | 0, q, h, _ => absurd h (Nat.not_lt_zero _)
  | k + 1, q, h, hq => by
    unfold mMx
    split
    · rename_i e
      rcases Nat.lt_or_ge q k with h1 | h1
      · exact mMx_ge k q h1 hq
      · rw [show q = k by omega, e] at hq; cases hq
    · split
      · rename_i e
        rcases Nat.lt_or_ge q k with h1 | h1
        · exact Nat.le_of_lt (Nat.lt_of_le_of_lt (mMx_ge k q h1 hq) e)
        · rw [show q = k by omega]; exact Nat.le_refl _
      · rename_i e
        rcases Nat.lt_or_ge q k with h1 | h1
        · exact mMx_ge k q h1 hq
        · rw [show q = k by omega]; omega
theorem mMx_at {v : Nat → Int32} : ∀ k, mMx c p n v k = 0 ∨ ∃ q, q < k ∧ mIsIn c p q = false ∧ mMx c p n v k = mSo c p v q n
  | 0 => Or.inl rfl
  | k + 1 => by
    have ih := mMx_at (v := v) k
    unfold mMx
    split
    · rcases ih with h | ⟨q, h1, h2, h3⟩
      · exact Or.inl h
      · exact Or.inr ⟨q, by omega, h2, h3⟩
    · rename_i hk
      split
      · exact Or.inr ⟨k, by omega, by simpa using hk, rfl⟩
      · rcases ih with h | ⟨q, h1, h2, h3⟩
        · exact Or.inl h
        · exact Or.inr ⟨q, by omega, h2, h3⟩
theorem cnt_alike {v : Nat → Int32} (hon : ∀ i, i < n → oOn o M p i = mIsIn c p i) (hv : ∀ i, i < n → mIsIn c p i = false → M.1 rows (row + zlong p i) = v i) {q : Nat} (hq : q < n) (hq2 : mIsIn c p q = false) : zcnt (fun r => !oOn o M p r && M.1 rows (row + zlong p r) == M.1 rows (row + zlong p q)) n = mSo c p v q n := by
  unfold mSo
  refine zcnt_congr n (fun i hi => ?_)
  rw [hon i hi, hv q hq hq2]
  cases hi2 : mIsIn c p i with
  | true => rfl
  | false => rw [hv i hi hi2]
theorem oMc_mMx {v : Nat → Int32} (hr : rows ≠ o + 1 + 19) (hK : ∃ q, q < n ∧ mIsIn c p q = false) (hon : ∀ i, i < n → oOn o M p i = mIsIn c p i) (hv : ∀ i, i < n → mIsIn c p i = false → M.1 rows (row + zlong p i) = v i) : oMc o (oGa o rows row p n M) = mMx c p n v n := by
  obtain ⟨q, hq1, hq2⟩ := hK
  obtain ⟨h1, i, hi, h2, h3, h4⟩ := oMc_spec (o := o) (n := n) (row := row) (p := p) (M := M) hr ⟨q, hq1, by rw [hon q hq1]; exact hq2⟩
  have hi2 : mIsIn c p i = false := by rw [← hon i hi]; exact h2
  rw [cnt_alike hon hv hi hi2] at h4
  refine Nat.le_antisymm (by rw [h4]; exact mMx_ge n i hi hi2) ?_
  rcases mMx_at (c := c) (p := p) (n := n) (v := v) n with h | ⟨j, hj, g1, g2⟩
  · rw [h]; exact Nat.zero_le _
  · rw [g2, ← cnt_alike hon hv hj g1]
    exact h1 j hj (by rw [hon j hj]; exact g1)
theorem oMaj_mPick {v : Nat → Int32} (hr : rows ≠ o + 1 + 19) (hK : ∃ q, q < n ∧ mIsIn c p q = false) (hon : ∀ i, i < n → oOn o M p i = mIsIn c p i) (hv : ∀ i, i < n → mIsIn c p i = false → M.1 rows (row + zlong p i) = v i) : oMaj o rows row p n M = mPick (mIsIn c p) v n (M.1 o 9) := by
  obtain ⟨q0, hq1, hq2⟩ := hK
  obtain ⟨h1, i, hi, h2, h3, h4⟩ := oMc_spec (o := o) (n := n) (row := row) (p := p) (M := M) hr ⟨q0, hq1, by rw [hon q0 hq1]; exact hq2⟩
  have hi2 : mIsIn c p i = false := by rw [← hon i hi]; exact h2
  have hK2 : (oGa o rows row p n M).1 = zcnt (fun r => !mIsIn c p r) n := by
    rw [(oGa_spec (o := o) (row := row) (p := p) (M := M) hr n).1]
    exact zcnt_congr n (fun i hi => by rw [hon i hi])
  rw [cnt_alike hon hv hi hi2] at h4
  unfold oMaj mPick
  rw [hK2, h4, h3, hv i hi hi2]
  have hs : ∀ q, zcnt (fun r => !mIsIn c p r && v r == v q) n = mSo c p v q n := fun q => rfl
  by_cases hm : zcnt (fun r => !mIsIn c p r) n < 2 * mSo c p v i n
  · rw [if_pos hm]
    cases hz : zfst (fun q => !mIsIn c p q && decide (zcnt (fun r => !mIsIn c p r) n < 2 * zcnt (fun r => !mIsIn c p r && v r == v q) n)) n with
    | none =>
      exfalso
      have hn : ∀ k, k ≤ n → ∀ j, j < k → (!mIsIn c p j && decide (zcnt (fun r => !mIsIn c p r) n < 2 * zcnt (fun r => !mIsIn c p r && v r == v j) n)) = false := by
        intro k hk j hj
        cases hb : (!mIsIn c p j && decide (zcnt (fun r => !mIsIn c p r) n < 2 * zcnt (fun r => !mIsIn c p r && v r == v j) n)) with
        | false => rfl
        | true =>
          have : ∀ k, j < k → k ≤ n → ∃ a, zfst (fun q => !mIsIn c p q && decide (zcnt (fun r => !mIsIn c p r) n < 2 * zcnt (fun r => !mIsIn c p r && v r == v q) n)) k = some a := by
            intro k
            induction k with
            | zero => intro h _; exact absurd h (Nat.not_lt_zero _)
            | succ k ih =>
              intro h1 h2
              cases hz2 : zfst (fun q => !mIsIn c p q && decide (zcnt (fun r => !mIsIn c p r) n < 2 * zcnt (fun r => !mIsIn c p r && v r == v q) n)) k with
              | some a => exact ⟨a, zfst_old hz2⟩
              | none =>
                rcases Nat.lt_or_ge j k with q | q
                · obtain ⟨a, ha⟩ := ih q (by omega)
                  rw [hz2] at ha; cases ha
                · exact ⟨k, zfst_new hz2 (by rw [show k = j by omega]; exact hb)⟩
          obtain ⟨a, ha⟩ := this n (by omega) (Nat.le_refl n)
          rw [hz] at ha; cases ha
      have h9 := hn n (Nat.le_refl n) i hi
      rw [hi2, hs, decide_eq_true hm] at h9
      cases h9
    | some q =>
      have hq := zfst_true hz
      have hqn := zfst_lt hz
      simp only [Bool.and_eq_true, decide_eq_true_eq] at hq
      show v i = v q
      refine Classical.byContradiction (fun hne => ?_)
      have h9 : mSo c p v i n + mSo c p v q n ≤ zcnt (fun r => !mIsIn c p r) n := zcnt_two (P := fun r => !mIsIn c p r) (v := v) hne n
      have h10 : zcnt (fun r => !mIsIn c p r) n < 2 * mSo c p v q n := hq.2
      omega
  · rw [if_neg hm]
    cases hz : zfst (fun q => !mIsIn c p q && decide (zcnt (fun r => !mIsIn c p r) n < 2 * zcnt (fun r => !mIsIn c p r && v r == v q) n)) n with
    | none => rfl
    | some q =>
      exfalso
      have hq := zfst_true hz
      have hqn := zfst_lt hz
      simp only [Bool.and_eq_true, decide_eq_true_eq, Bool.not_eq_true'] at hq
      have h9 := h1 q hqn (by rw [hon q hqn]; exact hq.1)
      rw [cnt_alike hon hv hqn hq.1, h4] at h9
      have h10 : zcnt (fun r => !mIsIn c p r) n < 2 * mSo c p v q n := hq.2
      omega
end zOralA
