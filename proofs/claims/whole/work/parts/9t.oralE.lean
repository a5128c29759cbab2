section zOralE
variable {o lc n c t : Nat} {cn : Nat → Nat} {mn : Nat → Option Nat}
theorem mPick_congr {ex : Nat → Bool} {v w : Nat → Int32} {d : Int32} (h : ∀ q, q < n → v q = w q) : mPick ex v n d = mPick ex w n d := by
  unfold mPick
  have e : zfst (fun q => !ex q && decide (zcnt (fun r => !ex r) n < 2 * zcnt (fun r => !ex r && v r == v q) n)) n = zfst (fun q => !ex q && decide (zcnt (fun r => !ex r) n < 2 * zcnt (fun r => !ex r && w r == w q) n)) n := zfst_congr n (fun q hq => by
    rw [h q hq, zcnt_congr n (p := fun r => !ex r && v r == w q) (q := fun r => !ex r && w r == w q) (fun i hi => by rw [h i hi])])
  rw [e]
  cases hz : zfst (fun q => !ex q && decide (zcnt (fun r => !ex r) n < 2 * zcnt (fun r => !ex r && w r == w q) n)) n with
  | none => rfl
  | some q => exact h q (zfst_lt hz)
theorem mRs_dn {B : zM} {m cut p : Nat} (h : cut ≤ zlen p ∨ (0 < p ∧ zlast c p = m)) : mRs B n c m cut 2 p = B.1 (1000 + 16 * 20 + m) p := by
  show (if cut ≤ zlen p ∨ (0 < p ∧ zlast c p = m) then B.1 (1000 + 16 * 20 + m) p else _) = _
  rw [if_pos h]
theorem mRs_up {B : zM} {m cut p : Nat} (hn7 : n ≤ 7) (hcut : cut ≤ 3) (h1 : zlen p < cut) (h2 : ¬ (0 < p ∧ zlast c p = m)) : mRs B n c m cut 2 p = mPick (mIsIn c p) (fun q => mRs B n c m cut 2 (zlong p q)) n (B.1 300 24) := by
  show (if cut ≤ zlen p ∨ (0 < p ∧ zlast c p = m) then B.1 (1000 + 16 * 20 + m) p else mPick (mIsIn c p) (fun q => mRs B n c m cut 1 (zlong p q)) n (B.1 300 24)) = _
  rw [if_neg (by rintro (h | h); omega; exact h2 h)]
  refine mPick_congr (fun q hq => ?_)
  have hp8 : p < 8 := zlen_8 (by omega)
  have hl := zlen_long (p := p) (q := q) hp8 (by omega)
  have hpos := zlen_pos p
  generalize zlong p q = y at *
  show (if cut ≤ zlen y ∨ (0 < y ∧ zlast c y = m) then B.1 (1000 + 16 * 20 + m) y else mPick (mIsIn c y) (fun q => mRs B n c m cut 0 (zlong y q)) n (B.1 300 24)) = (if cut ≤ zlen y ∨ (0 < y ∧ zlast c y = m) then B.1 (1000 + 16 * 20 + m) y else mPick (mIsIn c y) (fun q => mRs B n c m cut 1 (zlong y q)) n (B.1 300 24))
  by_cases e : cut ≤ zlen y ∨ (0 < y ∧ zlast c y = m)
  · rw [if_pos e, if_pos e]
  · rw [if_neg e, if_neg e]
    refine mPick_congr (fun q2 hq2 => ?_)
    have hy : ¬ cut ≤ zlen y := fun h => e (Or.inl h)
    have hl2 := zlen_long (p := y) (q := q2) (zlen_8 (by omega)) (by omega)
    show B.1 (1000 + 16 * 20 + m) (zlong y q2) = (if cut ≤ zlen (zlong y q2) ∨ _ then B.1 (1000 + 16 * 20 + m) (zlong y q2) else _)
    rw [if_pos (Or.inl (by omega))]
/-- what is resolved, path by path -/
theorem oRes_at (hO : orO o lc) (hn : 3 ≤ n ∧ n ≤ 7) (hc : c < n) {m cut jc row : Nat} (hm : m < n) (hmc : m ≠ c) (hcut : 1 ≤ cut ∧ cut ≤ 3) (hct : cut ≤ t + 1) (hjc : jc = 14 ∨ jc = 17) {A B : zM} (hL : orL o n c A) (hd : A.1 o 9 = B.1 300 24) (hv : ∀ p, p < 57 → mHas n c t m p = true → A.1 (o + 1 + 12) (m * 57 + p) = B.1 (1000 + 16 * 20 + m) p) : ∀ k, k ≤ cut → (∀ a j, a ≠ o + 1 + 19 → ¬ (a = o + 1 + jc ∧ row ≤ j ∧ j < row + 57) → (oRes o n c m cut jc row k A).1 a j = A.1 a j) ∧ ∀ p, p < 57 → mHas n c t m p = true → cut - k < zlen p → zlen p ≤ cut → (oRes o n c m cut jc row k A).1 (o + 1 + jc) (row + p) = mRs B n c m cut 2 p
  | 0, _ => ⟨fun _ _ _ _ => rfl, fun p _ _ h1 h2 => absurd h1 (by omega)⟩
  | k + 1, hk => by
    obtain ⟨h1, h2⟩ := oRes_at hO hn hc hm hmc hcut hct hjc hL hd hv k (by omega)
    have e9 : oRes o n c m cut jc row (k + 1) A = oResL o n c m cut jc row (cut - k) (zfr (cut - k + 1) - zfr (cut - k)) (oRes o n c m cut jc row k A) := rfl
    rw [e9]
    generalize oRes o n c m cut jc row k A = D0 at *
    obtain ⟨L, hLk⟩ : ∃ L, L = cut - k := ⟨_, rfl⟩
    rw [← hLk] at h2 ⊢
    have hL3 : 1 ≤ L ∧ L ≤ 3 := by omega
    have hfr : zfr L ≤ zfr (L + 1) ∧ zfr (L + 1) ≤ 57 := by rcases (show L = 1 ∨ L = 2 ∨ L = 3 by omega) with rfl | rfl | rfl <;> decide
    have inner : ∀ j, j ≤ zfr (L + 1) - zfr L → (∀ a i, a ≠ o + 1 + 19 → ¬ (a = o + 1 + jc ∧ row ≤ i ∧ i < row + 57) → (oResL o n c m cut jc row L j D0).1 a i = A.1 a i) ∧ ∀ p, p < 57 → mHas n c t m p = true → (L < zlen p ∨ (zlen p = L ∧ p < zfr L + j)) → zlen p ≤ cut → (oResL o n c m cut jc row L j D0).1 (o + 1 + jc) (row + p) = mRs B n c m cut 2 p := by
      intro j
      induction j with
      | zero =>
        intro _
        refine ⟨h1, fun p hp hh h3 h4 => h2 p hp hh ?_ h4⟩
        rcases h3 with g | ⟨g1, g2⟩
        · exact g
        · have := (zfr_len hL3 hp).mpr g1
          omega
      | succ j ih =>
        intro hj
        obtain ⟨g1, g2⟩ := ih (by omega)
        have e8 : oResL o n c m cut jc row L (j + 1) D0 = oRes1 o n c m cut jc row L (zfr L + j) (oResL o n c m cut jc row L j D0) := rfl
        rw [e8]
        generalize oResL o n c m cut jc row L j D0 = D at *
        obtain ⟨p0, hp0⟩ : ∃ p0, p0 = zfr L + j := ⟨_, rfl⟩
        rw [← hp0]
        have hp57 : p0 < 57 := by omega
        have hpl : zlen p0 = L := (zfr_len hL3 hp57).mp (by omega)
        have hLD : orL o n c D := fun q hq => by rw [g1 _ _ (by omega) (by omega)]; exact hL q hq
        have hcond : (oPath o D p0 && oHears o c D m p0) = mHas n c t m p0 := by
          rw [hLD.path hn hc hp57]
          cases hpp : mPath n c p0 with
          | false =>
            unfold mHas
            rw [hpp]
            rfl
          | true =>
            unfold oHears mHas
            rw [hLD.on hn hc hp57 (by omega) hpp, hpp, decide_eq_false hmc, decide_eq_true (p := zlen p0 ≤ t + 1) (by omega)]
            rfl
        have hf : ∀ a i, a ≠ o + 1 + 19 → (oGa o (o + 1 + jc) row p0 n D).2.1 a i = D.1 a i := fun a i ha => by rw [(oGa_fr o (o + 1 + jc) row p0 D n).1 a ha]
        -- what holds when the path's own place is written
        have fin : ∀ (D2 : zM) (v : Int32), (∀ a i, a ≠ o + 1 + 19 → D2.1 a i = D.1 a i) → (mHas n c t m p0 = true → v = mRs B n c m cut 2 p0) → (∀ a i, a ≠ o + 1 + 19 → ¬ (a = o + 1 + jc ∧ row ≤ i ∧ i < row + 57) → (zw D2 (o + 1 + jc) (row + p0) v).1 a i = A.1 a i) ∧ ∀ p, p < 57 → mHas n c t m p = true → (L < zlen p ∨ (zlen p = L ∧ p < zfr L + (j + 1))) → zlen p ≤ cut → (zw D2 (o + 1 + jc) (row + p0) v).1 (o + 1 + jc) (row + p) = mRs B n c m cut 2 p := fun D2 v f1 f2 => by
          refine ⟨fun a i ha hb => by rw [zw_ne (by omega), f1 a i ha]; exact g1 a i ha hb, fun p hp hh h3 h4 => ?_⟩
          by_cases ep : p = p0
          · subst ep
            rw [zw_same]
            exact f2 hh
          · rw [zw_ne (by omega), f1 _ _ (by omega)]
            exact g2 p hp hh (by omega) h4
        unfold oRes1
        rw [hcond]
        cases hH : mHas n c t m p0 with
        | false =>
          rw [if_neg (by decide)]
          refine ⟨g1, fun p hp hh h3 h4 => ?_⟩
          have hne : p ≠ p0 := fun e => by rw [e, hH] at hh; cases hh
          exact g2 p hp hh (by omega) h4
        | true =>
          rw [if_pos rfl]
          obtain ⟨q1, q2, q3, q4⟩ := mHas_iff.mp hH
          by_cases hdir : L = cut ∨ zlast c p0 = m
          · rw [if_pos hdir]
            refine fin D _ (fun _ _ _ => rfl) (fun _ => ?_)
            rw [g1 _ _ (by omega) (by omega), hv p0 hp57 hH]
            refine (mRs_dn ?_).symm
            rcases hdir with h | h
            · exact Or.inl (by omega)
            · refine Or.inr ⟨?_, h⟩
              rcases Nat.eq_zero_or_pos p0 with e0 | e0
              · rw [e0] at h
                exact absurd (show c = m from h).symm hmc
              · exact e0
          · rw [if_neg hdir]
            refine fin _ _ hf (fun _ => ?_)
            have hlt : L < cut := by omega
            have hp8 : p0 < 8 := zlen_8 (by omega)
            have hnl : ¬ (0 < p0 ∧ zlast c p0 = m) := fun h => hdir (Or.inr h.2)
            have hin : mIsIn c p0 m = false := q4.resolve_right hnl
            rw [mRs_up hn.2 hcut.2 (by omega) hnl, oMaj_mPick (v := fun q => mRs B n c m cut 2 (zlong p0 q)) (by omega) ⟨m, hm, hin⟩ (fun i hi => hLD.on hn hc hp57 (by omega) q1) (fun i hi hpi => ?_), g1 o 9 (by omega) (by omega), hd]
            have hlf := long_f c (by omega) p0 hp8 i (by omega)
            refine g2 (zlong p0 i) hlf.1 (mHas_iff.mpr ⟨path_i n (by omega) c (by omega) p0 hp8 i (by omega) hn.1 hc hi q1 hpi, hmc, by omega, ?_⟩) (Or.inl (by omega)) (by omega)
            by_cases em : m = i
            · exact Or.inr ⟨hlf.2.1, by rw [hlf.2.2.1, em]⟩
            · exact Or.inl (by rw [isin_l c (by omega) p0 hp8 i (by omega) m (by omega), hin, decide_eq_false em]; rfl)
    obtain ⟨g1, g2⟩ := inner (zfr (L + 1) - zfr L) (Nat.le_refl _)
    refine ⟨g1, fun p hp hh h3 h4 => g2 p hp hh ?_ h4⟩
    by_cases e : zlen p = L
    · have := (zfr_len hL3 hp).mpr e
      exact Or.inr ⟨e, by omega⟩
    · exact Or.inl (by omega)
/-- what all of a trial is alike in both, once it is through -/
def orDone (o lc n c t : Nat) (cn : Nat → Nat) (mn : Nat → Option Nat) (A B : zM) : Prop :=
  orS o lc n c cn mn (hdR n c t (t + 1)) A B ∧ (∀ m, m < n → m ≠ c → A.1 (o + 1 + 3) m = B.1 (1000 + 16 * 22 + m) (t + 1) ∧ orStop o t (t + 1) m A B) ∧
  (∀ m, m < n → A.1 (o + 1 + 16) m = mDec B n c (t + 1) m) ∧ (∀ m p, m < n → m ≠ c → p < 57 → mHas n c t m p = true → A.1 (o + 1 + 14) (m * 57 + p) = mRs B n c m (t + 1) 2 p) ∧
  A.1 o 11 = B.1 300 26 ∧ (∀ m, m < n → bit (A.1 o 10) m = bit (B.1 300 25) m)
theorem mRs_same {B B2 : zM} {m cut : Nat} (h : ∀ j, B2.1 (1000 + 16 * 20 + m) j = B.1 (1000 + 16 * 20 + m) j) (hd : B2.1 300 24 = B.1 300 24) : ∀ k p, mRs B2 n c m cut k p = mRs B n c m cut k p
  | 0, p => h p
  | k + 1, p => by
    show (if _ then B2.1 (1000 + 16 * 20 + m) p else mPick (mIsIn c p) (fun q => mRs B2 n c m cut k (zlong p q)) n (B2.1 300 24)) = (if _ then B.1 (1000 + 16 * 20 + m) p else mPick (mIsIn c p) (fun q => mRs B n c m cut k (zlong p q)) n (B.1 300 24))
    rw [h p, hd, mPick_congr (fun q _ => mRs_same h hd k (zlong p q))]
end zOralE
