section zOralD
variable {o lc n c t r : Nat} {cn : Nat → Nat} {mn : Nat → Option Nat} {Hd Hd2 : Nat → Nat → Bool}
/-- the first round -/
theorem orFirst (hO : orO o lc) (hn : 3 ≤ n ∧ n ≤ 7) (hc : c < n) {own : Int32} {A B : zM} (h : orR o lc n c 1 cn mn (fun _ _ => false) A B) (hB : B.1 300 26 = own) : orR o lc n c 1 cn mn (hdR n c t 1) (zfor (oF1 o lc c cn own) n A) (mF c mn n B) := by
  have key := zfor_pair (R := fun k A2 B2 => orR o lc n c 1 cn mn (fun m q => mHas n c t m q && decide (q = 0 ∧ m < k)) A2 B2 ∧ B2.1 300 26 = own) (f := oF1 o lc c cn own) (g := mF1 c mn) (n := n) (A := A) (B := B) (fun x A2 B2 hx hR => ?_) ⟨h.congr (fun m q hm hq => by rw [decide_eq_false (by omega), Bool.and_false]), hB⟩ n (Nat.le_refl n)
  · refine key.1.congr (fun m q hm hq => hd_eq (fun hH => ?_))
    have h1 := zlen_pos q
    have h2 := zlen_1 (q := q)
    omega
  · obtain ⟨r1, r2⟩ := hR
    unfold oF1 mF1
    by_cases e : x = c
    · rw [if_pos e, if_pos e]
      refine ⟨r1.congr (fun m q hm hq => hd_eq (fun hH => ?_)), r2⟩
      have := (mHas_iff.mp hH).2.1
      omega
    · rw [if_neg e, if_neg e]
      unfold mSH
      rw [r2]
      have hword : oSay lc cn A2 c 1 x c own = mSay B2 mn c 1 x (nI c) own := r1.1.1 c 1 x _ _ (by omega)
      rw [hword]
      generalize mSay B2 mn c 1 x (nI c) own = word
      refine ⟨(orHear hO hn.2 r1 hx e hc (by decide : 0 < 57) (by rw [decide_eq_false (by omega), Bool.and_false]) (show zlen 0 = 1 from rfl) (show zlast c 0 = c from rfl) word own).congr (fun m q hm hq => hd_or (fun hH => ?_) (fun e1 e2 => ?_)), ?_⟩
      · omega
      · rw [e1, e2]
        refine mHas_iff.mpr ⟨rfl, e, by show 1 ≤ t + 1; omega, Or.inl ?_⟩
        unfold mIsIn
        rw [decide_eq_false e]
        rfl
      · unfold mHr mSb
        rw [zw_ne (by omega), zw_ne (by omega), zw_ne (by omega), zw_ne (by omega), zw_ne (by omega), zw_ne (by omega)]
        exact r2
/-- who is suspected -/
def orSus (n c t m r : Nat) (B : zM) (p : Nat) : Bool := mPath n c p && !mIsIn c p m && decide (nI (mMx c p n (mV B m p) n) < nI (n - r + 1) - nI t)
theorem oSus_bits (hO : orO o lc) (hn : 3 ≤ n ∧ n ≤ 7) (hc : c < n) (hr : 1 ≤ r ∧ r ≤ 3) {m : Nat} (hm : m < n) {A B : zM} (hL : orL o n c A) (hv : ∀ p, p < 8 → zlen p = r - 1 → mPath n c p = true → mIsIn c p m = false → ∀ i, i < n → mIsIn c p i = false → A.1 (o + 1 + 12) (m * 57 + zlong p i) = B.1 (1000 + 16 * 20 + m) (zlong p i)) : ∀ k, k ≤ zfr r - zfr (r - 1) → (∀ a j, a ≠ o + 1 + 19 → ¬ (a = o + 1 + 15 ∧ j = m) → (oSus o n t c m r k A).1 a j = A.1 a j) ∧ ∀ i, i < 32 → bt ((oSus o n t c m r k A).1 (o + 1 + 15) m) i = (bt (A.1 (o + 1 + 15) m) i || zany (fun j => orSus n c t m r B (zfr (r - 1) + j) && decide (zlast c (zfr (r - 1) + j) = i)) k)
  | 0, _ => ⟨fun _ _ _ _ => rfl, fun i _ => (Bool.or_false _).symm⟩
  | k + 1, hk => by
    obtain ⟨h1, h2⟩ := oSus_bits hO hn hc hr hm hL hv k (by omega)
    have e9 : oSus o n t c m r (k + 1) A = oSus1 o n t c m (zfr (r - 1) + k) (oSus o n t c m r k A) := rfl
    rw [e9]
    have hz : ∀ i, zany (fun j => orSus n c t m r B (zfr (r - 1) + j) && decide (zlast c (zfr (r - 1) + j) = i)) (k + 1) = (zany (fun j => orSus n c t m r B (zfr (r - 1) + j) && decide (zlast c (zfr (r - 1) + j) = i)) k || (orSus n c t m r B (zfr (r - 1) + k) && decide (zlast c (zfr (r - 1) + k) = i))) := fun i => rfl
    generalize oSus o n t c m r k A = D at *
    have hr2 : 2 ≤ r := by
      rcases Nat.lt_or_ge r 2 with q | q
      · have e : r = 1 := by omega
        subst e
        rw [show zfr 1 - zfr (1 - 1) = 0 by decide] at hk
        omega
      · exact q
    have hfr : zfr (r - 1) ≤ zfr r ∧ zfr r ≤ 8 := by rcases (show r = 2 ∨ r = 3 by omega) with rfl | rfl <;> decide
    obtain ⟨p, hp⟩ : ∃ p, p = zfr (r - 1) + k := ⟨_, rfl⟩
    rw [← hp] at hz ⊢
    have hp8 : p < 8 := by omega
    have hpl : zlen p = r - 1 := by
      have h9 := zfr_len (L := r - 1) (p := p) (by omega) (by omega)
      rw [show r - 1 + 1 = r by omega] at h9
      exact h9.mp (by omega)
    have hLD : orL o n c D := fun q hq => by rw [h1 _ _ (by omega) (by omega)]; exact hL q hq
    have hf : ∀ a j, a ≠ o + 1 + 19 → (oGa o (o + 1 + 12) (m * 57) p n D).2.1 a j = D.1 a j := fun a j ha => by rw [(oGa_fr o (o + 1 + 12) (m * 57) p D n).1 a ha]
    have hzl : zlast c p < 7 := zlast_lt (by omega) (by omega)
    unfold oSus1
    rw [hLD.path hn hc (by omega)]
    cases hpp : mPath n c p with
    | false =>
      rw [if_neg (by simp)]
      refine ⟨h1, fun i hi => ?_⟩
      rw [hz i, h2 i hi]
      unfold orSus
      rw [hpp, Bool.false_and, Bool.false_and, Bool.false_and, Bool.or_false]
    | true =>
      rw [hLD.on hn hc (by omega) (by omega) hpp]
      cases hpm : mIsIn c p m with
      | true =>
        rw [if_neg (by simp)]
        refine ⟨h1, fun i hi => ?_⟩
        rw [hz i, h2 i hi]
        unfold orSus
        rw [hpm, Bool.not_true, Bool.and_false, Bool.false_and, Bool.false_and, Bool.or_false]
      | false =>
        rw [if_pos (by simp)]
        have hon : ∀ i, i < n → oOn o D p i = mIsIn c p i := fun i hi => hLD.on hn hc (by omega) (by omega) hpp
        have hcnt : (oGa o (o + 1 + 12) (m * 57) p n D).1 = n - r + 1 := by
          rw [(oGa_spec (o := o) (row := m * 57) (p := p) (M := D) (rows := o + 1 + 12) (by omega) n).1, zcnt_congr n (q := fun i => !mIsIn c p i) (fun i hi => by rw [hon i hi]), path_cnt n (by omega) c (by omega) p (by omega) hn.1 hc hpp, hpl]
          omega
        have hmc : oMc o (oGa o (o + 1 + 12) (m * 57) p n D) = mMx c p n (mV B m p) n := oMc_mMx (by omega) ⟨m, hm, hpm⟩ hon (fun i hi hpi => by rw [h1 _ _ (by omega) (by omega)]; exact hv p hp8 hpl hpp hpm i hi hpi)
        rw [hcnt, hmc]
        have hsus : orSus n c t m r B p = decide (nI (mMx c p n (mV B m p) n) < nI (n - r + 1) - nI t) := by
          unfold orSus
          rw [hpp, hpm]
          rfl
        by_cases hq : nI (n - r + 1) - nI t ≤ nI (mMx c p n (mV B m p) n)
        · rw [if_pos hq]
          refine ⟨fun a j ha hb => by rw [hf a j ha]; exact h1 a j ha hb, fun i hi => ?_⟩
          rw [hf _ _ (by omega), hz i, h2 i hi, hsus, decide_eq_false (Int32.not_lt.mpr hq), Bool.false_and, Bool.or_false]
        · rw [if_neg hq]
          refine ⟨fun a j ha hb => by rw [zw_ne (by omega), hf a j ha]; exact h1 a j ha hb, fun i hi => ?_⟩
          rw [zw_same, b_or, bt_sh (by omega) hi, hz i, h2 i hi, hsus, decide_eq_true (Int32.not_le.mp hq), Bool.true_and, Bool.or_assoc, show decide (i = zlast c p) = decide (zlast c p = i) by rw [decide_eq_decide]; exact eq_comm]
theorem mFi_bits {m : Nat} (hc7 : c < 7) {B : zM} : ∀ P, P ≤ 57 → ∀ i, i < 32 → bt (mFi n c t m r B P) i = (bt (B.1 (1000 + 16 * 22 + m) (r - 1)) i || zany (fun p => mPath n c p && ((decide (zlen p = r ∧ mHas n c t m p = true ∧ ¬ B.1 (1000 + 16 * 21 + m) p = 0) || decide (2 ≤ r ∧ zlen p = r - 1 ∧ mIsIn c p m = false ∧ nI (mMx c p n (mV B m p) n) < nI (n - r + 1) - nI t)) && decide (zlast c p = i))) P)
  | 0, _, i, _ => (Bool.or_false _).symm
  | P + 1, hP, i, hi => by
    have ih := mFi_bits (m := m) (B := B) hc7 P (by omega) i hi
    have e9 : mFi n c t m r B (P + 1) = mFi1 n c t m r B P (mFi n c t m r B P) := rfl
    have hzl : zlast c P < 7 := zlast_lt (by omega) (by omega)
    have hor : ∀ (s : Int32) (b : Bool), bt (if b = true then s ||| mBit c P else s) i = (bt s i || (b && decide (zlast c P = i))) := fun s b => by
      cases b with
      | false => rw [if_neg (by decide), Bool.false_and, Bool.or_false]
      | true =>
        rw [if_pos rfl]
        unfold mBit
        rw [b_or, bt_sh (by omega) hi, Bool.true_and, show decide (i = zlast c P) = decide (zlast c P = i) by rw [decide_eq_decide]; exact eq_comm]
    have hA : ∀ s, mFiA n c t m r B P s = if decide (zlen P = r ∧ mHas n c t m P = true ∧ ¬ B.1 (1000 + 16 * 21 + m) P = 0) = true then s ||| mBit c P else s := fun s => by
      unfold mFiA
      by_cases q : zlen P = r ∧ mHas n c t m P = true ∧ ¬ B.1 (1000 + 16 * 21 + m) P = 0
      · rw [if_pos q, if_pos (decide_eq_true q)]
      · rw [if_neg q, if_neg (by rw [decide_eq_false q]; decide)]
    have hB : ∀ s, mFiB n c t m r B P s = if decide (2 ≤ r ∧ zlen P = r - 1 ∧ mIsIn c P m = false ∧ nI (mMx c P n (mV B m P) n) < nI (n - r + 1) - nI t) = true then s ||| mBit c P else s := fun s => by
      unfold mFiB
      by_cases q : 2 ≤ r ∧ zlen P = r - 1 ∧ mIsIn c P m = false ∧ nI (mMx c P n (mV B m P) n) < nI (n - r + 1) - nI t
      · rw [if_pos q, if_pos (decide_eq_true q)]
      · rw [if_neg q, if_neg (by rw [decide_eq_false q]; decide)]
    rw [e9]
    unfold mFi1
    show _ = (bt (B.1 (1000 + 16 * 22 + m) (r - 1)) i || (zany _ P || _))
    rw [← Bool.or_assoc, ← ih]
    show _ = (_ || (mPath n c P && ((decide (zlen P = r ∧ mHas n c t m P = true ∧ ¬ B.1 (1000 + 16 * 21 + m) P = 0) || decide (2 ≤ r ∧ zlen P = r - 1 ∧ mIsIn c P m = false ∧ nI (mMx c P n (mV B m P) n) < nI (n - r + 1) - nI t)) && decide (zlast c P = i))))
    cases hpp : mPath n c P with
    | false => rw [if_neg (by decide), Bool.false_and, Bool.or_false]
    | true =>
      rw [if_pos rfl, hB, hor, hA, hor, Bool.true_and, Bool.or_assoc, Bool.and_or_distrib_right]
/-- what a member has found at a round's end -/
theorem orFound (hO : orO o lc) (hn : 3 ≤ n ∧ n ≤ 7) (hc : c < n) (ht : t ≤ 2) (hr : 1 ≤ r ∧ r ≤ t + 1) {m : Nat} (hm : m < n) (hmc : m ≠ c) {A B : zM} (hS : orS o lc n c cn mn (hdR n c t r) A B) (hF : orF o c r (hdR n c t r) m A B) : (∀ a j, a ≠ o + 1 + 19 → ¬ ((a = o + 1 + 15 ∨ a = o + 1 + 3) ∧ j = m) → (oEndA o n t c m r A).1 a j = A.1 a j) ∧ (oEndA o n t c m r A).1 (o + 1 + 3) m = mFi n c t m r B 57 ∧ (oEndA o n t c m r A).1 (o + 1 + 15) m = nI 0 := by
  have hfr : zfr (r - 1) ≤ zfr r ∧ (r = 1 ∨ zfr r ≤ 8) := by rcases (show r = 1 ∨ r = 2 ∨ r = 3 by omega) with rfl | rfl | rfl <;> decide
  obtain ⟨h1, h2⟩ := oSus_bits (t := t) hO hn hc (r := r) ⟨hr.1, by omega⟩ hm (A := A) (B := B) hS.2.1 (fun p hp8 hpl hpp hpm i hi hpi => by
    have hlf := long_f c (by omega) p hp8 i (by omega)
    have hlp := path_i n (by omega) c (by omega) p hp8 i (by omega) hn.1 hc hi hpp hpi
    have hp0 := zlen_pos p
    refine (hS.2.2.2.2.2.2.1 m (zlong p i) hm hlf.1 ?_).1
    unfold hdR
    rw [mHas_iff.mpr ⟨hlp, hmc, by omega, ?_⟩, decide_eq_true (by omega)]
    · rfl
    · by_cases e : m = i
      · exact Or.inr ⟨hlf.2.1, by rw [hlf.2.2.1, e]⟩
      · exact Or.inl (by rw [isin_l c (by omega) p hp8 i (by omega) m (by omega), hpm, decide_eq_false e]; rfl)) (zfr r - zfr (r - 1)) (Nat.le_refl _)
  unfold oEndA
  generalize oSus o n t c m r (zfr r - zfr (r - 1)) A = D at *
  refine ⟨fun a j ha hb => by rw [zw_ne (by omega), zw_ne (by omega)]; exact h1 a j ha (by omega), ?_, zw_same⟩
  rw [zw_ne (by omega), zw_same]
  refine b_ext (fun i hi => ?_)
  rw [b_or, h2 i hi, mFi_bits (by omega) 57 (Nat.le_refl _) i hi, hF.1, hF.2.2 i hi]
  congr 1
  rw [Bool.eq_iff_iff, Bool.or_eq_true, zany_iff, zany_iff, zany_iff]
  constructor
  · rintro (⟨p, hp, h9⟩ | ⟨j, hj, h9⟩)
    · simp only [Bool.and_eq_true, decide_eq_true_eq, Bool.not_eq_true', decide_eq_false_iff_not, hdR] at h9
      obtain ⟨⟨⟨⟨g1, g2⟩, g3⟩, g4⟩, g5⟩ := h9
      refine ⟨p, hp, ?_⟩
      rw [(mHas_iff.mp g1).1, decide_eq_true ⟨g3, g1, g4⟩, decide_eq_true g5]
      rfl
    · simp only [Bool.and_eq_true, decide_eq_true_eq, Bool.not_eq_true', orSus] at h9
      obtain ⟨⟨⟨g1, g2⟩, g3⟩, g4⟩ := h9
      have hr2 : 2 ≤ r := by
        rcases Nat.lt_or_ge r 2 with q | q
        · have e : r = 1 := by omega
          subst e
          rw [show zfr 1 - zfr (1 - 1) = 0 by decide] at hj
          omega
        · exact q
      have hpl : zlen (zfr (r - 1) + j) = r - 1 := by
        have h9 := zfr_len (L := r - 1) (p := zfr (r - 1) + j) (by omega) (by omega)
        rw [show r - 1 + 1 = r by omega] at h9
        exact h9.mp (by omega)
      refine ⟨zfr (r - 1) + j, by omega, ?_⟩
      rw [g1, decide_eq_true (p := 2 ≤ r ∧ _) ⟨hr2, hpl, g2, g3⟩, decide_eq_true g4, Bool.or_true]
      rfl
  · rintro ⟨p, hp, h9⟩
    simp only [Bool.and_eq_true, Bool.or_eq_true, decide_eq_true_eq] at h9
    obtain ⟨g1, (⟨g2, g3, g4⟩ | ⟨g2, g3, g4, g5⟩), g6⟩ := h9
    · refine Or.inl ⟨p, hp, ?_⟩
      unfold hdR
      rw [g3, decide_eq_true (p := zlen p ≤ r) (by omega), decide_eq_true g2, decide_eq_false g4, decide_eq_true g6]
      rfl
    · have h9 := zfr_len (L := r - 1) (p := p) (by omega) hp
      rw [show r - 1 + 1 = r by omega] at h9
      have h10 := h9.mpr g3
      refine Or.inr ⟨p - zfr (r - 1), by omega, ?_⟩
      rw [show zfr (r - 1) + (p - zfr (r - 1)) = p by omega, decide_eq_true g6]
      unfold orSus
      rw [g1, g4, decide_eq_true g5]
      rfl
def enB (t : Nat) (B : zM) (m q : Nat) : Prop := 2 + zcnt (fun i => bit (B.1 (1000 + 16 * 22 + m) q) i) 7 ≤ q ∨ q = t + 1
/-- in which round it could stop, of those up to r -/
def orStop (o t r m : Nat) (A B : zM) : Prop := ∃ s : Nat, A.1 (o + 1 + 4) m = nI s ∧ s ≤ 3 ∧ ((s = 0 ∧ ∀ q, 1 ≤ q → q ≤ r → ¬ enB t B m q) ∨ (1 ≤ s ∧ s ≤ r ∧ enB t B m s ∧ ∀ q, 1 ≤ q → q < s → ¬ enB t B m q))
theorem nI_2k : ∀ k, k < 8 → nI 2 + nI k = nI (2 + k) := by decide
theorem oEnough_iff {F : Int32} (h : ∀ b, 7 ≤ b → b < 32 → bt F b = false) (hr : r < 10) : oEnough t r F = decide (2 + zcnt (fun i => bit F i) 7 ≤ r ∨ r = t + 1) := by
  unfold oEnough
  have hk := zcnt_le (fun i => bit F i) 7
  rw [zpop_cnt h, nI_2k _ (by omega), Bool.eq_iff_iff, Bool.or_eq_true, decide_eq_true_eq, decide_eq_true_eq, decide_eq_true_eq, nI_leI (by omega) (by omega)]
theorem orEnd (hO : orO o lc) (hn : 3 ≤ n ∧ n ≤ 7) (hc : c < n) (ht : t ≤ 2) (hr : 1 ≤ r ∧ r ≤ t + 1) {A B : zM} (h : orR o lc n c r cn mn (hdR n c t r) A B) (hs : ∀ m, m < n → m ≠ c → orStop o t (r - 1) m A B) : orR o lc n c (r + 1) cn mn (hdR n c t r) (oEnd o n t c r n A) (zfor (mFs n c t r) n B) ∧ ∀ m, m < n → m ≠ c → orStop o t r m (oEnd o n t c r n A) (zfor (mFs n c t r) n B) := by
  obtain ⟨o1, o2, o3⟩ := id hO
  have key := zfor_pair (R := fun k A2 B2 => orS o lc n c cn mn (hdR n c t r) A2 B2 ∧ ∀ m, m < n → m ≠ c → (k ≤ m → orF o c r (hdR n c t r) m A2 B2 ∧ orStop o t (r - 1) m A2 B2) ∧ (m < k → orF o c (r + 1) (hdR n c t r) m A2 B2 ∧ orStop o t r m A2 B2)) (f := fun m M => oEnd1 o n t c r m M) (g := mFs n c t r) (n := n) (A := A) (B := B) (fun m A2 B2 hm hR => ?_) ⟨h.1, fun m hm hmc => ⟨fun _ => ⟨h.2 m hm hmc, hs m hm hmc⟩, fun q => absurd q (Nat.not_lt_zero _)⟩⟩ n (Nat.le_refl n)
  · exact ⟨⟨key.1, fun m hm hmc => ((key.2 m hm hmc).2 hm).1⟩, fun m hm hmc => ((key.2 m hm hmc).2 hm).2⟩
  · obtain ⟨rS, r2⟩ := hR
    show orS o lc n c cn mn (hdR n c t r) (oEnd1 o n t c r m A2) (mFs n c t r m B2) ∧ ∀ k, k < n → k ≠ c → (m + 1 ≤ k → orF o c r (hdR n c t r) k (oEnd1 o n t c r m A2) (mFs n c t r m B2) ∧ orStop o t (r - 1) k (oEnd1 o n t c r m A2) (mFs n c t r m B2)) ∧ (k < m + 1 → orF o c (r + 1) (hdR n c t r) k (oEnd1 o n t c r m A2) (mFs n c t r m B2) ∧ orStop o t r k (oEnd1 o n t c r m A2) (mFs n c t r m B2))
    by_cases e : m = c
    · unfold oEnd1 mFs
      rw [if_pos e, if_pos e]
      refine ⟨rS, fun k hk hkc => ⟨fun q => (r2 k hk hkc).1 (by omega), fun q => (r2 k hk hkc).2 (by omega)⟩⟩
    · obtain ⟨rF, rSt⟩ := (r2 m hm e).1 (Nat.le_refl m)
      obtain ⟨f1, f2, f3⟩ := orFound (lc := lc) (cn := cn) (mn := mn) hO hn hc ht hr hm e rS rF
      have hhi : ∀ b, 7 ≤ b → b < 32 → bt (mFi n c t m r B2 57) b = false := fun b hb1 hb2 => by
        rw [mFi_bits (by omega) 57 (Nat.le_refl _) b hb2, ← rF.1, rF.2.1 b hb1 hb2, Bool.false_or]
        cases hz : zany (fun p => mPath n c p && ((decide (zlen p = r ∧ mHas n c t m p = true ∧ ¬ B2.1 (1000 + 16 * 21 + m) p = 0) || decide (2 ≤ r ∧ zlen p = r - 1 ∧ mIsIn c p m = false ∧ nI (mMx c p n (mV B2 m p) n) < nI (n - r + 1) - nI t)) && decide (zlast c p = b))) 57 with
        | false => rfl
        | true =>
          obtain ⟨p, hp, h9⟩ := (zany_iff 57).mp hz
          simp only [Bool.and_eq_true, decide_eq_true_eq] at h9
          have := zlast_lt (c := c) hp (by omega)
          omega
      have e1 : mFs n c t r m B2 = zw B2 (1000 + 16 * 22 + m) r (mFi n c t m r B2 57) := if_neg e
      rw [e1]
      have e2 : oEnd1 o n t c r m A2 = if (A2.1 (o + 1 + 4) m == 0) && oEnough t r (mFi n c t m r B2 57) then zw (oEndA o n t c m r A2) (o + 1 + 4) m (nI r) else oEndA o n t c m r A2 := by
        unfold oEnd1
        rw [if_neg e, f2]
      rw [e2]
      -- what holds of either outcome
      have fin : ∀ A3 : zM, (∀ a j, ¬ (a = o + 1 + 4 ∧ j = m) → A3.1 a j = (oEndA o n t c m r A2).1 a j) → orStop o t r m A3 (zw B2 (1000 + 16 * 22 + m) r (mFi n c t m r B2 57)) → orS o lc n c cn mn (hdR n c t r) A3 (zw B2 (1000 + 16 * 22 + m) r (mFi n c t m r B2 57)) ∧ ∀ k, k < n → k ≠ c → (m + 1 ≤ k → orF o c r (hdR n c t r) k A3 (zw B2 (1000 + 16 * 22 + m) r (mFi n c t m r B2 57)) ∧ orStop o t (r - 1) k A3 (zw B2 (1000 + 16 * 22 + m) r (mFi n c t m r B2 57))) ∧ (k < m + 1 → orF o c (r + 1) (hdR n c t r) k A3 (zw B2 (1000 + 16 * 22 + m) r (mFi n c t m r B2 57)) ∧ orStop o t r k A3 (zw B2 (1000 + 16 * 22 + m) r (mFi n c t m r B2 57))) := fun A3 hA3 hst => by
        have fA : ∀ a j, a ≠ o + 1 + 19 → ¬ ((a = o + 1 + 15 ∨ a = o + 1 + 3 ∨ a = o + 1 + 4) ∧ j = m) → A3.1 a j = A2.1 a j := fun a j g1 g2 => by rw [hA3 a j (by omega)]; exact f1 a j g1 (by omega)
        have fB : ∀ a j, ¬ (a = 1000 + 16 * 22 + m ∧ j = r) → (zw B2 (1000 + 16 * 22 + m) r (mFi n c t m r B2 57)).1 a j = B2.1 a j := fun a j g => zw_ne (by omega)
        obtain ⟨h1, h2, h3, h4, h5, h6, h7, h8⟩ := rS
        have oth : ∀ k r9, k < n → k ≠ m → orF o c r9 (hdR n c t r) k A2 B2 → orF o c r9 (hdR n c t r) k A3 (zw B2 (1000 + 16 * 22 + m) r (mFi n c t m r B2 57)) := fun k r9 hk hkm ⟨q1, q2, q3⟩ => by
          refine ⟨by rw [fA _ _ (by omega) (by omega), fB _ _ (by omega)]; exact q1, by rw [fA _ _ (by omega) (by omega)]; exact q2, fun i hi => ?_⟩
          rw [fA _ _ (by omega) (by omega), q3 i hi]
          exact zany_congr 57 (fun p hp => by rw [fB _ _ (by omega)])
        have othS : ∀ k r9, k < n → k ≠ m → orStop o t r9 k A2 B2 → orStop o t r9 k A3 (zw B2 (1000 + 16 * 22 + m) r (mFi n c t m r B2 57)) := fun k r9 hk hkm ⟨s, q1, q2, q3⟩ => by
          refine ⟨s, by rw [fA _ _ (by omega) (by omega)]; exact q1, q2, ?_⟩
          unfold enB at q3 ⊢
          have hB9 : ∀ q, (zw B2 (1000 + 16 * 22 + m) r (mFi n c t m r B2 57)).1 (1000 + 16 * 22 + k) q = B2.1 (1000 + 16 * 22 + k) q := fun q => fB _ _ (by omega)
          simp only [hB9]
          exact q3
        refine ⟨⟨h1.keep (fun a k g1 g2 => fA a k (by omega) (by omega)) (fun a k g1 => fB a k (by omega)), fun q hq => by rw [fA _ _ (by omega) (by omega)]; exact h2 q hq, by rw [fA _ _ (by omega) (by omega), fB _ _ (by omega)]; exact h3, by rw [fA _ _ (by omega) (by omega), fB _ _ (by omega)]; exact h4, by rw [fA _ _ (by omega) (by omega), fB _ _ (by omega)]; exact h5, fun s hs9 => by rw [fA _ _ (by omega) (by omega), fB _ _ (by omega)]; exact h6 s hs9, fun k q hk hq hh => ?_, fun k hk => ?_⟩, fun k hk hkc => ⟨fun q => ?_, fun q => ?_⟩⟩
        · rw [fA _ _ (by omega) (by omega), fA _ _ (by omega) (by omega), fB _ _ (by omega), fB _ _ (by omega)]; exact h7 k q hk hq hh
        · rw [fA _ _ (by omega) (by omega), h8 k hk]
          congr 1
          exact zcnt_congr 57 (fun p hp => by rw [fB _ _ (by omega)])
        · obtain ⟨q1, q2⟩ := (r2 k hk hkc).1 (by omega)
          exact ⟨oth k r hk (by omega) q1, othS k (r - 1) hk (by omega) q2⟩
        · by_cases ek : k = m
          · subst ek
            refine ⟨⟨?_, ?_, fun i hi => ?_⟩, hst⟩
            · rw [hA3 _ _ (by omega), f2]
              exact zw_same.symm
            · rw [hA3 _ _ (by omega), f2]; exact hhi
            · rw [hA3 _ _ (by omega), f3, bt_0]
              cases hz : zany (fun p => hdR n c t r k p && decide (zlen p = r + 1) && !decide ((zw B2 (1000 + 16 * 22 + k) r (mFi n c t k r B2 57)).1 (1000 + 16 * 21 + k) p = 0) && decide (zlast c p = i)) 57 with
              | false => rfl
              | true =>
                obtain ⟨p, hp, h9⟩ := (zany_iff 57).mp hz
                simp only [Bool.and_eq_true, decide_eq_true_eq, hdR] at h9
                omega
          · obtain ⟨q1, q2⟩ := (r2 k hk hkc).2 (by omega)
            exact ⟨oth k (r + 1) hk ek q1, othS k r hk ek q2⟩
      obtain ⟨s, s1, s2, s3⟩ := rSt
      have hstB : ∀ q, q ≠ r → (zw B2 (1000 + 16 * 22 + m) r (mFi n c t m r B2 57)).1 (1000 + 16 * 22 + m) q = B2.1 (1000 + 16 * 22 + m) q := fun q hq => zw_ne (Or.inr hq)
      have hen : ∀ q, q ≠ r → (enB t (zw B2 (1000 + 16 * 22 + m) r (mFi n c t m r B2 57)) m q ↔ enB t B2 m q) := fun q hq => by
        unfold enB
        rw [hstB q hq]
      have henr : enB t (zw B2 (1000 + 16 * 22 + m) r (mFi n c t m r B2 57)) m r ↔ (2 + zcnt (fun i => bit (mFi n c t m r B2 57) i) 7 ≤ r ∨ r = t + 1) := by
        unfold enB
        rw [zw_same]
      rw [s1, oEnough_iff hhi (by omega)]
      by_cases hcond : s = 0 ∧ (2 + zcnt (fun i => bit (mFi n c t m r B2 57) i) 7 ≤ r ∨ r = t + 1)
      · obtain ⟨hs0, hc2⟩ := hcond
        subst hs0
        rw [if_pos (by rw [decide_eq_true hc2]; rfl)]
        refine fin _ (fun a j g => zw_ne (by omega)) ⟨r, zw_same, by omega, Or.inr ⟨hr.1, Nat.le_refl r, henr.mpr hc2, fun q q1 q2 => ?_⟩⟩
        rw [hen q (by omega)]
        rcases s3 with ⟨-, g⟩ | ⟨g, -⟩
        · exact g q q1 (by omega)
        · omega
      · rw [if_neg (fun h9 => hcond (by
          simp only [Bool.and_eq_true, decide_eq_true_eq, beq_iff_eq] at h9
          exact ⟨nI_inj (by omega) (by omega) h9.1, h9.2⟩))]
        refine fin _ (fun _ _ _ => rfl) ⟨s, by rw [f1 _ _ (by omega) (by omega)]; exact s1, s2, ?_⟩
        rcases s3 with ⟨g1, g2⟩ | ⟨g1, g2, g3, g4⟩
        · refine Or.inl ⟨g1, fun q q1 q2 => ?_⟩
          by_cases eq9 : q = r
          · subst eq9
            rw [henr]
            exact fun h9 => hcond ⟨g1, h9⟩
          · rw [hen q eq9]; exact g2 q q1 (by omega)
        · refine Or.inr ⟨g1, by omega, ?_, fun q q1 q2 => ?_⟩
          · rw [hen s (by omega)]; exact g3
          · rw [hen q (by omega)]; exact g4 q q1 q2
end zOralD
