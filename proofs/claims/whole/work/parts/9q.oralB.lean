section zOralB
theorem zany_iff {P : Nat → Bool} : ∀ n, zany P n = true ↔ ∃ k, k < n ∧ P k = true
  | 0 => ⟨fun h => (by cases h), fun ⟨k, h, _⟩ => absurd h (Nat.not_lt_zero _)⟩
  | n + 1 => by
    show (zany P n || P n) = true ↔ _
    rw [Bool.or_eq_true, zany_iff n]
    constructor
    · rintro (⟨k, h1, h2⟩ | h)
      · exact ⟨k, by omega, h2⟩
      · exact ⟨n, by omega, h⟩
    · rintro ⟨k, h1, h2⟩
      rcases Nat.lt_or_ge k n with h | h
      · exact Or.inl ⟨k, h, h2⟩
      · rw [show k = n by omega] at h2; exact Or.inr h2
theorem zany_congr {p q : Nat → Bool} : ∀ n, (∀ i, i < n → p i = q i) → zany p n = zany q n
  | 0, _ => rfl
  | n + 1, h => by
    show (zany p n || p n) = (zany q n || q n)
    rw [zany_congr n (fun i hi => h i (by omega)), h n (by omega)]
theorem zany_upd {P Q : Nat → Bool} {a N : Nat} (ha : a < N) (h0 : P a = false) (h : ∀ i, i < N → i ≠ a → Q i = P i) : zany Q N = (zany P N || Q a) := by
  rw [Bool.eq_iff_iff, Bool.or_eq_true, zany_iff, zany_iff]
  constructor
  · rintro ⟨k, h1, h2⟩
    by_cases e : k = a
    · rw [e] at h2; exact Or.inr h2
    · exact Or.inl ⟨k, h1, by rw [← h k h1 e]; exact h2⟩
  · rintro (⟨k, h1, h2⟩ | h2)
    · by_cases e : k = a
      · rw [e, h0] at h2; cases h2
      · exact ⟨k, h1, by rw [h k h1 e]; exact h2⟩
    · exact ⟨a, ha, h2⟩
theorem zcnt_upd {P Q : Nat → Bool} {a : Nat} (h0 : P a = false) : ∀ N, a < N → (∀ i, i < N → i ≠ a → Q i = P i) → zcnt Q N = zcnt P N + (if Q a then 1 else 0)
  | 0, h, _ => absurd h (Nat.not_lt_zero _)
  | N + 1, ha, h => by
    rw [zcnt_s, zcnt_s]
    by_cases e : a = N
    · subst e
      rw [zcnt_congr a (fun i hi => h i (by omega) (by omega)), h0]
      rfl
    · rw [zcnt_upd h0 N (by omega) (fun i hi h2 => h i (by omega) h2), h N (by omega) (by omega)]
      omega
variable {o lc n c t r : Nat} {cn : Nat → Nat} {mn : Nat → Option Nat} {Hd Hd2 : Nat → Nat → Bool}
/-- the words of both are alike -/
def zWd (lc : Nat) (cn : Nat → Nat) (mn : Nat → Option Nat) (A B : zM) : Prop := ∀ w r x (ow tr : Int32), w < 7 → lSaidF A lc w r x ow tr (cn w) 0 = mSay B mn w r x ow tr
theorem zWd.keep {A B A2 B2 : zM} (h : zWd lc cn mn A B) (hA : ∀ a k, lc ≤ a → a ≤ lc + 8 → A2.1 a k = A.1 a k) (hB : ∀ a k, 3100 ≤ a → B2.1 a k = B.1 a k) : zWd lc cn mn A2 B2 := fun w r x ow tr hw => by
  rw [lSaidF_same hA]
  unfold mSay
  rw [mSayF_same hB]
  exact h w r x ow tr hw
/-- what a trial holds alike, Hd telling what is heard so far -/
def orS (o lc n c : Nat) (cn : Nat → Nat) (mn : Nat → Option Nat) (Hd : Nat → Nat → Bool) (A B : zM) : Prop :=
  zWd lc cn mn A B ∧ orL o n c A ∧ A.1 o 9 = B.1 300 24 ∧ A.1 o 1 = B.1 300 18 ∧ A.1 o 2 = B.1 300 19 ∧ (∀ s, s < n → A.1 (o + 1 + 6) s = B.1 324 s) ∧
  (∀ m p, m < n → p < 57 → Hd m p = true → A.1 (o + 1 + 12) (m * 57 + p) = B.1 (1000 + 16 * 20 + m) p ∧ A.1 (o + 1 + 13) (m * 57 + p) = B.1 (1000 + 16 * 21 + m) p ∧ ∃ g : Bool, B.1 (1000 + 16 * 21 + m) p = zb g) ∧
  ∀ m, m < n → A.1 (o + 1 + 5) m = nI (zcnt (fun p => Hd m p && !decide (B.1 (1000 + 16 * 21 + m) p = 0)) 57)
/-- whom member m has found, and whom it will at the round's end -/
def orF (o c r : Nat) (Hd : Nat → Nat → Bool) (m : Nat) (A B : zM) : Prop :=
  A.1 (o + 1 + 3) m = B.1 (1000 + 16 * 22 + m) (r - 1) ∧ (∀ b, 7 ≤ b → b < 32 → bt (A.1 (o + 1 + 3) m) b = false) ∧ ∀ i, i < 32 → bt (A.1 (o + 1 + 15) m) i = zany (fun p => Hd m p && decide (zlen p = r) && !decide (B.1 (1000 + 16 * 21 + m) p = 0) && decide (zlast c p = i)) 57
def orR (o lc n c r : Nat) (cn : Nat → Nat) (mn : Nat → Option Nat) (Hd : Nat → Nat → Bool) (A B : zM) : Prop := orS o lc n c cn mn Hd A B ∧ ∀ m, m < n → m ≠ c → orF o c r Hd m A B
theorem orS.congr {A B : zM} (h : orS o lc n c cn mn Hd A B) (e : ∀ m p, m < n → p < 57 → Hd2 m p = Hd m p) : orS o lc n c cn mn Hd2 A B := by
  obtain ⟨h1, h2, h3, h4, h5, h6, h7, h8⟩ := h
  refine ⟨h1, h2, h3, h4, h5, h6, fun m p hm hp hh => h7 m p hm hp (by rw [← e m p hm hp]; exact hh), fun m hm => ?_⟩
  rw [h8 m hm]
  congr 1
  exact zcnt_congr 57 (fun p hp => by rw [e m p hm hp])
theorem orF.congr {A B : zM} {m : Nat} (hm : m < n) (h : orF o c r Hd m A B) (e : ∀ m p, m < n → p < 57 → Hd2 m p = Hd m p) : orF o c r Hd2 m A B := by
  obtain ⟨h1, h2, h3⟩ := h
  refine ⟨h1, h2, fun i hi => ?_⟩
  rw [h3 i hi]
  exact zany_congr 57 (fun p hp => by rw [e m p hm hp])
theorem orR.congr {A B : zM} (h : orR o lc n c r cn mn Hd A B) (e : ∀ m p, m < n → p < 57 → Hd2 m p = Hd m p) : orR o lc n c r cn mn Hd2 A B := ⟨h.1.congr e, fun m hm hmc => (h.2 m hm hmc).congr hm e⟩
/-- the object, apart from the lies -/
def orO (o lc : Nat) : Prop := 59 < o ∧ o + 20 < lc ∧ lc + 8 < 300
/-- one thing more is heard -/
theorem orPut (hO : orO o lc) (hn7 : n ≤ 7) {A B A2 B2 : zM} (h : orR o lc n c r cn mn Hd A B) {x w p : Nat} (hx : x < n) (hxc : x ≠ c) (hw : w < n) (hp : p < 57) (hh : Hd x p = false) (hlen : zlen p = r) (hlast : zlast c p = w) {fl : Bool}
    (hA : ∀ a j, ¬ (a = o ∧ (j = 1 ∨ j = 2)) → ¬ (a = o + 1 + 6 ∧ j = w) → ¬ ((a = o + 1 + 5 ∨ a = o + 1 + 15) ∧ j = x) → ¬ ((a = o + 1 + 12 ∨ a = o + 1 + 13) ∧ j = x * 57 + p) → A2.1 a j = A.1 a j)
    (hB : ∀ a j, ¬ (a = 300 ∧ (j = 16 ∨ j = 18 ∨ j = 19)) → ¬ (a = 324 ∧ j = w) → ¬ ((a = 1000 + 16 * 20 + x ∨ a = 1000 + 16 * 21 + x) ∧ j = p) → B2.1 a j = B.1 a j)
    (e1 : A2.1 o 1 = B2.1 300 18) (e2 : A2.1 o 2 = B2.1 300 19) (e3 : A2.1 (o + 1 + 6) w = B2.1 324 w)
    (e4 : A2.1 (o + 1 + 12) (x * 57 + p) = B2.1 (1000 + 16 * 20 + x) p) (e5 : A2.1 (o + 1 + 13) (x * 57 + p) = zb fl) (e6 : B2.1 (1000 + 16 * 21 + x) p = zb fl)
    (e7 : A2.1 (o + 1 + 15) x = if fl then A.1 (o + 1 + 15) x ||| (nI 1 <<< (nI w &&& 31)) else A.1 (o + 1 + 15) x) (e8 : A2.1 (o + 1 + 5) x = A.1 (o + 1 + 5) x + (if fl then nI 1 else nI 0)) :
    orR o lc n c r cn mn (fun m q => Hd m q || (decide (m = x) && decide (q = p))) A2 B2 := by
  obtain ⟨⟨h1, h2, h3, h4, h5, h6, h7, h8⟩, h9⟩ := h
  obtain ⟨o1, o2, o3⟩ := hO
  have hfl : (!decide (B2.1 (1000 + 16 * 21 + x) p = 0)) = fl := by
    rw [e6]
    cases fl <;> decide
  have hBf : ∀ m q, m < n → ¬ (m = x ∧ q = p) → B2.1 (1000 + 16 * 21 + m) q = B.1 (1000 + 16 * 21 + m) q := fun m q hm hne => hB _ _ (by omega) (by omega) (by omega)
  refine ⟨⟨h1.keep (fun a k g1 g2 => hA a k (by omega) (by omega) (by omega) (by omega)) (fun a k g1 => hB a k (by omega) (by omega) (by omega)), fun q hq => by rw [hA _ _ (by omega) (by omega) (by omega) (by omega)]; exact h2 q hq, by rw [hA _ _ (by omega) (by omega) (by omega) (by omega), hB _ _ (by omega) (by omega) (by omega)]; exact h3, e1, e2, fun s hs => ?_, fun m q hm hq hh2 => ?_, fun m hm => ?_⟩, fun m hm hmc => ⟨?_, ?_, fun i hi => ?_⟩⟩
  · by_cases es : s = w
    · subst es; exact e3
    · rw [hA _ _ (by omega) (by omega) (by omega) (by omega), hB _ _ (by omega) (by omega) (by omega)]; exact h6 s hs
  · by_cases em : m = x ∧ q = p
    · obtain ⟨rfl, rfl⟩ := em
      exact ⟨e4, e5.trans e6.symm, fl, e6⟩
    · have hh3 : Hd m q = true := by
        rcases (Bool.or_eq_true _ _).mp hh2 with g | g
        · exact g
        · simp only [Bool.and_eq_true, decide_eq_true_eq] at g
          exact absurd g em
      rw [hA _ _ (by omega) (by omega) (by omega) (by omega), hA _ _ (by omega) (by omega) (by omega) (by omega), hB _ _ (by omega) (by omega) (by omega), hB _ _ (by omega) (by omega) (by omega)]
      exact h7 m q hm hq hh3
  · by_cases em : m = x
    · subst em
      have hQ : ((Hd m p || (decide (m = m) && decide (p = p))) && !decide (B2.1 (1000 + 16 * 21 + m) p = 0)) = fl := by rw [hfl, hh]; simp
      have hz : zcnt (fun q => (Hd m q || (decide (m = m) && decide (q = p))) && !decide (B2.1 (1000 + 16 * 21 + m) q = 0)) 57 = zcnt (fun q => Hd m q && !decide (B.1 (1000 + 16 * 21 + m) q = 0)) 57 + (if fl then 1 else 0) := by
        rw [← hQ]
        exact zcnt_upd (P := fun q => Hd m q && !decide (B.1 (1000 + 16 * 21 + m) q = 0)) (Q := fun q => (Hd m q || (decide (m = m) && decide (q = p))) && !decide (B2.1 (1000 + 16 * 21 + m) q = 0)) (a := p) (by simp [hh]) 57 hp (fun i hi hne => by
          simp only [decide_eq_false hne, Bool.and_false, Bool.or_false]
          rw [hBf m i hm (by omega)])
      show A2.1 (o + 1 + 5) m = nI (zcnt (fun q => (Hd m q || (decide (m = m) && decide (q = p))) && !decide (B2.1 (1000 + 16 * 21 + m) q = 0)) 57)
      rw [hz, e8, h8 m hm]
      cases fl with
      | true => exact nI_inc _ 1
      | false => exact Int32.add_zero _
    · rw [hA _ _ (by omega) (by omega) (by omega) (by omega), h8 m hm]
      congr 1
      refine zcnt_congr 57 (fun q hq => ?_)
      simp only [decide_eq_false em, Bool.false_and, Bool.or_false]
      rw [hBf m q hm (by omega)]
  · rw [hA _ _ (by omega) (by omega) (by omega) (by omega), hB _ _ (by omega) (by omega) (by omega)]; exact (h9 m hm hmc).1
  · rw [hA _ _ (by omega) (by omega) (by omega) (by omega)]; exact (h9 m hm hmc).2.1
  · by_cases em : m = x
    · subst em
      have hQ : ((Hd m p || (decide (m = m) && decide (p = p))) && decide (zlen p = r) && !decide (B2.1 (1000 + 16 * 21 + m) p = 0) && decide (zlast c p = i)) = (fl && decide (i = w)) := by
        rw [hfl, hh, decide_eq_true hlen, hlast, show decide (w = i) = decide (i = w) by rw [decide_eq_decide]; exact eq_comm]
        simp
      have hz : zany (fun q => (Hd m q || (decide (m = m) && decide (q = p))) && decide (zlen q = r) && !decide (B2.1 (1000 + 16 * 21 + m) q = 0) && decide (zlast c q = i)) 57 = (zany (fun q => Hd m q && decide (zlen q = r) && !decide (B.1 (1000 + 16 * 21 + m) q = 0) && decide (zlast c q = i)) 57 || (fl && decide (i = w))) := by
        rw [← hQ]
        exact zany_upd (P := fun q => Hd m q && decide (zlen q = r) && !decide (B.1 (1000 + 16 * 21 + m) q = 0) && decide (zlast c q = i)) (Q := fun q => (Hd m q || (decide (m = m) && decide (q = p))) && decide (zlen q = r) && !decide (B2.1 (1000 + 16 * 21 + m) q = 0) && decide (zlast c q = i)) (a := p) hp (by simp [hh]) (fun j hj hne => by
          simp only [decide_eq_false hne, Bool.and_false, Bool.or_false]
          rw [hBf m j hm (by omega)])
      show bt (A2.1 (o + 1 + 15) m) i = zany (fun q => (Hd m q || (decide (m = m) && decide (q = p))) && decide (zlen q = r) && !decide (B2.1 (1000 + 16 * 21 + m) q = 0) && decide (zlast c q = i)) 57
      rw [hz, ← (h9 m hm hmc).2.2 i hi]
      rw [e7]
      cases fl with
      | true => rw [if_pos rfl, b_or, bt_sh (by omega) hi, Bool.true_and]
      | false => rw [if_neg (by decide), Bool.false_and, Bool.or_false]
    · rw [hA _ _ (by omega) (by omega) (by omega) (by omega), (h9 m hm hmc).2.2 i hi]
      refine zany_congr 57 (fun q hq => ?_)
      simp only [decide_eq_false em, Bool.false_and, Bool.or_false]
      rw [hBf m q hm (by omega)]
/-- a word is heard -/
theorem orHear (hO : orO o lc) (hn7 : n ≤ 7) {A B : zM} (h : orR o lc n c r cn mn Hd A B) {x w p : Nat} (hx : x < n) (hxc : x ≠ c) (hw : w < n) (hp : p < 57) (hh : Hd x p = false) (hlen : zlen p = r) (hlast : zlast c p = w) (word : Option (Option Int32)) (tr : Int32) :
    orR o lc n c r cn mn (fun m q => Hd m q || (decide (m = x) && decide (q = p))) (oHear o x w p word A) (mHr w x p (mCode word) r (mSb word tr B)) := by
  obtain ⟨o1, o2, o3⟩ := id hO
  obtain ⟨⟨h1, h2, h3, h4, h5, h6, h7, h8⟩, h9⟩ := id h
  have hfd : A.1 (o + 1 + 3) x = B.1 (1000 + 16 * 22 + x) (r - 1) := (h9 x hx hxc).1
  have hmf : mFd x r (mSb word tr B) = A.1 (o + 1 + 3) x := by
    unfold mFd mSb
    rw [zw_ne (by omega), hfd]
  have s16 : (mSb word tr B).1 300 16 = mSa word tr := zw_same
  have so : ∀ a j, ¬ (a = 300 ∧ j = 16) → (mSb word tr B).1 a j = B.1 a j := fun a j hne => zw_ne (by omega)
  unfold mHr
  rw [hmf, s16, so 300 18 (by omega), so (300 + 1 + 23) w (by omega), so 300 19 (by omega), so 300 24 (by omega), ← h3, ← h4, ← h5, show B.1 (300 + 1 + 23) w = A.1 (o + 1 + 6) w from (h6 w hw).symm]
  generalize hS : mSb word tr B = S at *
  unfold oHear oKeep oLost oCnt
  have hfrB : ∀ (u1 u2 u3 u4 u5 : Int32) a j, ¬ (a = 300 ∧ (j = 16 ∨ j = 18 ∨ j = 19)) → ¬ (a = 324 ∧ j = w) → ¬ ((a = 1000 + 16 * 20 + x ∨ a = 1000 + 16 * 21 + x) ∧ j = p) → (zw (zw (zw (zw (zw S 300 18 u1) (300 + 1 + 23) w u2) 300 19 u3) (1000 + 16 * 20 + x) p u4) (1000 + 16 * 21 + x) p u5).1 a j = B.1 a j := fun u1 u2 u3 u4 u5 a j g1 g2 g3 => by
    rw [zw_ne (by omega), zw_ne (by omega), zw_ne (by omega), zw_ne (by omega), zw_ne (by omega)]
    exact so a j (by omega)
  have hB1 : ∀ (u1 u2 u3 u4 u5 : Int32), (zw (zw (zw (zw (zw S 300 18 u1) (300 + 1 + 23) w u2) 300 19 u3) (1000 + 16 * 20 + x) p u4) (1000 + 16 * 21 + x) p u5).1 300 18 = u1 := fun u1 u2 u3 u4 u5 => by
    rw [zw_ne (by omega), zw_ne (by omega), zw_ne (by omega), zw_ne (by omega)]; exact zw_same
  have hB2 : ∀ (u1 u2 u3 u4 u5 : Int32), (zw (zw (zw (zw (zw S 300 18 u1) (300 + 1 + 23) w u2) 300 19 u3) (1000 + 16 * 20 + x) p u4) (1000 + 16 * 21 + x) p u5).1 324 w = u2 := fun u1 u2 u3 u4 u5 => by
    rw [zw_ne (by omega), zw_ne (by omega), zw_ne (by omega)]; exact zw_same
  have hB3 : ∀ (u1 u2 u3 u4 u5 : Int32), (zw (zw (zw (zw (zw S 300 18 u1) (300 + 1 + 23) w u2) 300 19 u3) (1000 + 16 * 20 + x) p u4) (1000 + 16 * 21 + x) p u5).1 300 19 = u3 := fun u1 u2 u3 u4 u5 => by
    rw [zw_ne (by omega), zw_ne (by omega)]; exact zw_same
  have hB4 : ∀ (u1 u2 u3 u4 u5 : Int32), (zw (zw (zw (zw (zw S 300 18 u1) (300 + 1 + 23) w u2) 300 19 u3) (1000 + 16 * 20 + x) p u4) (1000 + 16 * 21 + x) p u5).1 (1000 + 16 * 20 + x) p = u4 := fun u1 u2 u3 u4 u5 => by
    rw [zw_ne (by omega)]; exact zw_same
  have hB5 : ∀ (u1 u2 u3 u4 u5 : Int32), (zw (zw (zw (zw (zw S 300 18 u1) (300 + 1 + 23) w u2) 300 19 u3) (1000 + 16 * 20 + x) p u4) (1000 + 16 * 21 + x) p u5).1 (1000 + 16 * 21 + x) p = u5 := fun u1 u2 u3 u4 u5 => zw_same
  cases hb : bit (A.1 (o + 1 + 3) x) w with
  | true =>
    rw [if_pos rfl]
    match word with
    | none =>
      rw [if_pos (rfl : (none : Option (Option Int32)) = none)]
      refine orPut (fl := false) hO hn7 h hx hxc hw hp hh hlen hlast (fun a j g1 g2 g3 g4 => ?_) (hfrB _ _ _ _ _) ?_ ?_ ?_ ?_ ?_ ?_ ?_ ?_
      · rw [zw_ne (by omega), zw_ne (by omega)]
      · rw [hB1, zw_ne (by omega), zw_ne (by omega)]; exact (Int32.add_zero _).symm
      · rw [hB3, zw_ne (by omega), zw_ne (by omega), if_neg (by simp)]; exact (Int32.add_zero _).symm
      · rw [hB2, zw_ne (by omega), zw_ne (by omega)]; exact (Int32.add_zero _).symm
      · rw [hB4, if_neg (by simp), zw_ne (by omega)]; exact zw_same
      · exact zw_same
      · rw [hB5]; simp
      · rw [if_neg (by decide), zw_ne (by omega), zw_ne (by omega)]
      · rw [if_neg (by decide), zw_ne (by omega), zw_ne (by omega)]; exact (Int32.add_zero _).symm
    | some none =>
      rw [if_neg (show ¬ (some none : Option (Option Int32)) = none by simp)]
      refine orPut (fl := false) hO hn7 h hx hxc hw hp hh hlen hlast (fun a j g1 g2 g3 g4 => ?_) (hfrB _ _ _ _ _) ?_ ?_ ?_ ?_ ?_ ?_ ?_ ?_
      · rw [zw_ne (by omega), zw_ne (by omega), zw_ne (by omega), zw_ne (by omega)]
      · rw [hB1, zw_ne (by omega), zw_ne (by omega), zw_ne (by omega), zw_same]; rfl
      · rw [hB3, zw_ne (by omega), zw_ne (by omega), zw_ne (by omega), zw_ne (by omega), if_neg (by simp)]; exact (Int32.add_zero _).symm
      · rw [hB2, zw_ne (by omega), zw_ne (by omega), zw_same]; rfl
      · rw [hB4, if_neg (by simp), zw_ne (by omega)]; exact zw_same
      · exact zw_same
      · rw [hB5]; simp
      · rw [if_neg (by decide), zw_ne (by omega), zw_ne (by omega), zw_ne (by omega), zw_ne (by omega)]
      · rw [if_neg (by decide), zw_ne (by omega), zw_ne (by omega), zw_ne (by omega), zw_ne (by omega)]; exact (Int32.add_zero _).symm
    | some (some v) =>
      rw [if_neg (show ¬ (some (some v) : Option (Option Int32)) = none by simp)]
      refine orPut (fl := false) hO hn7 h hx hxc hw hp hh hlen hlast (fun a j g1 g2 g3 g4 => ?_) (hfrB _ _ _ _ _) ?_ ?_ ?_ ?_ ?_ ?_ ?_ ?_
      · rw [zw_ne (by omega), zw_ne (by omega), zw_ne (by omega), zw_ne (by omega)]
      · rw [hB1, zw_ne (by omega), zw_ne (by omega), zw_ne (by omega), zw_same]; rfl
      · rw [hB3, zw_ne (by omega), zw_ne (by omega), zw_ne (by omega), zw_ne (by omega), if_neg (by simp)]; exact (Int32.add_zero _).symm
      · rw [hB2, zw_ne (by omega), zw_ne (by omega), zw_same]; rfl
      · rw [hB4, if_neg (by simp), zw_ne (by omega)]; exact zw_same
      · exact zw_same
      · rw [hB5]; simp
      · rw [if_neg (by decide), zw_ne (by omega), zw_ne (by omega), zw_ne (by omega), zw_ne (by omega)]
      · rw [if_neg (by decide), zw_ne (by omega), zw_ne (by omega), zw_ne (by omega), zw_ne (by omega)]; exact (Int32.add_zero _).symm
  | false =>
    rw [if_neg (by decide)]
    match word with
    | none =>
      refine orPut (fl := true) hO hn7 h hx hxc hw hp hh hlen hlast (fun a j g1 g2 g3 g4 => ?_) (hfrB _ _ _ _ _) ?_ ?_ ?_ ?_ ?_ ?_ ?_ ?_
      · rw [zw_ne (by omega), zw_ne (by omega), zw_ne (by omega), zw_ne (by omega), zw_ne (by omega)]
      · rw [hB1, zw_ne (by omega), zw_ne (by omega), zw_ne (by omega), zw_ne (by omega), zw_ne (by omega)]; exact (Int32.add_zero _).symm
      · rw [hB3, zw_ne (by omega), zw_ne (by omega), zw_same, if_neg (by simp [mCode])]
      · rw [hB2, zw_ne (by omega), zw_ne (by omega), zw_ne (by omega), zw_ne (by omega), zw_ne (by omega)]; exact (Int32.add_zero _).symm
      · rw [hB4, if_neg (by simp [mCode]), zw_ne (by omega)]; exact zw_same
      · exact zw_same
      · rw [hB5]; simp [mCode]
      · rw [if_pos rfl, zw_ne (by omega), zw_ne (by omega), zw_ne (by omega)]; exact zw_same
      · rw [if_pos rfl, zw_ne (by omega), zw_ne (by omega), zw_ne (by omega), zw_ne (by omega)]; exact zw_same
    | some none =>
      refine orPut (fl := true) hO hn7 h hx hxc hw hp hh hlen hlast (fun a j g1 g2 g3 g4 => ?_) (hfrB _ _ _ _ _) ?_ ?_ ?_ ?_ ?_ ?_ ?_ ?_
      · rw [zw_ne (by omega), zw_ne (by omega), zw_ne (by omega), zw_ne (by omega), zw_ne (by omega), zw_ne (by omega), zw_ne (by omega)]
      · rw [hB1, zw_ne (by omega), zw_ne (by omega), zw_ne (by omega), zw_ne (by omega), zw_ne (by omega), zw_ne (by omega), zw_same]; rfl
      · rw [hB3, zw_ne (by omega), zw_ne (by omega), zw_same, if_pos ⟨rfl, rfl⟩]
      · rw [hB2, zw_ne (by omega), zw_ne (by omega), zw_ne (by omega), zw_ne (by omega), zw_ne (by omega), zw_same]; rfl
      · rw [hB4, if_neg (by simp [mCode]), zw_ne (by omega)]; exact zw_same
      · exact zw_same
      · rw [hB5]; simp [mCode]
      · rw [if_pos rfl, zw_ne (by omega), zw_ne (by omega), zw_ne (by omega)]; exact zw_same
      · rw [if_pos rfl, zw_ne (by omega), zw_ne (by omega), zw_ne (by omega), zw_ne (by omega)]; exact zw_same
    | some (some v) =>
      refine orPut (fl := false) hO hn7 h hx hxc hw hp hh hlen hlast (fun a j g1 g2 g3 g4 => ?_) (hfrB _ _ _ _ _) ?_ ?_ ?_ ?_ ?_ ?_ ?_ ?_
      · rw [zw_ne (by omega), zw_ne (by omega), zw_ne (by omega), zw_ne (by omega)]
      · rw [hB1, zw_ne (by omega), zw_ne (by omega), zw_ne (by omega), zw_same]; rfl
      · rw [hB3, zw_ne (by omega), zw_ne (by omega), zw_ne (by omega), zw_ne (by omega), if_neg (by simp [mCode])]; exact (Int32.add_zero _).symm
      · rw [hB2, zw_ne (by omega), zw_ne (by omega), zw_same]; rfl
      · rw [hB4, if_pos ⟨rfl, rfl⟩, zw_ne (by omega), zw_same]; rfl
      · exact zw_same
      · rw [hB5]; simp [mCode]
      · rw [if_neg (by decide), zw_ne (by omega), zw_ne (by omega), zw_ne (by omega), zw_ne (by omega)]
      · rw [if_neg (by decide), zw_ne (by omega), zw_ne (by omega), zw_ne (by omega), zw_ne (by omega)]; exact (Int32.add_zero _).symm
end zOralB
