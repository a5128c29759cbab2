section zOralC
def zpre (q : Nat) : Nat := if q < 8 then 0 else 1 + (q - 8) / 7
def pathQ (n c q : Nat) : Bool := !(decide (3 ≤ n) && decide (c < n) && mPath n c q && decide (2 ≤ zlen q)) || (decide (zpre q < 8) && decide (zlong (zpre q) (zlast c q) = q) && decide (zlen (zpre q) + 1 = zlen q) && mPath n c (zpre q) && !mIsIn c (zpre q) (zlast c q) && decide (zlast c q < n) && !decide (zlast c q = c))
theorem pathQ_all : ∀ n, n < 8 → ∀ c, c < 7 → ∀ q, q < 57 → pathQ n c q = true := by decide +kernel
theorem path_q (n : Nat) (h1 : n < 8) (c : Nat) (h2 : c < 7) (q : Nat) (h3 : q < 57) (h4 : 3 ≤ n) (h5 : c < n) (h6 : mPath n c q = true) (h7 : 2 ≤ zlen q) : zpre q < 8 ∧ zlong (zpre q) (zlast c q) = q ∧ zlen (zpre q) + 1 = zlen q ∧ mPath n c (zpre q) = true ∧ mIsIn c (zpre q) (zlast c q) = false ∧ zlast c q < n ∧ zlast c q ≠ c := by
  have h := pathQ_all n h1 c h2 q h3
  unfold pathQ at h
  rw [decide_eq_true h4, decide_eq_true h5, h6, decide_eq_true h7] at h
  simp only [Bool.and_self, Bool.not_true, Bool.false_or, Bool.and_eq_true, decide_eq_true_eq, Bool.not_eq_true', decide_eq_false_iff_not] at h
  obtain ⟨⟨⟨⟨⟨⟨g1, g2⟩, g3⟩, g4⟩, g5⟩, g6⟩, g7⟩ := h
  exact ⟨g1, g2, g3, g4, g5, g6, g7⟩
def pathI (n c p i : Nat) : Bool := !(decide (3 ≤ n) && decide (c < n) && decide (i < n) && mPath n c p && !mIsIn c p i) || mPath n c (zlong p i)
theorem pathI_all : ∀ n, n < 8 → ∀ c, c < 7 → ∀ p, p < 8 → ∀ i, i < 7 → pathI n c p i = true := by decide +kernel
theorem path_i (n : Nat) (h1 : n < 8) (c : Nat) (h2 : c < 7) (p : Nat) (h3 : p < 8) (i : Nat) (h4 : i < 7) (h5 : 3 ≤ n) (h6 : c < n) (h7 : i < n) (h8 : mPath n c p = true) (h9 : mIsIn c p i = false) : mPath n c (zlong p i) = true := by
  have h := pathI_all n h1 c h2 p h3 i h4
  unfold pathI at h
  rw [decide_eq_true h5, decide_eq_true h6, decide_eq_true h7, h8, h9] at h
  exact h
theorem isin_l : ∀ c, c < 7 → ∀ p, p < 8 → ∀ i, i < 7 → ∀ x, x < 7 → mIsIn c (zlong p i) x = (mIsIn c p x || decide (x = i)) := by decide +kernel
def pathN (n c p : Nat) : Bool := !(decide (3 ≤ n) && decide (c < n) && mPath n c p) || decide (zcnt (fun i => !mIsIn c p i) n = n - zlen p)
theorem pathN_all : ∀ n, n < 8 → ∀ c, c < 7 → ∀ p, p < 57 → pathN n c p = true := by decide +kernel
theorem path_cnt (n : Nat) (h1 : n < 8) (c : Nat) (h2 : c < 7) (p : Nat) (h3 : p < 57) (h4 : 3 ≤ n) (h5 : c < n) (h6 : mPath n c p = true) : zcnt (fun i => !mIsIn c p i) n = n - zlen p := by
  have h := pathN_all n h1 c h2 p h3
  unfold pathN at h
  rw [decide_eq_true h4, decide_eq_true h5, h6] at h
  exact of_decide_eq_true h
theorem long_f : ∀ c, c < 7 → ∀ p, p < 8 → ∀ i, i < 7 → zlong p i < 57 ∧ 0 < zlong p i ∧ zlast c (zlong p i) = i ∧ zpre (zlong p i) = p ∧ zlen (zlong p i) = zlen p + 1 := by decide +kernel
theorem isin_c {c p : Nat} : mIsIn c p c = true := by
  unfold mIsIn
  simp
theorem zlen_1 {q : Nat} : zlen q = 1 ↔ q = 0 := by
  unfold zlen
  split
  · omega
  · split <;> omega
variable {o lc n c t r : Nat} {cn : Nat → Nat} {mn : Nat → Option Nat} {Hd Hd2 : Nat → Nat → Bool}
theorem mHas_iff {m p : Nat} : mHas n c t m p = true ↔ mPath n c p = true ∧ m ≠ c ∧ zlen p ≤ t + 1 ∧ (mIsIn c p m = false ∨ (0 < p ∧ zlast c p = m)) := by
  unfold mHas
  simp only [Bool.and_eq_true, Bool.not_eq_true', decide_eq_false_iff_not, decide_eq_true_eq, Bool.or_eq_true]
  constructor
  · rintro ⟨⟨⟨h1, h2⟩, h3⟩, h4⟩; exact ⟨h1, h2, h3, h4⟩
  · rintro ⟨h1, h2, h3, h4⟩; exact ⟨⟨⟨h1, h2⟩, h3⟩, h4⟩
/-- what is heard when round r is through -/
def hdR (n c t r : Nat) (m p : Nat) : Bool := mHas n c t m p && decide (zlen p ≤ r)
/-- .. in round r, when w tells of path p, by those ahead of l -/
def hdX (n c t r w p l : Nat) (m q : Nat) : Bool := mHas n c t m q && decide (zlen q < r ∨ (zlen q = r ∧ (zlast c q < w ∨ (zlast c q = w ∧ (zpre q < p ∨ (zpre q = p ∧ m < l ∧ m ≠ w))))))
theorem hd_eq {H : Bool} {P Q : Prop} [dp : Decidable P] [dq : Decidable Q] (h : H = true → (P ↔ Q)) : (H && decide P) = (H && decide Q) := by
  cases H with
  | false => rfl
  | true => rw [Bool.true_and, Bool.true_and, decide_eq_decide]; exact h rfl
theorem hd_or {H : Bool} {P Q R S : Prop} [dp : Decidable P] [dq : Decidable Q] [dr : Decidable R] [ds : Decidable S] (h1 : H = true → (Q ↔ P ∨ (R ∧ S))) (h2 : R → S → H = true) : (H && decide Q) = ((H && decide P) || (decide R && decide S)) := by
  cases H with
  | false =>
    rw [Bool.false_and, Bool.false_and, Bool.false_or]
    cases hR : decide R with
    | false => rfl
    | true =>
      cases hS : decide S with
      | false => rfl
      | true => exact absurd (h2 (of_decide_eq_true hR) (of_decide_eq_true hS)) (by decide)
  | true =>
    rw [Bool.true_and, Bool.true_and, Bool.eq_iff_iff, Bool.or_eq_true, Bool.and_eq_true, decide_eq_true_eq, decide_eq_true_eq, decide_eq_true_eq, decide_eq_true_eq]
    exact h1 rfl
theorem oHear_ne {x w p : Nat} {word : Option (Option Int32)} {A : zM} {a j : Nat} (g1 : ¬ (a = o ∧ (j = 1 ∨ j = 2))) (g2 : ¬ (a = o + 1 + 6 ∧ j = w)) (g3 : ¬ ((a = o + 1 + 5 ∨ a = o + 1 + 15) ∧ j = x)) (g4 : ¬ ((a = o + 1 + 12 ∨ a = o + 1 + 13) ∧ j = x * 57 + p)) : (oHear o x w p word A).1 a j = A.1 a j := by
  have hC : ∀ A : zM, (oCnt o w A).1 a j = A.1 a j := fun A => by unfold oCnt; rw [zw_ne (by omega), zw_ne (by omega)]
  have hK : ∀ v g (A : zM), (oKeep o x p v g A).1 a j = A.1 a j := fun v g A => by unfold oKeep; rw [zw_ne (by omega), zw_ne (by omega)]
  have hL : ∀ k (A A1 : zM), (oLost o x w k A A1).1 a j = A1.1 a j := fun k A A1 => by unfold oLost; rw [zw_ne (by omega), zw_ne (by omega), zw_ne (by omega)]
  unfold oHear
  split
  · rw [hK]
    split
    · rfl
    · exact hC _
  · split
    · rw [hK, hL]
    · rw [hK, hL, hC]
    · rw [hK, hC]
theorem mSH_ne {s x p : Nat} {oo tr : Int32} {B : zM} {a j : Nat} (g1 : ¬ (a = 300 ∧ (j = 16 ∨ j = 18 ∨ j = 19))) (g2 : ¬ (a = 324 ∧ j = s)) (g3 : ¬ ((a = 1000 + 16 * 20 + x ∨ a = 1000 + 16 * 21 + x) ∧ j = p)) : (mSH mn s x p r oo tr B).1 a j = B.1 a j := by
  unfold mSH mHr mSb
  rw [zw_ne (by omega), zw_ne (by omega), zw_ne (by omega), zw_ne (by omega), zw_ne (by omega), zw_ne (by omega)]
/-- the class keeps a thing that isn't told of yet -/
theorem orKeep (hO : orO o lc) {A B : zM} (h : orR o lc n c r cn mn Hd A B) {x p : Nat} (hp : p < 57) (hh : Hd x p = false) (v : Int32) (g : Bool) : orR o lc n c r cn mn Hd (oKeep o x p v g A) B := by
  obtain ⟨o1, o2, o3⟩ := hO
  have hK : ∀ a j, ¬ ((a = o + 1 + 12 ∨ a = o + 1 + 13) ∧ j = x * 57 + p) → (oKeep o x p v g A).1 a j = A.1 a j := fun a j hne => by unfold oKeep; rw [zw_ne (by omega), zw_ne (by omega)]
  obtain ⟨⟨h1, h2, h3, h4, h5, h6, h7, h8⟩, h9⟩ := h
  refine ⟨⟨h1.keep (fun a k g1 g2 => hK a k (by omega)) (fun _ _ _ => rfl), fun q hq => by rw [hK _ _ (by omega)]; exact h2 q hq, by rw [hK _ _ (by omega)]; exact h3, by rw [hK _ _ (by omega)]; exact h4, by rw [hK _ _ (by omega)]; exact h5, fun s hs => by rw [hK _ _ (by omega)]; exact h6 s hs, fun m q hm hq hh2 => ?_, fun m hm => by rw [hK _ _ (by omega)]; exact h8 m hm⟩, fun m hm hmc => ?_⟩
  · have hne : ¬ (m = x ∧ q = p) := fun e => by rw [e.1, e.2, hh] at hh2; cases hh2
    rw [hK _ _ (by omega), hK _ _ (by omega)]
    exact h7 m q hm hq hh2
  · obtain ⟨k1, k2, k3⟩ := h9 m hm hmc
    exact ⟨by rw [hK _ _ (by omega)]; exact k1, by rw [hK _ _ (by omega)]; exact k2, by rw [hK _ _ (by omega)]; exact k3⟩
/-- one tells of one path -/
theorem orTellOne (hO : orO o lc) (hn : 3 ≤ n ∧ n ≤ 7) (hc : c < n) (hr : 2 ≤ r ∧ r ≤ t + 1) (hr3 : r ≤ 3) {w p : Nat} (hw : w < n) (hwc : w ≠ c) (hp8 : p < 8) (hpl : zlen p = r - 1) (hpp : mPath n c p = true) (hpw : mIsIn c p w = false) {A B : zM} (h : orR o lc n c r cn mn (hdX n c t r w p 0) A B) : orR o lc n c r cn mn (hdX n c t r w (p + 1) 0) (oTellK o lc c r w p cn n A) (mOwn w p (mTk c r w p mn n B)) := by
  obtain ⟨f1, f2, f3, f4, f5⟩ := long_f c (by omega) p hp8 w (by omega)
  have hlen : zlen (zlong p w) = r := by rw [f5]; omega
  have hpath : mPath n c (zlong p w) = true := path_i n (by omega) c (by omega) p hp8 w (by omega) hn.1 hc hw hpp hpw
  obtain ⟨o1, o2, o3⟩ := id hO
  have hV : A.1 (o + 1 + 12) (w * 57 + p) = B.1 (1000 + 16 * 20 + w) p := (h.1.2.2.2.2.2.2.1 w p hw (by omega) (by
    unfold hdX
    rw [mHas_iff.mpr ⟨hpp, hwc, by omega, Or.inl hpw⟩, decide_eq_true (by omega)]
    rfl)).1
  have hL := h.1.2.1
  have keyq : ∀ q, q < 57 → mPath n c q = true → (q = zlong p w ↔ (zlen q = r ∧ zlast c q = w ∧ zpre q = p)) := fun q hq hqp => by
    constructor
    · intro e; rw [e]; exact ⟨hlen, f3, f4⟩
    · rintro ⟨e1, e2, e3⟩
      have h9 := (path_q n (by omega) c (by omega) q hq hn.1 hc hqp (by omega)).2.1
      rw [e2, e3] at h9
      exact h9.symm
  unfold oTellK mTk
  generalize hVV : A.1 (o + 1 + 12) (w * 57 + p) = V at *
  have key := zfor_pair (R := fun l A2 B2 => orR o lc n c r cn mn (hdX n c t r w p l) A2 B2 ∧ A2.1 (o + 1 + 12) (w * 57 + zlong p w) = V ∧ A2.1 (o + 1 + 13) (w * 57 + zlong p w) = zb false ∧ B2.1 (1000 + 16 * 20 + w) p = V ∧ ∀ a j, lc ≤ a → a ≤ lc + 8 → A2.1 a j = A.1 a j) (f := oTell1 o lc c r w p cn A) (g := mT1 c r w p mn) (n := n) (A := oKeep o w (zlong p w) V false A) (B := B) (fun x A2 B2 hx hR => ?_) ⟨orKeep hO h f1 (by
    unfold hdX
    rw [decide_eq_false (by omega), Bool.and_false]) V false, by unfold oKeep; rw [zw_ne (by omega)]; exact zw_same, zw_same, hV.symm, fun a j g1 g2 => by unfold oKeep; rw [zw_ne (by omega), zw_ne (by omega)]⟩ n (Nat.le_refl n)
  · obtain ⟨k1, k2, k3, k4, -⟩ := key
    generalize zfor (oTell1 o lc c r w p cn A) n (oKeep o w (zlong p w) V false A) = A3 at *
    generalize zfor (mT1 c r w p mn) n B = B3 at *
    unfold mOwn
    refine (orPut (fl := false) hO hn.2 k1 (x := w) (w := w) (p := zlong p w) hw hwc hw f1 (by
      unfold hdX
      rw [decide_eq_false (by omega), Bool.and_false]) hlen f3 (fun _ _ _ _ _ _ => rfl) (fun a j g1 g2 g3 => by rw [zw_ne (by omega), zw_ne (by omega)]) ?_ ?_ ?_ ?_ k3 zw_same (by rw [if_neg (by decide)]) (by rw [if_neg (by decide)]; exact (Int32.add_zero _).symm)).congr (fun m q hm hq => ?_)
    · rw [zw_ne (by omega), zw_ne (by omega)]; exact k1.1.2.2.2.1
    · rw [zw_ne (by omega), zw_ne (by omega)]; exact k1.1.2.2.2.2.1
    · rw [zw_ne (by omega), zw_ne (by omega)]; exact k1.1.2.2.2.2.2.1 w hw
    · rw [zw_ne (by omega), zw_same, k2, k4]
    · refine hd_or (fun hH => ?_) (fun e1 e2 => ?_)
      · have hk := keyq q hq (mHas_iff.mp hH).1
        rw [hk]
        omega
      · rw [e1, e2]
        exact mHas_iff.mpr ⟨hpath, hwc, by omega, Or.inr ⟨f2, f3⟩⟩
  · obtain ⟨r1, r2, r3, r4, r5⟩ := hR
    unfold oTell1 mT1
    by_cases e : x = w
    · rw [if_pos e, if_pos e]
      exact ⟨r1.congr (fun m q hm hq => hd_eq (fun _ => by omega)), r2, r3, r4, r5⟩
    · rw [if_neg e, if_neg e, hL.on hn hc (by omega) (by omega) hpp]
      cases hpx : mIsIn c p x with
      | true =>
        rw [if_pos rfl, if_pos rfl]
        refine ⟨r1.congr (fun m q hm hq => hd_eq (fun hH => ?_)), r2, r3, r4, r5⟩
        have hk := keyq q hq (mHas_iff.mp hH).1
        by_cases e9 : m = x ∧ q = zlong p w
        · obtain ⟨rfl, rfl⟩ := e9
          have h9 := (mHas_iff.mp hH).2.2.2
          rw [isin_l c (by omega) p hp8 w (by omega) m (by omega), hpx, f3] at h9
          rcases h9 with h9 | ⟨-, h9⟩
          · cases h9
          · exact absurd h9.symm e
        · rw [hk] at e9
          omega
      | false =>
        rw [if_neg (by decide), if_neg (by decide)]
        have hxc : x ≠ c := fun e9 => by rw [e9, isin_c] at hpx; cases hpx
        unfold mSH
        rw [show B2.1 (1000 + 16 * 20 + w) p = V from r4]
        have hword : oSay lc cn A w r x (zlast c p) V = mSay B2 mn w r x (nI (zlast c p)) V := by
          unfold oSay
          rw [← lSaidF_same (A := A) (A2 := A2) r5]
          exact r1.1.1 w r x _ _ (by omega)
        rw [hVV, hword]
        generalize mSay B2 mn w r x (nI (zlast c p)) V = word
        refine ⟨(orHear hO hn.2 r1 hx hxc hw f1 (by
          unfold hdX
          rw [decide_eq_false (by rw [hlen, f3, f4]; omega), Bool.and_false]) hlen f3 word V).congr (fun m q hm hq => hd_or (fun hH => ?_) (fun e1 e2 => ?_)), ?_, ?_, ?_, fun a j g1 g2 => ?_⟩
        · have hk := keyq q hq (mHas_iff.mp hH).1
          rw [hk]
          omega
        · rw [e1, e2]
          exact mHas_iff.mpr ⟨hpath, hxc, by omega, Or.inl (by rw [isin_l c (by omega) p hp8 w (by omega) x (by omega), hpx, decide_eq_false e]; rfl)⟩
        · rw [oHear_ne (by omega) (by omega) (by omega) (by omega)]; exact r2
        · rw [oHear_ne (by omega) (by omega) (by omega) (by omega)]; exact r3
        · rw [show (mHr w x (zlong p w) (mCode word) r (mSb word V B2)).1 (1000 + 16 * 20 + w) p = B2.1 (1000 + 16 * 20 + w) p by
            unfold mHr mSb
            rw [zw_ne (by omega), zw_ne (by omega), zw_ne (by omega), zw_ne (by omega), zw_ne (by omega), zw_ne (by omega)]]
          exact r4
        · rw [oHear_ne (by omega) (by omega) (by omega) (by omega)]; exact r5 a j g1 g2
/-- a round of telling -/
theorem orTell (hO : orO o lc) (hn : 3 ≤ n ∧ n ≤ 7) (hc : c < n) (hr : 2 ≤ r ∧ r ≤ t + 1) (hr3 : r ≤ 3) {A B : zM} (h : orR o lc n c r cn mn (hdR n c t (r - 1)) A B) : orR o lc n c r cn mn (hdR n c t r) (oTR o lc c r n cn n A) (mNr c n r mn n B) := by
  have hfr : zfr (r - 1) ≤ zfr r ∧ zfr r ≤ 8 := by rcases (show r = 2 ∨ r = 3 by omega) with rfl | rfl <;> decide
  have hrng : ∀ p, p < 57 → ((zfr (r - 1) ≤ p ∧ p < zfr r) ↔ zlen p = r - 1) := fun p hp => by
    have h9 := zfr_len (L := r - 1) (p := p) (by omega) hp
    rw [show r - 1 + 1 = r by omega] at h9
    exact h9
  have key := zfor_pair (R := fun w A2 B2 => orR o lc n c r cn mn (hdX n c t r w (zfr (r - 1)) 0) A2 B2) (f := fun w M => oTRw o lc c r n cn w (zfr r - zfr (r - 1)) M) (g := mNs c n r mn) (n := n) (A := A) (B := B) (fun w A2 B2 hw hR => ?_) (h.congr (fun m q hm hq => hd_eq (fun hH => ?_))) n (Nat.le_refl n)
  · unfold oTR mNr
    refine key.congr (fun m q hm hq => hd_eq (fun hH => ?_))
    by_cases e : zlen q = r
    · have h9 := path_q n (by omega) c (by omega) q hq hn.1 hc (mHas_iff.mp hH).1 (by omega)
      omega
    · omega
  · -- the end of one that tells
    have hend : ∀ m q, m < n → q < 57 → hdX n c t r (w + 1) (zfr (r - 1)) 0 m q = hdX n c t r w (zfr r) 0 m q := fun m q hm hq => hd_eq (fun hH => by
      by_cases e : zlen q = r
      · have h9 := path_q n (by omega) c (by omega) q hq hn.1 hc (mHas_iff.mp hH).1 (by omega)
        have h10 := (hrng (zpre q) (by omega)).mpr (by omega)
        omega
      · omega)
    have hskip : ∀ p j, p = zfr (r - 1) + j → p < zfr r → ¬ (mPath n c p = true ∧ mIsIn c p w = false) → ∀ m q, m < n → q < 57 → hdX n c t r w (p + 1) 0 m q = hdX n c t r w p 0 m q := fun p j ep hp hne m q hm hq => hd_eq (fun hH => by
      by_cases e : zlen q = r ∧ zlast c q = w ∧ zpre q = p
      · have h9 := path_q n (by omega) c (by omega) q hq hn.1 hc (mHas_iff.mp hH).1 (by omega)
        rw [e.2.1, e.2.2] at h9
        exact absurd ⟨h9.2.2.2.1, h9.2.2.2.2.1⟩ hne
      · omega)
    show orR o lc n c r cn mn (hdX n c t r (w + 1) (zfr (r - 1)) 0) (oTRw o lc c r n cn w (zfr r - zfr (r - 1)) A2) (mNs c n r mn w B2)
    have hpair : ∀ (g9 : Nat → zM → zM), (∀ j B3, j < zfr r - zfr (r - 1) → g9 j B3 = if mPath n c (zfr (r - 1) + j) = true ∧ mIsIn c (zfr (r - 1) + j) w = false ∧ w ≠ c then mOwn w (zfr (r - 1) + j) (mTk c r w (zfr (r - 1) + j) mn n B3) else B3) → orR o lc n c r cn mn (hdX n c t r w (zfr r) 0) (oTRw o lc c r n cn w (zfr r - zfr (r - 1)) A2) (zfor g9 (zfr r - zfr (r - 1)) B2) := fun g9 hg9 => by
      have h9 := zfor_pair (R := fun j A3 B3 => orR o lc n c r cn mn (hdX n c t r w (zfr (r - 1) + j) 0) A3 B3) (f := fun i M => oTR1 o lc c r w n cn (zfr (r - 1) + i) M) (g := g9) (n := zfr r - zfr (r - 1)) (A := A2) (B := B2) (fun j A3 B3 hj hR3 => ?_) hR (zfr r - zfr (r - 1)) (Nat.le_refl _)
      · rw [show zfr (r - 1) + (zfr r - zfr (r - 1)) = zfr r by omega] at h9
        exact h9
      · show orR o lc n c r cn mn (hdX n c t r w (zfr (r - 1) + j + 1) 0) (oTR1 o lc c r w n cn (zfr (r - 1) + j) A3) (g9 j B3)
        rw [hg9 j B3 hj]
        generalize hp9 : zfr (r - 1) + j = p at *
        have hp8 : p < 8 := by omega
        have hpl : zlen p = r - 1 := (hrng p (by omega)).mp (by omega)
        unfold oTR1
        have hLL := hR3.1.2.1
        rw [hLL.path hn hc (by omega)]
        cases hpp : mPath n c p with
        | false =>
          rw [if_neg (by simp), if_neg (by simp)]
          exact hR3.congr (hskip p j hp9.symm (by omega) (fun h => by rw [hpp] at h; exact absurd h.1 (by decide)))
        | true =>
          rw [hLL.on hn hc (by omega) (by omega) hpp]
          cases hpw : mIsIn c p w with
          | true =>
            rw [if_neg (by simp), if_neg (by simp)]
            exact hR3.congr (hskip p j hp9.symm (by omega) (fun h => by rw [hpw] at h; exact absurd h.2 (by decide)))
          | false =>
            have hwc : w ≠ c := fun e => by rw [e, isin_c] at hpw; cases hpw
            rw [if_pos (by simp), if_pos ⟨rfl, rfl, hwc⟩]
            exact orTellOne hO hn hc hr hr3 hw hwc hp8 hpl hpp hpw hR3
    unfold mNs
    by_cases hwc : w = c
    · rw [if_pos hwc]
      refine orR.congr ?_ hend
      have h9 := hpair (fun _ M => M) (fun j B3 _ => by rw [if_neg (fun h => h.2.2 hwc)])
      rw [zfor_id _ (fun _ _ => rfl)] at h9
      exact h9
    · rw [if_neg hwc]
      unfold mTs
      rw [zfor_range (a := zfr (r - 1)) (b := zfr r) hfr.1 (by omega) (fun i M hi => ?_) (fun i M hi1 hi2 => ?_)]
      · refine orR.congr ?_ hend
        refine hpair _ (fun j B3 hj => ?_)
        show mTp c n r w mn (zfr (r - 1) + j) B3 = _
        unfold mTp
        have hpl := (hrng (zfr (r - 1) + j) (by omega)).mp (by omega)
        by_cases e : mPath n c (zfr (r - 1) + j) = true ∧ mIsIn c (zfr (r - 1) + j) w = false
        · rw [if_pos ⟨hpl, e.1, e.2⟩, if_pos ⟨e.1, e.2, hwc⟩]
        · rw [if_neg (fun h => e h.2), if_neg (fun h => e ⟨h.1, h.2.1⟩)]
      · unfold mTp
        rw [if_neg (fun h => by have := (hrng i (by omega)).mpr h.1; omega)]
      · unfold mTp
        rw [if_neg (fun h => by have := (hrng i (by omega)).mpr h.1; omega)]
  · by_cases e : zlen q = r
    · have h9 := path_q n (by omega) c (by omega) q hq hn.1 hc (mHas_iff.mp hH).1 (by omega)
      have h10 := (hrng (zpre q) (by omega)).mpr (by omega)
      omega
    · omega
end zOralC
