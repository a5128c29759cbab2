-- NEARER of the model
def mFrN (a j : Nat) : Prop := (a = 300 ∧ j = 16) ∨ (360 ≤ a ∧ a ≤ 362)
abbrev kN (M M' : zM) : Prop := zKf mFrN M M'
theorem kN.ln {M M1 : zM} (h : kN M M1) {mn : Nat → Option Nat} (e : mLn 0 M mn) : mLn 0 M1 mn := fun s hs => ⟨(h.1 _ _ (by unfold mFrN; omega)).trans (e s hs).1, (e s hs).2⟩
/-- the values of the lies in slot q are words of VALUES -/
def mlV (M : zM) : Prop := ∀ s i, s < 7 → i < 13 → okV (M.1 (mLc s i) 4) ∧ okV (M.1 (mLc s i) 5)
theorem kN.lv {M M1 : zM} (h : kN M M1) (e : mlV M) : mlV M1 := fun s i hs hi => by
  have hq : 3100 ≤ mLc s i := by unfold mLc; omega
  rw [h.1 _ _ (by unfold mFrN; omega), h.1 _ _ (by unfold mFrN; omega)]
  exact e s i hs hi
theorem mSayF_ok {M : zM} {s r x : Nat} {o tr v : Int32} {P : Int32 → Prop} (hv : ∀ i, i < 13 → P (M.1 (mLc s i) 4) ∧ P (M.1 (mLc s i) 5)) (ht : P tr) : ∀ j i, i + j ≤ 12 → mSayF M s r x o tr j i = some (some v) → P v
  | 0, i, _, h => by
    cases h
    exact ht
  | j + 1, i, hi, h => by
    unfold mSayF at h
    split at h
    · unfold mAct at h
      split at h
      · cases h
      · split at h
        · cases h
        · split at h
          · cases h
            split
            · exact (hv i (by omega)).2
            · exact (hv i (by omega)).1
          · cases h; exact ht
    · exact mSayF_ok hv ht j (i + 1) (by omega) h
theorem mSay_fb {M : zM} {mn : Nat → Option Nat} {s r x : Nat} {o tr v : Int32} (hl : mlV M) (hmn : mLn 0 M mn) (hs : s < 7) (ht : fb 1 tr.toUInt32) (h : mSay M mn s r x o tr = some (some v)) : fb 1 v.toUInt32 := by
  refine mSayF_ok (P := fun v => fb 1 v.toUInt32) (fun i hi => ⟨okV_fb (hl s i hs hi).1, okV_fb (hl s i hs hi).2⟩) ht ((mn s).getD 0) 0 ?_ h
  have h2 := (hmn s hs).2
  cases e : mn s with
  | none => exact Nat.zero_le _
  | some k => have := h2 k e; show 0 + k ≤ 12; omega
def mNw (mn : Nat → Option Nat) (m s : Nat) (M : zM) : Int32 := if s = m then M.1 360 m else zval (mSay M mn s 1 m (nI s) (M.1 360 s)) (M.1 360 m)
def mNm (mn : Nat → Option Nat) (m s : Nat) (M : zM) : zM := if s = m then M else mSb (mSay M mn s 1 m (nI s) (M.1 360 s)) (M.1 360 s) M
def mNa1 (mn : Nat → Option Nat) (m s : Nat) (M : zM) : zM := zw (mNm mn m s M) (300 + 1 + 61) s (mNw mn m s M)
def mNa (mn : Nat → Option Nat) (m k : Nat) (M : zM) : zM := zfor (mNa1 mn m) k M
def mSrt1 (i : Nat) (M : zM) : zM := nIns 362 (M.1 362 (i + 1)) (i + 1) M
def mSrt (k : Nat) (M : zM) : zM := zfor mSrt1 k M
def mNs9 (n : Nat) (mn : Nat → Option Nat) (m : Nat) (M : zM) : zM := mSrt (n - 1) (mNa mn m n M)
def mNS (M : zM) (j : Nat) : UInt32 := (M.1 362 j).toUInt32
def mNv (n t md : Nat) (mn : Nat → Option Nat) (m : Nat) (M : zM) : UInt32 := if n ≤ 2 * t then (M.1 360 m).toUInt32 else nMvR (mNS (mNs9 n mn m M)) t (n - 2 * t) md
def mNoK1 (n t md : Nat) (mn : Nat → Option Nat) (m : Nat) (M : zM) : zM := if mLiar M m then zw M (300 + 1 + 60) m (M.1 360 m) else zw (mNs9 n mn m M) (300 + 1 + 60) m (mNv n t md mn m M).toInt32
def mNoK (n t md : Nat) (mn : Nat → Option Nat) (k : Nat) (M : zM) : zM := zfor (mNoK1 n t md mn) k M
def mNc (k : Nat) (M : zM) : zM := zfor (fun m M => zw M (300 + 1 + 59) m (M.1 (300 + 1 + 60) m)) k M
def mNst (n t md : Nat) (mn : Nat → Option Nat) (M : zM) : zM := mNc n (mNoK n t md mn n M)
def mNb (k : Nat) (M : zM) : zM := zfor (fun m M => zw M (300 + 1 + 59) m (M.1 (300 + 1 + 12) m)) k M
def mNg (n t md : Nat) (mn : Nat → Option Nat) (k : Nat) (M : zM) : zM := zfor (fun _ M => mNst n t md mn M) k (mNb n M)
theorem mNm_N (mn : Nat → Option Nat) (m s : Nat) (M : zM) : kN M (mNm mn m s M) := by
  unfold mNm
  split
  · exact zKf.rf
  · exact zKf.rf.w (by unfold mFrN; omega)
theorem mNm_c (mn : Nat → Option Nat) (m s : Nat) (M : zM) {a j : Nat} (h : a ≠ 300) : (mNm mn m s M).1 a j = M.1 a j := by
  unfold mNm
  split
  · rfl
  · exact zw_ne (by omega)
theorem mNa1_N (mn : Nat → Option Nat) (m s : Nat) (M : zM) : kN M (mNa1 mn m s M) := (mNm_N mn m s M).w (by unfold mFrN; omega)
theorem mNa_N (mn : Nat → Option Nat) (m k : Nat) (M : zM) : kN M (mNa mn m k M) := zKf.for k M (fun i M _ => mNa1_N mn m i M)
theorem nIns_N {x : Int32} : ∀ (i : Nat) (M : zM), kN M (nIns 362 x i M)
  | 0, M => zKf.rf.w (by unfold mFrN; omega)
  | i + 1, M => by
    unfold nIns
    split
    · exact (zKf.rf.w (by unfold mFrN; omega)).tr (nIns_N i _)
    · exact zKf.rf.w (by unfold mFrN; omega)
theorem mSrt_N (k : Nat) (M : zM) : kN M (mSrt k M) := zKf.for k M (fun i M _ => nIns_N _ M)
theorem mNs9_N (n : Nat) (mn : Nat → Option Nat) (m : Nat) (M : zM) : kN M (mNs9 n mn m M) := (mNa_N mn m n M).tr (mSrt_N _ _)
theorem mNoK1_N (n t md : Nat) (mn : Nat → Option Nat) (m : Nat) (M : zM) : kN M (mNoK1 n t md mn m M) := by
  unfold mNoK1
  split
  · exact zKf.rf.w (by unfold mFrN; omega)
  · exact (mNs9_N n mn m M).w (by unfold mFrN; omega)
theorem mNoK_N (n t md : Nat) (mn : Nat → Option Nat) (k : Nat) (M : zM) : kN M (mNoK n t md mn k M) := zKf.for k M (fun i M _ => mNoK1_N n t md mn i M)
theorem mNc_N (k : Nat) (M : zM) : kN M (mNc k M) := zKf.for k M (fun i M _ => zKf.rf.w (by unfold mFrN; omega))
theorem mNst_N (n t md : Nat) (mn : Nat → Option Nat) (M : zM) : kN M (mNst n t md mn M) := (mNoK_N n t md mn n M).tr (mNc_N n _)
theorem mNb_N (k : Nat) (M : zM) : kN M (mNb k M) := zKf.for k M (fun i M _ => zKf.rf.w (by unfold mFrN; omega))
/-- what each has, is a number of no great size -/
def mHb (n : Nat) (M : zM) : Prop := ∀ m, m < n → fb 1 (M.1 360 m).toUInt32
theorem mNa_h (mn : Nat → Option Nat) (m j : Nat) (M : zM) : ∀ k, (mNa mn m k M).1 360 j = M.1 360 j
  | 0 => rfl
  | k + 1 => by
    show (zw (mNm mn m k (mNa mn m k M)) 362 k _).1 360 j = _
    rw [zw_ne (by omega), mNm_c _ _ _ _ (by omega)]
    exact mNa_h mn m j M k
theorem mSrt_h (a j : Nat) (ha : a ≠ 362) (M : zM) : ∀ k, (mSrt k M).1 a j = M.1 a j
  | 0 => rfl
  | k + 1 => by
    show (nIns 362 _ _ (mSrt k M)).1 a j = _
    rw [nIns_o ha]
    exact mSrt_h a j ha M k
theorem mNs9_h (n : Nat) (mn : Nat → Option Nat) (m j : Nat) (M : zM) : (mNs9 n mn m M).1 360 j = M.1 360 j := (mSrt_h 360 j (by decide) _ _).trans (mNa_h mn m j M n)
theorem mNw_fb {n m s : Nat} {mn : Nat → Option Nat} {M : zM} (hh : mHb n M) (hl : mlV M) (hmn : mLn 0 M mn) (hm : m < n) (hs : s < n) (hn : n ≤ 7) : fb 1 (mNw mn m s M).toUInt32 := by
  unfold mNw
  split
  · exact hh m hm
  · unfold zval
    split
    · rename_i v hv
      exact mSay_fb hl hmn (by omega) (hh s hs) hv
    · exact hh m hm
theorem mHb_of {n : Nat} {M M' : zM} (h : mHb n M) (e : ∀ j, M'.1 360 j = M.1 360 j) : mHb n M' := fun m hm => by rw [e m]; exact h m hm
theorem mNa_fb {n m : Nat} {mn : Nat → Option Nat} {M : zM} (hh : mHb n M) (hl : mlV M) (hmn : mLn 0 M mn) (hm : m < n) (hn : n ≤ 7) : ∀ k, k ≤ n → ∀ j, j < k → fb 1 ((mNa mn m k M).1 362 j).toUInt32
  | 0, _, j, hj => absurd hj (Nat.not_lt_zero j)
  | k + 1, hk, j, hj => by
    show fb 1 ((zw (mNm mn m k (mNa mn m k M)) 362 k (mNw mn m k (mNa mn m k M))).1 362 j).toUInt32
    rw [zw_at]
    by_cases e : j = k
    · rw [if_pos ⟨rfl, e⟩]
      exact mNw_fb (mHb_of hh (fun j => mNa_h mn m j M k)) (kN.lv (mNa_N mn m k M) hl) (kN.ln (mNa_N mn m k M) hmn) hm (by omega) hn
    · rw [if_neg (fun q => e q.2), mNm_c _ _ _ _ (by omega)]
      exact mNa_fb hh hl hmn hm hn k (by omega) j (by omega)
theorem mSrt_fb {n : Nat} {M : zM} (h : ∀ j, j < n → fb 1 (M.1 362 j).toUInt32) : ∀ k, k + 1 ≤ n → ∀ j, j < n → fb 1 ((mSrt k M).1 362 j).toUInt32
  | 0, _, j, hj => h j hj
  | k + 1, hk, j, hj => by
    have ih := mSrt_fb h k (by omega)
    show fb 1 ((nIns 362 ((mSrt k M).1 362 (k + 1)) (k + 1) (mSrt k M)).1 362 j).toUInt32
    exact nIns_fb (ih (k + 1) (by omega)) (k + 1) (mSrt k M) (n - 1) (by omega) (fun a ha _ => ih a (by omega)) j (by omega)
theorem mNs9_fb {n m : Nat} {mn : Nat → Option Nat} {M : zM} (hh : mHb n M) (hl : mlV M) (hmn : mLn 0 M mn) (hm : m < n) (hn : n ≤ 7) : ∀ j, j < n → fb 1 (mNS (mNs9 n mn m M) j) := fun j hj => mSrt_fb (fun j hj => mNa_fb hh hl hmn hm hn n (Nat.le_refl n) j hj) (n - 1) (by omega) j hj
theorem mNv_fb {n t md m : Nat} {mn : Nat → Option Nat} {M : zM} (hh : mHb n M) (hl : mlV M) (hmn : mLn 0 M mn) (hm : m < n) (hn : n ≤ 7) : fb 1 (mNv n t md mn m M) := by
  unfold mNv
  split
  · exact hh m hm
  · exact nMvR_fb (by omega) (by omega) (fun a ha => mNs9_fb hh hl hmn hm hn a (by omega))
theorem mNoK_h (n t md : Nat) (mn : Nat → Option Nat) (j : Nat) (M : zM) : ∀ k, (mNoK n t md mn k M).1 360 j = M.1 360 j
  | 0 => rfl
  | k + 1 => by
    show (mNoK1 n t md mn k (mNoK n t md mn k M)).1 360 j = _
    unfold mNoK1
    split
    · rw [zw_ne (by omega)]; exact mNoK_h n t md mn j M k
    · rw [zw_ne (by omega), mNs9_h]; exact mNoK_h n t md mn j M k
theorem mNoK_fb {n t md : Nat} {mn : Nat → Option Nat} {M : zM} (hh : mHb n M) (hl : mlV M) (hmn : mLn 0 M mn) (hn : n ≤ 7) : ∀ k, k ≤ n → ∀ j, j < k → fb 1 ((mNoK n t md mn k M).1 361 j).toUInt32
  | 0, _, j, hj => absurd hj (Nat.not_lt_zero j)
  | k + 1, hk, j, hj => by
    have hK := mNoK_N n t md mn k M
    have h1 : mHb n (mNoK n t md mn k M) := mHb_of hh (fun j => mNoK_h n t md mn j M k)
    show fb 1 ((mNoK1 n t md mn k (mNoK n t md mn k M)).1 361 j).toUInt32
    unfold mNoK1
    split
    · rw [zw_at]
      by_cases e : j = k
      · rw [if_pos ⟨rfl, e⟩]; exact h1 k (by omega)
      · rw [if_neg (fun q => e q.2)]; exact mNoK_fb hh hl hmn hn k (by omega) j (by omega)
    · rw [zw_at]
      by_cases e : j = k
      · rw [if_pos ⟨rfl, e⟩, UInt32.toUInt32_toInt32]; exact mNv_fb h1 (kN.lv hK hl) (kN.ln hK hmn) (by omega) hn
      · rw [if_neg (fun q => e q.2)]
        have e9 : (mNs9 n mn k (mNoK n t md mn k M)).1 361 j = (mNoK n t md mn k M).1 361 j := by
          refine (mSrt_h 361 j (by decide) _ _).trans ?_
          have hz : ∀ q, (mNa mn k q (mNoK n t md mn k M)).1 361 j = (mNoK n t md mn k M).1 361 j := fun q => by
            induction q with
            | zero => rfl
            | succ q ih =>
              show (zw (mNm mn k q (mNa mn k q _)) 362 q _).1 361 j = _
              rw [zw_ne (by omega), mNm_c _ _ _ _ (by omega)]
              exact ih
          exact hz n
        rw [e9]
        exact mNoK_fb hh hl hmn hn k (by omega) j (by omega)
theorem mNc_at (M : zM) (j : Nat) : ∀ k, (mNc k M).1 360 j = if j < k then M.1 361 j else M.1 360 j
  | 0 => (if_neg (Nat.not_lt_zero j)).symm
  | k + 1 => by
    have h361 : ∀ q, (mNc q M).1 361 k = M.1 361 k := fun q => by
      induction q with
      | zero => rfl
      | succ q ih => show (zw (mNc q M) 360 q _).1 361 k = _; rw [zw_ne (by omega)]; exact ih
    show (zw (mNc k M) 360 k ((mNc k M).1 361 k)).1 360 j = _
    rw [zw_at, h361]
    by_cases e : j = k
    · rw [if_pos ⟨rfl, e⟩, if_pos (by omega), e]
    · rw [if_neg (fun q => e q.2), mNc_at M j k]
      by_cases h : j < k
      · rw [if_pos h, if_pos (by omega)]
      · rw [if_neg h, if_neg (by omega)]
theorem mNst_hb {n t md : Nat} {mn : Nat → Option Nat} {M : zM} (hh : mHb n M) (hl : mlV M) (hmn : mLn 0 M mn) (hn : n ≤ 7) : mHb n (mNst n t md mn M) := fun m hm => by
  show fb 1 ((mNc n (mNoK n t md mn n M)).1 360 m).toUInt32
  rw [mNc_at, if_pos hm]
  exact mNoK_fb hh hl hmn hn n (Nat.le_refl n) m hm
theorem mNb_at (M : zM) (j : Nat) : ∀ k, (mNb k M).1 360 j = if j < k then M.1 313 j else M.1 360 j
  | 0 => (if_neg (Nat.not_lt_zero j)).symm
  | k + 1 => by
    have h313 : ∀ q, (mNb q M).1 313 k = M.1 313 k := fun q => by
      induction q with
      | zero => rfl
      | succ q ih => show (zw (mNb q M) 360 q _).1 313 k = _; rw [zw_ne (by omega)]; exact ih
    show (zw (mNb k M) 360 k ((mNb k M).1 313 k)).1 360 j = _
    rw [zw_at, h313]
    by_cases e : j = k
    · rw [if_pos ⟨rfl, e⟩, if_pos (by omega), e]
    · rw [if_neg (fun q => e q.2), mNb_at M j k]
      by_cases h : j < k
      · rw [if_pos h, if_pos (by omega)]
      · rw [if_neg h, if_neg (by omega)]
theorem mNb_hb {n : Nat} {M : zM} (hv : ∀ m, m < 7 → okV (M.1 313 m)) (hn : n ≤ 7) : mHb n (mNb n M) := fun m hm => by
  rw [mNb_at, if_pos hm]
  exact okV_fb (hv m (by omega))
theorem mNg_iv {n t md : Nat} {mn : Nat → Option Nat} {M : zM} (hv : ∀ m, m < 7 → okV (M.1 313 m)) (hl : mlV M) (hmn : mLn 0 M mn) (hn : n ≤ 7) : ∀ k, kN M (mNg n t md mn k M) ∧ mHb n (mNg n t md mn k M)
  | 0 => ⟨mNb_N n M, mNb_hb hv hn⟩
  | k + 1 => by
    obtain ⟨h1, h2⟩ := mNg_iv (t := t) (md := md) hv hl hmn hn k
    exact ⟨h1.tr (mNst_N n t md mn _), mNst_hb (t := t) (md := md) h2 (kN.lv h1 hl) (kN.ln h1 hmn) hn⟩
set_option maxHeartbeats 1000000 in
theorem zc_sorts (l : Launch) (G : zG) (M : zM) (n : Nat) (hn : M.1 300 9 = nI n) (hn7 : n ≤ 7) (h0 : 1 ≤ n) : zC l G 0 yX11_sorts cX11_sorts 4 (Option.none : Option Jvm.ClassFile.FieldType) [.ref (300 : Nat)] M (zP none (mSrt (n - 1) M)) := by
  refine zC_of (by decide) (Nat.le_of_ble_eq_true rfl) (fun X Q hQ hX hl hR hr => ?_)
  refine zV_loc (L' := [.ref (300 : Nat), .null, .null, .null]) rfl ?_
  have L2 : ∀ (f9 i : Nat) (v2 v3 : Value), n - i < f9 → 1 ≤ i → i ≤ n → zV G X Q 4 0 0 2 [.ref (300 : Nat), .int (nI i), v2, v3] [] (mSrt (i - 1) M) := by
    intro f9
    induction f9 with
    | zero => intro i v2 v3 hi9 hi1 hi2; exact absurd hi9 (Nat.not_lt_zero _)
    | succ f9 ih =>
      intro i v2 v3 hi9 hi1 hi2
      have J63 : i < n → 1 ≤ i → ∀ v2 v3 : Value, zV G X Q 4 0 0 63 [.ref (300 : Nat), .int (nI i), v2, v3] [] (mSrt i M) := by
        intro c_7 hi1 v2 v3
        refine zV_iincN hX (b := 1) dX11_sorts_63 rfl (by decide) ?_
        dsimp only [zst1, zst2, zclr, zc2]
        refine zV_goto hX (tgt := 2) dX11_sorts_66 (by decide) ?_
        have h9 := ih (i + 1) v2 v3 (by omega) (by omega) (by omega)
        rw [show i + 1 - 1 = i by omega] at h9
        exact h9
      have L19 : i < n → 1 ≤ i → ∀ (f9 k : Nat) (M9 : zM), k < f9 → k ≤ i → nIns 362 ((mSrt (i - 1) M).1 362 i) k M9 = nIns 362 ((mSrt (i - 1) M).1 362 i) i (mSrt (i - 1) M) → zV G X Q 4 0 0 19 [.ref (300 : Nat), .int (nI i), .float ((mSrt (i - 1) M).1 362 i).toUInt32, .int (nI k)] [] M9 := by
        intro c_7 hi1
        intro f9
        induction f9 with
        | zero => intro k M9 hk1 hk2 he; exact absurd hk1 (Nat.not_lt_zero _)
        | succ f9 ih2 =>
          intro k M9 hk1 hk2 he
          refine zV_iload_n hX dX11_sorts_19 rfl ?_
          refine zV_if_leN hX (tgt := 56) dX11_sorts_20 (by decide) (by omega) (fun c_20 => ?_) (fun c_20 => ?_)
          · have e8 : nIns 362 ((mSrt (i - 1) M).1 362 i) k M9 = zw M9 362 k ((mSrt (i - 1) M).1 362 i) := by rw [show k = 0 by omega]; rfl
            refine zV_aload_n hX dX11_sorts_56 rfl ?_
            refine zV_geta hX dX11_sorts_57 zf_X11_136 zo300.1 rfl ?_
            refine zV_iload_n hX dX11_sorts_60 rfl ?_
            refine zV_fload_n hX dX11_sorts_61 rfl ?_
            refine zV_fast hX dX11_sorts_62 (zo300.a 61 rfl) (rfl) ⟨by omega, by omega⟩ ?_
            refine zV_mem (show _ = mSrt i M by rw [show i = (i - 1) + 1 by omega]; show _ = nIns 362 ((mSrt (i - 1) M).1 362 (i - 1 + 1)) (i - 1 + 1) (mSrt (i - 1) M); rw [show i - 1 + 1 = i by omega, ← he, e8]; simp) (J63 c_7 hi1 _ _)
          · refine zV_aload_n hX dX11_sorts_23 rfl ?_
            refine zV_geta hX dX11_sorts_24 zf_X11_136 zo300.1 rfl ?_
            refine zV_iload_n hX dX11_sorts_27 rfl ?_
            refine zV_iconst hX (v := nI 1) dX11_sorts_28 (by decide) ?_
            refine zV_isubN hX dX11_sorts_29 (by omega) ?_
            refine zV_fald hX dX11_sorts_30 (zo300.a 61 rfl) (rfl) ⟨by omega, by omega⟩ (rfl) ?_
            refine zV_fload_n hX dX11_sorts_31 rfl ?_
            refine zV_fcmp hX dX11_sorts_32 ?_
            refine zV_if_le hX (tgt := 56) dX11_sorts_33 (by decide) (fun c_33 => ?_) (fun c_33 => ?_)
            · have e8 : nIns 362 ((mSrt (i - 1) M).1 362 i) k M9 = zw M9 362 k ((mSrt (i - 1) M).1 362 i) := by obtain ⟨b, rfl⟩ : ∃ b, k = b + 1 := ⟨k - 1, by omega⟩; unfold nIns; exact if_neg (fun q => absurd c_33 (of_decide_eq_true q))
              refine zV_aload_n hX dX11_sorts_56 rfl ?_
              refine zV_geta hX dX11_sorts_57 zf_X11_136 zo300.1 rfl ?_
              refine zV_iload_n hX dX11_sorts_60 rfl ?_
              refine zV_fload_n hX dX11_sorts_61 rfl ?_
              refine zV_fast hX dX11_sorts_62 (zo300.a 61 rfl) (rfl) ⟨by omega, by omega⟩ ?_
              refine zV_mem (show _ = mSrt i M by rw [show i = (i - 1) + 1 by omega]; show _ = nIns 362 ((mSrt (i - 1) M).1 362 (i - 1 + 1)) (i - 1 + 1) (mSrt (i - 1) M); rw [show i - 1 + 1 = i by omega, ← he, e8]; simp) (J63 c_7 hi1 _ _)
            · have e8 : nIns 362 ((mSrt (i - 1) M).1 362 i) k M9 = nIns 362 ((mSrt (i - 1) M).1 362 i) (k - 1) (zw M9 362 k (M9.1 362 (k - 1))) := by obtain ⟨b, rfl⟩ : ∃ b, k = b + 1 := ⟨k - 1, by omega⟩; rw [nIns]; exact if_pos (decide_eq_true c_33)
              refine zV_aload_n hX dX11_sorts_36 rfl ?_
              refine zV_geta hX dX11_sorts_37 zf_X11_136 zo300.1 rfl ?_
              refine zV_iload_n hX dX11_sorts_40 rfl ?_
              refine zV_aload_n hX dX11_sorts_41 rfl ?_
              refine zV_geta hX dX11_sorts_42 zf_X11_136 zo300.1 rfl ?_
              refine zV_iload_n hX dX11_sorts_45 rfl ?_
              refine zV_iconst hX (v := nI 1) dX11_sorts_46 (by decide) ?_
              refine zV_isubN hX dX11_sorts_47 (by omega) ?_
              refine zV_fald hX dX11_sorts_48 (zo300.a 61 rfl) (rfl) ⟨by omega, by omega⟩ (rfl) ?_
              refine zV_fast hX dX11_sorts_49 (zo300.a 61 rfl) (rfl) ⟨by omega, by omega⟩ ?_
              refine zV_iinc hX dX11_sorts_50 rfl (nI_dc (by omega)) (by decide) ?_
              dsimp only [zst1, zst2, zclr, zc2]
              refine zV_goto hX (tgt := 19) dX11_sorts_53 (by decide) ?_
              exact ih2 (k - 1) _ (by omega) (by omega) (e8.symm.trans he)
      refine zV_iload_n hX dX11_sorts_2 rfl ?_
      refine zV_aload_n hX dX11_sorts_3 rfl ?_
      refine zV_geti hX dX11_sorts_4 zf_X11_20 zo300.1 rfl ((mSrt_N (i - 1) M).at hn (by unfold mFrN; omega)) ?_
      refine zV_icmp_geN hX (tgt := 69) dX11_sorts_7 (by decide) ⟨by omega, by omega⟩ (fun c_7 => ?_) (fun c_7 => ?_)
      · exact zV_retv hX hQ hr (⟨rfl, by rw [show i - 1 = n - 1 by omega]⟩) dX11_sorts_69
      · refine zV_aload_n hX dX11_sorts_10 rfl ?_
        refine zV_geta hX dX11_sorts_11 zf_X11_136 zo300.1 rfl ?_
        refine zV_iload_n hX dX11_sorts_14 rfl ?_
        refine zV_fald hX dX11_sorts_15 (zo300.a 61 rfl) (rfl) ⟨by omega, by omega⟩ (rfl) ?_
        refine zV_fstore_n hX dX11_sorts_16 (by decide) ?_
        dsimp only [zst1, zst2, zclr, zc2]
        refine zV_iload_n hX dX11_sorts_17 rfl ?_
        refine zV_istore_n hX dX11_sorts_18 (by decide) ?_
        dsimp only [zst1, zst2, zclr, zc2]
        exact L19 c_7 hi1 (i + 1) i _ (by omega) (by omega) rfl
  refine zV_iconst hX (v := nI 1) dX11_sorts_0 (by decide) ?_
  refine zV_istore_n hX dX11_sorts_1 (by decide) ?_
  dsimp only [zst1, zst2, zclr, zc2]
  exact L2 (n + 1) 1 _ _ (by omega) (by omega) (by omega)
theorem nge1 {n t : Nat} (hn : n ≤ 7) (ht : t ≤ 2) (h : nI 1 ≤ nI n - nI (2 * t)) : ¬ n ≤ 2 * t := fun q => by
  rcases Nat.lt_or_ge n (2 * t) with h1 | h1
  · have := pk_sneg (a := n) (b := 2 * t) (by omega) h1
    exact absurd (Int32.lt_of_lt_of_le this (Int32.le_of_lt (show (0 : Int32) < nI 1 by decide))) (Int32.not_lt.mpr h)
  · rw [pk_sub h1] at h
    have := (nI_leI (a := 1) (by decide) (by omega)).mp h
    omega
theorem nlt1 {n t : Nat} (hn : n ≤ 7) (ht : t ≤ 2) (h : ¬ nI 1 ≤ nI n - nI (2 * t)) : n ≤ 2 * t := by
  apply Classical.byContradiction
  intro q
  rw [pk_sub (by omega)] at h
  exact h ((nI_leI (a := 1) (by decide) (by omega)).mpr (by omega))
set_option maxHeartbeats 1000000 in
theorem zc_stepOf (l : Launch) (G : zG) (M : zM) (n t md m : Nat) (mn : Nat → Option Nat) (hn : M.1 300 9 = nI n) (hn7 : n ≤ 7) (ht : M.1 300 10 = nI t) (ht2 : t ≤ 2) (hm : m < n) (hmd2 : md < 2) (hmn : mLn 0 M mn) (hlv : mlV M) (hH9 : mHb n M) : zC l G 2 yX11_stepOf cX11_stepOf 6 (Option.some Jvm.ClassFile.FieldType.float) [.ref (300 : Nat), .int (nI m), .int (nI md)] M (zP (some (.float (mNv n t md mn m M))) (mNs9 n mn m M)) := by
  refine zC_of (by decide) (Nat.le_of_ble_eq_true rfl) (fun X Q hQ hX hl hR hr => ?_)
  refine zV_loc (L' := [.ref (300 : Nat), .int (nI m), .int (nI md), .null, .null, .null]) rfl ?_
  have hm7 : m < 7 := by omega
  have L153 : ¬ md = 1 → ∀ (left : Nat), n = 2 * t + left → 1 ≤ left → mNv n t md mn m M = nMvR (mNS (mNs9 n mn m M)) t left md → kN M (mNs9 n mn m M) → (∀ j, j < n → fb 1 ((mNS (mNs9 n mn m M)) j)) → ∀ (f9 j : Nat), left - j < f9 → j ≤ left - 1 → zV G X Q 6 0 0 153 [.ref (300 : Nat), .int (nI m), .int (nI md), .int (nI n - nI (2 * t)), .float (nSum (mNS (mNs9 n mn m M)) t j), .int (nI (t + 1 + j))] [] (mNs9 n mn m M) := by
    intro hmd left hleft hl1 e9 hS9 hS
    intro f9
    induction f9 with
    | zero => intro j hj1 hj2; exact absurd hj1 (Nat.not_lt_zero _)
    | succ f9 ih =>
      intro j hj1 hj2
      refine zV_iload hX dX11_stepOf_153 rfl ?_
      refine zV_aload_n hX dX11_stepOf_155 rfl ?_
      refine zV_geti hX dX11_stepOf_156 zf_X11_20 zo300.1 rfl (hS9.at hn (by unfold mFrN; omega)) ?_
      refine zV_aload_n hX dX11_stepOf_159 rfl ?_
      refine zV_geti hX dX11_stepOf_160 zf_X11_23 zo300.1 rfl (hS9.at ht (by unfold mFrN; omega)) ?_
      refine zV_isubN hX dX11_stepOf_163 (by omega) ?_
      refine zV_icmp_geN hX (tgt := 185) dX11_stepOf_164 (by decide) ⟨by omega, by omega⟩ (fun c_164 => ?_) (fun c_164 => ?_)
      · have hjl : j = left - 1 := by omega
        refine zV_fload hX dX11_stepOf_185 rfl ?_
        refine zV_iload_n hX dX11_stepOf_187 rfl ?_
        refine zV_topi (nI left) (by rw [hleft]; rw [pk_sub (by omega)]; congr 1; omega) ?_
        have hdv := nSum_fb (S := (mNS (mNs9 n mn m M))) (t := t) (left - 1) (by omega) (fun a ha => hS a (by omega))
        rw [show left - 1 + 1 = left by omega] at hdv
        refine zV_i2f hX dX11_stepOf_188 ?_
        refine zV_fdiv hX dX11_stepOf_189 (fb_n (fb_div (k := left) (by rw [hjl]; exact hdv) (sq_i2f (by omega)) (by omega))) ?_
        exact zV_retf hX hQ hr (⟨congrArg (fun z => some (Value.float z)) (by rw [e9, hjl]; unfold nMvR; rw [if_neg hmd]), rfl⟩) dX11_stepOf_190
      · refine zV_fload hX dX11_stepOf_167 rfl ?_
        refine zV_aload_n hX dX11_stepOf_169 rfl ?_
        refine zV_geta hX dX11_stepOf_170 zf_X11_136 zo300.1 rfl ?_
        refine zV_iload hX dX11_stepOf_173 rfl ?_
        refine zV_fald hX (v := (mNS (mNs9 n mn m M)) (t + 1 + j)) dX11_stepOf_175 (zo300.a 61 rfl) (rfl) ⟨by omega, by omega⟩ (rfl) ?_
        refine zV_fadd hX dX11_stepOf_176 (fb_n (fb_add (nSum_fb j (by omega) (fun a ha => hS a (by omega))) (hS (t + 1 + j) (by omega)) (by omega))) ?_
        refine zV_fstore hX dX11_stepOf_177 (by decide) ?_
        dsimp only [zst1, zst2, zclr, zc2]
        refine zV_iincN hX (b := 1) dX11_stepOf_179 rfl (by decide) ?_
        dsimp only [zst1, zst2, zclr, zc2]
        refine zV_goto hX (tgt := 153) dX11_stepOf_182 (by decide) ?_
        exact ih (j + 1) (by omega) (by omega)
  have J72 : ∀ v3 v4 v5 : Value, zV G X Q 6 0 0 72 [.ref (300 : Nat), .int (nI m), .int (nI md), v3, v4, v5] [] (mNa mn m n M) := by
    intro v3 v4 v5
    refine zV_aload_n hX dX11_stepOf_72 rfl ?_
    refine zV_cV0p hX hR hl dX11_stepOf_73 (zc_sorts l G (mNa mn m n M) n ((mNa_N mn m n M).at hn (by unfold mFrN; omega)) hn7 (by omega)) zt_X11_sorts rfl zml_X11_488 zo300.1 ⟨by decide, by decide⟩ (Nat.le_of_ble_eq_true rfl) ?_
    dsimp only [Option.toList, List.cons_append, List.nil_append]
    refine zV_mem (show _ = (mNs9 n mn m M) from rfl) ?_
    have hS9 := mNs9_N n mn m M
    have hS : ∀ j, j < n → fb 1 (mNS (mNs9 n mn m M) j) := mNs9_fb hH9 hlv hmn hm hn7
    refine zV_aload_n hX dX11_stepOf_76 rfl ?_
    refine zV_geti hX dX11_stepOf_77 zf_X11_20 zo300.1 rfl (hS9.at hn (by unfold mFrN; omega)) ?_
    refine zV_iconst hX (v := nI 2) dX11_stepOf_80 (by decide) ?_
    refine zV_aload_n hX dX11_stepOf_81 rfl ?_
    refine zV_geti hX dX11_stepOf_82 zf_X11_23 zo300.1 rfl (hS9.at ht (by unfold mFrN; omega)) ?_
    refine zV_imulN hX dX11_stepOf_85 ?_
    refine zV_isub hX dX11_stepOf_86 ?_
    refine zV_istore_n hX dX11_stepOf_87 (by decide) ?_
    dsimp only [zst1, zst2, zclr, zc2]
    refine zV_iload_n hX dX11_stepOf_88 rfl ?_
    refine zV_iconst hX (v := nI 1) dX11_stepOf_89 (by decide) ?_
    refine zV_icmp_ge hX (tgt := 100) dX11_stepOf_90 (by decide) (fun c_90 => ?_) (fun c_90 => ?_)
    · have hgt : ¬ n ≤ 2 * t := nge1 (by omega) (by omega) c_90
      obtain ⟨left, hleft⟩ : ∃ left, n = 2 * t + left := ⟨n - 2 * t, by omega⟩
      have e9 : mNv n t md mn m M = nMvR (mNS (mNs9 n mn m M)) t left md := by unfold mNv; rw [if_neg hgt, show n - 2 * t = left by omega]
      refine zV_iload_n hX dX11_stepOf_100 rfl ?_
      refine zV_iconst hX (v := nI 1) dX11_stepOf_101 (by decide) ?_
      refine zV_icmp_neN hX (tgt := 134) dX11_stepOf_102 (by decide) ⟨by omega, by omega⟩ (fun c_102 => ?_) (fun c_102 => ?_)
      · have hmd : ¬ md = 1 := c_102
        refine zV_aload_n hX dX11_stepOf_134 rfl ?_
        refine zV_geta hX dX11_stepOf_135 zf_X11_136 zo300.1 rfl ?_
        refine zV_aload_n hX dX11_stepOf_138 rfl ?_
        refine zV_geti hX dX11_stepOf_139 zf_X11_23 zo300.1 rfl (hS9.at ht (by unfold mFrN; omega)) ?_
        refine zV_fald hX (v := (mNS (mNs9 n mn m M)) t) dX11_stepOf_142 (zo300.a 61 rfl) (rfl) ⟨by omega, by omega⟩ (rfl) ?_
        refine zV_fstore hX dX11_stepOf_143 (by decide) ?_
        dsimp only [zst1, zst2, zclr, zc2]
        refine zV_aload_n hX dX11_stepOf_145 rfl ?_
        refine zV_geti hX dX11_stepOf_146 zf_X11_23 zo300.1 rfl (hS9.at ht (by unfold mFrN; omega)) ?_
        refine zV_iconst hX (v := nI 1) dX11_stepOf_149 (by decide) ?_
        refine zV_iaddN hX dX11_stepOf_150 ?_
        refine zV_istore hX dX11_stepOf_151 (by decide) ?_
        dsimp only [zst1, zst2, zclr, zc2]
        exact L153 hmd left hleft (by omega) e9 hS9 hS (left + 1) 0 (by omega) (by omega)
      · refine zV_aload_n hX dX11_stepOf_105 rfl ?_
        refine zV_geta hX dX11_stepOf_106 zf_X11_136 zo300.1 rfl ?_
        refine zV_aload_n hX dX11_stepOf_109 rfl ?_
        refine zV_geti hX dX11_stepOf_110 zf_X11_23 zo300.1 rfl (hS9.at ht (by unfold mFrN; omega)) ?_
        refine zV_fald hX (v := (mNS (mNs9 n mn m M)) t) dX11_stepOf_113 (zo300.a 61 rfl) (rfl) ⟨by omega, by omega⟩ (rfl) ?_
        refine zV_aload_n hX dX11_stepOf_114 rfl ?_
        refine zV_geta hX dX11_stepOf_115 zf_X11_136 zo300.1 rfl ?_
        refine zV_aload_n hX dX11_stepOf_118 rfl ?_
        refine zV_geti hX dX11_stepOf_119 zf_X11_20 zo300.1 rfl (hS9.at hn (by unfold mFrN; omega)) ?_
        refine zV_iconst hX (v := nI 1) dX11_stepOf_122 (by decide) ?_
        refine zV_isubN hX dX11_stepOf_123 (by omega) ?_
        refine zV_aload_n hX dX11_stepOf_124 rfl ?_
        refine zV_geti hX dX11_stepOf_125 zf_X11_23 zo300.1 rfl (hS9.at ht (by unfold mFrN; omega)) ?_
        refine zV_isubN hX dX11_stepOf_128 (by omega) ?_
        refine zV_fald hX (v := (mNS (mNs9 n mn m M)) (t + left - 1)) dX11_stepOf_129 (zo300.a 61 rfl) (rfl) ⟨by omega, by omega⟩ (by show ((mNs9 n mn m M).1 362 (n - 1 - t)).toUInt32 = ((mNs9 n mn m M).1 362 (t + left - 1)).toUInt32; rw [show n - 1 - t = t + left - 1 by omega]) ?_
        refine zV_fadd hX dX11_stepOf_130 (fb_n (fb_add (hS t (by omega)) (hS (t + left - 1) (by omega)) (by decide))) ?_
        refine zV_fconst2 hX dX11_stepOf_131 ?_
        refine zV_fdiv hX dX11_stepOf_132 (fb_n (fb_half (hS t (by omega)) (hS (t + left - 1) (by omega)))) ?_
        exact zV_retf hX hQ hr (⟨congrArg (fun z => some (Value.float z)) (by rw [e9]; unfold nMvR; rw [if_pos c_102]), rfl⟩) dX11_stepOf_133
    · have hle : n ≤ 2 * t := by first | exact nlt1 (by omega) (by omega) c_90
      have e9 : mNv n t md mn m M = (M.1 360 m).toUInt32 := if_pos hle
      refine zV_aload_n hX dX11_stepOf_93 rfl ?_
      refine zV_geta hX dX11_stepOf_94 zf_X11_129 zo300.1 rfl ?_
      refine zV_iload_n hX dX11_stepOf_97 rfl ?_
      refine zV_fald hX (v := (M.1 360 m).toUInt32) dX11_stepOf_98 (zo300.a 59 rfl) (rfl) ⟨by omega, by omega⟩ (congrArg Int32.toUInt32 (mNs9_h n mn m m M)) ?_
      exact zV_retf hX hQ hr (⟨by rw [e9], rfl⟩) dX11_stepOf_99
  have L2 : ∀ (f9 s : Nat) (v4 : Value), n - s < f9 → s ≤ n → zV G X Q 6 0 0 2 [.ref (300 : Nat), .int (nI m), .int (nI md), .int (nI s), v4, .null] [] (mNa mn m s M) := by
    intro f9
    induction f9 with
    | zero => intro s v4 hs1 hs2; exact absurd hs1 (Nat.not_lt_zero _)
    | succ f9 ih =>
      intro s v4 hs1 hs2
      have hA := mNa_N mn m s M
      have hH : ∀ j, j < n → fb 1 ((mNa mn m s M).1 360 j).toUInt32 := fun j hj => by rw [mNa_h]; exact hH9 j hj
      have J36 : s < n → ∀ (w : Option (Option Int32)) (v4 : Value), (mNm mn m s (mNa mn m s M)).1 300 16 = (mNm mn m s (mNa mn m s M)).1 300 16 → (mIv w = true → (mNm mn m s (mNa mn m s M)).1 300 16 = mNw mn m s (mNa mn m s M)) → (¬ mIv w = true → (mNa mn m s M).1 360 m = mNw mn m s (mNa mn m s M)) → zV G X Q 6 0 0 36 [.ref (300 : Nat), .int (nI m), .int (nI md), .int (nI s), v4, .null] [.int (nI (mCode w))] (mNm mn m s (mNa mn m s M)) := by
        intro c_7 w v4 hz hw1 hw2
        have hcl := mCode_lt w
        have hfw := mNw_fb (mHb_of hH9 (fun j => mNa_h mn m j M s)) (kN.lv hA hlv) (kN.ln hA hmn) hm c_7 hn7
        refine zV_istore hX dX11_stepOf_36 (by decide) ?_
        dsimp only [zst1, zst2, zclr, zc2]
        refine zV_aload_n hX dX11_stepOf_38 rfl ?_
        refine zV_geta hX dX11_stepOf_39 zf_X11_136 zo300.1 rfl ?_
        refine zV_iload_n hX dX11_stepOf_42 rfl ?_
        refine zV_iload hX dX11_stepOf_43 rfl ?_
        refine zV_iconst hX (v := nI 2) dX11_stepOf_45 (by decide) ?_
        refine zV_icmp_neN hX (tgt := 59) dX11_stepOf_46 (by decide) ⟨by omega, by omega⟩ (fun c_46 => ?_) (fun c_46 => ?_)
        · have q9 := hw2 (fun q => c_46 (mCode_2.mpr q))
          refine zV_aload_n hX dX11_stepOf_59 rfl ?_
          refine zV_geta hX dX11_stepOf_60 zf_X11_129 zo300.1 rfl ?_
          refine zV_iload_n hX dX11_stepOf_63 rfl ?_
          refine zV_fald hX (v := (mNw mn m s (mNa mn m s M)).toUInt32) dX11_stepOf_64 (zo300.a 59 rfl) (rfl) ⟨by omega, by omega⟩ (by rw [← q9]; exact congrArg Int32.toUInt32 (mNm_c _ _ _ _ (by omega))) ?_
          refine zV_fast hX dX11_stepOf_65 (zo300.a 61 rfl) (rfl) ⟨by omega, by omega⟩ ?_
          refine zV_iincN hX (b := 1) dX11_stepOf_66 rfl (by decide) ?_
          dsimp only [zst1, zst2, zclr, zc2]
          refine zV_goto hX (tgt := 2) dX11_stepOf_69 (by decide) ?_
          refine zV_mem (show _ = mNa mn m (s + 1) M from ?_) (ih (s + 1) _ (by omega) (by omega))
          show _ = zw (mNm mn m s (mNa mn m s M)) 362 s (mNw mn m s (mNa mn m s M))
          simp
        · have q9 := hw1 (mCode_2.mp c_46)
          refine zV_aload_n hX dX11_stepOf_49 rfl ?_
          refine zV_geti hX (x := mNw mn m s (mNa mn m s M)) dX11_stepOf_50 zf_X11_298 zo300.1 rfl (q9) ?_
          refine zV_cS1p hX hR hl dX11_stepOf_53 (zc_real l G _ _ (fb_n hfw)) zt_X11_real rfl zml_X11_485 (by decide) (Nat.le_of_ble_eq_true rfl) ?_
          dsimp only [Option.toList, List.cons_append, List.nil_append]
          refine zV_goto hX (tgt := 65) dX11_stepOf_56 (by decide) ?_
          refine zV_fast hX dX11_stepOf_65 (zo300.a 61 rfl) (rfl) ⟨by omega, by omega⟩ ?_
          refine zV_iincN hX (b := 1) dX11_stepOf_66 rfl (by decide) ?_
          dsimp only [zst1, zst2, zclr, zc2]
          refine zV_goto hX (tgt := 2) dX11_stepOf_69 (by decide) ?_
          refine zV_mem (show _ = mNa mn m (s + 1) M from ?_) (ih (s + 1) _ (by omega) (by omega))
          show _ = zw (mNm mn m s (mNa mn m s M)) 362 s (mNw mn m s (mNa mn m s M))
          simp
      refine zV_iload_n hX dX11_stepOf_2 rfl ?_
      refine zV_aload_n hX dX11_stepOf_3 rfl ?_
      refine zV_geti hX dX11_stepOf_4 zf_X11_20 zo300.1 rfl (hA.at hn (by unfold mFrN; omega)) ?_
      refine zV_icmp_geN hX (tgt := 72) dX11_stepOf_7 (by decide) ⟨by omega, by omega⟩ (fun c_7 => ?_) (fun c_7 => ?_)
      · have hsn : s = n := by omega
        rw [hsn]
        exact J72 _ _ _
      · refine zV_iload_n hX dX11_stepOf_10 rfl ?_
        refine zV_iload_n hX dX11_stepOf_11 rfl ?_
        refine zV_icmp_neN hX (tgt := 19) dX11_stepOf_12 (by decide) ⟨by omega, by omega⟩ (fun c_12 => ?_) (fun c_12 => ?_)
        · have e8 : mNw mn m s (mNa mn m s M) = zval (mSay (mNa mn m s M) mn s 1 m (nI s) ((mNa mn m s M).1 360 s)) ((mNa mn m s M).1 360 m) := if_neg c_12
          have e7 : mNm mn m s (mNa mn m s M) = mSb (mSay (mNa mn m s M) mn s 1 m (nI s) ((mNa mn m s M).1 360 s)) ((mNa mn m s M).1 360 s) (mNa mn m s M) := if_neg c_12
          have hfs := hH s (by omega)
          obtain ⟨s9, N9, hsq, -⟩ := hfs
          refine zV_aload_n hX dX11_stepOf_19 rfl ?_
          refine zV_iload_n hX dX11_stepOf_20 rfl ?_
          refine zV_iload_n hX dX11_stepOf_21 rfl ?_
          refine zV_iconst hX (v := nI 1) dX11_stepOf_22 (by decide) ?_
          refine zV_iload_n hX dX11_stepOf_23 rfl ?_
          refine zV_aload_n hX dX11_stepOf_24 rfl ?_
          refine zV_geta hX dX11_stepOf_25 zf_X11_129 zo300.1 rfl ?_
          refine zV_iload_n hX dX11_stepOf_28 rfl ?_
          refine zV_fald hX dX11_stepOf_29 (zo300.a 59 rfl) (rfl) ⟨by omega, by omega⟩ (rfl) ?_
          refine zV_cS1p hX hR hl dX11_stepOf_30 (zc_bitsf l G _ _ _ _ hsq) zt_Jxf58ca_floatToIntBits_5c35a rfl zml_X11_152 (by decide) (Nat.le_of_ble_eq_true rfl) ?_
          dsimp only [Option.toList, List.cons_append, List.nil_append]
          refine zV_topi ((mNa mn m s M).1 360 s) (by simp) ?_
          refine zV_cV5p hX hR hl dX11_stepOf_33 (zc_says l G (mNa mn m s M) s m 1 (nI s) ((mNa mn m s M).1 360 s) mn (kN.ln hA hmn) (by omega) hm7) zt_X11_says rfl zml_X11_313 zo300.1 ⟨by decide, by decide⟩ (Nat.le_of_ble_eq_true rfl) ?_
          dsimp only [Option.toList, List.cons_append, List.nil_append]
          have hcl := mCode_lt (mSay (mNa mn m s M) mn s 1 m (nI s) ((mNa mn m s M).1 360 s))
          first | (refine zV_mem e7.symm (J36 c_7 none _ rfl (fun q => nomatch q) (fun _ => e8.symm))) | (refine zV_mem e7.symm (J36 c_7 (mSay (mNa mn m s M) mn s 1 m (nI s) ((mNa mn m s M).1 360 s)) _ rfl (fun q => by rw [e7, e8]; exact (zw_same).trans (mIv_sa q)) (fun q => by rw [e8]; exact (mIv_d q).symm)))
        · have e8 : mNw mn m s (mNa mn m s M) = (mNa mn m s M).1 360 m := if_pos c_12
          have e7 : mNm mn m s (mNa mn m s M) = (mNa mn m s M) := if_pos c_12
          refine zV_iconst hX (v := nI 0) dX11_stepOf_15 (by decide) ?_
          refine zV_goto hX (tgt := 36) dX11_stepOf_16 (by decide) ?_
          first | (refine zV_mem e7.symm (J36 c_7 none _ rfl (fun q => nomatch q) (fun _ => e8.symm))) | (refine zV_mem e7.symm (J36 c_7 (mSay (mNa mn m s M) mn s 1 m (nI s) ((mNa mn m s M).1 360 s)) _ rfl (fun q => by rw [e7, e8]; exact (zw_same).trans (mIv_sa q)) (fun q => by rw [e8]; exact (mIv_d q).symm)))
  refine zV_iconst hX (v := nI 0) dX11_stepOf_0 (by decide) ?_
  refine zV_istore_n hX dX11_stepOf_1 (by decide) ?_
  dsimp only [zst1, zst2, zclr, zc2]
  exact L2 (n + 1) 0 _ (by omega) (by omega)
