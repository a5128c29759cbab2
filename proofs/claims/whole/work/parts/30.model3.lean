-- what telling changes in the model
def mFrA (a j : Nat) : Prop := (a = 300 ∧ (j = 16 ∨ j = 18 ∨ j = 19)) ∨ a = 324 ∨ (1320 ≤ a ∧ a < 1352)
def mK (M M' : zM) : Prop := (∀ a j : Nat, ¬ mFrA a j → M'.1 a j = M.1 a j) ∧ M'.2 = M.2
theorem mK.rf {M : zM} : mK M M := ⟨fun _ _ _ => rfl, rfl⟩
theorem mK.tr {M M1 M2 : zM} (h : mK M M1) (h2 : mK M1 M2) : mK M M2 := ⟨fun a j hn => (h2.1 a j hn).trans (h.1 a j hn), h2.2.trans h.2⟩
theorem mK.w {M M1 : zM} {a j : Nat} {x : Int32} (h : mK M M1) (hf : mFrA a j) : mK M (zw M1 a j x) := ⟨fun b k hn => by
  rw [← h.1 b k hn]
  apply zw_ne
  apply Classical.byContradiction
  intro q
  have e1 : b = a := by omega
  have e2 : k = j := by omega
  exact hn (e1 ▸ e2 ▸ hf), h.2⟩
theorem mK.for {f : Nat → zM → zM} : ∀ (n : Nat) (M : zM), (∀ i M, i < n → mK M (f i M)) → mK M (zfor f n M)
  | 0, M, _ => mK.rf
  | n + 1, M, hf => (mK.for n M (fun i M hi => hf i M (by omega))).tr (hf n _ (by omega))
theorem mK.at {M M1 : zM} (h : mK M M1) {a j : Nat} {x : Int32} (e : M.1 a j = x) (hn : ¬ mFrA a j) : M1.1 a j = x := (h.1 a j hn).trans e
theorem mK.n {M M1 : zM} (h : mK M M1) {n : Nat} (e : M.1 300 9 = nI n) : M1.1 300 9 = nI n := h.at e (by unfold mFrA; omega)
theorem mK.c {M M1 : zM} (h : mK M M1) {n : Nat} (e : M.1 300 17 = nI n) : M1.1 300 17 = nI n := h.at e (by unfold mFrA; omega)
theorem mK.t {M M1 : zM} (h : mK M M1) {n : Nat} (e : M.1 300 10 = nI n) : M1.1 300 10 = nI n := h.at e (by unfold mFrA; omega)
theorem mK.ln {M M1 : zM} (h : mK M M1) {mn : Nat → Option Nat} (e : mLn 0 M mn) : mLn 0 M1 mn := fun s hs => ⟨(h.1 _ _ (by unfold mFrA; omega)).trans (e s hs).1, (e s hs).2⟩
theorem mSayF_eq {M M1 : zM} (h : ∀ a j, 3100 ≤ a → M1.1 a j = M.1 a j) (s r x : Nat) (o tr : Int32) : ∀ j i, mSayF M1 s r x o tr j i = mSayF M s r x o tr j i
  | 0, _ => rfl
  | j + 1, i => by
    have hq : 3100 ≤ mLc s i := by unfold mLc; omega
    have h1 : mHit M1 (mLc s i) r x o = mHit M (mLc s i) r x o := by unfold mHit; simp only [h _ _ hq]
    have h2 : mAct M1 (mLc s i) x tr = mAct M (mLc s i) x tr := by unfold mAct; simp only [h _ _ hq]
    unfold mSayF
    rw [h1, h2, mSayF_eq h s r x o tr j (i + 1)]
theorem mK.say {M M1 : zM} (h : mK M M1) (mn : Nat → Option Nat) (s r x : Nat) (o tr : Int32) : mSay M1 mn s r x o tr = mSay M mn s r x o tr := mSayF_eq (fun a j ha => h.1 a j (by unfold mFrA; omega)) s r x o tr _ _
theorem mSb_K (w : Option (Option Int32)) (tr : Int32) (M : zM) : mK M (mSb w tr M) := mK.rf.w (Or.inl ⟨rfl, Or.inl rfl⟩)
theorem mHr_K {s x : Nat} (hs : s < 7) (hx : x < 7) (p q r : Nat) (M : zM) : mK M (mHr s x p q r M) := by
  unfold mHr
  refine mK.w (mK.w (mK.w (mK.w (mK.w mK.rf ?_) ?_) ?_) ?_) ?_
  · exact Or.inl ⟨rfl, Or.inr (Or.inl rfl)⟩
  · exact Or.inr (Or.inl rfl)
  · exact Or.inl ⟨rfl, Or.inr (Or.inr rfl)⟩
  · exact Or.inr (Or.inr (by omega))
  · exact Or.inr (Or.inr (by omega))
theorem mCode_lt (w : Option (Option Int32)) : mCode w < 3 := by
  cases w with
  | none => decide
  | some w => cases w with
    | none => decide
    | some v => exact Nat.lt_succ_self 2
/-- s says to x what it makes of the truth, x hears it by p -/
def mSH (mn : Nat → Option Nat) (s x p r : Nat) (o tr : Int32) (M : zM) : zM := mHr s x p (mCode (mSay M mn s r x o tr)) r (mSb (mSay M mn s r x o tr) tr M)
theorem mSH_K {s x : Nat} (hs : s < 7) (hx : x < 7) (mn : Nat → Option Nat) (p r : Nat) (o tr : Int32) (M : zM) : mK M (mSH mn s x p r o tr M) := (mSb_K _ _ _).tr (mHr_K hs hx _ _ _ _)
def mF1 (c : Nat) (mn : Nat → Option Nat) (x : Nat) (M : zM) : zM := if x = c then M else mSH mn c x 0 1 (nI c) (M.1 300 26) M
def mF (c : Nat) (mn : Nat → Option Nat) (k : Nat) (M : zM) : zM := zfor (mF1 c mn) k M
theorem mF1_K {c x : Nat} (hc : c < 7) (hx : x < 7) (mn : Nat → Option Nat) (M : zM) : mK M (mF1 c mn x M) := by
  unfold mF1
  split
  · exact mK.rf
  · exact mSH_K hc hx _ _ _ _ _ _
theorem mF_K {c k : Nat} (hc : c < 7) (hk : k ≤ 7) (mn : Nat → Option Nat) (M : zM) : mK M (mF c mn k M) := mK.for k M (fun i M hi => mF1_K hc (by omega) mn M)
def mT1 (c r s p : Nat) (mn : Nat → Option Nat) (x : Nat) (M : zM) : zM := if x = s then M else if mIsIn c p x then M else mSH mn s x (zlong p s) r (nI (zlast c p)) (M.1 (1000 + 16 * 20 + s) p) M
theorem mT1_K {c r s p x : Nat} (hs : s < 7) (hx : x < 7) (mn : Nat → Option Nat) (M : zM) : mK M (mT1 c r s p mn x M) := by
  unfold mT1
  split
  · exact mK.rf
  · split
    · exact mK.rf
    · exact mSH_K hs hx _ _ _ _ _ _
def mTk (c r s p : Nat) (mn : Nat → Option Nat) (k : Nat) (M : zM) : zM := zfor (mT1 c r s p mn) k M
theorem mTk_K {c r s p k : Nat} (hs : s < 7) (hk : k ≤ 7) (mn : Nat → Option Nat) (M : zM) : mK M (mTk c r s p mn k M) := mK.for k M (fun i M hi => mT1_K hs (by omega) mn M)
def mOwn (s p : Nat) (M : zM) : zM := zw (zw M (1000 + 16 * 20 + s) (zlong p s) (M.1 (1000 + 16 * 20 + s) p)) (1000 + 16 * 21 + s) (zlong p s) (nI 0)
theorem mOwn_K {s p : Nat} (hs : s < 7) (M : zM) : mK M (mOwn s p M) := (mK.rf.w (Or.inr (Or.inr (by omega)))).w (Or.inr (Or.inr (by omega)))
def mTp (c n r s : Nat) (mn : Nat → Option Nat) (p : Nat) (M : zM) : zM := if zlen p = r - 1 ∧ mPath n c p = true ∧ mIsIn c p s = false then mOwn s p (mTk c r s p mn n M) else M
theorem mTp_K {c n r s p : Nat} (hs : s < 7) (hn : n ≤ 7) (mn : Nat → Option Nat) (M : zM) : mK M (mTp c n r s mn p M) := by
  unfold mTp
  split
  · exact (mTk_K hs hn mn M).tr (mOwn_K hs _)
  · exact mK.rf
def mTs (c n r s : Nat) (mn : Nat → Option Nat) (k : Nat) (M : zM) : zM := zfor (mTp c n r s mn) k M
theorem mTs_K {c n r s k : Nat} (hs : s < 7) (hn : n ≤ 7) (mn : Nat → Option Nat) (M : zM) : mK M (mTs c n r s mn k M) := mK.for k M (fun i M _ => mTp_K hs hn mn M)
def mNs (c n r : Nat) (mn : Nat → Option Nat) (s : Nat) (M : zM) : zM := if s = c then M else mTs c n r s mn 57 M
theorem mNs_K {c n r s : Nat} (hs : s < 7) (hn : n ≤ 7) (mn : Nat → Option Nat) (M : zM) : mK M (mNs c n r mn s M) := by
  unfold mNs
  split
  · exact mK.rf
  · exact mTs_K hs hn mn M
def mNr (c n r : Nat) (mn : Nat → Option Nat) (k : Nat) (M : zM) : zM := zfor (mNs c n r mn) k M
theorem mNr_K {c n r k : Nat} (hk : k ≤ 7) (hn : n ≤ 7) (mn : Nat → Option Nat) (M : zM) : mK M (mNr c n r mn k M) := mK.for k M (fun i M hi => mNs_K (by omega) hn mn M)
set_option maxHeartbeats 1000000 in
theorem zc_firstRound (l : Launch) (G : zG) (M : zM) (n c : Nat) (mn : Nat → Option Nat) (hn : M.1 300 9 = nI n) (hn7 : n ≤ 7) (hcm : M.1 300 17 = nI c) (hc7 : c < 7) (hmn : mLn 0 M mn) : zC l G 2 yX11_firstRound cX11_firstRound 2 (Option.none : Option Jvm.ClassFile.FieldType) [.ref (300 : Nat)] M (zP none (mF c mn n M)) := by
  refine zC_of (by decide) (Nat.le_of_ble_eq_true rfl) (fun X Q hQ hX hl hR hr => ?_)
  refine zV_loc (L' := [.ref (300 : Nat), .null]) rfl ?_
  have L2 : ∀ (f9 k : Nat), n - k < f9 → k ≤ n → zV G X Q 2 0 0 2 [.ref (300 : Nat), .int (nI k)] [] (mF c mn k M) := by
    intro f9
    induction f9 with
    | zero => intro k hk1 hk2; exact absurd hk1 (Nat.not_lt_zero _)
    | succ f9 ih =>
      intro k hk1 hk2
      have hK := mF_K (k := k) hc7 (by omega) mn M
      refine zV_iload_n hX dX11_firstRound_2 rfl ?_
      refine zV_aload_n hX dX11_firstRound_3 rfl ?_
      refine zV_geti hX dX11_firstRound_4 zf_X11_20 zo300.1 rfl (hK.n hn) ?_
      refine zV_icmp_geN hX (tgt := 53) dX11_firstRound_7 (by decide) ⟨by omega, by omega⟩ (fun c_7 => ?_) (fun c_7 => ?_)
      · exact zV_retv hX hQ hr (⟨rfl, by rw [show k = n by omega]⟩) dX11_firstRound_53
      · refine zV_iload_n hX dX11_firstRound_10 rfl ?_
        refine zV_aload_n hX dX11_firstRound_11 rfl ?_
        refine zV_geti hX dX11_firstRound_12 zf_X11_39 zo300.1 rfl (hK.c hcm) ?_
        refine zV_icmp_eqN hX (tgt := 47) dX11_firstRound_15 (by decide) ⟨by omega, by omega⟩ (fun c_15 => ?_) (fun c_15 => ?_)
        · have e9 : mF1 c mn k (mF c mn k M) = (mF c mn k M) := if_pos c_15
          refine zV_iincN hX (b := 1) dX11_firstRound_47 rfl (by decide) ?_
          dsimp only [zst1, zst2, zclr, zc2]
          refine zV_goto hX (tgt := 2) dX11_firstRound_50 (by decide) ?_
          have h9 := ih (k + 1) (by omega) (by omega)
          rw [show mF c mn (k + 1) M = mF1 c mn k (mF c mn k M) from rfl, e9] at h9
          exact h9
        · have e9 : mF1 c mn k (mF c mn k M) = mSH mn c k 0 1 (nI c) ((mF c mn k M).1 300 26) (mF c mn k M) := if_neg c_15
          refine zV_aload_n hX dX11_firstRound_18 rfl ?_
          refine zV_aload_n hX dX11_firstRound_19 rfl ?_
          refine zV_geti hX dX11_firstRound_20 zf_X11_39 zo300.1 rfl (hK.c hcm) ?_
          refine zV_iload_n hX dX11_firstRound_23 rfl ?_
          refine zV_iconst hX (v := nI 0) dX11_firstRound_24 (by decide) ?_
          refine zV_aload_n hX dX11_firstRound_25 rfl ?_
          refine zV_aload_n hX dX11_firstRound_26 rfl ?_
          refine zV_geti hX dX11_firstRound_27 zf_X11_39 zo300.1 rfl (hK.c hcm) ?_
          refine zV_iload_n hX dX11_firstRound_30 rfl ?_
          refine zV_iconst hX (v := nI 1) dX11_firstRound_31 (by decide) ?_
          refine zV_aload_n hX dX11_firstRound_32 rfl ?_
          refine zV_geti hX dX11_firstRound_33 zf_X11_39 zo300.1 rfl (hK.c hcm) ?_
          refine zV_aload_n hX dX11_firstRound_36 rfl ?_
          refine zV_geti hX dX11_firstRound_37 zf_X11_310 zo300.1 rfl (rfl) ?_
          refine zV_cV5p hX hR hl dX11_firstRound_40 (zc_says l G _ c k 1 (nI c) ((mF c mn k M).1 300 26) mn (hK.ln hmn) hc7 (by omega)) zt_X11_says rfl zml_X11_313 zo300.1 ⟨by decide, by decide⟩ (Nat.le_of_ble_eq_true rfl) ?_
          dsimp only [Option.toList, List.cons_append, List.nil_append]
          refine zV_iconst hX (v := nI 1) dX11_firstRound_43 (by decide) ?_
          refine zV_cV5p hX hR hl dX11_firstRound_44 (zc_mhears l G _ c k 0 _ 1 hc7 (by omega) (by decide) (mCode_lt _) (by decide) (by decide)) zt_X11_hears rfl zml_X11_317 zo300.1 ⟨by decide, by decide⟩ (Nat.le_of_ble_eq_true rfl) ?_
          dsimp only [Option.toList, List.cons_append, List.nil_append]
          refine zV_iincN hX (b := 1) dX11_firstRound_47 rfl (by decide) ?_
          dsimp only [zst1, zst2, zclr, zc2]
          refine zV_goto hX (tgt := 2) dX11_firstRound_50 (by decide) ?_
          have h9 := ih (k + 1) (by omega) (by omega)
          rw [show mF c mn (k + 1) M = mF1 c mn k (mF c mn k M) from rfl, e9] at h9
          exact h9
  refine zV_iconst hX (v := nI 0) dX11_firstRound_0 (by decide) ?_
  refine zV_istore_n hX dX11_firstRound_1 (by decide) ?_
  dsimp only [zst1, zst2, zclr, zc2]
  exact L2 (n + 1) 0 (by omega) (by omega)
set_option maxHeartbeats 1000000 in
theorem zc_nextRound (l : Launch) (G : zG) (M : zM) (n c r : Nat) (mn : Nat → Option Nat) (hn : M.1 300 9 = nI n) (hn7 : n ≤ 7) (hcm : M.1 300 17 = nI c) (hc7 : c < 7) (hmn : mLn 0 M mn) (h0 : 1 ≤ n) (hr2 : 2 ≤ r) (hr3 : r ≤ 3) : zC l G 3 yX11_nextRound cX11_nextRound 6 (Option.none : Option Jvm.ClassFile.FieldType) [.ref (300 : Nat), .int (nI r)] M (zP none (mNr c n r mn n M)) := by
  refine zC_of (by decide) (Nat.le_of_ble_eq_true rfl) (fun X Q hQ hX hl hR hr => ?_)
  refine zV_loc (L' := [.ref (300 : Nat), .int (nI r), .null, .null, .null, .null]) rfl ?_
  have L2 : ∀ (f9 s : Nat) (v3 v4 v5 : Value), n - s < f9 → s ≤ n → zV G X Q 6 0 0 2 [.ref (300 : Nat), .int (nI r), .int (nI s), v3, v4, v5] [] (mNr c n r mn s M) := by
    intro f9
    induction f9 with
    | zero => intro s v3 v4 v5 hs1 hs2; exact absurd hs1 (Nat.not_lt_zero _)
    | succ f9 ih =>
      intro s v3 v4 v5 hs1 hs2
      have hA := mNr_K (c := c) (r := r) (k := s) (by omega) hn7 mn M
      have J161 : s < n → ∀ (v4 v5 : Value) (p : Nat), zV G X Q 6 0 0 161 [.ref (300 : Nat), .int (nI r), .int (nI s), .int (nI p), v4, v5] [] (mNr c n r mn (s + 1) M) := by
        intro c_s v4 v5 p
        refine zV_iincN hX (b := 1) dX11_nextRound_161 rfl (by decide) ?_
        dsimp only [zst1, zst2, zclr, zc2]
        refine zV_goto hX (tgt := 2) dX11_nextRound_164 (by decide) ?_
        exact ih (s + 1) _ _ _ (by omega) (by omega)
      have L12 : s < n → ∀ (f9 p : Nat) (v4 v5 : Value), 57 - p < f9 → p ≤ 57 → (s = c → p = 0) → zV G X Q 6 0 0 12 [.ref (300 : Nat), .int (nI r), .int (nI s), .int (nI p), v4, v5] [] (mTs c n r s mn p (mNr c n r mn s M)) := by
        intro c_7
        intro f9
        induction f9 with
        | zero => intro p v4 v5 hp1 hp2 hsc; exact absurd hp1 (Nat.not_lt_zero _)
        | succ f9 ih2 =>
          intro p v4 v5 hp1 hp2 hsc
          have hB := hA.tr (mTs_K (c := c) (n := n) (r := r) (k := p) (show s < 7 by omega) hn7 mn (mNr c n r mn s M))
          have L66 : ¬ s = c → zlen p = r - 1 → mPath n c p = true → mIsIn c p s = false → p < 8 → ∀ (f9 x : Nat), n - x < f9 → x ≤ n → zV G X Q 6 0 0 66 [.ref (300 : Nat), .int (nI r), .int (nI s), .int (nI p), .int (nI (zlong p s)), .int (nI x)] [] (mTk c r s p mn x (mTs c n r s mn p (mNr c n r mn s M))) := by
            intro c_23 c_33 c_41 c_50 hp8
            have e9 : mTp c n r s mn p (mTs c n r s mn p (mNr c n r mn s M)) = mOwn s p (mTk c r s p mn n (mTs c n r s mn p (mNr c n r mn s M))) := if_pos ⟨c_33, c_41, c_50⟩
            intro f9
            induction f9 with
            | zero => intro x hx1 hx2; exact absurd hx1 (Nat.not_lt_zero _)
            | succ f9 ih3 =>
              intro x hx1 hx2
              have hC := hB.tr (mTk_K (c := c) (r := r) (p := p) (k := x) (show s < 7 by omega) (by omega) mn (mTs c n r s mn p (mNr c n r mn s M)))
              refine zV_iload hX dX11_nextRound_66 rfl ?_
              refine zV_aload_n hX dX11_nextRound_68 rfl ?_
              refine zV_geti hX dX11_nextRound_69 zf_X11_20 zo300.1 rfl (hC.n hn) ?_
              refine zV_icmp_geN hX (tgt := 128) dX11_nextRound_72 (by decide) ⟨by omega, by omega⟩ (fun c_72 => ?_) (fun c_72 => ?_)
              · refine zV_aload_n hX dX11_nextRound_128 rfl ?_
                refine zV_geta hX dX11_nextRound_129 zf_X11_42 zo300.1 rfl ?_
                refine zV_iload_n hX dX11_nextRound_132 rfl ?_
                refine zV_aald hX dX11_nextRound_133 (t := 0) (zo300.a 20 rfl) (by decide) (rfl) ⟨by omega, by omega⟩ (mRow 20 (by decide)) ?_
                refine zV_iload hX dX11_nextRound_134 rfl ?_
                refine zV_aload_n hX dX11_nextRound_136 rfl ?_
                refine zV_geta hX dX11_nextRound_137 zf_X11_42 zo300.1 rfl ?_
                refine zV_iload_n hX dX11_nextRound_140 rfl ?_
                refine zV_aald hX dX11_nextRound_141 (t := 0) (zo300.a 20 rfl) (by decide) (rfl) ⟨by omega, by omega⟩ (mRow 20 (by decide)) ?_
                refine zV_iload_n hX dX11_nextRound_142 rfl ?_
                refine zV_iald hX dX11_nextRound_143 (mSh20 (by omega)) (rfl) ⟨by omega, by omega⟩ (rfl) ?_
                refine zV_iast hX dX11_nextRound_144 (mSh20 (by omega)) (rfl) ⟨by have := zlong_lt hp8 (show s < 7 by omega); omega, by omega⟩ ?_
                refine zV_aload_n hX dX11_nextRound_145 rfl ?_
                refine zV_geta hX dX11_nextRound_146 zf_X11_47 zo300.1 rfl ?_
                refine zV_iload_n hX dX11_nextRound_149 rfl ?_
                refine zV_aald hX dX11_nextRound_150 (t := 1) (zo300.a 21 rfl) (by decide) (rfl) ⟨by omega, by omega⟩ (mRow 21 (by decide)) ?_
                refine zV_iload hX dX11_nextRound_151 rfl ?_
                refine zV_iconst hX (v := nI 0) dX11_nextRound_153 (by decide) ?_
                refine zV_zast hX dX11_nextRound_154 (mSh21 (by omega)) (rfl) ⟨by have := zlong_lt hp8 (show s < 7 by omega); omega, by omega⟩ (Or.inl rfl) ?_
                refine zV_iincN hX (b := 1) dX11_nextRound_155 rfl (by decide) ?_
                dsimp only [zst1, zst2, zclr, zc2]
                refine zV_goto hX (tgt := 12) dX11_nextRound_158 (by decide) ?_
                have h9 := ih2 (p + 1) (.int (nI (zlong p s))) (.int (nI x)) (by omega) (by omega) (fun q => absurd q c_23)
                rw [show mTs c n r s mn (p + 1) (mNr c n r mn s M) = mTp c n r s mn p (mTs c n r s mn p (mNr c n r mn s M)) from rfl, e9] at h9
                have hxn : x = n := by omega
                subst hxn
                exact h9
              · refine zV_iload hX dX11_nextRound_75 rfl ?_
                refine zV_iload_n hX dX11_nextRound_77 rfl ?_
                refine zV_icmp_eqN hX (tgt := 122) dX11_nextRound_78 (by decide) ⟨by omega, by omega⟩ (fun c_78 => ?_) (fun c_78 => ?_)
                · have e8 : mT1 c r s p mn x (mTk c r s p mn x (mTs c n r s mn p (mNr c n r mn s M))) = (mTk c r s p mn x (mTs c n r s mn p (mNr c n r mn s M))) := if_pos c_78
                  refine zV_iincN hX (b := 1) dX11_nextRound_122 rfl (by decide) ?_
                  dsimp only [zst1, zst2, zclr, zc2]
                  refine zV_goto hX (tgt := 66) dX11_nextRound_125 (by decide) ?_
                  have h9 := ih3 (x + 1) (by omega) (by omega)
                  rw [show mTk c r s p mn (x + 1) (mTs c n r s mn p (mNr c n r mn s M)) = mT1 c r s p mn x (mTk c r s p mn x (mTs c n r s mn p (mNr c n r mn s M))) from rfl, e8] at h9
                  exact h9
                · refine zV_aload_n hX dX11_nextRound_81 rfl ?_
                  refine zV_iload_n hX dX11_nextRound_82 rfl ?_
                  refine zV_iload hX dX11_nextRound_83 rfl ?_
                  refine zV_cV2p hX hR hl dX11_nextRound_85 (zc_misIn l G _ c p x (hC.c hcm) hc7 (by omega) (by omega)) zt_X11_isIn rfl zml_X11_327 zo300.1 ⟨by decide, by decide⟩ (Nat.le_of_ble_eq_true rfl) ?_
                  dsimp only [Option.toList, List.cons_append, List.nil_append]
                  refine zV_if_neB hX (tgt := 122) dX11_nextRound_88 (by decide) (fun c_88 => ?_) (fun c_88 => ?_)
                  · have e8 : mT1 c r s p mn x (mTk c r s p mn x (mTs c n r s mn p (mNr c n r mn s M))) = (mTk c r s p mn x (mTs c n r s mn p (mNr c n r mn s M))) := by unfold mT1; rw [if_neg c_78, if_pos c_88]
                    refine zV_iincN hX (b := 1) dX11_nextRound_122 rfl (by decide) ?_
                    dsimp only [zst1, zst2, zclr, zc2]
                    refine zV_goto hX (tgt := 66) dX11_nextRound_125 (by decide) ?_
                    have h9 := ih3 (x + 1) (by omega) (by omega)
                    rw [show mTk c r s p mn (x + 1) (mTs c n r s mn p (mNr c n r mn s M)) = mT1 c r s p mn x (mTk c r s p mn x (mTs c n r s mn p (mNr c n r mn s M))) from rfl, e8] at h9
                    exact h9
                  · have e8 : mT1 c r s p mn x (mTk c r s p mn x (mTs c n r s mn p (mNr c n r mn s M))) = mSH mn s x (zlong p s) r (nI (zlast c p)) ((mTk c r s p mn x (mTs c n r s mn p (mNr c n r mn s M))).1 (1000 + 16 * 20 + s) p) (mTk c r s p mn x (mTs c n r s mn p (mNr c n r mn s M))) := by unfold mT1; rw [if_neg c_78, if_neg (by rw [c_88]; decide)]
                    refine zV_aload_n hX dX11_nextRound_91 rfl ?_
                    refine zV_iload_n hX dX11_nextRound_92 rfl ?_
                    refine zV_iload hX dX11_nextRound_93 rfl ?_
                    refine zV_iload hX dX11_nextRound_95 rfl ?_
                    refine zV_aload_n hX dX11_nextRound_97 rfl ?_
                    refine zV_iload_n hX dX11_nextRound_98 rfl ?_
                    refine zV_iload hX dX11_nextRound_99 rfl ?_
                    refine zV_iload_n hX dX11_nextRound_101 rfl ?_
                    refine zV_aload_n hX dX11_nextRound_102 rfl ?_
                    refine zV_iload_n hX dX11_nextRound_103 rfl ?_
                    refine zV_cV1p hX hR hl dX11_nextRound_104 (zc_mlastOf l G _ c p (hC.c hcm) hc7 (by omega)) zt_X11_lastOf rfl zml_X11_334 zo300.1 ⟨by decide, by decide⟩ (Nat.le_of_ble_eq_true rfl) ?_
                    dsimp only [Option.toList, List.cons_append, List.nil_append]
                    refine zV_aload_n hX dX11_nextRound_107 rfl ?_
                    refine zV_geta hX dX11_nextRound_108 zf_X11_42 zo300.1 rfl ?_
                    refine zV_iload_n hX dX11_nextRound_111 rfl ?_
                    refine zV_aald hX dX11_nextRound_112 (t := 0) (zo300.a 20 rfl) (by decide) (rfl) ⟨by omega, by omega⟩ (mRow 20 (by decide)) ?_
                    refine zV_iload_n hX dX11_nextRound_113 rfl ?_
                    refine zV_iald hX dX11_nextRound_114 (mSh20 (by omega)) (rfl) ⟨by omega, by omega⟩ (rfl) ?_
                    refine zV_cV5p hX hR hl dX11_nextRound_115 (zc_says l G _ s x r (nI (zlast c p)) ((mTk c r s p mn x (mTs c n r s mn p (mNr c n r mn s M))).1 (1000 + 16 * 20 + s) p) mn (hC.ln hmn) (by omega) (by omega)) zt_X11_says rfl zml_X11_313 zo300.1 ⟨by decide, by decide⟩ (Nat.le_of_ble_eq_true rfl) ?_
                    dsimp only [Option.toList, List.cons_append, List.nil_append]
                    refine zV_iload_n hX dX11_nextRound_118 rfl ?_
                    refine zV_cV5p hX hR hl dX11_nextRound_119 (zc_mhears l G _ s x (zlong p s) _ r (by omega) (by omega) (zlong_lt hp8 (by omega)) (mCode_lt _) (by omega) (by omega)) zt_X11_hears rfl zml_X11_317 zo300.1 ⟨by decide, by decide⟩ (Nat.le_of_ble_eq_true rfl) ?_
                    dsimp only [Option.toList, List.cons_append, List.nil_append]
                    refine zV_iincN hX (b := 1) dX11_nextRound_122 rfl (by decide) ?_
                    dsimp only [zst1, zst2, zclr, zc2]
                    refine zV_goto hX (tgt := 66) dX11_nextRound_125 (by decide) ?_
                    have h9 := ih3 (x + 1) (by omega) (by omega)
                    rw [show mTk c r s p mn (x + 1) (mTs c n r s mn p (mNr c n r mn s M)) = mT1 c r s p mn x (mTk c r s p mn x (mTs c n r s mn p (mNr c n r mn s M))) from rfl, e8] at h9
                    exact h9
          refine zV_iload_n hX dX11_nextRound_12 rfl ?_
          refine zV_bipush hX (v := nI 57) dX11_nextRound_13 (by decide) ?_
          refine zV_icmp_geN hX (tgt := 161) dX11_nextRound_15 (by decide) ⟨by omega, by omega⟩ (fun c_15 => ?_) (fun c_15 => ?_)
          · have e7 : (mTs c n r s mn p (mNr c n r mn s M)) = mNr c n r mn (s + 1) M := by show _ = mNs c n r mn s (mNr c n r mn s M); rw [mNs, if_neg (fun q => by have := hsc q; omega), show p = 57 by omega]
            refine zV_mem e7 (J161 c_7 v4 v5 p)
          · refine zV_iload_n hX dX11_nextRound_18 rfl ?_
            refine zV_aload_n hX dX11_nextRound_19 rfl ?_
            refine zV_geti hX dX11_nextRound_20 zf_X11_39 zo300.1 rfl (hB.c hcm) ?_
            refine zV_icmp_eqN hX (tgt := 161) dX11_nextRound_23 (by decide) ⟨by omega, by omega⟩ (fun c_23 => ?_) (fun c_23 => ?_)
            · have e7 : (mTs c n r s mn p (mNr c n r mn s M)) = mNr c n r mn (s + 1) M := by show _ = mNs c n r mn s (mNr c n r mn s M); rw [mNs, if_pos c_23, hsc c_23]; rfl
              refine zV_mem e7 (J161 c_7 v4 v5 p)
            · refine zV_iload_n hX dX11_nextRound_26 rfl ?_
              refine zV_cS1p hX hR hl dX11_nextRound_27 (zc_lengthOf l G _ p (by omega)) zt_X11_lengthOf rfl zml_X11_321 (by decide) (Nat.le_of_ble_eq_true rfl) ?_
              dsimp only [Option.toList, List.cons_append, List.nil_append]
              refine zV_iload_n hX dX11_nextRound_30 rfl ?_
              refine zV_iconst hX (v := nI 1) dX11_nextRound_31 (by decide) ?_
              refine zV_isubN hX dX11_nextRound_32 (by omega) ?_
              refine zV_icmp_neN hX (tgt := 155) dX11_nextRound_33 (by decide) ⟨by have := zlen_lt p; omega, by omega⟩ (fun c_33 => ?_) (fun c_33 => ?_)
              · have e9 : mTp c n r s mn p (mTs c n r s mn p (mNr c n r mn s M)) = (mTs c n r s mn p (mNr c n r mn s M)) := if_neg (fun q => c_33 q.1)
                refine zV_iincN hX (b := 1) dX11_nextRound_155 rfl (by decide) ?_
                dsimp only [zst1, zst2, zclr, zc2]
                refine zV_goto hX (tgt := 12) dX11_nextRound_158 (by decide) ?_
                have h9 := ih2 (p + 1) v4 v5 (by omega) (by omega) (fun q => absurd q c_23)
                rw [show mTs c n r s mn (p + 1) (mNr c n r mn s M) = mTp c n r s mn p (mTs c n r s mn p (mNr c n r mn s M)) from rfl, e9] at h9
                exact h9
              · have hp8 : p < 8 := by unfold zlen at c_33; split at c_33; omega; split at c_33 <;> omega
                refine zV_aload_n hX dX11_nextRound_36 rfl ?_
                refine zV_iload_n hX dX11_nextRound_37 rfl ?_
                refine zV_cV1p hX hR hl dX11_nextRound_38 (zc_misPath l G _ n c p (hB.n hn) hn7 (hB.c hcm) hc7 (by omega) (by omega)) zt_X11_isPath rfl zml_X11_324 zo300.1 ⟨by decide, by decide⟩ (Nat.le_of_ble_eq_true rfl) ?_
                dsimp only [Option.toList, List.cons_append, List.nil_append]
                refine zV_if_eqB hX (tgt := 155) dX11_nextRound_41 (by decide) (fun c_41 => ?_) (fun c_41 => ?_)
                · have e9 : mTp c n r s mn p (mTs c n r s mn p (mNr c n r mn s M)) = (mTs c n r s mn p (mNr c n r mn s M)) := if_neg (fun q => by rw [c_41] at q; exact absurd q.2.1 (by decide))
                  refine zV_iincN hX (b := 1) dX11_nextRound_155 rfl (by decide) ?_
                  dsimp only [zst1, zst2, zclr, zc2]
                  refine zV_goto hX (tgt := 12) dX11_nextRound_158 (by decide) ?_
                  have h9 := ih2 (p + 1) v4 v5 (by omega) (by omega) (fun q => absurd q c_23)
                  rw [show mTs c n r s mn (p + 1) (mNr c n r mn s M) = mTp c n r s mn p (mTs c n r s mn p (mNr c n r mn s M)) from rfl, e9] at h9
                  exact h9
                · refine zV_aload_n hX dX11_nextRound_44 rfl ?_
                  refine zV_iload_n hX dX11_nextRound_45 rfl ?_
                  refine zV_iload_n hX dX11_nextRound_46 rfl ?_
                  refine zV_cV2p hX hR hl dX11_nextRound_47 (zc_misIn l G _ c p s (hB.c hcm) hc7 (by omega) (by omega)) zt_X11_isIn rfl zml_X11_327 zo300.1 ⟨by decide, by decide⟩ (Nat.le_of_ble_eq_true rfl) ?_
                  dsimp only [Option.toList, List.cons_append, List.nil_append]
                  refine zV_if_eqB hX (tgt := 56) dX11_nextRound_50 (by decide) (fun c_50 => ?_) (fun c_50 => ?_)
                  · have e9 : mTp c n r s mn p (mTs c n r s mn p (mNr c n r mn s M)) = mOwn s p (mTk c r s p mn n (mTs c n r s mn p (mNr c n r mn s M))) := if_pos ⟨c_33, c_41, c_50⟩
                    refine zV_iload_n hX dX11_nextRound_56 rfl ?_
                    refine zV_iload_n hX dX11_nextRound_57 rfl ?_
                    refine zV_cS2p hX hR hl dX11_nextRound_58 (zc_longer l G _ p s hp8) zt_X11_longer rfl zml_X11_331 (by decide) (Nat.le_of_ble_eq_true rfl) ?_
                    dsimp only [Option.toList, List.cons_append, List.nil_append]
                    refine zV_istore hX dX11_nextRound_61 (by decide) ?_
                    dsimp only [zst1, zst2, zclr, zc2]
                    refine zV_iconst hX (v := nI 0) dX11_nextRound_63 (by decide) ?_
                    refine zV_istore hX dX11_nextRound_64 (by decide) ?_
                    dsimp only [zst1, zst2, zclr, zc2]
                    exact L66 c_23 c_33 c_41 c_50 hp8 (n + 1) 0 (by omega) (by omega)
                  · have e9 : mTp c n r s mn p (mTs c n r s mn p (mNr c n r mn s M)) = (mTs c n r s mn p (mNr c n r mn s M)) := if_neg (fun q => by rw [c_50] at q; exact absurd q.2.2 (by decide))
                    refine zV_goto hX (tgt := 155) dX11_nextRound_53 (by decide) ?_
                    refine zV_iincN hX (b := 1) dX11_nextRound_155 rfl (by decide) ?_
                    dsimp only [zst1, zst2, zclr, zc2]
                    refine zV_goto hX (tgt := 12) dX11_nextRound_158 (by decide) ?_
                    have h9 := ih2 (p + 1) v4 v5 (by omega) (by omega) (fun q => absurd q c_23)
                    rw [show mTs c n r s mn (p + 1) (mNr c n r mn s M) = mTp c n r s mn p (mTs c n r s mn p (mNr c n r mn s M)) from rfl, e9] at h9
                    exact h9
      refine zV_iload_n hX dX11_nextRound_2 rfl ?_
      refine zV_aload_n hX dX11_nextRound_3 rfl ?_
      refine zV_geti hX dX11_nextRound_4 zf_X11_20 zo300.1 rfl (hA.n hn) ?_
      refine zV_icmp_geN hX (tgt := 167) dX11_nextRound_7 (by decide) ⟨by omega, by omega⟩ (fun c_7 => ?_) (fun c_7 => ?_)
      · exact zV_retv hX hQ hr (⟨rfl, by rw [show s = n by omega]⟩) dX11_nextRound_167
      · refine zV_iconst hX (v := nI 0) dX11_nextRound_10 (by decide) ?_
        refine zV_istore_n hX dX11_nextRound_11 (by decide) ?_
        dsimp only [zst1, zst2, zclr, zc2]
        exact L12 c_7 58 0 _ _ (by omega) (by omega) (fun _ => rfl)
  refine zV_iconst hX (v := nI 0) dX11_nextRound_0 (by decide) ?_
  refine zV_istore_n hX dX11_nextRound_1 (by decide) ?_
  dsimp only [zst1, zst2, zclr, zc2]
  exact L2 (n + 1) 0 _ _ _ (by omega) (by omega)
