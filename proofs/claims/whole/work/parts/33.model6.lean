-- frames in general
def zKf (F : Nat → Nat → Prop) (M M' : zM) : Prop := (∀ a j : Nat, ¬ F a j → M'.1 a j = M.1 a j) ∧ M'.2 = M.2
theorem zKf.rf {F : Nat → Nat → Prop} {M : zM} : zKf F M M := ⟨fun _ _ _ => rfl, rfl⟩
theorem zKf.tr {F : Nat → Nat → Prop} {M M1 M2 : zM} (h : zKf F M M1) (h2 : zKf F M1 M2) : zKf F M M2 := ⟨fun a j hn => (h2.1 a j hn).trans (h.1 a j hn), h2.2.trans h.2⟩
theorem zKf.w {F : Nat → Nat → Prop} {M M1 : zM} {a j : Nat} {x : Int32} (h : zKf F M M1) (hf : F a j) : zKf F M (zw M1 a j x) := ⟨fun b k hn => by
  rw [← h.1 b k hn]
  apply zw_ne
  apply Classical.byContradiction
  intro q
  have e1 : b = a := by omega
  have e2 : k = j := by omega
  exact hn (e1 ▸ e2 ▸ hf), h.2⟩
theorem zKf.for {F : Nat → Nat → Prop} {f : Nat → zM → zM} : ∀ (n : Nat) (M : zM), (∀ i M, i < n → zKf F M (f i M)) → zKf F M (zfor f n M)
  | 0, M, _ => zKf.rf
  | n + 1, M, hf => (zKf.for n M (fun i M hi => hf i M (by omega))).tr (hf n _ (by omega))
theorem zKf.at {F : Nat → Nat → Prop} {M M1 : zM} (h : zKf F M M1) {a j : Nat} {x : Int32} (e : M.1 a j = x) (hn : ¬ F a j) : M1.1 a j = x := (h.1 a j hn).trans e
theorem zKf.mono {F E : Nat → Nat → Prop} {M M1 : zM} (h : zKf F M M1) (hh : ∀ a j, F a j → E a j) : zKf E M M1 := ⟨fun a j hn => h.1 a j (fun q => hn (hh a j q)), h.2⟩
theorem mK.f {F : Nat → Nat → Prop} {M M1 : zM} (h : mK M M1) (hh : ∀ a j, mFrA a j → F a j) : zKf F M M1 := ⟨fun a j hn => h.1 a j (fun q => hn (hh a j q)), h.2⟩
-- a run of the model
def mFrB (a j : Nat) : Prop := (a = 300 ∧ ((16 ≤ j ∧ j ≤ 19) ∨ (24 ≤ j ∧ j ≤ 26))) ∨ a = 324 ∨ (1320 ≤ a ∧ a < 1368)
theorem mFrA_B (a j : Nat) (h : mFrA a j) : mFrB a j := by unfold mFrA at h; unfold mFrB; omega
/-- .. and the same but the commander and what is asked by then -/
def mFrC (a j : Nat) : Prop := mFrB a j ∧ ¬ (a = 300 ∧ (j = 17 ∨ 24 ≤ j))
def mG0 (c : Nat) (M : zM) : zM := zw (zw (zw (zw (zw (zw M 300 17 (nI c)) 300 18 (nI 0)) 300 19 (nI 0)) 300 24 (M.1 300 11)) 300 26 (M.1 (300 + 1 + 12) c)) 300 25 (nI 0)
def mGz (m : Nat) (k : Nat) (M : zM) : zM := zfor (fun r M => zw M (1000 + 16 * 22 + m) r (nI 0)) k M
def mGb (m : Nat) (M : zM) : zM := zw (zw M 300 25 (M.1 300 25 ||| (if mLiar M m then nI 1 <<< (nI m &&& 31) else nI 0))) (300 + 1 + 23) m (nI 0)
def mG1 (m : Nat) (M : zM) : zM := mGz m 5 (mGb m M)
def mGa (c k : Nat) (M : zM) : zM := zfor mG1 k (mG0 c M)
def mFs (n c t r : Nat) (m : Nat) (M : zM) : zM := if m = c then M else mFin n c t r m M
def mRa (c n : Nat) (mn : Nat → Option Nat) (r : Nat) (M : zM) : zM := if r = 1 then mF c mn n M else mNr c n r mn n M
def mRk (c n t : Nat) (mn : Nat → Option Nat) (r k : Nat) (M : zM) : zM := zfor (mFs n c t r) k (mRa c n mn r M)
def mGo (c n t : Nat) (mn : Nat → Option Nat) (k : Nat) (M : zM) : zM := zfor (fun i M => mRk c n t mn (i + 1) n M) k (mGa c n M)
theorem mGz_K {m k : Nat} (hm : m < 7) (M : zM) : zKf mFrB M (mGz m k M) := zKf.for k M (fun i M _ => zKf.rf.w (by unfold mFrB; omega))
theorem mGb_K (m : Nat) (M : zM) : zKf mFrB M (mGb m M) := (zKf.rf.w (by unfold mFrB; omega)).w (by unfold mFrB; omega)
theorem mG1_K {m : Nat} (hm : m < 7) (M : zM) : zKf mFrB M (mG1 m M) := (mGb_K m M).tr (mGz_K hm _)
theorem mG0_K (c : Nat) (M : zM) : zKf mFrB M (mG0 c M) := (((((zKf.rf.w (by unfold mFrB; omega)).w (by unfold mFrB; omega)).w (by unfold mFrB; omega)).w (by unfold mFrB; omega)).w (by unfold mFrB; omega)).w (by unfold mFrB; omega)
theorem mGa_K {c k : Nat} (hk : k ≤ 7) (M : zM) : zKf mFrB M (mGa c k M) := (mG0_K c M).tr (zKf.for k _ (fun i M hi => mG1_K (by omega) M))
theorem mG1_17 {m : Nat} (hm : m < 7) (M : zM) : (mG1 m M).1 300 17 = M.1 300 17 := by
  have h : ∀ k, (mGz m k (mGb m M)).1 300 17 = M.1 300 17 := fun k => by
    induction k with
    | zero => show (mGb m M).1 300 17 = _; unfold mGb; rw [zw_ne (by omega), zw_ne (by omega)]
    | succ k ih => show (zw (mGz m k _) _ _ _).1 300 17 = _; rw [zw_ne (by omega)]; exact ih
  exact h 5
theorem mGa_17 {c : Nat} (M : zM) : ∀ {k : Nat}, k ≤ 7 → (mGa c k M).1 300 17 = nI c
  | 0, _ => by show (mG0 c M).1 300 17 = _; unfold mG0; rw [zw_ne (by omega), zw_ne (by omega), zw_ne (by omega), zw_ne (by omega), zw_ne (by omega), zw_same]
  | k + 1, h => by show (mG1 k (mGa c k M)).1 300 17 = _; rw [mG1_17 (by omega)]; exact mGa_17 M (by omega)
theorem mFin_C {n c t r m : Nat} (hm : m < 7) (M : zM) : zKf mFrC M (mFin n c t r m M) := zKf.rf.w (by unfold mFrC mFrB; omega)
theorem mFs_C {n c t r m : Nat} (hm : m < 7) (M : zM) : zKf mFrC M (mFs n c t r m M) := by
  unfold mFs
  split
  · exact zKf.rf
  · exact mFin_C hm M
theorem mFrA_C (a j : Nat) (h : mFrA a j) : mFrC a j := by unfold mFrA at h; unfold mFrC mFrB; omega
theorem mRa_C {c n r : Nat} (hc : c < 7) (hn : n ≤ 7) (mn : Nat → Option Nat) (M : zM) : zKf mFrC M (mRa c n mn r M) := by
  unfold mRa
  split
  · exact (mF_K hc hn mn M).f mFrA_C
  · exact (mNr_K (by omega) hn mn M).f mFrA_C
theorem mRk_C {c n t r k : Nat} (hc : c < 7) (hn : n ≤ 7) (hk : k ≤ 7) (mn : Nat → Option Nat) (M : zM) : zKf mFrC M (mRk c n t mn r k M) := (mRa_C hc hn mn M).tr (zKf.for k _ (fun i M hi => mFs_C (by omega) M))
theorem mGo_C {c n t k : Nat} (hc : c < 7) (hn : n ≤ 7) (mn : Nat → Option Nat) (M : zM) : zKf mFrC (mGa c n M) (mGo c n t mn k M) := zKf.for k _ (fun i M _ => mRk_C hc hn hn mn M)
theorem mFrC_B (a j : Nat) (h : mFrC a j) : mFrB a j := h.1
theorem mGo_K {c n t k : Nat} (hc : c < 7) (hn : n ≤ 7) (mn : Nat → Option Nat) (M : zM) : zKf mFrB M (mGo c n t mn k M) := (mGa_K hn M).tr ((mGo_C hc hn mn M).mono mFrC_B)
theorem zKfB.ln {M M1 : zM} (h : zKf mFrB M M1) {mn : Nat → Option Nat} (e : mLn 0 M mn) : mLn 0 M1 mn := fun s hs => ⟨(h.1 _ _ (by unfold mFrB; omega)).trans (e s hs).1, (e s hs).2⟩
theorem mLiar_B {M M1 : zM} (h : zKf mFrB M M1) (m : Nat) : mLiar M1 m = mLiar M m := by unfold mLiar; rw [h.1 _ _ (by unfold mFrB; omega)]
set_option maxHeartbeats 1000000 in
theorem zc_goesBy (l : Launch) (G : zG) (M : zM) (n c t : Nat) (mn : Nat → Option Nat) (hn : M.1 300 9 = nI n) (hn7 : n ≤ 7) (ht : M.1 300 10 = nI t) (ht2 : t ≤ 2) (hc7 : c < 7) (h0 : 1 ≤ n) (htn : t + 1 ≤ n) (hmn : mLn 0 M mn) : zC l G 4 yX11_goesBy cX11_goesBy 4 (Option.none : Option Jvm.ClassFile.FieldType) [.ref (300 : Nat), .int (nI c)] M (zP none (mGo c n t mn (t + 1) M)) := by
  refine zC_of (by decide) (Nat.le_of_ble_eq_true rfl) (fun X Q hQ hX hl hR hr => ?_)
  refine zV_loc (L' := [.ref (300 : Nat), .int (nI c), .null, .null]) rfl ?_
  have J110 : ∀ v2 v3 : Value, zV G X Q 4 0 0 110 [.ref (300 : Nat), .int (nI c), v2, v3] [] (mGa c n M) := by
    intro v2 v3
    have L112 : ∀ (f9 q : Nat) (v3 : Value), t + 1 - q < f9 → q ≤ t + 1 → zV G X Q 4 0 0 112 [.ref (300 : Nat), .int (nI c), .int (nI (q + 1)), v3] [] (mGo c n t mn q M) := by
      intro f9
      induction f9 with
      | zero => intro q v3 hq1 hq2; exact absurd hq1 (Nat.not_lt_zero _)
      | succ f9 ih =>
        intro q v3 hq1 hq2
        have hO := mGo_K (t := t) (k := q) hc7 hn7 mn M
        have hC := (mGo_C (t := t) (k := q) hc7 hn7 mn M).at (mGa_17 M hn7) (by unfold mFrC mFrB; omega)
        have L141 : q < t + 1 → ∀ (f9 m : Nat), n - m < f9 → m ≤ n → zV G X Q 4 0 0 141 [.ref (300 : Nat), .int (nI c), .int (nI (q + 1)), .int (nI m)] [] (mRk c n t mn (q + 1) m (mGo c n t mn q M)) := by
          intro hq9
          intro f9
          induction f9 with
          | zero => intro m hm1 hm2; exact absurd hm1 (Nat.not_lt_zero _)
          | succ f9 ih2 =>
            intro m hm1 hm2
            have hR9 := hO.tr ((mRk_C (t := t) (r := q + 1) (k := m) hc7 hn7 (by omega) mn (mGo c n t mn q M)).mono mFrC_B)
            have hC9 := (mRk_C (t := t) (r := q + 1) (k := m) hc7 hn7 (by omega) mn (mGo c n t mn q M)).at hC (by unfold mFrC mFrB; omega)
            refine zV_iload_n hX dX11_goesBy_141 rfl ?_
            refine zV_aload_n hX dX11_goesBy_142 rfl ?_
            refine zV_geti hX dX11_goesBy_143 zf_X11_20 zo300.1 rfl (hR9.at hn (by unfold mFrB; omega)) ?_
            refine zV_icmp_geN hX (tgt := 169) dX11_goesBy_146 (by decide) ⟨by omega, by omega⟩ (fun c_146 => ?_) (fun c_146 => ?_)
            · refine zV_iincN hX (b := 1) dX11_goesBy_169 rfl (by decide) ?_
              dsimp only [zst1, zst2, zclr, zc2]
              refine zV_goto hX (tgt := 112) dX11_goesBy_172 (by decide) ?_
              obtain rfl : m = n := by omega
              exact ih (q + 1) _ (by omega) (by omega)
            · refine zV_iload_n hX dX11_goesBy_149 rfl ?_
              refine zV_aload_n hX dX11_goesBy_150 rfl ?_
              refine zV_geti hX dX11_goesBy_151 zf_X11_39 zo300.1 rfl (hC9) ?_
              refine zV_icmp_eqN hX (tgt := 163) dX11_goesBy_154 (by decide) ⟨by omega, by omega⟩ (fun c_154 => ?_) (fun c_154 => ?_)
              · have e9 : mFs n c t (q + 1) m (mRk c n t mn (q + 1) m (mGo c n t mn q M)) = (mRk c n t mn (q + 1) m (mGo c n t mn q M)) := if_pos c_154
                refine zV_iincN hX (b := 1) dX11_goesBy_163 rfl (by decide) ?_
                dsimp only [zst1, zst2, zclr, zc2]
                refine zV_goto hX (tgt := 141) dX11_goesBy_166 (by decide) ?_
                have h9 := ih2 (m + 1) (by omega) (by omega)
                rw [show mRk c n t mn (q + 1) (m + 1) (mGo c n t mn q M) = mFs n c t (q + 1) m (mRk c n t mn (q + 1) m (mGo c n t mn q M)) from rfl, e9] at h9
                exact h9
              · have e9 : mFs n c t (q + 1) m (mRk c n t mn (q + 1) m (mGo c n t mn q M)) = mFin n c t (q + 1) m (mRk c n t mn (q + 1) m (mGo c n t mn q M)) := if_neg c_154
                refine zV_aload_n hX dX11_goesBy_157 rfl ?_
                refine zV_iload_n hX dX11_goesBy_158 rfl ?_
                refine zV_iload_n hX dX11_goesBy_159 rfl ?_
                refine zV_cV2p hX hR hl dX11_goesBy_160 (zc_finds l G _ n c t m (q + 1) (hR9.at hn (by unfold mFrB; omega)) hn7 hC9 hc7 (hR9.at ht (by unfold mFrB; omega)) ht2 h0 (by omega) (by omega) (by omega) (by omega)) zt_X11_finds rfl zml_X11_352 zo300.1 ⟨by decide, by decide⟩ (Nat.le_of_ble_eq_true rfl) ?_
                dsimp only [Option.toList, List.cons_append, List.nil_append]
                refine zV_iincN hX (b := 1) dX11_goesBy_163 rfl (by decide) ?_
                dsimp only [zst1, zst2, zclr, zc2]
                refine zV_goto hX (tgt := 141) dX11_goesBy_166 (by decide) ?_
                have h9 := ih2 (m + 1) (by omega) (by omega)
                rw [show mRk c n t mn (q + 1) (m + 1) (mGo c n t mn q M) = mFs n c t (q + 1) m (mRk c n t mn (q + 1) m (mGo c n t mn q M)) from rfl, e9] at h9
                exact h9
        refine zV_iload_n hX dX11_goesBy_112 rfl ?_
        refine zV_aload_n hX dX11_goesBy_113 rfl ?_
        refine zV_geti hX dX11_goesBy_114 zf_X11_23 zo300.1 rfl (hO.at ht (by unfold mFrB; omega)) ?_
        refine zV_iconst hX (v := nI 1) dX11_goesBy_117 (by decide) ?_
        refine zV_iaddN hX dX11_goesBy_118 ?_
        refine zV_icmp_gtN hX (tgt := 175) dX11_goesBy_119 (by decide) ⟨by omega, by omega⟩ (fun c_119 => ?_) (fun c_119 => ?_)
        · exact zV_retv hX hQ hr (⟨rfl, by rw [show q = t + 1 by omega]⟩) dX11_goesBy_175
        · refine zV_iload_n hX dX11_goesBy_122 rfl ?_
          refine zV_iconst hX (v := nI 1) dX11_goesBy_123 (by decide) ?_
          refine zV_icmp_neN hX (tgt := 134) dX11_goesBy_124 (by decide) ⟨by omega, by omega⟩ (fun c_124 => ?_) (fun c_124 => ?_)
          · have e8 : mRa c n mn (q + 1) (mGo c n t mn q M) = mNr c n (q + 1) mn n (mGo c n t mn q M) := if_neg c_124
            refine zV_aload_n hX dX11_goesBy_134 rfl ?_
            refine zV_iload_n hX dX11_goesBy_135 rfl ?_
            refine zV_cV1p hX hR hl dX11_goesBy_136 (zc_nextRound l G _ n c (q + 1) mn (hO.at hn (by unfold mFrB; omega)) hn7 hC hc7 (zKfB.ln hO hmn) h0 (by omega) (by omega)) zt_X11_nextRound rfl zml_X11_349 zo300.1 ⟨by decide, by decide⟩ (Nat.le_of_ble_eq_true rfl) ?_
            dsimp only [Option.toList, List.cons_append, List.nil_append]
            refine zV_iconst hX (v := nI 0) dX11_goesBy_139 (by decide) ?_
            refine zV_istore_n hX dX11_goesBy_140 (by decide) ?_
            dsimp only [zst1, zst2, zclr, zc2]
            refine zV_mem e8.symm ?_
            exact L141 (by omega) (n + 1) 0 (by omega) (by omega)
          · have e8 : mRa c n mn (q + 1) (mGo c n t mn q M) = mF c mn n (mGo c n t mn q M) := if_pos c_124
            refine zV_aload_n hX dX11_goesBy_127 rfl ?_
            refine zV_cV0p hX hR hl dX11_goesBy_128 (zc_firstRound l G _ n c mn (hO.at hn (by unfold mFrB; omega)) hn7 hC hc7 (zKfB.ln hO hmn)) zt_X11_firstRound rfl zml_X11_346 zo300.1 ⟨by decide, by decide⟩ (Nat.le_of_ble_eq_true rfl) ?_
            dsimp only [Option.toList, List.cons_append, List.nil_append]
            refine zV_goto hX (tgt := 139) dX11_goesBy_131 (by decide) ?_
            refine zV_iconst hX (v := nI 0) dX11_goesBy_139 (by decide) ?_
            refine zV_istore_n hX dX11_goesBy_140 (by decide) ?_
            dsimp only [zst1, zst2, zclr, zc2]
            refine zV_mem e8.symm ?_
            exact L141 (by omega) (n + 1) 0 (by omega) (by omega)
    refine zV_iconst hX (v := nI 1) dX11_goesBy_110 (by decide) ?_
    refine zV_istore_n hX dX11_goesBy_111 (by decide) ?_
    dsimp only [zst1, zst2, zclr, zc2]
    exact L112 (t + 2) 0 _ (by omega) (by omega)
  have L43 : ∀ (f9 k : Nat) (v3 : Value), n - k < f9 → k ≤ n → zV G X Q 4 0 0 43 [.ref (300 : Nat), .int (nI c), .int (nI k), v3] [] (mGa c k M) := by
    intro f9
    induction f9 with
    | zero => intro k v3 hk1 hk2; exact absurd hk1 (Nat.not_lt_zero _)
    | succ f9 ih =>
      intro k v3 hk1 hk2
      have hA := mGa_K (c := c) (k := k) (by omega) M
      have L84 : k < n → ∀ (f9 z : Nat), 5 - z < f9 → z ≤ 5 → zV G X Q 4 0 0 84 [.ref (300 : Nat), .int (nI c), .int (nI k), .int (nI z)] [] (mGz k z (mGb k (mGa c k M))) := by
        intro c_48
        intro f9
        induction f9 with
        | zero => intro z hz1 hz2; exact absurd hz1 (Nat.not_lt_zero _)
        | succ f9 ih2 =>
          intro z hz1 hz2
          refine zV_iload_n hX dX11_goesBy_84 rfl ?_
          refine zV_iconst hX (v := nI 5) dX11_goesBy_85 (by decide) ?_
          refine zV_icmp_geN hX (tgt := 104) dX11_goesBy_86 (by decide) ⟨by omega, by omega⟩ (fun c_86 => ?_) (fun c_86 => ?_)
          · refine zV_iincN hX (b := 1) dX11_goesBy_104 rfl (by decide) ?_
            dsimp only [zst1, zst2, zclr, zc2]
            refine zV_goto hX (tgt := 43) dX11_goesBy_107 (by decide) ?_
            obtain rfl : z = 5 := by omega
            exact ih (k + 1) _ (by omega) (by omega)
          · refine zV_aload_n hX dX11_goesBy_89 rfl ?_
            refine zV_geta hX dX11_goesBy_90 zf_X11_50 zo300.1 rfl ?_
            refine zV_iload_n hX dX11_goesBy_93 rfl ?_
            refine zV_aald hX dX11_goesBy_94 (t := 0) (zo300.a 22 rfl) (by decide) (rfl) ⟨by omega, by omega⟩ (mRow 22 (by decide)) ?_
            refine zV_iload_n hX dX11_goesBy_95 rfl ?_
            refine zV_iconst hX (v := nI 0) dX11_goesBy_96 (by decide) ?_
            refine zV_iast hX dX11_goesBy_97 (mSh22 (by omega)) (rfl) ⟨by omega, by omega⟩ ?_
            refine zV_iincN hX (b := 1) dX11_goesBy_98 rfl (by decide) ?_
            dsimp only [zst1, zst2, zclr, zc2]
            refine zV_goto hX (tgt := 84) dX11_goesBy_101 (by decide) ?_
            exact ih2 (z + 1) (by omega) (by omega)
      refine zV_iload_n hX dX11_goesBy_43 rfl ?_
      refine zV_aload_n hX dX11_goesBy_44 rfl ?_
      refine zV_geti hX dX11_goesBy_45 zf_X11_20 zo300.1 rfl (hA.at hn (by unfold mFrB; omega)) ?_
      refine zV_icmp_geN hX (tgt := 110) dX11_goesBy_48 (by decide) ⟨by omega, by omega⟩ (fun c_48 => ?_) (fun c_48 => ?_)
      · obtain rfl : k = n := by omega
        exact J110 _ _
      · refine zV_aload_n hX dX11_goesBy_51 rfl ?_
        refine zV_dup hX dX11_goesBy_52 rfl ?_
        refine zV_geti hX dX11_goesBy_53 zf_X11_343 zo300.1 rfl rfl ?_
        refine zV_aload_n hX dX11_goesBy_56 rfl ?_
        refine zV_iload_n hX dX11_goesBy_57 rfl ?_
        refine zV_cV1p hX hR hl dX11_goesBy_58 (zc_misLiar l G _ k (by omega)) zt_X11_isLiar rfl zml_X11_295 zo300.1 ⟨by decide, by decide⟩ (Nat.le_of_ble_eq_true rfl) ?_
        dsimp only [Option.toList, List.cons_append, List.nil_append]
        refine zV_if_eqB hX (tgt := 70) dX11_goesBy_61 (by decide) (fun c_61 => ?_) (fun c_61 => ?_)
        · have e9 : mGb k (mGa c k M) = zw (zw (mGa c k M) 300 25 ((mGa c k M).1 300 25 ||| nI 0)) (300 + 1 + 23) k (nI 0) := by unfold mGb; rw [c_61]; rfl
          refine zV_iconst hX (v := nI 0) dX11_goesBy_70 (by decide) ?_
          refine zV_ior hX dX11_goesBy_71 ?_
          refine zV_puti hX dX11_goesBy_72 zf_X11_343 zp_9_25 zo300.1 rfl ?_
          refine zV_aload_n hX dX11_goesBy_75 rfl ?_
          refine zV_geta hX dX11_goesBy_76 zf_X11_53 zo300.1 rfl ?_
          refine zV_iload_n hX dX11_goesBy_79 rfl ?_
          refine zV_iconst hX (v := nI 0) dX11_goesBy_80 (by decide) ?_
          refine zV_iast hX dX11_goesBy_81 (zo300.a 23 rfl) (rfl) ⟨by omega, by omega⟩ ?_
          refine zV_iconst hX (v := nI 0) dX11_goesBy_82 (by decide) ?_
          refine zV_istore_n hX dX11_goesBy_83 (by decide) ?_
          dsimp only [zst1, zst2, zclr, zc2]
          refine zV_mem e9.symm ?_
          exact L84 c_48 6 0 (by omega) (by omega)
        · have e9 : mGb k (mGa c k M) = zw (zw (mGa c k M) 300 25 ((mGa c k M).1 300 25 ||| (nI 1 <<< (nI k &&& 31)))) (300 + 1 + 23) k (nI 0) := by unfold mGb; rw [c_61]; rfl
          refine zV_iconst hX (v := nI 1) dX11_goesBy_64 (by decide) ?_
          refine zV_iload_n hX dX11_goesBy_65 rfl ?_
          refine zV_ishl hX dX11_goesBy_66 ?_
          refine zV_goto hX (tgt := 71) dX11_goesBy_67 (by decide) ?_
          refine zV_ior hX dX11_goesBy_71 ?_
          refine zV_puti hX dX11_goesBy_72 zf_X11_343 zp_9_25 zo300.1 rfl ?_
          refine zV_aload_n hX dX11_goesBy_75 rfl ?_
          refine zV_geta hX dX11_goesBy_76 zf_X11_53 zo300.1 rfl ?_
          refine zV_iload_n hX dX11_goesBy_79 rfl ?_
          refine zV_iconst hX (v := nI 0) dX11_goesBy_80 (by decide) ?_
          refine zV_iast hX dX11_goesBy_81 (zo300.a 23 rfl) (rfl) ⟨by omega, by omega⟩ ?_
          refine zV_iconst hX (v := nI 0) dX11_goesBy_82 (by decide) ?_
          refine zV_istore_n hX dX11_goesBy_83 (by decide) ?_
          dsimp only [zst1, zst2, zclr, zc2]
          refine zV_mem e9.symm ?_
          exact L84 c_48 6 0 (by omega) (by omega)
  refine zV_aload_n hX dX11_goesBy_0 rfl ?_
  refine zV_iload_n hX dX11_goesBy_1 rfl ?_
  refine zV_puti hX dX11_goesBy_2 zf_X11_39 zp_9_17 zo300.1 rfl ?_
  refine zV_aload_n hX dX11_goesBy_5 rfl ?_
  refine zV_iconst hX (v := nI 0) dX11_goesBy_6 (by decide) ?_
  refine zV_puti hX dX11_goesBy_7 zf_X11_173 zp_9_18 zo300.1 rfl ?_
  refine zV_aload_n hX dX11_goesBy_10 rfl ?_
  refine zV_iconst hX (v := nI 0) dX11_goesBy_11 (by decide) ?_
  refine zV_puti hX dX11_goesBy_12 zf_X11_176 zp_9_19 zo300.1 rfl ?_
  refine zV_aload_n hX dX11_goesBy_15 rfl ?_
  refine zV_aload_n hX dX11_goesBy_16 rfl ?_
  refine zV_geti hX (x := M.1 300 11) dX11_goesBy_17 zf_X11_170 zo300.1 rfl (by (repeat rw [zw_ne (by omega)])) ?_
  refine zV_puti hX dX11_goesBy_20 zf_X11_307 zp_9_24 zo300.1 rfl ?_
  refine zV_aload_n hX dX11_goesBy_23 rfl ?_
  refine zV_aload_n hX dX11_goesBy_24 rfl ?_
  refine zV_geta hX dX11_goesBy_25 zf_X11_26 zo300.1 rfl ?_
  refine zV_aload_n hX dX11_goesBy_28 rfl ?_
  refine zV_geti hX dX11_goesBy_29 zf_X11_39 zo300.1 rfl (by rw [zw_ne (by omega), zw_ne (by omega), zw_ne (by omega), zw_same]) ?_
  refine zV_iald hX (v := M.1 (300 + 1 + 12) c) dX11_goesBy_32 (zo300.a 12 rfl) (rfl) ⟨by omega, by omega⟩ (by (repeat rw [zw_ne (by omega)])) ?_
  refine zV_puti hX dX11_goesBy_33 zf_X11_310 zp_9_26 zo300.1 rfl ?_
  refine zV_aload_n hX dX11_goesBy_36 rfl ?_
  refine zV_iconst hX (v := nI 0) dX11_goesBy_37 (by decide) ?_
  refine zV_puti hX dX11_goesBy_38 zf_X11_343 zp_9_25 zo300.1 rfl ?_
  refine zV_iconst hX (v := nI 0) dX11_goesBy_41 (by decide) ?_
  refine zV_istore_n hX dX11_goesBy_42 (by decide) ?_
  dsimp only [zst1, zst2, zclr, zc2]
  exact L43 (n + 1) 0 _ (by omega) (by omega)
def mOut (M : zM) (c : Nat) (w : Bool) (m : Nat) : Bool := !mTrue M m || (decide (m = c) && !w)
def mFst (M : zM) (n c t : Nat) (w : Bool) (m k : Nat) : Bool := zall (fun e => mOut M c w e || !(mDec M n c (t + 1) e == mDec M n c (t + 1) m)) k
def mUn (M : zM) (n c t : Nat) (w : Bool) (k : Nat) : Nat := zcnt (fun m => !mOut M c w m && mFst M n c t w m m) k
theorem zb_a1 (a : Bool) : zb a &&& nI 1 = zb (a && true) := by cases a <;> decide
theorem zb_a0 (a : Bool) : zb a &&& nI 0 = zb (a && false) := by cases a <;> decide
set_option maxHeartbeats 1000000 in
theorem zc_munlike (l : Launch) (G : zG) (M : zM) (n c t : Nat) (w : Bool) (hn : M.1 300 9 = nI n) (hn7 : n ≤ 7) (hcm : M.1 300 17 = nI c) (hc7 : c < 7) (ht : M.1 300 10 = nI t) (ht2 : t ≤ 2) : zC l G 6 yX11_unlike cX11_unlike 6 (Option.some Jvm.ClassFile.FieldType.int) [.ref (300 : Nat), .int (zb w)] M (zP (some (.int (nI (mUn M n c t w n)))) M) := by
  refine zC_of (by decide) (Nat.le_of_ble_eq_true rfl) (fun X Q hQ hX hl hR hr => ?_)
  refine zV_loc (L' := [.ref (300 : Nat), .int (zb w), .null, .null, .null, .null]) rfl ?_
  have L4 : ∀ (f9 m : Nat) (v4 v5 : Value), n - m < f9 → m ≤ n → zV G X Q 6 0 0 4 [.ref (300 : Nat), .int (zb w), .int (nI (mUn M n c t w m)), .int (nI m), v4, v5] [] M := by
    intro f9
    induction f9 with
    | zero => intro m v4 v5 hm1 hm2; exact absurd hm1 (Nat.not_lt_zero _)
    | succ f9 ih =>
      intro m v4 v5 hm1 hm2
      have J111 : m < n → mOut M c w m = false → ∀ v5 : Value, zV G X Q 6 0 0 111 [.ref (300 : Nat), .int (zb w), .int (nI (mUn M n c t w m)), .int (nI m), .int (zb (mFst M n c t w m m)), v5] [] M := by
        intro c_9 hx v5
        refine zV_iload_n hX dX11_unlike_111 rfl ?_
        refine zV_iload hX dX11_unlike_112 rfl ?_
        refine zV_if_eqB hX (tgt := 121) dX11_unlike_114 (by decide) (fun c_114 => ?_) (fun c_114 => ?_)
        · have e9 : (mUn M n c t w (m + 1)) = (mUn M n c t w m) + 0 := by unfold mUn; rw [zcnt_s]; simp [c_114]
          refine zV_iconst hX (v := nI 0) dX11_unlike_121 (by decide) ?_
          refine zV_iaddN hX dX11_unlike_122 ?_
          refine zV_istore_n hX dX11_unlike_123 (by decide) ?_
          dsimp only [zst1, zst2, zclr, zc2]
          refine zV_iincN hX (b := 1) dX11_unlike_124 rfl (by decide) ?_
          dsimp only [zst1, zst2, zclr, zc2]
          refine zV_goto hX (tgt := 4) dX11_unlike_127 (by decide) ?_
          have h9 := fun v4 v5 => ih (m + 1) v4 v5 (by omega) (by omega)
          simp only [e9] at h9
          exact h9 _ _
        · have e9 : (mUn M n c t w (m + 1)) = (mUn M n c t w m) + 1 := by unfold mUn; rw [zcnt_s]; simp [c_114, hx]
          refine zV_iconst hX (v := nI 1) dX11_unlike_117 (by decide) ?_
          refine zV_goto hX (tgt := 122) dX11_unlike_118 (by decide) ?_
          refine zV_iaddN hX dX11_unlike_122 ?_
          refine zV_istore_n hX dX11_unlike_123 (by decide) ?_
          dsimp only [zst1, zst2, zclr, zc2]
          refine zV_iincN hX (b := 1) dX11_unlike_124 rfl (by decide) ?_
          dsimp only [zst1, zst2, zclr, zc2]
          refine zV_goto hX (tgt := 4) dX11_unlike_127 (by decide) ?_
          have h9 := fun v4 v5 => ih (m + 1) v4 v5 (by omega) (by omega)
          simp only [e9] at h9
          exact h9 _ _
      have L41 : m < n → mOut M c w m = false → ∀ (f9 e : Nat), m - e < f9 → e ≤ m → zV G X Q 6 0 0 41 [.ref (300 : Nat), .int (zb w), .int (nI (mUn M n c t w m)), .int (nI m), .int (zb (mFst M n c t w m e)), .int (nI e)] [] M := by
        intro c_9 hx
        intro f9
        induction f9 with
        | zero => intro e he1 he2; exact absurd he1 (Nat.not_lt_zero _)
        | succ f9 ih2 =>
          intro e he1 he2
          refine zV_iload hX dX11_unlike_41 rfl ?_
          refine zV_iload_n hX dX11_unlike_43 rfl ?_
          refine zV_icmp_geN hX (tgt := 111) dX11_unlike_44 (by decide) ⟨by omega, by omega⟩ (fun c_44 => ?_) (fun c_44 => ?_)
          · obtain rfl : e = m := by omega
            exact J111 c_9 hx _
          · refine zV_iload hX dX11_unlike_47 rfl ?_
            refine zV_aload_n hX dX11_unlike_49 rfl ?_
            refine zV_iload hX dX11_unlike_50 rfl ?_
            refine zV_cV1p hX hR hl dX11_unlike_52 (zc_isTrue l G M e) zt_X11_isTrue rfl zml_X11_359 zo300.1 ⟨by decide, by decide⟩ (Nat.le_of_ble_eq_true rfl) ?_
            dsimp only [Option.toList, List.cons_append, List.nil_append]
            refine zV_if_eqB hX (tgt := 97) dX11_unlike_55 (by decide) (fun c_55 => ?_) (fun c_55 => ?_)
            · have e8 : (mFst M n c t w m (e + 1)) = ((mFst M n c t w m e) && true) := by show ((mFst M n c t w m e) && (mOut M c w e || !(mDec M n c (t + 1) e == mDec M n c (t + 1) m))) = _; congr 1; unfold mOut; rw [c_55]; rfl
              refine zV_iconst hX (v := nI 1) dX11_unlike_97 (by decide) ?_
              refine zV_goto hX (tgt := 102) dX11_unlike_98 (by decide) ?_
              refine zV_iand hX dX11_unlike_102 ?_
              refine zV_topi (zb (mFst M n c t w m (e + 1))) (by rw [e8]; first | exact zb_a1 _ | exact zb_a0 _) ?_
              refine zV_istore hX dX11_unlike_103 (by decide) ?_
              dsimp only [zst1, zst2, zclr, zc2]
              refine zV_iincN hX (b := 1) dX11_unlike_105 rfl (by decide) ?_
              dsimp only [zst1, zst2, zclr, zc2]
              refine zV_goto hX (tgt := 41) dX11_unlike_108 (by decide) ?_
              exact ih2 (e + 1) (by omega) (by omega)
            · refine zV_iload hX dX11_unlike_58 rfl ?_
              refine zV_aload_n hX dX11_unlike_60 rfl ?_
              refine zV_geti hX dX11_unlike_61 zf_X11_39 zo300.1 rfl (hcm) ?_
              refine zV_icmp_neN hX (tgt := 71) dX11_unlike_64 (by decide) ⟨by omega, by omega⟩ (fun c_64 => ?_) (fun c_64 => ?_)
              · refine zV_aload_n hX dX11_unlike_71 rfl ?_
                refine zV_iload hX dX11_unlike_72 rfl ?_
                refine zV_aload_n hX dX11_unlike_74 rfl ?_
                refine zV_geti hX dX11_unlike_75 zf_X11_23 zo300.1 rfl (ht) ?_
                refine zV_iconst hX (v := nI 1) dX11_unlike_78 (by decide) ?_
                refine zV_iaddN hX dX11_unlike_79 ?_
                refine zV_cV2p hX hR hl dX11_unlike_80 (zc_mdecided l G M n c (t + 1) e hn hn7 hcm hc7 (by omega) (by omega)) zt_X11_decided rfl zml_X11_362 zo300.1 ⟨by decide, by decide⟩ (Nat.le_of_ble_eq_true rfl) ?_
                dsimp only [Option.toList, List.cons_append, List.nil_append]
                refine zV_aload_n hX dX11_unlike_83 rfl ?_
                refine zV_iload_n hX dX11_unlike_84 rfl ?_
                refine zV_aload_n hX dX11_unlike_85 rfl ?_
                refine zV_geti hX dX11_unlike_86 zf_X11_23 zo300.1 rfl (ht) ?_
                refine zV_iconst hX (v := nI 1) dX11_unlike_89 (by decide) ?_
                refine zV_iaddN hX dX11_unlike_90 ?_
                refine zV_cV2p hX hR hl dX11_unlike_91 (zc_mdecided l G M n c (t + 1) m hn hn7 hcm hc7 (by omega) (by omega)) zt_X11_decided rfl zml_X11_362 zo300.1 ⟨by decide, by decide⟩ (Nat.le_of_ble_eq_true rfl) ?_
                dsimp only [Option.toList, List.cons_append, List.nil_append]
                refine zV_icmp_eq hX (tgt := 101) dX11_unlike_94 (by decide) (fun c_94 => ?_) (fun c_94 => ?_)
                · have ho : mOut M c w e = false := by unfold mOut; first | (rw [c_55, decide_eq_false c_64]; rfl) | (rw [c_55, c_68]; simp)
                  have e8 : (mFst M n c t w m (e + 1)) = ((mFst M n c t w m e) && false) := by show ((mFst M n c t w m e) && (mOut M c w e || !(mDec M n c (t + 1) e == mDec M n c (t + 1) m))) = _; congr 1; rw [ho, c_94]; simp
                  refine zV_iconst hX (v := nI 0) dX11_unlike_101 (by decide) ?_
                  refine zV_iand hX dX11_unlike_102 ?_
                  refine zV_topi (zb (mFst M n c t w m (e + 1))) (by rw [e8]; first | exact zb_a1 _ | exact zb_a0 _) ?_
                  refine zV_istore hX dX11_unlike_103 (by decide) ?_
                  dsimp only [zst1, zst2, zclr, zc2]
                  refine zV_iincN hX (b := 1) dX11_unlike_105 rfl (by decide) ?_
                  dsimp only [zst1, zst2, zclr, zc2]
                  refine zV_goto hX (tgt := 41) dX11_unlike_108 (by decide) ?_
                  exact ih2 (e + 1) (by omega) (by omega)
                · have e8 : (mFst M n c t w m (e + 1)) = ((mFst M n c t w m e) && true) := by show ((mFst M n c t w m e) && (mOut M c w e || !(mDec M n c (t + 1) e == mDec M n c (t + 1) m))) = _; congr 1; unfold mOut; rw [beq_false_of_ne c_94]; simp
                  refine zV_iconst hX (v := nI 1) dX11_unlike_97 (by decide) ?_
                  refine zV_goto hX (tgt := 102) dX11_unlike_98 (by decide) ?_
                  refine zV_iand hX dX11_unlike_102 ?_
                  refine zV_topi (zb (mFst M n c t w m (e + 1))) (by rw [e8]; first | exact zb_a1 _ | exact zb_a0 _) ?_
                  refine zV_istore hX dX11_unlike_103 (by decide) ?_
                  dsimp only [zst1, zst2, zclr, zc2]
                  refine zV_iincN hX (b := 1) dX11_unlike_105 rfl (by decide) ?_
                  dsimp only [zst1, zst2, zclr, zc2]
                  refine zV_goto hX (tgt := 41) dX11_unlike_108 (by decide) ?_
                  exact ih2 (e + 1) (by omega) (by omega)
              · refine zV_iload_n hX dX11_unlike_67 rfl ?_
                refine zV_if_eqB hX (tgt := 97) dX11_unlike_68 (by decide) (fun c_68 => ?_) (fun c_68 => ?_)
                · have e8 : (mFst M n c t w m (e + 1)) = ((mFst M n c t w m e) && true) := by show ((mFst M n c t w m e) && (mOut M c w e || !(mDec M n c (t + 1) e == mDec M n c (t + 1) m))) = _; congr 1; unfold mOut; rw [c_68, decide_eq_true c_64]; simp
                  refine zV_iconst hX (v := nI 1) dX11_unlike_97 (by decide) ?_
                  refine zV_goto hX (tgt := 102) dX11_unlike_98 (by decide) ?_
                  refine zV_iand hX dX11_unlike_102 ?_
                  refine zV_topi (zb (mFst M n c t w m (e + 1))) (by rw [e8]; first | exact zb_a1 _ | exact zb_a0 _) ?_
                  refine zV_istore hX dX11_unlike_103 (by decide) ?_
                  dsimp only [zst1, zst2, zclr, zc2]
                  refine zV_iincN hX (b := 1) dX11_unlike_105 rfl (by decide) ?_
                  dsimp only [zst1, zst2, zclr, zc2]
                  refine zV_goto hX (tgt := 41) dX11_unlike_108 (by decide) ?_
                  exact ih2 (e + 1) (by omega) (by omega)
                · refine zV_aload_n hX dX11_unlike_71 rfl ?_
                  refine zV_iload hX dX11_unlike_72 rfl ?_
                  refine zV_aload_n hX dX11_unlike_74 rfl ?_
                  refine zV_geti hX dX11_unlike_75 zf_X11_23 zo300.1 rfl (ht) ?_
                  refine zV_iconst hX (v := nI 1) dX11_unlike_78 (by decide) ?_
                  refine zV_iaddN hX dX11_unlike_79 ?_
                  refine zV_cV2p hX hR hl dX11_unlike_80 (zc_mdecided l G M n c (t + 1) e hn hn7 hcm hc7 (by omega) (by omega)) zt_X11_decided rfl zml_X11_362 zo300.1 ⟨by decide, by decide⟩ (Nat.le_of_ble_eq_true rfl) ?_
                  dsimp only [Option.toList, List.cons_append, List.nil_append]
                  refine zV_aload_n hX dX11_unlike_83 rfl ?_
                  refine zV_iload_n hX dX11_unlike_84 rfl ?_
                  refine zV_aload_n hX dX11_unlike_85 rfl ?_
                  refine zV_geti hX dX11_unlike_86 zf_X11_23 zo300.1 rfl (ht) ?_
                  refine zV_iconst hX (v := nI 1) dX11_unlike_89 (by decide) ?_
                  refine zV_iaddN hX dX11_unlike_90 ?_
                  refine zV_cV2p hX hR hl dX11_unlike_91 (zc_mdecided l G M n c (t + 1) m hn hn7 hcm hc7 (by omega) (by omega)) zt_X11_decided rfl zml_X11_362 zo300.1 ⟨by decide, by decide⟩ (Nat.le_of_ble_eq_true rfl) ?_
                  dsimp only [Option.toList, List.cons_append, List.nil_append]
                  refine zV_icmp_eq hX (tgt := 101) dX11_unlike_94 (by decide) (fun c_94 => ?_) (fun c_94 => ?_)
                  · have ho : mOut M c w e = false := by unfold mOut; first | (rw [c_55, decide_eq_false c_64]; rfl) | (rw [c_55, c_68]; simp)
                    have e8 : (mFst M n c t w m (e + 1)) = ((mFst M n c t w m e) && false) := by show ((mFst M n c t w m e) && (mOut M c w e || !(mDec M n c (t + 1) e == mDec M n c (t + 1) m))) = _; congr 1; rw [ho, c_94]; simp
                    refine zV_iconst hX (v := nI 0) dX11_unlike_101 (by decide) ?_
                    refine zV_iand hX dX11_unlike_102 ?_
                    refine zV_topi (zb (mFst M n c t w m (e + 1))) (by rw [e8]; first | exact zb_a1 _ | exact zb_a0 _) ?_
                    refine zV_istore hX dX11_unlike_103 (by decide) ?_
                    dsimp only [zst1, zst2, zclr, zc2]
                    refine zV_iincN hX (b := 1) dX11_unlike_105 rfl (by decide) ?_
                    dsimp only [zst1, zst2, zclr, zc2]
                    refine zV_goto hX (tgt := 41) dX11_unlike_108 (by decide) ?_
                    exact ih2 (e + 1) (by omega) (by omega)
                  · have e8 : (mFst M n c t w m (e + 1)) = ((mFst M n c t w m e) && true) := by show ((mFst M n c t w m e) && (mOut M c w e || !(mDec M n c (t + 1) e == mDec M n c (t + 1) m))) = _; congr 1; unfold mOut; rw [beq_false_of_ne c_94]; simp
                    refine zV_iconst hX (v := nI 1) dX11_unlike_97 (by decide) ?_
                    refine zV_goto hX (tgt := 102) dX11_unlike_98 (by decide) ?_
                    refine zV_iand hX dX11_unlike_102 ?_
                    refine zV_topi (zb (mFst M n c t w m (e + 1))) (by rw [e8]; first | exact zb_a1 _ | exact zb_a0 _) ?_
                    refine zV_istore hX dX11_unlike_103 (by decide) ?_
                    dsimp only [zst1, zst2, zclr, zc2]
                    refine zV_iincN hX (b := 1) dX11_unlike_105 rfl (by decide) ?_
                    dsimp only [zst1, zst2, zclr, zc2]
                    refine zV_goto hX (tgt := 41) dX11_unlike_108 (by decide) ?_
                    exact ih2 (e + 1) (by omega) (by omega)
      refine zV_iload_n hX dX11_unlike_4 rfl ?_
      refine zV_aload_n hX dX11_unlike_5 rfl ?_
      refine zV_geti hX dX11_unlike_6 zf_X11_20 zo300.1 rfl (hn) ?_
      refine zV_icmp_geN hX (tgt := 130) dX11_unlike_9 (by decide) ⟨by omega, by omega⟩ (fun c_9 => ?_) (fun c_9 => ?_)
      · refine zV_iload_n hX dX11_unlike_130 rfl ?_
        exact zV_reti hX hQ hr (⟨by rw [show m = n by omega], rfl⟩) dX11_unlike_131
      · refine zV_aload_n hX dX11_unlike_12 rfl ?_
        refine zV_iload_n hX dX11_unlike_13 rfl ?_
        refine zV_cV1p hX hR hl dX11_unlike_14 (zc_isTrue l G M m) zt_X11_isTrue rfl zml_X11_359 zo300.1 ⟨by decide, by decide⟩ (Nat.le_of_ble_eq_true rfl) ?_
        dsimp only [Option.toList, List.cons_append, List.nil_append]
        refine zV_if_eqB hX (tgt := 124) dX11_unlike_17 (by decide) (fun c_17 => ?_) (fun c_17 => ?_)
        · have hx : mOut M c w m = true := by unfold mOut; rw [c_17]; rfl
          have e9 : (mUn M n c t w (m + 1)) = (mUn M n c t w m) + 0 := by unfold mUn; rw [zcnt_s]; simp [hx]
          refine zV_iincN hX (b := 1) dX11_unlike_124 rfl (by decide) ?_
          dsimp only [zst1, zst2, zclr, zc2]
          refine zV_goto hX (tgt := 4) dX11_unlike_127 (by decide) ?_
          have h9 := fun v4 v5 => ih (m + 1) v4 v5 (by omega) (by omega)
          simp only [e9] at h9
          exact h9 _ _
        · refine zV_iload_n hX dX11_unlike_20 rfl ?_
          refine zV_aload_n hX dX11_unlike_21 rfl ?_
          refine zV_geti hX dX11_unlike_22 zf_X11_39 zo300.1 rfl (hcm) ?_
          refine zV_icmp_neN hX (tgt := 35) dX11_unlike_25 (by decide) ⟨by omega, by omega⟩ (fun c_25 => ?_) (fun c_25 => ?_)
          · have hx : mOut M c w m = false := by unfold mOut; rw [c_17, decide_eq_false c_25]; rfl
            refine zV_iconst hX (v := nI 1) dX11_unlike_35 (by decide) ?_
            refine zV_topi (zb (mFst M n c t w m 0)) rfl ?_
            refine zV_istore hX dX11_unlike_36 (by decide) ?_
            dsimp only [zst1, zst2, zclr, zc2]
            refine zV_iconst hX (v := nI 0) dX11_unlike_38 (by decide) ?_
            refine zV_istore hX dX11_unlike_39 (by decide) ?_
            dsimp only [zst1, zst2, zclr, zc2]
            exact L41 c_9 hx (m + 1) 0 (by omega) (by omega)
          · refine zV_iload_n hX dX11_unlike_28 rfl ?_
            refine zV_if_neB hX (tgt := 35) dX11_unlike_29 (by decide) (fun c_29 => ?_) (fun c_29 => ?_)
            · have hx : mOut M c w m = false := by unfold mOut; rw [c_17, c_29]; simp
              refine zV_iconst hX (v := nI 1) dX11_unlike_35 (by decide) ?_
              refine zV_topi (zb (mFst M n c t w m 0)) rfl ?_
              refine zV_istore hX dX11_unlike_36 (by decide) ?_
              dsimp only [zst1, zst2, zclr, zc2]
              refine zV_iconst hX (v := nI 0) dX11_unlike_38 (by decide) ?_
              refine zV_istore hX dX11_unlike_39 (by decide) ?_
              dsimp only [zst1, zst2, zclr, zc2]
              exact L41 c_9 hx (m + 1) 0 (by omega) (by omega)
            · have hx : mOut M c w m = true := by unfold mOut; rw [c_17, c_29, decide_eq_true c_25]; rfl
              have e9 : (mUn M n c t w (m + 1)) = (mUn M n c t w m) + 0 := by unfold mUn; rw [zcnt_s]; simp [hx]
              refine zV_goto hX (tgt := 124) dX11_unlike_32 (by decide) ?_
              refine zV_iincN hX (b := 1) dX11_unlike_124 rfl (by decide) ?_
              dsimp only [zst1, zst2, zclr, zc2]
              refine zV_goto hX (tgt := 4) dX11_unlike_127 (by decide) ?_
              have h9 := fun v4 v5 => ih (m + 1) v4 v5 (by omega) (by omega)
              simp only [e9] at h9
              exact h9 _ _
  refine zV_iconst hX (v := nI 0) dX11_unlike_0 (by decide) ?_
  refine zV_istore_n hX dX11_unlike_1 (by decide) ?_
  dsimp only [zst1, zst2, zclr, zc2]
  refine zV_iconst hX (v := nI 0) dX11_unlike_2 (by decide) ?_
  refine zV_istore_n hX dX11_unlike_3 (by decide) ?_
  dsimp only [zst1, zst2, zclr, zc2]
  exact L4 (n + 1) 0 _ _ (by omega) (by omega)
