-- ECHOES of the model
def mFrE (a j : Nat) : Prop := (a = 300 ∧ (j = 16 ∨ j = 47 ∨ j = 48 ∨ j = 58)) ∨ (354 ≤ a ∧ a ≤ 358) ∨ (1784 ≤ a ∧ a < 1839)
abbrev kE (M M' : zM) : Prop := zKf mFrE M M'
theorem kE.ln {M M1 : zM} (h : kE M M1) {mn : Nat → Option Nat} (e : mLn 0 M mn) : mLn 0 M1 mn := fun s hs => ⟨(h.1 _ _ (by unfold mFrE; omega)).trans (e s hs).1, (e s hs).2⟩
def mIv : Option (Option Int32) → Bool
  | some (some _) => true
  | _ => false
theorem mCode_0 {w : Option (Option Int32)} : mCode w = 0 ↔ w = none := by
  match w with
  | none => exact ⟨fun _ => rfl, fun _ => rfl⟩
  | some none => exact ⟨fun h => absurd h (by decide), fun h => nomatch h⟩
  | some (some v) => exact ⟨fun h => absurd h (Nat.succ_ne_zero 1), fun h => nomatch h⟩
theorem mCode_1 {w : Option (Option Int32)} : mCode w = 1 ↔ w = some none := by
  match w with
  | none => exact ⟨fun h => absurd h (by decide), fun h => nomatch h⟩
  | some none => exact ⟨fun _ => rfl, fun _ => rfl⟩
  | some (some v) => exact ⟨fun h => absurd h (by show ¬ 2 = 1; decide), fun h => nomatch h⟩
theorem mCode_2 {w : Option (Option Int32)} : mCode w = 2 ↔ mIv w = true := by
  match w with
  | none => exact ⟨fun h => absurd h (by decide), fun h => nomatch h⟩
  | some none => exact ⟨fun h => absurd h (by decide), fun h => nomatch h⟩
  | some (some v) => exact ⟨fun _ => rfl, fun _ => rfl⟩
theorem mIv_sa {w : Option (Option Int32)} {u d : Int32} (h : mIv w = true) : mSa w u = zval w d := by
  match w with
  | none => exact nomatch h
  | some none => exact nomatch h
  | some (some v) => rfl
theorem mIv_d {w : Option (Option Int32)} {d : Int32} (h : ¬ mIv w = true) : zval w d = d := by
  match w with
  | none => rfl
  | some none => rfl
  | some (some v) => exact absurd rfl h
def mCw (mn : Nat → Option Nat) (c r s x : Nat) (M : zM) : Option (Option Int32) := if x = s then some (some (M.1 (300 + 1 + 54) s)) else mSay (zw M 300 16 (M.1 (300 + 1 + 54) s)) mn s r x (nI c) (M.1 (300 + 1 + 54) s)
def mCm (mn : Nat → Option Nat) (c r s x : Nat) (M : zM) : zM := if x = s then zw M 300 16 (M.1 (300 + 1 + 54) s) else mCt (mCw mn c r s x M) (M.1 (300 + 1 + 54) s) (zw M 300 16 (M.1 (300 + 1 + 54) s))
def mCx (mn : Nat → Option Nat) (c r ka kb s x : Nat) (M : zM) : zM := zw (zw (mCm mn c r s x M) (1000 + 16 * ka + x) s (zval (mCw mn c r s x M) (nI 0))) (1000 + 16 * kb + x) s (zb (mIv (mCw mn c r s x M)))
def mCX (mn : Nat → Option Nat) (c r ka kb s k : Nat) (M : zM) : zM := zfor (mCx mn c r ka kb s) k M
def mCs (n : Nat) (mn : Nat → Option Nat) (c r ka kb s : Nat) (M : zM) : zM := if M.1 (300 + 1 + 57) s = 0 then M else mCX mn c r ka kb s n M
def mCalls (n : Nat) (mn : Nat → Option Nat) (c r ka kb k : Nat) (M : zM) : zM := zfor (mCs n mn c r ka kb) k M
/-- what one call to all may change -/
def mFrX (ka kb a j : Nat) : Prop := (a = 300 ∧ (j = 16 ∨ j = 47 ∨ j = 48)) ∨ (1000 + 16 * ka ≤ a ∧ a < 1007 + 16 * ka) ∨ (1000 + 16 * kb ≤ a ∧ a < 1007 + 16 * kb)
theorem mFrX_E {ka kb : Nat} (h : (ka = 49 ∧ kb = 51) ∨ (ka = 50 ∧ kb = 52)) (a j : Nat) (q : mFrX ka kb a j) : mFrE a j := by unfold mFrX at q; unfold mFrE; omega
theorem mCm_X {ka kb : Nat} (mn : Nat → Option Nat) (c r s x : Nat) (M : zM) : zKf (mFrX ka kb) M (mCm mn c r s x M) := by
  have h0 : zKf (mFrX ka kb) M (zw M 300 16 (M.1 (300 + 1 + 54) s)) := zKf.rf.w (by unfold mFrX; omega)
  unfold mCm
  split
  · exact h0
  · unfold mCt mSb
    exact ((h0.w (by unfold mFrX; omega)).w (by unfold mFrX; omega)).w (by unfold mFrX; omega)
theorem mCx_X {ka kb x : Nat} (hx : x < 7) (mn : Nat → Option Nat) (c r s : Nat) (M : zM) : zKf (mFrX ka kb) M (mCx mn c r ka kb s x M) := ((mCm_X mn c r s x M).w (by unfold mFrX; omega)).w (by unfold mFrX; omega)
theorem mCX_X {ka kb k : Nat} (hk : k ≤ 7) (mn : Nat → Option Nat) (c r s : Nat) (M : zM) : zKf (mFrX ka kb) M (mCX mn c r ka kb s k M) := zKf.for k M (fun i M hi => mCx_X (by omega) mn c r s M)
theorem mCs_X {ka kb n : Nat} (hn : n ≤ 7) (mn : Nat → Option Nat) (c r s : Nat) (M : zM) : zKf (mFrX ka kb) M (mCs n mn c r ka kb s M) := by
  unfold mCs
  split
  · exact zKf.rf
  · exact mCX_X hn mn c r s M
theorem mCalls_X {ka kb n k : Nat} (hn : n ≤ 7) (mn : Nat → Option Nat) (c r : Nat) (M : zM) : zKf (mFrX ka kb) M (mCalls n mn c r ka kb k M) := zKf.for k M (fun i M _ => mCs_X hn mn c r i M)
theorem mRow_lt (k : Nat) (h : (decide (k < 64) && !decide (k = 14)) = true) : k < 64 := by
  simp only [Bool.and_eq_true, decide_eq_true_eq] at h
  exact h.1
/-- the slots of what is told, and whether it is -/
def mKab (ka kb : Nat) : Prop := (ka = 49 ∧ kb = 51) ∨ (ka = 50 ∧ kb = 52)
theorem mKab.sa {ka kb : Nat} (h : mKab ka kb) : zSh (300 + 1 + ka) = (24, 7) := by rcases h with ⟨rfl, rfl⟩ | ⟨rfl, rfl⟩ <;> decide +kernel
theorem mKab.sb {ka kb : Nat} (h : mKab ka kb) : zSh (300 + 1 + kb) = (25, 7) := by rcases h with ⟨rfl, rfl⟩ | ⟨rfl, rfl⟩ <;> decide +kernel
theorem mKab.ra {ka kb x : Nat} (h : mKab ka kb) (hx : x < 7) : zSh (1000 + 16 * ka + x) = (20, 7) := by
  rcases h with ⟨rfl, rfl⟩ | ⟨rfl, rfl⟩
  · exact mSh49 hx
  · exact mSh50 hx
theorem mKab.rb {ka kb x : Nat} (h : mKab ka kb) (hx : x < 7) : zSh (1000 + 16 * kb + x) = (21, 7) := by
  rcases h with ⟨rfl, rfl⟩ | ⟨rfl, rfl⟩
  · exact mSh51 hx
  · exact mSh52 hx
theorem mKab.ca {ka kb x : Nat} (h : mKab ka kb) : zCh (300 + 1 + ka) x = 1000 + 16 * ka + x := mRow ka (by rcases h with ⟨rfl, rfl⟩ | ⟨rfl, rfl⟩ <;> rfl)
theorem mKab.cb {ka kb x : Nat} (h : mKab ka kb) : zCh (300 + 1 + kb) x = 1000 + 16 * kb + x := mRow kb (by rcases h with ⟨rfl, rfl⟩ | ⟨rfl, rfl⟩ <;> rfl)
theorem mCm_16 (mn : Nat → Option Nat) (c r s x : Nat) (M : zM) : (mCm mn c r s x M).1 300 16 = mSa (mCw mn c r s x M) (M.1 (300 + 1 + 54) s) := by
  unfold mCm
  by_cases h : x = s
  · rw [if_pos h, zw_same]
    unfold mCw
    rw [if_pos h]; rfl
  · rw [if_neg h]
    unfold mCt
    rw [zw_ne (by omega), zw_ne (by omega)]
    exact zw_same
theorem zKfX.ln {ka kb : Nat} (hab : mKab ka kb) {M M1 : zM} (h : zKf (mFrX ka kb) M M1) {mn : Nat → Option Nat} (e : mLn 0 M mn) : mLn 0 M1 mn := fun s hs => ⟨(h.1 _ _ (by unfold mFrX; rcases hab with ⟨rfl, rfl⟩ | ⟨rfl, rfl⟩ <;> omega)).trans (e s hs).1, (e s hs).2⟩
theorem mLn_16 {M : zM} {mn : Nat → Option Nat} {x : Int32} (e : mLn 0 M mn) : mLn 0 (zw M 300 16 x) mn := fun s hs => ⟨(zw_ne (by omega)).trans (e s hs).1, (e s hs).2⟩
set_option maxRecDepth 4000 in
set_option maxHeartbeats 1000000 in
theorem zc_calls (l : Launch) (G : zG) (M : zM) (n c q ka kb : Nat) (mn : Nat → Option Nat) (hn : M.1 300 9 = nI n) (hn7 : n ≤ 7) (hab : mKab ka kb) (hmn : mLn 0 M mn) : zC l G 2 yX11_calls cX11_calls 8 (Option.none : Option Jvm.ClassFile.FieldType) [.ref (300 : Nat), .int (nI q), .int (nI c), .ref (300 + 1 + ka), .ref (300 + 1 + kb)] M (zP none (mCalls n mn c q ka kb n M)) := by
  refine zC_of (by decide) (Nat.le_of_ble_eq_true rfl) (fun X Q hQ hX hl hR hr => ?_)
  refine zV_loc (L' := [.ref (300 : Nat), .int (nI q), .int (nI c), .ref (300 + 1 + ka), .ref (300 + 1 + kb), .null, .null, .null]) rfl ?_
  have L3 : ∀ (f9 s : Nat) (v6 v7 : Value), n - s < f9 → s ≤ n → zV G X Q 8 0 0 3 [.ref (300 : Nat), .int (nI q), .int (nI c), .ref (300 + 1 + ka), .ref (300 + 1 + kb), .int (nI s), v6, v7] [] (mCalls n mn c q ka kb s M) := by
    intro f9
    induction f9 with
    | zero => intro s v6 v7 hs1 hs2; exact absurd hs1 (Nat.not_lt_zero _)
    | succ f9 ih =>
      intro s v6 v7 hs1 hs2
      have hA := mCalls_X (ka := ka) (kb := kb) (k := s) hn7 mn c q M
      have J162 : s < n → ∀ v6 v7 : Value, zV G X Q 8 0 0 162 [.ref (300 : Nat), .int (nI q), .int (nI c), .ref (300 + 1 + ka), .ref (300 + 1 + kb), .int (nI s), v6, v7] [] (mCalls n mn c q ka kb (s + 1) M) := by
        intro c_9 v6 v7
        refine zV_iincN hX (b := 1) dX11_calls_162 rfl (by decide) ?_
        dsimp only [zst1, zst2, zclr, zc2]
        refine zV_goto hX (tgt := 3) dX11_calls_165 (by decide) ?_
        exact ih (s + 1) _ _ (by omega) (by omega)
      have L28 : s < n → mCs n mn c q ka kb s (mCalls n mn c q ka kb s M) = mCX mn c q ka kb s n (mCalls n mn c q ka kb s M) → ∀ (f9 x : Nat) (v7 : Value), n - x < f9 → x ≤ n → zV G X Q 8 0 0 28 [.ref (300 : Nat), .int (nI q), .int (nI c), .ref (300 + 1 + ka), .ref (300 + 1 + kb), .int (nI s), .int (nI x), v7] [] (mCX mn c q ka kb s x (mCalls n mn c q ka kb s M)) := by
        intro c_9 e9
        intro f9
        induction f9 with
        | zero => intro x v7 hx1 hx2; exact absurd hx1 (Nat.not_lt_zero _)
        | succ f9 ih2 =>
          intro x v7 hx1 hx2
          have hB := hA.tr (mCX_X (ka := ka) (kb := kb) (k := x) (by omega) mn c q s (mCalls n mn c q ka kb s M))
          have J155 : s < n → x < n → zV G X Q 8 0 0 155 [.ref (300 : Nat), .int (nI q), .int (nI c), .ref (300 + 1 + ka), .ref (300 + 1 + kb), .int (nI s), .int (nI x), .int (nI (mCode (mCw mn c q s x (mCX mn c q ka kb s x (mCalls n mn c q ka kb s M)))))] [.int (zb (mIv (mCw mn c q s x (mCX mn c q ka kb s x (mCalls n mn c q ka kb s M))))), .int (nI s), .ref (1000 + 16 * kb + x)] (zw (mCm mn c q s x (mCX mn c q ka kb s x (mCalls n mn c q ka kb s M))) (1000 + 16 * ka + x) s (zval (mCw mn c q s x (mCX mn c q ka kb s x (mCalls n mn c q ka kb s M))) (nI 0))) := by
            intro c_9 c_34
            refine zV_zast hX dX11_calls_155 (hab.rb (show x < 7 by omega)) (rfl) ⟨by omega, by omega⟩ (zb_01 _) ?_
            refine zV_iincN hX (b := 1) dX11_calls_156 rfl (by decide) ?_
            dsimp only [zst1, zst2, zclr, zc2]
            refine zV_goto hX (tgt := 28) dX11_calls_159 (by decide) ?_
            exact ih2 (x + 1) _ (by omega) (by omega)
          have J136 : s < n → x < n → zV G X Q 8 0 0 136 [.ref (300 : Nat), .int (nI q), .int (nI c), .ref (300 + 1 + ka), .ref (300 + 1 + kb), .int (nI s), .int (nI x), .int (nI (mCode (mCw mn c q s x (mCX mn c q ka kb s x (mCalls n mn c q ka kb s M)))))] [.int (zval (mCw mn c q s x (mCX mn c q ka kb s x (mCalls n mn c q ka kb s M))) (nI 0)), .int (nI s), .ref (1000 + 16 * ka + x)] (mCm mn c q s x (mCX mn c q ka kb s x (mCalls n mn c q ka kb s M))) := by
            intro c_9 c_34
            have hcl := mCode_lt (mCw mn c q s x (mCX mn c q ka kb s x (mCalls n mn c q ka kb s M)))
            refine zV_iast hX dX11_calls_136 (hab.ra (show x < 7 by omega)) (rfl) ⟨by omega, by omega⟩ ?_
            refine zV_aload hX dX11_calls_137 rfl ?_
            refine zV_iload hX dX11_calls_139 rfl ?_
            refine zV_aald hX dX11_calls_141 (t := 1) hab.sb (by decide) (rfl) ⟨by omega, by omega⟩ (hab.cb) ?_
            refine zV_iload hX dX11_calls_142 rfl ?_
            refine zV_iload hX dX11_calls_144 rfl ?_
            refine zV_iconst hX (v := nI 2) dX11_calls_146 (by decide) ?_
            refine zV_icmp_neN hX (tgt := 154) dX11_calls_147 (by decide) ⟨by omega, by omega⟩ (fun c_147 => ?_) (fun c_147 => ?_)
            · have e6 : zb (mIv (mCw mn c q s x (mCX mn c q ka kb s x (mCalls n mn c q ka kb s M)))) = nI 0 := by rw [show mIv (mCw mn c q s x (mCX mn c q ka kb s x (mCalls n mn c q ka kb s M))) = false by cases h : mIv (mCw mn c q s x (mCX mn c q ka kb s x (mCalls n mn c q ka kb s M))) with | false => rfl | true => exact absurd (mCode_2.mpr h) c_147]; rfl
              refine zV_iconst hX (v := nI 0) dX11_calls_154 (by decide) ?_
              refine zV_topi _ e6.symm ?_
              exact J155 c_9 c_34
            · have e6 : zb (mIv (mCw mn c q s x (mCX mn c q ka kb s x (mCalls n mn c q ka kb s M)))) = nI 1 := by rw [mCode_2.mp c_147]; rfl
              refine zV_iconst hX (v := nI 1) dX11_calls_150 (by decide) ?_
              refine zV_goto hX (tgt := 155) dX11_calls_151 (by decide) ?_
              refine zV_topi _ e6.symm ?_
              exact J155 c_9 c_34
          have J116 : s < n → x < n → zV G X Q 8 0 0 116 [.ref (300 : Nat), .int (nI q), .int (nI c), .ref (300 + 1 + ka), .ref (300 + 1 + kb), .int (nI s), .int (nI x), .int (nI (mCode (mCw mn c q s x (mCX mn c q ka kb s x (mCalls n mn c q ka kb s M)))))] [] (mCm mn c q s x (mCX mn c q ka kb s x (mCalls n mn c q ka kb s M))) := by
            intro c_9 c_34
            have hM1 := hB.tr (mCm_X (ka := ka) (kb := kb) mn c q s x (mCX mn c q ka kb s x (mCalls n mn c q ka kb s M)))
            have hcl := mCode_lt (mCw mn c q s x (mCX mn c q ka kb s x (mCalls n mn c q ka kb s M)))
            refine zV_aload_n hX dX11_calls_116 rfl ?_
            refine zV_iload hX dX11_calls_117 rfl ?_
            refine zV_aald hX dX11_calls_119 (t := 0) hab.sa (by decide) (rfl) ⟨by omega, by omega⟩ (hab.ca) ?_
            refine zV_iload hX dX11_calls_120 rfl ?_
            refine zV_iload hX dX11_calls_122 rfl ?_
            refine zV_iconst hX (v := nI 2) dX11_calls_124 (by decide) ?_
            refine zV_icmp_neN hX (tgt := 135) dX11_calls_125 (by decide) ⟨by omega, by omega⟩ (fun c_125 => ?_) (fun c_125 => ?_)
            · have e6 : zval (mCw mn c q s x (mCX mn c q ka kb s x (mCalls n mn c q ka kb s M))) (nI 0) = nI 0 := mIv_d (fun z => c_125 (mCode_2.mpr z))
              refine zV_iconst hX (v := nI 0) dX11_calls_135 (by decide) ?_
              refine zV_topi _ e6.symm ?_
              exact J136 c_9 c_34
            · have e6 : zval (mCw mn c q s x (mCX mn c q ka kb s x (mCalls n mn c q ka kb s M))) (nI 0) = zval (mCw mn c q s x (mCX mn c q ka kb s x (mCalls n mn c q ka kb s M))) (nI 0) := rfl
              refine zV_aload_n hX dX11_calls_128 rfl ?_
              refine zV_geti hX (x := zval (mCw mn c q s x (mCX mn c q ka kb s x (mCalls n mn c q ka kb s M))) (nI 0)) dX11_calls_129 zf_X11_298 zo300.1 rfl ((mCm_16 mn c q s x (mCX mn c q ka kb s x (mCalls n mn c q ka kb s M))).trans (mIv_sa (mCode_2.mp c_125))) ?_
              refine zV_goto hX (tgt := 136) dX11_calls_132 (by decide) ?_
              refine zV_topi _ e6.symm ?_
              exact J136 c_9 c_34
          have J112 : s < n → x < n → (mCm mn c q s x (mCX mn c q ka kb s x (mCalls n mn c q ka kb s M))) = mCt (mCw mn c q s x (mCX mn c q ka kb s x (mCalls n mn c q ka kb s M))) ((mCX mn c q ka kb s x (mCalls n mn c q ka kb s M)).1 (300 + 1 + 54) s) (zw (mCX mn c q ka kb s x (mCalls n mn c q ka kb s M)) 300 16 ((mCX mn c q ka kb s x (mCalls n mn c q ka kb s M)).1 (300 + 1 + 54) s)) → zV G X Q 8 0 0 112 [.ref (300 : Nat), .int (nI q), .int (nI c), .ref (300 + 1 + ka), .ref (300 + 1 + kb), .int (nI s), .int (nI x), .int (nI (mCode (mCw mn c q s x (mCX mn c q ka kb s x (mCalls n mn c q ka kb s M)))))] [.int (if (mCw mn c q s x (mCX mn c q ka kb s x (mCalls n mn c q ka kb s M))) = some none then nI 1 else nI 0), .int ((zw (mCX mn c q ka kb s x (mCalls n mn c q ka kb s M)) 300 16 ((mCX mn c q ka kb s x (mCalls n mn c q ka kb s M)).1 (300 + 1 + 54) s)).1 300 48), .ref (300 : Nat)] (zw (mSb (mCw mn c q s x (mCX mn c q ka kb s x (mCalls n mn c q ka kb s M))) ((mCX mn c q ka kb s x (mCalls n mn c q ka kb s M)).1 (300 + 1 + 54) s) (zw (mCX mn c q ka kb s x (mCalls n mn c q ka kb s M)) 300 16 ((mCX mn c q ka kb s x (mCalls n mn c q ka kb s M)).1 (300 + 1 + 54) s))) 300 47 ((zw (mCX mn c q ka kb s x (mCalls n mn c q ka kb s M)) 300 16 ((mCX mn c q ka kb s x (mCalls n mn c q ka kb s M)).1 (300 + 1 + 54) s)).1 300 47 + (if (mCw mn c q s x (mCX mn c q ka kb s x (mCalls n mn c q ka kb s M))) = none then nI 0 else nI 1))) := by
            intro c_9 c_34 e7
            have hcl := mCode_lt (mCw mn c q s x (mCX mn c q ka kb s x (mCalls n mn c q ka kb s M)))
            refine zV_iadd hX dX11_calls_112 ?_
            refine zV_puti hX dX11_calls_113 zf_X11_444 zp_9_48 zo300.1 rfl ?_
            first | (refine zV_loc (L' := [.ref (300 : Nat), .int (nI q), .int (nI c), .ref (300 + 1 + ka), .ref (300 + 1 + kb), .int (nI s), .int (nI x), .int (nI (mCode (mCw mn c q s x (mCX mn c q ka kb s x (mCalls n mn c q ka kb s M)))))]) (by rw [e8]; rfl) ?_; exact zV_mem e7.symm (J116 c_9 c_34)) | (refine zV_mem (show _ = (mCm mn c q s x (mCX mn c q ka kb s x (mCalls n mn c q ka kb s M))) by rw [e7]; unfold mCt; rfl) (J116 c_9 c_34))
          have J92 : s < n → x < n → (mCm mn c q s x (mCX mn c q ka kb s x (mCalls n mn c q ka kb s M))) = mCt (mCw mn c q s x (mCX mn c q ka kb s x (mCalls n mn c q ka kb s M))) ((mCX mn c q ka kb s x (mCalls n mn c q ka kb s M)).1 (300 + 1 + 54) s) (zw (mCX mn c q ka kb s x (mCalls n mn c q ka kb s M)) 300 16 ((mCX mn c q ka kb s x (mCalls n mn c q ka kb s M)).1 (300 + 1 + 54) s)) → zV G X Q 8 0 0 92 [.ref (300 : Nat), .int (nI q), .int (nI c), .ref (300 + 1 + ka), .ref (300 + 1 + kb), .int (nI s), .int (nI x), .int (nI (mCode (mCw mn c q s x (mCX mn c q ka kb s x (mCalls n mn c q ka kb s M)))))] [.int (if (mCw mn c q s x (mCX mn c q ka kb s x (mCalls n mn c q ka kb s M))) = none then nI 0 else nI 1), .int ((zw (mCX mn c q ka kb s x (mCalls n mn c q ka kb s M)) 300 16 ((mCX mn c q ka kb s x (mCalls n mn c q ka kb s M)).1 (300 + 1 + 54) s)).1 300 47), .ref (300 : Nat)] (mSb (mCw mn c q s x (mCX mn c q ka kb s x (mCalls n mn c q ka kb s M))) ((mCX mn c q ka kb s x (mCalls n mn c q ka kb s M)).1 (300 + 1 + 54) s) (zw (mCX mn c q ka kb s x (mCalls n mn c q ka kb s M)) 300 16 ((mCX mn c q ka kb s x (mCalls n mn c q ka kb s M)).1 (300 + 1 + 54) s))) := by
            intro c_9 c_34 e7
            have hcl := mCode_lt (mCw mn c q s x (mCX mn c q ka kb s x (mCalls n mn c q ka kb s M)))
            refine zV_iadd hX dX11_calls_92 ?_
            refine zV_puti hX dX11_calls_93 zf_X11_441 zp_9_47 zo300.1 rfl ?_
            refine zV_aload_n hX dX11_calls_96 rfl ?_
            refine zV_dup hX dX11_calls_97 rfl ?_
            refine zV_geti hX (x := (zw (mCX mn c q ka kb s x (mCalls n mn c q ka kb s M)) 300 16 ((mCX mn c q ka kb s x (mCalls n mn c q ka kb s M)).1 (300 + 1 + 54) s)).1 300 48) dX11_calls_98 zf_X11_444 zo300.1 rfl (by unfold mSb; rw [zw_ne (by omega), zw_ne (by omega)]) ?_
            refine zV_iload hX dX11_calls_101 rfl ?_
            refine zV_iconst hX (v := nI 1) dX11_calls_103 (by decide) ?_
            refine zV_icmp_neN hX (tgt := 111) dX11_calls_104 (by decide) ⟨by omega, by omega⟩ (fun c_104 => ?_) (fun c_104 => ?_)
            · have e6 : (if (mCw mn c q s x (mCX mn c q ka kb s x (mCalls n mn c q ka kb s M))) = some none then nI 1 else nI 0) = nI 0 := if_neg (fun z => c_104 (mCode_1.mpr z))
              refine zV_iconst hX (v := nI 0) dX11_calls_111 (by decide) ?_
              refine zV_topi _ e6.symm ?_
              exact J112 c_9 c_34 e7
            · have e6 : (if (mCw mn c q s x (mCX mn c q ka kb s x (mCalls n mn c q ka kb s M))) = some none then nI 1 else nI 0) = nI 1 := if_pos (mCode_1.mp c_104)
              refine zV_iconst hX (v := nI 1) dX11_calls_107 (by decide) ?_
              refine zV_goto hX (tgt := 112) dX11_calls_108 (by decide) ?_
              refine zV_topi _ e6.symm ?_
              exact J112 c_9 c_34 e7
          refine zV_iload hX dX11_calls_28 rfl ?_
          refine zV_aload_n hX dX11_calls_30 rfl ?_
          refine zV_geti hX dX11_calls_31 zf_X11_20 zo300.1 rfl (hB.at hn (by unfold mFrX; rcases hab with ⟨rfl, rfl⟩ | ⟨rfl, rfl⟩ <;> omega)) ?_
          refine zV_icmp_geN hX (tgt := 162) dX11_calls_34 (by decide) ⟨by omega, by omega⟩ (fun c_34 => ?_) (fun c_34 => ?_)
          · have hxn : x = n := by omega
            refine zV_mem (show _ = mCalls n mn c q ka kb (s + 1) M by show _ = mCs n mn c q ka kb s (mCalls n mn c q ka kb s M); rw [e9, hxn]) (J162 c_9 _ _)
          · refine zV_iconst hX (v := nI 2) dX11_calls_37 (by decide) ?_
            refine zV_istore hX dX11_calls_38 (by decide) ?_
            dsimp only [zst1, zst2, zclr, zc2]
            refine zV_aload_n hX dX11_calls_40 rfl ?_
            refine zV_aload_n hX dX11_calls_41 rfl ?_
            refine zV_geta hX dX11_calls_42 zf_X11_116 zo300.1 rfl ?_
            refine zV_iload hX dX11_calls_45 rfl ?_
            refine zV_iald hX dX11_calls_47 (zo300.a 54 rfl) (rfl) ⟨by omega, by omega⟩ (rfl) ?_
            refine zV_puti hX dX11_calls_48 zf_X11_298 zp_9_16 zo300.1 rfl ?_
            refine zV_iload hX dX11_calls_51 rfl ?_
            refine zV_iload hX dX11_calls_53 rfl ?_
            refine zV_icmp_eqN hX (tgt := 116) dX11_calls_55 (by decide) ⟨by omega, by omega⟩ (fun c_55 => ?_) (fun c_55 => ?_)
            · have e8 : (mCw mn c q s x (mCX mn c q ka kb s x (mCalls n mn c q ka kb s M))) = some (some ((mCX mn c q ka kb s x (mCalls n mn c q ka kb s M)).1 (300 + 1 + 54) s)) := if_pos c_55
              have e7 : (mCm mn c q s x (mCX mn c q ka kb s x (mCalls n mn c q ka kb s M))) = (zw (mCX mn c q ka kb s x (mCalls n mn c q ka kb s M)) 300 16 ((mCX mn c q ka kb s x (mCalls n mn c q ka kb s M)).1 (300 + 1 + 54) s)) := if_pos c_55
              first | (refine zV_loc (L' := [.ref (300 : Nat), .int (nI q), .int (nI c), .ref (300 + 1 + ka), .ref (300 + 1 + kb), .int (nI s), .int (nI x), .int (nI (mCode (mCw mn c q s x (mCX mn c q ka kb s x (mCalls n mn c q ka kb s M)))))]) (by rw [e8]; rfl) ?_; exact zV_mem e7.symm (J116 c_9 c_34)) | (refine zV_mem (show _ = (mCm mn c q s x (mCX mn c q ka kb s x (mCalls n mn c q ka kb s M))) by rw [e7]; unfold mCt; rfl) (J116 c_9 c_34))
            · have e8 : (mCw mn c q s x (mCX mn c q ka kb s x (mCalls n mn c q ka kb s M))) = (mSay (zw (mCX mn c q ka kb s x (mCalls n mn c q ka kb s M)) 300 16 ((mCX mn c q ka kb s x (mCalls n mn c q ka kb s M)).1 (300 + 1 + 54) s)) mn s q x (nI c) ((mCX mn c q ka kb s x (mCalls n mn c q ka kb s M)).1 (300 + 1 + 54) s)) := if_neg c_55
              have e7 : (mCm mn c q s x (mCX mn c q ka kb s x (mCalls n mn c q ka kb s M))) = mCt (mCw mn c q s x (mCX mn c q ka kb s x (mCalls n mn c q ka kb s M))) ((mCX mn c q ka kb s x (mCalls n mn c q ka kb s M)).1 (300 + 1 + 54) s) (zw (mCX mn c q ka kb s x (mCalls n mn c q ka kb s M)) 300 16 ((mCX mn c q ka kb s x (mCalls n mn c q ka kb s M)).1 (300 + 1 + 54) s)) := if_neg c_55
              refine zV_aload_n hX dX11_calls_58 rfl ?_
              refine zV_iload hX dX11_calls_59 rfl ?_
              refine zV_iload hX dX11_calls_61 rfl ?_
              refine zV_iload_n hX dX11_calls_63 rfl ?_
              refine zV_iload_n hX dX11_calls_64 rfl ?_
              refine zV_aload_n hX dX11_calls_65 rfl ?_
              refine zV_geta hX dX11_calls_66 zf_X11_116 zo300.1 rfl ?_
              refine zV_iload hX dX11_calls_69 rfl ?_
              refine zV_iald hX (v := ((mCX mn c q ka kb s x (mCalls n mn c q ka kb s M)).1 (300 + 1 + 54) s)) dX11_calls_71 (zo300.a 54 rfl) (rfl) ⟨by omega, by omega⟩ (by rw [zw_ne (by omega)]) ?_
              refine zV_cV5p hX hR hl dX11_calls_72 (zc_says l G (zw (mCX mn c q ka kb s x (mCalls n mn c q ka kb s M)) 300 16 ((mCX mn c q ka kb s x (mCalls n mn c q ka kb s M)).1 (300 + 1 + 54) s)) s x q (nI c) ((mCX mn c q ka kb s x (mCalls n mn c q ka kb s M)).1 (300 + 1 + 54) s) mn (mLn_16 (zKfX.ln hab hB hmn)) (by omega) (by omega)) zt_X11_says rfl zml_X11_313 zo300.1 ⟨by decide, by decide⟩ (Nat.le_of_ble_eq_true rfl) ?_
              dsimp only [Option.toList, List.cons_append, List.nil_append]
              rw [← e8]
              have hcl := mCode_lt (mCw mn c q s x (mCX mn c q ka kb s x (mCalls n mn c q ka kb s M)))
              refine zV_istore hX dX11_calls_75 (by decide) ?_
              dsimp only [zst1, zst2, zclr, zc2]
              refine zV_aload_n hX dX11_calls_77 rfl ?_
              refine zV_dup hX dX11_calls_78 rfl ?_
              refine zV_geti hX (x := (zw (mCX mn c q ka kb s x (mCalls n mn c q ka kb s M)) 300 16 ((mCX mn c q ka kb s x (mCalls n mn c q ka kb s M)).1 (300 + 1 + 54) s)).1 300 47) dX11_calls_79 zf_X11_441 zo300.1 rfl (by unfold mSb; rw [zw_ne (by omega)]) ?_
              refine zV_iload hX dX11_calls_82 rfl ?_
              refine zV_if_neN hX (tgt := 91) dX11_calls_84 (by decide) (by omega) (fun c_84 => ?_) (fun c_84 => ?_)
              · have e6 : (if (mCw mn c q s x (mCX mn c q ka kb s x (mCalls n mn c q ka kb s M))) = none then nI 0 else nI 1) = nI 1 := if_neg (fun z => by have := mCode_0.mpr z; omega)
                refine zV_iconst hX (v := nI 1) dX11_calls_91 (by decide) ?_
                refine zV_topi _ e6.symm ?_
                exact J92 c_9 c_34 e7
              · have e6 : (if (mCw mn c q s x (mCX mn c q ka kb s x (mCalls n mn c q ka kb s M))) = none then nI 0 else nI 1) = nI 0 := if_pos (mCode_0.mp c_84)
                refine zV_iconst hX (v := nI 0) dX11_calls_87 (by decide) ?_
                refine zV_goto hX (tgt := 92) dX11_calls_88 (by decide) ?_
                refine zV_topi _ e6.symm ?_
                exact J92 c_9 c_34 e7
      refine zV_iload hX dX11_calls_3 rfl ?_
      refine zV_aload_n hX dX11_calls_5 rfl ?_
      refine zV_geti hX dX11_calls_6 zf_X11_20 zo300.1 rfl (hA.at hn (by unfold mFrX; rcases hab with ⟨rfl, rfl⟩ | ⟨rfl, rfl⟩ <;> omega)) ?_
      refine zV_icmp_geN hX (tgt := 168) dX11_calls_9 (by decide) ⟨by omega, by omega⟩ (fun c_9 => ?_) (fun c_9 => ?_)
      · exact zV_retv hX hQ hr (⟨rfl, by rw [show s = n by omega]⟩) dX11_calls_168
      · refine zV_aload_n hX dX11_calls_12 rfl ?_
        refine zV_geta hX dX11_calls_13 zf_X11_125 zo300.1 rfl ?_
        refine zV_iload hX dX11_calls_16 rfl ?_
        refine zV_zald hX dX11_calls_18 (zo300.a 57 rfl) (rfl) ⟨by omega, by omega⟩ (rfl) ?_
        refine zV_if_ne hX (tgt := 25) dX11_calls_19 (by decide) (fun c_19 => ?_) (fun c_19 => ?_)
        · have e9 : mCs n mn c q ka kb s (mCalls n mn c q ka kb s M) = mCX mn c q ka kb s n (mCalls n mn c q ka kb s M) := if_neg c_19
          refine zV_iconst hX (v := nI 0) dX11_calls_25 (by decide) ?_
          refine zV_istore hX dX11_calls_26 (by decide) ?_
          dsimp only [zst1, zst2, zclr, zc2]
          exact L28 c_9 e9 (n + 1) 0 _ (by omega) (by omega)
        · have e9 : mCs n mn c q ka kb s (mCalls n mn c q ka kb s M) = (mCalls n mn c q ka kb s M) := if_pos c_19
          refine zV_goto hX (tgt := 162) dX11_calls_22 (by decide) ?_
          refine zV_mem (show _ = mCalls n mn c q ka kb (s + 1) M by show _ = mCs n mn c q ka kb s (mCalls n mn c q ka kb s M); rw [e9]) (J162 c_9 _ _)
  refine zV_iconst hX (v := nI 0) dX11_calls_0 (by decide) ?_
  refine zV_istore hX dX11_calls_1 (by decide) ?_
  dsimp only [zst1, zst2, zclr, zc2]
  exact L3 (n + 1) 0 _ _ (by omega) (by omega)
