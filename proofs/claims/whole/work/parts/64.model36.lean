theorem zfor_0 (f : Nat → zM → zM) (M : zM) : zfor f 0 M = M := rfl
theorem zfor_s (f : Nat → zM → zM) (n : Nat) (M : zM) : zfor f (n + 1) M = f n (zfor f n M) := rfl
theorem zar_int : Cond.arrayClass .int ∈ zT := zT1 77 (by decide +kernel) rfl
-- all that a run leaves is laid aside, or laid back
def mNow (M : zM) : Nat → Int32
  | 0 => M.1 300 17 | 1 => M.1 300 18 | 2 => M.1 300 19 | 3 => M.1 300 24 | 4 => M.1 300 25 | _ => M.1 300 26
def mFew (M : zM) (i : Nat) : zM := zfor (fun k M1 => zw M1 330 k (mNow M k)) i (zw M 300 28 (nI 0))
def mFewB (M : zM) : zM := zw (zw (zw (zw (zw (zw M 300 17 (M.1 330 0)) 300 18 (M.1 330 1)) 300 19 (M.1 330 2)) 300 24 (M.1 330 3)) 300 25 (M.1 330 4)) 300 26 (M.1 330 5)
def mLayZ (c q : Nat) (bk : Bool) (p : Nat) (M : zM) : zM := if bk = true then zw M c p (if M.1 328 (q + p) = nI 1 then nI 1 else nI 0) else zw M 328 (q + p) (if M.1 c p = 0 then nI 0 else nI 1)
def mLayQ (c q : Nat) (bk : Bool) (k : Nat) (M : zM) : zM := zfor (fun p M => zw (mLayZ c q bk p M) 300 28 (nI (q + p + 1))) k M
theorem mLayQ_s {c q k : Nat} {bk : Bool} {M : zM} : mLayQ c q bk (k + 1) M = zw (mLayZ c q bk k (mLayQ c q bk k M)) 300 28 (nI (q + k + 1)) := rfl
theorem mLayQ_0 {c q : Nat} {bk : Bool} {M : zM} : mLayQ c q bk 0 M = M := rfl
def mLayM (bk : Bool) (m : Nat) (M : zM) : zM := mLayQ (1000 + 16 * 21 + m) (13 + 119 * m + 62) bk 57 (mLay (1000 + 16 * 22 + m) (13 + 119 * m + 57) bk 5 (mLay (1000 + 16 * 20 + m) (13 + 119 * m) bk 57 M))
def mLayH (bk : Bool) (M : zM) : zM := mLay 324 6 bk 7 (mFewB (mLay 330 0 bk 6 (mFew M 6)))
def mLays (bk : Bool) (M : zM) : zM := zfor (mLayM bk) 7 (mLayH bk M)
theorem mLayQ_28 {c q : Nat} {bk : Bool} {M : zM} (h : M.1 300 28 = nI q) : ∀ k, (mLayQ c q bk k M).1 300 28 = nI (q + k)
  | 0 => h
  | k + 1 => zw_same
theorem mLayM_28 {bk : Bool} {m : Nat} {M : zM} (h : M.1 300 28 = nI (13 + 119 * m)) : (mLayM bk m M).1 300 28 = nI (13 + 119 * (m + 1)) := by
  have h1 := mLay_28 (c := 1000 + 16 * 20 + m) (bk := bk) h 57
  have h2 := mLay_28 (c := 1000 + 16 * 22 + m) (bk := bk) h1 5
  have h3 := mLayQ_28 (c := 1000 + 16 * 21 + m) (bk := bk) (q := 13 + 119 * m + 62) h2 57
  rw [show 13 + 119 * (m + 1) = 13 + 119 * m + 62 + 57 by omega]
  exact h3
theorem mFewB_at {M : zM} {a j : Nat} (h : a ≠ 300 ∨ j = 28) : (mFewB M).1 a j = M.1 a j := by
  unfold mFewB
  iterate 6 rw [zw_ne (by omega)]
theorem mLayH_28 {bk : Bool} {M : zM} : (mLayH bk M).1 300 28 = nI 13 := by
  have h1 : (mFew M 6).1 300 28 = nI 0 := by
    have : ∀ k, (mFew M k).1 300 28 = nI 0 := fun k => by
      induction k with
      | zero => exact zw_same
      | succ k ih => exact (zw_ne (by omega)).trans ih
    exact this 6
  have h2 := mLay_28 (c := 330) (bk := bk) h1 6
  have h3 : (mFewB (mLay 330 0 bk 6 (mFew M 6))).1 300 28 = nI 6 := (mFewB_at (Or.inr rfl)).trans h2
  exact mLay_28 (c := 324) (bk := bk) h3 7
theorem mLays_28 {bk : Bool} {M : zM} : ∀ k, (zfor (mLayM bk) k (mLayH bk M)).1 300 28 = nI (13 + 119 * k)
  | 0 => mLayH_28
  | k + 1 => mLayM_28 (mLays_28 k)
theorem zU_mem {G : zG} {X : zX} {Q : State → Prop} {nL cells slots pc a : Nat} {g : Nat → Int32} {L S : List Value} {M M' : zM} (e : M = M') (k : zU G X Q a g nL cells slots pc L S M') : zU G X Q a g nL cells slots pc L S M := e ▸ k
theorem lay_sub {bk : Bool} (G' : zG) (q : Nat × Value) (h : q ∈ zL G' 0 [.ref (300 : Nat), .int (zb bk), .null, .int (nI 6), .null]) : q ∈ zL G' 0 [.ref (300 : Nat), .int (zb bk), .ref (4000 : Nat), .int (nI 6), .null] := by
  simp only [zL, List.mem_cons, List.not_mem_nil, or_false] at h ⊢
  rcases h with h | h | h
  · exact Or.inl h
  · exact Or.inr (Or.inl h)
  · exact Or.inr (Or.inr (Or.inr h))
set_option maxHeartbeats 1000000 in
theorem lay_head {G : zG} {X : zX} {Q : State → Prop} {M : zM} {bk : Bool} {ta : Nat} {tg : Nat → Int32} (hX : zOk G X yX11_laysAll.cls cX11_laysAll 5) (hg : ∀ i, i < 6 → tg i = mNow M i) (k : zV G X Q 5 1 6 75 [.ref (300 : Nat), .int (zb bk), .null, .int (nI 6), .null] [] (mFew M 6)) : ∀ f9 i : Nat, 6 - i < f9 → i ≤ 6 → zU G X Q ta tg 5 1 6 54 [.ref (300 : Nat), .int (zb bk), .ref (4000 : Nat), .int (nI i), .null] [] (mFew M i) := by
  intro f9
  induction f9 with
  | zero => intro i hf; exact absurd hf (Nat.not_lt_zero _)
  | succ f9 ih =>
    intro i hi1 hi2
    refine zU_iload_n hX dX11_laysAll_54 rfl ?_
    refine zU_bipush hX (v := nI 6) dX11_laysAll_55 (by decide) ?_
    refine zU_icmp_geN hX (tgt := 75) dX11_laysAll_57 (by decide) ⟨by omega, by decide⟩ (fun c_57 => ?_) (fun c_57 => ?_)
    · have h6 : i = 6 := by omega
      subst h6
      exact zU_drop (L' := [.ref (300 : Nat), .int (zb bk), .null, .int (nI 6), .null]) (by simp) (by simp) lay_sub k
    · refine zU_aload_n hX dX11_laysAll_60 rfl ?_
      refine zU_geta hX dX11_laysAll_61 zf_X11_59 zo300.1 rfl (by decide) ?_
      refine zU_iload_n hX dX11_laysAll_64 rfl ?_
      refine zU_aload_n hX dX11_laysAll_65 rfl ?_
      refine zU_iload_n hX dX11_laysAll_66 rfl ?_
      refine zU_tld hX dX11_laysAll_67 rfl (by omega) (hg i c_57) ?_
      refine zU_iast hX dX11_laysAll_68 (zo300.a 29 rfl) (rfl) ⟨by omega, by omega⟩ ?_
      refine zU_iincN hX (b := 1) dX11_laysAll_69 rfl (by decide) ?_
      dsimp only [zst1, zst2, zclr, zc2]
      refine zU_goto hX (tgt := 54) dX11_laysAll_72 (by decide) ?_
      refine zU_mem (show _ = mFew M (i + 1) from rfl) (ih (i + 1) (by omega) (by omega))
theorem mFew_28 {M : zM} : ∀ k, (mFew M k).1 300 28 = nI 0
  | 0 => zw_same
  | k + 1 => (zw_ne (by omega)).trans (mFew_28 k)
set_option maxHeartbeats 1000000 in
theorem zc_laysAll (l : Launch) (G : zG) (M : zM) (bk : Bool) : zCk l G 1 1 6 yX11_laysAll cX11_laysAll 5 (Option.none : Option Jvm.ClassFile.FieldType) [.ref (300 : Nat), .int (zb bk)] M (zP none (mLays bk M)) := by
  refine zCk_of (by decide) (Nat.le_of_ble_eq_true rfl) (fun X Q hQ hX hl hR hr => ?_)
  refine zV_loc (L' := [.ref (300 : Nat), .int (zb bk), .null, .null, .null]) rfl ?_
  have L1 : ∀ (f9 m : Nat), 7 - m < f9 → m ≤ 7 → ∀ x4, (∃ z : Nat, x4 = Value.int (nI z)) ∨ x4 = .null → zV G X Q 5 1 6 155 [.ref (300 : Nat), .int (zb bk), .null, .int (nI m), x4] [] (zfor (mLayM bk) m (mLayH bk M)) := by
    intro f9
    induction f9 with
    | zero => intro m hm1; exact absurd hm1 (Nat.not_lt_zero _)
    | succ f9 ih =>
      intro m hm1 hm2 x4 hx4
      refine zV_iload_n hX dX11_laysAll_155 rfl ?_
      refine zV_bipush hX (v := nI 7) dX11_laysAll_156 (by decide) ?_
      refine zV_icmp_geN hX (tgt := 275) dX11_laysAll_158 (by decide) ⟨by omega, by decide⟩ (fun c_158 => ?_) (fun c_158 => ?_)
      · rw [show m = 7 by omega]
        exact zK_retv hX (by omega) hQ hr (⟨rfl, rfl⟩) dX11_laysAll_275
      · have hm7 : m < 7 := c_158
        have L2 : ∀ (f9 p : Nat), 57 - p < f9 → p ≤ 57 → zV G X Q 5 1 6 186 [.ref (300 : Nat), .int (zb bk), .null, .int (nI m), .int (nI p)] [] (mLayQ (1000 + 16 * 21 + m) (13 + 119 * m + 62) bk p (mLay (1000 + 16 * 22 + m) (13 + 119 * m + 57) bk 5 (mLay (1000 + 16 * 20 + m) (13 + 119 * m) bk 57 (zfor (mLayM bk) m (mLayH bk M))))) := by
          intro f9
          induction f9 with
          | zero => intro p hp1; exact absurd hp1 (Nat.not_lt_zero _)
          | succ f9 ih2 =>
            intro p hp1 hp2
            have hq28 : (mLayQ (1000 + 16 * 21 + m) (13 + 119 * m + 62) bk p (mLay (1000 + 16 * 22 + m) (13 + 119 * m + 57) bk 5 (mLay (1000 + 16 * 20 + m) (13 + 119 * m) bk 57 (zfor (mLayM bk) m (mLayH bk M))))).1 300 28 = nI (13 + 119 * m + 62 + p) := mLayQ_28 (mLay_28 (mLay_28 (mLays_28 m) 57) 5) p
            have e8 : ∀ N, (mLayQ (1000 + 16 * 21 + m) (13 + 119 * m + 62) bk p (mLay (1000 + 16 * 22 + m) (13 + 119 * m + 57) bk 5 (mLay (1000 + 16 * 20 + m) (13 + 119 * m) bk 57 (zfor (mLayM bk) m (mLayH bk M))))) = N → mLayZ (1000 + 16 * 21 + m) (13 + 119 * m + 62) bk p N = if bk = true then zw N (1000 + 16 * 21 + m) p (if N.1 328 (13 + 119 * m + 62 + p) = nI 1 then nI 1 else nI 0) else zw N 328 (13 + 119 * m + 62 + p) (if N.1 (1000 + 16 * 21 + m) p = 0 then nI 0 else nI 1) := fun N _ => rfl
            refine zV_iload hX dX11_laysAll_186 rfl ?_
            refine zV_bipush hX (v := nI 57) dX11_laysAll_188 (by decide) ?_
            refine zV_icmp_geN hX (tgt := 269) dX11_laysAll_190 (by decide) ⟨by omega, by decide⟩ (fun c_190 => ?_) (fun c_190 => ?_)
            · refine zV_iincN hX (b := 1) dX11_laysAll_269 rfl (by decide) ?_
              dsimp only [zst1, zst2, zclr, zc2]
              refine zV_goto hX (tgt := 155) dX11_laysAll_272 (by decide) ?_
              have h57 : p = 57 := by omega
              subst h57
              refine zV_mem (show _ = mLayM bk m (zfor (mLayM bk) m (mLayH bk M)) from rfl) ?_
              refine zV_mem (zfor_s _ _ _).symm ?_
              exact ih (m + 1) (by omega) (by omega) _ (Or.inl ⟨57, rfl⟩)
            · refine zV_iload_n hX dX11_laysAll_193 rfl ?_
              refine zV_if_eqB hX (tgt := 227) dX11_laysAll_194 (by decide) (fun c_194 => ?_) (fun c_194 => ?_)
              · refine zV_aload_n hX dX11_laysAll_227 rfl ?_
                refine zV_geta hX dX11_laysAll_228 zf_X11_56 zo300.1 rfl ?_
                refine zV_aload_n hX dX11_laysAll_231 rfl ?_
                refine zV_geti hX dX11_laysAll_232 zf_X11_399 zo300.1 rfl (hq28) ?_
                refine zV_aload_n hX dX11_laysAll_235 rfl ?_
                refine zV_geta hX dX11_laysAll_236 zf_X11_47 zo300.1 rfl ?_
                refine zV_iload_n hX dX11_laysAll_239 rfl ?_
                refine zV_aald hX dX11_laysAll_240 (t := 1) (zo300.a 21 rfl) (by decide) (rfl) ⟨by omega, by omega⟩ (mRow 21 (by decide)) ?_
                refine zV_iload hX dX11_laysAll_241 rfl ?_
                refine zV_zald hX dX11_laysAll_243 (mSh21 (by omega)) (rfl) ⟨by omega, by omega⟩ (rfl) ?_
                refine zV_if_eq hX (tgt := 251) dX11_laysAll_244 (by decide) (fun c_244 => ?_) (fun c_244 => ?_)
                · refine zV_iconst hX (v := nI 0) dX11_laysAll_251 (by decide) ?_
                  refine zV_iast hX dX11_laysAll_252 (zo300.a 27 rfl) (rfl) ⟨by omega, by omega⟩ ?_
                  refine zV_aload_n hX dX11_laysAll_253 rfl ?_
                  refine zV_dup hX dX11_laysAll_254 rfl ?_
                  refine zV_geti hX dX11_laysAll_255 zf_X11_399 zo300.1 rfl ((zw_ne (by omega)).trans hq28) ?_
                  refine zV_iconst hX (v := nI 1) dX11_laysAll_258 (by decide) ?_
                  refine zV_iaddN hX dX11_laysAll_259 ?_
                  refine zV_puti hX dX11_laysAll_260 zf_X11_399 zp_9_28 zo300.1 rfl ?_
                  refine zV_iincN hX (b := 1) dX11_laysAll_263 rfl (by decide) ?_
                  dsimp only [zst1, zst2, zclr, zc2]
                  refine zV_goto hX (tgt := 186) dX11_laysAll_266 (by decide) ?_
                  refine zV_mem (show _ = mLayQ (1000 + 16 * 21 + m) (13 + 119 * m + 62) bk (p + 1) (mLay (1000 + 16 * 22 + m) (13 + 119 * m + 57) bk 5 (mLay (1000 + 16 * 20 + m) (13 + 119 * m) bk 57 (zfor (mLayM bk) m (mLayH bk M)))) from ?_) (ih2 (p + 1) (by omega) (by omega))
                  rw [mLayQ_s, e8 _ rfl]
                  first | (rw [if_pos c_194, if_pos c_215]; done) | (rw [if_pos c_194, if_neg c_215]; done) | (rw [if_neg (by rw [c_194]; decide), if_pos c_244]; done) | (rw [if_neg (by rw [c_194]; decide), if_neg c_244]; done)
                · refine zV_iconst hX (v := nI 1) dX11_laysAll_247 (by decide) ?_
                  refine zV_goto hX (tgt := 252) dX11_laysAll_248 (by decide) ?_
                  refine zV_iast hX dX11_laysAll_252 (zo300.a 27 rfl) (rfl) ⟨by omega, by omega⟩ ?_
                  refine zV_aload_n hX dX11_laysAll_253 rfl ?_
                  refine zV_dup hX dX11_laysAll_254 rfl ?_
                  refine zV_geti hX dX11_laysAll_255 zf_X11_399 zo300.1 rfl ((zw_ne (by omega)).trans hq28) ?_
                  refine zV_iconst hX (v := nI 1) dX11_laysAll_258 (by decide) ?_
                  refine zV_iaddN hX dX11_laysAll_259 ?_
                  refine zV_puti hX dX11_laysAll_260 zf_X11_399 zp_9_28 zo300.1 rfl ?_
                  refine zV_iincN hX (b := 1) dX11_laysAll_263 rfl (by decide) ?_
                  dsimp only [zst1, zst2, zclr, zc2]
                  refine zV_goto hX (tgt := 186) dX11_laysAll_266 (by decide) ?_
                  refine zV_mem (show _ = mLayQ (1000 + 16 * 21 + m) (13 + 119 * m + 62) bk (p + 1) (mLay (1000 + 16 * 22 + m) (13 + 119 * m + 57) bk 5 (mLay (1000 + 16 * 20 + m) (13 + 119 * m) bk 57 (zfor (mLayM bk) m (mLayH bk M)))) from ?_) (ih2 (p + 1) (by omega) (by omega))
                  rw [mLayQ_s, e8 _ rfl]
                  first | (rw [if_pos c_194, if_pos c_215]; done) | (rw [if_pos c_194, if_neg c_215]; done) | (rw [if_neg (by rw [c_194]; decide), if_pos c_244]; done) | (rw [if_neg (by rw [c_194]; decide), if_neg c_244]; done)
              · refine zV_aload_n hX dX11_laysAll_197 rfl ?_
                refine zV_geta hX dX11_laysAll_198 zf_X11_47 zo300.1 rfl ?_
                refine zV_iload_n hX dX11_laysAll_201 rfl ?_
                refine zV_aald hX dX11_laysAll_202 (t := 1) (zo300.a 21 rfl) (by decide) (rfl) ⟨by omega, by omega⟩ (mRow 21 (by decide)) ?_
                refine zV_iload hX dX11_laysAll_203 rfl ?_
                refine zV_aload_n hX dX11_laysAll_205 rfl ?_
                refine zV_geta hX dX11_laysAll_206 zf_X11_56 zo300.1 rfl ?_
                refine zV_aload_n hX dX11_laysAll_209 rfl ?_
                refine zV_geti hX dX11_laysAll_210 zf_X11_399 zo300.1 rfl (hq28) ?_
                refine zV_iald hX dX11_laysAll_213 (zo300.a 27 rfl) (rfl) ⟨by omega, by omega⟩ (rfl) ?_
                refine zV_iconst hX (v := nI 1) dX11_laysAll_214 (by decide) ?_
                refine zV_icmp_ne hX (tgt := 222) dX11_laysAll_215 (by decide) (fun c_215 => ?_) (fun c_215 => ?_)
                · refine zV_iconst hX (v := nI 0) dX11_laysAll_222 (by decide) ?_
                  refine zV_zast hX dX11_laysAll_223 (mSh21 (by omega)) (rfl) ⟨by omega, by omega⟩ (by decide) ?_
                  refine zV_goto hX (tgt := 253) dX11_laysAll_224 (by decide) ?_
                  refine zV_aload_n hX dX11_laysAll_253 rfl ?_
                  refine zV_dup hX dX11_laysAll_254 rfl ?_
                  refine zV_geti hX dX11_laysAll_255 zf_X11_399 zo300.1 rfl ((zw_ne (by omega)).trans hq28) ?_
                  refine zV_iconst hX (v := nI 1) dX11_laysAll_258 (by decide) ?_
                  refine zV_iaddN hX dX11_laysAll_259 ?_
                  refine zV_puti hX dX11_laysAll_260 zf_X11_399 zp_9_28 zo300.1 rfl ?_
                  refine zV_iincN hX (b := 1) dX11_laysAll_263 rfl (by decide) ?_
                  dsimp only [zst1, zst2, zclr, zc2]
                  refine zV_goto hX (tgt := 186) dX11_laysAll_266 (by decide) ?_
                  refine zV_mem (show _ = mLayQ (1000 + 16 * 21 + m) (13 + 119 * m + 62) bk (p + 1) (mLay (1000 + 16 * 22 + m) (13 + 119 * m + 57) bk 5 (mLay (1000 + 16 * 20 + m) (13 + 119 * m) bk 57 (zfor (mLayM bk) m (mLayH bk M)))) from ?_) (ih2 (p + 1) (by omega) (by omega))
                  rw [mLayQ_s, e8 _ rfl]
                  first | (rw [if_pos c_194, if_pos c_215]; done) | (rw [if_pos c_194, if_neg c_215]; done) | (rw [if_neg (by rw [c_194]; decide), if_pos c_244]; done) | (rw [if_neg (by rw [c_194]; decide), if_neg c_244]; done)
                · refine zV_iconst hX (v := nI 1) dX11_laysAll_218 (by decide) ?_
                  refine zV_goto hX (tgt := 223) dX11_laysAll_219 (by decide) ?_
                  refine zV_zast hX dX11_laysAll_223 (mSh21 (by omega)) (rfl) ⟨by omega, by omega⟩ (by decide) ?_
                  refine zV_goto hX (tgt := 253) dX11_laysAll_224 (by decide) ?_
                  refine zV_aload_n hX dX11_laysAll_253 rfl ?_
                  refine zV_dup hX dX11_laysAll_254 rfl ?_
                  refine zV_geti hX dX11_laysAll_255 zf_X11_399 zo300.1 rfl ((zw_ne (by omega)).trans hq28) ?_
                  refine zV_iconst hX (v := nI 1) dX11_laysAll_258 (by decide) ?_
                  refine zV_iaddN hX dX11_laysAll_259 ?_
                  refine zV_puti hX dX11_laysAll_260 zf_X11_399 zp_9_28 zo300.1 rfl ?_
                  refine zV_iincN hX (b := 1) dX11_laysAll_263 rfl (by decide) ?_
                  dsimp only [zst1, zst2, zclr, zc2]
                  refine zV_goto hX (tgt := 186) dX11_laysAll_266 (by decide) ?_
                  refine zV_mem (show _ = mLayQ (1000 + 16 * 21 + m) (13 + 119 * m + 62) bk (p + 1) (mLay (1000 + 16 * 22 + m) (13 + 119 * m + 57) bk 5 (mLay (1000 + 16 * 20 + m) (13 + 119 * m) bk 57 (zfor (mLayM bk) m (mLayH bk M)))) from ?_) (ih2 (p + 1) (by omega) (by omega))
                  rw [mLayQ_s, e8 _ rfl]
                  first | (rw [if_pos c_194, if_pos c_215]; done) | (rw [if_pos c_194, if_neg c_215]; done) | (rw [if_neg (by rw [c_194]; decide), if_pos c_244]; done) | (rw [if_neg (by rw [c_194]; decide), if_neg c_244]; done)
        refine zV_aload_n hX dX11_laysAll_161 rfl ?_
        refine zV_aload_n hX dX11_laysAll_162 rfl ?_
        refine zV_geta hX dX11_laysAll_163 zf_X11_42 zo300.1 rfl ?_
        refine zV_iload_n hX dX11_laysAll_166 rfl ?_
        refine zV_aald hX dX11_laysAll_167 (t := 0) (zo300.a 20 rfl) (by decide) (rfl) ⟨by omega, by omega⟩ (mRow 20 (by decide)) ?_
        refine zV_iload_n hX dX11_laysAll_168 rfl ?_
        refine zK_cV2p hX hR hl dX11_laysAll_169 (zCk.of (zc_lays l G _ (1000 + 16 * 20 + m) 57 (13 + 119 * m) bk (mSh20 (by omega)) (by omega) (mLays_28 m) (by omega))) zt_X11_lays rfl zml_X11_402 zo300.1 ⟨by decide, by decide⟩ (Nat.le_of_ble_eq_true rfl) (by omega) ⟨rfl, rfl⟩ ?_
        dsimp only [Option.toList, List.cons_append, List.nil_append]
        refine zV_aload_n hX dX11_laysAll_172 rfl ?_
        refine zV_aload_n hX dX11_laysAll_173 rfl ?_
        refine zV_geta hX dX11_laysAll_174 zf_X11_50 zo300.1 rfl ?_
        refine zV_iload_n hX dX11_laysAll_177 rfl ?_
        refine zV_aald hX dX11_laysAll_178 (t := 0) (zo300.a 22 rfl) (by decide) (rfl) ⟨by omega, by omega⟩ (mRow 22 (by decide)) ?_
        refine zV_iload_n hX dX11_laysAll_179 rfl ?_
        refine zK_cV2p hX hR hl dX11_laysAll_180 (zCk.of (zc_lays l G _ (1000 + 16 * 22 + m) 5 (13 + 119 * m + 57) bk (mSh22 (by omega)) (by omega) (mLay_28 (mLays_28 m) 57) (by omega))) zt_X11_lays rfl zml_X11_402 zo300.1 ⟨by decide, by decide⟩ (Nat.le_of_ble_eq_true rfl) (by omega) ⟨rfl, rfl⟩ ?_
        dsimp only [Option.toList, List.cons_append, List.nil_append]
        refine zV_iconst hX (v := nI 0) dX11_laysAll_183 (by decide) ?_
        refine zV_istore hX dX11_laysAll_184 (by decide) ?_
        dsimp only [zst1, zst2, zclr, zc2]
        refine zV_mem (mLayQ_0 (c := 1000 + 16 * 21 + m) (q := 13 + 119 * m + 62) (bk := bk)).symm ?_
        exact L2 58 0 (by omega) (by omega)
  refine zV_bipush hX (v := nI 6) dX11_laysAll_0 (by decide) ?_
  refine zU_new hX (hX.2.2.2.2.1 _ zar_int) dX11_laysAll_2 (by simp) (by simp) ⟨by rw [hR]; decide, by rw [hR]; decide⟩ ?_
  intro ta
  refine zU_dup hX dX11_laysAll_4 rfl ?_
  refine zU_iconst hX (v := nI 0) dX11_laysAll_5 (by decide) ?_
  refine zU_aload_n hX dX11_laysAll_6 rfl ?_
  refine zU_geti hX dX11_laysAll_7 zf_X11_39 zo300.1 rfl rfl ?_
  refine zU_tst hX dX11_laysAll_10 rfl (by decide) ?_
  refine zU_dup hX dX11_laysAll_11 rfl ?_
  refine zU_iconst hX (v := nI 1) dX11_laysAll_12 (by decide) ?_
  refine zU_aload_n hX dX11_laysAll_13 rfl ?_
  refine zU_geti hX dX11_laysAll_14 zf_X11_173 zo300.1 rfl rfl ?_
  refine zU_tst hX dX11_laysAll_17 rfl (by decide) ?_
  refine zU_dup hX dX11_laysAll_18 rfl ?_
  refine zU_iconst hX (v := nI 2) dX11_laysAll_19 (by decide) ?_
  refine zU_aload_n hX dX11_laysAll_20 rfl ?_
  refine zU_geti hX dX11_laysAll_21 zf_X11_176 zo300.1 rfl rfl ?_
  refine zU_tst hX dX11_laysAll_24 rfl (by decide) ?_
  refine zU_dup hX dX11_laysAll_25 rfl ?_
  refine zU_iconst hX (v := nI 3) dX11_laysAll_26 (by decide) ?_
  refine zU_aload_n hX dX11_laysAll_27 rfl ?_
  refine zU_geti hX dX11_laysAll_28 zf_X11_307 zo300.1 rfl rfl ?_
  refine zU_tst hX dX11_laysAll_31 rfl (by decide) ?_
  refine zU_dup hX dX11_laysAll_32 rfl ?_
  refine zU_iconst hX (v := nI 4) dX11_laysAll_33 (by decide) ?_
  refine zU_aload_n hX dX11_laysAll_34 rfl ?_
  refine zU_geti hX dX11_laysAll_35 zf_X11_343 zo300.1 rfl rfl ?_
  refine zU_tst hX dX11_laysAll_38 rfl (by decide) ?_
  refine zU_dup hX dX11_laysAll_39 rfl ?_
  refine zU_iconst hX (v := nI 5) dX11_laysAll_40 (by decide) ?_
  refine zU_aload_n hX dX11_laysAll_41 rfl ?_
  refine zU_geti hX dX11_laysAll_42 zf_X11_310 zo300.1 rfl rfl ?_
  refine zU_tst hX dX11_laysAll_45 rfl (by decide) ?_
  refine zU_astore_n hX dX11_laysAll_46 (by decide) ?_
  dsimp only [zst1, zst2, zclr, zc2]
  refine zU_aload_n hX dX11_laysAll_47 rfl ?_
  refine zU_iconst hX (v := nI 0) dX11_laysAll_48 (by decide) ?_
  refine zU_puti hX dX11_laysAll_49 zf_X11_399 zp_9_28 zo300.1 rfl ?_
  refine zU_iconst hX (v := nI 0) dX11_laysAll_52 (by decide) ?_
  refine zU_istore_n hX dX11_laysAll_53 (by decide) ?_
  dsimp only [zst1, zst2, zclr, zc2]
  refine lay_head (M := M) hX (fun i hi => by match i, hi with | 0, _ => rfl | 1, _ => rfl | 2, _ => rfl | 3, _ => rfl | 4, _ => rfl | 5, _ => rfl) ?_ 7 0 (by omega) (by omega)
  have few28 : (mFew M 6).1 300 28 = nI 0 := mFew_28 6
  refine zV_aload_n hX dX11_laysAll_75 rfl ?_
  refine zV_aload_n hX dX11_laysAll_76 rfl ?_
  refine zV_geta hX dX11_laysAll_77 zf_X11_59 zo300.1 rfl ?_
  refine zV_iload_n hX dX11_laysAll_80 rfl ?_
  refine zK_cV2p hX hR hl dX11_laysAll_81 (zCk.of (zc_lays l G _ 330 6 0 bk rfl (by omega) few28 (by omega))) zt_X11_lays rfl zml_X11_402 zo300.1 ⟨by decide, by decide⟩ (Nat.le_of_ble_eq_true rfl) (by omega) ⟨rfl, rfl⟩ ?_
  dsimp only [Option.toList, List.cons_append, List.nil_append]
  refine zV_aload_n hX dX11_laysAll_84 rfl ?_
  refine zV_aload_n hX dX11_laysAll_85 rfl ?_
  refine zV_geta hX dX11_laysAll_86 zf_X11_59 zo300.1 rfl ?_
  refine zV_iconst hX (v := nI 0) dX11_laysAll_89 (by decide) ?_
  refine zV_iald hX (v := (mLay 330 0 bk 6 (mFew M 6)).1 330 0) dX11_laysAll_90 (zo300.a 29 rfl) (rfl) ⟨by omega, by omega⟩ (by (try simp only [oCnt, oLost, oKeep]); (repeat first | rw [zw_ne (by omega)] | rw [zw_same]); try rfl) ?_
  refine zV_puti hX dX11_laysAll_91 zf_X11_39 zp_9_17 zo300.1 rfl ?_
  refine zV_aload_n hX dX11_laysAll_94 rfl ?_
  refine zV_aload_n hX dX11_laysAll_95 rfl ?_
  refine zV_geta hX dX11_laysAll_96 zf_X11_59 zo300.1 rfl ?_
  refine zV_iconst hX (v := nI 1) dX11_laysAll_99 (by decide) ?_
  refine zV_iald hX (v := (mLay 330 0 bk 6 (mFew M 6)).1 330 1) dX11_laysAll_100 (zo300.a 29 rfl) (rfl) ⟨by omega, by omega⟩ (by (try simp only [oCnt, oLost, oKeep]); (repeat first | rw [zw_ne (by omega)] | rw [zw_same]); try rfl) ?_
  refine zV_puti hX dX11_laysAll_101 zf_X11_173 zp_9_18 zo300.1 rfl ?_
  refine zV_aload_n hX dX11_laysAll_104 rfl ?_
  refine zV_aload_n hX dX11_laysAll_105 rfl ?_
  refine zV_geta hX dX11_laysAll_106 zf_X11_59 zo300.1 rfl ?_
  refine zV_iconst hX (v := nI 2) dX11_laysAll_109 (by decide) ?_
  refine zV_iald hX (v := (mLay 330 0 bk 6 (mFew M 6)).1 330 2) dX11_laysAll_110 (zo300.a 29 rfl) (rfl) ⟨by omega, by omega⟩ (by (try simp only [oCnt, oLost, oKeep]); (repeat first | rw [zw_ne (by omega)] | rw [zw_same]); try rfl) ?_
  refine zV_puti hX dX11_laysAll_111 zf_X11_176 zp_9_19 zo300.1 rfl ?_
  refine zV_aload_n hX dX11_laysAll_114 rfl ?_
  refine zV_aload_n hX dX11_laysAll_115 rfl ?_
  refine zV_geta hX dX11_laysAll_116 zf_X11_59 zo300.1 rfl ?_
  refine zV_iconst hX (v := nI 3) dX11_laysAll_119 (by decide) ?_
  refine zV_iald hX (v := (mLay 330 0 bk 6 (mFew M 6)).1 330 3) dX11_laysAll_120 (zo300.a 29 rfl) (rfl) ⟨by omega, by omega⟩ (by (try simp only [oCnt, oLost, oKeep]); (repeat first | rw [zw_ne (by omega)] | rw [zw_same]); try rfl) ?_
  refine zV_puti hX dX11_laysAll_121 zf_X11_307 zp_9_24 zo300.1 rfl ?_
  refine zV_aload_n hX dX11_laysAll_124 rfl ?_
  refine zV_aload_n hX dX11_laysAll_125 rfl ?_
  refine zV_geta hX dX11_laysAll_126 zf_X11_59 zo300.1 rfl ?_
  refine zV_iconst hX (v := nI 4) dX11_laysAll_129 (by decide) ?_
  refine zV_iald hX (v := (mLay 330 0 bk 6 (mFew M 6)).1 330 4) dX11_laysAll_130 (zo300.a 29 rfl) (rfl) ⟨by omega, by omega⟩ (by (try simp only [oCnt, oLost, oKeep]); (repeat first | rw [zw_ne (by omega)] | rw [zw_same]); try rfl) ?_
  refine zV_puti hX dX11_laysAll_131 zf_X11_343 zp_9_25 zo300.1 rfl ?_
  refine zV_aload_n hX dX11_laysAll_134 rfl ?_
  refine zV_aload_n hX dX11_laysAll_135 rfl ?_
  refine zV_geta hX dX11_laysAll_136 zf_X11_59 zo300.1 rfl ?_
  refine zV_iconst hX (v := nI 5) dX11_laysAll_139 (by decide) ?_
  refine zV_iald hX (v := (mLay 330 0 bk 6 (mFew M 6)).1 330 5) dX11_laysAll_140 (zo300.a 29 rfl) (rfl) ⟨by omega, by omega⟩ (by (try simp only [oCnt, oLost, oKeep]); (repeat first | rw [zw_ne (by omega)] | rw [zw_same]); try rfl) ?_
  refine zV_puti hX dX11_laysAll_141 zf_X11_310 zp_9_26 zo300.1 rfl ?_
  refine zV_mem (show _ = mFewB (mLay 330 0 bk 6 (mFew M 6)) from rfl) ?_
  refine zV_aload_n hX dX11_laysAll_144 rfl ?_
  refine zV_aload_n hX dX11_laysAll_145 rfl ?_
  refine zV_geta hX dX11_laysAll_146 zf_X11_53 zo300.1 rfl ?_
  refine zV_iload_n hX dX11_laysAll_149 rfl ?_
  have spo28 : (mFewB (mLay 330 0 bk 6 (mFew M 6))).1 300 28 = nI 6 := (mFewB_at (Or.inr rfl)).trans (mLay_28 few28 6)
  refine zK_cV2p hX hR hl dX11_laysAll_150 (zCk.of (zc_lays l G _ 324 7 6 bk rfl (by omega) spo28 (by omega))) zt_X11_lays rfl zml_X11_402 zo300.1 ⟨by decide, by decide⟩ (Nat.le_of_ble_eq_true rfl) (by omega) ⟨rfl, rfl⟩ ?_
  dsimp only [Option.toList, List.cons_append, List.nil_append]
  refine zV_iconst hX (v := nI 0) dX11_laysAll_153 (by decide) ?_
  refine zV_istore_n hX dX11_laysAll_154 (by decide) ?_
  dsimp only [zst1, zst2, zclr, zc2]
  refine zV_mem (show _ = mLayH bk M from rfl) ?_
  refine zV_mem (zfor_0 (mLayM bk) _).symm ?_
  exact L1 8 0 (by omega) (by omega) _ (Or.inr rfl)
