-- SIGNED of the model
abbrev mTk9 (M : zM) (x : Nat) : Nat := zN (M.1 (300 + 1 + 31) x)
abbrev mTB (M : zM) (x : Nat) : Nat → Int32 := M.1 (1000 + 16 * 34 + x)
/-- what each has taken is a number of rows that there are -/
def mTok (M : zM) : Prop := ∀ x, x < 7 → M.1 (300 + 1 + 31) x = nI (mTk9 M x) ∧ mTk9 M x ≤ 59
def mPutT (x k : Nat) (v sg : Int32) (f r : Nat) (M : zM) : zM :=
  zw (zw (zw (zw (zw (zw M (1000 + 16 * 34 + x) k v) (1000 + 16 * 35 + x) k sg) (1000 + 16 * 36 + x) k (nI f)) (1000 + 16 * 37 + x) k (nI r)) (300 + 1 + 31) x (nI (k + 1))) (300 + 1 + 33) x (nI r)
def mTakes (x : Nat) (v sg : Int32) (f r : Nat) (M : zM) : zM := if zany (fun i => mTB M x i == v) (mTk9 M x) then M else mPutT x (mTk9 M x) v sg f r M
def mWc (s : Nat) (M : zM) : zM := zw (zw M 300 38 (M.1 300 38 + nI 1)) (300 + 1 + 32) s (M.1 (300 + 1 + 32) s + nI 1)
def mWw (w : Option (Option Int32)) (s x r : Nat) (v sg : Int32) (M : zM) : zM := match w with
  | none => M
  | some none => zw (mWc s M) 300 40 ((mWc s M).1 300 40 + nI 1)
  | some (some u) => if 1 < r ∧ ¬ u = v then zw (mWc s M) 300 39 ((mWc s M).1 300 39 + nI 1) else mTakes x u (sg ||| (nI 1 <<< (nI s &&& 31))) s r (mWc s M)
def mWrites (mn : Nat → Option Nat) (s x r : Nat) (o v sg : Int32) (M : zM) : zM := mWw (mSay M mn s r x o v) s x r v sg (mSb (mSay M mn s r x o v) v M)
set_option maxHeartbeats 1000000 in
theorem zc_takesIt (l : Launch) (G : zG) (M : zM) (x f q : Nat) (v sg : Int32) (hk : mTok M) (hx : x < 7) : zC l G 0 yX11_takesIt cX11_takesIt 7 (Option.none : Option Jvm.ClassFile.FieldType) [.ref (300 : Nat), .int (nI x), .int v, .int sg, .int (nI f), .int (nI q)] M (zP none (mTakes x v sg f q M)) := by
  refine zC_of (by decide) (Nat.le_of_ble_eq_true rfl) (fun X Q hQ hX hl hR hr => ?_)
  refine zV_loc (L' := [.ref (300 : Nat), .int (nI x), .int v, .int sg, .int (nI f), .int (nI q), .null]) rfl ?_
  have L3 : ∀ (f9 k : Nat), (mTk9 M x) - k < f9 → k ≤ (mTk9 M x) → zany (fun i => mTB M x i == v) k = false → zV G X Q 7 0 0 3 [.ref (300 : Nat), .int (nI x), .int v, .int sg, .int (nI f), .int (nI q), .int (nI k)] [] M := by
    intro f9
    induction f9 with
    | zero => intro k hk1 hk2 hk3; exact absurd hk1 (Nat.not_lt_zero _)
    | succ f9 ih =>
      intro k hk1 hk2 hk3
      have hk9 := (hk x hx).2
      refine zV_iload hX dX11_takesIt_3 rfl ?_
      refine zV_aload_n hX dX11_takesIt_5 rfl ?_
      refine zV_geta hX dX11_takesIt_6 zf_X11_65 zo300.1 rfl ?_
      refine zV_iload_n hX dX11_takesIt_9 rfl ?_
      refine zV_iald hX dX11_takesIt_10 (zo300.a 31 rfl) (rfl) ⟨by omega, by omega⟩ ((hk x hx).1) ?_
      refine zV_icmp_geN hX (tgt := 34) dX11_takesIt_11 (by decide) ⟨by omega, by have := (hk x hx).2; omega⟩ (fun c_11 => ?_) (fun c_11 => ?_)
      · have hkn : k = (mTk9 M x) := by omega
        have e9 : zany (fun i => mTB M x i == v) (mTk9 M x) = false := by have h := hk3; rw [hkn] at h; exact h
        refine zV_aload_n hX dX11_takesIt_34 rfl ?_
        refine zV_geta hX dX11_takesIt_35 zf_X11_65 zo300.1 rfl ?_
        refine zV_iload_n hX dX11_takesIt_38 rfl ?_
        refine zV_iald hX dX11_takesIt_39 (zo300.a 31 rfl) (rfl) ⟨by omega, by omega⟩ ((hk x hx).1) ?_
        refine zV_istore hX dX11_takesIt_40 (by decide) ?_
        dsimp only [zst1, zst2, zclr, zc2]
        refine zV_aload_n hX dX11_takesIt_42 rfl ?_
        refine zV_geta hX dX11_takesIt_43 zf_X11_74 zo300.1 rfl ?_
        refine zV_iload_n hX dX11_takesIt_46 rfl ?_
        refine zV_aald hX dX11_takesIt_47 (t := 0) (zo300.a 34 rfl) (by decide) (rfl) ⟨by omega, by omega⟩ (mRow 34 (by decide)) ?_
        refine zV_iload hX dX11_takesIt_48 rfl ?_
        refine zV_iload_n hX dX11_takesIt_50 rfl ?_
        refine zV_iast hX dX11_takesIt_51 (mSh34 (by omega)) (rfl) ⟨by have := (hk x hx).2; omega, by omega⟩ ?_
        refine zV_aload_n hX dX11_takesIt_52 rfl ?_
        refine zV_geta hX dX11_takesIt_53 zf_X11_77 zo300.1 rfl ?_
        refine zV_iload_n hX dX11_takesIt_56 rfl ?_
        refine zV_aald hX dX11_takesIt_57 (t := 0) (zo300.a 35 rfl) (by decide) (rfl) ⟨by omega, by omega⟩ (mRow 35 (by decide)) ?_
        refine zV_iload hX dX11_takesIt_58 rfl ?_
        refine zV_iload_n hX dX11_takesIt_60 rfl ?_
        refine zV_iast hX dX11_takesIt_61 (mSh35 (by omega)) (rfl) ⟨by have := (hk x hx).2; omega, by omega⟩ ?_
        refine zV_aload_n hX dX11_takesIt_62 rfl ?_
        refine zV_geta hX dX11_takesIt_63 zf_X11_80 zo300.1 rfl ?_
        refine zV_iload_n hX dX11_takesIt_66 rfl ?_
        refine zV_aald hX dX11_takesIt_67 (t := 0) (zo300.a 36 rfl) (by decide) (rfl) ⟨by omega, by omega⟩ (mRow 36 (by decide)) ?_
        refine zV_iload hX dX11_takesIt_68 rfl ?_
        refine zV_iload hX dX11_takesIt_70 rfl ?_
        refine zV_iast hX dX11_takesIt_72 (mSh36 (by omega)) (rfl) ⟨by have := (hk x hx).2; omega, by omega⟩ ?_
        refine zV_aload_n hX dX11_takesIt_73 rfl ?_
        refine zV_geta hX dX11_takesIt_74 zf_X11_83 zo300.1 rfl ?_
        refine zV_iload_n hX dX11_takesIt_77 rfl ?_
        refine zV_aald hX dX11_takesIt_78 (t := 0) (zo300.a 37 rfl) (by decide) (rfl) ⟨by omega, by omega⟩ (mRow 37 (by decide)) ?_
        refine zV_iload hX dX11_takesIt_79 rfl ?_
        refine zV_iload hX dX11_takesIt_81 rfl ?_
        refine zV_iast hX dX11_takesIt_83 (mSh37 (by omega)) (rfl) ⟨by have := (hk x hx).2; omega, by omega⟩ ?_
        refine zV_aload_n hX dX11_takesIt_84 rfl ?_
        refine zV_geta hX dX11_takesIt_85 zf_X11_65 zo300.1 rfl ?_
        refine zV_iload_n hX dX11_takesIt_88 rfl ?_
        refine zV_dup2 hX dX11_takesIt_89 rfl rfl ?_
        refine zV_iald hX (v := nI (mTk9 M x)) dX11_takesIt_90 (zo300.a 31 rfl) (rfl) ⟨by omega, by omega⟩ (by rw [zw_ne (by omega), zw_ne (by omega), zw_ne (by omega), zw_ne (by omega)]; exact (hk x hx).1) ?_
        refine zV_iconst hX (v := nI 1) dX11_takesIt_91 (by decide) ?_
        refine zV_iaddN hX dX11_takesIt_92 ?_
        refine zV_iast hX dX11_takesIt_93 (zo300.a 31 rfl) (rfl) ⟨by have := (hk x hx).2; omega, by omega⟩ ?_
        refine zV_aload_n hX dX11_takesIt_94 rfl ?_
        refine zV_geta hX dX11_takesIt_95 zf_X11_71 zo300.1 rfl ?_
        refine zV_iload_n hX dX11_takesIt_98 rfl ?_
        refine zV_iload hX dX11_takesIt_99 rfl ?_
        refine zV_iast hX dX11_takesIt_101 (zo300.a 33 rfl) (rfl) ⟨by have := (hk x hx).2; omega, by omega⟩ ?_
        exact zV_retv hX hQ hr (⟨rfl, by unfold mTakes; rw [e9]; rfl⟩) dX11_takesIt_102
      · refine zV_aload_n hX dX11_takesIt_14 rfl ?_
        refine zV_geta hX dX11_takesIt_15 zf_X11_74 zo300.1 rfl ?_
        refine zV_iload_n hX dX11_takesIt_18 rfl ?_
        refine zV_aald hX dX11_takesIt_19 (t := 0) (zo300.a 34 rfl) (by decide) (rfl) ⟨by omega, by omega⟩ (mRow 34 (by decide)) ?_
        refine zV_iload hX dX11_takesIt_20 rfl ?_
        refine zV_iald hX dX11_takesIt_22 (mSh34 (by omega)) (rfl) ⟨by have := (hk x hx).2; omega, by omega⟩ (rfl) ?_
        refine zV_iload_n hX dX11_takesIt_23 rfl ?_
        refine zV_icmp_ne hX (tgt := 28) dX11_takesIt_24 (by decide) (fun c_24 => ?_) (fun c_24 => ?_)
        · have e9 : zany (fun i => mTB M x i == v) (k + 1) = false := by rw [zany, hk3]; simp [c_24]
          refine zV_iincN hX (b := 1) dX11_takesIt_28 rfl (by decide) ?_
          dsimp only [zst1, zst2, zclr, zc2]
          refine zV_goto hX (tgt := 3) dX11_takesIt_31 (by decide) ?_
          exact ih (k + 1) (by omega) (by omega) e9
        · have e9 : zany (fun i => mTB M x i == v) (mTk9 M x) = true := zany_true (k := k) (by omega) (by simp [c_24])
          exact zV_retv hX hQ hr (⟨rfl, by unfold mTakes; rw [e9]; rfl⟩) dX11_takesIt_27
  refine zV_iconst hX (v := nI 0) dX11_takesIt_0 (by decide) ?_
  refine zV_istore hX dX11_takesIt_1 (by decide) ?_
  dsimp only [zst1, zst2, zclr, zc2]
  exact L3 ((mTk9 M x) + 1) 0 (by omega) (by omega) rfl
theorem mTok_of {M M' : zM} (h : mTok M) (he : ∀ x, M'.1 (300 + 1 + 31) x = M.1 (300 + 1 + 31) x) : mTok M' := fun x hx => by
  unfold mTk9
  rw [he x]
  exact h x hx
theorem mWc_c {s : Nat} {M : zM} {a j : Nat} (h : a ≠ 300 + 1 + 32 ∧ (a ≠ 300 ∨ j ≠ 38)) : (mWc s M).1 a j = M.1 a j := by
  unfold mWc
  rw [zw_ne (by omega), zw_ne (by omega)]
theorem mSa_v (v tr : Int32) : mSa (some (some v)) tr = v := rfl
set_option maxHeartbeats 1000000 in
theorem zc_writes_n (l : Launch) (G : zG) (M : zM) (s x q : Nat) (o v sg : Int32) (mn : Nat → Option Nat) (hmn : mLn 0 M mn) (hk : mTok M) (hs : s < 7) (hx : x < 7) (hq : q < 100) (hw : (mSay M mn s q x o v) = none) : zC l G 2 yX11_writes cX11_writes 8 (Option.none : Option Jvm.ClassFile.FieldType) [.ref (300 : Nat), .int (nI s), .int (nI x), .int (nI q), .int o, .int v, .int sg] M (zP none (mWrites mn s x q o v sg M)) := by
  refine zC_of (by decide) (Nat.le_of_ble_eq_true rfl) (fun X Q hQ hX hl hR hr => ?_)
  refine zV_loc (L' := [.ref (300 : Nat), .int (nI s), .int (nI x), .int (nI q), .int o, .int v, .int sg, .null]) rfl ?_
  refine zV_aload_n hX dX11_writes_0 rfl ?_
  refine zV_iload_n hX dX11_writes_1 rfl ?_
  refine zV_iload_n hX dX11_writes_2 rfl ?_
  refine zV_iload_n hX dX11_writes_3 rfl ?_
  refine zV_iload hX dX11_writes_4 rfl ?_
  refine zV_iload hX dX11_writes_6 rfl ?_
  refine zV_cV5p hX hR hl dX11_writes_8 (zc_says l G M s x q o v mn hmn hs hx) zt_X11_says rfl zml_X11_313 zo300.1 ⟨by decide, by decide⟩ (Nat.le_of_ble_eq_true rfl) ?_
  dsimp only [Option.toList, List.cons_append, List.nil_append]
  refine zV_topi (nI 0) (by rw [hw]; rfl) ?_
  rw [hw]
  refine zV_istore hX dX11_writes_11 (by decide) ?_
  dsimp only [zst1, zst2, zclr, zc2]
  refine zV_iload hX dX11_writes_13 rfl ?_
  refine zV_if_neN hX (tgt := 19) dX11_writes_15 (by decide) (by omega) (fun c_15 => absurd c_15 (by decide)) (fun c_15 => ?_)
  exact zV_retv hX hQ hr (⟨rfl, by unfold mWrites; rw [hw]; rfl⟩) dX11_writes_18
set_option maxHeartbeats 1000000 in
theorem zc_writes_w (l : Launch) (G : zG) (M : zM) (s x q : Nat) (o v sg : Int32) (mn : Nat → Option Nat) (hmn : mLn 0 M mn) (hk : mTok M) (hs : s < 7) (hx : x < 7) (hq : q < 100) (hw : (mSay M mn s q x o v) = (some none)) : zC l G 2 yX11_writes cX11_writes 8 (Option.none : Option Jvm.ClassFile.FieldType) [.ref (300 : Nat), .int (nI s), .int (nI x), .int (nI q), .int o, .int v, .int sg] M (zP none (mWrites mn s x q o v sg M)) := by
  refine zC_of (by decide) (Nat.le_of_ble_eq_true rfl) (fun X Q hQ hX hl hR hr => ?_)
  refine zV_loc (L' := [.ref (300 : Nat), .int (nI s), .int (nI x), .int (nI q), .int o, .int v, .int sg, .null]) rfl ?_
  refine zV_aload_n hX dX11_writes_0 rfl ?_
  refine zV_iload_n hX dX11_writes_1 rfl ?_
  refine zV_iload_n hX dX11_writes_2 rfl ?_
  refine zV_iload_n hX dX11_writes_3 rfl ?_
  refine zV_iload hX dX11_writes_4 rfl ?_
  refine zV_iload hX dX11_writes_6 rfl ?_
  refine zV_cV5p hX hR hl dX11_writes_8 (zc_says l G M s x q o v mn hmn hs hx) zt_X11_says rfl zml_X11_313 zo300.1 ⟨by decide, by decide⟩ (Nat.le_of_ble_eq_true rfl) ?_
  dsimp only [Option.toList, List.cons_append, List.nil_append]
  refine zV_topi (nI 1) (by rw [hw]; rfl) ?_
  rw [hw]
  refine zV_istore hX dX11_writes_11 (by decide) ?_
  dsimp only [zst1, zst2, zclr, zc2]
  refine zV_iload hX dX11_writes_13 rfl ?_
  refine zV_if_neN hX (tgt := 19) dX11_writes_15 (by decide) (by omega) (fun c_15 => ?_) (fun c_15 => absurd c_15 (by decide))
  refine zV_aload_n hX dX11_writes_19 rfl ?_
  refine zV_dup hX dX11_writes_20 rfl ?_
  refine zV_geti hX (x := M.1 300 38) dX11_writes_21 zf_X11_413 zo300.1 rfl (by unfold mSb; rw [zw_ne (by omega)]) ?_
  refine zV_iconst hX (v := nI 1) dX11_writes_24 (by decide) ?_
  refine zV_iadd hX dX11_writes_25 ?_
  refine zV_puti hX dX11_writes_26 zf_X11_413 zp_9_38 zo300.1 rfl ?_
  refine zV_aload_n hX dX11_writes_29 rfl ?_
  refine zV_geta hX dX11_writes_30 zf_X11_68 zo300.1 rfl ?_
  refine zV_iload_n hX dX11_writes_33 rfl ?_
  refine zV_dup2 hX dX11_writes_34 rfl rfl ?_
  refine zV_iald hX (v := M.1 (300 + 1 + 32) s) dX11_writes_35 (zo300.a 32 rfl) (rfl) ⟨by omega, by omega⟩ (by unfold mSb; rw [zw_ne (by omega), zw_ne (by omega)]) ?_
  refine zV_iconst hX (v := nI 1) dX11_writes_36 (by decide) ?_
  refine zV_iadd hX dX11_writes_37 ?_
  refine zV_iast hX dX11_writes_38 (zo300.a 32 rfl) (rfl) ⟨by omega, by omega⟩ ?_
  refine zV_iload hX dX11_writes_39 rfl ?_
  refine zV_iconst hX (v := nI 1) dX11_writes_41 (by decide) ?_
  refine zV_icmp_neN hX (tgt := 58) dX11_writes_42 (by decide) ⟨by omega, by omega⟩ (fun c_42 => absurd c_42 (by decide)) (fun c_42 => ?_)
  refine zV_aload_n hX dX11_writes_45 rfl ?_
  refine zV_dup hX dX11_writes_46 rfl ?_
  refine zV_geti hX dX11_writes_47 zf_X11_416 zo300.1 rfl rfl ?_
  refine zV_iconst hX (v := nI 1) dX11_writes_50 (by decide) ?_
  refine zV_iadd hX dX11_writes_51 ?_
  refine zV_puti hX dX11_writes_52 zf_X11_416 zp_9_40 zo300.1 rfl ?_
  refine zV_goto hX (tgt := 102) dX11_writes_55 (by decide) ?_
  exact zV_retv hX hQ hr (⟨rfl, by unfold mWrites; rw [hw]; rfl⟩) dX11_writes_102
theorem mWc_16 {s : Nat} {u v : Int32} {M M9 : zM} (h : M9 = mWc s (mSb (some (some u)) v M)) : M9.1 300 16 = u := by
  rw [h, mWc_c (by omega)]
  exact zw_same
set_option maxHeartbeats 1000000 in
theorem zc_writes_v (l : Launch) (G : zG) (M : zM) (s x q : Nat) (o v sg : Int32) (mn : Nat → Option Nat) (u : Int32) (hmn : mLn 0 M mn) (hk : mTok M) (hs : s < 7) (hx : x < 7) (hq : q < 100) (hw : (mSay M mn s q x o v) = (some (some u))) : zC l G 2 yX11_writes cX11_writes 8 (Option.none : Option Jvm.ClassFile.FieldType) [.ref (300 : Nat), .int (nI s), .int (nI x), .int (nI q), .int o, .int v, .int sg] M (zP none (mWrites mn s x q o v sg M)) := by
  refine zC_of (by decide) (Nat.le_of_ble_eq_true rfl) (fun X Q hQ hX hl hR hr => ?_)
  refine zV_loc (L' := [.ref (300 : Nat), .int (nI s), .int (nI x), .int (nI q), .int o, .int v, .int sg, .null]) rfl ?_
  have J85 : ∀ M9 : zM, M9 = mWc s (mSb (some (some u)) v M) → mWrites mn s x q o v sg M = mTakes x u (sg ||| (nI 1 <<< (nI s &&& 31))) s q M9 → zV G X Q 8 0 0 85 [.ref (300 : Nat), .int (nI s), .int (nI x), .int (nI q), .int o, .int v, .int sg, .int (nI 2)] [] M9 := by
    intro M9 hM9 e9
    have hk9 : mTok M9 := by subst hM9; exact mTok_of hk (fun z => by rw [mWc_c (by omega)]; unfold mSb; rw [zw_ne (by omega)])
    refine zV_aload_n hX dX11_writes_85 rfl ?_
    refine zV_iload_n hX dX11_writes_86 rfl ?_
    refine zV_aload_n hX dX11_writes_87 rfl ?_
    refine zV_geti hX (x := u) dX11_writes_88 zf_X11_298 zo300.1 rfl (by exact mWc_16 hM9) ?_
    refine zV_iload hX dX11_writes_91 rfl ?_
    refine zV_iconst hX (v := nI 1) dX11_writes_93 (by decide) ?_
    refine zV_iload_n hX dX11_writes_94 rfl ?_
    refine zV_ishl hX dX11_writes_95 ?_
    refine zV_ior hX dX11_writes_96 ?_
    refine zV_iload_n hX dX11_writes_97 rfl ?_
    refine zV_iload_n hX dX11_writes_98 rfl ?_
    refine zV_cV5p hX hR hl dX11_writes_99 (zc_takesIt l G _ x s q u (sg ||| (nI 1 <<< (nI s &&& 31))) hk9 hx) zt_X11_takesIt rfl zml_X11_422 zo300.1 ⟨by decide, by decide⟩ (Nat.le_of_ble_eq_true rfl) ?_
    dsimp only [Option.toList, List.cons_append, List.nil_append]
    exact zV_retv hX hQ hr (⟨rfl, e9.symm⟩) dX11_writes_102
  refine zV_aload_n hX dX11_writes_0 rfl ?_
  refine zV_iload_n hX dX11_writes_1 rfl ?_
  refine zV_iload_n hX dX11_writes_2 rfl ?_
  refine zV_iload_n hX dX11_writes_3 rfl ?_
  refine zV_iload hX dX11_writes_4 rfl ?_
  refine zV_iload hX dX11_writes_6 rfl ?_
  refine zV_cV5p hX hR hl dX11_writes_8 (zc_says l G M s x q o v mn hmn hs hx) zt_X11_says rfl zml_X11_313 zo300.1 ⟨by decide, by decide⟩ (Nat.le_of_ble_eq_true rfl) ?_
  dsimp only [Option.toList, List.cons_append, List.nil_append]
  refine zV_topi (nI 2) (by rw [hw]; rfl) ?_
  rw [hw]
  refine zV_istore hX dX11_writes_11 (by decide) ?_
  dsimp only [zst1, zst2, zclr, zc2]
  refine zV_iload hX dX11_writes_13 rfl ?_
  refine zV_if_neN hX (tgt := 19) dX11_writes_15 (by decide) (by omega) (fun c_15 => ?_) (fun c_15 => absurd c_15 (by decide))
  refine zV_aload_n hX dX11_writes_19 rfl ?_
  refine zV_dup hX dX11_writes_20 rfl ?_
  refine zV_geti hX (x := M.1 300 38) dX11_writes_21 zf_X11_413 zo300.1 rfl (by unfold mSb; rw [zw_ne (by omega)]) ?_
  refine zV_iconst hX (v := nI 1) dX11_writes_24 (by decide) ?_
  refine zV_iadd hX dX11_writes_25 ?_
  refine zV_puti hX dX11_writes_26 zf_X11_413 zp_9_38 zo300.1 rfl ?_
  refine zV_aload_n hX dX11_writes_29 rfl ?_
  refine zV_geta hX dX11_writes_30 zf_X11_68 zo300.1 rfl ?_
  refine zV_iload_n hX dX11_writes_33 rfl ?_
  refine zV_dup2 hX dX11_writes_34 rfl rfl ?_
  refine zV_iald hX (v := M.1 (300 + 1 + 32) s) dX11_writes_35 (zo300.a 32 rfl) (rfl) ⟨by omega, by omega⟩ (by unfold mSb; rw [zw_ne (by omega), zw_ne (by omega)]) ?_
  refine zV_iconst hX (v := nI 1) dX11_writes_36 (by decide) ?_
  refine zV_iadd hX dX11_writes_37 ?_
  refine zV_iast hX dX11_writes_38 (zo300.a 32 rfl) (rfl) ⟨by omega, by omega⟩ ?_
  refine zV_iload hX dX11_writes_39 rfl ?_
  refine zV_iconst hX (v := nI 1) dX11_writes_41 (by decide) ?_
  refine zV_icmp_neN hX (tgt := 58) dX11_writes_42 (by decide) ⟨by omega, by omega⟩ (fun c_42 => ?_) (fun c_42 => absurd c_42 (by decide))
  refine zV_iload_n hX dX11_writes_58 rfl ?_
  refine zV_iconst hX (v := nI 1) dX11_writes_59 (by decide) ?_
  refine zV_icmp_leN hX (tgt := 85) dX11_writes_60 (by decide) ⟨by omega, by omega⟩ (fun c_60 => ?_) (fun c_60 => ?_)
  · have e9 : mWrites mn s x q o v sg M = (mTakes x u (sg ||| (nI 1 <<< (nI s &&& 31))) s q (mWc s (mSb (some (some u)) v M))) := by unfold mWrites; rw [hw]; exact if_neg (fun z => by omega)
    exact J85 _ rfl e9
  · refine zV_aload_n hX dX11_writes_63 rfl ?_
    refine zV_geti hX (x := u) dX11_writes_64 zf_X11_298 zo300.1 rfl (by rw [zw_ne (by omega), zw_ne (by omega)]; exact zw_same) ?_
    refine zV_iload hX dX11_writes_67 rfl ?_
    refine zV_icmp_eq hX (tgt := 85) dX11_writes_69 (by decide) (fun c_69 => ?_) (fun c_69 => ?_)
    · have e9 : mWrites mn s x q o v sg M = (mTakes x u (sg ||| (nI 1 <<< (nI s &&& 31))) s q (mWc s (mSb (some (some u)) v M))) := by unfold mWrites; rw [hw]; exact if_neg (fun z => z.2 c_69)
      exact J85 _ rfl e9
    · have e9 : mWrites mn s x q o v sg M = zw (mWc s (mSb (some (some u)) v M)) 300 39 ((mWc s (mSb (some (some u)) v M)).1 300 39 + nI 1) := by unfold mWrites; rw [hw]; exact if_pos ⟨c_60, c_69⟩
      refine zV_aload_n hX dX11_writes_72 rfl ?_
      refine zV_dup hX dX11_writes_73 rfl ?_
      refine zV_geti hX dX11_writes_74 zf_X11_419 zo300.1 rfl rfl ?_
      refine zV_iconst hX (v := nI 1) dX11_writes_77 (by decide) ?_
      refine zV_iadd hX dX11_writes_78 ?_
      refine zV_puti hX dX11_writes_79 zf_X11_419 zp_9_39 zo300.1 rfl ?_
      refine zV_goto hX (tgt := 102) dX11_writes_82 (by decide) ?_
      exact zV_retv hX hQ hr (⟨rfl, e9.symm⟩) dX11_writes_102
theorem zc_writes (l : Launch) (G : zG) (M : zM) (s x q : Nat) (o v sg : Int32) (mn : Nat → Option Nat) (hmn : mLn 0 M mn) (hk : mTok M) (hs : s < 7) (hx : x < 7) (hq : q < 100) : zC l G 2 yX11_writes cX11_writes 8 (Option.none : Option Jvm.ClassFile.FieldType) [.ref (300 : Nat), .int (nI s), .int (nI x), .int (nI q), .int o, .int v, .int sg] M (zP none (mWrites mn s x q o v sg M)) := by
  cases hw : (mSay M mn s q x o v) with
  | none => exact zc_writes_n l G M s x q o v sg mn hmn hk hs hx hq hw
  | some w => cases w with
    | none => exact zc_writes_w l G M s x q o v sg mn hmn hk hs hx hq hw
    | some u => exact zc_writes_v l G M s x q o v sg mn u hmn hk hs hx hq hw
