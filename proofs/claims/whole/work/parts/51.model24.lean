def uMs (M : zM) : Nat := if M.1 300 6 = 0 then uCn M + 1 else 0
theorem uMs_lt {e n : Nat} {M : zM} (h : uIv e n M) (he : e ≤ 300) (h0 : 1 ≤ n) (hn7 : n ≤ 7) (h6 : M.1 300 6 = 0) : uMs (uLiar e n (uS e M)) < uMs M := by
  unfold uMs
  rw [if_pos h6]
  split
  · rename_i g
    have := uCn_lt (uIv_S h he) he h0 hn7 g
    rw [uCn_S] at this
    omega
  · exact Nat.succ_pos _
theorem uCn_7 (M : zM) : uCn M ≤ 7 := zcnt_le _ 7
theorem uMs_8 (M : zM) : uMs M ≤ 8 := by
  have := uCn_7 M
  unfold uMs
  split <;> omega
def uFc (a _j : Nat) : Prop := a = 1208 ∨ (3100 ≤ a ∧ a < 3191)
abbrev kCp (M M' : zM) : Prop := zKf uFc M M'
theorem uC6_k {m i : Nat} (hm : m < 7) (hi : i < 13) (k : Nat) (M : zM) : kCp M (uC6 m i k M) := zKf.for k M (fun j M _ => zKf.rf.w (by unfold uFc; omega))
theorem uCi_k {m : Nat} (hm : m < 7) {k : Nat} (hk : k ≤ 13) (M : zM) : kCp M (uCi m k M) := zKf.for k M (fun i M hi => uC6_k hm (by omega) 6 M)
theorem uC6_8 {m i j : Nat} (k : Nat) (M : zM) : (uC6 m i k M).1 1208 j = M.1 1208 j := (zKf.for (F := fun a _ => 3100 ≤ a) k M (fun q M _ => zKf.rf.w (by omega))).1 _ _ (by omega)
theorem uCi_8 {m j : Nat} : ∀ (k : Nat) (M : zM), (uCi m k M).1 1208 j = M.1 1208 j
  | 0, _ => rfl
  | k + 1, M => (uC6_8 6 _).trans (uCi_8 k M)
theorem uCm_k {M : zM} (h : ∀ s, s < 7 → zN (M.1 1209 s) ≤ 12) : ∀ k, k ≤ 7 → kCp M (uCm k M)
  | 0, _ => zKf.rf
  | k + 1, hk => by
    have ih := uCm_k h k (by omega)
    have h9 : (uCm k M).1 1209 k = M.1 1209 k := ih.1 _ _ (by unfold uFc; omega)
    refine (ih.w (a := 1208) (j := k) (x := (uCm k M).1 1209 k) (Or.inl rfl)).tr ?_
    exact uCi_k (m := k) (k := zN ((uCm k M).1 1209 k)) (by omega) (by rw [h9]; have := h k (by omega); omega) _
theorem mBad_f {w r : Int32} {M : zM} : mBad false w r M = M := if_neg (fun q => by cases q.1)
theorem mBad_t {w r : Int32} {M : zM} (h : M.1 300 0 = 0) : mBad true w r M = zw (zw M 300 0 w) 302 r.toNatClampNeg (M.1 302 r.toNatClampNeg + nI 1) := if_pos ⟨rfl, h⟩
theorem mBad_1 {w r : Int32} {M : zM} (hw : ¬ w = 0) : (!decide ((mBad true w r M).1 300 0 = 0)) = true := by
  unfold mBad
  by_cases h : M.1 300 0 = 0
  · rw [if_pos ⟨rfl, h⟩, zw_ne (by omega), zw_same, decide_eq_false hw]; rfl
  · rw [if_neg (fun q => h q.2), decide_eq_false h]; rfl
theorem uCx {x : Int32} {i : Nat} (h : x = -1 ∨ (x = nI (zN x) ∧ zN x ≤ 12)) (hi : i ≤ 12) : x ≤ nI i ↔ zN x ≤ i := by
  rcases h with h | ⟨h, h2⟩
  · rw [h]
    exact ⟨fun _ => by have : zN (-1) = 0 := by decide
                       omega, fun _ => (by decide : ∀ i, i ≤ 12 → (-1 : Int32) ≤ nI i) i hi⟩
  · generalize zN x = c at *
    rw [h]
    exact nI_leI (by omega) (by omega)
set_option maxHeartbeats 1000000 in
theorem zc_mlies0 (l : Launch) (G : zG) (M : zM) (sz : Nat) (x : Int32) (hsz : M.1 300 2 = nI sz) (hs3 : sz ≤ 300) (hx : mIn x (nI 0) (nI sz) = false) : zC l G 9 yX11_lies cX11_lies 5 (Option.some Jvm.ClassFile.FieldType.int) [.ref (300 : Nat), .int x] M (zP (some (.int (nI 0))) (uB0 M)) := by
  refine zC_of (by decide) (Nat.le_of_ble_eq_true rfl) (fun X Q hQ hX hl hR hr => ?_)
  refine zV_loc (L' := [.ref (300 : Nat), .int x, .null, .null, .null]) rfl ?_
  refine zV_aload_n hX dX11_lies_0 rfl ?_
  refine zV_iconst hX (v := nI 0) dX11_lies_1 (by decide) ?_
  refine zV_puti hX dX11_lies_2 zf_X11_149 zp_9_0 zo300.1 rfl ?_
  refine zV_aload_n hX dX11_lies_5 rfl ?_
  refine zV_iload_n hX dX11_lies_6 rfl ?_
  refine zV_iconst hX (v := nI 0) dX11_lies_7 (by decide) ?_
  refine zV_aload_n hX dX11_lies_8 rfl ?_
  refine zV_geti hX dX11_lies_9 zf_X11_189 zo300.1 rfl ((zw_ne (by omega)).trans hsz) ?_
  refine zV_cS3p hX hR hl dX11_lies_12 (zc_min l G _ _ _ _) zt_X11_in rfl zml_X11_162 (by decide) (Nat.le_of_ble_eq_true rfl) ?_
  dsimp only [Option.toList, List.cons_append, List.nil_append]
  refine zV_topi (zb false) (by rw [hx]) ?_
  refine zV_if_neB hX (tgt := 22) dX11_lies_15 (by decide) (fun c_15 => absurd c_15 (by decide)) (fun c_15 => ?_)
  refine zV_iconst hX (v := nI 1) dX11_lies_18 (by decide) ?_
  refine zV_goto hX (tgt := 23) dX11_lies_19 (by decide) ?_
  refine zV_topi (zb true) rfl ?_
  refine zV_iconst hX (v := nI 1) dX11_lies_23 (by decide) ?_
  refine zV_iconst hX (v := nI 1) dX11_lies_24 (by decide) ?_
  refine zV_cV3p hX hR hl dX11_lies_25 (zc_bad1 l G _ true (nI 1)) zt_X11_bad rfl zml_X11_166 zo300.1 ⟨by decide, by decide⟩ (Nat.le_of_ble_eq_true rfl) ?_
  dsimp only [Option.toList, List.cons_append, List.nil_append]
  refine zV_topi (zb true) (by rw [mBad_1 (by decide)]) ?_
  refine zV_if_eqB hX (tgt := 33) dX11_lies_28 (by decide) (fun c_28 => absurd c_28 (by decide)) (fun c_28 => ?_)
  refine zV_iconst hX (v := nI 0) dX11_lies_31 (by decide) ?_
  exact zV_reti hX hQ hr (⟨rfl, rfl⟩) dX11_lies_32
set_option maxHeartbeats 1000000 in
theorem zc_mlies1 (l : Launch) (G : zG) (M : zM) (sz k n : Nat) (hsz : M.1 300 2 = nI sz) (hs3 : sz ≤ 300) (hk : k ≤ sz) (hn : M.1 300 9 = nI n) (h0 : 1 ≤ n) (hn7 : n ≤ 7) : zC l G 9 yX11_lies cX11_lies 5 (Option.some Jvm.ClassFile.FieldType.int) [.ref (300 : Nat), .int (nI k)] M (zP (some (.int (uB5 k n M))) (uB4 k n M)) := by
  refine zC_of (by decide) (Nat.le_of_ble_eq_true rfl) (fun X Q hQ hX hl hR hr => ?_)
  refine zV_loc (L' := [.ref (300 : Nat), .int (nI k), .null, .null, .null]) rfl ?_
  have he : k ≤ 300 := by omega
  have hiv : uIv k n (uB2 k n M) := uLo_iv he h0 hn7 301 (uB1_iv he hn)
  have hr9 : ∀ s, s < 7 → (uB3 k n M).1 1209 s = -1 ∨ ((uB3 k n M).1 1209 s = nI (zN ((uB3 k n M).1 1209 s)) ∧ zN ((uB3 k n M).1 1209 s) ≤ 12) := fun s hs => by have h := hiv.2 s hs; exact h
  have hr12 : ∀ s, s < 7 → zN ((uB3 k n M).1 1209 s) ≤ 12 := fun s hs => by rcases hr9 s hs with h | h; rw [h]; decide; exact h.2
  have hn3 : (uB3 k n M).1 300 9 = nI n := (zw_ne (by omega)).trans hiv.1.2.2.2
  have L110 : (uB3 k n M).1 300 6 = 0 → ∀ (f9 m : Nat) (v3 v4 : Value), 7 - m < f9 → m ≤ 7 → zV G X Q 5 0 0 110 [.ref (300 : Nat), .int (nI k), .int (nI m), v3, v4] [] (uCm m (uB3 k n M)) := by
    intro f6
    intro f9
    induction f9 with
    | zero => intro m v3 v4 hm1 hm2; exact absurd hm1 (Nat.not_lt_zero _)
    | succ f9 ih =>
      intro m v3 v4 hm1 hm2
      have hK := uCm_k hr12 m hm2
      have J194 : m < 7 → ∀ (i : Nat) (v3 v4 : Value), zN ((uCm m (uB3 k n M)).1 1209 m) = i → zV G X Q 5 0 0 194 [.ref (300 : Nat), .int (nI k), .int (nI m), v3, v4] [] (uCi m i (zw (uCm m (uB3 k n M)) 1208 m ((uCm m (uB3 k n M)).1 1209 m))) := by
        intro hm7 i v3 v4 e8
        refine zV_iincN hX (b := 1) dX11_lies_194 rfl (by decide) ?_
        dsimp only [zst1, zst2, zclr, zc2]
        refine zV_goto hX (tgt := 110) dX11_lies_197 (by decide) ?_
        subst e8
        exact ih (m + 1) _ _ (by omega) (by omega)
      have L134 : m < 7 → ∀ (f9 i : Nat) (v4 : Value), 13 - i < f9 → i ≤ zN ((uB3 k n M).1 1209 m) → zV G X Q 5 0 0 134 [.ref (300 : Nat), .int (nI k), .int (nI m), .int (nI i), v4] [] (uCi m i (zw (uCm m (uB3 k n M)) 1208 m ((uCm m (uB3 k n M)).1 1209 m))) := by
        intro hm7
        have hl9 := hr12 m hm7
        intro f9
        induction f9 with
        | zero => intro i v4 hi1 hi2; exact absurd hi1 (Nat.not_lt_zero _)
        | succ f9 ih2 =>
          intro i v4 hi1 hi2
          have J188 : i < zN ((uB3 k n M).1 1209 m) → ∀ (j : Nat), j = 6 → ∀ v4 : Value, zV G X Q 5 0 0 188 [.ref (300 : Nat), .int (nI k), .int (nI m), .int (nI i), v4] [] (uC6 m i j (uCi m i (zw (uCm m (uB3 k n M)) 1208 m ((uCm m (uB3 k n M)).1 1209 m)))) := by
            intro hz j hj6 v4
            subst hj6
            refine zV_iincN hX (b := 1) dX11_lies_188 rfl (by decide) ?_
            dsimp only [zst1, zst2, zclr, zc2]
            refine zV_goto hX (tgt := 134) dX11_lies_191 (by decide) ?_
            exact ih2 (i + 1) _ (by omega) (by omega)
          have L149 : i < zN ((uB3 k n M).1 1209 m) → ∀ (f9 j : Nat), 6 - j < f9 → j ≤ 6 → zV G X Q 5 0 0 149 [.ref (300 : Nat), .int (nI k), .int (nI m), .int (nI i), .int (nI j)] [] (uC6 m i j (uCi m i (zw (uCm m (uB3 k n M)) 1208 m ((uCm m (uB3 k n M)).1 1209 m)))) := by
            intro hz
            intro f9
            induction f9 with
            | zero => intro j hj1 hj2; exact absurd hj1 (Nat.not_lt_zero _)
            | succ f9 ih3 =>
              intro j hj1 hj2
              have hl9 := hr12 m hm7
              refine zV_iload hX dX11_lies_149 rfl ?_
              refine zV_bipush hX (v := nI 6) dX11_lies_151 (by decide) ?_
              refine zV_icmp_geN hX (tgt := 188) dX11_lies_153 (by decide) ⟨by omega, by omega⟩ (fun c_153 => ?_) (fun c_153 => ?_)
              · exact J188 hz j (by omega) _
              · refine zV_aload_n hX dX11_lies_156 rfl ?_
                refine zV_geta hX dX11_lies_157 zf_X11_36 zo300.1 rfl ?_
                refine zV_iconst hX (v := nI 0) dX11_lies_160 (by decide) ?_
                refine zV_aald hX dX11_lies_161 (t := 2) (zo300.a 14 rfl) (by decide) (rfl) ⟨by omega, by omega⟩ (mLieA) ?_
                refine zV_iload_n hX dX11_lies_162 rfl ?_
                refine zV_aald hX dX11_lies_163 (t := 3) (mShA (by omega)) (by decide) (rfl) ⟨by omega, by omega⟩ (mLieB (by omega)) ?_
                refine zV_iload_n hX dX11_lies_164 rfl ?_
                refine zV_aald hX dX11_lies_165 (t := 0) (mShB (by omega) (by omega)) (by decide) (rfl) ⟨by omega, by omega⟩ (mLieC (by omega) (by omega)) ?_
                refine zV_iload hX dX11_lies_166 rfl ?_
                refine zV_aload_n hX dX11_lies_168 rfl ?_
                refine zV_geta hX dX11_lies_169 zf_X11_36 zo300.1 rfl ?_
                refine zV_iconst hX (v := nI 1) dX11_lies_172 (by decide) ?_
                refine zV_aald hX dX11_lies_173 (t := 2) (zo300.a 14 rfl) (by decide) (rfl) ⟨by omega, by omega⟩ (mLieA) ?_
                refine zV_iload_n hX dX11_lies_174 rfl ?_
                refine zV_aald hX dX11_lies_175 (t := 3) (mShA (by omega)) (by decide) (rfl) ⟨by omega, by omega⟩ (mLieB (by omega)) ?_
                refine zV_iload_n hX dX11_lies_176 rfl ?_
                refine zV_aald hX dX11_lies_177 (t := 0) (mShB (by omega) (by omega)) (by decide) (rfl) ⟨by omega, by omega⟩ (mLieC (by omega) (by omega)) ?_
                refine zV_iload hX dX11_lies_178 rfl ?_
                refine zV_iald hX (v := (uC6 m i j (uCi m i (zw (uCm m (uB3 k n M)) 1208 m ((uCm m (uB3 k n M)).1 1209 m)))).1 (3100 + 13 * (7 * 1 + m) + i) j) dX11_lies_180 (mShC (by omega) (by omega) (by omega)) (rfl) ⟨by omega, by omega⟩ (rfl) ?_
                refine zV_iast hX dX11_lies_181 (mShC (by omega) (by omega) (by omega)) (rfl) ⟨by omega, by omega⟩ ?_
                refine zV_iincN hX (b := 1) dX11_lies_182 rfl (by decide) ?_
                dsimp only [zst1, zst2, zclr, zc2]
                refine zV_goto hX (tgt := 149) dX11_lies_185 (by decide) ?_
                exact ih3 (j + 1) (by omega) (by omega)
          refine zV_iload_n hX dX11_lies_134 rfl ?_
          refine zV_aload_n hX dX11_lies_135 rfl ?_
          refine zV_geta hX dX11_lies_136 zf_X11_31 zo300.1 rfl ?_
          refine zV_iconst hX (v := nI 0) dX11_lies_139 (by decide) ?_
          refine zV_aald hX dX11_lies_140 (t := 0) (zo300.a 13 rfl) (by decide) (rfl) ⟨by omega, by omega⟩ (mRow 13 (by decide)) ?_
          refine zV_iload_n hX dX11_lies_141 rfl ?_
          refine zV_iald hX (v := ((uB3 k n M).1 1209 m)) dX11_lies_142 (mSh13 (by omega)) (rfl) ⟨by omega, by omega⟩ ((uCi_8 i _).trans (zw_same.trans (hK.1 _ _ (by unfold uFc; omega)))) ?_
          refine zV_icmp_ge hX (tgt := 194) dX11_lies_143 (by decide) (fun c_143 => ?_) (fun c_143 => ?_)
          · have hz := (uCx (hr9 m hm7) (by omega)).mp c_143
            have e8 : zN ((uCm m (uB3 k n M)).1 1209 m) = i := by rw [hK.1 1209 m (by unfold uFc; omega)]; omega
            exact J194 hm7 i _ _ e8
          · have hz : i < zN ((uB3 k n M).1 1209 m) := Nat.lt_of_not_le (fun q => c_143 ((uCx (hr9 m hm7) (by omega)).mpr q))
            refine zV_iconst hX (v := nI 0) dX11_lies_146 (by decide) ?_
            refine zV_istore hX dX11_lies_147 (by decide) ?_
            dsimp only [zst1, zst2, zclr, zc2]
            exact L149 hz 7 0 (by omega) (by omega)
      refine zV_iload_n hX dX11_lies_110 rfl ?_
      refine zV_bipush hX (v := nI 7) dX11_lies_111 (by decide) ?_
      refine zV_icmp_geN hX (tgt := 200) dX11_lies_113 (by decide) ⟨by omega, by omega⟩ (fun c_113 => ?_) (fun c_113 => ?_)
      · have hm7 : m = 7 := by omega
        subst hm7
        refine zV_aload_n hX dX11_lies_200 rfl ?_
        refine zV_cV0p hX hR hl dX11_lies_201 (zc_liars l G _ n (hK.at hn3 (by unfold uFc; omega)) hn7) zt_X11_liars rfl zml_X11_292 zo300.1 ⟨by decide, by decide⟩ (Nat.le_of_ble_eq_true rfl) ?_
        dsimp only [Option.toList, List.cons_append, List.nil_append]
        exact zV_reti hX hQ hr (⟨by rw [uB5, if_pos f6, uB4, if_pos f6], by rw [uB4, if_pos f6]⟩) dX11_lies_204
      · refine zV_aload_n hX dX11_lies_116 rfl ?_
        refine zV_geta hX dX11_lies_117 zf_X11_31 zo300.1 rfl ?_
        refine zV_iconst hX (v := nI 0) dX11_lies_120 (by decide) ?_
        refine zV_aald hX dX11_lies_121 (t := 0) (zo300.a 13 rfl) (by decide) (rfl) ⟨by omega, by omega⟩ (mRow 13 (by decide)) ?_
        refine zV_iload_n hX dX11_lies_122 rfl ?_
        refine zV_aload_n hX dX11_lies_123 rfl ?_
        refine zV_geta hX dX11_lies_124 zf_X11_31 zo300.1 rfl ?_
        refine zV_iconst hX (v := nI 1) dX11_lies_127 (by decide) ?_
        refine zV_aald hX dX11_lies_128 (t := 0) (zo300.a 13 rfl) (by decide) (rfl) ⟨by omega, by omega⟩ (mRow 13 (by decide)) ?_
        refine zV_iload_n hX dX11_lies_129 rfl ?_
        refine zV_iald hX (v := (uCm m (uB3 k n M)).1 1209 m) dX11_lies_130 (mSh13 (by omega)) (rfl) ⟨by omega, by omega⟩ (rfl) ?_
        refine zV_iast hX dX11_lies_131 (mSh13 (by omega)) (rfl) ⟨by omega, by omega⟩ ?_
        refine zV_iconst hX (v := nI 0) dX11_lies_132 (by decide) ?_
        refine zV_istore_n hX dX11_lies_133 (by decide) ?_
        dsimp only [zst1, zst2, zclr, zc2]
        exact L134 (by omega) 14 0 _ (by omega) (Nat.zero_le _)
  have J85 : zV G X Q 5 0 0 85 [.ref (300 : Nat), .int (nI k), .null, .null, .null] [] (uB2 k n M) := by
    refine zV_aload_n hX dX11_lies_85 rfl ?_
    refine zV_aload_n hX dX11_lies_86 rfl ?_
    refine zV_geti hX (x := (uB2 k n M).1 300 7) dX11_lies_87 zf_X11_205 zo300.1 rfl (rfl) ?_
    refine zV_puti hX dX11_lies_90 zf_X11_13 zp_9_5 zo300.1 rfl ?_
    refine zV_mem (show _ = (uB3 k n M) from rfl) ?_
    refine zV_aload_n hX dX11_lies_93 rfl ?_
    refine zV_cV0p hX hR hl dX11_lies_94 (zc_fine l G (uB3 k n M)) zt_X11_fine rfl zml_X11_208 zo300.1 ⟨by decide, by decide⟩ (Nat.le_of_ble_eq_true rfl) ?_
    dsimp only [Option.toList, List.cons_append, List.nil_append]
    refine zV_if_neB hX (tgt := 108) dX11_lies_97 (by decide) (fun c_97 => ?_) (fun c_97 => ?_)
    · have f6 : (uB3 k n M).1 300 6 = 0 := of_decide_eq_true c_97
      refine zV_iconst hX (v := nI 0) dX11_lies_108 (by decide) ?_
      refine zV_istore_n hX dX11_lies_109 (by decide) ?_
      dsimp only [zst1, zst2, zclr, zc2]
      exact L110 f6 8 0 _ _ (by omega) (by omega)
    · have f6 : ¬ (uB3 k n M).1 300 6 = 0 := of_decide_eq_false c_97
      refine zV_aload_n hX dX11_lies_100 rfl ?_
      refine zV_geti hX (x := (uB3 k n M).1 300 6) dX11_lies_101 zf_X11_202 zo300.1 rfl (rfl) ?_
      refine zV_bipush hX (v := nI 10) dX11_lies_104 (by decide) ?_
      refine zV_isub hX dX11_lies_106 ?_
      exact zV_reti hX hQ hr (⟨by rw [uB5, if_neg f6], by rw [uB4, if_neg f6]⟩) dX11_lies_107
  have L63 : ∀ (f9 j : Nat) (M9 : zM), uMs M9 < f9 → f9 + 1 ≤ j → uIv k n M9 → uLo k n j M9 = (uB2 k n M) → zV G X Q 5 0 0 63 [.ref (300 : Nat), .int (nI k), .null, .null, .null] [] M9 := by
    intro f9
    induction f9 with
    | zero => intro j M9 hj1 hj2 h9 he9; exact absurd hj1 (Nat.not_lt_zero _)
    | succ f9 ih =>
      intro j M9 hj1 hj2 h9 he9
      refine zV_aload_n hX dX11_lies_63 rfl ?_
      refine zV_cV0p hX hR hl dX11_lies_64 (zc_fine l G M9) zt_X11_fine rfl zml_X11_208 zo300.1 ⟨by decide, by decide⟩ (Nat.le_of_ble_eq_true rfl) ?_
      dsimp only [Option.toList, List.cons_append, List.nil_append]
      refine zV_if_eqB hX (tgt := 85) dX11_lies_67 (by decide) (fun c_67 => ?_) (fun c_67 => ?_)
      · have f6 : ¬ M9.1 300 6 = 0 := of_decide_eq_false c_67
        have e8 : M9 = (uB2 k n M) := by rw [← he9, uLo_no f6]
        exact zV_mem e8 J85
      · have f6 : M9.1 300 6 = 0 := of_decide_eq_true c_67
        obtain ⟨q, rfl⟩ : ∃ q, j = q + 1 := ⟨j - 1, by omega⟩
        refine zV_aload_n hX dX11_lies_70 rfl ?_
        refine zV_cV0p hX hR hl dX11_lies_71 (zc_here l G M9 k n h9.1 he) zt_X11_here rfl zml_X11_212 zo300.1 ⟨by decide, by decide⟩ (Nat.le_of_ble_eq_true rfl) ?_
        dsimp only [Option.toList, List.cons_append, List.nil_append]
        refine zV_iconst hX (v := (-1)) dX11_lies_74 (by decide) ?_
        refine zV_icmp_eq hX (tgt := 85) dX11_lies_75 (by decide) (fun c_75 => ?_) (fun c_75 => ?_)
        · have e8 : uS k M9 = (uB2 k n M) := by rw [← he9, uLo, if_pos f6, if_pos c_75]
          exact zV_mem e8 J85
        · have e8 : uLo k n q (uLiar k n (uS k M9)) = (uB2 k n M) := by rw [← he9, uLo, if_pos f6, if_neg c_75]
          have hms := uMs_lt h9 he h0 hn7 f6
          refine zV_aload_n hX dX11_lies_78 rfl ?_
          refine zV_cV0p hX hR hl dX11_lies_79 (zc_mreadsLiar l G (uS k M9) k n (uSt_S h9.1 he) he h0 hn7) zt_X11_readsLiar rfl zml_X11_289 zo300.1 ⟨by decide, by decide⟩ (Nat.le_of_ble_eq_true rfl) ?_
          dsimp only [Option.toList, List.cons_append, List.nil_append]
          refine zV_goto hX (tgt := 63) dX11_lies_82 (by decide) ?_
          exact ih q _ (by omega) (by omega) (uLiar_iv (uIv_S h9 he) he h0 hn7).1 e8
  refine zV_aload_n hX dX11_lies_0 rfl ?_
  refine zV_iconst hX (v := nI 0) dX11_lies_1 (by decide) ?_
  refine zV_puti hX dX11_lies_2 zf_X11_149 zp_9_0 zo300.1 rfl ?_
  refine zV_aload_n hX dX11_lies_5 rfl ?_
  refine zV_iload_n hX dX11_lies_6 rfl ?_
  refine zV_iconst hX (v := nI 0) dX11_lies_7 (by decide) ?_
  refine zV_aload_n hX dX11_lies_8 rfl ?_
  refine zV_geti hX dX11_lies_9 zf_X11_189 zo300.1 rfl ((zw_ne (by omega)).trans hsz) ?_
  refine zV_cS3p hX hR hl dX11_lies_12 (zc_min l G _ _ _ _) zt_X11_in rfl zml_X11_162 (by decide) (Nat.le_of_ble_eq_true rfl) ?_
  dsimp only [Option.toList, List.cons_append, List.nil_append]
  refine zV_topi (zb true) (by rw [mIn_nI (by omega) (by omega) (by omega), decide_eq_false (by omega)]; rfl) ?_
  refine zV_if_neB hX (tgt := 22) dX11_lies_15 (by decide) (fun c_15 => ?_) (fun c_15 => absurd c_15 (by decide))
  refine zV_iconst hX (v := nI 0) dX11_lies_22 (by decide) ?_
  refine zV_topi (zb false) rfl ?_
  refine zV_iconst hX (v := nI 1) dX11_lies_23 (by decide) ?_
  refine zV_iconst hX (v := nI 1) dX11_lies_24 (by decide) ?_
  refine zV_cV3p hX hR hl dX11_lies_25 (zc_bad1 l G _ false (nI 1)) zt_X11_bad rfl zml_X11_166 zo300.1 ⟨by decide, by decide⟩ (Nat.le_of_ble_eq_true rfl) ?_
  dsimp only [Option.toList, List.cons_append, List.nil_append]
  refine zV_mem mBad_f ?_
  refine zV_topi (zb false) (by rw [mBad_f, zw_same]; rfl) ?_
  refine zV_if_eqB hX (tgt := 33) dX11_lies_28 (by decide) (fun c_28 => ?_) (fun c_28 => absurd c_28 (by decide))
  refine zV_aload_n hX dX11_lies_33 rfl ?_
  refine zV_iconst hX (v := nI 0) dX11_lies_34 (by decide) ?_
  refine zV_puti hX dX11_lies_35 zf_X11_189 zp_9_2 zo300.1 rfl ?_
  refine zV_aload_n hX dX11_lies_38 rfl ?_
  refine zV_iload_n hX dX11_lies_39 rfl ?_
  refine zV_puti hX dX11_lies_40 zf_X11_192 zp_9_3 zo300.1 rfl ?_
  refine zV_aload_n hX dX11_lies_43 rfl ?_
  refine zV_iconst hX (v := nI 0) dX11_lies_44 (by decide) ?_
  refine zV_puti hX dX11_lies_45 zf_X11_195 zp_9_4 zo300.1 rfl ?_
  refine zV_aload_n hX dX11_lies_48 rfl ?_
  refine zV_iconst hX (v := nI 0) dX11_lies_49 (by decide) ?_
  refine zV_puti hX dX11_lies_50 zf_X11_202 zp_9_6 zo300.1 rfl ?_
  refine zV_aload_n hX dX11_lies_53 rfl ?_
  refine zV_iconst hX (v := (-1)) dX11_lies_54 (by decide) ?_
  refine zV_puti hX dX11_lies_55 zf_X11_205 zp_9_7 zo300.1 rfl ?_
  refine zV_aload_n hX dX11_lies_58 rfl ?_
  refine zV_iconst hX (v := nI 1) dX11_lies_59 (by decide) ?_
  refine zV_cV1p hX hR hl dX11_lies_60 (zc_empties l G _ 1 (by decide)) zt_X11_empties rfl zml_X11_145 zo300.1 ⟨by decide, by decide⟩ (Nat.le_of_ble_eq_true rfl) ?_
  dsimp only [Option.toList, List.cons_append, List.nil_append]
  refine zV_mem (show _ = uB1 k M from rfl) ?_
  exact L63 9 301 (uB1 k M) (by have := uMs_8 (uB1 k M); omega) (by decide) (uB1_iv he hn) rfl
