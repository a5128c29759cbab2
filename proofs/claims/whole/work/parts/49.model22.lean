-- a liar
def uQ1 (e : Nat) (M : zM) : zM := if uTk e 0 M then uTm e 0 M else mWr (nI 1) ((uTm e 0 M).1 300 4) (uTm e 0 M)
def uQ2 (e n : Nat) (M : zM) : zM := uNm e 0 (n - 1) (uQ1 e M)
def uQw (e n : Nat) (M : zM) : Nat := zN (uNx e 0 (n - 1) (uQ1 e M))
def uQ3 (e n : Nat) (M : zM) : zM := if (uQ2 e n M).1 300 6 = 0 ∧ ¬ (uQ2 e n M).1 1209 (uQw e n M) = -1 then mWr (nI 4) ((uQ2 e n M).1 300 15) (uQ2 e n M) else uQ2 e n M
def uQ4 (e n : Nat) (M : zM) : zM := uSg e (nI 123) (uQ3 e n M)
def uQ5 (e n : Nat) (M : zM) : zM := zw (uQ4 e n M) 1209 (uQw e n M) (nI 0)
def uCl (m k : Nat) : Nat := 3100 + 13 * (7 * 1 + m) + k
def uLx (e n m : Nat) : Nat → Nat → zM → zM
  | 0, _, M => M
  | f + 1, k, M => if M.1 300 6 = 0 then (if uBy e M (uSp e M) = nI 125 then uS e M else if uLb e M then (if k = 12 then mWr (nI 3) (nI (uSp e M)) (uS e M) else uLx e n m f (k + 1) (zw (uLie e n (uCl m k) (uS e M)) 1209 m (nI (k + 1)))) else mWr (nI 1) (nI (uSp e M)) (uS e M)) else M
def uLiar (e n : Nat) (M : zM) : zM := if (uQ4 e n M).1 300 6 = 0 then uSg e (nI 125) (uLx e n (uQw e n M) 13 0 (uQ5 e n M)) else uQ4 e n M
theorem uQw_b {e n : Nat} {M : zM} (h0 : 1 ≤ n) (hn7 : n ≤ 7) : uNx e 0 (n - 1) (uQ1 e M) = nI (uQw e n M) ∧ uQw e n M < n := by
  obtain ⟨v, h1, -, h3⟩ := uNx_b (e := e) (lo := 0) (hi := n - 1) (M := uQ1 e M) (Nat.zero_le _)
  unfold uQw
  rw [h1, zN_nI (by omega)]
  exact ⟨rfl, by omega⟩
theorem uSt_Q1 {e n : Nat} {M : zM} (h : uSt e n M) (he : e ≤ 300) : uSt e n (uQ1 e M) := by
  unfold uQ1
  split
  · exact uSt_Tm h he
  · exact uSt_W (uSt_Tm h he)
theorem uQ1_k (e : Nat) (M : zM) : kU M (uQ1 e M) := by
  unfold uQ1
  split
  · exact uTm_k _ _ _
  · exact (uTm_k _ _ _).tr (mWr_k _ _ _)
theorem uSt_Q2 {e n : Nat} {M : zM} (h : uSt e n M) (he : e ≤ 300) : uSt e n (uQ2 e n M) := uSt_Nm (uSt_Q1 h he) he
theorem uSt_Q3 {e n : Nat} {M : zM} (h : uSt e n M) (he : e ≤ 300) : uSt e n (uQ3 e n M) := by
  unfold uQ3
  split
  · exact uSt_W (uSt_Q2 h he)
  · exact uSt_Q2 h he
theorem uQ3_k (e n : Nat) (M : zM) : kU M (uQ3 e n M) := by
  have h2 : kU M (uQ2 e n M) := (uQ1_k e M).tr (uNm_k _ _ _ _)
  unfold uQ3
  split
  · exact h2.tr (mWr_k _ _ _)
  · exact h2
theorem uSt_Q4 {e n : Nat} {M : zM} (h : uSt e n M) (he : e ≤ 300) : uSt e n (uQ4 e n M) := uSt_Sg (uSt_Q3 h he) he (by decide)
theorem uQ4_k (e n : Nat) (M : zM) : kU M (uQ4 e n M) := (uQ3_k e n M).tr (uSg_k _ _ _)
theorem uSt_Q5 {e n : Nat} {M : zM} (h : uSt e n M) (he : e ≤ 300) : uSt e n (uQ5 e n M) := uSt_zw (uSt_Q4 h he) (by omega)
theorem uWl_S {e n : Nat} {M : zM} (h : uSt e n M) (he : e ≤ 300) : uWl e (uS e M) = uWl e M := by
  unfold uWl
  rw [uSp_S h he]
  unfold uS
  rw [uLt_e (fun i => uAt_c (by omega))]
theorem uWb_S {e n j : Nat} {M : zM} (h : uSt e n M) (he : e ≤ 300) : uWb e j (uS e M) = uWb e j M := by
  unfold uWb
  rw [uWl_S h he, uSp_S h he]
  have hc : ∀ i, (uS e M).1 309 i = M.1 309 i := fun i => uAt_c (by omega)
  simp only [hc]
theorem uLb_S {e n : Nat} {M : zM} (h : uSt e n M) (he : e ≤ 300) : uLb e (uS e M) = uLb e M := by
  unfold uLb
  simp only [uWb_S h he]
theorem uSg_no {e : Nat} {c : Int32} {M : zM} (h : ¬ M.1 300 6 = 0) : uSg e c M = M := if_neg h
theorem uLx_no {e n m f k : Nat} {M : zM} (h : ¬ M.1 300 6 = 0) : uLx e n m f k M = M := by
  cases f with
  | zero => rfl
  | succ f => rw [uLx, if_neg h]
theorem uLie_9 {e n m k j : Nat} {M : zM} (hm : m < 7) (hk : k < 13) : (uLie e n (uCl m k) M).1 1209 j = M.1 1209 j := (uLie_k e n (uCl m k) M).1 _ _ (by unfold uFr uCl; omega)
theorem zc_isLieHereS (l : Launch) (G : zG) (M : zM) (e n : Nat) (hM : uSt e n M) (he : e ≤ 300) : zC l G 5 yX11_isLieHere cX11_isLieHere 2 (Option.some Jvm.ClassFile.FieldType.boolean) [.ref (300 : Nat)] (uS e M) (zP (some (.int (zb (uLb e M)))) (uS e M)) := by
  have h := zc_isLieHere l G (uS e M) e n (uSt_S hM he) he
  rw [uLb_S hM he, uS_S hM he] at h
  exact h
set_option maxHeartbeats 1000000 in
theorem zc_mreadsLiar (l : Launch) (G : zG) (M : zM) (e n : Nat) (hM : uSt e n M) (he : e ≤ 300) (h0 : 1 ≤ n) (hn7 : n ≤ 7) : zC l G 8 yX11_readsLiar cX11_readsLiar 2 (Option.none : Option Jvm.ClassFile.FieldType) [.ref (300 : Nat)] M (zP none (uLiar e n M)) := by
  refine zC_of (by decide) (Nat.le_of_ble_eq_true rfl) (fun X Q hQ hX hl hR hr => ?_)
  refine zV_loc (L' := [.ref (300 : Nat), .null]) rfl ?_
  have L82 : ∀ m : Nat, m = uQw e n M → m < n → (uQ4 e n M).1 300 6 = 0 → ∀ (f9 k : Nat) (M9 : zM), 13 - k < f9 → k ≤ 12 → uSt e n M9 → M9.1 1209 m = nI k → (uLx e n m (13 - k) k M9) = (uLx e n m 13 0 (uQ5 e n M)) → zV G X Q 2 0 0 82 [.ref (300 : Nat), .int (nI m)] [] M9 := by
    intro m hm hmn g6
    intro f9
    induction f9 with
    | zero => intro k M9 hk1 hk2 hU hk9 he9; exact absurd hk1 (Nat.not_lt_zero _)
    | succ f9 ih =>
      intro k M9 hk1 hk2 hU hk9 he9
      have J139 : ∀ B : zM, (¬ B.1 300 6 = 0 → uLiar e n M = B) → (B.1 300 6 = 0 → zV G X Q 2 0 0 147 [.ref (300 : Nat), .int (nI m)] [] B) → zV G X Q 2 0 0 139 [.ref (300 : Nat), .int (nI m)] [] B := by
        intro B hB1 hB2
        refine zV_aload_n hX dX11_readsLiar_139 rfl ?_
        refine zV_cV0p hX hR hl dX11_readsLiar_140 (zc_fine l G _) zt_X11_fine rfl zml_X11_208 zo300.1 ⟨by decide, by decide⟩ (Nat.le_of_ble_eq_true rfl) ?_
        dsimp only [Option.toList, List.cons_append, List.nil_append]
        refine zV_if_neB hX (tgt := 147) dX11_readsLiar_143 (by decide) (fun c_143 => ?_) (fun c_143 => ?_)
        · exact hB2 (of_decide_eq_true c_143)
        · exact zV_retv hX hQ hr (⟨rfl, (hB1 (of_decide_eq_false c_143)).symm⟩) dX11_readsLiar_146
      have J147 : k < 12 → uLx e n m (13 - (k + 1)) (k + 1) (zw (uLie e n (uCl m k) (uS e M9)) 1209 m (nI (k + 1))) = (uLx e n m 13 0 (uQ5 e n M)) → zV G X Q 2 0 0 147 [.ref (300 : Nat), .int (nI m)] [] (uS e M9) := by
        intro hk11 e8
        refine zV_aload_n hX dX11_readsLiar_147 rfl ?_
        refine zV_aload_n hX dX11_readsLiar_148 rfl ?_
        refine zV_geta hX dX11_readsLiar_149 zf_X11_36 zo300.1 rfl ?_
        refine zV_iconst hX (v := nI 1) dX11_readsLiar_152 (by decide) ?_
        refine zV_aald hX dX11_readsLiar_153 (t := 2) (zo300.a 14 rfl) (by decide) (rfl) ⟨by omega, by omega⟩ (mLieA) ?_
        refine zV_iload_n hX dX11_readsLiar_154 rfl ?_
        refine zV_aald hX dX11_readsLiar_155 (t := 3) (mShA (by omega)) (by decide) (rfl) ⟨by omega, by omega⟩ (mLieB (by omega)) ?_
        refine zV_aload_n hX dX11_readsLiar_156 rfl ?_
        refine zV_geta hX dX11_readsLiar_157 zf_X11_31 zo300.1 rfl ?_
        refine zV_iconst hX (v := nI 1) dX11_readsLiar_160 (by decide) ?_
        refine zV_aald hX dX11_readsLiar_161 (t := 0) (zo300.a 13 rfl) (by decide) (rfl) ⟨by omega, by omega⟩ (mRow 13 (by decide)) ?_
        refine zV_iload_n hX dX11_readsLiar_162 rfl ?_
        refine zV_iald hX (v := nI k) dX11_readsLiar_163 (mSh13 (by omega)) (rfl) ⟨by omega, by omega⟩ ((uAt_c (by omega)).trans hk9) ?_
        refine zV_aald hX dX11_readsLiar_164 (t := 0) (mShB (by omega) (by omega)) (by decide) (rfl) ⟨by omega, by omega⟩ (mLieC (by omega) (by omega)) ?_
        refine zV_cV1p hX hR hl dX11_readsLiar_165 (zc_readsLie l G (uS e M9) e n (uCl m k) (uSt_S hU he) he h0 hn7 (mShC (by omega) (by omega) (by omega)) (by unfold uCl; omega)) zt_X11_readsLie rfl zml_X11_285 zo300.1 ⟨by decide, by decide⟩ (Nat.le_of_ble_eq_true rfl) ?_
        dsimp only [Option.toList, List.cons_append, List.nil_append]
        refine zV_aload_n hX dX11_readsLiar_168 rfl ?_
        refine zV_geta hX dX11_readsLiar_169 zf_X11_31 zo300.1 rfl ?_
        refine zV_iconst hX (v := nI 1) dX11_readsLiar_172 (by decide) ?_
        refine zV_aald hX dX11_readsLiar_173 (t := 0) (zo300.a 13 rfl) (by decide) (rfl) ⟨by omega, by omega⟩ (mRow 13 (by decide)) ?_
        refine zV_iload_n hX dX11_readsLiar_174 rfl ?_
        refine zV_dup2 hX dX11_readsLiar_175 rfl rfl ?_
        refine zV_iald hX (v := nI k) dX11_readsLiar_176 (mSh13 (by omega)) (rfl) ⟨by omega, by omega⟩ ((uLie_9 (by omega) (by omega)).trans ((uAt_c (by omega)).trans hk9)) ?_
        refine zV_iconst hX (v := nI 1) dX11_readsLiar_177 (by decide) ?_
        refine zV_iaddN hX dX11_readsLiar_178 ?_
        refine zV_iast hX dX11_readsLiar_179 (mSh13 (by omega)) (rfl) ⟨by omega, by omega⟩ ?_
        refine zV_goto hX (tgt := 82) dX11_readsLiar_180 (by decide) ?_
        refine ih (k + 1) _ (by omega) (by omega) (uSt_zw (uSt_Lie (uSt_S hU he) he (by unfold uCl; omega)) (by omega)) zw_same e8
      refine zV_aload_n hX dX11_readsLiar_82 rfl ?_
      refine zV_cV0p hX hR hl dX11_readsLiar_83 (zc_fine l G M9) zt_X11_fine rfl zml_X11_208 zo300.1 ⟨by decide, by decide⟩ (Nat.le_of_ble_eq_true rfl) ?_
      dsimp only [Option.toList, List.cons_append, List.nil_append]
      refine zV_if_eqB hX (tgt := 183) dX11_readsLiar_86 (by decide) (fun c_86 => ?_) (fun c_86 => ?_)
      · have f6 : ¬ M9.1 300 6 = 0 := of_decide_eq_false c_86
        have e8 : M9 = (uLx e n m 13 0 (uQ5 e n M)) := by rw [← he9, uLx_no f6]
        have hU9 := hU
        refine zV_aload_n hX dX11_readsLiar_183 rfl ?_
        refine zV_bipush hX (v := nI 125) dX11_readsLiar_184 (by decide) ?_
        refine zV_cV1p hX hR hl dX11_readsLiar_186 (zc_sign l G _ e n (nI 125) hU9 he) zt_X11_sign rfl zml_X11_277 zo300.1 ⟨by decide, by decide⟩ (Nat.le_of_ble_eq_true rfl) ?_
        dsimp only [Option.toList, List.cons_append, List.nil_append]
        exact zV_retv hX hQ hr (⟨rfl, by rw [e8, uLiar, if_pos g6, ← hm]⟩) dX11_readsLiar_189
      · have f6 : M9.1 300 6 = 0 := of_decide_eq_true c_86
        obtain ⟨fu, hfu⟩ : ∃ fu, 13 - k = fu + 1 := ⟨12 - k, by omega⟩
        refine zV_aload_n hX dX11_readsLiar_89 rfl ?_
        refine zV_cV0p hX hR hl dX11_readsLiar_90 (zc_here l G M9 e n hU he) zt_X11_here rfl zml_X11_212 zo300.1 ⟨by decide, by decide⟩ (Nat.le_of_ble_eq_true rfl) ?_
        dsimp only [Option.toList, List.cons_append, List.nil_append]
        refine zV_bipush hX (v := nI 125) dX11_readsLiar_93 (by decide) ?_
        refine zV_icmp_eq hX (tgt := 183) dX11_readsLiar_95 (by decide) (fun c_95 => ?_) (fun c_95 => ?_)
        · have e8 : uS e M9 = (uLx e n m 13 0 (uQ5 e n M)) := by rw [← he9, hfu, uLx, if_pos f6, if_pos c_95]
          have hU9 := uSt_S hU he
          refine zV_aload_n hX dX11_readsLiar_183 rfl ?_
          refine zV_bipush hX (v := nI 125) dX11_readsLiar_184 (by decide) ?_
          refine zV_cV1p hX hR hl dX11_readsLiar_186 (zc_sign l G _ e n (nI 125) hU9 he) zt_X11_sign rfl zml_X11_277 zo300.1 ⟨by decide, by decide⟩ (Nat.le_of_ble_eq_true rfl) ?_
          dsimp only [Option.toList, List.cons_append, List.nil_append]
          exact zV_retv hX hQ hr (⟨rfl, by rw [e8, uLiar, if_pos g6, ← hm]⟩) dX11_readsLiar_189
        · refine zV_aload_n hX dX11_readsLiar_98 rfl ?_
          refine zV_cV0p hX hR hl dX11_readsLiar_99 (zc_isLieHereS l G M9 e n hU he) zt_X11_isLieHere rfl zml_X11_282 zo300.1 ⟨by decide, by decide⟩ (Nat.le_of_ble_eq_true rfl) ?_
          dsimp only [Option.toList, List.cons_append, List.nil_append]
          refine zV_if_neB hX (tgt := 117) dX11_readsLiar_102 (by decide) (fun c_102 => ?_) (fun c_102 => ?_)
          · refine zV_aload_n hX dX11_readsLiar_117 rfl ?_
            refine zV_geta hX dX11_readsLiar_118 zf_X11_31 zo300.1 rfl ?_
            refine zV_iconst hX (v := nI 1) dX11_readsLiar_121 (by decide) ?_
            refine zV_aald hX dX11_readsLiar_122 (t := 0) (zo300.a 13 rfl) (by decide) (rfl) ⟨by omega, by omega⟩ (mRow 13 (by decide)) ?_
            refine zV_iload_n hX dX11_readsLiar_123 rfl ?_
            refine zV_iald hX (v := nI k) dX11_readsLiar_124 (mSh13 (by omega)) (rfl) ⟨by omega, by omega⟩ ((uAt_c (by omega)).trans hk9) ?_
            refine zV_bipush hX (v := nI 12) dX11_readsLiar_125 (by decide) ?_
            refine zV_icmp_neN hX (tgt := 139) dX11_readsLiar_127 (by decide) ⟨by omega, by omega⟩ (fun c_127 => ?_) (fun c_127 => ?_)
            · have hk11 : k < 12 := by omega
              have e8 : uLx e n m (13 - (k + 1)) (k + 1) (zw (uLie e n (uCl m k) (uS e M9)) 1209 m (nI (k + 1))) = (uLx e n m 13 0 (uQ5 e n M)) := by rw [← he9, hfu, uLx, if_pos f6, if_neg c_95, if_pos c_102, if_neg c_127, show 13 - (k + 1) = fu by omega]
              first
                | exact J139 _ (fun _ => by rw [uLiar, if_pos g6, ← hm, ← e8, uSg_no f7]) (fun q => absurd q f7)
                | exact J139 _ (fun q => absurd ((uAt_c (by omega)).trans f6) q) (fun _ => J147 hk11 e8)
            · have e8 : mWr (nI 3) (nI (uSp e M9)) (uS e M9) = (uLx e n m 13 0 (uQ5 e n M)) := by rw [← he9, hfu, uLx, if_pos f6, if_neg c_95, if_pos c_102, if_pos c_127]
              have f7 := mWr_6 (w := nI 3) (p := nI (uSp e M9)) (M := uS e M9) (by decide)
              refine zV_aload_n hX dX11_readsLiar_130 rfl ?_
              refine zV_iconst hX (v := nI 3) dX11_readsLiar_131 (by decide) ?_
              refine zV_aload_n hX dX11_readsLiar_132 rfl ?_
              refine zV_geti hX dX11_readsLiar_133 zf_X11_195 zo300.1 rfl (zw_same) ?_
              refine zV_cV2p hX hR hl dX11_readsLiar_136 (zc_wrong l G _ _ _) zt_X11_wrong rfl zml_X11_219 zo300.1 ⟨by decide, by decide⟩ (Nat.le_of_ble_eq_true rfl) ?_
              dsimp only [Option.toList, List.cons_append, List.nil_append]
              first
                | exact J139 _ (fun _ => by rw [uLiar, if_pos g6, ← hm, ← e8, uSg_no f7]) (fun q => absurd q f7)
                | exact J139 _ (fun q => absurd ((uAt_c (by omega)).trans f6) q) (fun _ => J147 hk11 e8)
          · have e8 : mWr (nI 1) (nI (uSp e M9)) (uS e M9) = (uLx e n m 13 0 (uQ5 e n M)) := by rw [← he9, hfu, uLx, if_pos f6, if_neg c_95, if_neg (by rw [c_102]; decide)]
            have f7 := mWr_6 (w := nI 1) (p := nI (uSp e M9)) (M := uS e M9) (by decide)
            refine zV_aload_n hX dX11_readsLiar_105 rfl ?_
            refine zV_iconst hX (v := nI 1) dX11_readsLiar_106 (by decide) ?_
            refine zV_aload_n hX dX11_readsLiar_107 rfl ?_
            refine zV_geti hX dX11_readsLiar_108 zf_X11_195 zo300.1 rfl (zw_same) ?_
            refine zV_cV2p hX hR hl dX11_readsLiar_111 (zc_wrong l G _ _ _) zt_X11_wrong rfl zml_X11_219 zo300.1 ⟨by decide, by decide⟩ (Nat.le_of_ble_eq_true rfl) ?_
            dsimp only [Option.toList, List.cons_append, List.nil_append]
            refine zV_goto hX (tgt := 139) dX11_readsLiar_114 (by decide) ?_
            first
              | exact J139 _ (fun _ => by rw [uLiar, if_pos g6, ← hm, ← e8, uSg_no f7]) (fun q => absurd q f7)
              | exact J139 _ (fun q => absurd ((uAt_c (by omega)).trans f6) q) (fun _ => J147 hk11 e8)
  have J59 : ∀ m : Nat, m = uQw e n M → m < n → zV G X Q 2 0 0 59 [.ref (300 : Nat), .int (nI m)] [] (uQ3 e n M) := by
    intro m hm hmn
    refine zV_aload_n hX dX11_readsLiar_59 rfl ?_
    refine zV_bipush hX (v := nI 123) dX11_readsLiar_60 (by decide) ?_
    refine zV_cV1p hX hR hl dX11_readsLiar_62 (zc_sign l G (uQ3 e n M) e n (nI 123) (uSt_Q3 hM he) he) zt_X11_sign rfl zml_X11_277 zo300.1 ⟨by decide, by decide⟩ (Nat.le_of_ble_eq_true rfl) ?_
    dsimp only [Option.toList, List.cons_append, List.nil_append]
    refine zV_mem (show _ = uQ4 e n M from rfl) ?_
    refine zV_aload_n hX dX11_readsLiar_65 rfl ?_
    refine zV_cV0p hX hR hl dX11_readsLiar_66 (zc_fine l G (uQ4 e n M)) zt_X11_fine rfl zml_X11_208 zo300.1 ⟨by decide, by decide⟩ (Nat.le_of_ble_eq_true rfl) ?_
    dsimp only [Option.toList, List.cons_append, List.nil_append]
    refine zV_if_neB hX (tgt := 73) dX11_readsLiar_69 (by decide) (fun c_69 => ?_) (fun c_69 => ?_)
    · have g6 : (uQ4 e n M).1 300 6 = 0 := of_decide_eq_true c_69
      refine zV_aload_n hX dX11_readsLiar_73 rfl ?_
      refine zV_geta hX dX11_readsLiar_74 zf_X11_31 zo300.1 rfl ?_
      refine zV_iconst hX (v := nI 1) dX11_readsLiar_77 (by decide) ?_
      refine zV_aald hX dX11_readsLiar_78 (t := 0) (zo300.a 13 rfl) (by decide) (rfl) ⟨by omega, by omega⟩ (mRow 13 (by decide)) ?_
      refine zV_iload_n hX dX11_readsLiar_79 rfl ?_
      refine zV_iconst hX (v := nI 0) dX11_readsLiar_80 (by decide) ?_
      refine zV_iast hX dX11_readsLiar_81 (mSh13 (by omega)) (rfl) ⟨by omega, by omega⟩ ?_
      exact L82 m hm hmn g6 14 0 _ (by omega) (by omega) (by rw [hm]; exact uSt_Q5 hM he) zw_same (by rw [hm]; rfl)
    · have g6 : ¬ (uQ4 e n M).1 300 6 = 0 := of_decide_eq_false c_69
      exact zV_retv hX hQ hr (⟨rfl, by rw [uLiar, if_neg g6]⟩) dX11_readsLiar_72
  have J19 : zV G X Q 2 0 0 19 [.ref (300 : Nat), .null] [] (uQ1 e M) := by
    refine zV_aload_n hX dX11_readsLiar_19 rfl ?_
    refine zV_iconst hX (v := nI 0) dX11_readsLiar_20 (by decide) ?_
    refine zV_aload_n hX dX11_readsLiar_21 rfl ?_
    refine zV_geti hX dX11_readsLiar_22 zf_X11_20 zo300.1 rfl ((uSt_Q1 hM he).2.2.2) ?_
    refine zV_iconst hX (v := nI 1) dX11_readsLiar_25 (by decide) ?_
    refine zV_isubN hX dX11_readsLiar_26 (by omega) ?_
    refine zV_cV2p hX hR hl dX11_readsLiar_27 (zc_number l G (uQ1 e M) e n 0 (n - 1) (uSt_Q1 hM he) he (by omega) (by omega)) zt_X11_number rfl zml_X11_249 zo300.1 ⟨by decide, by decide⟩ (Nat.le_of_ble_eq_true rfl) ?_
    dsimp only [Option.toList, List.cons_append, List.nil_append]
    refine zV_topi (nI (uQw e n M)) (uQw_b h0 hn7).1 ?_
    refine zV_mem (show _ = uQ2 e n M from rfl) ?_
    obtain ⟨m, hm⟩ : ∃ m, m = uQw e n M := ⟨_, rfl⟩
    have hmn : m < n := by rw [hm]; exact (uQw_b h0 hn7).2
    rw [← hm]
    refine zV_istore_n hX dX11_readsLiar_30 (by decide) ?_
    dsimp only [zst1, zst2, zclr, zc2]
    refine zV_aload_n hX dX11_readsLiar_31 rfl ?_
    refine zV_cV0p hX hR hl dX11_readsLiar_32 (zc_fine l G (uQ2 e n M)) zt_X11_fine rfl zml_X11_208 zo300.1 ⟨by decide, by decide⟩ (Nat.le_of_ble_eq_true rfl) ?_
    dsimp only [Option.toList, List.cons_append, List.nil_append]
    refine zV_if_eqB hX (tgt := 59) dX11_readsLiar_35 (by decide) (fun c_35 => ?_) (fun c_35 => ?_)
    · have g1 : uQ3 e n M = uQ2 e n M := if_neg (fun q => (of_decide_eq_false c_35) q.1)
      exact zV_mem g1.symm (J59 m hm hmn)
    · have g6 : (uQ2 e n M).1 300 6 = 0 := of_decide_eq_true c_35
      refine zV_aload_n hX dX11_readsLiar_38 rfl ?_
      refine zV_geta hX dX11_readsLiar_39 zf_X11_31 zo300.1 rfl ?_
      refine zV_iconst hX (v := nI 1) dX11_readsLiar_42 (by decide) ?_
      refine zV_aald hX dX11_readsLiar_43 (t := 0) (zo300.a 13 rfl) (by decide) (rfl) ⟨by omega, by omega⟩ (mRow 13 (by decide)) ?_
      refine zV_iload_n hX dX11_readsLiar_44 rfl ?_
      refine zV_iald hX (v := (uQ2 e n M).1 1209 m) dX11_readsLiar_45 (mSh13 (by omega)) (rfl) ⟨by omega, by omega⟩ (rfl) ?_
      refine zV_iconst hX (v := (-1)) dX11_readsLiar_46 (by decide) ?_
      refine zV_icmp_eq hX (tgt := 59) dX11_readsLiar_47 (by decide) (fun c_47 => ?_) (fun c_47 => ?_)
      · have g1 : uQ3 e n M = uQ2 e n M := if_neg (fun q => q.2 (by rw [← hm]; exact c_47))
        exact zV_mem g1.symm (J59 m hm hmn)
      · have g1 : uQ3 e n M = mWr (nI 4) ((uQ2 e n M).1 300 15) (uQ2 e n M) := if_pos ⟨g6, by rw [← hm]; exact c_47⟩
        refine zV_aload_n hX dX11_readsLiar_50 rfl ?_
        refine zV_iconst hX (v := nI 4) dX11_readsLiar_51 (by decide) ?_
        refine zV_aload_n hX dX11_readsLiar_52 rfl ?_
        refine zV_geti hX dX11_readsLiar_53 zf_X11_223 zo300.1 rfl (rfl) ?_
        refine zV_cV2p hX hR hl dX11_readsLiar_56 (zc_wrong l G _ _ _) zt_X11_wrong rfl zml_X11_219 zo300.1 ⟨by decide, by decide⟩ (Nat.le_of_ble_eq_true rfl) ?_
        dsimp only [Option.toList, List.cons_append, List.nil_append]
        exact zV_mem g1.symm (J59 m hm hmn)
  refine zV_aload_n hX dX11_readsLiar_0 rfl ?_
  refine zV_ldcsw hX (j := 0) dX11_readsLiar_1 zsr_X11_280 ?_
  refine zV_cV1p hX hR hl dX11_readsLiar_4 (zc_takes l G M e n 0 hM he (by decide)) zt_X11_takes rfl zml_X11_253 zo300.1 ⟨by decide, by decide⟩ (Nat.le_of_ble_eq_true rfl) ?_
  dsimp only [Option.toList, List.cons_append, List.nil_append]
  refine zV_if_neB hX (tgt := 19) dX11_readsLiar_7 (by decide) (fun c_7 => ?_) (fun c_7 => ?_)
  · have e1 : uQ1 e M = uTm e 0 M := if_pos c_7
    exact zV_mem e1.symm J19
  · have e1 : uQ1 e M = mWr (nI 1) ((uTm e 0 M).1 300 4) (uTm e 0 M) := if_neg (by rw [c_7]; decide)
    refine zV_aload_n hX dX11_readsLiar_10 rfl ?_
    refine zV_iconst hX (v := nI 1) dX11_readsLiar_11 (by decide) ?_
    refine zV_aload_n hX dX11_readsLiar_12 rfl ?_
    refine zV_geti hX dX11_readsLiar_13 zf_X11_195 zo300.1 rfl (rfl) ?_
    refine zV_cV2p hX hR hl dX11_readsLiar_16 (zc_wrong l G _ _ _) zt_X11_wrong rfl zml_X11_219 zo300.1 ⟨by decide, by decide⟩ (Nat.le_of_ble_eq_true rfl) ?_
    dsimp only [Option.toList, List.cons_append, List.nil_append]
    exact zV_mem e1.symm J19
