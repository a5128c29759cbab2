-- FEED, LIES, FAULT of the model
def uW (a b c d f : Int32) (i : Nat) : Int32 := if i < 4 then a else if i < 8 then b else if i < 12 then c else if i < 16 then d else f
def uFd (a b c d f : Int32) (sz : Nat) (k : Nat) (M : zM) : zM := zfor (fun i M => zw (zw M 309 (sz + i) (rBy (uW a b c d f i) (i % 4))) 300 2 (nI (sz + i + 1))) k (zw M 300 0 (nI 0))
theorem uFd_2 {a b c d f : Int32} {sz : Nat} {M : zM} (h : M.1 300 2 = nI sz) : ∀ k, (uFd a b c d f sz k M).1 300 2 = nI (sz + k)
  | 0 => by show (zw M 300 0 (nI 0)).1 300 2 = _; rw [zw_ne (by omega)]; exact h
  | k + 1 => zw_same
set_option maxHeartbeats 1000000 in
theorem zc_mfeed (l : Launch) (G : zG) (M : zM) (sz : Nat) (a b c d f : Int32) (hsz : M.1 300 2 = nI sz) (hs3 : sz ≤ 300) : zC l G 0 yX11_feed cX11_feed 8 (Option.some Jvm.ClassFile.FieldType.int) [.ref (300 : Nat), .int a, .int b, .int c, .int d, .int f] M (zP (some (.int (if sz + 20 ≤ 300 then nI (sz + 20) else -1))) (if sz + 20 ≤ 300 then uFd a b c d f sz 20 M else zw M 300 0 (nI 0))) := by
  refine zC_of (by decide) (Nat.le_of_ble_eq_true rfl) (fun X Q hQ hX hl hR hr => ?_)
  refine zV_loc (L' := [.ref (300 : Nat), .int a, .int b, .int c, .int d, .int f, .null, .null]) rfl ?_
  have L23 : sz + 20 ≤ 300 → ∀ (f9 i : Nat) (v7 : Value), 20 - i < f9 → i ≤ 20 → zV G X Q 8 0 0 23 [.ref (300 : Nat), .int a, .int b, .int c, .int d, .int f, .int (nI i), v7] [] (uFd a b c d f sz i M) := by
    intro hfit
    intro f9
    induction f9 with
    | zero => intro i v7 hi1 hi2; exact absurd hi1 (Nat.not_lt_zero _)
    | succ f9 ih =>
      intro i v7 hi1 hi2
      have J76 : i < 20 → ∀ v7 : Value, zV G X Q 8 0 0 76 [.ref (300 : Nat), .int a, .int b, .int c, .int d, .int f, .int (nI i), v7] [.int (uW a b c d f i)] (uFd a b c d f sz i M) := by
        intro hi20 v7
        refine zV_istore hX dX11_feed_76 (by decide) ?_
        dsimp only [zst1, zst2, zclr, zc2]
        refine zV_aload_n hX dX11_feed_78 rfl ?_
        refine zV_geta hX dX11_feed_79 zf_X11_17 zo300.1 rfl ?_
        refine zV_aload_n hX dX11_feed_82 rfl ?_
        refine zV_geti hX dX11_feed_83 zf_X11_189 zo300.1 rfl (uFd_2 hsz i) ?_
        refine zV_iload hX dX11_feed_86 rfl ?_
        refine zV_bipush hX (v := nI 24) dX11_feed_88 (by decide) ?_
        refine zV_bipush hX (v := nI 8) dX11_feed_90 (by decide) ?_
        refine zV_iload hX dX11_feed_92 rfl ?_
        refine zV_iconst hX (v := nI 4) dX11_feed_94 (by decide) ?_
        refine zV_iremN hX dX11_feed_95 ⟨by omega, by decide, by decide⟩ ?_
        refine zV_imulN hX dX11_feed_96 ?_
        refine zV_isub hX dX11_feed_97 ?_
        refine zV_ishr hX dX11_feed_98 ?_
        refine zV_sipush hX (v := nI 255) dX11_feed_99 (by decide) ?_
        refine zV_iand hX dX11_feed_102 ?_
        refine zV_iast hX dX11_feed_103 (zo300.a 8 rfl) (rfl) ⟨by omega, by omega⟩ ?_
        refine zV_aload_n hX dX11_feed_104 rfl ?_
        refine zV_dup hX dX11_feed_105 rfl ?_
        refine zV_geti hX dX11_feed_106 zf_X11_189 zo300.1 rfl ((zw_ne (by omega)).trans (uFd_2 hsz i)) ?_
        refine zV_iconst hX (v := nI 1) dX11_feed_109 (by decide) ?_
        refine zV_iaddN hX dX11_feed_110 ?_
        refine zV_puti hX dX11_feed_111 zf_X11_189 zp_9_2 zo300.1 rfl ?_
        refine zV_iincN hX (b := 1) dX11_feed_114 rfl (by decide) ?_
        dsimp only [zst1, zst2, zclr, zc2]
        refine zV_goto hX (tgt := 23) dX11_feed_117 (by decide) ?_
        exact ih (i + 1) _ (by omega) (by omega)
      refine zV_iload hX dX11_feed_23 rfl ?_
      refine zV_bipush hX (v := nI 20) dX11_feed_25 (by decide) ?_
      refine zV_icmp_geN hX (tgt := 120) dX11_feed_27 (by decide) ⟨by omega, by omega⟩ (fun c_27 => ?_) (fun c_27 => ?_)
      · refine zV_aload_n hX dX11_feed_120 rfl ?_
        refine zV_geti hX dX11_feed_121 zf_X11_189 zo300.1 rfl (uFd_2 hsz i) ?_
        exact zV_reti hX hQ hr (⟨by rw [if_pos (by omega), show i = 20 by omega], by rw [if_pos (by omega), show i = 20 by omega]⟩) dX11_feed_124
      · refine zV_iload hX dX11_feed_30 rfl ?_
        refine zV_iconst hX (v := nI 4) dX11_feed_32 (by decide) ?_
        refine zV_icmp_geN hX (tgt := 40) dX11_feed_33 (by decide) ⟨by omega, by omega⟩ (fun c_33 => ?_) (fun c_33 => ?_)
        · refine zV_iload hX dX11_feed_40 rfl ?_
          refine zV_bipush hX (v := nI 8) dX11_feed_42 (by decide) ?_
          refine zV_icmp_geN hX (tgt := 51) dX11_feed_44 (by decide) ⟨by omega, by omega⟩ (fun c_44 => ?_) (fun c_44 => ?_)
          · refine zV_iload hX dX11_feed_51 rfl ?_
            refine zV_bipush hX (v := nI 12) dX11_feed_53 (by decide) ?_
            refine zV_icmp_geN hX (tgt := 62) dX11_feed_55 (by decide) ⟨by omega, by omega⟩ (fun c_55 => ?_) (fun c_55 => ?_)
            · refine zV_iload hX dX11_feed_62 rfl ?_
              refine zV_bipush hX (v := nI 16) dX11_feed_64 (by decide) ?_
              refine zV_icmp_geN hX (tgt := 74) dX11_feed_66 (by decide) ⟨by omega, by omega⟩ (fun c_66 => ?_) (fun c_66 => ?_)
              · refine zV_iload hX dX11_feed_74 rfl ?_
                refine zV_topi (uW a b c d f i) (by unfold uW; (repeat' split) <;> first | rfl | (exfalso; omega)) ?_
                exact J76 (by omega) _
              · refine zV_iload hX dX11_feed_69 rfl ?_
                refine zV_goto hX (tgt := 76) dX11_feed_71 (by decide) ?_
                refine zV_topi (uW a b c d f i) (by unfold uW; (repeat' split) <;> first | rfl | (exfalso; omega)) ?_
                exact J76 (by omega) _
            · refine zV_iload_n hX dX11_feed_58 rfl ?_
              refine zV_goto hX (tgt := 76) dX11_feed_59 (by decide) ?_
              refine zV_topi (uW a b c d f i) (by unfold uW; (repeat' split) <;> first | rfl | (exfalso; omega)) ?_
              exact J76 (by omega) _
          · refine zV_iload_n hX dX11_feed_47 rfl ?_
            refine zV_goto hX (tgt := 76) dX11_feed_48 (by decide) ?_
            refine zV_topi (uW a b c d f i) (by unfold uW; (repeat' split) <;> first | rfl | (exfalso; omega)) ?_
            exact J76 (by omega) _
        · refine zV_iload_n hX dX11_feed_36 rfl ?_
          refine zV_goto hX (tgt := 76) dX11_feed_37 (by decide) ?_
          refine zV_topi (uW a b c d f i) (by unfold uW; (repeat' split) <;> first | rfl | (exfalso; omega)) ?_
          exact J76 (by omega) _
  refine zV_aload_n hX dX11_feed_0 rfl ?_
  refine zV_iconst hX (v := nI 0) dX11_feed_1 (by decide) ?_
  refine zV_puti hX dX11_feed_2 zf_X11_149 zp_9_0 zo300.1 rfl ?_
  refine zV_aload_n hX dX11_feed_5 rfl ?_
  refine zV_geti hX dX11_feed_6 zf_X11_189 zo300.1 rfl ((zw_ne (by omega)).trans hsz) ?_
  refine zV_bipush hX (v := nI 20) dX11_feed_9 (by decide) ?_
  refine zV_iaddN hX dX11_feed_11 ?_
  refine zV_sipush hX (v := nI 300) dX11_feed_12 (by decide) ?_
  refine zV_icmp_leN hX (tgt := 20) dX11_feed_15 (by decide) ⟨by omega, by omega⟩ (fun c_15 => ?_) (fun c_15 => ?_)
  · refine zV_iconst hX (v := nI 0) dX11_feed_20 (by decide) ?_
    refine zV_istore hX dX11_feed_21 (by decide) ?_
    dsimp only [zst1, zst2, zclr, zc2]
    exact L23 (by omega) 21 0 _ (by omega) (by omega)
  · refine zV_iconst hX (v := (-1)) dX11_feed_18 (by decide) ?_
    exact zV_reti hX hQ hr (⟨by rw [if_neg (by omega)], by rw [if_neg (by omega)]⟩) dX11_feed_19
set_option maxHeartbeats 1000000 in
theorem zc_mfault (l : Launch) (G : zG) (M : zM)  : zC l G 0 yX11_fault cX11_fault 1 (Option.some Jvm.ClassFile.FieldType.int) [.ref (300 : Nat)] M (zP (some (.int (M.1 300 5))) (zw M 300 0 (nI 0))) := by
  refine zC_of (by decide) (Nat.le_of_ble_eq_true rfl) (fun X Q hQ hX hl hR hr => ?_)
  refine zV_loc (L' := [.ref (300 : Nat)]) rfl ?_
  refine zV_aload_n hX dX11_fault_0 rfl ?_
  refine zV_iconst hX (v := nI 0) dX11_fault_1 (by decide) ?_
  refine zV_puti hX dX11_fault_2 zf_X11_149 zp_9_0 zo300.1 rfl ?_
  refine zV_aload_n hX dX11_fault_5 rfl ?_
  refine zV_geti hX (x := M.1 300 5) dX11_fault_6 zf_X11_13 zo300.1 rfl (zw_ne (by omega)) ?_
  exact zV_reti hX hQ hr (⟨rfl, rfl⟩) dX11_fault_9
def uIv (e n : Nat) (M : zM) : Prop := uSt e n M ∧ ∀ s, s < 7 → M.1 1209 s = -1 ∨ (M.1 1209 s = nI (zN (M.1 1209 s)) ∧ zN (M.1 1209 s) ≤ 12)
theorem uIv_of {e n : Nat} {M M' : zM} (h : uIv e n M) (hs : uSt e n M') (h9 : ∀ s, M'.1 1209 s = M.1 1209 s) : uIv e n M' := ⟨hs, fun s q => by rw [h9 s]; exact h.2 s q⟩
theorem uLx_9 {e n m : Nat} (hm : m < 7) (he : e ≤ 300) : ∀ (f k : Nat) {M : zM}, k + f = 13 → uSt e n M → M.1 1209 m = nI k → uSt e n (uLx e n m f k M) ∧ (∀ s, s ≠ m → (uLx e n m f k M).1 1209 s = M.1 1209 s) ∧ ∃ j, j ≤ 13 ∧ (uLx e n m f k M).1 1209 m = nI j ∧ (1 ≤ f → j ≤ 12)
  | 0, k, M, hk, hU, h9 => ⟨hU, fun s _ => rfl, k, by omega, h9, fun q => absurd q (by omega)⟩
  | f + 1, k, M, hk, hU, h9 => by
    unfold uLx
    split
    · split
      · exact ⟨uSt_S hU he, fun s _ => uAt_c (by omega), k, by omega, (uAt_c (by omega)).trans h9, fun _ => by omega⟩
      · split
        · split
          · exact ⟨uSt_W (uSt_S hU he), fun s _ => (mWr_c (by omega)).trans (uAt_c (by omega)), k, by omega, ((mWr_c (by omega)).trans (uAt_c (by omega))).trans h9, fun _ => by omega⟩
          · rename_i hk12
            obtain ⟨a1, a2, j, a3, a4, a5⟩ := uLx_9 hm he f (k + 1) (M := zw (uLie e n (uCl m k) (uS e M)) 1209 m (nI (k + 1))) (by omega) (uSt_zw (uSt_Lie (uSt_S hU he) he (by unfold uCl; omega)) (by omega)) zw_same
            refine ⟨a1, fun s hs => (a2 s hs).trans ?_, j, a3, a4, fun _ => a5 (by omega)⟩
            rw [zw_ne (by omega), uLie_9 hm (by omega)]
            exact uAt_c (by omega)
        · exact ⟨uSt_W (uSt_S hU he), fun s _ => (mWr_c (by omega)).trans (uAt_c (by omega)), k, by omega, ((mWr_c (by omega)).trans (uAt_c (by omega))).trans h9, fun _ => by omega⟩
    · exact ⟨hU, fun s _ => rfl, k, by omega, h9, fun _ => by omega⟩
theorem uSg_6 {e : Nat} {c : Int32} {M : zM} (h : (uSg e c M).1 300 6 = 0) : M.1 300 6 = 0 := by
  unfold uSg at h
  split at h
  · assumption
  · exact h
theorem uQ4_m {e n : Nat} {M : zM} (h : (uQ4 e n M).1 300 6 = 0) : M.1 1209 (uQw e n M) = -1 := by
  have h3 := uSg_6 h
  unfold uQ3 at h3
  split at h3
  · exact absurd h3 (mWr_6 (by decide))
  · rename_i hc
    have hq : (uQ2 e n M).1 1209 (uQw e n M) = M.1 1209 (uQw e n M) := ((uQ1_k e M).tr (uNm_k _ _ _ _)).1 _ _ (by unfold uFr; omega)
    rw [← hq]
    exact Classical.byContradiction (fun q => hc ⟨h3, q⟩)
theorem uLiar_iv {e n : Nat} {M : zM} (h : uIv e n M) (he : e ≤ 300) (h0 : 1 ≤ n) (hn7 : n ≤ 7) : uIv e n (uLiar e n M) ∧ ((uLiar e n M).1 300 6 = 0 → uQw e n M < 7 ∧ M.1 1209 (uQw e n M) = -1 ∧ ¬ (uLiar e n M).1 1209 (uQw e n M) = -1 ∧ ∀ s, s ≠ uQw e n M → (uLiar e n M).1 1209 s = M.1 1209 s) := by
  obtain ⟨hU, hr⟩ := h
  have hm := (uQw_b (e := e) (M := M) h0 hn7).2
  have h4 : ∀ s, (uQ4 e n M).1 1209 s = M.1 1209 s := fun s => (uQ4_k e n M).1 _ _ (by unfold uFr; omega)
  by_cases g6 : (uQ4 e n M).1 300 6 = 0
  · have hE : uLiar e n M = uSg e (nI 125) (uLx e n (uQw e n M) 13 0 (uQ5 e n M)) := if_pos g6
    obtain ⟨a1, a2, j, a3, a4, a5⟩ := uLx_9 (m := uQw e n M) (by omega) he 13 0 (M := uQ5 e n M) rfl (uSt_Q5 hU he) zw_same
    have hs : ∀ s, (uLiar e n M).1 1209 s = (uLx e n (uQw e n M) 13 0 (uQ5 e n M)).1 1209 s := fun s => by rw [hE]; exact (uSg_k _ _ _).1 _ _ (by unfold uFr; omega)
    have hj := a5 (by decide)
    have hne : ∀ s, s ≠ uQw e n M → (uLiar e n M).1 1209 s = M.1 1209 s := fun s q => by rw [hs, a2 s q]; exact (zw_ne (by omega)).trans (h4 s)
    refine ⟨⟨by rw [hE]; exact uSt_Sg a1 he (by decide), fun s q => ?_⟩, fun _ => ⟨by omega, uQ4_m g6, ?_, hne⟩⟩
    · by_cases e9 : s = uQw e n M
      · rw [e9, hs, a4, zN_nI (by omega)]
        exact Or.inr ⟨rfl, hj⟩
      · rw [hne s e9]; exact hr s q
    · rw [hs, a4]
      exact (by decide : ∀ j, j ≤ 12 → ¬ nI j = -1) j hj
  · have hE : uLiar e n M = uQ4 e n M := if_neg g6
    rw [hE]
    exact ⟨⟨uSt_Q4 hU he, fun s q => by rw [h4 s]; exact hr s q⟩, fun q => absurd q g6⟩
def uLo (e n : Nat) : Nat → zM → zM
  | 0, M => M
  | f + 1, M => if M.1 300 6 = 0 then (if uBy e M (uSp e M) = -1 then uS e M else uLo e n f (uLiar e n (uS e M))) else M
def uCn (M : zM) : Nat := zcnt (fun s => M.1 1209 s == -1) 7
theorem zcnt_le2 {p q : Nat → Bool} (h : ∀ i, p i = true → q i = true) : ∀ n, zcnt p n ≤ zcnt q n
  | 0 => Nat.le_refl 0
  | n + 1 => by
    have := zcnt_le2 h n
    rw [zcnt_s, zcnt_s]
    by_cases e : p n = true
    · rw [if_pos e, if_pos (h n e)]; omega
    · rw [if_neg e]; omega
theorem zcnt_lt2 {p q : Nat → Bool} (h : ∀ i, p i = true → q i = true) {m : Nat} (hp : p m = false) (hq : q m = true) : ∀ n, m < n → zcnt p n < zcnt q n
  | 0, hm => absurd hm (Nat.not_lt_zero m)
  | n + 1, hm => by
    rw [zcnt_s, zcnt_s]
    by_cases e : m = n
    · have := zcnt_le2 h n
      rw [← e, hp, hq, if_neg (by decide), if_pos rfl]
      rw [← e] at this
      omega
    · have := zcnt_lt2 h hp hq n (by omega)
      by_cases e : p n = true
      · rw [if_pos e, if_pos (h n e)]; omega
      · rw [if_neg e]; omega
theorem uCn_lt {e n : Nat} {M : zM} (h : uIv e n M) (he : e ≤ 300) (h0 : 1 ≤ n) (hn7 : n ≤ 7) (h6 : (uLiar e n M).1 300 6 = 0) : uCn (uLiar e n M) < uCn M := by
  obtain ⟨a1, a2, a3, a4⟩ := (uLiar_iv h he h0 hn7).2 h6
  obtain ⟨m, hm⟩ : ∃ m, m = uQw e n M := ⟨_, rfl⟩
  rw [← hm] at a1 a2 a3 a4
  unfold uCn
  generalize uLiar e n M = M' at *
  refine zcnt_lt2 (p := fun s => M'.1 1209 s == -1) (q := fun s => M.1 1209 s == -1) (m := m) (fun i hi => ?_) (beq_false_of_ne a3) (beq_iff_eq.mpr a2) 7 a1
  by_cases q : i = m
  · rw [q] at hi
    exact absurd (eq_of_beq hi) a3
  · have h9 := eq_of_beq hi
    rw [a4 i q] at h9
    exact beq_iff_eq.mpr h9
theorem uIv_S {e n : Nat} {M : zM} (h : uIv e n M) (he : e ≤ 300) : uIv e n (uS e M) := uIv_of h (uSt_S h.1 he) (fun s => uAt_c (by omega))
theorem uCn_S {e : Nat} {M : zM} : uCn (uS e M) = uCn M := by
  unfold uCn
  have : ∀ s, (uS e M).1 1209 s = M.1 1209 s := fun s => uAt_c (by omega)
  simp only [this]
theorem uLo_no {e n f : Nat} {M : zM} (h : ¬ M.1 300 6 = 0) : uLo e n f M = M := by
  cases f with
  | zero => rfl
  | succ f => rw [uLo, if_neg h]
theorem uLo_iv {e n : Nat} (he : e ≤ 300) (h0 : 1 ≤ n) (hn7 : n ≤ 7) : ∀ (f : Nat) {M : zM}, uIv e n M → uIv e n (uLo e n f M)
  | 0, M, h => h
  | f + 1, M, h => by
    unfold uLo
    split
    · split
      · exact uIv_S h he
      · exact uLo_iv he h0 hn7 f (uLiar_iv (uIv_S h he) he h0 hn7).1
    · exact h
def uC6 (m i k : Nat) (M : zM) : zM := zfor (fun j M => zw M (3100 + 13 * (7 * 0 + m) + i) j (M.1 (3100 + 13 * (7 * 1 + m) + i) j)) k M
def uCi (m k : Nat) (M : zM) : zM := zfor (fun i M => uC6 m i 6 M) k M
def uCm (k : Nat) (M : zM) : zM := zfor (fun m M => uCi m (zN (M.1 1209 m)) (zw M 1208 m (M.1 1209 m))) k M
def uB0 (M : zM) : zM := mBad true (nI 1) (nI 1) (zw M 300 0 (nI 0))
def uB1 (k : Nat) (M : zM) : zM := mEmp 1 (zw (zw (zw (zw (zw (zw M 300 0 (nI 0)) 300 2 (nI 0)) 300 3 (nI k)) 300 4 (nI 0)) 300 6 (nI 0)) 300 7 (-1))
def uB2 (k n : Nat) (M : zM) : zM := uLo k n 301 (uB1 k M)
def uB3 (k n : Nat) (M : zM) : zM := zw (uB2 k n M) 300 5 ((uB2 k n M).1 300 7)
def uB4 (k n : Nat) (M : zM) : zM := if (uB3 k n M).1 300 6 = 0 then uCm 7 (uB3 k n M) else uB3 k n M
def uB5 (k n : Nat) (M : zM) : Int32 := if (uB3 k n M).1 300 6 = 0 then nI (zcnt (fun m => mLiar (uB4 k n M) m) n) else (uB3 k n M).1 300 6 - nI 10
theorem mEmp_at (q : Nat) (M : zM) {s : Nat} (hs : s < 7) : (mEmp q M).1 (1000 + 16 * 13 + q) s = -1 := by
  have : ∀ k, s < k → (zfor (fun i M => zw M (1000 + 16 * 13 + q) i (-1)) k M).1 (1000 + 16 * 13 + q) s = -1 := fun k => by
    induction k with
    | zero => intro h; exact absurd h (Nat.not_lt_zero s)
    | succ k ih =>
      intro h
      show (zw _ (1000 + 16 * 13 + q) k (-1)).1 (1000 + 16 * 13 + q) s = -1
      rw [zw_at]
      by_cases e : s = k
      · rw [if_pos ⟨rfl, e⟩]
      · rw [if_neg (fun z => e z.2)]; exact ih (by omega)
  exact this 7 hs
theorem mEmp_k (q : Nat) (M : zM) : zKf (fun a _ => a = 1000 + 16 * 13 + q) M (mEmp q M) := zKf.for 7 M (fun i M _ => zKf.rf.w rfl)
theorem mEmp_c {q a j : Nat} {M : zM} (h : a ≠ 1000 + 16 * 13 + q) : (mEmp q M).1 a j = M.1 a j := (mEmp_k q M).1 a j h
theorem uB1_iv {k n : Nat} {M : zM} (hk : k ≤ 300) (hn : M.1 300 9 = nI n) : uIv k n (uB1 k M) := by
  have hz : ∀ j, (uB1 k M).1 300 j = (zw (zw (zw (zw (zw (zw M 300 0 (nI 0)) 300 2 (nI 0)) 300 3 (nI k)) 300 4 (nI 0)) 300 6 (nI 0)) 300 7 (-1)).1 300 j := fun j => by unfold uB1; exact mEmp_c (by decide)
  have h4 : (uB1 k M).1 300 4 = nI 0 := by rw [hz, zw_ne (by omega), zw_ne (by omega), zw_same]
  have hA : uA (uB1 k M) = 0 := by unfold uA; rw [h4]; exact zN_nI (by decide)
  refine ⟨⟨by rw [hA, h4], by rw [hA]; exact Nat.zero_le _, ?_, ?_⟩, fun s hs => Or.inl (mEmp_at 1 _ hs)⟩
  · rw [hz, zw_ne (by omega), zw_ne (by omega), zw_ne (by omega), zw_same]
  · rw [hz, zw_ne (by omega), zw_ne (by omega), zw_ne (by omega), zw_ne (by omega), zw_ne (by omega), zw_ne (by omega), hn]
