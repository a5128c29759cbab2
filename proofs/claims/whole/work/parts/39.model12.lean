def mHq (M : zM) (ra rb s k : Nat) : Nat := zcnt (fun e => !decide (M.1 rb s = 0) && !decide (M.1 rb e = 0) && M.1 ra e == M.1 ra s) k
def mHf (M : zM) (ra rb n th : Nat) : Option Nat := zfst (fun s => decide (th < mHq M ra rb s n)) n
def mHm (ra rb n th : Nat) (M : zM) : zM := match mHf M ra rb n th with
  | some a => zw M 300 58 (M.1 ra a)
  | none => M
set_option maxHeartbeats 1000000 in
theorem zc_hasMore (l : Launch) (G : zG) (M : zM) (n ra rb th : Nat) (hn : M.1 300 9 = nI n) (hn7 : n ≤ 7) (hra : zSh ra = (20, 7)) (hrb : zSh rb = (21, 7)) (hth : th < 100) : zC l G 0 yX11_hasMore cX11_hasMore 7 (Option.some Jvm.ClassFile.FieldType.boolean) [.ref (300 : Nat), .ref ra, .ref rb, .int (nI th)] M (zP (some (.int (zb (mHf M ra rb n th).isSome))) (mHm ra rb n th M)) := by
  refine zC_of (by decide) (Nat.le_of_ble_eq_true rfl) (fun X Q hQ hX hl hR hr => ?_)
  refine zV_loc (L' := [.ref (300 : Nat), .ref ra, .ref rb, .int (nI th), .null, .null, .null]) rfl ?_
  have L3 : ∀ (f9 s : Nat) (v5 v6 : Value), n - s < f9 → s ≤ n → zfst (fun s => decide (th < mHq M ra rb s n)) s = none → zV G X Q 7 0 0 3 [.ref (300 : Nat), .ref ra, .ref rb, .int (nI th), .int (nI s), v5, v6] [] M := by
    intro f9
    induction f9 with
    | zero => intro s v5 v6 hs1 hs2 hs3; exact absurd hs1 (Nat.not_lt_zero _)
    | succ f9 ih =>
      intro s v5 v6 hs1 hs2 hs3
      have J68 : s < n → ∀ v6 : Value, zV G X Q 7 0 0 68 [.ref (300 : Nat), .ref ra, .ref rb, .int (nI th), .int (nI s), .int (nI (mHq M ra rb s n)), v6] [] M := by
        intro c_9 v6
        refine zV_iload hX dX11_hasMore_68 rfl ?_
        refine zV_iload_n hX dX11_hasMore_70 rfl ?_
        refine zV_icmp_gtN hX (tgt := 77) dX11_hasMore_71 (by decide) ⟨by have : mHq M ra rb s n ≤ n := zcnt_le _ _; omega, by omega⟩ (fun c_71 => ?_) (fun c_71 => ?_)
        · have e9 : mHf M ra rb n th = some s := zfst_up (k := s + 1) (by omega) (zfst_new hs3 (decide_eq_true c_71))
          refine zV_aload_n hX dX11_hasMore_77 rfl ?_
          refine zV_aload_n hX dX11_hasMore_78 rfl ?_
          refine zV_iload hX dX11_hasMore_79 rfl ?_
          refine zV_iald hX dX11_hasMore_81 hra (rfl) ⟨by omega, by omega⟩ (rfl) ?_
          refine zV_puti hX dX11_hasMore_82 zf_X11_461 zp_9_58 zo300.1 rfl ?_
          refine zV_iconst hX (v := nI 1) dX11_hasMore_85 (by decide) ?_
          exact zV_retz hX hQ hr (rfl) (⟨by rw [e9]; rfl, by unfold mHm; rw [e9]⟩) dX11_hasMore_86
        · have e9 : zfst (fun s => decide (th < mHq M ra rb s n)) (s + 1) = none := by rw [zfst_keep (decide_eq_false (Nat.not_lt.mpr c_71)), hs3]
          refine zV_goto hX (tgt := 87) dX11_hasMore_74 (by decide) ?_
          refine zV_iincN hX (b := 1) dX11_hasMore_87 rfl (by decide) ?_
          dsimp only [zst1, zst2, zclr, zc2]
          refine zV_goto hX (tgt := 3) dX11_hasMore_90 (by decide) ?_
          exact ih (s + 1) _ _ (by omega) (by omega) e9
      have L18 : s < n → ∀ (f9 e : Nat), n - e < f9 → e ≤ n → zV G X Q 7 0 0 18 [.ref (300 : Nat), .ref ra, .ref rb, .int (nI th), .int (nI s), .int (nI (mHq M ra rb s e)), .int (nI e)] [] M := by
        intro c_9
        intro f9
        induction f9 with
        | zero => intro e he1 he2; exact absurd he1 (Nat.not_lt_zero _)
        | succ f9 ih2 =>
          intro e he1 he2
          refine zV_iload hX dX11_hasMore_18 rfl ?_
          refine zV_aload_n hX dX11_hasMore_20 rfl ?_
          refine zV_geti hX dX11_hasMore_21 zf_X11_20 zo300.1 rfl (hn) ?_
          refine zV_icmp_geN hX (tgt := 68) dX11_hasMore_24 (by decide) ⟨by omega, by omega⟩ (fun c_24 => ?_) (fun c_24 => ?_)
          · have hen : e = n := by omega
            rw [hen]
            exact J68 c_9 _
          · refine zV_iload hX dX11_hasMore_27 rfl ?_
            refine zV_aload_n hX dX11_hasMore_29 rfl ?_
            refine zV_iload hX dX11_hasMore_30 rfl ?_
            refine zV_zald hX dX11_hasMore_32 hrb (rfl) ⟨by omega, by omega⟩ (rfl) ?_
            refine zV_if_eq hX (tgt := 58) dX11_hasMore_33 (by decide) (fun c_33 => ?_) (fun c_33 => ?_)
            · have e8 : (mHq M ra rb s (e + 1)) = (mHq M ra rb s e) + 0 := by unfold mHq; rw [zcnt_s]; simp [c_33]
              refine zV_iconst hX (v := nI 0) dX11_hasMore_58 (by decide) ?_
              refine zV_iaddN hX dX11_hasMore_59 ?_
              refine zV_istore hX dX11_hasMore_60 (by decide) ?_
              dsimp only [zst1, zst2, zclr, zc2]
              refine zV_iincN hX (b := 1) dX11_hasMore_62 rfl (by decide) ?_
              dsimp only [zst1, zst2, zclr, zc2]
              refine zV_goto hX (tgt := 18) dX11_hasMore_65 (by decide) ?_
              exact e8 ▸ ih2 (e + 1) (by omega) (by omega)
            · refine zV_aload_n hX dX11_hasMore_36 rfl ?_
              refine zV_iload hX dX11_hasMore_37 rfl ?_
              refine zV_zald hX dX11_hasMore_39 hrb (rfl) ⟨by omega, by omega⟩ (rfl) ?_
              refine zV_if_eq hX (tgt := 58) dX11_hasMore_40 (by decide) (fun c_40 => ?_) (fun c_40 => ?_)
              · have e8 : (mHq M ra rb s (e + 1)) = (mHq M ra rb s e) + 0 := by unfold mHq; rw [zcnt_s]; simp [c_40]
                refine zV_iconst hX (v := nI 0) dX11_hasMore_58 (by decide) ?_
                refine zV_iaddN hX dX11_hasMore_59 ?_
                refine zV_istore hX dX11_hasMore_60 (by decide) ?_
                dsimp only [zst1, zst2, zclr, zc2]
                refine zV_iincN hX (b := 1) dX11_hasMore_62 rfl (by decide) ?_
                dsimp only [zst1, zst2, zclr, zc2]
                refine zV_goto hX (tgt := 18) dX11_hasMore_65 (by decide) ?_
                exact e8 ▸ ih2 (e + 1) (by omega) (by omega)
              · refine zV_aload_n hX dX11_hasMore_43 rfl ?_
                refine zV_iload hX dX11_hasMore_44 rfl ?_
                refine zV_iald hX dX11_hasMore_46 hra (rfl) ⟨by omega, by omega⟩ (rfl) ?_
                refine zV_aload_n hX dX11_hasMore_47 rfl ?_
                refine zV_iload hX dX11_hasMore_48 rfl ?_
                refine zV_iald hX dX11_hasMore_50 hra (rfl) ⟨by omega, by omega⟩ (rfl) ?_
                refine zV_icmp_ne hX (tgt := 58) dX11_hasMore_51 (by decide) (fun c_51 => ?_) (fun c_51 => ?_)
                · have e8 : (mHq M ra rb s (e + 1)) = (mHq M ra rb s e) + 0 := by unfold mHq; rw [zcnt_s]; simp [c_51]
                  refine zV_iconst hX (v := nI 0) dX11_hasMore_58 (by decide) ?_
                  refine zV_iaddN hX dX11_hasMore_59 ?_
                  refine zV_istore hX dX11_hasMore_60 (by decide) ?_
                  dsimp only [zst1, zst2, zclr, zc2]
                  refine zV_iincN hX (b := 1) dX11_hasMore_62 rfl (by decide) ?_
                  dsimp only [zst1, zst2, zclr, zc2]
                  refine zV_goto hX (tgt := 18) dX11_hasMore_65 (by decide) ?_
                  exact e8 ▸ ih2 (e + 1) (by omega) (by omega)
                · have e8 : (mHq M ra rb s (e + 1)) = (mHq M ra rb s e) + 1 := by unfold mHq; rw [zcnt_s]; simp [c_33, c_40, c_51]
                  refine zV_iconst hX (v := nI 1) dX11_hasMore_54 (by decide) ?_
                  refine zV_goto hX (tgt := 59) dX11_hasMore_55 (by decide) ?_
                  refine zV_iaddN hX dX11_hasMore_59 ?_
                  refine zV_istore hX dX11_hasMore_60 (by decide) ?_
                  dsimp only [zst1, zst2, zclr, zc2]
                  refine zV_iincN hX (b := 1) dX11_hasMore_62 rfl (by decide) ?_
                  dsimp only [zst1, zst2, zclr, zc2]
                  refine zV_goto hX (tgt := 18) dX11_hasMore_65 (by decide) ?_
                  exact e8 ▸ ih2 (e + 1) (by omega) (by omega)
      refine zV_iload hX dX11_hasMore_3 rfl ?_
      refine zV_aload_n hX dX11_hasMore_5 rfl ?_
      refine zV_geti hX dX11_hasMore_6 zf_X11_20 zo300.1 rfl (hn) ?_
      refine zV_icmp_geN hX (tgt := 93) dX11_hasMore_9 (by decide) ⟨by omega, by omega⟩ (fun c_9 => ?_) (fun c_9 => ?_)
      · have hsn : s = n := by omega
        have hz9 : mHf M ra rb n th = none := by have h := hs3; rw [hsn] at h; exact h
        refine zV_iconst hX (v := nI 0) dX11_hasMore_93 (by decide) ?_
        exact zV_retz hX hQ hr (rfl) (⟨by rw [hz9]; rfl, by unfold mHm; rw [hz9]⟩) dX11_hasMore_94
      · refine zV_iconst hX (v := nI 0) dX11_hasMore_12 (by decide) ?_
        refine zV_istore hX dX11_hasMore_13 (by decide) ?_
        dsimp only [zst1, zst2, zclr, zc2]
        refine zV_iconst hX (v := nI 0) dX11_hasMore_15 (by decide) ?_
        refine zV_istore hX dX11_hasMore_16 (by decide) ?_
        dsimp only [zst1, zst2, zclr, zc2]
        exact L18 c_9 (n + 1) 0 (by omega) (by omega)
  refine zV_iconst hX (v := nI 0) dX11_hasMore_0 (by decide) ?_
  refine zV_istore hX dX11_hasMore_1 (by decide) ?_
  dsimp only [zst1, zst2, zclr, zc2]
  exact L3 (n + 1) 0 _ _ (by omega) (by omega) rfl
set_option maxHeartbeats 1000000 in
theorem zc_mheardBy (l : Launch) (G : zG) (M : zM) (n rb : Nat) (hn : M.1 300 9 = nI n) (hn7 : n ≤ 7) (hrb : zSh rb = (21, 7)) : zC l G 0 yX11_heardBy cX11_heardBy 4 (Option.some Jvm.ClassFile.FieldType.int) [.ref (300 : Nat), .ref rb] M (zP (some (.int (nI (zcnt (fun e => !decide (M.1 rb e = 0)) n)))) M) := by
  refine zC_of (by decide) (Nat.le_of_ble_eq_true rfl) (fun X Q hQ hX hl hR hr => ?_)
  refine zV_loc (L' := [.ref (300 : Nat), .ref rb, .null, .null]) rfl ?_
  have L4 : ∀ (f9 k : Nat), n - k < f9 → k ≤ n → zV G X Q 4 0 0 4 [.ref (300 : Nat), .ref rb, .int (nI (zcnt (fun e => !decide (M.1 rb e = 0)) k)), .int (nI k)] [] M := by
    intro f9
    induction f9 with
    | zero => intro k hk1 hk2; exact absurd hk1 (Nat.not_lt_zero _)
    | succ f9 ih =>
      intro k hk1 hk2
      refine zV_iload_n hX dX11_heardBy_4 rfl ?_
      refine zV_aload_n hX dX11_heardBy_5 rfl ?_
      refine zV_geti hX dX11_heardBy_6 zf_X11_20 zo300.1 rfl (hn) ?_
      refine zV_icmp_geN hX (tgt := 32) dX11_heardBy_9 (by decide) ⟨by omega, by omega⟩ (fun c_9 => ?_) (fun c_9 => ?_)
      · refine zV_iload_n hX dX11_heardBy_32 rfl ?_
        exact zV_reti hX hQ hr (⟨by rw [show k = n by omega], rfl⟩) dX11_heardBy_33
      · refine zV_iload_n hX dX11_heardBy_12 rfl ?_
        refine zV_aload_n hX dX11_heardBy_13 rfl ?_
        refine zV_iload_n hX dX11_heardBy_14 rfl ?_
        refine zV_zald hX dX11_heardBy_15 hrb (rfl) ⟨by omega, by omega⟩ (rfl) ?_
        refine zV_if_eq hX (tgt := 23) dX11_heardBy_16 (by decide) (fun c_16 => ?_) (fun c_16 => ?_)
        · have e9 : zcnt (fun e => !decide (M.1 rb e = 0)) (k + 1) = zcnt (fun e => !decide (M.1 rb e = 0)) k + 0 := by rw [zcnt_s]; simp [c_16]
          refine zV_iconst hX (v := nI 0) dX11_heardBy_23 (by decide) ?_
          refine zV_iaddN hX dX11_heardBy_24 ?_
          refine zV_istore_n hX dX11_heardBy_25 (by decide) ?_
          dsimp only [zst1, zst2, zclr, zc2]
          refine zV_iincN hX (b := 1) dX11_heardBy_26 rfl (by decide) ?_
          dsimp only [zst1, zst2, zclr, zc2]
          refine zV_goto hX (tgt := 4) dX11_heardBy_29 (by decide) ?_
          exact e9 ▸ ih (k + 1) (by omega) (by omega)
        · have e9 : zcnt (fun e => !decide (M.1 rb e = 0)) (k + 1) = zcnt (fun e => !decide (M.1 rb e = 0)) k + 1 := by rw [zcnt_s]; simp [c_16]
          refine zV_iconst hX (v := nI 1) dX11_heardBy_19 (by decide) ?_
          refine zV_goto hX (tgt := 24) dX11_heardBy_20 (by decide) ?_
          refine zV_iaddN hX dX11_heardBy_24 ?_
          refine zV_istore_n hX dX11_heardBy_25 (by decide) ?_
          dsimp only [zst1, zst2, zclr, zc2]
          refine zV_iincN hX (b := 1) dX11_heardBy_26 rfl (by decide) ?_
          dsimp only [zst1, zst2, zclr, zc2]
          refine zV_goto hX (tgt := 4) dX11_heardBy_29 (by decide) ?_
          exact e9 ▸ ih (k + 1) (by omega) (by omega)
  refine zV_iconst hX (v := nI 0) dX11_heardBy_0 (by decide) ?_
  refine zV_istore_n hX dX11_heardBy_1 (by decide) ?_
  dsimp only [zst1, zst2, zclr, zc2]
  refine zV_iconst hX (v := nI 0) dX11_heardBy_2 (by decide) ?_
  refine zV_istore_n hX dX11_heardBy_3 (by decide) ?_
  dsimp only [zst1, zst2, zclr, zc2]
  exact L4 (n + 1) 0 (by omega) (by omega)
def mNo (M : zM) (m : Nat) : Bool := mLiar M m || decide (M.1 (300 + 1 + 56) m = 0)
def mAcL (M : zM) : Nat → Int32
  | 0 => nI 0
  | k + 1 => if mNo M k then mAcL M k else if M.1 (300 + 1 + 56) k ≤ mAcL M k then mAcL M k else M.1 (300 + 1 + 56) k
def mAcO (M : zM) (n w : Nat) : Int32 := if w = 0 then nI (mUq (mNo M) (M.1 (300 + 1 + 55)) n) else if w = 1 then nI (zcnt (fun m => !mNo M m) n) else mAcL M n
set_option maxHeartbeats 1000000 in
theorem zc_acceptedOf (l : Launch) (G : zG) (M : zM) (n w : Nat) (hn : M.1 300 9 = nI n) (hn7 : n ≤ 7) (hw : w < 3) : zC l G 1 yX11_acceptedOf cX11_acceptedOf 8 (Option.some Jvm.ClassFile.FieldType.int) [.ref (300 : Nat), .int (nI w)] M (zP (some (.int (mAcO M n w))) M) := by
  refine zC_of (by decide) (Nat.le_of_ble_eq_true rfl) (fun X Q hQ hX hl hR hr => ?_)
  refine zV_loc (L' := [.ref (300 : Nat), .int (nI w), .null, .null, .null, .null, .null, .null]) rfl ?_
  have J154 : ∀ v5 v6 v7 : Value, zV G X Q 8 0 0 154 [.ref (300 : Nat), .int (nI w), .int (nI (mUq (mNo M) (M.1 (300 + 1 + 55)) n)), .int (nI (zcnt (fun m => !(mNo M) m) n)), .int (mAcL M n), v5, v6, v7] [] M := by
    intro v5 v6 v7
    refine zV_iload_n hX dX11_acceptedOf_154 rfl ?_
    refine zV_if_neN hX (tgt := 162) dX11_acceptedOf_155 (by decide) (by omega) (fun c_155 => ?_) (fun c_155 => ?_)
    · refine zV_iload_n hX dX11_acceptedOf_162 rfl ?_
      refine zV_iconst hX (v := nI 1) dX11_acceptedOf_163 (by decide) ?_
      refine zV_icmp_neN hX (tgt := 171) dX11_acceptedOf_164 (by decide) ⟨by omega, by omega⟩ (fun c_164 => ?_) (fun c_164 => ?_)
      · refine zV_iload hX dX11_acceptedOf_171 rfl ?_
        exact zV_reti hX hQ hr (⟨by unfold mAcO; first | rw [if_pos (by omega)] | (rw [if_neg (by omega)]; first | rw [if_pos (by omega)] | rw [if_neg (by omega)]), rfl⟩) dX11_acceptedOf_173
      · refine zV_iload_n hX dX11_acceptedOf_167 rfl ?_
        refine zV_goto hX (tgt := 173) dX11_acceptedOf_168 (by decide) ?_
        exact zV_reti hX hQ hr (⟨by unfold mAcO; first | rw [if_pos (by omega)] | (rw [if_neg (by omega)]; first | rw [if_pos (by omega)] | rw [if_neg (by omega)]), rfl⟩) dX11_acceptedOf_173
    · refine zV_iload_n hX dX11_acceptedOf_158 rfl ?_
      refine zV_goto hX (tgt := 173) dX11_acceptedOf_159 (by decide) ?_
      exact zV_reti hX hQ hr (⟨by unfold mAcO; first | rw [if_pos (by omega)] | (rw [if_neg (by omega)]; first | rw [if_pos (by omega)] | rw [if_neg (by omega)]), rfl⟩) dX11_acceptedOf_173
  have L10 : ∀ (f9 m : Nat) (v6 v7 : Value), n - m < f9 → m ≤ n → zV G X Q 8 0 0 10 [.ref (300 : Nat), .int (nI w), .int (nI (mUq (mNo M) (M.1 (300 + 1 + 55)) m)), .int (nI (zcnt (fun m => !(mNo M) m) m)), .int (mAcL M m), .int (nI m), v6, v7] [] M := by
    intro f9
    induction f9 with
    | zero => intro m v6 v7 hm1 hm2; exact absurd hm1 (Nat.not_lt_zero _)
    | succ f9 ih =>
      intro m v6 v7 hm1 hm2
      have J106 : m < n → (mNo M) m = false → ∀ v7 : Value, zV G X Q 8 0 0 106 [.ref (300 : Nat), .int (nI w), .int (nI (mUq (mNo M) (M.1 (300 + 1 + 55)) m)), .int (nI (zcnt (fun m => !(mNo M) m) m)), .int (mAcL M m), .int (nI m), .int (zb (zall (fun e => (mNo M) e || !((M.1 (300 + 1 + 55)) e == (M.1 (300 + 1 + 55)) m)) m)), v7] [] M := by
        intro c_16 hx v7
        have e7 : (zcnt (fun m => !(mNo M) m) (m + 1)) = (zcnt (fun m => !(mNo M) m) m) + 1 := by rw [zcnt_s]; simp [hx]
        refine zV_iload_n hX dX11_acceptedOf_106 rfl ?_
        refine zV_iload hX dX11_acceptedOf_107 rfl ?_
        refine zV_if_eqB hX (tgt := 116) dX11_acceptedOf_109 (by decide) (fun c_109 => ?_) (fun c_109 => ?_)
        · have e9 : (mUq (mNo M) (M.1 (300 + 1 + 55)) (m + 1)) = (mUq (mNo M) (M.1 (300 + 1 + 55)) m) + 0 := by unfold mUq; rw [zcnt_s]; simp [c_109]
          refine zV_iconst hX (v := nI 0) dX11_acceptedOf_116 (by decide) ?_
          refine zV_iaddN hX dX11_acceptedOf_117 ?_
          refine zV_istore_n hX dX11_acceptedOf_118 (by decide) ?_
          dsimp only [zst1, zst2, zclr, zc2]
          refine zV_iincN hX (b := 1) dX11_acceptedOf_119 rfl (by decide) ?_
          dsimp only [zst1, zst2, zclr, zc2]
          refine zV_aload_n hX dX11_acceptedOf_122 rfl ?_
          refine zV_geta hX dX11_acceptedOf_123 zf_X11_122 zo300.1 rfl ?_
          refine zV_iload hX dX11_acceptedOf_126 rfl ?_
          refine zV_iald hX dX11_acceptedOf_128 (zo300.a 56 rfl) (rfl) ⟨by omega, by omega⟩ (rfl) ?_
          refine zV_iload hX dX11_acceptedOf_129 rfl ?_
          refine zV_icmp_le hX (tgt := 144) dX11_acceptedOf_131 (by decide) (fun c_131 => ?_) (fun c_131 => ?_)
          · have e6 : mAcL M (m + 1) = mAcL M m := by rw [mAcL, if_neg (by rw [hx]; decide), if_pos c_131]
            refine zV_iload hX dX11_acceptedOf_144 rfl ?_
            refine zV_istore hX dX11_acceptedOf_146 (by decide) ?_
            dsimp only [zst1, zst2, zclr, zc2]
            refine zV_iincN hX (b := 1) dX11_acceptedOf_148 rfl (by decide) ?_
            dsimp only [zst1, zst2, zclr, zc2]
            refine zV_goto hX (tgt := 10) dX11_acceptedOf_151 (by decide) ?_
            have h9 := fun v6 v7 => ih (m + 1) v6 v7 (by omega) (by omega)
            simp only [e9, e7, e6] at h9
            exact h9 _ _
          · have e6 : mAcL M (m + 1) = M.1 (300 + 1 + 56) m := by rw [mAcL, if_neg (by rw [hx]; decide), if_neg c_131]
            refine zV_aload_n hX dX11_acceptedOf_134 rfl ?_
            refine zV_geta hX dX11_acceptedOf_135 zf_X11_122 zo300.1 rfl ?_
            refine zV_iload hX dX11_acceptedOf_138 rfl ?_
            refine zV_iald hX dX11_acceptedOf_140 (zo300.a 56 rfl) (rfl) ⟨by omega, by omega⟩ (rfl) ?_
            refine zV_goto hX (tgt := 146) dX11_acceptedOf_141 (by decide) ?_
            refine zV_istore hX dX11_acceptedOf_146 (by decide) ?_
            dsimp only [zst1, zst2, zclr, zc2]
            refine zV_iincN hX (b := 1) dX11_acceptedOf_148 rfl (by decide) ?_
            dsimp only [zst1, zst2, zclr, zc2]
            refine zV_goto hX (tgt := 10) dX11_acceptedOf_151 (by decide) ?_
            have h9 := fun v6 v7 => ih (m + 1) v6 v7 (by omega) (by omega)
            simp only [e9, e7, e6] at h9
            exact h9 _ _
        · have e9 : (mUq (mNo M) (M.1 (300 + 1 + 55)) (m + 1)) = (mUq (mNo M) (M.1 (300 + 1 + 55)) m) + 1 := by unfold mUq; rw [zcnt_s]; simp [c_109, hx]
          refine zV_iconst hX (v := nI 1) dX11_acceptedOf_112 (by decide) ?_
          refine zV_goto hX (tgt := 117) dX11_acceptedOf_113 (by decide) ?_
          refine zV_iaddN hX dX11_acceptedOf_117 ?_
          refine zV_istore_n hX dX11_acceptedOf_118 (by decide) ?_
          dsimp only [zst1, zst2, zclr, zc2]
          refine zV_iincN hX (b := 1) dX11_acceptedOf_119 rfl (by decide) ?_
          dsimp only [zst1, zst2, zclr, zc2]
          refine zV_aload_n hX dX11_acceptedOf_122 rfl ?_
          refine zV_geta hX dX11_acceptedOf_123 zf_X11_122 zo300.1 rfl ?_
          refine zV_iload hX dX11_acceptedOf_126 rfl ?_
          refine zV_iald hX dX11_acceptedOf_128 (zo300.a 56 rfl) (rfl) ⟨by omega, by omega⟩ (rfl) ?_
          refine zV_iload hX dX11_acceptedOf_129 rfl ?_
          refine zV_icmp_le hX (tgt := 144) dX11_acceptedOf_131 (by decide) (fun c_131 => ?_) (fun c_131 => ?_)
          · have e6 : mAcL M (m + 1) = mAcL M m := by rw [mAcL, if_neg (by rw [hx]; decide), if_pos c_131]
            refine zV_iload hX dX11_acceptedOf_144 rfl ?_
            refine zV_istore hX dX11_acceptedOf_146 (by decide) ?_
            dsimp only [zst1, zst2, zclr, zc2]
            refine zV_iincN hX (b := 1) dX11_acceptedOf_148 rfl (by decide) ?_
            dsimp only [zst1, zst2, zclr, zc2]
            refine zV_goto hX (tgt := 10) dX11_acceptedOf_151 (by decide) ?_
            have h9 := fun v6 v7 => ih (m + 1) v6 v7 (by omega) (by omega)
            simp only [e9, e7, e6] at h9
            exact h9 _ _
          · have e6 : mAcL M (m + 1) = M.1 (300 + 1 + 56) m := by rw [mAcL, if_neg (by rw [hx]; decide), if_neg c_131]
            refine zV_aload_n hX dX11_acceptedOf_134 rfl ?_
            refine zV_geta hX dX11_acceptedOf_135 zf_X11_122 zo300.1 rfl ?_
            refine zV_iload hX dX11_acceptedOf_138 rfl ?_
            refine zV_iald hX dX11_acceptedOf_140 (zo300.a 56 rfl) (rfl) ⟨by omega, by omega⟩ (rfl) ?_
            refine zV_goto hX (tgt := 146) dX11_acceptedOf_141 (by decide) ?_
            refine zV_istore hX dX11_acceptedOf_146 (by decide) ?_
            dsimp only [zst1, zst2, zclr, zc2]
            refine zV_iincN hX (b := 1) dX11_acceptedOf_148 rfl (by decide) ?_
            dsimp only [zst1, zst2, zclr, zc2]
            refine zV_goto hX (tgt := 10) dX11_acceptedOf_151 (by decide) ?_
            have h9 := fun v6 v7 => ih (m + 1) v6 v7 (by omega) (by omega)
            simp only [e9, e7, e6] at h9
            exact h9 _ _
      have L47 : m < n → (mNo M) m = false → ∀ (f9 e : Nat), m - e < f9 → e ≤ m → zV G X Q 8 0 0 47 [.ref (300 : Nat), .int (nI w), .int (nI (mUq (mNo M) (M.1 (300 + 1 + 55)) m)), .int (nI (zcnt (fun m => !(mNo M) m) m)), .int (mAcL M m), .int (nI m), .int (zb (zall (fun e => (mNo M) e || !((M.1 (300 + 1 + 55)) e == (M.1 (300 + 1 + 55)) m)) e)), .int (nI e)] [] M := by
        intro c_16 hx
        intro f9
        induction f9 with
        | zero => intro e he1 he2; exact absurd he1 (Nat.not_lt_zero _)
        | succ f9 ih2 =>
          intro e he1 he2
          refine zV_iload hX dX11_acceptedOf_47 rfl ?_
          refine zV_iload hX dX11_acceptedOf_49 rfl ?_
          refine zV_icmp_geN hX (tgt := 106) dX11_acceptedOf_51 (by decide) ⟨by omega, by omega⟩ (fun c_51 => ?_) (fun c_51 => ?_)
          · have hem : e = m := by omega
            rw [hem]
            exact J106 c_16 hx _
          · refine zV_iload hX dX11_acceptedOf_54 rfl ?_
            refine zV_aload_n hX dX11_acceptedOf_56 rfl ?_
            refine zV_iload hX dX11_acceptedOf_57 rfl ?_
            refine zV_cV1p hX hR hl dX11_acceptedOf_59 (zc_misLiar l G M e (by omega)) zt_X11_isLiar rfl zml_X11_295 zo300.1 ⟨by decide, by decide⟩ (Nat.le_of_ble_eq_true rfl) ?_
            dsimp only [Option.toList, List.cons_append, List.nil_append]
            refine zV_if_neB hX (tgt := 92) dX11_acceptedOf_62 (by decide) (fun c_62 => ?_) (fun c_62 => ?_)
            · have e8 : (zall (fun e => (mNo M) e || !((M.1 (300 + 1 + 55)) e == (M.1 (300 + 1 + 55)) m)) (e + 1)) = ((zall (fun e => (mNo M) e || !((M.1 (300 + 1 + 55)) e == (M.1 (300 + 1 + 55)) m)) e) && true) := by show ((zall (fun e => (mNo M) e || !((M.1 (300 + 1 + 55)) e == (M.1 (300 + 1 + 55)) m)) e) && ((mNo M) e || !((M.1 (300 + 1 + 55)) e == (M.1 (300 + 1 + 55)) m))) = _; congr 1; unfold mNo; rw [c_62]; rfl
              refine zV_iconst hX (v := nI 1) dX11_acceptedOf_92 (by decide) ?_
              refine zV_goto hX (tgt := 97) dX11_acceptedOf_93 (by decide) ?_
              refine zV_iand hX dX11_acceptedOf_97 ?_
              refine zV_topi (zb (zall (fun e => (mNo M) e || !((M.1 (300 + 1 + 55)) e == (M.1 (300 + 1 + 55)) m)) (e + 1))) (by rw [e8]; first | exact zb_a1 _ | exact zb_a0 _) ?_
              refine zV_istore hX dX11_acceptedOf_98 (by decide) ?_
              dsimp only [zst1, zst2, zclr, zc2]
              refine zV_iincN hX (b := 1) dX11_acceptedOf_100 rfl (by decide) ?_
              dsimp only [zst1, zst2, zclr, zc2]
              refine zV_goto hX (tgt := 47) dX11_acceptedOf_103 (by decide) ?_
              exact ih2 (e + 1) (by omega) (by omega)
            · refine zV_aload_n hX dX11_acceptedOf_65 rfl ?_
              refine zV_geta hX dX11_acceptedOf_66 zf_X11_122 zo300.1 rfl ?_
              refine zV_iload hX dX11_acceptedOf_69 rfl ?_
              refine zV_iald hX dX11_acceptedOf_71 (zo300.a 56 rfl) (rfl) ⟨by omega, by omega⟩ (rfl) ?_
              refine zV_if_eq hX (tgt := 92) dX11_acceptedOf_72 (by decide) (fun c_72 => ?_) (fun c_72 => ?_)
              · have e8 : (zall (fun e => (mNo M) e || !((M.1 (300 + 1 + 55)) e == (M.1 (300 + 1 + 55)) m)) (e + 1)) = ((zall (fun e => (mNo M) e || !((M.1 (300 + 1 + 55)) e == (M.1 (300 + 1 + 55)) m)) e) && true) := by show ((zall (fun e => (mNo M) e || !((M.1 (300 + 1 + 55)) e == (M.1 (300 + 1 + 55)) m)) e) && ((mNo M) e || !((M.1 (300 + 1 + 55)) e == (M.1 (300 + 1 + 55)) m))) = _; congr 1; unfold mNo; rw [decide_eq_true c_72]; simp
                refine zV_iconst hX (v := nI 1) dX11_acceptedOf_92 (by decide) ?_
                refine zV_goto hX (tgt := 97) dX11_acceptedOf_93 (by decide) ?_
                refine zV_iand hX dX11_acceptedOf_97 ?_
                refine zV_topi (zb (zall (fun e => (mNo M) e || !((M.1 (300 + 1 + 55)) e == (M.1 (300 + 1 + 55)) m)) (e + 1))) (by rw [e8]; first | exact zb_a1 _ | exact zb_a0 _) ?_
                refine zV_istore hX dX11_acceptedOf_98 (by decide) ?_
                dsimp only [zst1, zst2, zclr, zc2]
                refine zV_iincN hX (b := 1) dX11_acceptedOf_100 rfl (by decide) ?_
                dsimp only [zst1, zst2, zclr, zc2]
                refine zV_goto hX (tgt := 47) dX11_acceptedOf_103 (by decide) ?_
                exact ih2 (e + 1) (by omega) (by omega)
              · have hxe : (mNo M) e = false := by unfold mNo; rw [c_62, decide_eq_false c_72]; rfl
                refine zV_aload_n hX dX11_acceptedOf_75 rfl ?_
                refine zV_geta hX dX11_acceptedOf_76 zf_X11_119 zo300.1 rfl ?_
                refine zV_iload hX dX11_acceptedOf_79 rfl ?_
                refine zV_iald hX dX11_acceptedOf_81 (zo300.a 55 rfl) (rfl) ⟨by omega, by omega⟩ (rfl) ?_
                refine zV_aload_n hX dX11_acceptedOf_82 rfl ?_
                refine zV_geta hX dX11_acceptedOf_83 zf_X11_119 zo300.1 rfl ?_
                refine zV_iload hX dX11_acceptedOf_86 rfl ?_
                refine zV_iald hX dX11_acceptedOf_88 (zo300.a 55 rfl) (rfl) ⟨by omega, by omega⟩ (rfl) ?_
                refine zV_icmp_eq hX (tgt := 96) dX11_acceptedOf_89 (by decide) (fun c_89 => ?_) (fun c_89 => ?_)
                · have e8 : (zall (fun e => (mNo M) e || !((M.1 (300 + 1 + 55)) e == (M.1 (300 + 1 + 55)) m)) (e + 1)) = ((zall (fun e => (mNo M) e || !((M.1 (300 + 1 + 55)) e == (M.1 (300 + 1 + 55)) m)) e) && false) := by show ((zall (fun e => (mNo M) e || !((M.1 (300 + 1 + 55)) e == (M.1 (300 + 1 + 55)) m)) e) && ((mNo M) e || !((M.1 (300 + 1 + 55)) e == (M.1 (300 + 1 + 55)) m))) = _; congr 1; rw [hxe, show (M.1 (300 + 1 + 55)) e = (M.1 (300 + 1 + 55)) m from c_89]; simp
                  refine zV_iconst hX (v := nI 0) dX11_acceptedOf_96 (by decide) ?_
                  refine zV_iand hX dX11_acceptedOf_97 ?_
                  refine zV_topi (zb (zall (fun e => (mNo M) e || !((M.1 (300 + 1 + 55)) e == (M.1 (300 + 1 + 55)) m)) (e + 1))) (by rw [e8]; first | exact zb_a1 _ | exact zb_a0 _) ?_
                  refine zV_istore hX dX11_acceptedOf_98 (by decide) ?_
                  dsimp only [zst1, zst2, zclr, zc2]
                  refine zV_iincN hX (b := 1) dX11_acceptedOf_100 rfl (by decide) ?_
                  dsimp only [zst1, zst2, zclr, zc2]
                  refine zV_goto hX (tgt := 47) dX11_acceptedOf_103 (by decide) ?_
                  exact ih2 (e + 1) (by omega) (by omega)
                · have e8 : (zall (fun e => (mNo M) e || !((M.1 (300 + 1 + 55)) e == (M.1 (300 + 1 + 55)) m)) (e + 1)) = ((zall (fun e => (mNo M) e || !((M.1 (300 + 1 + 55)) e == (M.1 (300 + 1 + 55)) m)) e) && true) := by show ((zall (fun e => (mNo M) e || !((M.1 (300 + 1 + 55)) e == (M.1 (300 + 1 + 55)) m)) e) && ((mNo M) e || !((M.1 (300 + 1 + 55)) e == (M.1 (300 + 1 + 55)) m))) = _; congr 1; rw [beq_false_of_ne (show (M.1 (300 + 1 + 55)) e ≠ (M.1 (300 + 1 + 55)) m from c_89)]; simp
                  refine zV_iconst hX (v := nI 1) dX11_acceptedOf_92 (by decide) ?_
                  refine zV_goto hX (tgt := 97) dX11_acceptedOf_93 (by decide) ?_
                  refine zV_iand hX dX11_acceptedOf_97 ?_
                  refine zV_topi (zb (zall (fun e => (mNo M) e || !((M.1 (300 + 1 + 55)) e == (M.1 (300 + 1 + 55)) m)) (e + 1))) (by rw [e8]; first | exact zb_a1 _ | exact zb_a0 _) ?_
                  refine zV_istore hX dX11_acceptedOf_98 (by decide) ?_
                  dsimp only [zst1, zst2, zclr, zc2]
                  refine zV_iincN hX (b := 1) dX11_acceptedOf_100 rfl (by decide) ?_
                  dsimp only [zst1, zst2, zclr, zc2]
                  refine zV_goto hX (tgt := 47) dX11_acceptedOf_103 (by decide) ?_
                  exact ih2 (e + 1) (by omega) (by omega)
      refine zV_iload hX dX11_acceptedOf_10 rfl ?_
      refine zV_aload_n hX dX11_acceptedOf_12 rfl ?_
      refine zV_geti hX dX11_acceptedOf_13 zf_X11_20 zo300.1 rfl (hn) ?_
      refine zV_icmp_geN hX (tgt := 154) dX11_acceptedOf_16 (by decide) ⟨by omega, by omega⟩ (fun c_16 => ?_) (fun c_16 => ?_)
      · have hmn : m = n := by omega
        rw [hmn]
        exact J154 _ _ _
      · refine zV_aload_n hX dX11_acceptedOf_19 rfl ?_
        refine zV_iload hX dX11_acceptedOf_20 rfl ?_
        refine zV_cV1p hX hR hl dX11_acceptedOf_22 (zc_misLiar l G M m (by omega)) zt_X11_isLiar rfl zml_X11_295 zo300.1 ⟨by decide, by decide⟩ (Nat.le_of_ble_eq_true rfl) ?_
        dsimp only [Option.toList, List.cons_append, List.nil_append]
        refine zV_if_neB hX (tgt := 148) dX11_acceptedOf_25 (by decide) (fun c_25 => ?_) (fun c_25 => ?_)
        · have hx : (mNo M) m = true := by unfold mNo; rw [c_25]; rfl
          have e9 : (mUq (mNo M) (M.1 (300 + 1 + 55)) (m + 1)) = (mUq (mNo M) (M.1 (300 + 1 + 55)) m) := by unfold mUq; rw [zcnt_s]; simp [hx]
          have e7 : (zcnt (fun m => !(mNo M) m) (m + 1)) = (zcnt (fun m => !(mNo M) m) m) := by rw [zcnt_s]; simp [hx]
          have e6 : mAcL M (m + 1) = mAcL M m := by rw [mAcL, if_pos hx]
          have h9 := fun v6 v7 => ih (m + 1) v6 v7 (by omega) (by omega)
          simp only [e9, e7, e6] at h9
          refine zV_iincN hX (b := 1) dX11_acceptedOf_148 rfl (by decide) ?_
          dsimp only [zst1, zst2, zclr, zc2]
          refine zV_goto hX (tgt := 10) dX11_acceptedOf_151 (by decide) ?_
          exact h9 _ _
        · refine zV_aload_n hX dX11_acceptedOf_28 rfl ?_
          refine zV_geta hX dX11_acceptedOf_29 zf_X11_122 zo300.1 rfl ?_
          refine zV_iload hX dX11_acceptedOf_32 rfl ?_
          refine zV_iald hX dX11_acceptedOf_34 (zo300.a 56 rfl) (rfl) ⟨by omega, by omega⟩ (rfl) ?_
          refine zV_if_ne hX (tgt := 41) dX11_acceptedOf_35 (by decide) (fun c_35 => ?_) (fun c_35 => ?_)
          · have hx : (mNo M) m = false := by unfold mNo; rw [c_25, decide_eq_false c_35]; rfl
            refine zV_iconst hX (v := nI 1) dX11_acceptedOf_41 (by decide) ?_
            refine zV_topi (zb (zall (fun e => (mNo M) e || !((M.1 (300 + 1 + 55)) e == (M.1 (300 + 1 + 55)) m)) 0)) rfl ?_
            refine zV_istore hX dX11_acceptedOf_42 (by decide) ?_
            dsimp only [zst1, zst2, zclr, zc2]
            refine zV_iconst hX (v := nI 0) dX11_acceptedOf_44 (by decide) ?_
            refine zV_istore hX dX11_acceptedOf_45 (by decide) ?_
            dsimp only [zst1, zst2, zclr, zc2]
            exact L47 c_16 hx (m + 1) 0 (by omega) (by omega)
          · have hx : (mNo M) m = true := by unfold mNo; rw [decide_eq_true c_35, Bool.or_true]
            have e9 : (mUq (mNo M) (M.1 (300 + 1 + 55)) (m + 1)) = (mUq (mNo M) (M.1 (300 + 1 + 55)) m) := by unfold mUq; rw [zcnt_s]; simp [hx]
            have e7 : (zcnt (fun m => !(mNo M) m) (m + 1)) = (zcnt (fun m => !(mNo M) m) m) := by rw [zcnt_s]; simp [hx]
            have e6 : mAcL M (m + 1) = mAcL M m := by rw [mAcL, if_pos hx]
            have h9 := fun v6 v7 => ih (m + 1) v6 v7 (by omega) (by omega)
            simp only [e9, e7, e6] at h9
            refine zV_goto hX (tgt := 148) dX11_acceptedOf_38 (by decide) ?_
            refine zV_iincN hX (b := 1) dX11_acceptedOf_148 rfl (by decide) ?_
            dsimp only [zst1, zst2, zclr, zc2]
            refine zV_goto hX (tgt := 10) dX11_acceptedOf_151 (by decide) ?_
            exact h9 _ _
  refine zV_iconst hX (v := nI 0) dX11_acceptedOf_0 (by decide) ?_
  refine zV_istore_n hX dX11_acceptedOf_1 (by decide) ?_
  dsimp only [zst1, zst2, zclr, zc2]
  refine zV_iconst hX (v := nI 0) dX11_acceptedOf_2 (by decide) ?_
  refine zV_istore_n hX dX11_acceptedOf_3 (by decide) ?_
  dsimp only [zst1, zst2, zclr, zc2]
  refine zV_iconst hX (v := nI 0) dX11_acceptedOf_4 (by decide) ?_
  refine zV_istore hX dX11_acceptedOf_5 (by decide) ?_
  dsimp only [zst1, zst2, zclr, zc2]
  refine zV_iconst hX (v := nI 0) dX11_acceptedOf_7 (by decide) ?_
  refine zV_istore hX dX11_acceptedOf_8 (by decide) ?_
  dsimp only [zst1, zst2, zclr, zc2]
  exact L10 (n + 1) 0 _ _ (by omega) (by omega)
def mE0 (M : zM) : zM := zw (zw M 300 47 (nI 0)) 300 48 (nI 0)
def mEz (m k : Nat) (M : zM) : zM := zfor (fun e M => zw (zw M (1000 + 16 * 51 + m) e (nI 0)) (1000 + 16 * 52 + m) e (nI 0)) k M
def mEb (c m : Nat) (M : zM) : zM := zw (zw (zw (zw (zw M (300 + 1 + 57) m (zb (decide (m = c)))) (300 + 1 + 54) m (M.1 (300 + 1 + 12) m)) (300 + 1 + 53) m (nI 0)) (300 + 1 + 55) m (nI 0)) (300 + 1 + 56) m (nI 0)
def mEa (c n k : Nat) (M : zM) : zM := zfor (fun m M => mEz m n (mEb c m M)) k (mE0 M)
def mEc (n c : Nat) (mn : Nat → Option Nat) (M : zM) : zM := mCalls n mn c 1 49 51 n (mEa c n n M)
def mEd1 (c m : Nat) (M : zM) : zM := zw (zw (zw M (300 + 1 + 57) m (M.1 (1000 + 16 * 51 + m) c)) (300 + 1 + 54) m (M.1 (1000 + 16 * 49 + m) c)) (1000 + 16 * 51 + m) c (nI 0)
def mEd (c k : Nat) (M : zM) : zM := zfor (mEd1 c) k M
def mEe (n c : Nat) (mn : Nat → Option Nat) (M : zM) : zM := mCalls n mn c 2 49 51 n (mEd c n (mEc n c mn M))
def mEu (r m : Nat) (M : zM) : zM := zw (zw (zw M (300 + 1 + 57) m (nI 1)) (300 + 1 + 54) m (M.1 300 58)) (300 + 1 + 53) m (nI r)
def mEf1 (n t r m : Nat) (M : zM) : zM :=
  if ¬ M.1 (300 + 1 + 53) m = 0 then zw M (300 + 1 + 57) m (nI 0)
  else if (mHf M (1000 + 16 * 49 + m) (1000 + 16 * 51 + m) n ((n + t) / 2)).isSome then mEu r m (mHm (1000 + 16 * 49 + m) (1000 + 16 * 51 + m) n ((n + t) / 2) M)
  else if (mHf M (1000 + 16 * 50 + m) (1000 + 16 * 52 + m) n t).isSome then mEu r m (mHm (1000 + 16 * 50 + m) (1000 + 16 * 52 + m) n t M)
  else zw M (300 + 1 + 57) m (nI 0)
def mEf (n t r k : Nat) (M : zM) : zM := zfor (mEf1 n t r) k M
def mEg1 (n t r m : Nat) (M : zM) : zM :=
  if 0 < M.1 (300 + 1 + 56) m then M
  else if (mHf M (1000 + 16 * 50 + m) (1000 + 16 * 52 + m) n (2 * t)).isSome then
    zw (zw (mHm (1000 + 16 * 50 + m) (1000 + 16 * 52 + m) n (2 * t) M) (300 + 1 + 55) m ((mHm (1000 + 16 * 50 + m) (1000 + 16 * 52 + m) n (2 * t) M).1 300 58)) (300 + 1 + 56) m (nI r)
  else M
def mEg (n t r k : Nat) (M : zM) : zM := zfor (mEg1 n t r) k M
def mEh (n c t : Nat) (mn : Nat → Option Nat) (i : Nat) (M : zM) : zM := mEg n t (i + 3) n (mCalls n mn c 3 50 52 n (mEf n t (i + 3) n M))
def mEcho (n c t : Nat) (mn : Nat → Option Nat) (k : Nat) (M : zM) : zM := zfor (mEh n c t mn) k (mEe n c mn M)
theorem mHm_none {ra rb n th : Nat} {M : zM} (h : (mHf M ra rb n th).isSome = false) : mHm ra rb n th M = M := by
  unfold mHm
  cases e : mHf M ra rb n th with
  | none => rfl
  | some a => rw [e] at h; exact absurd h (by simp)
theorem mHm_c {ra rb n th : Nat} {M : zM} {a j : Nat} (h : a ≠ 300 ∨ j ≠ 58) : (mHm ra rb n th M).1 a j = M.1 a j := by
  unfold mHm
  split
  · exact zw_ne h
  · rfl
theorem mHm_E {ra rb n th : Nat} {M : zM} : kE M (mHm ra rb n th M) := by
  unfold mHm
  split
  · exact zKf.rf.w (by unfold mFrE; omega)
  · exact zKf.rf
theorem mEz_E {m k : Nat} (hm : m < 7) (M : zM) : kE M (mEz m k M) := zKf.for k M (fun i M _ => (zKf.rf.w (by unfold mFrE; omega)).w (by unfold mFrE; omega))
theorem mEb_E {c m : Nat} (M : zM) : kE M (mEb c m M) := ((((zKf.rf.w (by unfold mFrE; omega)).w (by unfold mFrE; omega)).w (by unfold mFrE; omega)).w (by unfold mFrE; omega)).w (by unfold mFrE; omega)
theorem mE0_E (M : zM) : kE M (mE0 M) := (zKf.rf.w (by unfold mFrE; omega)).w (by unfold mFrE; omega)
theorem mEa_E {c n k : Nat} (hk : k ≤ 7) (M : zM) : kE M (mEa c n k M) := (mE0_E M).tr (zKf.for k _ (fun i M hi => (mEb_E M).tr (mEz_E (by omega) _)))
theorem mCalls_E {n c r ka kb k : Nat} (hab : mKab ka kb) (hn : n ≤ 7) (mn : Nat → Option Nat) (M : zM) : kE M (mCalls n mn c r ka kb k M) := (mCalls_X hn mn c r M).mono (mFrX_E hab)
theorem mEd_E {c k : Nat} (hk : k ≤ 7) (M : zM) : kE M (mEd c k M) := zKf.for k M (fun i M hi => ((zKf.rf.w (by unfold mFrE; omega)).w (by unfold mFrE; omega)).w (by unfold mFrE; omega))
theorem mEc_E {n c : Nat} (hn : n ≤ 7) (mn : Nat → Option Nat) (M : zM) : kE M (mEc n c mn M) := (mEa_E hn M).tr (mCalls_E (Or.inl ⟨rfl, rfl⟩) hn mn _)
theorem mEe_E {n c : Nat} (hn : n ≤ 7) (mn : Nat → Option Nat) (M : zM) : kE M (mEe n c mn M) := ((mEc_E hn mn M).tr (mEd_E hn _)).tr (mCalls_E (Or.inl ⟨rfl, rfl⟩) hn mn _)
theorem mEu_E (r m : Nat) (M : zM) : kE M (mEu r m M) := ((zKf.rf.w (by unfold mFrE; omega)).w (by unfold mFrE; omega)).w (by unfold mFrE; omega)
theorem mEf1_E (n t r m : Nat) (M : zM) : kE M (mEf1 n t r m M) := by
  unfold mEf1
  split
  · exact zKf.rf.w (by unfold mFrE; omega)
  · split
    · exact mHm_E.tr (mEu_E r m _)
    · split
      · exact mHm_E.tr (mEu_E r m _)
      · exact zKf.rf.w (by unfold mFrE; omega)
theorem mEf_E (n t r k : Nat) (M : zM) : kE M (mEf n t r k M) := zKf.for k M (fun i M _ => mEf1_E n t r i M)
theorem mEg1_E (n t r m : Nat) (M : zM) : kE M (mEg1 n t r m M) := by
  unfold mEg1
  split
  · exact zKf.rf
  · split
    · exact (mHm_E.w (by unfold mFrE; omega)).w (by unfold mFrE; omega)
    · exact zKf.rf
theorem mEg_E (n t r k : Nat) (M : zM) : kE M (mEg n t r k M) := zKf.for k M (fun i M _ => mEg1_E n t r i M)
theorem mEh_E {n : Nat} (hn : n ≤ 7) (c t : Nat) (mn : Nat → Option Nat) (i : Nat) (M : zM) : kE M (mEh n c t mn i M) := ((mEf_E n t (i + 3) n M).tr (mCalls_E (Or.inr ⟨rfl, rfl⟩) hn mn _)).tr (mEg_E n t (i + 3) n _)
theorem mEcho_E {n : Nat} (hn : n ≤ 7) (c t : Nat) (mn : Nat → Option Nat) (k : Nat) (M : zM) : kE M (mEcho n c t mn k M) := (mEe_E hn mn M).tr (zKf.for k _ (fun i M _ => mEh_E hn c t mn i M))
-- what is told stays 0 or 1
def m01 (n kb : Nat) (M : zM) : Prop := ∀ x s, x < n → s < n → M.1 (1000 + 16 * kb + x) s = 0 ∨ M.1 (1000 + 16 * kb + x) s = 1
theorem mEz_01 (m : Nat) (M : zM) (x s : Nat) : ∀ k, (mEz m k M).1 (1000 + 16 * 51 + x) s = M.1 (1000 + 16 * 51 + x) s ∨ (mEz m k M).1 (1000 + 16 * 51 + x) s = 0
  | 0 => Or.inl rfl
  | k + 1 => by
    have ih := mEz_01 m M x s k
    show (zw (zw (mEz m k M) _ _ _) _ _ _).1 _ _ = _ ∨ (zw (zw (mEz m k M) _ _ _) _ _ _).1 _ _ = _
    rw [zw_at (a := 1000 + 16 * 51 + x), zw_at (a := 1000 + 16 * 51 + x)]
    split
    · exact Or.inr rfl
    · split
      · exact Or.inr rfl
      · exact ih
