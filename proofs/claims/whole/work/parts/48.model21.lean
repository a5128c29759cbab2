-- a lie
def uOm (e j lo hi : Nat) (M : zM) : zM := if uTk e j M then uNm e lo hi (uTm e j M) else uTm e j M
def uOx (e j lo hi : Nat) (d : Int32) (M : zM) : Int32 := if uTk e j M then uNx e lo hi (uTm e j M) else d
def uL1 (e c : Nat) (M : zM) : zM := zw (uOm e 1 1 3 M) c 0 (uOx e 1 1 3 (nI 0) M)
def uL2 (e n c : Nat) (M : zM) : zM := zw (uOm e 2 0 (n - 1) (uL1 e c M)) c 1 (uOx e 2 0 (n - 1) (-1) (uL1 e c M))
def uL3 (e n c : Nat) (M : zM) : zM := zw (uOm e 3 0 (n - 1) (uL2 e n c M)) c 2 (uOx e 3 0 (n - 1) (-1) (uL2 e n c M))
def uL4 (e n c : Nat) (M : zM) : zM := uS e (uL3 e n c M)
def uL5 (e n c : Nat) (M : zM) : zM := zw (uAm e (uL4 e n c M)) c 3 (nI (uAx e (uL4 e n c M)))
def uL6 (e n c : Nat) (M : zM) : zM := if uAx e (uL4 e n c M) ≤ 1 then zw (uVz e (uL5 e n c M)) c 4 (uVv e (uL5 e n c M)) else zw (uL5 e n c M) c 4 (nI 0)
def uL7 (e n c : Nat) (M : zM) : zM := if uAx e (uL4 e n c M) = 1 then zw (uVz e (uL6 e n c M)) c 5 (uVv e (uL6 e n c M)) else zw (uL6 e n c M) c 5 (nI 0)
def uLie (e n c : Nat) (M : zM) : zM := if (uL3 e n c M).1 300 6 = 0 then uSg e (nI 59) (uL7 e n c M) else uL3 e n c M
theorem kU.st {e n : Nat} {M M' : zM} (h : uSt e n M') (k : kU M' M) (h4 : M.1 300 4 = M'.1 300 4) : uSt e n M := uSt_of h (k.1 _ _ (by unfold uFr; omega)) h4 (k.1 _ _ (by unfold uFr; omega))
theorem uSt_zw {e n c j : Nat} {v : Int32} {M : zM} (h : uSt e n M) (hc : 301 ≤ c) : uSt e n (zw M c j v) := uSt_of h (zw_ne (by omega)) (zw_ne (by omega)) (zw_ne (by omega))
theorem uSt_Om {e n j lo hi : Nat} {M : zM} (h : uSt e n M) (he : e ≤ 300) : uSt e n (uOm e j lo hi M) := by
  unfold uOm
  split
  · exact uSt_Nm (uSt_Tm h he) he
  · exact uSt_Tm h he
theorem uOm_k (e j lo hi : Nat) (M : zM) : kU M (uOm e j lo hi M) := by
  unfold uOm
  split
  · exact (uTm_k _ _ _).tr (uNm_k _ _ _ _)
  · exact uTm_k _ _ _
theorem uSt_L1 {e n c : Nat} {M : zM} (h : uSt e n M) (he : e ≤ 300) (hc : 301 ≤ c) : uSt e n (uL1 e c M) := uSt_zw (uSt_Om h he) hc
theorem uSt_L2 {e n c : Nat} {M : zM} (h : uSt e n M) (he : e ≤ 300) (hc : 301 ≤ c) : uSt e n (uL2 e n c M) := uSt_zw (uSt_Om (uSt_L1 h he hc) he) hc
theorem uSt_L3 {e n c : Nat} {M : zM} (h : uSt e n M) (he : e ≤ 300) (hc : 301 ≤ c) : uSt e n (uL3 e n c M) := uSt_zw (uSt_Om (uSt_L2 h he hc) he) hc
theorem uSt_L5 {e n c : Nat} {M : zM} (h : uSt e n M) (he : e ≤ 300) (hc : 301 ≤ c) : uSt e n (uL5 e n c M) := uSt_zw (uSt_Am (uSt_S (uSt_L3 h he hc) he) he) hc
theorem uSt_L6 {e n c : Nat} {M : zM} (h : uSt e n M) (he : e ≤ 300) (hc : 301 ≤ c) : uSt e n (uL6 e n c M) := by
  unfold uL6
  split
  · exact uSt_zw (uSt_Vz (uSt_L5 h he hc) he) hc
  · exact uSt_zw (uSt_L5 h he hc) hc
theorem uSt_L7 {e n c : Nat} {M : zM} (h : uSt e n M) (he : e ≤ 300) (hc : 301 ≤ c) : uSt e n (uL7 e n c M) := by
  unfold uL7
  split
  · exact uSt_zw (uSt_Vz (uSt_L6 h he hc) he) hc
  · exact uSt_zw (uSt_L6 h he hc) hc
theorem uSt_Lie {e n c : Nat} {M : zM} (h : uSt e n M) (he : e ≤ 300) (hc : 301 ≤ c) : uSt e n (uLie e n c M) := by
  unfold uLie
  split
  · exact uSt_Sg (uSt_L7 h he hc) he (by decide)
  · exact uSt_L3 h he hc
/-- frame of a lie read into cell c -/
abbrev kV (c : Nat) (M M' : zM) : Prop := zKf (fun a j => uFr a j ∨ a = c) M M'
theorem kU.v {c : Nat} {M M' : zM} (h : kU M M') : kV c M M' := h.mono (fun _ _ q => Or.inl q)
theorem uL3_k (e n c : Nat) (M : zM) : kV c M (uL3 e n c M) := (((((uOm_k _ _ _ _ _).v).w (Or.inr rfl)).tr (((uOm_k _ _ _ _ _).v).w (Or.inr rfl)))).tr (((uOm_k _ _ _ _ _).v).w (Or.inr rfl))
theorem uL5_k (e n c : Nat) (M : zM) : kV c M (uL5 e n c M) := ((uL3_k e n c M).tr ((uAt_k _ _).v)).tr (((uAm_k _ _).v).w (Or.inr rfl))
theorem uL6_k (e n c : Nat) (M : zM) : kV c M (uL6 e n c M) := by
  unfold uL6
  split
  · exact (uL5_k e n c M).tr (((uVz_k _ _).v).w (Or.inr rfl))
  · exact (uL5_k e n c M).w (Or.inr rfl)
theorem uL7_k (e n c : Nat) (M : zM) : kV c M (uL7 e n c M) := by
  unfold uL7
  split
  · exact (uL6_k e n c M).tr (((uVz_k _ _).v).w (Or.inr rfl))
  · exact (uL6_k e n c M).w (Or.inr rfl)
theorem uLie_k (e n c : Nat) (M : zM) : kV c M (uLie e n c M) := by
  unfold uLie
  split
  · exact (uL7_k e n c M).tr ((uSg_k _ _ _).v)
  · exact uL3_k e n c M
theorem uL6_3 {e n c : Nat} {M : zM} (hc : 301 ≤ c) : (uL6 e n c M).1 c 3 = nI (uAx e (uL4 e n c M)) := by
  unfold uL6
  split
  · rw [zw_ne (by omega), (uVz_k _ _).1 _ _ (by unfold uFr; omega)]; exact zw_same
  · rw [zw_ne (by omega)]; exact zw_same
set_option maxHeartbeats 1000000 in
theorem zc_readsLie (l : Launch) (G : zG) (M : zM) (e n c : Nat) (hM : uSt e n M) (he : e ≤ 300) (h0 : 1 ≤ n) (hn7 : n ≤ 7) (hc : zSh c = (20, 6)) (hc2 : 301 ≤ c) : zC l G 7 yX11_readsLie cX11_readsLie 2 (Option.none : Option Jvm.ClassFile.FieldType) [.ref (300 : Nat), .ref c] M (zP none (uLie e n c M)) := by
  refine zC_of (by decide) (Nat.le_of_ble_eq_true rfl) (fun X Q hQ hX hl hR hr => ?_)
  refine zV_loc (L' := [.ref (300 : Nat), .ref c]) rfl ?_
  have h1 := uSt_L1 hM he hc2
  have h2 := uSt_L2 hM he hc2
  have h3 := uSt_L3 hM he hc2
  have h5 := uSt_L5 hM he hc2
  have h6s := uSt_L6 hM he hc2
  have h7 := uSt_L7 hM he hc2
  have J135 : (uL3 e n c M).1 300 6 = 0 → zV G X Q 2 0 0 135 [.ref (300 : Nat), .ref c] [] (uL7 e n c M) := by
    intro h6
    refine zV_aload_n hX dX11_readsLie_135 rfl ?_
    refine zV_bipush hX (v := nI 59) dX11_readsLie_136 (by decide) ?_
    refine zV_cV1p hX hR hl dX11_readsLie_138 (zc_sign l G (uL7 e n c M) e n (nI 59) h7 he) zt_X11_sign rfl zml_X11_277 zo300.1 ⟨by decide, by decide⟩ (Nat.le_of_ble_eq_true rfl) ?_
    dsimp only [Option.toList, List.cons_append, List.nil_append]
    exact zV_retv hX hQ hr (⟨rfl, by rw [uLie, if_pos h6]⟩) dX11_readsLie_141
  have J117 : (uL3 e n c M).1 300 6 = 0 → zV G X Q 2 0 0 117 [.ref (300 : Nat), .ref c] [] (uL6 e n c M) := by
    intro h6
    have hax := uAx_lt e (uL4 e n c M)
    refine zV_aload_n hX dX11_readsLie_117 rfl ?_
    refine zV_iconst hX (v := nI 5) dX11_readsLie_118 (by decide) ?_
    refine zV_aload_n hX dX11_readsLie_119 rfl ?_
    refine zV_iconst hX (v := nI 3) dX11_readsLie_120 (by decide) ?_
    refine zV_iald hX (v := nI (uAx e (uL4 e n c M))) dX11_readsLie_121 hc (rfl) ⟨by omega, by omega⟩ (uL6_3 hc2) ?_
    refine zV_iconst hX (v := nI 1) dX11_readsLie_122 (by decide) ?_
    refine zV_icmp_neN hX (tgt := 133) dX11_readsLie_123 (by decide) ⟨by omega, by omega⟩ (fun c_123 => ?_) (fun c_123 => ?_)
    · have e1 : (uL7 e n c M) = zw (uL6 e n c M) c 5 (nI 0) := if_neg c_123
      refine zV_iconst hX (v := nI 0) dX11_readsLie_133 (by decide) ?_
      refine zV_iast hX dX11_readsLie_134 hc (rfl) ⟨by omega, by omega⟩ ?_
      exact zV_mem e1.symm (J135 h6)
    · have e1 : (uL7 e n c M) = zw (uVz e (uL6 e n c M)) c 5 (uVv e (uL6 e n c M)) := if_pos c_123
      refine zV_aload_n hX dX11_readsLie_126 rfl ?_
      refine zV_cV0p hX hR hl dX11_readsLie_127 (zc_valueHere l G (uL6 e n c M) e n h6s he) zt_X11_valueHere rfl zml_X11_274 zo300.1 ⟨by decide, by decide⟩ (Nat.le_of_ble_eq_true rfl) ?_
      dsimp only [Option.toList, List.cons_append, List.nil_append]
      refine zV_goto hX (tgt := 134) dX11_readsLie_130 (by decide) ?_
      refine zV_iast hX dX11_readsLie_134 hc (rfl) ⟨by omega, by omega⟩ ?_
      exact zV_mem e1.symm (J135 h6)
  have J78 : zV G X Q 2 0 0 78 [.ref (300 : Nat), .ref c] [.int (uOx e 3 0 (n - 1) (-1) (uL2 e n c M)), .int (nI 2), .ref c] (uOm e 3 0 (n - 1) (uL2 e n c M)) := by
    refine zV_iast hX dX11_readsLie_78 hc (rfl) ⟨by omega, by omega⟩ ?_
    refine zV_mem (show _ = uL3 e n c M from rfl) ?_
    refine zV_aload_n hX dX11_readsLie_79 rfl ?_
    refine zV_cV0p hX hR hl dX11_readsLie_80 (zc_fine l G (uL3 e n c M)) zt_X11_fine rfl zml_X11_208 zo300.1 ⟨by decide, by decide⟩ (Nat.le_of_ble_eq_true rfl) ?_
    dsimp only [Option.toList, List.cons_append, List.nil_append]
    refine zV_if_neB hX (tgt := 87) dX11_readsLie_83 (by decide) (fun c_83 => ?_) (fun c_83 => ?_)
    · have h6 : (uL3 e n c M).1 300 6 = 0 := of_decide_eq_true c_83
      refine zV_aload_n hX dX11_readsLie_87 rfl ?_
      refine zV_cV0p hX hR hl dX11_readsLie_88 (zc_here l G _ e n h3 he) zt_X11_here rfl zml_X11_212 zo300.1 ⟨by decide, by decide⟩ (Nat.le_of_ble_eq_true rfl) ?_
      dsimp only [Option.toList, List.cons_append, List.nil_append]
      refine zV_mem (show _ = uL4 e n c M from rfl) ?_
      refine zV_pop hX dX11_readsLie_91 rfl ?_
      refine zV_aload_n hX dX11_readsLie_92 rfl ?_
      refine zV_iconst hX (v := nI 3) dX11_readsLie_93 (by decide) ?_
      refine zV_aload_n hX dX11_readsLie_94 rfl ?_
      refine zV_cV0p hX hR hl dX11_readsLie_95 (zc_actHere l G (uL4 e n c M) e n (uSt_S h3 he) he) zt_X11_actHere rfl zml_X11_271 zo300.1 ⟨by decide, by decide⟩ (Nat.le_of_ble_eq_true rfl) ?_
      dsimp only [Option.toList, List.cons_append, List.nil_append]
      refine zV_iast hX dX11_readsLie_98 hc (rfl) ⟨by omega, by omega⟩ ?_
      refine zV_mem (show _ = uL5 e n c M from rfl) ?_
      have hax := uAx_lt e (uL4 e n c M)
      refine zV_aload_n hX dX11_readsLie_99 rfl ?_
      refine zV_iconst hX (v := nI 4) dX11_readsLie_100 (by decide) ?_
      refine zV_aload_n hX dX11_readsLie_101 rfl ?_
      refine zV_iconst hX (v := nI 3) dX11_readsLie_102 (by decide) ?_
      refine zV_iald hX (v := nI (uAx e (uL4 e n c M))) dX11_readsLie_103 hc (rfl) ⟨by omega, by omega⟩ (zw_same) ?_
      refine zV_iconst hX (v := nI 1) dX11_readsLie_104 (by decide) ?_
      refine zV_icmp_gtN hX (tgt := 115) dX11_readsLie_105 (by decide) ⟨by omega, by omega⟩ (fun c_105 => ?_) (fun c_105 => ?_)
      · have e1 : (uL6 e n c M) = zw (uL5 e n c M) c 4 (nI 0) := if_neg (by omega)
        refine zV_iconst hX (v := nI 0) dX11_readsLie_115 (by decide) ?_
        refine zV_iast hX dX11_readsLie_116 hc (rfl) ⟨by omega, by omega⟩ ?_
        exact zV_mem e1.symm (J117 h6)
      · have e1 : (uL6 e n c M) = zw (uVz e (uL5 e n c M)) c 4 (uVv e (uL5 e n c M)) := if_pos c_105
        refine zV_aload_n hX dX11_readsLie_108 rfl ?_
        refine zV_cV0p hX hR hl dX11_readsLie_109 (zc_valueHere l G (uL5 e n c M) e n h5 he) zt_X11_valueHere rfl zml_X11_274 zo300.1 ⟨by decide, by decide⟩ (Nat.le_of_ble_eq_true rfl) ?_
        dsimp only [Option.toList, List.cons_append, List.nil_append]
        refine zV_goto hX (tgt := 116) dX11_readsLie_112 (by decide) ?_
        refine zV_iast hX dX11_readsLie_116 hc (rfl) ⟨by omega, by omega⟩ ?_
        exact zV_mem e1.symm (J117 h6)
    · have h6 : ¬ (uL3 e n c M).1 300 6 = 0 := of_decide_eq_false c_83
      exact zV_retv hX hQ hr (⟨rfl, by rw [uLie, if_neg h6]⟩) dX11_readsLie_86
  have J50 : zV G X Q 2 0 0 50 [.ref (300 : Nat), .ref c] [.int (uOx e 2 0 (n - 1) (-1) (uL1 e c M)), .int (nI 1), .ref c] (uOm e 2 0 (n - 1) (uL1 e c M)) := by
    refine zV_iast hX dX11_readsLie_50 hc (rfl) ⟨by omega, by omega⟩ ?_
    refine zV_mem (show _ = uL2 e n c M from rfl) ?_
    refine zV_aload_n hX dX11_readsLie_51 rfl ?_
    refine zV_iconst hX (v := nI 2) dX11_readsLie_52 (by decide) ?_
    refine zV_aload_n hX dX11_readsLie_53 rfl ?_
    refine zV_ldcsw hX (j := 3) dX11_readsLie_54 zsr_X11_269 ?_
    refine zV_cV1p hX hR hl dX11_readsLie_57 (zc_takes l G (uL2 e n c M) e n 3 h2 he (by decide)) zt_X11_takes rfl zml_X11_253 zo300.1 ⟨by decide, by decide⟩ (Nat.le_of_ble_eq_true rfl) ?_
    dsimp only [Option.toList, List.cons_append, List.nil_append]
    refine zV_if_eqB hX (tgt := 77) dX11_readsLie_60 (by decide) (fun c_60 => ?_) (fun c_60 => ?_)
    · have e1 : (uOx e 3 0 (n - 1) (-1) (uL2 e n c M)) = (-1) := by rw [uOx, if_neg (by rw [c_60]; decide)]
      have e2 : (uOm e 3 0 (n - 1) (uL2 e n c M)) = uTm e 3 (uL2 e n c M) := by rw [uOm, if_neg (by rw [c_60]; decide)]
      refine zV_iconst hX (v := (-1)) dX11_readsLie_77 (by decide) ?_
      refine zV_topi _ e1.symm ?_
      exact zV_mem e2.symm J78
    · have e1 : (uOx e 3 0 (n - 1) (-1) (uL2 e n c M)) = uNx e 0 (n - 1) (uTm e 3 (uL2 e n c M)) := by rw [uOx, if_pos c_60]
      have e2 : (uOm e 3 0 (n - 1) (uL2 e n c M)) = uNm e 0 (n - 1) (uTm e 3 (uL2 e n c M)) := by rw [uOm, if_pos c_60]
      refine zV_aload_n hX dX11_readsLie_63 rfl ?_
      refine zV_iconst hX (v := nI 0) dX11_readsLie_64 (by decide) ?_
      refine zV_aload_n hX dX11_readsLie_65 rfl ?_
      refine zV_geti hX dX11_readsLie_66 zf_X11_20 zo300.1 rfl ((uSt_Tm h2 he).2.2.2) ?_
      refine zV_iconst hX (v := nI 1) dX11_readsLie_69 (by decide) ?_
      refine zV_isubN hX dX11_readsLie_70 (by omega) ?_
      refine zV_cV2p hX hR hl dX11_readsLie_71 (zc_number l G _ e n 0 (n - 1) (uSt_Tm h2 he) he (by omega) (by omega)) zt_X11_number rfl zml_X11_249 zo300.1 ⟨by decide, by decide⟩ (Nat.le_of_ble_eq_true rfl) ?_
      dsimp only [Option.toList, List.cons_append, List.nil_append]
      refine zV_goto hX (tgt := 78) dX11_readsLie_74 (by decide) ?_
      refine zV_topi _ e1.symm ?_
      exact zV_mem e2.symm J78
  have J22 : zV G X Q 2 0 0 22 [.ref (300 : Nat), .ref c] [.int (uOx e 1 1 3 (nI 0) M), .int (nI 0), .ref c] (uOm e 1 1 3 M) := by
    refine zV_iast hX dX11_readsLie_22 hc (rfl) ⟨by omega, by omega⟩ ?_
    refine zV_mem (show _ = uL1 e c M from rfl) ?_
    refine zV_aload_n hX dX11_readsLie_23 rfl ?_
    refine zV_iconst hX (v := nI 1) dX11_readsLie_24 (by decide) ?_
    refine zV_aload_n hX dX11_readsLie_25 rfl ?_
    refine zV_ldcsw hX (j := 2) dX11_readsLie_26 zsr_X11_267 ?_
    refine zV_cV1p hX hR hl dX11_readsLie_29 (zc_takes l G (uL1 e c M) e n 2 h1 he (by decide)) zt_X11_takes rfl zml_X11_253 zo300.1 ⟨by decide, by decide⟩ (Nat.le_of_ble_eq_true rfl) ?_
    dsimp only [Option.toList, List.cons_append, List.nil_append]
    refine zV_if_eqB hX (tgt := 49) dX11_readsLie_32 (by decide) (fun c_32 => ?_) (fun c_32 => ?_)
    · have e1 : (uOx e 2 0 (n - 1) (-1) (uL1 e c M)) = (-1) := by rw [uOx, if_neg (by rw [c_32]; decide)]
      have e2 : (uOm e 2 0 (n - 1) (uL1 e c M)) = uTm e 2 (uL1 e c M) := by rw [uOm, if_neg (by rw [c_32]; decide)]
      refine zV_iconst hX (v := (-1)) dX11_readsLie_49 (by decide) ?_
      refine zV_topi _ e1.symm ?_
      exact zV_mem e2.symm J50
    · have e1 : (uOx e 2 0 (n - 1) (-1) (uL1 e c M)) = uNx e 0 (n - 1) (uTm e 2 (uL1 e c M)) := by rw [uOx, if_pos c_32]
      have e2 : (uOm e 2 0 (n - 1) (uL1 e c M)) = uNm e 0 (n - 1) (uTm e 2 (uL1 e c M)) := by rw [uOm, if_pos c_32]
      refine zV_aload_n hX dX11_readsLie_35 rfl ?_
      refine zV_iconst hX (v := nI 0) dX11_readsLie_36 (by decide) ?_
      refine zV_aload_n hX dX11_readsLie_37 rfl ?_
      refine zV_geti hX dX11_readsLie_38 zf_X11_20 zo300.1 rfl ((uSt_Tm h1 he).2.2.2) ?_
      refine zV_iconst hX (v := nI 1) dX11_readsLie_41 (by decide) ?_
      refine zV_isubN hX dX11_readsLie_42 (by omega) ?_
      refine zV_cV2p hX hR hl dX11_readsLie_43 (zc_number l G _ e n 0 (n - 1) (uSt_Tm h1 he) he (by omega) (by omega)) zt_X11_number rfl zml_X11_249 zo300.1 ⟨by decide, by decide⟩ (Nat.le_of_ble_eq_true rfl) ?_
      dsimp only [Option.toList, List.cons_append, List.nil_append]
      refine zV_goto hX (tgt := 50) dX11_readsLie_46 (by decide) ?_
      refine zV_topi _ e1.symm ?_
      exact zV_mem e2.symm J50
  refine zV_aload_n hX dX11_readsLie_0 rfl ?_
  refine zV_iconst hX (v := nI 0) dX11_readsLie_1 (by decide) ?_
  refine zV_aload_n hX dX11_readsLie_2 rfl ?_
  refine zV_ldcsw hX (j := 1) dX11_readsLie_3 zsr_X11_265 ?_
  refine zV_cV1p hX hR hl dX11_readsLie_6 (zc_takes l G M e n 1 hM he (by decide)) zt_X11_takes rfl zml_X11_253 zo300.1 ⟨by decide, by decide⟩ (Nat.le_of_ble_eq_true rfl) ?_
  dsimp only [Option.toList, List.cons_append, List.nil_append]
  refine zV_if_eqB hX (tgt := 21) dX11_readsLie_9 (by decide) (fun c_9 => ?_) (fun c_9 => ?_)
  · have e1 : (uOx e 1 1 3 (nI 0) M) = (nI 0) := by rw [uOx, if_neg (by rw [c_9]; decide)]
    have e2 : (uOm e 1 1 3 M) = uTm e 1 M := by rw [uOm, if_neg (by rw [c_9]; decide)]
    refine zV_iconst hX (v := nI 0) dX11_readsLie_21 (by decide) ?_
    refine zV_topi _ e1.symm ?_
    exact zV_mem e2.symm J22
  · have e1 : (uOx e 1 1 3 (nI 0) M) = uNx e 1 3 (uTm e 1 M) := by rw [uOx, if_pos c_9]
    have e2 : (uOm e 1 1 3 M) = uNm e 1 3 (uTm e 1 M) := by rw [uOm, if_pos c_9]
    refine zV_aload_n hX dX11_readsLie_12 rfl ?_
    refine zV_iconst hX (v := nI 1) dX11_readsLie_13 (by decide) ?_
    refine zV_iconst hX (v := nI 3) dX11_readsLie_14 (by decide) ?_
    refine zV_cV2p hX hR hl dX11_readsLie_15 (zc_number l G _ e n 1 3 (uSt_Tm hM he) he (by omega) (by omega)) zt_X11_number rfl zml_X11_249 zo300.1 ⟨by decide, by decide⟩ (Nat.le_of_ble_eq_true rfl) ?_
    dsimp only [Option.toList, List.cons_append, List.nil_append]
    refine zV_goto hX (tgt := 22) dX11_readsLie_18 (by decide) ?_
    refine zV_topi _ e1.symm ?_
    exact zV_mem e2.symm J22
