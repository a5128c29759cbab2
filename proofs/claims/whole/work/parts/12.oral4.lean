section zTopRows
variable {G : zG} {X : zX} {Q : State → Prop} {nL cells slots pc : Nat} {L S : List Value} {M : zM}
theorem zV_topl {x : Int64} (y : Int64) (e : x = y) (k : zV G X Q nL cells slots pc L (.long y :: S) M) : zV G X Q nL cells slots pc L (.long x :: S) M := e ▸ k
theorem zV_topf {x : UInt32} (y : UInt32) (e : x = y) (k : zV G X Q nL cells slots pc L (.float y :: S) M) : zV G X Q nL cells slots pc L (.float x :: S) M := e ▸ k
theorem zV_topd {x : UInt64} (y : UInt64) (e : x = y) (k : zV G X Q nL cells slots pc L (.double y :: S) M) : zV G X Q nL cells slots pc L (.double x :: S) M := e ▸ k
theorem zV_topv {x : Value} (y : Value) (e : x = y) (k : zV G X Q nL cells slots pc L (y :: S) M) : zV G X Q nL cells slots pc L (x :: S) M := e ▸ k
end zTopRows
def oEnough (t r : Nat) (set : Int32) : Bool := decide (nI 2 + zpop set ≤ nI r) || decide (r = t + 1)
def oEndA (o n t c m r : Nat) (M : zM) : zM := zw (zw (oSus o n t c m r (zfr r - zfr (r - 1)) M) (o + 1 + 3) m (M.1 (o + 1 + 3) m ||| (oSus o n t c m r (zfr r - zfr (r - 1)) M).1 (o + 1 + 15) m)) (o + 1 + 15) m (nI 0)
def oEnd1 (o n t c r m : Nat) (M : zM) : zM :=
  if m = c then M
  else if (M.1 (o + 1 + 4) m == 0) && oEnough t r ((oEndA o n t c m r M).1 (o + 1 + 3) m) then zw (oEndA o n t c m r M) (o + 1 + 4) m (nI r) else oEndA o n t c m r M
theorem oEndA_fr (o n t c m r : Nat) (M : zM) : zFr (fun a => a = o + 1 + 19 ∨ a = o + 1 + 15 ∨ a = o + 1 + 3 ∨ a = o + 1 + 4) M (oEndA o n t c m r M) := by
  have h : zFr (fun a => a = o + 1 + 19 ∨ a = o + 1 + 15 ∨ a = o + 1 + 3 ∨ a = o + 1 + 4) M (oSus o n t c m r (zfr r - zfr (r - 1)) M) := (oSus_fr o n t c m r _ M).mono (fun a h => h.elim Or.inl (fun h => Or.inr (Or.inl h)))
  exact (h.w (Or.inr (Or.inr (Or.inl rfl)))).w (Or.inr (Or.inl rfl))
theorem oEnd1_fr (o n t c r m : Nat) (M : zM) : zFr (fun a => a = o + 1 + 19 ∨ a = o + 1 + 15 ∨ a = o + 1 + 3 ∨ a = o + 1 + 4) M (oEnd1 o n t c r m M) := by
  unfold oEnd1
  split
  · exact zFr.rf
  · split
    · exact (oEndA_fr o n t c m r M).w (Or.inr (Or.inr (Or.inr rfl)))
    · exact oEndA_fr o n t c m r M
def oEnd (o n t c r k : Nat) (M : zM) : zM := zfor (fun m M => oEnd1 o n t c r m M) k M
theorem oEnd_fr (o n t c r k : Nat) (M : zM) : zFr (fun a => a = o + 1 + 19 ∨ a = o + 1 + 15 ∨ a = o + 1 + 3 ∨ a = o + 1 + 4) M (oEnd o n t c r k M) := zFr.for (fun i M => oEnd1_fr o n t c r i M) k M
set_option maxHeartbeats 1000000 in
theorem zc_endRound (l : Launch) (G : zG) (M : zM) (o n t c r : Nat) (hO : zOb 5 o) (hn : M.1 o 7 = nI n) (hn7 : n ≤ 7) (ht : M.1 o 8 = nI t) (ht2 : t ≤ 2) (hcm : M.1 o 0 = nI c) (hc7 : c < 7) (hr1 : 1 ≤ r) (hr3 : r ≤ 3) : zC l G 3 yX6_endRound cX6_endRound 4 (Option.none : Option Jvm.ClassFile.FieldType) [.ref o, .int (nI r)] M (zP none (oEnd o n t c r n M)) := by
  refine zC_of (by decide) (Nat.le_of_ble_eq_true rfl) (fun X Q hQ hX hl hR hr => ?_)
  refine zV_loc (L' := [.ref o, .int (nI r), .null, .null]) rfl ?_
  have L2 : ∀ (f9 k : Nat) (v1 : Value), n - k < f9 → k ≤ n → zV G X Q 4 0 0 2 [.ref o, .int (nI r), .int (nI k), v1] [] (oEnd o n t c r k M) := by
    intro f9
    induction f9 with
    | zero => intro k v1 hk1 hk2; exact absurd hk1 (Nat.not_lt_zero _)
    | succ f9 ih =>
      intro k v1 hk1 hk2
      have hfr := oEnd_fr o n t c r k M
      have hs9 := oSus_fr o n t c k r (zfr r - zfr (r - 1)) (oEnd o n t c r k M)
      refine zV_iload_n hX dX6_endRound_2 rfl ?_
      refine zV_aload_n hX dX6_endRound_3 rfl ?_
      refine zV_geti hX dX6_endRound_4 zf_X6_67 hO.1 rfl (by rw [hfr.at (by omega), hn]) ?_
      refine zV_icmp_geN hX (tgt := 103) dX6_endRound_7 (by decide) ⟨by omega, by omega⟩ (fun c_7 => ?_) (fun c_7 => ?_)
      · exact zV_retv hX hQ hr (⟨rfl, by rw [show k = n by omega]⟩) dX6_endRound_103
      · refine zV_iload_n hX dX6_endRound_10 rfl ?_
        refine zV_aload_n hX dX6_endRound_11 rfl ?_
        refine zV_geti hX dX6_endRound_12 zf_X6_9 hO.1 rfl (by rw [hfr.at (by omega), hcm]) ?_
        refine zV_icmp_eqN hX (tgt := 97) dX6_endRound_15 (by decide) ⟨by omega, by omega⟩ (fun c_15 => ?_) (fun c_15 => ?_)
        · have e9 : oEnd1 o n t c r k (oEnd o n t c r k M) = (oEnd o n t c r k M) := if_pos c_15
          refine zV_iincN hX (b := 1) dX6_endRound_97 rfl (by decide) ?_
          dsimp only [zst1, zst2, zclr, zc2]
          refine zV_goto hX (tgt := 2) dX6_endRound_100 (by decide) ?_
          have h9 := fun v1 => ih (k + 1) v1 (by omega) (by omega)
          simp only [show oEnd o n t c r (k + 1) M = oEnd1 o n t c r k (oEnd o n t c r k M) from rfl, e9] at h9
          exact h9 _
        · refine zV_aload_n hX dX6_endRound_18 rfl ?_
          refine zV_iload_n hX dX6_endRound_19 rfl ?_
          refine zV_iload_n hX dX6_endRound_20 rfl ?_
          refine zV_cV2p hX hR hl dX6_endRound_21 (zc_suspect l G _ o n t c k r hO (by rw [hfr.at (by omega), hn]) hn7 (by rw [hfr.at (by omega), ht]) (by rw [hfr.at (by omega), hcm]) (by omega) hr1 hr3) zt_X6_suspect rfl zml_X6_169 hO.1 ⟨by decide, by decide⟩ (Nat.le_of_ble_eq_true rfl) ?_
          dsimp only [Option.toList, List.cons_append, List.nil_append]
          refine zV_aload_n hX dX6_endRound_24 rfl ?_
          refine zV_geta hX dX6_endRound_25 zf_X6_15 hO.1 rfl ?_
          refine zV_iload_n hX dX6_endRound_28 rfl ?_
          refine zV_dup2 hX dX6_endRound_29 rfl rfl ?_
          refine zV_iald hX (v := (oEnd o n t c r k M).1 (o + 1 + 3) k) dX6_endRound_30 (hO.a 3 rfl) (rfl) ⟨by omega, by omega⟩ (hs9.at (by omega)) ?_
          refine zV_aload_n hX dX6_endRound_31 rfl ?_
          refine zV_geta hX dX6_endRound_32 zf_X6_38 hO.1 rfl ?_
          refine zV_iload_n hX dX6_endRound_35 rfl ?_
          refine zV_iald hX dX6_endRound_36 (hO.a 15 rfl) (rfl) ⟨by omega, by omega⟩ (rfl) ?_
          refine zV_ior hX dX6_endRound_37 ?_
          refine zV_iast hX dX6_endRound_38 (hO.a 3 rfl) (rfl) ⟨by omega, by omega⟩ ?_
          refine zV_aload_n hX dX6_endRound_39 rfl ?_
          refine zV_geta hX dX6_endRound_40 zf_X6_38 hO.1 rfl ?_
          refine zV_iload_n hX dX6_endRound_43 rfl ?_
          refine zV_iconst hX (v := nI 0) dX6_endRound_44 (by decide) ?_
          refine zV_iast hX dX6_endRound_45 (hO.a 15 rfl) (rfl) ⟨by omega, by omega⟩ ?_
          refine zV_mem (M' := (oEndA o n t c k r (oEnd o n t c r k M))) rfl ?_
          refine zV_iload_n hX dX6_endRound_46 rfl ?_
          refine zV_iconst hX (v := nI 2) dX6_endRound_47 (by decide) ?_
          refine zV_aload_n hX dX6_endRound_48 rfl ?_
          refine zV_geta hX dX6_endRound_49 zf_X6_15 hO.1 rfl ?_
          refine zV_iload_n hX dX6_endRound_52 rfl ?_
          refine zV_iald hX dX6_endRound_53 (hO.a 3 rfl) (rfl) ⟨by omega, by omega⟩ (rfl) ?_
          refine zV_cS1p hX hR hl dX6_endRound_54 (zc_bitCount l G _ _) zt_J6_bitCount_0f7a4 rfl zml_X6_173 (by decide) (Nat.le_of_ble_eq_true rfl) ?_
          dsimp only [Option.toList, List.cons_append, List.nil_append]
          refine zV_iadd hX dX6_endRound_57 ?_
          refine zV_icmp_ge hX (tgt := 71) dX6_endRound_58 (by decide) (fun c_58 => ?_) (fun c_58 => ?_)
          · have e8 : (oEnough t r ((oEndA o n t c k r (oEnd o n t c r k M)).1 (o + 1 + 3) k)) = true := by unfold oEnough; rw [decide_eq_true c_58]; rfl
            refine zV_iconst hX (v := nI 1) dX6_endRound_71 (by decide) ?_
            refine zV_topi (zb true) rfl ?_
            refine zV_goto hX (tgt := 76) dX6_endRound_72 (by decide) ?_
            refine zV_istore_n hX dX6_endRound_76 (by decide) ?_
            dsimp only [zst1, zst2, zclr, zc2]
            refine zV_aload_n hX dX6_endRound_77 rfl ?_
            refine zV_geta hX dX6_endRound_78 zf_X6_19 hO.1 rfl ?_
            refine zV_iload_n hX dX6_endRound_81 rfl ?_
            refine zV_iald hX (v := (oEnd o n t c r k M).1 (o + 1 + 4) k) dX6_endRound_82 (hO.a 4 rfl) (rfl) ⟨by omega, by omega⟩ ((by unfold oEndA; rw [zw_ne (by omega), zw_ne (by omega), hs9.at (by omega)])) ?_
            refine zV_if_ne hX (tgt := 97) dX6_endRound_83 (by decide) (fun c_83 => ?_) (fun c_83 => ?_)
            · have e9 : oEnd1 o n t c r k (oEnd o n t c r k M) = (oEndA o n t c k r (oEnd o n t c r k M)) := by rw [oEnd1, if_neg c_15, if_neg (by simp [c_83])]
              refine zV_iincN hX (b := 1) dX6_endRound_97 rfl (by decide) ?_
              dsimp only [zst1, zst2, zclr, zc2]
              refine zV_goto hX (tgt := 2) dX6_endRound_100 (by decide) ?_
              have h9 := fun v1 => ih (k + 1) v1 (by omega) (by omega)
              simp only [show oEnd o n t c r (k + 1) M = oEnd1 o n t c r k (oEnd o n t c r k M) from rfl, e9] at h9
              exact h9 _
            · refine zV_iload_n hX dX6_endRound_86 rfl ?_
              refine zV_if_eqB hX (tgt := 97) dX6_endRound_87 (by decide) (fun c_87 => ?_) (fun c_87 => ?_)
              · have e9 : oEnd1 o n t c r k (oEnd o n t c r k M) = (oEndA o n t c k r (oEnd o n t c r k M)) := by rw [oEnd1, if_neg c_15, if_neg (by first | (rw [e8]; simp; done) | exact absurd c_87 (by decide))]
                refine zV_iincN hX (b := 1) dX6_endRound_97 rfl (by decide) ?_
                dsimp only [zst1, zst2, zclr, zc2]
                refine zV_goto hX (tgt := 2) dX6_endRound_100 (by decide) ?_
                have h9 := fun v1 => ih (k + 1) v1 (by omega) (by omega)
                simp only [show oEnd o n t c r (k + 1) M = oEnd1 o n t c r k (oEnd o n t c r k M) from rfl, e9] at h9
                exact h9 _
              · have e9 : oEnd1 o n t c r k (oEnd o n t c r k M) = zw (oEndA o n t c k r (oEnd o n t c r k M)) (o + 1 + 4) k (nI r) := by rw [oEnd1, if_neg c_15, if_pos (by first | (rw [e8]; simp [c_83]; done) | exact absurd c_87 (by decide))]
                refine zV_aload_n hX dX6_endRound_90 rfl ?_
                refine zV_geta hX dX6_endRound_91 zf_X6_19 hO.1 rfl ?_
                refine zV_iload_n hX dX6_endRound_94 rfl ?_
                refine zV_iload_n hX dX6_endRound_95 rfl ?_
                refine zV_iast hX dX6_endRound_96 (hO.a 4 rfl) (rfl) ⟨by omega, by omega⟩ ?_
                refine zV_iincN hX (b := 1) dX6_endRound_97 rfl (by decide) ?_
                dsimp only [zst1, zst2, zclr, zc2]
                refine zV_goto hX (tgt := 2) dX6_endRound_100 (by decide) ?_
                have h9 := fun v1 => ih (k + 1) v1 (by omega) (by omega)
                simp only [show oEnd o n t c r (k + 1) M = oEnd1 o n t c r k (oEnd o n t c r k M) from rfl, e9] at h9
                exact h9 _
          · refine zV_iload_n hX dX6_endRound_61 rfl ?_
            refine zV_aload_n hX dX6_endRound_62 rfl ?_
            refine zV_geti hX dX6_endRound_63 zf_X6_71 hO.1 rfl (by rw [(oEndA_fr o n t c k r _).at (by omega), hfr.at (by omega), ht]) ?_
            refine zV_iconst hX (v := nI 1) dX6_endRound_66 (by decide) ?_
            refine zV_iaddN hX dX6_endRound_67 ?_
            refine zV_icmp_neN hX (tgt := 75) dX6_endRound_68 (by decide) ⟨by omega, by omega⟩ (fun c_68 => ?_) (fun c_68 => ?_)
            · have e8 : (oEnough t r ((oEndA o n t c k r (oEnd o n t c r k M)).1 (o + 1 + 3) k)) = false := by unfold oEnough; rw [decide_eq_false c_58, decide_eq_false c_68]; rfl
              refine zV_iconst hX (v := nI 0) dX6_endRound_75 (by decide) ?_
              refine zV_topi (zb false) rfl ?_
              refine zV_istore_n hX dX6_endRound_76 (by decide) ?_
              dsimp only [zst1, zst2, zclr, zc2]
              refine zV_aload_n hX dX6_endRound_77 rfl ?_
              refine zV_geta hX dX6_endRound_78 zf_X6_19 hO.1 rfl ?_
              refine zV_iload_n hX dX6_endRound_81 rfl ?_
              refine zV_iald hX (v := (oEnd o n t c r k M).1 (o + 1 + 4) k) dX6_endRound_82 (hO.a 4 rfl) (rfl) ⟨by omega, by omega⟩ ((by unfold oEndA; rw [zw_ne (by omega), zw_ne (by omega), hs9.at (by omega)])) ?_
              refine zV_if_ne hX (tgt := 97) dX6_endRound_83 (by decide) (fun c_83 => ?_) (fun c_83 => ?_)
              · have e9 : oEnd1 o n t c r k (oEnd o n t c r k M) = (oEndA o n t c k r (oEnd o n t c r k M)) := by rw [oEnd1, if_neg c_15, if_neg (by simp [c_83])]
                refine zV_iincN hX (b := 1) dX6_endRound_97 rfl (by decide) ?_
                dsimp only [zst1, zst2, zclr, zc2]
                refine zV_goto hX (tgt := 2) dX6_endRound_100 (by decide) ?_
                have h9 := fun v1 => ih (k + 1) v1 (by omega) (by omega)
                simp only [show oEnd o n t c r (k + 1) M = oEnd1 o n t c r k (oEnd o n t c r k M) from rfl, e9] at h9
                exact h9 _
              · refine zV_iload_n hX dX6_endRound_86 rfl ?_
                refine zV_if_eqB hX (tgt := 97) dX6_endRound_87 (by decide) (fun c_87 => ?_) (fun c_87 => ?_)
                · have e9 : oEnd1 o n t c r k (oEnd o n t c r k M) = (oEndA o n t c k r (oEnd o n t c r k M)) := by rw [oEnd1, if_neg c_15, if_neg (by first | (rw [e8]; simp; done) | exact absurd c_87 (by decide))]
                  refine zV_iincN hX (b := 1) dX6_endRound_97 rfl (by decide) ?_
                  dsimp only [zst1, zst2, zclr, zc2]
                  refine zV_goto hX (tgt := 2) dX6_endRound_100 (by decide) ?_
                  have h9 := fun v1 => ih (k + 1) v1 (by omega) (by omega)
                  simp only [show oEnd o n t c r (k + 1) M = oEnd1 o n t c r k (oEnd o n t c r k M) from rfl, e9] at h9
                  exact h9 _
                · have e9 : oEnd1 o n t c r k (oEnd o n t c r k M) = zw (oEndA o n t c k r (oEnd o n t c r k M)) (o + 1 + 4) k (nI r) := by rw [oEnd1, if_neg c_15, if_pos (by first | (rw [e8]; simp [c_83]; done) | exact absurd c_87 (by decide))]
                  refine zV_aload_n hX dX6_endRound_90 rfl ?_
                  refine zV_geta hX dX6_endRound_91 zf_X6_19 hO.1 rfl ?_
                  refine zV_iload_n hX dX6_endRound_94 rfl ?_
                  refine zV_iload_n hX dX6_endRound_95 rfl ?_
                  refine zV_iast hX dX6_endRound_96 (hO.a 4 rfl) (rfl) ⟨by omega, by omega⟩ ?_
                  refine zV_iincN hX (b := 1) dX6_endRound_97 rfl (by decide) ?_
                  dsimp only [zst1, zst2, zclr, zc2]
                  refine zV_goto hX (tgt := 2) dX6_endRound_100 (by decide) ?_
                  have h9 := fun v1 => ih (k + 1) v1 (by omega) (by omega)
                  simp only [show oEnd o n t c r (k + 1) M = oEnd1 o n t c r k (oEnd o n t c r k M) from rfl, e9] at h9
                  exact h9 _
            · have e8 : (oEnough t r ((oEndA o n t c k r (oEnd o n t c r k M)).1 (o + 1 + 3) k)) = true := by unfold oEnough; rw [decide_eq_true c_68]; exact Bool.or_true _
              refine zV_iconst hX (v := nI 1) dX6_endRound_71 (by decide) ?_
              refine zV_topi (zb true) rfl ?_
              refine zV_goto hX (tgt := 76) dX6_endRound_72 (by decide) ?_
              refine zV_istore_n hX dX6_endRound_76 (by decide) ?_
              dsimp only [zst1, zst2, zclr, zc2]
              refine zV_aload_n hX dX6_endRound_77 rfl ?_
              refine zV_geta hX dX6_endRound_78 zf_X6_19 hO.1 rfl ?_
              refine zV_iload_n hX dX6_endRound_81 rfl ?_
              refine zV_iald hX (v := (oEnd o n t c r k M).1 (o + 1 + 4) k) dX6_endRound_82 (hO.a 4 rfl) (rfl) ⟨by omega, by omega⟩ ((by unfold oEndA; rw [zw_ne (by omega), zw_ne (by omega), hs9.at (by omega)])) ?_
              refine zV_if_ne hX (tgt := 97) dX6_endRound_83 (by decide) (fun c_83 => ?_) (fun c_83 => ?_)
              · have e9 : oEnd1 o n t c r k (oEnd o n t c r k M) = (oEndA o n t c k r (oEnd o n t c r k M)) := by rw [oEnd1, if_neg c_15, if_neg (by simp [c_83])]
                refine zV_iincN hX (b := 1) dX6_endRound_97 rfl (by decide) ?_
                dsimp only [zst1, zst2, zclr, zc2]
                refine zV_goto hX (tgt := 2) dX6_endRound_100 (by decide) ?_
                have h9 := fun v1 => ih (k + 1) v1 (by omega) (by omega)
                simp only [show oEnd o n t c r (k + 1) M = oEnd1 o n t c r k (oEnd o n t c r k M) from rfl, e9] at h9
                exact h9 _
              · refine zV_iload_n hX dX6_endRound_86 rfl ?_
                refine zV_if_eqB hX (tgt := 97) dX6_endRound_87 (by decide) (fun c_87 => ?_) (fun c_87 => ?_)
                · have e9 : oEnd1 o n t c r k (oEnd o n t c r k M) = (oEndA o n t c k r (oEnd o n t c r k M)) := by rw [oEnd1, if_neg c_15, if_neg (by first | (rw [e8]; simp; done) | exact absurd c_87 (by decide))]
                  refine zV_iincN hX (b := 1) dX6_endRound_97 rfl (by decide) ?_
                  dsimp only [zst1, zst2, zclr, zc2]
                  refine zV_goto hX (tgt := 2) dX6_endRound_100 (by decide) ?_
                  have h9 := fun v1 => ih (k + 1) v1 (by omega) (by omega)
                  simp only [show oEnd o n t c r (k + 1) M = oEnd1 o n t c r k (oEnd o n t c r k M) from rfl, e9] at h9
                  exact h9 _
                · have e9 : oEnd1 o n t c r k (oEnd o n t c r k M) = zw (oEndA o n t c k r (oEnd o n t c r k M)) (o + 1 + 4) k (nI r) := by rw [oEnd1, if_neg c_15, if_pos (by first | (rw [e8]; simp [c_83]; done) | exact absurd c_87 (by decide))]
                  refine zV_aload_n hX dX6_endRound_90 rfl ?_
                  refine zV_geta hX dX6_endRound_91 zf_X6_19 hO.1 rfl ?_
                  refine zV_iload_n hX dX6_endRound_94 rfl ?_
                  refine zV_iload_n hX dX6_endRound_95 rfl ?_
                  refine zV_iast hX dX6_endRound_96 (hO.a 4 rfl) (rfl) ⟨by omega, by omega⟩ ?_
                  refine zV_iincN hX (b := 1) dX6_endRound_97 rfl (by decide) ?_
                  dsimp only [zst1, zst2, zclr, zc2]
                  refine zV_goto hX (tgt := 2) dX6_endRound_100 (by decide) ?_
                  have h9 := fun v1 => ih (k + 1) v1 (by omega) (by omega)
                  simp only [show oEnd o n t c r (k + 1) M = oEnd1 o n t c r k (oEnd o n t c r k M) from rfl, e9] at h9
                  exact h9 _
  refine zV_iconst hX (v := nI 0) dX6_endRound_0 (by decide) ?_
  refine zV_istore_n hX dX6_endRound_1 (by decide) ?_
  dsimp only [zst1, zst2, zclr, zc2]
  exact L2 (n + 1) 0 _ (by omega) (by omega)
def zlen (p : Nat) : Nat := if p = 0 then 1 else if p < 8 then 2 else 3
def zset (c p : Nat) : Int32 := if p = 0 then nI 1 <<< (nI c &&& 31) else (nI 1 <<< (nI c &&& 31)) ||| ((nI 1 <<< (nI (zsec p) &&& 31)) ||| (nI 1 <<< (nI (zlast c p) &&& 31)))
def zlay (c n p : Nat) : Int32 := if zpop (zset c p) = nI (zlen p) ∧ zset c p >>> (nI n &&& 31) = 0 then zset c p else nI 0
def oLay (o c n k : Nat) (M : zM) : zM := zfor (fun p M => zw M (o + 1 + 18) p (zlay c n p)) k M
theorem oLay_fr (o c n k : Nat) (M : zM) : zFr (fun a => a = o + 1 + 18) M (oLay o c n k M) := zFr.for (C := fun a => a = o + 1 + 18) (f := fun p M => zw M (o + 1 + 18) p (zlay c n p)) (fun i M => zFr.w (C := fun a => a = o + 1 + 18) zFr.rf rfl) k M
theorem zlen_lt (p : Nat) : zlen p < 4 := by unfold zlen; split; omega; split <;> omega
set_option maxHeartbeats 1000000 in
theorem zc_layPaths (l : Launch) (G : zG) (M : zM) (o c n : Nat) (hO : zOb 5 o) (hn : M.1 o 7 = nI n) (hn7 : n ≤ 7) (hcm : M.1 o 0 = nI c) : zC l G 1 yX6_layPaths cX6_layPaths 4 (Option.none : Option Jvm.ClassFile.FieldType) [.ref o] M (zP none (oLay o c n 57 M)) := by
  refine zC_of (by decide) (Nat.le_of_ble_eq_true rfl) (fun X Q hQ hX hl hR hr => ?_)
  refine zV_loc (L' := [.ref o, .null, .null, .null]) rfl ?_
  have L2 : ∀ (f9 p : Nat) (v1 v2 : Value), 57 - p < f9 → p ≤ 57 → zV G X Q 4 0 0 2 [.ref o, .int (nI p), v1, v2] [] (oLay o c n p M) := by
    intro f9
    induction f9 with
    | zero => intro p v1 v2 hk1 hk2; exact absurd hk1 (Nat.not_lt_zero _)
    | succ f9 ih =>
      intro p v1 v2 hk1 hk2
      have hfr := oLay_fr o c n p M
      by_cases hq9 : p < 57
      rotate_left
      · refine zV_iload_n hX dX6_layPaths_2 rfl ?_
        refine zV_bipush hX (v := nI 57) dX6_layPaths_3 (by decide) ?_
        refine zV_icmp_geN hX (tgt := 90) dX6_layPaths_5 (by decide) ⟨by omega, by omega⟩ (fun c_5 => ?_) (fun c_5 => absurd c_5 hq9)
        exact zV_retv hX hQ hr (⟨rfl, by rw [show p = 57 by omega]⟩) dX6_layPaths_90
      have J27 : ∀ (v1 v2 : Value) (y : Nat), y = zlen p → zV G X Q 4 0 0 27 [.ref o, .int (nI p), v1, v2] [.int (nI y)] (oLay o c n p M) := by
        intro v1 v2 y hy
        subst hy
        have J56 : ∀ (x : Int32), x = zset c p → zV G X Q 4 0 0 56 [.ref o, .int (nI p), .int (nI (zlen p)), .int x] [] (oLay o c n p M) := by
          intro x hx
          subst hx
          have J83 : ∀ (x v1 v2 : Value) (y : Int32), y = zlay c n p → zV G X Q 4 0 0 83 [.ref o, .int (nI p), v1, v2] [.int y, .int (nI p), .ref (o + 1 + 18)] (oLay o c n p M) := by
            intro x v1 v2 y hy
            subst hy
            refine zV_iast hX dX6_layPaths_83 (hO.a 18 rfl) (rfl) ⟨by omega, by omega⟩ ?_
            refine zV_iincN hX (b := 1) dX6_layPaths_84 rfl (by decide) ?_
            dsimp only [zst1, zst2, zclr, zc2]
            refine zV_goto hX (tgt := 2) dX6_layPaths_87 (by decide) ?_
            exact ih (p + 1) _ _ (by omega) (by omega)
          refine zV_aload_n hX dX6_layPaths_56 rfl ?_
          refine zV_geta hX dX6_layPaths_57 zf_X6_47 hO.1 rfl ?_
          refine zV_iload_n hX dX6_layPaths_60 rfl ?_
          refine zV_iload_n hX dX6_layPaths_61 rfl ?_
          refine zV_cS1p hX hR hl dX6_layPaths_62 (zc_bitCount l G _ _) zt_J6_bitCount_0f7a4 rfl zml_X6_173 (by decide) (Nat.le_of_ble_eq_true rfl) ?_
          dsimp only [Option.toList, List.cons_append, List.nil_append]
          refine zV_iload_n hX dX6_layPaths_65 rfl ?_
          refine zV_icmp_ne hX (tgt := 82) dX6_layPaths_66 (by decide) (fun c_66 => ?_) (fun c_66 => ?_)
          · refine zV_iconst hX (v := nI 0) dX6_layPaths_82 (by decide) ?_
            exact J83 .null _ _ _ (by first | (unfold zlay; rw [if_pos ⟨by assumption, by assumption⟩]) | (unfold zlay; rw [if_neg (by rintro ⟨h1, h2⟩; contradiction)]))
          · refine zV_iload_n hX dX6_layPaths_69 rfl ?_
            refine zV_aload_n hX dX6_layPaths_70 rfl ?_
            refine zV_geti hX dX6_layPaths_71 zf_X6_67 hO.1 rfl (by rw [hfr.at (by omega), hn]) ?_
            refine zV_ishr hX dX6_layPaths_74 ?_
            refine zV_if_ne hX (tgt := 82) dX6_layPaths_75 (by decide) (fun c_75 => ?_) (fun c_75 => ?_)
            · refine zV_iconst hX (v := nI 0) dX6_layPaths_82 (by decide) ?_
              exact J83 .null _ _ _ (by first | (unfold zlay; rw [if_pos ⟨by assumption, by assumption⟩]) | (unfold zlay; rw [if_neg (by rintro ⟨h1, h2⟩; contradiction)]))
            · refine zV_iload_n hX dX6_layPaths_78 rfl ?_
              refine zV_goto hX (tgt := 83) dX6_layPaths_79 (by decide) ?_
              exact J83 .null _ _ _ (by first | (unfold zlay; rw [if_pos ⟨by assumption, by assumption⟩]) | (unfold zlay; rw [if_neg (by rintro ⟨h1, h2⟩; contradiction)]))
        refine zV_istore_n hX dX6_layPaths_27 (by decide) ?_
        dsimp only [zst1, zst2, zclr, zc2]
        refine zV_iconst hX (v := nI 1) dX6_layPaths_28 (by decide) ?_
        refine zV_aload_n hX dX6_layPaths_29 rfl ?_
        refine zV_geti hX dX6_layPaths_30 zf_X6_9 hO.1 rfl (by rw [hfr.at (by omega), hcm]) ?_
        refine zV_ishl hX dX6_layPaths_33 ?_
        refine zV_istore_n hX dX6_layPaths_34 (by decide) ?_
        dsimp only [zst1, zst2, zclr, zc2]
        refine zV_iload_n hX dX6_layPaths_35 rfl ?_
        refine zV_if_leN hX (tgt := 56) dX6_layPaths_36 (by decide) (by omega) (fun c_36 => ?_) (fun c_36 => ?_)
        · exact J56 _ (by first | (unfold zset; rw [if_pos (by omega)]) | (unfold zset; rw [if_neg (by omega)]))
        · refine zV_iload_n hX dX6_layPaths_39 rfl ?_
          refine zV_iconst hX (v := nI 1) dX6_layPaths_40 (by decide) ?_
          refine zV_iload_n hX dX6_layPaths_41 rfl ?_
          refine zV_cS1p hX hR hl dX6_layPaths_42 (zc_secondOf l G _ p (by omega) (by omega)) zt_X6_secondOf rfl zml_X6_148 (by decide) (Nat.le_of_ble_eq_true rfl) ?_
          dsimp only [Option.toList, List.cons_append, List.nil_append]
          refine zV_ishl hX dX6_layPaths_45 ?_
          refine zV_iconst hX (v := nI 1) dX6_layPaths_46 (by decide) ?_
          refine zV_aload_n hX dX6_layPaths_47 rfl ?_
          refine zV_iload_n hX dX6_layPaths_48 rfl ?_
          refine zV_cV1p hX hR hl dX6_layPaths_49 (zc_lastOf l G _ o p c hO (by rw [hfr.at (by omega), hcm]) (by omega)) zt_X6_lastOf rfl zml_X6_135 hO.1 ⟨by decide, by decide⟩ (Nat.le_of_ble_eq_true rfl) ?_
          dsimp only [Option.toList, List.cons_append, List.nil_append]
          refine zV_ishl hX dX6_layPaths_52 ?_
          refine zV_ior hX dX6_layPaths_53 ?_
          refine zV_ior hX dX6_layPaths_54 ?_
          refine zV_istore_n hX dX6_layPaths_55 (by decide) ?_
          dsimp only [zst1, zst2, zclr, zc2]
          exact J56 _ (by first | (unfold zset; rw [if_pos (by omega)]) | (unfold zset; rw [if_neg (by omega)]))
      refine zV_iload_n hX dX6_layPaths_2 rfl ?_
      refine zV_bipush hX (v := nI 57) dX6_layPaths_3 (by decide) ?_
      refine zV_icmp_geN hX (tgt := 90) dX6_layPaths_5 (by decide) ⟨by omega, by omega⟩ (fun c_5 => ?_) (fun c_5 => ?_)
      · exact zV_retv hX hQ hr (⟨rfl, by rw [show p = 57 by omega]⟩) dX6_layPaths_90
      · refine zV_iload_n hX dX6_layPaths_8 rfl ?_
        refine zV_if_neN hX (tgt := 16) dX6_layPaths_9 (by decide) (by omega) (fun c_9 => ?_) (fun c_9 => ?_)
        · refine zV_iload_n hX dX6_layPaths_16 rfl ?_
          refine zV_bipush hX (v := nI 8) dX6_layPaths_17 (by decide) ?_
          refine zV_icmp_geN hX (tgt := 26) dX6_layPaths_19 (by decide) ⟨by omega, by omega⟩ (fun c_19 => ?_) (fun c_19 => ?_)
          · refine zV_iconst hX (v := nI 3) dX6_layPaths_26 (by decide) ?_
            exact J27 _ _ _ (by unfold zlen; first | rw [if_pos (by omega)] | (rw [if_neg (by omega)]; first | rw [if_pos (by omega)] | rw [if_neg (by omega)]))
          · refine zV_iconst hX (v := nI 2) dX6_layPaths_22 (by decide) ?_
            refine zV_goto hX (tgt := 27) dX6_layPaths_23 (by decide) ?_
            exact J27 _ _ _ (by unfold zlen; first | rw [if_pos (by omega)] | (rw [if_neg (by omega)]; first | rw [if_pos (by omega)] | rw [if_neg (by omega)]))
        · refine zV_iconst hX (v := nI 1) dX6_layPaths_12 (by decide) ?_
          refine zV_goto hX (tgt := 27) dX6_layPaths_13 (by decide) ?_
          exact J27 _ _ _ (by unfold zlen; first | rw [if_pos (by omega)] | (rw [if_neg (by omega)]; first | rw [if_pos (by omega)] | rw [if_neg (by omega)]))
  refine zV_iconst hX (v := nI 0) dX6_layPaths_0 (by decide) ?_
  refine zV_istore_n hX dX6_layPaths_1 (by decide) ?_
  dsimp only [zst1, zst2, zclr, zc2]
  exact L2 58 0 _ _ (by omega) (by omega)
theorem oKeep_fr (o m p : Nat) (v : Int32) (g : Bool) (M : zM) : zFr (fun a => a = o ∨ a = o + 1 + 6 ∨ a = o + 1 + 12 ∨ a = o + 1 + 13 ∨ a = o + 1 + 5 ∨ a = o + 1 + 15) M (oKeep o m p v g M) := zFr.w (zFr.w zFr.rf (Or.inr (Or.inr (Or.inl rfl)))) (Or.inr (Or.inr (Or.inr (Or.inl rfl))))
theorem oHear_fr (o m f p : Nat) (w : Option (Option Int32)) (M : zM) : zFr (fun a => a = o ∨ a = o + 1 + 6 ∨ a = o + 1 + 12 ∨ a = o + 1 + 13 ∨ a = o + 1 + 5 ∨ a = o + 1 + 15) M (oHear o m f p w M) := by
  have h1 : zFr (fun a => a = o ∨ a = o + 1 + 6 ∨ a = o + 1 + 12 ∨ a = o + 1 + 13 ∨ a = o + 1 + 5 ∨ a = o + 1 + 15) M (oCnt o f M) := zFr.w (zFr.w zFr.rf (Or.inl rfl)) (Or.inr (Or.inl rfl))
  have h2 : ∀ (k : Nat) (M1 : zM), zFr (fun a => a = o ∨ a = o + 1 + 6 ∨ a = o + 1 + 12 ∨ a = o + 1 + 13 ∨ a = o + 1 + 5 ∨ a = o + 1 + 15) M1 (oLost o m f k M M1) := fun k M1 => zFr.w (zFr.w (zFr.w zFr.rf (Or.inr (Or.inr (Or.inr (Or.inr (Or.inl rfl)))))) (Or.inr (Or.inr (Or.inr (Or.inr (Or.inr rfl)))))) (Or.inl rfl)
  unfold oHear
  split
  · split
    · exact oKeep_fr o m p _ _ M
    · exact h1.tr (oKeep_fr o m p _ _ _)
  · split
    · exact (h2 0 M).tr (oKeep_fr o m p _ _ _)
    · exact (h1.tr (h2 1 _)).tr (oKeep_fr o m p _ _ _)
    · exact h1.tr (oKeep_fr o m p _ _ _)
theorem oHear_o (o m f p : Nat) (w : Option (Option Int32)) (M : zM) (j : Nat) (hj : j ≠ 1 ∧ j ≠ 2) : (oHear o m f p w M).1 o j = M.1 o j := by
  have hk : ∀ (v : Int32) (g : Bool) (M1 : zM), (oKeep o m p v g M1).1 o j = M1.1 o j := fun v g M1 => by unfold oKeep; rw [zw_ne (by omega), zw_ne (by omega)]
  have h1 : (oCnt o f M).1 o j = M.1 o j := by unfold oCnt; rw [zw_ne (by omega), zw_ne (by omega)]
  have h2 : ∀ (k : Nat) (M1 : zM), (oLost o m f k M M1).1 o j = M1.1 o j := fun k M1 => by unfold oLost; rw [zw_ne (by omega), zw_ne (by omega), zw_ne (by omega)]
  unfold oHear
  split
  · split
    · exact hk _ _ _
    · exact (hk _ _ _).trans h1
  · split
    · exact (hk _ _ _).trans (h2 _ _)
    · exact (hk _ _ _).trans ((h2 _ _).trans h1)
    · exact (hk _ _ _).trans h1
/-- what stays while members tell: the fields but the counters, and what no telling touches -/
def oSt (o : Nat) (M M' : zM) : Prop := zFr (fun a => a = o ∨ a = o + 1 + 6 ∨ a = o + 1 + 12 ∨ a = o + 1 + 13 ∨ a = o + 1 + 5 ∨ a = o + 1 + 15) M M' ∧ ∀ j : Nat, j ≠ 1 → j ≠ 2 → M'.1 o j = M.1 o j
theorem oSt.rf {o : Nat} {M : zM} : oSt o M M := ⟨zFr.rf, fun _ _ _ => rfl⟩
theorem oSt.tr {o : Nat} {M M1 M2 : zM} (h : oSt o M M1) (h2 : oSt o M1 M2) : oSt o M M2 := ⟨h.1.tr h2.1, fun j a b => (h2.2 j a b).trans (h.2 j a b)⟩
theorem oSt.hear (o m f p : Nat) (w : Option (Option Int32)) (M : zM) : oSt o M (oHear o m f p w M) := ⟨oHear_fr o m f p w M, fun j a b => oHear_o o m f p w M j ⟨a, b⟩⟩
theorem oSt.keep (o m p : Nat) (v : Int32) (g : Bool) (M : zM) : oSt o M (oKeep o m p v g M) := ⟨oKeep_fr o m p v g M, fun j a b => by unfold oKeep; rw [zw_ne (by omega), zw_ne (by omega)]⟩
theorem oSt.for {o : Nat} {f : Nat → zM → zM} (hf : ∀ i M, oSt o M (f i M)) : ∀ (n : Nat) (M : zM), oSt o M (zfor f n M)
  | 0, M => oSt.rf
  | n + 1, M => (oSt.for hf n M).tr (hf n _)
/-- the lies at c, apart from ORAL at o -/
def lyOk (c o : Nat) : Prop := zOb 3 c ∧ ∀ k, k ≤ 8 → c + k < o ∨ o + 20 < c + k
theorem lyOk.st {c o : Nat} (h : lyOk c o) {M M' : zM} (hs : oSt o M M') (k j : Nat) (hk : k ≤ 8) : M'.1 (c + k) j = M.1 (c + k) j := hs.1.at (by have := h.2 k hk; omega)
/-- how many lies each member has -/
def lyN (c : Nat) (M : zM) (cn : Nat → Nat) : Prop := ∀ m, m < 7 → M.1 (c + 1 + 1) m = nI (cn m) ∧ cn m ≤ 12
def oSay (c : Nat) (cn : Nat → Nat) (M : zM) (w r x o : Nat) (tr : Int32) : Option (Option Int32) := lSaidF M c w r x (nI o) tr (cn w) 0
theorem lSaidF_fr {M M' : zM} {c : Nat} (h : ∀ k j, k ≤ 8 → M'.1 (c + k) j = M.1 (c + k) j) (w r x : Nat) (o tr : Int32) : ∀ j i, lSaidF M' c w r x o tr j i = lSaidF M c w r x o tr j i
  | 0, _ => rfl
  | j + 1, i => by
    have h1 : ∀ a, lHit M' c a r x o = lHit M c a r x o := fun a => by
      have e3 := h 3 a (by omega); have e4 := h 4 a (by omega); have e5 := h 5 a (by omega)
      show (lfit (M'.1 (c + 3) a) _ && lfit (M'.1 (c + 4) a) _ && lfit (M'.1 (c + 5) a) _) = _
      rw [e3, e4, e5]; rfl
    have h2 : ∀ a, lAct M' c a x tr = lAct M c a x tr := fun a => by
      have e6 := h 6 a (by omega); have e7 := h 7 a (by omega); have e8 := h 8 a (by omega)
      have g6 : M'.1 (c + 1 + 5) a = M.1 (c + 1 + 5) a := e6
      have g7 : M'.1 (c + 1 + 6) a = M.1 (c + 1 + 6) a := e7
      have g8 : M'.1 (c + 1 + 7) a = M.1 (c + 1 + 7) a := e8
      unfold lAct
      rw [g6, g7, g8]
    unfold lSaidF
    rw [h1, h2, lSaidF_fr h w r x o tr j (i + 1)]
theorem oSay_st {c o : Nat} (h : lyOk c o) {M M' : zM} (hs : oSt o M M') (cn : Nat → Nat) (w r x p : Nat) (tr : Int32) : oSay c cn M' w r x p tr = oSay c cn M w r x p tr := lSaidF_fr (fun k j hk => h.st hs k j hk) w r x (nI p) tr _ _
def oTell1 (o c2 c r w p : Nat) (cn : Nat → Nat) (M0 : zM) (x : Nat) (M : zM) : zM :=
  if x = w then M else if oOn o M0 p x then M else oHear o x w (zlong p w) (oSay c2 cn M0 w r x (zlast c p) (M0.1 (o + 1 + 12) (w * 57 + p))) M
theorem oTell1_st (o c2 c r w p : Nat) (cn : Nat → Nat) (M0 : zM) (x : Nat) (M : zM) : oSt o M (oTell1 o c2 c r w p cn M0 x M) := by
  unfold oTell1
  split
  · exact oSt.rf
  · split
    · exact oSt.rf
    · exact oSt.hear o x w _ _ M
def oTellK (o c2 c r w p : Nat) (cn : Nat → Nat) (k : Nat) (M : zM) : zM := zfor (oTell1 o c2 c r w p cn M) k (oKeep o w (zlong p w) (M.1 (o + 1 + 12) (w * 57 + p)) false M)
theorem oTellK_st (o c2 c r w p : Nat) (cn : Nat → Nat) (k : Nat) (M : zM) : oSt o M (oTellK o c2 c r w p cn k M) := (oSt.keep o w _ _ _ M).tr (oSt.for (oTell1_st o c2 c r w p cn M) k _)
set_option maxHeartbeats 1000000 in
theorem zc_tell (l : Launch) (G : zG) (M : zM) (o c2 n c r w p : Nat) (cn : Nat → Nat) (hO : zOb 5 o) (hn : M.1 o 7 = nI n) (hn7 : n ≤ 7) (hcm : M.1 o 0 = nI c) (hL : lyOk c2 o) (hcn : lyN c2 M cn) (hw : w < 7) (hp : p < 8) (hc7 : c < 7) : zC l G 2 yX6_tell cX6_tell 8 (Option.none : Option Jvm.ClassFile.FieldType) [.ref o, .ref c2, .int (nI r), .int (nI w), .int (nI p)] M (zP none (oTellK o c2 c r w p cn n M)) := by
  refine zC_of (by decide) (Nat.le_of_ble_eq_true rfl) (fun X Q hQ hX hl hR hr => ?_)
  refine zV_loc (L' := [.ref o, .ref c2, .int (nI r), .int (nI w), .int (nI p), .null, .null, .null]) rfl ?_
  have L30 : ∀ (f9 k : Nat), n - k < f9 → k ≤ n → zV G X Q 8 0 0 30 [.ref o, .ref c2, .int (nI r), .int (nI w), .int (nI p), .int (M.1 (o + 1 + 12) (w * 57 + p)), .int (nI (zlong p w)), .int (nI k)] [] (oTellK o c2 c r w p cn k M) := by
    intro f9
    induction f9 with
    | zero => intro k hk1 hk2; exact absurd hk1 (Nat.not_lt_zero _)
    | succ f9 ih =>
      intro k hk1 hk2
      have hst := oTellK_st o c2 c r w p cn k M
      refine zV_iload hX dX6_tell_30 rfl ?_
      refine zV_aload_n hX dX6_tell_32 rfl ?_
      refine zV_geti hX dX6_tell_33 zf_X6_67 hO.1 rfl (by rw [hst.2 7 (by omega) (by omega), hn]) ?_
      refine zV_icmp_geN hX (tgt := 87) dX6_tell_36 (by decide) ⟨by omega, by omega⟩ (fun c_36 => ?_) (fun c_36 => ?_)
      · exact zV_retv hX hQ hr (⟨rfl, by rw [show k = n by omega]⟩) dX6_tell_87
      · refine zV_iload hX dX6_tell_39 rfl ?_
        refine zV_iload_n hX dX6_tell_41 rfl ?_
        refine zV_icmp_eqN hX (tgt := 81) dX6_tell_42 (by decide) ⟨by omega, by omega⟩ (fun c_42 => ?_) (fun c_42 => ?_)
        · have e9 : oTell1 o c2 c r w p cn M k (oTellK o c2 c r w p cn k M) = (oTellK o c2 c r w p cn k M) := if_pos c_42
          refine zV_iincN hX (b := 1) dX6_tell_81 rfl (by decide) ?_
          dsimp only [zst1, zst2, zclr, zc2]
          refine zV_goto hX (tgt := 30) dX6_tell_84 (by decide) ?_
          have h9 := ih (k + 1) (by omega) (by omega)
          rw [show oTellK o c2 c r w p cn (k + 1) M = oTell1 o c2 c r w p cn M k (oTellK o c2 c r w p cn k M) from rfl, e9] at h9
          exact h9
        · refine zV_aload_n hX dX6_tell_45 rfl ?_
          refine zV_iload hX dX6_tell_46 rfl ?_
          refine zV_iload hX dX6_tell_48 rfl ?_
          refine zV_cV2p hX hR hl dX6_tell_50 (zc_isOn l G _ o p k hO (by omega)) zt_X6_isOn rfl zml_X6_132 hO.1 ⟨by decide, by decide⟩ (Nat.le_of_ble_eq_true rfl) ?_
          dsimp only [Option.toList, List.cons_append, List.nil_append]
          refine zV_topi (zb (oOn o M p k)) (by rw [oOn_fr hst.1 (by omega)]) ?_
          refine zV_if_neB hX (tgt := 81) dX6_tell_53 (by decide) (fun c_53 => ?_) (fun c_53 => ?_)
          · have e9 : oTell1 o c2 c r w p cn M k (oTellK o c2 c r w p cn k M) = (oTellK o c2 c r w p cn k M) := by unfold oTell1; rw [if_neg c_42, if_pos c_53]
            refine zV_iincN hX (b := 1) dX6_tell_81 rfl (by decide) ?_
            dsimp only [zst1, zst2, zclr, zc2]
            refine zV_goto hX (tgt := 30) dX6_tell_84 (by decide) ?_
            have h9 := ih (k + 1) (by omega) (by omega)
            rw [show oTellK o c2 c r w p cn (k + 1) M = oTell1 o c2 c r w p cn M k (oTellK o c2 c r w p cn k M) from rfl, e9] at h9
            exact h9
          · have e9 : oTell1 o c2 c r w p cn M k (oTellK o c2 c r w p cn k M) = oHear o k w (zlong p w) (oSay c2 cn M w r k (zlast c p) (M.1 (o + 1 + 12) (w * 57 + p))) (oTellK o c2 c r w p cn k M) := by unfold oTell1; rw [if_neg c_42, if_neg (by simp [c_53])]
            refine zV_aload_n hX dX6_tell_56 rfl ?_
            refine zV_iload hX dX6_tell_57 rfl ?_
            refine zV_iload_n hX dX6_tell_59 rfl ?_
            refine zV_iload hX dX6_tell_60 rfl ?_
            refine zV_aload_n hX dX6_tell_62 rfl ?_
            refine zV_iload_n hX dX6_tell_63 rfl ?_
            refine zV_iload_n hX dX6_tell_64 rfl ?_
            refine zV_iload hX dX6_tell_65 rfl ?_
            refine zV_aload_n hX dX6_tell_67 rfl ?_
            refine zV_iload hX dX6_tell_68 rfl ?_
            refine zV_cV1p hX hR hl dX6_tell_70 (zc_lastOf l G _ o p c hO (by rw [hst.2 0 (by omega) (by omega), hcm]) (by omega)) zt_X6_lastOf rfl zml_X6_135 hO.1 ⟨by decide, by decide⟩ (Nat.le_of_ble_eq_true rfl) ?_
            dsimp only [Option.toList, List.cons_append, List.nil_append]
            refine zV_iload hX dX6_tell_73 rfl ?_
            refine zV_cV5p hX hR hl dX6_tell_75 (zc_said l G _ c2 w r k (cn w) (nI (zlast c p)) _ hL.1 hw (by rw [show c2 + 1 + 1 = c2 + 2 from rfl, hL.st hst 2 w (by omega)]; exact (hcn w hw).1) (hcn w hw).2 (by omega)) zt_X4_said rfl zml_X6_95 hL.1.1 ⟨by decide, by decide⟩ (Nat.le_of_ble_eq_true rfl) ?_
            dsimp only [Option.toList, List.cons_append, List.nil_append]
            refine zV_topl (zlo (oSay c2 cn M w r k (zlast c p) (M.1 (o + 1 + 12) (w * 57 + p)))) (by rw [← oSay_st hL hst]; rfl) ?_
            refine zV_cV4p hX hR hl dX6_tell_78 (zc_hear l G _ o k w (zlong p w) _ hO (by omega) hw (zlong_lt hp hw)) zt_X6_hear rfl zml_X6_98 hO.1 ⟨by decide, by decide⟩ (Nat.le_of_ble_eq_true rfl) ?_
            dsimp only [Option.toList, List.cons_append, List.nil_append]
            refine zV_iincN hX (b := 1) dX6_tell_81 rfl (by decide) ?_
            dsimp only [zst1, zst2, zclr, zc2]
            refine zV_goto hX (tgt := 30) dX6_tell_84 (by decide) ?_
            have h9 := ih (k + 1) (by omega) (by omega)
            rw [show oTellK o c2 c r w p cn (k + 1) M = oTell1 o c2 c r w p cn M k (oTellK o c2 c r w p cn k M) from rfl, e9] at h9
            exact h9
  refine zV_aload_n hX dX6_tell_0 rfl ?_
  refine zV_iload_n hX dX6_tell_1 rfl ?_
  refine zV_iload hX dX6_tell_2 rfl ?_
  refine zV_cV2p hX hR hl dX6_tell_4 (zc_heardBy l G M o w p hO hw (by omega)) zt_X6_heardBy rfl zml_X6_163 hO.1 ⟨by decide, by decide⟩ (Nat.le_of_ble_eq_true rfl) ?_
  dsimp only [Option.toList, List.cons_append, List.nil_append]
  refine zV_istore hX dX6_tell_7 (by decide) ?_
  dsimp only [zst1, zst2, zclr, zc2]
  refine zV_iload hX dX6_tell_9 rfl ?_
  refine zV_iload_n hX dX6_tell_11 rfl ?_
  refine zV_cS2p hX hR hl dX6_tell_12 (zc_longerBy l G _ p w (by omega)) zt_X6_longerBy rfl zml_X6_166 (by decide) (Nat.le_of_ble_eq_true rfl) ?_
  dsimp only [Option.toList, List.cons_append, List.nil_append]
  refine zV_istore hX dX6_tell_15 (by decide) ?_
  dsimp only [zst1, zst2, zclr, zc2]
  refine zV_aload_n hX dX6_tell_17 rfl ?_
  refine zV_iload_n hX dX6_tell_18 rfl ?_
  refine zV_iload hX dX6_tell_19 rfl ?_
  refine zV_iload hX dX6_tell_21 rfl ?_
  refine zV_iconst hX (v := nI 0) dX6_tell_23 (by decide) ?_
  refine zV_topi (zb false) rfl ?_
  refine zV_cV4p hX hR hl dX6_tell_24 (zc_keep l G _ o w (zlong p w) _ false hO hw (zlong_lt hp hw)) zt_X6_keep rfl zml_X6_155 hO.1 ⟨by decide, by decide⟩ (Nat.le_of_ble_eq_true rfl) ?_
  dsimp only [Option.toList, List.cons_append, List.nil_append]
  refine zV_iconst hX (v := nI 0) dX6_tell_27 (by decide) ?_
  refine zV_istore hX dX6_tell_28 (by decide) ?_
  dsimp only [zst1, zst2, zclr, zc2]
  exact L30 (n + 1) 0 (by omega) (by omega)
def oTR1 (o c2 c r w n : Nat) (cn : Nat → Nat) (p : Nat) (M : zM) : zM := if oPath o M p && !oOn o M p w then oTellK o c2 c r w p cn n M else M
theorem oTR1_st (o c2 c r w n : Nat) (cn : Nat → Nat) (p : Nat) (M : zM) : oSt o M (oTR1 o c2 c r w n cn p M) := by
  unfold oTR1
  split
  · exact oTellK_st o c2 c r w p cn n M
  · exact oSt.rf
def oTRw (o c2 c r n : Nat) (cn : Nat → Nat) (w k : Nat) (M : zM) : zM := zfor (fun i M => oTR1 o c2 c r w n cn (zfr (r - 1) + i) M) k M
theorem oTRw_st (o c2 c r n : Nat) (cn : Nat → Nat) (w k : Nat) (M : zM) : oSt o M (oTRw o c2 c r n cn w k M) := oSt.for (fun i M => oTR1_st o c2 c r w n cn _ M) k M
def oTR (o c2 c r n : Nat) (cn : Nat → Nat) (k : Nat) (M : zM) : zM := zfor (fun w M => oTRw o c2 c r n cn w (zfr r - zfr (r - 1)) M) k M
theorem oTR_st (o c2 c r n : Nat) (cn : Nat → Nat) (k : Nat) (M : zM) : oSt o M (oTR o c2 c r n cn k M) := oSt.for (fun i M => oTRw_st o c2 c r n cn i _ M) k M
set_option maxHeartbeats 1000000 in
theorem zc_tellRound (l : Launch) (G : zG) (M : zM) (o c2 n c r : Nat) (cn : Nat → Nat) (hO : zOb 5 o) (hn : M.1 o 7 = nI n) (hn7 : n ≤ 7) (hcm : M.1 o 0 = nI c) (hL : lyOk c2 o) (hcn : lyN c2 M cn) (hc7 : c < 7) (hr2 : 2 ≤ r) (hr3 : r ≤ 3) : zC l G 3 yX6_tellRound cX6_tellRound 5 (Option.none : Option Jvm.ClassFile.FieldType) [.ref o, .ref c2, .int (nI r)] M (zP none (oTR o c2 c r n cn n M)) := by
  refine zC_of (by decide) (Nat.le_of_ble_eq_true rfl) (fun X Q hQ hX hl hR hr => ?_)
  refine zV_loc (L' := [.ref o, .ref c2, .int (nI r), .null, .null]) rfl ?_
  have hq1 : zfr r ≤ 8 ∧ zfr (r - 1) ≤ zfr r := by rcases (show r = 2 ∨ r = 3 by omega) with rfl | rfl <;> decide
  have L2 : ∀ (f9 w : Nat) (v1 : Value), n - w < f9 → w ≤ n → zV G X Q 5 0 0 2 [.ref o, .ref c2, .int (nI r), .int (nI w), v1] [] (oTR o c2 c r n cn w M) := by
    intro f9
    induction f9 with
    | zero => intro w v1 hw1 hw2; exact absurd hw1 (Nat.not_lt_zero _)
    | succ f9 ih =>
      intro w v1 hw1 hw2
      have L19 : w < n → ∀ (f9 j : Nat), zfr r - (zfr (r - 1) + j) < f9 → (zfr (r - 1) + j) ≤ zfr r → zV G X Q 5 0 0 19 [.ref o, .ref c2, .int (nI r), .int (nI w), .int (nI (zfr (r - 1) + j))] [] (oTRw o c2 c r n cn w j (oTR o c2 c r n cn w M)) := by
        intro c_7
        intro f9
        induction f9 with
        | zero => intro j hj1 hj2; exact absurd hj1 (Nat.not_lt_zero _)
        | succ f9 ih2 =>
          intro j hj1 hj2
          have hst := (oTR_st o c2 c r n cn w M).tr (oTRw_st o c2 c r n cn w j (oTR o c2 c r n cn w M))
          refine zV_iload hX dX6_tellRound_19 rfl ?_
          refine zV_from hX dX6_tellRound_21 zfl_X6_139 ?_
          refine zV_iload_n hX dX6_tellRound_24 rfl ?_
          refine zV_ifrom hX dX6_tellRound_25 rfl (by omega) (zfr_from _ (by omega)) ?_
          refine zV_icmp_geN hX (tgt := 63) dX6_tellRound_26 (by decide) ⟨by omega, by omega⟩ (fun c_26 => ?_) (fun c_26 => ?_)
          · refine zV_iincN hX (b := 1) dX6_tellRound_63 rfl (by decide) ?_
            dsimp only [zst1, zst2, zclr, zc2]
            refine zV_goto hX (tgt := 2) dX6_tellRound_66 (by decide) ?_
            have h9 := ih (w + 1) (.int (nI (zfr (r - 1) + j))) (by omega) (by omega)
            rw [show oTR o c2 c r n cn (w + 1) M = oTRw o c2 c r n cn w (zfr r - zfr (r - 1)) (oTR o c2 c r n cn w M) from rfl] at h9
            rw [show zfr r - zfr (r - 1) = j by omega] at h9
            exact h9
          · refine zV_aload_n hX dX6_tellRound_29 rfl ?_
            refine zV_iload hX dX6_tellRound_30 rfl ?_
            refine zV_cV1p hX hR hl dX6_tellRound_32 (zc_isPath l G _ o (zfr (r - 1) + j) hO (by omega)) zt_X6_isPath rfl zml_X6_128 hO.1 ⟨by decide, by decide⟩ (Nat.le_of_ble_eq_true rfl) ?_
            dsimp only [Option.toList, List.cons_append, List.nil_append]
            refine zV_if_eqB hX (tgt := 57) dX6_tellRound_35 (by decide) (fun c_35 => ?_) (fun c_35 => ?_)
            · have e9 : oTR1 o c2 c r w n cn (zfr (r - 1) + j) (oTRw o c2 c r n cn w j (oTR o c2 c r n cn w M)) = (oTRw o c2 c r n cn w j (oTR o c2 c r n cn w M)) := by rw [oTR1, if_neg (by simp [c_35])]
              refine zV_iincN hX (b := 1) dX6_tellRound_57 rfl (by decide) ?_
              dsimp only [zst1, zst2, zclr, zc2]
              refine zV_goto hX (tgt := 19) dX6_tellRound_60 (by decide) ?_
              have h9 := ih2 (j + 1) (by omega) (by omega)
              rw [show oTRw o c2 c r n cn w (j + 1) (oTR o c2 c r n cn w M) = oTR1 o c2 c r w n cn (zfr (r - 1) + j) (oTRw o c2 c r n cn w j (oTR o c2 c r n cn w M)) from rfl, e9] at h9
              exact h9
            · refine zV_aload_n hX dX6_tellRound_38 rfl ?_
              refine zV_iload hX dX6_tellRound_39 rfl ?_
              refine zV_iload_n hX dX6_tellRound_41 rfl ?_
              refine zV_cV2p hX hR hl dX6_tellRound_42 (zc_isOn l G _ o (zfr (r - 1) + j) w hO (by omega)) zt_X6_isOn rfl zml_X6_132 hO.1 ⟨by decide, by decide⟩ (Nat.le_of_ble_eq_true rfl) ?_
              dsimp only [Option.toList, List.cons_append, List.nil_append]
              refine zV_if_neB hX (tgt := 57) dX6_tellRound_45 (by decide) (fun c_45 => ?_) (fun c_45 => ?_)
              · have e9 : oTR1 o c2 c r w n cn (zfr (r - 1) + j) (oTRw o c2 c r n cn w j (oTR o c2 c r n cn w M)) = (oTRw o c2 c r n cn w j (oTR o c2 c r n cn w M)) := by rw [oTR1, if_neg (by simp [c_45])]
                refine zV_iincN hX (b := 1) dX6_tellRound_57 rfl (by decide) ?_
                dsimp only [zst1, zst2, zclr, zc2]
                refine zV_goto hX (tgt := 19) dX6_tellRound_60 (by decide) ?_
                have h9 := ih2 (j + 1) (by omega) (by omega)
                rw [show oTRw o c2 c r n cn w (j + 1) (oTR o c2 c r n cn w M) = oTR1 o c2 c r w n cn (zfr (r - 1) + j) (oTRw o c2 c r n cn w j (oTR o c2 c r n cn w M)) from rfl, e9] at h9
                exact h9
              · have e9 : oTR1 o c2 c r w n cn (zfr (r - 1) + j) (oTRw o c2 c r n cn w j (oTR o c2 c r n cn w M)) = oTellK o c2 c r w (zfr (r - 1) + j) cn n (oTRw o c2 c r n cn w j (oTR o c2 c r n cn w M)) := by rw [oTR1, if_pos (by simp [c_35, c_45])]
                refine zV_aload_n hX dX6_tellRound_48 rfl ?_
                refine zV_aload_n hX dX6_tellRound_49 rfl ?_
                refine zV_iload_n hX dX6_tellRound_50 rfl ?_
                refine zV_iload_n hX dX6_tellRound_51 rfl ?_
                refine zV_iload hX dX6_tellRound_52 rfl ?_
                refine zV_cV4p hX hR hl dX6_tellRound_54 (zc_tell l G _ o c2 n c r w (zfr (r - 1) + j) cn hO (by rw [hst.2 7 (by omega) (by omega), hn]) hn7 (by rw [hst.2 0 (by omega) (by omega), hcm]) hL (fun m hm => by rw [show c2 + 1 + 1 = c2 + 2 from rfl, hL.st hst 2 m (by omega)]; exact hcn m hm) (by omega) (by omega) hc7) zt_X6_tell rfl zml_X6_159 hO.1 ⟨by decide, by decide⟩ (Nat.le_of_ble_eq_true rfl) ?_
                dsimp only [Option.toList, List.cons_append, List.nil_append]
                refine zV_iincN hX (b := 1) dX6_tellRound_57 rfl (by decide) ?_
                dsimp only [zst1, zst2, zclr, zc2]
                refine zV_goto hX (tgt := 19) dX6_tellRound_60 (by decide) ?_
                have h9 := ih2 (j + 1) (by omega) (by omega)
                rw [show oTRw o c2 c r n cn w (j + 1) (oTR o c2 c r n cn w M) = oTR1 o c2 c r w n cn (zfr (r - 1) + j) (oTRw o c2 c r n cn w j (oTR o c2 c r n cn w M)) from rfl, e9] at h9
                exact h9
      refine zV_iload_n hX dX6_tellRound_2 rfl ?_
      refine zV_aload_n hX dX6_tellRound_3 rfl ?_
      refine zV_geti hX dX6_tellRound_4 zf_X6_67 hO.1 rfl (by rw [(oTR_st o c2 c r n cn w M).2 7 (by omega) (by omega), hn]) ?_
      refine zV_icmp_geN hX (tgt := 69) dX6_tellRound_7 (by decide) ⟨by omega, by omega⟩ (fun c_7 => ?_) (fun c_7 => ?_)
      · exact zV_retv hX hQ hr (⟨rfl, by rw [show w = n by omega]⟩) dX6_tellRound_69
      · refine zV_from hX dX6_tellRound_10 zfl_X6_139 ?_
        refine zV_iload_n hX dX6_tellRound_13 rfl ?_
        refine zV_iconst hX (v := nI 1) dX6_tellRound_14 (by decide) ?_
        refine zV_isubN hX dX6_tellRound_15 (by omega) ?_
        refine zV_ifrom hX dX6_tellRound_16 rfl (by omega) (zfr_from _ (by omega)) ?_
        refine zV_istore hX dX6_tellRound_17 (by decide) ?_
        dsimp only [zst1, zst2, zclr, zc2]
        exact L19 c_7 (zfr r + 1) 0 (by omega) (by omega)
  refine zV_iconst hX (v := nI 0) dX6_tellRound_0 (by decide) ?_
  refine zV_istore_n hX dX6_tellRound_1 (by decide) ?_
  dsimp only [zst1, zst2, zclr, zc2]
  exact L2 (n + 1) 0 _ (by omega) (by omega)
