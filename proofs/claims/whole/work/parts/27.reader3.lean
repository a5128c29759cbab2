-- a LIE, a liar, the whole text
abbrev lyK (lc w : Nat) (M : zM) : Nat := zN (M.1 (lc + 1 + 1) w)
def rLa (e lc w : Nat) (M : zM) : zM := if 12 ≤ lyK lc w M then rFail (if rLb e M then nI 3 else nI 1) (nI (rSp e M)) (rS e M) else M
def rOm (e j lo hi : Nat) (M : zM) : zM := if rWb e j M then rNm e lo hi (rWm e j M) else rWm e j M
def rOx (e j lo hi : Nat) (M : zM) : Int32 := if rWb e j M then rNx e lo hi (rWm e j M) else -1
def rAc (e lc w : Nat) (M : zM) : zM :=
  if rWb e 4 M then lSetActIf lc w (lyK lc w (rVm e (rWm e 4 M))) (nI 0) (rVv e (rWm e 4 M)) (nI 0) (rVm e (rWm e 4 M))
  else if rWb e 5 M then lSetActIf lc w (lyK lc w (rVm e (rVm e (rWm e 5 M)))) (nI 1) (rVv e (rWm e 5 M)) (rVv e (rVm e (rWm e 5 M))) (rVm e (rVm e (rWm e 5 M)))
  else if rWb e 6 M then lSetActIf lc w (lyK lc w (rWm e 6 M)) (nI 2) (nI 0) (nI 0) (rWm e 6 M)
  else if rWb e 7 M then lSetActIf lc w (lyK lc w (rWm e 7 M)) (nI 3) (nI 0) (nI 0) (rWm e 7 M)
  else if rWb e 8 M then rWm e 8 M
  else rFail (nI 1) (nI (rSp e M)) (rWm e 8 M)
def rO1 (e lc w : Nat) (M : zM) : zM := rOm e 1 1 3 (rLa e lc w M)
def rO2 (e lc n w : Nat) (M : zM) : zM := rOm e 2 0 (n - 1) (rO1 e lc w M)
def rO3 (e lc n w : Nat) (M : zM) : zM := rOm e 3 0 (n - 1) (rO2 e lc n w M)
def rAdd (e lc n w : Nat) (M : zM) : zM := lAdd lc w (lyK lc w (rO3 e lc n w M)) (rOx e 1 1 3 (rLa e lc w M)) (rOx e 2 0 (n - 1) (rO1 e lc w M)) (rOx e 3 0 (n - 1) (rO2 e lc n w M)) (rO3 e lc n w M)
def rLie (e lc n w : Nat) (M : zM) : zM := if (rO3 e lc n w M).1 20 7 = 0 then rAc e lc w (rAdd e lc n w M) else rO3 e lc n w M
theorem rSt_Om {lc e n j lo hi : Nat} {M : zM} (h : rSt lc e n M) (hy : lyR lc) (he : e ≤ 300) : rSt lc e n (rOm e j lo hi M) := by
  have h1 : rSt lc e n (rWm e j M) := rSt_W h hy he
  unfold rOm
  split
  · exact rSt_Nm h1 hy he
  · exact h1
theorem rSt_La {lc e n w : Nat} {M : zM} (h : rSt lc e n M) (hy : lyR lc) (he : e ≤ 300) : rSt lc e n (rLa e lc w M) := by
  unfold rLa
  split
  · exact rSt_fail (rSt_S h hy he) hy
  · exact h
theorem lSetAct_c {c a : Nat} {v1 v2 v3 : Int32} {M : zM} {b j : Nat} (h : b < c + 6 ∨ c + 8 < b) : (lSetAct c a v1 v2 v3 M).1 b j = M.1 b j := by
  unfold lSetAct
  rw [zw_ne (by omega), zw_ne (by omega), zw_ne (by omega)]
theorem lSetActIf_c {c w k : Nat} {v1 v2 v3 : Int32} {M : zM} {b j : Nat} (h : b < c + 6 ∨ c + 8 < b) : (lSetActIf c w k v1 v2 v3 M).1 b j = M.1 b j := by
  unfold lSetActIf
  split
  · rfl
  · exact lSetAct_c h
theorem lAdd_c {c w k : Nat} {r x o : Int32} {M : zM} {b j : Nat} (h : b < c + 2 ∨ c + 8 < b) : (lAdd c w k r x o M).1 b j = M.1 b j := by
  unfold lAdd
  split
  · rfl
  · rw [lSetAct_c (by omega), zw_ne (by omega), zw_ne (by omega), zw_ne (by omega), zw_ne (by omega)]
theorem lAdd_k {c w k : Nat} {r x o : Int32} {M : zM} {m : Nat} (hk : k < 12) : (lAdd c w k r x o M).1 (c + 1 + 1) m = if m = w then nI (k + 1) else M.1 (c + 1 + 1) m := by
  unfold lAdd
  rw [if_neg (by omega), lSetAct_c (by omega), zw_ne (by omega), zw_ne (by omega), zw_ne (by omega), zw_at]
  by_cases h : m = w
  · rw [if_pos ⟨rfl, h⟩, if_pos h]
  · rw [if_neg (fun q => h q.2), if_neg h]
theorem rSt_c {lc e n : Nat} {M M' : zM} (h : rSt lc e n M) (hy : lyR lc) (h2 : ∀ j, M'.1 20 j = M.1 20 j) (h3 : lyC lc M') : rSt lc e n M' := by
  obtain ⟨g1, g2, g3, g4, g5, g6⟩ := h
  have hA : rA M' = rA M := by unfold rA; rw [h2]
  exact ⟨by rw [hA, h2]; exact g1, by rw [hA]; exact g2, by rw [h2, g3], by rw [h2, g4], by rw [h2, g5], h3⟩
theorem rSt_sa {lc e n w k : Nat} {v1 v2 v3 : Int32} {M : zM} (h : rSt lc e n M) (hy : lyR lc) : rSt lc e n (lSetActIf lc w k v1 v2 v3 M) :=
  rSt_c h hy (fun j => lSetActIf_c (by have := hy.2.1; omega)) (lyC_of h.2.2.2.2.2 (fun j => lSetActIf_c (by omega)))
theorem lyC_add {lc w : Nat} {r x o : Int32} {M : zM} (h : lyC lc M) : lyC lc (lAdd lc w (lyK lc w M) r x o M) := by
  rcases Nat.lt_or_ge (lyK lc w M) 12 with q | q
  · intro m hm
    rw [lAdd_k q]
    split
    · rw [zN_nI (by omega)]; exact ⟨rfl, by omega⟩
    · exact h m hm
  · unfold lAdd
    rw [if_pos q]
    exact h
theorem rSt_add {lc e n w : Nat} {r x o : Int32} {M : zM} (h : rSt lc e n M) (hy : lyR lc) : rSt lc e n (lAdd lc w (lyK lc w M) r x o M) :=
  rSt_c h hy (fun j => lAdd_c (by have := hy.2.1; omega)) (lyC_add h.2.2.2.2.2)
theorem rSt_Ac {lc e n w : Nat} {M : zM} (h : rSt lc e n M) (hy : lyR lc) (he : e ≤ 300) : rSt lc e n (rAc e lc w M) := by
  unfold rAc
  split
  · exact rSt_sa (rSt_Vm (rSt_W h hy he) hy he) hy
  · split
    · exact rSt_sa (rSt_Vm (rSt_Vm (rSt_W h hy he) hy he) hy he) hy
    · split
      · exact rSt_sa (rSt_W h hy he) hy
      · split
        · exact rSt_sa (rSt_W h hy he) hy
        · split
          · exact rSt_W h hy he
          · exact rSt_fail (rSt_W h hy he) hy
theorem rSt_Lie {lc e n w : Nat} {M : zM} (h : rSt lc e n M) (hy : lyR lc) (he : e ≤ 300) : rSt lc e n (rLie e lc n w M) := by
  have h3 : rSt lc e n (rO3 e lc n w M) := rSt_Om (rSt_Om (rSt_Om (rSt_La h hy he) hy he) hy he) hy he
  unfold rLie
  split
  · exact rSt_Ac (rSt_add h3 hy) hy he
  · exact h3
set_option maxHeartbeats 1000000 in
theorem zc_readLie (l : Launch) (G : zG) (M : zM) (lc e n w : Nat) (hM : rSt lc e n M) (hy : lyR lc) (he : e ≤ 300) (hn : 3 ≤ n ∧ n ≤ 7) (hw : w < 7) : zC l G 6 yX7_readLie cX7_readLie 6 (Option.none : Option Jvm.ClassFile.FieldType) [.ref (20 : Nat), .int (nI w)] M (zP none (rLie e lc n w M)) := by
  refine zC_of (by decide) (Nat.le_of_ble_eq_true rfl) (fun X Q hQ hX hl hR hr => ?_)
  refine zV_loc (L' := [.ref (20 : Nat), .int (nI w), .null, .null, .null, .null]) rfl ?_
  have h1 : rSt lc e n (rLa e lc w M) := rSt_La hM hy he
  have h2 : rSt lc e n (rO1 e lc w M) := rSt_Om h1 hy he
  have h3 : rSt lc e n (rO2 e lc n w M) := rSt_Om h2 hy he
  have h4 : rSt lc e n (rO3 e lc n w M) := rSt_Om h3 hy he
  have h5 : rSt lc e n (rAdd e lc n w M) := rSt_add h4 hy
  have J100 : ∀ v4 v5 : Value, zV G X Q 6 0 0 100 [.ref (20 : Nat), .int (nI w), .int (rOx e 1 1 3 (rLa e lc w M)), .int (rOx e 2 0 (n - 1) (rO1 e lc w M)), v4, v5] [.int (rOx e 3 0 (n - 1) (rO2 e lc n w M))] (rO3 e lc n w M) := by
    intro v4 v5
    refine zV_istore hX dX7_readLie_100 (by decide) ?_
    dsimp only [zst1, zst2, zclr, zc2]
    refine zV_aload_n hX dX7_readLie_102 rfl ?_
    refine zV_geti hX dX7_readLie_103 zf_X7_38 zo20.1 rfl rfl ?_
    refine zV_if_eq hX (tgt := 110) dX7_readLie_106 (by decide) (fun c_106 => ?_) (fun c_106 => ?_)
    · have e9 : rLie e lc n w M = rAc e lc w (rAdd e lc n w M) := by unfold rLie; rw [if_pos c_106]
      refine zV_aload_n hX dX7_readLie_110 rfl ?_
      refine zV_getp hX dX7_readLie_111 zf_X7_18 zo20.1 rfl (by exact h4.2.2.2.2.1) (by have := hy.2.2; omega) ?_
      refine zV_iload_n hX dX7_readLie_114 rfl ?_
      refine zV_iload_n hX dX7_readLie_115 rfl ?_
      refine zV_iload_n hX dX7_readLie_116 rfl ?_
      refine zV_iload hX dX7_readLie_117 rfl ?_
      refine zV_cV4p hX hR hl dX7_readLie_119 (zc_add l G (rO3 e lc n w M) lc w (lyK lc w (rO3 e lc n w M)) (rOx e 1 1 3 (rLa e lc w M)) (rOx e 2 0 (n - 1) (rO1 e lc w M)) (rOx e 3 0 (n - 1) (rO2 e lc n w M)) hy.1 hw (h4.2.2.2.2.2 w hw).1 (h4.2.2.2.2.2 w hw).2) zt_X4_add rfl zml_X7_110 hy.1.1 ⟨by decide, by decide⟩ (Nat.le_of_ble_eq_true rfl) ?_
      dsimp only [Option.toList, List.cons_append, List.nil_append]
      refine zV_mem (show _ = (rAdd e lc n w M) from rfl) ?_
      have e8 := rAc.eq_1 e lc w (rAdd e lc n w M)
      refine zV_aload_n hX dX7_readLie_122 rfl ?_
      refine zV_ldcs hX (j := 4) dX7_readLie_123 zsr_X7_93 ?_
      refine zV_cV1p hX hR hl dX7_readLie_125 (zc_takesWord l G (rAdd e lc n w M) lc e n 4 h5 hy he (by decide)) zt_X7_takesWord rfl zml_X7_53 zo20.1 ⟨by decide, by decide⟩ (Nat.le_of_ble_eq_true rfl) ?_
      dsimp only [Option.toList, List.cons_append, List.nil_append]
      refine zV_if_eqB hX (tgt := 148) dX7_readLie_128 (by decide) (fun c_128 => ?_) (fun c_128 => ?_)
      · rw [if_neg (by rw [c_128]; decide)] at e8
        refine zV_mem (show rWm e 4 (rAdd e lc n w M) = rS e (rAdd e lc n w M) by unfold rWm; rw [c_128, if_neg Bool.false_ne_true]) ?_
        refine zV_aload_n hX dX7_readLie_148 rfl ?_
        refine zV_ldcs hX (j := 5) dX7_readLie_149 zsr_X7_95 ?_
        refine zV_cV1p hX hR hl dX7_readLie_151 (zc_takesWordS l G (rAdd e lc n w M) lc e n 5 h5 hy he (by decide)) zt_X7_takesWord rfl zml_X7_53 zo20.1 ⟨by decide, by decide⟩ (Nat.le_of_ble_eq_true rfl) ?_
        dsimp only [Option.toList, List.cons_append, List.nil_append]
        refine zV_if_eqB hX (tgt := 181) dX7_readLie_154 (by decide) (fun c_154 => ?_) (fun c_154 => ?_)
        · rw [if_neg (by rw [c_154]; decide)] at e8
          refine zV_mem (show rWm e 5 (rAdd e lc n w M) = rS e (rAdd e lc n w M) by unfold rWm; rw [c_154, if_neg Bool.false_ne_true]) ?_
          refine zV_aload_n hX dX7_readLie_181 rfl ?_
          refine zV_ldcs hX (j := 6) dX7_readLie_182 zsr_X7_97 ?_
          refine zV_cV1p hX hR hl dX7_readLie_184 (zc_takesWordS l G (rAdd e lc n w M) lc e n 6 h5 hy he (by decide)) zt_X7_takesWord rfl zml_X7_53 zo20.1 ⟨by decide, by decide⟩ (Nat.le_of_ble_eq_true rfl) ?_
          dsimp only [Option.toList, List.cons_append, List.nil_append]
          refine zV_if_eqB hX (tgt := 204) dX7_readLie_187 (by decide) (fun c_187 => ?_) (fun c_187 => ?_)
          · rw [if_neg (by rw [c_187]; decide)] at e8
            refine zV_mem (show rWm e 6 (rAdd e lc n w M) = rS e (rAdd e lc n w M) by unfold rWm; rw [c_187, if_neg Bool.false_ne_true]) ?_
            refine zV_aload_n hX dX7_readLie_204 rfl ?_
            refine zV_ldcs hX (j := 7) dX7_readLie_205 zsr_X7_99 ?_
            refine zV_cV1p hX hR hl dX7_readLie_207 (zc_takesWordS l G (rAdd e lc n w M) lc e n 7 h5 hy he (by decide)) zt_X7_takesWord rfl zml_X7_53 zo20.1 ⟨by decide, by decide⟩ (Nat.le_of_ble_eq_true rfl) ?_
            dsimp only [Option.toList, List.cons_append, List.nil_append]
            refine zV_if_eqB hX (tgt := 227) dX7_readLie_210 (by decide) (fun c_210 => ?_) (fun c_210 => ?_)
            · rw [if_neg (by rw [c_210]; decide)] at e8
              refine zV_mem (show rWm e 7 (rAdd e lc n w M) = rS e (rAdd e lc n w M) by unfold rWm; rw [c_210, if_neg Bool.false_ne_true]) ?_
              refine zV_aload_n hX dX7_readLie_227 rfl ?_
              refine zV_ldcs hX (j := 8) dX7_readLie_228 zsr_X7_101 ?_
              refine zV_cV1p hX hR hl dX7_readLie_230 (zc_takesWordS l G (rAdd e lc n w M) lc e n 8 h5 hy he (by decide)) zt_X7_takesWord rfl zml_X7_53 zo20.1 ⟨by decide, by decide⟩ (Nat.le_of_ble_eq_true rfl) ?_
              dsimp only [Option.toList, List.cons_append, List.nil_append]
              refine zV_if_neB hX (tgt := 245) dX7_readLie_233 (by decide) (fun c_233 => ?_) (fun c_233 => ?_)
              · rw [if_pos c_233] at e8
                exact zV_retv hX hQ hr (⟨rfl, by rw [e9]; exact e8.symm⟩) dX7_readLie_245
              · rw [if_neg (by rw [c_233]; decide)] at e8
                refine zV_aload_n hX dX7_readLie_236 rfl ?_
                refine zV_iconst hX (v := nI 1) dX7_readLie_237 (by decide) ?_
                refine zV_aload_n hX dX7_readLie_238 rfl ?_
                refine zV_geti hX (x := nI (rSp e (rAdd e lc n w M))) dX7_readLie_239 zf_X7_29 zo20.1 rfl (by rw [rWm, c_233]; exact zw_same) ?_
                refine zV_cV2p hX hR hl dX7_readLie_242 (zc_rfail l G _ _ _) zt_X7_fail rfl zml_X7_57 zo20.1 ⟨by decide, by decide⟩ (Nat.le_of_ble_eq_true rfl) ?_
                dsimp only [Option.toList, List.cons_append, List.nil_append]
                exact zV_retv hX hQ hr (⟨rfl, by rw [e9]; exact e8.symm⟩) dX7_readLie_245
            · rw [if_pos c_210] at e8
              refine zV_aload_n hX dX7_readLie_213 rfl ?_
              refine zV_getp hX dX7_readLie_214 zf_X7_18 zo20.1 rfl (by exact (rSt_W h5 hy he).2.2.2.2.1) (by have := hy.2.2; omega) ?_
              refine zV_iload_n hX dX7_readLie_217 rfl ?_
              refine zV_iconst hX (v := nI 3) dX7_readLie_218 (by decide) ?_
              refine zV_iconst hX (v := nI 0) dX7_readLie_219 (by decide) ?_
              refine zV_iconst hX (v := nI 0) dX7_readLie_220 (by decide) ?_
              refine zV_cV4p hX hR hl dX7_readLie_221 (zc_setAct l G _ lc w (lyK lc w (rWm e 7 (rAdd e lc n w M))) _ _ _ hy.1 hw ((rSt_W h5 hy he).2.2.2.2.2 w hw).1 ((rSt_W h5 hy he).2.2.2.2.2 w hw).2) zt_X4_setAct rfl zml_X7_117 hy.1.1 ⟨by decide, by decide⟩ (Nat.le_of_ble_eq_true rfl) ?_
              dsimp only [Option.toList, List.cons_append, List.nil_append]
              refine zV_goto hX (tgt := 245) dX7_readLie_224 (by decide) ?_
              exact zV_retv hX hQ hr (⟨rfl, by rw [e9]; exact e8.symm⟩) dX7_readLie_245
          · rw [if_pos c_187] at e8
            refine zV_aload_n hX dX7_readLie_190 rfl ?_
            refine zV_getp hX dX7_readLie_191 zf_X7_18 zo20.1 rfl (by exact (rSt_W h5 hy he).2.2.2.2.1) (by have := hy.2.2; omega) ?_
            refine zV_iload_n hX dX7_readLie_194 rfl ?_
            refine zV_iconst hX (v := nI 2) dX7_readLie_195 (by decide) ?_
            refine zV_iconst hX (v := nI 0) dX7_readLie_196 (by decide) ?_
            refine zV_iconst hX (v := nI 0) dX7_readLie_197 (by decide) ?_
            refine zV_cV4p hX hR hl dX7_readLie_198 (zc_setAct l G _ lc w (lyK lc w (rWm e 6 (rAdd e lc n w M))) _ _ _ hy.1 hw ((rSt_W h5 hy he).2.2.2.2.2 w hw).1 ((rSt_W h5 hy he).2.2.2.2.2 w hw).2) zt_X4_setAct rfl zml_X7_117 hy.1.1 ⟨by decide, by decide⟩ (Nat.le_of_ble_eq_true rfl) ?_
            dsimp only [Option.toList, List.cons_append, List.nil_append]
            refine zV_goto hX (tgt := 245) dX7_readLie_201 (by decide) ?_
            exact zV_retv hX hQ hr (⟨rfl, by rw [e9]; exact e8.symm⟩) dX7_readLie_245
        · rw [if_pos c_154] at e8
          refine zV_aload_n hX dX7_readLie_157 rfl ?_
          refine zV_cV0p hX hR hl dX7_readLie_158 (zc_readValue l G (rWm e 5 (rAdd e lc n w M)) lc e n (rSt_W h5 hy he) hy he) zt_X7_readValue rfl zml_X7_114 zo20.1 ⟨by decide, by decide⟩ (Nat.le_of_ble_eq_true rfl) ?_
          dsimp only [Option.toList, List.cons_append, List.nil_append]
          refine zV_istore hX dX7_readLie_161 (by decide) ?_
          dsimp only [zst1, zst2, zclr, zc2]
          refine zV_aload_n hX dX7_readLie_163 rfl ?_
          refine zV_getp hX dX7_readLie_164 zf_X7_18 zo20.1 rfl (by exact (rSt_Vm (rSt_W h5 hy he) hy he).2.2.2.2.1) (by have := hy.2.2; omega) ?_
          refine zV_iload_n hX dX7_readLie_167 rfl ?_
          refine zV_iconst hX (v := nI 1) dX7_readLie_168 (by decide) ?_
          refine zV_iload hX dX7_readLie_169 rfl ?_
          refine zV_aload_n hX dX7_readLie_171 rfl ?_
          refine zV_cV0p hX hR hl dX7_readLie_172 (zc_readValue l G (rVm e (rWm e 5 (rAdd e lc n w M))) lc e n (rSt_Vm (rSt_W h5 hy he) hy he) hy he) zt_X7_readValue rfl zml_X7_114 zo20.1 ⟨by decide, by decide⟩ (Nat.le_of_ble_eq_true rfl) ?_
          dsimp only [Option.toList, List.cons_append, List.nil_append]
          refine zV_cV4p hX hR hl dX7_readLie_175 (zc_setAct l G _ lc w (lyK lc w (rVm e (rVm e (rWm e 5 (rAdd e lc n w M))))) _ _ _ hy.1 hw ((rSt_Vm (rSt_Vm (rSt_W h5 hy he) hy he) hy he).2.2.2.2.2 w hw).1 ((rSt_Vm (rSt_Vm (rSt_W h5 hy he) hy he) hy he).2.2.2.2.2 w hw).2) zt_X4_setAct rfl zml_X7_117 hy.1.1 ⟨by decide, by decide⟩ (Nat.le_of_ble_eq_true rfl) ?_
          dsimp only [Option.toList, List.cons_append, List.nil_append]
          refine zV_goto hX (tgt := 245) dX7_readLie_178 (by decide) ?_
          exact zV_retv hX hQ hr (⟨rfl, by rw [e9]; exact e8.symm⟩) dX7_readLie_245
      · rw [if_pos c_128] at e8
        refine zV_aload_n hX dX7_readLie_131 rfl ?_
        refine zV_getp hX dX7_readLie_132 zf_X7_18 zo20.1 rfl (by exact (rSt_W h5 hy he).2.2.2.2.1) (by have := hy.2.2; omega) ?_
        refine zV_iload_n hX dX7_readLie_135 rfl ?_
        refine zV_iconst hX (v := nI 0) dX7_readLie_136 (by decide) ?_
        refine zV_aload_n hX dX7_readLie_137 rfl ?_
        refine zV_cV0p hX hR hl dX7_readLie_138 (zc_readValue l G (rWm e 4 (rAdd e lc n w M)) lc e n (rSt_W h5 hy he) hy he) zt_X7_readValue rfl zml_X7_114 zo20.1 ⟨by decide, by decide⟩ (Nat.le_of_ble_eq_true rfl) ?_
        dsimp only [Option.toList, List.cons_append, List.nil_append]
        refine zV_iconst hX (v := nI 0) dX7_readLie_141 (by decide) ?_
        refine zV_cV4p hX hR hl dX7_readLie_142 (zc_setAct l G _ lc w (lyK lc w (rVm e (rWm e 4 (rAdd e lc n w M)))) _ _ _ hy.1 hw ((rSt_Vm (rSt_W h5 hy he) hy he).2.2.2.2.2 w hw).1 ((rSt_Vm (rSt_W h5 hy he) hy he).2.2.2.2.2 w hw).2) zt_X4_setAct rfl zml_X7_117 hy.1.1 ⟨by decide, by decide⟩ (Nat.le_of_ble_eq_true rfl) ?_
        dsimp only [Option.toList, List.cons_append, List.nil_append]
        refine zV_goto hX (tgt := 245) dX7_readLie_145 (by decide) ?_
        exact zV_retv hX hQ hr (⟨rfl, by rw [e9]; exact e8.symm⟩) dX7_readLie_245
    · have e9 : rLie e lc n w M = (rO3 e lc n w M) := by unfold rLie; rw [if_neg c_106]
      exact zV_retv hX hQ hr (⟨rfl, e9.symm⟩) dX7_readLie_109
  have J75 : ∀ v3 v4 v5 : Value, zV G X Q 6 0 0 75 [.ref (20 : Nat), .int (nI w), .int (rOx e 1 1 3 (rLa e lc w M)), v3, v4, v5] [.int (rOx e 2 0 (n - 1) (rO1 e lc w M))] (rO2 e lc n w M) := by
    intro v3 v4 v5
    refine zV_istore_n hX dX7_readLie_75 (by decide) ?_
    dsimp only [zst1, zst2, zclr, zc2]
    refine zV_aload_n hX dX7_readLie_76 rfl ?_
    refine zV_ldcs hX (j := 3) dX7_readLie_77 zsr_X7_91 ?_
    refine zV_cV1p hX hR hl dX7_readLie_79 (zc_takesWord l G (rO2 e lc n w M) lc e n 3 h3 hy he (by decide)) zt_X7_takesWord rfl zml_X7_53 zo20.1 ⟨by decide, by decide⟩ (Nat.le_of_ble_eq_true rfl) ?_
    dsimp only [Option.toList, List.cons_append, List.nil_append]
    refine zV_if_eqB hX (tgt := 99) dX7_readLie_82 (by decide) (fun c_82 => ?_) (fun c_82 => ?_)
    · have e9 : (rO3 e lc n w M) = rWm e 3 (rO2 e lc n w M) ∧ rOx e 3 0 (n - 1) (rO2 e lc n w M) = -1 := by unfold rO3 rOm rOx; rw [c_82, if_neg Bool.false_ne_true, if_neg Bool.false_ne_true]; exact ⟨rfl, rfl⟩
      refine zV_iconst hX (v := (-1)) dX7_readLie_99 (by decide) ?_
      refine zV_topi (rOx e 3 0 (n - 1) (rO2 e lc n w M)) e9.2.symm ?_
      exact zV_mem e9.1.symm (J100 _ _)
    · have e9 : (rO3 e lc n w M) = rNm e 0 (n - 1) (rWm e 3 (rO2 e lc n w M)) ∧ rOx e 3 0 (n - 1) (rO2 e lc n w M) = rNx e 0 (n - 1) (rWm e 3 (rO2 e lc n w M)) := by unfold rO3 rOm rOx; rw [c_82, if_pos rfl, if_pos rfl]; exact ⟨rfl, rfl⟩
      refine zV_aload_n hX dX7_readLie_85 rfl ?_
      refine zV_iconst hX (v := nI 0) dX7_readLie_86 (by decide) ?_
      refine zV_aload_n hX dX7_readLie_87 rfl ?_
      refine zV_geti hX dX7_readLie_88 zf_X7_35 zo20.1 rfl (by exact (rSt_W h3 hy he).2.2.2.1) ?_
      refine zV_iconst hX (v := nI 1) dX7_readLie_91 (by decide) ?_
      refine zV_isubN hX dX7_readLie_92 (by omega) ?_
      refine zV_cV2p hX hR hl dX7_readLie_93 (zc_readNumber l G (rWm e 3 (rO2 e lc n w M)) lc e n 0 (n - 1) (rSt_W h3 hy he) hy he (by omega) (by omega)) zt_X7_readNumber rfl zml_X7_61 zo20.1 ⟨by decide, by decide⟩ (Nat.le_of_ble_eq_true rfl) ?_
      dsimp only [Option.toList, List.cons_append, List.nil_append]
      refine zV_goto hX (tgt := 100) dX7_readLie_96 (by decide) ?_
      refine zV_topi (rOx e 3 0 (n - 1) (rO2 e lc n w M)) e9.2.symm ?_
      exact zV_mem e9.1.symm (J100 _ _)
  have J50 : ∀ v2 v3 v4 v5 : Value, zV G X Q 6 0 0 50 [.ref (20 : Nat), .int (nI w), v2, v3, v4, v5] [.int (rOx e 1 1 3 (rLa e lc w M))] (rO1 e lc w M) := by
    intro v2 v3 v4 v5
    refine zV_istore_n hX dX7_readLie_50 (by decide) ?_
    dsimp only [zst1, zst2, zclr, zc2]
    refine zV_aload_n hX dX7_readLie_51 rfl ?_
    refine zV_ldcs hX (j := 2) dX7_readLie_52 zsr_X7_89 ?_
    refine zV_cV1p hX hR hl dX7_readLie_54 (zc_takesWord l G (rO1 e lc w M) lc e n 2 h2 hy he (by decide)) zt_X7_takesWord rfl zml_X7_53 zo20.1 ⟨by decide, by decide⟩ (Nat.le_of_ble_eq_true rfl) ?_
    dsimp only [Option.toList, List.cons_append, List.nil_append]
    refine zV_if_eqB hX (tgt := 74) dX7_readLie_57 (by decide) (fun c_57 => ?_) (fun c_57 => ?_)
    · have e9 : (rO2 e lc n w M) = rWm e 2 (rO1 e lc w M) ∧ rOx e 2 0 (n - 1) (rO1 e lc w M) = -1 := by unfold rO2 rOm rOx; rw [c_57, if_neg Bool.false_ne_true, if_neg Bool.false_ne_true]; exact ⟨rfl, rfl⟩
      refine zV_iconst hX (v := (-1)) dX7_readLie_74 (by decide) ?_
      refine zV_topi (rOx e 2 0 (n - 1) (rO1 e lc w M)) e9.2.symm ?_
      exact zV_mem e9.1.symm (J75 _ _ _)
    · have e9 : (rO2 e lc n w M) = rNm e 0 (n - 1) (rWm e 2 (rO1 e lc w M)) ∧ rOx e 2 0 (n - 1) (rO1 e lc w M) = rNx e 0 (n - 1) (rWm e 2 (rO1 e lc w M)) := by unfold rO2 rOm rOx; rw [c_57, if_pos rfl, if_pos rfl]; exact ⟨rfl, rfl⟩
      refine zV_aload_n hX dX7_readLie_60 rfl ?_
      refine zV_iconst hX (v := nI 0) dX7_readLie_61 (by decide) ?_
      refine zV_aload_n hX dX7_readLie_62 rfl ?_
      refine zV_geti hX dX7_readLie_63 zf_X7_35 zo20.1 rfl (by exact (rSt_W h2 hy he).2.2.2.1) ?_
      refine zV_iconst hX (v := nI 1) dX7_readLie_66 (by decide) ?_
      refine zV_isubN hX dX7_readLie_67 (by omega) ?_
      refine zV_cV2p hX hR hl dX7_readLie_68 (zc_readNumber l G (rWm e 2 (rO1 e lc w M)) lc e n 0 (n - 1) (rSt_W h2 hy he) hy he (by omega) (by omega)) zt_X7_readNumber rfl zml_X7_61 zo20.1 ⟨by decide, by decide⟩ (Nat.le_of_ble_eq_true rfl) ?_
      dsimp only [Option.toList, List.cons_append, List.nil_append]
      refine zV_goto hX (tgt := 75) dX7_readLie_71 (by decide) ?_
      refine zV_topi (rOx e 2 0 (n - 1) (rO1 e lc w M)) e9.2.symm ?_
      exact zV_mem e9.1.symm (J75 _ _ _)
  have J31 : ∀ v2 v3 v4 v5 : Value, zV G X Q 6 0 0 31 [.ref (20 : Nat), .int (nI w), v2, v3, v4, v5] [] (rLa e lc w M) := by
    intro v2 v3 v4 v5
    refine zV_aload_n hX dX7_readLie_31 rfl ?_
    refine zV_ldcs hX (j := 1) dX7_readLie_32 zsr_X7_84 ?_
    refine zV_cV1p hX hR hl dX7_readLie_34 (zc_takesWord l G (rLa e lc w M) lc e n 1 h1 hy he (by decide)) zt_X7_takesWord rfl zml_X7_53 zo20.1 ⟨by decide, by decide⟩ (Nat.le_of_ble_eq_true rfl) ?_
    dsimp only [Option.toList, List.cons_append, List.nil_append]
    refine zV_if_eqB hX (tgt := 49) dX7_readLie_37 (by decide) (fun c_37 => ?_) (fun c_37 => ?_)
    · have e9 : (rO1 e lc w M) = rWm e 1 (rLa e lc w M) ∧ rOx e 1 1 3 (rLa e lc w M) = -1 := by unfold rO1 rOm rOx; rw [c_37, if_neg Bool.false_ne_true, if_neg Bool.false_ne_true]; exact ⟨rfl, rfl⟩
      refine zV_iconst hX (v := (-1)) dX7_readLie_49 (by decide) ?_
      refine zV_topi (rOx e 1 1 3 (rLa e lc w M)) e9.2.symm ?_
      exact zV_mem e9.1.symm (J50 _ _ _ _)
    · have e9 : (rO1 e lc w M) = rNm e 1 3 (rWm e 1 (rLa e lc w M)) ∧ rOx e 1 1 3 (rLa e lc w M) = rNx e 1 3 (rWm e 1 (rLa e lc w M)) := by unfold rO1 rOm rOx; rw [c_37, if_pos rfl, if_pos rfl]; exact ⟨rfl, rfl⟩
      refine zV_aload_n hX dX7_readLie_40 rfl ?_
      refine zV_iconst hX (v := nI 1) dX7_readLie_41 (by decide) ?_
      refine zV_iconst hX (v := nI 3) dX7_readLie_42 (by decide) ?_
      refine zV_cV2p hX hR hl dX7_readLie_43 (zc_readNumber l G (rWm e 1 (rLa e lc w M)) lc e n 1 3 (rSt_W h1 hy he) hy he (by omega) (by omega)) zt_X7_readNumber rfl zml_X7_61 zo20.1 ⟨by decide, by decide⟩ (Nat.le_of_ble_eq_true rfl) ?_
      dsimp only [Option.toList, List.cons_append, List.nil_append]
      refine zV_goto hX (tgt := 50) dX7_readLie_46 (by decide) ?_
      refine zV_topi (rOx e 1 1 3 (rLa e lc w M)) e9.2.symm ?_
      exact zV_mem e9.1.symm (J50 _ _ _ _)
  have J24 : ∀ (z9 : Int32) (v2 v3 v4 v5 : Value), rLa e lc w M = rFail z9 (nI (rSp e M)) (rS e M) → zV G X Q 6 0 0 24 [.ref (20 : Nat), .int (nI w), v2, v3, v4, v5] [.int z9, .ref (20 : Nat)] (rS e M) := by
    intro z9 v2 v3 v4 v5 e9
    refine zV_aload_n hX dX7_readLie_24 rfl ?_
    refine zV_cV0p hX hR hl dX7_readLie_25 (zc_startS l G M lc e n hM hy he) zt_X7_startOfToken rfl zml_X7_44 zo20.1 ⟨by decide, by decide⟩ (Nat.le_of_ble_eq_true rfl) ?_
    dsimp only [Option.toList, List.cons_append, List.nil_append]
    refine zV_cV2p hX hR hl dX7_readLie_28 (zc_rfail l G _ _ _) zt_X7_fail rfl zml_X7_57 zo20.1 ⟨by decide, by decide⟩ (Nat.le_of_ble_eq_true rfl) ?_
    dsimp only [Option.toList, List.cons_append, List.nil_append]
    exact zV_mem e9.symm (J31 _ _ _ _)
  refine zV_aload_n hX dX7_readLie_0 rfl ?_
  refine zV_getp hX dX7_readLie_1 zf_X7_18 zo20.1 rfl (by exact hM.2.2.2.2.1) (by have := hy.2.2; omega) ?_
  refine zV_iload_n hX dX7_readLie_4 rfl ?_
  refine zV_cV1p hX hR hl dX7_readLie_5 (zc_isFull l G M lc w (lyK lc w M) hy.1 hw (hM.2.2.2.2.2 w hw).1 (hM.2.2.2.2.2 w hw).2) zt_X4_isFull rfl zml_X7_103 hy.1.1 ⟨by decide, by decide⟩ (Nat.le_of_ble_eq_true rfl) ?_
  dsimp only [Option.toList, List.cons_append, List.nil_append]
  refine zV_if_eqB hX (tgt := 31) dX7_readLie_8 (by decide) (fun c_8 => ?_) (fun c_8 => ?_)
  · have e9 : rLa e lc w M = M := by unfold rLa; rw [if_neg (of_decide_eq_false c_8)]
    exact zV_mem e9.symm (J31 _ _ _ _)
  · have e9 : rLa e lc w M = rFail (if rLb e M then nI 3 else nI 1) (nI (rSp e M)) (rS e M) := by unfold rLa; rw [if_pos (of_decide_eq_true c_8)]
    refine zV_aload_n hX dX7_readLie_11 rfl ?_
    refine zV_aload_n hX dX7_readLie_12 rfl ?_
    refine zV_cV0p hX hR hl dX7_readLie_13 (zc_startsLie l G M lc e n hM hy he) zt_X7_startsLie rfl zml_X7_106 zo20.1 ⟨by decide, by decide⟩ (Nat.le_of_ble_eq_true rfl) ?_
    dsimp only [Option.toList, List.cons_append, List.nil_append]
    refine zV_if_eqB hX (tgt := 23) dX7_readLie_16 (by decide) (fun c_16 => ?_) (fun c_16 => ?_)
    · rw [c_16] at e9
      refine zV_iconst hX (v := nI 1) dX7_readLie_23 (by decide) ?_
      exact J24 _ _ _ _ _ e9
    · rw [c_16] at e9
      refine zV_iconst hX (v := nI 3) dX7_readLie_19 (by decide) ?_
      refine zV_goto hX (tgt := 24) dX7_readLie_20 (by decide) ?_
      exact J24 _ _ _ _ _ e9
def rLx (e lc n w : Nat) : Nat → zM → zM
  | 0, M => M
  | f + 1, M => if M.1 20 7 = 0 then (if rTb e (nI 125) M then rTm e (nI 125) M else rLx e lc n w f (rNd e (nI 59) (rLie e lc n w (rTm e (nI 125) M)))) else M
def rQ1 (e : Nat) (M : zM) : zM := if rWb e 0 M then rWm e 0 M else rFail (nI 1) (nI (rSp e M)) (rWm e 0 M)
def rQ2 (e n : Nat) (M : zM) : zM := rNm e 0 (n - 1) (rS e (rQ1 e M))
def rQv (e : Nat) (M : zM) : Nat := rNv e (rS e (rQ1 e M))
def rQ3 (e lc n : Nat) (M : zM) : zM := if (rQ2 e n M).1 20 7 = 0 ∧ bit ((rQ2 e n M).1 lc 0) (rQv e M) = true then rFail (nI 4) (nI (rSp e (rQ1 e M))) (rQ2 e n M) else rQ2 e n M
def rQ4 (e lc n : Nat) (M : zM) : zM := rNd e (nI 123) (rQ3 e lc n M)
def rLiar (e lc n : Nat) (M : zM) : zM :=
  if (rQ4 e lc n M).1 20 7 = 0 then rLx e lc n (rQv e M) 13 (zw (rQ4 e lc n M) lc 0 ((rQ4 e lc n M).1 lc 0 ||| (nI 1 <<< (nI (rQv e M) &&& 31))))
  else rQ4 e lc n M
theorem rSt_Lx {lc e n w : Nat} (hy : lyR lc) (he : e ≤ 300) : ∀ (f : Nat) {M : zM}, rSt lc e n M → rSt lc e n (rLx e lc n w f M)
  | 0, _, h => h
  | f + 1, _, h => by
    unfold rLx
    split
    · split
      · exact rSt_T h hy he
      · exact rSt_Lx hy he f (rSt_Nd (rSt_Lie (rSt_T h hy he) hy he) hy he)
    · exact h
theorem rSt_Q1 {lc e n : Nat} {M : zM} (h : rSt lc e n M) (hy : lyR lc) (he : e ≤ 300) : rSt lc e n (rQ1 e M) := by
  unfold rQ1
  split
  · exact rSt_W h hy he
  · exact rSt_fail (rSt_W h hy he) hy
theorem rSt_Q3 {lc e n : Nat} {M : zM} (h : rSt lc e n M) (hy : lyR lc) (he : e ≤ 300) : rSt lc e n (rQ3 e lc n M) := by
  have h2 : rSt lc e n (rQ2 e n M) := rSt_Nm (rSt_S (rSt_Q1 h hy he) hy he) hy he
  unfold rQ3
  split
  · exact rSt_fail h2 hy
  · exact h2
theorem rSt_li {lc e n : Nat} {x : Int32} {M : zM} (h : rSt lc e n M) (hy : lyR lc) : rSt lc e n (zw M lc 0 x) :=
  rSt_c h hy (fun j => zw_ne (by have := hy.2.1; omega)) (lyC_of h.2.2.2.2.2 (fun j => zw_ne (by omega)))
theorem rSt_Liar {lc e n : Nat} {M : zM} (h : rSt lc e n M) (hy : lyR lc) (he : e ≤ 300) : rSt lc e n (rLiar e lc n M) := by
  have h4 : rSt lc e n (rQ4 e lc n M) := rSt_Nd (rSt_Q3 h hy he) hy he
  unfold rLiar
  split
  · exact rSt_Lx hy he 13 (rSt_li h4 hy)
  · exact h4
theorem rNd_7 {e : Nat} {c : Int32} {M : zM} (h : (rNd e c M).1 20 7 = 0) : M.1 20 7 = 0 := by
  apply Classical.byContradiction
  intro hn
  unfold rNd at h
  have h1 : (rTm e c M).1 20 7 = M.1 20 7 := rTm_c (by omega)
  rw [rFail_7 (by rw [h1]; exact hn)] at h
  apply hn
  rw [← h1]
  split at h <;> exact h
theorem rFail_n {w p : Int32} {M : zM} (hw : ¬ w = 0) : ¬ (rFail w p M).1 20 7 = 0 := by
  unfold rFail
  split
  · rw [zw_ne (by omega), zw_same]; exact hw
  · assumption
theorem rQ3_7 {e lc n : Nat} {M : zM} (h : (rQ3 e lc n M).1 20 7 = 0) : (rQ2 e n M).1 20 7 = 0 := by
  unfold rQ3 at h
  split at h
  · exact absurd h (rFail_n (by decide))
  · exact h
set_option maxHeartbeats 1000000 in
theorem zc_readLiar (l : Launch) (G : zG) (M : zM) (lc e n : Nat) (hM : rSt lc e n M) (hy : lyR lc) (he : e ≤ 300) (hn : 3 ≤ n ∧ n ≤ 7) : zC l G 7 yX7_readLiar cX7_readLiar 4 (Option.none : Option Jvm.ClassFile.FieldType) [.ref (20 : Nat)] M (zP none (rLiar e lc n M)) := by
  refine zC_of (by decide) (Nat.le_of_ble_eq_true rfl) (fun X Q hQ hX hl hR hr => ?_)
  refine zV_loc (L' := [.ref (20 : Nat), .null, .null, .null]) rfl ?_
  have h1 : rSt lc e n (rQ1 e M) := rSt_Q1 hM hy he
  have hs : rSt lc e n (rS e (rQ1 e M)) := rSt_S h1 hy he
  have h2 : rSt lc e n (rQ2 e n M) := rSt_Nm hs hy he
  have h3 : rSt lc e n (rQ3 e lc n M) := rSt_Q3 hM hy he
  have h4 : rSt lc e n (rQ4 e lc n M) := rSt_Nd h3 hy he
  have L82 : (rQv e M) < 7 → ∀ (f9 i : Nat) (M1 : zM), 13 - i < f9 → i ≤ 13 → rSt lc e n M1 → rLx e lc n (rQv e M) (13 - i) M1 = rLiar e lc n M → zV G X Q 4 0 0 82 [.ref (20 : Nat), .int (nI (rSp e (rQ1 e M))), .int (nI (rQv e M)), .int (nI i)] [] M1 := by
    intro hq7
    intro f9
    induction f9 with
    | zero => intro i M1 hk1 hk2 hM1 hk3; exact absurd hk1 (Nat.not_lt_zero _)
    | succ f9 ih =>
      intro i M1 hk1 hk2 hM1 hk3
      refine zV_iload_n hX dX7_readLiar_82 rfl ?_
      refine zV_bipush hX (v := nI 12) dX7_readLiar_83 (by decide) ?_
      refine zV_icmp_gtN hX (tgt := 121) dX7_readLiar_85 (by decide) ⟨by omega, by omega⟩ (fun c_85 => ?_) (fun c_85 => ?_)
      · have e9 : rLiar e lc n M = M1 := by rw [← hk3, show 13 - i = 0 by omega]; rfl
        exact zV_retv hX hQ hr (⟨rfl, e9.symm⟩) dX7_readLiar_121
      · refine zV_aload_n hX dX7_readLiar_88 rfl ?_
        refine zV_geti hX dX7_readLiar_89 zf_X7_38 zo20.1 rfl rfl ?_
        refine zV_if_ne hX (tgt := 121) dX7_readLiar_92 (by decide) (fun c_92 => ?_) (fun c_92 => ?_)
        · have e9 : rLiar e lc n M = M1 := by rw [← hk3, show 13 - i = (12 - i) + 1 by omega, rLx, if_neg c_92]
          exact zV_retv hX hQ hr (⟨rfl, e9.symm⟩) dX7_readLiar_121
        · rw [show 13 - i = (12 - i) + 1 by omega, rLx, if_pos c_92] at hk3
          refine zV_aload_n hX dX7_readLiar_95 rfl ?_
          refine zV_bipush hX (v := nI 125) dX7_readLiar_96 (by decide) ?_
          refine zV_cV1p hX hR hl dX7_readLiar_98 (zc_takesSign l G M1 lc e n (nI 125) hM1 hy he) zt_X7_takesSign rfl zml_X7_77 zo20.1 ⟨by decide, by decide⟩ (Nat.le_of_ble_eq_true rfl) ?_
          dsimp only [Option.toList, List.cons_append, List.nil_append]
          refine zV_if_neB hX (tgt := 121) dX7_readLiar_101 (by decide) (fun c_101 => ?_) (fun c_101 => ?_)
          · have e9 : rLiar e lc n M = rTm e (nI 125) M1 := by rw [← hk3, if_pos c_101]
            exact zV_retv hX hQ hr (⟨rfl, e9.symm⟩) dX7_readLiar_121
          · rw [if_neg (by rw [c_101]; decide)] at hk3
            refine zV_aload_n hX dX7_readLiar_104 rfl ?_
            refine zV_iload_n hX dX7_readLiar_105 rfl ?_
            refine zV_cV1p hX hR hl dX7_readLiar_106 (zc_readLie l G _ lc e n (rQv e M) (rSt_T hM1 hy he) hy he hn (by omega)) zt_X7_readLie rfl zml_X7_81 zo20.1 ⟨by decide, by decide⟩ (Nat.le_of_ble_eq_true rfl) ?_
            dsimp only [Option.toList, List.cons_append, List.nil_append]
            refine zV_aload_n hX dX7_readLiar_109 rfl ?_
            refine zV_bipush hX (v := nI 59) dX7_readLiar_110 (by decide) ?_
            refine zV_cV1p hX hR hl dX7_readLiar_112 (zc_needSign l G _ lc e n (nI 59) (rSt_Lie (rSt_T hM1 hy he) hy he) hy he) zt_X7_needSign rfl zml_X7_69 zo20.1 ⟨by decide, by decide⟩ (Nat.le_of_ble_eq_true rfl) ?_
            dsimp only [Option.toList, List.cons_append, List.nil_append]
            refine zV_iincN hX (b := 1) dX7_readLiar_115 rfl (by decide) ?_
            dsimp only [zst1, zst2, zclr, zc2]
            refine zV_goto hX (tgt := 82) dX7_readLiar_118 (by decide) ?_
            exact ih (i + 1) _ (by omega) (by omega) (rSt_Nd (rSt_Lie (rSt_T hM1 hy he) hy he) hy he) (by rw [show 13 - (i + 1) = 12 - i by omega]; exact hk3)
  have J59 : ∀ v3 : Value, zV G X Q 4 0 0 59 [.ref (20 : Nat), .int (nI (rSp e (rQ1 e M))), .int (rNx e 0 (n - 1) (rS e (rQ1 e M))), v3] [] (rQ3 e lc n M) := by
    intro v3
    refine zV_aload_n hX dX7_readLiar_59 rfl ?_
    refine zV_bipush hX (v := nI 123) dX7_readLiar_60 (by decide) ?_
    refine zV_cV1p hX hR hl dX7_readLiar_62 (zc_needSign l G (rQ3 e lc n M) lc e n (nI 123) h3 hy he) zt_X7_needSign rfl zml_X7_69 zo20.1 ⟨by decide, by decide⟩ (Nat.le_of_ble_eq_true rfl) ?_
    dsimp only [Option.toList, List.cons_append, List.nil_append]
    refine zV_mem (show _ = (rQ4 e lc n M) from rfl) ?_
    refine zV_aload_n hX dX7_readLiar_65 rfl ?_
    refine zV_geti hX dX7_readLiar_66 zf_X7_38 zo20.1 rfl rfl ?_
    refine zV_if_ne hX (tgt := 121) dX7_readLiar_69 (by decide) (fun c_69 => ?_) (fun c_69 => ?_)
    · have e9 : rLiar e lc n M = (rQ4 e lc n M) := by unfold rLiar; rw [if_neg c_69]
      exact zV_retv hX hQ hr (⟨rfl, e9.symm⟩) dX7_readLiar_121
    · have e9 : rLiar e lc n M = rLx e lc n (rQv e M) 13 (zw (rQ4 e lc n M) lc 0 ((rQ4 e lc n M).1 lc 0 ||| (nI 1 <<< (nI (rQv e M) &&& 31)))) := by unfold rLiar; rw [if_pos c_69]
      have hq2 : (rQ2 e n M).1 20 7 = 0 := rQ3_7 (by have h := c_69; unfold rQ4 at h; exact rNd_7 h)
      have hq3 : (rNm e 0 (n - 1) (rS e (rQ1 e M))).1 20 7 = 0 := by have h := hq2; unfold rQ2 at h; exact h
      have hv9 : (rQv e M) ≤ n - 1 := (rNm_v hq3).2
      refine zV_loc (L' := [.ref (20 : Nat), .int (nI (rSp e (rQ1 e M))), .int (nI (rQv e M)), v3]) (by rw [show (rNx e 0 (n - 1) (rS e (rQ1 e M))) = nI (rQv e M) by unfold rNx; rw [if_pos hq3]; rfl]) ?_
      refine zV_aload_n hX dX7_readLiar_72 rfl ?_
      refine zV_getp hX dX7_readLiar_73 zf_X7_18 zo20.1 rfl (by exact h4.2.2.2.2.1) (by have := hy.2.2; omega) ?_
      refine zV_iload_n hX dX7_readLiar_76 rfl ?_
      refine zV_cV1p hX hR hl dX7_readLiar_77 (zc_addLiar l G (rQ4 e lc n M) lc (rQv e M) hy.1) zt_X4_addLiar rfl zml_X7_73 hy.1.1 ⟨by decide, by decide⟩ (Nat.le_of_ble_eq_true rfl) ?_
      dsimp only [Option.toList, List.cons_append, List.nil_append]
      refine zV_iconst hX (v := nI 0) dX7_readLiar_80 (by decide) ?_
      refine zV_istore_n hX dX7_readLiar_81 (by decide) ?_
      dsimp only [zst1, zst2, zclr, zc2]
      exact L82 (by omega) 14 0 _ (by omega) (by omega) (rSt_li h4 hy) e9.symm
  have J18 : ∀ v1 v2 v3 : Value, zV G X Q 4 0 0 18 [.ref (20 : Nat), v1, v2, v3] [] (rQ1 e M) := by
    intro v1 v2 v3
    refine zV_aload_n hX dX7_readLiar_18 rfl ?_
    refine zV_cV0p hX hR hl dX7_readLiar_19 (zc_start l G (rQ1 e M) lc e n h1 hy he) zt_X7_startOfToken rfl zml_X7_44 zo20.1 ⟨by decide, by decide⟩ (Nat.le_of_ble_eq_true rfl) ?_
    dsimp only [Option.toList, List.cons_append, List.nil_append]
    refine zV_istore_n hX dX7_readLiar_22 (by decide) ?_
    dsimp only [zst1, zst2, zclr, zc2]
    refine zV_aload_n hX dX7_readLiar_23 rfl ?_
    refine zV_iconst hX (v := nI 0) dX7_readLiar_24 (by decide) ?_
    refine zV_aload_n hX dX7_readLiar_25 rfl ?_
    refine zV_geti hX dX7_readLiar_26 zf_X7_35 zo20.1 rfl (by exact hs.2.2.2.1) ?_
    refine zV_iconst hX (v := nI 1) dX7_readLiar_29 (by decide) ?_
    refine zV_isubN hX dX7_readLiar_30 (by omega) ?_
    refine zV_cV2p hX hR hl dX7_readLiar_31 (zc_readNumber l G (rS e (rQ1 e M)) lc e n 0 (n - 1) hs hy he (by decide) (by omega)) zt_X7_readNumber rfl zml_X7_61 zo20.1 ⟨by decide, by decide⟩ (Nat.le_of_ble_eq_true rfl) ?_
    dsimp only [Option.toList, List.cons_append, List.nil_append]
    refine zV_mem (show _ = (rQ2 e n M) from rfl) ?_
    refine zV_istore_n hX dX7_readLiar_34 (by decide) ?_
    dsimp only [zst1, zst2, zclr, zc2]
    refine zV_aload_n hX dX7_readLiar_35 rfl ?_
    refine zV_geti hX dX7_readLiar_36 zf_X7_38 zo20.1 rfl rfl ?_
    refine zV_if_ne hX (tgt := 59) dX7_readLiar_39 (by decide) (fun c_39 => ?_) (fun c_39 => ?_)
    · have e9 : (rQ3 e lc n M) = (rQ2 e n M) := by unfold rQ3; rw [if_neg (fun q => c_39 q.1)]
      exact zV_mem e9.symm (J59 _)
    · refine zV_aload_n hX dX7_readLiar_42 rfl ?_
      refine zV_getp hX dX7_readLiar_43 zf_X7_18 zo20.1 rfl (by exact h2.2.2.2.2.1) (by have := hy.2.2; omega) ?_
      refine zV_iload_n hX dX7_readLiar_46 rfl ?_
      refine zV_topi (nI (rQv e M)) (by unfold rNx; rw [if_pos (by have h := c_39; unfold rQ2 at h; exact h)]; rfl) ?_
      refine zV_cV1p hX hR hl dX7_readLiar_47 (zc_isLiar l G (rQ2 e n M) lc (rQv e M) hy.1) zt_X4_isLiar rfl zml_X7_65 hy.1.1 ⟨by decide, by decide⟩ (Nat.le_of_ble_eq_true rfl) ?_
      dsimp only [Option.toList, List.cons_append, List.nil_append]
      refine zV_if_eqB hX (tgt := 59) dX7_readLiar_50 (by decide) (fun c_50 => ?_) (fun c_50 => ?_)
      · have e9 : (rQ3 e lc n M) = (rQ2 e n M) := by unfold rQ3; rw [if_neg (fun q => by rw [c_50] at q; exact absurd q.2 (by decide))]
        exact zV_mem e9.symm (J59 _)
      · have e9 : (rQ3 e lc n M) = rFail (nI 4) (nI (rSp e (rQ1 e M))) (rQ2 e n M) := by unfold rQ3; rw [if_pos ⟨c_39, c_50⟩]
        refine zV_aload_n hX dX7_readLiar_53 rfl ?_
        refine zV_iconst hX (v := nI 4) dX7_readLiar_54 (by decide) ?_
        refine zV_iload_n hX dX7_readLiar_55 rfl ?_
        refine zV_cV2p hX hR hl dX7_readLiar_56 (zc_rfail l G _ _ _) zt_X7_fail rfl zml_X7_57 zo20.1 ⟨by decide, by decide⟩ (Nat.le_of_ble_eq_true rfl) ?_
        dsimp only [Option.toList, List.cons_append, List.nil_append]
        exact zV_mem e9.symm (J59 _)
  refine zV_aload_n hX dX7_readLiar_0 rfl ?_
  refine zV_ldcs hX (j := 0) dX7_readLiar_1 zsr_X7_51 ?_
  refine zV_cV1p hX hR hl dX7_readLiar_3 (zc_takesWord l G M lc e n 0 hM hy he (by decide)) zt_X7_takesWord rfl zml_X7_53 zo20.1 ⟨by decide, by decide⟩ (Nat.le_of_ble_eq_true rfl) ?_
  dsimp only [Option.toList, List.cons_append, List.nil_append]
  refine zV_if_neB hX (tgt := 18) dX7_readLiar_6 (by decide) (fun c_6 => ?_) (fun c_6 => ?_)
  · have e9 : (rQ1 e M) = rWm e 0 M := by unfold rQ1; rw [if_pos c_6]
    exact zV_mem e9.symm (J18 _ _ _)
  · have e9 : (rQ1 e M) = rFail (nI 1) (nI (rSp e M)) (rWm e 0 M) := by unfold rQ1; rw [if_neg (by rw [c_6]; decide)]
    refine zV_aload_n hX dX7_readLiar_9 rfl ?_
    refine zV_iconst hX (v := nI 1) dX7_readLiar_10 (by decide) ?_
    refine zV_aload_n hX dX7_readLiar_11 rfl ?_
    refine zV_geti hX (x := nI (rSp e M)) dX7_readLiar_12 zf_X7_29 zo20.1 rfl (by rw [rWm, c_6]; exact zw_same) ?_
    refine zV_cV2p hX hR hl dX7_readLiar_15 (zc_rfail l G _ _ _) zt_X7_fail rfl zml_X7_57 zo20.1 ⟨by decide, by decide⟩ (Nat.le_of_ble_eq_true rfl) ?_
    dsimp only [Option.toList, List.cons_append, List.nil_append]
    exact zV_mem e9.symm (J18 _ _ _)
def rLo (e lc n : Nat) : Nat → zM → zM
  | 0, M => M
  | f + 1, M => if M.1 20 7 = 0 then (if rSp e M < e then rLo e lc n f (rLiar e lc n (rS e M)) else rS e M) else M
def rBe (lc e n : Nat) (M : zM) : zM := lClear lc (zw (zw (zw (zw (zw (zw M 20 4 (nI 0)) 20 5 (nI e)) 20 6 (nI n)) 20 7 (nI 0)) 20 1 (-1)) 20 0 (nI 0))
def rRead (lc e n : Nat) (M : zM) : zM := rLo e lc n 301 (rBe lc e n M)
theorem lClear_c {c : Nat} {M : zM} {b j : Nat} (h : b < c ∨ (c < b ∧ b ≠ c + 1 + 1)) : (lClear c M).1 b j = M.1 b j := by
  have hz : ∀ k, (zfor (fun i M => zw M (c + 1 + 1) i (nI 0)) k (zw M c 0 (nI 0))).1 b j = M.1 b j := fun k => by
    induction k with
    | zero => exact zw_ne (by omega)
    | succ k ih => show (zw (zfor _ k _) _ _ _).1 b j = _; rw [zw_ne (by omega)]; exact ih
  exact hz 7
theorem lClear_k {c : Nat} {M : zM} {m : Nat} (h : m < 7) : (lClear c M).1 (c + 1 + 1) m = nI 0 := by
  have hz : ∀ k, m < k → (zfor (fun i M => zw M (c + 1 + 1) i (nI 0)) k (zw M c 0 (nI 0))).1 (c + 1 + 1) m = nI 0 := fun k => by
    induction k with
    | zero => exact fun h => absurd h (Nat.not_lt_zero m)
    | succ k ih =>
      intro hk
      show (zw (zfor _ k _) _ _ _).1 _ m = _
      rw [zw_at]
      split
      · rfl
      · rename_i hn
        have : m ≠ k := fun q => hn ⟨rfl, q⟩
        exact ih (by omega)
  exact hz 7 h
theorem rBe_st {lc e n : Nat} {M : zM} (hy : lyR lc) (hp : M.1 20 2 = nI lc) : rSt lc e n (rBe lc e n M) := by
  have hz : ∀ j, (rBe lc e n M).1 20 j = (zw (zw (zw (zw (zw (zw M 20 4 (nI 0)) 20 5 (nI e)) 20 6 (nI n)) 20 7 (nI 0)) 20 1 (-1)) 20 0 (nI 0)).1 20 j := fun j => lClear_c (by have := hy.2.1; omega)
  have h4 : (rBe lc e n M).1 20 4 = nI 0 := by rw [hz, zw_ne (by omega), zw_ne (by omega), zw_ne (by omega), zw_ne (by omega), zw_ne (by omega), zw_same]
  have hA : rA (rBe lc e n M) = 0 := by unfold rA; rw [h4]; rfl
  refine ⟨by rw [hA]; exact h4, by rw [hA]; exact Nat.zero_le _, ?_, ?_, ?_, fun m hm => ?_⟩
  · rw [hz, zw_ne (by omega), zw_ne (by omega), zw_ne (by omega), zw_ne (by omega), zw_same]
  · rw [hz, zw_ne (by omega), zw_ne (by omega), zw_ne (by omega), zw_same]
  · rw [hz, zw_ne (by omega), zw_ne (by omega), zw_ne (by omega), zw_ne (by omega), zw_ne (by omega), zw_ne (by omega), hp]
  · unfold rBe
    rw [lClear_k hm]
    exact ⟨rfl, by decide⟩
theorem rSt_Lo {lc e n : Nat} (hy : lyR lc) (he : e ≤ 300) : ∀ (f : Nat) {M : zM}, rSt lc e n M → rSt lc e n (rLo e lc n f M)
  | 0, _, h => h
  | f + 1, _, h => by
    unfold rLo
    split
    · split
      · exact rSt_Lo hy he f (rSt_Liar (rSt_S h hy he) hy he)
      · exact rSt_S h hy he
    · exact h
set_option maxHeartbeats 1000000 in
theorem zc_read (l : Launch) (G : zG) (M : zM) (lc e n : Nat) (hp : M.1 20 2 = nI lc) (hy : lyR lc) (he : e ≤ 300) (hn : 3 ≤ n ∧ n ≤ 7) : zC l G 8 yX7_read cX7_read 4 (Option.some Jvm.ClassFile.FieldType.int) [.ref (20 : Nat), .int (nI e), .int (nI n)] M (zP (some (.int ((rRead lc e n M).1 20 7))) (rRead lc e n M)) := by
  refine zC_of (by decide) (Nat.le_of_ble_eq_true rfl) (fun X Q hQ hX hl hR hr => ?_)
  refine zV_loc (L' := [.ref (20 : Nat), .int (nI e), .int (nI n), .null]) rfl ?_
  have L39 : ∀ (f9 i : Nat) (M1 : zM), 301 - i < f9 → i ≤ 301 → rSt lc e n M1 → rLo e lc n (301 - i) M1 = rRead lc e n M → zV G X Q 4 0 0 39 [.ref (20 : Nat), .int (nI e), .int (nI n), .int (nI i)] [] M1 := by
    intro f9
    induction f9 with
    | zero => intro i M1 hk1 hk2 hM1 hk3; exact absurd hk1 (Nat.not_lt_zero _)
    | succ f9 ih =>
      intro i M1 hk1 hk2 hM1 hk3
      refine zV_iload_n hX dX7_read_39 rfl ?_
      refine zV_sipush hX (v := nI 300) dX7_read_40 (by decide) ?_
      refine zV_icmp_gtN hX (tgt := 74) dX7_read_43 (by decide) ⟨by omega, by omega⟩ (fun c_43 => ?_) (fun c_43 => ?_)
      · have e9 : rRead lc e n M = M1 := by rw [← hk3, show 301 - i = 0 by omega]; rfl
        refine zV_aload_n hX dX7_read_74 rfl ?_
        refine zV_geti hX dX7_read_75 zf_X7_38 zo20.1 rfl rfl ?_
        exact zV_reti hX hQ hr (⟨by rw [e9], e9.symm⟩) dX7_read_78
      · refine zV_aload_n hX dX7_read_46 rfl ?_
        refine zV_geti hX dX7_read_47 zf_X7_38 zo20.1 rfl rfl ?_
        refine zV_if_ne hX (tgt := 74) dX7_read_50 (by decide) (fun c_50 => ?_) (fun c_50 => ?_)
        · have e9 : rRead lc e n M = M1 := by rw [← hk3, show 301 - i = (300 - i) + 1 by omega, rLo, if_neg c_50]
          refine zV_aload_n hX dX7_read_74 rfl ?_
          refine zV_geti hX dX7_read_75 zf_X7_38 zo20.1 rfl rfl ?_
          exact zV_reti hX hQ hr (⟨by rw [e9], e9.symm⟩) dX7_read_78
        · rw [show 301 - i = (300 - i) + 1 by omega, rLo, if_pos c_50] at hk3
          refine zV_aload_n hX dX7_read_53 rfl ?_
          refine zV_cV0p hX hR hl dX7_read_54 (zc_start l G M1 lc e n hM1 hy he) zt_X7_startOfToken rfl zml_X7_44 zo20.1 ⟨by decide, by decide⟩ (Nat.le_of_ble_eq_true rfl) ?_
          dsimp only [Option.toList, List.cons_append, List.nil_append]
          refine zV_aload_n hX dX7_read_57 rfl ?_
          refine zV_geti hX dX7_read_58 zf_X7_32 zo20.1 rfl (by exact (rSt_S hM1 hy he).2.2.1) ?_
          refine zV_icmp_geN hX (tgt := 74) dX7_read_61 (by decide) ⟨by have := rSp_le hM1; omega, by omega⟩ (fun c_61 => ?_) (fun c_61 => ?_)
          · have e9 : rRead lc e n M = rS e M1 := by rw [← hk3, if_neg (by omega)]
            refine zV_aload_n hX dX7_read_74 rfl ?_
            refine zV_geti hX dX7_read_75 zf_X7_38 zo20.1 rfl rfl ?_
            exact zV_reti hX hQ hr (⟨by rw [e9], e9.symm⟩) dX7_read_78
          · rw [if_pos c_61] at hk3
            refine zV_aload_n hX dX7_read_64 rfl ?_
            refine zV_cV0p hX hR hl dX7_read_65 (zc_readLiar l G _ lc e n (rSt_S hM1 hy he) hy he hn) zt_X7_readLiar rfl zml_X7_48 zo20.1 ⟨by decide, by decide⟩ (Nat.le_of_ble_eq_true rfl) ?_
            dsimp only [Option.toList, List.cons_append, List.nil_append]
            refine zV_iincN hX (b := 1) dX7_read_68 rfl (by decide) ?_
            dsimp only [zst1, zst2, zclr, zc2]
            refine zV_goto hX (tgt := 39) dX7_read_71 (by decide) ?_
            exact ih (i + 1) _ (by omega) (by omega) (rSt_Liar (rSt_S hM1 hy he) hy he) (by rw [show 301 - (i + 1) = 300 - i by omega]; exact hk3)
  refine zV_aload_n hX dX7_read_0 rfl ?_
  refine zV_iconst hX (v := nI 0) dX7_read_1 (by decide) ?_
  refine zV_puti hX dX7_read_2 zf_X7_29 zp_6_4 zo20.1 rfl ?_
  refine zV_aload_n hX dX7_read_5 rfl ?_
  refine zV_iload_n hX dX7_read_6 rfl ?_
  refine zV_puti hX dX7_read_7 zf_X7_32 zp_6_5 zo20.1 rfl ?_
  refine zV_aload_n hX dX7_read_10 rfl ?_
  refine zV_iload_n hX dX7_read_11 rfl ?_
  refine zV_puti hX dX7_read_12 zf_X7_35 zp_6_6 zo20.1 rfl ?_
  refine zV_aload_n hX dX7_read_15 rfl ?_
  refine zV_iconst hX (v := nI 0) dX7_read_16 (by decide) ?_
  refine zV_puti hX dX7_read_17 zf_X7_38 zp_6_7 zo20.1 rfl ?_
  refine zV_aload_n hX dX7_read_20 rfl ?_
  refine zV_iconst hX (v := (-1)) dX7_read_21 (by decide) ?_
  refine zV_puti hX dX7_read_22 zf_X7_9 zp_6_1 zo20.1 rfl ?_
  refine zV_aload_n hX dX7_read_25 rfl ?_
  refine zV_iconst hX (v := nI 0) dX7_read_26 (by decide) ?_
  refine zV_puti hX dX7_read_27 zf_X7_26 zp_6_0 zo20.1 rfl ?_
  refine zV_aload_n hX dX7_read_30 rfl ?_
  refine zV_getp hX dX7_read_31 zf_X7_18 zo20.1 rfl (by rw [zw_ne (by omega), zw_ne (by omega), zw_ne (by omega), zw_ne (by omega), zw_ne (by omega), zw_ne (by omega), hp]) (by have := hy.2.2; omega) ?_
  refine zV_cV0p hX hR hl dX7_read_34 (zc_lclear l G _ lc hy.1) zt_X4_clear rfl zml_X7_41 hy.1.1 ⟨by decide, by decide⟩ (Nat.le_of_ble_eq_true rfl) ?_
  dsimp only [Option.toList, List.cons_append, List.nil_append]
  refine zV_iconst hX (v := nI 0) dX7_read_37 (by decide) ?_
  refine zV_istore_n hX dX7_read_38 (by decide) ?_
  dsimp only [zst1, zst2, zclr, zc2]
  exact L39 302 0 _ (by omega) (by omega) (rBe_st hy hp) rfl
set_option maxHeartbeats 1000000 in
theorem zc_hasRoom (l : Launch) (G : zG) (M : zM) (k : Nat) (hs : M.1 20 0 = nI k) (hk : k ≤ 300) : zC l G 0 yX7_hasRoom cX7_hasRoom 1 (Option.some Jvm.ClassFile.FieldType.boolean) [.ref (20 : Nat)] M (zP (some (.int (zb (decide (k ≤ 280))))) M) := by
  refine zC_of (by decide) (Nat.le_of_ble_eq_true rfl) (fun X Q hQ hX hl hR hr => ?_)
  refine zV_loc (L' := [.ref (20 : Nat)]) rfl ?_
  refine zV_aload_n hX dX7_hasRoom_0 rfl ?_
  refine zV_geti hX dX7_hasRoom_1 zf_X7_26 zo20.1 rfl (hs) ?_
  refine zV_sipush hX (v := nI 280) dX7_hasRoom_4 (by decide) ?_
  refine zV_icmp_gtN hX (tgt := 14) dX7_hasRoom_7 (by decide) ⟨by omega, by omega⟩ (fun c_7 => ?_) (fun c_7 => ?_)
  · have e9 : decide (k ≤ 280) = false := decide_eq_false (by omega)
    refine zV_iconst hX (v := nI 0) dX7_hasRoom_14 (by decide) ?_
    exact zV_retz hX hQ hr (rfl) (⟨by rw [e9]; rfl, rfl⟩) dX7_hasRoom_15
  · have e9 : decide (k ≤ 280) = true := decide_eq_true (by omega)
    refine zV_iconst hX (v := nI 1) dX7_hasRoom_10 (by decide) ?_
    refine zV_goto hX (tgt := 15) dX7_hasRoom_11 (by decide) ?_
    exact zV_retz hX hQ hr (rfl) (⟨by rw [e9]; rfl, rfl⟩) dX7_hasRoom_15
def rSh (q : Nat) : Int32 := nI 24 - nI (8 * q)
def rBy (x : Int32) (q : Nat) : Int32 := (x >>> (rSh q &&& 31)) &&& nI 255
/-- q bytes of x on the tape, behind the first k -/
def rAq (x : Int32) (k : Nat) : Nat → zM → zM
  | 0, M => M
  | q + 1, M => zw (zw (rAq x k q M) 24 (k + q) (rBy x q)) 20 0 (nI (k + q + 1))
theorem rSh_s : ∀ q, q < 4 → rSh q + Int32.ofInt (-8) = rSh (q + 1) := by decide
theorem rSh_p : ∀ q, q < 4 → ¬ rSh q < 0 := by decide
theorem rAq_0 {x : Int32} {k q : Nat} {M : zM} (h : M.1 20 0 = nI k) : (rAq x k q M).1 20 0 = nI (k + q) := by
  cases q with
  | zero => exact h
  | succ q => exact zw_same
set_option maxHeartbeats 1000000 in
theorem zc_append (l : Launch) (G : zG) (M : zM) (k : Nat) (x : Int32) (hs : M.1 20 0 = nI k) (hk : k ≤ 296) : zC l G 0 yX7_append cX7_append 3 (Option.none : Option Jvm.ClassFile.FieldType) [.ref (20 : Nat), .int x] M (zP none (rAq x k 4 M)) := by
  refine zC_of (by decide) (Nat.le_of_ble_eq_true rfl) (fun X Q hQ hX hl hR hr => ?_)
  refine zV_loc (L' := [.ref (20 : Nat), .int x, .null]) rfl ?_
  have L3 : ∀ (f9 q : Nat), 4 - q < f9 → q ≤ 4 → zV G X Q 3 0 0 3 [.ref (20 : Nat), .int x, .int (rSh q)] [] (rAq x k q M) := by
    intro f9
    induction f9 with
    | zero => intro q hk1 hk2; exact absurd hk1 (Nat.not_lt_zero _)
    | succ f9 ih =>
      intro q hk1 hk2
      refine zV_iload_n hX dX7_append_3 rfl ?_
      refine zV_if_lt hX (tgt := 49) dX7_append_4 (by decide) (fun c_4 => ?_) (fun c_4 => ?_)
      · have e9 : q = 4 := Nat.le_antisymm hk2 (Nat.le_of_not_lt (fun h => rSh_p q h c_4))
        exact zV_retv hX hQ hr (⟨rfl, by rw [e9]⟩) dX7_append_49
      · have e9 : q < 4 := Nat.lt_of_le_of_ne hk2 (fun h => c_4 (by rw [h]; decide))
        refine zV_aload_n hX dX7_append_7 rfl ?_
        refine zV_geti hX dX7_append_8 zf_X7_26 zo20.1 rfl (rAq_0 hs) ?_
        refine zV_sipush hX (v := nI 300) dX7_append_11 (by decide) ?_
        refine zV_icmp_geN hX (tgt := 49) dX7_append_14 (by decide) ⟨by omega, by omega⟩ (fun c_14 => absurd c_14 (by omega)) (fun c_14 => ?_)
        refine zV_aload_n hX dX7_append_17 rfl ?_
        refine zV_geta hX dX7_append_18 zf_X7_22 zo20.1 rfl ?_
        refine zV_aload_n hX dX7_append_21 rfl ?_
        refine zV_geti hX dX7_append_22 zf_X7_26 zo20.1 rfl (rAq_0 hs) ?_
        refine zV_iload_n hX dX7_append_25 rfl ?_
        refine zV_iload_n hX dX7_append_26 rfl ?_
        refine zV_ishr hX dX7_append_27 ?_
        refine zV_sipush hX (v := nI 255) dX7_append_28 (by decide) ?_
        refine zV_iand hX dX7_append_31 ?_
        refine zV_iast hX dX7_append_32 (zo20.a 3 rfl) (rfl) ⟨by omega, by omega⟩ ?_
        refine zV_aload_n hX dX7_append_33 rfl ?_
        refine zV_dup hX dX7_append_34 rfl ?_
        refine zV_geti hX dX7_append_35 zf_X7_26 zo20.1 rfl ((zw_ne (by omega)).trans (rAq_0 hs)) ?_
        refine zV_iconst hX (v := nI 1) dX7_append_38 (by decide) ?_
        refine zV_iaddN hX dX7_append_39 ?_
        refine zV_puti hX dX7_append_40 zf_X7_26 zp_6_0 zo20.1 rfl ?_
        refine zV_iinc hX dX7_append_43 rfl (rSh_s q e9) (by decide) ?_
        dsimp only [zst1, zst2, zclr, zc2]
        refine zV_goto hX (tgt := 3) dX7_append_46 (by decide) ?_
        exact ih (q + 1) (by omega) (by omega)
  refine zV_bipush hX (v := nI 24) dX7_append_0 (by decide) ?_
  refine zV_istore_n hX dX7_append_2 (by decide) ?_
  dsimp only [zst1, zst2, zclr, zc2]
  exact L3 5 0 (by omega) (by omega)
