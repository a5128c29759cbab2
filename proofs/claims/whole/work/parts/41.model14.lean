theorem zMet_ofF {l : Launch} {y : MethodName} {ws ws' : List Cond} {rm : Room} {Pc : Array Value → State → Prop} {Qc : Array Value → State → Outcome → State → Prop} {mc ms : Nat} {free : Addr → Prop} {cc : ByteArray} {maxL : Nat} {ret : Option FieldType}
    (hy : plainFor y = true) (hw : ws = Cond.code y cc maxL ret :: ws')
    (body : ∀ p e s m args below meth c s₁, BodyLoose p l y (headSpec ws rm) cc maxL ret e s m args below meth c s₁ → c.maxLocals = maxL → Pc args s →
      W p l e (headSpec ws rm).room s m args below meth c s.heap [] 0 0 (MQ below Qc args s mc ms free) (entryFrame m args maxL)) : Met l y ws rm Pc Qc mc ms free := by
  refine MetFree.of_bodySF (code := cc) (maxLocals := maxL) (ret := ret) hy ?_ ?_
  · intro args s m h hn
    obtain ⟨meth, c, h1, h2, h3, h4, h5, h6, -, -⟩ := Cond.code_spec hn (atoms_spec (ws := ws) h _ (by rw [hw]; exact List.mem_cons_self))
    exact ⟨meth, c, h1, h2, h3, h4, h5, h6⟩
  · intro p e s m args below meth c s₁ B hml hP _
    have hh0 : s₁.heap = s.heap := by rw [B.state]; rfl
    obtain ⟨t, a1, o, b1, b2, b3⟩ := body p e s m args below meth c s₁ B hml hP s₁ hh0 (Stand.of_body B)
    exact ⟨t, o, a1, b1, b2, ⟨b3.1, b3.2⟩⟩
theorem zC_ofF {G : zG} {M : zM} {l : Launch} {d : Nat} {y : MethodName} {cc : ByteArray} {nL : Nat} {ret : Option FieldType} {av : List Value} {post : Option Value → zM → Prop} (hy : plainFor y = true) (hn : (lg_sl (av.map (zv G))).length ≤ nL)
    (body : ∀ (X : zX) (Q : State → Prop), zQ G X post = Q → zOk G X y.cls cc nL → X.2.1 = l → X.2.2.2.1 = zRm d → X.2.2.2.2.2.2.2.2.1.sig.returnType = ret → zV G X Q nL 0 0 0 (zE av ++ List.replicate (nL - (zE av).length) .null) [] M) : zC l G d y cc nL ret av M post := by
  intro sz
  refine zMet_ofF (cc := cc) (maxL := nL) (ret := ret) hy rfl ?_
  intro p e s m args below meth c s₁ B hml hv
  obtain ⟨rfl, hsz, hW, hK, hSt⟩ := hv
  subst hsz
  have hts := atoms_spec (ws := .code y cc nL ret :: zT) B.pre
  have hl := lv_entry (av.map (zv G)) (n := nL) hn
  have hb := body (p, l, e, zRm d, s, m, (av.map (zv G)).toArray, below, meth, c) _ rfl ⟨B.exec, B.bytes, hml, findClass_of_methodNamed B.named, fun w hw => hts w (List.mem_cons_of_mem _ hw), hK, hSt, B.notSynchronized⟩ rfl rfl B.returns
  rw [lg_entry_eq]
  exact hb s.heap [] _ hW va_S.rf ⟨hl.1, hl.2.1, fun q hq => hl.2.2 q (zE_in av 0 q (zL_pad _ _ _ q hq))⟩
theorem znl_Jxf58ca_74 : Cond.methodLink RJxf58ca 74 ⟨"java/lang/Float", "floatToRawIntBits", "(F)I"⟩ ∈ zT := zT7 116 (by decide +kernel) rfl
theorem zns_f2i : Cond.static ⟨"java/lang/Float", "floatToRawIntBits", "(F)I"⟩ ∈ zT := zT7 117 (by decide +kernel) rfl
theorem znn_f2i : Cond.native ⟨"java/lang/Float", "floatToRawIntBits", "(F)I"⟩ ∈ zT := zT7 118 (by decide +kernel) rfl
theorem znl_X11_158 : Cond.methodLink RX11 158 ⟨"java/lang/Float", "intBitsToFloat", "(I)F"⟩ ∈ zT := zT9 20 (by decide +kernel) rfl
theorem zns_i2f : Cond.static ⟨"java/lang/Float", "intBitsToFloat", "(I)F"⟩ ∈ zT := zT9 21 (by decide +kernel) rfl
theorem znn_i2f : Cond.native ⟨"java/lang/Float", "intBitsToFloat", "(I)F"⟩ ∈ zT := zT9 22 (by decide +kernel) rfl
theorem znl_Jxe99ae_134 : Cond.methodLink RJxe99ae 134 ⟨"java/lang/Double", "doubleToRawLongBits", "(D)J"⟩ ∈ zT := zT9 57 (by decide +kernel) rfl
theorem zns_d2l : Cond.static ⟨"java/lang/Double", "doubleToRawLongBits", "(D)J"⟩ ∈ zT := zT9 58 (by decide +kernel) rfl
theorem znn_d2l : Cond.native ⟨"java/lang/Double", "doubleToRawLongBits", "(D)J"⟩ ∈ zT := zT9 59 (by decide +kernel) rfl
section zNat
variable {G : zG} {X : zX} {Q : State → Prop} {nL pc idx D : Nat} {L S : List Value} {M : zM} {own : String} {cc : ByteArray}
theorem zV_nf2i (h : zOk G X own cc nL) (hR : X.2.2.2.1 = zRm D) {x : UInt32} (d : decode cc pc = .ok (.invokestatic idx, 3)) (hm : Cond.methodLink own idx ⟨"java/lang/Float", "floatToRawIntBits", "(F)I"⟩ ∈ zT) (hroom : (S.map fun v => v.category).sum ≤ 8) (k : zV G X Q nL 0 0 (pc + 3) L (.int (x.toInt32) :: S) M) : zV G X Q nL 0 0 pc L (.float x :: S) M := fun H locs ls hW hS hl =>
  vn_f2i h.1 h.2.1 (h.2.2.1.trans hl.1.symm) h.2.2.2.1 (h.2.2.2.2.1 _ hm) (h.2.2.2.2.1 _ znn_f2i) (h.2.2.2.2.1 _ zns_f2i) (h.2.2.2.2.1 _ zin_Jxf58ca) (by rw [hR]; exact Nat.le_add_left 1 D) (by rw [hR, zCat]; show _ + 15 ≤ 100 * D + 100; omega) d (k H locs ls hW hS hl)
theorem zV_ni2f (h : zOk G X own cc nL) (hR : X.2.2.2.1 = zRm D) {x : Int32} (d : decode cc pc = .ok (.invokestatic idx, 3)) (hm : Cond.methodLink own idx ⟨"java/lang/Float", "intBitsToFloat", "(I)F"⟩ ∈ zT) (hv : vn_sni2f x = false) (hroom : (S.map fun v => v.category).sum ≤ 8) (k : zV G X Q nL 0 0 (pc + 3) L (.float (x.toUInt32) :: S) M) : zV G X Q nL 0 0 pc L (.int x :: S) M := fun H locs ls hW hS hl =>
  vn_i2f h.1 h.2.1 (h.2.2.1.trans hl.1.symm) h.2.2.2.1 (h.2.2.2.2.1 _ hm) (h.2.2.2.2.1 _ znn_i2f) (h.2.2.2.2.1 _ zns_i2f) (h.2.2.2.2.1 _ zin_Jxf58ca) hv (by rw [hR]; exact Nat.le_add_left 1 D) (by rw [hR, zCat]; show _ + 15 ≤ 100 * D + 100; omega) d (k H locs ls hW hS hl)
theorem zV_nd2l (h : zOk G X own cc nL) (hR : X.2.2.2.1 = zRm D) {x : UInt64} (d : decode cc pc = .ok (.invokestatic idx, 3)) (hm : Cond.methodLink own idx ⟨"java/lang/Double", "doubleToRawLongBits", "(D)J"⟩ ∈ zT) (hroom : (S.map fun v => v.category).sum ≤ 8) (k : zV G X Q nL 0 0 (pc + 3) L (.long (x.toInt64) :: S) M) : zV G X Q nL 0 0 pc L (.double x :: S) M := fun H locs ls hW hS hl =>
  vn_d2l h.1 h.2.1 (h.2.2.1.trans hl.1.symm) h.2.2.2.1 (h.2.2.2.2.1 _ hm) (h.2.2.2.2.1 _ znn_d2l) (h.2.2.2.2.1 _ zns_d2l) (h.2.2.2.2.1 _ zin_Jxe99ae) (by rw [hR]; exact Nat.le_add_left 1 D) (by rw [hR, zCat]; show _ + 15 ≤ 100 * D + 100; omega) d (k H locs ls hW hS hl)
end zNat
theorem sni_of {v : Int32} (h : vf_n32 v.toUInt32) : vn_sni2f v = false := by
  unfold vf_n32 at h
  unfold vn_sni2f
  rw [show decide (v.toUInt32 &&& 2147483647 > 2139095040) = false from decide_eq_false (UInt32.not_lt.mpr h)]
  rfl
theorem sq_self {x : UInt32} {s : Bool} {N : Nat} {op : CmpOp} (h : sq x s N) : Op.cmpValue (FP.fcmp x x) op = 0 := (fc_int h h).2.2.mpr rfl
theorem dq_self {x : UInt64} {s : Bool} {N : Nat} {op : CmpOp} (h : dq x s N) : Op.cmpValue (FP.dcmp x x) op = 0 := (dc_int h h).2.2.mpr rfl
set_option maxHeartbeats 1000000 in
theorem zc_isNaNf (l : Launch) (G : zG) (M : zM) (x : UInt32) (s : Bool) (N : Nat) (h : sq x s N) : zC l G 0 yJxf58ca_isNaN_12338 cJxf58ca_isNaN_12338 1 (Option.some Jvm.ClassFile.FieldType.boolean) [.float x] M (zP (some (.int (zb false))) M) := by
  refine zC_ofF (by decide +kernel) (Nat.le_of_ble_eq_true rfl) (fun X Q hQ hX hl hR hr => ?_)
  refine zV_loc (L' := [.float x]) rfl ?_
  refine zV_fload_n hX dJxf58ca_isNaN_12338_0 rfl ?_
  refine zV_fload_n hX dJxf58ca_isNaN_12338_1 rfl ?_
  refine zV_fcmp hX dJxf58ca_isNaN_12338_2 ?_
  refine zV_if_eq hX (tgt := 10) dJxf58ca_isNaN_12338_3 (by decide) (fun c_3 => ?_) (fun c_3 => absurd c_3 (not_not_intro (sq_self h)))
  refine zV_iconst hX (v := nI 0) dJxf58ca_isNaN_12338_10 (by decide) ?_
  exact zV_retz hX hQ hr (rfl) (⟨rfl, rfl⟩) dJxf58ca_isNaN_12338_11
set_option maxHeartbeats 1000000 in
theorem zc_bitsf (l : Launch) (G : zG) (M : zM) (x : UInt32) (s : Bool) (N : Nat) (h : sq x s N) : zC l G 1 yJxf58ca_floatToIntBits_5c35a cJxf58ca_floatToIntBits_5c35a 1 (Option.some Jvm.ClassFile.FieldType.int) [.float x] M (zP (some (.int x.toInt32)) M) := by
  refine zC_ofF (by decide +kernel) (Nat.le_of_ble_eq_true rfl) (fun X Q hQ hX hl hR hr => ?_)
  refine zV_loc (L' := [.float x]) rfl ?_
  refine zV_fload_n hX dJxf58ca_floatToIntBits_5c35a_0 rfl ?_
  refine zV_cS1p hX hR hl dJxf58ca_floatToIntBits_5c35a_1 (zc_isNaNf l G M x s N h) zt_Jxf58ca_isNaN_12338 rfl zml_Jxf58ca_59 (by decide) (Nat.le_of_ble_eq_true rfl) ?_
  dsimp only [Option.toList, List.cons_append, List.nil_append]
  refine zV_if_neB hX (tgt := 12) dJxf58ca_floatToIntBits_5c35a_4 (by decide) (fun c_4 => absurd c_4 (by decide)) (fun c_4 => ?_)
  refine zV_fload_n hX dJxf58ca_floatToIntBits_5c35a_7 rfl ?_
  refine zV_nf2i hX hR dJxf58ca_floatToIntBits_5c35a_8 znl_Jxf58ca_74 (Nat.le_of_ble_eq_true rfl) ?_
  exact zV_reti hX hQ hr (⟨rfl, rfl⟩) dJxf58ca_floatToIntBits_5c35a_11
set_option maxHeartbeats 1000000 in
theorem zc_isNaNd (l : Launch) (G : zG) (M : zM) (x : UInt64) (s : Bool) (N : Nat) (h : dq x s N) : zC l G 0 yJxe99ae_isNaN_b9ae7 cJxe99ae_isNaN_b9ae7 2 (Option.some Jvm.ClassFile.FieldType.boolean) [.double x] M (zP (some (.int (zb false))) M) := by
  refine zC_of (by decide) (Nat.le_of_ble_eq_true rfl) (fun X Q hQ hX hl hR hr => ?_)
  refine zV_loc (L' := [.double x, .null]) rfl ?_
  refine zV_dload_n hX dJxe99ae_isNaN_b9ae7_0 rfl ?_
  refine zV_dload_n hX dJxe99ae_isNaN_b9ae7_1 rfl ?_
  refine zV_dcmp hX dJxe99ae_isNaN_b9ae7_2 ?_
  refine zV_if_eq hX (tgt := 10) dJxe99ae_isNaN_b9ae7_3 (by decide) (fun c_3 => ?_) (fun c_3 => absurd c_3 (not_not_intro (dq_self h)))
  refine zV_iconst hX (v := nI 0) dJxe99ae_isNaN_b9ae7_10 (by decide) ?_
  exact zV_retz hX hQ hr (rfl) (⟨rfl, rfl⟩) dJxe99ae_isNaN_b9ae7_11
set_option maxHeartbeats 1000000 in
theorem zc_bitsd (l : Launch) (G : zG) (M : zM) (x : UInt64) (s : Bool) (N : Nat) (h : dq x s N) : zC l G 1 yJxe99ae_doubleToLongBits_ccdee cJxe99ae_doubleToLongBits_ccdee 2 (Option.some Jvm.ClassFile.FieldType.long) [.double x] M (zP (some (.long x.toInt64)) M) := by
  refine zC_of (by decide) (Nat.le_of_ble_eq_true rfl) (fun X Q hQ hX hl hR hr => ?_)
  refine zV_loc (L' := [.double x, .null]) rfl ?_
  refine zV_dload_n hX dJxe99ae_doubleToLongBits_ccdee_0 rfl ?_
  refine zV_cS1p hX hR hl dJxe99ae_doubleToLongBits_ccdee_1 (zc_isNaNd l G M x s N h) zt_Jxe99ae_isNaN_b9ae7 rfl zml_Jxe99ae_122 (by decide) (Nat.le_of_ble_eq_true rfl) ?_
  dsimp only [Option.toList, List.cons_append, List.nil_append]
  refine zV_if_neB hX (tgt := 12) dJxe99ae_doubleToLongBits_ccdee_4 (by decide) (fun c_4 => absurd c_4 (by decide)) (fun c_4 => ?_)
  refine zV_dload_n hX dJxe99ae_doubleToLongBits_ccdee_7 rfl ?_
  refine zV_nd2l hX hR dJxe99ae_doubleToLongBits_ccdee_8 znl_Jxe99ae_134 (Nat.le_of_ble_eq_true rfl) ?_
  exact zV_retl hX hQ hr (⟨rfl, rfl⟩) dJxe99ae_doubleToLongBits_ccdee_11
theorem frac_sq {a b : Int32} {A B : Nat} (ha : a.toInt.natAbs = A) (hA : A ≤ 99999) (hb : b.toInt = (B : Int)) (hB0 : 1 ≤ B) (hB : B ≤ 999) : ∃ s N, sq (FP.fdiv (FP.i2f a) (FP.i2f b)) s N := by
  obtain ⟨s, E, T, h, -, -⟩ := frac_ok ha hA hb hB0 hB
  unfold frac at h
  rw [UInt32.toUInt32_toInt32] at h
  exact ⟨s, _, fld_sq h⟩
set_option maxHeartbeats 1000000 in
theorem zc_mbits (l : Launch) (G : zG) (M : zM) (a b : Int32) (A B : Nat) (ha : a.toInt.natAbs = A) (hA : A ≤ 99999) (hb : b.toInt = (B : Int)) (hB0 : 1 ≤ B) (hB : B ≤ 999) : zC l G 2 yX11_bits cX11_bits 2 (Option.some Jvm.ClassFile.FieldType.int) [.int a, .int b] M (zP (some (.int (frac a b))) M) := by
  refine zC_of (by decide) (Nat.le_of_ble_eq_true rfl) (fun X Q hQ hX hl hR hr => ?_)
  refine zV_loc (L' := [.int a, .int b]) rfl ?_
  obtain ⟨s9, N9, hsq⟩ := frac_sq ha hA hb hB0 hB
  refine zV_iload_n hX dX11_bits_0 rfl ?_
  refine zV_i2f hX dX11_bits_1 ?_
  refine zV_iload_n hX dX11_bits_2 rfl ?_
  refine zV_i2f hX dX11_bits_3 ?_
  refine zV_fdiv hX dX11_bits_4 (sq_n hsq) ?_
  refine zV_cS1p hX hR hl dX11_bits_5 (zc_bitsf l G M _ _ _ hsq) zt_Jxf58ca_floatToIntBits_5c35a rfl zml_X11_152 (by decide) (Nat.le_of_ble_eq_true rfl) ?_
  dsimp only [Option.toList, List.cons_append, List.nil_append]
  exact zV_reti hX hQ hr (⟨rfl, rfl⟩) dX11_bits_8
set_option maxHeartbeats 1000000 in
theorem zc_real (l : Launch) (G : zG) (M : zM) (v : Int32) (hv : vf_n32 v.toUInt32) : zC l G 0 yX11_real cX11_real 1 (Option.some Jvm.ClassFile.FieldType.float) [.int v] M (zP (some (.float v.toUInt32)) M) := by
  refine zC_of (by decide) (Nat.le_of_ble_eq_true rfl) (fun X Q hQ hX hl hR hr => ?_)
  refine zV_loc (L' := [.int v]) rfl ?_
  refine zV_iload_n hX dX11_real_0 rfl ?_
  refine zV_ni2f hX hR dX11_real_1 znl_X11_158 (sni_of hv) (Nat.le_of_ble_eq_true rfl) ?_
  exact zV_retf hX hQ hr (⟨rfl, rfl⟩) dX11_real_4
