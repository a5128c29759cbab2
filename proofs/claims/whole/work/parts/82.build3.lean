section zBuild3
variable {G : zG} {X : zX} {Q : State → Prop} {own : String} {cc : ByteArray} {base cnt nL cells slots pc : Nat} {L S : List Value} {M : zM}
def zPB (G : zG) (av : List Value) (base cnt : Nat) (M : zM) : Array Value → State → Prop := va_Pc (av.map (zv G)) (fun U => U.heap.size = base + cnt ∧ zWB G base cnt (fun q => base ≤ q) M U.heap ∧ va_K G.2.1 vwCl (zTy G) U ∧ zNe U ∧ zGo G base)
def zQB (G : zG) (base cnt : Nat) (M : zM) : Array Value → State → Outcome → State → Prop := fun _ st oc t => (oc = .returned none ∧ zWB G base cnt (fun q => base ≤ q) M t.heap) ∧ va_F (fun q => base ≤ q) st t
theorem zPB_blind {av : List Value} : FrameBlind (zPB G av base cnt M) := by
  intro a U g mk hp
  obtain ⟨h1, h2, h3, h4, h5, h6⟩ := hp
  exact ⟨h1, h2, h3, va_K.moved (u := U) (U := U.calling g mk a) (Vm.Alike.refl U.vm) h4, h5.warm (State.WarmedH.refl U), h6⟩
/-- a method that builds: from cnt cells to cnt1 -/
def zCB (l : Launch) (G : zG) (base d mc ms : Nat) (y : MethodName) (cc : ByteArray) (nL : Nat) (av : List Value) (cnt : Nat) (M : zM) (cnt1 : Nat) (M1 : zM) : Prop :=
  Met l y (.code y cc nL none :: zT) (zRk d mc ms) (zPB G av base cnt M) (zQB G base cnt1 M1) mc ms (fun q => base ≤ q)
abbrev zQB2 (G : zG) (X : zX) (base mc ms cnt1 : Nat) (M1 : zM) : State → Prop := MQ X.2.2.2.2.2.2.2.1 (zQB G base cnt1 M1) X.2.2.2.2.2.2.1 X.2.2.2.2.1 mc ms (fun q => base ≤ q)
theorem zCB_of {l : Launch} {base cnt cnt1 d mc ms : Nat} {y : MethodName} {cc : ByteArray} {nL : Nat} {av : List Value} {M1 : zM} (hy : plainName y.cls = true) (hn : (lg_sl (av.map (zv G))).length ≤ nL)
    (body : ∀ (X : zX) (Q : State → Prop), zQB2 G X base mc ms cnt1 M1 = Q → zOkB G base X y.cls cc nL → X.2.1 = l → X.2.2.2.1 = zRk d mc ms → X.2.2.2.2.2.2.2.2.1.sig.returnType = none → X.2.2.2.2.2.2.2.2.1.name = y.name → zNe X.2.2.2.2.1 → X.2.2.2.2.1.heap.size = base + cnt → zB G X Q base cnt nL 0 0 0 (zE av ++ List.replicate (nL - (zE av).length) .null) [] M) : zCB l G base d mc ms y cc nL av cnt M cnt1 M1 := by
  refine Met.ofW (cc := cc) (maxL := nL) (ret := none) hy rfl ?_
  intro p e s m args below meth c s₁ B hml hv
  obtain ⟨rfl, hsz, hW, hK, hNe, hGo⟩ := hv
  have hts := atoms_spec (ws := .code y cc nL none :: zT) B.pre
  have hl := lv_entry (av.map (zv G)) (n := nL) hn
  have hb := body (p, l, e, zRk d mc ms, s, m, (av.map (zv G)).toArray, below, meth, c) _ rfl ⟨B.exec, B.bytes, hml, findClass_of_methodNamed B.named, fun w hw => hts w (List.mem_cons_of_mem _ hw), hK, B.notSynchronized, by show base ≤ s.heap.size; omega, hGo⟩ rfl rfl B.returns (name_of_methodNamed B.named B.method).1 hNe hsz
  rw [lg_entry_eq]
  exact hb s.heap [] _ hW va_S.rf ⟨hl.1, hl.2.1, fun q hq => hl.2.2 q (zE_in av 0 q (zL_pad _ _ _ q hq))⟩
theorem zB_retv {mc ms : Nat} (h : zOkB G base X own cc nL) (hQ : zQB2 G X base mc ms cnt M = Q) (hr : X.2.2.2.2.2.2.2.2.1.sig.returnType = none) (hcs : cells ≤ mc ∧ slots ≤ ms) (d : decode cc pc = .ok (.return_, 1)) : zB G X Q base cnt nL cells slots pc L [] M := hQ ▸ fun H locs ls hW hS hl => W.widen hcs.1 hcs.2 (W.vret h.1 h.2.1 hr (fun t ht hWm => ⟨⟨rfl, by rw [ht]; exact hW⟩, hS.F ht⟩) hS.2.2 d (hlocks := h.2.2.2.2.2.2.1))
theorem zB_go {mc2 ms2 cnt1 : Nat} {M1 : zM} {st0 : List Value} (kk : zB G X Q base cnt1 nL (cells + mc2) (slots + ms2) (pc + 3) L S M1)
    {H : Heap} {locs : List Loc} {ls : Array Slot} {a : Array Value} (hS : va_S (fun q => base ≤ q) X.2.2.2.2.1.heap H locs) (hl : lv_has ls nL (zL G 0 L))
    (hr : va_Run X.1 X.2.1 X.2.2.1 X.2.2.2.1 X.2.2.2.2.1 X.2.2.2.2.2.1 X.2.2.2.2.2.2.1 X.2.2.2.2.2.2.2.1 X.2.2.2.2.2.2.2.2.1 X.2.2.2.2.2.2.2.2.2 H locs cells slots mc2 ms2 (F0 X.2.2.2.2.2.1 pc ls st0) (S.map (zv G)) (zQB G base cnt1 M1 a) (fun q => base ≤ q)) :
    W X.1 X.2.1 X.2.2.1 X.2.2.2.1 X.2.2.2.2.1 X.2.2.2.2.2.1 X.2.2.2.2.2.2.1 X.2.2.2.2.2.2.2.1 X.2.2.2.2.2.2.2.2.1 X.2.2.2.2.2.2.2.2.2 H locs cells slots Q (F0 X.2.2.2.2.2.1 pc ls st0) := by
  intro T hT Xs
  obtain ⟨v, st₀, t, T', L', h0, X', hL, e1, e2, ⟨⟨hv, hw'⟩, hF⟩, st⟩ := hr T hT Xs
  cases hv
  obtain ⟨k1, k2, k3⟩ := vx_keep h0 e1 hS (fun q _ hq => hq) (fun q hq => hq) hL hF
  have hz : zWB G base cnt1 (fun q => base ≤ q) M1 T'.heap := by rw [e1]; exact hw'
  obtain ⟨t2, a1, b1⟩ := kk T'.heap (locs ++ L') ls hz k3 hl T' rfl X'
  exact ⟨t2, st t2 a1, b1⟩
theorem zB_pre {As : List Value} {H : Heap} {locs : List Loc} (h : zOkB G base X own cc nL) (hNe : zNe X.2.2.2.2.1) (hz : H.size = base + cnt) (hW : zWB G base cnt (fun q => base ≤ q) M H) : ∀ U : State, U.heap = H → X.2.2.2.2.1.WarmedH U.vm → zPB G As base cnt M (As.map (zv G)).toArray U := by
  intro U hU hWm
  exact ⟨rfl, by rw [hU]; exact hz, by rw [hU]; exact hW, va_K.moved hWm.alike h.2.2.2.2.2.1, hNe.warm hWm, h.2.2.2.2.2.2.2.2⟩
theorem zB_init (h : zOkB G base X own cc nL) (hNe : zNe X.2.2.2.2.1) {D d mc ms mc2 ms2 cnt1 : Nat} {M1 : zM} (hR : X.2.2.2.1 = zRk D mc ms) (hd : d < D) {l : Launch} (hlc : X.2.1 = l) {y : MethodName} {cc2 : ByteArray} {nL2 idx o : Nat} {host : String} (hC : zCB l G base d mc2 ms2 y cc2 nL2 [.ref o] cnt M cnt1 M1) (hT : Cond.code y cc2 nL2 none ∈ zT ∧ Cond.initialized y.cls ∈ zT ∧ nL2 ≤ 80 ∧ (y.cls ≠ "java/lang/invoke/MethodHandle" ∧ y.cls ≠ "java/lang/invoke/VarHandle" ∧ (parseMethodDescriptor y.desc).map (fun d => d.parameters.length) = some 0) ∧ Cond.instanceMethod y ∈ zT ∧ y.name = "<init>") (hm : (own, idx, y, host) ∈ zNeL) (hdg : decode cc pc = .ok (.invokespecial idx, 3)) (hroom : (S.map fun v => v.category).sum ≤ 8) (hcnt : X.2.2.2.2.1.heap.size + cells = base + cnt ∧ cnt ≤ 402) (hcs : cells + mc2 ≤ mc ∧ slots + ms2 ≤ ms)
    (kk : zB G X Q base cnt1 nL (cells + mc2) (slots + ms2) (pc + 3) L S M1) : zB G X Q base cnt nL cells slots pc L (.ref o :: S) M := by
  intro H locs ls hW hS hl T hTh Xs
  have hz := zB_size h hcnt.1 (by omega) hW hS hTh Xs
  subst hlc
  obtain ⟨t1, t2, t3, t4, t5, t6⟩ := hT
  have hgood : GoodIn zT (.code y cc2 nL2 none :: zT) := zGood t1
  refine (show W X.1 X.2.1 X.2.2.1 X.2.2.2.1 X.2.2.2.2.1 X.2.2.2.2.2.1 X.2.2.2.2.2.2.1 X.2.2.2.2.2.2.2.1 X.2.2.2.2.2.2.2.2.1 X.2.2.2.2.2.2.2.2.2 H locs cells slots Q (F0 X.2.2.2.2.2.1 pc ls (.ref (G.1 o) :: S.map (zv G))) from ?_) T hTh Xs
  refine zB_go kk hS hl (va_runIN (Ts := zT) (As := []) (n := 0) ⟨h.1, h.2.1, h.2.2.1, h.2.2.2.1, h.2.2.2.2.1⟩ hC ⟨va_cnB 0 h.2.2.2.2.1 hgood rfl rfl rfl (hNe.1 _ hm) (h.2.2.2.2.1 _ t2) t4 ⟨?_, ?_⟩, t6, h.2.2.2.2.1 _ t5⟩ ⟨zPB_blind, zB_pre (As := [.ref o]) (own := own) (cc := cc) (nL := nL) (locs := locs) h hNe hz hW⟩ rfl rfl hl.1 rfl (lv_room (by rw [zCat]; exact hroom)) hdg ⟨?_, ?_⟩)
  · rw [hR]; show d + 1 + 1 ≤ D + 1; omega
  · rw [hR]; show 8 + (nL2 + 11) + (100 * d + 100) ≤ 100 * D + 100; omega
  · rw [hR]; exact hcs.1
  · rw [hR]; exact hcs.2
theorem zB_callV (h : zOkB G base X own cc nL) (hNe : zNe X.2.2.2.2.1) {D d mc ms mc2 ms2 cnt1 : Nat} {M1 : zM} (hR : X.2.2.2.1 = zRk D mc ms) (hd : d < D) {l : Launch} (hlc : X.2.1 = l) {y : MethodName} {cc2 : ByteArray} {nL2 n ci idx o : Nat} {As : List Value} (hC : zCB l G base d mc2 ms2 y cc2 nL2 (.ref o :: As) cnt M cnt1 M1) (hT : zTgV y cc2 nL2 none n ci) (hm : Cond.methodLink own idx y ∈ zT) (hh : zHas cnt o) (hs : zSh o = (ci + 1, 0)) (hci : ci < 19) (hn : As.length = n) (hroom : (S.map fun v => v.category).sum ≤ 8) (hdg : decode cc pc = .ok (.invokevirtual idx, 3)) (hcnt : X.2.2.2.2.1.heap.size + cells = base + cnt ∧ cnt ≤ 402) (hcs : cells + mc2 ≤ mc ∧ slots + ms2 ≤ ms)
    (kk : zB G X Q base cnt1 nL (cells + mc2) (slots + ms2) (pc + 3) L S M1) : zB G X Q base cnt nL cells slots pc L (As.reverse ++ .ref o :: S) M := by
  intro H locs ls hW hS hl T hTh Xs
  have hz := zB_size h hcnt.1 (by omega) hW hS hTh Xs
  subst hlc
  obtain ⟨⟨t1, t2, t3, t4⟩, t5, t6, TT, N, t7⟩ := hT
  obtain ⟨q, hq, -⟩ := zWB_get hW hh (zEnP_o hs hci)
  have hgood : GoodIn zT (wsV own idx y.cls y (.code y cc2 nL2 none :: zT)) := by
    intro w hw
    have hm : w ∈ zT := by
      unfold wsV at hw
      simp only [List.cons_append, List.nil_append, List.mem_cons] at hw
      rcases hw with rfl | rfl | rfl | rfl | rfl | hw
      · exact hm
      · exact t5
      · exact t6
      · exact t2
      · exact t1
      · exact hw
    exact ⟨hm, good_of_word (zTg w hm)⟩
  have e : ((As.reverse ++ .ref o :: S).map (zv G)) = (As.map (zv G)).reverse ++ .ref (G.1 o) :: S.map (zv G) := by simp [zv]
  rw [e]
  refine (show W X.1 X.2.1 X.2.2.1 X.2.2.2.1 X.2.2.2.2.1 X.2.2.2.2.2.1 X.2.2.2.2.2.2.1 X.2.2.2.2.2.2.2.1 X.2.2.2.2.2.2.2.2.1 X.2.2.2.2.2.2.2.2.2 H locs cells slots Q (F0 X.2.2.2.2.2.1 pc ls ((As.map (zv G)).reverse ++ .ref (G.1 o) :: S.map (zv G))) from ?_) T hTh Xs
  refine zB_go kk hS hl (va_runV (Ts := zT) (As := As.map (zv G)) (n := n) ⟨h.1, h.2.1, h.2.2.1, h.2.2.2.1, h.2.2.2.2.1⟩ hC (cwV n h.2.2.2.2.1 hgood rfl rfl rfl ⟨rfl, t4⟩ ⟨?_, ?_⟩) ⟨zPB_blind, va_recv h.2.2.2.2.2.1 hW.1 t7 hq, zB_pre (As := .ref o :: As) (own := own) (cc := cc) (nL := nL) (locs := locs) h hNe hz hW⟩ rfl (by rw [List.length_map]; exact hn) hl.1 rfl (lv_room (by rw [zCat]; exact hroom)) hdg ⟨?_, ?_⟩)
  · rw [hR]; show d + 1 + 1 ≤ D + 1; omega
  · rw [hR]; show 8 + (nL2 + 11) + (100 * d + 100) ≤ 100 * D + 100; omega
  · rw [hR]; exact hcs.1
  · rw [hR]; exact hcs.2
theorem zB_cs {c1 s1 : Nat} (h1 : cells = c1) (h2 : slots = s1) (k : zB G X Q base cnt nL c1 s1 pc L S M) : zB G X Q base cnt nL cells slots pc L S M := by subst h1; subst h2; exact k
theorem zdf_0 : zDfOk 0 RX0 TX0 13 tyX0 := ⟨rfl, tyX0_ok, by decide +kernel, zT2 74 (by decide +kernel) rfl, zin_X0, by decide⟩
theorem zdf_1 : zDfOk 1 RX2 TX2 5 tyX2 := ⟨rfl, tyX2_ok, by decide +kernel, zT1 107 (by decide +kernel) rfl, zin_X2, by decide⟩
theorem zdf_2 : zDfOk 2 RX3 TX3 7 tyX3 := ⟨rfl, tyX3_ok, by decide +kernel, zT2 43 (by decide +kernel) rfl, zin_X3, by decide⟩
theorem zdf_3 : zDfOk 3 RX4 TX4 8 tyX4 := ⟨rfl, tyX4_ok, by decide +kernel, zT1 42 (by decide +kernel) rfl, zin_X4, by decide⟩
theorem zdf_4 : zDfOk 4 RX5 TX5 3 tyX5 := ⟨rfl, tyX5_ok, by decide +kernel, zT2 127 (by decide +kernel) rfl, zin_X5, by decide⟩
theorem zdf_5 : zDfOk 5 RX6 TX6 20 tyX6 := ⟨rfl, tyX6_ok, by decide +kernel, zT1 158 (by decide +kernel) rfl, zin_X6, by decide⟩
theorem zdf_6 : zDfOk 6 RX7 TX7 8 tyX7 := ⟨rfl, tyX7_ok, by decide +kernel, zT1 36 (by decide +kernel) rfl, zin_X7, by decide⟩
theorem zdf_7 : zDfOk 7 RX8 TX8 12 tyX8 := ⟨rfl, tyX8_ok, by decide +kernel, zT1 233 (by decide +kernel) rfl, zin_X8, by decide⟩
theorem zdf_8 : zDfOk 8 RX10 TX10 12 tyX10 := ⟨rfl, tyX10_ok, by decide +kernel, zT1 28 (by decide +kernel) rfl, zin_X10, by decide⟩
theorem zdf_9 : zDfOk 9 RX11 TX11 64 tyX11 := ⟨rfl, tyX11_ok, by decide +kernel, zT6 113 (by decide +kernel) rfl, zin_X11, by decide⟩
theorem zcn_L_8 : Cond.classLink RL 8 RX10 ∈ zT := zT1 27 (by decide +kernel) rfl
theorem zoi_X10_1 : Cond.methodLink RX10 1 Lib.objectInit ∈ zT := zT1 32 (by decide +kernel) rfl
theorem zcn_X10_7 : Cond.classLink RX10 7 RX7 ∈ zT := zT1 35 (by decide +kernel) rfl
theorem zoi_X7_3 : Cond.methodLink RX7 3 Lib.objectInit ∈ zT := zT1 40 (by decide +kernel) rfl
theorem zcn_X7_15 : Cond.classLink RX7 15 RX4 ∈ zT := zT1 41 (by decide +kernel) rfl
theorem zoi_X4_3 : Cond.methodLink RX4 3 Lib.objectInit ∈ zT := zT1 46 (by decide +kernel) rfl
theorem zcn_X10_16 : Cond.classLink RX10 16 RX2 ∈ zT := zT1 106 (by decide +kernel) rfl
theorem zoi_X2_3 : Cond.methodLink RX2 3 Lib.objectInit ∈ zT := zT1 111 (by decide +kernel) rfl
theorem zcn_X2_9 : Cond.classLink RX2 9 RX4 ∈ zT := zT1 112 (by decide +kernel) rfl
theorem zcn_X10_26 : Cond.classLink RX10 26 RX6 ∈ zT := zT1 157 (by decide +kernel) rfl
theorem zoi_X6_3 : Cond.methodLink RX6 3 Lib.objectInit ∈ zT := zT1 162 (by decide +kernel) rfl
theorem zcn_X10_36 : Cond.classLink RX10 36 RX8 ∈ zT := zT1 232 (by decide +kernel) rfl
theorem zoi_X8_3 : Cond.methodLink RX8 3 Lib.objectInit ∈ zT := zT1 237 (by decide +kernel) rfl
theorem zcn_X10_43 : Cond.classLink RX10 43 RX3 ∈ zT := zT2 42 (by decide +kernel) rfl
theorem zoi_X3_3 : Cond.methodLink RX3 3 Lib.objectInit ∈ zT := zT2 47 (by decide +kernel) rfl
theorem zcn_X10_50 : Cond.classLink RX10 50 RX0 ∈ zT := zT2 73 (by decide +kernel) rfl
theorem zoi_X0_3 : Cond.methodLink RX0 3 Lib.objectInit ∈ zT := zT2 78 (by decide +kernel) rfl
theorem zcn_X10_57 : Cond.classLink RX10 57 RX5 ∈ zT := zT2 126 (by decide +kernel) rfl
theorem zoi_X5_3 : Cond.methodLink RX5 3 Lib.objectInit ∈ zT := zT2 131 (by decide +kernel) rfl
theorem zcn_L_110 : Cond.classLink RL 110 RX11 ∈ zT := zT6 112 (by decide +kernel) rfl
theorem zoi_X11_1 : Cond.methodLink RX11 1 Lib.objectInit ∈ zT := zT6 117 (by decide +kernel) rfl
theorem zar_boolean : Cond.arrayClass .boolean ∈ zT := zT1 231 (by decide +kernel) rfl
theorem zar_float : Cond.arrayClass .float ∈ zT := zT2 143 (by decide +kernel) rfl
theorem zar_long : Cond.arrayClass .long ∈ zT := zT9 94 (by decide +kernel) rfl
end zBuild3
