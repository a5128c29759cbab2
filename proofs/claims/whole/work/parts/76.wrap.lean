section zH
variable {G : zG} {X : zX} {Q : State → Prop} {own : String} {cc : ByteArray} {nL cells slots pc : Nat} {L S : List Value} {M : zM}
def zPh (G : zG) (av : List Value) (M : zM) (sz : Nat) : Array Value → State → Prop := va_Pc (av.map (zv G)) (fun U => U.heap.size = sz ∧ zW G (zA G sz) M U.heap ∧ va_K G.2.1 vwCl (zTy G) U ∧ zSt G (zA G sz) U U.heap ∧ zEx U ∧ va_Nc zIAE zNSE U)
theorem zPh_blind {av : List Value} {sz : Nat} : FrameBlind (zPh G av M sz) := by
  intro a U g mk hp
  obtain ⟨h1, h2, h3, h4, h5, h6, h7⟩ := hp
  exact ⟨h1, h2, h3, va_K.moved (u := U) (U := U.calling g mk a) (Vm.Alike.refl U.vm) h4, h5.next (State.WarmedH.refl U) (fun _ _ _ => rfl) (fun _ h => h), h6.warm (State.WarmedH.refl U), va_Nc.moved (u := U) (U := U.calling g mk a) (Vm.Alike.refl U.vm) h7⟩
def zNo3 : String → State → State → Prop := fun _ _ _ => False
/-- the contract of a method with handlers, that throws nothing itself -/
def zCw (l : Launch) (G : zG) (d mc ms : Nat) (y : MethodName) (cc : ByteArray) (nL : Nat) (ret : Option FieldType) (hh : List (Nat × Nat × Nat × Nat)) (av : List Value) (M : zM) (post : Option Value → zM → Prop) : Prop :=
  ∀ sz : Nat, vx_Met l y (.codeWith y cc nL ret hh :: zT) (zRk d mc ms) (zPh G av M sz) (zQc G post sz) zNo3 mc ms (zA G sz)
abbrev zQh (G : zG) (X : zX) (mc ms : Nat) (post : Option Value → zM → Prop) : State → Prop := vx_MQ X.2.2.2.2.2.2.2.1 (zQc G post X.2.2.2.2.1.heap.size) zNo3 X.2.2.2.2.2.2.1 X.2.2.2.2.1 mc ms (zA G X.2.2.2.2.1.heap.size)
theorem zCw_of {l : Launch} {d mc ms : Nat} {y : MethodName} {cc : ByteArray} {nL : Nat} {ret : Option FieldType} {av : List Value} {hh : List (Nat × Nat × Nat × Nat)} {post : Option Value → zM → Prop} (hy : plainName y.cls = true) (hn : (lg_sl (av.map (zv G))).length ≤ nL)
    (body : ∀ (X : zX) (Q : State → Prop), zQh G X mc ms post = Q → zOk G X y.cls cc nL → X.2.1 = l → X.2.2.2.1 = zRk d mc ms → X.2.2.2.2.2.2.2.2.1.sig.returnType = ret → zEx X.2.2.2.2.1 → va_Nc zIAE zNSE X.2.2.2.2.1 → X.2.2.2.2.2.2.2.2.2.exceptionTable.toList = tableOf hh → zV G X Q nL 0 0 0 (zE av ++ List.replicate (nL - (zE av).length) .null) [] M) : zCw l G d mc ms y cc nL ret hh av M post := by
  intro sz
  refine vx_ofWH (hh := hh) (cc := cc) (maxL := nL) (ret := ret) hy rfl ?_
  intro p e s m args below meth c s₁ B hml hv
  obtain ⟨rfl, hsz, hW, hK, hSt, hEx, hNc⟩ := hv
  subst hsz
  have hts := atoms_spec (ws := .codeWith y cc nL ret hh :: zT) B.pre
  have hl := lv_entry (av.map (zv G)) (n := nL) hn
  have hb := body (p, l, e, zRk d mc ms, s, m, (av.map (zv G)).toArray, below, meth, c) _ rfl ⟨B.exec, B.bytes, hml, findClass_of_methodNamed B.named, fun w hw => hts w (List.mem_cons_of_mem _ hw), hK, hSt, B.notSynchronized⟩ rfl rfl B.returns hEx hNc (vx_table (x := y) B (hts _ List.mem_cons_self))
  rw [lg_entry_eq]
  exact hb s.heap [] _ hW va_S.rf ⟨hl.1, hl.2.1, fun q hq => hl.2.2 q (zE_in av 0 q (zL_pad _ _ _ q hq))⟩
theorem zH_reti {mc ms : Nat} {post : Option Value → zM → Prop} (h : zOk G X own cc nL) (hcs : cells ≤ mc ∧ slots ≤ ms) (hQ : zQh G X mc ms post = Q) (hr : X.2.2.2.2.2.2.2.2.1.sig.returnType = some .int) {x : Int32} (hp : post (some (.int x)) M) (d : decode cc pc = .ok (.ireturn, 1)) : zV G X Q nL cells slots pc L [.int x] M := hQ ▸ fun H locs ls hW hS hl => vx_ret (W.widen hcs.1 hcs.2 (W.iret h.1 h.2.1 hr (fun t ht hWm => ⟨⟨some (.int x), M, rfl, hp, by rw [ht]; exact hW⟩, hS.F ht⟩) hS.2.2 d (hlocks := h.2.2.2.2.2.2.2)))
theorem zL_nn : ∀ (L : List Value) (i : Nat) (q : Nat × Value), q ∈ zL G i L → q.2 ≠ .null
  | [], _, _, h => by simp [zL] at h
  | v :: r, i, q, h => by
    rw [zL_cons] at h
    split at h
    · exact zL_nn r (i + 1) q h
    · rename_i hv
      rcases List.mem_cons.mp h with rfl | h
      · cases v <;> simp_all [zv]
      · exact zL_nn r (i + 1) q h
theorem zst1_null {ls : Array Slot} {k : Nat} {x : Value} (h : lv_has ls nL ((k, x) :: (zL G 0 L).filter (fun q => !(q.1 == k) && !(q.1 + 1 == k && q.2.category == 2)))) : lv_has ls nL (zL G 0 (zst1 L k .null)) := by
  refine ⟨h.1, h.2.1, fun q hq => h.2.2 q ?_⟩
  have hn := zL_nn _ _ _ hq
  rcases zst1_in L 0 k .null q hq with e | ⟨h1, h2, h3⟩
  · rw [e] at hn
    exact absurd rfl hn
  · rw [Nat.zero_add] at h2 h3
    refine List.mem_cons_of_mem _ (List.mem_filter.mpr ⟨h1, ?_⟩)
    simp only [Bool.and_eq_true, Bool.not_eq_true', beq_eq_false_iff_ne, Bool.and_eq_false_imp, beq_iff_eq]
    exact ⟨h2, h3⟩
theorem zH_catch0 (h : zOk G X own cc nL) (hEx : zEx X.2.2.2.2.1) {D d0 mc ms mc2 ms2 c1 s1 : Nat} (hR : X.2.2.2.1 = zRk D mc ms) {l : Launch} (hlc : X.2.1 = l) {E : String} {M1 : zM} {y : MethodName} {cc2 : ByteArray} {nL2 n ci idx o : Nat} {ret : Option FieldType} (hdg : decode cc pc = .ok (.invokevirtual idx, 3)) (hC : zCx l G d0 mc2 ms2 y cc2 nL2 ret (.ref o :: []) M E M1) (hT : zTgV y cc2 nL2 ret n ci) (hn : 0 = n) (hm : Cond.methodLink own idx y ∈ zT) (hs : zSh o = (ci + 1, 0)) (hci : ci < 19 ∧ d0 < D) (hroom : (S.map fun v => v.category).sum ≤ 8) (hcs : cells + mc2 ≤ mc ∧ slots + ms2 ≤ ms) (hc1 : cells + mc2 = c1 ∧ slots + ms2 = s1)
    (pre : List ExceptionTableEntry) (x : ExceptionTableEntry) (suf : List ExceptionTableEntry) (hsplit : X.2.2.2.2.2.2.2.2.2.exceptionTable.toList = pre ++ x :: suf) (hpass : ∀ z ∈ pre, covers z pc = false ∨ (z.catchType ≠ 0 ∧ ∃ nm : String, Cond.classLink own z.catchType nm ∈ zT ∧ va_Nc E nm X.2.2.2.2.1)) (hx : covers x pc = true ∧ x.catchType ≠ 0) (hlink : Cond.classLink own x.catchType E ∈ zT) (hcast : Cond.castable E E ∈ zExL) {hp : Nat} {k9 : Nat} (hhp : x.handlerPc = hp) (dA : decode cc hp = .ok (.astore k9, 2)) (hk9 : k9 < nL) (kk : zV G X Q nL c1 s1 (hp + 2) (zst1 L k9 .null) [] M1) : zV G X Q nL cells slots pc L (.ref o :: S) M := by
  obtain ⟨rfl, rfl⟩ := hc1
  subst hhp
  exact zX_callV (As := []) h hEx hR hci.2 hlc hC hT hm hs hci.1 hn hroom hdg (fun H locs ls q ce hW hS hl hcell hv hcl => vx_catch h.2.2.2.1 pre x suf hsplit (fun z hz => (hpass z hz).imp id (fun ⟨a, nm, b, c⟩ => ⟨a, nm, h.2.2.2.2.1 _ b, c⟩)) hx.1 hx.2 (h.2.2.2.2.1 _ hlink) (hEx.use hcast _) hcell hv hcl (lv_astore h.1 h.2.1 dA hl hk9 rfl (fun ls hl => kk H locs ls hW hS (zst1_null hl)))) hcs
theorem zH_catchn0 (h : zOk G X own cc nL) (hEx : zEx X.2.2.2.2.1) {D d0 mc ms mc2 ms2 c1 s1 : Nat} (hR : X.2.2.2.1 = zRk D mc ms) {l : Launch} (hlc : X.2.1 = l) {E : String} {M1 : zM} {y : MethodName} {cc2 : ByteArray} {nL2 n ci idx o : Nat} {ret : Option FieldType} (hdg : decode cc pc = .ok (.invokevirtual idx, 3)) (hC : zCx l G d0 mc2 ms2 y cc2 nL2 ret (.ref o :: []) M E M1) (hT : zTgV y cc2 nL2 ret n ci) (hn : 0 = n) (hm : Cond.methodLink own idx y ∈ zT) (hs : zSh o = (ci + 1, 0)) (hci : ci < 19 ∧ d0 < D) (hroom : (S.map fun v => v.category).sum ≤ 8) (hcs : cells + mc2 ≤ mc ∧ slots + ms2 ≤ ms) (hc1 : cells + mc2 = c1 ∧ slots + ms2 = s1)
    (pre : List ExceptionTableEntry) (x : ExceptionTableEntry) (suf : List ExceptionTableEntry) (hsplit : X.2.2.2.2.2.2.2.2.2.exceptionTable.toList = pre ++ x :: suf) (hpass : ∀ z ∈ pre, covers z pc = false ∨ (z.catchType ≠ 0 ∧ ∃ nm : String, Cond.classLink own z.catchType nm ∈ zT ∧ va_Nc E nm X.2.2.2.2.1)) (hx : covers x pc = true ∧ x.catchType ≠ 0) (hlink : Cond.classLink own x.catchType E ∈ zT) (hcast : Cond.castable E E ∈ zExL) {hp : Nat} {k9 : Fin 4} (hhp : x.handlerPc = hp) (dA : decode cc hp = .ok (.astore_n k9, 1)) (hk9 : (k9 : Nat) < nL) (kk : zV G X Q nL c1 s1 (hp + 1) (zst1 L (k9 : Nat) .null) [] M1) : zV G X Q nL cells slots pc L (.ref o :: S) M := by
  obtain ⟨rfl, rfl⟩ := hc1
  subst hhp
  exact zX_callV (As := []) h hEx hR hci.2 hlc hC hT hm hs hci.1 hn hroom hdg (fun H locs ls q ce hW hS hl hcell hv hcl => vx_catch h.2.2.2.1 pre x suf hsplit (fun z hz => (hpass z hz).imp id (fun ⟨a, nm, b, c⟩ => ⟨a, nm, h.2.2.2.2.1 _ b, c⟩)) hx.1 hx.2 (h.2.2.2.2.1 _ hlink) (hEx.use hcast _) hcell hv hcl (lv_astore_n h.1 h.2.1 dA rfl hl hk9 rfl (fun ls hl => kk H locs ls hW hS (zst1_null hl)))) hcs
theorem zH_catch1 (h : zOk G X own cc nL) (hEx : zEx X.2.2.2.2.1) {D d0 mc ms mc2 ms2 c1 s1 : Nat} (hR : X.2.2.2.1 = zRk D mc ms) {l : Launch} (hlc : X.2.1 = l) {E : String} {M1 : zM} {y : MethodName} {cc2 : ByteArray} {nL2 n ci idx o : Nat} {ret : Option FieldType} {v1 : Value} (hdg : decode cc pc = .ok (.invokevirtual idx, 3)) (hC : zCx l G d0 mc2 ms2 y cc2 nL2 ret (.ref o :: [v1]) M E M1) (hT : zTgV y cc2 nL2 ret n ci) (hn : 1 = n) (hm : Cond.methodLink own idx y ∈ zT) (hs : zSh o = (ci + 1, 0)) (hci : ci < 19 ∧ d0 < D) (hroom : (S.map fun v => v.category).sum ≤ 8) (hcs : cells + mc2 ≤ mc ∧ slots + ms2 ≤ ms) (hc1 : cells + mc2 = c1 ∧ slots + ms2 = s1)
    (pre : List ExceptionTableEntry) (x : ExceptionTableEntry) (suf : List ExceptionTableEntry) (hsplit : X.2.2.2.2.2.2.2.2.2.exceptionTable.toList = pre ++ x :: suf) (hpass : ∀ z ∈ pre, covers z pc = false ∨ (z.catchType ≠ 0 ∧ ∃ nm : String, Cond.classLink own z.catchType nm ∈ zT ∧ va_Nc E nm X.2.2.2.2.1)) (hx : covers x pc = true ∧ x.catchType ≠ 0) (hlink : Cond.classLink own x.catchType E ∈ zT) (hcast : Cond.castable E E ∈ zExL) {hp : Nat} {k9 : Nat} (hhp : x.handlerPc = hp) (dA : decode cc hp = .ok (.astore k9, 2)) (hk9 : k9 < nL) (kk : zV G X Q nL c1 s1 (hp + 2) (zst1 L k9 .null) [] M1) : zV G X Q nL cells slots pc L (v1 :: .ref o :: S) M := by
  obtain ⟨rfl, rfl⟩ := hc1
  subst hhp
  exact zX_callV (As := [v1]) h hEx hR hci.2 hlc hC hT hm hs hci.1 hn hroom hdg (fun H locs ls q ce hW hS hl hcell hv hcl => vx_catch h.2.2.2.1 pre x suf hsplit (fun z hz => (hpass z hz).imp id (fun ⟨a, nm, b, c⟩ => ⟨a, nm, h.2.2.2.2.1 _ b, c⟩)) hx.1 hx.2 (h.2.2.2.2.1 _ hlink) (hEx.use hcast _) hcell hv hcl (lv_astore h.1 h.2.1 dA hl hk9 rfl (fun ls hl => kk H locs ls hW hS (zst1_null hl)))) hcs
theorem zH_catchn1 (h : zOk G X own cc nL) (hEx : zEx X.2.2.2.2.1) {D d0 mc ms mc2 ms2 c1 s1 : Nat} (hR : X.2.2.2.1 = zRk D mc ms) {l : Launch} (hlc : X.2.1 = l) {E : String} {M1 : zM} {y : MethodName} {cc2 : ByteArray} {nL2 n ci idx o : Nat} {ret : Option FieldType} {v1 : Value} (hdg : decode cc pc = .ok (.invokevirtual idx, 3)) (hC : zCx l G d0 mc2 ms2 y cc2 nL2 ret (.ref o :: [v1]) M E M1) (hT : zTgV y cc2 nL2 ret n ci) (hn : 1 = n) (hm : Cond.methodLink own idx y ∈ zT) (hs : zSh o = (ci + 1, 0)) (hci : ci < 19 ∧ d0 < D) (hroom : (S.map fun v => v.category).sum ≤ 8) (hcs : cells + mc2 ≤ mc ∧ slots + ms2 ≤ ms) (hc1 : cells + mc2 = c1 ∧ slots + ms2 = s1)
    (pre : List ExceptionTableEntry) (x : ExceptionTableEntry) (suf : List ExceptionTableEntry) (hsplit : X.2.2.2.2.2.2.2.2.2.exceptionTable.toList = pre ++ x :: suf) (hpass : ∀ z ∈ pre, covers z pc = false ∨ (z.catchType ≠ 0 ∧ ∃ nm : String, Cond.classLink own z.catchType nm ∈ zT ∧ va_Nc E nm X.2.2.2.2.1)) (hx : covers x pc = true ∧ x.catchType ≠ 0) (hlink : Cond.classLink own x.catchType E ∈ zT) (hcast : Cond.castable E E ∈ zExL) {hp : Nat} {k9 : Fin 4} (hhp : x.handlerPc = hp) (dA : decode cc hp = .ok (.astore_n k9, 1)) (hk9 : (k9 : Nat) < nL) (kk : zV G X Q nL c1 s1 (hp + 1) (zst1 L (k9 : Nat) .null) [] M1) : zV G X Q nL cells slots pc L (v1 :: .ref o :: S) M := by
  obtain ⟨rfl, rfl⟩ := hc1
  subst hhp
  exact zX_callV (As := [v1]) h hEx hR hci.2 hlc hC hT hm hs hci.1 hn hroom hdg (fun H locs ls q ce hW hS hl hcell hv hcl => vx_catch h.2.2.2.1 pre x suf hsplit (fun z hz => (hpass z hz).imp id (fun ⟨a, nm, b, c⟩ => ⟨a, nm, h.2.2.2.2.1 _ b, c⟩)) hx.1 hx.2 (h.2.2.2.2.1 _ hlink) (hEx.use hcast _) hcell hv hcl (lv_astore_n h.1 h.2.1 dA rfl hl hk9 rfl (fun ls hl => kk H locs ls hW hS (zst1_null hl)))) hcs
theorem zH_catch2 (h : zOk G X own cc nL) (hEx : zEx X.2.2.2.2.1) {D d0 mc ms mc2 ms2 c1 s1 : Nat} (hR : X.2.2.2.1 = zRk D mc ms) {l : Launch} (hlc : X.2.1 = l) {E : String} {M1 : zM} {y : MethodName} {cc2 : ByteArray} {nL2 n ci idx o : Nat} {ret : Option FieldType} {v1 v2 : Value} (hdg : decode cc pc = .ok (.invokevirtual idx, 3)) (hC : zCx l G d0 mc2 ms2 y cc2 nL2 ret (.ref o :: [v1, v2]) M E M1) (hT : zTgV y cc2 nL2 ret n ci) (hn : 2 = n) (hm : Cond.methodLink own idx y ∈ zT) (hs : zSh o = (ci + 1, 0)) (hci : ci < 19 ∧ d0 < D) (hroom : (S.map fun v => v.category).sum ≤ 8) (hcs : cells + mc2 ≤ mc ∧ slots + ms2 ≤ ms) (hc1 : cells + mc2 = c1 ∧ slots + ms2 = s1)
    (pre : List ExceptionTableEntry) (x : ExceptionTableEntry) (suf : List ExceptionTableEntry) (hsplit : X.2.2.2.2.2.2.2.2.2.exceptionTable.toList = pre ++ x :: suf) (hpass : ∀ z ∈ pre, covers z pc = false ∨ (z.catchType ≠ 0 ∧ ∃ nm : String, Cond.classLink own z.catchType nm ∈ zT ∧ va_Nc E nm X.2.2.2.2.1)) (hx : covers x pc = true ∧ x.catchType ≠ 0) (hlink : Cond.classLink own x.catchType E ∈ zT) (hcast : Cond.castable E E ∈ zExL) {hp : Nat} {k9 : Nat} (hhp : x.handlerPc = hp) (dA : decode cc hp = .ok (.astore k9, 2)) (hk9 : k9 < nL) (kk : zV G X Q nL c1 s1 (hp + 2) (zst1 L k9 .null) [] M1) : zV G X Q nL cells slots pc L (v2 :: v1 :: .ref o :: S) M := by
  obtain ⟨rfl, rfl⟩ := hc1
  subst hhp
  exact zX_callV (As := [v1, v2]) h hEx hR hci.2 hlc hC hT hm hs hci.1 hn hroom hdg (fun H locs ls q ce hW hS hl hcell hv hcl => vx_catch h.2.2.2.1 pre x suf hsplit (fun z hz => (hpass z hz).imp id (fun ⟨a, nm, b, c⟩ => ⟨a, nm, h.2.2.2.2.1 _ b, c⟩)) hx.1 hx.2 (h.2.2.2.2.1 _ hlink) (hEx.use hcast _) hcell hv hcl (lv_astore h.1 h.2.1 dA hl hk9 rfl (fun ls hl => kk H locs ls hW hS (zst1_null hl)))) hcs
theorem zH_catchn2 (h : zOk G X own cc nL) (hEx : zEx X.2.2.2.2.1) {D d0 mc ms mc2 ms2 c1 s1 : Nat} (hR : X.2.2.2.1 = zRk D mc ms) {l : Launch} (hlc : X.2.1 = l) {E : String} {M1 : zM} {y : MethodName} {cc2 : ByteArray} {nL2 n ci idx o : Nat} {ret : Option FieldType} {v1 v2 : Value} (hdg : decode cc pc = .ok (.invokevirtual idx, 3)) (hC : zCx l G d0 mc2 ms2 y cc2 nL2 ret (.ref o :: [v1, v2]) M E M1) (hT : zTgV y cc2 nL2 ret n ci) (hn : 2 = n) (hm : Cond.methodLink own idx y ∈ zT) (hs : zSh o = (ci + 1, 0)) (hci : ci < 19 ∧ d0 < D) (hroom : (S.map fun v => v.category).sum ≤ 8) (hcs : cells + mc2 ≤ mc ∧ slots + ms2 ≤ ms) (hc1 : cells + mc2 = c1 ∧ slots + ms2 = s1)
    (pre : List ExceptionTableEntry) (x : ExceptionTableEntry) (suf : List ExceptionTableEntry) (hsplit : X.2.2.2.2.2.2.2.2.2.exceptionTable.toList = pre ++ x :: suf) (hpass : ∀ z ∈ pre, covers z pc = false ∨ (z.catchType ≠ 0 ∧ ∃ nm : String, Cond.classLink own z.catchType nm ∈ zT ∧ va_Nc E nm X.2.2.2.2.1)) (hx : covers x pc = true ∧ x.catchType ≠ 0) (hlink : Cond.classLink own x.catchType E ∈ zT) (hcast : Cond.castable E E ∈ zExL) {hp : Nat} {k9 : Fin 4} (hhp : x.handlerPc = hp) (dA : decode cc hp = .ok (.astore_n k9, 1)) (hk9 : (k9 : Nat) < nL) (kk : zV G X Q nL c1 s1 (hp + 1) (zst1 L (k9 : Nat) .null) [] M1) : zV G X Q nL cells slots pc L (v2 :: v1 :: .ref o :: S) M := by
  obtain ⟨rfl, rfl⟩ := hc1
  subst hhp
  exact zX_callV (As := [v1, v2]) h hEx hR hci.2 hlc hC hT hm hs hci.1 hn hroom hdg (fun H locs ls q ce hW hS hl hcell hv hcl => vx_catch h.2.2.2.1 pre x suf hsplit (fun z hz => (hpass z hz).imp id (fun ⟨a, nm, b, c⟩ => ⟨a, nm, h.2.2.2.2.1 _ b, c⟩)) hx.1 hx.2 (h.2.2.2.2.1 _ hlink) (hEx.use hcast _) hcell hv hcl (lv_astore_n h.1 h.2.1 dA rfl hl hk9 rfl (fun ls hl => kk H locs ls hW hS (zst1_null hl)))) hcs
theorem zH_catch3 (h : zOk G X own cc nL) (hEx : zEx X.2.2.2.2.1) {D d0 mc ms mc2 ms2 c1 s1 : Nat} (hR : X.2.2.2.1 = zRk D mc ms) {l : Launch} (hlc : X.2.1 = l) {E : String} {M1 : zM} {y : MethodName} {cc2 : ByteArray} {nL2 n ci idx o : Nat} {ret : Option FieldType} {v1 v2 v3 : Value} (hdg : decode cc pc = .ok (.invokevirtual idx, 3)) (hC : zCx l G d0 mc2 ms2 y cc2 nL2 ret (.ref o :: [v1, v2, v3]) M E M1) (hT : zTgV y cc2 nL2 ret n ci) (hn : 3 = n) (hm : Cond.methodLink own idx y ∈ zT) (hs : zSh o = (ci + 1, 0)) (hci : ci < 19 ∧ d0 < D) (hroom : (S.map fun v => v.category).sum ≤ 8) (hcs : cells + mc2 ≤ mc ∧ slots + ms2 ≤ ms) (hc1 : cells + mc2 = c1 ∧ slots + ms2 = s1)
    (pre : List ExceptionTableEntry) (x : ExceptionTableEntry) (suf : List ExceptionTableEntry) (hsplit : X.2.2.2.2.2.2.2.2.2.exceptionTable.toList = pre ++ x :: suf) (hpass : ∀ z ∈ pre, covers z pc = false ∨ (z.catchType ≠ 0 ∧ ∃ nm : String, Cond.classLink own z.catchType nm ∈ zT ∧ va_Nc E nm X.2.2.2.2.1)) (hx : covers x pc = true ∧ x.catchType ≠ 0) (hlink : Cond.classLink own x.catchType E ∈ zT) (hcast : Cond.castable E E ∈ zExL) {hp : Nat} {k9 : Nat} (hhp : x.handlerPc = hp) (dA : decode cc hp = .ok (.astore k9, 2)) (hk9 : k9 < nL) (kk : zV G X Q nL c1 s1 (hp + 2) (zst1 L k9 .null) [] M1) : zV G X Q nL cells slots pc L (v3 :: v2 :: v1 :: .ref o :: S) M := by
  obtain ⟨rfl, rfl⟩ := hc1
  subst hhp
  exact zX_callV (As := [v1, v2, v3]) h hEx hR hci.2 hlc hC hT hm hs hci.1 hn hroom hdg (fun H locs ls q ce hW hS hl hcell hv hcl => vx_catch h.2.2.2.1 pre x suf hsplit (fun z hz => (hpass z hz).imp id (fun ⟨a, nm, b, c⟩ => ⟨a, nm, h.2.2.2.2.1 _ b, c⟩)) hx.1 hx.2 (h.2.2.2.2.1 _ hlink) (hEx.use hcast _) hcell hv hcl (lv_astore h.1 h.2.1 dA hl hk9 rfl (fun ls hl => kk H locs ls hW hS (zst1_null hl)))) hcs
theorem zH_catchn3 (h : zOk G X own cc nL) (hEx : zEx X.2.2.2.2.1) {D d0 mc ms mc2 ms2 c1 s1 : Nat} (hR : X.2.2.2.1 = zRk D mc ms) {l : Launch} (hlc : X.2.1 = l) {E : String} {M1 : zM} {y : MethodName} {cc2 : ByteArray} {nL2 n ci idx o : Nat} {ret : Option FieldType} {v1 v2 v3 : Value} (hdg : decode cc pc = .ok (.invokevirtual idx, 3)) (hC : zCx l G d0 mc2 ms2 y cc2 nL2 ret (.ref o :: [v1, v2, v3]) M E M1) (hT : zTgV y cc2 nL2 ret n ci) (hn : 3 = n) (hm : Cond.methodLink own idx y ∈ zT) (hs : zSh o = (ci + 1, 0)) (hci : ci < 19 ∧ d0 < D) (hroom : (S.map fun v => v.category).sum ≤ 8) (hcs : cells + mc2 ≤ mc ∧ slots + ms2 ≤ ms) (hc1 : cells + mc2 = c1 ∧ slots + ms2 = s1)
    (pre : List ExceptionTableEntry) (x : ExceptionTableEntry) (suf : List ExceptionTableEntry) (hsplit : X.2.2.2.2.2.2.2.2.2.exceptionTable.toList = pre ++ x :: suf) (hpass : ∀ z ∈ pre, covers z pc = false ∨ (z.catchType ≠ 0 ∧ ∃ nm : String, Cond.classLink own z.catchType nm ∈ zT ∧ va_Nc E nm X.2.2.2.2.1)) (hx : covers x pc = true ∧ x.catchType ≠ 0) (hlink : Cond.classLink own x.catchType E ∈ zT) (hcast : Cond.castable E E ∈ zExL) {hp : Nat} {k9 : Fin 4} (hhp : x.handlerPc = hp) (dA : decode cc hp = .ok (.astore_n k9, 1)) (hk9 : (k9 : Nat) < nL) (kk : zV G X Q nL c1 s1 (hp + 1) (zst1 L (k9 : Nat) .null) [] M1) : zV G X Q nL cells slots pc L (v3 :: v2 :: v1 :: .ref o :: S) M := by
  obtain ⟨rfl, rfl⟩ := hc1
  subst hhp
  exact zX_callV (As := [v1, v2, v3]) h hEx hR hci.2 hlc hC hT hm hs hci.1 hn hroom hdg (fun H locs ls q ce hW hS hl hcell hv hcl => vx_catch h.2.2.2.1 pre x suf hsplit (fun z hz => (hpass z hz).imp id (fun ⟨a, nm, b, c⟩ => ⟨a, nm, h.2.2.2.2.1 _ b, c⟩)) hx.1 hx.2 (h.2.2.2.2.1 _ hlink) (hEx.use hcast _) hcell hv hcl (lv_astore_n h.1 h.2.1 dA rfl hl hk9 rfl (fun ls hl => kk H locs ls hW hS (zst1_null hl)))) hcs
theorem zH_catch4 (h : zOk G X own cc nL) (hEx : zEx X.2.2.2.2.1) {D d0 mc ms mc2 ms2 c1 s1 : Nat} (hR : X.2.2.2.1 = zRk D mc ms) {l : Launch} (hlc : X.2.1 = l) {E : String} {M1 : zM} {y : MethodName} {cc2 : ByteArray} {nL2 n ci idx o : Nat} {ret : Option FieldType} {v1 v2 v3 v4 : Value} (hdg : decode cc pc = .ok (.invokevirtual idx, 3)) (hC : zCx l G d0 mc2 ms2 y cc2 nL2 ret (.ref o :: [v1, v2, v3, v4]) M E M1) (hT : zTgV y cc2 nL2 ret n ci) (hn : 4 = n) (hm : Cond.methodLink own idx y ∈ zT) (hs : zSh o = (ci + 1, 0)) (hci : ci < 19 ∧ d0 < D) (hroom : (S.map fun v => v.category).sum ≤ 8) (hcs : cells + mc2 ≤ mc ∧ slots + ms2 ≤ ms) (hc1 : cells + mc2 = c1 ∧ slots + ms2 = s1)
    (pre : List ExceptionTableEntry) (x : ExceptionTableEntry) (suf : List ExceptionTableEntry) (hsplit : X.2.2.2.2.2.2.2.2.2.exceptionTable.toList = pre ++ x :: suf) (hpass : ∀ z ∈ pre, covers z pc = false ∨ (z.catchType ≠ 0 ∧ ∃ nm : String, Cond.classLink own z.catchType nm ∈ zT ∧ va_Nc E nm X.2.2.2.2.1)) (hx : covers x pc = true ∧ x.catchType ≠ 0) (hlink : Cond.classLink own x.catchType E ∈ zT) (hcast : Cond.castable E E ∈ zExL) {hp : Nat} {k9 : Nat} (hhp : x.handlerPc = hp) (dA : decode cc hp = .ok (.astore k9, 2)) (hk9 : k9 < nL) (kk : zV G X Q nL c1 s1 (hp + 2) (zst1 L k9 .null) [] M1) : zV G X Q nL cells slots pc L (v4 :: v3 :: v2 :: v1 :: .ref o :: S) M := by
  obtain ⟨rfl, rfl⟩ := hc1
  subst hhp
  exact zX_callV (As := [v1, v2, v3, v4]) h hEx hR hci.2 hlc hC hT hm hs hci.1 hn hroom hdg (fun H locs ls q ce hW hS hl hcell hv hcl => vx_catch h.2.2.2.1 pre x suf hsplit (fun z hz => (hpass z hz).imp id (fun ⟨a, nm, b, c⟩ => ⟨a, nm, h.2.2.2.2.1 _ b, c⟩)) hx.1 hx.2 (h.2.2.2.2.1 _ hlink) (hEx.use hcast _) hcell hv hcl (lv_astore h.1 h.2.1 dA hl hk9 rfl (fun ls hl => kk H locs ls hW hS (zst1_null hl)))) hcs
theorem zH_catchn4 (h : zOk G X own cc nL) (hEx : zEx X.2.2.2.2.1) {D d0 mc ms mc2 ms2 c1 s1 : Nat} (hR : X.2.2.2.1 = zRk D mc ms) {l : Launch} (hlc : X.2.1 = l) {E : String} {M1 : zM} {y : MethodName} {cc2 : ByteArray} {nL2 n ci idx o : Nat} {ret : Option FieldType} {v1 v2 v3 v4 : Value} (hdg : decode cc pc = .ok (.invokevirtual idx, 3)) (hC : zCx l G d0 mc2 ms2 y cc2 nL2 ret (.ref o :: [v1, v2, v3, v4]) M E M1) (hT : zTgV y cc2 nL2 ret n ci) (hn : 4 = n) (hm : Cond.methodLink own idx y ∈ zT) (hs : zSh o = (ci + 1, 0)) (hci : ci < 19 ∧ d0 < D) (hroom : (S.map fun v => v.category).sum ≤ 8) (hcs : cells + mc2 ≤ mc ∧ slots + ms2 ≤ ms) (hc1 : cells + mc2 = c1 ∧ slots + ms2 = s1)
    (pre : List ExceptionTableEntry) (x : ExceptionTableEntry) (suf : List ExceptionTableEntry) (hsplit : X.2.2.2.2.2.2.2.2.2.exceptionTable.toList = pre ++ x :: suf) (hpass : ∀ z ∈ pre, covers z pc = false ∨ (z.catchType ≠ 0 ∧ ∃ nm : String, Cond.classLink own z.catchType nm ∈ zT ∧ va_Nc E nm X.2.2.2.2.1)) (hx : covers x pc = true ∧ x.catchType ≠ 0) (hlink : Cond.classLink own x.catchType E ∈ zT) (hcast : Cond.castable E E ∈ zExL) {hp : Nat} {k9 : Fin 4} (hhp : x.handlerPc = hp) (dA : decode cc hp = .ok (.astore_n k9, 1)) (hk9 : (k9 : Nat) < nL) (kk : zV G X Q nL c1 s1 (hp + 1) (zst1 L (k9 : Nat) .null) [] M1) : zV G X Q nL cells slots pc L (v4 :: v3 :: v2 :: v1 :: .ref o :: S) M := by
  obtain ⟨rfl, rfl⟩ := hc1
  subst hhp
  exact zX_callV (As := [v1, v2, v3, v4]) h hEx hR hci.2 hlc hC hT hm hs hci.1 hn hroom hdg (fun H locs ls q ce hW hS hl hcell hv hcl => vx_catch h.2.2.2.1 pre x suf hsplit (fun z hz => (hpass z hz).imp id (fun ⟨a, nm, b, c⟩ => ⟨a, nm, h.2.2.2.2.1 _ b, c⟩)) hx.1 hx.2 (h.2.2.2.2.1 _ hlink) (hEx.use hcast _) hcell hv hcl (lv_astore_n h.1 h.2.1 dA rfl hl hk9 rfl (fun ls hl => kk H locs ls hW hS (zst1_null hl)))) hcs
theorem zH_catch5 (h : zOk G X own cc nL) (hEx : zEx X.2.2.2.2.1) {D d0 mc ms mc2 ms2 c1 s1 : Nat} (hR : X.2.2.2.1 = zRk D mc ms) {l : Launch} (hlc : X.2.1 = l) {E : String} {M1 : zM} {y : MethodName} {cc2 : ByteArray} {nL2 n ci idx o : Nat} {ret : Option FieldType} {v1 v2 v3 v4 v5 : Value} (hdg : decode cc pc = .ok (.invokevirtual idx, 3)) (hC : zCx l G d0 mc2 ms2 y cc2 nL2 ret (.ref o :: [v1, v2, v3, v4, v5]) M E M1) (hT : zTgV y cc2 nL2 ret n ci) (hn : 5 = n) (hm : Cond.methodLink own idx y ∈ zT) (hs : zSh o = (ci + 1, 0)) (hci : ci < 19 ∧ d0 < D) (hroom : (S.map fun v => v.category).sum ≤ 8) (hcs : cells + mc2 ≤ mc ∧ slots + ms2 ≤ ms) (hc1 : cells + mc2 = c1 ∧ slots + ms2 = s1)
    (pre : List ExceptionTableEntry) (x : ExceptionTableEntry) (suf : List ExceptionTableEntry) (hsplit : X.2.2.2.2.2.2.2.2.2.exceptionTable.toList = pre ++ x :: suf) (hpass : ∀ z ∈ pre, covers z pc = false ∨ (z.catchType ≠ 0 ∧ ∃ nm : String, Cond.classLink own z.catchType nm ∈ zT ∧ va_Nc E nm X.2.2.2.2.1)) (hx : covers x pc = true ∧ x.catchType ≠ 0) (hlink : Cond.classLink own x.catchType E ∈ zT) (hcast : Cond.castable E E ∈ zExL) {hp : Nat} {k9 : Nat} (hhp : x.handlerPc = hp) (dA : decode cc hp = .ok (.astore k9, 2)) (hk9 : k9 < nL) (kk : zV G X Q nL c1 s1 (hp + 2) (zst1 L k9 .null) [] M1) : zV G X Q nL cells slots pc L (v5 :: v4 :: v3 :: v2 :: v1 :: .ref o :: S) M := by
  obtain ⟨rfl, rfl⟩ := hc1
  subst hhp
  exact zX_callV (As := [v1, v2, v3, v4, v5]) h hEx hR hci.2 hlc hC hT hm hs hci.1 hn hroom hdg (fun H locs ls q ce hW hS hl hcell hv hcl => vx_catch h.2.2.2.1 pre x suf hsplit (fun z hz => (hpass z hz).imp id (fun ⟨a, nm, b, c⟩ => ⟨a, nm, h.2.2.2.2.1 _ b, c⟩)) hx.1 hx.2 (h.2.2.2.2.1 _ hlink) (hEx.use hcast _) hcell hv hcl (lv_astore h.1 h.2.1 dA hl hk9 rfl (fun ls hl => kk H locs ls hW hS (zst1_null hl)))) hcs
theorem zH_catchn5 (h : zOk G X own cc nL) (hEx : zEx X.2.2.2.2.1) {D d0 mc ms mc2 ms2 c1 s1 : Nat} (hR : X.2.2.2.1 = zRk D mc ms) {l : Launch} (hlc : X.2.1 = l) {E : String} {M1 : zM} {y : MethodName} {cc2 : ByteArray} {nL2 n ci idx o : Nat} {ret : Option FieldType} {v1 v2 v3 v4 v5 : Value} (hdg : decode cc pc = .ok (.invokevirtual idx, 3)) (hC : zCx l G d0 mc2 ms2 y cc2 nL2 ret (.ref o :: [v1, v2, v3, v4, v5]) M E M1) (hT : zTgV y cc2 nL2 ret n ci) (hn : 5 = n) (hm : Cond.methodLink own idx y ∈ zT) (hs : zSh o = (ci + 1, 0)) (hci : ci < 19 ∧ d0 < D) (hroom : (S.map fun v => v.category).sum ≤ 8) (hcs : cells + mc2 ≤ mc ∧ slots + ms2 ≤ ms) (hc1 : cells + mc2 = c1 ∧ slots + ms2 = s1)
    (pre : List ExceptionTableEntry) (x : ExceptionTableEntry) (suf : List ExceptionTableEntry) (hsplit : X.2.2.2.2.2.2.2.2.2.exceptionTable.toList = pre ++ x :: suf) (hpass : ∀ z ∈ pre, covers z pc = false ∨ (z.catchType ≠ 0 ∧ ∃ nm : String, Cond.classLink own z.catchType nm ∈ zT ∧ va_Nc E nm X.2.2.2.2.1)) (hx : covers x pc = true ∧ x.catchType ≠ 0) (hlink : Cond.classLink own x.catchType E ∈ zT) (hcast : Cond.castable E E ∈ zExL) {hp : Nat} {k9 : Fin 4} (hhp : x.handlerPc = hp) (dA : decode cc hp = .ok (.astore_n k9, 1)) (hk9 : (k9 : Nat) < nL) (kk : zV G X Q nL c1 s1 (hp + 1) (zst1 L (k9 : Nat) .null) [] M1) : zV G X Q nL cells slots pc L (v5 :: v4 :: v3 :: v2 :: v1 :: .ref o :: S) M := by
  obtain ⟨rfl, rfl⟩ := hc1
  subst hhp
  exact zX_callV (As := [v1, v2, v3, v4, v5]) h hEx hR hci.2 hlc hC hT hm hs hci.1 hn hroom hdg (fun H locs ls q ce hW hS hl hcell hv hcl => vx_catch h.2.2.2.1 pre x suf hsplit (fun z hz => (hpass z hz).imp id (fun ⟨a, nm, b, c⟩ => ⟨a, nm, h.2.2.2.2.1 _ b, c⟩)) hx.1 hx.2 (h.2.2.2.2.1 _ hlink) (hEx.use hcast _) hcell hv hcl (lv_astore_n h.1 h.2.1 dA rfl hl hk9 rfl (fun ls hl => kk H locs ls hW hS (zst1_null hl)))) hcs
end zH
theorem zcl_L_13 : Cond.classLink "OralOrdersLaw" 13 zIAE ∈ zT := zT3 157 (by decide +kernel) rfl
theorem zcl_L_19 : Cond.classLink "OralOrdersLaw" 19 zNSE ∈ zT := zT3 238 (by decide +kernel) rfl
theorem zcw_L_group : Cond.codeWith yL_group cL_group 5 (Option.some Jvm.ClassFile.FieldType.int) [(0, 10, 13, 13)] ∈ zT := zT3 156 (by decide +kernel) rfl
theorem zcw_L_value : Cond.codeWith yL_value cL_value 6 (Option.some Jvm.ClassFile.FieldType.int) [(0, 12, 15, 19), (0, 12, 19, 13)] ∈ zT := zT3 237 (by decide +kernel) rfl
theorem zcw_L_missing : Cond.codeWith yL_missing cL_missing 5 (Option.some Jvm.ClassFile.FieldType.int) [(0, 10, 13, 13)] ∈ zT := zT4 49 (by decide +kernel) rfl
theorem zcw_L_lies : Cond.codeWith yL_lies cL_lies 4 (Option.some Jvm.ClassFile.FieldType.int) [(0, 9, 12, 13)] ∈ zT := zT4 56 (by decide +kernel) rfl
theorem zcw_L_run : Cond.codeWith yL_run cL_run 4 (Option.some Jvm.ClassFile.FieldType.int) [(0, 9, 12, 19)] ∈ zT := zT4 205 (by decide +kernel) rfl
theorem zcw_L_told : Cond.codeWith yL_told cL_told 4 (Option.some Jvm.ClassFile.FieldType.int) [(0, 9, 12, 13)] ∈ zT := zT4 212 (by decide +kernel) rfl
theorem zcw_L_member : Cond.codeWith yL_member cL_member 5 (Option.some Jvm.ClassFile.FieldType.int) [(0, 10, 13, 19), (0, 10, 17, 13)] ∈ zT := zT4 223 (by decide +kernel) rfl
theorem zcw_L_heard : Cond.codeWith yL_heard cL_heard 8 (Option.some Jvm.ClassFile.FieldType.int) [(0, 16, 19, 19), (0, 16, 23, 13)] ∈ zT := zT4 239 (by decide +kernel) rfl
theorem zcw_L_cut : Cond.codeWith yL_cut cL_cut 5 (Option.some Jvm.ClassFile.FieldType.int) [(0, 10, 13, 19), (0, 10, 17, 13)] ∈ zT := zT5 17 (by decide +kernel) rfl
theorem zcw_L_common : Cond.codeWith yL_common cL_common 6 (Option.some Jvm.ClassFile.FieldType.int) [(0, 19, 22, 19)] ∈ zT := zT5 24 (by decide +kernel) rfl
theorem zcw_L_commons : Cond.codeWith yL_commons cL_commons 4 (Option.some Jvm.ClassFile.FieldType.int) [(0, 9, 12, 13)] ∈ zT := zT5 32 (by decide +kernel) rfl
theorem zcw_L_agreed : Cond.codeWith yL_agreed cL_agreed 4 (Option.some Jvm.ClassFile.FieldType.int) [(0, 16, 19, 13)] ∈ zT := zT5 43 (by decide +kernel) rfl
theorem zcw_L_order : Cond.codeWith yL_order cL_order 5 (Option.some Jvm.ClassFile.FieldType.int) [(0, 10, 13, 19)] ∈ zT := zT5 54 (by decide +kernel) rfl
theorem zcw_L_most : Cond.codeWith yL_most cL_most 5 (Option.some Jvm.ClassFile.FieldType.int) [(0, 10, 13, 19), (0, 10, 17, 13)] ∈ zT := zT5 61 (by decide +kernel) rfl
theorem zcw_L_signed : Cond.codeWith yL_signed cL_signed 5 (Option.some Jvm.ClassFile.FieldType.int) [(0, 10, 13, 19), (0, 10, 17, 13)] ∈ zT := zT5 70 (by decide +kernel) rfl
theorem zcw_L_signedOf : Cond.codeWith yL_signedOf cL_signedOf 6 (Option.some Jvm.ClassFile.FieldType.int) [(0, 12, 15, 19), (0, 12, 19, 13)] ∈ zT := zT5 77 (by decide +kernel) rfl
theorem zcw_L_taken : Cond.codeWith yL_taken cL_taken 7 (Option.some Jvm.ClassFile.FieldType.int) [(0, 14, 17, 19), (0, 14, 21, 13)] ∈ zT := zT5 88 (by decide +kernel) rfl
theorem zcw_L_king : Cond.codeWith yL_king cL_king 5 (Option.some Jvm.ClassFile.FieldType.int) [(0, 10, 13, 19), (0, 10, 17, 13)] ∈ zT := zT5 99 (by decide +kernel) rfl
theorem zcw_L_kings : Cond.codeWith yL_kings cL_kings 4 (Option.some Jvm.ClassFile.FieldType.int) [(0, 9, 12, 13)] ∈ zT := zT5 128 (by decide +kernel) rfl
theorem zcw_L_echoes : Cond.codeWith yL_echoes cL_echoes 5 (Option.some Jvm.ClassFile.FieldType.int) [(0, 10, 13, 19), (0, 10, 17, 13)] ∈ zT := zT5 143 (by decide +kernel) rfl
theorem zcw_L_echoesOf : Cond.codeWith yL_echoesOf cL_echoesOf 6 (Option.some Jvm.ClassFile.FieldType.int) [(0, 12, 15, 19), (0, 12, 19, 13)] ∈ zT := zT5 214 (by decide +kernel) rfl
theorem zcw_L_messages : Cond.codeWith yL_messages cL_messages 5 (Option.some Jvm.ClassFile.FieldType.int) [(0, 10, 13, 13)] ∈ zT := zT5 221 (by decide +kernel) rfl
theorem zcw_L_nearer : Cond.codeWith yL_nearer cL_nearer 6 (Option.some Jvm.ClassFile.FieldType.int) [(0, 12, 15, 19), (0, 12, 19, 13)] ∈ zT := zT5 231 (by decide +kernel) rfl
theorem zcw_L_spread : Cond.codeWith yL_spread cL_spread 5 (Option.some Jvm.ClassFile.FieldType.int) [(0, 10, 13, 13)] ∈ zT := zT6 32 (by decide +kernel) rfl
theorem zcw_L_steps : Cond.codeWith yL_steps cL_steps 6 (Option.some Jvm.ClassFile.FieldType.int) [(0, 12, 15, 13)] ∈ zT := zT6 43 (by decide +kernel) rfl
theorem zcw_L_total : Cond.codeWith yL_total cL_total 5 (Option.some Jvm.ClassFile.FieldType.int) [(0, 9, 12, 13)] ∈ zT := zT6 55 (by decide +kernel) rfl
theorem zcw_L_attacks : Cond.codeWith yL_attacks cL_attacks 7 (Option.some Jvm.ClassFile.FieldType.int) [(0, 14, 17, 19), (0, 14, 21, 13)] ∈ zT := zT6 71 (by decide +kernel) rfl
theorem zcw_L_breaks : Cond.codeWith yL_breaks cL_breaks 7 (Option.some Jvm.ClassFile.FieldType.int) [(0, 21, 24, 19), (0, 21, 28, 13)] ∈ zT := zT6 99 (by decide +kernel) rfl
theorem zcw_L_fewest : Cond.codeWith yL_fewest cL_fewest 5 (Option.some Jvm.ClassFile.FieldType.int) [(0, 10, 13, 13)] ∈ zT := zT6 106 (by decide +kernel) rfl
set_option maxHeartbeats 1000000 in
theorem zh_group (l : Launch) (G : zG) (M M1 : zM) (v1 v2 : Int32) (v : Int32) (hC : zC l G 9 yX10_group cX10_group 3 (Option.some Jvm.ClassFile.FieldType.int) [.ref (0 : Nat), .int v1, .int v2] M (zP (some (.int v)) M1)) : zCw l G 10 1 6 yL_group cL_group 5 (Option.some Jvm.ClassFile.FieldType.int) [(0, 10, 13, 13)] [.ref (0 : Nat), .int v1, .int v2, .ref (220 : Nat)] M (zP (some (.int (nI 0))) (zwL M1 220 0 v.toInt64)) := by
  refine zCw_of (by decide) (Nat.le_of_ble_eq_true rfl) (fun X Q hQ hX hl hR hr hEx hNc hT => ?_)
  refine zV_loc (L' := [.ref (0 : Nat), .int v1, .int v2, .ref (220 : Nat), .null]) rfl ?_
  refine zV_aload_n hX dL_group_0 rfl ?_
  refine zV_iconst hX (v := nI 0) dL_group_1 (by decide) ?_
  refine zV_aload_n hX dL_group_2 rfl ?_
  refine zV_iload_n hX dL_group_3 rfl ?_
  refine zV_iload_n hX dL_group_4 rfl ?_
  refine zK_cV2p hX hR hl dL_group_5 (zCk.of (hC)) zt_X10_group rfl zml_L_7 zo0.1 ⟨by decide, by decide⟩ (Nat.le_of_ble_eq_true rfl) (by omega) ⟨rfl, rfl⟩ ?_
  dsimp only [Option.toList, List.cons_append, List.nil_append]
  refine zV_i2l hX dL_group_8 ?_
  refine zV_last hX dL_group_9 (rfl : zSh 220 = (23, 1)) (rfl) ⟨by omega, by omega⟩ ?_
  refine zV_goto hX (tgt := 17) dL_group_10 (by decide) ?_
  refine zV_iconst hX (v := nI 0) dL_group_17 (by decide) ?_
  exact zH_reti hX (by omega) hQ hr (⟨rfl, rfl⟩) dL_group_18
set_option maxHeartbeats 1000000 in
theorem zh_groupI (l : Launch) (G : zG) (M M1 : zM) (v1 v2 : Int32) (hC : zCx l G 9 1 6 yX10_group cX10_group 3 (Option.some Jvm.ClassFile.FieldType.int) [.ref (0 : Nat), .int v1, .int v2] M zIAE M1) : zCw l G 10 1 6 yL_group cL_group 5 (Option.some Jvm.ClassFile.FieldType.int) [(0, 10, 13, 13)] [.ref (0 : Nat), .int v1, .int v2, .ref (220 : Nat)] M (zP (some (.int (nI 1))) (M1)) := by
  refine zCw_of (by decide) (Nat.le_of_ble_eq_true rfl) (fun X Q hQ hX hl hR hr hEx hNc hT => ?_)
  refine zV_loc (L' := [.ref (0 : Nat), .int v1, .int v2, .ref (220 : Nat), .null]) rfl ?_
  refine zV_aload_n hX dL_group_0 rfl ?_
  refine zV_iconst hX (v := nI 0) dL_group_1 (by decide) ?_
  refine zV_aload_n hX dL_group_2 rfl ?_
  refine zV_iload_n hX dL_group_3 rfl ?_
  refine zV_iload_n hX dL_group_4 rfl ?_
  refine zH_catch2 hX hEx hR hl dL_group_5 (hC) zt_X10_group rfl zml_L_7 zo0.1 ⟨by decide, by decide⟩ (Nat.le_of_ble_eq_true rfl) (by omega) ⟨rfl, rfl⟩ [] ⟨0, 10, 13, 13⟩ [] hT (fun z hz => nomatch hz) ⟨by decide, by decide⟩ zcl_L_13 (by decide) rfl dL_group_13 (by decide) ?_
  dsimp only [zst1, zst2, zclr, zc2]
  refine zV_iconst hX (v := nI 1) dL_group_15 (by decide) ?_
  exact zH_reti hX (by omega) hQ hr (⟨rfl, rfl⟩) dL_group_16
set_option maxHeartbeats 1000000 in
theorem zh_value (l : Launch) (G : zG) (M M1 : zM) (v1 v2 v3 : Int32) (v : Int32) (hC : zC l G 9 yX10_value cX10_value 5 (Option.some Jvm.ClassFile.FieldType.int) [.ref (0 : Nat), .int v1, .int v2, .int v3] M (zP (some (.int v)) M1)) : zCw l G 10 1 6 yL_value cL_value 6 (Option.some Jvm.ClassFile.FieldType.int) [(0, 12, 15, 19), (0, 12, 19, 13)] [.ref (0 : Nat), .int v1, .int v2, .int v3, .ref (220 : Nat)] M (zP (some (.int (nI 0))) (zwL M1 220 0 v.toInt64)) := by
  refine zCw_of (by decide) (Nat.le_of_ble_eq_true rfl) (fun X Q hQ hX hl hR hr hEx hNc hT => ?_)
  refine zV_loc (L' := [.ref (0 : Nat), .int v1, .int v2, .int v3, .ref (220 : Nat), .null]) rfl ?_
  refine zV_aload hX dL_value_0 rfl ?_
  refine zV_iconst hX (v := nI 0) dL_value_2 (by decide) ?_
  refine zV_aload_n hX dL_value_3 rfl ?_
  refine zV_iload_n hX dL_value_4 rfl ?_
  refine zV_iload_n hX dL_value_5 rfl ?_
  refine zV_iload_n hX dL_value_6 rfl ?_
  refine zK_cV3p hX hR hl dL_value_7 (zCk.of (hC)) zt_X10_value rfl zml_L_15 zo0.1 ⟨by decide, by decide⟩ (Nat.le_of_ble_eq_true rfl) (by omega) ⟨rfl, rfl⟩ ?_
  dsimp only [Option.toList, List.cons_append, List.nil_append]
  refine zV_i2l hX dL_value_10 ?_
  refine zV_last hX dL_value_11 (rfl : zSh 220 = (23, 1)) (rfl) ⟨by omega, by omega⟩ ?_
  refine zV_goto hX (tgt := 23) dL_value_12 (by decide) ?_
  refine zV_iconst hX (v := nI 0) dL_value_23 (by decide) ?_
  exact zH_reti hX (by omega) hQ hr (⟨rfl, rfl⟩) dL_value_24
set_option maxHeartbeats 1000000 in
theorem zh_valueS (l : Launch) (G : zG) (M M1 : zM) (v1 v2 v3 : Int32) (hC : zCx l G 9 1 6 yX10_value cX10_value 5 (Option.some Jvm.ClassFile.FieldType.int) [.ref (0 : Nat), .int v1, .int v2, .int v3] M zNSE M1) : zCw l G 10 1 6 yL_value cL_value 6 (Option.some Jvm.ClassFile.FieldType.int) [(0, 12, 15, 19), (0, 12, 19, 13)] [.ref (0 : Nat), .int v1, .int v2, .int v3, .ref (220 : Nat)] M (zP (some (.int (nI 1))) (M1)) := by
  refine zCw_of (by decide) (Nat.le_of_ble_eq_true rfl) (fun X Q hQ hX hl hR hr hEx hNc hT => ?_)
  refine zV_loc (L' := [.ref (0 : Nat), .int v1, .int v2, .int v3, .ref (220 : Nat), .null]) rfl ?_
  refine zV_aload hX dL_value_0 rfl ?_
  refine zV_iconst hX (v := nI 0) dL_value_2 (by decide) ?_
  refine zV_aload_n hX dL_value_3 rfl ?_
  refine zV_iload_n hX dL_value_4 rfl ?_
  refine zV_iload_n hX dL_value_5 rfl ?_
  refine zV_iload_n hX dL_value_6 rfl ?_
  refine zH_catch3 hX hEx hR hl dL_value_7 (hC) zt_X10_value rfl zml_L_15 zo0.1 ⟨by decide, by decide⟩ (Nat.le_of_ble_eq_true rfl) (by omega) ⟨rfl, rfl⟩ [] ⟨0, 12, 15, 19⟩ [⟨0, 12, 19, 13⟩] hT (fun z hz => nomatch hz) ⟨by decide, by decide⟩ zcl_L_19 (by decide) rfl dL_value_15 (by decide) ?_
  dsimp only [zst1, zst2, zclr, zc2]
  refine zV_iconst hX (v := nI 1) dL_value_17 (by decide) ?_
  exact zH_reti hX (by omega) hQ hr (⟨rfl, rfl⟩) dL_value_18
set_option maxHeartbeats 1000000 in
theorem zh_valueI (l : Launch) (G : zG) (M M1 : zM) (v1 v2 v3 : Int32) (hC : zCx l G 9 1 6 yX10_value cX10_value 5 (Option.some Jvm.ClassFile.FieldType.int) [.ref (0 : Nat), .int v1, .int v2, .int v3] M zIAE M1) : zCw l G 10 1 6 yL_value cL_value 6 (Option.some Jvm.ClassFile.FieldType.int) [(0, 12, 15, 19), (0, 12, 19, 13)] [.ref (0 : Nat), .int v1, .int v2, .int v3, .ref (220 : Nat)] M (zP (some (.int (nI 2))) (M1)) := by
  refine zCw_of (by decide) (Nat.le_of_ble_eq_true rfl) (fun X Q hQ hX hl hR hr hEx hNc hT => ?_)
  refine zV_loc (L' := [.ref (0 : Nat), .int v1, .int v2, .int v3, .ref (220 : Nat), .null]) rfl ?_
  refine zV_aload hX dL_value_0 rfl ?_
  refine zV_iconst hX (v := nI 0) dL_value_2 (by decide) ?_
  refine zV_aload_n hX dL_value_3 rfl ?_
  refine zV_iload_n hX dL_value_4 rfl ?_
  refine zV_iload_n hX dL_value_5 rfl ?_
  refine zV_iload_n hX dL_value_6 rfl ?_
  refine zH_catch3 hX hEx hR hl dL_value_7 (hC) zt_X10_value rfl zml_L_15 zo0.1 ⟨by decide, by decide⟩ (Nat.le_of_ble_eq_true rfl) (by omega) ⟨rfl, rfl⟩ [⟨0, 12, 15, 19⟩] ⟨0, 12, 19, 13⟩ [] hT (fun z hz => by rw [List.mem_singleton.mp hz]; exact Or.inr ⟨by decide, _, zcl_L_19, hNc⟩) ⟨by decide, by decide⟩ zcl_L_13 (by decide) rfl dL_value_19 (by decide) ?_
  dsimp only [zst1, zst2, zclr, zc2]
  refine zV_iconst hX (v := nI 2) dL_value_21 (by decide) ?_
  exact zH_reti hX (by omega) hQ hr (⟨rfl, rfl⟩) dL_value_22
set_option maxHeartbeats 1000000 in
theorem zh_missing (l : Launch) (G : zG) (M M1 : zM) (v1 v2 : Int32) (v : Int32) (hC : zC l G 9 yX10_missing cX10_missing 4 (Option.some Jvm.ClassFile.FieldType.int) [.ref (0 : Nat), .int v1, .int v2] M (zP (some (.int v)) M1)) : zCw l G 10 1 6 yL_missing cL_missing 5 (Option.some Jvm.ClassFile.FieldType.int) [(0, 10, 13, 13)] [.ref (0 : Nat), .int v1, .int v2, .ref (220 : Nat)] M (zP (some (.int (nI 0))) (zwL M1 220 0 v.toInt64)) := by
  refine zCw_of (by decide) (Nat.le_of_ble_eq_true rfl) (fun X Q hQ hX hl hR hr hEx hNc hT => ?_)
  refine zV_loc (L' := [.ref (0 : Nat), .int v1, .int v2, .ref (220 : Nat), .null]) rfl ?_
  refine zV_aload_n hX dL_missing_0 rfl ?_
  refine zV_iconst hX (v := nI 0) dL_missing_1 (by decide) ?_
  refine zV_aload_n hX dL_missing_2 rfl ?_
  refine zV_iload_n hX dL_missing_3 rfl ?_
  refine zV_iload_n hX dL_missing_4 rfl ?_
  refine zK_cV2p hX hR hl dL_missing_5 (zCk.of (hC)) zt_X10_missing rfl zml_L_21 zo0.1 ⟨by decide, by decide⟩ (Nat.le_of_ble_eq_true rfl) (by omega) ⟨rfl, rfl⟩ ?_
  dsimp only [Option.toList, List.cons_append, List.nil_append]
  refine zV_i2l hX dL_missing_8 ?_
  refine zV_last hX dL_missing_9 (rfl : zSh 220 = (23, 1)) (rfl) ⟨by omega, by omega⟩ ?_
  refine zV_goto hX (tgt := 17) dL_missing_10 (by decide) ?_
  refine zV_iconst hX (v := nI 0) dL_missing_17 (by decide) ?_
  exact zH_reti hX (by omega) hQ hr (⟨rfl, rfl⟩) dL_missing_18
set_option maxHeartbeats 1000000 in
theorem zh_missingI (l : Launch) (G : zG) (M M1 : zM) (v1 v2 : Int32) (hC : zCx l G 9 1 6 yX10_missing cX10_missing 4 (Option.some Jvm.ClassFile.FieldType.int) [.ref (0 : Nat), .int v1, .int v2] M zIAE M1) : zCw l G 10 1 6 yL_missing cL_missing 5 (Option.some Jvm.ClassFile.FieldType.int) [(0, 10, 13, 13)] [.ref (0 : Nat), .int v1, .int v2, .ref (220 : Nat)] M (zP (some (.int (nI 1))) (M1)) := by
  refine zCw_of (by decide) (Nat.le_of_ble_eq_true rfl) (fun X Q hQ hX hl hR hr hEx hNc hT => ?_)
  refine zV_loc (L' := [.ref (0 : Nat), .int v1, .int v2, .ref (220 : Nat), .null]) rfl ?_
  refine zV_aload_n hX dL_missing_0 rfl ?_
  refine zV_iconst hX (v := nI 0) dL_missing_1 (by decide) ?_
  refine zV_aload_n hX dL_missing_2 rfl ?_
  refine zV_iload_n hX dL_missing_3 rfl ?_
  refine zV_iload_n hX dL_missing_4 rfl ?_
  refine zH_catch2 hX hEx hR hl dL_missing_5 (hC) zt_X10_missing rfl zml_L_21 zo0.1 ⟨by decide, by decide⟩ (Nat.le_of_ble_eq_true rfl) (by omega) ⟨rfl, rfl⟩ [] ⟨0, 10, 13, 13⟩ [] hT (fun z hz => nomatch hz) ⟨by decide, by decide⟩ zcl_L_13 (by decide) rfl dL_missing_13 (by decide) ?_
  dsimp only [zst1, zst2, zclr, zc2]
  refine zV_iconst hX (v := nI 1) dL_missing_15 (by decide) ?_
  exact zH_reti hX (by omega) hQ hr (⟨rfl, rfl⟩) dL_missing_16
set_option maxHeartbeats 1000000 in
theorem zh_lies (l : Launch) (G : zG) (M M1 : zM) (v1 : Int32) (v : Int32) (hC : zC l G 9 yX10_lies cX10_lies 4 (Option.some Jvm.ClassFile.FieldType.int) [.ref (0 : Nat), .int v1] M (zP (some (.int v)) M1)) : zCw l G 10 1 6 yL_lies cL_lies 4 (Option.some Jvm.ClassFile.FieldType.int) [(0, 9, 12, 13)] [.ref (0 : Nat), .int v1, .ref (220 : Nat)] M (zP (some (.int (nI 0))) (zwL M1 220 0 v.toInt64)) := by
  refine zCw_of (by decide) (Nat.le_of_ble_eq_true rfl) (fun X Q hQ hX hl hR hr hEx hNc hT => ?_)
  refine zV_loc (L' := [.ref (0 : Nat), .int v1, .ref (220 : Nat), .null]) rfl ?_
  refine zV_aload_n hX dL_lies_0 rfl ?_
  refine zV_iconst hX (v := nI 0) dL_lies_1 (by decide) ?_
  refine zV_aload_n hX dL_lies_2 rfl ?_
  refine zV_iload_n hX dL_lies_3 rfl ?_
  refine zK_cV1p hX hR hl dL_lies_4 (zCk.of (hC)) zt_X10_lies rfl zml_L_24 zo0.1 ⟨by decide, by decide⟩ (Nat.le_of_ble_eq_true rfl) (by omega) ⟨rfl, rfl⟩ ?_
  dsimp only [Option.toList, List.cons_append, List.nil_append]
  refine zV_i2l hX dL_lies_7 ?_
  refine zV_last hX dL_lies_8 (rfl : zSh 220 = (23, 1)) (rfl) ⟨by omega, by omega⟩ ?_
  refine zV_goto hX (tgt := 15) dL_lies_9 (by decide) ?_
  refine zV_iconst hX (v := nI 0) dL_lies_15 (by decide) ?_
  exact zH_reti hX (by omega) hQ hr (⟨rfl, rfl⟩) dL_lies_16
set_option maxHeartbeats 1000000 in
theorem zh_liesI (l : Launch) (G : zG) (M M1 : zM) (v1 : Int32) (hC : zCx l G 9 1 6 yX10_lies cX10_lies 4 (Option.some Jvm.ClassFile.FieldType.int) [.ref (0 : Nat), .int v1] M zIAE M1) : zCw l G 10 1 6 yL_lies cL_lies 4 (Option.some Jvm.ClassFile.FieldType.int) [(0, 9, 12, 13)] [.ref (0 : Nat), .int v1, .ref (220 : Nat)] M (zP (some (.int (nI 1))) (M1)) := by
  refine zCw_of (by decide) (Nat.le_of_ble_eq_true rfl) (fun X Q hQ hX hl hR hr hEx hNc hT => ?_)
  refine zV_loc (L' := [.ref (0 : Nat), .int v1, .ref (220 : Nat), .null]) rfl ?_
  refine zV_aload_n hX dL_lies_0 rfl ?_
  refine zV_iconst hX (v := nI 0) dL_lies_1 (by decide) ?_
  refine zV_aload_n hX dL_lies_2 rfl ?_
  refine zV_iload_n hX dL_lies_3 rfl ?_
  refine zH_catchn1 hX hEx hR hl dL_lies_4 (hC) zt_X10_lies rfl zml_L_24 zo0.1 ⟨by decide, by decide⟩ (Nat.le_of_ble_eq_true rfl) (by omega) ⟨rfl, rfl⟩ [] ⟨0, 9, 12, 13⟩ [] hT (fun z hz => nomatch hz) ⟨by decide, by decide⟩ zcl_L_13 (by decide) rfl dL_lies_12 (by decide) ?_
  dsimp only [zst1, zst2, zclr, zc2]
  refine zV_iconst hX (v := nI 1) dL_lies_13 (by decide) ?_
  exact zH_reti hX (by omega) hQ hr (⟨rfl, rfl⟩) dL_lies_14
set_option maxHeartbeats 1000000 in
theorem zh_run (l : Launch) (G : zG) (M M1 : zM) (v1 : Int32) (v : Int32) (hC : zC l G 9 yX10_run cX10_run 2 (Option.some Jvm.ClassFile.FieldType.int) [.ref (0 : Nat), .int v1] M (zP (some (.int v)) M1)) : zCw l G 10 1 6 yL_run cL_run 4 (Option.some Jvm.ClassFile.FieldType.int) [(0, 9, 12, 19)] [.ref (0 : Nat), .int v1, .ref (220 : Nat)] M (zP (some (.int (nI 0))) (zwL M1 220 0 v.toInt64)) := by
  refine zCw_of (by decide) (Nat.le_of_ble_eq_true rfl) (fun X Q hQ hX hl hR hr hEx hNc hT => ?_)
  refine zV_loc (L' := [.ref (0 : Nat), .int v1, .ref (220 : Nat), .null]) rfl ?_
  refine zV_aload_n hX dL_run_0 rfl ?_
  refine zV_iconst hX (v := nI 0) dL_run_1 (by decide) ?_
  refine zV_aload_n hX dL_run_2 rfl ?_
  refine zV_iload_n hX dL_run_3 rfl ?_
  refine zK_cV1p hX hR hl dL_run_4 (zCk.of (hC)) zt_X10_run rfl zml_L_28 zo0.1 ⟨by decide, by decide⟩ (Nat.le_of_ble_eq_true rfl) (by omega) ⟨rfl, rfl⟩ ?_
  dsimp only [Option.toList, List.cons_append, List.nil_append]
  refine zV_i2l hX dL_run_7 ?_
  refine zV_last hX dL_run_8 (rfl : zSh 220 = (23, 1)) (rfl) ⟨by omega, by omega⟩ ?_
  refine zV_goto hX (tgt := 15) dL_run_9 (by decide) ?_
  refine zV_iconst hX (v := nI 0) dL_run_15 (by decide) ?_
  exact zH_reti hX (by omega) hQ hr (⟨rfl, rfl⟩) dL_run_16
set_option maxHeartbeats 1000000 in
theorem zh_runS (l : Launch) (G : zG) (M M1 : zM) (v1 : Int32) (hC : zCx l G 9 1 6 yX10_run cX10_run 2 (Option.some Jvm.ClassFile.FieldType.int) [.ref (0 : Nat), .int v1] M zNSE M1) : zCw l G 10 1 6 yL_run cL_run 4 (Option.some Jvm.ClassFile.FieldType.int) [(0, 9, 12, 19)] [.ref (0 : Nat), .int v1, .ref (220 : Nat)] M (zP (some (.int (nI 1))) (M1)) := by
  refine zCw_of (by decide) (Nat.le_of_ble_eq_true rfl) (fun X Q hQ hX hl hR hr hEx hNc hT => ?_)
  refine zV_loc (L' := [.ref (0 : Nat), .int v1, .ref (220 : Nat), .null]) rfl ?_
  refine zV_aload_n hX dL_run_0 rfl ?_
  refine zV_iconst hX (v := nI 0) dL_run_1 (by decide) ?_
  refine zV_aload_n hX dL_run_2 rfl ?_
  refine zV_iload_n hX dL_run_3 rfl ?_
  refine zH_catchn1 hX hEx hR hl dL_run_4 (hC) zt_X10_run rfl zml_L_28 zo0.1 ⟨by decide, by decide⟩ (Nat.le_of_ble_eq_true rfl) (by omega) ⟨rfl, rfl⟩ [] ⟨0, 9, 12, 19⟩ [] hT (fun z hz => nomatch hz) ⟨by decide, by decide⟩ zcl_L_19 (by decide) rfl dL_run_12 (by decide) ?_
  dsimp only [zst1, zst2, zclr, zc2]
  refine zV_iconst hX (v := nI 1) dL_run_13 (by decide) ?_
  exact zH_reti hX (by omega) hQ hr (⟨rfl, rfl⟩) dL_run_14
set_option maxHeartbeats 1000000 in
theorem zh_told (l : Launch) (G : zG) (M M1 : zM) (v1 : Int32) (v : Int32) (hC : zC l G 9 yX10_told cX10_told 2 (Option.some Jvm.ClassFile.FieldType.int) [.ref (0 : Nat), .int v1] M (zP (some (.int v)) M1)) : zCw l G 10 1 6 yL_told cL_told 4 (Option.some Jvm.ClassFile.FieldType.int) [(0, 9, 12, 13)] [.ref (0 : Nat), .int v1, .ref (220 : Nat)] M (zP (some (.int (nI 0))) (zwL M1 220 0 v.toInt64)) := by
  refine zCw_of (by decide) (Nat.le_of_ble_eq_true rfl) (fun X Q hQ hX hl hR hr hEx hNc hT => ?_)
  refine zV_loc (L' := [.ref (0 : Nat), .int v1, .ref (220 : Nat), .null]) rfl ?_
  refine zV_aload_n hX dL_told_0 rfl ?_
  refine zV_iconst hX (v := nI 0) dL_told_1 (by decide) ?_
  refine zV_aload_n hX dL_told_2 rfl ?_
  refine zV_iload_n hX dL_told_3 rfl ?_
  refine zK_cV1p hX hR hl dL_told_4 (zCk.of (hC)) zt_X10_told rfl zml_L_31 zo0.1 ⟨by decide, by decide⟩ (Nat.le_of_ble_eq_true rfl) (by omega) ⟨rfl, rfl⟩ ?_
  dsimp only [Option.toList, List.cons_append, List.nil_append]
  refine zV_i2l hX dL_told_7 ?_
  refine zV_last hX dL_told_8 (rfl : zSh 220 = (23, 1)) (rfl) ⟨by omega, by omega⟩ ?_
  refine zV_goto hX (tgt := 15) dL_told_9 (by decide) ?_
  refine zV_iconst hX (v := nI 0) dL_told_15 (by decide) ?_
  exact zH_reti hX (by omega) hQ hr (⟨rfl, rfl⟩) dL_told_16
set_option maxHeartbeats 1000000 in
theorem zh_toldI (l : Launch) (G : zG) (M M1 : zM) (v1 : Int32) (hC : zCx l G 9 1 6 yX10_told cX10_told 2 (Option.some Jvm.ClassFile.FieldType.int) [.ref (0 : Nat), .int v1] M zIAE M1) : zCw l G 10 1 6 yL_told cL_told 4 (Option.some Jvm.ClassFile.FieldType.int) [(0, 9, 12, 13)] [.ref (0 : Nat), .int v1, .ref (220 : Nat)] M (zP (some (.int (nI 1))) (M1)) := by
  refine zCw_of (by decide) (Nat.le_of_ble_eq_true rfl) (fun X Q hQ hX hl hR hr hEx hNc hT => ?_)
  refine zV_loc (L' := [.ref (0 : Nat), .int v1, .ref (220 : Nat), .null]) rfl ?_
  refine zV_aload_n hX dL_told_0 rfl ?_
  refine zV_iconst hX (v := nI 0) dL_told_1 (by decide) ?_
  refine zV_aload_n hX dL_told_2 rfl ?_
  refine zV_iload_n hX dL_told_3 rfl ?_
  refine zH_catchn1 hX hEx hR hl dL_told_4 (hC) zt_X10_told rfl zml_L_31 zo0.1 ⟨by decide, by decide⟩ (Nat.le_of_ble_eq_true rfl) (by omega) ⟨rfl, rfl⟩ [] ⟨0, 9, 12, 13⟩ [] hT (fun z hz => nomatch hz) ⟨by decide, by decide⟩ zcl_L_13 (by decide) rfl dL_told_12 (by decide) ?_
  dsimp only [zst1, zst2, zclr, zc2]
  refine zV_iconst hX (v := nI 1) dL_told_13 (by decide) ?_
  exact zH_reti hX (by omega) hQ hr (⟨rfl, rfl⟩) dL_told_14
set_option maxHeartbeats 1000000 in
theorem zh_member (l : Launch) (G : zG) (M M1 : zM) (v1 v2 : Int32) (v : Int32) (hC : zC l G 9 yX10_member cX10_member 3 (Option.some Jvm.ClassFile.FieldType.int) [.ref (0 : Nat), .int v1, .int v2] M (zP (some (.int v)) M1)) : zCw l G 10 1 6 yL_member cL_member 5 (Option.some Jvm.ClassFile.FieldType.int) [(0, 10, 13, 19), (0, 10, 17, 13)] [.ref (0 : Nat), .int v1, .int v2, .ref (220 : Nat)] M (zP (some (.int (nI 0))) (zwL M1 220 0 v.toInt64)) := by
  refine zCw_of (by decide) (Nat.le_of_ble_eq_true rfl) (fun X Q hQ hX hl hR hr hEx hNc hT => ?_)
  refine zV_loc (L' := [.ref (0 : Nat), .int v1, .int v2, .ref (220 : Nat), .null]) rfl ?_
  refine zV_aload_n hX dL_member_0 rfl ?_
  refine zV_iconst hX (v := nI 0) dL_member_1 (by decide) ?_
  refine zV_aload_n hX dL_member_2 rfl ?_
  refine zV_iload_n hX dL_member_3 rfl ?_
  refine zV_iload_n hX dL_member_4 rfl ?_
  refine zK_cV2p hX hR hl dL_member_5 (zCk.of (hC)) zt_X10_member rfl zml_L_34 zo0.1 ⟨by decide, by decide⟩ (Nat.le_of_ble_eq_true rfl) (by omega) ⟨rfl, rfl⟩ ?_
  dsimp only [Option.toList, List.cons_append, List.nil_append]
  refine zV_i2l hX dL_member_8 ?_
  refine zV_last hX dL_member_9 (rfl : zSh 220 = (23, 1)) (rfl) ⟨by omega, by omega⟩ ?_
  refine zV_goto hX (tgt := 21) dL_member_10 (by decide) ?_
  refine zV_iconst hX (v := nI 0) dL_member_21 (by decide) ?_
  exact zH_reti hX (by omega) hQ hr (⟨rfl, rfl⟩) dL_member_22
set_option maxHeartbeats 1000000 in
theorem zh_memberS (l : Launch) (G : zG) (M M1 : zM) (v1 v2 : Int32) (hC : zCx l G 9 1 6 yX10_member cX10_member 3 (Option.some Jvm.ClassFile.FieldType.int) [.ref (0 : Nat), .int v1, .int v2] M zNSE M1) : zCw l G 10 1 6 yL_member cL_member 5 (Option.some Jvm.ClassFile.FieldType.int) [(0, 10, 13, 19), (0, 10, 17, 13)] [.ref (0 : Nat), .int v1, .int v2, .ref (220 : Nat)] M (zP (some (.int (nI 1))) (M1)) := by
  refine zCw_of (by decide) (Nat.le_of_ble_eq_true rfl) (fun X Q hQ hX hl hR hr hEx hNc hT => ?_)
  refine zV_loc (L' := [.ref (0 : Nat), .int v1, .int v2, .ref (220 : Nat), .null]) rfl ?_
  refine zV_aload_n hX dL_member_0 rfl ?_
  refine zV_iconst hX (v := nI 0) dL_member_1 (by decide) ?_
  refine zV_aload_n hX dL_member_2 rfl ?_
  refine zV_iload_n hX dL_member_3 rfl ?_
  refine zV_iload_n hX dL_member_4 rfl ?_
  refine zH_catch2 hX hEx hR hl dL_member_5 (hC) zt_X10_member rfl zml_L_34 zo0.1 ⟨by decide, by decide⟩ (Nat.le_of_ble_eq_true rfl) (by omega) ⟨rfl, rfl⟩ [] ⟨0, 10, 13, 19⟩ [⟨0, 10, 17, 13⟩] hT (fun z hz => nomatch hz) ⟨by decide, by decide⟩ zcl_L_19 (by decide) rfl dL_member_13 (by decide) ?_
  dsimp only [zst1, zst2, zclr, zc2]
  refine zV_iconst hX (v := nI 1) dL_member_15 (by decide) ?_
  exact zH_reti hX (by omega) hQ hr (⟨rfl, rfl⟩) dL_member_16
set_option maxHeartbeats 1000000 in
theorem zh_memberI (l : Launch) (G : zG) (M M1 : zM) (v1 v2 : Int32) (hC : zCx l G 9 1 6 yX10_member cX10_member 3 (Option.some Jvm.ClassFile.FieldType.int) [.ref (0 : Nat), .int v1, .int v2] M zIAE M1) : zCw l G 10 1 6 yL_member cL_member 5 (Option.some Jvm.ClassFile.FieldType.int) [(0, 10, 13, 19), (0, 10, 17, 13)] [.ref (0 : Nat), .int v1, .int v2, .ref (220 : Nat)] M (zP (some (.int (nI 2))) (M1)) := by
  refine zCw_of (by decide) (Nat.le_of_ble_eq_true rfl) (fun X Q hQ hX hl hR hr hEx hNc hT => ?_)
  refine zV_loc (L' := [.ref (0 : Nat), .int v1, .int v2, .ref (220 : Nat), .null]) rfl ?_
  refine zV_aload_n hX dL_member_0 rfl ?_
  refine zV_iconst hX (v := nI 0) dL_member_1 (by decide) ?_
  refine zV_aload_n hX dL_member_2 rfl ?_
  refine zV_iload_n hX dL_member_3 rfl ?_
  refine zV_iload_n hX dL_member_4 rfl ?_
  refine zH_catch2 hX hEx hR hl dL_member_5 (hC) zt_X10_member rfl zml_L_34 zo0.1 ⟨by decide, by decide⟩ (Nat.le_of_ble_eq_true rfl) (by omega) ⟨rfl, rfl⟩ [⟨0, 10, 13, 19⟩] ⟨0, 10, 17, 13⟩ [] hT (fun z hz => by rw [List.mem_singleton.mp hz]; exact Or.inr ⟨by decide, _, zcl_L_19, hNc⟩) ⟨by decide, by decide⟩ zcl_L_13 (by decide) rfl dL_member_17 (by decide) ?_
  dsimp only [zst1, zst2, zclr, zc2]
  refine zV_iconst hX (v := nI 2) dL_member_19 (by decide) ?_
  exact zH_reti hX (by omega) hQ hr (⟨rfl, rfl⟩) dL_member_20
set_option maxHeartbeats 1000000 in
theorem zh_heard (l : Launch) (G : zG) (M M1 : zM) (v1 v2 v3 v4 v5 : Int32) (v : Int32) (hC : zC l G 9 yX10_heard cX10_heard 7 (Option.some Jvm.ClassFile.FieldType.int) [.ref (0 : Nat), .int v1, .int v2, .int v3, .int v4, .int v5] M (zP (some (.int v)) M1)) : zCw l G 10 1 6 yL_heard cL_heard 8 (Option.some Jvm.ClassFile.FieldType.int) [(0, 16, 19, 19), (0, 16, 23, 13)] [.ref (0 : Nat), .int v1, .int v2, .int v3, .int v4, .int v5, .ref (220 : Nat)] M (zP (some (.int (nI 0))) (zwL M1 220 0 v.toInt64)) := by
  refine zCw_of (by decide) (Nat.le_of_ble_eq_true rfl) (fun X Q hQ hX hl hR hr hEx hNc hT => ?_)
  refine zV_loc (L' := [.ref (0 : Nat), .int v1, .int v2, .int v3, .int v4, .int v5, .ref (220 : Nat), .null]) rfl ?_
  refine zV_aload hX dL_heard_0 rfl ?_
  refine zV_iconst hX (v := nI 0) dL_heard_2 (by decide) ?_
  refine zV_aload_n hX dL_heard_3 rfl ?_
  refine zV_iload_n hX dL_heard_4 rfl ?_
  refine zV_iload_n hX dL_heard_5 rfl ?_
  refine zV_iload_n hX dL_heard_6 rfl ?_
  refine zV_iload hX dL_heard_7 rfl ?_
  refine zV_iload hX dL_heard_9 rfl ?_
  refine zK_cV5p hX hR hl dL_heard_11 (zCk.of (hC)) zt_X10_heard rfl zml_L_37 zo0.1 ⟨by decide, by decide⟩ (Nat.le_of_ble_eq_true rfl) (by omega) ⟨rfl, rfl⟩ ?_
  dsimp only [Option.toList, List.cons_append, List.nil_append]
  refine zV_i2l hX dL_heard_14 ?_
  refine zV_last hX dL_heard_15 (rfl : zSh 220 = (23, 1)) (rfl) ⟨by omega, by omega⟩ ?_
  refine zV_goto hX (tgt := 27) dL_heard_16 (by decide) ?_
  refine zV_iconst hX (v := nI 0) dL_heard_27 (by decide) ?_
  exact zH_reti hX (by omega) hQ hr (⟨rfl, rfl⟩) dL_heard_28
set_option maxHeartbeats 1000000 in
theorem zh_heardS (l : Launch) (G : zG) (M M1 : zM) (v1 v2 v3 v4 v5 : Int32) (hC : zCx l G 9 1 6 yX10_heard cX10_heard 7 (Option.some Jvm.ClassFile.FieldType.int) [.ref (0 : Nat), .int v1, .int v2, .int v3, .int v4, .int v5] M zNSE M1) : zCw l G 10 1 6 yL_heard cL_heard 8 (Option.some Jvm.ClassFile.FieldType.int) [(0, 16, 19, 19), (0, 16, 23, 13)] [.ref (0 : Nat), .int v1, .int v2, .int v3, .int v4, .int v5, .ref (220 : Nat)] M (zP (some (.int (nI 1))) (M1)) := by
  refine zCw_of (by decide) (Nat.le_of_ble_eq_true rfl) (fun X Q hQ hX hl hR hr hEx hNc hT => ?_)
  refine zV_loc (L' := [.ref (0 : Nat), .int v1, .int v2, .int v3, .int v4, .int v5, .ref (220 : Nat), .null]) rfl ?_
  refine zV_aload hX dL_heard_0 rfl ?_
  refine zV_iconst hX (v := nI 0) dL_heard_2 (by decide) ?_
  refine zV_aload_n hX dL_heard_3 rfl ?_
  refine zV_iload_n hX dL_heard_4 rfl ?_
  refine zV_iload_n hX dL_heard_5 rfl ?_
  refine zV_iload_n hX dL_heard_6 rfl ?_
  refine zV_iload hX dL_heard_7 rfl ?_
  refine zV_iload hX dL_heard_9 rfl ?_
  refine zH_catch5 hX hEx hR hl dL_heard_11 (hC) zt_X10_heard rfl zml_L_37 zo0.1 ⟨by decide, by decide⟩ (Nat.le_of_ble_eq_true rfl) (by omega) ⟨rfl, rfl⟩ [] ⟨0, 16, 19, 19⟩ [⟨0, 16, 23, 13⟩] hT (fun z hz => nomatch hz) ⟨by decide, by decide⟩ zcl_L_19 (by decide) rfl dL_heard_19 (by decide) ?_
  dsimp only [zst1, zst2, zclr, zc2]
  refine zV_iconst hX (v := nI 1) dL_heard_21 (by decide) ?_
  exact zH_reti hX (by omega) hQ hr (⟨rfl, rfl⟩) dL_heard_22
set_option maxHeartbeats 1000000 in
theorem zh_heardI (l : Launch) (G : zG) (M M1 : zM) (v1 v2 v3 v4 v5 : Int32) (hC : zCx l G 9 1 6 yX10_heard cX10_heard 7 (Option.some Jvm.ClassFile.FieldType.int) [.ref (0 : Nat), .int v1, .int v2, .int v3, .int v4, .int v5] M zIAE M1) : zCw l G 10 1 6 yL_heard cL_heard 8 (Option.some Jvm.ClassFile.FieldType.int) [(0, 16, 19, 19), (0, 16, 23, 13)] [.ref (0 : Nat), .int v1, .int v2, .int v3, .int v4, .int v5, .ref (220 : Nat)] M (zP (some (.int (nI 2))) (M1)) := by
  refine zCw_of (by decide) (Nat.le_of_ble_eq_true rfl) (fun X Q hQ hX hl hR hr hEx hNc hT => ?_)
  refine zV_loc (L' := [.ref (0 : Nat), .int v1, .int v2, .int v3, .int v4, .int v5, .ref (220 : Nat), .null]) rfl ?_
  refine zV_aload hX dL_heard_0 rfl ?_
  refine zV_iconst hX (v := nI 0) dL_heard_2 (by decide) ?_
  refine zV_aload_n hX dL_heard_3 rfl ?_
  refine zV_iload_n hX dL_heard_4 rfl ?_
  refine zV_iload_n hX dL_heard_5 rfl ?_
  refine zV_iload_n hX dL_heard_6 rfl ?_
  refine zV_iload hX dL_heard_7 rfl ?_
  refine zV_iload hX dL_heard_9 rfl ?_
  refine zH_catch5 hX hEx hR hl dL_heard_11 (hC) zt_X10_heard rfl zml_L_37 zo0.1 ⟨by decide, by decide⟩ (Nat.le_of_ble_eq_true rfl) (by omega) ⟨rfl, rfl⟩ [⟨0, 16, 19, 19⟩] ⟨0, 16, 23, 13⟩ [] hT (fun z hz => by rw [List.mem_singleton.mp hz]; exact Or.inr ⟨by decide, _, zcl_L_19, hNc⟩) ⟨by decide, by decide⟩ zcl_L_13 (by decide) rfl dL_heard_23 (by decide) ?_
  dsimp only [zst1, zst2, zclr, zc2]
  refine zV_iconst hX (v := nI 2) dL_heard_25 (by decide) ?_
  exact zH_reti hX (by omega) hQ hr (⟨rfl, rfl⟩) dL_heard_26
set_option maxHeartbeats 1000000 in
theorem zh_cut (l : Launch) (G : zG) (M M1 : zM) (v1 v2 : Int32) (v : Int32) (hC : zC l G 9 yX10_cut cX10_cut 3 (Option.some Jvm.ClassFile.FieldType.int) [.ref (0 : Nat), .int v1, .int v2] M (zP (some (.int v)) M1)) : zCw l G 10 1 6 yL_cut cL_cut 5 (Option.some Jvm.ClassFile.FieldType.int) [(0, 10, 13, 19), (0, 10, 17, 13)] [.ref (0 : Nat), .int v1, .int v2, .ref (220 : Nat)] M (zP (some (.int (nI 0))) (zwL M1 220 0 v.toInt64)) := by
  refine zCw_of (by decide) (Nat.le_of_ble_eq_true rfl) (fun X Q hQ hX hl hR hr hEx hNc hT => ?_)
  refine zV_loc (L' := [.ref (0 : Nat), .int v1, .int v2, .ref (220 : Nat), .null]) rfl ?_
  refine zV_aload_n hX dL_cut_0 rfl ?_
  refine zV_iconst hX (v := nI 0) dL_cut_1 (by decide) ?_
  refine zV_aload_n hX dL_cut_2 rfl ?_
  refine zV_iload_n hX dL_cut_3 rfl ?_
  refine zV_iload_n hX dL_cut_4 rfl ?_
  refine zK_cV2p hX hR hl dL_cut_5 (zCk.of (hC)) zt_X10_cut rfl zml_L_41 zo0.1 ⟨by decide, by decide⟩ (Nat.le_of_ble_eq_true rfl) (by omega) ⟨rfl, rfl⟩ ?_
  dsimp only [Option.toList, List.cons_append, List.nil_append]
  refine zV_i2l hX dL_cut_8 ?_
  refine zV_last hX dL_cut_9 (rfl : zSh 220 = (23, 1)) (rfl) ⟨by omega, by omega⟩ ?_
  refine zV_goto hX (tgt := 21) dL_cut_10 (by decide) ?_
  refine zV_iconst hX (v := nI 0) dL_cut_21 (by decide) ?_
  exact zH_reti hX (by omega) hQ hr (⟨rfl, rfl⟩) dL_cut_22
set_option maxHeartbeats 1000000 in
theorem zh_cutS (l : Launch) (G : zG) (M M1 : zM) (v1 v2 : Int32) (hC : zCx l G 9 1 6 yX10_cut cX10_cut 3 (Option.some Jvm.ClassFile.FieldType.int) [.ref (0 : Nat), .int v1, .int v2] M zNSE M1) : zCw l G 10 1 6 yL_cut cL_cut 5 (Option.some Jvm.ClassFile.FieldType.int) [(0, 10, 13, 19), (0, 10, 17, 13)] [.ref (0 : Nat), .int v1, .int v2, .ref (220 : Nat)] M (zP (some (.int (nI 1))) (M1)) := by
  refine zCw_of (by decide) (Nat.le_of_ble_eq_true rfl) (fun X Q hQ hX hl hR hr hEx hNc hT => ?_)
  refine zV_loc (L' := [.ref (0 : Nat), .int v1, .int v2, .ref (220 : Nat), .null]) rfl ?_
  refine zV_aload_n hX dL_cut_0 rfl ?_
  refine zV_iconst hX (v := nI 0) dL_cut_1 (by decide) ?_
  refine zV_aload_n hX dL_cut_2 rfl ?_
  refine zV_iload_n hX dL_cut_3 rfl ?_
  refine zV_iload_n hX dL_cut_4 rfl ?_
  refine zH_catch2 hX hEx hR hl dL_cut_5 (hC) zt_X10_cut rfl zml_L_41 zo0.1 ⟨by decide, by decide⟩ (Nat.le_of_ble_eq_true rfl) (by omega) ⟨rfl, rfl⟩ [] ⟨0, 10, 13, 19⟩ [⟨0, 10, 17, 13⟩] hT (fun z hz => nomatch hz) ⟨by decide, by decide⟩ zcl_L_19 (by decide) rfl dL_cut_13 (by decide) ?_
  dsimp only [zst1, zst2, zclr, zc2]
  refine zV_iconst hX (v := nI 1) dL_cut_15 (by decide) ?_
  exact zH_reti hX (by omega) hQ hr (⟨rfl, rfl⟩) dL_cut_16
set_option maxHeartbeats 1000000 in
theorem zh_cutI (l : Launch) (G : zG) (M M1 : zM) (v1 v2 : Int32) (hC : zCx l G 9 1 6 yX10_cut cX10_cut 3 (Option.some Jvm.ClassFile.FieldType.int) [.ref (0 : Nat), .int v1, .int v2] M zIAE M1) : zCw l G 10 1 6 yL_cut cL_cut 5 (Option.some Jvm.ClassFile.FieldType.int) [(0, 10, 13, 19), (0, 10, 17, 13)] [.ref (0 : Nat), .int v1, .int v2, .ref (220 : Nat)] M (zP (some (.int (nI 2))) (M1)) := by
  refine zCw_of (by decide) (Nat.le_of_ble_eq_true rfl) (fun X Q hQ hX hl hR hr hEx hNc hT => ?_)
  refine zV_loc (L' := [.ref (0 : Nat), .int v1, .int v2, .ref (220 : Nat), .null]) rfl ?_
  refine zV_aload_n hX dL_cut_0 rfl ?_
  refine zV_iconst hX (v := nI 0) dL_cut_1 (by decide) ?_
  refine zV_aload_n hX dL_cut_2 rfl ?_
  refine zV_iload_n hX dL_cut_3 rfl ?_
  refine zV_iload_n hX dL_cut_4 rfl ?_
  refine zH_catch2 hX hEx hR hl dL_cut_5 (hC) zt_X10_cut rfl zml_L_41 zo0.1 ⟨by decide, by decide⟩ (Nat.le_of_ble_eq_true rfl) (by omega) ⟨rfl, rfl⟩ [⟨0, 10, 13, 19⟩] ⟨0, 10, 17, 13⟩ [] hT (fun z hz => by rw [List.mem_singleton.mp hz]; exact Or.inr ⟨by decide, _, zcl_L_19, hNc⟩) ⟨by decide, by decide⟩ zcl_L_13 (by decide) rfl dL_cut_17 (by decide) ?_
  dsimp only [zst1, zst2, zclr, zc2]
  refine zV_iconst hX (v := nI 2) dL_cut_19 (by decide) ?_
  exact zH_reti hX (by omega) hQ hr (⟨rfl, rfl⟩) dL_cut_20
set_option maxHeartbeats 1000000 in
theorem zh_common (l : Launch) (G : zG) (M M1 : zM) (v1 v2 v3 : Int32) (v : Bool) (hC : zC l G 9 yX10_common cX10_common 5 (Option.some Jvm.ClassFile.FieldType.boolean) [.ref (0 : Nat), .int v1, .int v2, .int v3] M (zP (some (.int (zb v))) M1)) : zCw l G 10 1 6 yL_common cL_common 6 (Option.some Jvm.ClassFile.FieldType.int) [(0, 19, 22, 19)] [.ref (0 : Nat), .int v1, .int v2, .int v3, .ref (220 : Nat)] M (zP (some (.int (nI 0))) (zwL M1 220 0 (if v = true then 1 else 0))) := by
  refine zCw_of (by decide) (Nat.le_of_ble_eq_true rfl) (fun X Q hQ hX hl hR hr hEx hNc hT => ?_)
  refine zV_loc (L' := [.ref (0 : Nat), .int v1, .int v2, .int v3, .ref (220 : Nat), .null]) rfl ?_
  refine zV_aload hX dL_common_0 rfl ?_
  refine zV_iconst hX (v := nI 0) dL_common_2 (by decide) ?_
  refine zV_aload_n hX dL_common_3 rfl ?_
  refine zV_iload_n hX dL_common_4 rfl ?_
  refine zV_iload_n hX dL_common_5 rfl ?_
  refine zV_iload_n hX dL_common_6 rfl ?_
  refine zK_cV3p hX hR hl dL_common_7 (zCk.of (hC)) zt_X10_common rfl zml_L_44 zo0.1 ⟨by decide, by decide⟩ (Nat.le_of_ble_eq_true rfl) (by omega) ⟨rfl, rfl⟩ ?_
  dsimp only [Option.toList, List.cons_append, List.nil_append]
  refine zV_if_eqB hX (tgt := 17) dL_common_10 (by decide) (fun c_10 => ?_) (fun c_10 => ?_)
  · refine zV_lconst hX (v := 0) dL_common_17 rfl ?_
    refine zV_last hX dL_common_18 (rfl : zSh 220 = (23, 1)) (rfl) ⟨by omega, by omega⟩ ?_
    refine zV_goto hX (tgt := 26) dL_common_19 (by decide) ?_
    refine zV_iconst hX (v := nI 0) dL_common_26 (by decide) ?_
    exact zH_reti hX (by omega) hQ hr (⟨rfl, by first | (rw [if_neg (by rw [c_10]; decide)]) | (rw [if_pos c_10])⟩) dL_common_27
  · refine zV_lconst hX (v := 1) dL_common_13 rfl ?_
    refine zV_goto hX (tgt := 18) dL_common_14 (by decide) ?_
    refine zV_last hX dL_common_18 (rfl : zSh 220 = (23, 1)) (rfl) ⟨by omega, by omega⟩ ?_
    refine zV_goto hX (tgt := 26) dL_common_19 (by decide) ?_
    refine zV_iconst hX (v := nI 0) dL_common_26 (by decide) ?_
    exact zH_reti hX (by omega) hQ hr (⟨rfl, by first | (rw [if_neg (by rw [c_10]; decide)]) | (rw [if_pos c_10])⟩) dL_common_27
set_option maxHeartbeats 1000000 in
theorem zh_commonS (l : Launch) (G : zG) (M M1 : zM) (v1 v2 v3 : Int32) (hC : zCx l G 9 1 6 yX10_common cX10_common 5 (Option.some Jvm.ClassFile.FieldType.boolean) [.ref (0 : Nat), .int v1, .int v2, .int v3] M zNSE M1) : zCw l G 10 1 6 yL_common cL_common 6 (Option.some Jvm.ClassFile.FieldType.int) [(0, 19, 22, 19)] [.ref (0 : Nat), .int v1, .int v2, .int v3, .ref (220 : Nat)] M (zP (some (.int (nI 1))) (M1)) := by
  refine zCw_of (by decide) (Nat.le_of_ble_eq_true rfl) (fun X Q hQ hX hl hR hr hEx hNc hT => ?_)
  refine zV_loc (L' := [.ref (0 : Nat), .int v1, .int v2, .int v3, .ref (220 : Nat), .null]) rfl ?_
  refine zV_aload hX dL_common_0 rfl ?_
  refine zV_iconst hX (v := nI 0) dL_common_2 (by decide) ?_
  refine zV_aload_n hX dL_common_3 rfl ?_
  refine zV_iload_n hX dL_common_4 rfl ?_
  refine zV_iload_n hX dL_common_5 rfl ?_
  refine zV_iload_n hX dL_common_6 rfl ?_
  refine zH_catch3 hX hEx hR hl dL_common_7 (hC) zt_X10_common rfl zml_L_44 zo0.1 ⟨by decide, by decide⟩ (Nat.le_of_ble_eq_true rfl) (by omega) ⟨rfl, rfl⟩ [] ⟨0, 19, 22, 19⟩ [] hT (fun z hz => nomatch hz) ⟨by decide, by decide⟩ zcl_L_19 (by decide) rfl dL_common_22 (by decide) ?_
  dsimp only [zst1, zst2, zclr, zc2]
  refine zV_iconst hX (v := nI 1) dL_common_24 (by decide) ?_
  exact zH_reti hX (by omega) hQ hr (⟨rfl, rfl⟩) dL_common_25
set_option maxHeartbeats 1000000 in
theorem zh_commons (l : Launch) (G : zG) (M M1 : zM) (v1 : Int32) (v : Int32) (hC : zC l G 9 yX10_commons cX10_commons 2 (Option.some Jvm.ClassFile.FieldType.int) [.ref (0 : Nat), .int v1] M (zP (some (.int v)) M1)) : zCw l G 10 1 6 yL_commons cL_commons 4 (Option.some Jvm.ClassFile.FieldType.int) [(0, 9, 12, 13)] [.ref (0 : Nat), .int v1, .ref (220 : Nat)] M (zP (some (.int (nI 0))) (zwL M1 220 0 v.toInt64)) := by
  refine zCw_of (by decide) (Nat.le_of_ble_eq_true rfl) (fun X Q hQ hX hl hR hr hEx hNc hT => ?_)
  refine zV_loc (L' := [.ref (0 : Nat), .int v1, .ref (220 : Nat), .null]) rfl ?_
  refine zV_aload_n hX dL_commons_0 rfl ?_
  refine zV_iconst hX (v := nI 0) dL_commons_1 (by decide) ?_
  refine zV_aload_n hX dL_commons_2 rfl ?_
  refine zV_iload_n hX dL_commons_3 rfl ?_
  refine zK_cV1p hX hR hl dL_commons_4 (zCk.of (hC)) zt_X10_commons rfl zml_L_48 zo0.1 ⟨by decide, by decide⟩ (Nat.le_of_ble_eq_true rfl) (by omega) ⟨rfl, rfl⟩ ?_
  dsimp only [Option.toList, List.cons_append, List.nil_append]
  refine zV_i2l hX dL_commons_7 ?_
  refine zV_last hX dL_commons_8 (rfl : zSh 220 = (23, 1)) (rfl) ⟨by omega, by omega⟩ ?_
  refine zV_goto hX (tgt := 15) dL_commons_9 (by decide) ?_
  refine zV_iconst hX (v := nI 0) dL_commons_15 (by decide) ?_
  exact zH_reti hX (by omega) hQ hr (⟨rfl, rfl⟩) dL_commons_16
set_option maxHeartbeats 1000000 in
theorem zh_commonsI (l : Launch) (G : zG) (M M1 : zM) (v1 : Int32) (hC : zCx l G 9 1 6 yX10_commons cX10_commons 2 (Option.some Jvm.ClassFile.FieldType.int) [.ref (0 : Nat), .int v1] M zIAE M1) : zCw l G 10 1 6 yL_commons cL_commons 4 (Option.some Jvm.ClassFile.FieldType.int) [(0, 9, 12, 13)] [.ref (0 : Nat), .int v1, .ref (220 : Nat)] M (zP (some (.int (nI 1))) (M1)) := by
  refine zCw_of (by decide) (Nat.le_of_ble_eq_true rfl) (fun X Q hQ hX hl hR hr hEx hNc hT => ?_)
  refine zV_loc (L' := [.ref (0 : Nat), .int v1, .ref (220 : Nat), .null]) rfl ?_
  refine zV_aload_n hX dL_commons_0 rfl ?_
  refine zV_iconst hX (v := nI 0) dL_commons_1 (by decide) ?_
  refine zV_aload_n hX dL_commons_2 rfl ?_
  refine zV_iload_n hX dL_commons_3 rfl ?_
  refine zH_catchn1 hX hEx hR hl dL_commons_4 (hC) zt_X10_commons rfl zml_L_48 zo0.1 ⟨by decide, by decide⟩ (Nat.le_of_ble_eq_true rfl) (by omega) ⟨rfl, rfl⟩ [] ⟨0, 9, 12, 13⟩ [] hT (fun z hz => nomatch hz) ⟨by decide, by decide⟩ zcl_L_13 (by decide) rfl dL_commons_12 (by decide) ?_
  dsimp only [zst1, zst2, zclr, zc2]
  refine zV_iconst hX (v := nI 1) dL_commons_13 (by decide) ?_
  exact zH_reti hX (by omega) hQ hr (⟨rfl, rfl⟩) dL_commons_14
set_option maxHeartbeats 1000000 in
theorem zh_agreed (l : Launch) (G : zG) (M M1 : zM) (v1 : Int32) (v : Bool) (hC : zC l G 9 yX10_agreed cX10_agreed 2 (Option.some Jvm.ClassFile.FieldType.boolean) [.ref (0 : Nat), .int v1] M (zP (some (.int (zb v))) M1)) : zCw l G 10 1 6 yL_agreed cL_agreed 4 (Option.some Jvm.ClassFile.FieldType.int) [(0, 16, 19, 13)] [.ref (0 : Nat), .int v1, .ref (220 : Nat)] M (zP (some (.int (nI 0))) (zwL M1 220 0 (if v = true then 1 else 0))) := by
  refine zCw_of (by decide) (Nat.le_of_ble_eq_true rfl) (fun X Q hQ hX hl hR hr hEx hNc hT => ?_)
  refine zV_loc (L' := [.ref (0 : Nat), .int v1, .ref (220 : Nat), .null]) rfl ?_
  refine zV_aload_n hX dL_agreed_0 rfl ?_
  refine zV_iconst hX (v := nI 0) dL_agreed_1 (by decide) ?_
  refine zV_aload_n hX dL_agreed_2 rfl ?_
  refine zV_iload_n hX dL_agreed_3 rfl ?_
  refine zK_cV1p hX hR hl dL_agreed_4 (zCk.of (hC)) zt_X10_agreed rfl zml_L_51 zo0.1 ⟨by decide, by decide⟩ (Nat.le_of_ble_eq_true rfl) (by omega) ⟨rfl, rfl⟩ ?_
  dsimp only [Option.toList, List.cons_append, List.nil_append]
  refine zV_if_eqB hX (tgt := 14) dL_agreed_7 (by decide) (fun c_7 => ?_) (fun c_7 => ?_)
  · refine zV_lconst hX (v := 0) dL_agreed_14 rfl ?_
    refine zV_last hX dL_agreed_15 (rfl : zSh 220 = (23, 1)) (rfl) ⟨by omega, by omega⟩ ?_
    refine zV_goto hX (tgt := 22) dL_agreed_16 (by decide) ?_
    refine zV_iconst hX (v := nI 0) dL_agreed_22 (by decide) ?_
    exact zH_reti hX (by omega) hQ hr (⟨rfl, by first | (rw [if_neg (by rw [c_7]; decide)]) | (rw [if_pos c_7])⟩) dL_agreed_23
  · refine zV_lconst hX (v := 1) dL_agreed_10 rfl ?_
    refine zV_goto hX (tgt := 15) dL_agreed_11 (by decide) ?_
    refine zV_last hX dL_agreed_15 (rfl : zSh 220 = (23, 1)) (rfl) ⟨by omega, by omega⟩ ?_
    refine zV_goto hX (tgt := 22) dL_agreed_16 (by decide) ?_
    refine zV_iconst hX (v := nI 0) dL_agreed_22 (by decide) ?_
    exact zH_reti hX (by omega) hQ hr (⟨rfl, by first | (rw [if_neg (by rw [c_7]; decide)]) | (rw [if_pos c_7])⟩) dL_agreed_23
set_option maxHeartbeats 1000000 in
theorem zh_agreedI (l : Launch) (G : zG) (M M1 : zM) (v1 : Int32) (hC : zCx l G 9 1 6 yX10_agreed cX10_agreed 2 (Option.some Jvm.ClassFile.FieldType.boolean) [.ref (0 : Nat), .int v1] M zIAE M1) : zCw l G 10 1 6 yL_agreed cL_agreed 4 (Option.some Jvm.ClassFile.FieldType.int) [(0, 16, 19, 13)] [.ref (0 : Nat), .int v1, .ref (220 : Nat)] M (zP (some (.int (nI 1))) (M1)) := by
  refine zCw_of (by decide) (Nat.le_of_ble_eq_true rfl) (fun X Q hQ hX hl hR hr hEx hNc hT => ?_)
  refine zV_loc (L' := [.ref (0 : Nat), .int v1, .ref (220 : Nat), .null]) rfl ?_
  refine zV_aload_n hX dL_agreed_0 rfl ?_
  refine zV_iconst hX (v := nI 0) dL_agreed_1 (by decide) ?_
  refine zV_aload_n hX dL_agreed_2 rfl ?_
  refine zV_iload_n hX dL_agreed_3 rfl ?_
  refine zH_catchn1 hX hEx hR hl dL_agreed_4 (hC) zt_X10_agreed rfl zml_L_51 zo0.1 ⟨by decide, by decide⟩ (Nat.le_of_ble_eq_true rfl) (by omega) ⟨rfl, rfl⟩ [] ⟨0, 16, 19, 13⟩ [] hT (fun z hz => nomatch hz) ⟨by decide, by decide⟩ zcl_L_13 (by decide) rfl dL_agreed_19 (by decide) ?_
  dsimp only [zst1, zst2, zclr, zc2]
  refine zV_iconst hX (v := nI 1) dL_agreed_20 (by decide) ?_
  exact zH_reti hX (by omega) hQ hr (⟨rfl, rfl⟩) dL_agreed_21
set_option maxHeartbeats 1000000 in
theorem zh_order (l : Launch) (G : zG) (M M1 : zM) (v1 v2 : Int32) (v : Int32) (hC : zC l G 9 yX10_order cX10_order 3 (Option.some Jvm.ClassFile.FieldType.int) [.ref (0 : Nat), .int v1, .int v2] M (zP (some (.int v)) M1)) : zCw l G 10 1 6 yL_order cL_order 5 (Option.some Jvm.ClassFile.FieldType.int) [(0, 10, 13, 19)] [.ref (0 : Nat), .int v1, .int v2, .ref (220 : Nat)] M (zP (some (.int (nI 0))) (zwL M1 220 0 v.toInt64)) := by
  refine zCw_of (by decide) (Nat.le_of_ble_eq_true rfl) (fun X Q hQ hX hl hR hr hEx hNc hT => ?_)
  refine zV_loc (L' := [.ref (0 : Nat), .int v1, .int v2, .ref (220 : Nat), .null]) rfl ?_
  refine zV_aload_n hX dL_order_0 rfl ?_
  refine zV_iconst hX (v := nI 0) dL_order_1 (by decide) ?_
  refine zV_aload_n hX dL_order_2 rfl ?_
  refine zV_iload_n hX dL_order_3 rfl ?_
  refine zV_iload_n hX dL_order_4 rfl ?_
  refine zK_cV2p hX hR hl dL_order_5 (zCk.of (hC)) zt_X10_order rfl zml_L_55 zo0.1 ⟨by decide, by decide⟩ (Nat.le_of_ble_eq_true rfl) (by omega) ⟨rfl, rfl⟩ ?_
  dsimp only [Option.toList, List.cons_append, List.nil_append]
  refine zV_i2l hX dL_order_8 ?_
  refine zV_last hX dL_order_9 (rfl : zSh 220 = (23, 1)) (rfl) ⟨by omega, by omega⟩ ?_
  refine zV_goto hX (tgt := 17) dL_order_10 (by decide) ?_
  refine zV_iconst hX (v := nI 0) dL_order_17 (by decide) ?_
  exact zH_reti hX (by omega) hQ hr (⟨rfl, rfl⟩) dL_order_18
set_option maxHeartbeats 1000000 in
theorem zh_orderS (l : Launch) (G : zG) (M M1 : zM) (v1 v2 : Int32) (hC : zCx l G 9 1 6 yX10_order cX10_order 3 (Option.some Jvm.ClassFile.FieldType.int) [.ref (0 : Nat), .int v1, .int v2] M zNSE M1) : zCw l G 10 1 6 yL_order cL_order 5 (Option.some Jvm.ClassFile.FieldType.int) [(0, 10, 13, 19)] [.ref (0 : Nat), .int v1, .int v2, .ref (220 : Nat)] M (zP (some (.int (nI 1))) (M1)) := by
  refine zCw_of (by decide) (Nat.le_of_ble_eq_true rfl) (fun X Q hQ hX hl hR hr hEx hNc hT => ?_)
  refine zV_loc (L' := [.ref (0 : Nat), .int v1, .int v2, .ref (220 : Nat), .null]) rfl ?_
  refine zV_aload_n hX dL_order_0 rfl ?_
  refine zV_iconst hX (v := nI 0) dL_order_1 (by decide) ?_
  refine zV_aload_n hX dL_order_2 rfl ?_
  refine zV_iload_n hX dL_order_3 rfl ?_
  refine zV_iload_n hX dL_order_4 rfl ?_
  refine zH_catch2 hX hEx hR hl dL_order_5 (hC) zt_X10_order rfl zml_L_55 zo0.1 ⟨by decide, by decide⟩ (Nat.le_of_ble_eq_true rfl) (by omega) ⟨rfl, rfl⟩ [] ⟨0, 10, 13, 19⟩ [] hT (fun z hz => nomatch hz) ⟨by decide, by decide⟩ zcl_L_19 (by decide) rfl dL_order_13 (by decide) ?_
  dsimp only [zst1, zst2, zclr, zc2]
  refine zV_iconst hX (v := nI 1) dL_order_15 (by decide) ?_
  exact zH_reti hX (by omega) hQ hr (⟨rfl, rfl⟩) dL_order_16
set_option maxHeartbeats 1000000 in
theorem zh_most (l : Launch) (G : zG) (M M1 : zM) (v1 v2 : Int32) (v : Int32) (hC : zC l G 9 yX10_most cX10_most 4 (Option.some Jvm.ClassFile.FieldType.int) [.ref (0 : Nat), .int v1, .int v2] M (zP (some (.int v)) M1)) : zCw l G 10 1 6 yL_most cL_most 5 (Option.some Jvm.ClassFile.FieldType.int) [(0, 10, 13, 19), (0, 10, 17, 13)] [.ref (0 : Nat), .int v1, .int v2, .ref (220 : Nat)] M (zP (some (.int (nI 0))) (zwL M1 220 0 v.toInt64)) := by
  refine zCw_of (by decide) (Nat.le_of_ble_eq_true rfl) (fun X Q hQ hX hl hR hr hEx hNc hT => ?_)
  refine zV_loc (L' := [.ref (0 : Nat), .int v1, .int v2, .ref (220 : Nat), .null]) rfl ?_
  refine zV_aload_n hX dL_most_0 rfl ?_
  refine zV_iconst hX (v := nI 0) dL_most_1 (by decide) ?_
  refine zV_aload_n hX dL_most_2 rfl ?_
  refine zV_iload_n hX dL_most_3 rfl ?_
  refine zV_iload_n hX dL_most_4 rfl ?_
  refine zK_cV2p hX hR hl dL_most_5 (zCk.of (hC)) zt_X10_most rfl zml_L_58 zo0.1 ⟨by decide, by decide⟩ (Nat.le_of_ble_eq_true rfl) (by omega) ⟨rfl, rfl⟩ ?_
  dsimp only [Option.toList, List.cons_append, List.nil_append]
  refine zV_i2l hX dL_most_8 ?_
  refine zV_last hX dL_most_9 (rfl : zSh 220 = (23, 1)) (rfl) ⟨by omega, by omega⟩ ?_
  refine zV_goto hX (tgt := 21) dL_most_10 (by decide) ?_
  refine zV_iconst hX (v := nI 0) dL_most_21 (by decide) ?_
  exact zH_reti hX (by omega) hQ hr (⟨rfl, rfl⟩) dL_most_22
set_option maxHeartbeats 1000000 in
theorem zh_mostS (l : Launch) (G : zG) (M M1 : zM) (v1 v2 : Int32) (hC : zCx l G 9 1 6 yX10_most cX10_most 4 (Option.some Jvm.ClassFile.FieldType.int) [.ref (0 : Nat), .int v1, .int v2] M zNSE M1) : zCw l G 10 1 6 yL_most cL_most 5 (Option.some Jvm.ClassFile.FieldType.int) [(0, 10, 13, 19), (0, 10, 17, 13)] [.ref (0 : Nat), .int v1, .int v2, .ref (220 : Nat)] M (zP (some (.int (nI 1))) (M1)) := by
  refine zCw_of (by decide) (Nat.le_of_ble_eq_true rfl) (fun X Q hQ hX hl hR hr hEx hNc hT => ?_)
  refine zV_loc (L' := [.ref (0 : Nat), .int v1, .int v2, .ref (220 : Nat), .null]) rfl ?_
  refine zV_aload_n hX dL_most_0 rfl ?_
  refine zV_iconst hX (v := nI 0) dL_most_1 (by decide) ?_
  refine zV_aload_n hX dL_most_2 rfl ?_
  refine zV_iload_n hX dL_most_3 rfl ?_
  refine zV_iload_n hX dL_most_4 rfl ?_
  refine zH_catch2 hX hEx hR hl dL_most_5 (hC) zt_X10_most rfl zml_L_58 zo0.1 ⟨by decide, by decide⟩ (Nat.le_of_ble_eq_true rfl) (by omega) ⟨rfl, rfl⟩ [] ⟨0, 10, 13, 19⟩ [⟨0, 10, 17, 13⟩] hT (fun z hz => nomatch hz) ⟨by decide, by decide⟩ zcl_L_19 (by decide) rfl dL_most_13 (by decide) ?_
  dsimp only [zst1, zst2, zclr, zc2]
  refine zV_iconst hX (v := nI 1) dL_most_15 (by decide) ?_
  exact zH_reti hX (by omega) hQ hr (⟨rfl, rfl⟩) dL_most_16
set_option maxHeartbeats 1000000 in
theorem zh_mostI (l : Launch) (G : zG) (M M1 : zM) (v1 v2 : Int32) (hC : zCx l G 9 1 6 yX10_most cX10_most 4 (Option.some Jvm.ClassFile.FieldType.int) [.ref (0 : Nat), .int v1, .int v2] M zIAE M1) : zCw l G 10 1 6 yL_most cL_most 5 (Option.some Jvm.ClassFile.FieldType.int) [(0, 10, 13, 19), (0, 10, 17, 13)] [.ref (0 : Nat), .int v1, .int v2, .ref (220 : Nat)] M (zP (some (.int (nI 2))) (M1)) := by
  refine zCw_of (by decide) (Nat.le_of_ble_eq_true rfl) (fun X Q hQ hX hl hR hr hEx hNc hT => ?_)
  refine zV_loc (L' := [.ref (0 : Nat), .int v1, .int v2, .ref (220 : Nat), .null]) rfl ?_
  refine zV_aload_n hX dL_most_0 rfl ?_
  refine zV_iconst hX (v := nI 0) dL_most_1 (by decide) ?_
  refine zV_aload_n hX dL_most_2 rfl ?_
  refine zV_iload_n hX dL_most_3 rfl ?_
  refine zV_iload_n hX dL_most_4 rfl ?_
  refine zH_catch2 hX hEx hR hl dL_most_5 (hC) zt_X10_most rfl zml_L_58 zo0.1 ⟨by decide, by decide⟩ (Nat.le_of_ble_eq_true rfl) (by omega) ⟨rfl, rfl⟩ [⟨0, 10, 13, 19⟩] ⟨0, 10, 17, 13⟩ [] hT (fun z hz => by rw [List.mem_singleton.mp hz]; exact Or.inr ⟨by decide, _, zcl_L_19, hNc⟩) ⟨by decide, by decide⟩ zcl_L_13 (by decide) rfl dL_most_17 (by decide) ?_
  dsimp only [zst1, zst2, zclr, zc2]
  refine zV_iconst hX (v := nI 2) dL_most_19 (by decide) ?_
  exact zH_reti hX (by omega) hQ hr (⟨rfl, rfl⟩) dL_most_20
set_option maxHeartbeats 1000000 in
theorem zh_signed (l : Launch) (G : zG) (M M1 : zM) (v1 v2 : Int32) (v : Int32) (hC : zC l G 9 yX10_signed cX10_signed 3 (Option.some Jvm.ClassFile.FieldType.int) [.ref (0 : Nat), .int v1, .int v2] M (zP (some (.int v)) M1)) : zCw l G 10 1 6 yL_signed cL_signed 5 (Option.some Jvm.ClassFile.FieldType.int) [(0, 10, 13, 19), (0, 10, 17, 13)] [.ref (0 : Nat), .int v1, .int v2, .ref (220 : Nat)] M (zP (some (.int (nI 0))) (zwL M1 220 0 v.toInt64)) := by
  refine zCw_of (by decide) (Nat.le_of_ble_eq_true rfl) (fun X Q hQ hX hl hR hr hEx hNc hT => ?_)
  refine zV_loc (L' := [.ref (0 : Nat), .int v1, .int v2, .ref (220 : Nat), .null]) rfl ?_
  refine zV_aload_n hX dL_signed_0 rfl ?_
  refine zV_iconst hX (v := nI 0) dL_signed_1 (by decide) ?_
  refine zV_aload_n hX dL_signed_2 rfl ?_
  refine zV_iload_n hX dL_signed_3 rfl ?_
  refine zV_iload_n hX dL_signed_4 rfl ?_
  refine zK_cV2p hX hR hl dL_signed_5 (zCk.of (hC)) zt_X10_signed rfl zml_L_61 zo0.1 ⟨by decide, by decide⟩ (Nat.le_of_ble_eq_true rfl) (by omega) ⟨rfl, rfl⟩ ?_
  dsimp only [Option.toList, List.cons_append, List.nil_append]
  refine zV_i2l hX dL_signed_8 ?_
  refine zV_last hX dL_signed_9 (rfl : zSh 220 = (23, 1)) (rfl) ⟨by omega, by omega⟩ ?_
  refine zV_goto hX (tgt := 21) dL_signed_10 (by decide) ?_
  refine zV_iconst hX (v := nI 0) dL_signed_21 (by decide) ?_
  exact zH_reti hX (by omega) hQ hr (⟨rfl, rfl⟩) dL_signed_22
set_option maxHeartbeats 1000000 in
theorem zh_signedS (l : Launch) (G : zG) (M M1 : zM) (v1 v2 : Int32) (hC : zCx l G 9 1 6 yX10_signed cX10_signed 3 (Option.some Jvm.ClassFile.FieldType.int) [.ref (0 : Nat), .int v1, .int v2] M zNSE M1) : zCw l G 10 1 6 yL_signed cL_signed 5 (Option.some Jvm.ClassFile.FieldType.int) [(0, 10, 13, 19), (0, 10, 17, 13)] [.ref (0 : Nat), .int v1, .int v2, .ref (220 : Nat)] M (zP (some (.int (nI 1))) (M1)) := by
  refine zCw_of (by decide) (Nat.le_of_ble_eq_true rfl) (fun X Q hQ hX hl hR hr hEx hNc hT => ?_)
  refine zV_loc (L' := [.ref (0 : Nat), .int v1, .int v2, .ref (220 : Nat), .null]) rfl ?_
  refine zV_aload_n hX dL_signed_0 rfl ?_
  refine zV_iconst hX (v := nI 0) dL_signed_1 (by decide) ?_
  refine zV_aload_n hX dL_signed_2 rfl ?_
  refine zV_iload_n hX dL_signed_3 rfl ?_
  refine zV_iload_n hX dL_signed_4 rfl ?_
  refine zH_catch2 hX hEx hR hl dL_signed_5 (hC) zt_X10_signed rfl zml_L_61 zo0.1 ⟨by decide, by decide⟩ (Nat.le_of_ble_eq_true rfl) (by omega) ⟨rfl, rfl⟩ [] ⟨0, 10, 13, 19⟩ [⟨0, 10, 17, 13⟩] hT (fun z hz => nomatch hz) ⟨by decide, by decide⟩ zcl_L_19 (by decide) rfl dL_signed_13 (by decide) ?_
  dsimp only [zst1, zst2, zclr, zc2]
  refine zV_iconst hX (v := nI 1) dL_signed_15 (by decide) ?_
  exact zH_reti hX (by omega) hQ hr (⟨rfl, rfl⟩) dL_signed_16
set_option maxHeartbeats 1000000 in
theorem zh_signedI (l : Launch) (G : zG) (M M1 : zM) (v1 v2 : Int32) (hC : zCx l G 9 1 6 yX10_signed cX10_signed 3 (Option.some Jvm.ClassFile.FieldType.int) [.ref (0 : Nat), .int v1, .int v2] M zIAE M1) : zCw l G 10 1 6 yL_signed cL_signed 5 (Option.some Jvm.ClassFile.FieldType.int) [(0, 10, 13, 19), (0, 10, 17, 13)] [.ref (0 : Nat), .int v1, .int v2, .ref (220 : Nat)] M (zP (some (.int (nI 2))) (M1)) := by
  refine zCw_of (by decide) (Nat.le_of_ble_eq_true rfl) (fun X Q hQ hX hl hR hr hEx hNc hT => ?_)
  refine zV_loc (L' := [.ref (0 : Nat), .int v1, .int v2, .ref (220 : Nat), .null]) rfl ?_
  refine zV_aload_n hX dL_signed_0 rfl ?_
  refine zV_iconst hX (v := nI 0) dL_signed_1 (by decide) ?_
  refine zV_aload_n hX dL_signed_2 rfl ?_
  refine zV_iload_n hX dL_signed_3 rfl ?_
  refine zV_iload_n hX dL_signed_4 rfl ?_
  refine zH_catch2 hX hEx hR hl dL_signed_5 (hC) zt_X10_signed rfl zml_L_61 zo0.1 ⟨by decide, by decide⟩ (Nat.le_of_ble_eq_true rfl) (by omega) ⟨rfl, rfl⟩ [⟨0, 10, 13, 19⟩] ⟨0, 10, 17, 13⟩ [] hT (fun z hz => by rw [List.mem_singleton.mp hz]; exact Or.inr ⟨by decide, _, zcl_L_19, hNc⟩) ⟨by decide, by decide⟩ zcl_L_13 (by decide) rfl dL_signed_17 (by decide) ?_
  dsimp only [zst1, zst2, zclr, zc2]
  refine zV_iconst hX (v := nI 2) dL_signed_19 (by decide) ?_
  exact zH_reti hX (by omega) hQ hr (⟨rfl, rfl⟩) dL_signed_20
set_option maxHeartbeats 1000000 in
theorem zh_signedOf (l : Launch) (G : zG) (M M1 : zM) (v1 v2 v3 : Int32) (v : Int32) (hC : zC l G 9 yX10_signedOf cX10_signedOf 4 (Option.some Jvm.ClassFile.FieldType.int) [.ref (0 : Nat), .int v1, .int v2, .int v3] M (zP (some (.int v)) M1)) : zCw l G 10 1 6 yL_signedOf cL_signedOf 6 (Option.some Jvm.ClassFile.FieldType.int) [(0, 12, 15, 19), (0, 12, 19, 13)] [.ref (0 : Nat), .int v1, .int v2, .int v3, .ref (220 : Nat)] M (zP (some (.int (nI 0))) (zwL M1 220 0 v.toInt64)) := by
  refine zCw_of (by decide) (Nat.le_of_ble_eq_true rfl) (fun X Q hQ hX hl hR hr hEx hNc hT => ?_)
  refine zV_loc (L' := [.ref (0 : Nat), .int v1, .int v2, .int v3, .ref (220 : Nat), .null]) rfl ?_
  refine zV_aload hX dL_signedOf_0 rfl ?_
  refine zV_iconst hX (v := nI 0) dL_signedOf_2 (by decide) ?_
  refine zV_aload_n hX dL_signedOf_3 rfl ?_
  refine zV_iload_n hX dL_signedOf_4 rfl ?_
  refine zV_iload_n hX dL_signedOf_5 rfl ?_
  refine zV_iload_n hX dL_signedOf_6 rfl ?_
  refine zK_cV3p hX hR hl dL_signedOf_7 (zCk.of (hC)) zt_X10_signedOf rfl zml_L_64 zo0.1 ⟨by decide, by decide⟩ (Nat.le_of_ble_eq_true rfl) (by omega) ⟨rfl, rfl⟩ ?_
  dsimp only [Option.toList, List.cons_append, List.nil_append]
  refine zV_i2l hX dL_signedOf_10 ?_
  refine zV_last hX dL_signedOf_11 (rfl : zSh 220 = (23, 1)) (rfl) ⟨by omega, by omega⟩ ?_
  refine zV_goto hX (tgt := 23) dL_signedOf_12 (by decide) ?_
  refine zV_iconst hX (v := nI 0) dL_signedOf_23 (by decide) ?_
  exact zH_reti hX (by omega) hQ hr (⟨rfl, rfl⟩) dL_signedOf_24
set_option maxHeartbeats 1000000 in
theorem zh_signedOfS (l : Launch) (G : zG) (M M1 : zM) (v1 v2 v3 : Int32) (hC : zCx l G 9 1 6 yX10_signedOf cX10_signedOf 4 (Option.some Jvm.ClassFile.FieldType.int) [.ref (0 : Nat), .int v1, .int v2, .int v3] M zNSE M1) : zCw l G 10 1 6 yL_signedOf cL_signedOf 6 (Option.some Jvm.ClassFile.FieldType.int) [(0, 12, 15, 19), (0, 12, 19, 13)] [.ref (0 : Nat), .int v1, .int v2, .int v3, .ref (220 : Nat)] M (zP (some (.int (nI 1))) (M1)) := by
  refine zCw_of (by decide) (Nat.le_of_ble_eq_true rfl) (fun X Q hQ hX hl hR hr hEx hNc hT => ?_)
  refine zV_loc (L' := [.ref (0 : Nat), .int v1, .int v2, .int v3, .ref (220 : Nat), .null]) rfl ?_
  refine zV_aload hX dL_signedOf_0 rfl ?_
  refine zV_iconst hX (v := nI 0) dL_signedOf_2 (by decide) ?_
  refine zV_aload_n hX dL_signedOf_3 rfl ?_
  refine zV_iload_n hX dL_signedOf_4 rfl ?_
  refine zV_iload_n hX dL_signedOf_5 rfl ?_
  refine zV_iload_n hX dL_signedOf_6 rfl ?_
  refine zH_catch3 hX hEx hR hl dL_signedOf_7 (hC) zt_X10_signedOf rfl zml_L_64 zo0.1 ⟨by decide, by decide⟩ (Nat.le_of_ble_eq_true rfl) (by omega) ⟨rfl, rfl⟩ [] ⟨0, 12, 15, 19⟩ [⟨0, 12, 19, 13⟩] hT (fun z hz => nomatch hz) ⟨by decide, by decide⟩ zcl_L_19 (by decide) rfl dL_signedOf_15 (by decide) ?_
  dsimp only [zst1, zst2, zclr, zc2]
  refine zV_iconst hX (v := nI 1) dL_signedOf_17 (by decide) ?_
  exact zH_reti hX (by omega) hQ hr (⟨rfl, rfl⟩) dL_signedOf_18
set_option maxHeartbeats 1000000 in
theorem zh_signedOfI (l : Launch) (G : zG) (M M1 : zM) (v1 v2 v3 : Int32) (hC : zCx l G 9 1 6 yX10_signedOf cX10_signedOf 4 (Option.some Jvm.ClassFile.FieldType.int) [.ref (0 : Nat), .int v1, .int v2, .int v3] M zIAE M1) : zCw l G 10 1 6 yL_signedOf cL_signedOf 6 (Option.some Jvm.ClassFile.FieldType.int) [(0, 12, 15, 19), (0, 12, 19, 13)] [.ref (0 : Nat), .int v1, .int v2, .int v3, .ref (220 : Nat)] M (zP (some (.int (nI 2))) (M1)) := by
  refine zCw_of (by decide) (Nat.le_of_ble_eq_true rfl) (fun X Q hQ hX hl hR hr hEx hNc hT => ?_)
  refine zV_loc (L' := [.ref (0 : Nat), .int v1, .int v2, .int v3, .ref (220 : Nat), .null]) rfl ?_
  refine zV_aload hX dL_signedOf_0 rfl ?_
  refine zV_iconst hX (v := nI 0) dL_signedOf_2 (by decide) ?_
  refine zV_aload_n hX dL_signedOf_3 rfl ?_
  refine zV_iload_n hX dL_signedOf_4 rfl ?_
  refine zV_iload_n hX dL_signedOf_5 rfl ?_
  refine zV_iload_n hX dL_signedOf_6 rfl ?_
  refine zH_catch3 hX hEx hR hl dL_signedOf_7 (hC) zt_X10_signedOf rfl zml_L_64 zo0.1 ⟨by decide, by decide⟩ (Nat.le_of_ble_eq_true rfl) (by omega) ⟨rfl, rfl⟩ [⟨0, 12, 15, 19⟩] ⟨0, 12, 19, 13⟩ [] hT (fun z hz => by rw [List.mem_singleton.mp hz]; exact Or.inr ⟨by decide, _, zcl_L_19, hNc⟩) ⟨by decide, by decide⟩ zcl_L_13 (by decide) rfl dL_signedOf_19 (by decide) ?_
  dsimp only [zst1, zst2, zclr, zc2]
  refine zV_iconst hX (v := nI 2) dL_signedOf_21 (by decide) ?_
  exact zH_reti hX (by omega) hQ hr (⟨rfl, rfl⟩) dL_signedOf_22
set_option maxHeartbeats 1000000 in
theorem zh_taken (l : Launch) (G : zG) (M M1 : zM) (v1 v2 v3 v4 : Int32) (v : Int32) (hC : zC l G 9 yX10_taken cX10_taken 5 (Option.some Jvm.ClassFile.FieldType.int) [.ref (0 : Nat), .int v1, .int v2, .int v3, .int v4] M (zP (some (.int v)) M1)) : zCw l G 10 1 6 yL_taken cL_taken 7 (Option.some Jvm.ClassFile.FieldType.int) [(0, 14, 17, 19), (0, 14, 21, 13)] [.ref (0 : Nat), .int v1, .int v2, .int v3, .int v4, .ref (220 : Nat)] M (zP (some (.int (nI 0))) (zwL M1 220 0 v.toInt64)) := by
  refine zCw_of (by decide) (Nat.le_of_ble_eq_true rfl) (fun X Q hQ hX hl hR hr hEx hNc hT => ?_)
  refine zV_loc (L' := [.ref (0 : Nat), .int v1, .int v2, .int v3, .int v4, .ref (220 : Nat), .null]) rfl ?_
  refine zV_aload hX dL_taken_0 rfl ?_
  refine zV_iconst hX (v := nI 0) dL_taken_2 (by decide) ?_
  refine zV_aload_n hX dL_taken_3 rfl ?_
  refine zV_iload_n hX dL_taken_4 rfl ?_
  refine zV_iload_n hX dL_taken_5 rfl ?_
  refine zV_iload_n hX dL_taken_6 rfl ?_
  refine zV_iload hX dL_taken_7 rfl ?_
  refine zK_cV4p hX hR hl dL_taken_9 (zCk.of (hC)) zt_X10_taken rfl zml_L_67 zo0.1 ⟨by decide, by decide⟩ (Nat.le_of_ble_eq_true rfl) (by omega) ⟨rfl, rfl⟩ ?_
  dsimp only [Option.toList, List.cons_append, List.nil_append]
  refine zV_i2l hX dL_taken_12 ?_
  refine zV_last hX dL_taken_13 (rfl : zSh 220 = (23, 1)) (rfl) ⟨by omega, by omega⟩ ?_
  refine zV_goto hX (tgt := 25) dL_taken_14 (by decide) ?_
  refine zV_iconst hX (v := nI 0) dL_taken_25 (by decide) ?_
  exact zH_reti hX (by omega) hQ hr (⟨rfl, rfl⟩) dL_taken_26
set_option maxHeartbeats 1000000 in
theorem zh_takenS (l : Launch) (G : zG) (M M1 : zM) (v1 v2 v3 v4 : Int32) (hC : zCx l G 9 1 6 yX10_taken cX10_taken 5 (Option.some Jvm.ClassFile.FieldType.int) [.ref (0 : Nat), .int v1, .int v2, .int v3, .int v4] M zNSE M1) : zCw l G 10 1 6 yL_taken cL_taken 7 (Option.some Jvm.ClassFile.FieldType.int) [(0, 14, 17, 19), (0, 14, 21, 13)] [.ref (0 : Nat), .int v1, .int v2, .int v3, .int v4, .ref (220 : Nat)] M (zP (some (.int (nI 1))) (M1)) := by
  refine zCw_of (by decide) (Nat.le_of_ble_eq_true rfl) (fun X Q hQ hX hl hR hr hEx hNc hT => ?_)
  refine zV_loc (L' := [.ref (0 : Nat), .int v1, .int v2, .int v3, .int v4, .ref (220 : Nat), .null]) rfl ?_
  refine zV_aload hX dL_taken_0 rfl ?_
  refine zV_iconst hX (v := nI 0) dL_taken_2 (by decide) ?_
  refine zV_aload_n hX dL_taken_3 rfl ?_
  refine zV_iload_n hX dL_taken_4 rfl ?_
  refine zV_iload_n hX dL_taken_5 rfl ?_
  refine zV_iload_n hX dL_taken_6 rfl ?_
  refine zV_iload hX dL_taken_7 rfl ?_
  refine zH_catch4 hX hEx hR hl dL_taken_9 (hC) zt_X10_taken rfl zml_L_67 zo0.1 ⟨by decide, by decide⟩ (Nat.le_of_ble_eq_true rfl) (by omega) ⟨rfl, rfl⟩ [] ⟨0, 14, 17, 19⟩ [⟨0, 14, 21, 13⟩] hT (fun z hz => nomatch hz) ⟨by decide, by decide⟩ zcl_L_19 (by decide) rfl dL_taken_17 (by decide) ?_
  dsimp only [zst1, zst2, zclr, zc2]
  refine zV_iconst hX (v := nI 1) dL_taken_19 (by decide) ?_
  exact zH_reti hX (by omega) hQ hr (⟨rfl, rfl⟩) dL_taken_20
set_option maxHeartbeats 1000000 in
theorem zh_takenI (l : Launch) (G : zG) (M M1 : zM) (v1 v2 v3 v4 : Int32) (hC : zCx l G 9 1 6 yX10_taken cX10_taken 5 (Option.some Jvm.ClassFile.FieldType.int) [.ref (0 : Nat), .int v1, .int v2, .int v3, .int v4] M zIAE M1) : zCw l G 10 1 6 yL_taken cL_taken 7 (Option.some Jvm.ClassFile.FieldType.int) [(0, 14, 17, 19), (0, 14, 21, 13)] [.ref (0 : Nat), .int v1, .int v2, .int v3, .int v4, .ref (220 : Nat)] M (zP (some (.int (nI 2))) (M1)) := by
  refine zCw_of (by decide) (Nat.le_of_ble_eq_true rfl) (fun X Q hQ hX hl hR hr hEx hNc hT => ?_)
  refine zV_loc (L' := [.ref (0 : Nat), .int v1, .int v2, .int v3, .int v4, .ref (220 : Nat), .null]) rfl ?_
  refine zV_aload hX dL_taken_0 rfl ?_
  refine zV_iconst hX (v := nI 0) dL_taken_2 (by decide) ?_
  refine zV_aload_n hX dL_taken_3 rfl ?_
  refine zV_iload_n hX dL_taken_4 rfl ?_
  refine zV_iload_n hX dL_taken_5 rfl ?_
  refine zV_iload_n hX dL_taken_6 rfl ?_
  refine zV_iload hX dL_taken_7 rfl ?_
  refine zH_catch4 hX hEx hR hl dL_taken_9 (hC) zt_X10_taken rfl zml_L_67 zo0.1 ⟨by decide, by decide⟩ (Nat.le_of_ble_eq_true rfl) (by omega) ⟨rfl, rfl⟩ [⟨0, 14, 17, 19⟩] ⟨0, 14, 21, 13⟩ [] hT (fun z hz => by rw [List.mem_singleton.mp hz]; exact Or.inr ⟨by decide, _, zcl_L_19, hNc⟩) ⟨by decide, by decide⟩ zcl_L_13 (by decide) rfl dL_taken_21 (by decide) ?_
  dsimp only [zst1, zst2, zclr, zc2]
  refine zV_iconst hX (v := nI 2) dL_taken_23 (by decide) ?_
  exact zH_reti hX (by omega) hQ hr (⟨rfl, rfl⟩) dL_taken_24
set_option maxHeartbeats 1000000 in
theorem zh_king (l : Launch) (G : zG) (M M1 : zM) (v1 v2 : Int32) (v : Int32) (hC : zC l G 9 yX10_king cX10_king 3 (Option.some Jvm.ClassFile.FieldType.int) [.ref (0 : Nat), .int v1, .int v2] M (zP (some (.int v)) M1)) : zCw l G 10 1 6 yL_king cL_king 5 (Option.some Jvm.ClassFile.FieldType.int) [(0, 10, 13, 19), (0, 10, 17, 13)] [.ref (0 : Nat), .int v1, .int v2, .ref (220 : Nat)] M (zP (some (.int (nI 0))) (zwL M1 220 0 v.toInt64)) := by
  refine zCw_of (by decide) (Nat.le_of_ble_eq_true rfl) (fun X Q hQ hX hl hR hr hEx hNc hT => ?_)
  refine zV_loc (L' := [.ref (0 : Nat), .int v1, .int v2, .ref (220 : Nat), .null]) rfl ?_
  refine zV_aload_n hX dL_king_0 rfl ?_
  refine zV_iconst hX (v := nI 0) dL_king_1 (by decide) ?_
  refine zV_aload_n hX dL_king_2 rfl ?_
  refine zV_iload_n hX dL_king_3 rfl ?_
  refine zV_iload_n hX dL_king_4 rfl ?_
  refine zK_cV2p hX hR hl dL_king_5 (zCk.of (hC)) zt_X10_king rfl zml_L_71 zo0.1 ⟨by decide, by decide⟩ (Nat.le_of_ble_eq_true rfl) (by omega) ⟨rfl, rfl⟩ ?_
  dsimp only [Option.toList, List.cons_append, List.nil_append]
  refine zV_i2l hX dL_king_8 ?_
  refine zV_last hX dL_king_9 (rfl : zSh 220 = (23, 1)) (rfl) ⟨by omega, by omega⟩ ?_
  refine zV_goto hX (tgt := 21) dL_king_10 (by decide) ?_
  refine zV_iconst hX (v := nI 0) dL_king_21 (by decide) ?_
  exact zH_reti hX (by omega) hQ hr (⟨rfl, rfl⟩) dL_king_22
set_option maxHeartbeats 1000000 in
theorem zh_kingS (l : Launch) (G : zG) (M M1 : zM) (v1 v2 : Int32) (hC : zCx l G 9 1 6 yX10_king cX10_king 3 (Option.some Jvm.ClassFile.FieldType.int) [.ref (0 : Nat), .int v1, .int v2] M zNSE M1) : zCw l G 10 1 6 yL_king cL_king 5 (Option.some Jvm.ClassFile.FieldType.int) [(0, 10, 13, 19), (0, 10, 17, 13)] [.ref (0 : Nat), .int v1, .int v2, .ref (220 : Nat)] M (zP (some (.int (nI 1))) (M1)) := by
  refine zCw_of (by decide) (Nat.le_of_ble_eq_true rfl) (fun X Q hQ hX hl hR hr hEx hNc hT => ?_)
  refine zV_loc (L' := [.ref (0 : Nat), .int v1, .int v2, .ref (220 : Nat), .null]) rfl ?_
  refine zV_aload_n hX dL_king_0 rfl ?_
  refine zV_iconst hX (v := nI 0) dL_king_1 (by decide) ?_
  refine zV_aload_n hX dL_king_2 rfl ?_
  refine zV_iload_n hX dL_king_3 rfl ?_
  refine zV_iload_n hX dL_king_4 rfl ?_
  refine zH_catch2 hX hEx hR hl dL_king_5 (hC) zt_X10_king rfl zml_L_71 zo0.1 ⟨by decide, by decide⟩ (Nat.le_of_ble_eq_true rfl) (by omega) ⟨rfl, rfl⟩ [] ⟨0, 10, 13, 19⟩ [⟨0, 10, 17, 13⟩] hT (fun z hz => nomatch hz) ⟨by decide, by decide⟩ zcl_L_19 (by decide) rfl dL_king_13 (by decide) ?_
  dsimp only [zst1, zst2, zclr, zc2]
  refine zV_iconst hX (v := nI 1) dL_king_15 (by decide) ?_
  exact zH_reti hX (by omega) hQ hr (⟨rfl, rfl⟩) dL_king_16
set_option maxHeartbeats 1000000 in
theorem zh_kingI (l : Launch) (G : zG) (M M1 : zM) (v1 v2 : Int32) (hC : zCx l G 9 1 6 yX10_king cX10_king 3 (Option.some Jvm.ClassFile.FieldType.int) [.ref (0 : Nat), .int v1, .int v2] M zIAE M1) : zCw l G 10 1 6 yL_king cL_king 5 (Option.some Jvm.ClassFile.FieldType.int) [(0, 10, 13, 19), (0, 10, 17, 13)] [.ref (0 : Nat), .int v1, .int v2, .ref (220 : Nat)] M (zP (some (.int (nI 2))) (M1)) := by
  refine zCw_of (by decide) (Nat.le_of_ble_eq_true rfl) (fun X Q hQ hX hl hR hr hEx hNc hT => ?_)
  refine zV_loc (L' := [.ref (0 : Nat), .int v1, .int v2, .ref (220 : Nat), .null]) rfl ?_
  refine zV_aload_n hX dL_king_0 rfl ?_
  refine zV_iconst hX (v := nI 0) dL_king_1 (by decide) ?_
  refine zV_aload_n hX dL_king_2 rfl ?_
  refine zV_iload_n hX dL_king_3 rfl ?_
  refine zV_iload_n hX dL_king_4 rfl ?_
  refine zH_catch2 hX hEx hR hl dL_king_5 (hC) zt_X10_king rfl zml_L_71 zo0.1 ⟨by decide, by decide⟩ (Nat.le_of_ble_eq_true rfl) (by omega) ⟨rfl, rfl⟩ [⟨0, 10, 13, 19⟩] ⟨0, 10, 17, 13⟩ [] hT (fun z hz => by rw [List.mem_singleton.mp hz]; exact Or.inr ⟨by decide, _, zcl_L_19, hNc⟩) ⟨by decide, by decide⟩ zcl_L_13 (by decide) rfl dL_king_17 (by decide) ?_
  dsimp only [zst1, zst2, zclr, zc2]
  refine zV_iconst hX (v := nI 2) dL_king_19 (by decide) ?_
  exact zH_reti hX (by omega) hQ hr (⟨rfl, rfl⟩) dL_king_20
set_option maxHeartbeats 1000000 in
theorem zh_kings (l : Launch) (G : zG) (M M1 : zM) (v1 : Int32) (v : Int32) (hC : zC l G 9 yX10_kings cX10_kings 2 (Option.some Jvm.ClassFile.FieldType.int) [.ref (0 : Nat), .int v1] M (zP (some (.int v)) M1)) : zCw l G 10 1 6 yL_kings cL_kings 4 (Option.some Jvm.ClassFile.FieldType.int) [(0, 9, 12, 13)] [.ref (0 : Nat), .int v1, .ref (220 : Nat)] M (zP (some (.int (nI 0))) (zwL M1 220 0 v.toInt64)) := by
  refine zCw_of (by decide) (Nat.le_of_ble_eq_true rfl) (fun X Q hQ hX hl hR hr hEx hNc hT => ?_)
  refine zV_loc (L' := [.ref (0 : Nat), .int v1, .ref (220 : Nat), .null]) rfl ?_
  refine zV_aload_n hX dL_kings_0 rfl ?_
  refine zV_iconst hX (v := nI 0) dL_kings_1 (by decide) ?_
  refine zV_aload_n hX dL_kings_2 rfl ?_
  refine zV_iload_n hX dL_kings_3 rfl ?_
  refine zK_cV1p hX hR hl dL_kings_4 (zCk.of (hC)) zt_X10_kings rfl zml_L_74 zo0.1 ⟨by decide, by decide⟩ (Nat.le_of_ble_eq_true rfl) (by omega) ⟨rfl, rfl⟩ ?_
  dsimp only [Option.toList, List.cons_append, List.nil_append]
  refine zV_i2l hX dL_kings_7 ?_
  refine zV_last hX dL_kings_8 (rfl : zSh 220 = (23, 1)) (rfl) ⟨by omega, by omega⟩ ?_
  refine zV_goto hX (tgt := 15) dL_kings_9 (by decide) ?_
  refine zV_iconst hX (v := nI 0) dL_kings_15 (by decide) ?_
  exact zH_reti hX (by omega) hQ hr (⟨rfl, rfl⟩) dL_kings_16
set_option maxHeartbeats 1000000 in
theorem zh_kingsI (l : Launch) (G : zG) (M M1 : zM) (v1 : Int32) (hC : zCx l G 9 1 6 yX10_kings cX10_kings 2 (Option.some Jvm.ClassFile.FieldType.int) [.ref (0 : Nat), .int v1] M zIAE M1) : zCw l G 10 1 6 yL_kings cL_kings 4 (Option.some Jvm.ClassFile.FieldType.int) [(0, 9, 12, 13)] [.ref (0 : Nat), .int v1, .ref (220 : Nat)] M (zP (some (.int (nI 1))) (M1)) := by
  refine zCw_of (by decide) (Nat.le_of_ble_eq_true rfl) (fun X Q hQ hX hl hR hr hEx hNc hT => ?_)
  refine zV_loc (L' := [.ref (0 : Nat), .int v1, .ref (220 : Nat), .null]) rfl ?_
  refine zV_aload_n hX dL_kings_0 rfl ?_
  refine zV_iconst hX (v := nI 0) dL_kings_1 (by decide) ?_
  refine zV_aload_n hX dL_kings_2 rfl ?_
  refine zV_iload_n hX dL_kings_3 rfl ?_
  refine zH_catchn1 hX hEx hR hl dL_kings_4 (hC) zt_X10_kings rfl zml_L_74 zo0.1 ⟨by decide, by decide⟩ (Nat.le_of_ble_eq_true rfl) (by omega) ⟨rfl, rfl⟩ [] ⟨0, 9, 12, 13⟩ [] hT (fun z hz => nomatch hz) ⟨by decide, by decide⟩ zcl_L_13 (by decide) rfl dL_kings_12 (by decide) ?_
  dsimp only [zst1, zst2, zclr, zc2]
  refine zV_iconst hX (v := nI 1) dL_kings_13 (by decide) ?_
  exact zH_reti hX (by omega) hQ hr (⟨rfl, rfl⟩) dL_kings_14
set_option maxHeartbeats 1000000 in
theorem zh_echoes (l : Launch) (G : zG) (M M1 : zM) (v1 v2 : Int32) (v : Int32) (hC : zC l G 9 yX10_echoes cX10_echoes 3 (Option.some Jvm.ClassFile.FieldType.int) [.ref (0 : Nat), .int v1, .int v2] M (zP (some (.int v)) M1)) : zCw l G 10 1 6 yL_echoes cL_echoes 5 (Option.some Jvm.ClassFile.FieldType.int) [(0, 10, 13, 19), (0, 10, 17, 13)] [.ref (0 : Nat), .int v1, .int v2, .ref (220 : Nat)] M (zP (some (.int (nI 0))) (zwL M1 220 0 v.toInt64)) := by
  refine zCw_of (by decide) (Nat.le_of_ble_eq_true rfl) (fun X Q hQ hX hl hR hr hEx hNc hT => ?_)
  refine zV_loc (L' := [.ref (0 : Nat), .int v1, .int v2, .ref (220 : Nat), .null]) rfl ?_
  refine zV_aload_n hX dL_echoes_0 rfl ?_
  refine zV_iconst hX (v := nI 0) dL_echoes_1 (by decide) ?_
  refine zV_aload_n hX dL_echoes_2 rfl ?_
  refine zV_iload_n hX dL_echoes_3 rfl ?_
  refine zV_iload_n hX dL_echoes_4 rfl ?_
  refine zK_cV2p hX hR hl dL_echoes_5 (zCk.of (hC)) zt_X10_echoes rfl zml_L_77 zo0.1 ⟨by decide, by decide⟩ (Nat.le_of_ble_eq_true rfl) (by omega) ⟨rfl, rfl⟩ ?_
  dsimp only [Option.toList, List.cons_append, List.nil_append]
  refine zV_i2l hX dL_echoes_8 ?_
  refine zV_last hX dL_echoes_9 (rfl : zSh 220 = (23, 1)) (rfl) ⟨by omega, by omega⟩ ?_
  refine zV_goto hX (tgt := 21) dL_echoes_10 (by decide) ?_
  refine zV_iconst hX (v := nI 0) dL_echoes_21 (by decide) ?_
  exact zH_reti hX (by omega) hQ hr (⟨rfl, rfl⟩) dL_echoes_22
set_option maxHeartbeats 1000000 in
theorem zh_echoesS (l : Launch) (G : zG) (M M1 : zM) (v1 v2 : Int32) (hC : zCx l G 9 1 6 yX10_echoes cX10_echoes 3 (Option.some Jvm.ClassFile.FieldType.int) [.ref (0 : Nat), .int v1, .int v2] M zNSE M1) : zCw l G 10 1 6 yL_echoes cL_echoes 5 (Option.some Jvm.ClassFile.FieldType.int) [(0, 10, 13, 19), (0, 10, 17, 13)] [.ref (0 : Nat), .int v1, .int v2, .ref (220 : Nat)] M (zP (some (.int (nI 1))) (M1)) := by
  refine zCw_of (by decide) (Nat.le_of_ble_eq_true rfl) (fun X Q hQ hX hl hR hr hEx hNc hT => ?_)
  refine zV_loc (L' := [.ref (0 : Nat), .int v1, .int v2, .ref (220 : Nat), .null]) rfl ?_
  refine zV_aload_n hX dL_echoes_0 rfl ?_
  refine zV_iconst hX (v := nI 0) dL_echoes_1 (by decide) ?_
  refine zV_aload_n hX dL_echoes_2 rfl ?_
  refine zV_iload_n hX dL_echoes_3 rfl ?_
  refine zV_iload_n hX dL_echoes_4 rfl ?_
  refine zH_catch2 hX hEx hR hl dL_echoes_5 (hC) zt_X10_echoes rfl zml_L_77 zo0.1 ⟨by decide, by decide⟩ (Nat.le_of_ble_eq_true rfl) (by omega) ⟨rfl, rfl⟩ [] ⟨0, 10, 13, 19⟩ [⟨0, 10, 17, 13⟩] hT (fun z hz => nomatch hz) ⟨by decide, by decide⟩ zcl_L_19 (by decide) rfl dL_echoes_13 (by decide) ?_
  dsimp only [zst1, zst2, zclr, zc2]
  refine zV_iconst hX (v := nI 1) dL_echoes_15 (by decide) ?_
  exact zH_reti hX (by omega) hQ hr (⟨rfl, rfl⟩) dL_echoes_16
set_option maxHeartbeats 1000000 in
theorem zh_echoesI (l : Launch) (G : zG) (M M1 : zM) (v1 v2 : Int32) (hC : zCx l G 9 1 6 yX10_echoes cX10_echoes 3 (Option.some Jvm.ClassFile.FieldType.int) [.ref (0 : Nat), .int v1, .int v2] M zIAE M1) : zCw l G 10 1 6 yL_echoes cL_echoes 5 (Option.some Jvm.ClassFile.FieldType.int) [(0, 10, 13, 19), (0, 10, 17, 13)] [.ref (0 : Nat), .int v1, .int v2, .ref (220 : Nat)] M (zP (some (.int (nI 2))) (M1)) := by
  refine zCw_of (by decide) (Nat.le_of_ble_eq_true rfl) (fun X Q hQ hX hl hR hr hEx hNc hT => ?_)
  refine zV_loc (L' := [.ref (0 : Nat), .int v1, .int v2, .ref (220 : Nat), .null]) rfl ?_
  refine zV_aload_n hX dL_echoes_0 rfl ?_
  refine zV_iconst hX (v := nI 0) dL_echoes_1 (by decide) ?_
  refine zV_aload_n hX dL_echoes_2 rfl ?_
  refine zV_iload_n hX dL_echoes_3 rfl ?_
  refine zV_iload_n hX dL_echoes_4 rfl ?_
  refine zH_catch2 hX hEx hR hl dL_echoes_5 (hC) zt_X10_echoes rfl zml_L_77 zo0.1 ⟨by decide, by decide⟩ (Nat.le_of_ble_eq_true rfl) (by omega) ⟨rfl, rfl⟩ [⟨0, 10, 13, 19⟩] ⟨0, 10, 17, 13⟩ [] hT (fun z hz => by rw [List.mem_singleton.mp hz]; exact Or.inr ⟨by decide, _, zcl_L_19, hNc⟩) ⟨by decide, by decide⟩ zcl_L_13 (by decide) rfl dL_echoes_17 (by decide) ?_
  dsimp only [zst1, zst2, zclr, zc2]
  refine zV_iconst hX (v := nI 2) dL_echoes_19 (by decide) ?_
  exact zH_reti hX (by omega) hQ hr (⟨rfl, rfl⟩) dL_echoes_20
set_option maxHeartbeats 1000000 in
theorem zh_echoesOf (l : Launch) (G : zG) (M M1 : zM) (v1 v2 v3 : Int32) (v : Int32) (hC : zC l G 9 yX10_echoesOf cX10_echoesOf 4 (Option.some Jvm.ClassFile.FieldType.int) [.ref (0 : Nat), .int v1, .int v2, .int v3] M (zP (some (.int v)) M1)) : zCw l G 10 1 6 yL_echoesOf cL_echoesOf 6 (Option.some Jvm.ClassFile.FieldType.int) [(0, 12, 15, 19), (0, 12, 19, 13)] [.ref (0 : Nat), .int v1, .int v2, .int v3, .ref (220 : Nat)] M (zP (some (.int (nI 0))) (zwL M1 220 0 v.toInt64)) := by
  refine zCw_of (by decide) (Nat.le_of_ble_eq_true rfl) (fun X Q hQ hX hl hR hr hEx hNc hT => ?_)
  refine zV_loc (L' := [.ref (0 : Nat), .int v1, .int v2, .int v3, .ref (220 : Nat), .null]) rfl ?_
  refine zV_aload hX dL_echoesOf_0 rfl ?_
  refine zV_iconst hX (v := nI 0) dL_echoesOf_2 (by decide) ?_
  refine zV_aload_n hX dL_echoesOf_3 rfl ?_
  refine zV_iload_n hX dL_echoesOf_4 rfl ?_
  refine zV_iload_n hX dL_echoesOf_5 rfl ?_
  refine zV_iload_n hX dL_echoesOf_6 rfl ?_
  refine zK_cV3p hX hR hl dL_echoesOf_7 (zCk.of (hC)) zt_X10_echoesOf rfl zml_L_80 zo0.1 ⟨by decide, by decide⟩ (Nat.le_of_ble_eq_true rfl) (by omega) ⟨rfl, rfl⟩ ?_
  dsimp only [Option.toList, List.cons_append, List.nil_append]
  refine zV_i2l hX dL_echoesOf_10 ?_
  refine zV_last hX dL_echoesOf_11 (rfl : zSh 220 = (23, 1)) (rfl) ⟨by omega, by omega⟩ ?_
  refine zV_goto hX (tgt := 23) dL_echoesOf_12 (by decide) ?_
  refine zV_iconst hX (v := nI 0) dL_echoesOf_23 (by decide) ?_
  exact zH_reti hX (by omega) hQ hr (⟨rfl, rfl⟩) dL_echoesOf_24
set_option maxHeartbeats 1000000 in
theorem zh_echoesOfS (l : Launch) (G : zG) (M M1 : zM) (v1 v2 v3 : Int32) (hC : zCx l G 9 1 6 yX10_echoesOf cX10_echoesOf 4 (Option.some Jvm.ClassFile.FieldType.int) [.ref (0 : Nat), .int v1, .int v2, .int v3] M zNSE M1) : zCw l G 10 1 6 yL_echoesOf cL_echoesOf 6 (Option.some Jvm.ClassFile.FieldType.int) [(0, 12, 15, 19), (0, 12, 19, 13)] [.ref (0 : Nat), .int v1, .int v2, .int v3, .ref (220 : Nat)] M (zP (some (.int (nI 1))) (M1)) := by
  refine zCw_of (by decide) (Nat.le_of_ble_eq_true rfl) (fun X Q hQ hX hl hR hr hEx hNc hT => ?_)
  refine zV_loc (L' := [.ref (0 : Nat), .int v1, .int v2, .int v3, .ref (220 : Nat), .null]) rfl ?_
  refine zV_aload hX dL_echoesOf_0 rfl ?_
  refine zV_iconst hX (v := nI 0) dL_echoesOf_2 (by decide) ?_
  refine zV_aload_n hX dL_echoesOf_3 rfl ?_
  refine zV_iload_n hX dL_echoesOf_4 rfl ?_
  refine zV_iload_n hX dL_echoesOf_5 rfl ?_
  refine zV_iload_n hX dL_echoesOf_6 rfl ?_
  refine zH_catch3 hX hEx hR hl dL_echoesOf_7 (hC) zt_X10_echoesOf rfl zml_L_80 zo0.1 ⟨by decide, by decide⟩ (Nat.le_of_ble_eq_true rfl) (by omega) ⟨rfl, rfl⟩ [] ⟨0, 12, 15, 19⟩ [⟨0, 12, 19, 13⟩] hT (fun z hz => nomatch hz) ⟨by decide, by decide⟩ zcl_L_19 (by decide) rfl dL_echoesOf_15 (by decide) ?_
  dsimp only [zst1, zst2, zclr, zc2]
  refine zV_iconst hX (v := nI 1) dL_echoesOf_17 (by decide) ?_
  exact zH_reti hX (by omega) hQ hr (⟨rfl, rfl⟩) dL_echoesOf_18
set_option maxHeartbeats 1000000 in
theorem zh_echoesOfI (l : Launch) (G : zG) (M M1 : zM) (v1 v2 v3 : Int32) (hC : zCx l G 9 1 6 yX10_echoesOf cX10_echoesOf 4 (Option.some Jvm.ClassFile.FieldType.int) [.ref (0 : Nat), .int v1, .int v2, .int v3] M zIAE M1) : zCw l G 10 1 6 yL_echoesOf cL_echoesOf 6 (Option.some Jvm.ClassFile.FieldType.int) [(0, 12, 15, 19), (0, 12, 19, 13)] [.ref (0 : Nat), .int v1, .int v2, .int v3, .ref (220 : Nat)] M (zP (some (.int (nI 2))) (M1)) := by
  refine zCw_of (by decide) (Nat.le_of_ble_eq_true rfl) (fun X Q hQ hX hl hR hr hEx hNc hT => ?_)
  refine zV_loc (L' := [.ref (0 : Nat), .int v1, .int v2, .int v3, .ref (220 : Nat), .null]) rfl ?_
  refine zV_aload hX dL_echoesOf_0 rfl ?_
  refine zV_iconst hX (v := nI 0) dL_echoesOf_2 (by decide) ?_
  refine zV_aload_n hX dL_echoesOf_3 rfl ?_
  refine zV_iload_n hX dL_echoesOf_4 rfl ?_
  refine zV_iload_n hX dL_echoesOf_5 rfl ?_
  refine zV_iload_n hX dL_echoesOf_6 rfl ?_
  refine zH_catch3 hX hEx hR hl dL_echoesOf_7 (hC) zt_X10_echoesOf rfl zml_L_80 zo0.1 ⟨by decide, by decide⟩ (Nat.le_of_ble_eq_true rfl) (by omega) ⟨rfl, rfl⟩ [⟨0, 12, 15, 19⟩] ⟨0, 12, 19, 13⟩ [] hT (fun z hz => by rw [List.mem_singleton.mp hz]; exact Or.inr ⟨by decide, _, zcl_L_19, hNc⟩) ⟨by decide, by decide⟩ zcl_L_13 (by decide) rfl dL_echoesOf_19 (by decide) ?_
  dsimp only [zst1, zst2, zclr, zc2]
  refine zV_iconst hX (v := nI 2) dL_echoesOf_21 (by decide) ?_
  exact zH_reti hX (by omega) hQ hr (⟨rfl, rfl⟩) dL_echoesOf_22
set_option maxHeartbeats 1000000 in
theorem zh_messages (l : Launch) (G : zG) (M M1 : zM) (v1 v2 : Int32) (v : Int32) (hC : zC l G 9 yX10_messages cX10_messages 3 (Option.some Jvm.ClassFile.FieldType.int) [.ref (0 : Nat), .int v1, .int v2] M (zP (some (.int v)) M1)) : zCw l G 10 1 6 yL_messages cL_messages 5 (Option.some Jvm.ClassFile.FieldType.int) [(0, 10, 13, 13)] [.ref (0 : Nat), .int v1, .int v2, .ref (220 : Nat)] M (zP (some (.int (nI 0))) (zwL M1 220 0 v.toInt64)) := by
  refine zCw_of (by decide) (Nat.le_of_ble_eq_true rfl) (fun X Q hQ hX hl hR hr hEx hNc hT => ?_)
  refine zV_loc (L' := [.ref (0 : Nat), .int v1, .int v2, .ref (220 : Nat), .null]) rfl ?_
  refine zV_aload_n hX dL_messages_0 rfl ?_
  refine zV_iconst hX (v := nI 0) dL_messages_1 (by decide) ?_
  refine zV_aload_n hX dL_messages_2 rfl ?_
  refine zV_iload_n hX dL_messages_3 rfl ?_
  refine zV_iload_n hX dL_messages_4 rfl ?_
  refine zK_cV2p hX hR hl dL_messages_5 (zCk.of (hC)) zt_X10_messages rfl zml_L_83 zo0.1 ⟨by decide, by decide⟩ (Nat.le_of_ble_eq_true rfl) (by omega) ⟨rfl, rfl⟩ ?_
  dsimp only [Option.toList, List.cons_append, List.nil_append]
  refine zV_i2l hX dL_messages_8 ?_
  refine zV_last hX dL_messages_9 (rfl : zSh 220 = (23, 1)) (rfl) ⟨by omega, by omega⟩ ?_
  refine zV_goto hX (tgt := 17) dL_messages_10 (by decide) ?_
  refine zV_iconst hX (v := nI 0) dL_messages_17 (by decide) ?_
  exact zH_reti hX (by omega) hQ hr (⟨rfl, rfl⟩) dL_messages_18
set_option maxHeartbeats 1000000 in
theorem zh_messagesI (l : Launch) (G : zG) (M M1 : zM) (v1 v2 : Int32) (hC : zCx l G 9 1 6 yX10_messages cX10_messages 3 (Option.some Jvm.ClassFile.FieldType.int) [.ref (0 : Nat), .int v1, .int v2] M zIAE M1) : zCw l G 10 1 6 yL_messages cL_messages 5 (Option.some Jvm.ClassFile.FieldType.int) [(0, 10, 13, 13)] [.ref (0 : Nat), .int v1, .int v2, .ref (220 : Nat)] M (zP (some (.int (nI 1))) (M1)) := by
  refine zCw_of (by decide) (Nat.le_of_ble_eq_true rfl) (fun X Q hQ hX hl hR hr hEx hNc hT => ?_)
  refine zV_loc (L' := [.ref (0 : Nat), .int v1, .int v2, .ref (220 : Nat), .null]) rfl ?_
  refine zV_aload_n hX dL_messages_0 rfl ?_
  refine zV_iconst hX (v := nI 0) dL_messages_1 (by decide) ?_
  refine zV_aload_n hX dL_messages_2 rfl ?_
  refine zV_iload_n hX dL_messages_3 rfl ?_
  refine zV_iload_n hX dL_messages_4 rfl ?_
  refine zH_catch2 hX hEx hR hl dL_messages_5 (hC) zt_X10_messages rfl zml_L_83 zo0.1 ⟨by decide, by decide⟩ (Nat.le_of_ble_eq_true rfl) (by omega) ⟨rfl, rfl⟩ [] ⟨0, 10, 13, 13⟩ [] hT (fun z hz => nomatch hz) ⟨by decide, by decide⟩ zcl_L_13 (by decide) rfl dL_messages_13 (by decide) ?_
  dsimp only [zst1, zst2, zclr, zc2]
  refine zV_iconst hX (v := nI 1) dL_messages_15 (by decide) ?_
  exact zH_reti hX (by omega) hQ hr (⟨rfl, rfl⟩) dL_messages_16
set_option maxHeartbeats 1000000 in
theorem zh_nearer (l : Launch) (G : zG) (M M1 : zM) (v1 v2 v3 : Int32) (v : Int32) (hC : zC l G 9 yX10_nearer cX10_nearer 4 (Option.some Jvm.ClassFile.FieldType.int) [.ref (0 : Nat), .int v1, .int v2, .int v3] M (zP (some (.int v)) M1)) : zCw l G 10 1 6 yL_nearer cL_nearer 6 (Option.some Jvm.ClassFile.FieldType.int) [(0, 12, 15, 19), (0, 12, 19, 13)] [.ref (0 : Nat), .int v1, .int v2, .int v3, .ref (220 : Nat)] M (zP (some (.int (nI 0))) (zwL M1 220 0 v.toInt64)) := by
  refine zCw_of (by decide) (Nat.le_of_ble_eq_true rfl) (fun X Q hQ hX hl hR hr hEx hNc hT => ?_)
  refine zV_loc (L' := [.ref (0 : Nat), .int v1, .int v2, .int v3, .ref (220 : Nat), .null]) rfl ?_
  refine zV_aload hX dL_nearer_0 rfl ?_
  refine zV_iconst hX (v := nI 0) dL_nearer_2 (by decide) ?_
  refine zV_aload_n hX dL_nearer_3 rfl ?_
  refine zV_iload_n hX dL_nearer_4 rfl ?_
  refine zV_iload_n hX dL_nearer_5 rfl ?_
  refine zV_iload_n hX dL_nearer_6 rfl ?_
  refine zK_cV3p hX hR hl dL_nearer_7 (zCk.of (hC)) zt_X10_nearer rfl zml_L_86 zo0.1 ⟨by decide, by decide⟩ (Nat.le_of_ble_eq_true rfl) (by omega) ⟨rfl, rfl⟩ ?_
  dsimp only [Option.toList, List.cons_append, List.nil_append]
  refine zV_i2l hX dL_nearer_10 ?_
  refine zV_last hX dL_nearer_11 (rfl : zSh 220 = (23, 1)) (rfl) ⟨by omega, by omega⟩ ?_
  refine zV_goto hX (tgt := 23) dL_nearer_12 (by decide) ?_
  refine zV_iconst hX (v := nI 0) dL_nearer_23 (by decide) ?_
  exact zH_reti hX (by omega) hQ hr (⟨rfl, rfl⟩) dL_nearer_24
set_option maxHeartbeats 1000000 in
theorem zh_nearerS (l : Launch) (G : zG) (M M1 : zM) (v1 v2 v3 : Int32) (hC : zCx l G 9 1 6 yX10_nearer cX10_nearer 4 (Option.some Jvm.ClassFile.FieldType.int) [.ref (0 : Nat), .int v1, .int v2, .int v3] M zNSE M1) : zCw l G 10 1 6 yL_nearer cL_nearer 6 (Option.some Jvm.ClassFile.FieldType.int) [(0, 12, 15, 19), (0, 12, 19, 13)] [.ref (0 : Nat), .int v1, .int v2, .int v3, .ref (220 : Nat)] M (zP (some (.int (nI 1))) (M1)) := by
  refine zCw_of (by decide) (Nat.le_of_ble_eq_true rfl) (fun X Q hQ hX hl hR hr hEx hNc hT => ?_)
  refine zV_loc (L' := [.ref (0 : Nat), .int v1, .int v2, .int v3, .ref (220 : Nat), .null]) rfl ?_
  refine zV_aload hX dL_nearer_0 rfl ?_
  refine zV_iconst hX (v := nI 0) dL_nearer_2 (by decide) ?_
  refine zV_aload_n hX dL_nearer_3 rfl ?_
  refine zV_iload_n hX dL_nearer_4 rfl ?_
  refine zV_iload_n hX dL_nearer_5 rfl ?_
  refine zV_iload_n hX dL_nearer_6 rfl ?_
  refine zH_catch3 hX hEx hR hl dL_nearer_7 (hC) zt_X10_nearer rfl zml_L_86 zo0.1 ⟨by decide, by decide⟩ (Nat.le_of_ble_eq_true rfl) (by omega) ⟨rfl, rfl⟩ [] ⟨0, 12, 15, 19⟩ [⟨0, 12, 19, 13⟩] hT (fun z hz => nomatch hz) ⟨by decide, by decide⟩ zcl_L_19 (by decide) rfl dL_nearer_15 (by decide) ?_
  dsimp only [zst1, zst2, zclr, zc2]
  refine zV_iconst hX (v := nI 1) dL_nearer_17 (by decide) ?_
  exact zH_reti hX (by omega) hQ hr (⟨rfl, rfl⟩) dL_nearer_18
set_option maxHeartbeats 1000000 in
theorem zh_nearerI (l : Launch) (G : zG) (M M1 : zM) (v1 v2 v3 : Int32) (hC : zCx l G 9 1 6 yX10_nearer cX10_nearer 4 (Option.some Jvm.ClassFile.FieldType.int) [.ref (0 : Nat), .int v1, .int v2, .int v3] M zIAE M1) : zCw l G 10 1 6 yL_nearer cL_nearer 6 (Option.some Jvm.ClassFile.FieldType.int) [(0, 12, 15, 19), (0, 12, 19, 13)] [.ref (0 : Nat), .int v1, .int v2, .int v3, .ref (220 : Nat)] M (zP (some (.int (nI 2))) (M1)) := by
  refine zCw_of (by decide) (Nat.le_of_ble_eq_true rfl) (fun X Q hQ hX hl hR hr hEx hNc hT => ?_)
  refine zV_loc (L' := [.ref (0 : Nat), .int v1, .int v2, .int v3, .ref (220 : Nat), .null]) rfl ?_
  refine zV_aload hX dL_nearer_0 rfl ?_
  refine zV_iconst hX (v := nI 0) dL_nearer_2 (by decide) ?_
  refine zV_aload_n hX dL_nearer_3 rfl ?_
  refine zV_iload_n hX dL_nearer_4 rfl ?_
  refine zV_iload_n hX dL_nearer_5 rfl ?_
  refine zV_iload_n hX dL_nearer_6 rfl ?_
  refine zH_catch3 hX hEx hR hl dL_nearer_7 (hC) zt_X10_nearer rfl zml_L_86 zo0.1 ⟨by decide, by decide⟩ (Nat.le_of_ble_eq_true rfl) (by omega) ⟨rfl, rfl⟩ [⟨0, 12, 15, 19⟩] ⟨0, 12, 19, 13⟩ [] hT (fun z hz => by rw [List.mem_singleton.mp hz]; exact Or.inr ⟨by decide, _, zcl_L_19, hNc⟩) ⟨by decide, by decide⟩ zcl_L_13 (by decide) rfl dL_nearer_19 (by decide) ?_
  dsimp only [zst1, zst2, zclr, zc2]
  refine zV_iconst hX (v := nI 2) dL_nearer_21 (by decide) ?_
  exact zH_reti hX (by omega) hQ hr (⟨rfl, rfl⟩) dL_nearer_22
set_option maxHeartbeats 1000000 in
theorem zh_spread (l : Launch) (G : zG) (M M1 : zM) (v1 v2 : Int32) (v : Int32) (hC : zC l G 9 yX10_spread cX10_spread 3 (Option.some Jvm.ClassFile.FieldType.int) [.ref (0 : Nat), .int v1, .int v2] M (zP (some (.int v)) M1)) : zCw l G 10 1 6 yL_spread cL_spread 5 (Option.some Jvm.ClassFile.FieldType.int) [(0, 10, 13, 13)] [.ref (0 : Nat), .int v1, .int v2, .ref (220 : Nat)] M (zP (some (.int (nI 0))) (zwL M1 220 0 v.toInt64)) := by
  refine zCw_of (by decide) (Nat.le_of_ble_eq_true rfl) (fun X Q hQ hX hl hR hr hEx hNc hT => ?_)
  refine zV_loc (L' := [.ref (0 : Nat), .int v1, .int v2, .ref (220 : Nat), .null]) rfl ?_
  refine zV_aload_n hX dL_spread_0 rfl ?_
  refine zV_iconst hX (v := nI 0) dL_spread_1 (by decide) ?_
  refine zV_aload_n hX dL_spread_2 rfl ?_
  refine zV_iload_n hX dL_spread_3 rfl ?_
  refine zV_iload_n hX dL_spread_4 rfl ?_
  refine zK_cV2p hX hR hl dL_spread_5 (zCk.of (hC)) zt_X10_spread rfl zml_L_89 zo0.1 ⟨by decide, by decide⟩ (Nat.le_of_ble_eq_true rfl) (by omega) ⟨rfl, rfl⟩ ?_
  dsimp only [Option.toList, List.cons_append, List.nil_append]
  refine zV_i2l hX dL_spread_8 ?_
  refine zV_last hX dL_spread_9 (rfl : zSh 220 = (23, 1)) (rfl) ⟨by omega, by omega⟩ ?_
  refine zV_goto hX (tgt := 17) dL_spread_10 (by decide) ?_
  refine zV_iconst hX (v := nI 0) dL_spread_17 (by decide) ?_
  exact zH_reti hX (by omega) hQ hr (⟨rfl, rfl⟩) dL_spread_18
set_option maxHeartbeats 1000000 in
theorem zh_spreadI (l : Launch) (G : zG) (M M1 : zM) (v1 v2 : Int32) (hC : zCx l G 9 1 6 yX10_spread cX10_spread 3 (Option.some Jvm.ClassFile.FieldType.int) [.ref (0 : Nat), .int v1, .int v2] M zIAE M1) : zCw l G 10 1 6 yL_spread cL_spread 5 (Option.some Jvm.ClassFile.FieldType.int) [(0, 10, 13, 13)] [.ref (0 : Nat), .int v1, .int v2, .ref (220 : Nat)] M (zP (some (.int (nI 1))) (M1)) := by
  refine zCw_of (by decide) (Nat.le_of_ble_eq_true rfl) (fun X Q hQ hX hl hR hr hEx hNc hT => ?_)
  refine zV_loc (L' := [.ref (0 : Nat), .int v1, .int v2, .ref (220 : Nat), .null]) rfl ?_
  refine zV_aload_n hX dL_spread_0 rfl ?_
  refine zV_iconst hX (v := nI 0) dL_spread_1 (by decide) ?_
  refine zV_aload_n hX dL_spread_2 rfl ?_
  refine zV_iload_n hX dL_spread_3 rfl ?_
  refine zV_iload_n hX dL_spread_4 rfl ?_
  refine zH_catch2 hX hEx hR hl dL_spread_5 (hC) zt_X10_spread rfl zml_L_89 zo0.1 ⟨by decide, by decide⟩ (Nat.le_of_ble_eq_true rfl) (by omega) ⟨rfl, rfl⟩ [] ⟨0, 10, 13, 13⟩ [] hT (fun z hz => nomatch hz) ⟨by decide, by decide⟩ zcl_L_13 (by decide) rfl dL_spread_13 (by decide) ?_
  dsimp only [zst1, zst2, zclr, zc2]
  refine zV_iconst hX (v := nI 1) dL_spread_15 (by decide) ?_
  exact zH_reti hX (by omega) hQ hr (⟨rfl, rfl⟩) dL_spread_16
set_option maxHeartbeats 1000000 in
theorem zh_steps (l : Launch) (G : zG) (M M1 : zM) (v1 v2 v3 : Int32) (v : Int32) (hC : zC l G 9 yX10_steps cX10_steps 4 (Option.some Jvm.ClassFile.FieldType.int) [.ref (0 : Nat), .int v1, .int v2, .int v3] M (zP (some (.int v)) M1)) : zCw l G 10 1 6 yL_steps cL_steps 6 (Option.some Jvm.ClassFile.FieldType.int) [(0, 12, 15, 13)] [.ref (0 : Nat), .int v1, .int v2, .int v3, .ref (220 : Nat)] M (zP (some (.int (nI 0))) (zwL M1 220 0 v.toInt64)) := by
  refine zCw_of (by decide) (Nat.le_of_ble_eq_true rfl) (fun X Q hQ hX hl hR hr hEx hNc hT => ?_)
  refine zV_loc (L' := [.ref (0 : Nat), .int v1, .int v2, .int v3, .ref (220 : Nat), .null]) rfl ?_
  refine zV_aload hX dL_steps_0 rfl ?_
  refine zV_iconst hX (v := nI 0) dL_steps_2 (by decide) ?_
  refine zV_aload_n hX dL_steps_3 rfl ?_
  refine zV_iload_n hX dL_steps_4 rfl ?_
  refine zV_iload_n hX dL_steps_5 rfl ?_
  refine zV_iload_n hX dL_steps_6 rfl ?_
  refine zK_cV3p hX hR hl dL_steps_7 (zCk.of (hC)) zt_X10_steps rfl zml_L_92 zo0.1 ⟨by decide, by decide⟩ (Nat.le_of_ble_eq_true rfl) (by omega) ⟨rfl, rfl⟩ ?_
  dsimp only [Option.toList, List.cons_append, List.nil_append]
  refine zV_i2l hX dL_steps_10 ?_
  refine zV_last hX dL_steps_11 (rfl : zSh 220 = (23, 1)) (rfl) ⟨by omega, by omega⟩ ?_
  refine zV_goto hX (tgt := 19) dL_steps_12 (by decide) ?_
  refine zV_iconst hX (v := nI 0) dL_steps_19 (by decide) ?_
  exact zH_reti hX (by omega) hQ hr (⟨rfl, rfl⟩) dL_steps_20
set_option maxHeartbeats 1000000 in
theorem zh_stepsI (l : Launch) (G : zG) (M M1 : zM) (v1 v2 v3 : Int32) (hC : zCx l G 9 1 6 yX10_steps cX10_steps 4 (Option.some Jvm.ClassFile.FieldType.int) [.ref (0 : Nat), .int v1, .int v2, .int v3] M zIAE M1) : zCw l G 10 1 6 yL_steps cL_steps 6 (Option.some Jvm.ClassFile.FieldType.int) [(0, 12, 15, 13)] [.ref (0 : Nat), .int v1, .int v2, .int v3, .ref (220 : Nat)] M (zP (some (.int (nI 1))) (M1)) := by
  refine zCw_of (by decide) (Nat.le_of_ble_eq_true rfl) (fun X Q hQ hX hl hR hr hEx hNc hT => ?_)
  refine zV_loc (L' := [.ref (0 : Nat), .int v1, .int v2, .int v3, .ref (220 : Nat), .null]) rfl ?_
  refine zV_aload hX dL_steps_0 rfl ?_
  refine zV_iconst hX (v := nI 0) dL_steps_2 (by decide) ?_
  refine zV_aload_n hX dL_steps_3 rfl ?_
  refine zV_iload_n hX dL_steps_4 rfl ?_
  refine zV_iload_n hX dL_steps_5 rfl ?_
  refine zV_iload_n hX dL_steps_6 rfl ?_
  refine zH_catch3 hX hEx hR hl dL_steps_7 (hC) zt_X10_steps rfl zml_L_92 zo0.1 ⟨by decide, by decide⟩ (Nat.le_of_ble_eq_true rfl) (by omega) ⟨rfl, rfl⟩ [] ⟨0, 12, 15, 13⟩ [] hT (fun z hz => nomatch hz) ⟨by decide, by decide⟩ zcl_L_13 (by decide) rfl dL_steps_15 (by decide) ?_
  dsimp only [zst1, zst2, zclr, zc2]
  refine zV_iconst hX (v := nI 1) dL_steps_17 (by decide) ?_
  exact zH_reti hX (by omega) hQ hr (⟨rfl, rfl⟩) dL_steps_18
set_option maxHeartbeats 1000000 in
theorem zh_total (l : Launch) (G : zG) (M M1 : zM) (v1 v2 : Int32) (v : Int64) (hC : zC l G 9 yX10_total cX10_total 3 (Option.some Jvm.ClassFile.FieldType.long) [.ref (0 : Nat), .int v1, .int v2] M (zP (some (.long v)) M1)) : zCw l G 10 1 6 yL_total cL_total 5 (Option.some Jvm.ClassFile.FieldType.int) [(0, 9, 12, 13)] [.ref (0 : Nat), .int v1, .int v2, .ref (220 : Nat)] M (zP (some (.int (nI 0))) (zwL M1 220 0 v)) := by
  refine zCw_of (by decide) (Nat.le_of_ble_eq_true rfl) (fun X Q hQ hX hl hR hr hEx hNc hT => ?_)
  refine zV_loc (L' := [.ref (0 : Nat), .int v1, .int v2, .ref (220 : Nat), .null]) rfl ?_
  refine zV_aload_n hX dL_total_0 rfl ?_
  refine zV_iconst hX (v := nI 0) dL_total_1 (by decide) ?_
  refine zV_aload_n hX dL_total_2 rfl ?_
  refine zV_iload_n hX dL_total_3 rfl ?_
  refine zV_iload_n hX dL_total_4 rfl ?_
  refine zK_cV2p hX hR hl dL_total_5 (zCk.of (hC)) zt_X10_total rfl zml_L_95 zo0.1 ⟨by decide, by decide⟩ (Nat.le_of_ble_eq_true rfl) (by omega) ⟨rfl, rfl⟩ ?_
  dsimp only [Option.toList, List.cons_append, List.nil_append]
  refine zV_last hX dL_total_8 (rfl : zSh 220 = (23, 1)) (rfl) ⟨by omega, by omega⟩ ?_
  refine zV_goto hX (tgt := 16) dL_total_9 (by decide) ?_
  refine zV_iconst hX (v := nI 0) dL_total_16 (by decide) ?_
  exact zH_reti hX (by omega) hQ hr (⟨rfl, rfl⟩) dL_total_17
set_option maxHeartbeats 1000000 in
theorem zh_totalI (l : Launch) (G : zG) (M M1 : zM) (v1 v2 : Int32) (hC : zCx l G 9 1 6 yX10_total cX10_total 3 (Option.some Jvm.ClassFile.FieldType.long) [.ref (0 : Nat), .int v1, .int v2] M zIAE M1) : zCw l G 10 1 6 yL_total cL_total 5 (Option.some Jvm.ClassFile.FieldType.int) [(0, 9, 12, 13)] [.ref (0 : Nat), .int v1, .int v2, .ref (220 : Nat)] M (zP (some (.int (nI 1))) (M1)) := by
  refine zCw_of (by decide) (Nat.le_of_ble_eq_true rfl) (fun X Q hQ hX hl hR hr hEx hNc hT => ?_)
  refine zV_loc (L' := [.ref (0 : Nat), .int v1, .int v2, .ref (220 : Nat), .null]) rfl ?_
  refine zV_aload_n hX dL_total_0 rfl ?_
  refine zV_iconst hX (v := nI 0) dL_total_1 (by decide) ?_
  refine zV_aload_n hX dL_total_2 rfl ?_
  refine zV_iload_n hX dL_total_3 rfl ?_
  refine zV_iload_n hX dL_total_4 rfl ?_
  refine zH_catch2 hX hEx hR hl dL_total_5 (hC) zt_X10_total rfl zml_L_95 zo0.1 ⟨by decide, by decide⟩ (Nat.le_of_ble_eq_true rfl) (by omega) ⟨rfl, rfl⟩ [] ⟨0, 9, 12, 13⟩ [] hT (fun z hz => nomatch hz) ⟨by decide, by decide⟩ zcl_L_13 (by decide) rfl dL_total_12 (by decide) ?_
  dsimp only [zst1, zst2, zclr, zc2]
  refine zV_iconst hX (v := nI 1) dL_total_14 (by decide) ?_
  exact zH_reti hX (by omega) hQ hr (⟨rfl, rfl⟩) dL_total_15
set_option maxHeartbeats 1000000 in
theorem zh_attacks (l : Launch) (G : zG) (M M1 : zM) (v1 v2 v3 v4 : Int32) (v : Int32) (hC : zC l G 9 yX10_attacks cX10_attacks 9 (Option.some Jvm.ClassFile.FieldType.int) [.ref (0 : Nat), .int v1, .int v2, .int v3, .int v4] M (zP (some (.int v)) M1)) : zCw l G 10 1 6 yL_attacks cL_attacks 7 (Option.some Jvm.ClassFile.FieldType.int) [(0, 14, 17, 19), (0, 14, 21, 13)] [.ref (0 : Nat), .int v1, .int v2, .int v3, .int v4, .ref (220 : Nat)] M (zP (some (.int (nI 0))) (zwL M1 220 0 v.toInt64)) := by
  refine zCw_of (by decide) (Nat.le_of_ble_eq_true rfl) (fun X Q hQ hX hl hR hr hEx hNc hT => ?_)
  refine zV_loc (L' := [.ref (0 : Nat), .int v1, .int v2, .int v3, .int v4, .ref (220 : Nat), .null]) rfl ?_
  refine zV_aload hX dL_attacks_0 rfl ?_
  refine zV_iconst hX (v := nI 0) dL_attacks_2 (by decide) ?_
  refine zV_aload_n hX dL_attacks_3 rfl ?_
  refine zV_iload_n hX dL_attacks_4 rfl ?_
  refine zV_iload_n hX dL_attacks_5 rfl ?_
  refine zV_iload_n hX dL_attacks_6 rfl ?_
  refine zV_iload hX dL_attacks_7 rfl ?_
  refine zK_cV4p hX hR hl dL_attacks_9 (zCk.of (hC)) zt_X10_attacks rfl zml_L_99 zo0.1 ⟨by decide, by decide⟩ (Nat.le_of_ble_eq_true rfl) (by omega) ⟨rfl, rfl⟩ ?_
  dsimp only [Option.toList, List.cons_append, List.nil_append]
  refine zV_i2l hX dL_attacks_12 ?_
  refine zV_last hX dL_attacks_13 (rfl : zSh 220 = (23, 1)) (rfl) ⟨by omega, by omega⟩ ?_
  refine zV_goto hX (tgt := 25) dL_attacks_14 (by decide) ?_
  refine zV_iconst hX (v := nI 0) dL_attacks_25 (by decide) ?_
  exact zH_reti hX (by omega) hQ hr (⟨rfl, rfl⟩) dL_attacks_26
set_option maxHeartbeats 1000000 in
theorem zh_attacksS (l : Launch) (G : zG) (M M1 : zM) (v1 v2 v3 v4 : Int32) (hC : zCx l G 9 1 6 yX10_attacks cX10_attacks 9 (Option.some Jvm.ClassFile.FieldType.int) [.ref (0 : Nat), .int v1, .int v2, .int v3, .int v4] M zNSE M1) : zCw l G 10 1 6 yL_attacks cL_attacks 7 (Option.some Jvm.ClassFile.FieldType.int) [(0, 14, 17, 19), (0, 14, 21, 13)] [.ref (0 : Nat), .int v1, .int v2, .int v3, .int v4, .ref (220 : Nat)] M (zP (some (.int (nI 1))) (M1)) := by
  refine zCw_of (by decide) (Nat.le_of_ble_eq_true rfl) (fun X Q hQ hX hl hR hr hEx hNc hT => ?_)
  refine zV_loc (L' := [.ref (0 : Nat), .int v1, .int v2, .int v3, .int v4, .ref (220 : Nat), .null]) rfl ?_
  refine zV_aload hX dL_attacks_0 rfl ?_
  refine zV_iconst hX (v := nI 0) dL_attacks_2 (by decide) ?_
  refine zV_aload_n hX dL_attacks_3 rfl ?_
  refine zV_iload_n hX dL_attacks_4 rfl ?_
  refine zV_iload_n hX dL_attacks_5 rfl ?_
  refine zV_iload_n hX dL_attacks_6 rfl ?_
  refine zV_iload hX dL_attacks_7 rfl ?_
  refine zH_catch4 hX hEx hR hl dL_attacks_9 (hC) zt_X10_attacks rfl zml_L_99 zo0.1 ⟨by decide, by decide⟩ (Nat.le_of_ble_eq_true rfl) (by omega) ⟨rfl, rfl⟩ [] ⟨0, 14, 17, 19⟩ [⟨0, 14, 21, 13⟩] hT (fun z hz => nomatch hz) ⟨by decide, by decide⟩ zcl_L_19 (by decide) rfl dL_attacks_17 (by decide) ?_
  dsimp only [zst1, zst2, zclr, zc2]
  refine zV_iconst hX (v := nI 1) dL_attacks_19 (by decide) ?_
  exact zH_reti hX (by omega) hQ hr (⟨rfl, rfl⟩) dL_attacks_20
set_option maxHeartbeats 1000000 in
theorem zh_attacksI (l : Launch) (G : zG) (M M1 : zM) (v1 v2 v3 v4 : Int32) (hC : zCx l G 9 1 6 yX10_attacks cX10_attacks 9 (Option.some Jvm.ClassFile.FieldType.int) [.ref (0 : Nat), .int v1, .int v2, .int v3, .int v4] M zIAE M1) : zCw l G 10 1 6 yL_attacks cL_attacks 7 (Option.some Jvm.ClassFile.FieldType.int) [(0, 14, 17, 19), (0, 14, 21, 13)] [.ref (0 : Nat), .int v1, .int v2, .int v3, .int v4, .ref (220 : Nat)] M (zP (some (.int (nI 2))) (M1)) := by
  refine zCw_of (by decide) (Nat.le_of_ble_eq_true rfl) (fun X Q hQ hX hl hR hr hEx hNc hT => ?_)
  refine zV_loc (L' := [.ref (0 : Nat), .int v1, .int v2, .int v3, .int v4, .ref (220 : Nat), .null]) rfl ?_
  refine zV_aload hX dL_attacks_0 rfl ?_
  refine zV_iconst hX (v := nI 0) dL_attacks_2 (by decide) ?_
  refine zV_aload_n hX dL_attacks_3 rfl ?_
  refine zV_iload_n hX dL_attacks_4 rfl ?_
  refine zV_iload_n hX dL_attacks_5 rfl ?_
  refine zV_iload_n hX dL_attacks_6 rfl ?_
  refine zV_iload hX dL_attacks_7 rfl ?_
  refine zH_catch4 hX hEx hR hl dL_attacks_9 (hC) zt_X10_attacks rfl zml_L_99 zo0.1 ⟨by decide, by decide⟩ (Nat.le_of_ble_eq_true rfl) (by omega) ⟨rfl, rfl⟩ [⟨0, 14, 17, 19⟩] ⟨0, 14, 21, 13⟩ [] hT (fun z hz => by rw [List.mem_singleton.mp hz]; exact Or.inr ⟨by decide, _, zcl_L_19, hNc⟩) ⟨by decide, by decide⟩ zcl_L_13 (by decide) rfl dL_attacks_21 (by decide) ?_
  dsimp only [zst1, zst2, zclr, zc2]
  refine zV_iconst hX (v := nI 2) dL_attacks_23 (by decide) ?_
  exact zH_reti hX (by omega) hQ hr (⟨rfl, rfl⟩) dL_attacks_24
set_option maxHeartbeats 1000000 in
theorem zh_breaks (l : Launch) (G : zG) (M M1 : zM) (v1 v2 v3 v4 : Int32) (v : Bool) (hC : zC l G 9 yX10_breaks cX10_breaks 5 (Option.some Jvm.ClassFile.FieldType.boolean) [.ref (0 : Nat), .int v1, .int v2, .int v3, .int v4] M (zP (some (.int (zb v))) M1)) : zCw l G 10 1 6 yL_breaks cL_breaks 7 (Option.some Jvm.ClassFile.FieldType.int) [(0, 21, 24, 19), (0, 21, 28, 13)] [.ref (0 : Nat), .int v1, .int v2, .int v3, .int v4, .ref (220 : Nat)] M (zP (some (.int (nI 0))) (zwL M1 220 0 (if v = true then 1 else 0))) := by
  refine zCw_of (by decide) (Nat.le_of_ble_eq_true rfl) (fun X Q hQ hX hl hR hr hEx hNc hT => ?_)
  refine zV_loc (L' := [.ref (0 : Nat), .int v1, .int v2, .int v3, .int v4, .ref (220 : Nat), .null]) rfl ?_
  refine zV_aload hX dL_breaks_0 rfl ?_
  refine zV_iconst hX (v := nI 0) dL_breaks_2 (by decide) ?_
  refine zV_aload_n hX dL_breaks_3 rfl ?_
  refine zV_iload_n hX dL_breaks_4 rfl ?_
  refine zV_iload_n hX dL_breaks_5 rfl ?_
  refine zV_iload_n hX dL_breaks_6 rfl ?_
  refine zV_iload hX dL_breaks_7 rfl ?_
  refine zK_cV4p hX hR hl dL_breaks_9 (zCk.of (hC)) zt_X10_breaks rfl zml_L_102 zo0.1 ⟨by decide, by decide⟩ (Nat.le_of_ble_eq_true rfl) (by omega) ⟨rfl, rfl⟩ ?_
  dsimp only [Option.toList, List.cons_append, List.nil_append]
  refine zV_if_eqB hX (tgt := 19) dL_breaks_12 (by decide) (fun c_12 => ?_) (fun c_12 => ?_)
  · refine zV_lconst hX (v := 0) dL_breaks_19 rfl ?_
    refine zV_last hX dL_breaks_20 (rfl : zSh 220 = (23, 1)) (rfl) ⟨by omega, by omega⟩ ?_
    refine zV_goto hX (tgt := 32) dL_breaks_21 (by decide) ?_
    refine zV_iconst hX (v := nI 0) dL_breaks_32 (by decide) ?_
    exact zH_reti hX (by omega) hQ hr (⟨rfl, by first | (rw [if_neg (by rw [c_12]; decide)]) | (rw [if_pos c_12])⟩) dL_breaks_33
  · refine zV_lconst hX (v := 1) dL_breaks_15 rfl ?_
    refine zV_goto hX (tgt := 20) dL_breaks_16 (by decide) ?_
    refine zV_last hX dL_breaks_20 (rfl : zSh 220 = (23, 1)) (rfl) ⟨by omega, by omega⟩ ?_
    refine zV_goto hX (tgt := 32) dL_breaks_21 (by decide) ?_
    refine zV_iconst hX (v := nI 0) dL_breaks_32 (by decide) ?_
    exact zH_reti hX (by omega) hQ hr (⟨rfl, by first | (rw [if_neg (by rw [c_12]; decide)]) | (rw [if_pos c_12])⟩) dL_breaks_33
set_option maxHeartbeats 1000000 in
theorem zh_breaksS (l : Launch) (G : zG) (M M1 : zM) (v1 v2 v3 v4 : Int32) (hC : zCx l G 9 1 6 yX10_breaks cX10_breaks 5 (Option.some Jvm.ClassFile.FieldType.boolean) [.ref (0 : Nat), .int v1, .int v2, .int v3, .int v4] M zNSE M1) : zCw l G 10 1 6 yL_breaks cL_breaks 7 (Option.some Jvm.ClassFile.FieldType.int) [(0, 21, 24, 19), (0, 21, 28, 13)] [.ref (0 : Nat), .int v1, .int v2, .int v3, .int v4, .ref (220 : Nat)] M (zP (some (.int (nI 1))) (M1)) := by
  refine zCw_of (by decide) (Nat.le_of_ble_eq_true rfl) (fun X Q hQ hX hl hR hr hEx hNc hT => ?_)
  refine zV_loc (L' := [.ref (0 : Nat), .int v1, .int v2, .int v3, .int v4, .ref (220 : Nat), .null]) rfl ?_
  refine zV_aload hX dL_breaks_0 rfl ?_
  refine zV_iconst hX (v := nI 0) dL_breaks_2 (by decide) ?_
  refine zV_aload_n hX dL_breaks_3 rfl ?_
  refine zV_iload_n hX dL_breaks_4 rfl ?_
  refine zV_iload_n hX dL_breaks_5 rfl ?_
  refine zV_iload_n hX dL_breaks_6 rfl ?_
  refine zV_iload hX dL_breaks_7 rfl ?_
  refine zH_catch4 hX hEx hR hl dL_breaks_9 (hC) zt_X10_breaks rfl zml_L_102 zo0.1 ⟨by decide, by decide⟩ (Nat.le_of_ble_eq_true rfl) (by omega) ⟨rfl, rfl⟩ [] ⟨0, 21, 24, 19⟩ [⟨0, 21, 28, 13⟩] hT (fun z hz => nomatch hz) ⟨by decide, by decide⟩ zcl_L_19 (by decide) rfl dL_breaks_24 (by decide) ?_
  dsimp only [zst1, zst2, zclr, zc2]
  refine zV_iconst hX (v := nI 1) dL_breaks_26 (by decide) ?_
  exact zH_reti hX (by omega) hQ hr (⟨rfl, rfl⟩) dL_breaks_27
set_option maxHeartbeats 1000000 in
theorem zh_breaksI (l : Launch) (G : zG) (M M1 : zM) (v1 v2 v3 v4 : Int32) (hC : zCx l G 9 1 6 yX10_breaks cX10_breaks 5 (Option.some Jvm.ClassFile.FieldType.boolean) [.ref (0 : Nat), .int v1, .int v2, .int v3, .int v4] M zIAE M1) : zCw l G 10 1 6 yL_breaks cL_breaks 7 (Option.some Jvm.ClassFile.FieldType.int) [(0, 21, 24, 19), (0, 21, 28, 13)] [.ref (0 : Nat), .int v1, .int v2, .int v3, .int v4, .ref (220 : Nat)] M (zP (some (.int (nI 2))) (M1)) := by
  refine zCw_of (by decide) (Nat.le_of_ble_eq_true rfl) (fun X Q hQ hX hl hR hr hEx hNc hT => ?_)
  refine zV_loc (L' := [.ref (0 : Nat), .int v1, .int v2, .int v3, .int v4, .ref (220 : Nat), .null]) rfl ?_
  refine zV_aload hX dL_breaks_0 rfl ?_
  refine zV_iconst hX (v := nI 0) dL_breaks_2 (by decide) ?_
  refine zV_aload_n hX dL_breaks_3 rfl ?_
  refine zV_iload_n hX dL_breaks_4 rfl ?_
  refine zV_iload_n hX dL_breaks_5 rfl ?_
  refine zV_iload_n hX dL_breaks_6 rfl ?_
  refine zV_iload hX dL_breaks_7 rfl ?_
  refine zH_catch4 hX hEx hR hl dL_breaks_9 (hC) zt_X10_breaks rfl zml_L_102 zo0.1 ⟨by decide, by decide⟩ (Nat.le_of_ble_eq_true rfl) (by omega) ⟨rfl, rfl⟩ [⟨0, 21, 24, 19⟩] ⟨0, 21, 28, 13⟩ [] hT (fun z hz => by rw [List.mem_singleton.mp hz]; exact Or.inr ⟨by decide, _, zcl_L_19, hNc⟩) ⟨by decide, by decide⟩ zcl_L_13 (by decide) rfl dL_breaks_28 (by decide) ?_
  dsimp only [zst1, zst2, zclr, zc2]
  refine zV_iconst hX (v := nI 2) dL_breaks_30 (by decide) ?_
  exact zH_reti hX (by omega) hQ hr (⟨rfl, rfl⟩) dL_breaks_31
set_option maxHeartbeats 1000000 in
theorem zh_fewest (l : Launch) (G : zG) (M M1 : zM) (v1 v2 : Int32) (v : Int32) (hC : zC l G 9 yX10_fewest cX10_fewest 4 (Option.some Jvm.ClassFile.FieldType.int) [.ref (0 : Nat), .int v1, .int v2] M (zP (some (.int v)) M1)) : zCw l G 10 1 6 yL_fewest cL_fewest 5 (Option.some Jvm.ClassFile.FieldType.int) [(0, 10, 13, 13)] [.ref (0 : Nat), .int v1, .int v2, .ref (220 : Nat)] M (zP (some (.int (nI 0))) (zwL M1 220 0 v.toInt64)) := by
  refine zCw_of (by decide) (Nat.le_of_ble_eq_true rfl) (fun X Q hQ hX hl hR hr hEx hNc hT => ?_)
  refine zV_loc (L' := [.ref (0 : Nat), .int v1, .int v2, .ref (220 : Nat), .null]) rfl ?_
  refine zV_aload_n hX dL_fewest_0 rfl ?_
  refine zV_iconst hX (v := nI 0) dL_fewest_1 (by decide) ?_
  refine zV_aload_n hX dL_fewest_2 rfl ?_
  refine zV_iload_n hX dL_fewest_3 rfl ?_
  refine zV_iload_n hX dL_fewest_4 rfl ?_
  refine zK_cV2p hX hR hl dL_fewest_5 (zCk.of (hC)) zt_X10_fewest rfl zml_L_106 zo0.1 ⟨by decide, by decide⟩ (Nat.le_of_ble_eq_true rfl) (by omega) ⟨rfl, rfl⟩ ?_
  dsimp only [Option.toList, List.cons_append, List.nil_append]
  refine zV_i2l hX dL_fewest_8 ?_
  refine zV_last hX dL_fewest_9 (rfl : zSh 220 = (23, 1)) (rfl) ⟨by omega, by omega⟩ ?_
  refine zV_goto hX (tgt := 17) dL_fewest_10 (by decide) ?_
  refine zV_iconst hX (v := nI 0) dL_fewest_17 (by decide) ?_
  exact zH_reti hX (by omega) hQ hr (⟨rfl, rfl⟩) dL_fewest_18
set_option maxHeartbeats 1000000 in
theorem zh_fewestI (l : Launch) (G : zG) (M M1 : zM) (v1 v2 : Int32) (hC : zCx l G 9 1 6 yX10_fewest cX10_fewest 4 (Option.some Jvm.ClassFile.FieldType.int) [.ref (0 : Nat), .int v1, .int v2] M zIAE M1) : zCw l G 10 1 6 yL_fewest cL_fewest 5 (Option.some Jvm.ClassFile.FieldType.int) [(0, 10, 13, 13)] [.ref (0 : Nat), .int v1, .int v2, .ref (220 : Nat)] M (zP (some (.int (nI 1))) (M1)) := by
  refine zCw_of (by decide) (Nat.le_of_ble_eq_true rfl) (fun X Q hQ hX hl hR hr hEx hNc hT => ?_)
  refine zV_loc (L' := [.ref (0 : Nat), .int v1, .int v2, .ref (220 : Nat), .null]) rfl ?_
  refine zV_aload_n hX dL_fewest_0 rfl ?_
  refine zV_iconst hX (v := nI 0) dL_fewest_1 (by decide) ?_
  refine zV_aload_n hX dL_fewest_2 rfl ?_
  refine zV_iload_n hX dL_fewest_3 rfl ?_
  refine zV_iload_n hX dL_fewest_4 rfl ?_
  refine zH_catch2 hX hEx hR hl dL_fewest_5 (hC) zt_X10_fewest rfl zml_L_106 zo0.1 ⟨by decide, by decide⟩ (Nat.le_of_ble_eq_true rfl) (by omega) ⟨rfl, rfl⟩ [] ⟨0, 10, 13, 13⟩ [] hT (fun z hz => nomatch hz) ⟨by decide, by decide⟩ zcl_L_13 (by decide) rfl dL_fewest_13 (by decide) ?_
  dsimp only [zst1, zst2, zclr, zc2]
  refine zV_iconst hX (v := nI 1) dL_fewest_15 (by decide) ?_
  exact zH_reti hX (by omega) hQ hr (⟨rfl, rfl⟩) dL_fewest_16
