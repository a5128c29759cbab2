section zThrowLaw
variable {p : Program} {l : Launch} {e : Env} {R : Room} {s : State} {m₀ : MethodId} {args : Array Value} {below : List Frame} {meth : Method} {c : Code} {W : State} {locs : List Loc} {cells slots : Nat}
set_option maxHeartbeats 1000000 in
theorem zt_ctorX (X : Stand p l e R s m₀ args below meth c W locs cells slots) (hexec : p.tables.exec = Jvm.exec) (htr : e.platform.stackTraces = false) {own cls : String} {names : List String} {ic ix : Nat} {rx : ByteArray} (x0 : decode rx 0 = .ok (.aload_n 0, 1)) (x1 : decode rx 1 = .ok (.aload_n 1, 1)) (x2 : decode rx 2 = .ok (.invokespecial ix, 3)) (x5 : decode rx 5 = .ok (.return_, 1))
    (hown : s.vm.findClass own = some m₀.cls) (hcls : Bundle.fit cls = true) (hnames : ∀ n ∈ names, Bundle.fit n = true)
    (h : ∀ a ∈ Bundle.ownAtomsX own ic cls ix rx names, a.before args s = true)
    (hlocs : ∀ x ∈ locs, ∀ cell, s.heap[x.base]? = some cell → cell.vm.isStatics = false)
    {a : Addr} {cX : ClassId} {kX : Class} (hfoundX : s.vm.findClass cls = some cX) (hkX : s.vm.classes[cX]? = some kX) (hcell : W.heap[a]? = some (freshCell cX kX)) (hnew : s.heap.size ≤ a)
    {msg : Value} (hmsg : msg.isRef = true)
    {g : JFrame} (hg : g.method = m₀) (hsize : g.locals.size = c.maxLocals) (hlocked : g.locked = none) (hentered : g.entered = []) {rest : List Value} (hstack : g.stack = msg :: .ref a :: .ref a :: rest)
    (hd6 : decode c.code g.pc = .ok (.invokespecial ic, 3)) (hd9 : decode c.code (g.pc + 3) = .ok (.athrow, 1)) (hout : ∀ x ∈ c.exceptionTable.toList, covers x (g.pc + 3) = false)
    (hRframes : names.length + 3 < R.frames) (hRlocals : 2 * g.monitorRoom + ((Value.ref a :: rest).map fun v => v.category).sum + (13 * (names.length + 1) + 42) ≤ R.locals) (hlocks : meth.locks = false := by assumption) :
    ∃ U : State, Steps p.tables e below (W.setTop g) U ∧ U.status = .running ∧ Ended U below (.threw a) ∧ s.WarmedH U.vm ∧ s.sameButNew ({ U with vm := s.vm } : State) locs cells slots ∧
      ∃ ce, U.heap[a]? = some ce ∧ (s.vm.findClass cls = some ce.cls ∧ ce.vm = .none) := by
  have howns : e.platform.frameOwnsMonitors = true := by rw [X.admits.platform]
  have hfin : e.platform.finalization = false := by rw [X.admits.platform]
  have hpl : e.platform.magicAccessors = ({} : Platform).magicAccessors := by rw [X.admits.platform]
  have a' : ∀ x, x ∈ Bundle.ownAtomsX own ic cls ix rx names → x.holds args s none s [] = true := fun x hx => h x hx
  obtain ⟨T, Z0, L, -, Y⟩ := ThrowableC.of_atoms (args := args) howns hfin hpl (fun x hx => h x (by simp [Bundle.ownAtomsX, hx]))
  obtain ⟨Z, M, LZ, LM, hnZ⟩ := Init0T.ofS_atoms (args := args) hpl L Y (fun x hx => h x (by simp [Bundle.ownAtomsX, hx]))
  obtain ⟨P1, Ps, hlen, L1, hL, hP1m, hlink1, hlink⟩ := Bundle.chainSX (args := args) hpl hnZ x0 x1 x2 x5 names cls hcls hnames (fun x hx => h x (by simp [Bundle.ownAtomsX, hx]))
  have hfound : s.vm.findClass cls = some P1.m.cls := findClass_of_methodNamed hP1m
  cases Option.some.inj (hfoundX.symm.trans hfound)
  obtain ⟨c1, kX', hc1, hk, hord, -, -, hn6⟩ := Cond.instantiable_spec (a' (.instantiable cls 6) (by simp [Bundle.ownAtomsX]))
  cases Option.some.inj (hc1.symm.trans hfound)
  cases Option.some.inj (hkX.symm.trans hk)
  have hsel0 : selectMethod e.platform s.vm P1.m.cls T.fill0 = .method T.fill0 := by
    obtain ⟨c2, r2, m2, q1, q2, q3, q4, -⟩ := Cond.selects_spec (a' (.selects cls Bundle.tFill0 Bundle.tFill0) (by simp [Bundle.ownAtomsX]))
    cases Option.some.inj (q1.symm.trans hfound)
    cases Option.some.inj (q2.symm.trans (State.methodFound?_of_named Y.fill0 (by decide)))
    cases Option.some.inj (q3.symm.trans Y.fill0)
    rw [Launch.admits_selectMethod X.admits]; exact q4
  have hselF : selectMethod e.platform s.vm P1.m.cls T.fill = .method T.fill := by
    obtain ⟨c2, r2, m2, q1, q2, q3, q4, -⟩ := Cond.selects_spec (a' (.selects cls Bundle.tFill Bundle.tFill) (by simp [Bundle.ownAtomsX]))
    cases Option.some.inj (q1.symm.trans hfound)
    cases Option.some.inj (q2.symm.trans (State.methodFound?_of_named Y.fill (by decide)))
    cases Option.some.inj (q3.symm.trans Y.fill)
    rw [Launch.admits_selectMethod X.admits]; exact q4
  obtain ⟨cellS0, hcS0, hiss⟩ := Y.statics
  obtain ⟨u0, hu0⟩ := Cond.staticRefV Y.unassigned L.unassignedStatic L.statics hcS0 hiss (a' (.isRef (.static Bundle.tN "UNASSIGNED_STACK" Bundle.steD)) (by simp [Bundle.ownAtomsX]))
  obtain ⟨sen, hsen⟩ := Cond.staticRefV Y.sentinel L.sentinelStatic L.statics hcS0 hiss (a' (.isRef (.static Bundle.tN "SUPPRESSED_SENTINEL" Bundle.listD)) (by simp [Bundle.ownAtomsX]))
  obtain ⟨ci198, i198, fB, hk198, hg198, ha198, hsB, -, hnB, htB, hffB⟩ := Cond.ownField (t := .object "java/lang/Object") Y.found L.cls (by decide +kernel) (a' (.fieldLink Bundle.tN 198 Bundle.tN "backtrace" "Ljava/lang/Object;") (by simp [Bundle.ownAtomsX])) (a' (.lays Bundle.tN Bundle.tN "backtrace" "Ljava/lang/Object;") (by simp [Bundle.ownAtomsX])) e.platform hpl
  obtain ⟨cellS, hcS', heS, -, hkeep⟩ := X.same.2.2.2.2.2 T.aS cellS0 hcS0
  have hcellS : W.heap[T.aS]? = some cellS := hcS'
  have hout' : ∀ i, (⟨T.aS, i⟩ : Loc) ∉ locs := fun i hmem => by
    have := hlocs _ hmem cellS0 hcS0
    rw [hiss] at this; cases this
  have hknownS : cellS.vm ≠ .unknown := by
    rw [heS]; intro hu
    rw [show cellS0.vm = .unknown from hu] at hiss
    cases hiss
  have hneS : T.aS ≠ a := Nat.ne_of_lt (Nat.lt_of_lt_of_le (Array.getElem?_eq_some_iff.mp hcS0).1 hnew)
  obtain ⟨iM, hffM⟩ := Y.msg
  obtain ⟨tyC, dC, hdC, hdnC⟩ := Cond.laysAt hfound hk Y.cause (a' (.lays cls Bundle.tN "cause" "Ljava/lang/Throwable;") (by simp [Bundle.ownAtomsX]))
  obtain ⟨tyS, dS, hdS, hdnS⟩ := Cond.laysAt hfound hk Y.stack (a' (.lays cls Bundle.tN "stackTrace" Bundle.steD) (by simp [Bundle.ownAtomsX]))
  obtain ⟨tyP, dP, hdP, hdnP⟩ := Cond.laysAt hfound hk Y.supp (a' (.lays cls Bundle.tN "suppressedExceptions" Bundle.listD) (by simp [Bundle.ownAtomsX]))
  obtain ⟨tyM, dM, hdM, hdnM⟩ := Cond.laysAt hfound hk hffM (a' (.lays cls Bundle.tN "detailMessage" "Ljava/lang/String;") (by simp [Bundle.ownAtomsX]))
  obtain ⟨tyB, dB, hdB, hdnB⟩ := Cond.laysAt hfound hk hffB (a' (.lays cls Bundle.tN "backtrace" "Ljava/lang/Object;") (by simp [Bundle.ownAtomsX]))
  have bC := Cond.laysApart hdB hdC hdnB hdnC (by rw [hnB, Y.causeName]; decide)
  have bS := Cond.laysApart hdB hdS hdnB hdnS (by rw [hnB, Y.stackName]; decide)
  have bP := Cond.laysApart hdB hdP hdnB hdnP (by rw [hnB, Y.suppName]; decide)
  have hskip : SkipFacts T e.platform s (fun u => u) u0 ((preparedCellV T.toThrowableT (freshCell P1.m.cls kX) a u0 sen).withEntry W.cur) :=
    ⟨{ ci198 := ci198, i198 := i198, fBack := fB }, ⟨hk198, hg198, ha198, hsB⟩, by
      have := fresh_default (c := P1.m.cls) tyB
      rw [htB] at this
      simpa [preparedCellV, Cell.setSlot, Cell.withEntry, Array.getElem?_setIfInBounds, bC, bS, bP, bC.symm, bS.symm, bP.symm, defaultValue] using this, fun _ _ => rfl⟩
  obtain ⟨tm, methC, cdC, kC, vm₁, hnC, -, -, -, -, -, -, -, hW₁, st1⟩ := Steps.initColdS (tb := p.tables) (e := e) (below := below) (s := s) (U := W) X.here hexec X.warmed hpl hown (t := Bundle.initS cls) rfl rfl (Bundle.fit_spec hcls).2
    (a' (.methodLink own ic (Bundle.initS cls)) (by simp [Bundle.ownAtomsX])) (h (.instanceMethod (Bundle.initS cls)) (by cases names <;> simp [Bundle.ownAtomsX, Bundle.chainSAtomsX, Bundle.passSAtoms])) (bytes := rx) (maxL := 2) (h (.code (Bundle.initS cls) rx 2 none) (by cases names <;> simp [Bundle.ownAtomsX, Bundle.chainSAtomsX, Bundle.passSAtoms]))
    (f := g) hg (a := a) (msg := msg) (rest := .ref a :: rest) hstack hd6
  cases Option.some.inj (hnC.symm.trans hP1m)
  have X₁ := X.noted hW₁
  obtain ⟨vm₂, X₂, st2⟩ := X₁.ctorMessageOffV hexec (g := { g with stack := .ref a :: rest }) hg hsize T L Z LZ M LM (P1 :: Ps)
    (fun P hP => by rcases List.mem_cons.mp hP with rfl | hP; exact L1; exact hL P hP) ⟨hlink1, hlink⟩ (u0 := u0) (sen := sen) (self := a) hmsg (cell := freshCell P1.m.cls kX) (cellS := cellS)
    hcell (fun _ => by simp) (by simp) rfl rfl hsel0 hselF hcellS hneS hknownS (by rw [hkeep _ (hout' _)]; exact hu0) (by rw [hkeep _ (hout' _)]; exact hsen)
    (Takes.of_laid hk hord tyC (by rw [Y.causeType]; rfl)) (Takes.of_laid hk hord tyS (by rw [Y.stackType]; exact fits_refV_array _ u0)) (Takes.of_laid hk hord tyP (by rw [Y.suppType]; exact fits_refV_object _ sen))
    (Takes.of_laid hk hord tyM (by rw [Y.msgType]; exact fits_refV_object _ ⟨msg, hmsg⟩)) Y.objLocals hskip htr [] hd6
    (by simp only [List.length_cons, hlen]; omega) (by simp only [List.length_cons, hlen]; exact hRlocals)
  obtain ⟨hwalk, hrun, hended, hWU, hsame⟩ := X₂.athrowLeaves hexec (g := { g with stack := .ref a :: rest, pc := g.pc + 3 }) hg hlocked hentered hout (a := a) (rest := rest) rfl hd9
  have hlt : a < ((W.setVm vm₁).setVm vm₂).heap.size := (Array.getElem?_eq_some_iff.mp hcell).1
  have hU := heapAt_setCell_self (s := (W.setVm vm₁).setVm vm₂) (plainBareV T.toThrowableT (freshCell P1.m.cls kX) a u0 sen msg) hlt
  have hnM : T.fMsg.name = "detailMessage" := (State.fieldFound?_type hffM (t := .object "java/lang/String") (by decide +kernel)).1
  refine ⟨_, st1 _ (fun acts => ?_), hrun, hended, hWU, hsame.weaken (fun y hy hlt' => ?_) (Nat.le_refl _) (Nat.le_refl _), _, hU, ?_⟩
  · rw [doInvoke_state]
    exact st2 _ hwalk
  · rcases List.mem_append.mp hy with h1 | h1
    · exact h1
    · exfalso
      have hb : y.base = a := by
        simp only [List.mem_cons, List.not_mem_nil, or_false] at h1
        rcases h1 with rfl | rfl | rfl | rfl | rfl <;> rfl
      rw [hb] at hlt'
      exact Nat.not_lt.mpr hnew hlt'
  · exact ⟨hfound, rfl⟩
end zThrowLaw
def vx_atSX (own : String) (ic : Nat) (X : String) (ix : Nat) (rx : ByteArray) (names : List String) : List Cond := (Bundle.ownAtomsX own ic X ix rx names).filter vx_no
section zThrowLaw2
variable {p : Program} {l : Launch} {e : Env} {R : Room} {s : State} {m : MethodId} {args : Array Value} {below : List Frame} {meth : Method} {c : Code} {H : Heap} {locs : List Loc} {cells slots : Nat}
variable {Qc : Array Value → State → Outcome → State → Prop} {XC : String → State → State → Prop} {free : Addr → Prop} {ls : Array Slot} {rest : List Value}
theorem zt_throwX {cc : ByteArray} {pc : Nat} (hexec : p.tables.exec = Jvm.exec) (hb : c.code = cc) (hl : l.stackTraces = false) {own cls text : String} {names : List String} {ik is ic mc ms sa ix : Nat} {rx : ByteArray} {A : Nat → Prop}
    (hrx : decode rx 0 = .ok (.aload_n 0, 1) ∧ decode rx 1 = .ok (.aload_n 1, 1) ∧ decode rx 2 = .ok (.invokespecial ix, 3) ∧ decode rx 5 = .ok (.return_, 1)) (hown : s.vm.findClass own = some m.cls) (hcls : Bundle.fit cls = true) (hnames : ∀ n ∈ names, Bundle.fit n = true)
    (hk : (Cond.classLink own ik cls).before args s = true) (hini : (Cond.initialized cls).before args s = true) (hstr : vk_R own is text sa s) (hat : ∀ w ∈ vx_atSX own ic cls ix rx names, w.before args s = true)
    (hgood : ∀ w ∈ Cond.classLink own ik cls :: Cond.initialized cls :: vx_atSX own ic cls ix rx names, vx_ot w = true)
    (hU : vx_Zq Bundle.tN "UNASSIGNED_STACK" Bundle.steD A s s.heap) (hN : vx_Zq Bundle.tN "SUPPRESSED_SENTINEL" Bundle.listD A s s.heap) (hS : va_S A s.heap H locs) (hsize : ls.size = c.maxLocals)
    (d0 : decode cc pc = .ok (.new ik, 3)) (d3 : decode cc (pc + 3) = .ok (.dup, 1)) (d4 : decode cc (pc + 4) = .ok (.ldc_w is, 3)) (d7 : decode cc (pc + 7) = .ok (.invokespecial ic, 3)) (d10 : decode cc (pc + 10) = .ok (.athrow, 1))
    (hout : ∀ x ∈ c.exceptionTable.toList, covers x (pc + 10) = false)
    (hRframes : names.length + 3 < R.frames) (hRlocals : (rest.map fun v => v.category).sum + (13 * (names.length + 1) + 43) ≤ R.locals) (hRcells : cells + 1 ≤ R.cells) (hRslots : slots + 6 ≤ R.slots) (hlocks : meth.locks = false)
    (hx : ∀ t : State, s.vm.Alike t.vm → H.size ≤ t.heap.size → (∀ q : Nat, q < H.size → t.heap[q]? = H[q]?) → XC cls s t)
    (hf : ∀ z ∈ locs, free z.base) (hc : cells + 1 ≤ mc) (hs : slots + 6 ≤ ms) :
    W p l e R s m args below meth c H locs cells slots (vx_MQ below Qc XC args s mc ms free) (F0 m pc ls rest) := by
  intro T hT X
  have htr : e.platform.stackTraces = false := (show e.platform.stackTraces = l.stackTraces by rw [X.admits.platform]).trans hl
  have Y := vx_rebase X (R' := { frames := R.frames, locals := R.locals, cells := 1, slots := 6 }) (Nat.le_refl _) (Nat.le_refl _) hRcells hRslots
  obtain ⟨s', hA⟩ : ∃ z, z = (T.setVm s.vm).setFrames (.invoking m args :: below) := ⟨_, rfl⟩
  rw [← hA] at Y
  have hvm : s'.vm = s.vm := by rw [hA]; rfl
  have hhp : s'.heap = H := by rw [hA]; exact hT
  have hW0 : s.WarmedH s'.vm := by rw [hvm]; exact State.WarmedH.refl s
  have hat' : ∀ w ∈ vx_atSX own ic cls ix rx names, w.before args s' = true := fun w hw => vx_ot_at hW0 hvm.symm (hgood w (List.mem_cons_of_mem _ (List.mem_cons_of_mem _ hw))) (hat w hw)
  have hk' : (Cond.classLink own ik cls).before args s' = true := vx_ot_at hW0 hvm.symm (hgood _ List.mem_cons_self) hk
  have hini' : (Cond.initialized cls).before args s' = true := vx_ot_at hW0 hvm.symm (hgood _ (List.mem_cons_of_mem _ List.mem_cons_self)) hini
  have hU' : vx_Zq Bundle.tN "UNASSIGNED_STACK" Bundle.steD A s' s'.heap := by rw [hhp]; exact vx_Zq.moved hW0.alike (hU.kept hS.2.1)
  have hN' : vx_Zq Bundle.tN "SUPPRESSED_SENTINEL" Bundle.listD A s' s'.heap := by rw [hhp]; exact vx_Zq.moved hW0.alike (hN.kept hS.2.1)
  have h : ∀ w ∈ Bundle.ownAtomsX own ic cls ix rx names, w.before args s' = true := vx_own hat' (vx_isRefq hU'.1) (vx_isRefq hN'.1) hU'.2.word hN'.2.word
  have hown' : s'.vm.findClass own = some m.cls := by rw [hvm]; exact hown
  have hins : (Cond.instantiable cls 6).before args s' = true := h _ (by simp [Bundle.ownAtomsX])
  obtain ⟨vm₁, cX, kX, hfX, hkX, -, -, X₁, st1⟩ := Y.newCold hexec (own := own) (C := cls) (index := ik) (n := 6) hown' hk' hins hini'
    (g := F0 m pc ls rest) rfl (by rw [hb]; exact d0) (Nat.le_refl _) (Nat.le_refl _)
  generalize hT1 : (T.setVm vm₁).pushCell { cls := cX, slots := kX.instanceTypes.map defaultValue, vm := .none } = T1 at X₁ st1
  have hcat : (Value.ref T.heap.size).category = 1 := rfl
  have hcellA : T1.heap[T.heap.size]? = some (freshCell cX kX) := by rw [← hT1]; exact State.heap_pushCell_size _ _
  have d3' : decode c.code (pc + 3) = .ok (.dup, 1) := by rw [hb]; exact d3
  have d4' : decode c.code (pc + 4) = .ok (.ldc_w is, 3) := by rw [hb]; exact d4
  have hstr' : vk_R own is text sa s' := vk_R.warm hW0 hstr
  obtain ⟨U, hsteps, hrun, hend, hW, hsame, ce, hce, hO⟩ := zt_ctorX X₁ hexec htr (own := own) (cls := cls) (names := names) (ic := ic) hrx.1 hrx.2.1 hrx.2.2.1 hrx.2.2.2 hown' hcls hnames h (fun x hx => nomatch hx) hfX hkX hcellA (by rw [hhp, hT]; exact Nat.le_refl _) (msg := .ref sa) rfl
    (g := { method := m, pc := pc + 7, locals := ls, stack := .ref sa :: .ref T.heap.size :: .ref T.heap.size :: rest, locked := none }) rfl hsize rfl rfl (rest := rest) rfl
    (by rw [hb]; exact d7) (by rw [hb]; exact d10) hout hRframes (by simp only [List.map_cons, List.sum_cons, hcat]; omega) hlocks
  obtain ⟨f1, f2⟩ := vx_frame hsame
  rw [hhp] at f1 f2
  have hWs : s.WarmedH U.vm := State.WarmedH.trans hW0 hW
  have hcl : s.vm.findClass cls = some ce.cls := by
    have h9 := hO.1
    rw [hvm] at h9
    exact h9
  have hall : s.sameButNew ({ U with vm := s.vm } : State) locs mc ms := by
    subst hA
    obtain ⟨e1, e2⟩ := hsame
    rw [State.setFrames_setFrames] at e1
    have h2 : (T.setVm s.vm).sameButNew ({ U with vm := s.vm } : State) [] (0 + 1) (0 + 6) := ⟨e1, e2⟩
    have h3 := X.same.trans h2
    rw [List.append_nil] at h3
    exact h3.mono hc hs
  refine ⟨U, ?_, .threw T.heap.size, hrun, hend, Or.inr ⟨T.heap.size, rfl, cls, ce, locs, hx U hWs.alike f1 (fun q hq => f2 q hq (fun z hz => nomatch hz)), hce, hO.2, hcl, hWs, hall, hf⟩⟩
  refine st1 _ ?_
  show Steps p.tables e below (T1.setTop { method := m, pc := pc + 3, locals := ls, stack := .ref T.heap.size :: rest, locked := none }) _
  jvm_step X₁.here [X₁.here.top, hexec, d3', Value.category]
  exact X₁.ldcStringW hexec (own := own) (text := text) (index := is) (a := sa) hown' hstr'.1 hstr'.2
    (g := { method := m, pc := pc + 4, locals := ls, stack := .ref T.heap.size :: .ref T.heap.size :: rest, locked := none }) rfl d4' _ hsteps
end zThrowLaw2
section zX
variable {G : zG} {X : zX} {Q : State → Prop} {own : String} {cc : ByteArray} {nL cells slots pc : Nat} {L S : List Value} {M : zM}
/-- thrown: an object of class E, and the memory is M' -/
def zXC (G : zG) (E : String) (M' : zM) (sz : Nat) : String → State → State → Prop := fun E9 st t => E9 = E ∧ zW G (zA G sz) M' t.heap ∧ va_F (zA G sz) st t
def zNo : Array Value → State → Outcome → State → Prop := fun _ _ _ _ => False
/-- words of the tables that a throw wants and no list of good words may hold -/
def zExL : List Cond := [.declares ⟨"java/lang/RuntimeException", "<init>", "(Ljava/lang/String;)V"⟩, .declares ⟨"java/lang/Exception", "<init>", "(Ljava/lang/String;)V"⟩, .declares ⟨"java/lang/Throwable", "<init>", "(Ljava/lang/String;)V"⟩, .castable "java/lang/IllegalArgumentException" "java/lang/IllegalArgumentException", .castable "java/util/NoSuchElementException" "java/util/NoSuchElementException"]
def zEx (U : State) : Prop := ∀ w ∈ zExL, va_Nw w U
theorem zEx.warm {s U : State} (hW : s.WarmedH U.vm) (h : zEx s) : zEx U := by
  intro w hw
  have h1 := h w hw
  simp only [zExL, List.mem_cons, List.not_mem_nil, or_false] at hw
  rcases hw with rfl | rfl | rfl | rfl | rfl
  · exact va_Nw.warmD hW h1
  · exact va_Nw.warmD hW h1
  · exact va_Nw.warmD hW h1
  · exact va_Nw.warmC hW h1
  · exact va_Nw.warmC hW h1
theorem zEx.use {U : State} (h : zEx U) {w : Cond} (hw : w ∈ zExL) (A : Array Value) : w.before A U = true := by
  have h1 := h w hw
  simp only [zExL, List.mem_cons, List.not_mem_nil, or_false] at hw
  rcases hw with rfl | rfl | rfl | rfl | rfl
  all_goals exact va_Nw.use (A := A) rfl h1
def zPx (G : zG) (av : List Value) (M : zM) (sz : Nat) : Array Value → State → Prop := va_Pc (av.map (zv G)) (fun U => U.heap.size = sz ∧ zW G (zA G sz) M U.heap ∧ va_K G.2.1 vwCl (zTy G) U ∧ zSt G (zA G sz) U U.heap ∧ zEx U)
theorem zPx_blind {av : List Value} {sz : Nat} : FrameBlind (zPx G av M sz) := by
  intro a U g mk hp
  obtain ⟨h1, h2, h3, h4, h5, h6⟩ := hp
  exact ⟨h1, h2, h3, va_K.moved (u := U) (U := U.calling g mk a) (Vm.Alike.refl U.vm) h4, h5.next (State.WarmedH.refl U) (fun _ _ _ => rfl) (fun _ h => h), h6.warm (State.WarmedH.refl U)⟩
theorem zPrx {As : List Value} {H : Heap} {own2 : String} {cc2 : ByteArray} {locs : List Loc} (h : zOk G X own cc nL) (hEx : zEx X.2.2.2.2.1) (hW : zW G (zA G X.2.2.2.2.1.heap.size) M H) (hS : va_S (zA G X.2.2.2.2.1.heap.size) X.2.2.2.2.1.heap H locs) : ∀ U : State, U.heap = H → X.2.2.2.2.1.WarmedH U.vm → zPx G As M H.size (As.map (zv G)).toArray U := by
  intro U hU hWm
  obtain ⟨h1, h2, h3, h4, h5⟩ := zPre (As := As) (own2 := own2) (cc2 := cc2) h hW hS U hU hWm
  exact ⟨h1, h2, h3, h4, h5, hEx.warm hWm⟩
/-- the contract of a method that throws -/
def zCx (l : Launch) (G : zG) (d mc ms : Nat) (y : MethodName) (cc : ByteArray) (nL : Nat) (ret : Option FieldType) (av : List Value) (M : zM) (E : String) (M' : zM) : Prop :=
  ∀ sz : Nat, vx_Met l y (.code y cc nL ret :: zT) (zRk d mc ms) (zPx G av M sz) zNo (zXC G E M' sz) mc ms (zA G sz)
abbrev zQx (G : zG) (X : zX) (mc ms : Nat) (E : String) (M' : zM) : State → Prop := vx_MQ X.2.2.2.2.2.2.2.1 zNo (zXC G E M' X.2.2.2.2.1.heap.size) X.2.2.2.2.2.2.1 X.2.2.2.2.1 mc ms (zA G X.2.2.2.2.1.heap.size)
/-- the words that the throwing of an E at 'new ik .. ldc_w is .. init ic' wants -/
def zThr (own : String) (ik is ic j ix : Nat) (rx : ByteArray) (E text : String) : Prop := (Bundle.fit E = true ∧ decode rx 0 = .ok (.aload_n 0, 1) ∧ decode rx 1 = .ok (.aload_n 1, 1) ∧ decode rx 2 = .ok (.invokespecial ix, 3) ∧ decode rx 5 = .ok (.return_, 1)) ∧ (∀ w ∈ Cond.classLink own ik E :: Cond.initialized E :: vx_atSX own ic E ix rx ["java/lang/RuntimeException", "java/lang/Exception"], (w ∈ zT ∨ w ∈ zExL) ∧ vx_ot w = true) ∧ (own, is, text, j) ∈ zSR
theorem zCx_of {l : Launch} {d mc ms : Nat} {y : MethodName} {cc : ByteArray} {nL : Nat} {ret : Option FieldType} {av : List Value} {E : String} {M1 : zM} (hy : plainName y.cls = true) (hn : (lg_sl (av.map (zv G))).length ≤ nL)
    (body : ∀ (X : zX) (Q : State → Prop), zQx G X mc ms E M1 = Q → zOk G X y.cls cc nL → X.2.1 = l → X.2.2.2.1 = zRk d mc ms → zEx X.2.2.2.2.1 → (∀ x ∈ X.2.2.2.2.2.2.2.2.2.exceptionTable.toList, False) → zV G X Q nL 0 0 0 (zE av ++ List.replicate (nL - (zE av).length) .null) [] M) : zCx l G d mc ms y cc nL ret av M E M1 := by
  intro sz
  refine vx_ofW (cc := cc) (maxL := nL) (ret := ret) hy rfl ?_
  intro p e s m args below meth c s₁ B hml ht hv
  obtain ⟨rfl, hsz, hW, hK, hSt, hEx⟩ := hv
  subst hsz
  have hts := atoms_spec (ws := .code y cc nL ret :: zT) B.pre
  have hl := lv_entry (av.map (zv G)) (n := nL) hn
  have hb := body (p, l, e, zRk d mc ms, s, m, (av.map (zv G)).toArray, below, meth, c) _ rfl ⟨B.exec, B.bytes, hml, findClass_of_methodNamed B.named, fun w hw => hts w (List.mem_cons_of_mem _ hw), hK, hSt, B.notSynchronized⟩ rfl rfl hEx ht
  rw [lg_entry_eq]
  exact hb s.heap [] _ hW va_S.rf ⟨hl.1, hl.2.1, fun q hq => hl.2.2 q (zE_in av 0 q (zL_pad _ _ _ q hq))⟩
theorem zX_out (h : zOk G X own cc nL) {mc ms : Nat} {E : String} {M1 : zM} (hQ : zQx G X mc ms E M1 = Q) (ht : ∀ x ∈ X.2.2.2.2.2.2.2.2.2.exceptionTable.toList, False) {H : Heap} {locs : List Loc} {ls : Array Slot} {rest : List Value} {q : Addr} {ce : Cell} (hW : zW G (zA G X.2.2.2.2.1.heap.size) M1 H) (hS : va_S (zA G X.2.2.2.2.1.heap.size) X.2.2.2.2.1.heap H locs) (hcell : H[q]? = some ce) (hv : ce.vm = .none) (hcl : X.2.2.2.2.1.vm.findClass E = some ce.cls) (hcs : cells ≤ mc ∧ slots ≤ ms) :
    vx_W X.1 X.2.1 X.2.2.1 X.2.2.2.1 X.2.2.2.2.1 X.2.2.2.2.2.1 X.2.2.2.2.2.2.1 X.2.2.2.2.2.2.2.1 X.2.2.2.2.2.2.2.2.1 X.2.2.2.2.2.2.2.2.2 H locs cells slots Q (F0 X.2.2.2.2.2.1 pc ls rest) q := hQ ▸ vx_out (fun x hx => (ht x hx).elim) h.2.2.2.2.2.2.2 hcell hv hcl (fun t e _ => ⟨rfl, by rw [e]; exact hW, hS.F e⟩) hS.2.2 hcs.1 hcs.2
theorem zX_throw (h : zOk G X own cc nL) (hEx : zEx X.2.2.2.2.1) (hst : X.2.1.stackTraces = false) {mc ms D : Nat} {E : String} (hR : X.2.2.2.1 = zRk D mc ms) (hD : 5 ≤ D) (hQ : zQx G X mc ms E M = Q) (ht : ∀ x ∈ X.2.2.2.2.2.2.2.2.2.exceptionTable.toList, False) {ik is ic j ix : Nat} {rx : ByteArray} {text : String} (hE : zThr own ik is ic j ix rx E text) (hr : S = []) (d0 : decode cc pc = .ok (.new ik, 3)) (d3 : decode cc (pc + 3) = .ok (.dup, 1)) (d4 : decode cc (pc + 4) = .ok (.ldc_w is, 3)) (d7 : decode cc (pc + 7) = .ok (.invokespecial ic, 3)) (d10 : decode cc (pc + 10) = .ok (.athrow, 1)) (hcs : cells + 1 ≤ mc ∧ slots + 6 ≤ ms) : zV G X Q nL cells slots pc L S M := by
  subst hr
  intro H locs ls hW hS hl
  subst hQ
  obtain ⟨hE1, hE2, hE3⟩ := hE
  have hb : ∀ w ∈ Cond.classLink own ik E :: Cond.initialized E :: vx_atSX own ic E ix rx ["java/lang/RuntimeException", "java/lang/Exception"], w.before X.2.2.2.2.2.2.1 X.2.2.2.2.1 = true := fun w hw => (hE2 w hw).1.elim (h.2.2.2.2.1 w) (fun q => hEx.use q _)
  refine zt_throwX (rx := rx) (ix := ix) (names := ["java/lang/RuntimeException", "java/lang/Exception"]) (text := text) (sa := G.1 (5000 + j)) (A := zA G X.2.2.2.2.1.heap.size) h.1 h.2.1 hst hE1.2 h.2.2.2.1 hE1.1 (by decide) (hb _ List.mem_cons_self) (hb _ (List.mem_cons_of_mem _ List.mem_cons_self)) (h.2.2.2.2.2.2.1.2.2.2.2.1 _ hE3) (fun w hw => hb w (List.mem_cons_of_mem _ (List.mem_cons_of_mem _ hw))) (fun w hw => (hE2 w hw).2) h.2.2.2.2.2.2.1.2.2.2.2.2.1 h.2.2.2.2.2.2.1.2.2.2.2.2.2.1 hS (hl.1.trans h.2.2.1.symm) d0 d3 d4 d7 d10 (fun x hx => (ht x hx).elim) ?_ ?_ ?_ ?_ h.2.2.2.2.2.2.2 (fun t ha h1 h2 => ⟨rfl, zW_kept hW h2, ?_⟩) hS.2.2 hcs.1 hcs.2
  · rw [hR]; show 2 + 3 < D + 1; omega
  · rw [hR]; show 0 + (13 * (2 + 1) + 43) ≤ 100 * D + 100; omega
  · rw [hR]; exact hcs.1
  · rw [hR]; exact hcs.2
  · exact ⟨Nat.le_trans hS.1 h1, fun q hq hA => (h2 q (Nat.lt_of_lt_of_le hq hS.1)).trans (hS.2.1 q hq hA)⟩
theorem zX_go {mc2 ms2 : Nat} {E : String} {M1 : zM} {st0 : List Value} (kx : ∀ (H : Heap) (locs : List Loc) (ls : Array Slot) (q : Addr) (ce : Cell), zW G (zA G X.2.2.2.2.1.heap.size) M1 H → va_S (zA G X.2.2.2.2.1.heap.size) X.2.2.2.2.1.heap H locs → lv_has ls nL (zL G 0 L) → H[q]? = some ce → ce.vm = .none → X.2.2.2.2.1.vm.findClass E = some ce.cls → vx_W X.1 X.2.1 X.2.2.1 X.2.2.2.1 X.2.2.2.2.1 X.2.2.2.2.2.1 X.2.2.2.2.2.2.1 X.2.2.2.2.2.2.2.1 X.2.2.2.2.2.2.2.2.1 X.2.2.2.2.2.2.2.2.2 H locs (cells + mc2) (slots + ms2) Q (F0 X.2.2.2.2.2.1 pc ls (S.map (zv G))) q)
    {H : Heap} {locs : List Loc} {ls : Array Slot} {a : Array Value} (hS : va_S (zA G X.2.2.2.2.1.heap.size) X.2.2.2.2.1.heap H locs) (hl : lv_has ls nL (zL G 0 L))
    (hr : vx_Run X.1 X.2.1 X.2.2.1 X.2.2.2.1 X.2.2.2.2.1 X.2.2.2.2.2.1 X.2.2.2.2.2.2.1 X.2.2.2.2.2.2.2.1 X.2.2.2.2.2.2.2.2.1 X.2.2.2.2.2.2.2.2.2 H locs cells slots mc2 ms2 (F0 X.2.2.2.2.2.1 pc ls st0) (S.map (zv G)) (zNo a) (zXC G E M1 H.size) (zA G H.size)) :
    W X.1 X.2.1 X.2.2.1 X.2.2.2.1 X.2.2.2.2.1 X.2.2.2.2.2.1 X.2.2.2.2.2.2.1 X.2.2.2.2.2.2.2.1 X.2.2.2.2.2.2.2.2.1 X.2.2.2.2.2.2.2.2.2 H locs cells slots Q (F0 X.2.2.2.2.2.1 pc ls st0) := by
  intro T hT Xs
  rcases hr T hT Xs with ⟨v, st₀, t, T', L', h0, X', hL, e1, e2, hf, st⟩ | ⟨q, st₀, t, T', L', E9, ce, h0, X', hL, e1, e2, ⟨rfl, hw', hF⟩, hce, hcv, hcl, st⟩
  · exact hf.elim
  · obtain ⟨k1, k2, k3⟩ := vx_keep h0 e1 hS (fun q _ hq => zA_sub hS.1 hq) (fun q hq => zA_sub hS.1 hq) hL hF
    have hz : zW G (zA G X.2.2.2.2.1.heap.size) M1 T'.heap := by rw [e1]; exact zW_A hw' (fun q hq => zA_sub (Nat.le_trans (Nat.le_refl _) hS.1) hq)
    obtain ⟨t2, a1, b1⟩ := kx T'.heap (locs ++ L') ls q ce hz k3 hl (by rw [e1]; exact hce) hcv hcl T' rfl X'
    exact ⟨t2, st.trans a1, b1⟩
theorem zX_callV (h : zOk G X own cc nL) (hEx : zEx X.2.2.2.2.1) {D d : Nat} {mc ms mc2 ms2 : Nat} (hR : X.2.2.2.1 = zRk D mc ms) (hd : d < D) {l : Launch} (hlc : X.2.1 = l) {y : MethodName} {cc2 : ByteArray} {nL2 n ci idx o : Nat} {ret : Option FieldType} {As : List Value} {E : String} {M1 : zM} (hC : zCx l G d mc2 ms2 y cc2 nL2 ret (.ref o :: As) M E M1) (hT : zTgV y cc2 nL2 ret n ci) (hm : Cond.methodLink own idx y ∈ zT) (hs : zSh o = (ci + 1, 0)) (hci : ci < 19) (hn : As.length = n) (hroom : (S.map fun v => v.category).sum ≤ 8) (hdg : decode cc pc = .ok (.invokevirtual idx, 3))
    (kx : ∀ (H : Heap) (locs : List Loc) (ls : Array Slot) (q : Addr) (ce : Cell), zW G (zA G X.2.2.2.2.1.heap.size) M1 H → va_S (zA G X.2.2.2.2.1.heap.size) X.2.2.2.2.1.heap H locs → lv_has ls nL (zL G 0 L) → H[q]? = some ce → ce.vm = .none → X.2.2.2.2.1.vm.findClass E = some ce.cls → vx_W X.1 X.2.1 X.2.2.1 X.2.2.2.1 X.2.2.2.2.1 X.2.2.2.2.2.1 X.2.2.2.2.2.2.1 X.2.2.2.2.2.2.2.1 X.2.2.2.2.2.2.2.2.1 X.2.2.2.2.2.2.2.2.2 H locs (cells + mc2) (slots + ms2) Q (F0 X.2.2.2.2.2.1 pc ls (S.map (zv G))) q) (hcs : cells + mc2 ≤ mc ∧ slots + ms2 ≤ ms) : zV G X Q nL cells slots pc L (As.reverse ++ .ref o :: S) M := by
  intro H locs ls hW hS hl
  subst hlc
  obtain ⟨⟨t1, t2, t3, t4⟩, t5, t6, T, N, t7⟩ := hT
  obtain ⟨q, hq, -⟩ := zW_get hW (c := o) (by rw [hs]; exact Nat.succ_ne_zero ci) (zEn_o hs hci)
  have hgood : GoodIn zT (wsV own idx y.cls y (.code y cc2 nL2 ret :: zT)) := by
    intro w hw
    have hm : w ∈ zT := by
      unfold wsV at hw
      simp only [List.cons_append, List.nil_append, List.mem_cons] at hw
      rcases hw with rfl | rfl | rfl | rfl | rfl | hw
      · exact hm
      · exact t5
      · exact t6
      · exact t2
      · exact t1
      · exact hw
    exact ⟨hm, good_of_word (zTg w hm)⟩
  have e : ((As.reverse ++ .ref o :: S).map (zv G)) = (As.map (zv G)).reverse ++ .ref (G.1 o) :: S.map (zv G) := by simp [zv]
  rw [e]
  refine zX_go kx hS hl (vx_runV (Ts := zT) (As := As.map (zv G)) (n := n) ⟨h.1, h.2.1, h.2.2.1, h.2.2.2.1, h.2.2.2.2.1⟩ (hC H.size) (cwV n h.2.2.2.2.1 hgood rfl rfl rfl ⟨rfl, t4⟩ ⟨?_, ?_⟩) ⟨zPx_blind, va_recv h.2.2.2.2.2.1 hW.1 t7 hq, zPrx (As := .ref o :: As) (own2 := own) (cc2 := cc) h hEx hW hS⟩ rfl (by rw [List.length_map]; exact hn) hl.1 rfl (lv_room (by rw [zCat]; exact hroom)) hdg ⟨?_, ?_⟩)
  · rw [hR]; show d + 1 + 1 ≤ D + 1; omega
  · rw [hR]; show 8 + (nL2 + 11) + (100 * d + 100) ≤ 100 * D + 100; omega
  · rw [hR]; exact hcs.1
  · rw [hR]; exact hcs.2
theorem zX_cV0 (h : zOk G X own cc nL) (hEx : zEx X.2.2.2.2.1) {D d0 mc ms mc2 ms2 : Nat} (hR : X.2.2.2.1 = zRk D mc ms) {l : Launch} (hlc : X.2.1 = l) {E : String} {M1 : zM} (hQ : zQx G X mc ms E M1 = Q) (ht : ∀ x ∈ X.2.2.2.2.2.2.2.2.2.exceptionTable.toList, False) {y : MethodName} {cc2 : ByteArray} {nL2 n ci idx o : Nat} {ret : Option FieldType} (hdg : decode cc pc = .ok (.invokevirtual idx, 3)) (hC : zCx l G d0 mc2 ms2 y cc2 nL2 ret (.ref o :: []) M E M1) (hT : zTgV y cc2 nL2 ret n ci) (hn : 0 = n) (hm : Cond.methodLink own idx y ∈ zT) (hs : zSh o = (ci + 1, 0)) (hci : ci < 19 ∧ d0 < D) (hroom : (S.map fun v => v.category).sum ≤ 8) (hcs : cells + mc2 ≤ mc ∧ slots + ms2 ≤ ms) : zV G X Q nL cells slots pc L (.ref o :: S) M := zX_callV (As := []) h hEx hR hci.2 hlc hC hT hm hs hci.1 hn hroom hdg (fun H locs ls q ce hW hS hl hcell hv hcl => zX_out h hQ ht hW hS hcell hv hcl hcs) hcs
theorem zX_cV1 (h : zOk G X own cc nL) (hEx : zEx X.2.2.2.2.1) {D d0 mc ms mc2 ms2 : Nat} (hR : X.2.2.2.1 = zRk D mc ms) {l : Launch} (hlc : X.2.1 = l) {E : String} {M1 : zM} (hQ : zQx G X mc ms E M1 = Q) (ht : ∀ x ∈ X.2.2.2.2.2.2.2.2.2.exceptionTable.toList, False) {y : MethodName} {cc2 : ByteArray} {nL2 n ci idx o : Nat} {ret : Option FieldType} {v1 : Value} (hdg : decode cc pc = .ok (.invokevirtual idx, 3)) (hC : zCx l G d0 mc2 ms2 y cc2 nL2 ret (.ref o :: [v1]) M E M1) (hT : zTgV y cc2 nL2 ret n ci) (hn : 1 = n) (hm : Cond.methodLink own idx y ∈ zT) (hs : zSh o = (ci + 1, 0)) (hci : ci < 19 ∧ d0 < D) (hroom : (S.map fun v => v.category).sum ≤ 8) (hcs : cells + mc2 ≤ mc ∧ slots + ms2 ≤ ms) : zV G X Q nL cells slots pc L (v1 :: .ref o :: S) M := zX_callV (As := [v1]) h hEx hR hci.2 hlc hC hT hm hs hci.1 hn hroom hdg (fun H locs ls q ce hW hS hl hcell hv hcl => zX_out h hQ ht hW hS hcell hv hcl hcs) hcs
theorem zX_cV2 (h : zOk G X own cc nL) (hEx : zEx X.2.2.2.2.1) {D d0 mc ms mc2 ms2 : Nat} (hR : X.2.2.2.1 = zRk D mc ms) {l : Launch} (hlc : X.2.1 = l) {E : String} {M1 : zM} (hQ : zQx G X mc ms E M1 = Q) (ht : ∀ x ∈ X.2.2.2.2.2.2.2.2.2.exceptionTable.toList, False) {y : MethodName} {cc2 : ByteArray} {nL2 n ci idx o : Nat} {ret : Option FieldType} {v1 v2 : Value} (hdg : decode cc pc = .ok (.invokevirtual idx, 3)) (hC : zCx l G d0 mc2 ms2 y cc2 nL2 ret (.ref o :: [v1, v2]) M E M1) (hT : zTgV y cc2 nL2 ret n ci) (hn : 2 = n) (hm : Cond.methodLink own idx y ∈ zT) (hs : zSh o = (ci + 1, 0)) (hci : ci < 19 ∧ d0 < D) (hroom : (S.map fun v => v.category).sum ≤ 8) (hcs : cells + mc2 ≤ mc ∧ slots + ms2 ≤ ms) : zV G X Q nL cells slots pc L (v2 :: v1 :: .ref o :: S) M := zX_callV (As := [v1, v2]) h hEx hR hci.2 hlc hC hT hm hs hci.1 hn hroom hdg (fun H locs ls q ce hW hS hl hcell hv hcl => zX_out h hQ ht hW hS hcell hv hcl hcs) hcs
theorem zX_cV3 (h : zOk G X own cc nL) (hEx : zEx X.2.2.2.2.1) {D d0 mc ms mc2 ms2 : Nat} (hR : X.2.2.2.1 = zRk D mc ms) {l : Launch} (hlc : X.2.1 = l) {E : String} {M1 : zM} (hQ : zQx G X mc ms E M1 = Q) (ht : ∀ x ∈ X.2.2.2.2.2.2.2.2.2.exceptionTable.toList, False) {y : MethodName} {cc2 : ByteArray} {nL2 n ci idx o : Nat} {ret : Option FieldType} {v1 v2 v3 : Value} (hdg : decode cc pc = .ok (.invokevirtual idx, 3)) (hC : zCx l G d0 mc2 ms2 y cc2 nL2 ret (.ref o :: [v1, v2, v3]) M E M1) (hT : zTgV y cc2 nL2 ret n ci) (hn : 3 = n) (hm : Cond.methodLink own idx y ∈ zT) (hs : zSh o = (ci + 1, 0)) (hci : ci < 19 ∧ d0 < D) (hroom : (S.map fun v => v.category).sum ≤ 8) (hcs : cells + mc2 ≤ mc ∧ slots + ms2 ≤ ms) : zV G X Q nL cells slots pc L (v3 :: v2 :: v1 :: .ref o :: S) M := zX_callV (As := [v1, v2, v3]) h hEx hR hci.2 hlc hC hT hm hs hci.1 hn hroom hdg (fun H locs ls q ce hW hS hl hcell hv hcl => zX_out h hQ ht hW hS hcell hv hcl hcs) hcs
theorem zX_cV4 (h : zOk G X own cc nL) (hEx : zEx X.2.2.2.2.1) {D d0 mc ms mc2 ms2 : Nat} (hR : X.2.2.2.1 = zRk D mc ms) {l : Launch} (hlc : X.2.1 = l) {E : String} {M1 : zM} (hQ : zQx G X mc ms E M1 = Q) (ht : ∀ x ∈ X.2.2.2.2.2.2.2.2.2.exceptionTable.toList, False) {y : MethodName} {cc2 : ByteArray} {nL2 n ci idx o : Nat} {ret : Option FieldType} {v1 v2 v3 v4 : Value} (hdg : decode cc pc = .ok (.invokevirtual idx, 3)) (hC : zCx l G d0 mc2 ms2 y cc2 nL2 ret (.ref o :: [v1, v2, v3, v4]) M E M1) (hT : zTgV y cc2 nL2 ret n ci) (hn : 4 = n) (hm : Cond.methodLink own idx y ∈ zT) (hs : zSh o = (ci + 1, 0)) (hci : ci < 19 ∧ d0 < D) (hroom : (S.map fun v => v.category).sum ≤ 8) (hcs : cells + mc2 ≤ mc ∧ slots + ms2 ≤ ms) : zV G X Q nL cells slots pc L (v4 :: v3 :: v2 :: v1 :: .ref o :: S) M := zX_callV (As := [v1, v2, v3, v4]) h hEx hR hci.2 hlc hC hT hm hs hci.1 hn hroom hdg (fun H locs ls q ce hW hS hl hcell hv hcl => zX_out h hQ ht hW hS hcell hv hcl hcs) hcs
theorem zX_cV5 (h : zOk G X own cc nL) (hEx : zEx X.2.2.2.2.1) {D d0 mc ms mc2 ms2 : Nat} (hR : X.2.2.2.1 = zRk D mc ms) {l : Launch} (hlc : X.2.1 = l) {E : String} {M1 : zM} (hQ : zQx G X mc ms E M1 = Q) (ht : ∀ x ∈ X.2.2.2.2.2.2.2.2.2.exceptionTable.toList, False) {y : MethodName} {cc2 : ByteArray} {nL2 n ci idx o : Nat} {ret : Option FieldType} {v1 v2 v3 v4 v5 : Value} (hdg : decode cc pc = .ok (.invokevirtual idx, 3)) (hC : zCx l G d0 mc2 ms2 y cc2 nL2 ret (.ref o :: [v1, v2, v3, v4, v5]) M E M1) (hT : zTgV y cc2 nL2 ret n ci) (hn : 5 = n) (hm : Cond.methodLink own idx y ∈ zT) (hs : zSh o = (ci + 1, 0)) (hci : ci < 19 ∧ d0 < D) (hroom : (S.map fun v => v.category).sum ≤ 8) (hcs : cells + mc2 ≤ mc ∧ slots + ms2 ≤ ms) : zV G X Q nL cells slots pc L (v5 :: v4 :: v3 :: v2 :: v1 :: .ref o :: S) M := zX_callV (As := [v1, v2, v3, v4, v5]) h hEx hR hci.2 hlc hC hT hm hs hci.1 hn hroom hdg (fun H locs ls q ce hW hS hl hcell hv hcl => zX_out h hQ ht hW hS hcell hv hcl hcs) hcs
abbrev zIAE : String := "java/lang/IllegalArgumentException"
abbrev zNSE : String := "java/util/NoSuchElementException"
theorem zthr_need : zThr "OralOrders" 348 350 352 10 7 Bundle.six zIAE "another argument" := ⟨by decide +kernel, by
  have h : ∀ w ∈ Cond.classLink "OralOrders" 348 zIAE :: Cond.initialized zIAE :: vx_atSX "OralOrders" 352 zIAE 7 Bundle.six ["java/lang/RuntimeException", "java/lang/Exception"], ((w ∈ lw_tbl ∧ goodWord w = true) ∨ w ∈ zExL) ∧ vx_ot w = true := by decide +kernel
  exact fun w hw => ⟨(h w hw).1.imp List.mem_filter.mpr id, (h w hw).2⟩, by decide +kernel⟩
theorem zthr_such : zThr "OralOrders" 341 343 345 9 13 prog_31_method_4_code zNSE "no such member, path or value" := ⟨by decide +kernel, by
  have h : ∀ w ∈ Cond.classLink "OralOrders" 341 zNSE :: Cond.initialized zNSE :: vx_atSX "OralOrders" 345 zNSE 13 prog_31_method_4_code ["java/lang/RuntimeException", "java/lang/Exception"], ((w ∈ lw_tbl ∧ goodWord w = true) ∨ w ∈ zExL) ∧ vx_ot w = true := by decide +kernel
  exact fun w hw => ⟨(h w hw).1.imp List.mem_filter.mpr id, (h w hw).2⟩, by decide +kernel⟩
end zX
