section zBuild2
variable {G : zG} {X : zX} {Q : State → Prop} {own : String} {cc : ByteArray} {base cnt nL cells slots pc : Nat} {L S : List Value} {M : zM}
def zNeL : List (String × Nat × MethodName × String) := [("OralOrders", 9, yX7_init, "OralOrders"), ("OralOrders$Reader", 17, yX4_init, "OralOrders"), ("OralOrders", 18, yX2_init, "OralOrders"), ("OralOrders$Group", 11, yX4_init, "OralOrders"), ("OralOrders", 28, yX6_init, "OralOrders"), ("OralOrders", 38, yX8_init, "OralOrders"), ("OralOrders", 45, yX3_init, "OralOrders"), ("OralOrders", 52, yX0_init, "OralOrders"), ("OralOrders", 59, yX5_init, "OralOrders")]
def zAo (U : State) : Prop := ∀ t ∈ [(.int : FieldType), .boolean, .array .int, .array (.array .int)], ∃ comp c k, U.vm.findClass (FieldType.array t).toString = some comp ∧ U.vm.classes[c]? = some k ∧ k.kind = .array comp (.array t) ∧ U.vm.findClass ("[" ++ (FieldType.array t).toString) = some c
theorem zAo.alike {s U : State} (ha : s.vm.Alike U.vm) (h : zAo s) : zAo U := by
  intro t ht
  obtain ⟨comp, c, k, h1, h2, h3, h4⟩ := h t ht
  obtain ⟨k2, h5, h6⟩ := ha.2.2 _ _ h2
  exact ⟨comp, c, k2, by rw [ha.findClass]; exact h1, h5, by rw [h6]; exact h3, by rw [ha.findClass]; exact h4⟩
def zNe (U : State) : Prop := (∀ q ∈ zNeL, va_Nw (.methodLinkNest q.1 q.2.1 q.2.2.1 q.2.2.2) U) ∧ zAo U
theorem zNe.warm {s U : State} (hW : s.WarmedH U.vm) (h : zNe s) : zNe U := ⟨fun q hq => va_Nw.warmM hW (h.1 q hq), h.2.alike hW.alike⟩
theorem zNe_tb : ∀ q ∈ zNeL, Cond.methodLinkNest q.1 q.2.1 q.2.2.1 q.2.2.2 ∈ lw_tbl := by decide +kernel
theorem zFsP_at {o ci k code : Nat} (hk : (zFkL.getD ci [])[k]? = some code) : (zFsP G M o ci)[k]? = some (zFvP G M o k code) := by
  unfold zFsP
  rw [List.getElem?_mapIdx, hk]
  rfl
theorem zFsP_set {o ci k code : Nat} {x : Int32} {v : Value} (hk : (zFkL.getD ci [])[k]? = some code) (hv : zFvP G (zw M o k x) o k code = v) : (zFsP G M o ci).set k v = zFsP G (zw M o k x) o ci := by
  apply List.ext_getElem?
  intro j
  by_cases hj : j = k
  · subst hj
    rw [zFsP_at hk, hv, List.getElem?_set_self]
    unfold zFsP
    rw [List.length_mapIdx]
    exact (List.getElem?_eq_some_iff.mp hk).1
  · rw [List.getElem?_set_ne (Ne.symm hj)]
    unfold zFsP
    rw [List.getElem?_mapIdx, List.getElem?_mapIdx]
    congr 1
    funext cd
    have hz : (zw M o k x).1 o j = M.1 o j := zw_ne (Or.inr hj)
    match cd with
    | 0 => show Value.int _ = Value.int _; rw [hz]
    | 1 => show (if _ then Value.null else _) = (if _ then Value.null else _); rw [hz]
    | 2 => show (if _ then Value.null else _) = (if _ then Value.null else _); rw [hz]
    | _ + 3 => show (if _ then Value.null else _) = (if _ then Value.null else _); rw [hz]
theorem zB_get (h : zOkB G base X own cc nL) {idx ci k o code : Nat} {v : Value} (d : decode cc pc = .ok (.getfield idx, 3)) (hF : zF own idx ci k) (hh : zHas cnt o) (hs : zSh o = (ci + 1, 0)) (hk : (zFkL.getD ci [])[k]? = some code) (hv : zFvP G M o k code = zv G v) (kk : zB G X Q base cnt nL cells slots (pc + 3) L (v :: S) M) : zB G X Q base cnt nL cells slots pc L (.ref o :: S) M := by
  intro H locs ls hW hS hl
  obtain ⟨C, T, N, h1, h2, h3, h4, h5⟩ := hF
  obtain ⟨q, hq, -⟩ := zWB_get hW hh (zEnP_o hs h4)
  refine va_get (cl := vwCl) (ref := (T k).1) h.1 h.2.1 h.2.2.2.2.1 (fun w hw => zUin _ (List.mem_of_getElem? h1) w hw) h.2.2.2.1 h.2.2.2.2.2.1 hW.1 q hq h1 k h2 (h.2.2.2.2.1 _ h5) (fun x hx => hx) (v := zv G v) ?_ d (kk H locs ls hW hS hl)
  rw [zFsP_at hk, hv]
theorem zB_put (h : zOkB G base X own cc nL) {idx ci k o code : Nat} {x : Int32} {v : Value} {ty : FieldType} (d : decode cc pc = .ok (.putfield idx, 3)) (hF : zF own idx ci k) (hh : zHas cnt o) (hs : zSh o = (ci + 1, 0)) (hk : (zFkL.getD ci [])[k]? = some code) (hv : zFvP G (zw M o k x) o k code = zv G v) (hty : ∀ q : vw_C, vwCl[ci]? = some q → (∀ a, a < q.2.2 → ∃ t, parseFieldDescriptor (q.2.1 a).2.2.1 = some t) ∧ (∀ a, a < q.2.2 → ∀ b, b < q.2.2 → a ≠ b → (q.2.1 a).2.1 ≠ (q.2.1 b).2.1) ∧ (q.2.1 k).2.2.2 = false ∧ parseFieldDescriptor (q.2.1 k).2.2.1 = some ty) (hn : narrow ty (zv G v) = zv G v) (hfit : fits ty (zv G v) = true) (kk : zB G X Q base cnt nL cells slots (pc + 3) L S (zw M o k x)) : zB G X Q base cnt nL cells slots pc L (v :: .ref o :: S) M := by
  intro H locs ls hW hS hl
  obtain ⟨C, T, N, h1, h2, h3, h4, h5⟩ := hF
  obtain ⟨q, hq, hset⟩ := zWB_get hW hh (zEnP_o hs h4)
  obtain ⟨t1, t2, t3, t4⟩ := hty _ h1
  have hex : ∃ f : Nat → FieldType, ∀ a, a < N → parseFieldDescriptor (T a).2.2.1 = some (f a) := by
    refine ⟨fun a => ((parseFieldDescriptor (T a).2.2.1).getD .int), fun a ha => ?_⟩
    obtain ⟨t, ht⟩ := t1 a ha
    have ht : parseFieldDescriptor (T a).2.2.1 = some t := ht
    show parseFieldDescriptor (T a).2.2.1 = some ((parseFieldDescriptor (T a).2.2.1).getD .int)
    rw [ht]; rfl
  obtain ⟨f, hf⟩ := hex
  refine va_put (cl := vwCl) (ref := (T k).1) h.1 h.2.1 h.2.2.2.2.1 (fun w hw => zUin _ (List.mem_of_getElem? h1) w hw) f hf t2 h.2.2.2.1 h.2.2.2.2.2.1 hW.1 hW.2 hS q hq h1 k h2 (h.2.2.2.2.1 _ h5) (fun x hx => hx) t3 t4 hn hfit ?_ d (fun H1 locs1 hP hD hS1 => kk H1 locs1 ls (hset _ _ H1 ?_ (fun a ha => zw_othP ha) hP hD) hS1 hl)
  · unfold zFsP
    rw [List.length_mapIdx]
    exact (List.getElem?_eq_some_iff.mp hk).1
  · rw [zEnP_o hs h4, zFsP_set hk hv]
theorem zB_putF (h : zOkB G base X own cc nL) (hin : X.2.2.2.2.2.2.2.2.1.name = "<init>") {idx ci k o code : Nat} {x : Int32} {v : Value} {ty : FieldType} (d : decode cc pc = .ok (.putfield idx, 3)) (hF : zF own idx ci k) (hh : zHas cnt o) (hs : zSh o = (ci + 1, 0)) (hk : (zFkL.getD ci [])[k]? = some code) (hv : zFvP G (zw M o k x) o k code = zv G v) (hty : ∀ q : vw_C, vwCl[ci]? = some q → (∀ a, a < q.2.2 → ∃ t, parseFieldDescriptor (q.2.1 a).2.2.1 = some t) ∧ (∀ a, a < q.2.2 → ∀ b, b < q.2.2 → a ≠ b → (q.2.1 a).2.1 ≠ (q.2.1 b).2.1) ∧ (q.2.1 k).2.2.2 = true ∧ (q.2.1 k).1 = own ∧ parseFieldDescriptor (q.2.1 k).2.2.1 = some ty) (hn : narrow ty (zv G v) = zv G v) (hfit : fits ty (zv G v) = true) (kk : zB G X Q base cnt nL cells slots (pc + 3) L S (zw M o k x)) : zB G X Q base cnt nL cells slots pc L (v :: .ref o :: S) M := by
  intro H locs ls hW hS hl
  obtain ⟨C, T, N, h1, h2, h3, h4, h5⟩ := hF
  obtain ⟨q, hq, hset⟩ := zWB_get hW hh (zEnP_o hs h4)
  obtain ⟨t1, t2, t3, t5, t4⟩ := hty _ h1
  have hex : ∃ f : Nat → FieldType, ∀ a, a < N → parseFieldDescriptor (T a).2.2.1 = some (f a) := by
    refine ⟨fun a => ((parseFieldDescriptor (T a).2.2.1).getD .int), fun a ha => ?_⟩
    obtain ⟨t, ht⟩ := t1 a ha
    have ht : parseFieldDescriptor (T a).2.2.1 = some t := ht
    show parseFieldDescriptor (T a).2.2.1 = some ((parseFieldDescriptor (T a).2.2.1).getD .int)
    rw [ht]; rfl
  obtain ⟨f, hf⟩ := hex
  refine va_putF (cl := vwCl) (ref := (T k).1) h.1 h.2.1 h.2.2.2.2.1 (fun w hw => zUin _ (List.mem_of_getElem? h1) w hw) f hf t2 h.2.2.2.1 h.2.2.2.2.2.1 hW.1 hW.2 hS q hq h1 k h2 (h.2.2.2.2.1 _ h5) (fun x hx => hx) t3 hin t5 t4 hn hfit ?_ d (fun H1 locs1 hP hD hS1 => kk H1 locs1 ls (hset _ _ H1 ?_ (fun a ha => zw_othP ha) hP hD) hS1 hl)
  · unfold zFsP
    rw [List.length_mapIdx]
    exact (List.getElem?_eq_some_iff.mp hk).1
  · rw [zEnP_o hs h4, zFsP_set hk hv]
def zFpF (own : String) (ci k : Nat) (ty : FieldType) : Prop := ∀ q : vw_C, vwCl[ci]? = some q → (∀ a, a < q.2.2 → ∃ t, parseFieldDescriptor (q.2.1 a).2.2.1 = some t) ∧ (∀ a, a < q.2.2 → ∀ b, b < q.2.2 → a ≠ b → (q.2.1 a).2.1 ≠ (q.2.1 b).2.1) ∧ (q.2.1 k).2.2.2 = true ∧ (q.2.1 k).1 = own ∧ parseFieldDescriptor (q.2.1 k).2.2.1 = some ty
theorem zFpF_of {own : String} {ci k : Nat} {ty : FieldType} (C : String) (T : u_T) (N : Nat) (tyN : Nat → FieldType) (h : vwCl[ci]? = some (C, T, N)) (h1 : ∀ a, a < N → parseFieldDescriptor (T a).2.2.1 = some (tyN a)) (h2 : ∀ a, a < N → ∀ b, b < N → a ≠ b → (T a).2.1 ≠ (T b).2.1) (h3 : (T k).2.2.2 = true ∧ (T k).1 = own ∧ parseFieldDescriptor (T k).2.2.1 = some ty) : zFpF own ci k ty := by
  intro q hq
  have e : q = (C, T, N) := Option.some.inj (hq.symm.trans h)
  subst e
  exact ⟨fun a ha => ⟨_, h1 a ha⟩, h2, h3⟩
theorem zB_geti (h : zOkB G base X own cc nL) {idx ci k o : Nat} {x : Int32} (d : decode cc pc = .ok (.getfield idx, 3)) (hF : zF own idx ci k) (hh : zHas cnt o) (hs : zSh o = (ci + 1, 0)) (hk : (zFkL.getD ci [])[k]? = some 0) (hv : M.1 o k = x) (kk : zB G X Q base cnt nL cells slots (pc + 3) L (.int x :: S) M) : zB G X Q base cnt nL cells slots pc L (.ref o :: S) M := zB_get h d hF hh hs hk (v := .int x) (by show Value.int (M.1 o k) = _; rw [hv]; rfl) kk
theorem zB_geta (h : zOkB G base X own cc nL) {idx ci k o : Nat} (d : decode cc pc = .ok (.getfield idx, 3)) (hF : zF own idx ci k) (hh : zHas cnt o) (hs : zSh o = (ci + 1, 0)) (hk : (zFkL.getD ci [])[k]? = some 1) (hv : M.1 o k ≠ 0) (kk : zB G X Q base cnt nL cells slots (pc + 3) L (.ref (o + 1 + k) :: S) M) : zB G X Q base cnt nL cells slots pc L (.ref o :: S) M := zB_get h d hF hh hs hk (v := .ref (o + 1 + k)) (if_neg hv) kk
theorem zB_getp (h : zOkB G base X own cc nL) {idx ci k o a : Nat} (d : decode cc pc = .ok (.getfield idx, 3)) (hF : zF own idx ci k) (hh : zHas cnt o) (hs : zSh o = (ci + 1, 0)) (hk : (zFkL.getD ci [])[k]? = some 2) (hv : M.1 o k = nI a) (ha : a < 2 ^ 31 ∧ 0 < a) (kk : zB G X Q base cnt nL cells slots (pc + 3) L (.ref a :: S) M) : zB G X Q base cnt nL cells slots pc L (.ref o :: S) M := zB_get h d hF hh hs hk (v := .ref a) (by show (if M.1 o k = 0 then Value.null else Value.ref (G.1 (M.1 o k).toNatClampNeg)) = _; rw [hv, if_neg (nI_ne0 ha.2 ha.1), nI_clamp ha.1]; rfl) kk
theorem zB_getc (h : zOkB G base X own cc nL) {idx ci k o a : Nat} (d : decode cc pc = .ok (.getfield idx, 3)) (hF : zF own idx ci k) (hh : zHas cnt o) (hs : zSh o = (ci + 1, 0)) (hk : (zFkL.getD ci [])[k]? = some (a + 3)) (hv : M.1 o k ≠ 0) (kk : zB G X Q base cnt nL cells slots (pc + 3) L (.ref a :: S) M) : zB G X Q base cnt nL cells slots pc L (.ref o :: S) M := zB_get h d hF hh hs hk (v := .ref a) (if_neg hv) kk
theorem zB_puti (h : zOkB G base X own cc nL) {idx ci k o : Nat} {x : Int32} (d : decode cc pc = .ok (.putfield idx, 3)) (hF : zF own idx ci k) (hp : zFp ci k .int) (hh : zHas cnt o) (hs : zSh o = (ci + 1, 0)) (hk : (zFkL.getD ci [])[k]? = some 0) (kk : zB G X Q base cnt nL cells slots (pc + 3) L S (zw M o k x)) : zB G X Q base cnt nL cells slots pc L (.int x :: .ref o :: S) M := zB_put h d hF hh hs hk (v := .int x) (ty := .int) (by show Value.int ((zw M o k x).1 o k) = _; rw [zw_same]; rfl) hp rfl rfl kk
theorem zB_putp (h : zOkB G base X own cc nL) {idx ci k o a : Nat} {nm : String} (d : decode cc pc = .ok (.putfield idx, 3)) (hF : zF own idx ci k) (hp : zFp ci k (.object nm)) (hh : zHas cnt o) (hs : zSh o = (ci + 1, 0)) (hk : (zFkL.getD ci [])[k]? = some 2) (ha : a < 2 ^ 31 ∧ 0 < a) (kk : zB G X Q base cnt nL cells slots (pc + 3) L S (zw M o k (nI a))) : zB G X Q base cnt nL cells slots pc L (.ref a :: .ref o :: S) M := zB_put h d hF hh hs hk (v := .ref a) (ty := .object nm) (by show (if (zw M o k (nI a)).1 o k = 0 then Value.null else Value.ref (G.1 ((zw M o k (nI a)).1 o k).toNatClampNeg)) = _; rw [zw_same, if_neg (nI_ne0 ha.2 ha.1), nI_clamp ha.1]; rfl) hp rfl rfl kk
theorem zB_puta (h : zOkB G base X own cc nL) (hin : X.2.2.2.2.2.2.2.2.1.name = "<init>") {idx ci k o : Nat} {ty : FieldType} (d : decode cc pc = .ok (.putfield idx, 3)) (hF : zF own idx ci k) (hp : zFpF own ci k (.array ty)) (hh : zHas cnt o) (hs : zSh o = (ci + 1, 0)) (hk : (zFkL.getD ci [])[k]? = some 1) (kk : zB G X Q base cnt nL cells slots (pc + 3) L S (zw M o k 1)) : zB G X Q base cnt nL cells slots pc L (.ref (o + 1 + k) :: .ref o :: S) M := zB_putF h hin d hF hh hs hk (v := .ref (o + 1 + k)) (ty := .array ty) (x := 1) (by show (if (zw M o k 1).1 o k = 0 then Value.null else Value.ref (G.1 (o + 1 + k))) = _; rw [zw_same]; rfl) hp rfl rfl kk
theorem zB_putc (h : zOkB G base X own cc nL) (hin : X.2.2.2.2.2.2.2.2.1.name = "<init>") {idx ci k o a : Nat} {nm : String} (d : decode cc pc = .ok (.putfield idx, 3)) (hF : zF own idx ci k) (hp : zFpF own ci k (.object nm)) (hh : zHas cnt o) (hs : zSh o = (ci + 1, 0)) (hk : (zFkL.getD ci [])[k]? = some (a + 3)) (kk : zB G X Q base cnt nL cells slots (pc + 3) L S (zw M o k 1)) : zB G X Q base cnt nL cells slots pc L (.ref a :: .ref o :: S) M := zB_putF h hin d hF hh hs hk (v := .ref a) (ty := .object nm) (x := 1) (by show (if (zw M o k 1).1 o k = 0 then Value.null else Value.ref (G.1 a)) = _; rw [zw_same]; rfl) hp rfl rfl kk
theorem zpF_0_2 : zFpF RX0 0 2 (.array .int) := zFpF_of RX0 TX0 13 tyX0 rfl tyX0_ok nmX0 ⟨rfl, rfl, by decide +kernel⟩
theorem zpF_0_3 : zFpF RX0 0 3 (.array .int) := zFpF_of RX0 TX0 13 tyX0 rfl tyX0_ok nmX0 ⟨rfl, rfl, by decide +kernel⟩
theorem zpF_0_4 : zFpF RX0 0 4 (.array .int) := zFpF_of RX0 TX0 13 tyX0 rfl tyX0_ok nmX0 ⟨rfl, rfl, by decide +kernel⟩
theorem zpF_0_5 : zFpF RX0 0 5 (.array .int) := zFpF_of RX0 TX0 13 tyX0 rfl tyX0_ok nmX0 ⟨rfl, rfl, by decide +kernel⟩
theorem zpF_0_6 : zFpF RX0 0 6 (.array .int) := zFpF_of RX0 TX0 13 tyX0 rfl tyX0_ok nmX0 ⟨rfl, rfl, by decide +kernel⟩
theorem zpF_0_9 : zFpF RX0 0 9 (.array .int) := zFpF_of RX0 TX0 13 tyX0 rfl tyX0_ok nmX0 ⟨rfl, rfl, by decide +kernel⟩
theorem zpF_0_10 : zFpF RX0 0 10 (.array .int) := zFpF_of RX0 TX0 13 tyX0 rfl tyX0_ok nmX0 ⟨rfl, rfl, by decide +kernel⟩
theorem zpF_0_11 : zFpF RX0 0 11 (.array .int) := zFpF_of RX0 TX0 13 tyX0 rfl tyX0_ok nmX0 ⟨rfl, rfl, by decide +kernel⟩
theorem zpF_0_12 : zFpF RX0 0 12 (.array .int) := zFpF_of RX0 TX0 13 tyX0 rfl tyX0_ok nmX0 ⟨rfl, rfl, by decide +kernel⟩
theorem zpF_1_4 : zFpF RX2 1 4 (.array .int) := zFpF_of RX2 TX2 5 tyX2 rfl tyX2_ok nmX2 ⟨rfl, rfl, by decide +kernel⟩
theorem zpF_2_2 : zFpF RX3 2 2 (.array .int) := zFpF_of RX3 TX3 7 tyX3 rfl tyX3_ok nmX3 ⟨rfl, rfl, by decide +kernel⟩
theorem zpF_2_3 : zFpF RX3 2 3 (.array .int) := zFpF_of RX3 TX3 7 tyX3 rfl tyX3_ok nmX3 ⟨rfl, rfl, by decide +kernel⟩
theorem zpF_2_4 : zFpF RX3 2 4 (.array .int) := zFpF_of RX3 TX3 7 tyX3 rfl tyX3_ok nmX3 ⟨rfl, rfl, by decide +kernel⟩
theorem zpF_2_5 : zFpF RX3 2 5 (.array .int) := zFpF_of RX3 TX3 7 tyX3 rfl tyX3_ok nmX3 ⟨rfl, rfl, by decide +kernel⟩
theorem zpF_2_6 : zFpF RX3 2 6 (.array .int) := zFpF_of RX3 TX3 7 tyX3 rfl tyX3_ok nmX3 ⟨rfl, rfl, by decide +kernel⟩
theorem zpF_3_1 : zFpF RX4 3 1 (.array .int) := zFpF_of RX4 TX4 8 tyX4 rfl tyX4_ok nmX4 ⟨rfl, rfl, by decide +kernel⟩
theorem zpF_3_2 : zFpF RX4 3 2 (.array .int) := zFpF_of RX4 TX4 8 tyX4 rfl tyX4_ok nmX4 ⟨rfl, rfl, by decide +kernel⟩
theorem zpF_3_3 : zFpF RX4 3 3 (.array .int) := zFpF_of RX4 TX4 8 tyX4 rfl tyX4_ok nmX4 ⟨rfl, rfl, by decide +kernel⟩
theorem zpF_3_4 : zFpF RX4 3 4 (.array .int) := zFpF_of RX4 TX4 8 tyX4 rfl tyX4_ok nmX4 ⟨rfl, rfl, by decide +kernel⟩
theorem zpF_3_5 : zFpF RX4 3 5 (.array .int) := zFpF_of RX4 TX4 8 tyX4 rfl tyX4_ok nmX4 ⟨rfl, rfl, by decide +kernel⟩
theorem zpF_3_6 : zFpF RX4 3 6 (.array .int) := zFpF_of RX4 TX4 8 tyX4 rfl tyX4_ok nmX4 ⟨rfl, rfl, by decide +kernel⟩
theorem zpF_3_7 : zFpF RX4 3 7 (.array .int) := zFpF_of RX4 TX4 8 tyX4 rfl tyX4_ok nmX4 ⟨rfl, rfl, by decide +kernel⟩
theorem zpF_4_0 : zFpF RX5 4 0 (.array .float) := zFpF_of RX5 TX5 3 tyX5 rfl tyX5_ok nmX5 ⟨rfl, rfl, by decide +kernel⟩
theorem zpF_4_1 : zFpF RX5 4 1 (.array .float) := zFpF_of RX5 TX5 3 tyX5 rfl tyX5_ok nmX5 ⟨rfl, rfl, by decide +kernel⟩
theorem zpF_4_2 : zFpF RX5 4 2 (.array .float) := zFpF_of RX5 TX5 3 tyX5 rfl tyX5_ok nmX5 ⟨rfl, rfl, by decide +kernel⟩
theorem zpF_5_3 : zFpF RX6 5 3 (.array .int) := zFpF_of RX6 TX6 20 tyX6 rfl tyX6_ok nmX6 ⟨rfl, rfl, by decide +kernel⟩
theorem zpF_5_4 : zFpF RX6 5 4 (.array .int) := zFpF_of RX6 TX6 20 tyX6 rfl tyX6_ok nmX6 ⟨rfl, rfl, by decide +kernel⟩
theorem zpF_5_5 : zFpF RX6 5 5 (.array .int) := zFpF_of RX6 TX6 20 tyX6 rfl tyX6_ok nmX6 ⟨rfl, rfl, by decide +kernel⟩
theorem zpF_5_6 : zFpF RX6 5 6 (.array .int) := zFpF_of RX6 TX6 20 tyX6 rfl tyX6_ok nmX6 ⟨rfl, rfl, by decide +kernel⟩
theorem zpF_5_12 : zFpF RX6 5 12 (.array .int) := zFpF_of RX6 TX6 20 tyX6 rfl tyX6_ok nmX6 ⟨rfl, rfl, by decide +kernel⟩
theorem zpF_5_13 : zFpF RX6 5 13 (.array .boolean) := zFpF_of RX6 TX6 20 tyX6 rfl tyX6_ok nmX6 ⟨rfl, rfl, by decide +kernel⟩
theorem zpF_5_14 : zFpF RX6 5 14 (.array .int) := zFpF_of RX6 TX6 20 tyX6 rfl tyX6_ok nmX6 ⟨rfl, rfl, by decide +kernel⟩
theorem zpF_5_15 : zFpF RX6 5 15 (.array .int) := zFpF_of RX6 TX6 20 tyX6 rfl tyX6_ok nmX6 ⟨rfl, rfl, by decide +kernel⟩
theorem zpF_5_16 : zFpF RX6 5 16 (.array .int) := zFpF_of RX6 TX6 20 tyX6 rfl tyX6_ok nmX6 ⟨rfl, rfl, by decide +kernel⟩
theorem zpF_5_17 : zFpF RX6 5 17 (.array .int) := zFpF_of RX6 TX6 20 tyX6 rfl tyX6_ok nmX6 ⟨rfl, rfl, by decide +kernel⟩
theorem zpF_5_18 : zFpF RX6 5 18 (.array .int) := zFpF_of RX6 TX6 20 tyX6 rfl tyX6_ok nmX6 ⟨rfl, rfl, by decide +kernel⟩
theorem zpF_5_19 : zFpF RX6 5 19 (.array .int) := zFpF_of RX6 TX6 20 tyX6 rfl tyX6_ok nmX6 ⟨rfl, rfl, by decide +kernel⟩
theorem zpF_6_3 : zFpF RX7 6 3 (.array .int) := zFpF_of RX7 TX7 8 tyX7 rfl tyX7_ok nmX7 ⟨rfl, rfl, by decide +kernel⟩
theorem zpF_7_4 : zFpF RX8 7 4 (.array .int) := zFpF_of RX8 TX8 12 tyX8 rfl tyX8_ok nmX8 ⟨rfl, rfl, by decide +kernel⟩
theorem zpF_7_5 : zFpF RX8 7 5 (.array .int) := zFpF_of RX8 TX8 12 tyX8 rfl tyX8_ok nmX8 ⟨rfl, rfl, by decide +kernel⟩
theorem zpF_7_6 : zFpF RX8 7 6 (.array .int) := zFpF_of RX8 TX8 12 tyX8 rfl tyX8_ok nmX8 ⟨rfl, rfl, by decide +kernel⟩
theorem zpF_7_8 : zFpF RX8 7 8 (.array .int) := zFpF_of RX8 TX8 12 tyX8 rfl tyX8_ok nmX8 ⟨rfl, rfl, by decide +kernel⟩
theorem zpF_7_9 : zFpF RX8 7 9 (.array .int) := zFpF_of RX8 TX8 12 tyX8 rfl tyX8_ok nmX8 ⟨rfl, rfl, by decide +kernel⟩
theorem zpF_7_10 : zFpF RX8 7 10 (.array .int) := zFpF_of RX8 TX8 12 tyX8 rfl tyX8_ok nmX8 ⟨rfl, rfl, by decide +kernel⟩
theorem zpF_7_11 : zFpF RX8 7 11 (.array .int) := zFpF_of RX8 TX8 12 tyX8 rfl tyX8_ok nmX8 ⟨rfl, rfl, by decide +kernel⟩
theorem zpF_8_9 : zFpF RX10 8 9 (.array .int) := zFpF_of RX10 TX10 12 tyX10 rfl tyX10_ok nmX10 ⟨rfl, rfl, by decide +kernel⟩
theorem zpF_9_1 : zFpF RX11 9 1 (.array .int) := zFpF_of RX11 TX11 64 tyX11 rfl tyX11_ok nmX11 ⟨rfl, rfl, by decide +kernel⟩
theorem zpF_9_8 : zFpF RX11 9 8 (.array .int) := zFpF_of RX11 TX11 64 tyX11 rfl tyX11_ok nmX11 ⟨rfl, rfl, by decide +kernel⟩
theorem zpF_9_12 : zFpF RX11 9 12 (.array .int) := zFpF_of RX11 TX11 64 tyX11 rfl tyX11_ok nmX11 ⟨rfl, rfl, by decide +kernel⟩
theorem zpF_9_13 : zFpF RX11 9 13 (.array (.array .int)) := zFpF_of RX11 TX11 64 tyX11 rfl tyX11_ok nmX11 ⟨rfl, rfl, by decide +kernel⟩
theorem zpF_9_14 : zFpF RX11 9 14 (.array (.array (.array (.array .int)))) := zFpF_of RX11 TX11 64 tyX11 rfl tyX11_ok nmX11 ⟨rfl, rfl, by decide +kernel⟩
theorem zpF_9_20 : zFpF RX11 9 20 (.array (.array .int)) := zFpF_of RX11 TX11 64 tyX11 rfl tyX11_ok nmX11 ⟨rfl, rfl, by decide +kernel⟩
theorem zpF_9_21 : zFpF RX11 9 21 (.array (.array .boolean)) := zFpF_of RX11 TX11 64 tyX11 rfl tyX11_ok nmX11 ⟨rfl, rfl, by decide +kernel⟩
theorem zpF_9_22 : zFpF RX11 9 22 (.array (.array .int)) := zFpF_of RX11 TX11 64 tyX11 rfl tyX11_ok nmX11 ⟨rfl, rfl, by decide +kernel⟩
theorem zpF_9_23 : zFpF RX11 9 23 (.array .int) := zFpF_of RX11 TX11 64 tyX11 rfl tyX11_ok nmX11 ⟨rfl, rfl, by decide +kernel⟩
theorem zpF_9_27 : zFpF RX11 9 27 (.array .int) := zFpF_of RX11 TX11 64 tyX11 rfl tyX11_ok nmX11 ⟨rfl, rfl, by decide +kernel⟩
theorem zpF_9_29 : zFpF RX11 9 29 (.array .int) := zFpF_of RX11 TX11 64 tyX11 rfl tyX11_ok nmX11 ⟨rfl, rfl, by decide +kernel⟩
theorem zpF_9_30 : zFpF RX11 9 30 (.array .int) := zFpF_of RX11 TX11 64 tyX11 rfl tyX11_ok nmX11 ⟨rfl, rfl, by decide +kernel⟩
theorem zpF_9_31 : zFpF RX11 9 31 (.array .int) := zFpF_of RX11 TX11 64 tyX11 rfl tyX11_ok nmX11 ⟨rfl, rfl, by decide +kernel⟩
theorem zpF_9_32 : zFpF RX11 9 32 (.array .int) := zFpF_of RX11 TX11 64 tyX11 rfl tyX11_ok nmX11 ⟨rfl, rfl, by decide +kernel⟩
theorem zpF_9_33 : zFpF RX11 9 33 (.array .int) := zFpF_of RX11 TX11 64 tyX11 rfl tyX11_ok nmX11 ⟨rfl, rfl, by decide +kernel⟩
theorem zpF_9_34 : zFpF RX11 9 34 (.array (.array .int)) := zFpF_of RX11 TX11 64 tyX11 rfl tyX11_ok nmX11 ⟨rfl, rfl, by decide +kernel⟩
theorem zpF_9_35 : zFpF RX11 9 35 (.array (.array .int)) := zFpF_of RX11 TX11 64 tyX11 rfl tyX11_ok nmX11 ⟨rfl, rfl, by decide +kernel⟩
theorem zpF_9_36 : zFpF RX11 9 36 (.array (.array .int)) := zFpF_of RX11 TX11 64 tyX11 rfl tyX11_ok nmX11 ⟨rfl, rfl, by decide +kernel⟩
theorem zpF_9_37 : zFpF RX11 9 37 (.array (.array .int)) := zFpF_of RX11 TX11 64 tyX11 rfl tyX11_ok nmX11 ⟨rfl, rfl, by decide +kernel⟩
theorem zpF_9_42 : zFpF RX11 9 42 (.array .int) := zFpF_of RX11 TX11 64 tyX11 rfl tyX11_ok nmX11 ⟨rfl, rfl, by decide +kernel⟩
theorem zpF_9_43 : zFpF RX11 9 43 (.array .int) := zFpF_of RX11 TX11 64 tyX11 rfl tyX11_ok nmX11 ⟨rfl, rfl, by decide +kernel⟩
theorem zpF_9_44 : zFpF RX11 9 44 (.array .int) := zFpF_of RX11 TX11 64 tyX11 rfl tyX11_ok nmX11 ⟨rfl, rfl, by decide +kernel⟩
theorem zpF_9_45 : zFpF RX11 9 45 (.array .int) := zFpF_of RX11 TX11 64 tyX11 rfl tyX11_ok nmX11 ⟨rfl, rfl, by decide +kernel⟩
theorem zpF_9_46 : zFpF RX11 9 46 (.array .int) := zFpF_of RX11 TX11 64 tyX11 rfl tyX11_ok nmX11 ⟨rfl, rfl, by decide +kernel⟩
theorem zpF_9_49 : zFpF RX11 9 49 (.array (.array .int)) := zFpF_of RX11 TX11 64 tyX11 rfl tyX11_ok nmX11 ⟨rfl, rfl, by decide +kernel⟩
theorem zpF_9_50 : zFpF RX11 9 50 (.array (.array .int)) := zFpF_of RX11 TX11 64 tyX11 rfl tyX11_ok nmX11 ⟨rfl, rfl, by decide +kernel⟩
theorem zpF_9_51 : zFpF RX11 9 51 (.array (.array .boolean)) := zFpF_of RX11 TX11 64 tyX11 rfl tyX11_ok nmX11 ⟨rfl, rfl, by decide +kernel⟩
theorem zpF_9_52 : zFpF RX11 9 52 (.array (.array .boolean)) := zFpF_of RX11 TX11 64 tyX11 rfl tyX11_ok nmX11 ⟨rfl, rfl, by decide +kernel⟩
theorem zpF_9_53 : zFpF RX11 9 53 (.array .int) := zFpF_of RX11 TX11 64 tyX11 rfl tyX11_ok nmX11 ⟨rfl, rfl, by decide +kernel⟩
theorem zpF_9_54 : zFpF RX11 9 54 (.array .int) := zFpF_of RX11 TX11 64 tyX11 rfl tyX11_ok nmX11 ⟨rfl, rfl, by decide +kernel⟩
theorem zpF_9_55 : zFpF RX11 9 55 (.array .int) := zFpF_of RX11 TX11 64 tyX11 rfl tyX11_ok nmX11 ⟨rfl, rfl, by decide +kernel⟩
theorem zpF_9_56 : zFpF RX11 9 56 (.array .int) := zFpF_of RX11 TX11 64 tyX11 rfl tyX11_ok nmX11 ⟨rfl, rfl, by decide +kernel⟩
theorem zpF_9_57 : zFpF RX11 9 57 (.array .boolean) := zFpF_of RX11 TX11 64 tyX11 rfl tyX11_ok nmX11 ⟨rfl, rfl, by decide +kernel⟩
theorem zpF_9_59 : zFpF RX11 9 59 (.array .float) := zFpF_of RX11 TX11 64 tyX11 rfl tyX11_ok nmX11 ⟨rfl, rfl, by decide +kernel⟩
theorem zpF_9_60 : zFpF RX11 9 60 (.array .float) := zFpF_of RX11 TX11 64 tyX11 rfl tyX11_ok nmX11 ⟨rfl, rfl, by decide +kernel⟩
theorem zpF_9_61 : zFpF RX11 9 61 (.array .float) := zFpF_of RX11 TX11 64 tyX11 rfl tyX11_ok nmX11 ⟨rfl, rfl, by decide +kernel⟩
theorem zpF_9_62 : zFpF RX11 9 62 (.array .int) := zFpF_of RX11 TX11 64 tyX11 rfl tyX11_ok nmX11 ⟨rfl, rfl, by decide +kernel⟩
theorem zpF_9_63 : zFpF RX11 9 63 (.array .int) := zFpF_of RX11 TX11 64 tyX11 rfl tyX11_ok nmX11 ⟨rfl, rfl, by decide +kernel⟩
theorem zpF_8_0 : zFpF RX10 8 0 (.object RX7) := zFpF_of RX10 TX10 12 tyX10 rfl tyX10_ok nmX10 ⟨rfl, rfl, by decide +kernel⟩
theorem zpF_8_1 : zFpF RX10 8 1 (.object RX2) := zFpF_of RX10 TX10 12 tyX10 rfl tyX10_ok nmX10 ⟨rfl, rfl, by decide +kernel⟩
theorem zpF_8_2 : zFpF RX10 8 2 (.object RX2) := zFpF_of RX10 TX10 12 tyX10 rfl tyX10_ok nmX10 ⟨rfl, rfl, by decide +kernel⟩
theorem zpF_8_3 : zFpF RX10 8 3 (.object RX6) := zFpF_of RX10 TX10 12 tyX10 rfl tyX10_ok nmX10 ⟨rfl, rfl, by decide +kernel⟩
theorem zpF_8_4 : zFpF RX10 8 4 (.object RX6) := zFpF_of RX10 TX10 12 tyX10 rfl tyX10_ok nmX10 ⟨rfl, rfl, by decide +kernel⟩
theorem zpF_8_5 : zFpF RX10 8 5 (.object RX8) := zFpF_of RX10 TX10 12 tyX10 rfl tyX10_ok nmX10 ⟨rfl, rfl, by decide +kernel⟩
theorem zpF_8_6 : zFpF RX10 8 6 (.object RX3) := zFpF_of RX10 TX10 12 tyX10 rfl tyX10_ok nmX10 ⟨rfl, rfl, by decide +kernel⟩
theorem zpF_8_7 : zFpF RX10 8 7 (.object RX0) := zFpF_of RX10 TX10 12 tyX10 rfl tyX10_ok nmX10 ⟨rfl, rfl, by decide +kernel⟩
theorem zpF_8_8 : zFpF RX10 8 8 (.object RX5) := zFpF_of RX10 TX10 12 tyX10 rfl tyX10_ok nmX10 ⟨rfl, rfl, by decide +kernel⟩
theorem zOrd_len : zOrdL.length = 403 := by decide +kernel
theorem zob_i : Cond.instanceMethod Lib.objectInit ∈ zT := zT1 33 (by decide +kernel) rfl
theorem zob_c : Cond.code Lib.objectInit ⟨#[177]⟩ 1 none ∈ zT := zT1 34 (by decide +kernel) rfl
theorem zB_size (h : zOkB G base X own cc nL) (hcnt : X.2.2.2.2.1.heap.size + cells = base + cnt) (hle : cnt ≤ 403) {H : Heap} {locs : List Loc} (hW : zWB G base cnt (fun q => base ≤ q) M H) (hS : va_S (fun q => base ≤ q) X.2.2.2.2.1.heap H locs) {T : State} (hT : T.heap = H) (Xs : Stand X.1 X.2.1 X.2.2.1 X.2.2.2.1 X.2.2.2.2.1 X.2.2.2.2.2.1 X.2.2.2.2.2.2.1 X.2.2.2.2.2.2.2.1 X.2.2.2.2.2.2.2.2.1 X.2.2.2.2.2.2.2.2.2 T locs cells slots) : H.size = base + cnt := by
  have h1 : H.size ≤ X.2.2.2.2.1.heap.size + cells := by rw [← hT]; exact Xs.heapSize
  rcases Nat.eq_zero_or_pos cnt with h0 | h0
  · subst h0
    have := hS.1
    have := h.2.2.2.2.2.2.2.1
    omega
  · obtain ⟨c, hc⟩ : ∃ c, zOrdL[cnt - 1]? = some c := ⟨zOrdL[cnt - 1]'(by rw [zOrd_len]; omega), List.getElem?_eq_getElem _⟩
    have hg := zBl_get (G := G) (M := M) (cnt := cnt) hc (by omega)
    have h2 := (hW.1 _ _ hg).lt
    have h3 : G.1 c = base + (cnt - 1) := h.2.2.2.2.2.2.2.2 _ _ hc
    have h4 : G.1 c < H.size := h2
    omega
theorem zB_push {c : Nat} {H H1 : Heap} (hG : zGo G base) (hq : zOrdL[cnt]? = some c) (hW : zWB G base cnt (fun q => base ≤ q) M H) (hz : H.size = base + cnt) (hold : ∀ q, q < H.size → H1[q]? = H[q]?) (hnew : va_at G.2.1 vwCl (G.1 c, zEnP G M c) H1) : zWB G base (cnt + 1) (fun q => base ≤ q) M H1 := by
  have hc := hG _ _ hq
  unfold zWB
  rw [zBl_push hq]
  have hk : ∀ (k : Nat) (x : Nat × va_E), (zBl G M cnt)[k]? = some x → H1[x.1]? = H[x.1]? := fun k x hx => hold x.1 ((hW.1 k x hx).lt)
  refine ⟨(hW.1.kept hk).app (fun k x hx => ?_), hW.2.push hW.1 (hc.trans hz.symm) (by show base ≤ G.1 c; omega)⟩
  have hz9 : k < 1 := (List.getElem?_eq_some_iff.mp hx).1
  rw [show k = 0 by omega] at hx
  cases hx
  exact hnew
theorem zB_newa (h : zOkB G base X own cc nL) {D mc ms : Nat} (hR : X.2.2.2.1 = zRk D mc ms) {t : ArrayType} {c n tn : Nat} (ha : Cond.arrayClass (newarray.typeOf t) ∈ zT) (d : decode cc pc = .ok (.newarray t, 2)) (hq : zOrdL[cnt]? = some c) (htn : (zTy G)[tn]? = some (G.2.2 tn, newarray.typeOf t) ∧ va_RA X.2.2.2.2.1 (G.2.2 tn) (newarray.typeOf t) = (X.2.2.2.2.1.vm.findClass ("[" ++ (newarray.typeOf t).toString) = some (G.2.2 tn))) {a0 : vp_A} (hE : zEnP G M c = .inl (G.2.2 tn, a0)) (hE2 : ∀ cA : ClassId, vp_cell cA a0 = arrV cA n (fun _ => defaultValue (newarray.typeOf t))) (hn : n ≤ 2000 ∧ n * componentBytes (newarray.typeOf t) ≤ 536870912) (hcnt : X.2.2.2.2.1.heap.size + cells = base + cnt ∧ cnt ≤ 402) (hcs : cells + 1 ≤ mc ∧ slots + n ≤ ms)
    (kk : zB G X Q base (cnt + 1) nL (cells + 1) (slots + n) (pc + 2) L (.ref c :: S) M) : zB G X Q base cnt nL cells slots pc L (.int (nI n) :: S) M := by
  intro H locs ls hW hS hl T hT Xs
  have hz := zB_size h hcnt.1 (by omega) hW hS hT Xs
  have hc := h.2.2.2.2.2.2.2.2 _ _ hq
  refine (show W X.1 X.2.1 X.2.2.1 X.2.2.2.1 X.2.2.2.2.1 X.2.2.2.2.2.1 X.2.2.2.2.2.2.1 X.2.2.2.2.2.2.2.1 X.2.2.2.2.2.2.2.2.1 X.2.2.2.2.2.2.2.2.2 H locs cells slots Q (F0 X.2.2.2.2.2.1 pc ls (.int (nI n) :: S.map (zv G))) from ?_) T hT Xs
  refine va_newaK (n := nI n) (N := n) (rest := S.map (zv G)) h.1 h.2.1 (h.2.2.2.2.1 _ ha) rfl d rfl (nI_pos (by omega)) (nI_clamp (by omega)) hn.2 (by rw [hR]; exact hcs.1) (by rw [hR]; exact hcs.2) hz (fun H1 cA e1 z1 o1 hAr hNm => ?_)
  have e : cA = G.2.2 tn := by
    have h0 := (h.2.2.2.2.2.1.2 tn _ htn.1).2
    rw [htn.2] at h0
    exact Option.some.inj (hNm.symm.trans h0)
  subst e
  have hP := zB_push h.2.2.2.2.2.2.2.2 hq hW hz (fun q hq => o1 q (by omega)) (by rw [hE]; show H1[G.1 c]? = some (vp_cell _ _); rw [hE2, hc]; exact e1)
  have hk := kk H1 locs ls hP ⟨Nat.le_trans hS.1 (by omega), fun x h1 h2 => (o1 x (by have := hS.1; omega)).trans (hS.2.1 x h1 h2), hS.2.2⟩ hl
  rw [List.map_cons, show zv G (.ref c) = .ref (base + cnt) from by show Value.ref (G.1 c) = _; rw [hc]] at hk
  exact hk
def zDf (ci : Nat) : List Value := (zFkL.getD ci []).map (fun code => if code = 0 then Value.int 0 else .null)
theorem zFsP_0 {c ci : Nat} (h : ∀ k, M.1 c k = 0) : zFsP G M c ci = zDf ci := by
  unfold zFsP zDf
  apply List.ext_getElem?
  intro k
  rw [List.getElem?_mapIdx, List.getElem?_map]
  congr 1
  funext code
  match code with
  | 0 => show Value.int (M.1 c k) = _; rw [h]; rfl
  | 1 => show (if M.1 c k = 0 then Value.null else _) = _; rw [h]; rfl
  | 2 => show (if M.1 c k = 0 then Value.null else _) = _; rw [h]; rfl
  | _ + 3 => show (if M.1 c k = 0 then Value.null else _) = _; rw [h]; rfl
def zDfOk (ci : Nat) (C : String) (T : u_T) (N : Nat) (ty : Nat → FieldType) : Prop := vwCl[ci]? = some (C, T, N) ∧ (∀ k, k < N → parseFieldDescriptor (T k).2.2.1 = some (ty k)) ∧ (∀ j, j < N → defaultValue (ty j) = vp_V (zDf ci) j) ∧ Cond.instantiable C N ∈ zT ∧ Cond.initialized C ∈ zT ∧ ci < 19
theorem zB_newo (h : zOkB G base X own cc nL) {D mc ms : Nat} (hR : X.2.2.2.1 = zRk D mc ms) {ci c idx N : Nat} {C : String} {T : u_T} {ty : Nat → FieldType} (hdf : zDfOk ci C T N ty) (hcl : Cond.classLink own idx C ∈ zT) (d : decode cc pc = .ok (.new idx, 3)) (hq : zOrdL[cnt]? = some c) (hs : zSh c = (ci + 1, 0)) (hM : ∀ k, M.1 c k = 0) (hcnt : X.2.2.2.2.1.heap.size + cells = base + cnt ∧ cnt ≤ 402) (hcs : cells + 1 ≤ mc ∧ slots + N ≤ ms)
    (kk : zB G X Q base (cnt + 1) nL (cells + 1) (slots + N) (pc + 3) L (.ref c :: S) M) : zB G X Q base cnt nL cells slots pc L S M := by
  intro H locs ls hW hS hl TT hT Xs
  have hz := zB_size h hcnt.1 (by omega) hW hS hT Xs
  have hc := h.2.2.2.2.2.2.2.2 _ _ hq
  obtain ⟨g1, g2, g3, g4, g5, g6⟩ := hdf
  have hKn := h.2.2.2.2.2.1.1 ci _ g1
  refine (show W X.1 X.2.1 X.2.2.1 X.2.2.2.1 X.2.2.2.2.1 X.2.2.2.2.2.1 X.2.2.2.2.2.2.1 X.2.2.2.2.2.2.2.1 X.2.2.2.2.2.2.2.2.1 X.2.2.2.2.2.2.2.2.2 H locs cells slots Q (F0 X.2.2.2.2.2.1 pc ls (S.map (zv G))) from ?_) TT hT Xs
  refine W.newcK h.1 h.2.1 h.2.2.2.1 (h.2.2.2.2.1 _ hcl) (h.2.2.2.2.1 _ g4) (h.2.2.2.2.1 _ g5) rfl d (by rw [hR]; exact hcs.1) (by rw [hR]; exact hcs.2) hKn.2.1 hz (fun H1 kC hkC e1 z1 o1 => ?_)
  have hP := zB_push h.2.2.2.2.2.2.2.2 hq hW hz (fun q hq => o1 q (by omega)) (by
    rw [zEnP_o hs g6, zFsP_0 hM]
    show va_at _ _ (G.1 c, _) _
    rw [hc]
    exact ⟨_, g1, (u_born ty h.2.2.2.2.1 (fun w hw => zUin _ (List.mem_of_getElem? g1) w hw) hKn hkC e1 g2).to g3⟩)
  have hk := kk H1 locs ls hP ⟨Nat.le_trans hS.1 (by omega), fun x h1 h2 => (o1 x (by have := hS.1; omega)).trans (hS.2.1 x h1 h2), hS.2.2⟩ hl
  rw [List.map_cons, show zv G (.ref c) = .ref (base + cnt) from by show Value.ref (G.1 c) = _; rw [hc]] at hk
  exact hk
theorem zB_obj (h : zOkB G base X own cc nL) {D mc ms : Nat} (hR : X.2.2.2.1 = zRk D mc ms) {idx o : Nat} (hm : Cond.methodLink own idx Lib.objectInit ∈ zT) (d : decode cc pc = .ok (.invokespecial idx, 3)) (hroom : (S.map fun v => v.category).sum ≤ 8) (kk : zB G X Q base cnt nL cells slots (pc + 3) L S M) : zB G X Q base cnt nL cells slots pc L (.ref o :: S) M := by
  intro H locs ls hW hS hl
  exact W.objInit h.1 h.2.1 h.2.2.2.1 (h.2.2.2.2.1 _ hm) (h.2.2.2.2.1 _ zob_i) (h.2.2.2.2.1 _ zob_c) rfl (hl.1.trans h.2.2.1.symm) rfl d (by rw [hR]; exact Nat.le_add_left 1 D) (by rw [hR]; show 2 * 0 + _ + 12 ≤ 100 * D + 100; rw [zCat]; omega) (kk H locs ls hW hS hl)
end zBuild2
