section zMake
/-- one maker of arrays: what its run does to a state: A cells, B slots, and what lies in them -/
def zMk (f : State → State) (A B : Nat) (C : Nat → Nat → Cell) : Prop :=
  (∀ s, (f s).heap.size = s.heap.size + A) ∧ (∀ s, (f s).slotsUsed = s.slotsUsed + B) ∧ (∀ s, (f s).vm = s.vm) ∧
  (∀ s a, a < s.heap.size → (f s).heap[a]? = s.heap[a]?) ∧ (∀ s r, r < A → (f s).heap[s.heap.size + r]? = some (C s.heap.size r)) ∧
  (∀ s g, f (s.setTop g) = (f s).setTop g) ∧
  (∀ {p : Program} {l : Launch} {e : Env} {R : Room} {s : State} {m : MethodId} {args : Array Value} {below : List Frame} {meth : Method} {c : Code} (T : State) (locs : List Loc) (cells slots : Nat), Stand p l e R s m args below meth c T locs cells slots → Stand p l e R s m args below meth c (f T) locs (cells + A) (slots + B))
theorem zMk_1 (comp : ClassId) (M : Nat) (dv : Value) : zMk (fun s => s.pushCell (Jvm.Free.Multi.innerC comp M dv)) 1 M (fun _ _ => Jvm.Free.Multi.innerC comp M dv) := by
  refine ⟨fun s => by simp, fun s => by simp [Jvm.Free.Multi.innerC], fun s => rfl, fun s a h => State.heap_pushCell_of_lt _ _ h, fun s r h => ?_, fun s g => by simp only [State.pushCell_setTop], fun T locs cells slots X => ?_⟩
  · rw [show r = 0 by omega]; exact State.heap_pushCell_size _ _
  · have h := X.pushed (Jvm.Free.Multi.innerC comp M dv)
    rw [show (Jvm.Free.Multi.innerC comp M dv).slots.size = M by simp [Jvm.Free.Multi.innerC]] at h
    exact h
def zOu (c : ClassId) (N A h0 : Nat) : Nat → Cell
  | 0 => { cls := c, slots := Array.replicate N .null, vm := .none }
  | i + 1 => (zOu c N A h0 i).setSlot i (.ref (h0 + 1 + i * A))
def zFill (f : State → State) (c : ClassId) (N A : Nat) (s : State) : Nat → State
  | 0 => s.pushCell (zOu c N A s.heap.size 0)
  | i + 1 => (f (zFill f c N A s i)).setCell s.heap.size (zOu c N A s.heap.size (i + 1))
theorem zOu_facts (c : ClassId) (N A h0 : Nat) : ∀ i, (zOu c N A h0 i).cls = c ∧ (zOu c N A h0 i).vm = .none ∧ (zOu c N A h0 i).slots.size = N
  | 0 => ⟨rfl, rfl, by simp [zOu]⟩
  | i + 1 => by
    obtain ⟨a, b, d⟩ := zOu_facts c N A h0 i
    exact ⟨by simp [zOu, Cell.setSlot, a], by simp [zOu, Cell.setSlot, b], by simp [zOu, Cell.setSlot, d]⟩
theorem zOu_slot (c : ClassId) (N A h0 : Nat) : ∀ i j, j < N → (zOu c N A h0 i).slots[j]? = some (if j < i then .ref (h0 + 1 + j * A) else .null)
  | 0, j, h => by simp [zOu, h]
  | i + 1, j, h => by
    have ih := zOu_slot c N A h0 i j h
    have hs := (zOu_facts c N A h0 i).2.2
    show ((zOu c N A h0 i).setSlot i (.ref (h0 + 1 + i * A))).slots[j]? = _
    simp only [Cell.setSlot, Array.getElem?_setIfInBounds]
    by_cases e : i = j
    · subst e; simp [hs, h]
    · rw [if_neg e, ih]
      by_cases hj : j < i
      · rw [if_pos hj, if_pos (by omega)]
      · rw [if_neg hj, if_neg (by omega)]
theorem zFill_facts {f : State → State} {A B : Nat} {C : Nat → Nat → Cell} (hf : zMk f A B C) (c : ClassId) (N : Nat) (s : State) : ∀ i, (zFill f c N A s i).heap.size = s.heap.size + 1 + i * A ∧ (zFill f c N A s i).heap[s.heap.size]? = some (zOu c N A s.heap.size i) ∧
    (zFill f c N A s i).vm = s.vm ∧ (zFill f c N A s i).slotsUsed = s.slotsUsed + N + i * B
  | 0 => ⟨by simp [zFill], by simp [zFill], rfl, by simp [zFill, zOu]⟩
  | i + 1 => by
    obtain ⟨a, b, d, u⟩ := zFill_facts hf c N s i
    have hlt : s.heap.size < (zFill f c N A s i).heap.size := by rw [a]; have := Nat.zero_le (i * A); omega
    have hb' : (f (zFill f c N A s i)).heap[s.heap.size]? = some (zOu c N A s.heap.size i) := by rw [hf.2.2.2.1 _ _ hlt]; exact b
    refine ⟨?_, State.heap_setCell_self hb', by simp [zFill, hf.2.2.1, d], ?_⟩
    · simp [zFill, State.setCell, hf.1, a, Nat.succ_mul]; omega
    · simp [zFill, hf.2.1, u, Nat.succ_mul]; omega
theorem zFill_top {f : State → State} {A B : Nat} {C : Nat → Nat → Cell} (hf : zMk f A B C) (c : ClassId) (N : Nat) (s : State) (g : JFrame) : ∀ i, zFill f c N A (s.setTop g) i = (zFill f c N A s i).setTop g
  | 0 => rfl
  | i + 1 => by simp only [zFill, zFill_top hf c N s g i, hf.2.2.2.2.2.1, State.heap_setTop, State.setCell_setTop]
theorem zFill_old {f : State → State} {A B : Nat} {C : Nat → Nat → Cell} (hf : zMk f A B C) (c : ClassId) (N : Nat) (s : State) {a : Addr} (ha : a < s.heap.size) : ∀ i, (zFill f c N A s i).heap[a]? = s.heap[a]?
  | 0 => State.heap_pushCell_of_lt _ _ ha
  | i + 1 => by
    have f1 := (zFill_facts hf c N s i).1
    have hlt : a < (zFill f c N A s i).heap.size := Nat.lt_of_lt_of_le ha (by rw [f1]; have := Nat.zero_le (i * A); omega)
    show ((f (zFill f c N A s i)).setCell s.heap.size _).heap[a]? = _
    rw [State.heap_setCell_other (Nat.ne_of_gt ha), hf.2.2.2.1 _ _ hlt]
    exact zFill_old hf c N s ha i
theorem zFill_new {f : State → State} {A B : Nat} {C : Nat → Nat → Cell} (hf : zMk f A B C) (c : ClassId) (N : Nat) (s : State) : ∀ i j r, j < i → r < A → (zFill f c N A s i).heap[s.heap.size + 1 + j * A + r]? = some (C (s.heap.size + 1 + j * A) r)
  | 0, _, _, h, _ => absurd h (Nat.not_lt_zero _)
  | i + 1, j, r, h, hr => by
    have f1 := (zFill_facts hf c N s i).1
    show ((f (zFill f c N A s i)).setCell s.heap.size _).heap[s.heap.size + 1 + j * A + r]? = _
    rw [State.heap_setCell_other (show s.heap.size ≠ s.heap.size + 1 + j * A + r by have := Nat.zero_le (j * A); omega)]
    rcases Nat.lt_or_ge j i with hj | hj
    · have hm : (j + 1) * A ≤ i * A := Nat.mul_le_mul_right A hj
      rw [Nat.succ_mul] at hm
      have hlt : s.heap.size + 1 + j * A + r < (zFill f c N A s i).heap.size := by rw [f1]; omega
      rw [hf.2.2.2.1 _ _ hlt]
      exact zFill_new hf c N s i j r hj hr
    · have e : j = i := by omega
      subst e
      rw [← f1]
      exact hf.2.2.2.2.1 _ r hr
theorem zFill_stand {f : State → State} {A B : Nat} {C : Nat → Nat → Cell} (hf : zMk f A B C) (c : ClassId) (N : Nat) {p : Program} {l : Launch} {e : Env} {R : Room} {s : State} {m : MethodId} {args : Array Value} {below : List Frame} {meth : Method} {cc : Code} (T : State) (locs : List Loc) (cells slots : Nat) (X : Stand p l e R s m args below meth cc T locs cells slots) : ∀ i, Stand p l e R s m args below meth cc (zFill f c N A T i) locs (cells + 1 + i * A) (slots + N + i * B)
  | 0 => by
    have h := X.pushed (zOu c N A T.heap.size 0)
    rw [(zOu_facts c N A T.heap.size 0).2.2] at h
    simpa [zFill] using h
  | i + 1 => by
    have Xi := zFill_stand hf c N T locs cells slots X i
    obtain ⟨f1, f2, f3, f4⟩ := zFill_facts hf c N T i
    have hlt0 : T.heap.size < (zFill f c N A T i).heap.size := by rw [f1]; have := Nat.zero_le (i * A); omega
    have hcell : (f (zFill f c N A T i)).heap[T.heap.size]? = some (zOu c N A T.heap.size i) := by rw [hf.2.2.2.1 _ _ hlt0]; exact f2
    have h := (hf.2.2.2.2.2.2 _ _ _ _ Xi).stored hcell i (.ref (T.heap.size + 1 + i * A))
    have h2 := h.dropFresh (fun x hx => by
      rw [List.mem_singleton.mp hx]
      exact X.heapGrown)
    rw [show cells + 1 + (i + 1) * A = cells + 1 + i * A + A by rw [Nat.succ_mul]; omega, show slots + N + (i + 1) * B = slots + N + i * B + B by rw [Nat.succ_mul]; omega]
    exact h2
/-- the cells of an array of arrays -/
def zMkC (c : ClassId) (N A : Nat) (C : Nat → Nat → Cell) : Nat → Nat → Cell := fun b r => if r = 0 then zOu c N A b N else C (b + 1 + (r - 1) / A * A) ((r - 1) % A)
theorem zMk_N {f : State → State} {A B : Nat} {C : Nat → Nat → Cell} (hf : zMk f A B C) (hA : 0 < A) (c : ClassId) (N : Nat) : zMk (fun s => zFill f c N A s N) (1 + N * A) (N + N * B) (zMkC c N A C) := by
  refine ⟨fun s => ?_, fun s => ?_, fun s => (zFill_facts hf c N s N).2.2.1, fun s a h => zFill_old hf c N s h N, fun s r h => ?_, fun s g => zFill_top hf c N s g N, fun T locs cells slots X => ?_⟩
  · rw [(zFill_facts hf c N s N).1]; omega
  · rw [(zFill_facts hf c N s N).2.2.2]; omega
  · unfold zMkC
    by_cases h0 : r = 0
    · subst h0
      rw [if_pos rfl]
      exact (zFill_facts hf c N s N).2.1
    · rw [if_neg h0]
      have hd : (r - 1) / A < N := (Nat.div_lt_iff_lt_mul hA).mpr (by omega)
      have e := Nat.div_add_mod (r - 1) A
      rw [Nat.mul_comm] at e
      have h1 := zFill_new hf c N s N ((r - 1) / A) ((r - 1) % A) hd (Nat.mod_lt _ hA)
      rw [show s.heap.size + r = s.heap.size + 1 + (r - 1) / A * A + (r - 1) % A by omega]
      exact h1
  · have h := zFill_stand hf c N T locs cells slots X N
    rw [show cells + (1 + N * A) = cells + 1 + N * A by omega, show slots + (N + N * B) = slots + N + N * B by omega]
    exact h
/-- the model's 'make' does what the maker says, where the classes are as K says -/
def zMw (K : Vm → Prop) (f : State → State) (A B : Nat) (comp : ClassId) (counts : List Int32) : Prop :=
  ∀ {E : CtlPost} {e : Env} {d : Bool} {acts : List Action} {s : State} {Q : Addr → Pre}, K s.vm → 2000 ≤ e.platform.arrayLengthLimit → 536870912 ≤ e.platform.maxHeapBytes → s.heap.size + A ≤ e.platform.maxCells → s.slotsUsed + B ≤ e.platform.maxSlots → (∀ d' acts', Q s.heap.size d' acts' (f s)) → wp (multianewarray.make comp counts) Q E e d acts s
theorem zMw_1 {K : Vm → Prop} {comp : ClassId} {ty : FieldType} {n : Nat} (hn : n ≤ 2000) (hb : componentBytes ty ≤ 8) (hK : ∀ V, K V → ∃ kc cc, V.classes[comp]? = some kc ∧ kc.kind = .array cc ty) (hdf : fits ty (defaultValue ty) = true) (hdd : (defaultValue ty).isDefault = true) : zMw K (fun s => s.pushCell (Jvm.Free.Multi.innerC comp n (defaultValue ty))) 1 n comp [nI n] := by
  intro E e d acts s Q hk hL hB h1 h2 hq
  obtain ⟨kc, cc, hkc, hki⟩ := hK _ hk
  have e1 : (nI n).toNatClampNeg = n := nI_clamp (by omega)
  have hmul : n * componentBytes ty ≤ 2000 * 8 := Nat.mul_le_mul hn hb
  refine Jvm.Free.Multi.wp_make1 hkc hki (nI_pos (by omega)) (by rw [e1]; omega) (by rw [e1]; omega) hdf hdd (by omega) (by rw [e1]; omega) ?_
  rw [e1]
  exact hq _ _
theorem zMw_N {K : Vm → Prop} {f : State → State} {A B : Nat} {C : Nat → Nat → Cell} (hf : zMk f A B C) {comp c : ClassId} {t0 : FieldType} (href : t0.isReference = true) (hbt : componentBytes t0 ≤ 8) {n : Nat} (hn : n ≤ 2000) {r0 : Int32} {rs : List Int32} (hfind : ((r0 :: rs).find? (· < 0)) = none) (hw : zMw K f A B comp (r0 :: rs)) (hK : ∀ V, K V → ∃ kc, V.classes[c]? = some kc ∧ kc.kind = .array comp t0) : zMw K (fun s => zFill f c n A s n) (1 + n * A) (n + n * B) c (nI n :: r0 :: rs) := by
  intro E e d acts s Q hk hL hB h1 h2 hq
  obtain ⟨kc, hkc, hki⟩ := hK _ hk
  have e1 : (nI n).toNatClampNeg = n := nI_clamp (by omega)
  have hn0 : ¬ (nI n < 0) := nI_pos (by omega)
  have hmul0 : n * componentBytes t0 ≤ 2000 * 8 := Nat.mul_le_mul hn hbt
  rw [multianewarray.make]
  simp only [wp_bind', W.ite, hn0, if_false, wp_pure', W.theClass, hkc, hki, Option.some.injEq, exists_eq_left', e1]
  refine Jvm.Free.Multi.wp_newArray hkc hki (by omega) (by omega) (Jvm.Free.Multi.refFits href _ (Or.inl rfl)) rfl (by omega) (by have := Nat.zero_le (n * B); omega) ?_
  simp only [hfind]
  rw [ite_self, wp_bind', Std.Legacy.Range.forIn_eq_forIn_range']
  have hsz : ([:n] : Std.Legacy.Range).size = n := by simp [Std.Legacy.Range.size]
  rw [hsz]
  show wp (forIn (List.range' 0 n 1) PUnit.unit _) _ E e d acts _
  refine wp_forIn_inv (fun rest s' => ∃ i, i ≤ n ∧ rest = List.range' i (n - i) ∧ s' = zFill f c n A s i) _ _ ⟨0, Nat.zero_le _, rfl, rfl⟩ ?_ ?_
  · rintro x rest s' d' acts' Q' ⟨i, hi, hl, rfl⟩ hnext
    have hlt : i < n := by
      rcases Nat.lt_or_ge i n with h | h
      · exact h
      · rw [show n - i = 0 from by omega] at hl; simp at hl
    obtain ⟨rfl, hrest⟩ : x = i ∧ rest = List.range' (i + 1) (n - (i + 1)) := by
      rw [show n - i = (n - (i + 1)) + 1 from by omega, List.range'_succ] at hl
      exact ⟨(List.cons.inj hl).1, (List.cons.inj hl).2⟩
    obtain ⟨f1, f2, f3, f4⟩ := zFill_facts hf c n s x
    obtain ⟨o1, o2, o3⟩ := zOu_facts c n A s.heap.size x
    have hmul : x * B + B ≤ n * B := by
      have := Nat.mul_le_mul_right B (show x + 1 ≤ n from hlt)
      rw [Nat.succ_mul] at this; exact this
    have hmulA : x * A + A ≤ n * A := by
      have := Nat.mul_le_mul_right A (show x + 1 ≤ n from hlt)
      rw [Nat.succ_mul] at this; exact this
    simp only [wp_bind']
    refine hw (by rw [f3]; exact hk) hL hB (by rw [f1]; omega) (by rw [f4]; omega) (fun d2 acts2 => ?_)
    have hlt0 : s.heap.size < (zFill f c n A s x).heap.size := by rw [f1]; have := Nat.zero_le (x * A); omega
    simp only [wp_bind', W.writeLoc, wp_pure']
    refine ⟨zOu c n A s.heap.size x, by rw [hf.2.2.2.1 _ _ hlt0]; exact f2, by rw [o2]; simp, by rw [o3]; exact hlt, ?_, hnext _ _ _ ⟨x + 1, hlt, hrest, ?_⟩⟩
    · rw [o1, o2]
      simp [State.fitsSlot, State.slotType?, hf.2.2.1, f3, hkc, hki, Jvm.Free.Multi.refFits href _ (Or.inr ⟨_, rfl⟩)]
    · rw [f1]; rfl
  · rintro s' d' acts' ⟨i, hi, hl, rfl⟩
    have hiN : i = n := by
      rcases Nat.lt_or_ge i n with h | h
      · rw [show n - i = (n - (i + 1)) + 1 from by omega, List.range'_succ] at hl; cases hl
      · omega
    subst hiN
    simp only [wp_pure']
    exact hq _ _
theorem zMna2 {p : Program} {l : Launch} {e : Env} {R : Room} {s : State} {m : MethodId} {args : Array Value} {below : List Frame} {meth : Method} {c : Code} {T : State} {locs : List Loc} {cells slots : Nat} (X : Stand p l e R s m args below meth c T locs cells slots) (hexec : p.tables.exec = Jvm.exec) {own : String} {index : Nat} {nm : String} {cA : ClassId}
    (hown : s.vm.findClass own = some m.cls) (hclink : (Cond.classLink own index nm).before args s = true) (hnameA : s.vm.findClass nm = some cA)
    {g : JFrame} (hg : g.method = m) (hdg : decode c.code g.pc = .ok (.multianewarray index 2, 4)) {n0 n1 : Int32} {rest : List Value} (hstack : g.stack = .int n1 :: .int n0 :: rest)
    {f : State → State} {A B : Nat} {C : Nat → Nat → Cell} (hf : zMk f A B C) (hw : zMw (fun V => s.vm.Alike V) f A B cA [n0, n1]) (hcells : cells + A ≤ R.cells) (hslots : slots + B ≤ R.slots) :
    ∃ vm₁ : Vm, s.WarmedH vm₁ ∧ Stand p l e R s m args below meth c (f (T.setVm vm₁)) locs (cells + A) (slots + B) ∧
      ∀ target, Steps p.tables e below ((f (T.setVm vm₁)).setTop { g with pc := g.pc + 4, stack := .ref T.heap.size :: rest }) target →
        Steps p.tables e below (T.setTop g) target := by
  subst hg
  have hpl : e.platform.magicAccessors = ({} : Platform).magicAccessors := by rw [X.admits.platform]
  obtain ⟨c0, hfc0, hcl⟩ := Cond.classLink_spec hown hclink e.platform hpl
  cases hnameA.symm.trans hfc0
  obtain ⟨hg₁, hwarm₁, hready₁⟩ := State.classEntry (e := e) X.warmed hcl
  generalize T.vm.noted g.method.cls index (.cls cA) = vm₁ at hg₁ hwarm₁ hready₁
  have hal : s.vm.Alike vm₁ := hwarm₁.alike
  have X₁ := X.noted hwarm₁
  obtain ⟨hr1, hr2⟩ := X.roomAbove hcells hslots
  have XF := hf.2.2.2.2.2.2 _ _ _ _ X₁
  refine ⟨vm₁, hwarm₁, XF, fun target hrest => ?_⟩
  jvm_step X.here [hexec, hdg]
  simp only [multianewarray.sem, wp_bind', W.resolveClassAt_links (State.method?_setTop g X.here.top) hg₁]
  rw [W.popN, if_neg (by decide)]
  refine ⟨g, State.topJava?_setTop' (s := T.setVm vm₁) g X.here.top, [.int n0, .int n1], rest, rfl, hstack, ?_⟩
  simp only [List.mapM_cons, List.mapM_nil, wp_bind', wp_pure']
  have eS : ((T.setTop g).setVm vm₁).setTop { g with stack := rest } = (T.setVm vm₁).setTop { g with stack := rest } := by
    show ((T.setVm vm₁).setTop g).setTop _ = _
    rw [State.setTop_setTop]
  refine hw (by show s.vm.Alike vm₁; exact hal) (by rw [Launch.admits_arrayLengthLimit X.admits]; omega) (by rw [Launch.admits_maxHeapBytes X.admits]; omega) (by show T.heap.size + _ ≤ _; omega) (by show T.slotsUsed + _ ≤ _; omega) (fun d' acts' => ?_)
  rw [eS, hf.2.2.2.2.2.1]
  simp only [wp_bind', W.mark, W.pushRef, State.topJava?_setTop' _ XF.here.top, Option.some.injEq, exists_eq_left', State.setTop_setTop, State.heap_setTop]
  intro acts
  simp [jvm, XF.here.top]
  exact hrest
theorem zMna4 {p : Program} {l : Launch} {e : Env} {R : Room} {s : State} {m : MethodId} {args : Array Value} {below : List Frame} {meth : Method} {c : Code} {T : State} {locs : List Loc} {cells slots : Nat} (X : Stand p l e R s m args below meth c T locs cells slots) (hexec : p.tables.exec = Jvm.exec) {own : String} {index : Nat} {nm : String} {cA : ClassId}
    (hown : s.vm.findClass own = some m.cls) (hclink : (Cond.classLink own index nm).before args s = true) (hnameA : s.vm.findClass nm = some cA)
    {g : JFrame} (hg : g.method = m) (hdg : decode c.code g.pc = .ok (.multianewarray index 4, 4)) {n0 n1 n2 n3 : Int32} {rest : List Value} (hstack : g.stack = .int n3 :: .int n2 :: .int n1 :: .int n0 :: rest)
    {f : State → State} {A B : Nat} {C : Nat → Nat → Cell} (hf : zMk f A B C) (hw : zMw (fun V => s.vm.Alike V) f A B cA [n0, n1, n2, n3]) (hcells : cells + A ≤ R.cells) (hslots : slots + B ≤ R.slots) :
    ∃ vm₁ : Vm, s.WarmedH vm₁ ∧ Stand p l e R s m args below meth c (f (T.setVm vm₁)) locs (cells + A) (slots + B) ∧
      ∀ target, Steps p.tables e below ((f (T.setVm vm₁)).setTop { g with pc := g.pc + 4, stack := .ref T.heap.size :: rest }) target →
        Steps p.tables e below (T.setTop g) target := by
  subst hg
  have hpl : e.platform.magicAccessors = ({} : Platform).magicAccessors := by rw [X.admits.platform]
  obtain ⟨c0, hfc0, hcl⟩ := Cond.classLink_spec hown hclink e.platform hpl
  cases hnameA.symm.trans hfc0
  obtain ⟨hg₁, hwarm₁, hready₁⟩ := State.classEntry (e := e) X.warmed hcl
  generalize T.vm.noted g.method.cls index (.cls cA) = vm₁ at hg₁ hwarm₁ hready₁
  have hal : s.vm.Alike vm₁ := hwarm₁.alike
  have X₁ := X.noted hwarm₁
  obtain ⟨hr1, hr2⟩ := X.roomAbove hcells hslots
  have XF := hf.2.2.2.2.2.2 _ _ _ _ X₁
  refine ⟨vm₁, hwarm₁, XF, fun target hrest => ?_⟩
  jvm_step X.here [hexec, hdg]
  simp only [multianewarray.sem, wp_bind', W.resolveClassAt_links (State.method?_setTop g X.here.top) hg₁]
  rw [W.popN, if_neg (by decide)]
  refine ⟨g, State.topJava?_setTop' (s := T.setVm vm₁) g X.here.top, [.int n0, .int n1, .int n2, .int n3], rest, rfl, hstack, ?_⟩
  simp only [List.mapM_cons, List.mapM_nil, wp_bind', wp_pure']
  have eS : ((T.setTop g).setVm vm₁).setTop { g with stack := rest } = (T.setVm vm₁).setTop { g with stack := rest } := by
    show ((T.setVm vm₁).setTop g).setTop _ = _
    rw [State.setTop_setTop]
  refine hw (by show s.vm.Alike vm₁; exact hal) (by rw [Launch.admits_arrayLengthLimit X.admits]; omega) (by rw [Launch.admits_maxHeapBytes X.admits]; omega) (by show T.heap.size + _ ≤ _; omega) (by show T.slotsUsed + _ ≤ _; omega) (fun d' acts' => ?_)
  rw [eS, hf.2.2.2.2.2.1]
  simp only [wp_bind', W.mark, W.pushRef, State.topJava?_setTop' _ XF.here.top, Option.some.injEq, exists_eq_left', State.setTop_setTop, State.heap_setTop]
  intro acts
  simp [jvm, XF.here.top]
  exact hrest
end zMake
