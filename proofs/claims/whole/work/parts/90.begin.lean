section zBuild9
variable {G : zG} {X : zX} {Q : State → Prop} {own : String} {cc : ByteArray} {base cnt nL cells slots pc : Nat} {L S : List Value} {M : zM}
theorem zBL_newo (h : zOkB G base X own cc nL) (hR : X.2.2.2.1 = room_1) {ci c idx N : Nat} {C : String} {T : u_T} {ty : Nat → FieldType} (hdf : zDfOk ci C T N ty) (hcl : Cond.classLink own idx C ∈ zT) (d : decode cc pc = .ok (.new idx, 3)) (hq : zOrdL[cnt]? = some c) (hs : zSh c = (ci + 1, 0)) (hM : ∀ k, M.1 c k = 0) (hcnt : X.2.2.2.2.1.heap.size + cells = base + cnt ∧ cnt ≤ 402) (hcs : cells + 1 ≤ 601024 ∧ slots + N ≤ 7293034)
    (kk : zB G X Q base (cnt + 1) nL (cells + 1) (slots + N) (pc + 3) L (.ref c :: S) M) : zB G X Q base cnt nL cells slots pc L S M := by
  intro H locs ls hW hS hl TT hT Xs
  have hz := zB_size h hcnt.1 (by omega) hW hS hT Xs
  have hc := h.2.2.2.2.2.2.2.2 _ _ hq
  obtain ⟨g1, g2, g3, g4, g5, g6⟩ := hdf
  have hKn := h.2.2.2.2.2.1.1 ci _ g1
  refine (show W X.1 X.2.1 X.2.2.1 X.2.2.2.1 X.2.2.2.2.1 X.2.2.2.2.2.1 X.2.2.2.2.2.2.1 X.2.2.2.2.2.2.2.1 X.2.2.2.2.2.2.2.2.1 X.2.2.2.2.2.2.2.2.2 H locs cells slots Q (F0 X.2.2.2.2.2.1 pc ls (S.map (zv G))) from ?_) TT hT Xs
  refine W.newcK h.1 h.2.1 h.2.2.2.1 (h.2.2.2.2.1 _ hcl) (h.2.2.2.2.1 _ g4) (h.2.2.2.2.1 _ g5) rfl d (by rw [hR]; exact hcs.1) (by rw [hR]; exact hcs.2) hKn.2.1 hz (fun H1 kC hkC e1 z1 o1 => ?_)
  have hP := zB_push h.2.2.2.2.2.2.2.2 hq hW hz (fun q hq => o1 q (by omega)) (by
    rw [zEnP_o hs g6, zFsP_0 hM]
    show va_at _ _ (G.1 c, _) _
    rw [hc]
    exact ⟨_, g1, (u_born ty h.2.2.2.2.1 (fun w hw => zUin _ (List.mem_of_getElem? g1) w hw) hKn hkC e1 g2).to g3⟩)
  have hk := kk H1 locs ls hP ⟨Nat.le_trans hS.1 (by omega), fun x h1 h2 => (o1 x (by have := hS.1; omega)).trans (hS.2.1 x h1 h2), hS.2.2⟩ hl
  rw [List.map_cons, show zv G (.ref c) = .ref (base + cnt) from by show Value.ref (G.1 c) = _; rw [hc]] at hk
  exact hk
theorem zBL_newa (h : zOkB G base X own cc nL) (hR : X.2.2.2.1 = room_1) {t : ArrayType} {c n tn : Nat} (ha : Cond.arrayClass (newarray.typeOf t) ∈ zT) (d : decode cc pc = .ok (.newarray t, 2)) (hq : zOrdL[cnt]? = some c) (htn : (zTy G)[tn]? = some (G.2.2 tn, newarray.typeOf t) ∧ va_RA X.2.2.2.2.1 (G.2.2 tn) (newarray.typeOf t) = (X.2.2.2.2.1.vm.findClass ("[" ++ (newarray.typeOf t).toString) = some (G.2.2 tn))) {a0 : vp_A} (hE : zEnP G M c = .inl (G.2.2 tn, a0)) (hE2 : ∀ cA : ClassId, vp_cell cA a0 = arrV cA n (fun _ => defaultValue (newarray.typeOf t))) (hn : n ≤ 2000 ∧ n * componentBytes (newarray.typeOf t) ≤ 536870912) (hcnt : X.2.2.2.2.1.heap.size + cells = base + cnt ∧ cnt ≤ 402) (hcs : cells + 1 ≤ 601024 ∧ slots + n ≤ 7293034)
    (kk : zB G X Q base (cnt + 1) nL (cells + 1) (slots + n) (pc + 2) L (.ref c :: S) M) : zB G X Q base cnt nL cells slots pc L (.int (nI n) :: S) M := by
  intro H locs ls hW hS hl T hT Xs
  have hz := zB_size h hcnt.1 (by omega) hW hS hT Xs
  have hc := h.2.2.2.2.2.2.2.2 _ _ hq
  refine (show W X.1 X.2.1 X.2.2.1 X.2.2.2.1 X.2.2.2.2.1 X.2.2.2.2.2.1 X.2.2.2.2.2.2.1 X.2.2.2.2.2.2.2.1 X.2.2.2.2.2.2.2.2.1 X.2.2.2.2.2.2.2.2.2 H locs cells slots Q (F0 X.2.2.2.2.2.1 pc ls (.int (nI n) :: S.map (zv G))) from ?_) T hT Xs
  refine va_newaK (n := nI n) (N := n) (rest := S.map (zv G)) h.1 h.2.1 (h.2.2.2.2.1 _ ha) rfl d rfl (nI_pos (by omega)) (nI_clamp (by omega)) hn.2 (by rw [hR]; exact hcs.1) (by rw [hR]; exact hcs.2) hz (fun H1 cA e1 z1 o1 hAr hNm => ?_)
  have e : cA = G.2.2 tn := by
    have h0 := (h.2.2.2.2.2.1.2 tn _ htn.1).2
    rw [htn.2] at h0
    exact Option.some.inj (hNm.symm.trans h0)
  subst e
  have hP := zB_push h.2.2.2.2.2.2.2.2 hq hW hz (fun q hq => o1 q (by omega)) (by rw [hE]; show H1[G.1 c]? = some (vp_cell _ _); rw [hE2, hc]; exact e1)
  have hk := kk H1 locs ls hP ⟨Nat.le_trans hS.1 (by omega), fun x h1 h2 => (o1 x (by have := hS.1; omega)).trans (hS.2.1 x h1 h2), hS.2.2⟩ hl
  rw [List.map_cons, show zv G (.ref c) = .ref (base + cnt) from by show Value.ref (G.1 c) = _; rw [hc]] at hk
  exact hk
theorem zBL_init (h : zOkB G base X own cc nL) (hNe : zNe X.2.2.2.2.1) {d mc2 ms2 cnt1 : Nat} {M1 : zM} (hR : X.2.2.2.1 = room_1) (hd : d ≤ 10) {l : Launch} (hlc : X.2.1 = l) {y : MethodName} {cc2 : ByteArray} {nL2 idx o : Nat} (hC : zCB l G base d mc2 ms2 y cc2 nL2 [.ref o] cnt M cnt1 M1) (hT : Cond.code y cc2 nL2 none ∈ zT ∧ Cond.initialized y.cls ∈ zT ∧ nL2 ≤ 80 ∧ (y.cls ≠ "java/lang/invoke/MethodHandle" ∧ y.cls ≠ "java/lang/invoke/VarHandle" ∧ (parseMethodDescriptor y.desc).map (fun d => d.parameters.length) = some 0) ∧ Cond.instanceMethod y ∈ zT ∧ y.name = "<init>") (hm : Cond.methodLink own idx y ∈ zT) (hdg : decode cc pc = .ok (.invokespecial idx, 3)) (hroom : (S.map fun v => v.category).sum ≤ 8) (hcnt : X.2.2.2.2.1.heap.size + cells = base + cnt ∧ cnt ≤ 402) (hcs : cells + mc2 ≤ 601024 ∧ slots + ms2 ≤ 7293034)
    (kk : zB G X Q base cnt1 nL (cells + mc2) (slots + ms2) (pc + 3) L S M1) : zB G X Q base cnt nL cells slots pc L (.ref o :: S) M := by
  intro H locs ls hW hS hl T hTh Xs
  have hz := zB_size h hcnt.1 (by omega) hW hS hTh Xs
  subst hlc
  obtain ⟨t1, t2, t3, t4, t5, t6⟩ := hT
  have hgood : GoodIn zT (.code y cc2 nL2 none :: zT) := zGood t1
  refine (show W X.1 X.2.1 X.2.2.1 X.2.2.2.1 X.2.2.2.2.1 X.2.2.2.2.2.1 X.2.2.2.2.2.2.1 X.2.2.2.2.2.2.2.1 X.2.2.2.2.2.2.2.2.1 X.2.2.2.2.2.2.2.2.2 H locs cells slots Q (F0 X.2.2.2.2.2.1 pc ls (.ref (G.1 o) :: S.map (zv G))) from ?_) T hTh Xs
  refine zB_go kk hS hl (va_runI (Ts := zT) (As := []) (n := 0) ⟨h.1, h.2.1, h.2.2.1, h.2.2.2.1, h.2.2.2.2.1⟩ hC (cwI 0 h.2.2.2.2.1 hgood rfl rfl rfl (h.2.2.2.2.1 _ t2) (h.2.2.2.2.1 _ hm) (h.2.2.2.2.1 _ t5) t6 t4 ⟨?_, ?_⟩) ⟨zPB_blind, zB_pre (As := [.ref o]) (own := own) (cc := cc) (nL := nL) (locs := locs) h hNe hz hW⟩ rfl rfl hl.1 rfl (lv_room (by rw [zCat]; exact hroom)) hdg ⟨?_, ?_⟩)
  · rw [hR]; show d + 1 + 1 ≤ 2048; omega
  · rw [hR]; show 8 + (nL2 + 11) + (100 * d + 100) ≤ 84000; omega
  · rw [hR]; exact hcs.1
  · rw [hR]; exact hcs.2
theorem zPz_le {M : zM} {c k : Nat} {v : Int32} (h : zPz M) (hc : c ≤ 300) : zPz (zw M c k v) := fun x hx j => (zw_ne (Or.inl (by omega))).trans (h x hx j)
theorem zPz_for {M : zM} {a n : Nat} {v : Int32} (h : zPz M) (ha : a ≤ 300) : zPz (zfor (fun i M => zw M a i v) n M) := fun x hx j => (zfor_ne (by omega) n).trans (h x hx j)
set_option maxRecDepth 4000 in
theorem mFace_z : zPz mFace := by
  unfold mFace gBegin lClear bX0 bX2 bX3 bX5 bX6 bX7 bX8 bX4
  refine zPz_for ?_ (by decide)
  refine zPz_for ?_ (by decide)
  (repeat refine zPz_le ?_ (by decide))
  exact fun _ _ _ => rfl
/-- the memory when the law's loop begins -/
def mBegin : zM := zEm (bX11 mFace)
theorem zOrd_last : zOrdL[402]? = some 220 := by decide +kernel
def zObL : List (Nat × Nat) := [(0, 8), (20, 6), (40, 1), (50, 1), (60, 5), (90, 5), (120, 7), (140, 2), (150, 0), (170, 4), (180, 3), (190, 3), (200, 3), (300, 9)]
theorem zObL_all1 : ∀ i, i < 60 → ∀ j, j < 55 → (20 ≤ (zSh (55 * i + j)).1 ∨ (zSh (55 * i + j)).1 = 0) ∨ zObL.contains (55 * i + j, (zSh (55 * i + j)).1 - 1) = true := by decide +kernel
theorem zObL_all {c ci : Nat} (h : (zSh c).1 = ci + 1) (hci : ci < 19) : (c, ci) ∈ zObL := by
  have hc : c < 3300 := zSh_lt (by omega)
  have h1 := zObL_all1 (c / 55) (by omega) (c % 55) (Nat.mod_lt _ (by decide))
  rw [Nat.div_add_mod] at h1
  have h2 := h1.resolve_left (by omega)
  rw [h] at h2
  exact List.contains_iff_mem.mp h2
theorem mBegin_ptr : ∀ q ∈ zObL, ∀ k, k < 64 → (zFkL.getD q.2 []).getD k 0 ≠ 0 → mBegin.1 q.1 k ≠ 0 := by decide +kernel
theorem zFk_len : ∀ ci, ci < 10 → (zFkL.getD ci []).length ≤ 64 := by decide +kernel
theorem zObL_ci : ∀ q ∈ zObL, q.2 < 10 := by decide
theorem zEnP_full {G : zG} {M : zM} (hp : ∀ q ∈ zObL, ∀ k, k < 64 → (zFkL.getD q.2 []).getD k 0 ≠ 0 → M.1 q.1 k ≠ 0) (c : Nat) (hc : (zSh c).1 ≠ 0) : zEnP G M c = zEn G M c := by
  by_cases h : (zSh c).1 < 20
  · obtain ⟨ci, hci⟩ : ∃ ci, (zSh c).1 = ci + 1 := ⟨(zSh c).1 - 1, by omega⟩
    have hm := zObL_all hci (by omega)
    have hpc := hp _ hm
    unfold zEnP zEn
    rw [if_pos h, if_pos h, hci]
    congr 1
    congr 1
    unfold zFsP zFs
    apply List.ext_getElem?
    intro k
    rw [List.getElem?_mapIdx, List.getElem?_mapIdx]
    simp only [Nat.add_sub_cancel]
    cases hk : (zFkL.getD ci [])[k]? with
    | none => rfl
    | some code =>
      have hlen := zFk_len ci (zObL_ci _ hm)
      have hk64 : k < 64 := Nat.lt_of_lt_of_le (List.getElem?_eq_some_iff.mp hk).1 hlen
      have hcd : (zFkL.getD ci []).getD k 0 = code := by rw [List.getD_eq_getElem?_getD, hk]; rfl
      have h0 := hpc k hk64
      simp only [] at h0
      rw [hcd] at h0
      show some (zFvP G M c k code) = some (zFv G M c k code)
      congr 1
      match code with
      | 0 => rfl
      | 1 => exact if_neg (h0 (by decide))
      | 2 => exact if_neg (h0 (by decide))
      | j + 3 => exact if_neg (h0 (by omega))
  · unfold zEnP
    rw [if_neg h]
theorem zWB_W {G : zG} {M : zM} {H : Heap} {base : Nat} (hG : zGo G base) (hp : ∀ q ∈ zObL, ∀ k, k < 64 → (zFkL.getD q.2 []).getD k 0 ≠ 0 → M.1 q.1 k ≠ 0) (hW : zWB G base 403 (fun q => base ≤ q) M H) : zW G (zA G base) M H := by
  have pos : ∀ c, (zSh c).1 ≠ 0 → ∃ q, q < 403 ∧ zOrdL[q]? = some c := by
    intro c hc
    obtain ⟨q, hq⟩ := List.getElem?_of_mem (zOrd_all c (zSh_lt hc) hc)
    exact ⟨q, by have := (List.getElem?_eq_some_iff.mp hq).1; rw [zOrd_len] at this; exact this, hq⟩
  have inl : ∀ (k : Nat) (q : Nat × va_E), (zWl G M)[k]? = some q → ∃ c : Nat, zIds[k]? = some c ∧ (zSh c).1 ≠ 0 ∧ q = (G.1 c, zEn G M c) := by
    intro k q hk
    unfold zWl at hk
    rw [List.getElem?_map] at hk
    cases hx : zIds[k]? with
    | none => rw [hx] at hk; cases hk
    | some c => rw [hx] at hk; cases hk; exact ⟨c, rfl, zIds_in.mp (List.mem_of_getElem? hx), rfl⟩
  refine ⟨fun k q hk => ?_, fun i j p q hi hj e => ?_, fun k q hk => ?_⟩
  · obtain ⟨c, h1, h2, rfl⟩ := inl k q hk
    obtain ⟨r, hr1, hr2⟩ := pos c h2
    have h3 := hW.1 _ _ (zBl_get (G := G) (M := M) (cnt := 403) hr2 hr1)
    rw [zEnP_full hp c h2] at h3
    exact h3
  · obtain ⟨c, h1, h2, rfl⟩ := inl i p hi
    obtain ⟨c2, h3, h4, rfl⟩ := inl j q hj
    obtain ⟨r, -, hr⟩ := pos c h2
    obtain ⟨r2, -, hr2⟩ := pos c2 h4
    have e1 := hG _ _ hr
    have e2 := hG _ _ hr2
    have e3 : G.1 c = G.1 c2 := e
    have e4 : r = r2 := by omega
    subst e4
    cases hr.symm.trans hr2
    exact (List.getElem?_inj (List.getElem?_eq_some_iff.mp h1).1 zIds_nd).mp (h1.trans h3.symm)
  · obtain ⟨c, h1, h2, rfl⟩ := inl k q hk
    exact Or.inl ⟨c, h2, rfl⟩
end zBuild9
