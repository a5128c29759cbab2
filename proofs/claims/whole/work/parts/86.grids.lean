section zBuild6
variable {G : zG} {X : zX} {Q : State → Prop} {own : String} {cc : ByteArray} {base cnt nL cells slots pc : Nat} {L S : List Value} {M : zM}
theorem zOu_eq (c : ClassId) (N A b : Nat) : ∀ i, zOu c N A b i = { cls := c, slots := (zOu c N A b i).slots, vm := .none }
  | 0 => rfl
  | i + 1 => by
    have ih := zOu_eq c N A b i
    show (zOu c N A b i).setSlot i _ = { cls := c, slots := ((zOu c N A b i).setSlot i _).slots, vm := .none }
    rw [ih]; rfl
theorem zOu_arrV {c : ClassId} {N A b : Nat} {g : Nat → Nat} (h : ∀ j, j < N → g j = b + 1 + j * A) : zOu c N A b N = arrV c N (fun j => va_rf (some (g j))) := by
  obtain ⟨h1, h2, h3⟩ := zOu_facts c N A b N
  have h4 := fun j hj => zOu_slot c N A b N j hj
  have key : (zOu c N A b N).slots = Array.ofFn (fun j : Fin N => va_rf (some (g j))) → zOu c N A b N = arrV c N (fun j => va_rf (some (g j))) := by
    intro e
    rw [zOu_eq, e]; rfl
  refine key (Array.ext_getElem? fun j => ?_)
  rcases Nat.lt_or_ge j N with hj | hj
  · rw [h4 j hj, if_pos hj]
    simp only [Array.getElem?_ofFn, hj, dite_true]
    rw [h j hj]; rfl
  · rw [Array.getElem?_eq_none (by rw [h3]; exact hj), Array.getElem?_eq_none (by simp; exact hj)]
theorem innerC_arrV (c : ClassId) (m : Nat) (v : Value) : Jvm.Free.Multi.innerC c m v = arrV c m (fun _ => v) := by
  rw [← arrV_new]; rfl
/-- what a maker makes is what the memory says, where the order of the cells says p -/
def zCt (G : zG) (base : Nat) (M : zM) (C : Nat → Nat → Cell) (A p : Nat) : Prop :=
  ∀ (H1 : Heap), (∀ r, r < A → H1[base + p + r]? = some (C (base + p) r)) → ∀ r, r < A → ∃ c2, zOrdL[p + r]? = some c2 ∧ va_at G.2.1 vwCl (G.1 c2, zEnP G M c2) H1
theorem zCt_i {p c m : Nat} (hG : zGo G base) (hq : zOrdL[p]? = some c) (hs : zSh c = (20, m)) (hM : ∀ k, M.1 c k = 0) : zCt G base M (fun _ _ => Jvm.Free.Multi.innerC (G.2.2 0) m (defaultValue .int)) 1 p := by
  intro H1 h r hr
  have h0 := h 0 (by omega)
  have e0 : r = 0 := by omega
  subst e0
  refine ⟨c, hq, ?_⟩
  rw [zEnP_i hs, show M.1 c = fun _ => 0 from funext hM]
  show H1[G.1 c]? = some (vp_cell _ _)
  rw [hG _ _ hq]
  refine h0.trans (congrArg some ((innerC_arrV _ _ _).trans rfl))
theorem zCt_z {p c m : Nat} (hG : zGo G base) (hq : zOrdL[p]? = some c) (hs : zSh c = (21, m)) (hM : ∀ k, M.1 c k = 0) : zCt G base M (fun _ _ => Jvm.Free.Multi.innerC (G.2.2 1) m (defaultValue .boolean)) 1 p := by
  intro H1 h r hr
  have h0 := h 0 (by omega)
  have e0 : r = 0 := by omega
  subst e0
  refine ⟨c, hq, ?_⟩
  rw [zEnP_z hs, show M.1 c = fun _ => 0 from funext hM]
  show H1[G.1 c]? = some (vp_cell _ _)
  rw [hG _ _ hq]
  refine h0.trans (congrArg some ((innerC_arrV _ _ _).trans rfl))
theorem zCt_N {C : Nat → Nat → Cell} {A p c n t : Nat} (hA : 0 < A) (hG : zGo G base) (hq : zOrdL[p]? = some c) (hs : zSh c = (24 + t, n)) (hch : ∀ j, j < n → zOrdL[p + 1 + j * A]? = some (zCh c j)) (hin : ∀ j, j < n → zCt G base M C A (p + 1 + j * A)) : zCt G base M (zMkC (G.2.2 (4 + t)) n A C) (1 + n * A) p := by
  intro H1 h r hr
  by_cases h0 : r = 0
  · subst h0
    refine ⟨c, hq, ?_⟩
    rw [zEnP_q hs]
    show H1[G.1 c]? = some (vp_cell _ _)
    rw [hG _ _ hq]
    have h1 := h 0 hr
    rw [Nat.add_zero] at h1
    refine h1.trans (congrArg some ?_)
    show zMkC _ _ _ _ _ 0 = _
    unfold zMkC
    rw [if_pos rfl]
    exact zOu_arrV (g := fun j => G.1 (zCh c j)) (fun j hj => by
      show G.1 (zCh c j) = _
      rw [hG _ _ (hch j hj)]; omega)
  · have hd : (r - 1) / A < n := (Nat.div_lt_iff_lt_mul hA).mpr (by omega)
    have e := Nat.div_add_mod (r - 1) A
    rw [Nat.mul_comm] at e
    have hm := Nat.mod_lt (r - 1) hA
    have h2 := hin ((r - 1) / A) hd H1 (fun r2 hr2 => by
      have hmul : ((r - 1) / A + 1) * A ≤ n * A := Nat.mul_le_mul_right A hd
      rw [Nat.succ_mul] at hmul
      have h3 := h (1 + (r - 1) / A * A + r2) (by omega)
      rw [show base + (p + 1 + (r - 1) / A * A) + r2 = base + p + (1 + (r - 1) / A * A + r2) by omega]
      refine h3.trans (congrArg some ?_)
      unfold zMkC
      rw [if_neg (by omega)]
      have e1 : (1 + (r - 1) / A * A + r2 - 1) / A = (r - 1) / A := by
        rw [show 1 + (r - 1) / A * A + r2 - 1 = r2 + (r - 1) / A * A by omega, Nat.add_mul_div_right _ _ hA, Nat.div_eq_of_lt hr2]; omega
      have e2 : (1 + (r - 1) / A * A + r2 - 1) % A = r2 := by
        rw [show 1 + (r - 1) / A * A + r2 - 1 = r2 + (r - 1) / A * A by omega, Nat.add_mul_mod_self_right, Nat.mod_eq_of_lt hr2]
      rw [e1, e2, show base + (p + 1 + (r - 1) / A * A) = base + p + 1 + (r - 1) / A * A by omega]) ((r - 1) % A) hm
    rw [show p + r = p + 1 + (r - 1) / A * A + (r - 1) % A by omega]
    exact h2
theorem zAo_K {U : State} (hA : zAo U) (hK : va_K G.2.1 vwCl (zTy G) U) {t : FieldType} (ht : t ∈ [(.int : FieldType), .boolean, .array .int, .array (.array .int)]) {a b : Nat} (ha : (zTy G)[a]? = some (G.2.2 a, .array t) ∧ va_RA U (G.2.2 a) (.array t) = (U.vm.findClass ("[" ++ (FieldType.array t).toString) = some (G.2.2 a))) (hb : (zTy G)[b]? = some (G.2.2 b, t) ∧ va_RA U (G.2.2 b) t = (U.vm.findClass (FieldType.array t).toString = some (G.2.2 b))) : ∀ V : Vm, U.vm.Alike V → ∃ kc, V.classes[G.2.2 a]? = some kc ∧ kc.kind = .array (G.2.2 b) (.array t) := by
  intro V hV
  obtain ⟨comp, c, k, h1, h2, h3, h4⟩ := hA t ht
  have ka := (hK.2 a _ ha.1).2
  rw [ha.2] at ka
  have kb := (hK.2 b _ hb.1).2
  rw [hb.2] at kb
  cases Option.some.inj (ka.symm.trans h4)
  cases Option.some.inj (kb.symm.trans h1)
  obtain ⟨k2, h5, h6⟩ := hV.2.2 _ _ h2
  exact ⟨k2, h5, by rw [h6]; exact h3⟩
theorem zAc_K {U : State} {args : Array Value} {t : FieldType} (hw : (Cond.arrayClass t).before args U = true) (hK : va_K G.2.1 vwCl (zTy G) U) {b : Nat} (hb : (zTy G)[b]? = some (G.2.2 b, t) ∧ va_RA U (G.2.2 b) t = (U.vm.findClass (FieldType.array t).toString = some (G.2.2 b))) : ∀ V : Vm, U.vm.Alike V → ∃ kc cc, V.classes[G.2.2 b]? = some kc ∧ kc.kind = .array cc t := by
  intro V hV
  obtain ⟨comp, kC, cc, h1, h2, h3⟩ := Cond.arrayClass_spec hw
  have kb := (hK.2 b _ hb.1).2
  rw [hb.2] at kb
  cases Option.some.inj (kb.symm.trans h1)
  obtain ⟨k2, h5, h6⟩ := hV.2.2 _ _ h2
  exact ⟨k2, cc, h5, by rw [h6]; exact h3⟩
theorem zB_gridI (h : zOkB G base X own cc nL) (hNe : zNe X.2.2.2.2.1) {D mc ms : Nat} (hR : X.2.2.2.1 = zRk D mc ms) {idx c n m : Nat} (hcl : Cond.classLink own idx "[[I" ∈ zT) (d : decode cc pc = .ok (.multianewarray idx 2, 4)) (hnm : n ≤ 2000 ∧ m ≤ 2000) (hq : zOrdL[cnt]? = some c) (hs : zSh c = (24, n)) (hch : ∀ j, j < n → zOrdL[cnt + 1 + j * 1]? = some (zCh c j)) (hsr : ∀ j, j < n → zSh (zCh c j) = (20, m)) (hM : ∀ j, j < n → ∀ k, M.1 (zCh c j) k = 0) (hcnt : X.2.2.2.2.1.heap.size + cells = base + cnt ∧ cnt ≤ 402) (hcs : cells + (1 + n * 1) ≤ mc ∧ slots + (n + n * m) ≤ ms)
    (kk : zB G X Q base (cnt + (1 + n * 1)) nL (cells + (1 + n * 1)) (slots + (n + n * m)) (pc + 4) L (.ref c :: S) M) : zB G X Q base cnt nL cells slots pc L (.int (nI m) :: .int (nI n) :: S) M := by
  have hG := h.2.2.2.2.2.2.2.2
  have hf := zMk_N (zMk_1 (G.2.2 0) m (defaultValue .int)) (by decide) (G.2.2 4) n
  refine zB_mna2 hf h hR hcl ((h.2.2.2.2.2.1.2 4 _ rfl).2) (zMw_N (zMk_1 (G.2.2 0) m (defaultValue .int)) rfl (by decide) hnm.1 (by simp [nI_pos (show m < 2 ^ 31 by omega)]) (zMw_1 hnm.2 (by decide) (zAc_K (h.2.2.2.2.1 _ zar_int) h.2.2.2.2.2.1 ⟨rfl, rfl⟩) rfl rfl) (zAo_K hNe.2 h.2.2.2.2.2.1 (by simp) ⟨rfl, rfl⟩ ⟨rfl, rfl⟩)) d (by omega) hq ?_ hcnt hcs kk
  exact zCt_N (t := 0) (by decide) hG hq hs hch (fun j hj => zCt_i hG (hch j hj) (hsr j hj) (hM j hj))
theorem zB_gridZ (h : zOkB G base X own cc nL) (hNe : zNe X.2.2.2.2.1) {D mc ms : Nat} (hR : X.2.2.2.1 = zRk D mc ms) {idx c n m : Nat} (hcl : Cond.classLink own idx "[[Z" ∈ zT) (d : decode cc pc = .ok (.multianewarray idx 2, 4)) (hnm : n ≤ 2000 ∧ m ≤ 2000) (hq : zOrdL[cnt]? = some c) (hs : zSh c = (25, n)) (hch : ∀ j, j < n → zOrdL[cnt + 1 + j * 1]? = some (zCh c j)) (hsr : ∀ j, j < n → zSh (zCh c j) = (21, m)) (hM : ∀ j, j < n → ∀ k, M.1 (zCh c j) k = 0) (hcnt : X.2.2.2.2.1.heap.size + cells = base + cnt ∧ cnt ≤ 402) (hcs : cells + (1 + n * 1) ≤ mc ∧ slots + (n + n * m) ≤ ms)
    (kk : zB G X Q base (cnt + (1 + n * 1)) nL (cells + (1 + n * 1)) (slots + (n + n * m)) (pc + 4) L (.ref c :: S) M) : zB G X Q base cnt nL cells slots pc L (.int (nI m) :: .int (nI n) :: S) M := by
  have hG := h.2.2.2.2.2.2.2.2
  have hf := zMk_N (zMk_1 (G.2.2 1) m (defaultValue .boolean)) (by decide) (G.2.2 5) n
  refine zB_mna2 hf h hR hcl ((h.2.2.2.2.2.1.2 5 _ rfl).2) (zMw_N (zMk_1 (G.2.2 1) m (defaultValue .boolean)) rfl (by decide) hnm.1 (by simp [nI_pos (show m < 2 ^ 31 by omega)]) (zMw_1 hnm.2 (by decide) (zAc_K (h.2.2.2.2.1 _ zar_boolean) h.2.2.2.2.2.1 ⟨rfl, rfl⟩) rfl rfl) (zAo_K hNe.2 h.2.2.2.2.2.1 (by simp) ⟨rfl, rfl⟩ ⟨rfl, rfl⟩)) d (by omega) hq ?_ hcnt hcs kk
  exact zCt_N (t := 1) (by decide) hG hq hs hch (fun j hj => zCt_z hG (hch j hj) (hsr j hj) (hM j hj))
theorem zB_lies (h : zOkB G base X own cc nL) (hNe : zNe X.2.2.2.2.1) {D mc ms : Nat} (hR : X.2.2.2.1 = zRk D mc ms) {idx : Nat} (hcl : Cond.classLink own idx "[[[[I" ∈ zT) (d : decode cc pc = .ok (.multianewarray idx 4, 4)) (hcn : cnt = 93) (hM : ∀ x, 3000 ≤ x → ∀ k, M.1 x k = 0) (hcnt : X.2.2.2.2.1.heap.size + cells = base + cnt ∧ cnt ≤ 402) (hcs : cells + 199 ≤ mc ∧ slots + 1290 ≤ ms)
    (kk : zB G X Q base (cnt + 199) nL (cells + 199) (slots + 1290) (pc + 4) L (.ref 315 :: S) M) : zB G X Q base cnt nL cells slots pc L (.int (nI 6) :: .int (nI 13) :: .int (nI 7) :: .int (nI 2) :: S) M := by
  subst hcn
  have hG := h.2.2.2.2.2.2.2.2
  have k1 := zMk_1 (G.2.2 0) 6 (defaultValue .int)
  have k2 := zMk_N k1 (by decide) (G.2.2 4) 13
  have k3 := zMk_N k2 (by decide) (G.2.2 7) 7
  have k4 := zMk_N k3 (by decide) (G.2.2 6) 2
  have w1 : zMw (fun V => X.2.2.2.2.1.vm.Alike V) _ _ _ _ _ := zMw_1 (n := 6) (by decide) (by decide) (zAc_K (h.2.2.2.2.1 _ zar_int) h.2.2.2.2.2.1 (b := 0) ⟨rfl, rfl⟩) rfl rfl
  have w2 : zMw (fun V => X.2.2.2.2.1.vm.Alike V) _ _ _ _ _ := zMw_N k1 rfl (by decide) (n := 13) (by decide) (by decide) w1 (zAo_K hNe.2 h.2.2.2.2.2.1 (a := 4) (by simp) ⟨rfl, rfl⟩ ⟨rfl, rfl⟩)
  have w3 : zMw (fun V => X.2.2.2.2.1.vm.Alike V) _ _ _ _ _ := zMw_N k2 rfl (by decide) (n := 7) (by decide) (by decide) w2 (zAo_K hNe.2 h.2.2.2.2.2.1 (a := 7) (by simp) ⟨rfl, rfl⟩ ⟨rfl, rfl⟩)
  have w4 : zMw (fun V => X.2.2.2.2.1.vm.Alike V) _ _ _ _ _ := zMw_N k3 rfl (by decide) (n := 2) (by decide) (by decide) w3 (zAo_K hNe.2 h.2.2.2.2.2.1 (a := 6) (by simp) ⟨rfl, rfl⟩ ⟨rfl, rfl⟩)
  have q1 : ∀ q, q < 2 → zOrdL[93 + 1 + q * 99]? = some (zCh 315 q) := by decide +kernel
  have q2 : ∀ q, q < 2 → ∀ m, m < 7 → zOrdL[93 + 1 + q * 99 + 1 + m * 14]? = some (zCh (zCh 315 q) m) := by decide +kernel
  have q3 : ∀ q, q < 2 → ∀ m, m < 7 → ∀ i, i < 13 → zOrdL[93 + 1 + q * 99 + 1 + m * 14 + 1 + i * 1]? = some (zCh (zCh (zCh 315 q) m) i) := by decide +kernel
  have s2 : ∀ q, q < 2 → zSh (zCh 315 q) = (27, 7) := by decide +kernel
  have s3 : ∀ q, q < 2 → ∀ m, m < 7 → zSh (zCh (zCh 315 q) m) = (24, 13) := by decide +kernel
  have s4 : ∀ q, q < 2 → ∀ m, m < 7 → ∀ i, i < 13 → zSh (zCh (zCh (zCh 315 q) m) i) = (20, 6) := by decide +kernel
  have s5 : ∀ q, q < 2 → ∀ m, m < 7 → ∀ i, i < 13 → 3000 ≤ zCh (zCh (zCh 315 q) m) i := by decide +kernel
  refine zB_mna4 (A := 199) (B := 1290) k4 h hR hcl ((h.2.2.2.2.2.1.2 6 _ rfl).2) w4 d (by omega) (by decide +kernel) ?_ hcnt hcs kk
  exact zCt_N (t := 2) (by decide) hG (by decide +kernel) (by decide +kernel) q1 (fun q hq => zCt_N (t := 3) (by decide) hG (q1 q hq) (s2 q hq) (q2 q hq) (fun m hm => zCt_N (t := 0) (by decide) hG (q2 q hq m hm) (s3 q hq m hm) (q3 q hq m hm) (fun i hi => zCt_i hG (q3 q hq m hm i hi) (s4 q hq m hm i hi) (hM _ (s5 q hq m hm i hi)))))
end zBuild6
