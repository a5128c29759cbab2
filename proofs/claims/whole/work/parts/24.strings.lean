-- text constants: cell 5000 + j, its bytes 6000 + j
section zText
variable {G : zG} {X : zX} {Q : State → Prop} {own : String} {cc : ByteArray} {nL cells slots pc : Nat} {L S : List Value} {M : zM}
theorem zV_strv (h : zOk G X own cc nL) {idx j : Nat} (d : decode cc pc = .ok (.getfield idx, 3)) (hw : Cond.fieldLink own idx "java/lang/String" "value" "[B" ∈ zT) (hj : j < 11) (k : zV G X Q nL cells slots (pc + 3) L (.ref (6000 + j) :: S) M) : zV G X Q nL cells slots pc L (.ref (5000 + j) :: S) M := fun H locs ls hW hS hl => vk_getf h.1 h.2.1 (h.2.2.2.2.2.2.1.2.2.2.1.1 j hj).2.2.1 hS h.2.2.2.1 (h.2.2.2.2.1 _ hw) (fun _ hx => hx) d (k H locs ls hW hS hl)
theorem zV_strc (h : zOk G X own cc nL) {idx j : Nat} (d : decode cc pc = .ok (.getfield idx, 3)) (hw : Cond.fieldLink own idx "java/lang/String" "coder" "B" ∈ zT) (hj : j < 11) (k : zV G X Q nL cells slots (pc + 3) L (.int 0 :: S) M) : zV G X Q nL cells slots pc L (.ref (5000 + j) :: S) M := fun H locs ls hW hS hl => vk_getf h.1 h.2.1 (h.2.2.2.2.2.2.1.2.2.2.1.1 j hj).2.1 hS h.2.2.2.1 (h.2.2.2.2.1 _ hw) (fun _ hx => hx) d (k H locs ls hW hS hl)
theorem zV_strl (h : zOk G X own cc nL) {j : Nat} (d : decode cc pc = .ok (.arraylength, 1)) (hj : j < 11) (k : zV G X Q nL cells slots (pc + 1) L (.int (nI (zSLen.getD j 0)) :: S) M) : zV G X Q nL cells slots pc L (.ref (6000 + j) :: S) M := fun H locs ls hW hS hl => va_tlen h.1 h.2.1 (h.2.2.2.2.2.2.1.2.2.2.1.1 j hj).2.2.2 hS rfl d (k H locs ls hW hS hl)
theorem zSLen_lt : ∀ j, j < 11 → zSLen.getD j 0 < 100 := by decide
theorem zV_strb (h : zOk G X own cc nL) {j k9 : Nat} {i : Int32} (d : decode cc pc = .ok (.baload, 1)) (hj : j < 11) (hi : i = nI k9) (hk9 : k9 < zSLen.getD j 0) (k : zV G X Q nL cells slots (pc + 1) L (.int ((zSByt.getD j []).getD k9 0) :: S) M) : zV G X Q nL cells slots pc L (.int i :: .ref (6000 + j) :: S) M := by
  intro H locs ls hW hS hl
  subst hi
  have h9 := zSLen_lt j hj
  have hcl : (nI k9).toNatClampNeg = k9 := nI_clamp (by omega)
  exact va_tb h.1 h.2.1 (h.2.2.2.2.2.2.1.2.2.2.1.1 j hj).2.2.2 hS (vp_in_nI hk9 (by omega)) (v := .int ((zSByt.getD j []).getD k9 0)) (by rw [hcl]) d (k H locs ls hW hS hl)
theorem zV_getcs (h : zOk G X own cc nL) {idx : Nat} (d : decode cc pc = .ok (.getstatic idx, 3)) (hw : Cond.fieldLink own idx "java/lang/String" "COMPACT_STRINGS" "Z" ∈ zT) (k : zV G X Q nL cells slots (pc + 3) L (.int 1 :: S) M) : zV G X Q nL cells slots pc L S M := fun H locs ls hW hS hl => va_gets h.1 h.2.1 h.2.2.2.2.2.2.1.2.2.1 hS h.2.2.2.1 (h.2.2.2.2.1 _ hw) (fun _ hx => hx) d (k H locs ls hW hS hl)
theorem zV_getsi (h : zOk G X own cc nL) {idx : Nat} (d : decode cc pc = .ok (.getstatic idx, 3)) (hw : Cond.fieldLink own idx "jdk/internal/util/Preconditions" "SIOOBE_FORMATTER" "Ljava/util/function/BiFunction;" ∈ zT) (k : ∀ v : Value, v = .null ∨ v = .ref 4002 → zV G X Q nL cells slots (pc + 3) L (v :: S) M) : zV G X Q nL cells slots pc L S M := fun H locs ls hW hS hl =>
  (h.2.2.2.2.2.2.1.2.2.2.2.2.2.2).elim (fun hz => va_gets h.1 h.2.1 hz hS h.2.2.2.1 (h.2.2.2.2.1 _ hw) (fun _ hx => hx) d (k .null (Or.inl rfl) H locs ls hW hS hl)) (fun hz => va_gets h.1 h.2.1 hz hS h.2.2.2.1 (h.2.2.2.2.1 _ hw) (fun _ hx => hx) d (k (.ref 4002) (Or.inr rfl) H locs ls hW hS hl))
end zText
