section zBuild5
variable {G : zG} {X : zX} {Q : State → Prop} {own : String} {cc : ByteArray} {base cnt nL cells slots pc : Nat} {L S : List Value} {M : zM}
theorem zcl_X11_29 : Cond.classLink RX11 29 "[[I" ∈ zT := zT6 118 (by decide +kernel) rfl
theorem zcl_X11_34 : Cond.classLink RX11 34 "[[[[I" ∈ zT := zT6 120 (by decide +kernel) rfl
theorem zcl_X11_45 : Cond.classLink RX11 45 "[[Z" ∈ zT := zT6 123 (by decide +kernel) rfl
theorem zB_pushN {H H1 : Heap} {A : Nat} (hG : zGo G base) (hW : zWB G base cnt (fun q => base ≤ q) M H) (hz : H.size = base + cnt) (hold : ∀ q, q < H.size → H1[q]? = H[q]?) (hnew : ∀ r, r < A → ∃ c, zOrdL[cnt + r]? = some c ∧ va_at G.2.1 vwCl (G.1 c, zEnP G M c) H1) : zWB G base (cnt + A) (fun q => base ≤ q) M H1 := by
  refine ⟨fun k q hk => ?_, fun i j p q hi hj e => ?_, fun k q hk => ?_⟩
  · obtain ⟨c, h1, h2, rfl⟩ := zBl_in hk
    rcases Nat.lt_or_ge k cnt with h3 | h3
    · have hg := zBl_get (G := G) (M := M) (cnt := cnt) h1 h3
      exact (hW.1.kept (fun k x hx => hold x.1 ((hW.1 k x hx).lt))) _ _ hg
    · obtain ⟨c2, h4, h5⟩ := hnew (k - cnt) (by omega)
      rw [show cnt + (k - cnt) = k by omega] at h4
      cases h1.symm.trans h4
      exact h5
  · obtain ⟨c, h1, h2, rfl⟩ := zBl_in hi
    obtain ⟨c2, h3, h4, rfl⟩ := zBl_in hj
    have e1 := hG _ _ h1
    have e2 := hG _ _ h3
    have e3 : G.1 c = G.1 c2 := e
    omega
  · obtain ⟨c, h1, h2, rfl⟩ := zBl_in hk
    have e1 := hG _ _ h1
    show base ≤ G.1 c
    omega


theorem zB_mna2 {f : State → State} {A B : Nat} {C : Nat → Nat → Cell} {n0 n1 : Int32} {idx c : Nat} {nm : String} {cA : ClassId} (hf : zMk f A B C) (h : zOkB G base X own cc nL) {D mc ms : Nat} (hR : X.2.2.2.1 = zRk D mc ms) (hcl : Cond.classLink own idx nm ∈ zT) (hnm : X.2.2.2.2.1.vm.findClass nm = some cA) (hw : zMw (fun V => X.2.2.2.2.1.vm.Alike V) f A B cA [n0, n1]) (d : decode cc pc = .ok (.multianewarray idx 2, 4)) (hA : 0 < A) (hq : zOrdL[cnt]? = some c) (hnew : ∀ (H1 : Heap), (∀ r, r < A → H1[base + cnt + r]? = some (C (base + cnt) r)) → ∀ r, r < A → ∃ c2, zOrdL[cnt + r]? = some c2 ∧ va_at G.2.1 vwCl (G.1 c2, zEnP G M c2) H1) (hcnt : X.2.2.2.2.1.heap.size + cells = base + cnt ∧ cnt ≤ 402) (hcs : cells + A ≤ mc ∧ slots + B ≤ ms)
    (kk : zB G X Q base (cnt + A) nL (cells + A) (slots + B) (pc + 4) L (.ref c :: S) M) : zB G X Q base cnt nL cells slots pc L (.int n1 :: .int n0 :: S) M := by
  intro H locs ls hW hS hl T hT Xs
  have hz := zB_size h hcnt.1 (by omega) hW hS hT Xs
  have hc := h.2.2.2.2.2.2.2.2 _ _ hq
  obtain ⟨vm₁, hwm, X1, st⟩ := zMna2 Xs h.1 (own := own) h.2.2.2.1 (h.2.2.2.2.1 _ hcl) hnm (g := F0 X.2.2.2.2.2.1 pc ls (.int n1 :: .int n0 :: S.map (zv G))) rfl (by rw [h.2.1]; exact d) rfl hf hw (by rw [hR]; exact hcs.1) (by rw [hR]; exact hcs.2)
  subst hT
  have hsz : T.heap.size = base + cnt := hz
  have hP := zB_pushN (H1 := (f (T.setVm vm₁)).heap) (A := A) h.2.2.2.2.2.2.2.2 hW hz (fun q hq => hf.2.2.2.1 (T.setVm vm₁) q hq) (hnew _ (fun r hr => by
    have h9 := hf.2.2.2.2.1 (T.setVm vm₁) r hr
    rw [show (T.setVm vm₁).heap.size = base + cnt from hsz] at h9
    exact h9))
  obtain ⟨t, ht1, ht2⟩ := kk (f (T.setVm vm₁)).heap locs ls hP ⟨by rw [hf.1]; exact Nat.le_trans hS.1 (Nat.le_add_right _ _), fun x h1 h2 => (hf.2.2.2.1 (T.setVm vm₁) x (Nat.lt_of_lt_of_le h1 hS.1)).trans (hS.2.1 x h1 h2), hS.2.2⟩ hl _ rfl X1
  refine ⟨t, st t ?_, ht2⟩
  rw [hsz]
  rw [List.map_cons, show zv G (.ref c) = .ref (base + cnt) from by show Value.ref (G.1 c) = _; rw [hc]] at ht1
  exact ht1
theorem zB_mna4 {f : State → State} {A B : Nat} {C : Nat → Nat → Cell} {n0 n1 n2 n3 : Int32} {idx c : Nat} {nm : String} {cA : ClassId} (hf : zMk f A B C) (h : zOkB G base X own cc nL) {D mc ms : Nat} (hR : X.2.2.2.1 = zRk D mc ms) (hcl : Cond.classLink own idx nm ∈ zT) (hnm : X.2.2.2.2.1.vm.findClass nm = some cA) (hw : zMw (fun V => X.2.2.2.2.1.vm.Alike V) f A B cA [n0, n1, n2, n3]) (d : decode cc pc = .ok (.multianewarray idx 4, 4)) (hA : 0 < A) (hq : zOrdL[cnt]? = some c) (hnew : ∀ (H1 : Heap), (∀ r, r < A → H1[base + cnt + r]? = some (C (base + cnt) r)) → ∀ r, r < A → ∃ c2, zOrdL[cnt + r]? = some c2 ∧ va_at G.2.1 vwCl (G.1 c2, zEnP G M c2) H1) (hcnt : X.2.2.2.2.1.heap.size + cells = base + cnt ∧ cnt ≤ 402) (hcs : cells + A ≤ mc ∧ slots + B ≤ ms)
    (kk : zB G X Q base (cnt + A) nL (cells + A) (slots + B) (pc + 4) L (.ref c :: S) M) : zB G X Q base cnt nL cells slots pc L (.int n3 :: .int n2 :: .int n1 :: .int n0 :: S) M := by
  intro H locs ls hW hS hl T hT Xs
  have hz := zB_size h hcnt.1 (by omega) hW hS hT Xs
  have hc := h.2.2.2.2.2.2.2.2 _ _ hq
  obtain ⟨vm₁, hwm, X1, st⟩ := zMna4 Xs h.1 (own := own) h.2.2.2.1 (h.2.2.2.2.1 _ hcl) hnm (g := F0 X.2.2.2.2.2.1 pc ls (.int n3 :: .int n2 :: .int n1 :: .int n0 :: S.map (zv G))) rfl (by rw [h.2.1]; exact d) rfl hf hw (by rw [hR]; exact hcs.1) (by rw [hR]; exact hcs.2)
  subst hT
  have hsz : T.heap.size = base + cnt := hz
  have hP := zB_pushN (H1 := (f (T.setVm vm₁)).heap) (A := A) h.2.2.2.2.2.2.2.2 hW hz (fun q hq => hf.2.2.2.1 (T.setVm vm₁) q hq) (hnew _ (fun r hr => by
    have h9 := hf.2.2.2.2.1 (T.setVm vm₁) r hr
    rw [show (T.setVm vm₁).heap.size = base + cnt from hsz] at h9
    exact h9))
  obtain ⟨t, ht1, ht2⟩ := kk (f (T.setVm vm₁)).heap locs ls hP ⟨by rw [hf.1]; exact Nat.le_trans hS.1 (Nat.le_add_right _ _), fun x h1 h2 => (hf.2.2.2.1 (T.setVm vm₁) x (Nat.lt_of_lt_of_le h1 hS.1)).trans (hS.2.1 x h1 h2), hS.2.2⟩ hl _ rfl X1
  refine ⟨t, st t ?_, ht2⟩
  rw [hsz]
  rw [List.map_cons, show zv G (.ref c) = .ref (base + cnt) from by show Value.ref (G.1 c) = _; rw [hc]] at ht1
  exact ht1
end zBuild5
