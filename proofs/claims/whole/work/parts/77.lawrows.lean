section zLaw
variable {G : zG} {X : zX} {Q : State → Prop} {own : String} {cc : ByteArray} {nL cells slots pc : Nat} {L S : List Value} {M : zM}
theorem zV_widen {c1 s1 : Nat} (h1 : cells ≤ c1) (h2 : slots ≤ s1) (k : zV G X Q nL c1 s1 pc L S M) : zV G X Q nL cells slots pc L S M := fun H locs ls hW hS hl => W.widen h1 h2 (k H locs ls hW hS hl)
theorem zN_callV (h : zOk G X own cc nL) {d mc2 ms2 : Nat} (hR : X.2.2.2.1 = room_1) (hd : d < 100) {l : Launch} (hlc : X.2.1 = l) {y : MethodName} {cc2 : ByteArray} {nL2 n ci idx o : Nat} {ret : Option FieldType} {As : List Value} {post : Option Value → zM → Prop} (hC : zCk l G d mc2 ms2 y cc2 nL2 ret (.ref o :: As) M post) (hT : zTgV y cc2 nL2 ret n ci) (hm : Cond.methodLink own idx y ∈ zT) (hs : zSh o = (ci + 1, 0)) (hci : ci < 19) (hn : As.length = n) (hroom : (S.map fun v => v.category).sum ≤ 8) (hdg : decode cc pc = .ok (.invokevirtual idx, 3))
    (kk : ∀ (r : Option Value) (M' : zM), post r M' → zV G X Q nL (cells + mc2) (slots + ms2) (pc + 3) L (r.toList ++ S) M') (hcs : cells + mc2 ≤ 601024 ∧ slots + ms2 ≤ 7293034) : zV G X Q nL cells slots pc L (As.reverse ++ .ref o :: S) M := by
  intro H locs ls hW hS hl
  subst hlc
  obtain ⟨⟨t1, t2, t3, t4⟩, t5, t6, T, N, t7⟩ := hT
  obtain ⟨q, hq, -⟩ := zW_get hW (c := o) (by rw [hs]; exact Nat.succ_ne_zero ci) (zEn_o hs hci)
  have hgood : GoodIn zT (wsV own idx y.cls y (.code y cc2 nL2 ret :: zT)) := by
    intro w hw
    have hm : w ∈ zT := by
      unfold wsV at hw
      simp only [List.cons_append, List.nil_append, List.mem_cons] at hw
      rcases hw with rfl | rfl | rfl | rfl | rfl | hw
      · exact hm
      · exact t5
      · exact t6
      · exact t2
      · exact t1
      · exact hw
    exact ⟨hm, good_of_word (zTg w hm)⟩
  have e : ((As.reverse ++ .ref o :: S).map (zv G)) = (As.map (zv G)).reverse ++ .ref (G.1 o) :: S.map (zv G) := by simp [zv]
  rw [e]
  refine zK_go (As := As) kk hS hl (va_runV (Ts := zT) (As := As.map (zv G)) (n := n) ⟨h.1, h.2.1, h.2.2.1, h.2.2.2.1, h.2.2.2.2.1⟩ (hC H.size) (cwV n h.2.2.2.2.1 hgood rfl rfl rfl ⟨rfl, t4⟩ ⟨?_, ?_⟩) ⟨zPc_blind, va_recv h.2.2.2.2.2.1 hW.1 t7 hq, zPre (As := .ref o :: As) (own2 := own) (cc2 := cc) h hW hS⟩ rfl (by rw [List.length_map]; exact hn) hl.1 rfl (lv_room (by rw [zCat]; exact hroom)) hdg ⟨?_, ?_⟩)
  · rw [hR]; show d + 1 + 1 ≤ 2048; omega
  · rw [hR]; show 8 + (nL2 + 11) + (100 * d + 100) ≤ 84000; omega
  · rw [hR]; exact hcs.1
  · rw [hR]; exact hcs.2
theorem zN_callS (h : zOk G X own cc nL) {d mc2 ms2 : Nat} (hR : X.2.2.2.1 = room_1) (hd : d < 100) {l : Launch} (hlc : X.2.1 = l) {y : MethodName} {cc2 : ByteArray} {nL2 n idx : Nat} {ret : Option FieldType} {As : List Value} {post : Option Value → zM → Prop} (hC : zCk l G d mc2 ms2 y cc2 nL2 ret As M post) (hT : zTgS y cc2 nL2 ret n) (hm : Cond.methodLink own idx y ∈ zT) (hn : As.length = n) (hroom : (S.map fun v => v.category).sum ≤ 8) (hdg : decode cc pc = .ok (.invokestatic idx, 3))
    (kk : ∀ (r : Option Value) (M' : zM), post r M' → zV G X Q nL (cells + mc2) (slots + ms2) (pc + 3) L (r.toList ++ S) M') (hcs : cells + mc2 ≤ 601024 ∧ slots + ms2 ≤ 7293034) : zV G X Q nL cells slots pc L (As.reverse ++ S) M := by
  intro H locs ls hW hS hl
  subst hlc
  obtain ⟨⟨t1, t2, t3, t4⟩, t5⟩ := hT
  have hgood : GoodIn zT (va_wsS own idx y (.code y cc2 nL2 ret :: zT)) := by
    intro w hw
    have hm : w ∈ zT := by
      unfold va_wsS at hw
      simp only [List.cons_append, List.nil_append, List.mem_cons] at hw
      rcases hw with rfl | rfl | rfl | rfl | hw
      · exact hm
      · exact t5
      · exact t2
      · exact t1
      · exact hw
    exact ⟨hm, good_of_word (zTg w hm)⟩
  have e : ((As.reverse ++ S).map (zv G)) = (As.map (zv G)).reverse ++ S.map (zv G) := by simp
  rw [e]
  refine zK_go (As := As) kk hS hl (va_runS (Ts := zT) (As := As.map (zv G)) (n := n) ⟨h.1, h.2.1, h.2.2.1, h.2.2.2.1, h.2.2.2.2.1⟩ (hC H.size) (va_cwS n h.2.2.2.2.1 hgood rfl rfl rfl t4 ⟨?_, ?_⟩) ⟨zPc_blind, zPre (As := As) (own2 := own) (cc2 := cc) h hW hS⟩ rfl (by rw [List.length_map]; exact hn) hl.1 rfl (lv_room (by rw [zCat]; exact hroom)) hdg ⟨?_, ?_⟩)
  · rw [hR]; show d + 1 + 1 ≤ 2048; omega
  · rw [hR]; show 8 + (nL2 + 11) + (100 * d + 100) ≤ 84000; omega
  · rw [hR]; exact hcs.1
  · rw [hR]; exact hcs.2

theorem zN_goW {mc2 ms2 : Nat} {post : Option Value → zM → Prop} {st0 : List Value} (kk : ∀ (r : Option Value) (M' : zM), post r M' → zV G X Q nL (cells + mc2) (slots + ms2) (pc + 3) L (r.toList ++ S) M')
    {H : Heap} {locs : List Loc} {ls : Array Slot} {a : Array Value} (hS : va_S (zA G X.2.2.2.2.1.heap.size) X.2.2.2.2.1.heap H locs) (hl : lv_has ls nL (zL G 0 L))
    (hr : vx_Run X.1 X.2.1 X.2.2.1 X.2.2.2.1 X.2.2.2.2.1 X.2.2.2.2.2.1 X.2.2.2.2.2.2.1 X.2.2.2.2.2.2.2.1 X.2.2.2.2.2.2.2.2.1 X.2.2.2.2.2.2.2.2.2 H locs cells slots mc2 ms2 (F0 X.2.2.2.2.2.1 pc ls st0) (S.map (zv G)) (zQc G post H.size a) zNo3 (zA G H.size)) :
    W X.1 X.2.1 X.2.2.1 X.2.2.2.1 X.2.2.2.2.1 X.2.2.2.2.2.1 X.2.2.2.2.2.2.1 X.2.2.2.2.2.2.2.1 X.2.2.2.2.2.2.2.2.1 X.2.2.2.2.2.2.2.2.2 H locs cells slots Q (F0 X.2.2.2.2.2.1 pc ls st0) := by
  intro T hT Xs
  rcases hr T hT Xs with ⟨v, st₀, t, T', L', h0, X', hL, e1, e2, ⟨⟨r, M', hv, hp', hw'⟩, hF⟩, st⟩ | ⟨q, st₀, t, T', L', E9, ce, h0, X', hL, e1, e2, hf, -⟩
  · cases hv
    obtain ⟨k1, k2, k3⟩ := vx_keep h0 e1 hS (fun q _ hq => zA_sub hS.1 hq) (fun q hq => zA_sub hS.1 hq) hL hF
    have hz : zW G (zA G X.2.2.2.2.1.heap.size) M' T'.heap := by rw [e1]; exact zW_A hw' (fun q hq => zA_sub (Nat.le_trans (Nat.le_refl _) hS.1) hq)
    obtain ⟨t2, a1, b1⟩ := kk r M' hp' T'.heap (locs ++ L') ls hz k3 hl T' rfl X'
    refine ⟨t2, st t2 ?_, b1⟩
    have e : ((r.toList ++ S).map (zv G)) = (r.map (zv G)).toList ++ S.map (zv G) := by cases r <;> simp
    rw [← e]
    exact a1
  · exact hf.elim
theorem zPrh {As : List Value} {H : Heap} {own2 : String} {cc2 : ByteArray} {locs : List Loc} (h : zOk G X own cc nL) (hEx : zEx X.2.2.2.2.1) (hNc : va_Nc zIAE zNSE X.2.2.2.2.1) (hW : zW G (zA G X.2.2.2.2.1.heap.size) M H) (hS : va_S (zA G X.2.2.2.2.1.heap.size) X.2.2.2.2.1.heap H locs) : ∀ U : State, U.heap = H → X.2.2.2.2.1.WarmedH U.vm → zPh G As M H.size (As.map (zv G)).toArray U := by
  intro U hU hWm
  obtain ⟨h1, h2, h3, h4, h5⟩ := zPre (As := As) (own2 := own2) (cc2 := cc2) h hW hS U hU hWm
  exact ⟨h1, h2, h3, h4, h5, hEx.warm hWm, hNc.moved hWm.alike⟩
theorem zN_callW (h : zOk G X own cc nL) (hEx : zEx X.2.2.2.2.1) (hNc : va_Nc zIAE zNSE X.2.2.2.2.1) {d mc2 ms2 : Nat} (hR : X.2.2.2.1 = room_1) (hd : d < 100) {l : Launch} (hlc : X.2.1 = l) {y : MethodName} {cc2 : ByteArray} {nL2 n idx : Nat} {ret : Option FieldType} {hh : List (Nat × Nat × Nat × Nat)} {As : List Value} {post : Option Value → zM → Prop} (hC : zCw l G d mc2 ms2 y cc2 nL2 ret hh As M post) (hT : Cond.codeWith y cc2 nL2 ret hh ∈ zT ∧ Cond.initialized y.cls ∈ zT ∧ nL2 ≤ 80 ∧ (y.cls ≠ "java/lang/invoke/MethodHandle" ∧ y.cls ≠ "java/lang/invoke/VarHandle" ∧ (parseMethodDescriptor y.desc).map (fun d => d.parameters.length) = some n) ∧ Cond.static y ∈ zT) (hm : Cond.methodLink own idx y ∈ zT) (hn : As.length = n) (hroom : (S.map fun v => v.category).sum ≤ 8) (hdg : decode cc pc = .ok (.invokestatic idx, 3))
    (kk : ∀ (r : Option Value) (M' : zM), post r M' → zV G X Q nL (cells + mc2) (slots + ms2) (pc + 3) L (r.toList ++ S) M') (hcs : cells + mc2 ≤ 601024 ∧ slots + ms2 ≤ 7293034) : zV G X Q nL cells slots pc L (As.reverse ++ S) M := by
  intro H locs ls hW hS hl
  subst hlc
  obtain ⟨t1, t2, t3, t4, t5⟩ := hT
  have hgood : GoodIn zT (va_wsS own idx y (.codeWith y cc2 nL2 ret hh :: zT)) := by
    intro w hw
    have hm : w ∈ zT := by
      unfold va_wsS at hw
      simp only [List.cons_append, List.nil_append, List.mem_cons] at hw
      rcases hw with rfl | rfl | rfl | rfl | hw
      · exact hm
      · exact t5
      · exact t2
      · exact t1
      · exact hw
    exact ⟨hm, good_of_word (zTg w hm)⟩
  have e : ((As.reverse ++ S).map (zv G)) = (As.map (zv G)).reverse ++ S.map (zv G) := by simp
  rw [e]
  refine zN_goW kk hS hl (vx_runSX (Ts := zT) (As := As.map (zv G)) (n := n) ⟨h.1, h.2.1, h.2.2.1, h.2.2.2.1, h.2.2.2.2.1⟩ (hC H.size) (vx_cwSW n h.2.2.2.2.1 hgood rfl rfl rfl t4 ⟨?_, ?_⟩) ⟨zPh_blind, zPrh (As := As) (own2 := own) (cc2 := cc) h hEx hNc hW hS⟩ rfl (by rw [List.length_map]; exact hn) hl.1 rfl (lv_room (by rw [zCat]; exact hroom)) hdg ⟨?_, ?_⟩)
  · rw [hR]; show d + 1 + 1 ≤ 2048; omega
  · rw [hR]; show 8 + (nL2 + 11) + (100 * d + 100) ≤ 84000; omega
  · rw [hR]; exact hcs.1
  · rw [hR]; exact hcs.2
/-- the script, by the name 4003 -/
theorem zV_sld (h : zOk G X own cc nL) {xs : Nat → Int32} {b n j : Nat} {i : Int32} (hX : va_X b n xs X.2.2.2.2.1 X.2.2.2.2.1.heap) (hb : b < X.2.2.2.2.1.heap.size ∧ ¬ zA G X.2.2.2.2.1.heap.size b ∧ G.1 4003 = b) (d : decode cc pc = .ok (.iaload, 1)) (hi : i = nI j) (hj : j < n ∧ n < 2 ^ 31) (k : zV G X Q nL cells slots (pc + 1) L (.int (xs j) :: S) M) : zV G X Q nL cells slots pc L (.int i :: .ref (4003 : Nat) :: S) M := by
  intro H locs ls hW hS hl
  subst hi
  have hcl : (nI j).toNatClampNeg = j := nI_clamp (Nat.lt_trans hj.1 hj.2)
  have h9 := va_sld (pc := pc) (ls := ls) (rest := S.map (zv G)) (Q := Q) (cells := cells) (slots := slots) h.1 h.2.1 hX hb.1 hb.2.1 hS (vp_in_nI hj.1 hj.2) d (by rw [hcl]; exact k H locs ls hW hS hl)
  obtain ⟨-, -, e⟩ := hb
  rw [← e] at h9
  exact h9
theorem zV_slen (h : zOk G X own cc nL) {xs : Nat → Int32} {b n : Nat} (hX : va_X b n xs X.2.2.2.2.1 X.2.2.2.2.1.heap) (hb : b < X.2.2.2.2.1.heap.size ∧ ¬ zA G X.2.2.2.2.1.heap.size b ∧ G.1 4003 = b) (d : decode cc pc = .ok (.arraylength, 1)) (k : zV G X Q nL cells slots (pc + 1) L (.int (nI n) :: S) M) : zV G X Q nL cells slots pc L (.ref (4003 : Nat) :: S) M := by
  intro H locs ls hW hS hl
  have h9 := va_slen (pc := pc) (ls := ls) (rest := S.map (zv G)) (Q := Q) (cells := cells) (slots := slots) h.1 h.2.1 hX hb.1 hb.2.1 hS d (k H locs ls hW hS hl)
  obtain ⟨-, -, e⟩ := hb
  rw [← e] at h9
  exact h9
theorem zN_cV0 (h : zOk G X own cc nL) {d0 mc2 ms2 : Nat} (hR : X.2.2.2.1 = room_1) {l : Launch} (hlc : X.2.1 = l) {y : MethodName} {cc2 : ByteArray} {nL2 n ci idx o : Nat} {ret : Option FieldType} {w : Option Value} {M2 : zM} (hdg : decode cc pc = .ok (.invokevirtual idx, 3)) (hC : zCk l G d0 mc2 ms2 y cc2 nL2 ret (.ref o :: []) M (zP w M2)) (hT : zTgV y cc2 nL2 ret n ci) (hn : 0 = n) (hm : Cond.methodLink own idx y ∈ zT) (hs : zSh o = (ci + 1, 0)) (hci : ci < 19 ∧ d0 < 100) (hroom : (S.map fun v => v.category).sum ≤ 8) (hcs : cells + mc2 ≤ 601024 ∧ slots + ms2 ≤ 7293034) (kk : zV G X Q nL (cells + mc2) (slots + ms2) (pc + 3) L (w.toList ++ S) M2) : zV G X Q nL cells slots pc L (.ref o :: S) M := zN_callV (As := []) h hR hci.2 hlc hC hT hm hs hci.1 hn hroom hdg (fun r M' hp => by obtain ⟨rfl, rfl⟩ := hp; exact kk) hcs
theorem zN_cV1 (h : zOk G X own cc nL) {d0 mc2 ms2 : Nat} (hR : X.2.2.2.1 = room_1) {l : Launch} (hlc : X.2.1 = l) {y : MethodName} {cc2 : ByteArray} {nL2 n ci idx o : Nat} {ret : Option FieldType} {v1 : Value} {w : Option Value} {M2 : zM} (hdg : decode cc pc = .ok (.invokevirtual idx, 3)) (hC : zCk l G d0 mc2 ms2 y cc2 nL2 ret (.ref o :: [v1]) M (zP w M2)) (hT : zTgV y cc2 nL2 ret n ci) (hn : 1 = n) (hm : Cond.methodLink own idx y ∈ zT) (hs : zSh o = (ci + 1, 0)) (hci : ci < 19 ∧ d0 < 100) (hroom : (S.map fun v => v.category).sum ≤ 8) (hcs : cells + mc2 ≤ 601024 ∧ slots + ms2 ≤ 7293034) (kk : zV G X Q nL (cells + mc2) (slots + ms2) (pc + 3) L (w.toList ++ S) M2) : zV G X Q nL cells slots pc L (v1 :: .ref o :: S) M := zN_callV (As := [v1]) h hR hci.2 hlc hC hT hm hs hci.1 hn hroom hdg (fun r M' hp => by obtain ⟨rfl, rfl⟩ := hp; exact kk) hcs
theorem zN_cV2 (h : zOk G X own cc nL) {d0 mc2 ms2 : Nat} (hR : X.2.2.2.1 = room_1) {l : Launch} (hlc : X.2.1 = l) {y : MethodName} {cc2 : ByteArray} {nL2 n ci idx o : Nat} {ret : Option FieldType} {v1 v2 : Value} {w : Option Value} {M2 : zM} (hdg : decode cc pc = .ok (.invokevirtual idx, 3)) (hC : zCk l G d0 mc2 ms2 y cc2 nL2 ret (.ref o :: [v1, v2]) M (zP w M2)) (hT : zTgV y cc2 nL2 ret n ci) (hn : 2 = n) (hm : Cond.methodLink own idx y ∈ zT) (hs : zSh o = (ci + 1, 0)) (hci : ci < 19 ∧ d0 < 100) (hroom : (S.map fun v => v.category).sum ≤ 8) (hcs : cells + mc2 ≤ 601024 ∧ slots + ms2 ≤ 7293034) (kk : zV G X Q nL (cells + mc2) (slots + ms2) (pc + 3) L (w.toList ++ S) M2) : zV G X Q nL cells slots pc L (v2 :: v1 :: .ref o :: S) M := zN_callV (As := [v1, v2]) h hR hci.2 hlc hC hT hm hs hci.1 hn hroom hdg (fun r M' hp => by obtain ⟨rfl, rfl⟩ := hp; exact kk) hcs
theorem zN_cW2 (h : zOk G X own cc nL) (hEx : zEx X.2.2.2.2.1) (hNc : va_Nc zIAE zNSE X.2.2.2.2.1) {d0 mc2 ms2 : Nat} (hR : X.2.2.2.1 = room_1) {l : Launch} (hlc : X.2.1 = l) {y : MethodName} {cc2 : ByteArray} {nL2 n idx : Nat} {ret : Option FieldType} {hh : List (Nat × Nat × Nat × Nat)} {v1 v2 : Value} {w : Option Value} {M2 : zM} (hdg : decode cc pc = .ok (.invokestatic idx, 3)) (hC : zCw l G d0 mc2 ms2 y cc2 nL2 ret hh [v1, v2] M (zP w M2)) (hT : Cond.codeWith y cc2 nL2 ret hh ∈ zT ∧ Cond.initialized y.cls ∈ zT ∧ nL2 ≤ 80 ∧ (y.cls ≠ "java/lang/invoke/MethodHandle" ∧ y.cls ≠ "java/lang/invoke/VarHandle" ∧ (parseMethodDescriptor y.desc).map (fun d => d.parameters.length) = some n) ∧ Cond.static y ∈ zT) (hn : 2 = n) (hm : Cond.methodLink own idx y ∈ zT) (hd : d0 < 100) (hroom : (S.map fun v => v.category).sum ≤ 8) (hcs : cells + mc2 ≤ 601024 ∧ slots + ms2 ≤ 7293034) (kk : zV G X Q nL (cells + mc2) (slots + ms2) (pc + 3) L (w.toList ++ S) M2) : zV G X Q nL cells slots pc L (v2 :: v1 :: S) M := zN_callW (As := [v1, v2]) h hEx hNc hR hd hlc hC hT hm hn hroom hdg (fun r M' hp => by obtain ⟨rfl, rfl⟩ := hp; exact kk) hcs
theorem zN_cV3 (h : zOk G X own cc nL) {d0 mc2 ms2 : Nat} (hR : X.2.2.2.1 = room_1) {l : Launch} (hlc : X.2.1 = l) {y : MethodName} {cc2 : ByteArray} {nL2 n ci idx o : Nat} {ret : Option FieldType} {v1 v2 v3 : Value} {w : Option Value} {M2 : zM} (hdg : decode cc pc = .ok (.invokevirtual idx, 3)) (hC : zCk l G d0 mc2 ms2 y cc2 nL2 ret (.ref o :: [v1, v2, v3]) M (zP w M2)) (hT : zTgV y cc2 nL2 ret n ci) (hn : 3 = n) (hm : Cond.methodLink own idx y ∈ zT) (hs : zSh o = (ci + 1, 0)) (hci : ci < 19 ∧ d0 < 100) (hroom : (S.map fun v => v.category).sum ≤ 8) (hcs : cells + mc2 ≤ 601024 ∧ slots + ms2 ≤ 7293034) (kk : zV G X Q nL (cells + mc2) (slots + ms2) (pc + 3) L (w.toList ++ S) M2) : zV G X Q nL cells slots pc L (v3 :: v2 :: v1 :: .ref o :: S) M := zN_callV (As := [v1, v2, v3]) h hR hci.2 hlc hC hT hm hs hci.1 hn hroom hdg (fun r M' hp => by obtain ⟨rfl, rfl⟩ := hp; exact kk) hcs
theorem zN_cW3 (h : zOk G X own cc nL) (hEx : zEx X.2.2.2.2.1) (hNc : va_Nc zIAE zNSE X.2.2.2.2.1) {d0 mc2 ms2 : Nat} (hR : X.2.2.2.1 = room_1) {l : Launch} (hlc : X.2.1 = l) {y : MethodName} {cc2 : ByteArray} {nL2 n idx : Nat} {ret : Option FieldType} {hh : List (Nat × Nat × Nat × Nat)} {v1 v2 v3 : Value} {w : Option Value} {M2 : zM} (hdg : decode cc pc = .ok (.invokestatic idx, 3)) (hC : zCw l G d0 mc2 ms2 y cc2 nL2 ret hh [v1, v2, v3] M (zP w M2)) (hT : Cond.codeWith y cc2 nL2 ret hh ∈ zT ∧ Cond.initialized y.cls ∈ zT ∧ nL2 ≤ 80 ∧ (y.cls ≠ "java/lang/invoke/MethodHandle" ∧ y.cls ≠ "java/lang/invoke/VarHandle" ∧ (parseMethodDescriptor y.desc).map (fun d => d.parameters.length) = some n) ∧ Cond.static y ∈ zT) (hn : 3 = n) (hm : Cond.methodLink own idx y ∈ zT) (hd : d0 < 100) (hroom : (S.map fun v => v.category).sum ≤ 8) (hcs : cells + mc2 ≤ 601024 ∧ slots + ms2 ≤ 7293034) (kk : zV G X Q nL (cells + mc2) (slots + ms2) (pc + 3) L (w.toList ++ S) M2) : zV G X Q nL cells slots pc L (v3 :: v2 :: v1 :: S) M := zN_callW (As := [v1, v2, v3]) h hEx hNc hR hd hlc hC hT hm hn hroom hdg (fun r M' hp => by obtain ⟨rfl, rfl⟩ := hp; exact kk) hcs
theorem zN_cV4 (h : zOk G X own cc nL) {d0 mc2 ms2 : Nat} (hR : X.2.2.2.1 = room_1) {l : Launch} (hlc : X.2.1 = l) {y : MethodName} {cc2 : ByteArray} {nL2 n ci idx o : Nat} {ret : Option FieldType} {v1 v2 v3 v4 : Value} {w : Option Value} {M2 : zM} (hdg : decode cc pc = .ok (.invokevirtual idx, 3)) (hC : zCk l G d0 mc2 ms2 y cc2 nL2 ret (.ref o :: [v1, v2, v3, v4]) M (zP w M2)) (hT : zTgV y cc2 nL2 ret n ci) (hn : 4 = n) (hm : Cond.methodLink own idx y ∈ zT) (hs : zSh o = (ci + 1, 0)) (hci : ci < 19 ∧ d0 < 100) (hroom : (S.map fun v => v.category).sum ≤ 8) (hcs : cells + mc2 ≤ 601024 ∧ slots + ms2 ≤ 7293034) (kk : zV G X Q nL (cells + mc2) (slots + ms2) (pc + 3) L (w.toList ++ S) M2) : zV G X Q nL cells slots pc L (v4 :: v3 :: v2 :: v1 :: .ref o :: S) M := zN_callV (As := [v1, v2, v3, v4]) h hR hci.2 hlc hC hT hm hs hci.1 hn hroom hdg (fun r M' hp => by obtain ⟨rfl, rfl⟩ := hp; exact kk) hcs
theorem zN_cW4 (h : zOk G X own cc nL) (hEx : zEx X.2.2.2.2.1) (hNc : va_Nc zIAE zNSE X.2.2.2.2.1) {d0 mc2 ms2 : Nat} (hR : X.2.2.2.1 = room_1) {l : Launch} (hlc : X.2.1 = l) {y : MethodName} {cc2 : ByteArray} {nL2 n idx : Nat} {ret : Option FieldType} {hh : List (Nat × Nat × Nat × Nat)} {v1 v2 v3 v4 : Value} {w : Option Value} {M2 : zM} (hdg : decode cc pc = .ok (.invokestatic idx, 3)) (hC : zCw l G d0 mc2 ms2 y cc2 nL2 ret hh [v1, v2, v3, v4] M (zP w M2)) (hT : Cond.codeWith y cc2 nL2 ret hh ∈ zT ∧ Cond.initialized y.cls ∈ zT ∧ nL2 ≤ 80 ∧ (y.cls ≠ "java/lang/invoke/MethodHandle" ∧ y.cls ≠ "java/lang/invoke/VarHandle" ∧ (parseMethodDescriptor y.desc).map (fun d => d.parameters.length) = some n) ∧ Cond.static y ∈ zT) (hn : 4 = n) (hm : Cond.methodLink own idx y ∈ zT) (hd : d0 < 100) (hroom : (S.map fun v => v.category).sum ≤ 8) (hcs : cells + mc2 ≤ 601024 ∧ slots + ms2 ≤ 7293034) (kk : zV G X Q nL (cells + mc2) (slots + ms2) (pc + 3) L (w.toList ++ S) M2) : zV G X Q nL cells slots pc L (v4 :: v3 :: v2 :: v1 :: S) M := zN_callW (As := [v1, v2, v3, v4]) h hEx hNc hR hd hlc hC hT hm hn hroom hdg (fun r M' hp => by obtain ⟨rfl, rfl⟩ := hp; exact kk) hcs
theorem zN_cV5 (h : zOk G X own cc nL) {d0 mc2 ms2 : Nat} (hR : X.2.2.2.1 = room_1) {l : Launch} (hlc : X.2.1 = l) {y : MethodName} {cc2 : ByteArray} {nL2 n ci idx o : Nat} {ret : Option FieldType} {v1 v2 v3 v4 v5 : Value} {w : Option Value} {M2 : zM} (hdg : decode cc pc = .ok (.invokevirtual idx, 3)) (hC : zCk l G d0 mc2 ms2 y cc2 nL2 ret (.ref o :: [v1, v2, v3, v4, v5]) M (zP w M2)) (hT : zTgV y cc2 nL2 ret n ci) (hn : 5 = n) (hm : Cond.methodLink own idx y ∈ zT) (hs : zSh o = (ci + 1, 0)) (hci : ci < 19 ∧ d0 < 100) (hroom : (S.map fun v => v.category).sum ≤ 8) (hcs : cells + mc2 ≤ 601024 ∧ slots + ms2 ≤ 7293034) (kk : zV G X Q nL (cells + mc2) (slots + ms2) (pc + 3) L (w.toList ++ S) M2) : zV G X Q nL cells slots pc L (v5 :: v4 :: v3 :: v2 :: v1 :: .ref o :: S) M := zN_callV (As := [v1, v2, v3, v4, v5]) h hR hci.2 hlc hC hT hm hs hci.1 hn hroom hdg (fun r M' hp => by obtain ⟨rfl, rfl⟩ := hp; exact kk) hcs
theorem zN_cW5 (h : zOk G X own cc nL) (hEx : zEx X.2.2.2.2.1) (hNc : va_Nc zIAE zNSE X.2.2.2.2.1) {d0 mc2 ms2 : Nat} (hR : X.2.2.2.1 = room_1) {l : Launch} (hlc : X.2.1 = l) {y : MethodName} {cc2 : ByteArray} {nL2 n idx : Nat} {ret : Option FieldType} {hh : List (Nat × Nat × Nat × Nat)} {v1 v2 v3 v4 v5 : Value} {w : Option Value} {M2 : zM} (hdg : decode cc pc = .ok (.invokestatic idx, 3)) (hC : zCw l G d0 mc2 ms2 y cc2 nL2 ret hh [v1, v2, v3, v4, v5] M (zP w M2)) (hT : Cond.codeWith y cc2 nL2 ret hh ∈ zT ∧ Cond.initialized y.cls ∈ zT ∧ nL2 ≤ 80 ∧ (y.cls ≠ "java/lang/invoke/MethodHandle" ∧ y.cls ≠ "java/lang/invoke/VarHandle" ∧ (parseMethodDescriptor y.desc).map (fun d => d.parameters.length) = some n) ∧ Cond.static y ∈ zT) (hn : 5 = n) (hm : Cond.methodLink own idx y ∈ zT) (hd : d0 < 100) (hroom : (S.map fun v => v.category).sum ≤ 8) (hcs : cells + mc2 ≤ 601024 ∧ slots + ms2 ≤ 7293034) (kk : zV G X Q nL (cells + mc2) (slots + ms2) (pc + 3) L (w.toList ++ S) M2) : zV G X Q nL cells slots pc L (v5 :: v4 :: v3 :: v2 :: v1 :: S) M := zN_callW (As := [v1, v2, v3, v4, v5]) h hEx hNc hR hd hlc hC hT hm hn hroom hdg (fun r M' hp => by obtain ⟨rfl, rfl⟩ := hp; exact kk) hcs
theorem zN_cW6 (h : zOk G X own cc nL) (hEx : zEx X.2.2.2.2.1) (hNc : va_Nc zIAE zNSE X.2.2.2.2.1) {d0 mc2 ms2 : Nat} (hR : X.2.2.2.1 = room_1) {l : Launch} (hlc : X.2.1 = l) {y : MethodName} {cc2 : ByteArray} {nL2 n idx : Nat} {ret : Option FieldType} {hh : List (Nat × Nat × Nat × Nat)} {v1 v2 v3 v4 v5 v6 : Value} {w : Option Value} {M2 : zM} (hdg : decode cc pc = .ok (.invokestatic idx, 3)) (hC : zCw l G d0 mc2 ms2 y cc2 nL2 ret hh [v1, v2, v3, v4, v5, v6] M (zP w M2)) (hT : Cond.codeWith y cc2 nL2 ret hh ∈ zT ∧ Cond.initialized y.cls ∈ zT ∧ nL2 ≤ 80 ∧ (y.cls ≠ "java/lang/invoke/MethodHandle" ∧ y.cls ≠ "java/lang/invoke/VarHandle" ∧ (parseMethodDescriptor y.desc).map (fun d => d.parameters.length) = some n) ∧ Cond.static y ∈ zT) (hn : 6 = n) (hm : Cond.methodLink own idx y ∈ zT) (hd : d0 < 100) (hroom : (S.map fun v => v.category).sum ≤ 8) (hcs : cells + mc2 ≤ 601024 ∧ slots + ms2 ≤ 7293034) (kk : zV G X Q nL (cells + mc2) (slots + ms2) (pc + 3) L (w.toList ++ S) M2) : zV G X Q nL cells slots pc L (v6 :: v5 :: v4 :: v3 :: v2 :: v1 :: S) M := zN_callW (As := [v1, v2, v3, v4, v5, v6]) h hEx hNc hR hd hlc hC hT hm hn hroom hdg (fun r M' hp => by obtain ⟨rfl, rfl⟩ := hp; exact kk) hcs
theorem zN_cW7 (h : zOk G X own cc nL) (hEx : zEx X.2.2.2.2.1) (hNc : va_Nc zIAE zNSE X.2.2.2.2.1) {d0 mc2 ms2 : Nat} (hR : X.2.2.2.1 = room_1) {l : Launch} (hlc : X.2.1 = l) {y : MethodName} {cc2 : ByteArray} {nL2 n idx : Nat} {ret : Option FieldType} {hh : List (Nat × Nat × Nat × Nat)} {v1 v2 v3 v4 v5 v6 v7 : Value} {w : Option Value} {M2 : zM} (hdg : decode cc pc = .ok (.invokestatic idx, 3)) (hC : zCw l G d0 mc2 ms2 y cc2 nL2 ret hh [v1, v2, v3, v4, v5, v6, v7] M (zP w M2)) (hT : Cond.codeWith y cc2 nL2 ret hh ∈ zT ∧ Cond.initialized y.cls ∈ zT ∧ nL2 ≤ 80 ∧ (y.cls ≠ "java/lang/invoke/MethodHandle" ∧ y.cls ≠ "java/lang/invoke/VarHandle" ∧ (parseMethodDescriptor y.desc).map (fun d => d.parameters.length) = some n) ∧ Cond.static y ∈ zT) (hn : 7 = n) (hm : Cond.methodLink own idx y ∈ zT) (hd : d0 < 100) (hroom : (S.map fun v => v.category).sum ≤ 8) (hcs : cells + mc2 ≤ 601024 ∧ slots + ms2 ≤ 7293034) (kk : zV G X Q nL (cells + mc2) (slots + ms2) (pc + 3) L (w.toList ++ S) M2) : zV G X Q nL cells slots pc L (v7 :: v6 :: v5 :: v4 :: v3 :: v2 :: v1 :: S) M := zN_callW (As := [v1, v2, v3, v4, v5, v6, v7]) h hEx hNc hR hd hlc hC hT hm hn hroom hdg (fun r M' hp => by obtain ⟨rfl, rfl⟩ := hp; exact kk) hcs
theorem lg_self (x : Int64) : lg_cmp x x = nI 0 := by
  unfold lg_cmp
  rw [if_neg (show ¬ x > x from Int64.lt_irrefl), if_pos rfl]
  rfl
-- what each kind of call of the law owes: the two answers alike, the invariant behind it
def opI (l : Launch) (G : zG) (I : zM → Prop) (yL : MethodName) (cL : ByteArray) (nLL : Nat) (hh : List (Nat × Nat × Nat × Nat)) (yM : MethodName) (cM : ByteArray) (nLM : Nat) (av : List Value) (M : zM) : Prop :=
  ∃ (k d mc ms : Nat) (b : Int32) (M1 M2 : zM), k < 3 ∧ d < 20 ∧ mc ≤ 14 ∧ ms ≤ 84 ∧ zCw l G 10 1 6 yL cL nLL (some .int) hh (.ref (0 : Nat) :: av ++ [.ref (220 : Nat)]) M (zP (some (.int (nI k))) M1) ∧ zCk l G d mc ms yM cM nLM (some .int) (.ref (300 : Nat) :: av) M1 (zP (some (.int b)) M2) ∧ M2.1 300 0 = nI k ∧ (k = 0 → M2.2 220 0 = b.toInt64) ∧ I M2
def opZ (l : Launch) (G : zG) (I : zM → Prop) (yL : MethodName) (cL : ByteArray) (nLL : Nat) (hh : List (Nat × Nat × Nat × Nat)) (yM : MethodName) (cM : ByteArray) (nLM : Nat) (av : List Value) (M : zM) : Prop :=
  ∃ (k d mc ms : Nat) (b : Bool) (M1 M2 : zM), k < 3 ∧ d < 20 ∧ mc ≤ 14 ∧ ms ≤ 84 ∧ zCw l G 10 1 6 yL cL nLL (some .int) hh (.ref (0 : Nat) :: av ++ [.ref (220 : Nat)]) M (zP (some (.int (nI k))) M1) ∧ zCk l G d mc ms yM cM nLM (some .boolean) (.ref (300 : Nat) :: av) M1 (zP (some (.int (zb b))) M2) ∧ M2.1 300 0 = nI k ∧ (k = 0 → M2.2 220 0 = if b = true then 1 else 0) ∧ I M2
def opJ (l : Launch) (G : zG) (I : zM → Prop) (yL : MethodName) (cL : ByteArray) (nLL : Nat) (hh : List (Nat × Nat × Nat × Nat)) (yM : MethodName) (cM : ByteArray) (nLM : Nat) (av : List Value) (M : zM) : Prop :=
  ∃ (k d mc ms : Nat) (b : Int64) (M1 M2 : zM), k < 3 ∧ d < 20 ∧ mc ≤ 14 ∧ ms ≤ 84 ∧ zCw l G 10 1 6 yL cL nLL (some .int) hh (.ref (0 : Nat) :: av ++ [.ref (220 : Nat)]) M (zP (some (.int (nI k))) M1) ∧ zCk l G d mc ms yM cM nLM (some .long) (.ref (300 : Nat) :: av) M1 (zP (some (.long b)) M2) ∧ M2.1 300 0 = nI k ∧ (k = 0 → M2.2 220 0 = b) ∧ I M2
def opP (l : Launch) (G : zG) (I : zM → Prop) (ret : Option FieldType) (yC : MethodName) (cC : ByteArray) (nLC : Nat) (yM : MethodName) (cM : ByteArray) (nLM : Nat) (av : List Value) (M : zM) : Prop :=
  ∃ (d mc ms : Nat) (b : Int32) (M1 M2 : zM), d < 20 ∧ mc ≤ 14 ∧ ms ≤ 84 ∧ zC l G 9 yC cC nLC ret (.ref (0 : Nat) :: av) M (zP (some (.int b)) M1) ∧ zCk l G d mc ms yM cM nLM ret (.ref (300 : Nat) :: av) M1 (zP (some (.int b)) M2) ∧ I M2
end zLaw
