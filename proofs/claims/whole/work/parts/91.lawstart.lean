section zLaw
theorem zmi_L_109 : Cond.methodLink "OralOrdersLaw" 109 yX10_init ∈ zT := zT1 29 (by decide +kernel) rfl
theorem zmi_L_112 : Cond.methodLink "OralOrdersLaw" 112 yX11_init ∈ zT := zT6 114 (by decide +kernel) rfl
def zPy (M : zM) : Prop := ∀ x, 300 ≤ x → ∀ k, M.1 x k = 0
theorem zPy_le {M : zM} {c k : Nat} {v : Int32} (h : zPy M) (hc : c < 300) : zPy (zw M c k v) := fun x hx j => (zw_ne (Or.inl (by omega))).trans (h x hx j)
theorem zPy_for {M : zM} {a n : Nat} {v : Int32} (h : zPy M) (ha : a < 300) : zPy (zfor (fun i M => zw M a i v) n M) := fun x hx j => (zfor_ne (by omega) n).trans (h x hx j)
set_option maxRecDepth 4000 in
theorem mFace_y : zPy mFace := by
  unfold mFace gBegin lClear bX0 bX2 bX3 bX5 bX6 bX7 bX8 bX4
  refine zPy_for ?_ (by decide)
  refine zPy_for ?_ (by decide)
  (repeat refine zPy_le ?_ (by decide))
  exact fun _ _ _ => rfl
theorem zfor_w2 {a : Nat} {v : Int32} : ∀ (n : Nat) (M : zM), (zfor (fun i M => zw M a i v) n M).2 = M.2
  | 0, _ => rfl
  | n + 1, M => zfor_w2 n M
theorem mBegin_2 : mBegin.2 220 = fun _ => 0 := by
  have e : mBegin.2 = mFace.2 := zfor_w2 7 _
  have e2 : mFace.2 = fun _ _ => 0 := (zfor_w2 7 _).trans ((zfor_w2 7 _).trans rfl)
  rw [e, e2]
def zTyL : List FieldType := [.int, .boolean, .float, .long, .array .int, .array .boolean, .array (.array (.array .int)), .array (.array .int)]
theorem zAc_p {s : State} {args : Array Value} {t : FieldType} (hw : (Cond.arrayClass t).before args s = true) (ht : ∀ c : ClassId, va_RA s c t = (s.vm.findClass (FieldType.array t).toString = some c)) : ∃ c : ClassId, ArrOfT s c t ∧ va_RA s c t := by
  obtain ⟨comp, kC, cc, h1, h2, h3⟩ := Cond.arrayClass_spec hw
  exact ⟨comp, fun n z => ⟨fun k h => (by cases h), kC, h2, cc, h3⟩, by rw [ht]; exact h1⟩
theorem zAc_o {s : State} (hA : zAo s) {t : FieldType} (h9 : t ∈ [(.int : FieldType), .boolean, .array .int, .array (.array .int)]) : ∃ c : ClassId, ArrOfT s c (.array t) ∧ va_RA s c (.array t) := by
  obtain ⟨comp, c, k, h1, h2, h3, h4⟩ := hA t h9
  exact ⟨c, fun n z => ⟨fun k h => (by cases h), k, h2, comp, h3⟩, h4⟩
theorem zAo_of {s : State} {args : Array Value} (hts : ∀ w ∈ lw_tbl, w.before args s = true) : zAo s := by
  intro t ht
  have hm : ∀ t ∈ [(.int : FieldType), .boolean, .array .int, .array (.array .int)], Cond.arrayOver (.array t) ∈ lw_tbl := by decide +kernel
  exact Cond.arrayOver_specA (hts _ (hm t ht))
theorem zAc_all {s : State} {args : Array Value} (hts : ∀ w ∈ lw_tbl, w.before args s = true) : ∃ ac : Nat → ClassId, ∀ (k : Nat) (t : FieldType), zTyL[k]? = some t → ArrOfT s (ac k) t ∧ va_RA s (ac k) t := by
  have hA := zAo_of hts
  have h : ∀ k : Nat, ∃ c : ClassId, ∀ t : FieldType, zTyL[k]? = some t → ArrOfT s c t ∧ va_RA s c t := by
    intro k
    match k with
    | 0 => obtain ⟨c, h⟩ := zAc_p (hts _ (zTsub zar_int)) (fun _ => rfl); exact ⟨c, fun t e => by cases e; exact h⟩
    | 1 => obtain ⟨c, h⟩ := zAc_p (hts _ (zTsub zar_boolean)) (fun _ => rfl); exact ⟨c, fun t e => by cases e; exact h⟩
    | 2 => obtain ⟨c, h⟩ := zAc_p (hts _ (zTsub zar_float)) (fun _ => rfl); exact ⟨c, fun t e => by cases e; exact h⟩
    | 3 => obtain ⟨c, h⟩ := zAc_p (hts _ (zTsub zar_long)) (fun _ => rfl); exact ⟨c, fun t e => by cases e; exact h⟩
    | 4 => obtain ⟨c, h⟩ := zAc_o hA (t := .int) (by simp); exact ⟨c, fun t e => by cases e; exact h⟩
    | 5 => obtain ⟨c, h⟩ := zAc_o hA (t := .boolean) (by simp); exact ⟨c, fun t e => by cases e; exact h⟩
    | 6 => obtain ⟨c, h⟩ := zAc_o hA (t := .array (.array .int)) (by simp); exact ⟨c, fun t e => by cases e; exact h⟩
    | 7 => obtain ⟨c, h⟩ := zAc_o hA (t := .array .int) (by simp); exact ⟨c, fun t e => by cases e; exact h⟩
    | k + 8 => exact ⟨0, fun t e => by simp [zTyL] at e⟩
  obtain ⟨f, hf⟩ := Classical.axiomOfChoice h
  exact ⟨f, fun k t e => hf k t e⟩
theorem zEx_tb : ∀ w ∈ zExL, w ∈ lw_tbl ∧ w.onTables = true := by decide +kernel
theorem zEx_of {s : State} {args : Array Value} (hts : ∀ w ∈ lw_tbl, w.before args s = true) : zEx s := fun w hw => va_Nw.of (zEx_tb w hw).2 (hts _ (zEx_tb w hw).1)
theorem zNe_of {s : State} {args : Array Value} (hts : ∀ w ∈ lw_tbl, w.before args s = true) : zNe s := ⟨fun q hq => va_Nw.of rfl (hts _ (zNe_tb q hq)), zAo_of hts⟩
set_option maxHeartbeats 4000000 in
/-- the law, from its entry: out of an invariant that each kind of call keeps -/
theorem zLaw_start {p : Program} {e : Env} {s : State} {m : MethodId} {below : List Frame} {meth : Method} {c : Code} (l : Launch) {b L : Nat} {xs : Nat → Int32} (hL : L ≤ 3072) (hx : p.tables.exec = Jvm.exec) (hb : c.code = cL_law) (hml : c.maxLocals = 8) (hown : s.vm.findClass "OralOrdersLaw" = some m.cls) (hts : ∀ w ∈ lw_tbl, w.before #[Value.ref b] s = true) (hX : va_X b L xs s s.heap) (hbl : b < s.heap.size) (hlocks : meth.locks = false) (hgv : (Jvm.Cond.and given_1 narrow_1).before #[Value.ref b] s = true) {Q : State → Prop} {I : zM → Prop} (hI : I mBegin) (hall : ∀ (G : zG) (M : zM), I M → opAll l G I M) (hEnd : ∀ (H : Heap) (ls : Array Slot), W p l e room_1 s m #[Value.ref b] below meth c H [] 601024 7293034 Q (F0 m 2453 ls [.int 1])) : W p l e room_1 s m #[Value.ref b] below meth c s.heap [] 0 0 Q (entryFrame m ([Value.ref b] : List Value).toArray 8) := by
  have hg : ∀ w ∈ zNar, w.before #[Value.ref b] s = true := flat_of_before _ hgv
  obtain ⟨tF, tB, adK, adV, f1, f2, f3, f4, f5, f6, f7, f8⟩ := zSt_facts (A := fun q => s.heap.size ≤ q) hts hg (fun a h => Nat.not_le.mpr h)
  obtain ⟨dC, dI, hKc⟩ := zKn_all hts
  obtain ⟨ac, hac⟩ := zAc_all hts
  obtain ⟨G, hGd⟩ : ∃ G : zG, G = (zAd s.heap.size tF tB b adK adV, (dC, dI), ac) := ⟨_, rfl⟩
  have hG : zGo G s.heap.size := fun q c h => by rw [hGd]; exact zAd_in h
  have hGA : ∀ q, zA G s.heap.size q → s.heap.size ≤ q := fun q h => by rw [hGd] at h; exact zAd_A h
  have g1 : G.1 4001 = tF := by rw [hGd]; show zAd s.heap.size tF tB b adK adV 4001 = _; rw [zAd_out (by decide)]; rfl
  have g2 : G.1 4002 = tB := by rw [hGd]; show zAd s.heap.size tF tB b adK adV 4002 = _; rw [zAd_out (by decide)]; rfl
  have g3 : G.1 4003 = b := by rw [hGd]; show zAd s.heap.size tF tB b adK adV 4003 = _; rw [zAd_out (by decide)]; rfl
  have g5 : ∀ i, i < 1000 → G.1 (5000 + i) = adK i := fun i hi => by
    rw [hGd]
    refine (zAd_out (by omega)).trans ?_
    rw [if_neg (by omega), if_neg (by omega), if_neg (by omega), if_pos (by omega), Nat.add_sub_cancel_left]
  have g6 : ∀ i, G.1 (6000 + i) = adV i := fun i => by
    rw [hGd]
    refine (zAd_out (by omega)).trans ?_
    rw [if_neg (by omega), if_neg (by omega), if_neg (by omega), if_neg (by omega), Nat.add_sub_cancel_left]
  have hK : va_K G.2.1 vwCl (zTy G) s := by
    rw [hGd]
    refine ⟨hKc, fun k q hq => ?_⟩
    match k, hq with
    | 0, hq => cases hq; exact hac 0 _ rfl
    | 1, hq => cases hq; exact hac 1 _ rfl
    | 2, hq => cases hq; exact hac 2 _ rfl
    | 3, hq => cases hq; exact hac 3 _ rfl
    | 4, hq => cases hq; exact hac 4 _ rfl
    | 5, hq => cases hq; exact hac 5 _ rfl
    | 6, hq => cases hq; exact hac 6 _ rfl
    | 7, hq => cases hq; exact hac 7 _ rfl
    | k + 8, hq => simp [zTy] at hq
  have hSt0 : zSt G (fun q => s.heap.size ≤ q) s s.heap := by
    refine ⟨by rw [g1]; exact f1, by rw [g1]; exact f2, f3, ⟨fun i hi => ?_, fun i j hi hj e => ?_⟩, fun q hq => ?_, f6, f7, by rw [g2]; exact f8⟩
    · have h9 := f4.1 i hi
      show va_O _ (G.1 (5000 + i)) _ _ _ ∧ va_OF _ _ _ _ (G.1 (5000 + i)) _ _ _ ∧ va_OF _ _ _ (.ref (G.1 (6000 + i))) (G.1 (5000 + i)) _ _ _ ∧ va_T _ (G.1 (6000 + i)) _ _ _ _ _
      rw [g5 i (by omega), g6]
      exact h9
    · refine f4.2 i j hi hj ?_
      have e2 : G.1 (5000 + i) = G.1 (5000 + j) := e
      rw [g5 i (by omega), g5 j (by omega)] at e2
      exact e2
    · have h9 := (zSn_7 q hq).2
      rw [g5 _ (by omega)]
      exact f5 q hq
  have hSt : zSt G (zA G s.heap.size) s s.heap := zSt.next (State.WarmedH.refl s) (fun _ _ _ => rfl) hGA hSt0
  have hB : zOkB G s.heap.size (p, l, e, room_1, s, m, #[Value.ref b], below, meth, c) "OralOrdersLaw" cL_law 8 := ⟨hx, hb, hml, hown, fun w hw => hts _ (zTsub hw), hK, hlocks, Nat.le_refl _, hG⟩
  have hO : zOk G (p, l, e, room_1, s, m, #[Value.ref b], below, meth, c) yL_law.cls cL_law 8 := ⟨hx, hb, hml, hown, fun w hw => hts _ (zTsub hw), hK, hSt, hlocks⟩
  have hNe := zNe_of hts
  have hV := law_loop (Q := Q) (c0 := 403) (s0 := 10926) l hO (zEx_of hts) (va_Nc.of (hg _ (by decide +kernel))) rfl rfl hX ⟨hbl, fun h => absurd (hGA b h) (Nat.not_le.mpr hbl), g3⟩ hL ⟨by decide, by decide⟩ (hall G) (fun L9 M hM H locs ls hW hS hl => va_forget (fun q hq => hGA _ (hS.2.2 q hq)) (hEnd H ls)) (L + 7) 0 mBegin .null .null .null (by omega) (by omega) hI
  have key : zB G (p, l, e, room_1, s, m, #[Value.ref b], below, meth, c) Q s.heap.size 0 8 0 0 0 [.ref (4003 : Nat), .null, .null, .null, .null, .null, .null, .null] [] mZero := by
    refine zBL_newo hB rfl (c := 0) (N := 12) zdf_8 zcn_L_8 dL_law_0 (by decide +kernel) (by decide +kernel) (fun _ => rfl) ⟨rfl, by decide⟩ ⟨by decide, by decide⟩ ?_
    refine zB_dup hB dL_law_3 rfl ?_
    refine zBL_init hB hNe rfl (by decide) rfl (zc_X10init l G _) zti_X10 zmi_L_109 dL_law_4 (Nat.le_of_ble_eq_true rfl) ⟨rfl, by decide⟩ ⟨by decide, by decide⟩ ?_
    refine zB_astore_n hB dL_law_7 (by decide) ?_
    dsimp only [zst1, zst2, zclr, zc2]
    refine zBL_newo hB rfl (c := 300) (N := 64) zdf_9 zcn_L_110 dL_law_8 (by decide +kernel) (by decide +kernel) (mFace_y 300 (Nat.le_refl _)) ⟨rfl, by decide⟩ ⟨by decide, by decide⟩ ?_
    refine zB_dup hB dL_law_11 rfl ?_
    refine zBL_init hB hNe rfl (by decide) rfl (zc_X11init l G mFace _ mFace_z) zti_X11 zmi_L_112 dL_law_12 (Nat.le_of_ble_eq_true rfl) ⟨rfl, by decide⟩ ⟨by decide, by decide⟩ ?_
    refine zB_astore_n hB dL_law_15 (by decide) ?_
    dsimp only [zst1, zst2, zclr, zc2]
    refine zB_iconst hB (v := nI 1) dL_law_16 (by decide) ?_
    refine zBL_newa hB rfl (t := .long) (c := 220) (n := 1) (tn := 3) zar_long dL_law_17 zOrd_last ⟨rfl, rfl⟩ (zEnP_l (n := 1) (by decide +kernel)) (fun cA => by show vp_cell cA (1, .inr (.inl (mBegin.2 220))) = _; rw [mBegin_2]; rfl) ⟨by decide, by decide⟩ ⟨rfl, by decide⟩ ⟨by decide, by decide⟩ ?_
    refine zB_astore_n hB dL_law_19 (by decide) ?_
    dsimp only [zst1, zst2, zclr, zc2]
    refine zB_iconst hB (v := nI 0) dL_law_20 (by decide) ?_
    refine zB_istore hB dL_law_21 (by decide) ?_
    dsimp only [zst1, zst2, zclr, zc2]
    intro H locs ls hW hS hl
    exact hV H locs ls (zWB_W hG mBegin_ptr hW) ⟨hS.1, fun q h1 h2 => hS.2.1 q h1 (fun h3 => h2 (Or.inr h3)), fun q hq => Or.inr (hS.2.2 q hq)⟩ hl
  have hl := lv_entry ([.ref b] : List Value) (n := 8) (Nat.le_of_ble_eq_true rfl)
  rw [lg_entry_eq]
  generalize (lg_sl ([.ref b]) ++ List.replicate (8 - (lg_sl ([.ref b])).length) Slot.unset).toArray = ls at hl ⊢
  have hl2 : lv_has ls 8 [(0, .ref b)] := hl
  refine key s.heap [] ls ⟨fun k q h => by simp [zBl] at h, fun i j p q h => by simp [zBl] at h, fun k q h => by simp [zBl] at h⟩ va_S.rf ?_
  show lv_has ls 8 [(0, .ref (G.1 4003))]
  rw [g3]
  exact hl2
end zLaw
