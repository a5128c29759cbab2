-- how the cells come, one by one
def zOrdL : List Nat := [0, 20, 200, 202, 203, 204, 205, 206, 207, 208, 24, 40, 180, 182, 183, 184, 185, 186, 187, 188, 45, 50, 190, 192, 193, 194, 195, 196, 197, 198, 55, 60, 64, 65, 66, 67, 73, 74, 75, 76, 77, 78, 79, 80, 90, 94, 95, 96, 97, 103, 104, 105, 106, 107, 108, 109, 110, 120, 125, 126, 127, 129, 130, 131, 132, 140, 143, 144, 145, 146, 147, 150, 153, 154, 155, 156, 157, 160, 161, 162, 163, 170, 171, 172, 173, 10, 300, 302, 309, 313, 314, 1208, 1209, 315, 3000, 3010, 3100, 3101, 3102, 3103, 3104, 3105, 3106, 3107, 3108, 3109, 3110, 3111, 3112, 3011, 3113, 3114, 3115, 3116, 3117, 3118, 3119, 3120, 3121, 3122, 3123, 3124, 3125, 3012, 3126, 3127, 3128, 3129, 3130, 3131, 3132, 3133, 3134, 3135, 3136, 3137, 3138, 3013, 3139, 3140, 3141, 3142, 3143, 3144, 3145, 3146, 3147, 3148, 3149, 3150, 3151, 3014, 3152, 3153, 3154, 3155, 3156, 3157, 3158, 3159, 3160, 3161, 3162, 3163, 3164, 3015, 3165, 3166, 3167, 3168, 3169, 3170, 3171, 3172, 3173, 3174, 3175, 3176, 3177, 3016, 3178, 3179, 3180, 3181, 3182, 3183, 3184, 3185, 3186, 3187, 3188, 3189, 3190, 3001, 3017, 3191, 3192, 3193, 3194, 3195, 3196, 3197, 3198, 3199, 3200, 3201, 3202, 3203, 3018, 3204, 3205, 3206, 3207, 3208, 3209, 3210, 3211, 3212, 3213, 3214, 3215, 3216, 3019, 3217, 3218, 3219, 3220, 3221, 3222, 3223, 3224, 3225, 3226, 3227, 3228, 3229, 3020, 3230, 3231, 3232, 3233, 3234, 3235, 3236, 3237, 3238, 3239, 3240, 3241, 3242, 3021, 3243, 3244, 3245, 3246, 3247, 3248, 3249, 3250, 3251, 3252, 3253, 3254, 3255, 3022, 3256, 3257, 3258, 3259, 3260, 3261, 3262, 3263, 3264, 3265, 3266, 3267, 3268, 3023, 3269, 3270, 3271, 3272, 3273, 3274, 3275, 3276, 3277, 3278, 3279, 3280, 3281, 321, 1320, 1321, 1322, 1323, 1324, 1325, 1326, 322, 1336, 1337, 1338, 1339, 1340, 1341, 1342, 323, 1352, 1353, 1354, 1355, 1356, 1357, 1358, 324, 328, 330, 331, 332, 333, 334, 335, 1544, 1545, 1546, 1547, 1548, 1549, 1550, 336, 1560, 1561, 1562, 1563, 1564, 1565, 1566, 337, 1576, 1577, 1578, 1579, 1580, 1581, 1582, 338, 1592, 1593, 1594, 1595, 1596, 1597, 1598, 343, 344, 345, 346, 347, 350, 1784, 1785, 1786, 1787, 1788, 1789, 1790, 351, 1800, 1801, 1802, 1803, 1804, 1805, 1806, 352, 1816, 1817, 1818, 1819, 1820, 1821, 1822, 353, 1832, 1833, 1834, 1835, 1836, 1837, 1838, 354, 355, 356, 357, 358, 360, 361, 362, 363, 364, 220]
theorem zOrd_nd : zOrdL.Nodup := by decide +kernel
theorem zOrd_all1 : ∀ i, i < 60 → ∀ j, j < 55 → (zSh (55 * i + j)).1 ≠ 0 → (55 * i + j) ∈ zOrdL := by decide +kernel
theorem zOrd_all (c : Nat) (hc : c < 3300) (h : (zSh c).1 ≠ 0) : c ∈ zOrdL := by
  have h1 := zOrd_all1 (c / 55) (by omega) (c % 55) (Nat.mod_lt _ (by decide))
  rw [Nat.div_add_mod] at h1
  exact h1 h
theorem zOrd_sh : ∀ c ∈ zOrdL, (zSh c).1 ≠ 0 := by decide +kernel
theorem zOrd_q {q q2 c : Nat} (h : zOrdL[q]? = some c) (h2 : zOrdL[q2]? = some c) : q = q2 := (List.getElem?_inj (List.getElem?_eq_some_iff.mp h).1 zOrd_nd).mp (h.trans h2.symm)
section zBuild
variable {G : zG} {X : zX} {Q : State → Prop} {own : String} {cc : ByteArray} {base cnt nL cells slots pc : Nat} {L S : List Value} {M : zM}
/-- a field while its object is built: a reference is null as long as the memory has 0 for it -/
def zFvP (G : zG) (M : zM) (o k : Nat) : Nat → Value
  | 0 => .int (M.1 o k)
  | 1 => if M.1 o k = 0 then .null else .ref (G.1 (o + 1 + k))
  | 2 => if M.1 o k = 0 then .null else .ref (G.1 (M.1 o k).toNatClampNeg)
  | j + 3 => if M.1 o k = 0 then .null else .ref (G.1 j)
def zFsP (G : zG) (M : zM) (o ci : Nat) : List Value := (zFkL.getD ci []).mapIdx (fun k code => zFvP G M o k code)
def zEnP (G : zG) (M : zM) (c : Nat) : va_E := if (zSh c).1 < 20 then .inr ((zSh c).1 - 1, zFsP G M c ((zSh c).1 - 1)) else zEn G M c
theorem zEnP_o {c ci n : Nat} (h : zSh c = (ci + 1, n)) (hc : ci < 19) : zEnP G M c = .inr (ci, zFsP G M c ci) := by
  unfold zEnP
  rw [h, if_pos (show ci + 1 < 20 by omega)]
  rfl
theorem zEnP_a {c t n : Nat} (h : zSh c = (20 + t, n)) : zEnP G M c = zEn G M c := by
  unfold zEnP
  rw [h, if_neg (show ¬ 20 + t < 20 by omega)]
theorem zEnP_i {c n : Nat} (h : zSh c = (20, n)) : zEnP G M c = .inl (G.2.2 0, n, .inl (M.1 c)) := (zEnP_a (t := 0) h).trans (zEn_i h)
theorem zEnP_z {c n : Nat} (h : zSh c = (21, n)) : zEnP G M c = .inl (G.2.2 1, n, .inl (M.1 c)) := (zEnP_a (t := 1) h).trans (zEn_z h)
theorem zEnP_f {c n : Nat} (h : zSh c = (22, n)) : zEnP G M c = .inl (G.2.2 2, n, .inr (.inr (.inl (fun i => (M.1 c i).toUInt32)))) := (zEnP_a (t := 2) h).trans (zEn_f h)
theorem zEnP_l {c n : Nat} (h : zSh c = (23, n)) : zEnP G M c = .inl (G.2.2 3, n, .inr (.inl (M.2 c))) := (zEnP_a (t := 3) h).trans (zEn_l h)
theorem zEnP_q {c n j : Nat} (h : zSh c = (24 + j, n)) : zEnP G M c = .inl (G.2.2 (4 + j), n, .inr (.inr (.inr (.inr (fun i => some (G.1 (zCh c i))))))) := (zEnP_a (t := 4 + j) (by rw [h]; congr 1; omega)).trans (zEn_q h)
theorem zEnP_same {M' : zM} {c : Nat} (h1 : M'.1 c = M.1 c) (h2 : M'.2 c = M.2 c) : zEnP G M' c = zEnP G M c := by
  unfold zEnP
  rw [zEn_same h1 h2]
  congr 1
  congr 1
  congr 1
  unfold zFsP
  congr 1
  funext k code
  cases code with
  | zero => show Value.int (M'.1 c k) = _; rw [h1]; rfl
  | succ j =>
    cases j with
    | zero => show (if M'.1 c k = 0 then Value.null else _) = _; rw [h1]; rfl
    | succ j =>
      cases j with
      | zero => show (if M'.1 c k = 0 then Value.null else _) = _; rw [h1]; rfl
      | succ j => show (if M'.1 c k = 0 then Value.null else _) = _; rw [h1]; rfl
theorem zw_othP {c a k : Nat} {x : Int32} (h : a ≠ c) : zEnP G (zw M c k x) a = zEnP G M a := zEnP_same (by simp [zw, h]) rfl
def zBl (G : zG) (M : zM) (cnt : Nat) : va_W := (zOrdL.take cnt).map (fun c => (G.1 c, zEnP G M c))
theorem zBl_in {k : Nat} {q : Nat × va_E} (h : (zBl G M cnt)[k]? = some q) : ∃ c, zOrdL[k]? = some c ∧ k < cnt ∧ q = (G.1 c, zEnP G M c) := by
  unfold zBl at h
  rw [List.getElem?_map] at h
  cases hx : (zOrdL.take cnt)[k]? with
  | none => rw [hx] at h; cases h
  | some c =>
    rw [hx] at h
    cases h
    rw [List.getElem?_take] at hx
    split at hx
    · rename_i hk; exact ⟨c, hx, hk, rfl⟩
    · cases hx
theorem zBl_get {k c : Nat} (h : zOrdL[k]? = some c) (hk : k < cnt) : (zBl G M cnt)[k]? = some (G.1 c, zEnP G M c) := by
  unfold zBl
  rw [List.getElem?_map, List.getElem?_take, if_pos hk, h]; rfl
/-- a cell that is there -/
def zHas (cnt c : Nat) : Prop := ∃ q, zOrdL[q]? = some c ∧ q < cnt
theorem zHas.lt {c c2 : Nat} (h : zHas cnt c) (h2 : cnt ≤ c2) : zHas c2 c := h.imp (fun q hq => ⟨hq.1, Nat.lt_of_lt_of_le hq.2 h2⟩)
theorem zBl_at {c : Nat} {e0 : va_E} (hc : zHas cnt c) (he0 : zEnP G M c = e0) : ∃ q : Nat, (zBl G M cnt)[q]? = some (G.1 c, e0) ∧ ∀ (M' : zM) (e : va_E), zEnP G M' c = e → (∀ a : Nat, a ≠ c → zEnP G M' a = zEnP G M a) → (zBl G M cnt).set q (G.1 c, e) = zBl G M' cnt := by
  subst he0
  obtain ⟨q, hq, hk⟩ := hc
  have hg := zBl_get (G := G) (M := M) hq hk
  refine ⟨q, hg, fun M' e he ho => ?_⟩
  apply List.ext_getElem?
  intro i
  by_cases hi : i = q
  · subst hi
    rw [List.getElem?_set_self (List.getElem?_eq_some_iff.mp hg).1, zBl_get hq hk, he]
  · rw [List.getElem?_set_ne (Ne.symm hi)]
    cases hx : (zBl G M cnt)[i]? with
    | none =>
      cases hy : (zBl G M' cnt)[i]? with
      | none => rfl
      | some y =>
        obtain ⟨c2, h1, h2, -⟩ := zBl_in hy
        rw [zBl_get h1 h2] at hx; cases hx
    | some x =>
      obtain ⟨c2, h1, h2, rfl⟩ := zBl_in hx
      have hne : c2 ≠ c := fun e2 => hi (zOrd_q h1 (by rw [e2]; exact hq))
      rw [zBl_get h1 h2, ho c2 hne]
theorem zBl_push {c : Nat} (h : zOrdL[cnt]? = some c) : zBl G M (cnt + 1) = zBl G M cnt ++ [(G.1 c, zEnP G M c)] := by
  unfold zBl
  rw [List.take_add_one, h, List.map_append]; rfl
def zWB (G : zG) (base cnt : Nat) (A : Nat → Prop) (M : zM) (H : Heap) : Prop := va_P G.2.1 vwCl (zBl G M cnt) H ∧ va_D A (zBl G M cnt)
def zGo (G : zG) (base : Nat) : Prop := ∀ q c, zOrdL[q]? = some c → G.1 c = base + q
def zOkB (G : zG) (base : Nat) (X : zX) (own : String) (cc : ByteArray) (nL : Nat) : Prop :=
  X.1.tables.exec = Jvm.exec ∧ X.2.2.2.2.2.2.2.2.2.code = cc ∧ X.2.2.2.2.2.2.2.2.2.maxLocals = nL ∧ X.2.2.2.2.1.vm.findClass own = some X.2.2.2.2.2.1.cls ∧ (∀ w ∈ zT, w.before X.2.2.2.2.2.2.1 X.2.2.2.2.1 = true) ∧ va_K G.2.1 vwCl (zTy G) X.2.2.2.2.1 ∧ X.2.2.2.2.2.2.2.2.1.locks = false ∧ base ≤ X.2.2.2.2.1.heap.size ∧ zGo G base
def zB (G : zG) (X : zX) (Q : State → Prop) (base cnt nL cells slots pc : Nat) (L S : List Value) (M : zM) : Prop :=
  ∀ (H : Heap) (locs : List Loc) (ls : Array Slot), zWB G base cnt (fun q => base ≤ q) M H → va_S (fun q => base ≤ q) X.2.2.2.2.1.heap H locs → lv_has ls nL (zL G 0 L) →
    W X.1 X.2.1 X.2.2.1 X.2.2.2.1 X.2.2.2.2.1 X.2.2.2.2.2.1 X.2.2.2.2.2.2.1 X.2.2.2.2.2.2.2.1 X.2.2.2.2.2.2.2.2.1 X.2.2.2.2.2.2.2.2.2 H locs cells slots Q (F0 X.2.2.2.2.2.1 pc ls (S.map (zv G)))
theorem zWB_get {c : Nat} {e0 : va_E} {A : Nat → Prop} {H : Heap} (hW : zWB G base cnt A M H) (hc : zHas cnt c) (he : zEnP G M c = e0) : ∃ q : Nat, (zBl G M cnt)[q]? = some (G.1 c, e0) ∧ ∀ (M' : zM) (e : va_E) (H' : Heap), zEnP G M' c = e → (∀ a : Nat, a ≠ c → zEnP G M' a = zEnP G M a) → va_P G.2.1 vwCl ((zBl G M cnt).set q (G.1 c, e)) H' → va_D A ((zBl G M cnt).set q (G.1 c, e)) → zWB G base cnt A M' H' := by
  obtain ⟨q, h1, h2⟩ := zBl_at (G := G) (M := M) hc he
  refine ⟨q, h1, fun M' e H' h3 h4 hP hD => ?_⟩
  rw [h2 M' e h3 h4] at hP hD
  exact ⟨hP, hD⟩
theorem zB_iconst (h : zOkB G base X own cc nL) {n : Int} {v : Int32} (d : decode cc pc = .ok (.iconst n, 1)) (hv : Int32.ofInt n = v) (k : zB G X Q base cnt nL cells slots (pc + 1) L (.int v :: S) M) : zB G X Q base cnt nL cells slots pc L S M := fun H locs ls hW hS hl => lv_iconst h.1 h.2.1 d hv (k H locs ls hW hS hl)
theorem zB_bipush (h : zOkB G base X own cc nL) {n : Int} {v : Int32} (d : decode cc pc = .ok (.bipush n, 2)) (hv : (Int8.ofInt n).toInt32 = v) (k : zB G X Q base cnt nL cells slots (pc + 2) L (.int v :: S) M) : zB G X Q base cnt nL cells slots pc L S M := fun H locs ls hW hS hl => lv_bipush h.1 h.2.1 d hv (k H locs ls hW hS hl)
theorem zB_sipush (h : zOkB G base X own cc nL) {n : Int} {v : Int32} (d : decode cc pc = .ok (.sipush n, 3)) (hv : (Int16.ofInt n).toInt32 = v) (k : zB G X Q base cnt nL cells slots (pc + 3) L (.int v :: S) M) : zB G X Q base cnt nL cells slots pc L S M := fun H locs ls hW hS hl => lv_sipush h.1 h.2.1 d hv (k H locs ls hW hS hl)
theorem zB_iload_n (h : zOkB G base X own cc nL) {k9 : Fin 4} {x : Int32} (d : decode cc pc = .ok (.iload_n k9, 1)) (hx : L[(k9 : Nat)]? = some (.int x)) (k : zB G X Q base cnt nL cells slots (pc + 1) L (.int x :: S) M) : zB G X Q base cnt nL cells slots pc L S M := fun H locs ls hW hS hl => lv_iload_n h.1 h.2.1 d rfl (zL_get hl hx (fun e => by cases e)) (k H locs ls hW hS hl)
theorem zB_iload (h : zOkB G base X own cc nL) {k9 : Nat} {x : Int32} (d : decode cc pc = .ok (.iload k9, 2)) (hx : L[k9]? = some (.int x)) (k : zB G X Q base cnt nL cells slots (pc + 2) L (.int x :: S) M) : zB G X Q base cnt nL cells slots pc L S M := fun H locs ls hW hS hl => lv_iload h.1 h.2.1 d (zL_get hl hx (fun e => by cases e)) (k H locs ls hW hS hl)
theorem zB_istore_n (h : zOkB G base X own cc nL) {k9 : Fin 4} {x : Int32} (d : decode cc pc = .ok (.istore_n k9, 1)) (hn : (k9 : Nat) < nL) (k : zB G X Q base cnt nL cells slots (pc + 1) (zst1 L (k9 : Nat) (.int x)) S M) : zB G X Q base cnt nL cells slots pc L (.int x :: S) M := fun H locs ls hW hS hl => lv_istore_n h.1 h.2.1 d rfl hl hn rfl (fun ls hl => k H locs ls hW hS (zst1_has (v := .int x) rfl hl))
theorem zB_istore (h : zOkB G base X own cc nL) {k9 : Nat} {x : Int32} (d : decode cc pc = .ok (.istore k9, 2)) (hn : k9 < nL) (k : zB G X Q base cnt nL cells slots (pc + 2) (zst1 L k9 (.int x)) S M) : zB G X Q base cnt nL cells slots pc L (.int x :: S) M := fun H locs ls hW hS hl => lv_istore h.1 h.2.1 d hl hn rfl (fun ls hl => k H locs ls hW hS (zst1_has (v := .int x) rfl hl))
theorem zB_aload_n (h : zOkB G base X own cc nL) {k9 : Fin 4} {x : Nat} (d : decode cc pc = .ok (.aload_n k9, 1)) (hx : L[(k9 : Nat)]? = some (.ref x)) (k : zB G X Q base cnt nL cells slots (pc + 1) L (.ref x :: S) M) : zB G X Q base cnt nL cells slots pc L S M := fun H locs ls hW hS hl => lv_aload_n h.1 h.2.1 d rfl (zL_get hl hx (fun e => by cases e)) (k H locs ls hW hS hl)
theorem zB_astore_n (h : zOkB G base X own cc nL) {k9 : Fin 4} {x : Nat} (d : decode cc pc = .ok (.astore_n k9, 1)) (hn : (k9 : Nat) < nL) (k : zB G X Q base cnt nL cells slots (pc + 1) (zst1 L (k9 : Nat) (.ref x)) S M) : zB G X Q base cnt nL cells slots pc L (.ref x :: S) M := fun H locs ls hW hS hl => lv_astore_n h.1 h.2.1 d rfl hl hn rfl (fun ls hl => k H locs ls hW hS (zst1_has (v := .ref x) rfl hl))
theorem zB_iinc (h : zOkB G base X own cc nL) {k9 : Nat} {n : Int} {x v : Int32} (d : decode cc pc = .ok (.iinc k9 n, 3)) (hx : L[k9]? = some (.int x)) (hv : x + Int32.ofInt n = v) (hn : k9 < nL) (k : zB G X Q base cnt nL cells slots (pc + 3) (zst1 L k9 (.int v)) S M) : zB G X Q base cnt nL cells slots pc L S M := by
  intro H locs ls hW hS hl
  have h1 := zL_at (G := G) L 0 k9 _ hx (fun e => by cases e)
  rw [Nat.zero_add] at h1
  obtain ⟨j, hj⟩ := List.getElem?_of_mem h1
  exact lv_iinc h.1 h.2.1 d hl hj hv hn rfl (fun ls hl => k H locs ls hW hS (zst1_has (v := .int v) rfl hl))
theorem zB_dup (h : zOkB G base X own cc nL) {v : Value} (d : decode cc pc = .ok (.dup, 1)) (hc : v.category = 1) (k : zB G X Q base cnt nL cells slots (pc + 1) L (v :: v :: S) M) : zB G X Q base cnt nL cells slots pc L (v :: S) M := fun H locs ls hW hS hl => lv_dup h.1 h.2.1 d ((zv_cat G v).trans hc) (k H locs ls hW hS hl)
theorem zB_icmp_ge (h : zOkB G base X own cc nL) {x y : Int32} {off : Int} {tgt : Nat} (d : decode cc pc = .ok (.if_icmp .ge off, 3)) (ht : (pc : Int) + off = (tgt : Int)) (kt : y ≤ x → zB G X Q base cnt nL cells slots tgt L S M) (kf : ¬ y ≤ x → zB G X Q base cnt nL cells slots (pc + 3) L S M) : zB G X Q base cnt nL cells slots pc L (.int y :: .int x :: S) M := fun H locs ls hW hS hl => lv_icmp_ge h.1 h.2.1 d ht (fun q => kt q H locs ls hW hS hl) (fun q => kf q H locs ls hW hS hl)
theorem zB_goto (h : zOkB G base X own cc nL) {off : Int} {tgt : Nat} (d : decode cc pc = .ok (.goto off, 3)) (ht : (pc : Int) + off = (tgt : Int)) (k : zB G X Q base cnt nL cells slots tgt L S M) : zB G X Q base cnt nL cells slots pc L S M := fun H locs ls hW hS hl => lv_goto h.1 h.2.1 d ht (k H locs ls hW hS hl)
theorem zB_iadd (h : zOkB G base X own cc nL) {x y : Int32} (d : decode cc pc = .ok (.iadd, 1)) (k : zB G X Q base cnt nL cells slots (pc + 1) L (.int (x + y) :: S) M) : zB G X Q base cnt nL cells slots pc L (.int y :: .int x :: S) M := fun H locs ls hW hS hl => lv_iadd h.1 h.2.1 d (k H locs ls hW hS hl)
theorem zB_topi {x : Int32} (y : Int32) (e : x = y) (k : zB G X Q base cnt nL cells slots pc L (.int y :: S) M) : zB G X Q base cnt nL cells slots pc L (.int x :: S) M := e ▸ k
theorem zB_mem {M' : zM} (e : M = M') (k : zB G X Q base cnt nL cells slots pc L S M') : zB G X Q base cnt nL cells slots pc L S M := e ▸ k
theorem zB_loc {L' : List Value} (e : L = L') (k : zB G X Q base cnt nL cells slots pc L' S M) : zB G X Q base cnt nL cells slots pc L S M := e ▸ k
theorem zB_iaddN (h : zOkB G base X own cc nL) {a b : Nat} (d : decode cc pc = .ok (.iadd, 1)) (k : zB G X Q base cnt nL cells slots (pc + 1) L (.int (nI (a + b)) :: S) M) : zB G X Q base cnt nL cells slots pc L (.int (nI b) :: .int (nI a) :: S) M := zB_iadd h d (zB_topi _ (nI_add a b) k)
theorem zB_iincN (h : zOkB G base X own cc nL) {k9 a b : Nat} (d : decode cc pc = .ok (.iinc k9 (b : Int), 3)) (hx : L[k9]? = some (.int (nI a))) (hn : k9 < nL) (k : zB G X Q base cnt nL cells slots (pc + 3) (zst1 L k9 (.int (nI (a + b)))) S M) : zB G X Q base cnt nL cells slots pc L S M := zB_iinc h d hx (nI_inc a b) hn k
theorem zB_icmp_geN (h : zOkB G base X own cc nL) {a b : Nat} {off : Int} {tgt : Nat} (d : decode cc pc = .ok (.if_icmp .ge off, 3)) (ht : (pc : Int) + off = (tgt : Int)) (ha : a < 2 ^ 31 ∧ b < 2 ^ 31) (kt : b ≤ a → zB G X Q base cnt nL cells slots tgt L S M) (kf : a < b → zB G X Q base cnt nL cells slots (pc + 3) L S M) : zB G X Q base cnt nL cells slots pc L (.int (nI b) :: .int (nI a) :: S) M := zB_icmp_ge h d ht (fun q => kt ((nI_leI ha.2 ha.1).mp q)) (fun q => kf (Nat.lt_of_not_le (fun e => q ((nI_leI ha.2 ha.1).mpr e))))
theorem zB_iald (h : zOkB G base X own cc nL) {i : Int32} {c n j : Nat} {v : Int32} (d : decode cc pc = .ok (.iaload, 1)) (hh : zHas cnt c) (hs : zSh c = (20, n)) (hi : i = nI j) (hj : j < n ∧ n < 2 ^ 31) (hv : M.1 c j = v) (k : zB G X Q base cnt nL cells slots (pc + 1) L (.int v :: S) M) : zB G X Q base cnt nL cells slots pc L (.int i :: .ref c :: S) M := by
  intro H locs ls hW hS hl
  subst hi; subst hv
  obtain ⟨q, hq, -⟩ := zWB_get hW hh (zEnP_i hs)
  have hcl : (nI j).toNatClampNeg = j := nI_clamp (Nat.lt_trans hj.1 hj.2)
  refine va_iald h.1 h.2.1 h.2.2.2.2.2.1 hW.1 q 0 hq rfl (vp_in_nI hj.1 hj.2) d ?_
  rw [hcl]
  exact k H locs ls hW hS hl
theorem zB_iast (h : zOkB G base X own cc nL) {i x : Int32} {c n j : Nat} (d : decode cc pc = .ok (.iastore, 1)) (hh : zHas cnt c) (hs : zSh c = (20, n)) (hi : i = nI j) (hj : j < n ∧ n < 2 ^ 31) (k : zB G X Q base cnt nL cells slots (pc + 1) L S (zw M c j x)) : zB G X Q base cnt nL cells slots pc L (.int x :: .int i :: .ref c :: S) M := by
  intro H locs ls hW hS hl
  subst hi
  obtain ⟨q, hq, hset⟩ := zWB_get hW hh (zEnP_i hs)
  have hcl : (nI j).toNatClampNeg = j := nI_clamp (Nat.lt_trans hj.1 hj.2)
  refine va_iast h.1 h.2.1 h.2.2.2.2.2.1 hW.1 hW.2 hS q 0 hq rfl (vp_in_nI hj.1 hj.2) d (fun H1 locs1 hP hD hS1 => k H1 locs1 ls (hset _ _ H1 ?_ (fun a ha => zw_othP ha) hP hD) hS1 hl)
  rw [zEnP_i hs, hcl]
  simp [zw]
theorem zB_aald (h : zOkB G base X own cc nL) {i : Int32} {c n j t a : Nat} (d : decode cc pc = .ok (.aaload, 1)) (hh : zHas cnt c) (hs : zSh c = (24 + t, n)) (ht : t < 4) (hi : i = nI j) (hj : j < n ∧ n < 2 ^ 31) (hv : zCh c j = a) (k : zB G X Q base cnt nL cells slots (pc + 1) L (.ref a :: S) M) : zB G X Q base cnt nL cells slots pc L (.int i :: .ref c :: S) M := by
  intro H locs ls hW hS hl
  subst hi; subst hv
  obtain ⟨q, hq, -⟩ := zWB_get hW hh (zEnP_q hs)
  obtain ⟨ty, hty⟩ := zTy_q (G := G) t ht
  have hcl : (nI j).toNatClampNeg = j := nI_clamp (Nat.lt_trans hj.1 hj.2)
  have hin : vp_in (nI j) n := vp_in_nI hj.1 hj.2
  refine W.aald (v := va_rf ((fun i => some (G.1 (zCh c i))) (nI j).toNatClampNeg)) (ty := .array ty) h.1 h.2.1 (hW.1 q _ hq) ((h.2.2.2.2.2.1.2 (4 + t) _ hty).1 n (fun j => va_rf (some (G.1 (zCh c j))))) rfl (fun q => by cases q) (by show ¬ (nI j < 0 ∨ (arrV _ _ _).slots.size ≤ _); rw [arrV_size]; exact hin) (by show (arrV _ _ _).slots[_]? = _; rw [arrV_read _ _ (by rw [hcl]; exact hj.1)]) rfl rfl d ?_
  rw [hcl]
  exact k H locs ls hW hS hl
end zBuild
