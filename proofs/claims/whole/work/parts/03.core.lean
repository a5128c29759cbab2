abbrev zM : Type := (Nat → Nat → Int32) × (Nat → Nat → Int64)
abbrev zG : Type := (Nat → Nat) × va_G × (Nat → ClassId)
def zShL : List (Nat × Nat) := [(9, 0), (0, 0), (0, 0), (0, 0), (0, 0), (0, 0), (0, 0), (0, 0), (0, 0), (0, 0), (20, 7), (0, 0), (0, 0), (0, 0), (0, 0), (0, 0), (0, 0), (0, 0), (0, 0), (0, 0), (7, 0), (0, 0), (0, 0), (0, 0), (20, 300), (0, 0), (0, 0), (0, 0), (0, 0), (0, 0), (0, 0), (0, 0), (0, 0), (0, 0), (0, 0), (0, 0), (0, 0), (0, 0), (0, 0), (0, 0), (2, 0), (0, 0), (0, 0), (0, 0), (0, 0), (20, 7), (0, 0), (0, 0), (0, 0), (0, 0), (2, 0), (0, 0), (0, 0), (0, 0), (0, 0), (20, 7), (0, 0), (0, 0), (0, 0), (0, 0), (6, 0), (0, 0), (0, 0), (0, 0), (20, 7), (20, 7), (20, 7), (20, 7), (0, 0), (0, 0), (0, 0), (0, 0), (0, 0), (20, 399), (21, 399), (20, 399), (20, 7), (20, 7), (20, 57), (20, 57), (20, 7), (0, 0), (0, 0), (0, 0), (0, 0), (0, 0), (0, 0), (0, 0), (0, 0), (0, 0), (6, 0), (0, 0), (0, 0), (0, 0), (20, 7), (20, 7), (20, 7), (20, 7), (0, 0), (0, 0), (0, 0), (0, 0), (0, 0), (20, 399), (21, 399), (20, 399), (20, 7), (20, 7), (20, 57), (20, 57), (20, 7), (0, 0), (0, 0), (0, 0), (0, 0), (0, 0), (0, 0), (0, 0), (0, 0), (0, 0), (8, 0), (0, 0), (0, 0), (0, 0), (0, 0), (20, 7), (20, 7), (20, 7), (0, 0), (20, 49), (20, 49), (20, 49), (20, 49), (0, 0), (0, 0), (0, 0), (0, 0), (0, 0), (0, 0), (0, 0), (3, 0), (0, 0), (0, 0), (20, 7), (20, 7), (20, 7), (20, 7), (20, 4), (0, 0), (0, 0), (1, 0), (0, 0), (0, 0), (20, 7), (20, 7), (20, 7), (20, 7), (20, 7), (0, 0), (0, 0), (20, 7), (20, 49), (20, 49), (20, 7), (0, 0), (0, 0), (0, 0), (0, 0), (0, 0), (0, 0), (5, 0), (22, 7), (22, 7), (22, 7), (0, 0), (0, 0), (0, 0), (0, 0), (0, 0), (0, 0), (4, 0), (0, 0), (20, 7), (20, 84), (20, 84), (20, 84), (20, 84), (20, 84), (20, 84), (0, 0), (4, 0), (0, 0), (20, 7), (20, 84), (20, 84), (20, 84), (20, 84), (20, 84), (20, 84), (0, 0), (4, 0), (0, 0), (20, 7), (20, 84), (20, 84), (20, 84), (20, 84), (20, 84), (20, 84), (0, 0), (0, 0), (0, 0), (0, 0), (0, 0), (0, 0), (0, 0), (0, 0), (0, 0), (0, 0), (0, 0), (23, 1), (0, 0), (0, 0), (0, 0), (0, 0), (0, 0), (0, 0), (0, 0), (0, 0), (0, 0), (0, 0), (0, 0), (0, 0), (0, 0), (0, 0), (0, 0), (0, 0), (0, 0), (0, 0), (0, 0), (0, 0), (0, 0), (0, 0), (0, 0), (0, 0), (0, 0), (0, 0), (0, 0), (0, 0), (0, 0), (0, 0), (0, 0), (0, 0), (0, 0), (0, 0), (0, 0), (0, 0), (0, 0), (0, 0), (0, 0), (0, 0), (0, 0), (0, 0), (0, 0), (0, 0), (0, 0), (0, 0), (0, 0), (0, 0), (0, 0), (0, 0), (0, 0), (0, 0), (0, 0), (0, 0), (0, 0), (0, 0), (0, 0), (0, 0), (0, 0), (0, 0), (0, 0), (0, 0), (0, 0), (0, 0), (0, 0), (0, 0), (0, 0), (0, 0), (0, 0), (0, 0), (0, 0), (0, 0), (0, 0), (0, 0), (0, 0), (0, 0), (0, 0), (0, 0), (0, 0), (10, 0), (0, 0), (20, 2), (0, 0), (0, 0), (0, 0), (0, 0), (0, 0), (0, 0), (20, 300), (0, 0), (0, 0), (0, 0), (20, 7), (24, 2), (26, 2), (0, 0), (0, 0), (0, 0), (0, 0), (0, 0), (24, 7), (25, 7), (24, 7), (20, 7), (0, 0), (0, 0), (0, 0), (20, 1200), (0, 0), (20, 6), (20, 7), (20, 7), (20, 7), (20, 7), (24, 7), (24, 7), (24, 7), (24, 7), (0, 0), (0, 0), (0, 0), (0, 0), (20, 7), (20, 7), (20, 7), (20, 7), (20, 7), (0, 0), (0, 0), (24, 7), (24, 7), (25, 7), (25, 7), (20, 7), (20, 7), (20, 7), (20, 7), (21, 7), (0, 0), (22, 7), (22, 7), (22, 7), (20, 4), (20, 4), (0, 0), (0, 0), (0, 0), (0, 0), (0, 0), (0, 0), (0, 0), (0, 0), (0, 0), (0, 0), (0, 0), (0, 0), (0, 0), (0, 0), (0, 0), (0, 0), (0, 0), (0, 0), (0, 0), (0, 0), (0, 0), (0, 0), (0, 0), (0, 0), (0, 0), (0, 0), (0, 0), (0, 0), (0, 0), (0, 0), (0, 0), (0, 0), (0, 0), (0, 0), (0, 0)]
def zRowL : List (Nat × Nat × Nat) := [(0, 0, 0), (0, 0, 0), (0, 0, 0), (0, 0, 0), (0, 0, 0), (0, 0, 0), (0, 0, 0), (0, 0, 0), (0, 0, 0), (0, 0, 0), (0, 0, 0), (0, 0, 0), (0, 0, 0), (20, 7, 2), (0, 0, 0), (0, 0, 0), (0, 0, 0), (0, 0, 0), (0, 0, 0), (0, 0, 0), (20, 57, 7), (21, 57, 7), (20, 5, 7), (0, 0, 0), (0, 0, 0), (0, 0, 0), (0, 0, 0), (0, 0, 0), (0, 0, 0), (0, 0, 0), (0, 0, 0), (0, 0, 0), (0, 0, 0), (0, 0, 0), (20, 60, 7), (20, 60, 7), (20, 60, 7), (20, 60, 7), (0, 0, 0), (0, 0, 0), (0, 0, 0), (0, 0, 0), (0, 0, 0), (0, 0, 0), (0, 0, 0), (0, 0, 0), (0, 0, 0), (0, 0, 0), (0, 0, 0), (20, 7, 7), (20, 7, 7), (21, 7, 7), (21, 7, 7), (0, 0, 0), (0, 0, 0), (0, 0, 0), (0, 0, 0), (0, 0, 0), (0, 0, 0), (0, 0, 0), (0, 0, 0), (0, 0, 0), (0, 0, 0), (0, 0, 0)]
def zArL : List (List (Nat × Nat)) := [[(0, 0), (0, 0), (20, 7), (20, 7), (20, 7), (20, 7), (20, 7), (0, 0), (0, 0), (20, 7), (20, 49), (20, 49), (20, 7)], [(0, 0), (0, 0), (0, 0), (0, 0), (20, 7)], [(0, 0), (0, 0), (20, 7), (20, 7), (20, 7), (20, 7), (20, 4)], [(0, 0), (20, 7), (20, 84), (20, 84), (20, 84), (20, 84), (20, 84), (20, 84)], [(22, 7), (22, 7), (22, 7)], [(0, 0), (0, 0), (0, 0), (20, 7), (20, 7), (20, 7), (20, 7), (0, 0), (0, 0), (0, 0), (0, 0), (0, 0), (20, 399), (21, 399), (20, 399), (20, 7), (20, 7), (20, 57), (20, 57), (20, 7)], [(0, 0), (0, 0), (0, 0), (20, 300), (0, 0), (0, 0), (0, 0), (0, 0)], [(0, 0), (0, 0), (0, 0), (0, 0), (20, 7), (20, 7), (20, 7), (0, 0), (20, 49), (20, 49), (20, 49), (20, 49)], [(0, 0), (0, 0), (0, 0), (0, 0), (0, 0), (0, 0), (0, 0), (0, 0), (0, 0), (20, 7), (0, 0), (0, 0)], [(0, 0), (20, 2), (0, 0), (0, 0), (0, 0), (0, 0), (0, 0), (0, 0), (20, 300), (0, 0), (0, 0), (0, 0), (20, 7), (24, 2), (26, 2), (0, 0), (0, 0), (0, 0), (0, 0), (0, 0), (24, 7), (25, 7), (24, 7), (20, 7), (0, 0), (0, 0), (0, 0), (20, 1200), (0, 0), (20, 6), (20, 7), (20, 7), (20, 7), (20, 7), (24, 7), (24, 7), (24, 7), (24, 7), (0, 0), (0, 0), (0, 0), (0, 0), (20, 7), (20, 7), (20, 7), (20, 7), (20, 7), (0, 0), (0, 0), (24, 7), (24, 7), (25, 7), (25, 7), (20, 7), (20, 7), (20, 7), (20, 7), (21, 7), (0, 0), (22, 7), (22, 7), (22, 7), (20, 4), (20, 4)]]
def zFkL : List (List Nat) := [[0, 0, 1, 1, 1, 1, 1, 0, 0, 1, 1, 1, 1], [0, 0, 0, 2, 1], [0, 0, 1, 1, 1, 1, 1], [0, 1, 1, 1, 1, 1, 1, 1], [1, 1, 1], [0, 0, 0, 1, 1, 1, 1, 0, 0, 0, 0, 0, 1, 1, 1, 1, 1, 1, 1, 1], [0, 0, 2, 1, 0, 0, 0, 0], [0, 0, 0, 0, 1, 1, 1, 0, 1, 1, 1, 1], [23, 43, 53, 63, 93, 123, 143, 153, 173, 1, 0, 0], [0, 1, 0, 0, 0, 0, 0, 0, 1, 0, 0, 0, 1, 1, 1, 0, 0, 0, 0, 0, 1, 1, 1, 1, 0, 0, 0, 1, 0, 1, 1, 1, 1, 1, 1, 1, 1, 1, 0, 0, 0, 0, 1, 1, 1, 1, 1, 0, 0, 1, 1, 1, 1, 1, 1, 1, 1, 1, 0, 1, 1, 1, 1, 1]]
def zSLen : List Nat := [4, 5, 2, 2, 5, 5, 6, 4, 4, 29, 16]
def zSByt : List (List Int32) := [[108, 105, 97, 114], [114, 111, 117, 110, 100], [116, 111], [111, 102], [118, 97, 108, 117, 101], [115, 112, 108, 105, 116], [115, 105, 108, 101, 110, 116], [119, 111, 114, 100], [116, 114, 117, 101], [110, 111, 32, 115, 117, 99, 104, 32, 109, 101, 109, 98, 101, 114, 44, 32, 112, 97, 116, 104, 32, 111, 114, 32, 118, 97, 108, 117, 101], [97, 110, 111, 116, 104, 101, 114, 32, 97, 114, 103, 117, 109, 101, 110, 116]]
def zSR : List (String × Nat × String × Nat) := [("OralOrders", 350, "another argument", 10), ("OralOrders", 343, "no such member, path or value", 9), ("OralOrders$Reader", 51, "liar", 0), ("OralOrders$Reader", 84, "round", 1), ("OralOrders$Reader", 89, "to", 2), ("OralOrders$Reader", 91, "of", 3), ("OralOrders$Reader", 93, "value", 4), ("OralOrders$Reader", 95, "split", 5), ("OralOrders$Reader", 97, "silent", 6), ("OralOrders$Reader", 99, "word", 7), ("OralOrders$Reader", 101, "true", 8), ("OralOrdersModel", 280, "liar", 0), ("OralOrdersModel", 265, "round", 1), ("OralOrdersModel", 267, "to", 2), ("OralOrdersModel", 269, "of", 3), ("OralOrdersModel", 252, "value", 4), ("OralOrdersModel", 257, "split", 5), ("OralOrdersModel", 259, "silent", 6), ("OralOrdersModel", 261, "word", 7), ("OralOrdersModel", 263, "true", 8)]
/-- the shape of a cell by its number: kind (class and 1; 20 int[], 21 boolean[], 22 float[], 23 long[], 24 and on arrays of arrays; 0 none), length -/
def zSh (c : Nat) : Nat × Nat :=
  if c < 400 then zShL.getD c (0, 0)
  else if c < 3000 then (if 1000 ≤ c ∧ (c - 1000) % 16 < (zRowL.getD ((c - 1000) / 16) (0, 0, 0)).2.2 then ((zRowL.getD ((c - 1000) / 16) (0, 0, 0)).1, (zRowL.getD ((c - 1000) / 16) (0, 0, 0)).2.1) else (0, 0))
  else if c < 3002 then (27, 7)
  else if 3010 ≤ c ∧ c < 3024 then (24, 13)
  else if 3100 ≤ c ∧ c < 3282 then (20, 6)
  else (0, 0)
theorem zSh_lt {c : Nat} (h : (zSh c).1 ≠ 0) : c < 3300 := by
  unfold zSh at h
  split at h
  · omega
  · split at h
    · omega
    · split at h
      · omega
      · split at h
        · omega
        · split at h
          · omega
          · exact absurd rfl h
/-- what an array of arrays holds at i -/
def zCh (c i : Nat) : Nat := if c = 315 then 3000 + i else if c < 3000 then 1000 + 16 * (c - 301) + i else if c < 3002 then 3010 + 7 * (c - 3000) + i else 3100 + 13 * (c - 3010) + i
def zIds : List Nat := (List.range 3300).filter (fun c => decide ((zSh c).1 ≠ 0))
theorem zIds_in {c : Nat} : c ∈ zIds ↔ (zSh c).1 ≠ 0 := by
  unfold zIds
  rw [List.mem_filter, List.mem_range, decide_eq_true_iff]
  exact ⟨fun h => h.2, fun h => ⟨zSh_lt h, h⟩⟩
theorem zIds_nd : zIds.Nodup := List.Pairwise.filter _ List.nodup_range
/-- a value of ours: a reference names a cell by its number -/
def zv (G : zG) : Value → Value
  | .ref a => .ref (G.1 a)
  | v => v
theorem zv_cat (G : zG) (v : Value) : (zv G v).category = v.category := by cases v <;> rfl
def zFv (G : zG) (M : zM) (o k : Nat) : Nat → Value
  | 0 => .int (M.1 o k)
  | 1 => .ref (G.1 (o + 1 + k))
  | 2 => .ref (G.1 (M.1 o k).toNatClampNeg)
  | j + 3 => .ref (G.1 j)
def zFs (G : zG) (M : zM) (o ci : Nat) : List Value := (zFkL.getD ci []).mapIdx (fun k code => zFv G M o k code)
def zEn (G : zG) (M : zM) (c : Nat) : va_E :=
  if (zSh c).1 < 20 then .inr ((zSh c).1 - 1, zFs G M c ((zSh c).1 - 1))
  else if (zSh c).1 < 22 then .inl (G.2.2 ((zSh c).1 - 20), (zSh c).2, .inl (M.1 c))
  else if (zSh c).1 = 22 then .inl (G.2.2 2, (zSh c).2, .inr (.inr (.inl (fun i => (M.1 c i).toUInt32))))
  else if (zSh c).1 = 23 then .inl (G.2.2 3, (zSh c).2, .inr (.inl (M.2 c)))
  else .inl (G.2.2 ((zSh c).1 - 20), (zSh c).2, .inr (.inr (.inr (.inr (fun i => some (G.1 (zCh c i)))))))
def zTy (G : zG) : List (ClassId × FieldType) := [(G.2.2 0, .int), (G.2.2 1, .boolean), (G.2.2 2, .float), (G.2.2 3, .long), (G.2.2 4, .array .int), (G.2.2 5, .array .boolean), (G.2.2 6, .array (.array (.array .int))), (G.2.2 7, .array (.array .int))]
theorem zEn_o {G : zG} {M : zM} {c ci n : Nat} (h : zSh c = (ci + 1, n)) (hc : ci < 19) : zEn G M c = .inr (ci, zFs G M c ci) := by
  unfold zEn
  rw [h, if_pos (by omega)]
  rfl
theorem zEn_i {G : zG} {M : zM} {c n : Nat} (h : zSh c = (20, n)) : zEn G M c = .inl (G.2.2 0, n, .inl (M.1 c)) := by
  unfold zEn
  rw [h]; rfl
theorem zEn_z {G : zG} {M : zM} {c n : Nat} (h : zSh c = (21, n)) : zEn G M c = .inl (G.2.2 1, n, .inl (M.1 c)) := by
  unfold zEn
  rw [h]; rfl
theorem zEn_f {G : zG} {M : zM} {c n : Nat} (h : zSh c = (22, n)) : zEn G M c = .inl (G.2.2 2, n, .inr (.inr (.inl (fun i => (M.1 c i).toUInt32)))) := by
  unfold zEn
  rw [h]; rfl
theorem zEn_l {G : zG} {M : zM} {c n : Nat} (h : zSh c = (23, n)) : zEn G M c = .inl (G.2.2 3, n, .inr (.inl (M.2 c))) := by
  unfold zEn
  rw [h]; rfl
theorem zEn_q {G : zG} {M : zM} {c n j : Nat} (h : zSh c = (24 + j, n)) : zEn G M c = .inl (G.2.2 (4 + j), n, .inr (.inr (.inr (.inr (fun i => some (G.1 (zCh c i))))))) := by
  unfold zEn
  rw [h]
  rw [if_neg (by show ¬ 24 + j < 20; omega), if_neg (by show ¬ 24 + j < 22; omega), if_neg (by show ¬ 24 + j = 22; omega), if_neg (by show ¬ 24 + j = 23; omega)]
  show (Sum.inl (G.2.2 (24 + j - 20), n, _) : va_E) = _
  rw [show 24 + j - 20 = 4 + j by omega]
theorem zEn_same {G : zG} {M M' : zM} {c : Nat} (h1 : M'.1 c = M.1 c) (h2 : M'.2 c = M.2 c) : zEn G M' c = zEn G M c := by
  unfold zEn zFs
  rw [h1, h2]
  congr 1
  congr 1
  congr 1
  congr 1
  funext k code
  cases code with
  | zero => show Value.int (M'.1 c k) = _; rw [h1]; rfl
  | succ j =>
    cases j with
    | zero => rfl
    | succ j =>
      cases j with
      | zero => show Value.ref (G.1 (M'.1 c k).toNatClampNeg) = _; rw [h1]; rfl
      | succ j => rfl
/-- the memory with one number changed -/
def zw (M : zM) (c k : Nat) (x : Int32) : zM := (fun a => if a = c then upd (M.1 c) k x else M.1 a, M.2)
def zwL (M : zM) (c k : Nat) (x : Int64) : zM := (M.1, fun a => if a = c then vp_updL (M.2 c) k x else M.2 a)
theorem zw_same {M : zM} {c k : Nat} {x : Int32} : (zw M c k x).1 c k = x := by simp [zw, upd]
theorem zw_ne {M : zM} {c k a j : Nat} {x : Int32} (h : a ≠ c ∨ j ≠ k) : (zw M c k x).1 a j = M.1 a j := by
  unfold zw
  by_cases e : a = c
  · subst e
    have hj : j ≠ k := h.resolve_left (fun q => q rfl)
    simp [upd, hj]
  · simp [e]
theorem zw_at {M : zM} {c k a j : Nat} {x : Int32} : (zw M c k x).1 a j = if a = c ∧ j = k then x else M.1 a j := by
  by_cases h : a = c ∧ j = k
  · obtain ⟨rfl, rfl⟩ := h
    rw [zw_same, if_pos ⟨rfl, rfl⟩]
  · rw [if_neg h]
    apply zw_ne
    by_cases e : a = c
    · exact Or.inr fun q => h ⟨e, q⟩
    · exact Or.inl e
theorem zw_2 {M : zM} {c k : Nat} {x : Int32} : (zw M c k x).2 = M.2 := rfl
def zWl (G : zG) (M : zM) : va_W := zIds.map (fun c => (G.1 c, zEn G M c))
def zW (G : zG) (A : Nat → Prop) (M : zM) (H : Heap) : Prop := va_P G.2.1 vwCl (zWl G M) H ∧ va_D A (zWl G M)
theorem zWl_at {G : zG} {M : zM} {c : Nat} {e0 : va_E} (hc : (zSh c).1 ≠ 0) (he0 : zEn G M c = e0) : ∃ q : Nat, (zWl G M)[q]? = some (G.1 c, e0) ∧ ∀ (M' : zM) (e : va_E), zEn G M' c = e → (∀ a : Nat, a ≠ c → zEn G M' a = zEn G M a) → (zWl G M).set q (G.1 c, e) = zWl G M' := by
  subst he0
  obtain ⟨q, hq⟩ := List.getElem?_of_mem (zIds_in.mpr hc)
  have hl := (List.getElem?_eq_some_iff.mp hq).1
  refine ⟨q, by unfold zWl; rw [List.getElem?_map, hq]; rfl, fun M' e he ho => ?_⟩
  apply List.ext_getElem?
  intro i
  by_cases hi : i = q
  · subst hi
    rw [List.getElem?_set_self (by unfold zWl; rw [List.length_map]; exact hl)]
    unfold zWl
    rw [List.getElem?_map, hq, ← he]
    rfl
  · rw [List.getElem?_set_ne (Ne.symm hi)]
    unfold zWl
    rw [List.getElem?_map, List.getElem?_map]
    cases hx : zIds[i]? with
    | none => rfl
    | some x =>
      have hne : x ≠ c := fun ex => by
        subst ex
        have hli := (List.getElem?_eq_some_iff.mp hx).1
        exact hi ((List.getElem?_inj hli zIds_nd).mp (hx.trans hq.symm))
      show some (G.1 x, zEn G M x) = some (G.1 x, zEn G M' x)
      rw [ho x hne]
/-- which cells may change: the world's, and new ones -/
def zA (G : zG) (sz : Nat) : Nat → Prop := fun q => (∃ c : Nat, (zSh c).1 ≠ 0 ∧ q = G.1 c) ∨ sz ≤ q
theorem zA_new {G : zG} {sz q : Nat} (h : sz ≤ q) : zA G sz q := Or.inr h
theorem zA_sub {G : zG} {a b q : Nat} (h : a ≤ b) (hq : zA G b q) : zA G a q := hq.elim Or.inl (fun x => Or.inr (Nat.le_trans h x))
theorem zW_A {G : zG} {M : zM} {A B : Nat → Prop} {H : Heap} {sz : Nat} (h : zW G A M H) (hB : ∀ q, zA G sz q → B q) : zW G B M H := by
  refine ⟨h.1, h.2.1, fun k q hk => ?_⟩
  unfold zWl at hk
  rw [List.getElem?_map] at hk
  cases hx : zIds[k]? with
  | none => rw [hx] at hk; cases hk
  | some x =>
    rw [hx] at hk
    cases hk
    exact hB _ (Or.inl ⟨x, zIds_in.mp (List.mem_of_getElem? hx), rfl⟩)
theorem zW_kept {G : zG} {M : zM} {A : Nat → Prop} {H H1 : Heap} (h : zW G A M H) (hq : ∀ a : Nat, a < H.size → H1[a]? = H[a]?) : zW G A M H1 := ⟨h.1.kept (fun k q hk => hq q.1 (h.1 k q hk).lt), h.2⟩
-- statics and text constants
def zFROM : List Int32 := [0, 0, 1, 8, 57]
def zSt (G : zG) (A : Nat → Prop) (U : State) (H : Heap) : Prop :=
  va_Z "OralOrders$Oral" "FROM" "[I" (.ref (G.1 4001)) A U H ∧ va_T .int (G.1 4001) 5 (fun j => .int (zFROM.getD j 0)) A U H ∧ va_Z "java/lang/String" "COMPACT_STRINGS" "Z" (.int 1) A U H ∧
  vk_S 11 zSLen zSByt (fun i => G.1 (5000 + i)) (fun i => G.1 (6000 + i)) A U H ∧ (∀ q ∈ zSR, vk_R q.1 q.2.1 q.2.2.1 (G.1 (5000 + q.2.2.2)) U) ∧
  vx_Zq Bundle.tN "UNASSIGNED_STACK" Bundle.steD A U H ∧ vx_Zq Bundle.tN "SUPPRESSED_SENTINEL" Bundle.listD A U H ∧
  (va_Z "jdk/internal/util/Preconditions" "SIOOBE_FORMATTER" "Ljava/util/function/BiFunction;" .null A U H ∨ va_Z "jdk/internal/util/Preconditions" "SIOOBE_FORMATTER" "Ljava/util/function/BiFunction;" (.ref (G.1 4002)) A U H)
theorem zSt.next {G : zG} {A B : Nat → Prop} {U U' : State} {H H' : Heap} (hW : U.WarmedH U'.vm) (hq : ∀ a : Nat, a < H.size → ¬ A a → H'[a]? = H[a]?) (hAB : ∀ q, B q → A q) (h : zSt G A U H) : zSt G B U' H' := by
  obtain ⟨h1, h2, h3, h4, h5, h6, h7, h8⟩ := h
  exact ⟨((va_Z.moved hW.alike h1).kept hq).narrow hAB, ((va_T.moved hW.alike h2).kept hq).narrow hAB, ((va_Z.moved hW.alike h3).kept hq).narrow hAB, ((vk_S.moved hW.alike h4).kept hq).narrow hAB, fun q hm => vk_R.warm hW (h5 q hm), ((vx_Zq.moved hW.alike h6).kept hq).narrow hAB, ((vx_Zq.moved hW.alike h7).kept hq).narrow hAB, h8.imp (fun h => ((va_Z.moved hW.alike h).kept hq).narrow hAB) (fun h => ((va_Z.moved hW.alike h).kept hq).narrow hAB)⟩
-- a method's frame, and the judgement over a memory
abbrev zX : Type := Program × Launch × Env × Room × State × MethodId × Array Value × List Frame × Method × Code
def zL (G : zG) : Nat → List Value → List (Nat × Value)
  | _, [] => []
  | i, .null :: r => zL G (i + 1) r
  | i, v :: r => (i, zv G v) :: zL G (i + 1) r
theorem zL_cons {G : zG} {i : Nat} {v : Value} {r : List Value} : zL G i (v :: r) = if v = .null then zL G (i + 1) r else (i, zv G v) :: zL G (i + 1) r := by
  cases v <;> simp [zL]
theorem zL_le {G : zG} : ∀ (L : List Value) (i : Nat) (q : Nat × Value), q ∈ zL G i L → i ≤ q.1
  | [], _, _, h => by simp [zL] at h
  | v :: r, i, q, h => by
    rw [zL_cons] at h
    split at h
    · exact Nat.le_trans (Nat.le_succ i) (zL_le r (i + 1) q h)
    · rcases List.mem_cons.mp h with rfl | h
      · exact Nat.le_refl _
      · exact Nat.le_trans (Nat.le_succ i) (zL_le r (i + 1) q h)
theorem zL_at {G : zG} : ∀ (L : List Value) (i k : Nat) (v : Value), L[k]? = some v → v ≠ .null → (i + k, zv G v) ∈ zL G i L
  | [], _, _, _, h, _ => by simp at h
  | w :: r, i, 0, v, h, hn => by
    simp at h
    subst h
    rw [zL_cons, if_neg hn]
    exact List.mem_cons_self
  | w :: r, i, k + 1, v, h, hn => by
    rw [List.getElem?_cons_succ] at h
    have h1 := zL_at (G := G) r (i + 1) k v h hn
    rw [show i + 1 + k = i + (k + 1) by omega] at h1
    rw [zL_cons]
    split
    · exact h1
    · exact List.mem_cons_of_mem _ h1
/-- a value of two words is no more, where its second word is written -/
def zc2 : Value → Value
  | .long _ => .null
  | .double _ => .null
  | v => v
def zst1 : List Value → Nat → Value → List Value
  | [], _, _ => []
  | _ :: r, 0, v => v :: r
  | w :: r, 1, v => zc2 w :: zst1 r 0 v
  | w :: r, i + 2, v => w :: zst1 r (i + 1) v
def zclr : List Value → Nat → List Value
  | [], _ => []
  | _ :: r, 0 => .null :: r
  | w :: r, i + 1 => w :: zclr r i
theorem zc2_ne {v : Value} (h : zc2 v ≠ .null) : zc2 v = v ∧ v.category ≠ 2 := by
  cases v <;> simp_all [zc2, Value.category]
theorem zst1_in {G : zG} : ∀ (L : List Value) (i k : Nat) (v : Value) (q : Nat × Value), q ∈ zL G i (zst1 L k v) → q = (i + k, zv G v) ∨ (q ∈ zL G i L ∧ q.1 ≠ i + k ∧ (q.1 + 1 = i + k → q.2.category ≠ 2))
  | [], _, _, _, _, h => by simp [zst1, zL] at h
  | w :: r, i, 0, v, q, h => by
    rw [zst1, zL_cons] at h
    have key : q ∈ zL G (i + 1) r → (q ∈ zL G i (w :: r) ∧ q.1 ≠ i + 0 ∧ (q.1 + 1 = i + 0 → q.2.category ≠ 2)) := fun hm => by
      have := zL_le r (i + 1) q hm
      refine ⟨?_, by omega, fun h => by omega⟩
      rw [zL_cons]
      split
      · exact hm
      · exact List.mem_cons_of_mem _ hm
    split at h
    · exact Or.inr (key h)
    · rcases List.mem_cons.mp h with h | h
      · exact Or.inl h
      · exact Or.inr (key h)
  | w :: r, i, 1, v, q, h => by
    rw [zst1, zL_cons] at h
    have key : q ∈ zL G (i + 1) (zst1 r 0 v) → q = (i + 1, zv G v) ∨ (q ∈ zL G i (w :: r) ∧ q.1 ≠ i + 1 ∧ (q.1 + 1 = i + 1 → q.2.category ≠ 2)) := fun hm => by
      have hle := zL_le _ _ _ hm
      rcases zst1_in r (i + 1) 0 v q hm with h | ⟨h1, h2, -⟩
      · exact Or.inl h
      · refine Or.inr ⟨?_, by omega, fun h => by omega⟩
        rw [zL_cons]
        split
        · exact h1
        · exact List.mem_cons_of_mem _ h1
    split at h
    · exact key h
    · rename_i hn
      rcases List.mem_cons.mp h with h | h
      · obtain ⟨e, hc⟩ := zc2_ne hn
        rw [e] at h hn
        subst h
        refine Or.inr ⟨?_, by show i ≠ i + 1; omega, fun _ => by show (zv G w).category ≠ 2; rw [zv_cat]; exact hc⟩
        rw [zL_cons, if_neg hn]
        exact List.mem_cons_self
      · exact key h
  | w :: r, i, k + 2, v, q, h => by
    rw [zst1, zL_cons] at h
    have key : q ∈ zL G (i + 1) (zst1 r (k + 1) v) → q = (i + (k + 2), zv G v) ∨ (q ∈ zL G i (w :: r) ∧ q.1 ≠ i + (k + 2) ∧ (q.1 + 1 = i + (k + 2) → q.2.category ≠ 2)) := fun hm => by
      have h0 := zst1_in r (i + 1) (k + 1) v q hm
      rw [show i + 1 + (k + 1) = i + (k + 2) by omega] at h0
      rcases h0 with h | ⟨h1, h2, h3⟩
      · exact Or.inl h
      · refine Or.inr ⟨?_, h2, h3⟩
        rw [zL_cons]
        split
        · exact h1
        · exact List.mem_cons_of_mem _ h1
    split at h
    · exact key h
    · rename_i hn
      rcases List.mem_cons.mp h with h | h
      · subst h
        refine Or.inr ⟨?_, by show i ≠ i + (k + 2); omega, fun h => by have h : i + 1 = i + (k + 2) := h; omega⟩
        rw [zL_cons, if_neg hn]
        exact List.mem_cons_self
      · exact key h
theorem zclr_in {G : zG} : ∀ (L : List Value) (i k : Nat) (q : Nat × Value), q ∈ zL G i (zclr L k) → q ∈ zL G i L ∧ q.1 ≠ i + k
  | [], _, _, _, h => by simp [zclr, zL] at h
  | w :: r, i, 0, q, h => by
    rw [zclr, zL_cons, if_pos rfl] at h
    have := zL_le r (i + 1) q h
    refine ⟨?_, by omega⟩
    rw [zL_cons]
    split
    · exact h
    · exact List.mem_cons_of_mem _ h
  | w :: r, i, k + 1, q, h => by
    rw [zclr, zL_cons] at h
    have key : q ∈ zL G (i + 1) (zclr r k) → q ∈ zL G i (w :: r) ∧ q.1 ≠ i + (k + 1) := fun hm => by
      obtain ⟨h1, h2⟩ := zclr_in r (i + 1) k q hm
      refine ⟨?_, by omega⟩
      rw [zL_cons]
      split
      · exact h1
      · exact List.mem_cons_of_mem _ h1
    split at h
    · exact key h
    · rename_i hn
      rcases List.mem_cons.mp h with h | h
      · subst h
        refine ⟨?_, by show i ≠ i + (k + 1); omega⟩
        rw [zL_cons, if_neg hn]
        exact List.mem_cons_self
      · exact key h
def zst2 (L : List Value) (k : Nat) (v : Value) : List Value := zclr (zst1 L k v) (k + 1)
theorem zst1_has {G : zG} {ls : Array Slot} {nL k : Nat} {L : List Value} {v x : Value} (hx : zv G v = x) (h : lv_has ls nL ((k, x) :: (zL G 0 L).filter (fun q => !(q.1 == k) && !(q.1 + 1 == k && q.2.category == 2)))) : lv_has ls nL (zL G 0 (zst1 L k v)) := by
  subst hx
  refine ⟨h.1, h.2.1, fun q hq => h.2.2 q ?_⟩
  rcases zst1_in L 0 k v q hq with e | ⟨h1, h2, h3⟩
  · rw [Nat.zero_add] at e
    rw [e]
    exact List.mem_cons_self
  · rw [Nat.zero_add] at h2 h3
    refine List.mem_cons_of_mem _ (List.mem_filter.mpr ⟨h1, ?_⟩)
    simp only [Bool.and_eq_true, Bool.not_eq_true', beq_eq_false_iff_ne, Bool.and_eq_false_imp, beq_iff_eq]
    exact ⟨h2, h3⟩
theorem zst2_has {G : zG} {ls : Array Slot} {nL k : Nat} {L : List Value} {v x : Value} (hx : zv G v = x) (h : lv_has ls nL ((k, x) :: (zL G 0 L).filter (fun q => !(q.1 == k) && (!(q.1 == k + 1) && !(q.1 + 1 == k && q.2.category == 2))))) : lv_has ls nL (zL G 0 (zst2 L k v)) := by
  subst hx
  refine ⟨h.1, h.2.1, fun q hq => h.2.2 q ?_⟩
  obtain ⟨hq, h9⟩ := zclr_in _ _ _ _ hq
  rw [Nat.zero_add] at h9
  rcases zst1_in L 0 k v q hq with e | ⟨h1, h2, h3⟩
  · rw [Nat.zero_add] at e
    rw [e]
    exact List.mem_cons_self
  · rw [Nat.zero_add] at h2 h3
    refine List.mem_cons_of_mem _ (List.mem_filter.mpr ⟨h1, ?_⟩)
    simp only [Bool.and_eq_true, Bool.not_eq_true', beq_eq_false_iff_ne, Bool.and_eq_false_imp, beq_iff_eq]
    exact ⟨h2, h9, h3⟩
def zOk (G : zG) (X : zX) (own : String) (cc : ByteArray) (nL : Nat) : Prop :=
  X.1.tables.exec = Jvm.exec ∧ X.2.2.2.2.2.2.2.2.2.code = cc ∧ X.2.2.2.2.2.2.2.2.2.maxLocals = nL ∧ X.2.2.2.2.1.vm.findClass own = some X.2.2.2.2.2.1.cls ∧ (∀ w ∈ zT, w.before X.2.2.2.2.2.2.1 X.2.2.2.2.1 = true) ∧ va_K G.2.1 vwCl (zTy G) X.2.2.2.2.1 ∧ zSt G (zA G X.2.2.2.2.1.heap.size) X.2.2.2.2.1 X.2.2.2.2.1.heap ∧ X.2.2.2.2.2.2.2.2.1.locks = false
def zV (G : zG) (X : zX) (Q : State → Prop) (nL cells slots pc : Nat) (L S : List Value) (M : zM) : Prop :=
  ∀ (H : Heap) (locs : List Loc) (ls : Array Slot), zW G (zA G X.2.2.2.2.1.heap.size) M H → va_S (zA G X.2.2.2.2.1.heap.size) X.2.2.2.2.1.heap H locs → lv_has ls nL (zL G 0 L) →
    W X.1 X.2.1 X.2.2.1 X.2.2.2.1 X.2.2.2.2.1 X.2.2.2.2.2.1 X.2.2.2.2.2.2.1 X.2.2.2.2.2.2.2.1 X.2.2.2.2.2.2.2.2.1 X.2.2.2.2.2.2.2.2.2 H locs cells slots Q (F0 X.2.2.2.2.2.1 pc ls (S.map (zv G)))
theorem zL_get {G : zG} {ls : Array Slot} {nL k : Nat} {L : List Value} {v : Value} (h : lv_has ls nL (zL G 0 L)) (hk : L[k]? = some v) (hn : v ≠ .null) : ls[k]? = some (.val (zv G v)) := by
  have h1 := zL_at (G := G) L 0 k v hk hn
  rw [Nat.zero_add] at h1
  exact h.2.2 _ h1

