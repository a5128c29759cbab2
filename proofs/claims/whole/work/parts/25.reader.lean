section zLdc
variable {G : zG} {X : zX} {Q : State → Prop} {own : String} {cc : ByteArray} {nL cells slots pc : Nat} {L S : List Value} {M : zM}
theorem zV_ldcs (h : zOk G X own cc nL) {idx j : Nat} {tx : String} (d : decode cc pc = .ok (.ldc idx, 2)) (hm : (own, idx, tx, j) ∈ zSR) (k : zV G X Q nL cells slots (pc + 2) L (.ref (5000 + j) :: S) M) : zV G X Q nL cells slots pc L S M := fun H locs ls hW hS hy T hT Y => by
  have hr := h.2.2.2.2.2.2.1.2.2.2.2.1 _ hm
  obtain ⟨t, a, b⟩ := k H locs ls hW hS hy T hT Y
  exact ⟨t, Y.ldcString h.1 h.2.2.2.1 hr.1 hr.2 (g := F0 _ pc ls _) rfl (by rw [h.2.1]; exact d) t a, b⟩
end zLdc
theorem zsr_X10_350 : (RX10, 350, "another argument", 10) ∈ zSR := List.mem_of_getElem? (i := 0) rfl
theorem zsr_X10_343 : (RX10, 343, "no such member, path or value", 9) ∈ zSR := List.mem_of_getElem? (i := 1) rfl
theorem zsr_X7_51 : (RX7, 51, "liar", 0) ∈ zSR := List.mem_of_getElem? (i := 2) rfl
theorem zsr_X7_84 : (RX7, 84, "round", 1) ∈ zSR := List.mem_of_getElem? (i := 3) rfl
theorem zsr_X7_89 : (RX7, 89, "to", 2) ∈ zSR := List.mem_of_getElem? (i := 4) rfl
theorem zsr_X7_91 : (RX7, 91, "of", 3) ∈ zSR := List.mem_of_getElem? (i := 5) rfl
theorem zsr_X7_93 : (RX7, 93, "value", 4) ∈ zSR := List.mem_of_getElem? (i := 6) rfl
theorem zsr_X7_95 : (RX7, 95, "split", 5) ∈ zSR := List.mem_of_getElem? (i := 7) rfl
theorem zsr_X7_97 : (RX7, 97, "silent", 6) ∈ zSR := List.mem_of_getElem? (i := 8) rfl
theorem zsr_X7_99 : (RX7, 99, "word", 7) ∈ zSR := List.mem_of_getElem? (i := 9) rfl
theorem zsr_X7_101 : (RX7, 101, "true", 8) ∈ zSR := List.mem_of_getElem? (i := 10) rfl
theorem zsr_X11_280 : (RX11, 280, "liar", 0) ∈ zSR := List.mem_of_getElem? (i := 11) rfl
theorem zsr_X11_265 : (RX11, 265, "round", 1) ∈ zSR := List.mem_of_getElem? (i := 12) rfl
theorem zsr_X11_267 : (RX11, 267, "to", 2) ∈ zSR := List.mem_of_getElem? (i := 13) rfl
theorem zsr_X11_269 : (RX11, 269, "of", 3) ∈ zSR := List.mem_of_getElem? (i := 14) rfl
theorem zsr_X11_252 : (RX11, 252, "value", 4) ∈ zSR := List.mem_of_getElem? (i := 15) rfl
theorem zsr_X11_257 : (RX11, 257, "split", 5) ∈ zSR := List.mem_of_getElem? (i := 16) rfl
theorem zsr_X11_259 : (RX11, 259, "silent", 6) ∈ zSR := List.mem_of_getElem? (i := 17) rfl
theorem zsr_X11_261 : (RX11, 261, "word", 7) ∈ zSR := List.mem_of_getElem? (i := 18) rfl
theorem zsr_X11_263 : (RX11, 263, "true", 8) ∈ zSR := List.mem_of_getElem? (i := 19) rfl
theorem zOb_of {ci o : Nat} (h1 : zSh o = (ci + 1, 0)) (h2 : ∀ k, k < (zArL.getD ci []).length → ((zArL.getD ci []).getD k (0, 0)).1 = 0 ∨ zSh (o + 1 + k) = (zArL.getD ci []).getD k (0, 0)) : zOb ci o := by
  refine ⟨h1, fun k kd n hk => ?_⟩
  have hy := (List.getElem?_eq_some_iff.mp hk).1
  have hg : (zArL.getD ci []).getD k (0, 0) = (kd + 1, n) := by rw [List.getD_eq_getElem?_getD, hk]; rfl
  rcases h2 k hy with h | h
  · rw [hg] at h; exact absurd h (Nat.succ_ne_zero kd)
  · rw [h, hg]
theorem zo20 : zOb 6 20 := zOb_of (by decide +kernel) (by decide +kernel)
theorem zmin_nI {a b : Nat} (ha : a < 2 ^ 31) (hb : b < 2 ^ 31) : zmin (nI a) (nI b) = nI (min a b) := by
  unfold zmin
  by_cases h : b < a
  · rw [if_pos ((nI_ltI hb ha).mpr h), Nat.min_eq_right (Nat.le_of_lt h)]
  · rw [if_neg (fun q => h ((nI_ltI hb ha).mp q)), Nat.min_eq_left (Nat.le_of_not_lt h)]
-- runs in a text
def tLen (q : Nat → Bool) : Nat → Nat → Nat
  | 0, _ => 0
  | k + 1, a => if q a then tLen q k (a + 1) + 1 else 0
/-- the first place from a on where q fails, e at most -/
def tEnd (q : Nat → Bool) (e a : Nat) : Nat := a + tLen q (e - a) a
theorem tLen_le (q : Nat → Bool) : ∀ k a, tLen q k a ≤ k
  | 0, _ => Nat.le_refl 0
  | k + 1, a => by
    have := tLen_le q k (a + 1)
    unfold tLen
    split <;> omega
theorem tEnd_t {q : Nat → Bool} {e a : Nat} (h : a < e) (hq : q a = true) : tEnd q e (a + 1) = tEnd q e a := by
  unfold tEnd
  rw [show e - a = (e - (a + 1)) + 1 by omega, tLen, if_pos hq]
  omega
theorem tEnd_f {q : Nat → Bool} {e a : Nat} (hq : q a = false) : tEnd q e a = a := by
  unfold tEnd
  cases e - a with
  | zero => rfl
  | succ k => rw [tLen, if_neg (by rw [hq]; decide)]; rfl
theorem tEnd_e {q : Nat → Bool} {e a : Nat} (h : e ≤ a) : tEnd q e a = a := by
  unfold tEnd
  rw [show e - a = 0 by omega]; rfl
theorem tEnd_ge (q : Nat → Bool) (e a : Nat) : a ≤ tEnd q e a := Nat.le_add_right _ _
theorem tEnd_le {q : Nat → Bool} {e a : Nat} (h : a ≤ e) : tEnd q e a ≤ e := by
  have := tLen_le q (e - a) a
  unfold tEnd
  omega
theorem tLen_in (q : Nat → Bool) : ∀ k a i, i < tLen q k a → q (a + i) = true
  | 0, _, _, h => absurd h (Nat.not_lt_zero _)
  | k + 1, a, i, h => by
    unfold tLen at h
    split at h
    · rename_i hq
      cases i with
      | zero => exact hq
      | succ i =>
        have := tLen_in q k (a + 1) i (by omega)
        rw [show a + (i + 1) = a + 1 + i by omega]; exact this
    · exact absurd h (Nat.not_lt_zero _)
theorem tEnd_in {q : Nat → Bool} {e a i : Nat} (h1 : a ≤ i) (h2 : i < tEnd q e a) : q i = true := by
  have := tLen_in q (e - a) a (i - a) (by unfold tEnd at h2; omega)
  rw [show a + (i - a) = i by omega] at this
  exact this
theorem tLen_out (q : Nat → Bool) : ∀ k a, tLen q k a < k → q (a + tLen q k a) = false
  | 0, _, h => absurd h (Nat.not_lt_zero _)
  | k + 1, a, h => by
    unfold tLen at h ⊢
    split
    · rename_i hq
      rw [if_pos hq] at h
      have := tLen_out q k (a + 1) (by omega)
      rw [show a + (tLen q k (a + 1) + 1) = a + 1 + tLen q k (a + 1) by omega]; exact this
    · rename_i hq
      simpa using hq
theorem tEnd_out {q : Nat → Bool} {e a : Nat} (h : tEnd q e a < e) : q (tEnd q e a) = false := by
  have := tLen_out q (e - a) a (by unfold tEnd at h; omega)
  exact this
theorem tEnd_idem {q : Nat → Bool} {e a : Nat} (h : a ≤ e) : tEnd q e (tEnd q e a) = tEnd q e a := by
  rcases Nat.lt_or_ge (tEnd q e a) e with h1 | h1
  · exact tEnd_f (tEnd_out h1)
  · exact tEnd_e h1
theorem tLen_ext {p q : Nat → Bool} (h : ∀ i, p i = q i) : ∀ k a, tLen p k a = tLen q k a
  | 0, _ => rfl
  | k + 1, a => by unfold tLen; rw [h a, tLen_ext h k (a + 1)]
-- signs
def tdg (v : Int32) : Bool := decide (nI 48 ≤ v) && decide (v ≤ nI 57)
def tlo (v : Int32) : Bool := decide (nI 97 ≤ v) && decide (v ≤ nI 122)
theorem tdg_nI {v : Int32} (h : tdg v = true) : v = nI (zN v) ∧ 48 ≤ zN v ∧ zN v ≤ 57 := by
  simp only [tdg, Bool.and_eq_true, decide_eq_true_eq] at h
  obtain ⟨h1, h2⟩ := h
  have h0 : ¬ v < 0 := fun z => by
    have := Int32.le_iff_toInt_le.mp h1
    have z := Int32.lt_iff_toInt_lt.mp z
    rw [show (nI 48).toInt = 48 from rfl] at this
    rw [show (0 : Int32).toInt = 0 from rfl] at z
    omega
  obtain ⟨j, hj, rfl⟩ := nI_of h0
  rw [zN_nI hj]
  exact ⟨rfl, (nI_leI (by decide) hj).mp h1, (nI_leI hj (by decide)).mp h2⟩
-- READER of the class: at 20; its text the numbers of cell 24
abbrev rA (M : zM) : Nat := zN (M.1 20 4)
abbrev rAt (a : Nat) (M : zM) : zM := zw M 20 4 (nI a)
def tBl (M : zM) (i : Nat) : Bool := M.1 24 i == nI 32
def tLt (M : zM) (i : Nat) : Bool := tlo (M.1 24 i)
def tDi (M : zM) (i : Nat) : Bool := tdg (M.1 24 i)
def rSp (e : Nat) (M : zM) : Nat := tEnd (tBl M) e (rA M)
def rS (e : Nat) (M : zM) : zM := rAt (rSp e M) M
def rFail (w p : Int32) (M : zM) : zM := if M.1 20 7 = 0 then zw (zw M 20 7 w) 20 1 p else M
def lyR (lc : Nat) : Prop := zOb 3 lc ∧ 100 ≤ lc ∧ lc < 400
def lyC (lc : Nat) (M : zM) : Prop := ∀ m, m < 7 → M.1 (lc + 1 + 1) m = nI (zN (M.1 (lc + 1 + 1) m)) ∧ zN (M.1 (lc + 1 + 1) m) ≤ 12
/-- how READER stands while it reads: e bytes, n members, the lies go to lc -/
def rSt (lc e n : Nat) (M : zM) : Prop := M.1 20 4 = nI (rA M) ∧ rA M ≤ e ∧ M.1 20 5 = nI e ∧ M.1 20 6 = nI n ∧ M.1 20 2 = nI lc ∧ lyC lc M
theorem rAt_rA {lc e n : Nat} {M : zM} (h : rSt lc e n M) : rAt (rA M) M = M := by
  have h4 : nI (zN (M.1 20 4)) = M.1 20 4 := h.1.symm
  unfold rAt
  rw [h4]
  unfold zw
  refine Prod.ext (funext fun a => ?_) rfl
  show (if a = 20 then upd (M.1 20) 4 (M.1 20 4) else M.1 a) = M.1 a
  split
  · rename_i e; subst e
    funext i
    unfold upd
    split
    · rename_i e; rw [e]
    · rfl
  · rfl
theorem rAt_rAt (a b : Nat) (M : zM) : rAt a (rAt b M) = rAt a M := by
  unfold rAt zw
  refine Prod.ext (funext fun c => ?_) rfl
  show (if c = 20 then upd (if 20 = 20 then upd (M.1 20) 4 (nI b) else M.1 20) 4 (nI a) else (if c = 20 then upd (M.1 20) 4 (nI b) else M.1 c)) = (if c = 20 then upd (M.1 20) 4 (nI a) else M.1 c)
  split
  · funext i
    simp only [upd]
    split
    · rfl
    · rename_i h; exact if_neg h
  · rfl
theorem rA_at {a : Nat} {M : zM} (h : a ≤ 300) : rA (rAt a M) = a := by
  show zN ((zw M 20 4 (nI a)).1 20 4) = a
  rw [zw_same, zN_nI (by omega)]
theorem rAt_c {a : Nat} {M : zM} {c j : Nat} (h : c ≠ 20 ∨ j ≠ 4) : (rAt a M).1 c j = M.1 c j := zw_ne h
theorem lyC_of {lc : Nat} {M M' : zM} (h : lyC lc M) (he : ∀ j, M'.1 (lc + 1 + 1) j = M.1 (lc + 1 + 1) j) : lyC lc M' := fun m hm => by
  rw [he m]; exact h m hm
theorem rSt_at {lc e n a : Nat} {M : zM} (h : rSt lc e n M) (hy : lyR lc) (ha : a ≤ e) (he : e ≤ 300) : rSt lc e n (rAt a M) := by
  obtain ⟨h1, h2, h3, h4, h5, h6⟩ := h
  have hA : rA (rAt a M) = a := rA_at (Nat.le_trans ha he)
  refine ⟨by rw [hA]; exact zw_same, by rw [hA]; exact ha, by rw [rAt_c (by omega), h3], by rw [rAt_c (by omega), h4], by rw [rAt_c (by omega), h5], lyC_of h6 (fun j => ?_)⟩
  exact rAt_c (Or.inl (by have := hy.2.1; omega))
theorem rSp_le {lc e n : Nat} {M : zM} (h : rSt lc e n M) : rSp e M ≤ e := tEnd_le h.2.1
theorem rSt_S {lc e n : Nat} {M : zM} (h : rSt lc e n M) (hy : lyR lc) (he : e ≤ 300) : rSt lc e n (rS e M) := rSt_at h hy (rSp_le h) he
theorem tBl_at {a : Nat} {M : zM} : tBl (rAt a M) = tBl M := by funext i; unfold tBl; rw [rAt_c (by omega)]
theorem rSp_S {lc e n : Nat} {M : zM} (h : rSt lc e n M) (he : e ≤ 300) : rSp e (rS e M) = rSp e M := by
  unfold rSp rS
  rw [tBl_at, rA_at (Nat.le_trans (rSp_le h) he)]
  exact tEnd_idem h.2.1
theorem rS_S {lc e n : Nat} {M : zM} (h : rSt lc e n M) (he : e ≤ 300) : rS e (rS e M) = rS e M := by
  have h1 := rSp_S h he
  show rAt (rSp e (rS e M)) (rS e M) = _
  rw [h1]
  exact rAt_rAt _ _ _
theorem rSt_fail {lc e n : Nat} {M : zM} {w p : Int32} (h : rSt lc e n M) (hy : lyR lc) : rSt lc e n (rFail w p M) := by
  unfold rFail
  split
  · obtain ⟨h1, h2, h3, h4, h5, h6⟩ := h
    have hz : ∀ c j : Nat, (c ≠ 20 ∨ (j ≠ 7 ∧ j ≠ 1)) → (zw (zw M 20 7 w) 20 1 p).1 c j = M.1 c j := fun c j hc => by rw [zw_ne (by omega), zw_ne (by omega)]
    have hA : rA (zw (zw M 20 7 w) 20 1 p) = rA M := by unfold rA; rw [hz _ _ (by omega)]
    refine ⟨by rw [hA, hz _ _ (by omega)]; exact h1, by rw [hA]; exact h2, by rw [hz _ _ (by omega), h3], by rw [hz _ _ (by omega), h4], by rw [hz _ _ (by omega), h5], lyC_of h6 (fun j => hz _ _ (Or.inl (by have := hy.2.1; omega)))⟩
  · exact h
def rTb (e : Nat) (c : Int32) (M : zM) : Bool := decide (rSp e M < e) && M.1 24 (rSp e M) == c
def rTm (e : Nat) (c : Int32) (M : zM) : zM := if rTb e c M then rAt (rSp e M + 1) M else rS e M
def rNd (e : Nat) (c : Int32) (M : zM) : zM := if rTb e c M then rTm e c M else rFail (nI 1) (nI (rSp e M)) (rTm e c M)
theorem rTb_lt {e : Nat} {c : Int32} {M : zM} (h : rTb e c M = true) : rSp e M < e := by
  simp only [rTb, Bool.and_eq_true, decide_eq_true_eq] at h
  exact h.1
theorem rSt_T {lc e n : Nat} {M : zM} {c : Int32} (h : rSt lc e n M) (hy : lyR lc) (he : e ≤ 300) : rSt lc e n (rTm e c M) := by
  unfold rTm
  split
  · rename_i hb
    exact rSt_at h hy (rTb_lt hb) he
  · exact rSt_S h hy he
theorem rSt_Nd {lc e n : Nat} {M : zM} {c : Int32} (h : rSt lc e n M) (hy : lyR lc) (he : e ≤ 300) : rSt lc e n (rNd e c M) := by
  unfold rNd
  split
  · exact rSt_T h hy he
  · exact rSt_fail (rSt_T h hy he) hy
-- words
def rWl (e : Nat) (M : zM) : Nat := tEnd (tLt M) e (rSp e M)
def rWb (e j : Nat) (M : zM) : Bool := decide (rWl e M - rSp e M = zSLen.getD j 0) && zall (fun i => M.1 24 (rSp e M + i) == (zSByt.getD j []).getD i 0) (zSLen.getD j 0)
def rWm (e j : Nat) (M : zM) : zM := if rWb e j M then rAt (rSp e M + zSLen.getD j 0) M else rS e M
theorem tLt_at {a : Nat} {M : zM} : tLt (rAt a M) = tLt M := by funext i; unfold tLt; rw [rAt_c (by omega)]
theorem rWl_S {lc e n : Nat} {M : zM} (h : rSt lc e n M) (he : e ≤ 300) : rWl e (rS e M) = rWl e M := by
  unfold rWl
  rw [rSp_S h he]
  show tEnd (tLt (rAt (rSp e M) M)) _ _ = _
  rw [tLt_at]
theorem rWb_S {lc e n j : Nat} {M : zM} (h : rSt lc e n M) (he : e ≤ 300) : rWb e j (rS e M) = rWb e j M := by
  unfold rWb
  rw [rWl_S h he, rSp_S h he]
  have hc : ∀ i, (rS e M).1 24 i = M.1 24 i := fun i => rAt_c (by omega)
  simp only [hc]
theorem rWm_S {lc e n j : Nat} {M : zM} (h : rSt lc e n M) (he : e ≤ 300) : rWm e j (rS e M) = rWm e j M := by
  unfold rWm
  rw [rWb_S h he, rSp_S h he, rS_S h he]
  show (if _ then rAt _ (rAt (rSp e M) M) else _) = _
  rw [rAt_rAt]
theorem rWl_le {lc e n : Nat} {M : zM} (h : rSt lc e n M) : rWl e M ≤ e := tEnd_le (rSp_le h)
theorem rWb_in {lc e n j : Nat} {M : zM} (h : rSt lc e n M) (hb : rWb e j M = true) : rSp e M + zSLen.getD j 0 ≤ e := by
  simp only [rWb, Bool.and_eq_true, decide_eq_true_eq] at hb
  have h1 := rWl_le h
  have h2 : rSp e M ≤ rWl e M := tEnd_ge _ _ _
  omega
theorem rSt_W {lc e n j : Nat} {M : zM} (h : rSt lc e n M) (hy : lyR lc) (he : e ≤ 300) : rSt lc e n (rWm e j M) := by
  unfold rWm
  split
  · rename_i hb
    exact rSt_at h hy (rWb_in h hb) he
  · exact rSt_S h hy he
def rLb (e : Nat) (M : zM) : Bool := rWb e 1 M || rWb e 2 M || rWb e 3 M || rWb e 4 M || rWb e 5 M || rWb e 6 M || rWb e 7 M || rWb e 8 M
theorem zall_true {p : Nat → Bool} : ∀ {n : Nat}, zall p n = true ↔ ∀ i, i < n → p i = true
  | 0 => ⟨fun _ i h => absurd h (Nat.not_lt_zero i), fun _ => rfl⟩
  | n + 1 => by
    rw [zall, Bool.and_eq_true, zall_true (n := n)]
    constructor
    · intro h i hi
      rcases Nat.lt_or_ge i n with q | q
      · exact h.1 i q
      · rw [show i = n by omega]; exact h.2
    · exact fun h => ⟨fun i hi => h i (by omega), h n (by omega)⟩
set_option maxHeartbeats 1000000 in
theorem zc_isDigit (l : Launch) (G : zG) (M : zM) (v : Int32) : zC l G 0 yX7_isDigit cX7_isDigit 1 (Option.some Jvm.ClassFile.FieldType.boolean) [.int v] M (zP (some (.int (zb (tdg v)))) M) := by
  refine zC_of (by decide) (Nat.le_of_ble_eq_true rfl) (fun X Q hQ hX hl hR hr => ?_)
  refine zV_loc (L' := [.int v]) rfl ?_
  refine zV_iload_n hX dX7_isDigit_0 rfl ?_
  refine zV_bipush hX (v := nI 48) dX7_isDigit_1 (by decide) ?_
  refine zV_icmp_lt hX (tgt := 16) dX7_isDigit_3 (by decide) (fun c_3 => ?_) (fun c_3 => ?_)
  · have e9 : tdg v = false := by simp only [tdg, decide_eq_false (Int32.not_le.mpr c_3), Bool.false_and]
    refine zV_iconst hX (v := nI 0) dX7_isDigit_16 (by decide) ?_
    exact zV_retz hX hQ hr (rfl) (⟨by rw [e9]; rfl, rfl⟩) dX7_isDigit_17
  · refine zV_iload_n hX dX7_isDigit_6 rfl ?_
    refine zV_bipush hX (v := nI 57) dX7_isDigit_7 (by decide) ?_
    refine zV_icmp_gt hX (tgt := 16) dX7_isDigit_9 (by decide) (fun c_9 => ?_) (fun c_9 => ?_)
    · have e9 : tdg v = false := by simp only [tdg, decide_eq_false (Int32.not_le.mpr c_9), Bool.and_false]
      refine zV_iconst hX (v := nI 0) dX7_isDigit_16 (by decide) ?_
      exact zV_retz hX hQ hr (rfl) (⟨by rw [e9]; rfl, rfl⟩) dX7_isDigit_17
    · have e9 : tdg v = true := by simp only [tdg, decide_eq_true (Int32.not_lt.mp c_3), decide_eq_true (Int32.not_lt.mp c_9), Bool.and_true]
      refine zV_iconst hX (v := nI 1) dX7_isDigit_12 (by decide) ?_
      refine zV_goto hX (tgt := 17) dX7_isDigit_13 (by decide) ?_
      exact zV_retz hX hQ hr (rfl) (⟨by rw [e9]; rfl, rfl⟩) dX7_isDigit_17
set_option maxHeartbeats 1000000 in
theorem zc_isLetter (l : Launch) (G : zG) (M : zM) (v : Int32) : zC l G 0 yX7_isLetter cX7_isLetter 1 (Option.some Jvm.ClassFile.FieldType.boolean) [.int v] M (zP (some (.int (zb (tlo v)))) M) := by
  refine zC_of (by decide) (Nat.le_of_ble_eq_true rfl) (fun X Q hQ hX hl hR hr => ?_)
  refine zV_loc (L' := [.int v]) rfl ?_
  refine zV_iload_n hX dX7_isLetter_0 rfl ?_
  refine zV_bipush hX (v := nI 97) dX7_isLetter_1 (by decide) ?_
  refine zV_icmp_lt hX (tgt := 16) dX7_isLetter_3 (by decide) (fun c_3 => ?_) (fun c_3 => ?_)
  · have e9 : tlo v = false := by simp only [tlo, decide_eq_false (Int32.not_le.mpr c_3), Bool.false_and]
    refine zV_iconst hX (v := nI 0) dX7_isLetter_16 (by decide) ?_
    exact zV_retz hX hQ hr (rfl) (⟨by rw [e9]; rfl, rfl⟩) dX7_isLetter_17
  · refine zV_iload_n hX dX7_isLetter_6 rfl ?_
    refine zV_bipush hX (v := nI 122) dX7_isLetter_7 (by decide) ?_
    refine zV_icmp_gt hX (tgt := 16) dX7_isLetter_9 (by decide) (fun c_9 => ?_) (fun c_9 => ?_)
    · have e9 : tlo v = false := by simp only [tlo, decide_eq_false (Int32.not_le.mpr c_9), Bool.and_false]
      refine zV_iconst hX (v := nI 0) dX7_isLetter_16 (by decide) ?_
      exact zV_retz hX hQ hr (rfl) (⟨by rw [e9]; rfl, rfl⟩) dX7_isLetter_17
    · have e9 : tlo v = true := by simp only [tlo, decide_eq_true (Int32.not_lt.mp c_3), decide_eq_true (Int32.not_lt.mp c_9), Bool.and_true]
      refine zV_iconst hX (v := nI 1) dX7_isLetter_12 (by decide) ?_
      refine zV_goto hX (tgt := 17) dX7_isLetter_13 (by decide) ?_
      exact zV_retz hX hQ hr (rfl) (⟨by rw [e9]; rfl, rfl⟩) dX7_isLetter_17
set_option maxHeartbeats 1000000 in
theorem zc_rfail (l : Launch) (G : zG) (M : zM) (w p : Int32) : zC l G 0 yX7_fail cX7_fail 3 (Option.none : Option Jvm.ClassFile.FieldType) [.ref (20 : Nat), .int w, .int p] M (zP none (rFail w p M)) := by
  refine zC_of (by decide) (Nat.le_of_ble_eq_true rfl) (fun X Q hQ hX hl hR hr => ?_)
  refine zV_loc (L' := [.ref (20 : Nat), .int w, .int p]) rfl ?_
  refine zV_aload_n hX dX7_fail_0 rfl ?_
  refine zV_geti hX dX7_fail_1 zf_X7_38 zo20.1 rfl rfl ?_
  refine zV_if_ne hX (tgt := 17) dX7_fail_4 (by decide) (fun c_4 => ?_) (fun c_4 => ?_)
  · have e9 : rFail w p M = M := if_neg c_4
    exact zV_retv hX hQ hr (⟨rfl, e9.symm⟩) dX7_fail_17
  · have e9 : rFail w p M = zw (zw M 20 7 w) 20 1 p := if_pos c_4
    refine zV_aload_n hX dX7_fail_7 rfl ?_
    refine zV_iload_n hX dX7_fail_8 rfl ?_
    refine zV_puti hX dX7_fail_9 zf_X7_38 zp_6_7 zo20.1 rfl ?_
    refine zV_aload_n hX dX7_fail_12 rfl ?_
    refine zV_iload_n hX dX7_fail_13 rfl ?_
    refine zV_puti hX dX7_fail_14 zf_X7_9 zp_6_1 zo20.1 rfl ?_
    exact zV_retv hX hQ hr (⟨rfl, e9.symm⟩) dX7_fail_17
set_option maxHeartbeats 1000000 in
theorem zc_start (l : Launch) (G : zG) (M : zM) (lc e n : Nat) (hM : rSt lc e n M) (hy : lyR lc) (he : e ≤ 300) : zC l G 0 yX7_startOfToken cX7_startOfToken 1 (Option.some Jvm.ClassFile.FieldType.int) [.ref (20 : Nat)] M (zP (some (.int (nI (rSp e M)))) (rS e M)) := by
  refine zC_of (by decide) (Nat.le_of_ble_eq_true rfl) (fun X Q hQ hX hl hR hr => ?_)
  refine zV_loc (L' := [.ref (20 : Nat)]) rfl ?_
  have L0 : ∀ (f9 k : Nat), e - k < f9 → k ≤ e → tEnd (tBl M) e k = rSp e M → zV G X Q 1 0 0 0 [.ref (20 : Nat)] [] (rAt k M) := by
    intro f9
    induction f9 with
    | zero => intro k hk1 hk2 hk3; exact absurd hk1 (Nat.not_lt_zero _)
    | succ f9 ih =>
      intro k hk1 hk2 hk3
      refine zV_aload_n hX dX7_startOfToken_0 rfl ?_
      refine zV_geti hX dX7_startOfToken_1 zf_X7_29 zo20.1 rfl (zw_same) ?_
      refine zV_aload_n hX dX7_startOfToken_4 rfl ?_
      refine zV_geti hX dX7_startOfToken_5 zf_X7_32 zo20.1 rfl (by rw [rAt_c (by omega), hM.2.2.1]) ?_
      refine zV_icmp_geN hX (tgt := 38) dX7_startOfToken_8 (by decide) ⟨by omega, by omega⟩ (fun c_8 => ?_) (fun c_8 => ?_)
      · have e9 : k = rSp e M := by rw [← hk3]; exact (tEnd_e c_8).symm
        refine zV_aload_n hX dX7_startOfToken_38 rfl ?_
        refine zV_geti hX dX7_startOfToken_39 zf_X7_29 zo20.1 rfl (zw_same) ?_
        exact zV_reti hX hQ hr (⟨by rw [e9], by rw [e9]; rfl⟩) dX7_startOfToken_42
      · refine zV_aload_n hX dX7_startOfToken_11 rfl ?_
        refine zV_geta hX dX7_startOfToken_12 zf_X7_22 zo20.1 rfl ?_
        refine zV_aload_n hX dX7_startOfToken_15 rfl ?_
        refine zV_geti hX dX7_startOfToken_16 zf_X7_29 zo20.1 rfl (zw_same) ?_
        refine zV_iald hX (v := M.1 24 k) dX7_startOfToken_19 (zo20.a 3 rfl) (rfl) ⟨by omega, by omega⟩ (rAt_c (by omega)) ?_
        refine zV_bipush hX (v := nI 32) dX7_startOfToken_20 (by decide) ?_
        refine zV_icmp_ne hX (tgt := 38) dX7_startOfToken_22 (by decide) (fun c_22 => ?_) (fun c_22 => ?_)
        · have e9 : k = rSp e M := by rw [← hk3]; exact (tEnd_f (by simp [tBl, c_22])).symm
          refine zV_aload_n hX dX7_startOfToken_38 rfl ?_
          refine zV_geti hX dX7_startOfToken_39 zf_X7_29 zo20.1 rfl (zw_same) ?_
          exact zV_reti hX hQ hr (⟨by rw [e9], by rw [e9]; rfl⟩) dX7_startOfToken_42
        · have e9 := tEnd_t (q := tBl M) c_8 (by simp [tBl, c_22])
          refine zV_aload_n hX dX7_startOfToken_25 rfl ?_
          refine zV_dup hX dX7_startOfToken_26 rfl ?_
          refine zV_geti hX dX7_startOfToken_27 zf_X7_29 zo20.1 rfl (zw_same) ?_
          refine zV_iconst hX (v := nI 1) dX7_startOfToken_30 (by decide) ?_
          refine zV_iaddN hX dX7_startOfToken_31 ?_
          refine zV_puti hX dX7_startOfToken_32 zf_X7_29 zp_6_4 zo20.1 rfl ?_
          refine zV_goto hX (tgt := 0) dX7_startOfToken_35 (by decide) ?_
          refine zV_mem (rAt_rAt _ _ _) ?_
          exact ih (k + 1) (by omega) (by omega) (e9.trans hk3)
  exact zV_mem (rAt_rA hM).symm (L0 (e + 1) (rA M) (by omega) hM.2.1 rfl)
set_option maxHeartbeats 1000000 in
theorem zc_takesSign (l : Launch) (G : zG) (M : zM) (lc e n : Nat) (c : Int32) (hM : rSt lc e n M) (hy : lyR lc) (he : e ≤ 300) : zC l G 1 yX7_takesSign cX7_takesSign 2 (Option.some Jvm.ClassFile.FieldType.boolean) [.ref (20 : Nat), .int c] M (zP (some (.int (zb (rTb e c M)))) (rTm e c M)) := by
  refine zC_of (by decide) (Nat.le_of_ble_eq_true rfl) (fun X Q hQ hX hl hR hr => ?_)
  refine zV_loc (L' := [.ref (20 : Nat), .int c]) rfl ?_
  refine zV_aload_n hX dX7_takesSign_0 rfl ?_
  refine zV_cV0p hX hR hl dX7_takesSign_1 (zc_start l G M lc e n hM hy he) zt_X7_startOfToken rfl zml_X7_44 zo20.1 ⟨by decide, by decide⟩ (Nat.le_of_ble_eq_true rfl) ?_
  dsimp only [Option.toList, List.cons_append, List.nil_append]
  refine zV_aload_n hX dX7_takesSign_4 rfl ?_
  refine zV_geti hX dX7_takesSign_5 zf_X7_32 zo20.1 rfl (by rw [rS, rAt_c (by omega), hM.2.2.1]) ?_
  refine zV_icmp_geN hX (tgt := 24) dX7_takesSign_8 (by decide) ⟨by have := rSp_le hM; omega, by omega⟩ (fun c_8 => ?_) (fun c_8 => ?_)
  · have e9 : rTb e c M = false := by simp only [rTb, decide_eq_false (Nat.not_lt.mpr c_8), Bool.false_and]
    refine zV_iconst hX (v := nI 0) dX7_takesSign_24 (by decide) ?_
    exact zV_retz hX hQ hr (rfl) (⟨by rw [e9]; rfl, by rw [rTm, e9]; rfl⟩) dX7_takesSign_25
  · refine zV_aload_n hX dX7_takesSign_11 rfl ?_
    refine zV_geta hX dX7_takesSign_12 zf_X7_22 zo20.1 rfl ?_
    refine zV_aload_n hX dX7_takesSign_15 rfl ?_
    refine zV_geti hX dX7_takesSign_16 zf_X7_29 zo20.1 rfl (zw_same) ?_
    refine zV_iald hX (v := M.1 24 (rSp e M)) dX7_takesSign_19 (zo20.a 3 rfl) (rfl) ⟨by omega, by omega⟩ (rAt_c (by omega)) ?_
    refine zV_iload_n hX dX7_takesSign_20 rfl ?_
    refine zV_icmp_eq hX (tgt := 26) dX7_takesSign_21 (by decide) (fun c_21 => ?_) (fun c_21 => ?_)
    · have e9 : rTb e c M = true := by simp [rTb, c_8, c_21]
      refine zV_aload_n hX dX7_takesSign_26 rfl ?_
      refine zV_dup hX dX7_takesSign_27 rfl ?_
      refine zV_geti hX dX7_takesSign_28 zf_X7_29 zo20.1 rfl (zw_same) ?_
      refine zV_iconst hX (v := nI 1) dX7_takesSign_31 (by decide) ?_
      refine zV_iaddN hX dX7_takesSign_32 ?_
      refine zV_puti hX dX7_takesSign_33 zf_X7_29 zp_6_4 zo20.1 rfl ?_
      refine zV_iconst hX (v := nI 1) dX7_takesSign_36 (by decide) ?_
      exact zV_retz hX hQ hr (rfl) (⟨by rw [e9]; rfl, by rw [rTm, e9]; exact rAt_rAt _ _ _⟩) dX7_takesSign_37
    · have e9 : rTb e c M = false := by simp [rTb, c_21]
      refine zV_iconst hX (v := nI 0) dX7_takesSign_24 (by decide) ?_
      exact zV_retz hX hQ hr (rfl) (⟨by rw [e9]; rfl, by rw [rTm, e9]; rfl⟩) dX7_takesSign_25
set_option maxHeartbeats 1000000 in
theorem zc_needSign (l : Launch) (G : zG) (M : zM) (lc e n : Nat) (c : Int32) (hM : rSt lc e n M) (hy : lyR lc) (he : e ≤ 300) : zC l G 2 yX7_needSign cX7_needSign 2 (Option.none : Option Jvm.ClassFile.FieldType) [.ref (20 : Nat), .int c] M (zP none (rNd e c M)) := by
  refine zC_of (by decide) (Nat.le_of_ble_eq_true rfl) (fun X Q hQ hX hl hR hr => ?_)
  refine zV_loc (L' := [.ref (20 : Nat), .int c]) rfl ?_
  refine zV_aload_n hX dX7_needSign_0 rfl ?_
  refine zV_iload_n hX dX7_needSign_1 rfl ?_
  refine zV_cV1p hX hR hl dX7_needSign_2 (zc_takesSign l G M lc e n c hM hy he) zt_X7_takesSign rfl zml_X7_77 zo20.1 ⟨by decide, by decide⟩ (Nat.le_of_ble_eq_true rfl) ?_
  dsimp only [Option.toList, List.cons_append, List.nil_append]
  refine zV_if_neB hX (tgt := 17) dX7_needSign_5 (by decide) (fun c_5 => ?_) (fun c_5 => ?_)
  · have e9 : rNd e c M = rTm e c M := if_pos c_5
    exact zV_retv hX hQ hr (⟨rfl, e9.symm⟩) dX7_needSign_17
  · have e9 : rNd e c M = rFail (nI 1) (nI (rSp e M)) (rTm e c M) := if_neg (by simp [c_5])
    refine zV_aload_n hX dX7_needSign_8 rfl ?_
    refine zV_iconst hX (v := nI 1) dX7_needSign_9 (by decide) ?_
    refine zV_aload_n hX dX7_needSign_10 rfl ?_
    refine zV_geti hX (x := nI (rSp e M)) dX7_needSign_11 zf_X7_29 zo20.1 rfl (by rw [rTm, c_5]; exact zw_same) ?_
    refine zV_cV2p hX hR hl dX7_needSign_14 (zc_rfail l G _ _ _) zt_X7_fail rfl zml_X7_57 zo20.1 ⟨by decide, by decide⟩ (Nat.le_of_ble_eq_true rfl) ?_
    dsimp only [Option.toList, List.cons_append, List.nil_append]
    exact zV_retv hX hQ hr (⟨rfl, e9.symm⟩) dX7_needSign_17
set_option maxHeartbeats 1000000 in
theorem zc_isWord (l : Launch) (G : zG) (M : zM) (lc e n j : Nat) (hM : rSt lc e n M) (hy : lyR lc) (he : e ≤ 300) (hj : j < 11) : zC l G 4 yX7_isWord cX7_isWord 5 (Option.some Jvm.ClassFile.FieldType.boolean) [.ref (20 : Nat), .ref (5000 + j)] M (zP (some (.int (zb (rWb e j M)))) (rS e M)) := by
  refine zC_of (by decide) (Nat.le_of_ble_eq_true rfl) (fun X Q hQ hX hl hR hr => ?_)
  refine zV_loc (L' := [.ref (20 : Nat), .ref (5000 + j), .null, .null, .null]) rfl ?_
  have hsp := rSp_le hM
  have hwl := rWl_le hM
  have hws : rSp e M ≤ rWl e M := tEnd_ge _ _ _
  have hln9 := zSLen_lt j hj
  have L48 : rWl e M - (rSp e M) = (zSLen.getD j 0) → ∀ (f9 i : Nat), (zSLen.getD j 0) - i < f9 → i ≤ (zSLen.getD j 0) → zall (fun i => M.1 24 ((rSp e M) + i) == (zSByt.getD j []).getD i 0) i = true → zV G X Q 5 0 0 48 [.ref (20 : Nat), .ref (5000 + j), .int (nI (rSp e M)), .int (nI (rWl e M)), .int (nI i)] [] (rS e M) := by
    intro hln
    intro f9
    induction f9 with
    | zero => intro i hi1 hi2 hi3; exact absurd hi1 (Nat.not_lt_zero _)
    | succ f9 ih =>
      intro i hi1 hi2 hi3
      refine zV_iload hX dX7_isWord_48 rfl ?_
      refine zV_aload_n hX dX7_isWord_50 rfl ?_
      refine zV_cT0p hX hR hl dX7_isWord_51 (zc_slength l G _ j hj) zt_J0_length_8abf5 rfl rfl zml_X7_136 ⟨hj, Nat.le_of_ble_eq_true rfl⟩ (Nat.le_of_ble_eq_true rfl) ?_
      dsimp only [Option.toList, List.cons_append, List.nil_append]
      refine zV_icmp_geN hX (tgt := 83) dX7_isWord_54 (by decide) ⟨by omega, by omega⟩ (fun c_54 => ?_) (fun c_54 => ?_)
      · have e8 : rWb e j M = true := by simp only [rWb, Bool.and_eq_true, decide_eq_true_eq]; exact ⟨by omega, by rw [← hi3, show i = (zSLen.getD j 0) by omega]⟩
        refine zV_iconst hX (v := nI 1) dX7_isWord_83 (by decide) ?_
        exact zV_retz hX hQ hr (rfl) (⟨by rw [e8]; rfl, rfl⟩) dX7_isWord_84
      · refine zV_aload_n hX dX7_isWord_57 rfl ?_
        refine zV_geta hX dX7_isWord_58 zf_X7_22 zo20.1 rfl ?_
        refine zV_iload_n hX dX7_isWord_61 rfl ?_
        refine zV_iload hX dX7_isWord_62 rfl ?_
        refine zV_iaddN hX dX7_isWord_64 ?_
        refine zV_iald hX (v := M.1 24 ((rSp e M) + i)) dX7_isWord_65 (zo20.a 3 rfl) (rfl) ⟨by omega, by omega⟩ (rAt_c (by omega)) ?_
        refine zV_aload_n hX dX7_isWord_66 rfl ?_
        refine zV_iload hX dX7_isWord_67 rfl ?_
        refine zV_cT1p hX hR hl dX7_isWord_69 (zc_charAt l G _ j i hj (by omega)) zt_J0_charAt_5068e rfl rfl zml_X7_144 ⟨hj, Nat.le_of_ble_eq_true rfl⟩ (Nat.le_of_ble_eq_true rfl) ?_
        dsimp only [Option.toList, List.cons_append, List.nil_append]
        refine zV_icmp_eq hX (tgt := 77) dX7_isWord_72 (by decide) (fun c_72 => ?_) (fun c_72 => ?_)
        · have e8 : zall (fun i => M.1 24 ((rSp e M) + i) == (zSByt.getD j []).getD i 0) (i + 1) = true := by rw [zall, hi3]; simp [c_72]
          refine zV_iincN hX (b := 1) dX7_isWord_77 rfl (by decide) ?_
          dsimp only [zst1, zst2, zclr, zc2]
          refine zV_goto hX (tgt := 48) dX7_isWord_80 (by decide) ?_
          exact ih (i + 1) (by omega) (by omega) e8
        · have e8 : rWb e j M = false := by simp only [rWb, Bool.and_eq_false_iff]; exact Or.inr (zall_false (k := i) c_54 (by simpa using c_72))
          refine zV_iconst hX (v := nI 0) dX7_isWord_75 (by decide) ?_
          exact zV_retz hX hQ hr (rfl) (⟨by rw [e8]; rfl, rfl⟩) dX7_isWord_76
  have J33 : ∀ v4 : Value, zV G X Q 5 0 0 33 [.ref (20 : Nat), .ref (5000 + j), .int (nI (rSp e M)), .int (nI (rWl e M)), v4] [] (rS e M) := by
    intro v4
    refine zV_iload_n hX dX7_isWord_33 rfl ?_
    refine zV_iload_n hX dX7_isWord_34 rfl ?_
    refine zV_isubN hX dX7_isWord_35 (hws) ?_
    refine zV_aload_n hX dX7_isWord_36 rfl ?_
    refine zV_cT0p hX hR hl dX7_isWord_37 (zc_slength l G _ j hj) zt_J0_length_8abf5 rfl rfl zml_X7_136 ⟨hj, Nat.le_of_ble_eq_true rfl⟩ (Nat.le_of_ble_eq_true rfl) ?_
    dsimp only [Option.toList, List.cons_append, List.nil_append]
    refine zV_icmp_eqN hX (tgt := 45) dX7_isWord_40 (by decide) ⟨by omega, by omega⟩ (fun c_40 => ?_) (fun c_40 => ?_)
    · refine zV_iconst hX (v := nI 0) dX7_isWord_45 (by decide) ?_
      refine zV_istore hX dX7_isWord_46 (by decide) ?_
      dsimp only [zst1, zst2, zclr, zc2]
      exact L48 c_40 ((zSLen.getD j 0) + 1) 0 (by omega) (by omega) rfl
    · have e8 : rWb e j M = false := by simp only [rWb, decide_eq_false c_40, Bool.false_and]
      refine zV_iconst hX (v := nI 0) dX7_isWord_43 (by decide) ?_
      exact zV_retz hX hQ hr (rfl) (⟨by rw [e8]; rfl, rfl⟩) dX7_isWord_44
  have L7 : ∀ (f9 k : Nat) (v4 : Value), e - k < f9 → k ≤ e → (rSp e M) ≤ k → tEnd (tLt M) e k = rWl e M → zV G X Q 5 0 0 7 [.ref (20 : Nat), .ref (5000 + j), .int (nI (rSp e M)), .int (nI k), v4] [] (rS e M) := by
    intro f9
    induction f9 with
    | zero => intro k v4 hk1 hk2 hk3 hk4; exact absurd hk1 (Nat.not_lt_zero _)
    | succ f9 ih =>
      intro k v4 hk1 hk2 hk3 hk4
      refine zV_iload_n hX dX7_isWord_7 rfl ?_
      refine zV_aload_n hX dX7_isWord_8 rfl ?_
      refine zV_geti hX dX7_isWord_9 zf_X7_32 zo20.1 rfl (by rw [rS, rAt_c (by omega), hM.2.2.1]) ?_
      refine zV_icmp_geN hX (tgt := 33) dX7_isWord_12 (by decide) ⟨by omega, by omega⟩ (fun c_12 => ?_) (fun c_12 => ?_)
      · have e9 : k = rWl e M := by rw [← hk4]; exact (tEnd_e c_12).symm
        rw [e9]
        exact J33 _
      · refine zV_aload_n hX dX7_isWord_15 rfl ?_
        refine zV_geta hX dX7_isWord_16 zf_X7_22 zo20.1 rfl ?_
        refine zV_iload_n hX dX7_isWord_19 rfl ?_
        refine zV_iald hX (v := M.1 24 k) dX7_isWord_20 (zo20.a 3 rfl) (rfl) ⟨by omega, by omega⟩ (rAt_c (by omega)) ?_
        refine zV_cS1p hX hR hl dX7_isWord_21 (zc_isLetter l G _ _) zt_X7_isLetter rfl zml_X7_141 (by decide) (Nat.le_of_ble_eq_true rfl) ?_
        dsimp only [Option.toList, List.cons_append, List.nil_append]
        refine zV_if_eqB hX (tgt := 33) dX7_isWord_24 (by decide) (fun c_24 => ?_) (fun c_24 => ?_)
        · have e9 : k = rWl e M := by rw [← hk4]; exact (tEnd_f c_24).symm
          rw [e9]
          exact J33 _
        · have e9 := tEnd_t (q := tLt M) c_12 c_24
          refine zV_iincN hX (b := 1) dX7_isWord_27 rfl (by decide) ?_
          dsimp only [zst1, zst2, zclr, zc2]
          refine zV_goto hX (tgt := 7) dX7_isWord_30 (by decide) ?_
          exact ih (k + 1) _ (by omega) (by omega) (by omega) (e9.trans hk4)
  refine zV_aload_n hX dX7_isWord_0 rfl ?_
  refine zV_cV0p hX hR hl dX7_isWord_1 (zc_start l G M lc e n hM hy he) zt_X7_startOfToken rfl zml_X7_44 zo20.1 ⟨by decide, by decide⟩ (Nat.le_of_ble_eq_true rfl) ?_
  dsimp only [Option.toList, List.cons_append, List.nil_append]
  refine zV_istore_n hX dX7_isWord_4 (by decide) ?_
  dsimp only [zst1, zst2, zclr, zc2]
  refine zV_iload_n hX dX7_isWord_5 rfl ?_
  refine zV_istore_n hX dX7_isWord_6 (by decide) ?_
  dsimp only [zst1, zst2, zclr, zc2]
  exact L7 (e + 1) (rSp e M) _ (by omega) hsp (Nat.le_refl _) rfl
set_option maxHeartbeats 1000000 in
theorem zc_takesWord (l : Launch) (G : zG) (M : zM) (lc e n j : Nat) (hM : rSt lc e n M) (hy : lyR lc) (he : e ≤ 300) (hj : j < 11) : zC l G 5 yX7_takesWord cX7_takesWord 2 (Option.some Jvm.ClassFile.FieldType.boolean) [.ref (20 : Nat), .ref (5000 + j)] M (zP (some (.int (zb (rWb e j M)))) (rWm e j M)) := by
  refine zC_of (by decide) (Nat.le_of_ble_eq_true rfl) (fun X Q hQ hX hl hR hr => ?_)
  refine zV_loc (L' := [.ref (20 : Nat), .ref (5000 + j)]) rfl ?_
  refine zV_aload_n hX dX7_takesWord_0 rfl ?_
  refine zV_aload_n hX dX7_takesWord_1 rfl ?_
  refine zV_cV1p hX hR hl dX7_takesWord_2 (zc_isWord l G M lc e n j hM hy he hj) zt_X7_isWord rfl zml_X7_86 zo20.1 ⟨by decide, by decide⟩ (Nat.le_of_ble_eq_true rfl) ?_
  dsimp only [Option.toList, List.cons_append, List.nil_append]
  refine zV_if_neB hX (tgt := 10) dX7_takesWord_5 (by decide) (fun c_5 => ?_) (fun c_5 => ?_)
  · have e9 := c_5
    refine zV_aload_n hX dX7_takesWord_10 rfl ?_
    refine zV_dup hX dX7_takesWord_11 rfl ?_
    refine zV_geti hX dX7_takesWord_12 zf_X7_29 zo20.1 rfl (zw_same) ?_
    refine zV_aload_n hX dX7_takesWord_15 rfl ?_
    refine zV_cT0p hX hR hl dX7_takesWord_16 (zc_slength l G _ j hj) zt_J0_length_8abf5 rfl rfl zml_X7_136 ⟨hj, Nat.le_of_ble_eq_true rfl⟩ (Nat.le_of_ble_eq_true rfl) ?_
    dsimp only [Option.toList, List.cons_append, List.nil_append]
    refine zV_iaddN hX dX7_takesWord_19 ?_
    refine zV_puti hX dX7_takesWord_20 zf_X7_29 zp_6_4 zo20.1 rfl ?_
    refine zV_iconst hX (v := nI 1) dX7_takesWord_23 (by decide) ?_
    exact zV_retz hX hQ hr (rfl) (⟨by rw [e9]; rfl, by rw [rWm, e9]; exact rAt_rAt _ _ _⟩) dX7_takesWord_24
  · have e9 := c_5
    refine zV_iconst hX (v := nI 0) dX7_takesWord_8 (by decide) ?_
    exact zV_retz hX hQ hr (rfl) (⟨by rw [e9]; rfl, by rw [rWm, e9]; rfl⟩) dX7_takesWord_9
theorem zc_isWordS (l : Launch) (G : zG) (M : zM) (lc e n j : Nat) (hM : rSt lc e n M) (hy : lyR lc) (he : e ≤ 300) (hj : j < 11) : zC l G 4 yX7_isWord cX7_isWord 5 (Option.some Jvm.ClassFile.FieldType.boolean) [.ref (20 : Nat), .ref (5000 + j)] (rS e M) (zP (some (.int (zb (rWb e j M)))) (rS e M)) := by
  have h := zc_isWord l G (rS e M) lc e n j (rSt_S hM hy he) hy he hj
  rw [rWb_S hM he, rS_S hM he] at h
  exact h
theorem zc_takesWordS (l : Launch) (G : zG) (M : zM) (lc e n j : Nat) (hM : rSt lc e n M) (hy : lyR lc) (he : e ≤ 300) (hj : j < 11) : zC l G 5 yX7_takesWord cX7_takesWord 2 (Option.some Jvm.ClassFile.FieldType.boolean) [.ref (20 : Nat), .ref (5000 + j)] (rS e M) (zP (some (.int (zb (rWb e j M)))) (rWm e j M)) := by
  have h := zc_takesWord l G (rS e M) lc e n j (rSt_S hM hy he) hy he hj
  rw [rWb_S hM he, rWm_S hM he] at h
  exact h
theorem zc_startS (l : Launch) (G : zG) (M : zM) (lc e n : Nat) (hM : rSt lc e n M) (hy : lyR lc) (he : e ≤ 300) : zC l G 0 yX7_startOfToken cX7_startOfToken 1 (Option.some Jvm.ClassFile.FieldType.int) [.ref (20 : Nat)] (rS e M) (zP (some (.int (nI (rSp e M)))) (rS e M)) := by
  have h := zc_start l G (rS e M) lc e n (rSt_S hM hy he) hy he
  rw [rSp_S hM he, rS_S hM he] at h
  exact h
set_option maxHeartbeats 1000000 in
theorem zc_startsLie (l : Launch) (G : zG) (M : zM) (lc e n : Nat) (hM : rSt lc e n M) (hy : lyR lc) (he : e ≤ 300) : zC l G 5 yX7_startsLie cX7_startsLie 1 (Option.some Jvm.ClassFile.FieldType.boolean) [.ref (20 : Nat)] M (zP (some (.int (zb (rLb e M)))) (rS e M)) := by
  refine zC_of (by decide) (Nat.le_of_ble_eq_true rfl) (fun X Q hQ hX hl hR hr => ?_)
  refine zV_loc (L' := [.ref (20 : Nat)]) rfl ?_
  refine zV_aload_n hX dX7_startsLie_0 rfl ?_
  refine zV_ldcs hX (j := 1) dX7_startsLie_1 zsr_X7_84 ?_
  refine zV_cV1p hX hR hl dX7_startsLie_3 (zc_isWord l G M lc e n 1 hM hy he (by decide)) zt_X7_isWord rfl zml_X7_86 zo20.1 ⟨by decide, by decide⟩ (Nat.le_of_ble_eq_true rfl) ?_
  dsimp only [Option.toList, List.cons_append, List.nil_append]
  refine zV_if_neB hX (tgt := 72) dX7_startsLie_6 (by decide) (fun c_6 => ?_) (fun c_6 => ?_)
  · have e9 : rLb e M = true := by simp [rLb, c_6]
    refine zV_iconst hX (v := nI 1) dX7_startsLie_72 (by decide) ?_
    refine zV_goto hX (tgt := 77) dX7_startsLie_73 (by decide) ?_
    exact zV_retz hX hQ hr (rfl) (⟨by rw [e9]; rfl, rfl⟩) dX7_startsLie_77
  · refine zV_aload_n hX dX7_startsLie_9 rfl ?_
    refine zV_ldcs hX (j := 2) dX7_startsLie_10 zsr_X7_89 ?_
    refine zV_cV1p hX hR hl dX7_startsLie_12 (zc_isWordS l G M lc e n 2 hM hy he (by decide)) zt_X7_isWord rfl zml_X7_86 zo20.1 ⟨by decide, by decide⟩ (Nat.le_of_ble_eq_true rfl) ?_
    dsimp only [Option.toList, List.cons_append, List.nil_append]
    refine zV_if_neB hX (tgt := 72) dX7_startsLie_15 (by decide) (fun c_15 => ?_) (fun c_15 => ?_)
    · have e9 : rLb e M = true := by simp [rLb, c_15]
      refine zV_iconst hX (v := nI 1) dX7_startsLie_72 (by decide) ?_
      refine zV_goto hX (tgt := 77) dX7_startsLie_73 (by decide) ?_
      exact zV_retz hX hQ hr (rfl) (⟨by rw [e9]; rfl, rfl⟩) dX7_startsLie_77
    · refine zV_aload_n hX dX7_startsLie_18 rfl ?_
      refine zV_ldcs hX (j := 3) dX7_startsLie_19 zsr_X7_91 ?_
      refine zV_cV1p hX hR hl dX7_startsLie_21 (zc_isWordS l G M lc e n 3 hM hy he (by decide)) zt_X7_isWord rfl zml_X7_86 zo20.1 ⟨by decide, by decide⟩ (Nat.le_of_ble_eq_true rfl) ?_
      dsimp only [Option.toList, List.cons_append, List.nil_append]
      refine zV_if_neB hX (tgt := 72) dX7_startsLie_24 (by decide) (fun c_24 => ?_) (fun c_24 => ?_)
      · have e9 : rLb e M = true := by simp [rLb, c_24]
        refine zV_iconst hX (v := nI 1) dX7_startsLie_72 (by decide) ?_
        refine zV_goto hX (tgt := 77) dX7_startsLie_73 (by decide) ?_
        exact zV_retz hX hQ hr (rfl) (⟨by rw [e9]; rfl, rfl⟩) dX7_startsLie_77
      · refine zV_aload_n hX dX7_startsLie_27 rfl ?_
        refine zV_ldcs hX (j := 4) dX7_startsLie_28 zsr_X7_93 ?_
        refine zV_cV1p hX hR hl dX7_startsLie_30 (zc_isWordS l G M lc e n 4 hM hy he (by decide)) zt_X7_isWord rfl zml_X7_86 zo20.1 ⟨by decide, by decide⟩ (Nat.le_of_ble_eq_true rfl) ?_
        dsimp only [Option.toList, List.cons_append, List.nil_append]
        refine zV_if_neB hX (tgt := 72) dX7_startsLie_33 (by decide) (fun c_33 => ?_) (fun c_33 => ?_)
        · have e9 : rLb e M = true := by simp [rLb, c_33]
          refine zV_iconst hX (v := nI 1) dX7_startsLie_72 (by decide) ?_
          refine zV_goto hX (tgt := 77) dX7_startsLie_73 (by decide) ?_
          exact zV_retz hX hQ hr (rfl) (⟨by rw [e9]; rfl, rfl⟩) dX7_startsLie_77
        · refine zV_aload_n hX dX7_startsLie_36 rfl ?_
          refine zV_ldcs hX (j := 5) dX7_startsLie_37 zsr_X7_95 ?_
          refine zV_cV1p hX hR hl dX7_startsLie_39 (zc_isWordS l G M lc e n 5 hM hy he (by decide)) zt_X7_isWord rfl zml_X7_86 zo20.1 ⟨by decide, by decide⟩ (Nat.le_of_ble_eq_true rfl) ?_
          dsimp only [Option.toList, List.cons_append, List.nil_append]
          refine zV_if_neB hX (tgt := 72) dX7_startsLie_42 (by decide) (fun c_42 => ?_) (fun c_42 => ?_)
          · have e9 : rLb e M = true := by simp [rLb, c_42]
            refine zV_iconst hX (v := nI 1) dX7_startsLie_72 (by decide) ?_
            refine zV_goto hX (tgt := 77) dX7_startsLie_73 (by decide) ?_
            exact zV_retz hX hQ hr (rfl) (⟨by rw [e9]; rfl, rfl⟩) dX7_startsLie_77
          · refine zV_aload_n hX dX7_startsLie_45 rfl ?_
            refine zV_ldcs hX (j := 6) dX7_startsLie_46 zsr_X7_97 ?_
            refine zV_cV1p hX hR hl dX7_startsLie_48 (zc_isWordS l G M lc e n 6 hM hy he (by decide)) zt_X7_isWord rfl zml_X7_86 zo20.1 ⟨by decide, by decide⟩ (Nat.le_of_ble_eq_true rfl) ?_
            dsimp only [Option.toList, List.cons_append, List.nil_append]
            refine zV_if_neB hX (tgt := 72) dX7_startsLie_51 (by decide) (fun c_51 => ?_) (fun c_51 => ?_)
            · have e9 : rLb e M = true := by simp [rLb, c_51]
              refine zV_iconst hX (v := nI 1) dX7_startsLie_72 (by decide) ?_
              refine zV_goto hX (tgt := 77) dX7_startsLie_73 (by decide) ?_
              exact zV_retz hX hQ hr (rfl) (⟨by rw [e9]; rfl, rfl⟩) dX7_startsLie_77
            · refine zV_aload_n hX dX7_startsLie_54 rfl ?_
              refine zV_ldcs hX (j := 7) dX7_startsLie_55 zsr_X7_99 ?_
              refine zV_cV1p hX hR hl dX7_startsLie_57 (zc_isWordS l G M lc e n 7 hM hy he (by decide)) zt_X7_isWord rfl zml_X7_86 zo20.1 ⟨by decide, by decide⟩ (Nat.le_of_ble_eq_true rfl) ?_
              dsimp only [Option.toList, List.cons_append, List.nil_append]
              refine zV_if_neB hX (tgt := 72) dX7_startsLie_60 (by decide) (fun c_60 => ?_) (fun c_60 => ?_)
              · have e9 : rLb e M = true := by simp [rLb, c_60]
                refine zV_iconst hX (v := nI 1) dX7_startsLie_72 (by decide) ?_
                refine zV_goto hX (tgt := 77) dX7_startsLie_73 (by decide) ?_
                exact zV_retz hX hQ hr (rfl) (⟨by rw [e9]; rfl, rfl⟩) dX7_startsLie_77
              · refine zV_aload_n hX dX7_startsLie_63 rfl ?_
                refine zV_ldcs hX (j := 8) dX7_startsLie_64 zsr_X7_101 ?_
                refine zV_cV1p hX hR hl dX7_startsLie_66 (zc_isWordS l G M lc e n 8 hM hy he (by decide)) zt_X7_isWord rfl zml_X7_86 zo20.1 ⟨by decide, by decide⟩ (Nat.le_of_ble_eq_true rfl) ?_
                dsimp only [Option.toList, List.cons_append, List.nil_append]
                refine zV_if_eqB hX (tgt := 76) dX7_startsLie_69 (by decide) (fun c_69 => ?_) (fun c_69 => ?_)
                · have e9 : rLb e M = false := by simp [rLb, c_6, c_15, c_24, c_33, c_42, c_51, c_60, c_69]
                  refine zV_iconst hX (v := nI 0) dX7_startsLie_76 (by decide) ?_
                  exact zV_retz hX hQ hr (rfl) (⟨by rw [e9]; rfl, rfl⟩) dX7_startsLie_77
                · have e9 : rLb e M = true := by simp [rLb, c_69]
                  refine zV_iconst hX (v := nI 1) dX7_startsLie_72 (by decide) ?_
                  refine zV_goto hX (tgt := 77) dX7_startsLie_73 (by decide) ?_
                  exact zV_retz hX hQ hr (rfl) (⟨by rw [e9]; rfl, rfl⟩) dX7_startsLie_77
