section zAtk
/-- a memory of the reference in which member i lies as way w tells it -/
def vDg (n r i w idx : Nat) : Nat := w / (3 ^ fWl n r i / 3 ^ (idx + 1)) % 3
def vTo (i idx : Nat) : Nat := if i = 0 ∨ idx + 1 < i then idx + 1 else idx + 2
def vB (n r i w : Nat) : zM := (fun a j =>
  if a = 313 then (if j = 0 then 1065353216 else 0)
  else if a = 1208 then (if j = i then nI (fWl n r i) else -1)
  else if 3100 + 13 * i ≤ a ∧ a < 3113 + 13 * i then
    (match j with
      | 0 => if i = 0 then nI 1 else nI 2
      | 1 => nI (vTo i (a - (3100 + 13 * i)))
      | 2 => -1
      | 3 => if vDg n r i w (a - (3100 + 13 * i)) = 2 then nI 2 else nI 0
      | 4 => (FP.i2f (nI (vDg n r i w (a - (3100 + 13 * i))))).toInt32
      | _ => 0)
  else 0, fun _ _ => 0)
def vMn (n r i m : Nat) : Option Nat := if m = i then some (fWl n r i) else none
def vD (n r i w : Nat) : zM := mGo 0 n (r - 1) (vMn n r i) r (vB n r i w)
def vUn (n r i w : Nat) : Nat := zunl (fun m => mDec (vD n r i w) n 0 r m) ((vD n r i w).1 300 25) n
def vBr (n r i w : Nat) : Bool := if i = 0 then decide (1 < vUn n r i w) else !(bit ((vD n r i w).1 300 25) 0 || zall (fun m => bit ((vD n r i w).1 300 25) m || mDec (vD n r i w) n 0 r m == (vD n r i w).1 300 26) n)
def vOk (n r i w : Nat) : Bool := decide (vUn n r i w = aKds (aOd n r i w) n i) && (vBr n r i w == aBk (aOd n r i w) n i)
theorem vAll : zall (fun n => zall (fun r => zall (fun i => zall (fun w => vOk (n + 3) (r + 1) i w) (3 ^ fWl (n + 3) (r + 1) i)) (n + 3)) 2) 2 = true := by decide +kernel
theorem v_ok {n r i w : Nat} (hn : 3 ≤ n ∧ n ≤ 4) (hr : 1 ≤ r ∧ r ≤ 2) (hi : i < n) (hw : w < 3 ^ fWl n r i) : vUn n r i w = aKds (aOd n r i w) n i ∧ vBr n r i w = aBk (aOd n r i w) n i := by
  obtain ⟨a, rfl⟩ : ∃ a, n = a + 3 := ⟨n - 3, by omega⟩
  obtain ⟨b, rfl⟩ : ∃ b, r = b + 1 := ⟨r - 1, by omega⟩
  have h := zall_true.mp (zall_true.mp (zall_true.mp (zall_true.mp vAll a (by omega)) b (by omega)) i hi) w hw
  unfold vOk at h
  rw [Bool.and_eq_true, decide_eq_true_eq, beq_iff_eq] at h
  exact h
end zAtk
