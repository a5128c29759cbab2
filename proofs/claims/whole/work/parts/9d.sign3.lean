section zSign3
variable {lc n c : Nat} {cn : Nat → Nat} {mn : Nat → Option Nat} {lb : Nat → Bool} {V : Nat → Int32}
theorem sF1_W {own : Int32} {x : Nat} {A : zM} : sF1 120 lc c cn own x A = if x = c then A else sgW c x 1 own (nI 0 ||| (nI 1 <<< (nI c &&& 31))) (lSaidF A lc c 1 x (nI c) own (cn c) 0) A := by
  unfold sF1
  by_cases e : x = c
  · rw [if_pos e, if_pos e]
  · rw [if_neg e, if_neg e]
    have ez : (nI 0 ||| (nI 1 <<< (nI c &&& 31))) = (nI 1 <<< (nI c &&& 31)) := Int32.zero_or
    rw [ez]
    generalize lSaidF A lc c 1 x (nI c) own (cn c) 0 = w
    match w with
    | none => rfl
    | some none => rfl
    | some (some u) =>
      unfold sgW
      dsimp only
      rw [if_neg (show ¬ (1 < 1 ∧ ¬ u = own) by omega)]
theorem sPass1_W {w a r x : Nat} {S : Int32} {A : zM} (hr : 2 ≤ r) : sPass1 120 lc w a r cn S x A = if bit S x then A else sgW w x r (A.1 129 a) S (lSaidF A lc w r x (A.1 131 a) (A.1 129 a) (cn w) 0) A := by
  unfold sPass1
  by_cases e : bit S x = true
  · rw [if_pos e, if_pos e]
  · rw [if_neg e, if_neg e]
    show (match lSaidF A lc w r x (A.1 131 a) (A.1 129 a) (cn w) 0 with | some (some v) => _ | y => _) = _
    generalize lSaidF A lc w r x (A.1 131 a) (A.1 129 a) (cn w) 0 = y
    match y with
    | none => rfl
    | some none => rfl
    | some (some u) =>
      show (if u = A.1 129 a then _ else _) = (if 1 < r ∧ ¬ u = A.1 129 a then _ else _)
      by_cases e2 : u = A.1 129 a
      · rw [if_pos e2, if_neg (fun h => h.2 e2), ← e2]
      · rw [if_neg e2, if_pos ⟨by omega, e2⟩]
/-- one line of the book passed on -/
theorem sgPass (hl : 180 ≤ lc) (hc : c < 7) (hn7 : n ≤ 7) {r : Nat} (hr : 2 ≤ r) {s k : Nat} (hs : s < 7) {A B : zM} (h : sgR lc cn mn lb A B) (hg : gOk c V B) (hk : k < mTk9 B s) : sgR lc cn mn lb (sPassK 120 lc s (s * 7 + k) r cn n A) (mWX s k r mn n B) ∧ gOk c V (mWX s k r mn n B) ∧ (mWX s k r mn n B).1 332 s = B.1 332 s := by
  unfold sPassK mWX
  have hS : A.1 (120 + 1 + 9) (s * 7 + k) = B.1 (1560 + s) k := ((h.1 s hs).2.1 k hk).2.1
  rw [hS]
  have key := zfor_pair (R := fun _ A2 B2 => sgR lc cn mn lb A2 B2 ∧ gOk c V B2 ∧ B2.1 332 s = B.1 332 s ∧ ∀ j, B2.1 (1560 + s) j = B.1 (1560 + s) j) (f := sPass1 120 lc s (s * 7 + k) r cn (B.1 (1560 + s) k ||| (nI 1 <<< (nI s &&& 31)))) (g := mWx s k r mn) (n := n) (A := A) (B := B) (fun x A2 B2 hx hR => ?_) ⟨h, hg, rfl, fun _ => rfl⟩ n (Nat.le_refl n)
  · exact ⟨key.1, key.2.1, key.2.2.1⟩
  · obtain ⟨r1, r2, r3, r4⟩ := hR
    have hk2 : k < mTk9 B2 s := by
      have e : mTk9 B2 s = mTk9 B s := by show zN (B2.1 332 s) = zN (B.1 332 s); rw [r3]
      omega
    obtain ⟨w1, w2, w3, w4⟩ := (r1.1 s hs).2.1 k hk2
    rw [sPass1_W hr]
    have hok := mWx_ok (x := x) hc hs (by omega) hr mn r2 hk2
    unfold mWx at hok ⊢
    by_cases e : x = s
    · rw [if_pos e, if_pos (by rw [bit_or _ _ (by omega), bit_sh (by omega) (by omega), e]; simp)]
      exact ⟨r1, r2, r3, r4⟩
    · rw [if_neg e] at hok ⊢
      have eb : bit (B.1 (1560 + s) k ||| (nI 1 <<< (nI s &&& 31))) x = bit (B2.1 (1000 + 16 * 35 + s) k) x := by
        rw [bit_or _ _ (by omega), bit_sh (by omega) (by omega), show B2.1 (1000 + 16 * 35 + s) k = B.1 (1560 + s) k from r4 k]
        simp [e]
      rw [eb]
      by_cases e2 : bit (B2.1 (1000 + 16 * 35 + s) k) x = true
      · rw [if_pos e2, if_pos e2]
        exact ⟨r1, r2, r3, r4⟩
      · rw [if_neg e2] at hok
        rw [if_neg e2, if_neg e2]
        have hw : lSaidF A2 lc s r x (A2.1 131 (s * 7 + k)) (A2.1 129 (s * 7 + k)) (cn s) 0 = mSay B2 mn s r x (B2.1 (1576 + s) k) (B2.1 (1544 + s) k) := by
          rw [w1, w3]
          exact r1.2.2.2.2.1 s r x _ _ hs
        rw [hw, w1, ← r4 k]
        have hW := mWrites_W mn s x r (B2.1 (1576 + s) k) (B2.1 (1544 + s) k) (B2.1 (1560 + s) k) B2
        refine ⟨sgWw hl hc r1 r2 hs (by omega) _, hok, ?_, fun j => ?_⟩
        · show (mWrites mn s x r (B2.1 (1576 + s) k) (B2.1 (1544 + s) k) (B2.1 (1560 + s) k) B2).1 332 s = _
          rw [hW.1 _ _ (by unfold mFrW; omega)]; exact r3
        · show (mWrites mn s x r (B2.1 (1576 + s) k) (B2.1 (1544 + s) k) (B2.1 (1560 + s) k) B2).1 (1560 + s) j = _
          rw [hW.1 _ _ (by unfold mFrW; omega)]; exact r4 j
/-- all that one member has of the round before -/
theorem sgIn (hl : 180 ≤ lc) (hc : c < 7) (hn7 : n ≤ 7) {r : Nat} (hr : 2 ≤ r) {s : Nat} (hs : s < 7) {A B : zM} (h : sgR lc cn mn lb A B) (hg : gOk c V B) : sgR lc cn mn lb (sR1 120 lc n r cn s A) (mWs n r mn s B) ∧ gOk c V (mWs n r mn s B) := by
  unfold sR1 mWs sIn mWK
  rw [show A.1 (120 + 1 + 4) s = B.1 332 s from (h.1 s hs).1]
  have key := zfor_pair (R := fun _ A2 B2 => sgR lc cn mn lb A2 B2 ∧ gOk c V B2 ∧ B2.1 332 s = B.1 332 s) (f := sIn1 120 lc n s r cn) (g := mWk n s r mn) (n := zN (B.1 332 s)) (A := A) (B := B) (fun k A2 B2 hk hR => ?_) ⟨h, hg, rfl⟩ (zN (B.1 332 s)) (Nat.le_refl _)
  · exact ⟨key.1, key.2.1⟩
  · obtain ⟨r1, r2, r3⟩ := hR
    have hk2 : k < mTk9 B2 s := by show k < zN (B2.1 332 s); rw [r3]; exact hk
    obtain ⟨w1, w2, w3, w4⟩ := (r1.1 s hs).2.1 k hk2
    unfold sIn1 mWk
    rw [show A2.1 (120 + 1 + 11) (s * 7 + k) = B2.1 (1000 + 16 * 37 + s) k from w4]
    by_cases e : B2.1 (1000 + 16 * 37 + s) k = nI (r - 1)
    · rw [if_pos e, if_pos e]
      obtain ⟨p1, p2, p3⟩ := sgPass hl hc hn7 hr hs r1 r2 hk2
      exact ⟨p1, p2, p3.trans r3⟩
    · rw [if_neg e, if_neg e]
      exact ⟨r1, r2, r3⟩
theorem sgRd (hl : 180 ≤ lc) (hc : c < 7) (hn7 : n ≤ 7) {r : Nat} (hr : 2 ≤ r) {A B : zM} (h : sgR lc cn mn lb A B) (hg : gOk c V B) : sgR lc cn mn lb (sRd 120 lc n r cn n A) (mWS n r mn n B) ∧ gOk c V (mWS n r mn n B) :=
  zfor_pair (R := fun _ A2 B2 => sgR lc cn mn lb A2 B2 ∧ gOk c V B2) (f := sR1 120 lc n r cn) (g := mWs n r mn) (n := n) (fun s A2 B2 hs hR => sgIn hl hc hn7 hr (by omega) hR.1 hR.2) ⟨h, hg⟩ n (Nat.le_refl n)
end zSign3
