section zRel2
variable {l : Launch} {G : zG} {I : zM → Prop} {M : zM} {d nLL nLM : Nat} {yL yM : MethodName} {cL cM : ByteArray} {hh : List (Nat × Nat × Nat × Nat)} {av : List Value}
theorem opI_m0 (hg : zIg M) (hc : zIc M) (hk : zKeeps I M) {v : Int32} (h1 : zCw l G 10 1 6 yL cL nLL (some .int) hh (.ref (0 : Nat) :: av ++ [.ref (220 : Nat)]) M (zP (some (.int (nI 0))) (zwL M 220 0 v.toInt64))) (hd : d < 20) (h2 : zC l G d yM cM nLM (some .int) (.ref (300 : Nat) :: av) (zwL M 220 0 v.toInt64) (zP (some (.int (v))) (m0 (zwL M 220 0 v.toInt64)))) : opI l G I yL cL nLL hh yM cM nLM av M := by
  obtain ⟨b1, b2, b3⟩ := zI_m0 (M := zwL M 220 0 v.toInt64) hg hc
  exact ⟨0, d, 0, 0, v, _, _, by decide, hd, by decide, by decide, h1, zCk.of h2, zw_same, fun _ => zwL_22 (M := M), hk _ b1 b2 b3⟩
theorem opI_ba (hg : zIg M) (hc : zIc M) (hk : zKeeps I M) {k : Nat} {b : Int32} (hk3 : k < 3) (hk0 : k ≠ 0) (h1 : zCw l G 10 1 6 yL cL nLL (some .int) hh (.ref (0 : Nat) :: av ++ [.ref (220 : Nat)]) M (zP (some (.int (nI k))) (mBa M))) (hd : d < 20) (h2 : zC l G d yM cM nLM (some .int) (.ref (300 : Nat) :: av) (mBa M) (zP (some (.int b)) (mTw (nI k) (nI 1) (mBa M)))) : opI l G I yL cL nLL hh yM cM nLM av M := by
  obtain ⟨b1, b2, b3, b4⟩ := zI_ba (w := nI k) hg hc
  exact ⟨k, d, 0, 0, b, _, _, hk3, hd, by decide, by decide, h1, zCk.of h2, b4, fun e => absurd e hk0, hk _ b1 b2 b3⟩
theorem opI_bs (hg : zIg M) (hc : zIc M) (hk : zKeeps I M) {k : Nat} {b : Int32} (hk3 : k < 3) (hk0 : k ≠ 0) (h1 : zCw l G 10 1 6 yL cL nLL (some .int) hh (.ref (0 : Nat) :: av ++ [.ref (220 : Nat)]) M (zP (some (.int (nI k))) (mBs M))) (hd : d < 20) (h2 : zC l G d yM cM nLM (some .int) (.ref (300 : Nat) :: av) (mBs M) (zP (some (.int b)) (mTw (nI k) (nI 0) (mBs M)))) : opI l G I yL cL nLL hh yM cM nLM av M := by
  obtain ⟨b1, b2, b3, b4⟩ := zI_bs (w := nI k) hg hc
  exact ⟨k, d, 0, 0, b, _, _, hk3, hd, by decide, by decide, h1, zCk.of h2, b4, fun e => absurd e hk0, hk _ b1 b2 b3⟩
theorem opZ_m0 (hg : zIg M) (hc : zIc M) (hk : zKeeps I M) {v : Bool} (h1 : zCw l G 10 1 6 yL cL nLL (some .int) hh (.ref (0 : Nat) :: av ++ [.ref (220 : Nat)]) M (zP (some (.int (nI 0))) (zwL M 220 0 (if v = true then 1 else 0)))) (hd : d < 20) (h2 : zC l G d yM cM nLM (some .boolean) (.ref (300 : Nat) :: av) (zwL M 220 0 (if v = true then 1 else 0)) (zP (some (.int (zb v))) (m0 (zwL M 220 0 (if v = true then 1 else 0))))) : opZ l G I yL cL nLL hh yM cM nLM av M := by
  obtain ⟨b1, b2, b3⟩ := zI_m0 (M := zwL M 220 0 (if v = true then 1 else 0)) hg hc
  exact ⟨0, d, 0, 0, v, _, _, by decide, hd, by decide, by decide, h1, zCk.of h2, zw_same, fun _ => zwL_22 (M := M), hk _ b1 b2 b3⟩
theorem opZ_ba (hg : zIg M) (hc : zIc M) (hk : zKeeps I M) {k : Nat} {b : Bool} (hk3 : k < 3) (hk0 : k ≠ 0) (h1 : zCw l G 10 1 6 yL cL nLL (some .int) hh (.ref (0 : Nat) :: av ++ [.ref (220 : Nat)]) M (zP (some (.int (nI k))) (mBa M))) (hd : d < 20) (h2 : zC l G d yM cM nLM (some .boolean) (.ref (300 : Nat) :: av) (mBa M) (zP (some (.int (zb b))) (mTw (nI k) (nI 1) (mBa M)))) : opZ l G I yL cL nLL hh yM cM nLM av M := by
  obtain ⟨b1, b2, b3, b4⟩ := zI_ba (w := nI k) hg hc
  exact ⟨k, d, 0, 0, b, _, _, hk3, hd, by decide, by decide, h1, zCk.of h2, b4, fun e => absurd e hk0, hk _ b1 b2 b3⟩
theorem opZ_bs (hg : zIg M) (hc : zIc M) (hk : zKeeps I M) {k : Nat} {b : Bool} (hk3 : k < 3) (hk0 : k ≠ 0) (h1 : zCw l G 10 1 6 yL cL nLL (some .int) hh (.ref (0 : Nat) :: av ++ [.ref (220 : Nat)]) M (zP (some (.int (nI k))) (mBs M))) (hd : d < 20) (h2 : zC l G d yM cM nLM (some .boolean) (.ref (300 : Nat) :: av) (mBs M) (zP (some (.int (zb b))) (mTw (nI k) (nI 0) (mBs M)))) : opZ l G I yL cL nLL hh yM cM nLM av M := by
  obtain ⟨b1, b2, b3, b4⟩ := zI_bs (w := nI k) hg hc
  exact ⟨k, d, 0, 0, b, _, _, hk3, hd, by decide, by decide, h1, zCk.of h2, b4, fun e => absurd e hk0, hk _ b1 b2 b3⟩
theorem opJ_m0 (hg : zIg M) (hc : zIc M) (hk : zKeeps I M) {v : Int64} (h1 : zCw l G 10 1 6 yL cL nLL (some .int) hh (.ref (0 : Nat) :: av ++ [.ref (220 : Nat)]) M (zP (some (.int (nI 0))) (zwL M 220 0 v))) (hd : d < 20) (h2 : zC l G d yM cM nLM (some .long) (.ref (300 : Nat) :: av) (zwL M 220 0 v) (zP (some (.long v)) (m0 (zwL M 220 0 v)))) : opJ l G I yL cL nLL hh yM cM nLM av M := by
  obtain ⟨b1, b2, b3⟩ := zI_m0 (M := zwL M 220 0 v) hg hc
  exact ⟨0, d, 0, 0, v, _, _, by decide, hd, by decide, by decide, h1, zCk.of h2, zw_same, fun _ => zwL_22 (M := M), hk _ b1 b2 b3⟩
theorem opJ_ba (hg : zIg M) (hc : zIc M) (hk : zKeeps I M) {k : Nat} {b : Int64} (hk3 : k < 3) (hk0 : k ≠ 0) (h1 : zCw l G 10 1 6 yL cL nLL (some .int) hh (.ref (0 : Nat) :: av ++ [.ref (220 : Nat)]) M (zP (some (.int (nI k))) (mBa M))) (hd : d < 20) (h2 : zC l G d yM cM nLM (some .long) (.ref (300 : Nat) :: av) (mBa M) (zP (some (.long b)) (mTw (nI k) (nI 1) (mBa M)))) : opJ l G I yL cL nLL hh yM cM nLM av M := by
  obtain ⟨b1, b2, b3, b4⟩ := zI_ba (w := nI k) hg hc
  exact ⟨k, d, 0, 0, b, _, _, hk3, hd, by decide, by decide, h1, zCk.of h2, b4, fun e => absurd e hk0, hk _ b1 b2 b3⟩
theorem opJ_bs (hg : zIg M) (hc : zIc M) (hk : zKeeps I M) {k : Nat} {b : Int64} (hk3 : k < 3) (hk0 : k ≠ 0) (h1 : zCw l G 10 1 6 yL cL nLL (some .int) hh (.ref (0 : Nat) :: av ++ [.ref (220 : Nat)]) M (zP (some (.int (nI k))) (mBs M))) (hd : d < 20) (h2 : zC l G d yM cM nLM (some .long) (.ref (300 : Nat) :: av) (mBs M) (zP (some (.long b)) (mTw (nI k) (nI 0) (mBs M)))) : opJ l G I yL cL nLL hh yM cM nLM av M := by
  obtain ⟨b1, b2, b3, b4⟩ := zI_bs (w := nI k) hg hc
  exact ⟨k, d, 0, 0, b, _, _, hk3, hd, by decide, by decide, h1, zCk.of h2, b4, fun e => absurd e hk0, hk _ b1 b2 b3⟩
theorem fMs_aMs : ∀ a, a < 8 → ∀ b, b < 4 → 3 ≤ a → 1 ≤ b → nI (fMs a b).2 = (aMs a (b - 1)).2 := by decide +kernel
theorem fMs_few : ∀ a, a < 3 → nI (max 3 (3 * a + 1)) = nI (aFw a) ∧ nI (fMs (max 3 (3 * a + 1)) (a + 1)).2 = (aMs (aFw a) a).2 := by decide +kernel
theorem op_messages (hst : l.stackTraces = false) (hg : zIg M) (hc : zIc M) (hk : zKeeps I M) (v1 v2 : Int32) : opI l G I yL_messages cL_messages 5 [(0, 10, 13, 13)] yX11_messages cX11_messages 3 [.int v1, .int v2] M := by
  cases ha : mIn v1 (nI 3) (nI 7) with
  | false => exact opI_ba hg hc hk (by decide) (by decide) (zh_messagesI l G M (mBa M) v1 v2 (zf_messagesX l G M hst v1 v2 (by rw [ha]; rfl))) (by decide) (zc_mmessagesA l G (mBa M) v1 v2 ha)
  | true =>
    cases hb : mIn v2 (nI 1) (nI 3) with
    | false => exact opI_ba hg hc hk (by decide) (by decide) (zh_messagesI l G M (mBa M) v1 v2 (zf_messagesX l G M hst v1 v2 (by rw [ha, hb]; rfl))) (by decide) (zc_mmessagesB l G (mBa M) v1 v2 ha hb)
    | true =>
      obtain ⟨a, a1, a2, rfl⟩ := mIn_ex ha (by decide) (by decide)
      obtain ⟨b, b1, b2, rfl⟩ := mIn_ex hb (by decide) (by decide)
      have h2 := zc_mmessages l G (zwL M 220 0 (nI (fMs a b).2).toInt64) a b a1 a2 b1 b2
      rw [← fMs_aMs a (by omega) b (by omega) a1 b1] at h2
      exact opI_m0 hg hc hk (zh_messages l G M M (nI a) (nI b) _ (zf_messages l G M a b ⟨a1, a2⟩ ⟨b1, b2⟩)) (by decide) h2
theorem op_fewest (hst : l.stackTraces = false) (hg : zIg M) (hc : zIc M) (hk : zKeeps I M) (v1 v2 : Int32) : opI l G I yL_fewest cL_fewest 5 [(0, 10, 13, 13)] yX11_fewest cX11_fewest 4 [.int v1, .int v2] M := by
  cases ha : mIn v1 (nI 0) (nI 2) with
  | false => exact opI_ba hg hc hk (by decide) (by decide) (zh_fewestI l G M (mBa M) v1 v2 (zf_fewestX l G M hst v1 v2 (by rw [ha]; rfl))) (by decide) (zc_mfewestA l G (mBa M) v1 v2 ha)
  | true =>
    cases hb : mIn v2 (nI 0) (nI 1) with
    | false => exact opI_ba hg hc hk (by decide) (by decide) (zh_fewestI l G M (mBa M) v1 v2 (zf_fewestX l G M hst v1 v2 (by rw [ha, hb]; rfl))) (by decide) (zc_mfewestB l G (mBa M) v1 v2 ha hb)
    | true =>
      obtain ⟨a, a1, a2, rfl⟩ := mIn_ex ha (by decide) (by decide)
      obtain ⟨b, b1, b2, rfl⟩ := mIn_ex hb (by decide) (by decide)
      obtain ⟨f1, f2⟩ := fMs_few a (by omega)
      have h2 := zc_mfewest l G (zwL M 220 0 (if b = 0 then nI (max 3 (3 * a + 1)) else nI (fMs (max 3 (3 * a + 1)) (a + 1)).2).toInt64) a b a2 (by omega)
      rw [← f1, ← f2] at h2
      exact opI_m0 hg hc hk (zh_fewest l G M M (nI a) (nI b) _ (zf_fewest l G M a b a2 (by omega))) (by decide) h2
-- the tape
theorem rAq_at {x : Int32} {k : Nat} {M : zM} : ∀ (q : Nat), (∀ j, (rAq x k q M).1 24 j = if k ≤ j ∧ j < k + q then rBy x (j - k) else M.1 24 j) ∧ (∀ c j, c ≠ 24 → ¬ (c = 20 ∧ j = 0) → (rAq x k q M).1 c j = M.1 c j) ∧ (0 < q → (rAq x k q M).1 20 0 = nI (k + q)) ∧ (rAq x k q M).2 = M.2
  | 0 => ⟨fun j => by rw [if_neg (by omega)]; rfl, fun _ _ _ _ => rfl, fun h => absurd h (by decide), rfl⟩
  | q + 1 => by
    obtain ⟨h1, h2, h3, h4⟩ := rAq_at (x := x) (k := k) (M := M) q
    refine ⟨fun j => ?_, fun c j hc hcj => ?_, fun _ => ?_, h4⟩
    · show (zw (zw (rAq x k q M) 24 (k + q) (rBy x q)) 20 0 (nI (k + q + 1))).1 24 j = _
      rw [zw_ne (Or.inl (by decide)), zw_at]
      by_cases e : j = k + q
      · subst e
        rw [if_pos ⟨rfl, rfl⟩, if_pos ⟨by omega, by omega⟩, Nat.add_sub_cancel_left]
      · rw [if_neg (fun h => e h.2), h1]
        by_cases e2 : k ≤ j ∧ j < k + q
        · rw [if_pos e2, if_pos ⟨e2.1, by omega⟩]
        · rw [if_neg e2, if_neg (by omega)]
    · show (zw (zw (rAq x k q M) 24 (k + q) (rBy x q)) 20 0 (nI (k + q + 1))).1 c j = _
      rw [zw_at, if_neg hcj, zw_ne (Or.inl hc)]
      exact h2 c j hc hcj
    · exact zw_same
theorem uFd_at {a b c d f : Int32} {s : Nat} {M : zM} : ∀ (q : Nat), (∀ j, (uFd a b c d f s q M).1 309 j = if s ≤ j ∧ j < s + q then rBy (uW a b c d f (j - s)) ((j - s) % 4) else M.1 309 j) ∧ (∀ e j, e ≠ 309 → ¬ (e = 300 ∧ (j = 2 ∨ j = 0)) → (uFd a b c d f s q M).1 e j = M.1 e j) ∧ (0 < q → (uFd a b c d f s q M).1 300 2 = nI (s + q)) ∧ (uFd a b c d f s q M).2 = M.2 ∧ (uFd a b c d f s q M).1 300 0 = nI 0
  | 0 => ⟨fun j => by rw [if_neg (by omega)]; exact zw_ne (Or.inl (by decide)), fun e j he hj => zw_ne (by by_cases h : e = 300; exact Or.inr (fun h2 => hj ⟨h, Or.inr h2⟩); exact Or.inl h), fun h => absurd h (by decide), rfl, zw_same⟩
  | q + 1 => by
    obtain ⟨h1, h2, h3, h4, h5⟩ := uFd_at (a := a) (b := b) (c := c) (d := d) (f := f) (s := s) (M := M) q
    refine ⟨fun j => ?_, fun e j he hj => ?_, fun _ => ?_, h4, ?_⟩
    · show (zw (zw (uFd a b c d f s q M) 309 (s + q) (rBy (uW a b c d f q) (q % 4))) 300 2 (nI (s + q + 1))).1 309 j = _
      rw [zw_ne (Or.inl (by decide)), zw_at]
      by_cases e : j = s + q
      · subst e
        rw [if_pos ⟨rfl, rfl⟩, if_pos ⟨by omega, by omega⟩, Nat.add_sub_cancel_left]
      · rw [if_neg (fun h => e h.2), h1]
        by_cases e2 : s ≤ j ∧ j < s + q
        · rw [if_pos e2, if_pos ⟨e2.1, by omega⟩]
        · rw [if_neg e2, if_neg (by omega)]
    · show (zw (zw (uFd a b c d f s q M) 309 (s + q) (rBy (uW a b c d f q) (q % 4))) 300 2 (nI (s + q + 1))).1 e j = _
      rw [zw_at, if_neg (fun h => hj ⟨h.1, Or.inl h.2⟩), zw_ne (Or.inl he)]
      exact h2 e j he hj
    · exact zw_same
    · show (zw (zw (uFd a b c d f s q M) 309 (s + q) (rBy (uW a b c d f q) (q % 4))) 300 2 (nI (s + q + 1))).1 300 0 = _
      rw [zw_ne (Or.inr (by decide)), zw_ne (Or.inl (by decide))]
      exact h5
theorem rF5_at {k : Nat} {x1 x2 x3 x4 x5 : Int32} {M : zM} : (∀ j, (rF5 k x1 x2 x3 x4 x5 M).1 24 j = if k ≤ j ∧ j < k + 20 then rBy (uW x1 x2 x3 x4 x5 (j - k)) ((j - k) % 4) else M.1 24 j) ∧ (∀ c j, c ≠ 24 → ¬ (c = 20 ∧ j = 0) → (rF5 k x1 x2 x3 x4 x5 M).1 c j = M.1 c j) ∧ (rF5 k x1 x2 x3 x4 x5 M).1 20 0 = nI (k + 20) ∧ (rF5 k x1 x2 x3 x4 x5 M).2 = M.2 := by
  unfold rF5
  refine ⟨fun j => ?_, fun c j hc hcj => ?_, ?_, ?_⟩
  · rw [(rAq_at 4).1, (rAq_at 4).1, (rAq_at 4).1, (rAq_at 4).1, (rAq_at 4).1]
    by_cases h : k ≤ j ∧ j < k + 20
    · rw [if_pos h]
      obtain ⟨i, rfl⟩ : ∃ i, j = k + i := ⟨j - k, by omega⟩
      have hi : i < 20 := by omega
      rw [Nat.add_sub_cancel_left]
      unfold uW
      by_cases g5 : k + 16 ≤ k + i ∧ k + i < k + 16 + 4
      · rw [if_pos g5, if_neg (by omega), if_neg (by omega), if_neg (by omega), if_neg (by omega), show k + i - (k + 16) = i % 4 by omega]
      rw [if_neg g5]
      by_cases g4 : k + 12 ≤ k + i ∧ k + i < k + 12 + 4
      · rw [if_pos g4, if_neg (by omega), if_neg (by omega), if_neg (by omega), if_pos (by omega), show k + i - (k + 12) = i % 4 by omega]
      rw [if_neg g4]
      by_cases g3 : k + 8 ≤ k + i ∧ k + i < k + 8 + 4
      · rw [if_pos g3, if_neg (by omega), if_neg (by omega), if_pos (by omega), show k + i - (k + 8) = i % 4 by omega]
      rw [if_neg g3]
      by_cases g2 : k + 4 ≤ k + i ∧ k + i < k + 4 + 4
      · rw [if_pos g2, if_neg (by omega), if_pos (by omega), show k + i - (k + 4) = i % 4 by omega]
      rw [if_neg g2, if_pos (by omega), if_pos (by omega), show k + i - (k + 0) = i % 4 by omega]
    · rw [if_neg h, if_neg (by omega), if_neg (by omega), if_neg (by omega), if_neg (by omega), if_neg (by omega)]
  · rw [(rAq_at 4).2.1 c j hc hcj, (rAq_at 4).2.1 c j hc hcj, (rAq_at 4).2.1 c j hc hcj, (rAq_at 4).2.1 c j hc hcj, (rAq_at 4).2.1 c j hc hcj]
  · rw [(rAq_at 4).2.2.1 (by decide)]
  · rw [(rAq_at 4).2.2.2, (rAq_at 4).2.2.2, (rAq_at 4).2.2.2, (rAq_at 4).2.2.2, (rAq_at 4).2.2.2]
theorem rBy_m1 (x : Int32) (q : Nat) : ¬ rBy x q = -1 := fun h => by
  have h8 : bt (rBy x q) 8 = false := by
    unfold rBy
    rw [b_and, show bt (nI 255) 8 = false by decide, Bool.and_false]
  rw [h] at h8
  exact absurd h8 (by decide)
/-- how an invariant is kept by what touches the tape only -/
def zKeepsR (I : zM → Prop) (M : zM) : Prop := ∀ M2, zIr M2 → (∀ c k, c ≠ 24 → c ≠ 309 → ¬ (c = 20 ∧ k = 0) → ¬ (c = 300 ∧ (k = 2 ∨ k = 0)) → M2.1 c k = M.1 c k) → I M2
theorem op_feed (hr : zIr M) (hkR : zKeepsR I M) (v1 v2 v3 v4 v5 : Int32) : opP l G I (Option.some Jvm.ClassFile.FieldType.int) yX10_feed cX10_feed 6 yX11_feed cX11_feed 8 [.int v1, .int v2, .int v3, .int v4, .int v5] M := by
  obtain ⟨s, r1, r2, r3, r4, r5⟩ := hr
  by_cases h : s + 20 ≤ 300
  · obtain ⟨f1, f2, f3, f4⟩ := rF5_at (k := s) (x1 := v1) (x2 := v2) (x3 := v3) (x4 := v4) (x5 := v5) (M := M)
    have h2 := zc_mfeed l G (rF5 s v1 v2 v3 v4 v5 M) s v1 v2 v3 v4 v5 (by rw [f2 _ _ (by decide) (by decide)]; exact r3) r1
    rw [if_pos h, if_pos h] at h2
    obtain ⟨u1, u2, u3, u4, u5⟩ := uFd_at (a := v1) (b := v2) (c := v3) (d := v4) (f := v5) (s := s) (M := rF5 s v1 v2 v3 v4 v5 M) 20
    refine ⟨0, 0, 0, nI (s + 20), _, _, by decide, by decide, by decide, zf_feed l G M s v1 v2 v3 v4 v5 r2 (by omega), zCk.of h2, hkR _ ⟨s + 20, h, ?_, u3 (by decide), ?_, fun j hj => ?_⟩ (fun c k h1 h2 h3 h4 => ?_)⟩
    · rw [u2 _ _ (by decide) (by decide)]; exact f3
    · rw [u2 _ _ (by decide) (by decide), u2 _ _ (by decide) (by decide), f2 _ _ (by decide) (by decide), f2 _ _ (by decide) (by decide)]; exact r4
    · rw [u1, u2 _ _ (by decide) (by omega), f1, f2 _ _ (by decide) (by omega), (r5 j hj).1]
      refine ⟨rfl, ?_⟩
      split
      · exact rBy_m1 _ _
      · exact (r5 j hj).2
    · rw [u2 _ _ h2 h4, f2 _ _ h1 h3]
  · have h2 := zc_mfeed l G M s v1 v2 v3 v4 v5 r3 r1
    rw [if_neg h, if_neg h] at h2
    refine ⟨0, 0, 0, -1, M, _, by decide, by decide, by decide, zf_feedN l G M s v1 v2 v3 v4 v5 r2 (by omega) r1, zCk.of h2, hkR _ ⟨s, r1, ?_, ?_, ?_, fun j hj => ?_⟩ (fun c k h1 h2 h3 h4 => ?_)⟩
    · rw [zw_ne (Or.inl (by decide))]; exact r2
    · rw [zw_ne (Or.inr (by decide))]; exact r3
    · rw [zw_ne (Or.inl (by decide)), zw_ne (Or.inr (by decide))]; exact r4
    · rw [zw_ne (Or.inl (by decide)), zw_ne (Or.inl (by decide))]; exact r5 j hj
    · rw [zw_at, if_neg (fun e => h4 ⟨e.1, Or.inr e.2⟩)]
end zRel2
