def zb (b : Bool) : Int32 := if b then nI 1 else nI 0
theorem zb_01 (b : Bool) : zb b = 0 ∨ zb b = 1 := by cases b; exact Or.inl rfl; exact Or.inr rfl
theorem zb_nar (b : Bool) : narrow .boolean (.int (zb b)) = .int (zb b) := by cases b <;> rfl
theorem zb_f (b : Bool) : zb b = 0 ↔ b = false := by cases b <;> decide
theorem zb_t (b : Bool) : ¬ zb b = 0 ↔ b = true := by cases b <;> decide
theorem zb_1 : nI 1 = zb true := rfl
theorem zb_0 : nI 0 = zb false := rfl
section zBrows
variable {G : zG} {X : zX} {Q : State → Prop} {own : String} {cc : ByteArray} {nL cells slots pc : Nat} {L S : List Value} {M : zM}
theorem zV_if_eqB (h : zOk G X own cc nL) {b : Bool} {off : Int} {tgt : Nat} (d : decode cc pc = .ok (.ifCond .eq off, 3)) (ht : (pc : Int) + off = (tgt : Int)) (kt : b = false → zV G X Q nL cells slots tgt L S M) (kf : b = true → zV G X Q nL cells slots (pc + 3) L S M) : zV G X Q nL cells slots pc L (.int (zb b) :: S) M := zV_if_eq h d ht (fun q => kt ((zb_f b).mp q)) (fun q => kf ((zb_t b).mp q))
theorem zV_if_neB (h : zOk G X own cc nL) {b : Bool} {off : Int} {tgt : Nat} (d : decode cc pc = .ok (.ifCond .ne off, 3)) (ht : (pc : Int) + off = (tgt : Int)) (kt : b = true → zV G X Q nL cells slots tgt L S M) (kf : b = false → zV G X Q nL cells slots (pc + 3) L S M) : zV G X Q nL cells slots pc L (.int (zb b) :: S) M := zV_if_ne h d ht (fun q => kt ((zb_t b).mp q)) (fun q => kf ((zb_f b).mp q))
end zBrows
def bit (s : Int32) (m : Nat) : Bool := decide (¬ (s >>> (nI m &&& 31)) &&& nI 1 = 0)
def zcnt (p : Nat → Bool) : Nat → Nat
  | 0 => 0
  | n + 1 => zcnt p n + if p n then 1 else 0
theorem zcnt_le (p : Nat → Bool) : ∀ n, zcnt p n ≤ n
  | 0 => Nat.le_refl 0
  | n + 1 => by
    have := zcnt_le p n
    unfold zcnt
    split <;> omega
theorem zcnt_t {p : Nat → Bool} {n : Nat} (h : p n = true) : zcnt p (n + 1) = zcnt p n + 1 := by simp [zcnt, h]
theorem zcnt_f {p : Nat → Bool} {n : Nat} (h : p n = false) : zcnt p (n + 1) = zcnt p n := by simp [zcnt, h]
def zany (p : Nat → Bool) : Nat → Bool
  | 0 => false
  | n + 1 => zany p n || p n
/-- the first place where g is greatest (above 0), and how much it is there -/
def zfm (g : Nat → Nat) : Nat → Nat × Nat
  | 0 => (0, 0)
  | k + 1 => if (zfm g k).2 < g k then (k, g k) else zfm g k
theorem zfm_le (g : Nat → Nat) (b : Nat) (h : ∀ i, g i ≤ b) : ∀ k, (zfm g k).2 ≤ b
  | 0 => Nat.zero_le b
  | k + 1 => by
    unfold zfm
    split
    · exact h k
    · exact zfm_le g b h k
theorem zany_true {p : Nat → Bool} {k : Nat} : ∀ {n : Nat}, k < n → p k = true → zany p n = true
  | 0, h, _ => absurd h (Nat.not_lt_zero k)
  | n + 1, h, hp => by
    rcases Nat.lt_or_ge k n with q | q
    · rw [zany, zany_true q hp]; rfl
    · rw [zany, show n = k by omega, hp, Bool.or_true]
set_option maxHeartbeats 1000000 in
theorem zc_isIn (l : Launch) (G : zG) (M : zM) (s : Int32) (m : Nat) : zC l G 0 yX9_isIn cX9_isIn 2 (Option.some Jvm.ClassFile.FieldType.boolean) [.int s, .int (nI m)] M (zP (some (.int (zb (bit s m)))) M) := by
  refine zC_of (by decide) (Nat.le_of_ble_eq_true rfl) (fun X Q hQ hX hl hR hr => ?_)
  refine zV_loc (L' := [.int s, .int (nI m)]) rfl ?_
  refine zV_iload_n hX dX9_isIn_0 rfl ?_
  refine zV_iload_n hX dX9_isIn_1 rfl ?_
  refine zV_ishr hX dX9_isIn_2 ?_
  refine zV_iconst hX (v := nI 1) dX9_isIn_3 (by decide) ?_
  refine zV_iand hX dX9_isIn_4 ?_
  refine zV_if_eq hX (tgt := 12) dX9_isIn_5 (by decide) (fun c_5 => ?_) (fun c_5 => ?_)
  · refine zV_iconst hX (v := nI 0) dX9_isIn_12 (by decide) ?_
    exact zV_retz hX hQ hr (rfl) (⟨by simp [zb, bit, c_5], rfl⟩) dX9_isIn_13
  · refine zV_iconst hX (v := nI 1) dX9_isIn_8 (by decide) ?_
    refine zV_goto hX (tgt := 13) dX9_isIn_9 (by decide) ?_
    exact zV_retz hX hQ hr (rfl) (⟨by simp [zb, bit, c_5], rfl⟩) dX9_isIn_13
set_option maxHeartbeats 1000000 in
theorem zc_alike (l : Launch) (G : zG) (M : zM) (c len f n : Nat) (b : Int32) (hc : zSh c = (20, len)) (hlen : len ≤ 2000) (hf : f + n ≤ len) : zC l G 0 yX9_alike cX9_alike 6 (Option.some Jvm.ClassFile.FieldType.int) [.ref c, .int (nI f), .int (nI n), .int b] M (zP (some (.int (nI (zcnt (fun j => M.1 c (j + f) == b) n)))) M) := by
  refine zC_of (by decide) (Nat.le_of_ble_eq_true rfl) (fun X Q hQ hX hl hR hr => ?_)
  refine zV_loc (L' := [.ref c, .int (nI f), .int (nI n), .int b, .null, .null]) rfl ?_
  have L6 : ∀ (f9 k : Nat), n - k < f9 → k ≤ n → zV G X Q 6 0 0 6 [.ref c, .int (nI f), .int (nI n), .int b, .int (nI (zcnt (fun j => M.1 c (j + f) == b) k)), .int (nI (k + f))] [] M := by
    intro f9
    induction f9 with
    | zero => intro k hk1 hk2; exact absurd hk1 (Nat.not_lt_zero _)
    | succ f9 ih =>
      intro k hk1 hk2
      refine zV_iload hX dX9_alike_6 rfl ?_
      refine zV_iload_n hX dX9_alike_8 rfl ?_
      refine zV_iload_n hX dX9_alike_9 rfl ?_
      refine zV_iaddN hX dX9_alike_10 ?_
      refine zV_icmp_geN hX (tgt := 45) dX9_alike_11 (by decide) ⟨by omega, by omega⟩ (fun c_11 => ?_) (fun c_11 => ?_)
      · refine zV_iload hX dX9_alike_45 rfl ?_
        exact zV_reti hX hQ hr (⟨by rw [show k = n by omega], rfl⟩) dX9_alike_47
      · refine zV_iload hX dX9_alike_14 rfl ?_
        refine zV_aload_n hX dX9_alike_16 rfl ?_
        refine zV_alen hX dX9_alike_17 hc rfl ?_
        refine zV_icmp_geN hX (tgt := 45) dX9_alike_18 (by decide) ⟨by omega, by omega⟩ (fun c_18 => absurd c_18 (by omega)) (fun c_18 => ?_)
        refine zV_iload hX dX9_alike_21 rfl ?_
        refine zV_aload_n hX dX9_alike_23 rfl ?_
        refine zV_iload hX dX9_alike_24 rfl ?_
        refine zV_iald hX dX9_alike_26 hc (rfl) ⟨by omega, by omega⟩ (rfl) ?_
        refine zV_iload_n hX dX9_alike_27 rfl ?_
        refine zV_icmp_ne hX (tgt := 35) dX9_alike_28 (by decide) (fun c_28 => ?_) (fun c_28 => ?_)
        · have e9 : zcnt (fun j => M.1 c (j + f) == b) (k + 1) = zcnt (fun j => M.1 c (j + f) == b) k + 0 := by simp [zcnt, c_28]
          refine zV_iconst hX (v := nI 0) dX9_alike_35 (by decide) ?_
          refine zV_iaddN hX dX9_alike_36 ?_
          refine zV_istore hX dX9_alike_37 (by decide) ?_
          dsimp only [zst1, zst2, zclr, zc2]
          refine zV_iincN hX (b := 1) dX9_alike_39 rfl (by decide) ?_
          dsimp only [zst1, zst2, zclr, zc2]
          refine zV_goto hX (tgt := 6) dX9_alike_42 (by decide) ?_
          exact e9 ▸ (Nat.add_right_comm k 1 f) ▸ ih (k + 1) (by omega) (by omega)
        · have e9 : zcnt (fun j => M.1 c (j + f) == b) (k + 1) = zcnt (fun j => M.1 c (j + f) == b) k + 1 := by simp [zcnt, c_28]
          refine zV_iconst hX (v := nI 1) dX9_alike_31 (by decide) ?_
          refine zV_goto hX (tgt := 36) dX9_alike_32 (by decide) ?_
          refine zV_iaddN hX dX9_alike_36 ?_
          refine zV_istore hX dX9_alike_37 (by decide) ?_
          dsimp only [zst1, zst2, zclr, zc2]
          refine zV_iincN hX (b := 1) dX9_alike_39 rfl (by decide) ?_
          dsimp only [zst1, zst2, zclr, zc2]
          refine zV_goto hX (tgt := 6) dX9_alike_42 (by decide) ?_
          exact e9 ▸ (Nat.add_right_comm k 1 f) ▸ ih (k + 1) (by omega) (by omega)
  refine zV_iconst hX (v := nI 0) dX9_alike_0 (by decide) ?_
  refine zV_istore hX dX9_alike_1 (by decide) ?_
  dsimp only [zst1, zst2, zclr, zc2]
  refine zV_iload_n hX dX9_alike_3 rfl ?_
  refine zV_istore hX dX9_alike_4 (by decide) ?_
  dsimp only [zst1, zst2, zclr, zc2]
  have h9 := L6 (n + 1) 0 (by omega) (by omega)
  rw [Nat.zero_add] at h9
  exact h9
set_option maxHeartbeats 1000000 in
theorem zc_firstOfMost (l : Launch) (G : zG) (M : zM) (c len n : Nat) (hc : zSh c = (20, len)) (hlen : len ≤ 2000) (hf : n ≤ len) : zC l G 1 yX9_firstOfMost cX9_firstOfMost 6 (Option.some Jvm.ClassFile.FieldType.int) [.ref c, .int (nI n)] M (zP (some (.int (nI (zfm (fun i => zcnt (fun j => M.1 c j == M.1 c i) n) n).1))) M) := by
  refine zC_of (by decide) (Nat.le_of_ble_eq_true rfl) (fun X Q hQ hX hl hR hr => ?_)
  refine zV_loc (L' := [.ref c, .int (nI n), .null, .null, .null, .null]) rfl ?_
  have L7 : ∀ (f9 k : Nat) (v9 : Value), n - k < f9 → k ≤ n → zV G X Q 6 0 0 7 [.ref c, .int (nI n), .int (nI (zfm (fun i => zcnt (fun j => M.1 c j == M.1 c i) n) k).1), .int (nI (zfm (fun i => zcnt (fun j => M.1 c j == M.1 c i) n) k).2), .int (nI k), v9] [] M := by
    intro f9
    induction f9 with
    | zero => intro k v9 hk1 hk2; exact absurd hk1 (Nat.not_lt_zero _)
    | succ f9 ih =>
      intro k v9 hk1 hk2
      have hz : (zfm (fun i => zcnt (fun j => M.1 c j == M.1 c i) n) k).2 < 2 ^ 31 := Nat.lt_of_le_of_lt (zfm_le _ n (fun i => zcnt_le _ _) k) (by omega)
      refine zV_iload hX dX9_firstOfMost_7 rfl ?_
      refine zV_iload_n hX dX9_firstOfMost_9 rfl ?_
      refine zV_icmp_geN hX (tgt := 50) dX9_firstOfMost_10 (by decide) ⟨by omega, by omega⟩ (fun c_10 => ?_) (fun c_10 => ?_)
      · refine zV_iload_n hX dX9_firstOfMost_50 rfl ?_
        exact zV_reti hX hQ hr (⟨by rw [show k = n by omega], rfl⟩) dX9_firstOfMost_51
      · refine zV_iload hX dX9_firstOfMost_13 rfl ?_
        refine zV_aload_n hX dX9_firstOfMost_15 rfl ?_
        refine zV_alen hX dX9_firstOfMost_16 hc rfl ?_
        refine zV_icmp_geN hX (tgt := 50) dX9_firstOfMost_17 (by decide) ⟨by omega, by omega⟩ (fun c_17 => absurd c_17 (by omega)) (fun c_17 => ?_)
        refine zV_aload_n hX dX9_firstOfMost_20 rfl ?_
        refine zV_iconst hX (v := nI 0) dX9_firstOfMost_21 (by decide) ?_
        refine zV_iload_n hX dX9_firstOfMost_22 rfl ?_
        refine zV_aload_n hX dX9_firstOfMost_23 rfl ?_
        refine zV_iload hX dX9_firstOfMost_24 rfl ?_
        refine zV_iald hX dX9_firstOfMost_26 hc (rfl) ⟨by omega, by omega⟩ (rfl) ?_
        refine zV_cS4p hX hR hl dX9_firstOfMost_27 (zc_alike l G M c len 0 n _ hc hlen (by omega)) zt_X9_alike rfl zml_X9_7 (by decide) (Nat.le_of_ble_eq_true rfl) ?_
        dsimp only [Option.toList, List.cons_append, List.nil_append]
        refine zV_istore hX dX9_firstOfMost_30 (by decide) ?_
        dsimp only [zst1, zst2, zclr, zc2]
        refine zV_iload hX dX9_firstOfMost_32 rfl ?_
        refine zV_iload_n hX dX9_firstOfMost_34 rfl ?_
        refine zV_icmp_leN hX (tgt := 44) dX9_firstOfMost_35 (by decide) ⟨Nat.lt_of_le_of_lt (zcnt_le _ _) (by omega), hz⟩ (fun c_35 => ?_) (fun c_35 => ?_)
        · have e9 : zfm (fun i => zcnt (fun j => M.1 c j == M.1 c i) n) (k + 1) = zfm (fun i => zcnt (fun j => M.1 c j == M.1 c i) n) k := by show (if _ < _ then _ else _) = _; exact if_neg (Nat.not_lt.mpr c_35)
          refine zV_iincN hX (b := 1) dX9_firstOfMost_44 rfl (by decide) ?_
          dsimp only [zst1, zst2, zclr, zc2]
          refine zV_goto hX (tgt := 7) dX9_firstOfMost_47 (by decide) ?_
          have h9 := fun v => ih (k + 1) v (by omega) (by omega)
          simp only [e9] at h9
          exact h9 _
        · have e9 : zfm (fun i => zcnt (fun j => M.1 c j == M.1 c i) n) (k + 1) = (k, (fun i => zcnt (fun j => M.1 c j == M.1 c i) n) k) := by show (if _ < _ then _ else _) = _; exact if_pos c_35
          refine zV_iload hX dX9_firstOfMost_38 rfl ?_
          refine zV_istore_n hX dX9_firstOfMost_40 (by decide) ?_
          dsimp only [zst1, zst2, zclr, zc2]
          refine zV_iload hX dX9_firstOfMost_41 rfl ?_
          refine zV_istore_n hX dX9_firstOfMost_43 (by decide) ?_
          dsimp only [zst1, zst2, zclr, zc2]
          refine zV_iincN hX (b := 1) dX9_firstOfMost_44 rfl (by decide) ?_
          dsimp only [zst1, zst2, zclr, zc2]
          refine zV_goto hX (tgt := 7) dX9_firstOfMost_47 (by decide) ?_
          have h9 := fun v => ih (k + 1) v (by omega) (by omega)
          simp only [e9] at h9
          exact h9 _
  refine zV_iconst hX (v := nI 0) dX9_firstOfMost_0 (by decide) ?_
  refine zV_istore_n hX dX9_firstOfMost_1 (by decide) ?_
  dsimp only [zst1, zst2, zclr, zc2]
  refine zV_iconst hX (v := nI 0) dX9_firstOfMost_2 (by decide) ?_
  refine zV_istore_n hX dX9_firstOfMost_3 (by decide) ?_
  dsimp only [zst1, zst2, zclr, zc2]
  refine zV_iconst hX (v := nI 0) dX9_firstOfMost_4 (by decide) ?_
  refine zV_istore hX dX9_firstOfMost_5 (by decide) ?_
  dsimp only [zst1, zst2, zclr, zc2]
  exact L7 (n + 1) 0 _ (by omega) (by omega)
set_option maxHeartbeats 1000000 in
theorem zc_isAhead (l : Launch) (G : zG) (M : zM) (c len i : Nat) (lo : Int32) (hc : zSh c = (20, len)) (hlen : len ≤ 2000) (hi : i < len) : zC l G 1 yX9_isAhead cX9_isAhead 4 (Option.some Jvm.ClassFile.FieldType.boolean) [.ref c, .int (nI i), .int lo] M (zP (some (.int (zb (zany (fun k => !bit lo k && M.1 c k == M.1 c i) i)))) M) := by
  refine zC_of (by decide) (Nat.le_of_ble_eq_true rfl) (fun X Q hQ hX hl hR hr => ?_)
  refine zV_loc (L' := [.ref c, .int (nI i), .int lo, .null]) rfl ?_
  have L2 : ∀ (f9 k : Nat), i - k < f9 → k ≤ i → zany (fun k => !bit lo k && M.1 c k == M.1 c i) k = false → zV G X Q 4 0 0 2 [.ref c, .int (nI i), .int lo, .int (nI k)] [] M := by
    intro f9
    induction f9 with
    | zero => intro k hk1 hk2 hk3; exact absurd hk1 (Nat.not_lt_zero _)
    | succ f9 ih =>
      intro k hk1 hk2 hk3
      refine zV_iload_n hX dX9_isAhead_2 rfl ?_
      refine zV_iload_n hX dX9_isAhead_3 rfl ?_
      refine zV_icmp_geN hX (tgt := 32) dX9_isAhead_4 (by decide) ⟨by omega, by omega⟩ (fun c_4 => ?_) (fun c_4 => ?_)
      · obtain rfl : k = i := by omega
        refine zV_iconst hX (v := nI 0) dX9_isAhead_32 (by decide) ?_
        exact zV_retz hX hQ hr (rfl) (⟨by rw [hk3]; rfl, rfl⟩) dX9_isAhead_33
      · refine zV_iload_n hX dX9_isAhead_7 rfl ?_
        refine zV_iload_n hX dX9_isAhead_8 rfl ?_
        refine zV_cS2p hX hR hl dX9_isAhead_9 (zc_isIn l G M lo k) zt_X9_isIn rfl zml_X9_13 (by decide) (Nat.le_of_ble_eq_true rfl) ?_
        dsimp only [Option.toList, List.cons_append, List.nil_append]
        refine zV_if_neB hX (tgt := 26) dX9_isAhead_12 (by decide) (fun c_12 => ?_) (fun c_12 => ?_)
        · have e9 : zany (fun k => !bit lo k && M.1 c k == M.1 c i) (k + 1) = false := by rw [zany, hk3]; simp [c_12]
          refine zV_iincN hX (b := 1) dX9_isAhead_26 rfl (by decide) ?_
          dsimp only [zst1, zst2, zclr, zc2]
          refine zV_goto hX (tgt := 2) dX9_isAhead_29 (by decide) ?_
          exact ih (k + 1) (by omega) (by omega) e9
        · refine zV_aload_n hX dX9_isAhead_15 rfl ?_
          refine zV_iload_n hX dX9_isAhead_16 rfl ?_
          refine zV_iald hX dX9_isAhead_17 hc (rfl) ⟨by omega, by omega⟩ (rfl) ?_
          refine zV_aload_n hX dX9_isAhead_18 rfl ?_
          refine zV_iload_n hX dX9_isAhead_19 rfl ?_
          refine zV_iald hX dX9_isAhead_20 hc (rfl) ⟨by omega, by omega⟩ (rfl) ?_
          refine zV_icmp_ne hX (tgt := 26) dX9_isAhead_21 (by decide) (fun c_21 => ?_) (fun c_21 => ?_)
          · have e9 : zany (fun k => !bit lo k && M.1 c k == M.1 c i) (k + 1) = false := by rw [zany, hk3]; simp [c_21]
            refine zV_iincN hX (b := 1) dX9_isAhead_26 rfl (by decide) ?_
            dsimp only [zst1, zst2, zclr, zc2]
            refine zV_goto hX (tgt := 2) dX9_isAhead_29 (by decide) ?_
            exact ih (k + 1) (by omega) (by omega) e9
          · refine zV_iconst hX (v := nI 1) dX9_isAhead_24 (by decide) ?_
            exact zV_retz hX hQ hr (rfl) (⟨by rw [zany_true (k := k) (by omega) (by simp [c_12, c_21])]; rfl, rfl⟩) dX9_isAhead_25
  refine zV_iconst hX (v := nI 0) dX9_isAhead_0 (by decide) ?_
  refine zV_istore_n hX dX9_isAhead_1 (by decide) ?_
  dsimp only [zst1, zst2, zclr, zc2]
  exact L2 (i + 1) 0 (by omega) (by omega) rfl
set_option maxHeartbeats 1000000 in
theorem zc_unlike (l : Launch) (G : zG) (M : zM) (c len n : Nat) (lo : Int32) (hc : zSh c = (20, len)) (hlen : len ≤ 2000) (hf : n ≤ len) : zC l G 2 yX9_unlike cX9_unlike 5 (Option.some Jvm.ClassFile.FieldType.int) [.ref c, .int (nI n), .int lo] M (zP (some (.int (nI (zcnt (fun i => !(bit lo i || zany (fun k => !bit lo k && M.1 c k == M.1 c i) i)) n)))) M) := by
  refine zC_of (by decide) (Nat.le_of_ble_eq_true rfl) (fun X Q hQ hX hl hR hr => ?_)
  refine zV_loc (L' := [.ref c, .int (nI n), .int lo, .null, .null]) rfl ?_
  have L5 : ∀ (f9 k : Nat), n - k < f9 → k ≤ n → zV G X Q 5 0 0 5 [.ref c, .int (nI n), .int lo, .int (nI (zcnt (fun i => !(bit lo i || zany (fun k => !bit lo k && M.1 c k == M.1 c i) i)) k)), .int (nI k)] [] M := by
    intro f9
    induction f9 with
    | zero => intro k hk1 hk2; exact absurd hk1 (Nat.not_lt_zero _)
    | succ f9 ih =>
      intro k hk1 hk2
      refine zV_iload hX dX9_unlike_5 rfl ?_
      refine zV_iload_n hX dX9_unlike_7 rfl ?_
      refine zV_icmp_geN hX (tgt := 51) dX9_unlike_8 (by decide) ⟨by omega, by omega⟩ (fun c_8 => ?_) (fun c_8 => ?_)
      · refine zV_iload_n hX dX9_unlike_51 rfl ?_
        exact zV_reti hX hQ hr (⟨by rw [show k = n by omega], rfl⟩) dX9_unlike_52
      · refine zV_iload hX dX9_unlike_11 rfl ?_
        refine zV_aload_n hX dX9_unlike_13 rfl ?_
        refine zV_alen hX dX9_unlike_14 hc rfl ?_
        refine zV_icmp_geN hX (tgt := 51) dX9_unlike_15 (by decide) ⟨by omega, by omega⟩ (fun c_15 => absurd c_15 (by omega)) (fun c_15 => ?_)
        refine zV_iload_n hX dX9_unlike_18 rfl ?_
        refine zV_iload_n hX dX9_unlike_19 rfl ?_
        refine zV_iload hX dX9_unlike_20 rfl ?_
        refine zV_cS2p hX hR hl dX9_unlike_22 (zc_isIn l G M lo k) zt_X9_isIn rfl zml_X9_13 (by decide) (Nat.le_of_ble_eq_true rfl) ?_
        dsimp only [Option.toList, List.cons_append, List.nil_append]
        refine zV_if_neB hX (tgt := 38) dX9_unlike_25 (by decide) (fun c_25 => ?_) (fun c_25 => ?_)
        · have e9 : zcnt (fun i => !(bit lo i || zany (fun k => !bit lo k && M.1 c k == M.1 c i) i)) (k + 1) = zcnt (fun i => !(bit lo i || zany (fun k => !bit lo k && M.1 c k == M.1 c i) i)) k + 0 := by rw [zcnt]; simp [c_25]
          refine zV_iconst hX (v := nI 0) dX9_unlike_38 (by decide) ?_
          refine zV_goto hX (tgt := 43) dX9_unlike_39 (by decide) ?_
          refine zV_iaddN hX dX9_unlike_43 ?_
          refine zV_istore_n hX dX9_unlike_44 (by decide) ?_
          dsimp only [zst1, zst2, zclr, zc2]
          refine zV_iincN hX (b := 1) dX9_unlike_45 rfl (by decide) ?_
          dsimp only [zst1, zst2, zclr, zc2]
          refine zV_goto hX (tgt := 5) dX9_unlike_48 (by decide) ?_
          exact e9 ▸ ih (k + 1) (by omega) (by omega)
        · refine zV_aload_n hX dX9_unlike_28 rfl ?_
          refine zV_iload hX dX9_unlike_29 rfl ?_
          refine zV_iload_n hX dX9_unlike_31 rfl ?_
          refine zV_cS3p hX hR hl dX9_unlike_32 (zc_isAhead l G M c len k lo hc hlen (by omega)) zt_X9_isAhead rfl zml_X9_17 (by decide) (Nat.le_of_ble_eq_true rfl) ?_
          dsimp only [Option.toList, List.cons_append, List.nil_append]
          refine zV_if_eqB hX (tgt := 42) dX9_unlike_35 (by decide) (fun c_35 => ?_) (fun c_35 => ?_)
          · have e9 : zcnt (fun i => !(bit lo i || zany (fun k => !bit lo k && M.1 c k == M.1 c i) i)) (k + 1) = zcnt (fun i => !(bit lo i || zany (fun k => !bit lo k && M.1 c k == M.1 c i) i)) k + 1 := by rw [zcnt]; simp [c_25, c_35]
            refine zV_iconst hX (v := nI 1) dX9_unlike_42 (by decide) ?_
            refine zV_iaddN hX dX9_unlike_43 ?_
            refine zV_istore_n hX dX9_unlike_44 (by decide) ?_
            dsimp only [zst1, zst2, zclr, zc2]
            refine zV_iincN hX (b := 1) dX9_unlike_45 rfl (by decide) ?_
            dsimp only [zst1, zst2, zclr, zc2]
            refine zV_goto hX (tgt := 5) dX9_unlike_48 (by decide) ?_
            exact e9 ▸ ih (k + 1) (by omega) (by omega)
          · have e9 : zcnt (fun i => !(bit lo i || zany (fun k => !bit lo k && M.1 c k == M.1 c i) i)) (k + 1) = zcnt (fun i => !(bit lo i || zany (fun k => !bit lo k && M.1 c k == M.1 c i) i)) k + 0 := by rw [zcnt]; simp [c_25, c_35]
            refine zV_iconst hX (v := nI 0) dX9_unlike_38 (by decide) ?_
            refine zV_goto hX (tgt := 43) dX9_unlike_39 (by decide) ?_
            refine zV_iaddN hX dX9_unlike_43 ?_
            refine zV_istore_n hX dX9_unlike_44 (by decide) ?_
            dsimp only [zst1, zst2, zclr, zc2]
            refine zV_iincN hX (b := 1) dX9_unlike_45 rfl (by decide) ?_
            dsimp only [zst1, zst2, zclr, zc2]
            refine zV_goto hX (tgt := 5) dX9_unlike_48 (by decide) ?_
            exact e9 ▸ ih (k + 1) (by omega) (by omega)
  refine zV_iconst hX (v := nI 0) dX9_unlike_0 (by decide) ?_
  refine zV_istore_n hX dX9_unlike_1 (by decide) ?_
  dsimp only [zst1, zst2, zclr, zc2]
  refine zV_iconst hX (v := nI 0) dX9_unlike_2 (by decide) ?_
  refine zV_istore hX dX9_unlike_3 (by decide) ?_
  dsimp only [zst1, zst2, zclr, zc2]
  exact L5 (n + 1) 0 (by omega) (by omega)
