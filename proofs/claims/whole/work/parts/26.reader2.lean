-- the quotients that make VALUES
theorem rr_ul {s : Bool} {A B c k : Nat} {c1 k1 : Nat} {e e0 : Int} (hB : 0 < B) (hc : c < 2 ^ 24) (hk : k ≤ 200) (hc1 : c1 < 2 ^ 24) (hk1 : k1 ≤ 200) (h0 : e0 ≤ -149) (h0e : e0 ≤ e) (h : Jvm.FP.Core.inUnits A e e0 ≤ (c * 2 ^ k) * 2 ^ (-149 - e0).toNat * B) (h1 : (c1 * 2 ^ k1) * 2 ^ (-149 - e0).toNat * B ≤ Jvm.FP.Core.inUnits A e e0) : ∃ N, fv Jvm.FP.Core.b32 (Jvm.FP.Core.roundRatio Jvm.FP.Core.b32 s A B e) s N ∧ N ≤ c * 2 ^ k ∧ c1 * 2 ^ k1 ≤ N := by
  obtain ⟨c', e', g1, g3⟩ := fq_canon Jvm.FP.Core.good_b32 false k c hc (by rw [q32, x32]; omega)
  obtain ⟨c2, e2, f1, f3⟩ := fq_canon Jvm.FP.Core.good_b32 false k1 c1 hc1 (by rw [q32, x32]; omega)
  have hz : ∀ (c' e' : Nat), Jvm.FP.Core.zmag Jvm.FP.Core.b32 (.fin false c' ((e' : Int) + Jvm.FP.Core.b32.qmin)) = c' * 2 ^ e' := fun c' e' => by
    show c' * 2 ^ ((e' : Int) + Jvm.FP.Core.b32.qmin - Jvm.FP.Core.b32.qmin).toNat = _
    rw [show ((e' : Int) + Jvm.FP.Core.b32.qmin - Jvm.FP.Core.b32.qmin).toNat = e' by omega]
  have h4 := Jvm.FP.Core.zmag_roundRatio_le (f := Jvm.FP.Core.b32) Jvm.FP.Core.good_b32 (s := s) (A := A) (B := B) (e := e) (e0 := e0) (V := .fin false c' ((e' : Int) + Jvm.FP.Core.b32.qmin)) hB g1 (fun q => nomatch q) (by rw [q32]; exact h0) h0e (by rw [hz, q32, g3]; exact h)
  have h9 := Jvm.FP.Core.zmag_roundRatio_ge (f := Jvm.FP.Core.b32) Jvm.FP.Core.good_b32 (s := s) (A := A) (B := B) (e := e) (e0 := e0) (V := .fin false c2 ((e2 : Int) + Jvm.FP.Core.b32.qmin)) hB f1 (by rw [q32]; exact h0) h0e (by rw [hz, q32, f3]; exact h1)
  rw [hz, g3] at h4
  rw [hz, f3] at h9
  have h5 := Jvm.FP.Core.roundRatio_ne_nan Jvm.FP.Core.b32 s A B e
  have h6 := Jvm.FP.Core.sgn_roundRatio Jvm.FP.Core.b32 s A B e
  have h7 := Jvm.FP.Core.roundRatio_fits Jvm.FP.Core.good_b32 s A hB e
  cases hr : Jvm.FP.Core.roundRatio Jvm.FP.Core.b32 s A B e with
  | nan => exact absurd hr h5
  | inf t =>
    rw [hr] at h4
    have h8 : 2 ^ 23 * 2 ^ 254 ≤ c * 2 ^ k := by
      have : Jvm.FP.Core.zmag Jvm.FP.Core.b32 (.inf t) = 2 ^ 23 * 2 ^ 254 := by
        show Jvm.FP.Core.b32.tails * 2 ^ (Jvm.FP.Core.b32.exps - 2) = _
        rw [t32, e32]
      rw [this] at h4; exact h4
    have h10 : c * 2 ^ k ≤ 2 ^ 24 * 2 ^ 200 := Nat.mul_le_mul (Nat.le_of_lt hc) (Nat.pow_le_pow_right (by decide) hk)
    have h11 := Nat.le_trans h8 h10
    rw [show 254 = 54 + 200 by decide, Nat.pow_add, ← Nat.mul_assoc] at h11
    have h12 := Nat.le_of_mul_le_mul_right h11 (Nat.two_pow_pos 200)
    exact absurd h12 (by decide)
  | fin t c9 q =>
    rw [hr] at h4 h6 h7 h9
    have ht : t = s := h6
    subst ht
    exact ⟨_, ⟨c9, q, rfl, h7.2.1, rfl⟩, h4, h9⟩
theorem sq_i2fz {a : Int32} {A : Nat} (h : a.toInt.natAbs = A) (hA : A < 2 ^ 24) : sq (FP.i2f a) (decide (a.toInt < 0)) (A * 2 ^ 149) := by
  show fv _ (Jvm.FP.Core.val32 (Jvm.FP.Core.i2f a)) _ _
  rw [Jvm.FP.Core.val32_i2f]
  show fv _ (Jvm.FP.Core.roundRatio _ (decide (a.toInt < 0)) a.toInt.natAbs 1 0) _ _
  rw [h]
  refine fq_round (a := 149) (k := 0) Jvm.FP.Core.good_b32 (by decide) hA (by rw [q32, x32]; omega) (by rw [q32]; omega) ?_
  rw [Nat.mul_one]
theorem sq_uniq {x : UInt32} {s t : Bool} {N P : Nat} (h1 : sq x s N) (h2 : sq x t P) : s = t ∧ N = P := by
  obtain ⟨c, q, e1, -, g1⟩ := h1
  obtain ⟨d, r, e2, -, g2⟩ := h2
  rw [e1] at e2
  cases e2
  exact ⟨rfl, g1.symm.trans g2⟩
/-- a by b, as its word -/
def frac (a b : Int32) : Int32 := (FP.fdiv (FP.i2f a) (FP.i2f b)).toInt32
theorem frac_ok {a b : Int32} {A B : Nat} (ha : a.toInt.natAbs = A) (hA : A ≤ 99999) (hb : b.toInt = (B : Int)) (hB0 : 1 ≤ B) (hB : B ≤ 999) : okV (frac a b) := by
  have hx := sq_i2fz ha (Nat.lt_of_le_of_lt hA (by decide))
  have hy := sq_i2fz (a := b) (A := B) (by rw [hb]; rfl) (Nat.lt_of_le_of_lt hB (by decide))
  rw [show decide (b.toInt < 0) = false from decide_eq_false (by omega)] at hy
  have hz : ∃ N, sq (FP.fdiv (FP.i2f a) (FP.i2f b)) (decide (a.toInt < 0)) N ∧ N ≤ 99999 * 2 ^ 149 ∧ (if A = 0 then 0 else 1) * 2 ^ 139 ≤ N := by
    obtain ⟨c, q, e1, h1, h2⟩ := hx
    have hf := Jvm.FP.Core.val32_fits (FP.i2f b)
    obtain ⟨d, r, e2, h3, h4⟩ := hy
    rw [e2] at hf
    have hr := hf.2.2.1
    rw [q32] at h1 h2 h3 h4
    rw [x32] at hr
    have hd : 0 < d := Nat.pos_of_ne_zero (fun q => by
      rw [q, Nat.zero_mul] at h4
      exact absurd h4 (Nat.ne_of_lt (Nat.mul_pos hB0 (Nat.two_pow_pos 149))))
    have key : ∀ K : Nat, K * 2 ^ (-149 - -449 : Int).toNat * d * 2 ^ (r - -149).toNat = K * B * (2 ^ 149 * 2 ^ 300) := fun K => by
      rw [show (-149 - -449 : Int).toNat = 300 from rfl, Nat.mul_assoc (K * 2 ^ 300), h4]
      simp only [Nat.mul_assoc, Nat.mul_comm, Nat.mul_left_comm]
    have key2 : Jvm.FP.Core.inUnits c (q - r) (-449) * 2 ^ (r - -149).toNat = A * 2 ^ 149 * (2 ^ 149 * 2 ^ 300) := by
      show c * 2 ^ (q - r - -449).toNat * _ = _
      rw [Nat.mul_assoc c, ← Nat.pow_add, show (q - r - -449).toNat + (r - -149).toNat = (q - -149).toNat + (149 + 300) by omega, Nat.pow_add, ← Nat.mul_assoc, h2, Nat.pow_add]
    obtain ⟨N, h6, h7, h8⟩ := rr_ul (s := (decide (a.toInt < 0) != false)) (A := c) (B := d) (c := 99999) (k := 149) (c1 := if A = 0 then 0 else 1) (k1 := 139) (e := q - r) (e0 := -449) hd (by decide) (by decide) (by split <;> decide) (by decide) (by decide) (by omega) (by
      apply Nat.le_of_mul_le_mul_right _ (Nat.two_pow_pos (r - -149).toNat)
      rw [key, key2]
      apply Nat.mul_le_mul_right
      rw [Nat.mul_assoc 99999, Nat.mul_comm (2 ^ 149), ← Nat.mul_assoc]
      apply Nat.mul_le_mul_right
      omega) (by
      apply Nat.le_of_mul_le_mul_right _ (Nat.two_pow_pos (r - -149).toNat)
      rw [key, key2]
      apply Nat.mul_le_mul_right
      split
      · simp
      · rw [Nat.one_mul, show 149 = 10 + 139 by decide, Nat.pow_add, ← Nat.mul_assoc, Nat.mul_comm]
        apply Nat.mul_le_mul_right
        rename_i hn
        have : (2 : Nat) ^ 10 = 1024 := by decide
        omega)
    refine ⟨N, ?_, h7, h8⟩
    show fv _ (Jvm.FP.Core.val32 (Jvm.FP.Core.fdiv _ _)) _ _
    rw [Jvm.FP.Core.val32_fdiv, e1, e2]
    show fv _ (if d = 0 then (if c = 0 then .nan else .inf (_ != false)) else Jvm.FP.Core.roundRatio _ (_ != false) c d (q - r)) _ _
    rw [if_neg (Nat.ne_of_gt hd)]
    have e9 : (decide (a.toInt < 0) != false) = decide (a.toInt < 0) := by cases decide (a.toInt < 0) <;> rfl
    rw [e9] at h6 ⊢
    exact h6
  obtain ⟨N, h1, h2, h3⟩ := hz
  obtain ⟨s, E, T, hf⟩ := fld_of (x := FP.fdiv (FP.i2f a) (FP.i2f b)) (by obtain ⟨c, q, e, -⟩ := h1; exact ⟨_, c, q, e⟩)
  obtain ⟨hs, hN⟩ := sq_uniq h1 (fld_sq hf)
  have hT := hf.2.2
  refine ⟨s, E, T, ?_, ?_, ?_⟩
  · unfold frac
    rw [UInt32.toUInt32_toInt32]
    exact hf
  · rcases Nat.eq_zero_or_pos E with q | q
    · right
      subst q
      rw [if_pos rfl] at hN
      have hA0 : A = 0 := by
        apply Classical.byContradiction
        intro hne
        rw [if_neg hne, Nat.one_mul] at h3
        have : (2 : Nat) ^ 23 ≤ 2 ^ 139 := Nat.pow_le_pow_right (by decide) (by decide)
        omega
      have ha0 : a.toInt = 0 := by omega
      have hs0 : s = false := by rw [← hs]; exact decide_eq_false (by omega)
      have hx0 : a = 0 := Int32.toInt_inj.mp ha0
      have hz : FP.fdiv (FP.i2f a) (FP.i2f b) = 0 ∨ T ≠ 0 := by
        by_cases ht : T = 0
        · left
          have := hf.1
          rw [hs0, ht] at this
          apply UInt32.toNat_inj.mp
          rw [this]; rfl
        · exact Or.inr ht
      have hT0 : T = 0 := by
        have hq : sq (FP.fdiv (FP.i2f a) (FP.i2f b)) (decide (a.toInt < 0)) 0 := by
          obtain ⟨c, q, e1, g1, g2⟩ := hx
          rw [hA0, Nat.zero_mul] at g2
          have hc : c = 0 := (Nat.mul_eq_zero.mp g2).resolve_right (Nat.ne_of_gt (Nat.two_pow_pos _))
          obtain ⟨d, r, e2, g3, g4⟩ := hy
          have hd : 0 < d := Nat.pos_of_ne_zero (fun q => by
            rw [q, Nat.zero_mul] at g4
            exact absurd g4 (Nat.ne_of_lt (Nat.mul_pos hB0 (Nat.two_pow_pos 149))))
          show fv _ (Jvm.FP.Core.val32 (Jvm.FP.Core.fdiv _ _)) _ _
          rw [Jvm.FP.Core.val32_fdiv, e1, e2, hc]
          show fv _ (if d = 0 then _ else Jvm.FP.Core.roundRatio _ (_ != false) 0 d (q - r)) _ _
          rw [if_neg (Nat.ne_of_gt hd)]
          have e9 : (decide (a.toInt < 0) != false) = decide (a.toInt < 0) := by cases decide (a.toInt < 0) <;> rfl
          rw [e9]
          have hfr := Jvm.FP.Core.val32_fits (FP.i2f b)
          have hfx := Jvm.FP.Core.val32_fits (FP.i2f a)
          rw [e2] at hfr
          rw [e1] at hfx
          have k1 := hfr.2.2.1
          have k2 := hfx.2.1
          rw [x32] at k1
          rw [q32] at k2
          exact fq_round (a := (q - r + 149 + 2000).toNat) (k := 2000) (c := 0) (e := 0) Jvm.FP.Core.good_b32 hd (by decide) (by rw [q32, x32]; decide) (by rw [q32]; omega) (by rw [Nat.zero_mul, Nat.zero_mul, Nat.zero_mul])
        have := (sq_uniq hq (fld_sq hf)).2
        rw [if_pos rfl] at this
        exact this.symm
      have h5 := hz.resolve_right (fun q => q hT0)
      unfold frac
      rw [h5]; rfl
    · exact Or.inl q
  · apply Classical.byContradiction
    intro hE
    have hE : 144 ≤ E := by omega
    rw [if_neg (by omega)] at hN
    have h5 : 2 ^ 23 * 2 ^ 143 ≤ (2 ^ 23 + T) * 2 ^ (E - 1) := Nat.mul_le_mul (by omega) (Nat.pow_le_pow_right (by decide) (by omega))
    rw [← hN] at h5
    have h6 := Nat.le_trans h5 h2
    rw [← Nat.pow_add, show 23 + 143 = 17 + 149 by decide, Nat.pow_add] at h6
    have h7 := Nat.le_of_mul_le_mul_right h6 (Nat.two_pow_pos 149)
    exact absurd h7 (by decide)
-- numbers
def tNum (b : Nat → Int32) (s : Nat) : Nat → Nat
  | 0 => 0
  | k + 1 => min (tNum b s k * 10 + zN (b (s + k)) - 48) 100000
theorem tNum_le (b : Nat → Int32) (s : Nat) : ∀ k, tNum b s k ≤ 100000
  | 0 => Nat.zero_le _
  | k + 1 => Nat.min_le_right _ _
def rDe (e : Nat) (M : zM) : Nat := tEnd (tDi M) e (rSp e M)
def rNv (e : Nat) (M : zM) : Nat := tNum (M.1 24) (rSp e M) (rDe e M - rSp e M)
def rNm (e lo hi : Nat) (M : zM) : zM :=
  if rDe e M = rSp e M then rFail (nI 1) (nI (rSp e M)) (rAt (rDe e M) M)
  else if rNv e M < lo ∨ hi < rNv e M then rFail (nI 2) (nI (rSp e M)) (rAt (rDe e M) M)
  else rAt (rDe e M) M
def rNx (e lo hi : Nat) (M : zM) : Int32 := if (rNm e lo hi M).1 20 7 = 0 then nI (rNv e M) else -1
theorem rDe_le {lc e n : Nat} {M : zM} (h : rSt lc e n M) : rDe e M ≤ e := tEnd_le (rSp_le h)
theorem rSt_Nm {lc e n lo hi : Nat} {M : zM} (h : rSt lc e n M) (hy : lyR lc) (he : e ≤ 300) : rSt lc e n (rNm e lo hi M) := by
  have h1 := rSt_at h hy (rDe_le h) he
  unfold rNm
  split
  · exact rSt_fail h1 hy
  · split
    · exact rSt_fail h1 hy
    · exact h1
set_option maxHeartbeats 1000000 in
theorem zc_readNumber (l : Launch) (G : zG) (M : zM) (lc e n lo hi : Nat) (hM : rSt lc e n M) (hy : lyR lc) (he : e ≤ 300) (hlo : lo < 2 ^ 31) (hhi : hi < 2 ^ 31) : zC l G 1 yX7_readNumber cX7_readNumber 5 (Option.some Jvm.ClassFile.FieldType.int) [.ref (20 : Nat), .int (nI lo), .int (nI hi)] M (zP (some (.int (rNx e lo hi M))) (rNm e lo hi M)) := by
  refine zC_of (by decide) (Nat.le_of_ble_eq_true rfl) (fun X Q hQ hX hl hR hr => ?_)
  refine zV_loc (L' := [.ref (20 : Nat), .int (nI lo), .int (nI hi), .null, .null]) rfl ?_
  have hsp := rSp_le hM
  have hde := rDe_le hM
  have hds : (rSp e M) ≤ (rDe e M) := tEnd_ge _ _ _
  have hnv : rNv e M ≤ 100000 := tNum_le _ _ _
  have J107 : zV G X Q 5 0 0 107 [.ref (20 : Nat), .int (nI lo), .int (nI hi), .int (nI (rSp e M)), .int (nI (rNv e M))] [] (rNm e lo hi M) := by
    refine zV_aload_n hX dX7_readNumber_107 rfl ?_
    refine zV_geti hX dX7_readNumber_108 zf_X7_38 zo20.1 rfl rfl ?_
    refine zV_if_ne hX (tgt := 119) dX7_readNumber_111 (by decide) (fun c_111 => ?_) (fun c_111 => ?_)
    · have e8 : rNx e lo hi M = -1 := if_neg c_111
      refine zV_iconst hX (v := (-1)) dX7_readNumber_119 (by decide) ?_
      exact zV_reti hX hQ hr (⟨by rw [e8], rfl⟩) dX7_readNumber_120
    · have e8 : rNx e lo hi M = nI (rNv e M) := if_pos c_111
      refine zV_iload hX dX7_readNumber_114 rfl ?_
      refine zV_goto hX (tgt := 120) dX7_readNumber_116 (by decide) ?_
      exact zV_reti hX hQ hr (⟨by rw [e8], rfl⟩) dX7_readNumber_120
  have J72 : zV G X Q 5 0 0 72 [.ref (20 : Nat), .int (nI lo), .int (nI hi), .int (nI (rSp e M)), .int (nI (rNv e M))] [] (rAt (rDe e M) M) := by
    refine zV_aload_n hX dX7_readNumber_72 rfl ?_
    refine zV_geti hX dX7_readNumber_73 zf_X7_29 zo20.1 rfl (zw_same) ?_
    refine zV_iload_n hX dX7_readNumber_76 rfl ?_
    refine zV_icmp_neN hX (tgt := 89) dX7_readNumber_77 (by decide) ⟨by omega, by omega⟩ (fun c_77 => ?_) (fun c_77 => ?_)
    · have e7 := c_77
      refine zV_iload hX dX7_readNumber_89 rfl ?_
      refine zV_iload_n hX dX7_readNumber_91 rfl ?_
      refine zV_icmp_ltN hX (tgt := 101) dX7_readNumber_92 (by decide) ⟨by omega, by omega⟩ (fun c_92 => ?_) (fun c_92 => ?_)
      · have e9 : rNm e lo hi M = rFail (nI 2) (nI (rSp e M)) (rAt (rDe e M) M) := by rw [rNm, if_neg e7, if_pos (Or.inl c_92)]
        refine zV_aload_n hX dX7_readNumber_101 rfl ?_
        refine zV_iconst hX (v := nI 2) dX7_readNumber_102 (by decide) ?_
        refine zV_iload_n hX dX7_readNumber_103 rfl ?_
        refine zV_cV2p hX hR hl dX7_readNumber_104 (zc_rfail l G _ _ _) zt_X7_fail rfl zml_X7_57 zo20.1 ⟨by decide, by decide⟩ (Nat.le_of_ble_eq_true rfl) ?_
        dsimp only [Option.toList, List.cons_append, List.nil_append]
        exact zV_mem e9.symm J107
      · refine zV_iload hX dX7_readNumber_95 rfl ?_
        refine zV_iload_n hX dX7_readNumber_97 rfl ?_
        refine zV_icmp_leN hX (tgt := 107) dX7_readNumber_98 (by decide) ⟨by omega, by omega⟩ (fun c_98 => ?_) (fun c_98 => ?_)
        · have e9 : rNm e lo hi M = rAt (rDe e M) M := by rw [rNm, if_neg e7, if_neg (by omega)]
          exact zV_mem e9.symm J107
        · have e9 : rNm e lo hi M = rFail (nI 2) (nI (rSp e M)) (rAt (rDe e M) M) := by rw [rNm, if_neg e7, if_pos (Or.inr c_98)]
          refine zV_aload_n hX dX7_readNumber_101 rfl ?_
          refine zV_iconst hX (v := nI 2) dX7_readNumber_102 (by decide) ?_
          refine zV_iload_n hX dX7_readNumber_103 rfl ?_
          refine zV_cV2p hX hR hl dX7_readNumber_104 (zc_rfail l G _ _ _) zt_X7_fail rfl zml_X7_57 zo20.1 ⟨by decide, by decide⟩ (Nat.le_of_ble_eq_true rfl) ?_
          dsimp only [Option.toList, List.cons_append, List.nil_append]
          exact zV_mem e9.symm J107
    · have e9 : rNm e lo hi M = rFail (nI 1) (nI (rSp e M)) (rAt (rDe e M) M) := if_pos c_77
      refine zV_aload_n hX dX7_readNumber_80 rfl ?_
      refine zV_iconst hX (v := nI 1) dX7_readNumber_81 (by decide) ?_
      refine zV_iload_n hX dX7_readNumber_82 rfl ?_
      refine zV_cV2p hX hR hl dX7_readNumber_83 (zc_rfail l G _ _ _) zt_X7_fail rfl zml_X7_57 zo20.1 ⟨by decide, by decide⟩ (Nat.le_of_ble_eq_true rfl) ?_
      dsimp only [Option.toList, List.cons_append, List.nil_append]
      refine zV_goto hX (tgt := 107) dX7_readNumber_86 (by decide) ?_
      exact zV_mem e9.symm J107
  have L8 : ∀ (f9 k : Nat), e - k < f9 → k ≤ e → (rSp e M) ≤ k → tEnd (tDi M) e k = (rDe e M) → zV G X Q 5 0 0 8 [.ref (20 : Nat), .int (nI lo), .int (nI hi), .int (nI (rSp e M)), .int (nI (tNum (M.1 24) (rSp e M) (k - (rSp e M))))] [] (rAt k M) := by
    intro f9
    induction f9 with
    | zero => intro k hk1 hk2 hk3 hk4; exact absurd hk1 (Nat.not_lt_zero _)
    | succ f9 ih =>
      intro k hk1 hk2 hk3 hk4
      have htn := tNum_le (M.1 24) (rSp e M) (k - (rSp e M))
      refine zV_aload_n hX dX7_readNumber_8 rfl ?_
      refine zV_geti hX dX7_readNumber_9 zf_X7_29 zo20.1 rfl (zw_same) ?_
      refine zV_aload_n hX dX7_readNumber_12 rfl ?_
      refine zV_geti hX dX7_readNumber_13 zf_X7_32 zo20.1 rfl (by rw [rAt_c (by omega), hM.2.2.1]) ?_
      refine zV_icmp_geN hX (tgt := 72) dX7_readNumber_16 (by decide) ⟨by omega, by omega⟩ (fun c_16 => ?_) (fun c_16 => ?_)
      · have e9 : k = rDe e M := by rw [← hk4]; exact (tEnd_e c_16).symm
        rw [e9]
        exact J72
      · refine zV_aload_n hX dX7_readNumber_19 rfl ?_
        refine zV_geta hX dX7_readNumber_20 zf_X7_22 zo20.1 rfl ?_
        refine zV_aload_n hX dX7_readNumber_23 rfl ?_
        refine zV_geti hX dX7_readNumber_24 zf_X7_29 zo20.1 rfl (zw_same) ?_
        refine zV_iald hX (v := M.1 24 k) dX7_readNumber_27 (zo20.a 3 rfl) (rfl) ⟨by omega, by omega⟩ (rAt_c (by omega)) ?_
        refine zV_cS1p hX hR hl dX7_readNumber_28 (zc_isDigit l G _ _) zt_X7_isDigit rfl zml_X7_127 (by decide) (Nat.le_of_ble_eq_true rfl) ?_
        dsimp only [Option.toList, List.cons_append, List.nil_append]
        refine zV_if_eqB hX (tgt := 72) dX7_readNumber_31 (by decide) (fun c_31 => ?_) (fun c_31 => ?_)
        · have e9 : k = rDe e M := by rw [← hk4]; exact (tEnd_f c_31).symm
          rw [e9]
          exact J72
        · have hdg := tdg_nI c_31
          have e9 := tEnd_t (q := tDi M) c_16 c_31
          refine zV_iload hX dX7_readNumber_34 rfl ?_
          refine zV_bipush hX (v := nI 10) dX7_readNumber_36 (by decide) ?_
          refine zV_imulN hX dX7_readNumber_38 ?_
          refine zV_aload_n hX dX7_readNumber_39 rfl ?_
          refine zV_geta hX dX7_readNumber_40 zf_X7_22 zo20.1 rfl ?_
          refine zV_aload_n hX dX7_readNumber_43 rfl ?_
          refine zV_geti hX dX7_readNumber_44 zf_X7_29 zo20.1 rfl (zw_same) ?_
          refine zV_iald hX (v := nI (zN (M.1 24 k))) dX7_readNumber_47 (zo20.a 3 rfl) (rfl) ⟨by omega, by omega⟩ ((rAt_c (by omega)).trans hdg.1) ?_
          refine zV_iaddN hX dX7_readNumber_48 ?_
          refine zV_bipush hX (v := nI 48) dX7_readNumber_49 (by decide) ?_
          refine zV_isubN hX dX7_readNumber_51 (by omega) ?_
          refine zV_ldc hX dX7_readNumber_52 zkc_X7_130 ?_
          refine zV_topi (nI 100000) (by decide) ?_
          refine zV_min hX hR dX7_readNumber_54 zml_X7_131 (Nat.le_of_ble_eq_true rfl) ?_
          refine zV_topi (nI (tNum (M.1 24) (rSp e M) (k + 1 - (rSp e M)))) (by rw [zmin_nI (by omega) (by omega), show k + 1 - (rSp e M) = (k - (rSp e M)) + 1 by omega, tNum, show (rSp e M) + (k - (rSp e M)) = k by omega]) ?_
          refine zV_istore hX dX7_readNumber_57 (by decide) ?_
          dsimp only [zst1, zst2, zclr, zc2]
          refine zV_aload_n hX dX7_readNumber_59 rfl ?_
          refine zV_dup hX dX7_readNumber_60 rfl ?_
          refine zV_geti hX dX7_readNumber_61 zf_X7_29 zo20.1 rfl (zw_same) ?_
          refine zV_iconst hX (v := nI 1) dX7_readNumber_64 (by decide) ?_
          refine zV_iaddN hX dX7_readNumber_65 ?_
          refine zV_puti hX dX7_readNumber_66 zf_X7_29 zp_6_4 zo20.1 rfl ?_
          refine zV_goto hX (tgt := 8) dX7_readNumber_69 (by decide) ?_
          refine zV_mem (rAt_rAt _ _ _) ?_
          exact ih (k + 1) (by omega) (by omega) (by omega) (e9.trans hk4)
  refine zV_aload_n hX dX7_readNumber_0 rfl ?_
  refine zV_cV0p hX hR hl dX7_readNumber_1 (zc_start l G M lc e n hM hy he) zt_X7_startOfToken rfl zml_X7_44 zo20.1 ⟨by decide, by decide⟩ (Nat.le_of_ble_eq_true rfl) ?_
  dsimp only [Option.toList, List.cons_append, List.nil_append]
  refine zV_istore_n hX dX7_readNumber_4 (by decide) ?_
  dsimp only [zst1, zst2, zclr, zc2]
  refine zV_iconst hX (v := nI 0) dX7_readNumber_5 (by decide) ?_
  refine zV_istore hX dX7_readNumber_6 (by decide) ?_
  dsimp only [zst1, zst2, zclr, zc2]
  have h9 := L8 (e + 1) (rSp e M) (by omega) hsp (Nat.le_refl _) rfl
  rw [show (rSp e M) - (rSp e M) = 0 by omega] at h9
  exact h9
theorem rNm_v {e lo hi : Nat} {M : zM} (h : (rNm e lo hi M).1 20 7 = 0) : lo ≤ rNv e M ∧ rNv e M ≤ hi := by
  have hf : ∀ (w p : Int32) (M1 : zM), ¬ w = 0 → ¬ (rFail w p M1).1 20 7 = 0 := fun w p M1 hw => by
    unfold rFail
    split
    · rw [zw_ne (by omega), zw_same]; exact hw
    · assumption
  unfold rNm at h
  split at h
  · exact absurd h (hf _ _ _ (by decide))
  · split at h
    · exact absurd h (hf _ _ _ (by decide))
    · omega
def rVa (e : Nat) (M : zM) : zM := rTm e (nI 45) M
def rVb (e : Nat) (M : zM) : zM := rNm e 0 99999 (rVa e M)
def rVc (e : Nat) (M : zM) : zM := rTm e (nI 47) (rVb e M)
def rVm (e : Nat) (M : zM) : zM := if rTb e (nI 47) (rVb e M) then rNm e 1 999 (rVc e M) else rVc e M
def rVd (e : Nat) (M : zM) : Int32 := if rTb e (nI 47) (rVb e M) then rNx e 1 999 (rVc e M) else nI 1
def rVv (e : Nat) (M : zM) : Int32 := if (rVm e M).1 20 7 = 0 ∧ ¬ rVd e M < nI 1 then frac (if rTb e (nI 45) M then -(rNx e 0 99999 (rVa e M)) else rNx e 0 99999 (rVa e M)) (rVd e M) else nI 0
theorem rSt_Vm {lc e n : Nat} {M : zM} (h : rSt lc e n M) (hy : lyR lc) (he : e ≤ 300) : rSt lc e n (rVm e M) := by
  have h1 : rSt lc e n (rVc e M) := rSt_T (rSt_Nm (rSt_T h hy he) hy he) hy he
  unfold rVm
  split
  · exact rSt_Nm h1 hy he
  · exact h1
theorem rFail_7 {w p : Int32} {M : zM} (h : ¬ M.1 20 7 = 0) : rFail w p M = M := if_neg h
theorem rNm_7 {e lo hi : Nat} {M : zM} (h : (rNm e lo hi M).1 20 7 = 0) : M.1 20 7 = 0 := by
  apply Classical.byContradiction
  intro hn
  have h1 : (rAt (rDe e M) M).1 20 7 = M.1 20 7 := rAt_c (by omega)
  unfold rNm at h
  rw [rFail_7 (by rw [h1]; exact hn), rFail_7 (by rw [h1]; exact hn)] at h
  apply hn
  rw [← h1]
  split at h
  · exact h
  · split at h <;> exact h
theorem rTm_c {e : Nat} {c : Int32} {M : zM} {a j : Nat} (h : a ≠ 20 ∨ j ≠ 4) : (rTm e c M).1 a j = M.1 a j := by
  unfold rTm
  split
  · exact rAt_c h
  · exact rAt_c h
theorem toInt_nI' {a : Nat} (h : a < 2 ^ 31) : (nI a).toInt = (a : Int) := Int32.toInt_ofNat_of_lt h
theorem neg_nI {a : Nat} (h : a < 2 ^ 31) : (-(nI a)).toInt = -(a : Int) := by
  rw [Int32.toInt_neg, toInt_nI' h]
  apply Int.bmod_eq_of_le <;> omega
theorem rVv_ok {e : Nat} {M : zM} : okV (rVv e M) := by
  unfold rVv
  split
  · rename_i h
    obtain ⟨h1, h2⟩ := h
    have hb : ∃ B : Nat, rVd e M = nI B ∧ 1 ≤ B ∧ B ≤ 999 := by
      unfold rVd
      unfold rVm at h1
      split
      · rename_i hs
        rw [if_pos hs] at h1
        exact ⟨_, if_pos h1, rNm_v h1⟩
      · exact ⟨1, rfl, by decide, by decide⟩
    obtain ⟨B, hb1, hb2, hb3⟩ := hb
    have ha : ∃ A : Nat, rNx e 0 99999 (rVa e M) = nI A ∧ A ≤ 99999 := by
      have h3 : (rVb e M).1 20 7 = 0 := by
        have h4 : (rVc e M).1 20 7 = 0 := by
          unfold rVm at h1
          split at h1
          · exact rNm_7 h1
          · exact h1
        rw [← h4]
        exact (rTm_c (by omega)).symm
      exact ⟨_, if_pos h3, (rNm_v h3).2⟩
    obtain ⟨A, ha1, ha2⟩ := ha
    rw [ha1, hb1]
    have hB := toInt_nI' (a := B) (by omega)
    split
    · exact frac_ok (A := A) (B := B) (by rw [neg_nI (by omega)]; omega) ha2 hB hb2 hb3
    · exact frac_ok (A := A) (B := B) (by rw [toInt_nI' (by omega)]; omega) ha2 hB hb2 hb3
  · exact ⟨false, 0, 0, ⟨rfl, by decide, by decide⟩, Or.inr rfl, by decide⟩
set_option maxHeartbeats 1000000 in
theorem zc_readValue (l : Launch) (G : zG) (M : zM) (lc e n : Nat) (hM : rSt lc e n M) (hy : lyR lc) (he : e ≤ 300) : zC l G 2 yX7_readValue cX7_readValue 4 (Option.some Jvm.ClassFile.FieldType.int) [.ref (20 : Nat)] M (zP (some (.int (rVv e M))) (rVm e M)) := by
  refine zC_of (by decide) (Nat.le_of_ble_eq_true rfl) (fun X Q hQ hX hl hR hr => ?_)
  refine zV_loc (L' := [.ref (20 : Nat), .null, .null, .null]) rfl ?_
  have h1 : rSt lc e n (rVa e M) := rSt_T hM hy he
  have h2 : rSt lc e n (rVb e M) := rSt_Nm h1 hy he
  have h3 : rSt lc e n (rVc e M) := rSt_T h2 hy he
  have J61 : ∀ (X8 : Int32) (s8 : Bool) (E8 T8 : Nat), fld (FP.fdiv (FP.i2f X8) (FP.i2f (rVd e M))) s8 E8 T8 → rVv e M = frac X8 (rVd e M) → zV G X Q 4 0 0 61 [.ref (20 : Nat), .int (zb (rTb e (nI 45) M)), .int (rNx e 0 99999 (rVa e M)), .int (rVd e M)] [.int X8] (rVm e M) := by
    intro X8 s8 E8 T8 hf8 e9
    refine zV_i2f hX dX7_readValue_61 ?_
    refine zV_iload_n hX dX7_readValue_62 rfl ?_
    refine zV_i2f hX dX7_readValue_63 ?_
    refine zV_fdiv hX dX7_readValue_64 (by obtain ⟨s7, E7, T7, h7⟩ : ∃ s E T, fld (FP.fdiv (FP.i2f X8) (FP.i2f (rVd e M))) s E T := ⟨_, _, _, hf8⟩; exact sq_n (fld_sq h7)) ?_
    refine zV_cS1p hX hR hl dX7_readValue_65 (zc_bitsOf l G _ _ s8 E8 T8 hf8) zt_X1_bitsOf rfl zml_X7_121 (by decide) (Nat.le_of_ble_eq_true rfl) ?_
    dsimp only [Option.toList, List.cons_append, List.nil_append]
    exact zV_reti hX hQ hr (⟨by rw [e9]; rfl, rfl⟩) dX7_readValue_68
  have J36 : ∀ v3 : Value, zV G X Q 4 0 0 36 [.ref (20 : Nat), .int (zb (rTb e (nI 45) M)), .int (rNx e 0 99999 (rVa e M)), v3] [.int (rVd e M)] (rVm e M) := by
    intro v3
    refine zV_istore_n hX dX7_readValue_36 (by decide) ?_
    dsimp only [zst1, zst2, zclr, zc2]
    refine zV_aload_n hX dX7_readValue_37 rfl ?_
    refine zV_geti hX dX7_readValue_38 zf_X7_38 zo20.1 rfl rfl ?_
    refine zV_if_ne hX (tgt := 49) dX7_readValue_41 (by decide) (fun c_41 => ?_) (fun c_41 => ?_)
    · have e9 : rVv e M = nI 0 := if_neg (fun q => c_41 q.1)
      refine zV_iconst hX (v := nI 0) dX7_readValue_49 (by decide) ?_
      exact zV_reti hX hQ hr (⟨by rw [e9], rfl⟩) dX7_readValue_50
    · refine zV_iload_n hX dX7_readValue_44 rfl ?_
      refine zV_iconst hX (v := nI 1) dX7_readValue_45 (by decide) ?_
      refine zV_icmp_ge hX (tgt := 51) dX7_readValue_46 (by decide) (fun c_46 => ?_) (fun c_46 => ?_)
      · have e9 : rVv e M = frac (if rTb e (nI 45) M then -(rNx e 0 99999 (rVa e M)) else rNx e 0 99999 (rVa e M)) (rVd e M) := if_pos ⟨c_41, Int32.not_lt.mpr c_46⟩
        have hok := rVv_ok (e := e) (M := M)
        rw [e9] at hok
        obtain ⟨s8, E8, T8, hf8, -, -⟩ := hok
        unfold frac at hf8
        rw [UInt32.toUInt32_toInt32] at hf8
        obtain ⟨X8, hX8⟩ : ∃ X8 : Int32, (if rTb e (nI 45) M then -(rNx e 0 99999 (rVa e M)) else rNx e 0 99999 (rVa e M)) = X8 := ⟨_, rfl⟩
        rw [hX8] at hf8 e9
        refine zV_iload_n hX dX7_readValue_51 rfl ?_
        refine zV_if_eqB hX (tgt := 60) dX7_readValue_52 (by decide) (fun c_52 => ?_) (fun c_52 => ?_)
        · rw [c_52] at hX8
          refine zV_iload_n hX dX7_readValue_60 rfl ?_
          refine zV_topi X8 hX8 ?_
          exact J61 X8 s8 E8 T8 hf8 e9
        · rw [c_52] at hX8
          refine zV_iload_n hX dX7_readValue_55 rfl ?_
          refine zV_ineg hX dX7_readValue_56 ?_
          refine zV_goto hX (tgt := 61) dX7_readValue_57 (by decide) ?_
          refine zV_topi X8 hX8 ?_
          exact J61 X8 s8 E8 T8 hf8 e9
      · have e9 : rVv e M = nI 0 := if_neg (fun q => q.2 (Int32.not_le.mp c_46))
        refine zV_iconst hX (v := nI 0) dX7_readValue_49 (by decide) ?_
        exact zV_reti hX hQ hr (⟨by rw [e9], rfl⟩) dX7_readValue_50
  refine zV_aload_n hX dX7_readValue_0 rfl ?_
  refine zV_bipush hX (v := nI 45) dX7_readValue_1 (by decide) ?_
  refine zV_cV1p hX hR hl dX7_readValue_3 (zc_takesSign l G M lc e n (nI 45) hM hy he) zt_X7_takesSign rfl zml_X7_77 zo20.1 ⟨by decide, by decide⟩ (Nat.le_of_ble_eq_true rfl) ?_
  dsimp only [Option.toList, List.cons_append, List.nil_append]
  refine zV_istore_n hX dX7_readValue_6 (by decide) ?_
  dsimp only [zst1, zst2, zclr, zc2]
  refine zV_aload_n hX dX7_readValue_7 rfl ?_
  refine zV_iconst hX (v := nI 0) dX7_readValue_8 (by decide) ?_
  refine zV_ldc hX dX7_readValue_9 zkc_X7_120 ?_
  refine zV_topi (nI 99999) (by decide) ?_
  refine zV_cV2p hX hR hl dX7_readValue_11 (zc_readNumber l G _ lc e n 0 99999 h1 hy he (by decide) (by decide)) zt_X7_readNumber rfl zml_X7_61 zo20.1 ⟨by decide, by decide⟩ (Nat.le_of_ble_eq_true rfl) ?_
  dsimp only [Option.toList, List.cons_append, List.nil_append]
  refine zV_istore_n hX dX7_readValue_14 (by decide) ?_
  dsimp only [zst1, zst2, zclr, zc2]
  refine zV_aload_n hX dX7_readValue_15 rfl ?_
  refine zV_bipush hX (v := nI 47) dX7_readValue_16 (by decide) ?_
  refine zV_cV1p hX hR hl dX7_readValue_18 (zc_takesSign l G _ lc e n (nI 47) h2 hy he) zt_X7_takesSign rfl zml_X7_77 zo20.1 ⟨by decide, by decide⟩ (Nat.le_of_ble_eq_true rfl) ?_
  dsimp only [Option.toList, List.cons_append, List.nil_append]
  refine zV_if_eqB hX (tgt := 35) dX7_readValue_21 (by decide) (fun c_21 => ?_) (fun c_21 => ?_)
  · have e8 : rVm e M = rVc e M ∧ rVd e M = nI 1 := by unfold rVm rVd; rw [show rTb e (nI 47) (rVb e M) = _ from c_21]; exact ⟨rfl, rfl⟩
    refine zV_iconst hX (v := nI 1) dX7_readValue_35 (by decide) ?_
    refine zV_topi (rVd e M) e8.2.symm ?_
    exact zV_mem e8.1.symm (J36 _)
  · have e8 : rVm e M = rNm e 1 999 (rVc e M) ∧ rVd e M = rNx e 1 999 (rVc e M) := by unfold rVm rVd; rw [show rTb e (nI 47) (rVb e M) = _ from c_21]; exact ⟨rfl, rfl⟩
    refine zV_aload_n hX dX7_readValue_24 rfl ?_
    refine zV_iconst hX (v := nI 1) dX7_readValue_25 (by decide) ?_
    refine zV_sipush hX (v := nI 999) dX7_readValue_26 (by decide) ?_
    refine zV_cV2p hX hR hl dX7_readValue_29 (zc_readNumber l G _ lc e n 1 999 h3 hy he (by decide) (by decide)) zt_X7_readNumber rfl zml_X7_61 zo20.1 ⟨by decide, by decide⟩ (Nat.le_of_ble_eq_true rfl) ?_
    dsimp only [Option.toList, List.cons_append, List.nil_append]
    refine zV_goto hX (tgt := 36) dX7_readValue_32 (by decide) ?_
    refine zV_topi (rVd e M) e8.2.symm ?_
    exact zV_mem e8.1.symm (J36 _)
