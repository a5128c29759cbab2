section zBuild4
variable {G : zG} {X : zX} {Q : State → Prop} {own : String} {cc : ByteArray} {base cnt nL cells slots pc : Nat} {L S : List Value} {M : zM}
theorem zB_newI (h : zOkB G base X own cc nL) {D mc ms : Nat} (hR : X.2.2.2.1 = zRk D mc ms) {c n : Nat} (d : decode cc pc = .ok (.newarray .int, 2)) (hq : zOrdL[cnt]? = some c) (hs : zSh c = (20, n)) (hM : ∀ k, M.1 c k = 0) (hn : n ≤ 2000) (hcnt : X.2.2.2.2.1.heap.size + cells = base + cnt ∧ cnt ≤ 402) (hcs : cells + 1 ≤ mc ∧ slots + n ≤ ms)
    (kk : zB G X Q base (cnt + 1) nL (cells + 1) (slots + n) (pc + 2) L (.ref c :: S) M) : zB G X Q base cnt nL cells slots pc L (.int (nI n) :: S) M :=
  zB_newa h hR (t := .int) (tn := 0) zar_int d hq ⟨rfl, rfl⟩ (zEnP_i hs) (by intro cA; rw [show M.1 c = fun _ => 0 from funext hM]; rfl) ⟨hn, by show n * 4 ≤ 536870912; omega⟩ hcnt hcs kk
theorem zB_newZ (h : zOkB G base X own cc nL) {D mc ms : Nat} (hR : X.2.2.2.1 = zRk D mc ms) {c n : Nat} (d : decode cc pc = .ok (.newarray .boolean, 2)) (hq : zOrdL[cnt]? = some c) (hs : zSh c = (21, n)) (hM : ∀ k, M.1 c k = 0) (hn : n ≤ 2000) (hcnt : X.2.2.2.2.1.heap.size + cells = base + cnt ∧ cnt ≤ 402) (hcs : cells + 1 ≤ mc ∧ slots + n ≤ ms)
    (kk : zB G X Q base (cnt + 1) nL (cells + 1) (slots + n) (pc + 2) L (.ref c :: S) M) : zB G X Q base cnt nL cells slots pc L (.int (nI n) :: S) M :=
  zB_newa h hR (t := .boolean) (tn := 1) zar_boolean d hq ⟨rfl, rfl⟩ (zEnP_z hs) (by intro cA; rw [show M.1 c = fun _ => 0 from funext hM]; rfl) ⟨hn, by show n * 1 ≤ 536870912; omega⟩ hcnt hcs kk
theorem zB_newF (h : zOkB G base X own cc nL) {D mc ms : Nat} (hR : X.2.2.2.1 = zRk D mc ms) {c n : Nat} (d : decode cc pc = .ok (.newarray .float, 2)) (hq : zOrdL[cnt]? = some c) (hs : zSh c = (22, n)) (hM : ∀ k, M.1 c k = 0) (hn : n ≤ 2000) (hcnt : X.2.2.2.2.1.heap.size + cells = base + cnt ∧ cnt ≤ 402) (hcs : cells + 1 ≤ mc ∧ slots + n ≤ ms)
    (kk : zB G X Q base (cnt + 1) nL (cells + 1) (slots + n) (pc + 2) L (.ref c :: S) M) : zB G X Q base cnt nL cells slots pc L (.int (nI n) :: S) M :=
  zB_newa h hR (t := .float) (tn := 2) zar_float d hq ⟨rfl, rfl⟩ (zEnP_f hs) (by intro cA; rw [show M.1 c = fun _ => 0 from funext hM]; rfl) ⟨hn, by show n * 4 ≤ 536870912; omega⟩ hcnt hcs kk
theorem zB_last {mc ms cnt2 : Nat} {M2 : zM} (h : zOkB G base X own cc nL) (hQ : zQB2 G X base mc ms cnt2 M2 = Q) (e1 : cnt2 = cnt) (e2 : M2 = M) (hr : X.2.2.2.2.2.2.2.2.1.sig.returnType = none) (hcs : cells ≤ mc ∧ slots ≤ ms) (d : decode cc pc = .ok (.return_, 1)) : zB G X Q base cnt nL cells slots pc L [] M := by
  subst e1 e2
  exact zB_retv h hQ hr hcs d
theorem zHas.of {c : Nat} (h : zOrdL[cnt]? = some c) {c2 : Nat} (h2 : cnt < c2) : zHas c2 c := ⟨cnt, h, h2⟩
def bX4 (c : Nat) (M : zM) : zM := (zw (zw (zw (zw (zw (zw (zw M c 1 1) c 2 1) c 3 1) c 4 1) c 5 1) c 6 1) c 7 1)
set_option maxHeartbeats 1000000 in
theorem zc_X4init (l : Launch) (G : zG) (M : zM) (base cnt c : Nat) (hc : zOb 3 c) (hh : zHas cnt c) (hq : ∀ i, i < 7 → zOrdL[cnt + i]? = some (c + 1 + [1, 2, 3, 4, 5, 6, 7].getD i 0)) (hz : ∀ x, c < x → x ≤ c + 8 → ∀ k, M.1 x k = 0) (hle : cnt + 7 ≤ 402) : zCB l G base 0 7 511 yX4_init cX4_init 1 [.ref c] cnt M (cnt + 7) (bX4 c M) := by
  refine zCB_of (by decide) (Nat.le_of_ble_eq_true rfl) (fun X Q hQ hX hl hR hr hnm hNe hsz => ?_)
  show zB G X Q base cnt 1 0 0 0 [.ref c] [] M
  refine zB_aload_n hX dX4_init_0 rfl ?_
  refine zB_obj hX hR zoi_X4_3 dX4_init_1 (Nat.le_of_ble_eq_true rfl) ?_
  refine zB_aload_n hX dX4_init_4 rfl ?_
  refine zB_bipush hX (v := nI 7) dX4_init_5 (by decide) ?_
  refine zB_newI hX hR (c := c + 1 + 1) (n := 7) dX4_init_7 (hq 0 (by decide)) (hc.a 1 rfl) (by intro k; (try simp only [zw]); (repeat rw [if_neg (by omega)]); exact hz _ (by omega) (by omega) k) (by decide) ⟨by omega, by omega⟩ ⟨by decide, by decide⟩ ?_
  refine zB_puta hX hnm dX4_init_9 zf_X4_9 zpF_3_1 (hh.lt (by omega)) hc.1 rfl ?_
  refine zB_aload_n hX dX4_init_12 rfl ?_
  refine zB_bipush hX (v := nI 84) dX4_init_13 (by decide) ?_
  refine zB_newI hX hR (c := c + 1 + 2) (n := 84) dX4_init_15 (hq 1 (by decide)) (hc.a 2 rfl) (by intro k; (try simp only [zw]); (repeat rw [if_neg (by omega)]); exact hz _ (by omega) (by omega) k) (by decide) ⟨by omega, by omega⟩ ⟨by decide, by decide⟩ ?_
  refine zB_puta hX hnm dX4_init_17 zf_X4_15 zpF_3_2 (hh.lt (by omega)) hc.1 rfl ?_
  refine zB_aload_n hX dX4_init_20 rfl ?_
  refine zB_bipush hX (v := nI 84) dX4_init_21 (by decide) ?_
  refine zB_newI hX hR (c := c + 1 + 3) (n := 84) dX4_init_23 (hq 2 (by decide)) (hc.a 3 rfl) (by intro k; (try simp only [zw]); (repeat rw [if_neg (by omega)]); exact hz _ (by omega) (by omega) k) (by decide) ⟨by omega, by omega⟩ ⟨by decide, by decide⟩ ?_
  refine zB_puta hX hnm dX4_init_25 zf_X4_18 zpF_3_3 (hh.lt (by omega)) hc.1 rfl ?_
  refine zB_aload_n hX dX4_init_28 rfl ?_
  refine zB_bipush hX (v := nI 84) dX4_init_29 (by decide) ?_
  refine zB_newI hX hR (c := c + 1 + 4) (n := 84) dX4_init_31 (hq 3 (by decide)) (hc.a 4 rfl) (by intro k; (try simp only [zw]); (repeat rw [if_neg (by omega)]); exact hz _ (by omega) (by omega) k) (by decide) ⟨by omega, by omega⟩ ⟨by decide, by decide⟩ ?_
  refine zB_puta hX hnm dX4_init_33 zf_X4_21 zpF_3_4 (hh.lt (by omega)) hc.1 rfl ?_
  refine zB_aload_n hX dX4_init_36 rfl ?_
  refine zB_bipush hX (v := nI 84) dX4_init_37 (by decide) ?_
  refine zB_newI hX hR (c := c + 1 + 5) (n := 84) dX4_init_39 (hq 4 (by decide)) (hc.a 5 rfl) (by intro k; (try simp only [zw]); (repeat rw [if_neg (by omega)]); exact hz _ (by omega) (by omega) k) (by decide) ⟨by omega, by omega⟩ ⟨by decide, by decide⟩ ?_
  refine zB_puta hX hnm dX4_init_41 zf_X4_24 zpF_3_5 (hh.lt (by omega)) hc.1 rfl ?_
  refine zB_aload_n hX dX4_init_44 rfl ?_
  refine zB_bipush hX (v := nI 84) dX4_init_45 (by decide) ?_
  refine zB_newI hX hR (c := c + 1 + 6) (n := 84) dX4_init_47 (hq 5 (by decide)) (hc.a 6 rfl) (by intro k; (try simp only [zw]); (repeat rw [if_neg (by omega)]); exact hz _ (by omega) (by omega) k) (by decide) ⟨by omega, by omega⟩ ⟨by decide, by decide⟩ ?_
  refine zB_puta hX hnm dX4_init_49 zf_X4_27 zpF_3_6 (hh.lt (by omega)) hc.1 rfl ?_
  refine zB_aload_n hX dX4_init_52 rfl ?_
  refine zB_bipush hX (v := nI 84) dX4_init_53 (by decide) ?_
  refine zB_newI hX hR (c := c + 1 + 7) (n := 84) dX4_init_55 (hq 6 (by decide)) (hc.a 7 rfl) (by intro k; (try simp only [zw]); (repeat rw [if_neg (by omega)]); exact hz _ (by omega) (by omega) k) (by decide) ⟨by omega, by omega⟩ ⟨by decide, by decide⟩ ?_
  refine zB_puta hX hnm dX4_init_57 zf_X4_30 zpF_3_7 (hh.lt (by omega)) hc.1 rfl ?_
  exact zB_last hX hQ rfl rfl hr ⟨by decide, by decide⟩ dX4_init_60
def bX6 (c : Nat) (M : zM) : zM := (zw (zw (zw (zw (zw (zw (zw (zw (zw (zw (zw (zw (zw M c 0 (-1)) c 3 1) c 4 1) c 5 1) c 6 1) c 12 1) c 13 1) c 14 1) c 15 1) c 16 1) c 17 1) c 18 1) c 19 1)
set_option maxHeartbeats 1000000 in
theorem zc_X6init (l : Launch) (G : zG) (M : zM) (base cnt c : Nat) (hc : zOb 5 c) (hh : zHas cnt c) (hq : ∀ i, i < 12 → zOrdL[cnt + i]? = some (c + 1 + [3, 4, 5, 6, 12, 13, 14, 15, 16, 17, 18, 19].getD i 0)) (hz : ∀ x, c < x → x ≤ c + 20 → ∀ k, M.1 x k = 0) (hle : cnt + 12 ≤ 402) : zCB l G base 0 12 1360 yX6_init cX6_init 1 [.ref c] cnt M (cnt + 12) (bX6 c M) := by
  refine zCB_of (by decide) (Nat.le_of_ble_eq_true rfl) (fun X Q hQ hX hl hR hr hnm hNe hsz => ?_)
  show zB G X Q base cnt 1 0 0 0 [.ref c] [] M
  refine zB_aload_n hX dX6_init_0 rfl ?_
  refine zB_obj hX hR zoi_X6_3 dX6_init_1 (Nat.le_of_ble_eq_true rfl) ?_
  refine zB_aload_n hX dX6_init_4 rfl ?_
  refine zB_iconst hX (v := (-1)) dX6_init_5 (by decide) ?_
  refine zB_puti hX dX6_init_6 zf_X6_9 zp_5_0 hh hc.1 rfl ?_
  refine zB_aload_n hX dX6_init_9 rfl ?_
  refine zB_bipush hX (v := nI 7) dX6_init_10 (by decide) ?_
  refine zB_newI hX hR (c := c + 1 + 3) (n := 7) dX6_init_12 (hq 0 (by decide)) (hc.a 3 rfl) (by intro k; (try simp only [zw]); (repeat rw [if_neg (by omega)]); exact hz _ (by omega) (by omega) k) (by decide) ⟨by omega, by omega⟩ ⟨by decide, by decide⟩ ?_
  refine zB_puta hX hnm dX6_init_14 zf_X6_15 zpF_5_3 (hh.lt (by omega)) hc.1 rfl ?_
  refine zB_aload_n hX dX6_init_17 rfl ?_
  refine zB_bipush hX (v := nI 7) dX6_init_18 (by decide) ?_
  refine zB_newI hX hR (c := c + 1 + 4) (n := 7) dX6_init_20 (hq 1 (by decide)) (hc.a 4 rfl) (by intro k; (try simp only [zw]); (repeat rw [if_neg (by omega)]); exact hz _ (by omega) (by omega) k) (by decide) ⟨by omega, by omega⟩ ⟨by decide, by decide⟩ ?_
  refine zB_puta hX hnm dX6_init_22 zf_X6_19 zpF_5_4 (hh.lt (by omega)) hc.1 rfl ?_
  refine zB_aload_n hX dX6_init_25 rfl ?_
  refine zB_bipush hX (v := nI 7) dX6_init_26 (by decide) ?_
  refine zB_newI hX hR (c := c + 1 + 5) (n := 7) dX6_init_28 (hq 2 (by decide)) (hc.a 5 rfl) (by intro k; (try simp only [zw]); (repeat rw [if_neg (by omega)]); exact hz _ (by omega) (by omega) k) (by decide) ⟨by omega, by omega⟩ ⟨by decide, by decide⟩ ?_
  refine zB_puta hX hnm dX6_init_30 zf_X6_22 zpF_5_5 (hh.lt (by omega)) hc.1 rfl ?_
  refine zB_aload_n hX dX6_init_33 rfl ?_
  refine zB_bipush hX (v := nI 7) dX6_init_34 (by decide) ?_
  refine zB_newI hX hR (c := c + 1 + 6) (n := 7) dX6_init_36 (hq 3 (by decide)) (hc.a 6 rfl) (by intro k; (try simp only [zw]); (repeat rw [if_neg (by omega)]); exact hz _ (by omega) (by omega) k) (by decide) ⟨by omega, by omega⟩ ⟨by decide, by decide⟩ ?_
  refine zB_puta hX hnm dX6_init_38 zf_X6_25 zpF_5_6 (hh.lt (by omega)) hc.1 rfl ?_
  refine zB_aload_n hX dX6_init_41 rfl ?_
  refine zB_sipush hX (v := nI 399) dX6_init_42 (by decide) ?_
  refine zB_newI hX hR (c := c + 1 + 12) (n := 399) dX6_init_45 (hq 4 (by decide)) (hc.a 12 rfl) (by intro k; (try simp only [zw]); (repeat rw [if_neg (by omega)]); exact hz _ (by omega) (by omega) k) (by decide) ⟨by omega, by omega⟩ ⟨by decide, by decide⟩ ?_
  refine zB_puta hX hnm dX6_init_47 zf_X6_28 zpF_5_12 (hh.lt (by omega)) hc.1 rfl ?_
  refine zB_aload_n hX dX6_init_50 rfl ?_
  refine zB_sipush hX (v := nI 399) dX6_init_51 (by decide) ?_
  refine zB_newZ hX hR (c := c + 1 + 13) (n := 399) dX6_init_54 (hq 5 (by decide)) (hc.a 13 rfl) (by intro k; (try simp only [zw]); (repeat rw [if_neg (by omega)]); exact hz _ (by omega) (by omega) k) (by decide) ⟨by omega, by omega⟩ ⟨by decide, by decide⟩ ?_
  refine zB_puta hX hnm dX6_init_56 zf_X6_31 zpF_5_13 (hh.lt (by omega)) hc.1 rfl ?_
  refine zB_aload_n hX dX6_init_59 rfl ?_
  refine zB_sipush hX (v := nI 399) dX6_init_60 (by decide) ?_
  refine zB_newI hX hR (c := c + 1 + 14) (n := 399) dX6_init_63 (hq 6 (by decide)) (hc.a 14 rfl) (by intro k; (try simp only [zw]); (repeat rw [if_neg (by omega)]); exact hz _ (by omega) (by omega) k) (by decide) ⟨by omega, by omega⟩ ⟨by decide, by decide⟩ ?_
  refine zB_puta hX hnm dX6_init_65 zf_X6_35 zpF_5_14 (hh.lt (by omega)) hc.1 rfl ?_
  refine zB_aload_n hX dX6_init_68 rfl ?_
  refine zB_bipush hX (v := nI 7) dX6_init_69 (by decide) ?_
  refine zB_newI hX hR (c := c + 1 + 15) (n := 7) dX6_init_71 (hq 7 (by decide)) (hc.a 15 rfl) (by intro k; (try simp only [zw]); (repeat rw [if_neg (by omega)]); exact hz _ (by omega) (by omega) k) (by decide) ⟨by omega, by omega⟩ ⟨by decide, by decide⟩ ?_
  refine zB_puta hX hnm dX6_init_73 zf_X6_38 zpF_5_15 (hh.lt (by omega)) hc.1 rfl ?_
  refine zB_aload_n hX dX6_init_76 rfl ?_
  refine zB_bipush hX (v := nI 7) dX6_init_77 (by decide) ?_
  refine zB_newI hX hR (c := c + 1 + 16) (n := 7) dX6_init_79 (hq 8 (by decide)) (hc.a 16 rfl) (by intro k; (try simp only [zw]); (repeat rw [if_neg (by omega)]); exact hz _ (by omega) (by omega) k) (by decide) ⟨by omega, by omega⟩ ⟨by decide, by decide⟩ ?_
  refine zB_puta hX hnm dX6_init_81 zf_X6_41 zpF_5_16 (hh.lt (by omega)) hc.1 rfl ?_
  refine zB_aload_n hX dX6_init_84 rfl ?_
  refine zB_bipush hX (v := nI 57) dX6_init_85 (by decide) ?_
  refine zB_newI hX hR (c := c + 1 + 17) (n := 57) dX6_init_87 (hq 9 (by decide)) (hc.a 17 rfl) (by intro k; (try simp only [zw]); (repeat rw [if_neg (by omega)]); exact hz _ (by omega) (by omega) k) (by decide) ⟨by omega, by omega⟩ ⟨by decide, by decide⟩ ?_
  refine zB_puta hX hnm dX6_init_89 zf_X6_44 zpF_5_17 (hh.lt (by omega)) hc.1 rfl ?_
  refine zB_aload_n hX dX6_init_92 rfl ?_
  refine zB_bipush hX (v := nI 57) dX6_init_93 (by decide) ?_
  refine zB_newI hX hR (c := c + 1 + 18) (n := 57) dX6_init_95 (hq 10 (by decide)) (hc.a 18 rfl) (by intro k; (try simp only [zw]); (repeat rw [if_neg (by omega)]); exact hz _ (by omega) (by omega) k) (by decide) ⟨by omega, by omega⟩ ⟨by decide, by decide⟩ ?_
  refine zB_puta hX hnm dX6_init_97 zf_X6_47 zpF_5_18 (hh.lt (by omega)) hc.1 rfl ?_
  refine zB_aload_n hX dX6_init_100 rfl ?_
  refine zB_bipush hX (v := nI 7) dX6_init_101 (by decide) ?_
  refine zB_newI hX hR (c := c + 1 + 19) (n := 7) dX6_init_103 (hq 11 (by decide)) (hc.a 19 rfl) (by intro k; (try simp only [zw]); (repeat rw [if_neg (by omega)]); exact hz _ (by omega) (by omega) k) (by decide) ⟨by omega, by omega⟩ ⟨by decide, by decide⟩ ?_
  refine zB_puta hX hnm dX6_init_105 zf_X6_50 zpF_5_19 (hh.lt (by omega)) hc.1 rfl ?_
  exact zB_last hX hQ rfl rfl hr ⟨by decide, by decide⟩ dX6_init_108
def bX8 (c : Nat) (M : zM) : zM := (zw (zw (zw (zw (zw (zw (zw M c 4 1) c 5 1) c 6 1) c 8 1) c 9 1) c 10 1) c 11 1)
set_option maxHeartbeats 1000000 in
theorem zc_X8init (l : Launch) (G : zG) (M : zM) (base cnt c : Nat) (hc : zOb 7 c) (hh : zHas cnt c) (hq : ∀ i, i < 7 → zOrdL[cnt + i]? = some (c + 1 + [4, 5, 6, 8, 9, 10, 11].getD i 0)) (hz : ∀ x, c < x → x ≤ c + 12 → ∀ k, M.1 x k = 0) (hle : cnt + 7 ≤ 402) : zCB l G base 0 7 217 yX8_init cX8_init 1 [.ref c] cnt M (cnt + 7) (bX8 c M) := by
  refine zCB_of (by decide) (Nat.le_of_ble_eq_true rfl) (fun X Q hQ hX hl hR hr hnm hNe hsz => ?_)
  show zB G X Q base cnt 1 0 0 0 [.ref c] [] M
  refine zB_aload_n hX dX8_init_0 rfl ?_
  refine zB_obj hX hR zoi_X8_3 dX8_init_1 (Nat.le_of_ble_eq_true rfl) ?_
  refine zB_aload_n hX dX8_init_4 rfl ?_
  refine zB_bipush hX (v := nI 7) dX8_init_5 (by decide) ?_
  refine zB_newI hX hR (c := c + 1 + 4) (n := 7) dX8_init_7 (hq 0 (by decide)) (hc.a 4 rfl) (by intro k; (try simp only [zw]); (repeat rw [if_neg (by omega)]); exact hz _ (by omega) (by omega) k) (by decide) ⟨by omega, by omega⟩ ⟨by decide, by decide⟩ ?_
  refine zB_puta hX hnm dX8_init_9 zf_X8_9 zpF_7_4 (hh.lt (by omega)) hc.1 rfl ?_
  refine zB_aload_n hX dX8_init_12 rfl ?_
  refine zB_bipush hX (v := nI 7) dX8_init_13 (by decide) ?_
  refine zB_newI hX hR (c := c + 1 + 5) (n := 7) dX8_init_15 (hq 1 (by decide)) (hc.a 5 rfl) (by intro k; (try simp only [zw]); (repeat rw [if_neg (by omega)]); exact hz _ (by omega) (by omega) k) (by decide) ⟨by omega, by omega⟩ ⟨by decide, by decide⟩ ?_
  refine zB_puta hX hnm dX8_init_17 zf_X8_15 zpF_7_5 (hh.lt (by omega)) hc.1 rfl ?_
  refine zB_aload_n hX dX8_init_20 rfl ?_
  refine zB_bipush hX (v := nI 7) dX8_init_21 (by decide) ?_
  refine zB_newI hX hR (c := c + 1 + 6) (n := 7) dX8_init_23 (hq 2 (by decide)) (hc.a 6 rfl) (by intro k; (try simp only [zw]); (repeat rw [if_neg (by omega)]); exact hz _ (by omega) (by omega) k) (by decide) ⟨by omega, by omega⟩ ⟨by decide, by decide⟩ ?_
  refine zB_puta hX hnm dX8_init_25 zf_X8_18 zpF_7_6 (hh.lt (by omega)) hc.1 rfl ?_
  refine zB_aload_n hX dX8_init_28 rfl ?_
  refine zB_bipush hX (v := nI 49) dX8_init_29 (by decide) ?_
  refine zB_newI hX hR (c := c + 1 + 8) (n := 49) dX8_init_31 (hq 3 (by decide)) (hc.a 8 rfl) (by intro k; (try simp only [zw]); (repeat rw [if_neg (by omega)]); exact hz _ (by omega) (by omega) k) (by decide) ⟨by omega, by omega⟩ ⟨by decide, by decide⟩ ?_
  refine zB_puta hX hnm dX8_init_33 zf_X8_21 zpF_7_8 (hh.lt (by omega)) hc.1 rfl ?_
  refine zB_aload_n hX dX8_init_36 rfl ?_
  refine zB_bipush hX (v := nI 49) dX8_init_37 (by decide) ?_
  refine zB_newI hX hR (c := c + 1 + 9) (n := 49) dX8_init_39 (hq 4 (by decide)) (hc.a 9 rfl) (by intro k; (try simp only [zw]); (repeat rw [if_neg (by omega)]); exact hz _ (by omega) (by omega) k) (by decide) ⟨by omega, by omega⟩ ⟨by decide, by decide⟩ ?_
  refine zB_puta hX hnm dX8_init_41 zf_X8_24 zpF_7_9 (hh.lt (by omega)) hc.1 rfl ?_
  refine zB_aload_n hX dX8_init_44 rfl ?_
  refine zB_bipush hX (v := nI 49) dX8_init_45 (by decide) ?_
  refine zB_newI hX hR (c := c + 1 + 10) (n := 49) dX8_init_47 (hq 5 (by decide)) (hc.a 10 rfl) (by intro k; (try simp only [zw]); (repeat rw [if_neg (by omega)]); exact hz _ (by omega) (by omega) k) (by decide) ⟨by omega, by omega⟩ ⟨by decide, by decide⟩ ?_
  refine zB_puta hX hnm dX8_init_49 zf_X8_27 zpF_7_10 (hh.lt (by omega)) hc.1 rfl ?_
  refine zB_aload_n hX dX8_init_52 rfl ?_
  refine zB_bipush hX (v := nI 49) dX8_init_53 (by decide) ?_
  refine zB_newI hX hR (c := c + 1 + 11) (n := 49) dX8_init_55 (hq 6 (by decide)) (hc.a 11 rfl) (by intro k; (try simp only [zw]); (repeat rw [if_neg (by omega)]); exact hz _ (by omega) (by omega) k) (by decide) ⟨by omega, by omega⟩ ⟨by decide, by decide⟩ ?_
  refine zB_puta hX hnm dX8_init_57 zf_X8_30 zpF_7_11 (hh.lt (by omega)) hc.1 rfl ?_
  exact zB_last hX hQ rfl rfl hr ⟨by decide, by decide⟩ dX8_init_60
def bX3 (c : Nat) (M : zM) : zM := (zw (zw (zw (zw (zw M c 2 1) c 3 1) c 4 1) c 5 1) c 6 1)
set_option maxHeartbeats 1000000 in
theorem zc_X3init (l : Launch) (G : zG) (M : zM) (base cnt c : Nat) (hc : zOb 2 c) (hh : zHas cnt c) (hq : ∀ i, i < 5 → zOrdL[cnt + i]? = some (c + 1 + [2, 3, 4, 5, 6].getD i 0)) (hz : ∀ x, c < x → x ≤ c + 7 → ∀ k, M.1 x k = 0) (hle : cnt + 5 ≤ 402) : zCB l G base 0 5 32 yX3_init cX3_init 1 [.ref c] cnt M (cnt + 5) (bX3 c M) := by
  refine zCB_of (by decide) (Nat.le_of_ble_eq_true rfl) (fun X Q hQ hX hl hR hr hnm hNe hsz => ?_)
  show zB G X Q base cnt 1 0 0 0 [.ref c] [] M
  refine zB_aload_n hX dX3_init_0 rfl ?_
  refine zB_obj hX hR zoi_X3_3 dX3_init_1 (Nat.le_of_ble_eq_true rfl) ?_
  refine zB_aload_n hX dX3_init_4 rfl ?_
  refine zB_bipush hX (v := nI 7) dX3_init_5 (by decide) ?_
  refine zB_newI hX hR (c := c + 1 + 2) (n := 7) dX3_init_7 (hq 0 (by decide)) (hc.a 2 rfl) (by intro k; (try simp only [zw]); (repeat rw [if_neg (by omega)]); exact hz _ (by omega) (by omega) k) (by decide) ⟨by omega, by omega⟩ ⟨by decide, by decide⟩ ?_
  refine zB_puta hX hnm dX3_init_9 zf_X3_9 zpF_2_2 (hh.lt (by omega)) hc.1 rfl ?_
  refine zB_aload_n hX dX3_init_12 rfl ?_
  refine zB_bipush hX (v := nI 7) dX3_init_13 (by decide) ?_
  refine zB_newI hX hR (c := c + 1 + 3) (n := 7) dX3_init_15 (hq 1 (by decide)) (hc.a 3 rfl) (by intro k; (try simp only [zw]); (repeat rw [if_neg (by omega)]); exact hz _ (by omega) (by omega) k) (by decide) ⟨by omega, by omega⟩ ⟨by decide, by decide⟩ ?_
  refine zB_puta hX hnm dX3_init_17 zf_X3_15 zpF_2_3 (hh.lt (by omega)) hc.1 rfl ?_
  refine zB_aload_n hX dX3_init_20 rfl ?_
  refine zB_bipush hX (v := nI 7) dX3_init_21 (by decide) ?_
  refine zB_newI hX hR (c := c + 1 + 4) (n := 7) dX3_init_23 (hq 2 (by decide)) (hc.a 4 rfl) (by intro k; (try simp only [zw]); (repeat rw [if_neg (by omega)]); exact hz _ (by omega) (by omega) k) (by decide) ⟨by omega, by omega⟩ ⟨by decide, by decide⟩ ?_
  refine zB_puta hX hnm dX3_init_25 zf_X3_18 zpF_2_4 (hh.lt (by omega)) hc.1 rfl ?_
  refine zB_aload_n hX dX3_init_28 rfl ?_
  refine zB_bipush hX (v := nI 7) dX3_init_29 (by decide) ?_
  refine zB_newI hX hR (c := c + 1 + 5) (n := 7) dX3_init_31 (hq 3 (by decide)) (hc.a 5 rfl) (by intro k; (try simp only [zw]); (repeat rw [if_neg (by omega)]); exact hz _ (by omega) (by omega) k) (by decide) ⟨by omega, by omega⟩ ⟨by decide, by decide⟩ ?_
  refine zB_puta hX hnm dX3_init_33 zf_X3_21 zpF_2_5 (hh.lt (by omega)) hc.1 rfl ?_
  refine zB_aload_n hX dX3_init_36 rfl ?_
  refine zB_iconst hX (v := nI 4) dX3_init_37 (by decide) ?_
  refine zB_newI hX hR (c := c + 1 + 6) (n := 4) dX3_init_38 (hq 4 (by decide)) (hc.a 6 rfl) (by intro k; (try simp only [zw]); (repeat rw [if_neg (by omega)]); exact hz _ (by omega) (by omega) k) (by decide) ⟨by omega, by omega⟩ ⟨by decide, by decide⟩ ?_
  refine zB_puta hX hnm dX3_init_40 zf_X3_24 zpF_2_6 (hh.lt (by omega)) hc.1 rfl ?_
  exact zB_last hX hQ rfl rfl hr ⟨by decide, by decide⟩ dX3_init_43
def bX0 (c : Nat) (M : zM) : zM := (zw (zw (zw (zw (zw (zw (zw (zw (zw M c 2 1) c 3 1) c 4 1) c 5 1) c 6 1) c 9 1) c 10 1) c 11 1) c 12 1)
set_option maxHeartbeats 1000000 in
theorem zc_X0init (l : Launch) (G : zG) (M : zM) (base cnt c : Nat) (hc : zOb 0 c) (hh : zHas cnt c) (hq : ∀ i, i < 9 → zOrdL[cnt + i]? = some (c + 1 + [2, 3, 4, 5, 6, 9, 10, 11, 12].getD i 0)) (hz : ∀ x, c < x → x ≤ c + 13 → ∀ k, M.1 x k = 0) (hle : cnt + 9 ≤ 402) : zCB l G base 0 9 147 yX0_init cX0_init 1 [.ref c] cnt M (cnt + 9) (bX0 c M) := by
  refine zCB_of (by decide) (Nat.le_of_ble_eq_true rfl) (fun X Q hQ hX hl hR hr hnm hNe hsz => ?_)
  show zB G X Q base cnt 1 0 0 0 [.ref c] [] M
  refine zB_aload_n hX dX0_init_0 rfl ?_
  refine zB_obj hX hR zoi_X0_3 dX0_init_1 (Nat.le_of_ble_eq_true rfl) ?_
  refine zB_aload_n hX dX0_init_4 rfl ?_
  refine zB_bipush hX (v := nI 7) dX0_init_5 (by decide) ?_
  refine zB_newI hX hR (c := c + 1 + 2) (n := 7) dX0_init_7 (hq 0 (by decide)) (hc.a 2 rfl) (by intro k; (try simp only [zw]); (repeat rw [if_neg (by omega)]); exact hz _ (by omega) (by omega) k) (by decide) ⟨by omega, by omega⟩ ⟨by decide, by decide⟩ ?_
  refine zB_puta hX hnm dX0_init_9 zf_X0_9 zpF_0_2 (hh.lt (by omega)) hc.1 rfl ?_
  refine zB_aload_n hX dX0_init_12 rfl ?_
  refine zB_bipush hX (v := nI 7) dX0_init_13 (by decide) ?_
  refine zB_newI hX hR (c := c + 1 + 3) (n := 7) dX0_init_15 (hq 1 (by decide)) (hc.a 3 rfl) (by intro k; (try simp only [zw]); (repeat rw [if_neg (by omega)]); exact hz _ (by omega) (by omega) k) (by decide) ⟨by omega, by omega⟩ ⟨by decide, by decide⟩ ?_
  refine zB_puta hX hnm dX0_init_17 zf_X0_15 zpF_0_3 (hh.lt (by omega)) hc.1 rfl ?_
  refine zB_aload_n hX dX0_init_20 rfl ?_
  refine zB_bipush hX (v := nI 7) dX0_init_21 (by decide) ?_
  refine zB_newI hX hR (c := c + 1 + 4) (n := 7) dX0_init_23 (hq 2 (by decide)) (hc.a 4 rfl) (by intro k; (try simp only [zw]); (repeat rw [if_neg (by omega)]); exact hz _ (by omega) (by omega) k) (by decide) ⟨by omega, by omega⟩ ⟨by decide, by decide⟩ ?_
  refine zB_puta hX hnm dX0_init_25 zf_X0_18 zpF_0_4 (hh.lt (by omega)) hc.1 rfl ?_
  refine zB_aload_n hX dX0_init_28 rfl ?_
  refine zB_bipush hX (v := nI 7) dX0_init_29 (by decide) ?_
  refine zB_newI hX hR (c := c + 1 + 5) (n := 7) dX0_init_31 (hq 3 (by decide)) (hc.a 5 rfl) (by intro k; (try simp only [zw]); (repeat rw [if_neg (by omega)]); exact hz _ (by omega) (by omega) k) (by decide) ⟨by omega, by omega⟩ ⟨by decide, by decide⟩ ?_
  refine zB_puta hX hnm dX0_init_33 zf_X0_21 zpF_0_5 (hh.lt (by omega)) hc.1 rfl ?_
  refine zB_aload_n hX dX0_init_36 rfl ?_
  refine zB_bipush hX (v := nI 7) dX0_init_37 (by decide) ?_
  refine zB_newI hX hR (c := c + 1 + 6) (n := 7) dX0_init_39 (hq 4 (by decide)) (hc.a 6 rfl) (by intro k; (try simp only [zw]); (repeat rw [if_neg (by omega)]); exact hz _ (by omega) (by omega) k) (by decide) ⟨by omega, by omega⟩ ⟨by decide, by decide⟩ ?_
  refine zB_puta hX hnm dX0_init_41 zf_X0_24 zpF_0_6 (hh.lt (by omega)) hc.1 rfl ?_
  refine zB_aload_n hX dX0_init_44 rfl ?_
  refine zB_bipush hX (v := nI 7) dX0_init_45 (by decide) ?_
  refine zB_newI hX hR (c := c + 1 + 9) (n := 7) dX0_init_47 (hq 5 (by decide)) (hc.a 9 rfl) (by intro k; (try simp only [zw]); (repeat rw [if_neg (by omega)]); exact hz _ (by omega) (by omega) k) (by decide) ⟨by omega, by omega⟩ ⟨by decide, by decide⟩ ?_
  refine zB_puta hX hnm dX0_init_49 zf_X0_27 zpF_0_9 (hh.lt (by omega)) hc.1 rfl ?_
  refine zB_aload_n hX dX0_init_52 rfl ?_
  refine zB_bipush hX (v := nI 49) dX0_init_53 (by decide) ?_
  refine zB_newI hX hR (c := c + 1 + 10) (n := 49) dX0_init_55 (hq 6 (by decide)) (hc.a 10 rfl) (by intro k; (try simp only [zw]); (repeat rw [if_neg (by omega)]); exact hz _ (by omega) (by omega) k) (by decide) ⟨by omega, by omega⟩ ⟨by decide, by decide⟩ ?_
  refine zB_puta hX hnm dX0_init_57 zf_X0_30 zpF_0_10 (hh.lt (by omega)) hc.1 rfl ?_
  refine zB_aload_n hX dX0_init_60 rfl ?_
  refine zB_bipush hX (v := nI 49) dX0_init_61 (by decide) ?_
  refine zB_newI hX hR (c := c + 1 + 11) (n := 49) dX0_init_63 (hq 7 (by decide)) (hc.a 11 rfl) (by intro k; (try simp only [zw]); (repeat rw [if_neg (by omega)]); exact hz _ (by omega) (by omega) k) (by decide) ⟨by omega, by omega⟩ ⟨by decide, by decide⟩ ?_
  refine zB_puta hX hnm dX0_init_65 zf_X0_33 zpF_0_11 (hh.lt (by omega)) hc.1 rfl ?_
  refine zB_aload_n hX dX0_init_68 rfl ?_
  refine zB_bipush hX (v := nI 7) dX0_init_69 (by decide) ?_
  refine zB_newI hX hR (c := c + 1 + 12) (n := 7) dX0_init_71 (hq 8 (by decide)) (hc.a 12 rfl) (by intro k; (try simp only [zw]); (repeat rw [if_neg (by omega)]); exact hz _ (by omega) (by omega) k) (by decide) ⟨by omega, by omega⟩ ⟨by decide, by decide⟩ ?_
  refine zB_puta hX hnm dX0_init_73 zf_X0_36 zpF_0_12 (hh.lt (by omega)) hc.1 rfl ?_
  exact zB_last hX hQ rfl rfl hr ⟨by decide, by decide⟩ dX0_init_76
def bX5 (c : Nat) (M : zM) : zM := (zw (zw (zw M c 0 1) c 1 1) c 2 1)
set_option maxHeartbeats 1000000 in
theorem zc_X5init (l : Launch) (G : zG) (M : zM) (base cnt c : Nat) (hc : zOb 4 c) (hh : zHas cnt c) (hq : ∀ i, i < 3 → zOrdL[cnt + i]? = some (c + 1 + [0, 1, 2].getD i 0)) (hz : ∀ x, c < x → x ≤ c + 3 → ∀ k, M.1 x k = 0) (hle : cnt + 3 ≤ 402) : zCB l G base 0 3 21 yX5_init cX5_init 1 [.ref c] cnt M (cnt + 3) (bX5 c M) := by
  refine zCB_of (by decide) (Nat.le_of_ble_eq_true rfl) (fun X Q hQ hX hl hR hr hnm hNe hsz => ?_)
  show zB G X Q base cnt 1 0 0 0 [.ref c] [] M
  refine zB_aload_n hX dX5_init_0 rfl ?_
  refine zB_obj hX hR zoi_X5_3 dX5_init_1 (Nat.le_of_ble_eq_true rfl) ?_
  refine zB_aload_n hX dX5_init_4 rfl ?_
  refine zB_bipush hX (v := nI 7) dX5_init_5 (by decide) ?_
  refine zB_newF hX hR (c := c + 1 + 0) (n := 7) dX5_init_7 (hq 0 (by decide)) (hc.a 0 rfl) (by intro k; (try simp only [zw]); (repeat rw [if_neg (by omega)]); exact hz _ (by omega) (by omega) k) (by decide) ⟨by omega, by omega⟩ ⟨by decide, by decide⟩ ?_
  refine zB_puta hX hnm dX5_init_9 zf_X5_9 zpF_4_0 (hh.lt (by omega)) hc.1 rfl ?_
  refine zB_aload_n hX dX5_init_12 rfl ?_
  refine zB_bipush hX (v := nI 7) dX5_init_13 (by decide) ?_
  refine zB_newF hX hR (c := c + 1 + 1) (n := 7) dX5_init_15 (hq 1 (by decide)) (hc.a 1 rfl) (by intro k; (try simp only [zw]); (repeat rw [if_neg (by omega)]); exact hz _ (by omega) (by omega) k) (by decide) ⟨by omega, by omega⟩ ⟨by decide, by decide⟩ ?_
  refine zB_puta hX hnm dX5_init_17 zf_X5_15 zpF_4_1 (hh.lt (by omega)) hc.1 rfl ?_
  refine zB_aload_n hX dX5_init_20 rfl ?_
  refine zB_bipush hX (v := nI 7) dX5_init_21 (by decide) ?_
  refine zB_newF hX hR (c := c + 1 + 2) (n := 7) dX5_init_23 (hq 2 (by decide)) (hc.a 2 rfl) (by intro k; (try simp only [zw]); (repeat rw [if_neg (by omega)]); exact hz _ (by omega) (by omega) k) (by decide) ⟨by omega, by omega⟩ ⟨by decide, by decide⟩ ?_
  refine zB_puta hX hnm dX5_init_25 zf_X5_18 zpF_4_2 (hh.lt (by omega)) hc.1 rfl ?_
  exact zB_last hX hQ rfl rfl hr ⟨by decide, by decide⟩ dX5_init_28
theorem zti_X10 : Cond.code yX10_init cX10_init 1 none ∈ zT ∧ Cond.initialized yX10_init.cls ∈ zT ∧ 1 ≤ 80 ∧ (yX10_init.cls ≠ "java/lang/invoke/MethodHandle" ∧ yX10_init.cls ≠ "java/lang/invoke/VarHandle" ∧ (parseMethodDescriptor yX10_init.desc).map (fun d => d.parameters.length) = some 0) ∧ Cond.instanceMethod yX10_init ∈ zT ∧ yX10_init.name = "<init>" := ⟨zT1 31 (by decide +kernel) rfl, zT1 1 (by decide +kernel) rfl, by decide, by decide +kernel, zT1 30 (by decide +kernel) rfl, rfl⟩
theorem zti_X7 : Cond.code yX7_init cX7_init 1 none ∈ zT ∧ Cond.initialized yX7_init.cls ∈ zT ∧ 1 ≤ 80 ∧ (yX7_init.cls ≠ "java/lang/invoke/MethodHandle" ∧ yX7_init.cls ≠ "java/lang/invoke/VarHandle" ∧ (parseMethodDescriptor yX7_init.desc).map (fun d => d.parameters.length) = some 0) ∧ Cond.instanceMethod yX7_init ∈ zT ∧ yX7_init.name = "<init>" := ⟨zT1 39 (by decide +kernel) rfl, zT1 2 (by decide +kernel) rfl, by decide, by decide +kernel, zT1 38 (by decide +kernel) rfl, rfl⟩
theorem zti_X4 : Cond.code yX4_init cX4_init 1 none ∈ zT ∧ Cond.initialized yX4_init.cls ∈ zT ∧ 1 ≤ 80 ∧ (yX4_init.cls ≠ "java/lang/invoke/MethodHandle" ∧ yX4_init.cls ≠ "java/lang/invoke/VarHandle" ∧ (parseMethodDescriptor yX4_init.desc).map (fun d => d.parameters.length) = some 0) ∧ Cond.instanceMethod yX4_init ∈ zT ∧ yX4_init.name = "<init>" := ⟨zT1 45 (by decide +kernel) rfl, zT1 3 (by decide +kernel) rfl, by decide, by decide +kernel, zT1 44 (by decide +kernel) rfl, rfl⟩
theorem zti_X2 : Cond.code yX2_init cX2_init 1 none ∈ zT ∧ Cond.initialized yX2_init.cls ∈ zT ∧ 1 ≤ 80 ∧ (yX2_init.cls ≠ "java/lang/invoke/MethodHandle" ∧ yX2_init.cls ≠ "java/lang/invoke/VarHandle" ∧ (parseMethodDescriptor yX2_init.desc).map (fun d => d.parameters.length) = some 0) ∧ Cond.instanceMethod yX2_init ∈ zT ∧ yX2_init.name = "<init>" := ⟨zT1 110 (by decide +kernel) rfl, zT1 4 (by decide +kernel) rfl, by decide, by decide +kernel, zT1 109 (by decide +kernel) rfl, rfl⟩
theorem zti_X6 : Cond.code yX6_init cX6_init 1 none ∈ zT ∧ Cond.initialized yX6_init.cls ∈ zT ∧ 1 ≤ 80 ∧ (yX6_init.cls ≠ "java/lang/invoke/MethodHandle" ∧ yX6_init.cls ≠ "java/lang/invoke/VarHandle" ∧ (parseMethodDescriptor yX6_init.desc).map (fun d => d.parameters.length) = some 0) ∧ Cond.instanceMethod yX6_init ∈ zT ∧ yX6_init.name = "<init>" := ⟨zT1 161 (by decide +kernel) rfl, zT1 5 (by decide +kernel) rfl, by decide, by decide +kernel, zT1 160 (by decide +kernel) rfl, rfl⟩
theorem zti_X8 : Cond.code yX8_init cX8_init 1 none ∈ zT ∧ Cond.initialized yX8_init.cls ∈ zT ∧ 1 ≤ 80 ∧ (yX8_init.cls ≠ "java/lang/invoke/MethodHandle" ∧ yX8_init.cls ≠ "java/lang/invoke/VarHandle" ∧ (parseMethodDescriptor yX8_init.desc).map (fun d => d.parameters.length) = some 0) ∧ Cond.instanceMethod yX8_init ∈ zT ∧ yX8_init.name = "<init>" := ⟨zT1 236 (by decide +kernel) rfl, zT1 6 (by decide +kernel) rfl, by decide, by decide +kernel, zT1 235 (by decide +kernel) rfl, rfl⟩
theorem zti_X3 : Cond.code yX3_init cX3_init 1 none ∈ zT ∧ Cond.initialized yX3_init.cls ∈ zT ∧ 1 ≤ 80 ∧ (yX3_init.cls ≠ "java/lang/invoke/MethodHandle" ∧ yX3_init.cls ≠ "java/lang/invoke/VarHandle" ∧ (parseMethodDescriptor yX3_init.desc).map (fun d => d.parameters.length) = some 0) ∧ Cond.instanceMethod yX3_init ∈ zT ∧ yX3_init.name = "<init>" := ⟨zT2 46 (by decide +kernel) rfl, zT1 7 (by decide +kernel) rfl, by decide, by decide +kernel, zT2 45 (by decide +kernel) rfl, rfl⟩
theorem zti_X0 : Cond.code yX0_init cX0_init 1 none ∈ zT ∧ Cond.initialized yX0_init.cls ∈ zT ∧ 1 ≤ 80 ∧ (yX0_init.cls ≠ "java/lang/invoke/MethodHandle" ∧ yX0_init.cls ≠ "java/lang/invoke/VarHandle" ∧ (parseMethodDescriptor yX0_init.desc).map (fun d => d.parameters.length) = some 0) ∧ Cond.instanceMethod yX0_init ∈ zT ∧ yX0_init.name = "<init>" := ⟨zT2 77 (by decide +kernel) rfl, zT1 8 (by decide +kernel) rfl, by decide, by decide +kernel, zT2 76 (by decide +kernel) rfl, rfl⟩
theorem zti_X5 : Cond.code yX5_init cX5_init 1 none ∈ zT ∧ Cond.initialized yX5_init.cls ∈ zT ∧ 1 ≤ 80 ∧ (yX5_init.cls ≠ "java/lang/invoke/MethodHandle" ∧ yX5_init.cls ≠ "java/lang/invoke/VarHandle" ∧ (parseMethodDescriptor yX5_init.desc).map (fun d => d.parameters.length) = some 0) ∧ Cond.instanceMethod yX5_init ∈ zT ∧ yX5_init.name = "<init>" := ⟨zT2 130 (by decide +kernel) rfl, zT1 9 (by decide +kernel) rfl, by decide, by decide +kernel, zT2 129 (by decide +kernel) rfl, rfl⟩
theorem zti_X11 : Cond.code yX11_init cX11_init 1 none ∈ zT ∧ Cond.initialized yX11_init.cls ∈ zT ∧ 1 ≤ 80 ∧ (yX11_init.cls ≠ "java/lang/invoke/MethodHandle" ∧ yX11_init.cls ≠ "java/lang/invoke/VarHandle" ∧ (parseMethodDescriptor yX11_init.desc).map (fun d => d.parameters.length) = some 0) ∧ Cond.instanceMethod yX11_init ∈ zT ∧ yX11_init.name = "<init>" := ⟨zT6 116 (by decide +kernel) rfl, zT1 10 (by decide +kernel) rfl, by decide, by decide +kernel, zT6 115 (by decide +kernel) rfl, rfl⟩
def bX7 (c lc : Nat) (M : zM) : zM := (zw (zw (bX4 lc (zw M c 1 (-1))) c 2 (nI lc)) c 3 1)
set_option maxHeartbeats 1000000 in
theorem zc_X7init (l : Launch) (G : zG) (M : zM) (base cnt c lc : Nat) (hc : zOb 6 c) (hlo : zOb 3 lc) (hh : zHas cnt c) (hq0 : zOrdL[cnt]? = some lc) (hq1 : ∀ i, i < 7 → zOrdL[cnt + 1 + i]? = some (lc + 1 + [1, 2, 3, 4, 5, 6, 7].getD i 0)) (hq2 : zOrdL[cnt + 8]? = some (c + 1 + 3)) (hcl : c + 20 < lc ∧ lc < 1000) (hz : ∀ x, c < x → x ≤ c + 8 → ∀ k, M.1 x k = 0) (hzl : ∀ x, lc ≤ x → x ≤ lc + 8 → ∀ k, M.1 x k = 0) (hle : cnt + 9 ≤ 402) : zCB l G base 1 9 819 yX7_init cX7_init 1 [.ref c] cnt M (cnt + 9) (bX7 c lc M) := by
  refine zCB_of (by decide) (Nat.le_of_ble_eq_true rfl) (fun X Q hQ hX hl hR hr hnm hNe hsz => ?_)
  show zB G X Q base cnt 1 0 0 0 [.ref c] [] M
  refine zB_aload_n hX dX7_init_0 rfl ?_
  refine zB_obj hX hR zoi_X7_3 dX7_init_1 (Nat.le_of_ble_eq_true rfl) ?_
  refine zB_aload_n hX dX7_init_4 rfl ?_
  refine zB_iconst hX (v := (-1)) dX7_init_5 (by decide) ?_
  refine zB_puti hX dX7_init_6 zf_X7_9 zp_6_1 hh hc.1 rfl ?_
  refine zB_aload_n hX dX7_init_9 rfl ?_
  refine zB_newo hX hR (N := 8) zdf_3 zcn_X7_15 dX7_init_10 (hq0) (hlo.1) (by intro k; (try simp only [zw]); (repeat rw [if_neg (by omega)]); exact hzl _ (by omega) (by omega) k) ⟨by omega, by omega⟩ ⟨by decide, by decide⟩ ?_
  refine zB_dup hX dX7_init_13 rfl ?_
  refine zB_init hX hNe hR (by decide) hl (zc_X4init l G _ base (cnt + 1) lc hlo (zHas.of hq0 (by omega)) hq1 (by intro x h1 h2 k; (try simp only [zw]); (repeat rw [if_neg (by omega)]); exact hzl x (by omega) (by omega) k) (by omega)) zti_X4 (host := "OralOrders") (by decide +kernel) dX7_init_14 (Nat.le_of_ble_eq_true rfl) ⟨by omega, by omega⟩ ⟨by decide, by decide⟩ ?_
  refine zB_putp hX dX7_init_17 zf_X7_18 zp_6_2 (hh.lt (by omega)) hc.1 rfl ⟨by omega, by omega⟩ ?_
  refine zB_aload_n hX dX7_init_20 rfl ?_
  refine zB_sipush hX (v := nI 300) dX7_init_21 (by decide) ?_
  refine zB_newI hX hR (c := c + 1 + 3) (n := 300) dX7_init_24 (hq2) (hc.a 3 rfl) (by intro k; (try simp only [zw, bX4]); (repeat rw [if_neg (by omega)]); exact hz _ (by omega) (by omega) k) (by decide) ⟨by omega, by omega⟩ ⟨by decide, by decide⟩ ?_
  refine zB_puta hX hnm dX7_init_26 zf_X7_22 zpF_6_3 (hh.lt (by omega)) hc.1 rfl ?_
  exact zB_last hX hQ rfl rfl hr ⟨by decide, by decide⟩ dX7_init_29
def bX2 (c lc : Nat) (M : zM) : zM := (zw (zw (bX4 lc M) c 3 (nI lc)) c 4 1)
set_option maxHeartbeats 1000000 in
theorem zc_X2init (l : Launch) (G : zG) (M : zM) (base cnt c lc : Nat) (hc : zOb 1 c) (hlo : zOb 3 lc) (hh : zHas cnt c) (hq0 : zOrdL[cnt]? = some lc) (hq1 : ∀ i, i < 7 → zOrdL[cnt + 1 + i]? = some (lc + 1 + [1, 2, 3, 4, 5, 6, 7].getD i 0)) (hq2 : zOrdL[cnt + 8]? = some (c + 1 + 4)) (hcl : c + 20 < lc ∧ lc < 1000) (hz : ∀ x, c < x → x ≤ c + 5 → ∀ k, M.1 x k = 0) (hzl : ∀ x, lc ≤ x → x ≤ lc + 8 → ∀ k, M.1 x k = 0) (hle : cnt + 9 ≤ 402) : zCB l G base 1 9 526 yX2_init cX2_init 1 [.ref c] cnt M (cnt + 9) (bX2 c lc M) := by
  refine zCB_of (by decide) (Nat.le_of_ble_eq_true rfl) (fun X Q hQ hX hl hR hr hnm hNe hsz => ?_)
  show zB G X Q base cnt 1 0 0 0 [.ref c] [] M
  refine zB_aload_n hX dX2_init_0 rfl ?_
  refine zB_obj hX hR zoi_X2_3 dX2_init_1 (Nat.le_of_ble_eq_true rfl) ?_
  refine zB_aload_n hX dX2_init_4 rfl ?_
  refine zB_newo hX hR (N := 8) zdf_3 zcn_X2_9 dX2_init_5 (hq0) (hlo.1) (by intro k; (try simp only [zw]); (repeat rw [if_neg (by omega)]); exact hzl _ (by omega) (by omega) k) ⟨by omega, by omega⟩ ⟨by decide, by decide⟩ ?_
  refine zB_dup hX dX2_init_8 rfl ?_
  refine zB_init hX hNe hR (by decide) hl (zc_X4init l G _ base (cnt + 1) lc hlo (zHas.of hq0 (by omega)) hq1 (by intro x h1 h2 k; (try simp only [zw]); (repeat rw [if_neg (by omega)]); exact hzl x (by omega) (by omega) k) (by omega)) zti_X4 (host := "OralOrders") (by decide +kernel) dX2_init_9 (Nat.le_of_ble_eq_true rfl) ⟨by omega, by omega⟩ ⟨by decide, by decide⟩ ?_
  refine zB_putp hX dX2_init_12 zf_X2_12 zp_1_3 (hh.lt (by omega)) hc.1 rfl ⟨by omega, by omega⟩ ?_
  refine zB_aload_n hX dX2_init_15 rfl ?_
  refine zB_bipush hX (v := nI 7) dX2_init_16 (by decide) ?_
  refine zB_newI hX hR (c := c + 1 + 4) (n := 7) dX2_init_18 (hq2) (hc.a 4 rfl) (by intro k; (try simp only [zw, bX4]); (repeat rw [if_neg (by omega)]); exact hz _ (by omega) (by omega) k) (by decide) ⟨by omega, by omega⟩ ⟨by decide, by decide⟩ ?_
  refine zB_puta hX hnm dX2_init_20 zf_X2_18 zpF_1_4 (hh.lt (by omega)) hc.1 rfl ?_
  exact zB_last hX hQ rfl rfl hr ⟨by decide, by decide⟩ dX2_init_23
end zBuild4
