section zBuild8
variable {G : zG} {X : zX} {Q : State → Prop} {own : String} {cc : ByteArray} {base cnt nL cells slots pc : Nat} {L S : List Value} {M : zM}
def zZr (l : List Nat) (M : zM) : Prop := ∀ x, x ∉ l → ∀ k, M.1 x k = 0
theorem zZr.w {l : List Nat} {M : zM} (h : zZr l M) {c k : Nat} {v : Int32} (hc : c ∈ l) : zZr l (zw M c k v) := fun x hx j => (zw_ne (Or.inl (fun e => hx (by rw [e]; exact hc)))).trans (h x hx j)
theorem zZr.c {l : List Nat} {M : zM} (h : zZr l M) (c : Nat) : zZr (c :: l) M := fun x hx j => h x (fun e => hx (List.mem_cons_of_mem _ e)) j
theorem zZr.mono {l l2 : List Nat} {M : zM} (h : zZr l M) (hs : ∀ x, x ∈ l → x ∈ l2) : zZr l2 M := fun x hx j => h x (fun e => hx (hs x e)) j
/-- nothing yet -/
def mZero : zM := (fun _ _ => 0, fun _ _ => 0)
theorem mZero_r : zZr [] mZero := fun _ _ _ => rfl
theorem zZr_X4 {l : List Nat} {M : zM} (h : zZr l M) (c : Nat) : zZr (c :: l) (bX4 c M) := by
  unfold bX4
  (repeat refine zZr.w ?_ (List.mem_cons_self))
  exact h.c c
theorem zZr_X6 {l : List Nat} {M : zM} (h : zZr l M) (c : Nat) : zZr (c :: l) (bX6 c M) := by
  unfold bX6
  (repeat refine zZr.w ?_ (List.mem_cons_self))
  exact h.c c
theorem zZr_X8 {l : List Nat} {M : zM} (h : zZr l M) (c : Nat) : zZr (c :: l) (bX8 c M) := by
  unfold bX8
  (repeat refine zZr.w ?_ (List.mem_cons_self))
  exact h.c c
theorem zZr_X3 {l : List Nat} {M : zM} (h : zZr l M) (c : Nat) : zZr (c :: l) (bX3 c M) := by
  unfold bX3
  (repeat refine zZr.w ?_ (List.mem_cons_self))
  exact h.c c
theorem zZr_X0 {l : List Nat} {M : zM} (h : zZr l M) (c : Nat) : zZr (c :: l) (bX0 c M) := by
  unfold bX0
  (repeat refine zZr.w ?_ (List.mem_cons_self))
  exact h.c c
theorem zZr_X5 {l : List Nat} {M : zM} (h : zZr l M) (c : Nat) : zZr (c :: l) (bX5 c M) := by
  unfold bX5
  (repeat refine zZr.w ?_ (List.mem_cons_self))
  exact h.c c
theorem zZr_X7 {l : List Nat} {M : zM} (h : zZr l M) (c lc : Nat) : zZr (c :: lc :: l) (bX7 c lc M) := by
  unfold bX7
  (repeat refine zZr.w ?_ (List.mem_cons_self))
  first | exact (zZr_X4 h lc).c c | exact (zZr_X4 ((h.c c).w (List.mem_cons_self)) lc).mono (fun x hx => by simp only [List.mem_cons] at hx ⊢; rcases hx with h | h | h; exact Or.inr (Or.inl h); exact Or.inl h; exact Or.inr (Or.inr h))
theorem zZr_X2 {l : List Nat} {M : zM} (h : zZr l M) (c lc : Nat) : zZr (c :: lc :: l) (bX2 c lc M) := by
  unfold bX2
  (repeat refine zZr.w ?_ (List.mem_cons_self))
  first | exact (zZr_X4 h lc).c c | exact (zZr_X4 ((h.c c).w (List.mem_cons_self)) lc).mono (fun x hx => by simp only [List.mem_cons] at hx ⊢; rcases hx with h | h | h; exact Or.inr (Or.inl h); exact Or.inl h; exact Or.inr (Or.inr h))
/-- the memory when the class has been built -/
def mFace : zM := (gBegin 40 180 4 1 (zw (zw (bX5 170 (zw (bX0 150 (zw (bX3 140 (zw (bX8 120 (zw (bX6 90 (zw (bX6 60 (zw (bX2 50 190 (zw (bX2 40 180 (zw (bX7 20 200 mZero) 0 0 1)) 0 1 1)) 0 2 1)) 0 3 1)) 0 4 1)) 0 5 1)) 0 6 1)) 0 7 1)) 0 8 1) 0 9 1))
set_option maxHeartbeats 4000000 in
theorem zc_X10init (l : Launch) (G : zG) (base : Nat) : zCB l G base 2 85 5108 yX10_init cX10_init 1 [.ref 0] 1 mZero 86 mFace := by
  refine zCB_of (by decide) (Nat.le_of_ble_eq_true rfl) (fun X Q hQ hX hl hR hr hnm hNe hsz => ?_)
  show zB G X Q base 1 1 0 0 0 [.ref 0] [] mZero
  have r0 := mZero_r
  refine zB_aload_n hX dX10_init_0 rfl ?_
  refine zB_obj hX hR zoi_X10_1 dX10_init_1 (Nat.le_of_ble_eq_true rfl) ?_
  refine zB_aload_n hX dX10_init_4 rfl ?_
  refine zB_newo hX hR (c := 20) (N := 8) zdf_6 zcn_X10_7 dX10_init_5 (by decide +kernel) (by decide +kernel) (r0 20 (by decide)) ⟨by omega, by omega⟩ ⟨by decide, by decide⟩ ?_
  refine zB_dup hX dX10_init_8 rfl ?_
  refine zB_init hX hNe hR (by decide) hl (zc_X7init l G _ base _ 20 200 (zOb_of (by decide +kernel) (by decide +kernel) : zOb 6 20) (zOb_of (by decide +kernel) (by decide +kernel) : zOb 3 200) ⟨1, by decide +kernel, by decide⟩ (by decide +kernel) (by decide +kernel) (by decide +kernel) ⟨by decide, by decide⟩ (fun x h1 h2 => r0 x (by first | exact List.not_mem_nil | (simp only [List.mem_cons, List.not_mem_nil, or_false]; omega))) (fun x h1 h2 => r0 x (by first | exact List.not_mem_nil | (simp only [List.mem_cons, List.not_mem_nil, or_false]; omega))) (by decide)) zti_X7 (host := "OralOrders") (by decide +kernel) dX10_init_9 (Nat.le_of_ble_eq_true rfl) ⟨by omega, by omega⟩ ⟨by decide, by decide⟩ ?_
  have r1 : zZr [20, 200] (bX7 20 200 mZero) := zZr_X7 r0 20 200
  refine zB_putc hX hnm dX10_init_12 zf_X10_10 zpF_8_0 ⟨0, by decide +kernel, by decide⟩ (by decide +kernel) rfl ?_
  have r2 : zZr [0, 20, 200] (zw (bX7 20 200 mZero) 0 0 1) := (r1.c 0).w (by decide)
  refine zB_aload_n hX dX10_init_15 rfl ?_
  refine zB_newo hX hR (c := 40) (N := 5) zdf_1 zcn_X10_16 dX10_init_16 (by decide +kernel) (by decide +kernel) (r2 40 (by decide)) ⟨by omega, by omega⟩ ⟨by decide, by decide⟩ ?_
  refine zB_dup hX dX10_init_19 rfl ?_
  refine zB_init hX hNe hR (by decide) hl (zc_X2init l G _ base _ 40 180 (zOb_of (by decide +kernel) (by decide +kernel) : zOb 1 40) (zOb_of (by decide +kernel) (by decide +kernel) : zOb 3 180) ⟨11, by decide +kernel, by decide⟩ (by decide +kernel) (by decide +kernel) (by decide +kernel) ⟨by decide, by decide⟩ (fun x h1 h2 => r2 x (by first | exact List.not_mem_nil | (simp only [List.mem_cons, List.not_mem_nil, or_false]; omega))) (fun x h1 h2 => r2 x (by first | exact List.not_mem_nil | (simp only [List.mem_cons, List.not_mem_nil, or_false]; omega))) (by decide)) zti_X2 (host := "OralOrders") (by decide +kernel) dX10_init_20 (Nat.le_of_ble_eq_true rfl) ⟨by omega, by omega⟩ ⟨by decide, by decide⟩ ?_
  have r3 : zZr [40, 180, 0, 20, 200] (bX2 40 180 (zw (bX7 20 200 mZero) 0 0 1)) := zZr_X2 r2 40 180
  refine zB_putc hX hnm dX10_init_23 zf_X10_19 zpF_8_1 ⟨0, by decide +kernel, by decide⟩ (by decide +kernel) rfl ?_
  have r4 : zZr [40, 180, 0, 20, 200] (zw (bX2 40 180 (zw (bX7 20 200 mZero) 0 0 1)) 0 1 1) := r3.w (by decide)
  refine zB_aload_n hX dX10_init_26 rfl ?_
  refine zB_newo hX hR (c := 50) (N := 5) zdf_1 zcn_X10_16 dX10_init_27 (by decide +kernel) (by decide +kernel) (r4 50 (by decide)) ⟨by omega, by omega⟩ ⟨by decide, by decide⟩ ?_
  refine zB_dup hX dX10_init_30 rfl ?_
  refine zB_init hX hNe hR (by decide) hl (zc_X2init l G _ base _ 50 190 (zOb_of (by decide +kernel) (by decide +kernel) : zOb 1 50) (zOb_of (by decide +kernel) (by decide +kernel) : zOb 3 190) ⟨21, by decide +kernel, by decide⟩ (by decide +kernel) (by decide +kernel) (by decide +kernel) ⟨by decide, by decide⟩ (fun x h1 h2 => r4 x (by first | exact List.not_mem_nil | (simp only [List.mem_cons, List.not_mem_nil, or_false]; omega))) (fun x h1 h2 => r4 x (by first | exact List.not_mem_nil | (simp only [List.mem_cons, List.not_mem_nil, or_false]; omega))) (by decide)) zti_X2 (host := "OralOrders") (by decide +kernel) dX10_init_31 (Nat.le_of_ble_eq_true rfl) ⟨by omega, by omega⟩ ⟨by decide, by decide⟩ ?_
  have r5 : zZr [50, 190, 40, 180, 0, 20, 200] (bX2 50 190 (zw (bX2 40 180 (zw (bX7 20 200 mZero) 0 0 1)) 0 1 1)) := zZr_X2 r4 50 190
  refine zB_putc hX hnm dX10_init_34 zf_X10_23 zpF_8_2 ⟨0, by decide +kernel, by decide⟩ (by decide +kernel) rfl ?_
  have r6 : zZr [50, 190, 40, 180, 0, 20, 200] (zw (bX2 50 190 (zw (bX2 40 180 (zw (bX7 20 200 mZero) 0 0 1)) 0 1 1)) 0 2 1) := r5.w (by decide)
  refine zB_aload_n hX dX10_init_37 rfl ?_
  refine zB_newo hX hR (c := 60) (N := 20) zdf_5 zcn_X10_26 dX10_init_38 (by decide +kernel) (by decide +kernel) (r6 60 (by decide)) ⟨by omega, by omega⟩ ⟨by decide, by decide⟩ ?_
  refine zB_dup hX dX10_init_41 rfl ?_
  refine zB_init hX hNe hR (by decide) hl (zc_X6init l G _ base _ 60 (zOb_of (by decide +kernel) (by decide +kernel) : zOb 5 60) ⟨31, by decide +kernel, by decide⟩ (by decide +kernel) (fun x h1 h2 => r6 x (by first | exact List.not_mem_nil | (simp only [List.mem_cons, List.not_mem_nil, or_false]; omega))) (by decide)) zti_X6 (host := "OralOrders") (by decide +kernel) dX10_init_42 (Nat.le_of_ble_eq_true rfl) ⟨by omega, by omega⟩ ⟨by decide, by decide⟩ ?_
  have r7 : zZr [60, 50, 190, 40, 180, 0, 20, 200] (bX6 60 (zw (bX2 50 190 (zw (bX2 40 180 (zw (bX7 20 200 mZero) 0 0 1)) 0 1 1)) 0 2 1)) := zZr_X6 r6 60
  refine zB_putc hX hnm dX10_init_45 zf_X10_29 zpF_8_3 ⟨0, by decide +kernel, by decide⟩ (by decide +kernel) rfl ?_
  have r8 : zZr [60, 50, 190, 40, 180, 0, 20, 200] (zw (bX6 60 (zw (bX2 50 190 (zw (bX2 40 180 (zw (bX7 20 200 mZero) 0 0 1)) 0 1 1)) 0 2 1)) 0 3 1) := r7.w (by decide)
  refine zB_aload_n hX dX10_init_48 rfl ?_
  refine zB_newo hX hR (c := 90) (N := 20) zdf_5 zcn_X10_26 dX10_init_49 (by decide +kernel) (by decide +kernel) (r8 90 (by decide)) ⟨by omega, by omega⟩ ⟨by decide, by decide⟩ ?_
  refine zB_dup hX dX10_init_52 rfl ?_
  refine zB_init hX hNe hR (by decide) hl (zc_X6init l G _ base _ 90 (zOb_of (by decide +kernel) (by decide +kernel) : zOb 5 90) ⟨44, by decide +kernel, by decide⟩ (by decide +kernel) (fun x h1 h2 => r8 x (by first | exact List.not_mem_nil | (simp only [List.mem_cons, List.not_mem_nil, or_false]; omega))) (by decide)) zti_X6 (host := "OralOrders") (by decide +kernel) dX10_init_53 (Nat.le_of_ble_eq_true rfl) ⟨by omega, by omega⟩ ⟨by decide, by decide⟩ ?_
  have r9 : zZr [90, 60, 50, 190, 40, 180, 0, 20, 200] (bX6 90 (zw (bX6 60 (zw (bX2 50 190 (zw (bX2 40 180 (zw (bX7 20 200 mZero) 0 0 1)) 0 1 1)) 0 2 1)) 0 3 1)) := zZr_X6 r8 90
  refine zB_putc hX hnm dX10_init_56 zf_X10_33 zpF_8_4 ⟨0, by decide +kernel, by decide⟩ (by decide +kernel) rfl ?_
  have r10 : zZr [90, 60, 50, 190, 40, 180, 0, 20, 200] (zw (bX6 90 (zw (bX6 60 (zw (bX2 50 190 (zw (bX2 40 180 (zw (bX7 20 200 mZero) 0 0 1)) 0 1 1)) 0 2 1)) 0 3 1)) 0 4 1) := r9.w (by decide)
  refine zB_aload_n hX dX10_init_59 rfl ?_
  refine zB_newo hX hR (c := 120) (N := 12) zdf_7 zcn_X10_36 dX10_init_60 (by decide +kernel) (by decide +kernel) (r10 120 (by decide)) ⟨by omega, by omega⟩ ⟨by decide, by decide⟩ ?_
  refine zB_dup hX dX10_init_63 rfl ?_
  refine zB_init hX hNe hR (by decide) hl (zc_X8init l G _ base _ 120 (zOb_of (by decide +kernel) (by decide +kernel) : zOb 7 120) ⟨57, by decide +kernel, by decide⟩ (by decide +kernel) (fun x h1 h2 => r10 x (by first | exact List.not_mem_nil | (simp only [List.mem_cons, List.not_mem_nil, or_false]; omega))) (by decide)) zti_X8 (host := "OralOrders") (by decide +kernel) dX10_init_64 (Nat.le_of_ble_eq_true rfl) ⟨by omega, by omega⟩ ⟨by decide, by decide⟩ ?_
  have r11 : zZr [120, 90, 60, 50, 190, 40, 180, 0, 20, 200] (bX8 120 (zw (bX6 90 (zw (bX6 60 (zw (bX2 50 190 (zw (bX2 40 180 (zw (bX7 20 200 mZero) 0 0 1)) 0 1 1)) 0 2 1)) 0 3 1)) 0 4 1)) := zZr_X8 r10 120
  refine zB_putc hX hnm dX10_init_67 zf_X10_39 zpF_8_5 ⟨0, by decide +kernel, by decide⟩ (by decide +kernel) rfl ?_
  have r12 : zZr [120, 90, 60, 50, 190, 40, 180, 0, 20, 200] (zw (bX8 120 (zw (bX6 90 (zw (bX6 60 (zw (bX2 50 190 (zw (bX2 40 180 (zw (bX7 20 200 mZero) 0 0 1)) 0 1 1)) 0 2 1)) 0 3 1)) 0 4 1)) 0 5 1) := r11.w (by decide)
  refine zB_aload_n hX dX10_init_70 rfl ?_
  refine zB_newo hX hR (c := 140) (N := 7) zdf_2 zcn_X10_43 dX10_init_71 (by decide +kernel) (by decide +kernel) (r12 140 (by decide)) ⟨by omega, by omega⟩ ⟨by decide, by decide⟩ ?_
  refine zB_dup hX dX10_init_74 rfl ?_
  refine zB_init hX hNe hR (by decide) hl (zc_X3init l G _ base _ 140 (zOb_of (by decide +kernel) (by decide +kernel) : zOb 2 140) ⟨65, by decide +kernel, by decide⟩ (by decide +kernel) (fun x h1 h2 => r12 x (by first | exact List.not_mem_nil | (simp only [List.mem_cons, List.not_mem_nil, or_false]; omega))) (by decide)) zti_X3 (host := "OralOrders") (by decide +kernel) dX10_init_75 (Nat.le_of_ble_eq_true rfl) ⟨by omega, by omega⟩ ⟨by decide, by decide⟩ ?_
  have r13 : zZr [140, 120, 90, 60, 50, 190, 40, 180, 0, 20, 200] (bX3 140 (zw (bX8 120 (zw (bX6 90 (zw (bX6 60 (zw (bX2 50 190 (zw (bX2 40 180 (zw (bX7 20 200 mZero) 0 0 1)) 0 1 1)) 0 2 1)) 0 3 1)) 0 4 1)) 0 5 1)) := zZr_X3 r12 140
  refine zB_putc hX hnm dX10_init_78 zf_X10_46 zpF_8_6 ⟨0, by decide +kernel, by decide⟩ (by decide +kernel) rfl ?_
  have r14 : zZr [140, 120, 90, 60, 50, 190, 40, 180, 0, 20, 200] (zw (bX3 140 (zw (bX8 120 (zw (bX6 90 (zw (bX6 60 (zw (bX2 50 190 (zw (bX2 40 180 (zw (bX7 20 200 mZero) 0 0 1)) 0 1 1)) 0 2 1)) 0 3 1)) 0 4 1)) 0 5 1)) 0 6 1) := r13.w (by decide)
  refine zB_aload_n hX dX10_init_81 rfl ?_
  refine zB_newo hX hR (c := 150) (N := 13) zdf_0 zcn_X10_50 dX10_init_82 (by decide +kernel) (by decide +kernel) (r14 150 (by decide)) ⟨by omega, by omega⟩ ⟨by decide, by decide⟩ ?_
  refine zB_dup hX dX10_init_85 rfl ?_
  refine zB_init hX hNe hR (by decide) hl (zc_X0init l G _ base _ 150 (zOb_of (by decide +kernel) (by decide +kernel) : zOb 0 150) ⟨71, by decide +kernel, by decide⟩ (by decide +kernel) (fun x h1 h2 => r14 x (by first | exact List.not_mem_nil | (simp only [List.mem_cons, List.not_mem_nil, or_false]; omega))) (by decide)) zti_X0 (host := "OralOrders") (by decide +kernel) dX10_init_86 (Nat.le_of_ble_eq_true rfl) ⟨by omega, by omega⟩ ⟨by decide, by decide⟩ ?_
  have r15 : zZr [150, 140, 120, 90, 60, 50, 190, 40, 180, 0, 20, 200] (bX0 150 (zw (bX3 140 (zw (bX8 120 (zw (bX6 90 (zw (bX6 60 (zw (bX2 50 190 (zw (bX2 40 180 (zw (bX7 20 200 mZero) 0 0 1)) 0 1 1)) 0 2 1)) 0 3 1)) 0 4 1)) 0 5 1)) 0 6 1)) := zZr_X0 r14 150
  refine zB_putc hX hnm dX10_init_89 zf_X10_53 zpF_8_7 ⟨0, by decide +kernel, by decide⟩ (by decide +kernel) rfl ?_
  have r16 : zZr [150, 140, 120, 90, 60, 50, 190, 40, 180, 0, 20, 200] (zw (bX0 150 (zw (bX3 140 (zw (bX8 120 (zw (bX6 90 (zw (bX6 60 (zw (bX2 50 190 (zw (bX2 40 180 (zw (bX7 20 200 mZero) 0 0 1)) 0 1 1)) 0 2 1)) 0 3 1)) 0 4 1)) 0 5 1)) 0 6 1)) 0 7 1) := r15.w (by decide)
  refine zB_aload_n hX dX10_init_92 rfl ?_
  refine zB_newo hX hR (c := 170) (N := 3) zdf_4 zcn_X10_57 dX10_init_93 (by decide +kernel) (by decide +kernel) (r16 170 (by decide)) ⟨by omega, by omega⟩ ⟨by decide, by decide⟩ ?_
  refine zB_dup hX dX10_init_96 rfl ?_
  refine zB_init hX hNe hR (by decide) hl (zc_X5init l G _ base _ 170 (zOb_of (by decide +kernel) (by decide +kernel) : zOb 4 170) ⟨81, by decide +kernel, by decide⟩ (by decide +kernel) (fun x h1 h2 => r16 x (by first | exact List.not_mem_nil | (simp only [List.mem_cons, List.not_mem_nil, or_false]; omega))) (by decide)) zti_X5 (host := "OralOrders") (by decide +kernel) dX10_init_97 (Nat.le_of_ble_eq_true rfl) ⟨by omega, by omega⟩ ⟨by decide, by decide⟩ ?_
  have r17 : zZr [170, 150, 140, 120, 90, 60, 50, 190, 40, 180, 0, 20, 200] (bX5 170 (zw (bX0 150 (zw (bX3 140 (zw (bX8 120 (zw (bX6 90 (zw (bX6 60 (zw (bX2 50 190 (zw (bX2 40 180 (zw (bX7 20 200 mZero) 0 0 1)) 0 1 1)) 0 2 1)) 0 3 1)) 0 4 1)) 0 5 1)) 0 6 1)) 0 7 1)) := zZr_X5 r16 170
  refine zB_putc hX hnm dX10_init_100 zf_X10_60 zpF_8_8 ⟨0, by decide +kernel, by decide⟩ (by decide +kernel) rfl ?_
  have r18 : zZr [170, 150, 140, 120, 90, 60, 50, 190, 40, 180, 0, 20, 200] (zw (bX5 170 (zw (bX0 150 (zw (bX3 140 (zw (bX8 120 (zw (bX6 90 (zw (bX6 60 (zw (bX2 50 190 (zw (bX2 40 180 (zw (bX7 20 200 mZero) 0 0 1)) 0 1 1)) 0 2 1)) 0 3 1)) 0 4 1)) 0 5 1)) 0 6 1)) 0 7 1)) 0 8 1) := r17.w (by decide)
  refine zB_aload_n hX dX10_init_103 rfl ?_
  refine zB_bipush hX (v := nI 7) dX10_init_104 (by decide) ?_
  refine zB_newI hX hR (c := 0 + 1 + 9) (n := 7) dX10_init_106 (by decide +kernel) (by decide +kernel) (r18 _ (by decide)) (by decide) ⟨by omega, by omega⟩ ⟨by decide, by decide⟩ ?_
  refine zB_puta hX hnm dX10_init_108 zf_X10_64 zpF_8_9 ⟨0, by decide +kernel, by decide⟩ (by decide +kernel) rfl ?_
  have r19 : zZr [170, 150, 140, 120, 90, 60, 50, 190, 40, 180, 0, 20, 200] (zw (zw (bX5 170 (zw (bX0 150 (zw (bX3 140 (zw (bX8 120 (zw (bX6 90 (zw (bX6 60 (zw (bX2 50 190 (zw (bX2 40 180 (zw (bX7 20 200 mZero) 0 0 1)) 0 1 1)) 0 2 1)) 0 3 1)) 0 4 1)) 0 5 1)) 0 6 1)) 0 7 1)) 0 8 1) 0 9 1) := r18.w (by decide)
  refine zB_aload_n hX dX10_init_111 rfl ?_
  refine zB_getc hX (a := 40) dX10_init_112 zf_X10_19 ⟨0, by decide +kernel, by decide⟩ (by decide +kernel) rfl (by decide +kernel) ?_
  refine zB_iconst hX (v := nI 4) dX10_init_115 (by decide) ?_
  refine zB_iconst hX (v := nI 1) dX10_init_116 (by decide) ?_
  refine zB_callV (As := [.int (nI 4), .int (nI 1)]) hX hNe hR (by decide) hl (zCB_begin l G _ base _ 40 180 4 1 (zOb_of (by decide +kernel) (by decide +kernel) : zOb 1 40) (zOb_of (by decide +kernel) (by decide +kernel) : zOb 3 180) ⟨11, by decide +kernel, by decide⟩ ⟨20, by decide +kernel, by decide⟩ ⟨12, by decide +kernel, by decide⟩ ⟨13, by decide +kernel, by decide⟩ (by decide +kernel) (by decide +kernel) (by decide) (by decide +kernel) (by decide)) zt_X2_begin zml_X10_68 ⟨11, by decide +kernel, by decide⟩ (by decide +kernel) (by decide) rfl (Nat.le_of_ble_eq_true rfl) dX10_init_117 ⟨by omega, by omega⟩ ⟨by decide, by decide⟩ ?_
  exact zB_last hX hQ rfl rfl hr ⟨by decide, by decide⟩ dX10_init_120
end zBuild8
