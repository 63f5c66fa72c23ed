/-! the constructors -/
abbrev fZ : Nat → Int32 := fun _ => 0
section CTOR
variable {tO d : Nat}
theorem s_X0_init (hd : 6 ≤ d) {a0 : Nat} : Sp tO MX0_init (d, 1, 6) [.ref a0] [(a0, oB 0 [.null, .int 0, .int 0, .int 0])] (fun v w' => ∃ a1, v = none ∧ w' = alW a0 a1 2 3) := by
  refine eX0_init [some (.ref a0)] rfl (Nat.le_of_ble_eq_true rfl) ?_
  refine V_aload_n dX0_init_0 rfl ?_
  refine V_objInit dX0_init_1 (by unfold zOb; decide +kernel) (Nat.le_of_ble_eq_true rfl) (by omega) ?_
  refine V_aload_n dX0_init_4 rfl ?_
  refine V_bipush (v := nI 6) dX0_init_5 (by decide) ?_
  refine V_newaI dX0_init_7 (by decide +kernel) (by decide) ⟨Nat.le_of_ble_eq_true rfl, Nat.le_of_ble_eq_true rfl⟩ (fun n_7 => ?_)
  simp only [List.cons_append, List.nil_append]
  refine V_equ (1, 6) rfl ?_
  refine V_putF 0 dX0_init_9 kX0_init_9 rfl rfl rfl rfl (Nat.le_of_ble_eq_true rfl) ?_
  simp only [zset_0, List.set_cons_zero, List.set_cons_succ]
  refine V_aload_n dX0_init_12 rfl ?_
  refine V_iconst (v := nI 2) dX0_init_13 (by decide) ?_
  refine V_iconst (v := nI 3) dX0_init_14 (by decide) ?_
  refine V_callVfv2 [0, 1] (s_X0_become (d := d - 1) (by omega) (by unfold OKq; decide)) gX0_init_X0_become dX0_init_15 oX0_become rfl rfl rfl rfl (Nat.le_of_ble_eq_true rfl) (by omega) ⟨Nat.le_refl _, Nat.le_refl _⟩ ?_
  simp only [zput_n, zput_c, zset_0, zset_1]
  refine V_vret dX0_init_18 rfl (Nat.le_of_ble_eq_true rfl) (Nat.le_refl _) (Nat.le_refl _) ?_
  exact ⟨_, rfl, rfl⟩
theorem s_X1_init (hd : 6 ≤ d) {b0 a0 : Nat} : Sp tO MX1_init (d, 5, 1092) [.ref b0, .ref a0] [(b0, oB 1 [.null, .null, .null, .null, .null, .null, .int 0])] (fun v w' => ∃ b1 b2 b3 b4 b5, v = none ∧ w' = [obB b0 b1 b2 b3 b4 b5 a0 0, (b1, aI 256 fZ), (b2, aZ 256 fZ), (b3, aI 256 fZ), (b4, aI 162 fZ), (b5, aI 162 fZ)]) := by
  refine eX1_init [some (.ref b0), some (.ref a0)] rfl (Nat.le_of_ble_eq_true rfl) ?_
  refine V_aload_n dX1_init_0 rfl ?_
  refine V_objInit dX1_init_1 (by unfold zOb; decide +kernel) (Nat.le_of_ble_eq_true rfl) (by omega) ?_
  refine V_aload_n dX1_init_4 rfl ?_
  refine V_aload_n dX1_init_5 rfl ?_
  refine V_putF 0 dX1_init_6 kX1_init_9 rfl rfl rfl rfl (Nat.le_of_ble_eq_true rfl) ?_
  simp only [zset_0, List.set_cons_zero, List.set_cons_succ]
  refine V_aload_n dX1_init_9 rfl ?_
  refine V_sipush (v := nI 256) dX1_init_10 (by decide) ?_
  refine V_newaI dX1_init_13 (by decide +kernel) (by decide) ⟨Nat.le_of_ble_eq_true rfl, Nat.le_of_ble_eq_true rfl⟩ (fun n_13 => ?_)
  simp only [List.cons_append, List.nil_append]
  refine V_equ (1, 256) rfl ?_
  refine V_putF 0 dX1_init_15 kX1_init_15 rfl rfl rfl rfl (Nat.le_of_ble_eq_true rfl) ?_
  simp only [zset_0, List.set_cons_zero, List.set_cons_succ]
  refine V_aload_n dX1_init_18 rfl ?_
  refine V_sipush (v := nI 256) dX1_init_19 (by decide) ?_
  refine V_newaZ dX1_init_22 (by decide +kernel) (by decide) ⟨Nat.le_of_ble_eq_true rfl, Nat.le_of_ble_eq_true rfl⟩ (fun n_22 => ?_)
  simp only [List.cons_append, List.nil_append]
  refine V_equ (2, 512) rfl ?_
  refine V_putF 0 dX1_init_24 kX1_init_19 rfl rfl rfl rfl (Nat.le_of_ble_eq_true rfl) ?_
  simp only [zset_0, List.set_cons_zero, List.set_cons_succ]
  refine V_aload_n dX1_init_27 rfl ?_
  refine V_sipush (v := nI 256) dX1_init_28 (by decide) ?_
  refine V_newaI dX1_init_31 (by decide +kernel) (by decide) ⟨Nat.le_of_ble_eq_true rfl, Nat.le_of_ble_eq_true rfl⟩ (fun n_31 => ?_)
  simp only [List.cons_append, List.nil_append]
  refine V_equ (3, 768) rfl ?_
  refine V_putF 0 dX1_init_33 kX1_init_23 rfl rfl rfl rfl (Nat.le_of_ble_eq_true rfl) ?_
  simp only [zset_0, List.set_cons_zero, List.set_cons_succ]
  refine V_aload_n dX1_init_36 rfl ?_
  refine V_sipush (v := nI 162) dX1_init_37 (by decide) ?_
  refine V_newaI dX1_init_40 (by decide +kernel) (by decide) ⟨Nat.le_of_ble_eq_true rfl, Nat.le_of_ble_eq_true rfl⟩ (fun n_40 => ?_)
  simp only [List.cons_append, List.nil_append]
  refine V_equ (4, 930) rfl ?_
  refine V_putF 0 dX1_init_42 kX1_init_26 rfl rfl rfl rfl (Nat.le_of_ble_eq_true rfl) ?_
  simp only [zset_0, List.set_cons_zero, List.set_cons_succ]
  refine V_aload_n dX1_init_45 rfl ?_
  refine V_sipush (v := nI 162) dX1_init_46 (by decide) ?_
  refine V_newaI dX1_init_49 (by decide +kernel) (by decide) ⟨Nat.le_of_ble_eq_true rfl, Nat.le_of_ble_eq_true rfl⟩ (fun n_49 => ?_)
  simp only [List.cons_append, List.nil_append]
  refine V_equ (5, 1092) rfl ?_
  refine V_putF 0 dX1_init_51 kX1_init_29 rfl rfl rfl rfl (Nat.le_of_ble_eq_true rfl) ?_
  simp only [zset_0, List.set_cons_zero, List.set_cons_succ]
  refine V_aload_n dX1_init_54 rfl ?_
  refine V_iconst (v := nI 0) dX1_init_55 (by decide) ?_
  refine V_put 0 dX1_init_56 fX1_init_32 ft_1_6 rfl rfl rfl (Nat.le_of_ble_eq_true rfl) ?_
  refine V_vret dX1_init_59 rfl (Nat.le_of_ble_eq_true rfl) (Nat.le_refl _) (Nat.le_refl _) ?_
  exact ⟨_, _, _, _, _, rfl, rfl⟩
theorem s_X9_init (hd : 6 ≤ d) {s0 a0 : Nat} : Sp tO MX9_init (d, 2, 45) [.ref s0, .ref a0] [(s0, oB 7 [.null, .null, .null, .int 0])] (fun v w' => ∃ s1 s2, v = none ∧ w' = [obS s0 s1 s2 a0 0, (s1, aI 40 fZ), (s2, aI 5 fZ)]) := by
  refine eX9_init [some (.ref s0), some (.ref a0)] rfl (Nat.le_of_ble_eq_true rfl) ?_
  refine V_aload_n dX9_init_0 rfl ?_
  refine V_objInit dX9_init_1 (by unfold zOb; decide +kernel) (Nat.le_of_ble_eq_true rfl) (by omega) ?_
  refine V_aload_n dX9_init_4 rfl ?_
  refine V_aload_n dX9_init_5 rfl ?_
  refine V_putF 0 dX9_init_6 kX9_init_9 rfl rfl rfl rfl (Nat.le_of_ble_eq_true rfl) ?_
  simp only [zset_0, List.set_cons_zero, List.set_cons_succ]
  refine V_aload_n dX9_init_9 rfl ?_
  refine V_bipush (v := nI 40) dX9_init_10 (by decide) ?_
  refine V_newaI dX9_init_12 (by decide +kernel) (by decide) ⟨Nat.le_of_ble_eq_true rfl, Nat.le_of_ble_eq_true rfl⟩ (fun n_12 => ?_)
  simp only [List.cons_append, List.nil_append]
  refine V_equ (1, 40) rfl ?_
  refine V_putF 0 dX9_init_14 kX9_init_15 rfl rfl rfl rfl (Nat.le_of_ble_eq_true rfl) ?_
  simp only [zset_0, List.set_cons_zero, List.set_cons_succ]
  refine V_aload_n dX9_init_17 rfl ?_
  refine V_iconst (v := nI 5) dX9_init_18 (by decide) ?_
  refine V_newaI dX9_init_19 (by decide +kernel) (by decide) ⟨Nat.le_of_ble_eq_true rfl, Nat.le_of_ble_eq_true rfl⟩ (fun n_19 => ?_)
  simp only [List.cons_append, List.nil_append]
  refine V_equ (2, 45) rfl ?_
  refine V_putF 0 dX9_init_21 kX9_init_19 rfl rfl rfl rfl (Nat.le_of_ble_eq_true rfl) ?_
  simp only [zset_0, List.set_cons_zero, List.set_cons_succ]
  refine V_aload_n dX9_init_24 rfl ?_
  refine V_iconst (v := nI 0) dX9_init_25 (by decide) ?_
  refine V_put 0 dX9_init_26 fX9_init_22 ft_7_3 rfl rfl rfl (Nat.le_of_ble_eq_true rfl) ?_
  refine V_vret dX9_init_29 rfl (Nat.le_of_ble_eq_true rfl) (Nat.le_refl _) (Nat.le_refl _) ?_
  exact ⟨_, _, rfl, rfl⟩
theorem s_X7_init (hd : 6 ≤ d) {k0 a0 : Nat} : Sp tO MX7_init (d, 2, 16) [.ref k0, .ref a0] [(k0, oB 6 [.null, .null, .null, .int 0])] (fun v w' => ∃ k1 k2, v = none ∧ w' = [obK k0 k1 k2 a0 0, (k1, aI 8 fZ), (k2, aI 8 fZ)]) := by
  refine eX7_init [some (.ref k0), some (.ref a0)] rfl (Nat.le_of_ble_eq_true rfl) ?_
  refine V_aload_n dX7_init_0 rfl ?_
  refine V_objInit dX7_init_1 (by unfold zOb; decide +kernel) (Nat.le_of_ble_eq_true rfl) (by omega) ?_
  refine V_aload_n dX7_init_4 rfl ?_
  refine V_aload_n dX7_init_5 rfl ?_
  refine V_putF 0 dX7_init_6 kX7_init_7 rfl rfl rfl rfl (Nat.le_of_ble_eq_true rfl) ?_
  simp only [zset_0, List.set_cons_zero, List.set_cons_succ]
  refine V_aload_n dX7_init_9 rfl ?_
  refine V_bipush (v := nI 8) dX7_init_10 (by decide) ?_
  refine V_newaI dX7_init_12 (by decide +kernel) (by decide) ⟨Nat.le_of_ble_eq_true rfl, Nat.le_of_ble_eq_true rfl⟩ (fun n_12 => ?_)
  simp only [List.cons_append, List.nil_append]
  refine V_equ (1, 8) rfl ?_
  refine V_putF 0 dX7_init_14 kX7_init_13 rfl rfl rfl rfl (Nat.le_of_ble_eq_true rfl) ?_
  simp only [zset_0, List.set_cons_zero, List.set_cons_succ]
  refine V_aload_n dX7_init_17 rfl ?_
  refine V_bipush (v := nI 8) dX7_init_18 (by decide) ?_
  refine V_newaI dX7_init_20 (by decide +kernel) (by decide) ⟨Nat.le_of_ble_eq_true rfl, Nat.le_of_ble_eq_true rfl⟩ (fun n_20 => ?_)
  simp only [List.cons_append, List.nil_append]
  refine V_equ (2, 16) rfl ?_
  refine V_putF 0 dX7_init_22 kX7_init_17 rfl rfl rfl rfl (Nat.le_of_ble_eq_true rfl) ?_
  simp only [zset_0, List.set_cons_zero, List.set_cons_succ]
  refine V_aload_n dX7_init_25 rfl ?_
  refine V_iconst (v := nI 0) dX7_init_26 (by decide) ?_
  refine V_put 0 dX7_init_27 fX7_init_20 ft_6_3 rfl rfl rfl (Nat.le_of_ble_eq_true rfl) ?_
  refine V_vret dX7_init_30 rfl (Nat.le_of_ble_eq_true rfl) (Nat.le_refl _) (Nat.le_refl _) ?_
  exact ⟨_, _, rfl, rfl⟩
theorem s_X10_init (hd : 6 ≤ d) {t0 : Nat} : Sp tO MX10_init (d, 2, 63) [.ref t0] [(t0, oB 8 [.null, .null, .int 0, .int 0])] (fun v w' => ∃ t1 t2, v = none ∧ w' = [obT t0 t1 t2 false 0, (t1, aI 60 fZ), (t2, aI 3 fZ)]) := by
  refine eX10_init [some (.ref t0)] rfl (Nat.le_of_ble_eq_true rfl) ?_
  refine V_aload_n dX10_init_0 rfl ?_
  refine V_objInit dX10_init_1 (by unfold zOb; decide +kernel) (Nat.le_of_ble_eq_true rfl) (by omega) ?_
  refine V_aload_n dX10_init_4 rfl ?_
  refine V_bipush (v := nI 60) dX10_init_5 (by decide) ?_
  refine V_newaI dX10_init_7 (by decide +kernel) (by decide) ⟨Nat.le_of_ble_eq_true rfl, Nat.le_of_ble_eq_true rfl⟩ (fun n_7 => ?_)
  simp only [List.cons_append, List.nil_append]
  refine V_equ (1, 60) rfl ?_
  refine V_putF 0 dX10_init_9 kX10_init_11 rfl rfl rfl rfl (Nat.le_of_ble_eq_true rfl) ?_
  simp only [zset_0, List.set_cons_zero, List.set_cons_succ]
  refine V_aload_n dX10_init_12 rfl ?_
  refine V_iconst (v := nI 3) dX10_init_13 (by decide) ?_
  refine V_newaI dX10_init_14 (by decide +kernel) (by decide) ⟨Nat.le_of_ble_eq_true rfl, Nat.le_of_ble_eq_true rfl⟩ (fun n_14 => ?_)
  simp only [List.cons_append, List.nil_append]
  refine V_equ (2, 63) rfl ?_
  refine V_putF 0 dX10_init_16 kX10_init_15 rfl rfl rfl rfl (Nat.le_of_ble_eq_true rfl) ?_
  simp only [zset_0, List.set_cons_zero, List.set_cons_succ]
  refine V_aload_n dX10_init_19 rfl ?_
  refine V_iconst (v := nI 0) dX10_init_20 (by decide) ?_
  refine V_put 0 dX10_init_21 fX10_init_18 ft_8_2 rfl (by decide) (by decide) (Nat.le_of_ble_eq_true rfl) ?_
  refine V_aload_n dX10_init_24 rfl ?_
  refine V_iconst (v := nI 0) dX10_init_25 (by decide) ?_
  refine V_put 0 dX10_init_26 fX10_init_22 ft_8_3 rfl rfl rfl (Nat.le_of_ble_eq_true rfl) ?_
  refine V_vret dX10_init_29 rfl (Nat.le_of_ble_eq_true rfl) (Nat.le_refl _) (Nat.le_refl _) ?_
  exact ⟨_, _, rfl, rfl⟩
theorem s_X6_init (hd : 6 ≤ d) {p0 : Nat} : Sp tO MX6_init (d, 1, 1457) [.ref p0] [(p0, oB 5 [.null, .int 0])] (fun v w' => ∃ p1, v = none ∧ w' = [obP p0 p1 0, (p1, aI 1457 fZ)]) := by
  refine eX6_init [some (.ref p0)] rfl (Nat.le_of_ble_eq_true rfl) ?_
  refine V_aload_n dX6_init_0 rfl ?_
  refine V_objInit dX6_init_1 (by unfold zOb; decide +kernel) (Nat.le_of_ble_eq_true rfl) (by omega) ?_
  refine V_aload_n dX6_init_4 rfl ?_
  refine V_sipush (v := nI 1457) dX6_init_5 (by decide) ?_
  refine V_newaI dX6_init_8 (by decide +kernel) (by decide) ⟨Nat.le_of_ble_eq_true rfl, Nat.le_of_ble_eq_true rfl⟩ (fun n_8 => ?_)
  simp only [List.cons_append, List.nil_append]
  refine V_equ (1, 1457) rfl ?_
  refine V_putF 0 dX6_init_10 kX6_init_11 rfl rfl rfl rfl (Nat.le_of_ble_eq_true rfl) ?_
  simp only [zset_0, List.set_cons_zero, List.set_cons_succ]
  refine V_aload_n dX6_init_13 rfl ?_
  refine V_iconst (v := nI 0) dX6_init_14 (by decide) ?_
  refine V_put 0 dX6_init_15 fX6_init_15 ft_5_1 rfl rfl rfl (Nat.le_of_ble_eq_true rfl) ?_
  refine V_vret dX6_init_18 rfl (Nat.le_of_ble_eq_true rfl) (Nat.le_refl _) (Nat.le_refl _) ?_
  exact ⟨_, rfl, rfl⟩
theorem s_X5_init (hd : 6 ≤ d) {l0 : Nat} : Sp tO MX5_init (d, 2, 52) [.ref l0] [(l0, oB 4 [.null, .null])] (fun v w' => ∃ l1 l2, v = none ∧ w' = [obL l0 l1 l2, (l1, aI 4 (fun _ => -1)), (l2, aI 48 fZ)]) := by
  refine eX5_init [some (.ref l0)] rfl (Nat.le_of_ble_eq_true rfl) ?_
  refine V_aload_n dX5_init_0 rfl ?_
  refine V_objInit dX5_init_1 (by unfold zOb; decide +kernel) (Nat.le_of_ble_eq_true rfl) (by omega) ?_
  refine V_aload_n dX5_init_4 rfl ?_
  refine V_iconst (v := nI 4) dX5_init_5 (by decide) ?_
  refine V_newaI dX5_init_6 (by decide +kernel) (by decide) ⟨Nat.le_of_ble_eq_true rfl, Nat.le_of_ble_eq_true rfl⟩ (fun n_6 => ?_)
  simp only [List.cons_append, List.nil_append]
  refine V_equ (1, 4) rfl ?_
  refine V_putF 0 dX5_init_8 kX5_init_9 rfl rfl rfl rfl (Nat.le_of_ble_eq_true rfl) ?_
  simp only [zset_0, List.set_cons_zero, List.set_cons_succ]
  refine V_aload_n dX5_init_11 rfl ?_
  refine V_bipush (v := nI 48) dX5_init_12 (by decide) ?_
  refine V_newaI dX5_init_14 (by decide +kernel) (by decide) ⟨Nat.le_of_ble_eq_true rfl, Nat.le_of_ble_eq_true rfl⟩ (fun n_14 => ?_)
  simp only [List.cons_append, List.nil_append]
  refine V_equ (2, 52) rfl ?_
  refine V_putF 0 dX5_init_16 kX5_init_13 rfl rfl rfl rfl (Nat.le_of_ble_eq_true rfl) ?_
  simp only [zset_0, List.set_cons_zero, List.set_cons_succ]
  refine V_aload_n dX5_init_19 rfl ?_
  refine V_get 0 dX5_init_20 fX5_init_9 rfl rfl ?_
  refine V_iconst (v := -1) dX5_init_23 (by decide) ?_
  refine V_callSfv2 [1] (s_X8_fill (d := d - 1) (by omega) (by decide)) gX5_init_X8_fill dX5_init_24 oX8_fill rfl rfl (Nat.le_of_ble_eq_true rfl) (by omega) ⟨Nat.le_refl _, Nat.le_refl _⟩ ?_
  simp only [zput_n, zput_c, zset_1]
  refine V_vret dX5_init_27 rfl (Nat.le_of_ble_eq_true rfl) (Nat.le_refl _) (Nat.le_refl _) ?_
  exact ⟨_, _, rfl, rfl⟩
theorem s_X4_init (hd : 6 ≤ d) {g0 a0 t0 : Nat} : Sp tO MX4_init (d, 2, 160) [.ref g0, .ref a0, .ref t0] [(g0, oB 3 [.null, .null, .null, .null, .int 0, .int 0, .int 0, .int 0, .int 0, .int 0])] (fun v w' => ∃ g1 g2, v = none ∧ w' = [obG g0 g1 g2 a0 t0 0 0 0 0 0 0, (g1, aI 32 fZ), (g2, aI 128 fZ)]) := by
  refine eX4_init [some (.ref g0), some (.ref a0), some (.ref t0)] rfl (Nat.le_of_ble_eq_true rfl) ?_
  refine V_aload_n dX4_init_0 rfl ?_
  refine V_objInit dX4_init_1 (by unfold zOb; decide +kernel) (Nat.le_of_ble_eq_true rfl) (by omega) ?_
  refine V_aload_n dX4_init_4 rfl ?_
  refine V_aload_n dX4_init_5 rfl ?_
  refine V_putF 0 dX4_init_6 kX4_init_9 rfl rfl rfl rfl (Nat.le_of_ble_eq_true rfl) ?_
  simp only [zset_0, List.set_cons_zero, List.set_cons_succ]
  refine V_aload_n dX4_init_9 rfl ?_
  refine V_aload_n dX4_init_10 rfl ?_
  refine V_putF 0 dX4_init_11 kX4_init_15 rfl rfl rfl rfl (Nat.le_of_ble_eq_true rfl) ?_
  simp only [zset_0, List.set_cons_zero, List.set_cons_succ]
  refine V_aload_n dX4_init_14 rfl ?_
  refine V_bipush (v := nI 32) dX4_init_15 (by decide) ?_
  refine V_newaI dX4_init_17 (by decide +kernel) (by decide) ⟨Nat.le_of_ble_eq_true rfl, Nat.le_of_ble_eq_true rfl⟩ (fun n_17 => ?_)
  simp only [List.cons_append, List.nil_append]
  refine V_equ (1, 32) rfl ?_
  refine V_putF 0 dX4_init_19 kX4_init_19 rfl rfl rfl rfl (Nat.le_of_ble_eq_true rfl) ?_
  simp only [zset_0, List.set_cons_zero, List.set_cons_succ]
  refine V_aload_n dX4_init_22 rfl ?_
  refine V_sipush (v := nI 128) dX4_init_23 (by decide) ?_
  refine V_newaI dX4_init_26 (by decide +kernel) (by decide) ⟨Nat.le_of_ble_eq_true rfl, Nat.le_of_ble_eq_true rfl⟩ (fun n_26 => ?_)
  simp only [List.cons_append, List.nil_append]
  refine V_equ (2, 160) rfl ?_
  refine V_putF 0 dX4_init_28 kX4_init_23 rfl rfl rfl rfl (Nat.le_of_ble_eq_true rfl) ?_
  simp only [zset_0, List.set_cons_zero, List.set_cons_succ]
  refine V_aload_n dX4_init_31 rfl ?_
  refine V_iconst (v := nI 0) dX4_init_32 (by decide) ?_
  refine V_put 0 dX4_init_33 fX4_init_26 ft_3_4 rfl rfl rfl (Nat.le_of_ble_eq_true rfl) ?_
  refine V_aload_n dX4_init_36 rfl ?_
  refine V_iconst (v := nI 0) dX4_init_37 (by decide) ?_
  refine V_put 0 dX4_init_38 fX4_init_30 ft_3_5 rfl rfl rfl (Nat.le_of_ble_eq_true rfl) ?_
  refine V_vret dX4_init_41 rfl (Nat.le_of_ble_eq_true rfl) (Nat.le_refl _) (Nat.le_refl _) ?_
  exact ⟨_, _, rfl, rfl⟩
theorem s_X2_init (hd : 12 ≤ d) {d0 : Nat} : Sp tO MX2_init (d, 14, 1178) [.ref d0] [(d0, oB 2 [.null, .null, .null, .null])] (fun v w' => ∃ a0 a1 b0 b1 b2 b3 b4 b5 s0 s1 s2 k0 k1 k2, v = none ∧ w' = dkW d0 a0 a1 b0 b1 b2 b3 b4 b5 s0 s1 s2 k0 k1 k2 2 3 0 fZ fZ fZ fZ fZ 0 fZ fZ 0 fZ fZ) := by
  refine eX2_init [some (.ref d0)] rfl (Nat.le_of_ble_eq_true rfl) ?_
  refine V_aload_n dX2_init_0 rfl ?_
  refine V_objInit dX2_init_1 (by unfold zOb; decide +kernel) (Nat.le_of_ble_eq_true rfl) (by omega) ?_
  refine V_aload_n dX2_init_4 rfl ?_
  refine V_new (ci := 0) (fs := [.null, .int 0, .int 0, .int 0]) dX2_init_5 nX2_init_7 ⟨Nat.le_of_ble_eq_true rfl, Nat.le_of_ble_eq_true rfl⟩ (fun n_5 => ?_)
  simp only [List.cons_append, List.nil_append]
  refine V_equ (1, 4) rfl ?_
  refine V_dup dX2_init_8 rfl ?_
  refine V_callI0 [1] (s_X0_init (d := d - 1) (by omega)) gX2_init_X0_init (by unfold zIn3; decide +kernel) dX2_init_9 oX0_init rfl zpk_1 (Nat.le_of_ble_eq_true rfl) (by omega) ⟨Nat.le_of_ble_eq_true rfl, Nat.le_of_ble_eq_true rfl⟩ ?_
  rintro _ _ ⟨a1, rfl, rfl⟩
  simp only [zput_n, zput_c, zset_1, Option.toList, List.nil_append, List.cons_append]
  refine V_equ (2, 10) rfl ?_
  refine V_putF 0 dX2_init_12 kX2_init_10 rfl rfl rfl rfl (Nat.le_of_ble_eq_true rfl) ?_
  simp only [zset_0, List.set_cons_zero, List.set_cons_succ]
  refine V_aload_n dX2_init_15 rfl ?_
  refine V_new (ci := 1) (fs := [.null, .null, .null, .null, .null, .null, .int 0]) dX2_init_16 nX2_init_16 ⟨Nat.le_of_ble_eq_true rfl, Nat.le_of_ble_eq_true rfl⟩ (fun n_16 => ?_)
  simp only [List.cons_append, List.nil_append]
  refine V_equ (3, 17) rfl ?_
  refine V_dup dX2_init_19 rfl ?_
  refine V_aload_n dX2_init_20 rfl ?_
  refine V_get 0 dX2_init_21 fX2_init_10 rfl rfl ?_
  refine V_callI1 [3] (s_X1_init (d := d - 1) (by omega)) gX2_init_X1_init (by unfold zIn3; decide +kernel) dX2_init_24 oX1_init rfl zpk_3 (Nat.le_of_ble_eq_true rfl) (by omega) ⟨Nat.le_of_ble_eq_true rfl, Nat.le_of_ble_eq_true rfl⟩ ?_
  rintro _ _ ⟨b1, b2, b3, b4, b5, rfl, rfl⟩
  simp only [zput_n, zput_c, zset_3, Option.toList, List.nil_append, List.cons_append]
  refine V_equ (8, 1109) rfl ?_
  refine V_putF 0 dX2_init_27 kX2_init_21 rfl rfl rfl rfl (Nat.le_of_ble_eq_true rfl) ?_
  simp only [zset_0, List.set_cons_zero, List.set_cons_succ]
  refine V_aload_n dX2_init_30 rfl ?_
  refine V_new (ci := 7) (fs := [.null, .null, .null, .int 0]) dX2_init_31 nX2_init_25 ⟨Nat.le_of_ble_eq_true rfl, Nat.le_of_ble_eq_true rfl⟩ (fun n_31 => ?_)
  simp only [List.cons_append, List.nil_append]
  refine V_equ (9, 1113) rfl ?_
  refine V_dup dX2_init_34 rfl ?_
  refine V_aload_n dX2_init_35 rfl ?_
  refine V_get 0 dX2_init_36 fX2_init_10 rfl rfl ?_
  refine V_callI1 [9] (s_X9_init (d := d - 1) (by omega)) gX2_init_X9_init (by unfold zIn3; decide +kernel) dX2_init_39 oX9_init rfl zpk_9 (Nat.le_of_ble_eq_true rfl) (by omega) ⟨Nat.le_of_ble_eq_true rfl, Nat.le_of_ble_eq_true rfl⟩ ?_
  rintro _ _ ⟨s1, s2, rfl, rfl⟩
  simp only [zput_n, zput_c, zset_9, Option.toList, List.nil_append, List.cons_append]
  refine V_equ (11, 1158) rfl ?_
  refine V_putF 0 dX2_init_42 kX2_init_28 rfl rfl rfl rfl (Nat.le_of_ble_eq_true rfl) ?_
  simp only [zset_0, List.set_cons_zero, List.set_cons_succ]
  refine V_aload_n dX2_init_45 rfl ?_
  refine V_new (ci := 6) (fs := [.null, .null, .null, .int 0]) dX2_init_46 nX2_init_32 ⟨Nat.le_of_ble_eq_true rfl, Nat.le_of_ble_eq_true rfl⟩ (fun n_46 => ?_)
  simp only [List.cons_append, List.nil_append]
  refine V_equ (12, 1162) rfl ?_
  refine V_dup dX2_init_49 rfl ?_
  refine V_aload_n dX2_init_50 rfl ?_
  refine V_get 0 dX2_init_51 fX2_init_10 rfl rfl ?_
  refine V_callI1 [12] (s_X7_init (d := d - 1) (by omega)) gX2_init_X7_init (by unfold zIn3; decide +kernel) dX2_init_54 oX7_init rfl zpk_12 (Nat.le_of_ble_eq_true rfl) (by omega) ⟨Nat.le_of_ble_eq_true rfl, Nat.le_of_ble_eq_true rfl⟩ ?_
  rintro _ _ ⟨k1, k2, rfl, rfl⟩
  simp only [zput_n, zput_c, zset_12, Option.toList, List.nil_append, List.cons_append]
  refine V_equ (14, 1178) rfl ?_
  refine V_putF 0 dX2_init_57 kX2_init_35 rfl rfl rfl rfl (Nat.le_of_ble_eq_true rfl) ?_
  simp only [zset_0, List.set_cons_zero, List.set_cons_succ]
  refine V_vret dX2_init_60 rfl (Nat.le_of_ble_eq_true rfl) (Nat.le_refl _) (Nat.le_refl _) ?_
  exact ⟨_, _, _, _, _, _, _, _, _, _, _, _, _, _, rfl, rfl⟩
end CTOR

