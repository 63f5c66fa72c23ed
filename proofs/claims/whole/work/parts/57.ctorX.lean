/-! the whole program's first world -/
theorem zput_e {α : Type} {ws wc : List α} : zPut ws [] wc = ws ++ wc := by rw [zPut]
section CTORX
variable {tO d : Nat}
abbrev bz6 (b0 b1 b2 b3 b4 b5 a0 : Nat) : zW := [obB b0 b1 b2 b3 b4 b5 a0 0, (b1, aI 256 fZ), (b2, aZ 256 fZ), (b3, aI 256 fZ), (b4, aI 162 fZ), (b5, aI 162 fZ)]
set_option maxHeartbeats 4000000 in
theorem s_X11_init (hd : 20 ≤ d) {x0 : Nat} : Sp tO MX11_init (d, 47, 5213) [.ref x0] [(x0, oB 9 [.null, .null, .int 0, .null, .null, .null, .null, .null])] (fun v w' => ∃ d0 a0 a1 b0 b1 b2 b3 b4 b5 s0 s1 s2 k0 k1 k2 e0 f0 f1 c0 c1 c2 c3 c4 c5 y0 y1 y2 z0 z1 z2 t0 t1 t2 t3 t4 t5 g0 g1 g2 p0 p1 p2 r0 r1 l0 l1 l2, v = none ∧ w' = obX x0 d0 e0 false t0 g0 p0 r0 l0 :: (dkW d0 a0 a1 b0 b1 b2 b3 b4 b5 s0 s1 s2 k0 k1 k2 2 3 0 fZ fZ fZ fZ fZ 0 fZ fZ 0 fZ fZ ++ (dkW e0 f0 f1 c0 c1 c2 c3 c4 c5 y0 y1 y2 z0 z1 z2 2 3 0 fZ fZ fZ fZ fZ 0 fZ fZ 0 fZ fZ ++ (bz6 t0 t1 t2 t3 t4 t5 a0 ++ [obG g0 g1 g2 a0 t0 0 0 0 0 0 0, (g1, aI 32 fZ), (g2, aI 128 fZ), obT p0 p1 p2 false 0, (p1, aI 60 fZ), (p2, aI 3 fZ), obP r0 r1 0, (r1, aI 1457 fZ), obL l0 l1 l2, (l1, aI 4 (fun _ => -1)), (l2, aI 48 fZ)])))) := by
  refine eX11_init [some (.ref x0)] rfl (Nat.le_of_ble_eq_true rfl) ?_
  refine V_aload_n dX11_init_0 rfl ?_
  refine V_objInit dX11_init_1 (by unfold zOb; decide +kernel) (Nat.le_of_ble_eq_true rfl) (by omega) ?_
  refine V_aload_n dX11_init_4 rfl ?_
  refine V_new (ci := 2) (fs := [.null, .null, .null, .null]) dX11_init_5 nX11_init_9 ⟨Nat.le_of_ble_eq_true rfl, Nat.le_of_ble_eq_true rfl⟩ (fun n_5 => ?_)
  simp only [List.cons_append, List.nil_append]
  refine V_equ (1, 4) rfl ?_
  refine V_dup dX11_init_8 rfl ?_
  refine V_callI0 [1] (s_X2_init (d := d - 1) (by omega)) gX11_init_X2_init (by unfold zIn3; decide +kernel) dX11_init_9 oX2_init rfl zpk_1 (Nat.le_of_ble_eq_true rfl) (by omega) ⟨Nat.le_of_ble_eq_true rfl, Nat.le_of_ble_eq_true rfl⟩ ?_
  rintro _ _ ⟨a0, a1, b0, b1, b2, b3, b4, b5, s0, s1, s2, k0, k1, k2, rfl, rfl⟩
  simp only [zput_e, zput_c, zset_1, Option.toList, List.nil_append, List.cons_append, List.set_cons_zero, List.set_cons_succ]
  refine V_equ (15, 1182) rfl ?_
  refine V_putF 0 dX11_init_12 kX11_init_12 rfl rfl rfl rfl (Nat.le_of_ble_eq_true rfl) ?_
  simp only [zset_0, List.set_cons_zero, List.set_cons_succ]
  refine V_aload_n dX11_init_15 rfl ?_
  refine V_new (ci := 2) (fs := [.null, .null, .null, .null]) dX11_init_16 nX11_init_9 ⟨Nat.le_of_ble_eq_true rfl, Nat.le_of_ble_eq_true rfl⟩ (fun n_16 => ?_)
  simp only [List.cons_append, List.nil_append]
  refine V_equ (16, 1186) rfl ?_
  refine V_dup dX11_init_19 rfl ?_
  refine V_callI0 [16] (s_X2_init (d := d - 1) (by omega)) gX11_init_X2_init (by unfold zIn3; decide +kernel) dX11_init_20 oX2_init rfl zpk_16 (Nat.le_of_ble_eq_true rfl) (by omega) ⟨Nat.le_of_ble_eq_true rfl, Nat.le_of_ble_eq_true rfl⟩ ?_
  rintro _ _ ⟨f0, f1, c0, c1, c2, c3, c4, c5, y0, y1, y2, z0, z1, z2, rfl, rfl⟩
  simp only [zput_e, zput_c, zset_16, Option.toList, List.nil_append, List.cons_append, List.set_cons_zero, List.set_cons_succ]
  refine V_equ (30, 2364) rfl ?_
  refine V_putF 0 dX11_init_23 kX11_init_18 rfl rfl rfl rfl (Nat.le_of_ble_eq_true rfl) ?_
  simp only [zset_0, List.set_cons_zero, List.set_cons_succ]
  refine V_aload_n dX11_init_26 rfl ?_
  refine V_iconst (v := nI 0) dX11_init_27 (by decide) ?_
  refine V_put 0 dX11_init_28 fX11_init_21 ft_9_2 rfl (by decide) (by decide) (Nat.le_of_ble_eq_true rfl) ?_
  refine V_aload_n dX11_init_31 rfl ?_
  refine V_new (ci := 1) (fs := [.null, .null, .null, .null, .null, .null, .int 0]) dX11_init_32 nX11_init_25 ⟨Nat.le_of_ble_eq_true rfl, Nat.le_of_ble_eq_true rfl⟩ (fun n_32 => ?_)
  simp only [List.cons_append, List.nil_append]
  refine V_equ (31, 2371) rfl ?_
  refine V_dup dX11_init_35 rfl ?_
  refine V_aload_n dX11_init_36 rfl ?_
  refine V_get 0 dX11_init_37 fX11_init_12 rfl rfl ?_
  refine V_get 1 dX11_init_40 fX11_init_27 rfl rfl ?_
  refine V_callI1 [31] (s_X1_init (d := d - 1) (by omega)) gX11_init_X1_init (by unfold zIn3; decide +kernel) dX11_init_43 oX1_init rfl zpk_31 (Nat.le_of_ble_eq_true rfl) (by omega) ⟨Nat.le_of_ble_eq_true rfl, Nat.le_of_ble_eq_true rfl⟩ ?_
  rintro _ _ ⟨t1, t2, t3, t4, t5, rfl, rfl⟩
  simp only [zput_e, zput_c, zset_31, Option.toList, List.nil_append, List.cons_append, List.set_cons_zero, List.set_cons_succ]
  refine V_equ (36, 3463) rfl ?_
  refine V_putF 0 dX11_init_46 kX11_init_34 rfl rfl rfl rfl (Nat.le_of_ble_eq_true rfl) ?_
  simp only [zset_0, List.set_cons_zero, List.set_cons_succ]
  refine V_aload_n dX11_init_49 rfl ?_
  refine V_new (ci := 3) (fs := [.null, .null, .null, .null, .int 0, .int 0, .int 0, .int 0, .int 0, .int 0]) dX11_init_50 nX11_init_38 ⟨Nat.le_of_ble_eq_true rfl, Nat.le_of_ble_eq_true rfl⟩ (fun n_50 => ?_)
  simp only [List.cons_append, List.nil_append]
  refine V_equ (37, 3473) rfl ?_
  refine V_dup dX11_init_53 rfl ?_
  refine V_aload_n dX11_init_54 rfl ?_
  refine V_get 0 dX11_init_55 fX11_init_12 rfl rfl ?_
  refine V_get 1 dX11_init_58 fX11_init_27 rfl rfl ?_
  refine V_aload_n dX11_init_61 rfl ?_
  refine V_get 0 dX11_init_62 fX11_init_34 rfl rfl ?_
  refine V_callI2 [37] (s_X4_init (d := d - 1) (by omega)) gX11_init_X4_init (by unfold zIn3; decide +kernel) dX11_init_65 oX4_init rfl zpk_37 (Nat.le_of_ble_eq_true rfl) (by omega) ⟨Nat.le_of_ble_eq_true rfl, Nat.le_of_ble_eq_true rfl⟩ ?_
  rintro _ _ ⟨g1, g2, rfl, rfl⟩
  simp only [zput_e, zput_c, zset_37, Option.toList, List.nil_append, List.cons_append, List.set_cons_zero, List.set_cons_succ]
  refine V_equ (39, 3633) rfl ?_
  refine V_putF 0 dX11_init_68 kX11_init_43 rfl rfl rfl rfl (Nat.le_of_ble_eq_true rfl) ?_
  simp only [zset_0, List.set_cons_zero, List.set_cons_succ]
  refine V_aload_n dX11_init_71 rfl ?_
  refine V_new (ci := 8) (fs := [.null, .null, .int 0, .int 0]) dX11_init_72 nX11_init_47 ⟨Nat.le_of_ble_eq_true rfl, Nat.le_of_ble_eq_true rfl⟩ (fun n_72 => ?_)
  simp only [List.cons_append, List.nil_append]
  refine V_equ (40, 3637) rfl ?_
  refine V_dup dX11_init_75 rfl ?_
  refine V_callI0 [40] (s_X10_init (d := d - 1) (by omega)) gX11_init_X10_init (by unfold zIn3; decide +kernel) dX11_init_76 oX10_init rfl zpk_40 (Nat.le_of_ble_eq_true rfl) (by omega) ⟨Nat.le_of_ble_eq_true rfl, Nat.le_of_ble_eq_true rfl⟩ ?_
  rintro _ _ ⟨p1, p2, rfl, rfl⟩
  simp only [zput_e, zput_c, zset_40, Option.toList, List.nil_append, List.cons_append, List.set_cons_zero, List.set_cons_succ]
  refine V_equ (42, 3700) rfl ?_
  refine V_putF 0 dX11_init_79 kX11_init_50 rfl rfl rfl rfl (Nat.le_of_ble_eq_true rfl) ?_
  simp only [zset_0, List.set_cons_zero, List.set_cons_succ]
  refine V_aload_n dX11_init_82 rfl ?_
  refine V_new (ci := 5) (fs := [.null, .int 0]) dX11_init_83 nX11_init_54 ⟨Nat.le_of_ble_eq_true rfl, Nat.le_of_ble_eq_true rfl⟩ (fun n_83 => ?_)
  simp only [List.cons_append, List.nil_append]
  refine V_equ (43, 3702) rfl ?_
  refine V_dup dX11_init_86 rfl ?_
  refine V_callI0 [43] (s_X6_init (d := d - 1) (by omega)) gX11_init_X6_init (by unfold zIn3; decide +kernel) dX11_init_87 oX6_init rfl zpk_43 (Nat.le_of_ble_eq_true rfl) (by omega) ⟨Nat.le_of_ble_eq_true rfl, Nat.le_of_ble_eq_true rfl⟩ ?_
  rintro _ _ ⟨r1, rfl, rfl⟩
  simp only [zput_e, zput_c, zset_43, Option.toList, List.nil_append, List.cons_append, List.set_cons_zero, List.set_cons_succ]
  refine V_equ (44, 5159) rfl ?_
  refine V_putF 0 dX11_init_90 kX11_init_57 rfl rfl rfl rfl (Nat.le_of_ble_eq_true rfl) ?_
  simp only [zset_0, List.set_cons_zero, List.set_cons_succ]
  refine V_aload_n dX11_init_93 rfl ?_
  refine V_new (ci := 4) (fs := [.null, .null]) dX11_init_94 nX11_init_61 ⟨Nat.le_of_ble_eq_true rfl, Nat.le_of_ble_eq_true rfl⟩ (fun n_94 => ?_)
  simp only [List.cons_append, List.nil_append]
  refine V_equ (45, 5161) rfl ?_
  refine V_dup dX11_init_97 rfl ?_
  refine V_callI0 [45] (s_X5_init (d := d - 1) (by omega)) gX11_init_X5_init (by unfold zIn3; decide +kernel) dX11_init_98 oX5_init rfl zpk_45 (Nat.le_of_ble_eq_true rfl) (by omega) ⟨Nat.le_of_ble_eq_true rfl, Nat.le_of_ble_eq_true rfl⟩ ?_
  rintro _ _ ⟨l1, l2, rfl, rfl⟩
  simp only [zput_e, zput_c, zset_45, Option.toList, List.nil_append, List.cons_append, List.set_cons_zero, List.set_cons_succ]
  refine V_equ (47, 5213) rfl ?_
  refine V_putF 0 dX11_init_101 kX11_init_64 rfl rfl rfl rfl (Nat.le_of_ble_eq_true rfl) ?_
  simp only [zset_0, List.set_cons_zero, List.set_cons_succ]
  refine V_vret dX11_init_104 rfl (Nat.le_of_ble_eq_true rfl) (Nat.le_refl _) (Nat.le_refl _) ?_
  exact ⟨_, _, _, _, _, _, _, _, _, _, _, _, _, _, _, _, _, _, _, _, _, _, _, _, _, _, _, _, _, _, _, _, _, _, _, _, _, _, _, _, _, _, _, _, _, _, _, rfl, rfl⟩
end CTORX

