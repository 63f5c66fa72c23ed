section PUB6
variable {tO d q n x0 d0 e0 t0 t1 t2 t3 t4 t5 g0 g1 g2 p0 p1 p2 r0 r1 l0 l1 l2 s0 s1 s2 k0 k1 k2 b0 b1 b2 b3 b4 b5 a0 a1 m ms mk mT mt mp NT f0 f1 c0 c1 c2 c3 c4 c5 y0 y1 y2 z0 z1 z2 q2 n2 m2 ms2 mk2 : Nat} {tk fl : Bool} {W Im O E R Rc K Vv W2 Im2 O2 E2 R2 Rc2 K2 V2 Hd : Nat → Int32} {B B2 : Nat → Bool}
theorem s_X11_image (hd : 30 ≤ d) (h : OKq q n) : SpF tO MX11_image (d, 0, 0) [.ref x0] (obX x0 d0 e0 tk t0 g0 p0 r0 l0 :: (dkW d0 a0 a1 b0 b1 b2 b3 b4 b5 s0 s1 s2 k0 k1 k2 q n m W (hdF B) Im O E ms R Rc mk K Vv ++ dkW e0 f0 f1 c0 c1 c2 c3 c4 c5 y0 y1 y2 z0 z1 z2 q2 n2 m2 W2 Hd Im2 O2 E2 ms2 R2 Rc2 mk2 K2 V2)) (some (.int (nI m))) (obX x0 d0 e0 true t0 g0 p0 r0 l0 :: (dkW d0 a0 a1 b0 b1 b2 b3 b4 b5 s0 s1 s2 k0 k1 k2 q n m W (hdF B) Im O E ms R Rc mk K Vv ++ dkW e0 f0 f1 c0 c1 c2 c3 c4 c5 y0 y1 y2 z0 z1 z2 q n m W (hdF B) Im2 O E ms R Rc2 mk K Vv)) := by
  refine eX11_image [some (.ref x0)] rfl (Nat.le_of_ble_eq_true rfl) ?_
  dsimp only [dkW, List.cons_append, List.nil_append]
  refine V_aload_n dX11_image_0 rfl ?_
  refine V_get 0 dX11_image_1 fX11_image_18 rfl rfl ?_
  refine V_aload_n dX11_image_4 rfl ?_
  refine V_get 0 dX11_image_5 fX11_image_12 rfl rfl ?_
  refine V_callVfv1 [16, 17, 18, 19, 20, 21, 22, 23, 24, 25, 26, 27, 28, 29, 30, 1, 2, 3, 4, 5, 6, 7, 8, 9, 10, 11, 12, 13, 14, 15] (s_X2_copyFrom (d := d - 1) (by omega) h) gX11_image_X2_copyFrom dX11_image_8 oX2_copyFrom rfl rfl rfl rfl (Nat.le_of_ble_eq_true rfl) (by omega) ⟨Nat.le_refl _, Nat.le_refl _⟩ ?_
  dsimp only [dkW, List.cons_append, List.nil_append]
  simp only [zput_n, zput_c, zset_1, zset_2, zset_3, zset_4, zset_5, zset_6, zset_7, zset_8, zset_9, zset_10, zset_11, zset_12, zset_13, zset_14, zset_15, zset_16, zset_17, zset_18, zset_19, zset_20, zset_21, zset_22, zset_23, zset_24, zset_25, zset_26, zset_27, zset_28, zset_29, zset_30]
  refine V_aload_n dX11_image_11 rfl ?_
  refine V_iconst (v := nI 1) dX11_image_12 (by decide) ?_
  refine V_put 0 dX11_image_13 fX11_image_21 ft_9_2 rfl (by decide) (by decide) (Nat.le_of_ble_eq_true rfl) ?_
  refine V_aload_n dX11_image_16 rfl ?_
  refine V_get 0 dX11_image_17 fX11_image_12 rfl rfl ?_
  refine V_get 1 dX11_image_20 fX11_image_86 rfl rfl ?_
  refine V_callVpi0 [4] (s_X1_total (d := d - 1) (by omega) ) gX11_image_X1_total dX11_image_23 oX1_total rfl rfl rfl rfl (Nat.le_of_ble_eq_true rfl) (by omega) ⟨Nat.le_refl _, Nat.le_refl _⟩ ?_
  refine V_iret dX11_image_26 rfl (Nat.le_of_ble_eq_true rfl) (Nat.le_refl _) (Nat.le_refl _) ?_
  exact ⟨rfl, rfl⟩
theorem s_X11_undoN (hd : 30 ≤ d) : SpP tO MX11_undo (d, 0, 0) [.ref x0] [obX x0 d0 e0 false t0 g0 p0 r0 l0] (some (.int (-3))) := by
  refine eX11_undo [some (.ref x0)] rfl (Nat.le_of_ble_eq_true rfl) ?_
  refine V_aload_n dX11_undo_0 rfl ?_
  refine V_get 0 dX11_undo_1 fX11_undo_21 rfl rfl ?_
  refine V_if_ne_B 10 dX11_undo_4 (by decide) (fun c => absurd c (by decide)) (fun _ => ?_)
  refine V_bipush (v := (-3)) dX11_undo_7 (by decide) ?_
  exact V_iret dX11_undo_9 rfl (Nat.le_of_ble_eq_true rfl) (Nat.le_refl _) (Nat.le_refl _) ⟨rfl, rfl⟩
theorem s_X11_undo (hd : 30 ≤ d) (h : OKq q2 n2) : SpF tO MX11_undo (d, 0, 0) [.ref x0] (obX x0 d0 e0 true t0 g0 p0 r0 l0 :: (dkW d0 a0 a1 b0 b1 b2 b3 b4 b5 s0 s1 s2 k0 k1 k2 q n m W Hd Im O E ms R Rc mk K Vv ++ dkW e0 f0 f1 c0 c1 c2 c3 c4 c5 y0 y1 y2 z0 z1 z2 q2 n2 m2 W2 (hdF B2) Im2 O2 E2 ms2 R2 Rc2 mk2 K2 V2)) (some (.int (nI m2))) (obX x0 d0 e0 true t0 g0 p0 r0 l0 :: (dkW d0 a0 a1 b0 b1 b2 b3 b4 b5 s0 s1 s2 k0 k1 k2 q2 n2 m2 W2 (hdF B2) Im O2 E2 ms2 R2 Rc mk2 K2 V2 ++ dkW e0 f0 f1 c0 c1 c2 c3 c4 c5 y0 y1 y2 z0 z1 z2 q2 n2 m2 W2 (hdF B2) Im2 O2 E2 ms2 R2 Rc2 mk2 K2 V2)) := by
  refine eX11_undo [some (.ref x0)] rfl (Nat.le_of_ble_eq_true rfl) ?_
  dsimp only [dkW, List.cons_append, List.nil_append]
  refine V_aload_n dX11_undo_0 rfl ?_
  refine V_get 0 dX11_undo_1 fX11_undo_21 rfl rfl ?_
  refine V_if_ne_B 10 dX11_undo_4 (by decide) (fun _ => ?_) (fun c => absurd c (by decide))
  refine V_aload_n dX11_undo_10 rfl ?_
  refine V_get 0 dX11_undo_11 fX11_undo_12 rfl rfl ?_
  refine V_aload_n dX11_undo_14 rfl ?_
  refine V_get 0 dX11_undo_15 fX11_undo_18 rfl rfl ?_
  refine V_callVfv1 [1, 2, 3, 4, 5, 6, 7, 8, 9, 10, 11, 12, 13, 14, 15, 16, 17, 18, 19, 20, 21, 22, 23, 24, 25, 26, 27, 28, 29, 30] (s_X2_copyFrom (d := d - 1) (by omega) h) gX11_undo_X2_copyFrom dX11_undo_18 oX2_copyFrom rfl rfl rfl rfl (Nat.le_of_ble_eq_true rfl) (by omega) ⟨Nat.le_refl _, Nat.le_refl _⟩ ?_
  dsimp only [dkW, List.cons_append, List.nil_append]
  simp only [zput_n, zput_c, zset_1, zset_2, zset_3, zset_4, zset_5, zset_6, zset_7, zset_8, zset_9, zset_10, zset_11, zset_12, zset_13, zset_14, zset_15, zset_16, zset_17, zset_18, zset_19, zset_20, zset_21, zset_22, zset_23, zset_24, zset_25, zset_26, zset_27, zset_28, zset_29, zset_30]
  refine V_aload_n dX11_undo_21 rfl ?_
  refine V_get 0 dX11_undo_22 fX11_undo_12 rfl rfl ?_
  refine V_get 1 dX11_undo_25 fX11_undo_86 rfl rfl ?_
  refine V_callVpi0 [4] (s_X1_total (d := d - 1) (by omega) ) gX11_undo_X1_total dX11_undo_28 oX1_total rfl rfl rfl rfl (Nat.le_of_ble_eq_true rfl) (by omega) ⟨Nat.le_refl _, Nat.le_refl _⟩ ?_
  refine V_iret dX11_undo_31 rfl (Nat.le_of_ble_eq_true rfl) (Nat.le_refl _) (Nat.le_refl _) ?_
  exact ⟨rfl, rfl⟩
theorem s_X11_count (hd : 30 ≤ d) (h : OKq q n) {x : Int32} : SpP tO MX11_count (d, 0, 0) [.ref x0, .int x] [obX x0 d0 e0 tk t0 g0 p0 r0 l0, obD d0 a0 b0 s0 k0, (a0, oB 0 [.ref a1, .int (nI q), .int (nI n), .int (nI (q ^ n))]), (a1, aI 6 (pwF q)), obB b0 b1 b2 b3 b4 b5 a0 m, obS s0 s1 s2 a0 ms, obK k0 k1 k2 a0 mk, obT p0 p1 p2 fl mt, obP r0 r1 mp] (some (.int (coV q n m ms mt mp mk x))) := by
  refine eX11_count [some (.ref x0), some (.int x)] rfl (Nat.le_of_ble_eq_true rfl) ?_
  unfold coV
  refine V_iload_n dX11_count_0 rfl ?_
  refine V_tab9 52 63 74 85 96 107 115 123 134 145 dX11_count_1 (by decide) (by decide) (by decide) (by decide) (by decide) (by decide) (by decide) (by decide) (by decide) (by decide) (fun c_1 => ?_) (fun c_1 => ?_) (fun c_1 => ?_) (fun c_1 => ?_) (fun c_1 => ?_) (fun c_1 => ?_) (fun c_1 => ?_) (fun c_1 => ?_) (fun c_1 => ?_) (fun c_1 => ?_)
  ·
    rw [if_pos (by omega)]
    refine V_aload_n dX11_count_52 rfl ?_
    refine V_get 0 dX11_count_53 fX11_count_12 rfl rfl ?_
    refine V_get 1 dX11_count_56 fX11_count_27 rfl rfl ?_
    refine V_get 2 dX11_count_59 fX11_count_179 rfl rfl ?_
    refine V_iret dX11_count_62 rfl (Nat.le_of_ble_eq_true rfl) (Nat.le_refl _) (Nat.le_refl _) ?_
    exact ⟨rfl, rfl⟩
  ·
    rw [if_neg (by omega), if_pos (by omega)]
    refine V_aload_n dX11_count_63 rfl ?_
    refine V_get 0 dX11_count_64 fX11_count_12 rfl rfl ?_
    refine V_get 1 dX11_count_67 fX11_count_27 rfl rfl ?_
    refine V_get 2 dX11_count_70 fX11_count_109 rfl rfl ?_
    refine V_iret dX11_count_73 rfl (Nat.le_of_ble_eq_true rfl) (Nat.le_refl _) (Nat.le_refl _) ?_
    exact ⟨rfl, rfl⟩
  ·
    rw [if_neg (by omega), if_neg (by omega), if_pos (by omega)]
    refine V_aload_n dX11_count_74 rfl ?_
    refine V_get 0 dX11_count_75 fX11_count_12 rfl rfl ?_
    refine V_get 1 dX11_count_78 fX11_count_27 rfl rfl ?_
    refine V_get 2 dX11_count_81 fX11_count_78 rfl rfl ?_
    refine V_iret dX11_count_84 rfl (Nat.le_of_ble_eq_true rfl) (Nat.le_refl _) (Nat.le_refl _) ?_
    exact ⟨rfl, rfl⟩
  ·
    rw [if_neg (by omega), if_neg (by omega), if_neg (by omega), if_pos (by omega)]
    refine V_aload_n dX11_count_85 rfl ?_
    refine V_get 0 dX11_count_86 fX11_count_12 rfl rfl ?_
    refine V_get 1 dX11_count_89 fX11_count_86 rfl rfl ?_
    refine V_callVpi0 [4] (s_X1_total (d := d - 1) (by omega) ) gX11_count_X1_total dX11_count_92 oX1_total rfl rfl rfl rfl (Nat.le_of_ble_eq_true rfl) (by omega) ⟨Nat.le_refl _, Nat.le_refl _⟩ ?_
    refine V_iret dX11_count_95 rfl (Nat.le_of_ble_eq_true rfl) (Nat.le_refl _) (Nat.le_refl _) ?_
    exact ⟨rfl, rfl⟩
  ·
    rw [if_neg (by omega), if_neg (by omega), if_neg (by omega), if_neg (by omega), if_pos (by omega)]
    refine V_aload_n dX11_count_96 rfl ?_
    refine V_get 0 dX11_count_97 fX11_count_12 rfl rfl ?_
    refine V_get 1 dX11_count_100 fX11_count_182 rfl rfl ?_
    refine V_callVpi0 [5] (s_X9_total (d := d - 1) (by omega) ) gX11_count_X9_total dX11_count_103 oX9_total rfl rfl rfl rfl (Nat.le_of_ble_eq_true rfl) (by omega) ⟨Nat.le_refl _, Nat.le_refl _⟩ ?_
    refine V_iret dX11_count_106 rfl (Nat.le_of_ble_eq_true rfl) (Nat.le_refl _) (Nat.le_refl _) ?_
    exact ⟨rfl, rfl⟩
  ·
    rw [if_neg (by omega), if_neg (by omega), if_neg (by omega), if_neg (by omega), if_neg (by omega), if_pos (by omega)]
    refine V_aload_n dX11_count_107 rfl ?_
    refine V_get 0 dX11_count_108 fX11_count_50 rfl rfl ?_
    refine V_callVpi0 [7] (s_X10_total (d := d - 1) (by omega) ) gX11_count_X10_total dX11_count_111 oX10_total rfl rfl rfl rfl (Nat.le_of_ble_eq_true rfl) (by omega) ⟨Nat.le_refl _, Nat.le_refl _⟩ ?_
    refine V_iret dX11_count_114 rfl (Nat.le_of_ble_eq_true rfl) (Nat.le_refl _) (Nat.le_refl _) ?_
    exact ⟨rfl, rfl⟩
  ·
    rw [if_neg (by omega), if_neg (by omega), if_neg (by omega), if_neg (by omega), if_neg (by omega), if_neg (by omega), if_pos (by omega)]
    refine V_aload_n dX11_count_115 rfl ?_
    refine V_get 0 dX11_count_116 fX11_count_57 rfl rfl ?_
    refine V_callVpi0 [8] (s_X6_total (d := d - 1) (by omega) ) gX11_count_X6_total dX11_count_119 oX6_total rfl rfl rfl rfl (Nat.le_of_ble_eq_true rfl) (by omega) ⟨Nat.le_refl _, Nat.le_refl _⟩ ?_
    refine V_iret dX11_count_122 rfl (Nat.le_of_ble_eq_true rfl) (Nat.le_refl _) (Nat.le_refl _) ?_
    exact ⟨rfl, rfl⟩
  ·
    rw [if_neg (by omega), if_neg (by omega), if_neg (by omega), if_neg (by omega), if_neg (by omega), if_neg (by omega), if_neg (by omega), if_pos (by omega)]
    refine V_aload_n dX11_count_123 rfl ?_
    refine V_get 0 dX11_count_124 fX11_count_12 rfl rfl ?_
    refine V_get 1 dX11_count_127 fX11_count_227 rfl rfl ?_
    refine V_callVpi0 [6] (s_X7_total (d := d - 1) (by omega) ) gX11_count_X7_total dX11_count_130 oX7_total rfl rfl rfl rfl (Nat.le_of_ble_eq_true rfl) (by omega) ⟨Nat.le_refl _, Nat.le_refl _⟩ ?_
    refine V_iret dX11_count_133 rfl (Nat.le_of_ble_eq_true rfl) (Nat.le_refl _) (Nat.le_refl _) ?_
    exact ⟨rfl, rfl⟩
  ·
    rw [if_neg (by omega), if_neg (by omega), if_neg (by omega), if_neg (by omega), if_neg (by omega), if_neg (by omega), if_neg (by omega), if_neg (by omega), if_pos (by omega)]
    refine V_aload_n dX11_count_134 rfl ?_
    refine V_get 0 dX11_count_135 fX11_count_12 rfl rfl ?_
    refine V_get 1 dX11_count_138 fX11_count_27 rfl rfl ?_
    refine V_callVpi0 [2, 3] (s_X0_swaps (d := d - 1) (by omega) h) gX11_count_X0_swaps dX11_count_141 oX0_swaps rfl rfl rfl rfl (Nat.le_of_ble_eq_true rfl) (by omega) ⟨Nat.le_refl _, Nat.le_refl _⟩ ?_
    refine V_iret dX11_count_144 rfl (Nat.le_of_ble_eq_true rfl) (Nat.le_refl _) (Nat.le_refl _) ?_
    exact ⟨rfl, rfl⟩
  ·
    rw [if_neg (by omega), if_neg (by omega), if_neg (by omega), if_neg (by omega), if_neg (by omega), if_neg (by omega), if_neg (by omega), if_neg (by omega), if_neg (by omega)]
    refine V_bipush (v := (-2)) dX11_count_145 (by decide) ?_
    refine V_iret dX11_count_147 rfl (Nat.le_of_ble_eq_true rfl) (Nat.le_refl _) (Nat.le_refl _) ?_
    exact ⟨rfl, rfl⟩
end PUB6

