/-! Desk -/
abbrev dkW (d0 a0 a1 b0 b1 b2 b3 b4 b5 s0 s1 s2 k0 k1 k2 q n m : Nat) (W Hd Im O E : Nat → Int32) (ms : Nat) (R Rc : Nat → Int32) (mk : Nat) (K Vv : Nat → Int32) : zW := [(d0, oB 2 [.ref a0, .ref b0, .ref s0, .ref k0]), (a0, oB 0 [.ref a1, .int (nI q), .int (nI n), .int (nI (q ^ n))]), (a1, aI 6 (pwF q)), obB b0 b1 b2 b3 b4 b5 a0 m, (b1, aI 256 W), (b2, aZ 256 Hd), (b3, aI 256 Im), (b4, aI 162 O), (b5, aI 162 E), obS s0 s1 s2 a0 ms, (s1, aI 40 R), (s2, aI 5 Rc), obK k0 k1 k2 a0 mk, (k1, aI 8 K), (k2, aI 8 Vv)]
section DESK
variable {tO d d0 a0 a1 b0 b1 b2 b3 b4 b5 s0 s1 s2 k0 k1 k2 q n m ms mk : Nat} {W Im O E R Rc K Vv : Nat → Int32} {B : Nat → Bool}
theorem s_X2_beginAnew (hd : 4 ≤ d) {N q' n' : Nat} (h : OKq q' n') (hN : N ≤ 256) (hB : Bk N B W m) : SpF tO MX2_beginAnew (d, 0, 0) [.ref d0, .int (nI q'), .int (nI n')] (dkW d0 a0 a1 b0 b1 b2 b3 b4 b5 s0 s1 s2 k0 k1 k2 q n m W (hdF B) Im O E ms R Rc mk K Vv) none (dkW d0 a0 a1 b0 b1 b2 b3 b4 b5 s0 s1 s2 k0 k1 k2 q' n' 0 W (hdF (fun _ => false)) Im (opF q' n' (fun _ => false)) (enF q' n' (fun _ => false)) 0 R Rc 0 K Vv) := by
  refine eX2_beginAnew [some (.ref d0), some (.int (nI q')), some (.int (nI n'))] rfl (Nat.le_of_ble_eq_true rfl) ?_
  refine V_aload_n dX2_beginAnew_0 rfl ?_
  refine V_get 0 dX2_beginAnew_1 fX2_beginAnew_10 rfl rfl ?_
  refine V_iload_n dX2_beginAnew_4 rfl ?_
  refine V_iload_n dX2_beginAnew_5 rfl ?_
  refine V_callVfv2 [1, 2] (s_X0_become (d := d - 1) (by omega) h) gX2_beginAnew_X0_become dX2_beginAnew_6 oX0_become rfl rfl rfl rfl (Nat.le_of_ble_eq_true rfl) (by omega) ⟨Nat.le_refl _, Nat.le_refl _⟩ ?_
  simp only [zput_n, zput_c, zset_1, zset_2]
  refine V_aload_n dX2_beginAnew_9 rfl ?_
  refine V_get 0 dX2_beginAnew_10 fX2_beginAnew_21 rfl rfl ?_
  refine V_callVfv0 [3, 4, 5, 6, 7, 8, 1, 2] (s_X1_empty (d := d - 1) (by omega) hN hB) gX2_beginAnew_X1_empty dX2_beginAnew_13 oX1_empty rfl rfl rfl rfl (Nat.le_of_ble_eq_true rfl) (by omega) ⟨Nat.le_refl _, Nat.le_refl _⟩ ?_
  simp only [zput_n, zput_c, zset_1, zset_2, zset_3, zset_4, zset_5, zset_6, zset_7, zset_8]
  refine V_aload_n dX2_beginAnew_16 rfl ?_
  refine V_get 0 dX2_beginAnew_17 fX2_beginAnew_28 rfl rfl ?_
  refine V_callVfv0 [9] (s_X9_empty (d := d - 1) (by omega) ) gX2_beginAnew_X9_empty dX2_beginAnew_20 oX9_empty rfl rfl rfl rfl (Nat.le_of_ble_eq_true rfl) (by omega) ⟨Nat.le_refl _, Nat.le_refl _⟩ ?_
  simp only [zput_n, zput_c, zset_9]
  refine V_aload_n dX2_beginAnew_23 rfl ?_
  refine V_get 0 dX2_beginAnew_24 fX2_beginAnew_35 rfl rfl ?_
  refine V_callVfv0 [12] (s_X7_empty (d := d - 1) (by omega) ) gX2_beginAnew_X7_empty dX2_beginAnew_27 oX7_empty rfl rfl rfl rfl (Nat.le_of_ble_eq_true rfl) (by omega) ⟨Nat.le_refl _, Nat.le_refl _⟩ ?_
  simp only [zput_n, zput_c, zset_12]
  refine V_vret dX2_beginAnew_30 rfl (Nat.le_of_ble_eq_true rfl) (Nat.le_refl _) (Nat.le_refl _) ?_
  exact ⟨rfl, rfl⟩
theorem s_X2_copyFrom (hd : 4 ≤ d) {e0 c0 c1 x0 x1 x2 x3 x4 x5 y0 y1 y2 z0 z1 z2 q2 n2 m2 ms2 mk2 : Nat} {W2 Im2 O2 E2 R2 Rc2 K2 V2 Hd : Nat → Int32} {B2 : Nat → Bool} (h : OKq q2 n2) : SpF tO MX2_copyFrom (d, 0, 0) [.ref d0, .ref e0] (dkW d0 a0 a1 b0 b1 b2 b3 b4 b5 s0 s1 s2 k0 k1 k2 q n m W Hd Im O E ms R Rc mk K Vv ++ dkW e0 c0 c1 x0 x1 x2 x3 x4 x5 y0 y1 y2 z0 z1 z2 q2 n2 m2 W2 (hdF B2) Im2 O2 E2 ms2 R2 Rc2 mk2 K2 V2) none (dkW d0 a0 a1 b0 b1 b2 b3 b4 b5 s0 s1 s2 k0 k1 k2 q2 n2 m2 W2 (hdF B2) Im O2 E2 ms2 R2 Rc mk2 K2 V2 ++ dkW e0 c0 c1 x0 x1 x2 x3 x4 x5 y0 y1 y2 z0 z1 z2 q2 n2 m2 W2 (hdF B2) Im2 O2 E2 ms2 R2 Rc2 mk2 K2 V2) := by
  refine eX2_copyFrom [some (.ref d0), some (.ref e0)] rfl (Nat.le_of_ble_eq_true rfl) ?_
  dsimp only [dkW, List.cons_append, List.nil_append]
  refine V_aload_n dX2_copyFrom_0 rfl ?_
  refine V_get 0 dX2_copyFrom_1 fX2_copyFrom_10 rfl rfl ?_
  refine V_aload_n dX2_copyFrom_4 rfl ?_
  refine V_get 15 dX2_copyFrom_5 fX2_copyFrom_10 rfl rfl ?_
  refine V_get 16 dX2_copyFrom_8 fX2_copyFrom_48 rfl rfl ?_
  refine V_aload_n dX2_copyFrom_11 rfl ?_
  refine V_get 15 dX2_copyFrom_12 fX2_copyFrom_10 rfl rfl ?_
  refine V_get 16 dX2_copyFrom_15 fX2_copyFrom_52 rfl rfl ?_
  refine V_callVfv2 [1, 2] (s_X0_become (d := d - 1) (by omega) h) gX2_copyFrom_X0_become dX2_copyFrom_18 oX0_become rfl rfl rfl rfl (Nat.le_of_ble_eq_true rfl) (by omega) ⟨Nat.le_refl _, Nat.le_refl _⟩ ?_
  simp only [zput_n, zput_c, zset_1, zset_2]
  refine V_aload_n dX2_copyFrom_21 rfl ?_
  refine V_get 0 dX2_copyFrom_22 fX2_copyFrom_21 rfl rfl ?_
  refine V_aload_n dX2_copyFrom_25 rfl ?_
  refine V_get 15 dX2_copyFrom_26 fX2_copyFrom_21 rfl rfl ?_
  refine V_callVfv1 [3, 4, 5, 6, 7, 8, 18, 19, 20, 21, 22, 23] (s_X1_copyFrom (d := d - 1) (by omega) ) gX2_copyFrom_X1_copyFrom dX2_copyFrom_29 oX1_copyFrom rfl rfl rfl rfl (Nat.le_of_ble_eq_true rfl) (by omega) ⟨Nat.le_refl _, Nat.le_refl _⟩ ?_
  simp only [zput_n, zput_c, zset_3, zset_4, zset_5, zset_6, zset_7, zset_8, zset_18, zset_19, zset_20, zset_21, zset_22, zset_23]
  refine V_aload_n dX2_copyFrom_32 rfl ?_
  refine V_get 0 dX2_copyFrom_33 fX2_copyFrom_28 rfl rfl ?_
  refine V_aload_n dX2_copyFrom_36 rfl ?_
  refine V_get 15 dX2_copyFrom_37 fX2_copyFrom_28 rfl rfl ?_
  refine V_callVfv1 [9, 10, 24, 25] (s_X9_copyFrom (d := d - 1) (by omega) ) gX2_copyFrom_X9_copyFrom dX2_copyFrom_40 oX9_copyFrom rfl rfl rfl rfl (Nat.le_of_ble_eq_true rfl) (by omega) ⟨Nat.le_refl _, Nat.le_refl _⟩ ?_
  simp only [zput_n, zput_c, zset_9, zset_10, zset_24, zset_25]
  refine V_aload_n dX2_copyFrom_43 rfl ?_
  refine V_get 0 dX2_copyFrom_44 fX2_copyFrom_35 rfl rfl ?_
  refine V_aload_n dX2_copyFrom_47 rfl ?_
  refine V_get 15 dX2_copyFrom_48 fX2_copyFrom_35 rfl rfl ?_
  refine V_callVfv1 [12, 13, 14, 27, 28, 29] (s_X7_copyFrom (d := d - 1) (by omega) ) gX2_copyFrom_X7_copyFrom dX2_copyFrom_51 oX7_copyFrom rfl rfl rfl rfl (Nat.le_of_ble_eq_true rfl) (by omega) ⟨Nat.le_refl _, Nat.le_refl _⟩ ?_
  simp only [zput_n, zput_c, zset_12, zset_13, zset_14, zset_27, zset_28, zset_29]
  refine V_vret dX2_copyFrom_54 rfl (Nat.le_of_ble_eq_true rfl) (Nat.le_refl _) (Nat.le_refl _) ?_
  exact ⟨rfl, rfl⟩
end DESK

