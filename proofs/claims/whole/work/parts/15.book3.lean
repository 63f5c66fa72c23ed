/-! Book: copies, clashes, swaps, letters, draws -/
section BOOK3
variable {tO d q n b0 b1 b2 b3 b4 b5 a0 a1 c0 c1 c2 c3 c4 c5 e0 m : Nat} {W Hd Im O E : Nat → Int32} {B : Nat → Bool}
/-- a book's own cells -/
abbrev bkO (b0 b1 b2 b3 b4 b5 a0 m : Nat) (W Hd Im O E : Nat → Int32) : zW := [obB b0 b1 b2 b3 b4 b5 a0 m, (b1, aI 256 W), (b2, aZ 256 Hd), (b3, aI 256 Im), (b4, aI 162 O), (b5, aI 162 E)]
theorem l_X1_copyFrom {m2 : Nat} {W2 O2 E2 Im2 : Nat → Int32} {B2 : Nat → Bool} (hd : 3 ≤ d) {w0 : zW} (hw0 : w0.length = 12) : ∀ (f i : Nat) (Hc : Nat → Int32), i + f = 256 → (∀ j, j < i → Hc j = hdF B2 j) → V tO MX1_copyFrom (d, 0, 0) w0 (fun v w' => v = none ∧ w' = [obB b0 b1 b2 b3 b4 b5 a0 m2, (b1, aI 256 W2), (b2, aZ 256 (hdF B2)), (b3, aI 256 Im), (b4, aI 162 O2), (b5, aI 162 E2), obB c0 c1 c2 c3 c4 c5 e0 m2, (c1, aI 256 W2), (c2, aZ 256 (hdF B2)), (c3, aI 256 Im2), (c4, aI 162 O2), (c5, aI 162 E2)]) (0, 0) [obB b0 b1 b2 b3 b4 b5 a0 m2, (b1, aI 256 W2), (b2, aZ 256 Hc), (b3, aI 256 Im), (b4, aI 162 O2), (b5, aI 162 E2), obB c0 c1 c2 c3 c4 c5 e0 m2, (c1, aI 256 W2), (c2, aZ 256 (hdF B2)), (c3, aI 256 Im2), (c4, aI 162 O2), (c5, aI 162 E2)] 43 [some (.ref b0), some (.ref c0), some (.int (nI i))] [] := by
  intro f
  induction f with
  | zero =>
    intro i Hc hi h1
    refine V_iload_n dX1_copyFrom_43 rfl ?_
    refine V_aload_n dX1_copyFrom_44 rfl ?_
    refine V_get 0 dX1_copyFrom_45 fX1_copyFrom_19 rfl rfl ?_
    refine V_alen 2 dX1_copyFrom_48 rfl ?_
    refine V_icmp_ge_N 69 dX1_copyFrom_49 (by decide) (by omega) (by omega) (fun c_49 => ?_) (fun c_49 => absurd c_49 (by omega))
    refine V_ag [obB b0 b1 b2 b3 b4 b5 a0 m2, (b1, aI 256 W2), (b2, aZ 256 (hdF B2)), (b3, aI 256 Im), (b4, aI 162 O2), (b5, aI 162 E2), obB c0 c1 c2 c3 c4 c5 e0 m2, (c1, aI 256 W2), (c2, aZ 256 (hdF B2)), (c3, aI 256 Im2), (c4, aI 162 O2), (c5, aI 162 E2)] ⟨_, _, rfl, zAg.self _, _, _, rfl, zAg.self _, _, _, rfl, ⟨_, rfl, fun j hj => h1 j (by omega)⟩, zAgs.self _⟩ ?_
    exact V_vret dX1_copyFrom_69 rfl (by rw [hw0]; exact Nat.le_refl _) (Nat.le_refl _) (Nat.le_refl _) ⟨rfl, rfl⟩
  | succ f ih =>
    intro i Hc hi h1
    refine V_iload_n dX1_copyFrom_43 rfl ?_
    refine V_aload_n dX1_copyFrom_44 rfl ?_
    refine V_get 0 dX1_copyFrom_45 fX1_copyFrom_19 rfl rfl ?_
    refine V_alen 2 dX1_copyFrom_48 rfl ?_
    refine V_icmp_ge_N 69 dX1_copyFrom_49 (by decide) (by omega) (by omega) (fun c_49 => absurd c_49 (by omega)) (fun c_49 => ?_)
    refine V_aload_n dX1_copyFrom_52 rfl ?_
    refine V_get 0 dX1_copyFrom_53 fX1_copyFrom_19 rfl rfl ?_
    refine V_iload_n dX1_copyFrom_56 rfl ?_
    refine V_aload_n dX1_copyFrom_57 rfl ?_
    refine V_iload_n dX1_copyFrom_58 rfl ?_
    refine V_callVpi1 [6, 8] (s_X1_holds (d := d - 1) (by omega) (by omega)) gX1_copyFrom_X1_holds dX1_copyFrom_59 oX1_holds rfl rfl rfl rfl (Nat.le_of_ble_eq_true rfl) (by omega) ⟨Nat.le_refl _, Nat.le_refl _⟩ ?_
    refine V_zast_N 2 dX1_copyFrom_62 rfl (by omega) (by first | decide | omega) (by first | exact Or.inl rfl | exact Or.inr rfl | exact bI_or _) ?_
    first | refine V_iinc_N (i := 1) dX1_copyFrom_63 rfl (by decide) rfl ?_ | refine V_iinc dX1_copyFrom_63 rfl rfl (by decide) rfl ?_
    refine V_goto 43 dX1_copyFrom_66 (by decide) ?_
    exact ih (i + 1) _ (by omega) (fun j hj => upd_copy (f := hdF B2) h1 hj)
theorem s_X1_copyFrom {m2 : Nat} {W2 O2 E2 Im2 : Nat → Int32} {B2 : Nat → Bool} (hd : 3 ≤ d) : SpF tO MX1_copyFrom (d, 0, 0) [.ref b0, .ref c0] [obB b0 b1 b2 b3 b4 b5 a0 m, (b1, aI 256 W), (b2, aZ 256 Hd), (b3, aI 256 Im), (b4, aI 162 O), (b5, aI 162 E), obB c0 c1 c2 c3 c4 c5 e0 m2, (c1, aI 256 W2), (c2, aZ 256 (hdF B2)), (c3, aI 256 Im2), (c4, aI 162 O2), (c5, aI 162 E2)] none [obB b0 b1 b2 b3 b4 b5 a0 m2, (b1, aI 256 W2), (b2, aZ 256 (hdF B2)), (b3, aI 256 Im), (b4, aI 162 O2), (b5, aI 162 E2), obB c0 c1 c2 c3 c4 c5 e0 m2, (c1, aI 256 W2), (c2, aZ 256 (hdF B2)), (c3, aI 256 Im2), (c4, aI 162 O2), (c5, aI 162 E2)] := by
  refine eX1_copyFrom [some (.ref b0), some (.ref c0), none] rfl (Nat.le_of_ble_eq_true rfl) ?_
  refine V_aload_n dX1_copyFrom_0 rfl ?_
  refine V_aload_n dX1_copyFrom_1 rfl ?_
  refine V_get 6 dX1_copyFrom_2 fX1_copyFrom_32 rfl rfl ?_
  refine V_put 0 dX1_copyFrom_5 fX1_copyFrom_32 ft_1_6 rfl rfl rfl (Nat.le_of_ble_eq_true rfl) ?_
  refine V_aload_n dX1_copyFrom_8 rfl ?_
  refine V_get 6 dX1_copyFrom_9 fX1_copyFrom_15 rfl rfl ?_
  refine V_aload_n dX1_copyFrom_12 rfl ?_
  refine V_get 0 dX1_copyFrom_13 fX1_copyFrom_15 rfl rfl ?_
  refine V_callSfv2 [7, 1] (s_X8_copy (d := d - 1) (by omega) (by decide)) gX1_copyFrom_X8_copy dX1_copyFrom_16 oX8_copy rfl rfl (Nat.le_of_ble_eq_true rfl) (by omega) ⟨Nat.le_refl _, Nat.le_refl _⟩ ?_
  simp only [zput_n, zput_c, zset_1, zset_7]
  refine V_aload_n dX1_copyFrom_19 rfl ?_
  refine V_get 6 dX1_copyFrom_20 fX1_copyFrom_26 rfl rfl ?_
  refine V_aload_n dX1_copyFrom_23 rfl ?_
  refine V_get 0 dX1_copyFrom_24 fX1_copyFrom_26 rfl rfl ?_
  refine V_callSfv2 [10, 4] (s_X8_copy (d := d - 1) (by omega) (by decide)) gX1_copyFrom_X8_copy dX1_copyFrom_27 oX8_copy rfl rfl (Nat.le_of_ble_eq_true rfl) (by omega) ⟨Nat.le_refl _, Nat.le_refl _⟩ ?_
  simp only [zput_n, zput_c, zset_4, zset_10]
  refine V_aload_n dX1_copyFrom_30 rfl ?_
  refine V_get 6 dX1_copyFrom_31 fX1_copyFrom_29 rfl rfl ?_
  refine V_aload_n dX1_copyFrom_34 rfl ?_
  refine V_get 0 dX1_copyFrom_35 fX1_copyFrom_29 rfl rfl ?_
  refine V_callSfv2 [11, 5] (s_X8_copy (d := d - 1) (by omega) (by decide)) gX1_copyFrom_X8_copy dX1_copyFrom_38 oX8_copy rfl rfl (Nat.le_of_ble_eq_true rfl) (by omega) ⟨Nat.le_refl _, Nat.le_refl _⟩ ?_
  simp only [zput_n, zput_c, zset_5, zset_11]
  refine V_iconst (v := nI 0) dX1_copyFrom_41 (by decide) ?_
  refine V_istore_n dX1_copyFrom_42 (by decide) rfl ?_
  exact l_X1_copyFrom hd rfl 256 0 Hd (by omega) (fun j hj => by omega)
theorem l_X1_firstHiding (hd : 4 ≤ d) (h : OKq q n) (hB : Bk (q ^ n) B W m) {u v : Nat} (hu : u < q ^ n) (hv : v < q ^ n) : ∀ (f k : Nat), k + f = n → V tO MX1_firstHiding (d, 0, 0) (bkW b0 b1 b2 b3 b4 b5 a0 a1 q n B m W Im) (fun v' w' => v' = some (.int (nI (fhN q n B u v f k))) ∧ w' = bkW b0 b1 b2 b3 b4 b5 a0 a1 q n B m W Im) (0, 0) (bkW b0 b1 b2 b3 b4 b5 a0 a1 q n B m W Im) 2 [some (.ref b0), some (.int (nI u)), some (.int (nI v)), some (.int (nI k))] [] := by
  have hn := h.2.2.2.1
  have hN := h.2.2.2.2
  intro f
  induction f with
  | zero =>
    intro k hk
    refine V_iload_n dX1_firstHiding_2 rfl ?_
    refine V_aload_n dX1_firstHiding_3 rfl ?_
    refine V_get 0 dX1_firstHiding_4 fX1_firstHiding_9 rfl rfl ?_
    refine V_get 6 dX1_firstHiding_7 fX1_firstHiding_75 rfl rfl ?_
    refine V_icmp_ge_N 38 dX1_firstHiding_10 (by decide) (by omega) (by omega) (fun c_10 => ?_) (fun c_10 => absurd c_10 (by omega))
    refine V_iconst (v := nI 0) dX1_firstHiding_38 (by decide) ?_
    refine V_iret dX1_firstHiding_39 rfl (Nat.le_of_ble_eq_true rfl) (Nat.le_refl _) (Nat.le_refl _) ?_
    exact ⟨rfl, rfl⟩
  | succ f ih =>
    intro k hk
    rw [fhN]
    have hlt := wAc_lt (u := u) h (show k ≤ n by omega) hv
    refine V_iload_n dX1_firstHiding_2 rfl ?_
    refine V_aload_n dX1_firstHiding_3 rfl ?_
    refine V_get 0 dX1_firstHiding_4 fX1_firstHiding_9 rfl rfl ?_
    refine V_get 6 dX1_firstHiding_7 fX1_firstHiding_75 rfl rfl ?_
    refine V_icmp_ge_N 38 dX1_firstHiding_10 (by decide) (by omega) (by omega) (fun c_10 => absurd c_10 (by omega)) (fun c_10 => ?_)
    refine V_aload_n dX1_firstHiding_13 rfl ?_
    refine V_aload_n dX1_firstHiding_14 rfl ?_
    refine V_get 0 dX1_firstHiding_15 fX1_firstHiding_9 rfl rfl ?_
    refine V_iload_n dX1_firstHiding_18 rfl ?_
    refine V_iload_n dX1_firstHiding_19 rfl ?_
    refine V_iload_n dX1_firstHiding_20 rfl ?_
    refine V_callVpi3 [6, 7] (s_X0_across (d := d - 1) (by omega) h hu hv (by omega)) gX1_firstHiding_X0_across dX1_firstHiding_21 oX0_across rfl rfl rfl rfl (Nat.le_of_ble_eq_true rfl) (by omega) ⟨Nat.le_refl _, Nat.le_refl _⟩ ?_
    refine V_callVpi1 [0, 2] (s_X1_holds (d := d - 1) (by omega) (by omega)) gX1_firstHiding_X1_holds dX1_firstHiding_24 oX1_holds rfl rfl rfl rfl (Nat.le_of_ble_eq_true rfl) (by omega) ⟨Nat.le_refl _, Nat.le_refl _⟩ ?_
    first | refine V_if_eq_B 32 dX1_firstHiding_27 (by decide) (fun c_27 => ?_) (fun c_27 => ?_) | refine V_if_eq_N 32 dX1_firstHiding_27 (by decide) (by omega) (fun c_27 => ?_) (fun c_27 => ?_) | refine V_if_eq 32 dX1_firstHiding_27 (by decide) (fun c_27 => ?_) (fun c_27 => ?_)
    ·
      rw [if_neg (by rw [c_27]; exact Bool.false_ne_true)]
      first | refine V_iinc_N (i := 1) dX1_firstHiding_32 rfl (by decide) rfl ?_ | refine V_iinc dX1_firstHiding_32 rfl rfl (by decide) rfl ?_
      refine V_goto 2 dX1_firstHiding_35 (by decide) ?_
      exact ih (k + 1) (by omega)
    ·
      rw [if_pos c_27]
      refine V_iload_n dX1_firstHiding_30 rfl ?_
      refine V_iret dX1_firstHiding_31 rfl (Nat.le_of_ble_eq_true rfl) (Nat.le_refl _) (Nat.le_refl _) ?_
      exact ⟨rfl, rfl⟩
theorem s_X1_firstHiding (hd : 4 ≤ d) (h : OKq q n) (hB : Bk (q ^ n) B W m) {u v : Nat} (hu : u < q ^ n) (hv : v < q ^ n) : SpP tO MX1_firstHiding (d, 0, 0) [.ref b0, .int (nI u), .int (nI v)] (bkW b0 b1 b2 b3 b4 b5 a0 a1 q n B m W Im) (some (.int (nI (fhN q n B u v (n - 1) 1)))) := by
  refine eX1_firstHiding [some (.ref b0), some (.int (nI u)), some (.int (nI v)), none] rfl (Nat.le_of_ble_eq_true rfl) ?_
  have hn := h.2.2.1
  refine V_iconst (v := nI 1) dX1_firstHiding_0 (by decide) ?_
  refine V_istore_n dX1_firstHiding_1 (by decide) rfl ?_
  exact l_X1_firstHiding hd h hB hu hv (n - 1) 1 (by omega)
theorem s_X1_firstClash (hd : 5 ≤ d) (h : OKq q n) (hB : Bk (q ^ n) B W m) {u v k c : Nat} (hc : IsCl q n B u v k) (hc3 : c ≤ 3) : SpP tO MX1_firstClash (d, 0, 0) [.ref b0, .int (nI c)] (bkW b0 b1 b2 b3 b4 b5 a0 a1 q n B m W Im) (some (.int (nI (clV q n u v k c)))) := by
  refine eX1_firstClash [some (.ref b0), some (.int (nI c)), none, none, none] rfl (Nat.le_of_ble_eq_true rfl) ?_
  have hn := h.2.2.2.1
  have hN := h.2.2.2.2
  have hm := hB.len
  obtain ⟨hb1, g, hg, hg2⟩ := id hB
  obtain ⟨hu, hv, hk1, hk2, hx, hy, hz, ht⟩ := hc
  obtain ⟨iu, hiu, rfl⟩ := (hg.2 u).mp hu
  obtain ⟨jv, hjv, rfl⟩ := (hg.2 v).mp hv
  have gl : ∀ i, i < m → g i < q ^ n := fun i hi => hb1 _ (hg.mem hi)
  -- the inner loop where the clash lies
  have last : ∀ (f j : Nat), j + f = jv → V tO MX1_firstClash (d, 0, 0) (bkW b0 b1 b2 b3 b4 b5 a0 a1 q n B m W Im) (fun v' w' => v' = some (.int (nI (clV q n (g iu) (g jv) k c))) ∧ w' = bkW b0 b1 b2 b3 b4 b5 a0 a1 q n B m W Im) (0, 0) (bkW b0 b1 b2 b3 b4 b5 a0 a1 q n B m W Im) 12 [some (.ref b0), some (.int (nI c)), some (.int (nI iu)), some (.int (nI j)), none] [] := by
    intro f
    induction f with
    | zero =>
      intro j hj
      have e : j = jv := by omega
      subst e
      have e2 : fhN q n B (g iu) (g j) (n - 1) 1 = k := fhN_at hx hk1 (by omega) hy
      have hacl := wAc_lt (u := g iu) h (show k ≤ n by omega) (gl j hjv)
      refine V_iload_n dX1_firstClash_12 rfl ?_
      refine V_aload_n dX1_firstClash_13 rfl ?_
      refine V_get 0 dX1_firstClash_14 fX1_firstClash_32 rfl rfl ?_
      refine V_icmp_ge_N 109 dX1_firstClash_17 (by decide) (by omega) (by omega) (fun c_17 => absurd c_17 (by omega)) (fun c_17 => ?_)
      refine V_aload_n dX1_firstClash_20 rfl ?_
      refine V_aload_n dX1_firstClash_21 rfl ?_
      refine V_iload_n dX1_firstClash_22 rfl ?_
      refine V_callVpi1 [0, 1] (s_X1_nth (d := d - 1) (by omega) (by omega)) gX1_firstClash_X1_nth dX1_firstClash_23 oX1_nth rfl rfl rfl rfl (Nat.le_of_ble_eq_true rfl) (by omega) ⟨Nat.le_refl _, Nat.le_refl _⟩ ?_
      rw [hg2 iu hiu]
      refine V_aload_n dX1_firstClash_26 rfl ?_
      refine V_iload_n dX1_firstClash_27 rfl ?_
      refine V_callVpi1 [0, 1] (s_X1_nth (d := d - 1) (by omega) (by omega)) gX1_firstClash_X1_nth dX1_firstClash_28 oX1_nth rfl rfl rfl rfl (Nat.le_of_ble_eq_true rfl) (by omega) ⟨Nat.le_refl _, Nat.le_refl _⟩ ?_
      rw [hg2 j hjv]
      refine V_callVpi2 [0, 1, 2, 3, 4, 5, 6, 7] (s_X1_firstHiding (d := d - 1) (by omega) h hB (gl iu hiu) (gl j hjv)) gX1_firstClash_X1_firstHiding dX1_firstClash_31 oX1_firstHiding rfl rfl rfl rfl (Nat.le_of_ble_eq_true rfl) (by omega) ⟨Nat.le_refl _, Nat.le_refl _⟩ ?_
      rw [e2]
      refine V_istore dX1_firstClash_34 (by decide) rfl ?_
      refine V_iload dX1_firstClash_36 rfl ?_
      refine V_if_le_N 103 dX1_firstClash_38 (by decide) (by omega) (fun c_38 => absurd c_38 (by omega)) (fun c_38 => ?_)
      refine V_iload_n dX1_firstClash_41 rfl ?_
      refine V_tab3 68 74 80 83 dX1_firstClash_42 (by decide) (by decide) (by decide) (by decide) (fun c_42 => ?_) (fun c_42 => ?_) (fun c_42 => ?_) (fun c_42 => ?_)
      ·
        have ec : c = 0 := by rw [nI_toInt (by omega)] at c_42; omega
        refine V_aload_n dX1_firstClash_68 rfl ?_
        refine V_iload_n dX1_firstClash_69 rfl ?_
        refine V_callVpi1 [0, 1] (s_X1_nth (d := d - 1) (by omega) (by omega)) gX1_firstClash_X1_nth dX1_firstClash_70 oX1_nth rfl rfl rfl rfl (Nat.le_of_ble_eq_true rfl) (by omega) ⟨Nat.le_refl _, Nat.le_refl _⟩ ?_
        rw [hg2 iu hiu]
        refine V_iret dX1_firstClash_73 rfl (Nat.le_of_ble_eq_true rfl) (Nat.le_refl _) (Nat.le_refl _) ?_
        exact ⟨by rw [ec]; rfl, rfl⟩
      ·
        have ec : c = 1 := by rw [nI_toInt (by omega)] at c_42; omega
        refine V_aload_n dX1_firstClash_74 rfl ?_
        refine V_iload_n dX1_firstClash_75 rfl ?_
        refine V_callVpi1 [0, 1] (s_X1_nth (d := d - 1) (by omega) (by omega)) gX1_firstClash_X1_nth dX1_firstClash_76 oX1_nth rfl rfl rfl rfl (Nat.le_of_ble_eq_true rfl) (by omega) ⟨Nat.le_refl _, Nat.le_refl _⟩ ?_
        rw [hg2 j hjv]
        refine V_iret dX1_firstClash_79 rfl (Nat.le_of_ble_eq_true rfl) (Nat.le_refl _) (Nat.le_refl _) ?_
        exact ⟨by rw [ec]; rfl, rfl⟩
      ·
        have ec : c = 2 := by rw [nI_toInt (by omega)] at c_42; omega
        refine V_iload dX1_firstClash_80 rfl ?_
        refine V_iret dX1_firstClash_82 rfl (Nat.le_of_ble_eq_true rfl) (Nat.le_refl _) (Nat.le_refl _) ?_
        exact ⟨by rw [ec]; rfl, rfl⟩
      ·
        have ec : c = 3 := by rw [nI_toInt (by omega)] at c_42; omega
        refine V_aload_n dX1_firstClash_83 rfl ?_
        refine V_get 0 dX1_firstClash_84 fX1_firstClash_9 rfl rfl ?_
        refine V_aload_n dX1_firstClash_87 rfl ?_
        refine V_iload_n dX1_firstClash_88 rfl ?_
        refine V_callVpi1 [0, 1] (s_X1_nth (d := d - 1) (by omega) (by omega)) gX1_firstClash_X1_nth dX1_firstClash_89 oX1_nth rfl rfl rfl rfl (Nat.le_of_ble_eq_true rfl) (by omega) ⟨Nat.le_refl _, Nat.le_refl _⟩ ?_
        rw [hg2 iu hiu]
        refine V_aload_n dX1_firstClash_92 rfl ?_
        refine V_iload_n dX1_firstClash_93 rfl ?_
        refine V_callVpi1 [0, 1] (s_X1_nth (d := d - 1) (by omega) (by omega)) gX1_firstClash_X1_nth dX1_firstClash_94 oX1_nth rfl rfl rfl rfl (Nat.le_of_ble_eq_true rfl) (by omega) ⟨Nat.le_refl _, Nat.le_refl _⟩ ?_
        rw [hg2 j hjv]
        refine V_iload dX1_firstClash_97 rfl ?_
        refine V_callVpi3 [6, 7] (s_X0_across (d := d - 1) (by omega) h (gl iu hiu) (gl j hjv) (by omega)) gX1_firstClash_X0_across dX1_firstClash_99 oX0_across rfl rfl rfl rfl (Nat.le_of_ble_eq_true rfl) (by omega) ⟨Nat.le_refl _, Nat.le_refl _⟩ ?_
        refine V_iret dX1_firstClash_102 rfl (Nat.le_of_ble_eq_true rfl) (Nat.le_refl _) (Nat.le_refl _) ?_
        exact ⟨by rw [ec]; rfl, rfl⟩
    | succ f ih =>
      intro j hj
      have e2 : fhN q n B (g iu) (g j) (n - 1) 1 = 0 := (fhN_0 (Nat.le_refl _)).mpr (fun i h1 h2 => hz (g j) (hg.mem (by omega)) (hg.1 j jv (by omega) hjv) i h1 (by omega))
      refine V_iload_n dX1_firstClash_12 rfl ?_
      refine V_aload_n dX1_firstClash_13 rfl ?_
      refine V_get 0 dX1_firstClash_14 fX1_firstClash_32 rfl rfl ?_
      refine V_icmp_ge_N 109 dX1_firstClash_17 (by decide) (by omega) (by omega) (fun c_17 => absurd c_17 (by omega)) (fun c_17 => ?_)
      refine V_aload_n dX1_firstClash_20 rfl ?_
      refine V_aload_n dX1_firstClash_21 rfl ?_
      refine V_iload_n dX1_firstClash_22 rfl ?_
      refine V_callVpi1 [0, 1] (s_X1_nth (d := d - 1) (by omega) (by omega)) gX1_firstClash_X1_nth dX1_firstClash_23 oX1_nth rfl rfl rfl rfl (Nat.le_of_ble_eq_true rfl) (by omega) ⟨Nat.le_refl _, Nat.le_refl _⟩ ?_
      rw [hg2 iu hiu]
      refine V_aload_n dX1_firstClash_26 rfl ?_
      refine V_iload_n dX1_firstClash_27 rfl ?_
      refine V_callVpi1 [0, 1] (s_X1_nth (d := d - 1) (by omega) (by omega)) gX1_firstClash_X1_nth dX1_firstClash_28 oX1_nth rfl rfl rfl rfl (Nat.le_of_ble_eq_true rfl) (by omega) ⟨Nat.le_refl _, Nat.le_refl _⟩ ?_
      rw [hg2 j (by omega)]
      refine V_callVpi2 [0, 1, 2, 3, 4, 5, 6, 7] (s_X1_firstHiding (d := d - 1) (by omega) h hB (gl iu hiu) (gl j (by omega))) gX1_firstClash_X1_firstHiding dX1_firstClash_31 oX1_firstHiding rfl rfl rfl rfl (Nat.le_of_ble_eq_true rfl) (by omega) ⟨Nat.le_refl _, Nat.le_refl _⟩ ?_
      rw [e2]
      refine V_istore dX1_firstClash_34 (by decide) rfl ?_
      refine V_iload dX1_firstClash_36 rfl ?_
      refine V_if_le_N 103 dX1_firstClash_38 (by decide) (by omega) (fun c_38 => ?_) (fun c_38 => absurd c_38 (by omega))
      first | refine V_iinc_N (i := 1) dX1_firstClash_103 rfl (by decide) rfl ?_ | refine V_iinc dX1_firstClash_103 rfl rfl (by decide) rfl ?_
      refine V_goto 12 dX1_firstClash_106 (by decide) ?_
      exact V_wk [some (.ref b0), some (.int (nI c)), some (.int (nI iu)), some (.int (nI (j + 1))), none] ⟨rfl, rfl, rfl, rfl, trivial, trivial⟩ (ih (j + 1) (by omega))
  -- the inner loop ahead of it
  have skip : ∀ (i : Nat), i < iu → V tO MX1_firstClash (d, 0, 0) (bkW b0 b1 b2 b3 b4 b5 a0 a1 q n B m W Im) (fun v' w' => v' = some (.int (nI (clV q n (g iu) (g jv) k c))) ∧ w' = bkW b0 b1 b2 b3 b4 b5 a0 a1 q n B m W Im) (0, 0) (bkW b0 b1 b2 b3 b4 b5 a0 a1 q n B m W Im) 2 [some (.ref b0), some (.int (nI c)), some (.int (nI (i + 1))), none, none] [] → ∀ (f j : Nat), j + f = m → V tO MX1_firstClash (d, 0, 0) (bkW b0 b1 b2 b3 b4 b5 a0 a1 q n B m W Im) (fun v' w' => v' = some (.int (nI (clV q n (g iu) (g jv) k c))) ∧ w' = bkW b0 b1 b2 b3 b4 b5 a0 a1 q n B m W Im) (0, 0) (bkW b0 b1 b2 b3 b4 b5 a0 a1 q n B m W Im) 12 [some (.ref b0), some (.int (nI c)), some (.int (nI i)), some (.int (nI j)), none] [] := by
    intro i hi next f
    induction f with
    | zero =>
      intro j hj
      refine V_iload_n dX1_firstClash_12 rfl ?_
      refine V_aload_n dX1_firstClash_13 rfl ?_
      refine V_get 0 dX1_firstClash_14 fX1_firstClash_32 rfl rfl ?_
      refine V_icmp_ge_N 109 dX1_firstClash_17 (by decide) (by omega) (by omega) (fun c_17 => ?_) (fun c_17 => absurd c_17 (by omega))
      first | refine V_iinc_N (i := 1) dX1_firstClash_109 rfl (by decide) rfl ?_ | refine V_iinc dX1_firstClash_109 rfl rfl (by decide) rfl ?_
      refine V_goto 2 dX1_firstClash_112 (by decide) ?_
      exact V_wk [some (.ref b0), some (.int (nI c)), some (.int (nI (i + 1))), none, none] ⟨rfl, rfl, rfl, trivial, trivial, trivial⟩ next
    | succ f ih =>
      intro j hj
      have e2 : fhN q n B (g i) (g j) (n - 1) 1 = 0 := (fhN_0 (Nat.le_refl _)).mpr (fun a h1 h2 => ht (g i) (hg.mem (by omega)) (hg.1 i iu hi hiu) (g j) (hg.mem (by omega)) a h1 (by omega))
      refine V_iload_n dX1_firstClash_12 rfl ?_
      refine V_aload_n dX1_firstClash_13 rfl ?_
      refine V_get 0 dX1_firstClash_14 fX1_firstClash_32 rfl rfl ?_
      refine V_icmp_ge_N 109 dX1_firstClash_17 (by decide) (by omega) (by omega) (fun c_17 => absurd c_17 (by omega)) (fun c_17 => ?_)
      refine V_aload_n dX1_firstClash_20 rfl ?_
      refine V_aload_n dX1_firstClash_21 rfl ?_
      refine V_iload_n dX1_firstClash_22 rfl ?_
      refine V_callVpi1 [0, 1] (s_X1_nth (d := d - 1) (by omega) (by omega)) gX1_firstClash_X1_nth dX1_firstClash_23 oX1_nth rfl rfl rfl rfl (Nat.le_of_ble_eq_true rfl) (by omega) ⟨Nat.le_refl _, Nat.le_refl _⟩ ?_
      rw [hg2 i (by omega)]
      refine V_aload_n dX1_firstClash_26 rfl ?_
      refine V_iload_n dX1_firstClash_27 rfl ?_
      refine V_callVpi1 [0, 1] (s_X1_nth (d := d - 1) (by omega) (by omega)) gX1_firstClash_X1_nth dX1_firstClash_28 oX1_nth rfl rfl rfl rfl (Nat.le_of_ble_eq_true rfl) (by omega) ⟨Nat.le_refl _, Nat.le_refl _⟩ ?_
      rw [hg2 j (by omega)]
      refine V_callVpi2 [0, 1, 2, 3, 4, 5, 6, 7] (s_X1_firstHiding (d := d - 1) (by omega) h hB (gl i (by omega)) (gl j (by omega))) gX1_firstClash_X1_firstHiding dX1_firstClash_31 oX1_firstHiding rfl rfl rfl rfl (Nat.le_of_ble_eq_true rfl) (by omega) ⟨Nat.le_refl _, Nat.le_refl _⟩ ?_
      rw [e2]
      refine V_istore dX1_firstClash_34 (by decide) rfl ?_
      refine V_iload dX1_firstClash_36 rfl ?_
      refine V_if_le_N 103 dX1_firstClash_38 (by decide) (by omega) (fun c_38 => ?_) (fun c_38 => absurd c_38 (by omega))
      first | refine V_iinc_N (i := 1) dX1_firstClash_103 rfl (by decide) rfl ?_ | refine V_iinc dX1_firstClash_103 rfl rfl (by decide) rfl ?_
      refine V_goto 12 dX1_firstClash_106 (by decide) ?_
      exact V_wk [some (.ref b0), some (.int (nI c)), some (.int (nI i)), some (.int (nI (j + 1))), none] ⟨rfl, rfl, rfl, rfl, trivial, trivial⟩ (ih (j + 1) (by omega))
  have outer : ∀ (f i : Nat), i + f = iu → V tO MX1_firstClash (d, 0, 0) (bkW b0 b1 b2 b3 b4 b5 a0 a1 q n B m W Im) (fun v' w' => v' = some (.int (nI (clV q n (g iu) (g jv) k c))) ∧ w' = bkW b0 b1 b2 b3 b4 b5 a0 a1 q n B m W Im) (0, 0) (bkW b0 b1 b2 b3 b4 b5 a0 a1 q n B m W Im) 2 [some (.ref b0), some (.int (nI c)), some (.int (nI i)), none, none] [] := by
    intro f
    induction f with
    | zero =>
      intro i hi
      have e : i = iu := by omega
      subst e
      refine V_iload_n dX1_firstClash_2 rfl ?_
      refine V_aload_n dX1_firstClash_3 rfl ?_
      refine V_get 0 dX1_firstClash_4 fX1_firstClash_32 rfl rfl ?_
      refine V_icmp_ge_N 115 dX1_firstClash_7 (by decide) (by omega) (by omega) (fun c_7 => absurd c_7 (by omega)) (fun c_7 => ?_)
      refine V_iconst (v := nI 0) dX1_firstClash_10 (by decide) ?_
      refine V_istore_n dX1_firstClash_11 (by decide) rfl ?_
      exact last jv 0 (by omega)
    | succ f ih =>
      intro i hi
      refine V_iload_n dX1_firstClash_2 rfl ?_
      refine V_aload_n dX1_firstClash_3 rfl ?_
      refine V_get 0 dX1_firstClash_4 fX1_firstClash_32 rfl rfl ?_
      refine V_icmp_ge_N 115 dX1_firstClash_7 (by decide) (by omega) (by omega) (fun c_7 => absurd c_7 (by omega)) (fun c_7 => ?_)
      refine V_iconst (v := nI 0) dX1_firstClash_10 (by decide) ?_
      refine V_istore_n dX1_firstClash_11 (by decide) rfl ?_
      exact skip i (by omega) (ih (i + 1) (by omega)) m 0 (by omega)
  refine V_iconst (v := nI 0) dX1_firstClash_0 (by decide) ?_
  refine V_istore_n dX1_firstClash_1 (by decide) rfl ?_
  exact outer iu 0 (by omega)
theorem l_X1_isKeptBy (hd : 4 ≤ d) (h : OKq q n) {s : Nat} (hs : s < nSw q) {g : Nat → Nat} (hm : m ≤ 256) (hg : SE B g m) (hg2 : ∀ i, i < m → W i = nI (g i)) (hB : ∀ w, B w = true → w < q ^ n) : ∀ (f i : Nat), i + f = m → (∀ j, j < i → B (wEx q n s (g j)) = true) → V tO MX1_isKeptBy (d, 0, 0) (bkW b0 b1 b2 b3 b4 b5 a0 a1 q n B m W Im) (fun v w' => v = some (.int (bI (dB (∀ w, B w = true → B (wEx q n s w) = true)))) ∧ w' = bkW b0 b1 b2 b3 b4 b5 a0 a1 q n B m W Im) (0, 0) (bkW b0 b1 b2 b3 b4 b5 a0 a1 q n B m W Im) 2 [some (.ref b0), some (.int (nI s)), some (.int (nI i))] [] := by
  have hN := h.2.2.2.2
  intro f
  induction f with
  | zero =>
    intro i hi h1
    refine V_iload_n dX1_isKeptBy_2 rfl ?_
    refine V_aload_n dX1_isKeptBy_3 rfl ?_
    refine V_get 0 dX1_isKeptBy_4 fX1_isKeptBy_32 rfl rfl ?_
    refine V_icmp_ge_N 38 dX1_isKeptBy_7 (by decide) (by omega) (by omega) (fun c_7 => ?_) (fun c_7 => absurd c_7 (by omega))
    refine V_iconst (v := nI 1) dX1_isKeptBy_38 (by decide) ?_
    refine V_zret dX1_isKeptBy_39 rfl (by first | exact Or.inl rfl | exact Or.inr rfl | exact bI_or _) (Nat.le_of_ble_eq_true rfl) (Nat.le_refl _) (Nat.le_refl _) ?_
    exact ⟨by rw [show dB (∀ w, B w = true → B (wEx q n s w) = true) = true from dB_t.mpr (fun w hw => by obtain ⟨j, hj, rfl⟩ := (hg.2 w).mp hw; exact h1 j (by omega))]; rfl, rfl⟩
  | succ f ih =>
    intro i hi h1
    have hx := wEx_lt (w := g i) h hs
    refine V_iload_n dX1_isKeptBy_2 rfl ?_
    refine V_aload_n dX1_isKeptBy_3 rfl ?_
    refine V_get 0 dX1_isKeptBy_4 fX1_isKeptBy_32 rfl rfl ?_
    refine V_icmp_ge_N 38 dX1_isKeptBy_7 (by decide) (by omega) (by omega) (fun c_7 => absurd c_7 (by omega)) (fun c_7 => ?_)
    refine V_aload_n dX1_isKeptBy_10 rfl ?_
    refine V_aload_n dX1_isKeptBy_11 rfl ?_
    refine V_get 0 dX1_isKeptBy_12 fX1_isKeptBy_9 rfl rfl ?_
    refine V_iload_n dX1_isKeptBy_15 rfl ?_
    refine V_aload_n dX1_isKeptBy_16 rfl ?_
    refine V_iload_n dX1_isKeptBy_17 rfl ?_
    refine V_callVpi1 [0, 1] (s_X1_nth (d := d - 1) (by omega) (by omega)) gX1_isKeptBy_X1_nth dX1_isKeptBy_18 oX1_nth rfl rfl rfl rfl (Nat.le_of_ble_eq_true rfl) (by omega) ⟨Nat.le_refl _, Nat.le_refl _⟩ ?_
    rw [hg2 i (by omega)]
    refine V_callVpi2 [6, 7] (s_X0_exchanged (d := d - 1) (by omega) h hs (hB _ (hg.mem (by omega)))) gX1_isKeptBy_X0_exchanged dX1_isKeptBy_21 oX0_exchanged rfl rfl rfl rfl (Nat.le_of_ble_eq_true rfl) (by omega) ⟨Nat.le_refl _, Nat.le_refl _⟩ ?_
    refine V_callVpi1 [0, 2] (s_X1_holds (d := d - 1) (by omega) (by omega)) gX1_isKeptBy_X1_holds dX1_isKeptBy_24 oX1_holds rfl rfl rfl rfl (Nat.le_of_ble_eq_true rfl) (by omega) ⟨Nat.le_refl _, Nat.le_refl _⟩ ?_
    first | refine V_if_ne_B 32 dX1_isKeptBy_27 (by decide) (fun c_27 => ?_) (fun c_27 => ?_) | refine V_if_ne_N 32 dX1_isKeptBy_27 (by decide) (by omega) (fun c_27 => ?_) (fun c_27 => ?_) | refine V_if_ne 32 dX1_isKeptBy_27 (by decide) (fun c_27 => ?_) (fun c_27 => ?_)
    ·
      first | refine V_iinc_N (i := 1) dX1_isKeptBy_32 rfl (by decide) rfl ?_ | refine V_iinc dX1_isKeptBy_32 rfl rfl (by decide) rfl ?_
      refine V_goto 2 dX1_isKeptBy_35 (by decide) ?_
      exact ih (i + 1) (by omega) (fun j hj => by by_cases e : j = i; subst e; exact c_27; exact h1 j (by omega))
    ·
      refine V_iconst (v := nI 0) dX1_isKeptBy_30 (by decide) ?_
      refine V_zret dX1_isKeptBy_31 rfl (by first | exact Or.inl rfl | exact Or.inr rfl | exact bI_or _) (Nat.le_of_ble_eq_true rfl) (Nat.le_refl _) (Nat.le_refl _) ?_
      exact ⟨by rw [show dB (∀ w, B w = true → B (wEx q n s w) = true) = false from dB_f.mpr (fun hh => by have := hh _ (hg.mem (i := i) (by omega)); rw [c_27] at this; cases this)]; rfl, rfl⟩
theorem s_X1_isKeptBy (hd : 4 ≤ d) (h : OKq q n) (hB : Bk (q ^ n) B W m) {s : Nat} (hs : s < nSw q) : SpP tO MX1_isKeptBy (d, 0, 0) [.ref b0, .int (nI s)] (bkW b0 b1 b2 b3 b4 b5 a0 a1 q n B m W Im) (some (.int (bI (dB (∀ w, B w = true → B (wEx q n s w) = true))))) := by
  refine eX1_isKeptBy [some (.ref b0), some (.int (nI s)), none] rfl (Nat.le_of_ble_eq_true rfl) ?_
  have hm := (hB.mono h.2.2.2.2).len
  obtain ⟨h1, g, h2, h3⟩ := hB
  refine V_iconst (v := nI 0) dX1_isKeptBy_0 (by decide) ?_
  refine V_istore_n dX1_isKeptBy_1 (by decide) rfl ?_
  exact l_X1_isKeptBy hd h hs hm h2 h3 h1 m 0 (by omega) (fun j hj => by omega)
theorem l_X1_fits (hd : 3 ≤ d) (h : OKq q n) {z c p x5 : Nat} (hz : z < 2 ^ 31) (hc : c ≤ 5) (hp : p < n) {g : Nat → Nat} (hm : m ≤ 256) (hg : SE B g m) (hg2 : ∀ i, i < m → W i = nI (g i)) (hB : ∀ w, B w = true → w < q ^ n) : ∀ (f i : Nat), i + f = m → (∀ j, j < i → ¬ g j / q ^ (n - 1 - p) % q ^ c = z) → V tO MX1_fits (d, 0, 0) (bkG b0 b1 b2 b3 b4 b5 a0 a1 q n m W Hd Im O E) (fun v w' => v = some (.int (bI (dB (∃ w, B w = true ∧ w / q ^ (n - 1 - p) % q ^ c = z)))) ∧ w' = bkG b0 b1 b2 b3 b4 b5 a0 a1 q n m W Hd Im O E) (0, 0) (bkG b0 b1 b2 b3 b4 b5 a0 a1 q n m W Hd Im O E) 33 [some (.ref b0), some (.int (nI z)), some (.int (nI c)), some (.int (nI p)), some (.int (nI (q ^ (n - 1 - p)))), some (.int (nI (q ^ c))), some (.int (nI i))] [] := by
  have hN := h.2.2.2.2
  have p1 := h.le (k := n - 1 - p) (by omega)
  have p2 := h.le5 hc
  have p3 := h.pos c
  intro f
  induction f with
  | zero =>
    intro i hi h1
    refine V_iload dX1_fits_33 rfl ?_
    refine V_aload_n dX1_fits_35 rfl ?_
    refine V_get 0 dX1_fits_36 fX1_fits_32 rfl rfl ?_
    refine V_icmp_ge_N 70 dX1_fits_39 (by decide) (by omega) (by omega) (fun c_39 => ?_) (fun c_39 => absurd c_39 (by omega))
    refine V_iconst (v := nI 0) dX1_fits_70 (by decide) ?_
    refine V_zret dX1_fits_71 rfl (by first | exact Or.inl rfl | exact Or.inr rfl | exact bI_or _) (Nat.le_of_ble_eq_true rfl) (Nat.le_refl _) (Nat.le_refl _) ?_
    exact ⟨by rw [show dB (∃ w, B w = true ∧ w / q ^ (n - 1 - p) % q ^ c = z) = false from dB_f.mpr (fun ⟨w, hw, e⟩ => by obtain ⟨j, hj, rfl⟩ := (hg.2 w).mp hw; exact h1 j (by omega) e)]; rfl, rfl⟩
  | succ f ih =>
    intro i hi h1
    have hgi := hB _ (hg.mem (i := i) (by omega))
    have hdl := Nat.div_le_self (g i) (q ^ (n - 1 - p))
    have hml := Nat.mod_lt (g i / q ^ (n - 1 - p)) p3
    refine V_iload dX1_fits_33 rfl ?_
    refine V_aload_n dX1_fits_35 rfl ?_
    refine V_get 0 dX1_fits_36 fX1_fits_32 rfl rfl ?_
    refine V_icmp_ge_N 70 dX1_fits_39 (by decide) (by omega) (by omega) (fun c_39 => absurd c_39 (by omega)) (fun c_39 => ?_)
    refine V_aload_n dX1_fits_42 rfl ?_
    refine V_iload dX1_fits_43 rfl ?_
    refine V_callVpi1 [0, 1] (s_X1_nth (d := d - 1) (by omega) (by omega)) gX1_fits_X1_nth dX1_fits_45 oX1_nth rfl rfl rfl rfl (Nat.le_of_ble_eq_true rfl) (by omega) ⟨Nat.le_refl _, Nat.le_refl _⟩ ?_
    rw [hg2 i (by omega)]
    refine V_iload dX1_fits_48 rfl ?_
    refine V_callSpi2 [] (s_X8_over (d := d - 1) (by omega) (by omega) (by omega)) gX1_fits_X8_over dX1_fits_50 oX8_over rfl rfl (Nat.le_of_ble_eq_true rfl) (by omega) ⟨Nat.le_refl _, Nat.le_refl _⟩ ?_
    refine V_iload dX1_fits_53 rfl ?_
    refine V_callSpi2 [] (s_X8_rest (d := d - 1) (by omega) (by omega) p3 (by omega)) gX1_fits_X8_rest dX1_fits_55 oX8_rest rfl rfl (Nat.le_of_ble_eq_true rfl) (by omega) ⟨Nat.le_refl _, Nat.le_refl _⟩ ?_
    refine V_iload_n dX1_fits_58 rfl ?_
    first | refine V_icmp_ne_N 64 dX1_fits_59 (by decide) (by omega) (by omega) (fun c_59 => ?_) (fun c_59 => ?_) | refine V_icmp_ne 64 dX1_fits_59 (by decide) (fun c_59 => ?_) (fun c_59 => ?_)
    ·
      first | refine V_iinc_N (i := 1) dX1_fits_64 rfl (by decide) rfl ?_ | refine V_iinc dX1_fits_64 rfl rfl (by decide) rfl ?_
      refine V_goto 33 dX1_fits_67 (by decide) ?_
      exact ih (i + 1) (by omega) (fun j hj => by by_cases e : j = i; subst e; exact c_59; exact h1 j (by omega))
    ·
      refine V_iconst (v := nI 1) dX1_fits_62 (by decide) ?_
      refine V_zret dX1_fits_63 rfl (by first | exact Or.inl rfl | exact Or.inr rfl | exact bI_or _) (Nat.le_of_ble_eq_true rfl) (Nat.le_refl _) (Nat.le_refl _) ?_
      exact ⟨by rw [show dB (∃ w, B w = true ∧ w / q ^ (n - 1 - p) % q ^ c = z) = true from dB_t.mpr ⟨_, hg.mem (i := i) (by omega), c_59⟩]; rfl, rfl⟩
theorem s_X1_fits (hd : 3 ≤ d) (h : OKq q n) {N z c p : Nat} (hB : Bk (q ^ n) B W m) (hz : z < 2 ^ 31) (hc : c ≤ 5) (hp : p < n) : SpP tO MX1_fits (d, 0, 0) [.ref b0, .int (nI z), .int (nI c), .int (nI p)] (bkG b0 b1 b2 b3 b4 b5 a0 a1 q n m W Hd Im O E) (some (.int (bI (dB (∃ w, B w = true ∧ w / q ^ (n - 1 - p) % q ^ c = z))))) := by
  refine eX1_fits [some (.ref b0), some (.int (nI z)), some (.int (nI c)), some (.int (nI p)), none, none, none] rfl (Nat.le_of_ble_eq_true rfl) ?_
  have hm := (hB.mono h.2.2.2.2).len
  have hn := h.2.2.2.1
  obtain ⟨h1, g, h2, h3⟩ := hB
  refine V_aload_n dX1_fits_0 rfl ?_
  refine V_get 0 dX1_fits_1 fX1_fits_9 rfl rfl ?_
  refine V_aload_n dX1_fits_4 rfl ?_
  refine V_get 0 dX1_fits_5 fX1_fits_9 rfl rfl ?_
  refine V_get 6 dX1_fits_8 fX1_fits_75 rfl rfl ?_
  refine V_iconst (v := nI 1) dX1_fits_11 (by decide) ?_
  first | refine V_isub_N dX1_fits_12 (by omega) ?_ | refine V_isub dX1_fits_12 ?_
  refine V_iload_n dX1_fits_13 rfl ?_
  first | refine V_isub_N dX1_fits_14 (by omega) ?_ | refine V_isub dX1_fits_14 ?_
  refine V_callVpi1 [6, 7] (s_X0_power (d := d - 1) (by omega) (by omega)) gX1_fits_X0_power dX1_fits_15 oX0_power rfl rfl rfl rfl (Nat.le_of_ble_eq_true rfl) (by omega) ⟨Nat.le_refl _, Nat.le_refl _⟩ ?_
  refine V_istore dX1_fits_18 (by decide) rfl ?_
  refine V_aload_n dX1_fits_20 rfl ?_
  refine V_get 0 dX1_fits_21 fX1_fits_9 rfl rfl ?_
  refine V_iload_n dX1_fits_24 rfl ?_
  refine V_callVpi1 [6, 7] (s_X0_power (d := d - 1) (by omega) hc) gX1_fits_X0_power dX1_fits_25 oX0_power rfl rfl rfl rfl (Nat.le_of_ble_eq_true rfl) (by omega) ⟨Nat.le_refl _, Nat.le_refl _⟩ ?_
  refine V_istore dX1_fits_28 (by decide) rfl ?_
  refine V_iconst (v := nI 0) dX1_fits_30 (by decide) ?_
  refine V_istore dX1_fits_31 (by decide) rfl ?_
  exact l_X1_fits (x5 := 0) hd h hz hc hp hm h2 h3 h1 m 0 (by omega) (fun j hj => by omega)
theorem l_X1_exchange2 (hd : 6 ≤ d) (h : OKq q n) {s : Nat} (hs : s < nSw q) {g : Nat → Nat} {w0 : zW} (hw0 : w0.length = 8) (hm : m ≤ 256) (hi2 : ∀ i, i < m → Im i = nI (wEx q n s (g i))) {x3 : Option Value} : ∀ (f i : Nat) (P : Nat → Bool) (W1 : Nat → Int32) (m1 : Nat), i + f = m → (∀ w, P w = true ↔ ∃ j, j < i ∧ wEx q n s (g j) = w) → Bk (q ^ n) P W1 m1 → V tO MX1_exchange (d, 0, 0) w0 (fun v w' => ∃ P W' m', v = none ∧ w' = bkW b0 b1 b2 b3 b4 b5 a0 a1 q n P m' W' Im ∧ (∀ w, P w = true ↔ ∃ j, j < m ∧ wEx q n s (g j) = w) ∧ Bk (q ^ n) P W' m') (0, 0) (bkW b0 b1 b2 b3 b4 b5 a0 a1 q n P m1 W1 Im) 52 [some (.ref b0), some (.int (nI s)), some (.int (nI m)), some (.int (nI i))] [] := by
  intro f
  induction f with
  | zero =>
    intro i P W1 m1 hi hP hB
    have e : i = m := by omega
    subst e
    refine V_iload_n dX1_exchange_52 rfl ?_
    refine V_iload_n dX1_exchange_53 rfl ?_
    refine V_icmp_ge_N 83 dX1_exchange_54 (by decide) (by omega) (by omega) (fun c_54 => ?_) (fun c_54 => absurd c_54 (by omega))
    exact V_vret dX1_exchange_83 rfl (by rw [hw0]; exact Nat.le_refl _) (Nat.le_refl _) (Nat.le_refl _) ⟨P, W1, m1, rfl, rfl, hP, hB⟩
  | succ f ih =>
    intro i P W1 m1 hi hP hB
    have hx := wEx_lt (w := g i) h hs
    refine V_iload_n dX1_exchange_52 rfl ?_
    refine V_iload_n dX1_exchange_53 rfl ?_
    refine V_icmp_ge_N 83 dX1_exchange_54 (by decide) (by omega) (by omega) (fun c_54 => absurd c_54 (by omega)) (fun c_54 => ?_)
    refine V_iload_n dX1_exchange_57 rfl ?_
    refine V_aload_n dX1_exchange_58 rfl ?_
    refine V_get 0 dX1_exchange_59 fX1_exchange_23 rfl rfl ?_
    refine V_alen 3 dX1_exchange_62 rfl ?_
    refine V_icmp_ge_N 83 dX1_exchange_63 (by decide) (by omega) (by omega) (fun c_63 => absurd c_63 (by omega)) (fun c_63 => ?_)
    refine V_aload_n dX1_exchange_66 rfl ?_
    refine V_aload_n dX1_exchange_67 rfl ?_
    refine V_get 0 dX1_exchange_68 fX1_exchange_23 rfl rfl ?_
    refine V_iload_n dX1_exchange_71 rfl ?_
    refine V_iald_N 3 dX1_exchange_72 rfl (by omega) (by first | decide | omega) ?_
    rw [hi2 i (by omega)]
    refine V_callV1 [0, 1, 2, 3, 4, 5, 6, 7] (s_X1_include (d := d - 1) (by omega) h hB hx) gX1_exchange_X1_include dX1_exchange_73 oX1_include rfl rfl rfl rfl (Nat.le_of_ble_eq_true rfl) (by omega) ⟨Nat.le_refl _, Nat.le_refl _⟩ ?_
    rintro _ _ ⟨W2, m2, rfl, rfl, hB2⟩
    dsimp only [zPut, List.set, Option.toList, List.cons_append, List.nil_append]
    refine V_pop dX1_exchange_76 rfl ?_
    first | refine V_iinc_N (i := 1) dX1_exchange_77 rfl (by decide) rfl ?_ | refine V_iinc dX1_exchange_77 rfl rfl (by decide) rfl ?_
    refine V_goto 52 dX1_exchange_80 (by decide) ?_
    exact ih (i + 1) _ _ _ (by omega) (fun w => by
      rw [insB_iff, hP w]
      constructor
      · rintro (⟨j, hj, e⟩ | e)
        · exact ⟨j, by omega, e⟩
        · exact ⟨i, by omega, e.symm⟩
      · rintro ⟨j, hj, e⟩
        by_cases ej : j = i
        · subst ej; exact Or.inr e.symm
        · exact Or.inl ⟨j, by omega, e⟩) hB2
theorem l_X1_exchange1 (hd : 6 ≤ d) (h : OKq q n) {s : Nat} (hs : s < nSw q) {g : Nat → Nat} {w0 : zW} (hw0 : w0.length = 8) (hB : Bk (q ^ n) B W m) (hm : m ≤ 256) (hg : SE B g m) (hg2 : ∀ i, i < m → W i = nI (g i)) : ∀ (f i : Nat) (Ic : Nat → Int32), i + f = m → (∀ j, j < i → Ic j = nI (wEx q n s (g j))) → V tO MX1_exchange (d, 0, 0) w0 (fun v w' => ∃ P W' m' Im', v = none ∧ w' = bkW b0 b1 b2 b3 b4 b5 a0 a1 q n P m' W' Im' ∧ (∀ w, P w = true ↔ ∃ j, j < m ∧ wEx q n s (g j) = w) ∧ Bk (q ^ n) P W' m') (0, 0) (bkW b0 b1 b2 b3 b4 b5 a0 a1 q n B m W Ic) 7 [some (.ref b0), some (.int (nI s)), some (.int (nI m)), some (.int (nI i))] [] := by
  have hN := h.2.2.2.2
  intro f
  induction f with
  | zero =>
    intro i Ic hi h1
    have e : i = m := by omega
    subst e
    refine V_iload_n dX1_exchange_7 rfl ?_
    refine V_iload_n dX1_exchange_8 rfl ?_
    refine V_icmp_ge_N 46 dX1_exchange_9 (by decide) (by omega) (by omega) (fun c_9 => ?_) (fun c_9 => absurd c_9 (by omega))
    refine V_aload_n dX1_exchange_46 rfl ?_
    refine V_callVfv0 [0, 1, 2, 3, 4, 5, 6, 7] (s_X1_empty (d := d - 1) (by omega) hN hB) gX1_exchange_X1_empty dX1_exchange_47 oX1_empty rfl rfl rfl rfl (Nat.le_of_ble_eq_true rfl) (by omega) ⟨Nat.le_refl _, Nat.le_refl _⟩ ?_
    simp only [zput_n, zput_c, zset_0, zset_1, zset_2, zset_3, zset_4, zset_5, zset_6, zset_7]
    refine V_iconst (v := nI 0) dX1_exchange_50 (by decide) ?_
    refine V_istore_n dX1_exchange_51 (by decide) rfl ?_
    refine V_post (l_X1_exchange2 (x3 := none) hd h hs hw0 hm h1 i 0 _ _ _ (by omega) (fun w => ⟨fun hh => absurd hh Bool.false_ne_true, fun ⟨j, hj, _⟩ => absurd hj (by omega)⟩) (Bk.nil _ _)) ?_
    rintro v w' ⟨P, W', m', h1, h2, h3, h4⟩
    exact ⟨P, W', m', _, h1, h2, h3, h4⟩
  | succ f ih =>
    intro i Ic hi h1
    refine V_iload_n dX1_exchange_7 rfl ?_
    refine V_iload_n dX1_exchange_8 rfl ?_
    refine V_icmp_ge_N 46 dX1_exchange_9 (by decide) (by omega) (by omega) (fun c_9 => absurd c_9 (by omega)) (fun c_9 => ?_)
    refine V_iload_n dX1_exchange_12 rfl ?_
    refine V_aload_n dX1_exchange_13 rfl ?_
    refine V_get 0 dX1_exchange_14 fX1_exchange_23 rfl rfl ?_
    refine V_alen 3 dX1_exchange_17 rfl ?_
    refine V_icmp_ge_N 46 dX1_exchange_18 (by decide) (by omega) (by omega) (fun c_18 => absurd c_18 (by omega)) (fun c_18 => ?_)
    refine V_aload_n dX1_exchange_21 rfl ?_
    refine V_get 0 dX1_exchange_22 fX1_exchange_23 rfl rfl ?_
    refine V_iload_n dX1_exchange_25 rfl ?_
    refine V_aload_n dX1_exchange_26 rfl ?_
    refine V_get 0 dX1_exchange_27 fX1_exchange_9 rfl rfl ?_
    refine V_iload_n dX1_exchange_30 rfl ?_
    refine V_aload_n dX1_exchange_31 rfl ?_
    refine V_iload_n dX1_exchange_32 rfl ?_
    refine V_callVpi1 [0, 1] (s_X1_nth (d := d - 1) (by omega) (by omega)) gX1_exchange_X1_nth dX1_exchange_33 oX1_nth rfl rfl rfl rfl (Nat.le_of_ble_eq_true rfl) (by omega) ⟨Nat.le_refl _, Nat.le_refl _⟩ ?_
    rw [hg2 i (by omega)]
    refine V_callVpi2 [6, 7] (s_X0_exchanged (d := d - 1) (by omega) h hs (hB.1 _ (hg.mem (by omega)))) gX1_exchange_X0_exchanged dX1_exchange_36 oX0_exchanged rfl rfl rfl rfl (Nat.le_of_ble_eq_true rfl) (by omega) ⟨Nat.le_refl _, Nat.le_refl _⟩ ?_
    refine V_iast_N 3 dX1_exchange_39 rfl (by omega) (by first | decide | omega) ?_
    first | refine V_iinc_N (i := 1) dX1_exchange_40 rfl (by decide) rfl ?_ | refine V_iinc dX1_exchange_40 rfl rfl (by decide) rfl ?_
    refine V_goto 7 dX1_exchange_43 (by decide) ?_
    exact ih (i + 1) _ (by omega) (fun j hj => by
      unfold upd
      by_cases e : j = i
      · rw [if_pos e, e]
      · rw [if_neg e]; exact h1 j (by omega))
theorem s_X1_exchange (hd : 6 ≤ d) (h : OKq q n) (hB : Bk (q ^ n) B W m) {s : Nat} (hs : s < nSw q) : Sp tO MX1_exchange (d, 0, 0) [.ref b0, .int (nI s)] (bkW b0 b1 b2 b3 b4 b5 a0 a1 q n B m W Im) (fun v w' => ∃ W' m' Im', v = none ∧ w' = bkW b0 b1 b2 b3 b4 b5 a0 a1 q n (imB q n s B) m' W' Im' ∧ Bk (q ^ n) (imB q n s B) W' m') := by
  refine eX1_exchange [some (.ref b0), some (.int (nI s)), none, none] rfl (Nat.le_of_ble_eq_true rfl) ?_
  have hm := (hB.mono h.2.2.2.2).len
  obtain ⟨h1, g, h2, h3⟩ := id hB
  refine V_aload_n dX1_exchange_0 rfl ?_
  refine V_get 0 dX1_exchange_1 fX1_exchange_32 rfl rfl ?_
  refine V_istore_n dX1_exchange_4 (by decide) rfl ?_
  refine V_iconst (v := nI 0) dX1_exchange_5 (by decide) ?_
  refine V_istore_n dX1_exchange_6 (by decide) rfl ?_
  refine V_post (l_X1_exchange1 hd h hs rfl hB hm h2 h3 m 0 Im (by omega) (fun j hj => by omega)) ?_
  rintro v w' ⟨P, W', m', Im', e1, e2, hP, hB'⟩
  have e : P = imB q n s B := by
    funext w
    apply Bool.eq_iff_iff.mpr
    rw [hP w]
    unfold imB
    rw [dB_t]
    constructor
    · rintro ⟨j, hj, e⟩; exact ⟨g j, h2.mem hj, e⟩
    · rintro ⟨x, hx, e⟩; obtain ⟨j, hj, rfl⟩ := (h2.2 x).mp hx; exact ⟨j, hj, e⟩
  subst e
  exact ⟨W', m', Im', e1, e2, hB'⟩
theorem l_X1_draw (hd : 6 ≤ d) (h : OKq q n) {v0 : Nat} (hv0 : v0 ≤ 12) {x2 : Int32} {w0 : zW} (hw0 : w0.length = 8) : ∀ (f i : Nat) (z : Int32) (P : Nat → Bool) (W1 : Nat → Int32) (m1 : Nat), i + f = v0 → Bk (q ^ n) P W1 m1 → V tO MX1_draw (d, 0, 0) w0 (fun v w' => ∃ W' m', v = none ∧ w' = bkW b0 b1 b2 b3 b4 b5 a0 a1 q n (drB (q ^ n) f z P) m' W' Im ∧ Bk (q ^ n) (drB (q ^ n) f z P) W' m') (0, 0) (bkW b0 b1 b2 b3 b4 b5 a0 a1 q n P m1 W1 Im) 9 [some (.ref b0), some (.int (nI v0)), some (.int x2), some (.int z), some (.int (nI i))] [] := by
  have hN := h.2.2.2.2
  have h0 := h.pos n
  intro f
  induction f with
  | zero =>
    intro i z P W1 m1 hi hB
    refine V_iload dX1_draw_9 rfl ?_
    refine V_iload_n dX1_draw_11 rfl ?_
    refine V_icmp_ge_N 49 dX1_draw_12 (by decide) (by omega) (by omega) (fun c_12 => ?_) (fun c_12 => absurd c_12 (by omega))
    exact V_vret dX1_draw_49 rfl (by rw [hw0]; exact Nat.le_refl _) (Nat.le_refl _) (Nat.le_refl _) ⟨W1, m1, rfl, rfl, hB⟩
  | succ f ih =>
    intro i z P W1 m1 hi hB
    have hz := zD_lt (zS z)
    have hl := Nat.mod_lt (zD (zS z)) h0
    refine V_iload dX1_draw_9 rfl ?_
    refine V_iload_n dX1_draw_11 rfl ?_
    refine V_icmp_ge_N 49 dX1_draw_12 (by decide) (by omega) (by omega) (fun c_12 => absurd c_12 (by omega)) (fun c_12 => ?_)
    refine V_iload_n dX1_draw_15 rfl ?_
    refine V_ldc (v := nI 1103515245) dX1_draw_16 (by decide +kernel) ?_
    refine V_imul dX1_draw_18 ?_
    refine V_sipush (v := nI 12345) dX1_draw_19 (by decide) ?_
    refine V_iadd dX1_draw_22 ?_
    refine V_to (show z * nI 1103515245 + nI 12345 = zS z by rw [zS]) ?_
    refine V_istore_n dX1_draw_23 (by decide) rfl ?_
    refine V_aload_n dX1_draw_24 rfl ?_
    refine V_iload_n dX1_draw_25 rfl ?_
    refine V_bipush (v := nI 16) dX1_draw_26 (by decide) ?_
    refine V_iushr dX1_draw_28 ?_
    refine V_to (zD_eq (zS z)) ?_
    refine V_aload_n dX1_draw_29 rfl ?_
    refine V_get 0 dX1_draw_30 fX1_draw_9 rfl rfl ?_
    refine V_get 6 dX1_draw_33 fX1_draw_118 rfl rfl ?_
    refine V_callSpi2 [] (s_X8_rest (d := d - 1) (by omega) (by omega) h0 (by omega)) gX1_draw_X8_rest dX1_draw_36 oX8_rest rfl rfl (Nat.le_of_ble_eq_true rfl) (by omega) ⟨Nat.le_refl _, Nat.le_refl _⟩ ?_
    refine V_callV1 [0, 1, 2, 3, 4, 5, 6, 7] (s_X1_include (d := d - 1) (by omega) h hB hl) gX1_draw_X1_include dX1_draw_39 oX1_include rfl rfl rfl rfl (Nat.le_of_ble_eq_true rfl) (by omega) ⟨Nat.le_refl _, Nat.le_refl _⟩ ?_
    rintro _ _ ⟨W2, m2, rfl, rfl, hB2⟩
    dsimp only [zPut, List.set, Option.toList, List.cons_append, List.nil_append]
    refine V_pop dX1_draw_42 rfl ?_
    first | refine V_iinc_N (i := 1) dX1_draw_43 rfl (by decide) rfl ?_ | refine V_iinc dX1_draw_43 rfl rfl (by decide) rfl ?_
    refine V_goto 9 dX1_draw_46 (by decide) ?_
    exact ih (i + 1) (zS z) _ _ _ (by omega) hB2
theorem s_X1_draw (hd : 6 ≤ d) (h : OKq q n) {N v0 : Nat} (hN : N ≤ 256) (hB : Bk N B W m) (hv0 : v0 ≤ 12) {z : Int32} : Sp tO MX1_draw (d, 0, 0) [.ref b0, .int (nI v0), .int z] (bkG b0 b1 b2 b3 b4 b5 a0 a1 q n m W (hdF B) Im O E) (fun v w' => ∃ W' m', v = none ∧ w' = bkW b0 b1 b2 b3 b4 b5 a0 a1 q n (drB (q ^ n) v0 z (fun _ => false)) m' W' Im ∧ Bk (q ^ n) (drB (q ^ n) v0 z (fun _ => false)) W' m') := by
  refine eX1_draw [some (.ref b0), some (.int (nI v0)), some (.int z), none, none] rfl (Nat.le_of_ble_eq_true rfl) ?_
  refine V_aload_n dX1_draw_0 rfl ?_
  refine V_callVfv0 [0, 1, 2, 3, 4, 5, 6, 7] (s_X1_empty (d := d - 1) (by omega) hN hB) gX1_draw_X1_empty dX1_draw_1 oX1_empty rfl rfl rfl rfl (Nat.le_of_ble_eq_true rfl) (by omega) ⟨Nat.le_refl _, Nat.le_refl _⟩ ?_
  simp only [zput_n, zput_c, zset_0, zset_1, zset_2, zset_3, zset_4, zset_5, zset_6, zset_7]
  refine V_iload_n dX1_draw_4 rfl ?_
  refine V_istore_n dX1_draw_5 (by decide) rfl ?_
  refine V_iconst (v := nI 0) dX1_draw_6 (by decide) ?_
  refine V_istore dX1_draw_7 (by decide) rfl ?_
  exact l_X1_draw hd h hv0 rfl v0 0 z _ _ _ (by omega) (Bk.nil _ _)
end BOOK3

