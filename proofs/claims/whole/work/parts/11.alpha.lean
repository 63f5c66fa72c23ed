/-! Alphabet -/
abbrev alW (a0 a1 q n : Nat) : zW := [(a0, oB 0 [.ref a1, .int (nI q), .int (nI n), .int (nI (q ^ n))]), (a1, aI 6 (pwF q))]
section ALPHA
variable {tO d : Nat}
theorem l_X0_canBe {q n : Nat} (hq : q ≤ 4) (hn : n ≤ 5) : ∀ (f i p : Nat), i + f = n → p = q ^ i → V tO MX0_canBe (d, 0, 0) [] (fun v w' => v = some (.int (bI (decide (q ^ n ≤ 256)))) ∧ w' = []) (0, 0) [] 26 [some (.int (nI q)), some (.int (nI n)), some (.int (nI p)), some (.int (nI i))] [] := by
  intro f
  induction f with
  | zero =>
    intro i p hi hp
    have e : i = n := by omega
    subst e
    have hb : p < 2 ^ 31 := by rw [hp]; exact Nat.lt_of_le_of_lt (Nat.le_trans (Nat.pow_le_pow_left hq i) (Nat.pow_le_pow_right (by decide) hn)) (by decide)
    refine V_iload_n dX0_canBe_26 rfl ?_
    refine V_iload_n dX0_canBe_27 rfl ?_
    refine V_icmp_ge_N 41 dX0_canBe_28 (by decide) (by omega) (by omega) (fun c_28 => ?_) (fun c_28 => absurd c_28 (by omega))
    refine V_iload_n dX0_canBe_41 rfl ?_
    refine V_sipush (v := nI 256) dX0_canBe_42 (by decide) ?_
    refine V_icmp_gt_N 52 dX0_canBe_45 (by decide) (by omega) (by omega) (fun c_45 => ?_) (fun c_45 => ?_)
    ·
      refine V_iconst (v := nI 0) dX0_canBe_52 (by decide) ?_
      refine V_zret dX0_canBe_53 rfl (by first | exact Or.inl rfl | exact Or.inr rfl | exact bI_or _) (Nat.le_of_ble_eq_true rfl) (Nat.le_refl _) (Nat.le_refl _) ?_
      exact ⟨by rw [← hp]; first | (rw [decide_eq_true c_45]; rfl) | (rw [decide_eq_false (by omega)]; rfl), rfl⟩
    ·
      refine V_iconst (v := nI 1) dX0_canBe_48 (by decide) ?_
      refine V_goto 53 dX0_canBe_49 (by decide) ?_
      refine V_zret dX0_canBe_53 rfl (by first | exact Or.inl rfl | exact Or.inr rfl | exact bI_or _) (Nat.le_of_ble_eq_true rfl) (Nat.le_refl _) (Nat.le_refl _) ?_
      exact ⟨by rw [← hp]; first | (rw [decide_eq_true c_45]; rfl) | (rw [decide_eq_false (by omega)]; rfl), rfl⟩
  | succ f ih =>
    intro i p hi hp
    refine V_iload_n dX0_canBe_26 rfl ?_
    refine V_iload_n dX0_canBe_27 rfl ?_
    refine V_icmp_ge_N 41 dX0_canBe_28 (by decide) (by omega) (by omega) (fun c_28 => absurd c_28 (by omega)) (fun c_28 => ?_)
    refine V_iload_n dX0_canBe_31 rfl ?_
    refine V_iload_n dX0_canBe_32 rfl ?_
    first | refine V_imul_N dX0_canBe_33 ?_ | refine V_imul dX0_canBe_33 ?_
    refine V_istore_n dX0_canBe_34 (by decide) rfl ?_
    first | refine V_iinc_N (i := 1) dX0_canBe_35 rfl (by decide) rfl ?_ | refine V_iinc dX0_canBe_35 rfl rfl (by decide) rfl ?_
    refine V_goto 26 dX0_canBe_38 (by decide) ?_
    exact ih (i + 1) (p * q) (by omega) (by rw [hp, Nat.pow_succ])
theorem s_X0_canBe (hd : 1 ≤ d) {x y : Int32} : SpP tO MX0_canBe (d, 0, 0) [.int x, .int y] [] (some (.int (bI (szB x y)))) := by
  refine eX0_canBe [some (.int x), some (.int y), none, none] rfl (Nat.le_of_ble_eq_true rfl) ?_
  have no : ¬ (2 ≤ x.toInt ∧ x.toInt ≤ 4 ∧ 1 ≤ y.toInt ∧ y.toInt ≤ 5) → szB x y = false := fun h => by
    unfold szB
    exact decide_eq_false (fun ⟨h1, h2, h3, h4, h5⟩ => h ⟨h1, h2, h3, h4⟩)
  refine V_iload_n dX0_canBe_0 rfl ?_
  refine V_iconst (v := nI 2) dX0_canBe_1 (by decide) ?_
  refine V_icmp_lt 20 dX0_canBe_2 (by decide) (fun c_2 => ?_) (fun c_2 => ?_)
  ·
    have e := no (by rw [z_lt (by decide)] at c_2; omega)
    refine V_iconst (v := nI 0) dX0_canBe_20 (by decide) ?_
    refine V_zret dX0_canBe_21 rfl (by first | exact Or.inl rfl | exact Or.inr rfl | exact bI_or _) (Nat.le_of_ble_eq_true rfl) (Nat.le_refl _) (Nat.le_refl _) ?_
    exact ⟨by rw [e]; rfl, rfl⟩
  ·
    rw [z_lt (by decide)] at c_2
    refine V_iload_n dX0_canBe_5 rfl ?_
    refine V_iconst (v := nI 4) dX0_canBe_6 (by decide) ?_
    refine V_icmp_gt 20 dX0_canBe_7 (by decide) (fun c_7 => ?_) (fun c_7 => ?_)
    ·
      have e := no (by rw [z_gt (by decide)] at c_7; omega)
      refine V_iconst (v := nI 0) dX0_canBe_20 (by decide) ?_
      refine V_zret dX0_canBe_21 rfl (by first | exact Or.inl rfl | exact Or.inr rfl | exact bI_or _) (Nat.le_of_ble_eq_true rfl) (Nat.le_refl _) (Nat.le_refl _) ?_
      exact ⟨by rw [e]; rfl, rfl⟩
    ·
      rw [z_gt (by decide)] at c_7
      refine V_iload_n dX0_canBe_10 rfl ?_
      refine V_iconst (v := nI 1) dX0_canBe_11 (by decide) ?_
      refine V_icmp_lt 20 dX0_canBe_12 (by decide) (fun c_12 => ?_) (fun c_12 => ?_)
      ·
        have e := no (by rw [z_lt (by decide)] at c_12; omega)
        refine V_iconst (v := nI 0) dX0_canBe_20 (by decide) ?_
        refine V_zret dX0_canBe_21 rfl (by first | exact Or.inl rfl | exact Or.inr rfl | exact bI_or _) (Nat.le_of_ble_eq_true rfl) (Nat.le_refl _) (Nat.le_refl _) ?_
        exact ⟨by rw [e]; rfl, rfl⟩
      ·
        rw [z_lt (by decide)] at c_12
        refine V_iload_n dX0_canBe_15 rfl ?_
        refine V_iconst (v := nI 5) dX0_canBe_16 (by decide) ?_
        refine V_icmp_le 22 dX0_canBe_17 (by decide) (fun c_17 => ?_) (fun c_17 => ?_)
        ·
          rw [z_le (by decide)] at c_17
          refine V_iconst (v := nI 1) dX0_canBe_22 (by decide) ?_
          refine V_istore_n dX0_canBe_23 (by decide) rfl ?_
          refine V_iconst (v := nI 0) dX0_canBe_24 (by decide) ?_
          refine V_istore_n dX0_canBe_25 (by decide) rfl ?_
          have e1 := toInt_nI (x := x) (by omega)
          have e2 := toInt_nI (x := y) (by omega)
          have e3 : szB x y = decide (x.toInt.toNat ^ y.toInt.toNat ≤ 256) := by
            unfold szB
            congr 1
            apply propext
            exact ⟨fun h => h.2.2.2.2, fun h => ⟨by omega, by omega, by omega, by omega, h⟩⟩
          rw [e3]
          have k := l_X0_canBe (d := d) (tO := tO) (q := x.toInt.toNat) (n := y.toInt.toNat) (by omega) (by omega) y.toInt.toNat 0 1 (by omega) (by rw [Nat.pow_zero])
          rw [← e1, ← e2] at k
          exact k
        ·
          have e := no (by rw [z_le (by decide)] at c_17; omega)
          refine V_iconst (v := nI 0) dX0_canBe_20 (by decide) ?_
          refine V_zret dX0_canBe_21 rfl (by first | exact Or.inl rfl | exact Or.inr rfl | exact bI_or _) (Nat.le_of_ble_eq_true rfl) (Nat.le_refl _) (Nat.le_refl _) ?_
          exact ⟨by rw [e]; rfl, rfl⟩
theorem s_X0_power (hd : 1 ≤ d) {a0 a1 q k : Nat} {x y z : Value} (hk : k ≤ 5) : SpP tO MX0_power (d, 0, 0) [.ref a0, .int (nI k)] [(a0, oB 0 [.ref a1, x, y, z]), (a1, aI 6 (pwF q))] (some (.int (nI (q ^ k)))) := by
  refine eX0_power [some (.ref a0), some (.int (nI k))] rfl (Nat.le_of_ble_eq_true rfl) ?_
  refine V_iload_n dX0_power_0 rfl ?_
  refine V_if_lt_N 22 dX0_power_1 (by decide) (by omega) ?_
  refine V_iload_n dX0_power_4 rfl ?_
  refine V_aload_n dX0_power_5 rfl ?_
  refine V_get 0 dX0_power_6 fX0_power_9 rfl rfl ?_
  refine V_alen 1 dX0_power_9 rfl ?_
  refine V_icmp_ge_N 22 dX0_power_10 (by decide) (by omega) (by decide) (fun c_10 => absurd c_10 (by omega)) (fun c_10 => ?_)
  refine V_aload_n dX0_power_13 rfl ?_
  refine V_get 0 dX0_power_14 fX0_power_9 rfl rfl ?_
  refine V_iload_n dX0_power_17 rfl ?_
  refine V_iald_N 1 dX0_power_18 rfl (by omega) (by first | decide | omega) ?_
  refine V_goto 23 dX0_power_19 (by decide) ?_
  refine V_iret dX0_power_23 rfl (Nat.le_of_ble_eq_true rfl) (Nat.le_refl _) (Nat.le_refl _) ?_
  exact ⟨rfl, rfl⟩
theorem l_X0_become {a0 a1 q n : Nat} {w0 : zW} (hw0 : w0.length = 2) (h : OKq q n) (z : Value) (hd : 2 ≤ d) : ∀ (f i p : Nat) (g : Nat → Int32), i + f = 6 → p = q ^ i → (∀ j, j < i → g j = pwF q j) → V tO MX0_become (d, 0, 0) w0 (fun v w' => v = none ∧ w' = alW a0 a1 q n) (0, 0) [(a0, oB 0 [.ref a1, .int (nI q), .int (nI n), z]), (a1, aI 6 g)] 15 [some (.ref a0), some (.int (nI q)), some (.int (nI n)), some (.int (nI p)), some (.int (nI i))] [] := by
  intro f
  induction f with
  | zero =>
    intro i p g hi hp hg
    refine V_ag [(a0, oB 0 [.ref a1, .int (nI q), .int (nI n), z]), (a1, aI 6 (pwF q))] ⟨_, _, rfl, zAg.self _, _, _, rfl, ⟨_, rfl, fun j hj => hg j (by omega)⟩, rfl⟩ ?_
    refine V_iload dX0_become_15 rfl ?_
    refine V_aload_n dX0_become_17 rfl ?_
    refine V_get 0 dX0_become_18 fX0_become_9 rfl rfl ?_
    refine V_alen 1 dX0_become_21 rfl ?_
    refine V_icmp_ge_N 43 dX0_become_22 (by decide) (by omega) (by omega) (fun c_22 => ?_) (fun c_22 => absurd c_22 (by omega))
    refine V_aload_n dX0_become_43 rfl ?_
    refine V_aload_n dX0_become_44 rfl ?_
    refine V_iload_n dX0_become_45 rfl ?_
    refine V_callVpi1 [0, 1] (s_X0_power (d := d - 1) (by omega) h.2.2.2.1) gX0_become_X0_power dX0_become_46 oX0_power rfl rfl rfl rfl (Nat.le_of_ble_eq_true rfl) (by omega) ⟨Nat.le_refl _, Nat.le_refl _⟩ ?_
    refine V_put 0 dX0_become_49 fX0_become_30 ft_0_3 rfl rfl rfl (Nat.le_of_ble_eq_true rfl) ?_
    refine V_vret dX0_become_52 rfl (by rw [hw0]; exact Nat.le_refl _) (Nat.le_refl _) (Nat.le_refl _) ⟨rfl, rfl⟩
  | succ f ih =>
    intro i p g hi hp hg
    refine V_iload dX0_become_15 rfl ?_
    refine V_aload_n dX0_become_17 rfl ?_
    refine V_get 0 dX0_become_18 fX0_become_9 rfl rfl ?_
    refine V_alen 1 dX0_become_21 rfl ?_
    refine V_icmp_ge_N 43 dX0_become_22 (by decide) (by omega) (by omega) (fun c_22 => absurd c_22 (by omega)) (fun c_22 => ?_)
    refine V_aload_n dX0_become_25 rfl ?_
    refine V_get 0 dX0_become_26 fX0_become_9 rfl rfl ?_
    refine V_iload dX0_become_29 rfl ?_
    refine V_iload_n dX0_become_31 rfl ?_
    refine V_iast_N 1 dX0_become_32 rfl (by omega) (by first | decide | omega) ?_
    refine V_iload_n dX0_become_33 rfl ?_
    refine V_iload_n dX0_become_34 rfl ?_
    first | refine V_imul_N dX0_become_35 ?_ | refine V_imul dX0_become_35 ?_
    refine V_istore_n dX0_become_36 (by decide) rfl ?_
    first | refine V_iinc_N (i := 1) dX0_become_37 rfl (by decide) rfl ?_ | refine V_iinc dX0_become_37 rfl rfl (by decide) rfl ?_
    refine V_goto 15 dX0_become_40 (by decide) ?_
    exact ih (i + 1) (p * q) _ (by omega) (by rw [hp, Nat.pow_succ]) (fun j hj => by rw [hp]; exact upd_copy (f := pwF q) hg hj)
theorem s_X0_become (hd : 2 ≤ d) {a0 a1 q n : Nat} {x y z : Value} {g : Nat → Int32} (h : OKq q n) : SpF tO MX0_become (d, 0, 0) [.ref a0, .int (nI q), .int (nI n)] [(a0, oB 0 [.ref a1, x, y, z]), (a1, aI 6 g)] none (alW a0 a1 q n) := by
  refine eX0_become [some (.ref a0), some (.int (nI q)), some (.int (nI n)), none, none] rfl (Nat.le_of_ble_eq_true rfl) ?_
  refine V_aload_n dX0_become_0 rfl ?_
  refine V_iload_n dX0_become_1 rfl ?_
  refine V_put 0 dX0_become_2 fX0_become_19 ft_0_1 rfl rfl rfl (Nat.le_of_ble_eq_true rfl) ?_
  refine V_aload_n dX0_become_5 rfl ?_
  refine V_iload_n dX0_become_6 rfl ?_
  refine V_put 0 dX0_become_7 fX0_become_23 ft_0_2 rfl rfl rfl (Nat.le_of_ble_eq_true rfl) ?_
  refine V_iconst (v := nI 1) dX0_become_10 (by decide) ?_
  refine V_istore_n dX0_become_11 (by decide) rfl ?_
  refine V_iconst (v := nI 0) dX0_become_12 (by decide) ?_
  refine V_istore dX0_become_13 (by decide) rfl ?_
  exact l_X0_become rfl h z hd 6 0 1 g (by omega) (by rw [Nat.pow_zero]) (fun j hj => by omega)
theorem s_X0_isWord (hd : 1 ≤ d) {a0 a1 q n : Nat} {x : Int32} (h : OKq q n) : SpP tO MX0_isWord (d, 0, 0) [.ref a0, .int x] (alW a0 a1 q n) (some (.int (bI (isW (q ^ n) x)))) := by
  refine eX0_isWord [some (.ref a0), some (.int x)] rfl (Nat.le_of_ble_eq_true rfl) ?_
  have hN := h.2.2.2.2
  refine V_iload_n dX0_isWord_0 rfl ?_
  refine V_if_lt 16 dX0_isWord_1 (by decide) (fun c_1 => ?_) (fun c_1 => ?_)
  ·
    have e : isW (q ^ n) x = false := by unfold isW; rw [z_lt0] at c_1; exact decide_eq_false (by omega)
    refine V_iconst (v := nI 0) dX0_isWord_16 (by decide) ?_
    refine V_zret dX0_isWord_17 rfl (by first | exact Or.inl rfl | exact Or.inr rfl | exact bI_or _) (Nat.le_of_ble_eq_true rfl) (Nat.le_refl _) (Nat.le_refl _) ?_
    exact ⟨by rw [e]; rfl, rfl⟩
  ·
    rw [z_lt0] at c_1
    refine V_iload_n dX0_isWord_4 rfl ?_
    refine V_aload_n dX0_isWord_5 rfl ?_
    refine V_get 0 dX0_isWord_6 fX0_isWord_30 rfl rfl ?_
    refine V_icmp_ge 16 dX0_isWord_9 (by decide) (fun c_9 => ?_) (fun c_9 => ?_)
    ·
      have e : isW (q ^ n) x = false := by unfold isW; rw [z_ge (by omega)] at c_9; exact decide_eq_false (by omega)
      refine V_iconst (v := nI 0) dX0_isWord_16 (by decide) ?_
      refine V_zret dX0_isWord_17 rfl (by first | exact Or.inl rfl | exact Or.inr rfl | exact bI_or _) (Nat.le_of_ble_eq_true rfl) (Nat.le_refl _) (Nat.le_refl _) ?_
      exact ⟨by rw [e]; rfl, rfl⟩
    ·
      have e : isW (q ^ n) x = true := by unfold isW; rw [z_ge (by omega)] at c_9; exact decide_eq_true (by omega)
      refine V_iconst (v := nI 1) dX0_isWord_12 (by decide) ?_
      refine V_goto 17 dX0_isWord_13 (by decide) ?_
      refine V_zret dX0_isWord_17 rfl (by first | exact Or.inl rfl | exact Or.inr rfl | exact bI_or _) (Nat.le_of_ble_eq_true rfl) (Nat.le_refl _) (Nat.le_refl _) ?_
      exact ⟨by rw [e]; rfl, rfl⟩
theorem s_X0_opening (hd : 2 ≤ d) {a0 a1 q n w k : Nat} (h : OKq q n) (hw : w < q ^ n) (hk : k ≤ n) : SpP tO MX0_opening (d, 0, 0) [.ref a0, .int (nI w), .int (nI k)] (alW a0 a1 q n) (some (.int (nI (w / q ^ (n - k))))) := by
  refine eX0_opening [some (.ref a0), some (.int (nI w)), some (.int (nI k))] rfl (Nat.le_of_ble_eq_true rfl) ?_
  have hN := h.2.2.2.2
  have hn := h.2.2.2.1
  have hp := h.le (k := n - k) (by omega)
  refine V_iload_n dX0_opening_0 rfl ?_
  refine V_aload_n dX0_opening_1 rfl ?_
  refine V_aload_n dX0_opening_2 rfl ?_
  refine V_get 0 dX0_opening_3 fX0_opening_23 rfl rfl ?_
  refine V_iload_n dX0_opening_6 rfl ?_
  first | refine V_isub_N dX0_opening_7 (by omega) ?_ | refine V_isub dX0_opening_7 ?_
  refine V_callVpi1 [0, 1] (s_X0_power (d := d - 1) (by omega) (by omega)) gX0_opening_X0_power dX0_opening_8 oX0_power rfl rfl rfl rfl (Nat.le_of_ble_eq_true rfl) (by omega) ⟨Nat.le_refl _, Nat.le_refl _⟩ ?_
  refine V_callSpi2 [] (s_X8_over (d := d - 1) (by omega) (by omega) (by omega)) gX0_opening_X8_over dX0_opening_11 oX8_over rfl rfl (Nat.le_of_ble_eq_true rfl) (by omega) ⟨Nat.le_refl _, Nat.le_refl _⟩ ?_
  refine V_iret dX0_opening_14 rfl (Nat.le_of_ble_eq_true rfl) (Nat.le_refl _) (Nat.le_refl _) ?_
  exact ⟨rfl, rfl⟩
theorem s_X0_ending (hd : 2 ≤ d) {a0 a1 q n w k : Nat} (h : OKq q n) (hw : w < q ^ n) (hk : k ≤ n) : SpP tO MX0_ending (d, 0, 0) [.ref a0, .int (nI w), .int (nI k)] (alW a0 a1 q n) (some (.int (nI (w % q ^ k)))) := by
  refine eX0_ending [some (.ref a0), some (.int (nI w)), some (.int (nI k))] rfl (Nat.le_of_ble_eq_true rfl) ?_
  have hN := h.2.2.2.2
  have hn := h.2.2.2.1
  have hp := h.le hk
  have h0 := h.pos k
  refine V_iload_n dX0_ending_0 rfl ?_
  refine V_aload_n dX0_ending_1 rfl ?_
  refine V_iload_n dX0_ending_2 rfl ?_
  refine V_callVpi1 [0, 1] (s_X0_power (d := d - 1) (by omega) (by omega)) gX0_ending_X0_power dX0_ending_3 oX0_power rfl rfl rfl rfl (Nat.le_of_ble_eq_true rfl) (by omega) ⟨Nat.le_refl _, Nat.le_refl _⟩ ?_
  refine V_callSpi2 [] (s_X8_rest (d := d - 1) (by omega) (by omega) h0 (by omega)) gX0_ending_X8_rest dX0_ending_6 oX8_rest rfl rfl (Nat.le_of_ble_eq_true rfl) (by omega) ⟨Nat.le_refl _, Nat.le_refl _⟩ ?_
  refine V_iret dX0_ending_9 rfl (Nat.le_of_ble_eq_true rfl) (Nat.le_refl _) (Nat.le_refl _) ?_
  exact ⟨rfl, rfl⟩
theorem s_X0_part (hd : 2 ≤ d) {a0 a1 q n w i : Nat} (h : OKq q n) (hw : w < q ^ n) (hi : i < n) : SpP tO MX0_part (d, 0, 0) [.ref a0, .int (nI w), .int (nI i), .int (nI 1)] (alW a0 a1 q n) (some (.int (nI (wLt q n w i)))) := by
  refine eX0_part [some (.ref a0), some (.int (nI w)), some (.int (nI i)), some (.int (nI 1))] rfl (Nat.le_of_ble_eq_true rfl) ?_
  have hN := h.2.2.2.2
  have hn := h.2.2.2.1
  have hp := h.le (k := n - 1 - i) (by omega)
  have h0 := h.pos 1
  have h2 := h.le (k := 1) h.2.2.1
  have h3 := Nat.div_le_self w (q ^ (n - 1 - i))
  refine V_iload_n dX0_part_0 rfl ?_
  refine V_aload_n dX0_part_1 rfl ?_
  refine V_aload_n dX0_part_2 rfl ?_
  refine V_get 0 dX0_part_3 fX0_part_23 rfl rfl ?_
  refine V_iconst (v := nI 1) dX0_part_6 (by decide) ?_
  first | refine V_isub_N dX0_part_7 (by omega) ?_ | refine V_isub dX0_part_7 ?_
  refine V_iload_n dX0_part_8 rfl ?_
  first | refine V_isub_N dX0_part_9 (by omega) ?_ | refine V_isub dX0_part_9 ?_
  refine V_callVpi1 [0, 1] (s_X0_power (d := d - 1) (by omega) (by omega)) gX0_part_X0_power dX0_part_10 oX0_power rfl rfl rfl rfl (Nat.le_of_ble_eq_true rfl) (by omega) ⟨Nat.le_refl _, Nat.le_refl _⟩ ?_
  refine V_callSpi2 [] (s_X8_over (d := d - 1) (by omega) (by omega) (by omega)) gX0_part_X8_over dX0_part_13 oX8_over rfl rfl (Nat.le_of_ble_eq_true rfl) (by omega) ⟨Nat.le_refl _, Nat.le_refl _⟩ ?_
  refine V_aload_n dX0_part_16 rfl ?_
  refine V_iload_n dX0_part_17 rfl ?_
  refine V_callVpi1 [0, 1] (s_X0_power (d := d - 1) (by omega) (by omega)) gX0_part_X0_power dX0_part_18 oX0_power rfl rfl rfl rfl (Nat.le_of_ble_eq_true rfl) (by omega) ⟨Nat.le_refl _, Nat.le_refl _⟩ ?_
  refine V_callSpi2 [] (s_X8_rest (d := d - 1) (by omega) (by omega) h0 (by omega)) gX0_part_X8_rest dX0_part_21 oX8_rest rfl rfl (Nat.le_of_ble_eq_true rfl) (by omega) ⟨Nat.le_refl _, Nat.le_refl _⟩ ?_
  refine V_iret dX0_part_24 rfl (Nat.le_of_ble_eq_true rfl) (Nat.le_refl _) (Nat.le_refl _) ?_
  exact ⟨by unfold wLt; rw [Nat.pow_one], rfl⟩
theorem s_X0_across (hd : 3 ≤ d) {a0 a1 q n u v k : Nat} (h : OKq q n) (hu : u < q ^ n) (hv : v < q ^ n) (hk : k ≤ n) : SpP tO MX0_across (d, 0, 0) [.ref a0, .int (nI u), .int (nI v), .int (nI k)] (alW a0 a1 q n) (some (.int (nI (wAc q n u v k)))) := by
  refine eX0_across [some (.ref a0), some (.int (nI u)), some (.int (nI v)), some (.int (nI k))] rfl (Nat.le_of_ble_eq_true rfl) ?_
  have hn := h.2.2.2.1
  refine V_aload_n dX0_across_0 rfl ?_
  refine V_iload_n dX0_across_1 rfl ?_
  refine V_aload_n dX0_across_2 rfl ?_
  refine V_get 0 dX0_across_3 fX0_across_23 rfl rfl ?_
  refine V_iload_n dX0_across_6 rfl ?_
  first | refine V_isub_N dX0_across_7 (by omega) ?_ | refine V_isub dX0_across_7 ?_
  refine V_callVpi2 [0, 1] (s_X0_ending (d := d - 1) (by omega) h hu (by omega)) gX0_across_X0_ending dX0_across_8 oX0_ending rfl rfl rfl rfl (Nat.le_of_ble_eq_true rfl) (by omega) ⟨Nat.le_refl _, Nat.le_refl _⟩ ?_
  refine V_aload_n dX0_across_11 rfl ?_
  refine V_iload_n dX0_across_12 rfl ?_
  refine V_callVpi1 [0, 1] (s_X0_power (d := d - 1) (by omega) (by omega)) gX0_across_X0_power dX0_across_13 oX0_power rfl rfl rfl rfl (Nat.le_of_ble_eq_true rfl) (by omega) ⟨Nat.le_refl _, Nat.le_refl _⟩ ?_
  first | refine V_imul_N dX0_across_16 ?_ | refine V_imul dX0_across_16 ?_
  refine V_aload_n dX0_across_17 rfl ?_
  refine V_iload_n dX0_across_18 rfl ?_
  refine V_iload_n dX0_across_19 rfl ?_
  refine V_callVpi2 [0, 1] (s_X0_opening (d := d - 1) (by omega) h hv (by omega)) gX0_across_X0_opening dX0_across_20 oX0_opening rfl rfl rfl rfl (Nat.le_of_ble_eq_true rfl) (by omega) ⟨Nat.le_refl _, Nat.le_refl _⟩ ?_
  first | refine V_iadd_N dX0_across_23 ?_ | refine V_iadd dX0_across_23 ?_
  refine V_iret dX0_across_24 rfl (Nat.le_of_ble_eq_true rfl) (Nat.le_refl _) (Nat.le_refl _) ?_
  exact ⟨rfl, rfl⟩
theorem s_X0_turned (hd : 2 ≤ d) {a0 a1 q n w : Nat} (h : OKq q n) (hw : w < q ^ n) : SpP tO MX0_turned (d, 0, 0) [.ref a0, .int (nI w)] (alW a0 a1 q n) (some (.int (nI (wTu q n w)))) := by
  refine eX0_turned [some (.ref a0), some (.int (nI w)), none] rfl (Nat.le_of_ble_eq_true rfl) ?_
  have hN := h.2.2.2.2
  have hn := h.2.2.2.1
  have hn1 := h.2.2.1
  have hp := h.le (k := n - 1) (by omega)
  have h0 := h.pos (n - 1)
  refine V_aload_n dX0_turned_0 rfl ?_
  refine V_aload_n dX0_turned_1 rfl ?_
  refine V_get 0 dX0_turned_2 fX0_turned_23 rfl rfl ?_
  refine V_iconst (v := nI 1) dX0_turned_5 (by decide) ?_
  first | refine V_isub_N dX0_turned_6 (by omega) ?_ | refine V_isub dX0_turned_6 ?_
  refine V_callVpi1 [0, 1] (s_X0_power (d := d - 1) (by omega) (by omega)) gX0_turned_X0_power dX0_turned_7 oX0_power rfl rfl rfl rfl (Nat.le_of_ble_eq_true rfl) (by omega) ⟨Nat.le_refl _, Nat.le_refl _⟩ ?_
  refine V_istore_n dX0_turned_10 (by decide) rfl ?_
  refine V_iload_n dX0_turned_11 rfl ?_
  refine V_iload_n dX0_turned_12 rfl ?_
  refine V_callSpi2 [] (s_X8_rest (d := d - 1) (by omega) (by omega) h0 (by omega)) gX0_turned_X8_rest dX0_turned_13 oX8_rest rfl rfl (Nat.le_of_ble_eq_true rfl) (by omega) ⟨Nat.le_refl _, Nat.le_refl _⟩ ?_
  refine V_aload_n dX0_turned_16 rfl ?_
  refine V_get 0 dX0_turned_17 fX0_turned_19 rfl rfl ?_
  first | refine V_imul_N dX0_turned_20 ?_ | refine V_imul dX0_turned_20 ?_
  refine V_iload_n dX0_turned_21 rfl ?_
  refine V_iload_n dX0_turned_22 rfl ?_
  refine V_callSpi2 [] (s_X8_over (d := d - 1) (by omega) (by omega) (by omega)) gX0_turned_X8_over dX0_turned_23 oX8_over rfl rfl (Nat.le_of_ble_eq_true rfl) (by omega) ⟨Nat.le_refl _, Nat.le_refl _⟩ ?_
  first | refine V_iadd_N dX0_turned_26 ?_ | refine V_iadd dX0_turned_26 ?_
  refine V_iret dX0_turned_27 rfl (Nat.le_of_ble_eq_true rfl) (Nat.le_refl _) (Nat.le_refl _) ?_
  exact ⟨rfl, rfl⟩
theorem l_X0_ringSize (hd : 3 ≤ d) {a0 a1 q n w : Nat} (h : OKq q n) (hw : w < q ^ n) : ∀ (f t k : Nat), k + f = n → t < q ^ n → V tO MX0_ringSize (d, 0, 0) (alW a0 a1 q n) (fun v w' => v = some (.int (nI (rS q n w f t k))) ∧ w' = alW a0 a1 q n) (0, 0) (alW a0 a1 q n) 8 [some (.ref a0), some (.int (nI w)), some (.int (nI t)), some (.int (nI k))] [] := by
  have hN := h.2.2.2.2
  have hn := h.2.2.2.1
  intro f
  induction f with
  | zero =>
    intro t k hk ht
    refine V_iload_n dX0_ringSize_8 rfl ?_
    refine V_iload_n dX0_ringSize_9 rfl ?_
    first | refine V_icmp_eq_N 33 dX0_ringSize_10 (by decide) (by omega) (by omega) (fun c_10 => ?_) (fun c_10 => ?_) | refine V_icmp_eq 33 dX0_ringSize_10 (by decide) (fun c_10 => ?_) (fun c_10 => ?_)
    ·
      refine V_iload_n dX0_ringSize_33 rfl ?_
      refine V_iret dX0_ringSize_34 rfl (Nat.le_of_ble_eq_true rfl) (Nat.le_refl _) (Nat.le_refl _) ?_
      exact ⟨rfl, rfl⟩
    ·
      refine V_iload_n dX0_ringSize_13 rfl ?_
      refine V_aload_n dX0_ringSize_14 rfl ?_
      refine V_get 0 dX0_ringSize_15 fX0_ringSize_23 rfl rfl ?_
      refine V_icmp_ge_N 33 dX0_ringSize_18 (by decide) (by omega) (by omega) (fun c_18 => ?_) (fun c_18 => absurd c_18 (by omega))
      refine V_iload_n dX0_ringSize_33 rfl ?_
      refine V_iret dX0_ringSize_34 rfl (Nat.le_of_ble_eq_true rfl) (Nat.le_refl _) (Nat.le_refl _) ?_
      exact ⟨rfl, rfl⟩
  | succ f ih =>
    intro t k hk ht
    refine V_iload_n dX0_ringSize_8 rfl ?_
    refine V_iload_n dX0_ringSize_9 rfl ?_
    first | refine V_icmp_eq_N 33 dX0_ringSize_10 (by decide) (by omega) (by omega) (fun c_10 => ?_) (fun c_10 => ?_) | refine V_icmp_eq 33 dX0_ringSize_10 (by decide) (fun c_10 => ?_) (fun c_10 => ?_)
    ·
      rw [rS, if_pos c_10]
      refine V_iload_n dX0_ringSize_33 rfl ?_
      refine V_iret dX0_ringSize_34 rfl (Nat.le_of_ble_eq_true rfl) (Nat.le_refl _) (Nat.le_refl _) ?_
      exact ⟨rfl, rfl⟩
    ·
      rw [rS, if_neg c_10]
      refine V_iload_n dX0_ringSize_13 rfl ?_
      refine V_aload_n dX0_ringSize_14 rfl ?_
      refine V_get 0 dX0_ringSize_15 fX0_ringSize_23 rfl rfl ?_
      refine V_icmp_ge_N 33 dX0_ringSize_18 (by decide) (by omega) (by omega) (fun c_18 => absurd c_18 (by omega)) (fun c_18 => ?_)
      refine V_aload_n dX0_ringSize_21 rfl ?_
      refine V_iload_n dX0_ringSize_22 rfl ?_
      refine V_callVpi1 [0, 1] (s_X0_turned (d := d - 1) (by omega) h ht) gX0_ringSize_X0_turned dX0_ringSize_23 oX0_turned rfl rfl rfl rfl (Nat.le_of_ble_eq_true rfl) (by omega) ⟨Nat.le_refl _, Nat.le_refl _⟩ ?_
      refine V_istore_n dX0_ringSize_26 (by decide) rfl ?_
      first | refine V_iinc_N (i := 1) dX0_ringSize_27 rfl (by decide) rfl ?_ | refine V_iinc dX0_ringSize_27 rfl rfl (by decide) rfl ?_
      refine V_goto 8 dX0_ringSize_30 (by decide) ?_
      exact ih _ (k + 1) (by omega) (wTu_lt h ht)
theorem s_X0_ringSize (hd : 3 ≤ d) {a0 a1 q n w : Nat} (h : OKq q n) (hw : w < q ^ n) : SpP tO MX0_ringSize (d, 0, 0) [.ref a0, .int (nI w)] (alW a0 a1 q n) (some (.int (nI (rSize q n w)))) := by
  refine eX0_ringSize [some (.ref a0), some (.int (nI w)), none, none] rfl (Nat.le_of_ble_eq_true rfl) ?_
  have hn := h.2.2.1
  refine V_aload_n dX0_ringSize_0 rfl ?_
  refine V_iload_n dX0_ringSize_1 rfl ?_
  refine V_callVpi1 [0, 1] (s_X0_turned (d := d - 1) (by omega) h hw) gX0_ringSize_X0_turned dX0_ringSize_2 oX0_turned rfl rfl rfl rfl (Nat.le_of_ble_eq_true rfl) (by omega) ⟨Nat.le_refl _, Nat.le_refl _⟩ ?_
  refine V_istore_n dX0_ringSize_5 (by decide) rfl ?_
  refine V_iconst (v := nI 1) dX0_ringSize_6 (by decide) ?_
  refine V_istore_n dX0_ringSize_7 (by decide) rfl ?_
  exact l_X0_ringSize hd h hw (n - 1) _ 1 (by omega) (wTu_lt h hw)
theorem l_X0_ringLeast (hd : 3 ≤ d) {a0 a1 q n w : Nat} (h : OKq q n) : ∀ (f i t l : Nat), i + f = n → t < q ^ n → l < q ^ n → V tO MX0_ringLeast (d, 0, 0) (alW a0 a1 q n) (fun v w' => v = some (.int (nI (rL q n f t l))) ∧ w' = alW a0 a1 q n) (0, 0) (alW a0 a1 q n) 7 [some (.ref a0), some (.int (nI w)), some (.int (nI l)), some (.int (nI t)), some (.int (nI i))] [] := by
  have hN := h.2.2.2.2
  have hn := h.2.2.2.1
  intro f
  induction f with
  | zero =>
    intro i t l hi ht hl
    refine V_iload dX0_ringLeast_7 rfl ?_
    refine V_aload_n dX0_ringLeast_9 rfl ?_
    refine V_get 0 dX0_ringLeast_10 fX0_ringLeast_23 rfl rfl ?_
    refine V_icmp_ge_N 34 dX0_ringLeast_13 (by decide) (by omega) (by omega) (fun c_13 => ?_) (fun c_13 => absurd c_13 (by omega))
    refine V_iload_n dX0_ringLeast_34 rfl ?_
    refine V_iret dX0_ringLeast_35 rfl (Nat.le_of_ble_eq_true rfl) (Nat.le_refl _) (Nat.le_refl _) ?_
    exact ⟨rfl, rfl⟩
  | succ f ih =>
    intro i t l hi ht hl
    have ht2 := wTu_lt h ht
    refine V_iload dX0_ringLeast_7 rfl ?_
    refine V_aload_n dX0_ringLeast_9 rfl ?_
    refine V_get 0 dX0_ringLeast_10 fX0_ringLeast_23 rfl rfl ?_
    refine V_icmp_ge_N 34 dX0_ringLeast_13 (by decide) (by omega) (by omega) (fun c_13 => absurd c_13 (by omega)) (fun c_13 => ?_)
    refine V_aload_n dX0_ringLeast_16 rfl ?_
    refine V_iload_n dX0_ringLeast_17 rfl ?_
    refine V_callVpi1 [0, 1] (s_X0_turned (d := d - 1) (by omega) h ht) gX0_ringLeast_X0_turned dX0_ringLeast_18 oX0_turned rfl rfl rfl rfl (Nat.le_of_ble_eq_true rfl) (by omega) ⟨Nat.le_refl _, Nat.le_refl _⟩ ?_
    refine V_istore_n dX0_ringLeast_21 (by decide) rfl ?_
    refine V_iload_n dX0_ringLeast_22 rfl ?_
    refine V_iload_n dX0_ringLeast_23 rfl ?_
    first | refine V_mmin_N dX0_ringLeast_24 mmX0_ringLeast_51 (by omega) (Nat.le_of_ble_eq_true rfl) (Nat.le_refl _) (Nat.le_refl _) (by omega) (by omega) ?_ | refine V_mmin dX0_ringLeast_24 mmX0_ringLeast_51 (by omega) (Nat.le_of_ble_eq_true rfl) (Nat.le_refl _) (Nat.le_refl _) ?_
    refine V_istore_n dX0_ringLeast_27 (by decide) rfl ?_
    first | refine V_iinc_N (i := 1) dX0_ringLeast_28 rfl (by decide) rfl ?_ | refine V_iinc dX0_ringLeast_28 rfl rfl (by decide) rfl ?_
    refine V_goto 7 dX0_ringLeast_31 (by decide) ?_
    exact ih (i + 1) _ _ (by omega) ht2 (by omega)
theorem s_X0_ringLeast (hd : 3 ≤ d) {a0 a1 q n w : Nat} (h : OKq q n) (hw : w < q ^ n) : SpP tO MX0_ringLeast (d, 0, 0) [.ref a0, .int (nI w)] (alW a0 a1 q n) (some (.int (nI (rLeast q n w)))) := by
  refine eX0_ringLeast [some (.ref a0), some (.int (nI w)), none, none, none] rfl (Nat.le_of_ble_eq_true rfl) ?_
  have hn := h.2.2.1
  refine V_iload_n dX0_ringLeast_0 rfl ?_
  refine V_istore_n dX0_ringLeast_1 (by decide) rfl ?_
  refine V_iload_n dX0_ringLeast_2 rfl ?_
  refine V_istore_n dX0_ringLeast_3 (by decide) rfl ?_
  refine V_iconst (v := nI 1) dX0_ringLeast_4 (by decide) ?_
  refine V_istore dX0_ringLeast_5 (by decide) rfl ?_
  exact l_X0_ringLeast hd h (n - 1) 1 w w (by omega) hw hw
theorem s_X0_isWhole (hd : 4 ≤ d) {a0 a1 q n w : Nat} (h : OKq q n) (hw : w < q ^ n) : SpP tO MX0_isWhole (d, 0, 0) [.ref a0, .int (nI w)] (alW a0 a1 q n) (some (.int (bI (rWh q n w)))) := by
  refine eX0_isWhole [some (.ref a0), some (.int (nI w))] rfl (Nat.le_of_ble_eq_true rfl) ?_
  have hn := h.2.2.2.1
  have hn1 := h.2.2.1
  have hs : rSize q n w ≤ n := by have := (rS_le q n w (n - 1) (wTu q n w) 1).2; unfold rSize; omega
  refine V_aload_n dX0_isWhole_0 rfl ?_
  refine V_iload_n dX0_isWhole_1 rfl ?_
  refine V_callVpi1 [0, 1] (s_X0_ringSize (d := d - 1) (by omega) h hw) gX0_isWhole_X0_ringSize dX0_isWhole_2 oX0_ringSize rfl rfl rfl rfl (Nat.le_of_ble_eq_true rfl) (by omega) ⟨Nat.le_refl _, Nat.le_refl _⟩ ?_
  refine V_aload_n dX0_isWhole_5 rfl ?_
  refine V_get 0 dX0_isWhole_6 fX0_isWhole_23 rfl rfl ?_
  first | refine V_icmp_ne_N 16 dX0_isWhole_9 (by decide) (by omega) (by omega) (fun c_9 => ?_) (fun c_9 => ?_) | refine V_icmp_ne 16 dX0_isWhole_9 (by decide) (fun c_9 => ?_) (fun c_9 => ?_)
  ·
    refine V_iconst (v := nI 0) dX0_isWhole_16 (by decide) ?_
    refine V_zret dX0_isWhole_17 rfl (by first | exact Or.inl rfl | exact Or.inr rfl | exact bI_or _) (Nat.le_of_ble_eq_true rfl) (Nat.le_refl _) (Nat.le_refl _) ?_
    exact ⟨by unfold rWh; first | (rw [c_9, beq_self_eq_true]; rfl) | (rw [beq_eq_false_iff_ne.mpr c_9]; rfl), rfl⟩
  ·
    refine V_iconst (v := nI 1) dX0_isWhole_12 (by decide) ?_
    refine V_goto 17 dX0_isWhole_13 (by decide) ?_
    refine V_zret dX0_isWhole_17 rfl (by first | exact Or.inl rfl | exact Or.inr rfl | exact bI_or _) (Nat.le_of_ble_eq_true rfl) (Nat.le_refl _) (Nat.le_refl _) ?_
    exact ⟨by unfold rWh; first | (rw [c_9, beq_self_eq_true]; rfl) | (rw [beq_eq_false_iff_ne.mpr c_9]; rfl), rfl⟩
theorem l_X0_wholeRingsBelow (hd : 5 ≤ d) {a0 a1 q n e : Nat} (h : OKq q n) (he : e ≤ q ^ n) : ∀ (f w : Nat), w + f = e → V tO MX0_wholeRingsBelow (d, 0, 0) (alW a0 a1 q n) (fun v w' => v = some (.int (nI (ct (rRi q n) e))) ∧ w' = alW a0 a1 q n) (0, 0) (alW a0 a1 q n) 4 [some (.ref a0), some (.int (nI e)), some (.int (nI (ct (rRi q n) w))), some (.int (nI w))] [] := by
  have hN := h.2.2.2.2
  intro f
  induction f with
  | zero =>
    intro w hw
    have e1 : w = e := by omega
    subst e1
    refine V_iload_n dX0_wholeRingsBelow_4 rfl ?_
    refine V_iload_n dX0_wholeRingsBelow_5 rfl ?_
    refine V_icmp_ge_N 43 dX0_wholeRingsBelow_6 (by decide) (by omega) (by omega) (fun c_6 => ?_) (fun c_6 => absurd c_6 (by omega))
    refine V_iload_n dX0_wholeRingsBelow_43 rfl ?_
    refine V_iret dX0_wholeRingsBelow_44 rfl (Nat.le_of_ble_eq_true rfl) (Nat.le_refl _) (Nat.le_refl _) ?_
    exact ⟨rfl, rfl⟩
  | succ f ih =>
    intro w hw
    have hlt : w < q ^ n := by omega
    have hle := rLeast_le q n w
    have i1 := ih (w + 1) (by omega)
    refine V_iload_n dX0_wholeRingsBelow_4 rfl ?_
    refine V_iload_n dX0_wholeRingsBelow_5 rfl ?_
    refine V_icmp_ge_N 43 dX0_wholeRingsBelow_6 (by decide) (by omega) (by omega) (fun c_6 => absurd c_6 (by omega)) (fun c_6 => ?_)
    refine V_iload_n dX0_wholeRingsBelow_9 rfl ?_
    refine V_aload_n dX0_wholeRingsBelow_10 rfl ?_
    refine V_get 0 dX0_wholeRingsBelow_11 fX0_wholeRingsBelow_30 rfl rfl ?_
    refine V_icmp_ge_N 43 dX0_wholeRingsBelow_14 (by decide) (by omega) (by omega) (fun c_14 => absurd c_14 (by omega)) (fun c_14 => ?_)
    refine V_aload_n dX0_wholeRingsBelow_17 rfl ?_
    refine V_iload_n dX0_wholeRingsBelow_18 rfl ?_
    refine V_callVpi1 [0, 1] (s_X0_ringLeast (d := d - 1) (by omega) h hlt) gX0_wholeRingsBelow_X0_ringLeast dX0_wholeRingsBelow_19 oX0_ringLeast rfl rfl rfl rfl (Nat.le_of_ble_eq_true rfl) (by omega) ⟨Nat.le_refl _, Nat.le_refl _⟩ ?_
    refine V_iload_n dX0_wholeRingsBelow_22 rfl ?_
    first | refine V_icmp_ne_N 37 dX0_wholeRingsBelow_23 (by decide) (by omega) (by omega) (fun c_23 => ?_) (fun c_23 => ?_) | refine V_icmp_ne 37 dX0_wholeRingsBelow_23 (by decide) (fun c_23 => ?_) (fun c_23 => ?_)
    ·
      rw [ct_succ, show rRi q n w = false by unfold rRi; rw [beq_eq_false_iff_ne.mpr c_23]; rfl] at i1
      first | refine V_iinc_N (i := 1) dX0_wholeRingsBelow_37 rfl (by decide) rfl ?_ | refine V_iinc dX0_wholeRingsBelow_37 rfl rfl (by decide) rfl ?_
      refine V_goto 4 dX0_wholeRingsBelow_40 (by decide) ?_
      exact i1
    ·
      refine V_aload_n dX0_wholeRingsBelow_26 rfl ?_
      refine V_iload_n dX0_wholeRingsBelow_27 rfl ?_
      refine V_callVpi1 [0, 1] (s_X0_isWhole (d := d - 1) (by omega) h hlt) gX0_wholeRingsBelow_X0_isWhole dX0_wholeRingsBelow_28 oX0_isWhole rfl rfl rfl rfl (Nat.le_of_ble_eq_true rfl) (by omega) ⟨Nat.le_refl _, Nat.le_refl _⟩ ?_
      first | refine V_if_eq_B 37 dX0_wholeRingsBelow_31 (by decide) (fun c_31 => ?_) (fun c_31 => ?_) | refine V_if_eq_N 37 dX0_wholeRingsBelow_31 (by decide) (by omega) (fun c_31 => ?_) (fun c_31 => ?_) | refine V_if_eq 37 dX0_wholeRingsBelow_31 (by decide) (fun c_31 => ?_) (fun c_31 => ?_)
      ·
        rw [ct_succ, show rRi q n w = false by unfold rRi; rw [c_31, Bool.and_false]] at i1
        first | refine V_iinc_N (i := 1) dX0_wholeRingsBelow_37 rfl (by decide) rfl ?_ | refine V_iinc dX0_wholeRingsBelow_37 rfl rfl (by decide) rfl ?_
        refine V_goto 4 dX0_wholeRingsBelow_40 (by decide) ?_
        exact i1
      ·
        rw [ct_succ, show rRi q n w = true by unfold rRi; rw [c_31, c_23, beq_self_eq_true]; rfl] at i1
        first | refine V_iinc_N (i := 1) dX0_wholeRingsBelow_34 rfl (by decide) rfl ?_ | refine V_iinc dX0_wholeRingsBelow_34 rfl rfl (by decide) rfl ?_
        first | refine V_iinc_N (i := 1) dX0_wholeRingsBelow_37 rfl (by decide) rfl ?_ | refine V_iinc dX0_wholeRingsBelow_37 rfl rfl (by decide) rfl ?_
        refine V_goto 4 dX0_wholeRingsBelow_40 (by decide) ?_
        exact i1
theorem s_X0_wholeRingsBelow (hd : 5 ≤ d) {a0 a1 q n e : Nat} (h : OKq q n) (he : e ≤ q ^ n) : SpP tO MX0_wholeRingsBelow (d, 0, 0) [.ref a0, .int (nI e)] (alW a0 a1 q n) (some (.int (nI (ct (rRi q n) e)))) := by
  refine eX0_wholeRingsBelow [some (.ref a0), some (.int (nI e)), none, none] rfl (Nat.le_of_ble_eq_true rfl) ?_
  refine V_iconst (v := nI 0) dX0_wholeRingsBelow_0 (by decide) ?_
  refine V_istore_n dX0_wholeRingsBelow_1 (by decide) rfl ?_
  refine V_iconst (v := nI 0) dX0_wholeRingsBelow_2 (by decide) ?_
  refine V_istore_n dX0_wholeRingsBelow_3 (by decide) rfl ?_
  exact l_X0_wholeRingsBelow hd h he e 0 (by omega)
theorem l_X0_wholeRing (hd : 5 ≤ d) {a0 a1 q n : Nat} {x : Int32} (h : OKq q n) : ∀ (f w c : Nat), w + f = q ^ n → V tO MX0_wholeRing (d, 0, 0) (alW a0 a1 q n) (fun v w' => v = some (.int (kth (rRi q n) x f w c)) ∧ w' = alW a0 a1 q n) (0, 0) (alW a0 a1 q n) 4 [some (.ref a0), some (.int x), some (.int (nI c)), some (.int (nI w))] [] := by
  have hN := h.2.2.2.2
  intro f
  induction f with
  | zero =>
    intro w c hw
    refine V_iload_n dX0_wholeRing_4 rfl ?_
    refine V_aload_n dX0_wholeRing_5 rfl ?_
    refine V_get 0 dX0_wholeRing_6 fX0_wholeRing_30 rfl rfl ?_
    refine V_icmp_ge_N 45 dX0_wholeRing_9 (by decide) (by omega) (by omega) (fun c_9 => ?_) (fun c_9 => absurd c_9 (by omega))
    refine V_bipush (v := (-5)) dX0_wholeRing_45 (by decide) ?_
    refine V_iret dX0_wholeRing_47 rfl (Nat.le_of_ble_eq_true rfl) (Nat.le_refl _) (Nat.le_refl _) ?_
    exact ⟨rfl, rfl⟩
  | succ f ih =>
    intro w c hw
    have hlt : w < q ^ n := by omega
    have hle := rLeast_le q n w
    rw [kth]
    refine V_iload_n dX0_wholeRing_4 rfl ?_
    refine V_aload_n dX0_wholeRing_5 rfl ?_
    refine V_get 0 dX0_wholeRing_6 fX0_wholeRing_30 rfl rfl ?_
    refine V_icmp_ge_N 45 dX0_wholeRing_9 (by decide) (by omega) (by omega) (fun c_9 => absurd c_9 (by omega)) (fun c_9 => ?_)
    refine V_aload_n dX0_wholeRing_12 rfl ?_
    refine V_iload_n dX0_wholeRing_13 rfl ?_
    refine V_callVpi1 [0, 1] (s_X0_ringLeast (d := d - 1) (by omega) h hlt) gX0_wholeRing_X0_ringLeast dX0_wholeRing_14 oX0_ringLeast rfl rfl rfl rfl (Nat.le_of_ble_eq_true rfl) (by omega) ⟨Nat.le_refl _, Nat.le_refl _⟩ ?_
    refine V_iload_n dX0_wholeRing_17 rfl ?_
    first | refine V_icmp_ne_N 39 dX0_wholeRing_18 (by decide) (by omega) (by omega) (fun c_18 => ?_) (fun c_18 => ?_) | refine V_icmp_ne 39 dX0_wholeRing_18 (by decide) (fun c_18 => ?_) (fun c_18 => ?_)
    ·
      rw [if_neg (show ¬ rRi q n w = true by unfold rRi; rw [beq_eq_false_iff_ne.mpr c_18]; simp)]
      first | refine V_iinc_N (i := 1) dX0_wholeRing_39 rfl (by decide) rfl ?_ | refine V_iinc dX0_wholeRing_39 rfl rfl (by decide) rfl ?_
      refine V_goto 4 dX0_wholeRing_42 (by decide) ?_
      exact ih _ _ (by omega)
    ·
      refine V_aload_n dX0_wholeRing_21 rfl ?_
      refine V_iload_n dX0_wholeRing_22 rfl ?_
      refine V_callVpi1 [0, 1] (s_X0_isWhole (d := d - 1) (by omega) h hlt) gX0_wholeRing_X0_isWhole dX0_wholeRing_23 oX0_isWhole rfl rfl rfl rfl (Nat.le_of_ble_eq_true rfl) (by omega) ⟨Nat.le_refl _, Nat.le_refl _⟩ ?_
      first | refine V_if_eq_B 39 dX0_wholeRing_26 (by decide) (fun c_26 => ?_) (fun c_26 => ?_) | refine V_if_eq_N 39 dX0_wholeRing_26 (by decide) (by omega) (fun c_26 => ?_) (fun c_26 => ?_) | refine V_if_eq 39 dX0_wholeRing_26 (by decide) (fun c_26 => ?_) (fun c_26 => ?_)
      ·
        rw [if_neg (show ¬ rRi q n w = true by unfold rRi; rw [c_26, Bool.and_false]; simp)]
        first | refine V_iinc_N (i := 1) dX0_wholeRing_39 rfl (by decide) rfl ?_ | refine V_iinc dX0_wholeRing_39 rfl rfl (by decide) rfl ?_
        refine V_goto 4 dX0_wholeRing_42 (by decide) ?_
        exact ih _ _ (by omega)
      ·
        rw [if_pos (show rRi q n w = true by unfold rRi; rw [c_26, c_18, beq_self_eq_true]; rfl)]
        refine V_iload_n dX0_wholeRing_29 rfl ?_
        refine V_iload_n dX0_wholeRing_30 rfl ?_
        refine V_icmp_ne 36 dX0_wholeRing_31 (by decide) (fun c_31 => ?_) (fun c_31 => ?_)
        ·
          rw [if_neg (fun e => c_31 e.symm)]
          first | refine V_iinc_N (i := 1) dX0_wholeRing_36 rfl (by decide) rfl ?_ | refine V_iinc dX0_wholeRing_36 rfl rfl (by decide) rfl ?_
          first | refine V_iinc_N (i := 1) dX0_wholeRing_39 rfl (by decide) rfl ?_ | refine V_iinc dX0_wholeRing_39 rfl rfl (by decide) rfl ?_
          refine V_goto 4 dX0_wholeRing_42 (by decide) ?_
          exact ih _ _ (by omega)
        ·
          rw [if_pos c_31.symm]
          refine V_iload_n dX0_wholeRing_34 rfl ?_
          refine V_iret dX0_wholeRing_35 rfl (Nat.le_of_ble_eq_true rfl) (Nat.le_refl _) (Nat.le_refl _) ?_
          exact ⟨rfl, rfl⟩
theorem s_X0_wholeRing (hd : 5 ≤ d) {a0 a1 q n : Nat} {x : Int32} (h : OKq q n) : SpP tO MX0_wholeRing (d, 0, 0) [.ref a0, .int x] (alW a0 a1 q n) (some (.int (kth (rRi q n) x (q ^ n) 0 0))) := by
  refine eX0_wholeRing [some (.ref a0), some (.int x), none, none] rfl (Nat.le_of_ble_eq_true rfl) ?_
  refine V_iconst (v := nI 0) dX0_wholeRing_0 (by decide) ?_
  refine V_istore_n dX0_wholeRing_1 (by decide) rfl ?_
  refine V_iconst (v := nI 0) dX0_wholeRing_2 (by decide) ?_
  refine V_istore_n dX0_wholeRing_3 (by decide) rfl ?_
  exact l_X0_wholeRing hd h (q ^ n) 0 0 (by omega)
theorem l_X0_swaps {a0 a1 q n : Nat} (h : OKq q n) : ∀ (f j : Nat), j + f = q → V tO MX0_swaps (d, 0, 0) (alW a0 a1 q n) (fun v w' => v = some (.int (nI (nSw q))) ∧ w' = alW a0 a1 q n) (0, 0) (alW a0 a1 q n) 4 [some (.ref a0), some (.int (nI (2 * fac j))), some (.int (nI (j + 1)))] [] := by
  have hq := h.2.1
  intro f
  induction f with
  | zero =>
    intro j hj
    have e : j = q := by omega
    subst e
    refine V_iload_n dX0_swaps_4 rfl ?_
    refine V_aload_n dX0_swaps_5 rfl ?_
    refine V_get 0 dX0_swaps_6 fX0_swaps_19 rfl rfl ?_
    refine V_icmp_gt_N 22 dX0_swaps_9 (by decide) (by omega) (by omega) (fun c_9 => ?_) (fun c_9 => absurd c_9 (by omega))
    refine V_iload_n dX0_swaps_22 rfl ?_
    refine V_iret dX0_swaps_23 rfl (Nat.le_of_ble_eq_true rfl) (Nat.le_refl _) (Nat.le_refl _) ?_
    exact ⟨rfl, rfl⟩
  | succ f ih =>
    intro j hj
    have e : 2 * fac j * (j + 1) = 2 * fac (j + 1) := by rw [fac, Nat.mul_assoc, Nat.mul_comm (fac j)]
    refine V_iload_n dX0_swaps_4 rfl ?_
    refine V_aload_n dX0_swaps_5 rfl ?_
    refine V_get 0 dX0_swaps_6 fX0_swaps_19 rfl rfl ?_
    refine V_icmp_gt_N 22 dX0_swaps_9 (by decide) (by omega) (by omega) (fun c_9 => absurd c_9 (by omega)) (fun c_9 => ?_)
    refine V_iload_n dX0_swaps_12 rfl ?_
    refine V_iload_n dX0_swaps_13 rfl ?_
    first | refine V_imul_N dX0_swaps_14 ?_ | refine V_imul dX0_swaps_14 ?_
    refine V_istore_n dX0_swaps_15 (by decide) rfl ?_
    first | refine V_iinc_N (i := 1) dX0_swaps_16 rfl (by decide) rfl ?_ | refine V_iinc dX0_swaps_16 rfl rfl (by decide) rfl ?_
    refine V_goto 4 dX0_swaps_19 (by decide) ?_
    rw [e]
    exact ih (j + 1) (by omega)
theorem s_X0_swaps (hd : 1 ≤ d) {a0 a1 q n : Nat} (h : OKq q n) : SpP tO MX0_swaps (d, 0, 0) [.ref a0] (alW a0 a1 q n) (some (.int (nI (nSw q)))) := by
  refine eX0_swaps [some (.ref a0), none, none] rfl (Nat.le_of_ble_eq_true rfl) ?_
  have hq := h.1
  refine V_iconst (v := nI 2) dX0_swaps_0 (by decide) ?_
  refine V_istore_n dX0_swaps_1 (by decide) rfl ?_
  refine V_iconst (v := nI 2) dX0_swaps_2 (by decide) ?_
  refine V_istore_n dX0_swaps_3 (by decide) rfl ?_
  exact l_X0_swaps h (q - 1) 1 (by omega)
theorem nSw_le {q n : Nat} (h : OKq q n) : nSw q ≤ 48 := by
  obtain ⟨h1, h2, -⟩ := h
  have hq : q = 2 ∨ q = 3 ∨ q = 4 := by omega
  rcases hq with rfl | rfl | rfl <;> decide
theorem s_X0_isSwap (hd : 2 ≤ d) {a0 a1 q n : Nat} {x : Int32} (h : OKq q n) : SpP tO MX0_isSwap (d, 0, 0) [.ref a0, .int x] (alW a0 a1 q n) (some (.int (bI (isW (nSw q) x)))) := by
  refine eX0_isSwap [some (.ref a0), some (.int x)] rfl (Nat.le_of_ble_eq_true rfl) ?_
  have hN := nSw_le h
  refine V_iload_n dX0_isSwap_0 rfl ?_
  refine V_if_lt 16 dX0_isSwap_1 (by decide) (fun c_1 => ?_) (fun c_1 => ?_)
  ·
    have e : isW (nSw q) x = false := by unfold isW; rw [z_lt0] at c_1; exact decide_eq_false (by omega)
    refine V_iconst (v := nI 0) dX0_isSwap_16 (by decide) ?_
    refine V_zret dX0_isSwap_17 rfl (by first | exact Or.inl rfl | exact Or.inr rfl | exact bI_or _) (Nat.le_of_ble_eq_true rfl) (Nat.le_refl _) (Nat.le_refl _) ?_
    exact ⟨by rw [e]; rfl, rfl⟩
  ·
    rw [z_lt0] at c_1
    refine V_iload_n dX0_isSwap_4 rfl ?_
    refine V_aload_n dX0_isSwap_5 rfl ?_
    refine V_callVpi0 [0, 1] (s_X0_swaps (d := d - 1) (by omega) h) gX0_isSwap_X0_swaps dX0_isSwap_6 oX0_swaps rfl rfl rfl rfl (Nat.le_of_ble_eq_true rfl) (by omega) ⟨Nat.le_refl _, Nat.le_refl _⟩ ?_
    refine V_icmp_ge 16 dX0_isSwap_9 (by decide) (fun c_9 => ?_) (fun c_9 => ?_)
    ·
      have e : isW (nSw q) x = false := by unfold isW; rw [z_ge (by omega)] at c_9; exact decide_eq_false (by omega)
      refine V_iconst (v := nI 0) dX0_isSwap_16 (by decide) ?_
      refine V_zret dX0_isSwap_17 rfl (by first | exact Or.inl rfl | exact Or.inr rfl | exact bI_or _) (Nat.le_of_ble_eq_true rfl) (Nat.le_refl _) (Nat.le_refl _) ?_
      exact ⟨by rw [e]; rfl, rfl⟩
    ·
      have e : isW (nSw q) x = true := by unfold isW; rw [z_ge (by omega)] at c_9; exact decide_eq_true (by omega)
      refine V_iconst (v := nI 1) dX0_isSwap_12 (by decide) ?_
      refine V_goto 17 dX0_isSwap_13 (by decide) ?_
      refine V_zret dX0_isSwap_17 rfl (by first | exact Or.inl rfl | exact Or.inr rfl | exact bI_or _) (Nat.le_of_ble_eq_true rfl) (Nat.le_refl _) (Nat.le_refl _) ?_
      exact ⟨by rw [e]; rfl, rfl⟩
theorem l_X0_exchanged (hd : 3 ≤ d) {a0 a1 q n s w mb : Nat} (h : OKq q n) (hs : s < nSw q) (hw : w < q ^ n) (hmb : mb = if s % 2 = 1 then 1 else 0) : ∀ (f i r : Nat), i + f = n → V tO MX0_exchanged (d, 0, 0) (alW a0 a1 q n) (fun v w' => v = some (.int (nI (exF q n s w f i r))) ∧ w' = alW a0 a1 q n) (0, 0) (alW a0 a1 q n) 36 [some (.ref a0), some (.int (nI s)), some (.int (nI w)), some (.int (nI (4 - q))), some (.int (nI (4 * (s / 2) + (4 - q)))), some (.int (nI mb)), some (.int (nI r)), some (.int (nI i)), none] [] := by
  have hq := h.2.1
  have hn := h.2.2.2.1
  have hS := nSw_le h
  intro f
  induction f with
  | zero =>
    intro i r hi
    refine V_iload dX0_exchanged_36 rfl ?_
    refine V_aload_n dX0_exchanged_38 rfl ?_
    refine V_get 0 dX0_exchanged_39 fX0_exchanged_23 rfl rfl ?_
    refine V_icmp_ge_N 101 dX0_exchanged_42 (by decide) (by omega) (by omega) (fun c_42 => ?_) (fun c_42 => absurd c_42 (by omega))
    refine V_iload dX0_exchanged_101 rfl ?_
    refine V_iret dX0_exchanged_103 rfl (Nat.le_of_ble_eq_true rfl) (Nat.le_refl _) (Nat.le_refl _) ?_
    exact ⟨rfl, rfl⟩
  | succ f ih =>
    intro i r hi
    have key : ∀ j, j = (if s % 2 = 1 then n - 1 - i else i) → 4 * (s / 2) + (4 - q) + wLt q n w j < 96 ∧ nI (r * q) + (if 4 * (s / 2) + (4 - q) + wLt q n w j < 96 then zOrd (4 * (s / 2) + (4 - q) + wLt q n w j) else 0) - nI (4 - q) = nI (r * q + oT q (s / 2) (wLt q n w (if s % 2 = 1 then n - 1 - i else i))) := by
      intro j hj
      subst hj
      obtain ⟨h1, h2, -⟩ := oT_ok (j := s / 2) (c := wLt q n w (if s % 2 = 1 then n - 1 - i else i)) h.1 h.2.1 (by unfold nSw at hs; omega) (wLt_lt h)
      refine ⟨h1, ?_⟩
      rw [if_pos h1, zOrd_N _ h1, nI_add, pk_sub (by omega)]
      unfold oT
      congr 1
      omega
    have i1 := ih (i + 1) (r * q + oT q (s / 2) (wLt q n w (if s % 2 = 1 then n - 1 - i else i))) (by omega)
    refine V_iload dX0_exchanged_36 rfl ?_
    refine V_aload_n dX0_exchanged_38 rfl ?_
    refine V_get 0 dX0_exchanged_39 fX0_exchanged_23 rfl rfl ?_
    refine V_icmp_ge_N 101 dX0_exchanged_42 (by decide) (by omega) (by omega) (fun c_42 => absurd c_42 (by omega)) (fun c_42 => ?_)
    refine V_aload_n dX0_exchanged_45 rfl ?_
    refine V_iload_n dX0_exchanged_46 rfl ?_
    refine V_iload dX0_exchanged_47 rfl ?_
    refine V_if_eq_N 64 dX0_exchanged_49 (by decide) (by split at hmb <;> omega) (fun c_49 => ?_) (fun c_49 => ?_)
    ·
      have hk := key i (by split at hmb <;> rename_i hh; exact absurd hmb (by omega); rw [if_neg hh])
      refine V_iload dX0_exchanged_64 rfl ?_
      refine V_iconst (v := nI 1) dX0_exchanged_66 (by decide) ?_
      refine V_callVpi3 [0, 1] (s_X0_part (d := d - 1) (by omega) h hw (by omega)) gX0_exchanged_X0_part dX0_exchanged_67 oX0_part rfl rfl rfl rfl (Nat.le_of_ble_eq_true rfl) (by omega) ⟨Nat.le_refl _, Nat.le_refl _⟩ ?_
      refine V_istore dX0_exchanged_70 (by decide) rfl ?_
      refine V_iload dX0_exchanged_72 rfl ?_
      refine V_aload_n dX0_exchanged_74 rfl ?_
      refine V_get 0 dX0_exchanged_75 fX0_exchanged_19 rfl rfl ?_
      first | refine V_imul_N dX0_exchanged_78 ?_ | refine V_imul dX0_exchanged_78 ?_
      refine V_gets dX0_exchanged_79 (by decide +kernel) ?_
      refine V_iload dX0_exchanged_82 rfl ?_
      refine V_iload dX0_exchanged_84 rfl ?_
      first | refine V_iadd_N dX0_exchanged_86 ?_ | refine V_iadd dX0_exchanged_86 ?_
      refine V_callSpi2 [] (s_X8_atT (d := d - 1) (by omega) (by have := hk.1; omega)) gX0_exchanged_X8_at dX0_exchanged_87 oX8_at rfl rfl (Nat.le_of_ble_eq_true rfl) (by omega) ⟨Nat.le_refl _, Nat.le_refl _⟩ ?_
      first | refine V_iadd_N dX0_exchanged_90 ?_ | refine V_iadd dX0_exchanged_90 ?_
      refine V_iload_n dX0_exchanged_91 rfl ?_
      first | refine V_isub_N dX0_exchanged_92 (by omega) ?_ | refine V_isub dX0_exchanged_92 ?_
      refine V_to hk.2 ?_
      refine V_istore dX0_exchanged_93 (by decide) rfl ?_
      first | refine V_iinc_N (i := 1) dX0_exchanged_95 rfl (by decide) rfl ?_ | refine V_iinc dX0_exchanged_95 rfl rfl (by decide) rfl ?_
      refine V_goto 36 dX0_exchanged_98 (by decide) ?_
      refine V_wk [some (.ref a0), some (.int (nI s)), some (.int (nI w)), some (.int (nI (4 - q))), some (.int (nI (4 * (s / 2) + (4 - q)))), some (.int (nI mb)), some (.int (nI (r * q + oT q (s / 2) (wLt q n w (if s % 2 = 1 then n - 1 - i else i))))), some (.int (nI (i + 1))), none] ⟨rfl, rfl, rfl, rfl, rfl, rfl, rfl, rfl, trivial, trivial⟩ i1
    ·
      have hk := key (n - 1 - i) (by split at hmb <;> rename_i hh; rw [if_pos hh]; exact absurd hmb (by omega))
      refine V_aload_n dX0_exchanged_52 rfl ?_
      refine V_get 0 dX0_exchanged_53 fX0_exchanged_23 rfl rfl ?_
      refine V_iconst (v := nI 1) dX0_exchanged_56 (by decide) ?_
      first | refine V_isub_N dX0_exchanged_57 (by omega) ?_ | refine V_isub dX0_exchanged_57 ?_
      refine V_iload dX0_exchanged_58 rfl ?_
      first | refine V_isub_N dX0_exchanged_60 (by omega) ?_ | refine V_isub dX0_exchanged_60 ?_
      refine V_goto 66 dX0_exchanged_61 (by decide) ?_
      refine V_iconst (v := nI 1) dX0_exchanged_66 (by decide) ?_
      refine V_callVpi3 [0, 1] (s_X0_part (d := d - 1) (by omega) h hw (by omega)) gX0_exchanged_X0_part dX0_exchanged_67 oX0_part rfl rfl rfl rfl (Nat.le_of_ble_eq_true rfl) (by omega) ⟨Nat.le_refl _, Nat.le_refl _⟩ ?_
      refine V_istore dX0_exchanged_70 (by decide) rfl ?_
      refine V_iload dX0_exchanged_72 rfl ?_
      refine V_aload_n dX0_exchanged_74 rfl ?_
      refine V_get 0 dX0_exchanged_75 fX0_exchanged_19 rfl rfl ?_
      first | refine V_imul_N dX0_exchanged_78 ?_ | refine V_imul dX0_exchanged_78 ?_
      refine V_gets dX0_exchanged_79 (by decide +kernel) ?_
      refine V_iload dX0_exchanged_82 rfl ?_
      refine V_iload dX0_exchanged_84 rfl ?_
      first | refine V_iadd_N dX0_exchanged_86 ?_ | refine V_iadd dX0_exchanged_86 ?_
      refine V_callSpi2 [] (s_X8_atT (d := d - 1) (by omega) (by have := hk.1; omega)) gX0_exchanged_X8_at dX0_exchanged_87 oX8_at rfl rfl (Nat.le_of_ble_eq_true rfl) (by omega) ⟨Nat.le_refl _, Nat.le_refl _⟩ ?_
      first | refine V_iadd_N dX0_exchanged_90 ?_ | refine V_iadd dX0_exchanged_90 ?_
      refine V_iload_n dX0_exchanged_91 rfl ?_
      first | refine V_isub_N dX0_exchanged_92 (by omega) ?_ | refine V_isub dX0_exchanged_92 ?_
      refine V_to hk.2 ?_
      refine V_istore dX0_exchanged_93 (by decide) rfl ?_
      first | refine V_iinc_N (i := 1) dX0_exchanged_95 rfl (by decide) rfl ?_ | refine V_iinc dX0_exchanged_95 rfl rfl (by decide) rfl ?_
      refine V_goto 36 dX0_exchanged_98 (by decide) ?_
      refine V_wk [some (.ref a0), some (.int (nI s)), some (.int (nI w)), some (.int (nI (4 - q))), some (.int (nI (4 * (s / 2) + (4 - q)))), some (.int (nI mb)), some (.int (nI (r * q + oT q (s / 2) (wLt q n w (if s % 2 = 1 then n - 1 - i else i))))), some (.int (nI (i + 1))), none] ⟨rfl, rfl, rfl, rfl, rfl, rfl, rfl, rfl, trivial, trivial⟩ i1
theorem s_X0_exchanged (hd : 3 ≤ d) {a0 a1 q n s w : Nat} (h : OKq q n) (hs : s < nSw q) (hw : w < q ^ n) : SpP tO MX0_exchanged (d, 0, 0) [.ref a0, .int (nI s), .int (nI w)] (alW a0 a1 q n) (some (.int (nI (wEx q n s w)))) := by
  refine eX0_exchanged [some (.ref a0), some (.int (nI s)), some (.int (nI w)), none, none, none, none, none, none] rfl (Nat.le_of_ble_eq_true rfl) ?_
  have hq := h.2.1
  have hS := nSw_le h
  refine V_iconst (v := nI 4) dX0_exchanged_0 (by decide) ?_
  refine V_aload_n dX0_exchanged_1 rfl ?_
  refine V_get 0 dX0_exchanged_2 fX0_exchanged_19 rfl rfl ?_
  first | refine V_isub_N dX0_exchanged_5 (by omega) ?_ | refine V_isub dX0_exchanged_5 ?_
  refine V_istore_n dX0_exchanged_6 (by decide) rfl ?_
  refine V_iconst (v := nI 4) dX0_exchanged_7 (by decide) ?_
  refine V_iload_n dX0_exchanged_8 rfl ?_
  refine V_iconst (v := nI 1) dX0_exchanged_9 (by decide) ?_
  refine V_ishr dX0_exchanged_10 ?_
  refine V_to (pk_shrN (k := 1) (by omega) _ (by decide)) ?_
  first | refine V_imul_N dX0_exchanged_11 ?_ | refine V_imul dX0_exchanged_11 ?_
  refine V_iload_n dX0_exchanged_12 rfl ?_
  first | refine V_iadd_N dX0_exchanged_13 ?_ | refine V_iadd dX0_exchanged_13 ?_
  refine V_istore dX0_exchanged_14 (by decide) rfl ?_
  refine V_iload_n dX0_exchanged_16 rfl ?_
  refine V_iconst (v := nI 1) dX0_exchanged_17 (by decide) ?_
  refine V_iand dX0_exchanged_18 ?_
  refine V_to (pk_andN (k := 1) (by omega) (by decide)) ?_
  refine V_iconst (v := nI 1) dX0_exchanged_19 (by decide) ?_
  refine V_icmp_ne_N 27 dX0_exchanged_20 (by decide) (by omega) (by decide) (fun c_20 => ?_) (fun c_20 => ?_)
  ·
    refine V_iconst (v := nI 0) dX0_exchanged_27 (by decide) ?_
    refine V_istore dX0_exchanged_28 (by decide) rfl ?_
    refine V_iconst (v := nI 0) dX0_exchanged_30 (by decide) ?_
    refine V_istore dX0_exchanged_31 (by decide) rfl ?_
    refine V_iconst (v := nI 0) dX0_exchanged_33 (by decide) ?_
    refine V_istore dX0_exchanged_34 (by decide) rfl ?_
    exact l_X0_exchanged hd h hs hw (by first | (rw [if_pos (by omega)]) | (rw [if_neg (by omega)])) n 0 0 (by omega)
  ·
    refine V_iconst (v := nI 1) dX0_exchanged_23 (by decide) ?_
    refine V_goto 28 dX0_exchanged_24 (by decide) ?_
    refine V_istore dX0_exchanged_28 (by decide) rfl ?_
    refine V_iconst (v := nI 0) dX0_exchanged_30 (by decide) ?_
    refine V_istore dX0_exchanged_31 (by decide) rfl ?_
    refine V_iconst (v := nI 0) dX0_exchanged_33 (by decide) ?_
    refine V_istore dX0_exchanged_34 (by decide) rfl ?_
    exact l_X0_exchanged hd h hs hw (by first | (rw [if_pos (by omega)]) | (rw [if_neg (by omega)])) n 0 0 (by omega)
end ALPHA

