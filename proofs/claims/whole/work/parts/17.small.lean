/-! the i-th word of a book, by itself -/
def eB (B : Nat → Bool) (i : Nat) : Nat := fst (fun w => !(B w && ct B w == i)) 256 0
theorem eB_at {B : Nat → Bool} {g : Nat → Nat} {m i : Nat} (h : SE B g m) (hN : ∀ w, B w = true → w < 256) (hi : i < m) : eB B i = g i := by
  have hg := hN _ (h.mem hi)
  have a := h.at hi
  have h1 : fst (fun w => !(B w && ct B w == i)) 256 0 ≤ g i := by
    apply Decidable.byContradiction
    intro hn
    have := (le_fst (p := fun w => !(B w && ct B w == i)) (f := 256) (j := 0) (k := g i + 1) (by omega) (by omega)).mp (by omega) (g i) (by omega) (by omega)
    rw [h.mem hi, a, beq_self_eq_true] at this
    cases this
  have h2 : g i ≤ fst (fun w => !(B w && ct B w == i)) 256 0 := by
    rw [le_fst (by omega) (by omega)]
    intro w _ hw
    cases hb : B w with
    | false => rfl
    | true =>
      obtain ⟨j, hj, rfl⟩ := (h.2 w).mp hb
      rw [h.at hj]
      have : j ≠ i := fun e => by rw [e] at hw; omega
      rw [beq_eq_false_iff_ne.mpr this]
      rfl
  unfold eB
  omega
theorem SE.congr {B : Nat → Bool} {g g' : Nat → Nat} {m : Nat} (h : SE B g m) (e : ∀ i, i < m → g' i = g i) : SE B g' m := by
  refine ⟨fun i j hij hj => by rw [e i (by omega), e j hj]; exact h.1 i j hij hj, fun w => ?_⟩
  rw [h.2 w]
  constructor
  · rintro ⟨i, hi, q⟩; exact ⟨i, hi, by rw [e i hi]; exact q⟩
  · rintro ⟨i, hi, q⟩; exact ⟨i, hi, by rw [← e i hi]; exact q⟩
theorem Bk.se {N : Nat} {B : Nat → Bool} {W : Nat → Int32} {m : Nat} (h : Bk N B W m) (hN : N ≤ 256) : SE B (eB B) m := by
  obtain ⟨h1, g, h2, h3⟩ := h
  exact h2.congr (fun i hi => eB_at h2 (fun w hw => Nat.lt_of_lt_of_le (h1 w hw) hN) hi)
theorem Bk.w {N : Nat} {B : Nat → Bool} {W : Nat → Int32} {m i : Nat} (h : Bk N B W m) (hN : N ≤ 256) (hi : i < m) : W i = nI (eB B i) := by
  obtain ⟨h1, g, h2, h3⟩ := h
  rw [h3 i hi, eB_at h2 (fun w hw => Nat.lt_of_lt_of_le (h1 w hw) hN) hi]
theorem Bk.m {N : Nat} {B : Nat → Bool} {W : Nat → Int32} {m : Nat} (h : Bk N B W m) (hN : N ≤ 256) : ct B 256 = m := (h.mono hN).card
section SMALL
variable {tO d : Nat}
/-! Lists -/
abbrev obL (l0 l1 l2 : Nat) : Nat × zE := (l0, oB 4 [.ref l1, .ref l2])
theorem s_X5_isList (hd : 1 ≤ d) {x : Int32} : SpP tO MX5_isList (d, 0, 0) [.int x] [] (some (.int (bI (isW 4 x)))) := by
  refine eX5_isList [some (.int x)] rfl (Nat.le_of_ble_eq_true rfl) ?_
  refine V_iload_n dX5_isList_0 rfl ?_
  refine V_if_lt 13 dX5_isList_1 (by decide) (fun c_1 => ?_) (fun c_1 => ?_)
  ·
    have e : isW 4 x = false := by unfold isW; rw [z_lt0] at c_1; exact decide_eq_false (by omega)
    refine V_iconst (v := nI 0) dX5_isList_13 (by decide) ?_
    refine V_zret dX5_isList_14 rfl (by first | exact Or.inl rfl | exact Or.inr rfl | exact bI_or _) (Nat.le_of_ble_eq_true rfl) (Nat.le_refl _) (Nat.le_refl _) ?_
    exact ⟨by rw [e]; rfl, rfl⟩
  ·
    rw [z_lt0] at c_1
    refine V_iload_n dX5_isList_4 rfl ?_
    refine V_iconst (v := nI 4) dX5_isList_5 (by decide) ?_
    refine V_icmp_ge 13 dX5_isList_6 (by decide) (fun c_6 => ?_) (fun c_6 => ?_)
    ·
      have e : isW 4 x = false := by unfold isW; rw [z_ge (by decide)] at c_6; exact decide_eq_false (by omega)
      refine V_iconst (v := nI 0) dX5_isList_13 (by decide) ?_
      refine V_zret dX5_isList_14 rfl (by first | exact Or.inl rfl | exact Or.inr rfl | exact bI_or _) (Nat.le_of_ble_eq_true rfl) (Nat.le_refl _) (Nat.le_refl _) ?_
      exact ⟨by rw [e]; rfl, rfl⟩
    ·
      have e : isW 4 x = true := by unfold isW; rw [z_ge (by decide)] at c_6; exact decide_eq_true (by omega)
      refine V_iconst (v := nI 1) dX5_isList_9 (by decide) ?_
      refine V_goto 14 dX5_isList_10 (by decide) ?_
      refine V_zret dX5_isList_14 rfl (by first | exact Or.inl rfl | exact Or.inr rfl | exact bI_or _) (Nat.le_of_ble_eq_true rfl) (Nat.le_refl _) (Nat.le_refl _) ?_
      exact ⟨by rw [e]; rfl, rfl⟩
theorem s_X5_length (hd : 2 ≤ d) {l0 l1 l2 l : Nat} {Ln : Nat → Int32} (hl : l < 4) : SpP tO MX5_length (d, 0, 0) [.ref l0, .int (nI l)] [obL l0 l1 l2, (l1, aI 4 Ln)] (some (.int (Ln l))) := by
  refine eX5_length [some (.ref l0), some (.int (nI l))] rfl (Nat.le_of_ble_eq_true rfl) ?_
  refine V_iload_n dX5_length_0 rfl ?_
  refine V_callSpi1 [] (s_X5_isList (d := d - 1) (by omega) ) gX5_length_X5_isList dX5_length_1 oX5_isList rfl rfl (Nat.le_of_ble_eq_true rfl) (by omega) ⟨Nat.le_refl _, Nat.le_refl _⟩ ?_
  rw [isW_nI (by omega), decide_eq_true hl]
  first | refine V_if_eq_B 18 dX5_length_4 (by decide) (fun c_4 => ?_) (fun c_4 => ?_) | refine V_if_eq_N 18 dX5_length_4 (by decide) (by omega) (fun c_4 => ?_) (fun c_4 => ?_) | refine V_if_eq 18 dX5_length_4 (by decide) (fun c_4 => ?_) (fun c_4 => ?_)
  ·
    cases c_4
  ·
    refine V_aload_n dX5_length_7 rfl ?_
    refine V_get 0 dX5_length_8 fX5_length_9 rfl rfl ?_
    refine V_iload_n dX5_length_11 rfl ?_
    refine V_callSpi2 [1] (s_X8_atI (d := d - 1) (by omega) hl (by decide)) gX5_length_X8_at dX5_length_12 oX8_at rfl rfl (Nat.le_of_ble_eq_true rfl) (by omega) ⟨Nat.le_refl _, Nat.le_refl _⟩ ?_
    refine V_goto 19 dX5_length_15 (by decide) ?_
    refine V_iret dX5_length_19 rfl (Nat.le_of_ble_eq_true rfl) (Nat.le_refl _) (Nat.le_refl _) ?_
    exact ⟨rfl, rfl⟩
theorem s_X5_at (hd : 2 ≤ d) {l0 l1 l2 l i : Nat} {Ce : Nat → Int32} (hl : l < 4) (hi : i < 12) : SpP tO MX5_at (d, 0, 0) [.ref l0, .int (nI l), .int (nI i)] [obL l0 l1 l2, (l2, aI 48 Ce)] (some (.int (Ce (l * 12 + i)))) := by
  refine eX5_at [some (.ref l0), some (.int (nI l)), some (.int (nI i))] rfl (Nat.le_of_ble_eq_true rfl) ?_
  refine V_aload_n dX5_at_0 rfl ?_
  refine V_get 0 dX5_at_1 fX5_at_13 rfl rfl ?_
  refine V_iload_n dX5_at_4 rfl ?_
  refine V_bipush (v := nI 12) dX5_at_5 (by decide) ?_
  first | refine V_imul_N dX5_at_7 ?_ | refine V_imul dX5_at_7 ?_
  refine V_iload_n dX5_at_8 rfl ?_
  first | refine V_iadd_N dX5_at_9 ?_ | refine V_iadd dX5_at_9 ?_
  refine V_callSpi2 [1] (s_X8_atI (d := d - 1) (by omega) (by omega) (by decide)) gX5_at_X8_at dX5_at_10 oX8_at rfl rfl (Nat.le_of_ble_eq_true rfl) (by omega) ⟨Nat.le_refl _, Nat.le_refl _⟩ ?_
  refine V_iret dX5_at_13 rfl (Nat.le_of_ble_eq_true rfl) (Nat.le_refl _) (Nat.le_refl _) ?_
  exact ⟨rfl, rfl⟩
theorem s_X5_set (hd : 2 ≤ d) {l0 l1 l2 l i : Nat} {x : Int32} {Ce : Nat → Int32} (hl : l < 4) (hi : i < 12) : SpF tO MX5_set (d, 0, 0) [.ref l0, .int (nI l), .int (nI i), .int x] [obL l0 l1 l2, (l2, aI 48 Ce)] none [obL l0 l1 l2, (l2, aI 48 (upd Ce (l * 12 + i) x))] := by
  refine eX5_set [some (.ref l0), some (.int (nI l)), some (.int (nI i)), some (.int x)] rfl (Nat.le_of_ble_eq_true rfl) ?_
  refine V_aload_n dX5_set_0 rfl ?_
  refine V_get 0 dX5_set_1 fX5_set_13 rfl rfl ?_
  refine V_iload_n dX5_set_4 rfl ?_
  refine V_bipush (v := nI 12) dX5_set_5 (by decide) ?_
  first | refine V_imul_N dX5_set_7 ?_ | refine V_imul dX5_set_7 ?_
  refine V_iload_n dX5_set_8 rfl ?_
  first | refine V_iadd_N dX5_set_9 ?_ | refine V_iadd dX5_set_9 ?_
  refine V_iload_n dX5_set_10 rfl ?_
  refine V_callSfv3 [1] (s_X8_setI (d := d - 1) (by omega) (by omega) (by decide)) gX5_set_X8_set dX5_set_11 oX8_set rfl rfl (Nat.le_of_ble_eq_true rfl) (by omega) ⟨Nat.le_refl _, Nat.le_refl _⟩ ?_
  simp only [zput_n, zput_c, zset_1]
  refine V_vret dX5_set_14 rfl (Nat.le_of_ble_eq_true rfl) (Nat.le_refl _) (Nat.le_refl _) ?_
  exact ⟨rfl, rfl⟩
theorem l_X5_become (hd : 3 ≤ d) {l0 l1 l2 l n : Nat} {Ln Ce : Nat → Int32} (hl : l < 4) (hn : n ≤ 12) {w0 : zW} (hw0 : w0.length = 3) : ∀ (f i : Nat) (Cx : Nat → Int32), i + f = n → (∀ j, Cx j = if l * 12 ≤ j ∧ j < l * 12 + i then 0 else Ce j) → V tO MX5_become (d, 0, 0) w0 (fun v w' => v = none ∧ w' = [obL l0 l1 l2, (l1, aI 4 Ln), (l2, aI 48 (fun j => if l * 12 ≤ j ∧ j < l * 12 + n then 0 else Ce j))]) (0, 0) [obL l0 l1 l2, (l1, aI 4 Ln), (l2, aI 48 Cx)] 11 [some (.ref l0), some (.int (nI l)), some (.int (nI n)), some (.int (nI i))] [] := by
  intro f
  induction f with
  | zero =>
    intro i Cx hi hC
    have e : Cx = fun j => if l * 12 ≤ j ∧ j < l * 12 + n then 0 else Ce j := by funext j; rw [hC j, show i = n by omega]
    subst e
    refine V_iload_n dX5_become_11 rfl ?_
    refine V_iload_n dX5_become_12 rfl ?_
    refine V_icmp_ge_N 35 dX5_become_13 (by decide) (by omega) (by omega) (fun c_13 => ?_) (fun c_13 => absurd c_13 (by omega))
    exact V_vret dX5_become_35 rfl (by rw [hw0]; exact Nat.le_refl _) (Nat.le_refl _) (Nat.le_refl _) ⟨rfl, rfl⟩
  | succ f ih =>
    intro i Cx hi hC
    refine V_iload_n dX5_become_11 rfl ?_
    refine V_iload_n dX5_become_12 rfl ?_
    refine V_icmp_ge_N 35 dX5_become_13 (by decide) (by omega) (by omega) (fun c_13 => absurd c_13 (by omega)) (fun c_13 => ?_)
    refine V_iload_n dX5_become_16 rfl ?_
    refine V_bipush (v := nI 12) dX5_become_17 (by decide) ?_
    refine V_icmp_ge_N 35 dX5_become_19 (by decide) (by omega) (by omega) (fun c_19 => absurd c_19 (by omega)) (fun c_19 => ?_)
    refine V_aload_n dX5_become_22 rfl ?_
    refine V_iload_n dX5_become_23 rfl ?_
    refine V_iload_n dX5_become_24 rfl ?_
    refine V_iconst (v := nI 0) dX5_become_25 (by decide) ?_
    refine V_callVfv3 [0, 2] (s_X5_set (d := d - 1) (by omega) hl (by omega)) gX5_become_X5_set dX5_become_26 oX5_set rfl rfl rfl rfl (Nat.le_of_ble_eq_true rfl) (by omega) ⟨Nat.le_refl _, Nat.le_refl _⟩ ?_
    simp only [zput_n, zput_c, zset_0, zset_2]
    first | refine V_iinc_N (i := 1) dX5_become_29 rfl (by decide) rfl ?_ | refine V_iinc dX5_become_29 rfl rfl (by decide) rfl ?_
    refine V_goto 11 dX5_become_32 (by decide) ?_
    refine ih (i + 1) _ (by omega) (fun j => ?_)
    unfold upd
    by_cases e : j = l * 12 + i
    · rw [if_pos e, if_pos (by omega)]; rfl
    · rw [if_neg e, hC j]
      by_cases e2 : l * 12 ≤ j ∧ j < l * 12 + i
      · rw [if_pos e2, if_pos (by omega)]
      · rw [if_neg e2, if_neg (by omega)]
theorem s_X5_become (hd : 3 ≤ d) {l0 l1 l2 l n : Nat} {Ln Ce : Nat → Int32} (hl : l < 4) (hn : n ≤ 12) : SpF tO MX5_become (d, 0, 0) [.ref l0, .int (nI l), .int (nI n)] [obL l0 l1 l2, (l1, aI 4 Ln), (l2, aI 48 Ce)] none [obL l0 l1 l2, (l1, aI 4 (upd Ln l (nI n))), (l2, aI 48 (fun j => if l * 12 ≤ j ∧ j < l * 12 + n then 0 else Ce j))] := by
  refine eX5_become [some (.ref l0), some (.int (nI l)), some (.int (nI n)), none] rfl (Nat.le_of_ble_eq_true rfl) ?_
  refine V_aload_n dX5_become_0 rfl ?_
  refine V_get 0 dX5_become_1 fX5_become_9 rfl rfl ?_
  refine V_iload_n dX5_become_4 rfl ?_
  refine V_iload_n dX5_become_5 rfl ?_
  refine V_callSfv3 [1] (s_X8_setI (d := d - 1) (by omega) hl (by decide)) gX5_become_X8_set dX5_become_6 oX8_set rfl rfl (Nat.le_of_ble_eq_true rfl) (by omega) ⟨Nat.le_refl _, Nat.le_refl _⟩ ?_
  simp only [zput_n, zput_c, zset_1]
  refine V_iconst (v := nI 0) dX5_become_9 (by decide) ?_
  refine V_istore_n dX5_become_10 (by decide) rfl ?_
  exact l_X5_become hd hl hn rfl n 0 Ce (by omega) (fun j => by rw [if_neg (by omega)])
/-! Paper -/
abbrev obP (p0 p1 m : Nat) : Nat × zE := (p0, oB 5 [.ref p1, .int (nI m)])
theorem s_X6_total (hd : 1 ≤ d) {p0 p1 m : Nat} : SpP tO MX6_total (d, 0, 0) [.ref p0] [obP p0 p1 m] (some (.int (nI m))) := by
  refine eX6_total [some (.ref p0)] rfl (Nat.le_of_ble_eq_true rfl) ?_
  refine V_aload_n dX6_total_0 rfl ?_
  refine V_get 0 dX6_total_1 fX6_total_15 rfl rfl ?_
  refine V_iret dX6_total_4 rfl (Nat.le_of_ble_eq_true rfl) (Nat.le_refl _) (Nat.le_refl _) ?_
  exact ⟨rfl, rfl⟩
theorem s_X6_byteAt (hd : 2 ≤ d) {p0 p1 m : Nat} {x : Int32} {Pb : Nat → Int32} (hm : m ≤ 1457) : SpP tO MX6_byteAt (d, 0, 0) [.ref p0, .int x] [obP p0 p1 m, (p1, aI 1457 Pb)] (some (.int (if isW m x then Pb x.toInt.toNat else -1))) := by
  refine eX6_byteAt [some (.ref p0), some (.int x)] rfl (Nat.le_of_ble_eq_true rfl) ?_
  refine V_iload_n dX6_byteAt_0 rfl ?_
  refine V_if_lt 23 dX6_byteAt_1 (by decide) (fun c_1 => ?_) (fun c_1 => ?_)
  ·
    have e : isW m x = false := by unfold isW; rw [z_lt0] at c_1; exact decide_eq_false (by omega)
    refine V_iconst (v := -1) dX6_byteAt_23 (by decide) ?_
    refine V_iret dX6_byteAt_24 rfl (Nat.le_of_ble_eq_true rfl) (Nat.le_refl _) (Nat.le_refl _) ?_
    exact ⟨by rw [e]; rfl, rfl⟩
  ·
    rw [z_lt0] at c_1
    refine V_iload_n dX6_byteAt_4 rfl ?_
    refine V_aload_n dX6_byteAt_5 rfl ?_
    refine V_get 0 dX6_byteAt_6 fX6_byteAt_15 rfl rfl ?_
    refine V_icmp_ge 23 dX6_byteAt_9 (by decide) (fun c_9 => ?_) (fun c_9 => ?_)
    ·
      have e : isW m x = false := by unfold isW; rw [z_ge (by omega)] at c_9; exact decide_eq_false (by omega)
      refine V_iconst (v := -1) dX6_byteAt_23 (by decide) ?_
      refine V_iret dX6_byteAt_24 rfl (Nat.le_of_ble_eq_true rfl) (Nat.le_refl _) (Nat.le_refl _) ?_
      exact ⟨by rw [e]; rfl, rfl⟩
    ·
      have e : isW m x = true := by unfold isW; rw [z_ge (by omega)] at c_9; exact decide_eq_true (by omega)
      obtain ⟨w, hw, rfl⟩ := isW_of e
      rw [nI_toInt (by omega)] at *
      refine V_aload_n dX6_byteAt_12 rfl ?_
      refine V_get 0 dX6_byteAt_13 fX6_byteAt_11 rfl rfl ?_
      refine V_iload_n dX6_byteAt_16 rfl ?_
      refine V_callSpi2 [1] (s_X8_atI (d := d - 1) (by omega) (by omega) (by decide)) gX6_byteAt_X8_at dX6_byteAt_17 oX8_at rfl rfl (Nat.le_of_ble_eq_true rfl) (by omega) ⟨Nat.le_refl _, Nat.le_refl _⟩ ?_
      refine V_goto 24 dX6_byteAt_20 (by decide) ?_
      refine V_iret dX6_byteAt_24 rfl (Nat.le_of_ble_eq_true rfl) (Nat.le_refl _) (Nat.le_refl _) ?_
      exact ⟨by rw [e]; rfl, rfl⟩
theorem s_X6_append (hd : 2 ≤ d) {p0 p1 m : Nat} {x : Int32} {Pb : Nat → Int32} (hm : m < 1457) : SpF tO MX6_append (d, 0, 0) [.ref p0, .int x] [obP p0 p1 m, (p1, aI 1457 Pb)] none [obP p0 p1 (m + 1), (p1, aI 1457 (upd Pb m x))] := by
  refine eX6_append [some (.ref p0), some (.int x)] rfl (Nat.le_of_ble_eq_true rfl) ?_
  refine V_aload_n dX6_append_0 rfl ?_
  refine V_get 0 dX6_append_1 fX6_append_15 rfl rfl ?_
  refine V_aload_n dX6_append_4 rfl ?_
  refine V_get 0 dX6_append_5 fX6_append_11 rfl rfl ?_
  refine V_alen 1 dX6_append_8 rfl ?_
  refine V_icmp_ge_N 34 dX6_append_9 (by decide) (by omega) (by omega) (fun c_9 => absurd c_9 (by omega)) (fun c_9 => ?_)
  refine V_aload_n dX6_append_12 rfl ?_
  refine V_get 0 dX6_append_13 fX6_append_11 rfl rfl ?_
  refine V_aload_n dX6_append_16 rfl ?_
  refine V_get 0 dX6_append_17 fX6_append_15 rfl rfl ?_
  refine V_iload_n dX6_append_20 rfl ?_
  refine V_callSfv3 [1] (s_X8_setI (d := d - 1) (by omega) (by omega) (by decide)) gX6_append_X8_set dX6_append_21 oX8_set rfl rfl (Nat.le_of_ble_eq_true rfl) (by omega) ⟨Nat.le_refl _, Nat.le_refl _⟩ ?_
  simp only [zput_n, zput_c, zset_1]
  refine V_aload_n dX6_append_24 rfl ?_
  refine V_dup dX6_append_25 rfl ?_
  refine V_get 0 dX6_append_26 fX6_append_15 rfl rfl ?_
  refine V_iconst (v := nI 1) dX6_append_29 (by decide) ?_
  first | refine V_iadd_N dX6_append_30 ?_ | refine V_iadd dX6_append_30 ?_
  refine V_put 0 dX6_append_31 fX6_append_15 ft_5_1 rfl rfl rfl (Nat.le_of_ble_eq_true rfl) ?_
  refine V_vret dX6_append_34 rfl (Nat.le_of_ble_eq_true rfl) (Nat.le_refl _) (Nat.le_refl _) ?_
  exact ⟨rfl, rfl⟩
/-- the text of a book: byte j -/
def txF (q n : Nat) (B : Nat → Bool) (j : Nat) : Int32 := if j % (n + 1) = n then nI 32 else nI (97 + wLt q n (eB B (j / (n + 1))) (j % (n + 1)))
def txN (n m : Nat) : Nat := m * (n + 1) - 1
theorem txN_le {q n m : Nat} (h : OKq q n) (hm : m ≤ q ^ n) : m * (n + 1) ≤ 1458 := by
  have key : ∀ x ∈ okL, x.1 ^ x.2 * (x.2 + 1) ≤ 1458 := by decide +kernel
  exact Nat.le_trans (Nat.mul_le_mul_right _ hm) (key (q, n) h.mem)
theorem l_X6_becomeI (hd : 5 ≤ d) {p0 p1 q n m i b0 b1 b2 b3 b4 b5 a0 a1 : Nat} {W Hd Im O E : Nat → Int32} {B : Nat → Bool} (h : OKq q n) (hB : Bk (q ^ n) B W m) (hi : i < m) {w0 : zW} {Q : zPo} (next : ∀ Pb : Nat → Int32, (∀ j, j < (i + 1) * (n + 1) - 1 → Pb j = txF q n B j) → V tO MX6_become (d, 0, 0) w0 Q (0, 0) [obP p0 p1 ((i + 1) * (n + 1) - 1), (p1, aI 1457 Pb), obB b0 b1 b2 b3 b4 b5 a0 m, (b1, aI 256 W), (b2, aZ 256 Hd), (b3, aI 256 Im), (b4, aI 162 O), (b5, aI 162 E), (a0, oB 0 [.ref a1, .int (nI q), .int (nI n), .int (nI (q ^ n))]), (a1, aI 6 (pwF q))] 7 [some (.ref p0), some (.ref b0), some (.int (nI (i + 1))), none] []) : ∀ (f p : Nat) (Pb : Nat → Int32), p + f = n → (∀ j, j < i * (n + 1) + p → Pb j = txF q n B j) → V tO MX6_become (d, 0, 0) w0 Q (0, 0) [obP p0 p1 (i * (n + 1) + p), (p1, aI 1457 Pb), obB b0 b1 b2 b3 b4 b5 a0 m, (b1, aI 256 W), (b2, aZ 256 Hd), (b3, aI 256 Im), (b4, aI 162 O), (b5, aI 162 E), (a0, oB 0 [.ref a1, .int (nI q), .int (nI n), .int (nI (q ^ n))]), (a1, aI 6 (pwF q))] 27 [some (.ref p0), some (.ref b0), some (.int (nI i)), some (.int (nI p))] [] := by
  have hN := h.2.2.2.2
  have hn := h.2.2.2.1
  have hm := hB.len
  have hse := hB.se hN
  have hlt := hB.1 _ (hse.mem hi)
  have ht := txN_le h hm
  have ht2 : (i + 1) * (n + 1) ≤ m * (n + 1) := Nat.mul_le_mul_right _ hi
  rw [Nat.succ_mul] at ht2
  intro f
  induction f with
  | zero =>
    intro p Pb hp hPb
    have i1 := next Pb (fun j hj => hPb j (by rw [Nat.succ_mul] at hj; omega))
    rw [show (i + 1) * (n + 1) - 1 = i * (n + 1) + p by rw [Nat.succ_mul]; omega] at i1
    refine V_iload_n dX6_become_27 rfl ?_
    refine V_aload_n dX6_become_28 rfl ?_
    refine V_get 2 dX6_become_29 fX6_become_35 rfl rfl ?_
    refine V_get 8 dX6_become_32 fX6_become_39 rfl rfl ?_
    refine V_icmp_ge_N 65 dX6_become_35 (by decide) (by omega) (by omega) (fun c_35 => ?_) (fun c_35 => absurd c_35 (by omega))
    first | refine V_iinc_N (i := 1) dX6_become_65 rfl (by decide) rfl ?_ | refine V_iinc dX6_become_65 rfl rfl (by decide) rfl ?_
    refine V_goto 7 dX6_become_68 (by decide) ?_
    exact V_wk [some (.ref p0), some (.ref b0), some (.int (nI (i + 1))), none] ⟨rfl, rfl, rfl, trivial, trivial⟩ i1
  | succ f ih =>
    intro p Pb hp hPb
    refine V_iload_n dX6_become_27 rfl ?_
    refine V_aload_n dX6_become_28 rfl ?_
    refine V_get 2 dX6_become_29 fX6_become_35 rfl rfl ?_
    refine V_get 8 dX6_become_32 fX6_become_39 rfl rfl ?_
    refine V_icmp_ge_N 65 dX6_become_35 (by decide) (by omega) (by omega) (fun c_35 => absurd c_35 (by omega)) (fun c_35 => ?_)
    refine V_aload_n dX6_become_38 rfl ?_
    refine V_bipush (v := nI 97) dX6_become_39 (by decide) ?_
    refine V_aload_n dX6_become_41 rfl ?_
    refine V_get 2 dX6_become_42 fX6_become_35 rfl rfl ?_
    refine V_aload_n dX6_become_45 rfl ?_
    refine V_iload_n dX6_become_46 rfl ?_
    refine V_callVpi1 [2, 3] (s_X1_nth (d := d - 1) (by omega) (by omega)) gX6_become_X1_nth dX6_become_47 oX1_nth rfl rfl rfl rfl (Nat.le_of_ble_eq_true rfl) (by omega) ⟨Nat.le_refl _, Nat.le_refl _⟩ ?_
    rw [hB.w hN hi]
    refine V_iload_n dX6_become_50 rfl ?_
    refine V_iconst (v := nI 1) dX6_become_51 (by decide) ?_
    refine V_callVpi3 [8, 9] (s_X0_part (d := d - 1) (by omega) h hlt (by omega)) gX6_become_X0_part dX6_become_52 oX0_part rfl rfl rfl rfl (Nat.le_of_ble_eq_true rfl) (by omega) ⟨Nat.le_refl _, Nat.le_refl _⟩ ?_
    first | refine V_iadd_N dX6_become_55 ?_ | refine V_iadd dX6_become_55 ?_
    refine V_callVfv1 [0, 1] (s_X6_append (d := d - 1) (by omega) (by omega)) gX6_become_X6_append dX6_become_56 oX6_append rfl rfl rfl rfl (Nat.le_of_ble_eq_true rfl) (by omega) ⟨Nat.le_refl _, Nat.le_refl _⟩ ?_
    simp only [zput_n, zput_c, zset_0, zset_1]
    first | refine V_iinc_N (i := 1) dX6_become_59 rfl (by decide) rfl ?_ | refine V_iinc dX6_become_59 rfl rfl (by decide) rfl ?_
    refine V_goto 27 dX6_become_62 (by decide) ?_
    refine ih (p + 1) _ (by omega) (fun j hj => ?_)
    unfold upd
    by_cases e : j = i * (n + 1) + p
    · rw [if_pos e, e]
      unfold txF
      rw [Nat.mul_comm i, Nat.mul_add_mod, Nat.mod_eq_of_lt (show p < n + 1 by omega), if_neg (by omega), Nat.mul_add_div (by omega), Nat.div_eq_of_lt (show p < n + 1 by omega), Nat.add_zero]
    · rw [if_neg e]; exact hPb j (by omega)
theorem l_X6_become (hd : 5 ≤ d) {p0 p1 q n m b0 b1 b2 b3 b4 b5 a0 a1 : Nat} {W Hd Im O E : Nat → Int32} {B : Nat → Bool} (h : OKq q n) (hB : Bk (q ^ n) B W m) {w0 : zW} (hw0 : w0.length = 10) : ∀ (f i : Nat) (Pb : Nat → Int32), i + f = m → (∀ j, j < txN n i → Pb j = txF q n B j) → V tO MX6_become (d, 0, 0) w0 (fun v w' => ∃ Pb, v = none ∧ (∀ j, j < txN n m → Pb j = txF q n B j) ∧ w' = [obP p0 p1 (txN n m), (p1, aI 1457 Pb), obB b0 b1 b2 b3 b4 b5 a0 m, (b1, aI 256 W), (b2, aZ 256 Hd), (b3, aI 256 Im), (b4, aI 162 O), (b5, aI 162 E), (a0, oB 0 [.ref a1, .int (nI q), .int (nI n), .int (nI (q ^ n))]), (a1, aI 6 (pwF q))]) (0, 0) [obP p0 p1 (txN n i), (p1, aI 1457 Pb), obB b0 b1 b2 b3 b4 b5 a0 m, (b1, aI 256 W), (b2, aZ 256 Hd), (b3, aI 256 Im), (b4, aI 162 O), (b5, aI 162 E), (a0, oB 0 [.ref a1, .int (nI q), .int (nI n), .int (nI (q ^ n))]), (a1, aI 6 (pwF q))] 7 [some (.ref p0), some (.ref b0), some (.int (nI i)), none] [] := by
  have hN := h.2.2.2.2
  have hn := h.2.2.2.1
  have hm := hB.len
  have ht := txN_le h hm
  intro f
  induction f with
  | zero =>
    intro i Pb hi hPb
    have e : i = m := by omega
    subst e
    refine V_iload_n dX6_become_7 rfl ?_
    refine V_aload_n dX6_become_8 rfl ?_
    refine V_callVpi0 [2] (s_X1_total (d := d - 1) (by omega) ) gX6_become_X1_total dX6_become_9 oX1_total rfl rfl rfl rfl (Nat.le_of_ble_eq_true rfl) (by omega) ⟨Nat.le_refl _, Nat.le_refl _⟩ ?_
    refine V_icmp_ge_N 71 dX6_become_12 (by decide) (by omega) (by omega) (fun c_12 => ?_) (fun c_12 => absurd c_12 (by omega))
    exact V_vret dX6_become_71 rfl (by rw [hw0]; exact Nat.le_refl _) (Nat.le_refl _) (Nat.le_refl _) ⟨Pb, rfl, hPb, rfl⟩
  | succ f ih =>
    intro i Pb hi hPb
    have ht2 : (i + 1) * (n + 1) ≤ m * (n + 1) := Nat.mul_le_mul_right _ (by omega)
    rw [Nat.succ_mul] at ht2
    have nx := l_X6_becomeI (tO := tO) (d := d) (p0 := p0) (p1 := p1) (b0 := b0) (b1 := b1) (b2 := b2) (b3 := b3) (b4 := b4) (b5 := b5) (a0 := a0) (a1 := a1) (Hd := Hd) (Im := Im) (O := O) (E := E) hd h hB (i := i) (by omega) (fun Pb hPb => ih (i + 1) Pb (by omega) hPb) n 0
    refine V_iload_n dX6_become_7 rfl ?_
    refine V_aload_n dX6_become_8 rfl ?_
    refine V_callVpi0 [2] (s_X1_total (d := d - 1) (by omega) ) gX6_become_X1_total dX6_become_9 oX1_total rfl rfl rfl rfl (Nat.le_of_ble_eq_true rfl) (by omega) ⟨Nat.le_refl _, Nat.le_refl _⟩ ?_
    refine V_icmp_ge_N 71 dX6_become_12 (by decide) (by omega) (by omega) (fun c_12 => absurd c_12 (by omega)) (fun c_12 => ?_)
    refine V_iload_n dX6_become_15 rfl ?_
    refine V_if_le_N 25 dX6_become_16 (by decide) (by omega) (fun c_16 => ?_) (fun c_16 => ?_)
    ·
      refine V_iconst (v := nI 0) dX6_become_25 (by decide) ?_
      refine V_istore_n dX6_become_26 (by decide) rfl ?_
      first
      | (subst c_16
         have i1 := nx Pb (by omega) (fun j hj => by omega)
         rw [show 0 * (n + 1) + 0 = txN n 0 by unfold txN; omega] at i1
         exact i1)
      | (have e9 : txN n i + 1 = i * (n + 1) + 0 := by
           have : n + 1 ≤ i * (n + 1) := Nat.le_mul_of_pos_left _ c_16
           unfold txN; omega
         have i1 := nx (upd Pb (txN n i) (nI 32)) (by omega) (fun j hj => by
           unfold upd
           by_cases e : j = txN n i
           · rw [if_pos e, e]
             unfold txF
             have e8 : txN n i = (n + 1) * (i - 1) + n := by
               obtain ⟨i', rfl⟩ : ∃ i', i = i' + 1 := ⟨i - 1, by omega⟩
               have e0 : (i' + 1) * (n + 1) = i' * (n + 1) + (n + 1) := Nat.succ_mul _ _
               unfold txN
               rw [e0, Nat.mul_comm (n + 1), show i' + 1 - 1 = i' by omega]
               omega
             rw [e8, Nat.mul_add_mod, Nat.mod_eq_of_lt (show n < n + 1 by omega), if_pos rfl]
           · rw [if_neg e]; exact hPb j (by omega))
         rw [← e9] at i1
         exact i1)
    ·
      refine V_aload_n dX6_become_19 rfl ?_
      refine V_bipush (v := nI 32) dX6_become_20 (by decide) ?_
      refine V_callVfv1 [0, 1] (s_X6_append (d := d - 1) (by omega) (by unfold txN; omega)) gX6_become_X6_append dX6_become_22 oX6_append rfl rfl rfl rfl (Nat.le_of_ble_eq_true rfl) (by omega) ⟨Nat.le_refl _, Nat.le_refl _⟩ ?_
      simp only [zput_n, zput_c, zset_0, zset_1]
      refine V_iconst (v := nI 0) dX6_become_25 (by decide) ?_
      refine V_istore_n dX6_become_26 (by decide) rfl ?_
      first
      | (subst c_16
         have i1 := nx Pb (by omega) (fun j hj => by omega)
         rw [show 0 * (n + 1) + 0 = txN n 0 by unfold txN; omega] at i1
         exact i1)
      | (have e9 : txN n i + 1 = i * (n + 1) + 0 := by
           have : n + 1 ≤ i * (n + 1) := Nat.le_mul_of_pos_left _ c_16
           unfold txN; omega
         have i1 := nx (upd Pb (txN n i) (nI 32)) (by omega) (fun j hj => by
           unfold upd
           by_cases e : j = txN n i
           · rw [if_pos e, e]
             unfold txF
             have e8 : txN n i = (n + 1) * (i - 1) + n := by
               obtain ⟨i', rfl⟩ : ∃ i', i = i' + 1 := ⟨i - 1, by omega⟩
               have e0 : (i' + 1) * (n + 1) = i' * (n + 1) + (n + 1) := Nat.succ_mul _ _
               unfold txN
               rw [e0, Nat.mul_comm (n + 1), show i' + 1 - 1 = i' by omega]
               omega
             rw [e8, Nat.mul_add_mod, Nat.mod_eq_of_lt (show n < n + 1 by omega), if_pos rfl]
           · rw [if_neg e]; exact hPb j (by omega))
         rw [← e9] at i1
         exact i1)
theorem s_X6_become (hd : 5 ≤ d) {p0 p1 q n m k b0 b1 b2 b3 b4 b5 a0 a1 : Nat} {W Hd Im O E Pb : Nat → Int32} {B : Nat → Bool} (h : OKq q n) (hB : Bk (q ^ n) B W m) : Sp tO MX6_become (d, 0, 0) [.ref p0, .ref b0] [obP p0 p1 k, (p1, aI 1457 Pb), obB b0 b1 b2 b3 b4 b5 a0 m, (b1, aI 256 W), (b2, aZ 256 Hd), (b3, aI 256 Im), (b4, aI 162 O), (b5, aI 162 E), (a0, oB 0 [.ref a1, .int (nI q), .int (nI n), .int (nI (q ^ n))]), (a1, aI 6 (pwF q))] (fun v w' => ∃ Pb, v = none ∧ (∀ j, j < txN n m → Pb j = txF q n B j) ∧ w' = [obP p0 p1 (txN n m), (p1, aI 1457 Pb), obB b0 b1 b2 b3 b4 b5 a0 m, (b1, aI 256 W), (b2, aZ 256 Hd), (b3, aI 256 Im), (b4, aI 162 O), (b5, aI 162 E), (a0, oB 0 [.ref a1, .int (nI q), .int (nI n), .int (nI (q ^ n))]), (a1, aI 6 (pwF q))]) := by
  refine eX6_become [some (.ref p0), some (.ref b0), none, none] rfl (Nat.le_of_ble_eq_true rfl) ?_
  have i1 := l_X6_become (tO := tO) (d := d) (p0 := p0) (p1 := p1) (b0 := b0) (b1 := b1) (b2 := b2) (b3 := b3) (b4 := b4) (b5 := b5) (a0 := a0) (a1 := a1) (Hd := Hd) (Im := Im) (O := O) (E := E) hd h hB (w0 := [obP p0 p1 k, (p1, aI 1457 Pb), obB b0 b1 b2 b3 b4 b5 a0 m, (b1, aI 256 W), (b2, aZ 256 Hd), (b3, aI 256 Im), (b4, aI 162 O), (b5, aI 162 E), (a0, oB 0 [.ref a1, .int (nI q), .int (nI n), .int (nI (q ^ n))]), (a1, aI 6 (pwF q))]) rfl m 0 Pb (by omega) (fun j hj => by unfold txN at hj; omega)
  rw [show txN n 0 = 0 by unfold txN; omega] at i1
  refine V_aload_n dX6_become_0 rfl ?_
  refine V_iconst (v := nI 0) dX6_become_1 (by decide) ?_
  refine V_put 0 dX6_become_2 fX6_become_15 ft_5_1 rfl rfl rfl (Nat.le_of_ble_eq_true rfl) ?_
  refine V_iconst (v := nI 0) dX6_become_5 (by decide) ?_
  refine V_istore_n dX6_become_6 (by decide) rfl ?_
  exact i1
/-! Plan -/
abbrev obK (k0 k1 k2 a0 m : Nat) : Nat × zE := (k0, oB 6 [.ref a0, .ref k1, .ref k2, .int (nI m)])
theorem s_X7_total (hd : 1 ≤ d) {k0 k1 k2 a0 m : Nat} : SpP tO MX7_total (d, 0, 0) [.ref k0] [obK k0 k1 k2 a0 m] (some (.int (nI m))) := by
  refine eX7_total [some (.ref k0)] rfl (Nat.le_of_ble_eq_true rfl) ?_
  refine V_aload_n dX7_total_0 rfl ?_
  refine V_get 0 dX7_total_1 fX7_total_20 rfl rfl ?_
  refine V_iret dX7_total_4 rfl (Nat.le_of_ble_eq_true rfl) (Nat.le_refl _) (Nat.le_refl _) ?_
  exact ⟨rfl, rfl⟩
theorem s_X7_empty (hd : 1 ≤ d) {k0 k1 k2 a0 m : Nat} : SpF tO MX7_empty (d, 0, 0) [.ref k0] [obK k0 k1 k2 a0 m] none [obK k0 k1 k2 a0 0] := by
  refine eX7_empty [some (.ref k0)] rfl (Nat.le_of_ble_eq_true rfl) ?_
  refine V_aload_n dX7_empty_0 rfl ?_
  refine V_iconst (v := nI 0) dX7_empty_1 (by decide) ?_
  refine V_put 0 dX7_empty_2 fX7_empty_20 ft_6_3 rfl rfl rfl (Nat.le_of_ble_eq_true rfl) ?_
  refine V_vret dX7_empty_5 rfl (Nat.le_of_ble_eq_true rfl) (Nat.le_refl _) (Nat.le_refl _) ?_
  exact ⟨rfl, rfl⟩
theorem s_X7_copyFrom (hd : 2 ≤ d) {k0 k1 k2 a0 m j0 j1 j2 e0 m2 : Nat} {K Vv K2 V2 : Nat → Int32} : SpF tO MX7_copyFrom (d, 0, 0) [.ref k0, .ref j0] [obK k0 k1 k2 a0 m, (k1, aI 8 K), (k2, aI 8 Vv), obK j0 j1 j2 e0 m2, (j1, aI 8 K2), (j2, aI 8 V2)] none [obK k0 k1 k2 a0 m2, (k1, aI 8 K2), (k2, aI 8 V2), obK j0 j1 j2 e0 m2, (j1, aI 8 K2), (j2, aI 8 V2)] := by
  refine eX7_copyFrom [some (.ref k0), some (.ref j0)] rfl (Nat.le_of_ble_eq_true rfl) ?_
  refine V_aload_n dX7_copyFrom_0 rfl ?_
  refine V_aload_n dX7_copyFrom_1 rfl ?_
  refine V_get 3 dX7_copyFrom_2 fX7_copyFrom_20 rfl rfl ?_
  refine V_put 0 dX7_copyFrom_5 fX7_copyFrom_20 ft_6_3 rfl rfl rfl (Nat.le_of_ble_eq_true rfl) ?_
  refine V_aload_n dX7_copyFrom_8 rfl ?_
  refine V_get 3 dX7_copyFrom_9 fX7_copyFrom_13 rfl rfl ?_
  refine V_aload_n dX7_copyFrom_12 rfl ?_
  refine V_get 0 dX7_copyFrom_13 fX7_copyFrom_13 rfl rfl ?_
  refine V_callSfv2 [4, 1] (s_X8_copy (d := d - 1) (by omega) (by decide)) gX7_copyFrom_X8_copy dX7_copyFrom_16 oX8_copy rfl rfl (Nat.le_of_ble_eq_true rfl) (by omega) ⟨Nat.le_refl _, Nat.le_refl _⟩ ?_
  simp only [zput_n, zput_c, zset_1, zset_4]
  refine V_aload_n dX7_copyFrom_19 rfl ?_
  refine V_get 3 dX7_copyFrom_20 fX7_copyFrom_17 rfl rfl ?_
  refine V_aload_n dX7_copyFrom_23 rfl ?_
  refine V_get 0 dX7_copyFrom_24 fX7_copyFrom_17 rfl rfl ?_
  refine V_callSfv2 [5, 2] (s_X8_copy (d := d - 1) (by omega) (by decide)) gX7_copyFrom_X8_copy dX7_copyFrom_27 oX8_copy rfl rfl (Nat.le_of_ble_eq_true rfl) (by omega) ⟨Nat.le_refl _, Nat.le_refl _⟩ ?_
  simp only [zput_n, zput_c, zset_2, zset_5]
  refine V_vret dX7_copyFrom_30 rfl (Nat.le_of_ble_eq_true rfl) (Nat.le_refl _) (Nat.le_refl _) ?_
  exact ⟨rfl, rfl⟩
theorem s_X7_append (hd : 2 ≤ d) {k0 k1 k2 a0 m : Nat} {x y : Int32} {K Vv : Nat → Int32} (hm : m < 8) : SpF tO MX7_append (d, 0, 0) [.ref k0, .int x, .int y] [obK k0 k1 k2 a0 m, (k1, aI 8 K), (k2, aI 8 Vv)] (some (.int (bI true))) [obK k0 k1 k2 a0 (m + 1), (k1, aI 8 (upd K m x)), (k2, aI 8 (upd Vv m y))] := by
  refine eX7_append [some (.ref k0), some (.int x), some (.int y)] rfl (Nat.le_of_ble_eq_true rfl) ?_
  refine V_aload_n dX7_append_0 rfl ?_
  refine V_get 0 dX7_append_1 fX7_append_20 rfl rfl ?_
  refine V_bipush (v := nI 8) dX7_append_4 (by decide) ?_
  refine V_icmp_lt_N 11 dX7_append_6 (by decide) (by omega) (by omega) (fun c_6 => ?_) (fun c_6 => absurd c_6 (by omega))
  refine V_aload_n dX7_append_11 rfl ?_
  refine V_get 0 dX7_append_12 fX7_append_13 rfl rfl ?_
  refine V_aload_n dX7_append_15 rfl ?_
  refine V_get 0 dX7_append_16 fX7_append_20 rfl rfl ?_
  refine V_iload_n dX7_append_19 rfl ?_
  refine V_callSfv3 [1] (s_X8_setI (d := d - 1) (by omega) (by omega) (by decide)) gX7_append_X8_set dX7_append_20 oX8_set rfl rfl (Nat.le_of_ble_eq_true rfl) (by omega) ⟨Nat.le_refl _, Nat.le_refl _⟩ ?_
  simp only [zput_n, zput_c, zset_1]
  refine V_aload_n dX7_append_23 rfl ?_
  refine V_get 0 dX7_append_24 fX7_append_17 rfl rfl ?_
  refine V_aload_n dX7_append_27 rfl ?_
  refine V_get 0 dX7_append_28 fX7_append_20 rfl rfl ?_
  refine V_iload_n dX7_append_31 rfl ?_
  refine V_callSfv3 [2] (s_X8_setI (d := d - 1) (by omega) (by omega) (by decide)) gX7_append_X8_set dX7_append_32 oX8_set rfl rfl (Nat.le_of_ble_eq_true rfl) (by omega) ⟨Nat.le_refl _, Nat.le_refl _⟩ ?_
  simp only [zput_n, zput_c, zset_2]
  refine V_aload_n dX7_append_35 rfl ?_
  refine V_dup dX7_append_36 rfl ?_
  refine V_get 0 dX7_append_37 fX7_append_20 rfl rfl ?_
  refine V_iconst (v := nI 1) dX7_append_40 (by decide) ?_
  first | refine V_iadd_N dX7_append_41 ?_ | refine V_iadd dX7_append_41 ?_
  refine V_put 0 dX7_append_42 fX7_append_20 ft_6_3 rfl rfl rfl (Nat.le_of_ble_eq_true rfl) ?_
  refine V_iconst (v := nI 1) dX7_append_45 (by decide) ?_
  refine V_zret dX7_append_46 rfl (by first | exact Or.inl rfl | exact Or.inr rfl | exact bI_or _) (Nat.le_of_ble_eq_true rfl) (Nat.le_refl _) (Nat.le_refl _) ?_
  exact ⟨rfl, rfl⟩
theorem s_X7_appendN (hd : 2 ≤ d) {k0 k1 k2 a0 : Nat} {x y : Int32} {K Vv : Nat → Int32} : SpP tO MX7_append (d, 0, 0) [.ref k0, .int x, .int y] [obK k0 k1 k2 a0 8, (k1, aI 8 K), (k2, aI 8 Vv)] (some (.int (bI false))) := by
  refine eX7_append [some (.ref k0), some (.int x), some (.int y)] rfl (Nat.le_of_ble_eq_true rfl) ?_
  refine V_aload_n dX7_append_0 rfl ?_
  refine V_get 0 dX7_append_1 fX7_append_20 rfl rfl ?_
  refine V_bipush (v := nI 8) dX7_append_4 (by decide) ?_
  refine V_icmp_lt_N 11 dX7_append_6 (by decide) (by omega) (by omega) (fun c_6 => absurd c_6 (by omega)) (fun c_6 => ?_)
  refine V_iconst (v := nI 0) dX7_append_9 (by decide) ?_
  refine V_zret dX7_append_10 rfl (by first | exact Or.inl rfl | exact Or.inr rfl | exact bI_or _) (Nat.le_of_ble_eq_true rfl) (Nat.le_refl _) (Nat.le_refl _) ?_
  exact ⟨rfl, rfl⟩
/-- a row done to a book in thought -/
noncomputable def rowB (q n k v : Nat) (B : Nat → Bool) : Nat → Bool := if k = 0 then (if v < q ^ n then insB B v else B) else if k = 1 then delB B v else if k = 2 then (if v < nSw q then imB q n v B else B) else if alB q n B v then insB B v else B
noncomputable def rowsB (q n : Nat) (pk pv : Nat → Nat) : Nat → Nat → (Nat → Bool) → Nat → Bool
  | 0, _, B => B
  | f + 1, i, B => rowsB q n pk pv f (i + 1) (rowB q n (pk i) (pv i) B)
theorem s_X7_doRow (hd : 7 ≤ d) {q n k0 k1 k2 a0 a1 m b0 b1 b2 b3 b4 b5 mb k v : Nat} {W Im : Nat → Int32} {B : Nat → Bool} (h : OKq q n) (hB : Bk (q ^ n) B W mb) (hk : k < 4) (hv : v < 256) : Sp tO MX7_doRow (d, 0, 0) [.ref k0, .ref b0, .int (nI k), .int (nI v)] [obK k0 k1 k2 a0 m, (a0, oB 0 [.ref a1, .int (nI q), .int (nI n), .int (nI (q ^ n))]), (a1, aI 6 (pwF q)), obB b0 b1 b2 b3 b4 b5 a0 mb, (b1, aI 256 W), (b2, aZ 256 (hdF B)), (b3, aI 256 Im), (b4, aI 162 (opF q n B)), (b5, aI 162 (enF q n B))] (fun v' w' => ∃ W' m' Im', v' = none ∧ w' = [obK k0 k1 k2 a0 m, (a0, oB 0 [.ref a1, .int (nI q), .int (nI n), .int (nI (q ^ n))]), (a1, aI 6 (pwF q)), obB b0 b1 b2 b3 b4 b5 a0 m', (b1, aI 256 W'), (b2, aZ 256 (hdF (rowB q n k v B))), (b3, aI 256 Im'), (b4, aI 162 (opF q n (rowB q n k v B))), (b5, aI 162 (enF q n (rowB q n k v B)))] ∧ Bk (q ^ n) (rowB q n k v B) W' m') := by
  refine eX7_doRow [some (.ref k0), some (.ref b0), some (.int (nI k)), some (.int (nI v))] rfl (Nat.le_of_ble_eq_true rfl) ?_
  have hN := h.2.2.2.2
  by_cases hvN : v < q ^ n
  ·
    refine V_iload_n dX7_doRow_0 rfl ?_
    first | refine V_if_ne_B 13 dX7_doRow_1 (by decide) (fun c_1 => ?_) (fun c_1 => ?_) | refine V_if_ne_N 13 dX7_doRow_1 (by decide) (by omega) (fun c_1 => ?_) (fun c_1 => ?_) | refine V_if_ne 13 dX7_doRow_1 (by decide) (fun c_1 => ?_) (fun c_1 => ?_)
    ·
      refine V_iload_n dX7_doRow_13 rfl ?_
      refine V_iconst (v := nI 1) dX7_doRow_14 (by decide) ?_
      first | refine V_icmp_ne_N 27 dX7_doRow_15 (by decide) (by omega) (by omega) (fun c_15 => ?_) (fun c_15 => ?_) | refine V_icmp_ne 27 dX7_doRow_15 (by decide) (fun c_15 => ?_) (fun c_15 => ?_)
      ·
        refine V_iload_n dX7_doRow_27 rfl ?_
        refine V_iconst (v := nI 2) dX7_doRow_28 (by decide) ?_
        first | refine V_icmp_ne_N 51 dX7_doRow_29 (by decide) (by omega) (by omega) (fun c_29 => ?_) (fun c_29 => ?_) | refine V_icmp_ne 51 dX7_doRow_29 (by decide) (fun c_29 => ?_) (fun c_29 => ?_)
        ·
          refine V_aload_n dX7_doRow_51 rfl ?_
          refine V_iload_n dX7_doRow_52 rfl ?_
          refine V_callVpi1 [3, 4, 5, 6, 7, 8, 1, 2] (s_X1_allows (d := d - 1) (by omega) h hB (by omega)) gX7_doRow_X1_allows dX7_doRow_53 oX1_allows rfl rfl rfl rfl (Nat.le_of_ble_eq_true rfl) (by omega) ⟨Nat.le_refl _, Nat.le_refl _⟩ ?_
          first | refine V_if_eq_B 65 dX7_doRow_56 (by decide) (fun c_56 => ?_) (fun c_56 => ?_) | refine V_if_eq_N 65 dX7_doRow_56 (by decide) (by omega) (fun c_56 => ?_) (fun c_56 => ?_) | refine V_if_eq 65 dX7_doRow_56 (by decide) (fun c_56 => ?_) (fun c_56 => ?_)
          ·
            have er : rowB q n k v B = B := by unfold rowB; rw [if_neg (by omega), if_neg c_15, if_neg c_29, if_neg (by rw [c_56]; exact Bool.false_ne_true)]
            have hB2 := hB
            refine V_vret dX7_doRow_65 rfl (Nat.le_of_ble_eq_true rfl) (Nat.le_refl _) (Nat.le_refl _) ?_
            rw [er]
            exact ⟨_, _, _, rfl, rfl, hB2⟩
          ·
            have er : rowB q n k v B = insB B v := by unfold rowB; rw [if_neg (by omega), if_neg c_15, if_neg c_29, if_pos c_56]
            refine V_aload_n dX7_doRow_59 rfl ?_
            refine V_iload_n dX7_doRow_60 rfl ?_
            refine V_callV1 [3, 4, 5, 6, 7, 8, 1, 2] (s_X1_include (d := d - 1) (by omega) h hB hvN) gX7_doRow_X1_include dX7_doRow_61 oX1_include rfl rfl rfl rfl (Nat.le_of_ble_eq_true rfl) (by omega) ⟨Nat.le_refl _, Nat.le_refl _⟩ ?_
            rintro _ _ ⟨W2, m2, rfl, rfl, hB2⟩
            dsimp only [zPut, List.set, Option.toList, List.cons_append, List.nil_append]
            refine V_pop dX7_doRow_64 rfl ?_
            refine V_vret dX7_doRow_65 rfl (Nat.le_of_ble_eq_true rfl) (Nat.le_refl _) (Nat.le_refl _) ?_
            rw [er]
            exact ⟨_, _, _, rfl, rfl, hB2⟩
        ·
          refine V_aload_n dX7_doRow_32 rfl ?_
          refine V_get 0 dX7_doRow_33 fX7_doRow_7 rfl rfl ?_
          refine V_iload_n dX7_doRow_36 rfl ?_
          refine V_callVpi1 [1, 2] (s_X0_isSwap (d := d - 1) (by omega) h) gX7_doRow_X0_isSwap dX7_doRow_37 oX0_isSwap rfl rfl rfl rfl (Nat.le_of_ble_eq_true rfl) (by omega) ⟨Nat.le_refl _, Nat.le_refl _⟩ ?_
          rw [isW_nI (by omega)]
          first | refine V_if_eq_B 65 dX7_doRow_40 (by decide) (fun c_40 => ?_) (fun c_40 => ?_) | refine V_if_eq_N 65 dX7_doRow_40 (by decide) (by omega) (fun c_40 => ?_) (fun c_40 => ?_) | refine V_if_eq 65 dX7_doRow_40 (by decide) (fun c_40 => ?_) (fun c_40 => ?_)
          ·
            have er : rowB q n k v B = B := by unfold rowB; rw [if_neg (by omega), if_neg c_15, if_pos c_29, if_neg (of_decide_eq_false c_40)]
            have W2 := W
            have hB2 := hB
            refine V_vret dX7_doRow_65 rfl (Nat.le_of_ble_eq_true rfl) (Nat.le_refl _) (Nat.le_refl _) ?_
            rw [er]
            exact ⟨_, _, _, rfl, rfl, hB2⟩
          ·
            have er : rowB q n k v B = imB q n v B := by unfold rowB; rw [if_neg (by omega), if_neg c_15, if_pos c_29, if_pos (of_decide_eq_true c_40)]
            refine V_aload_n dX7_doRow_43 rfl ?_
            refine V_iload_n dX7_doRow_44 rfl ?_
            refine V_callV1 [3, 4, 5, 6, 7, 8, 1, 2] (s_X1_exchange (d := d - 1) (by omega) h hB (of_decide_eq_true c_40)) gX7_doRow_X1_exchange dX7_doRow_45 oX1_exchange rfl rfl rfl rfl (Nat.le_of_ble_eq_true rfl) (by omega) ⟨Nat.le_refl _, Nat.le_refl _⟩ ?_
            rintro _ _ ⟨W2, m2, Im2, rfl, rfl, hB2⟩
            dsimp only [zPut, List.set, Option.toList, List.cons_append, List.nil_append]
            refine V_goto 65 dX7_doRow_48 (by decide) ?_
            refine V_vret dX7_doRow_65 rfl (Nat.le_of_ble_eq_true rfl) (Nat.le_refl _) (Nat.le_refl _) ?_
            rw [er]
            exact ⟨_, _, _, rfl, rfl, hB2⟩
      ·
        have er : rowB q n k v B = delB B v := by unfold rowB; rw [if_neg (by omega), if_pos c_15]
        refine V_aload_n dX7_doRow_18 rfl ?_
        refine V_iload_n dX7_doRow_19 rfl ?_
        refine V_callV1 [3, 4, 5, 6, 7, 8, 1, 2] (s_X1_exclude (d := d - 1) (by omega) h hB hv) gX7_doRow_X1_exclude dX7_doRow_20 oX1_exclude rfl rfl rfl rfl (Nat.le_of_ble_eq_true rfl) (by omega) ⟨Nat.le_refl _, Nat.le_refl _⟩ ?_
        rintro _ _ ⟨W2, m2, rfl, rfl, hB2⟩
        dsimp only [zPut, List.set, Option.toList, List.cons_append, List.nil_append]
        refine V_pop dX7_doRow_23 rfl ?_
        refine V_goto 65 dX7_doRow_24 (by decide) ?_
        refine V_vret dX7_doRow_65 rfl (Nat.le_of_ble_eq_true rfl) (Nat.le_refl _) (Nat.le_refl _) ?_
        rw [er]
        exact ⟨_, _, _, rfl, rfl, hB2⟩
    ·
      have er : rowB q n k v B = insB B v := by unfold rowB; rw [if_pos c_1, if_pos hvN]
      refine V_aload_n dX7_doRow_4 rfl ?_
      refine V_iload_n dX7_doRow_5 rfl ?_
      refine V_callV1 [3, 4, 5, 6, 7, 8, 1, 2] (s_X1_include (d := d - 1) (by omega) h hB hvN) gX7_doRow_X1_include dX7_doRow_6 oX1_include rfl rfl rfl rfl (Nat.le_of_ble_eq_true rfl) (by omega) ⟨Nat.le_refl _, Nat.le_refl _⟩ ?_
      rintro _ _ ⟨W2, m2, rfl, rfl, hB2⟩
      dsimp only [zPut, List.set, Option.toList, List.cons_append, List.nil_append]
      refine V_pop dX7_doRow_9 rfl ?_
      refine V_goto 65 dX7_doRow_10 (by decide) ?_
      refine V_vret dX7_doRow_65 rfl (Nat.le_of_ble_eq_true rfl) (Nat.le_refl _) (Nat.le_refl _) ?_
      rw [er]
      exact ⟨_, _, _, rfl, rfl, hB2⟩
  ·
    refine V_iload_n dX7_doRow_0 rfl ?_
    first | refine V_if_ne_B 13 dX7_doRow_1 (by decide) (fun c_1 => ?_) (fun c_1 => ?_) | refine V_if_ne_N 13 dX7_doRow_1 (by decide) (by omega) (fun c_1 => ?_) (fun c_1 => ?_) | refine V_if_ne 13 dX7_doRow_1 (by decide) (fun c_1 => ?_) (fun c_1 => ?_)
    ·
      refine V_iload_n dX7_doRow_13 rfl ?_
      refine V_iconst (v := nI 1) dX7_doRow_14 (by decide) ?_
      first | refine V_icmp_ne_N 27 dX7_doRow_15 (by decide) (by omega) (by omega) (fun c_15 => ?_) (fun c_15 => ?_) | refine V_icmp_ne 27 dX7_doRow_15 (by decide) (fun c_15 => ?_) (fun c_15 => ?_)
      ·
        refine V_iload_n dX7_doRow_27 rfl ?_
        refine V_iconst (v := nI 2) dX7_doRow_28 (by decide) ?_
        first | refine V_icmp_ne_N 51 dX7_doRow_29 (by decide) (by omega) (by omega) (fun c_29 => ?_) (fun c_29 => ?_) | refine V_icmp_ne 51 dX7_doRow_29 (by decide) (fun c_29 => ?_) (fun c_29 => ?_)
        ·
          refine V_aload_n dX7_doRow_51 rfl ?_
          refine V_iload_n dX7_doRow_52 rfl ?_
          refine V_callVpi1 [3, 4, 5, 6, 7, 8, 1, 2] (s_X1_allows (d := d - 1) (by omega) h hB (by omega)) gX7_doRow_X1_allows dX7_doRow_53 oX1_allows rfl rfl rfl rfl (Nat.le_of_ble_eq_true rfl) (by omega) ⟨Nat.le_refl _, Nat.le_refl _⟩ ?_
          first | refine V_if_eq_B 65 dX7_doRow_56 (by decide) (fun c_56 => ?_) (fun c_56 => ?_) | refine V_if_eq_N 65 dX7_doRow_56 (by decide) (by omega) (fun c_56 => ?_) (fun c_56 => ?_) | refine V_if_eq 65 dX7_doRow_56 (by decide) (fun c_56 => ?_) (fun c_56 => ?_)
          ·
            have er : rowB q n k v B = B := by unfold rowB; rw [if_neg (by omega), if_neg c_15, if_neg c_29, if_neg (by rw [c_56]; exact Bool.false_ne_true)]
            refine V_vret dX7_doRow_65 rfl (Nat.le_of_ble_eq_true rfl) (Nat.le_refl _) (Nat.le_refl _) ?_
            rw [er]
            first | exact ⟨_, _, _, rfl, rfl, hB2⟩ | exact ⟨_, _, _, rfl, rfl, hB⟩
          ·
            exact absurd (dB_t.mp c_56).1 hvN
        ·
          refine V_aload_n dX7_doRow_32 rfl ?_
          refine V_get 0 dX7_doRow_33 fX7_doRow_7 rfl rfl ?_
          refine V_iload_n dX7_doRow_36 rfl ?_
          refine V_callVpi1 [1, 2] (s_X0_isSwap (d := d - 1) (by omega) h) gX7_doRow_X0_isSwap dX7_doRow_37 oX0_isSwap rfl rfl rfl rfl (Nat.le_of_ble_eq_true rfl) (by omega) ⟨Nat.le_refl _, Nat.le_refl _⟩ ?_
          rw [isW_nI (by omega)]
          first | refine V_if_eq_B 65 dX7_doRow_40 (by decide) (fun c_40 => ?_) (fun c_40 => ?_) | refine V_if_eq_N 65 dX7_doRow_40 (by decide) (by omega) (fun c_40 => ?_) (fun c_40 => ?_) | refine V_if_eq 65 dX7_doRow_40 (by decide) (fun c_40 => ?_) (fun c_40 => ?_)
          ·
            have er : rowB q n k v B = B := by unfold rowB; rw [if_neg (by omega), if_neg c_15, if_pos c_29, if_neg (of_decide_eq_false c_40)]
            refine V_vret dX7_doRow_65 rfl (Nat.le_of_ble_eq_true rfl) (Nat.le_refl _) (Nat.le_refl _) ?_
            rw [er]
            first | exact ⟨_, _, _, rfl, rfl, hB2⟩ | exact ⟨_, _, _, rfl, rfl, hB⟩
          ·
            have er : rowB q n k v B = imB q n v B := by unfold rowB; rw [if_neg (by omega), if_neg c_15, if_pos c_29, if_pos (of_decide_eq_true c_40)]
            refine V_aload_n dX7_doRow_43 rfl ?_
            refine V_iload_n dX7_doRow_44 rfl ?_
            refine V_callV1 [3, 4, 5, 6, 7, 8, 1, 2] (s_X1_exchange (d := d - 1) (by omega) h hB (of_decide_eq_true c_40)) gX7_doRow_X1_exchange dX7_doRow_45 oX1_exchange rfl rfl rfl rfl (Nat.le_of_ble_eq_true rfl) (by omega) ⟨Nat.le_refl _, Nat.le_refl _⟩ ?_
            rintro _ _ ⟨W2, m2, Im2, rfl, rfl, hB2⟩
            dsimp only [zPut, List.set, Option.toList, List.cons_append, List.nil_append]
            refine V_goto 65 dX7_doRow_48 (by decide) ?_
            refine V_vret dX7_doRow_65 rfl (Nat.le_of_ble_eq_true rfl) (Nat.le_refl _) (Nat.le_refl _) ?_
            rw [er]
            first | exact ⟨_, _, _, rfl, rfl, hB2⟩ | exact ⟨_, _, _, rfl, rfl, hB⟩
      ·
        have er : rowB q n k v B = B := by unfold rowB; rw [if_neg (by omega), if_pos c_15]; exact delB_id (Bool.eq_false_iff.mpr (fun e => hvN (hB.1 v e)))
        refine V_aload_n dX7_doRow_18 rfl ?_
        refine V_iload_n dX7_doRow_19 rfl ?_
        refine V_callV1 [3, 4, 5, 6, 7, 8, 1, 2] (s_X1_exclude (d := d - 1) (by omega) h hB hv) gX7_doRow_X1_exclude dX7_doRow_20 oX1_exclude rfl rfl rfl rfl (Nat.le_of_ble_eq_true rfl) (by omega) ⟨Nat.le_refl _, Nat.le_refl _⟩ ?_
        rintro _ _ ⟨W2, m2, rfl, rfl, hB2⟩
        dsimp only [zPut, List.set, Option.toList, List.cons_append, List.nil_append]
        rw [delB_id (Bool.eq_false_iff.mpr (fun e => hvN (hB.1 v e)))] at *
        refine V_pop dX7_doRow_23 rfl ?_
        refine V_goto 65 dX7_doRow_24 (by decide) ?_
        refine V_vret dX7_doRow_65 rfl (Nat.le_of_ble_eq_true rfl) (Nat.le_refl _) (Nat.le_refl _) ?_
        rw [er]
        first | exact ⟨_, _, _, rfl, rfl, hB2⟩ | exact ⟨_, _, _, rfl, rfl, hB⟩
    ·
      have er : rowB q n k v B = B := by unfold rowB; rw [if_pos c_1, if_neg hvN]
      refine V_aload_n dX7_doRow_4 rfl ?_
      refine V_iload_n dX7_doRow_5 rfl ?_
      refine V_callVpi1 [3, 4, 5, 6, 7, 8, 1, 2] (s_X1_includeN (d := d - 1) (by omega) h (by omega) (by omega)) gX7_doRow_X1_include dX7_doRow_6 oX1_include rfl rfl rfl rfl (Nat.le_of_ble_eq_true rfl) (by omega) ⟨Nat.le_refl _, Nat.le_refl _⟩ ?_
      refine V_pop dX7_doRow_9 rfl ?_
      refine V_goto 65 dX7_doRow_10 (by decide) ?_
      refine V_vret dX7_doRow_65 rfl (Nat.le_of_ble_eq_true rfl) (Nat.le_refl _) (Nat.le_refl _) ?_
      rw [er]
      first | exact ⟨_, _, _, rfl, rfl, hB2⟩ | exact ⟨_, _, _, rfl, rfl, hB⟩
theorem l_X7_doneTo (hd : 8 ≤ d) {q n k0 k1 k2 a0 a1 m b0 b1 b2 b3 b4 b5 : Nat} {K Vv : Nat → Int32} {pk pv : Nat → Nat} (h : OKq q n) (hm : m ≤ 8) (hK : ∀ i, i < m → K i = nI (pk i) ∧ Vv i = nI (pv i) ∧ pk i < 4 ∧ pv i < 256) {w0 : zW} (hw0 : w0.length = 11) : ∀ (f i mb : Nat) (B : Nat → Bool) (W Im : Nat → Int32), i + f = m → Bk (q ^ n) B W mb → V tO MX7_doneTo (d, 0, 0) w0 (fun v' w' => ∃ W' m' Im', v' = none ∧ w' = [obK k0 k1 k2 a0 m, (k1, aI 8 K), (k2, aI 8 Vv), (a0, oB 0 [.ref a1, .int (nI q), .int (nI n), .int (nI (q ^ n))]), (a1, aI 6 (pwF q)), obB b0 b1 b2 b3 b4 b5 a0 m', (b1, aI 256 W'), (b2, aZ 256 (hdF (rowsB q n pk pv f i B))), (b3, aI 256 Im'), (b4, aI 162 (opF q n (rowsB q n pk pv f i B))), (b5, aI 162 (enF q n (rowsB q n pk pv f i B)))] ∧ Bk (q ^ n) (rowsB q n pk pv f i B) W' m') (0, 0) [obK k0 k1 k2 a0 m, (k1, aI 8 K), (k2, aI 8 Vv), (a0, oB 0 [.ref a1, .int (nI q), .int (nI n), .int (nI (q ^ n))]), (a1, aI 6 (pwF q)), obB b0 b1 b2 b3 b4 b5 a0 mb, (b1, aI 256 W), (b2, aZ 256 (hdF B)), (b3, aI 256 Im), (b4, aI 162 (opF q n B)), (b5, aI 162 (enF q n B))] 2 [some (.ref k0), some (.ref b0), some (.int (nI i))] [] := by
  intro f
  induction f with
  | zero =>
    intro i mb B W Im hi hB
    refine V_iload_n dX7_doneTo_2 rfl ?_
    refine V_aload_n dX7_doneTo_3 rfl ?_
    refine V_get 0 dX7_doneTo_4 fX7_doneTo_20 rfl rfl ?_
    refine V_icmp_ge_N 37 dX7_doneTo_7 (by decide) (by omega) (by omega) (fun c_7 => ?_) (fun c_7 => absurd c_7 (by omega))
    exact V_vret dX7_doneTo_37 rfl (by rw [hw0]; exact Nat.le_refl _) (Nat.le_refl _) (Nat.le_refl _) ⟨W, mb, Im, rfl, rfl, hB⟩
  | succ f ih =>
    intro i mb B W Im hi hB
    obtain ⟨e1, e2, e3, e4⟩ := hK i (by omega)
    refine V_iload_n dX7_doneTo_2 rfl ?_
    refine V_aload_n dX7_doneTo_3 rfl ?_
    refine V_get 0 dX7_doneTo_4 fX7_doneTo_20 rfl rfl ?_
    refine V_icmp_ge_N 37 dX7_doneTo_7 (by decide) (by omega) (by omega) (fun c_7 => absurd c_7 (by omega)) (fun c_7 => ?_)
    refine V_aload_n dX7_doneTo_10 rfl ?_
    refine V_aload_n dX7_doneTo_11 rfl ?_
    refine V_aload_n dX7_doneTo_12 rfl ?_
    refine V_get 0 dX7_doneTo_13 fX7_doneTo_13 rfl rfl ?_
    refine V_iload_n dX7_doneTo_16 rfl ?_
    refine V_callSpi2 [1] (s_X8_atI (d := d - 1) (by omega) (by omega) (by decide)) gX7_doneTo_X8_at dX7_doneTo_17 oX8_at rfl rfl (Nat.le_of_ble_eq_true rfl) (by omega) ⟨Nat.le_refl _, Nat.le_refl _⟩ ?_
    rw [e1]
    refine V_aload_n dX7_doneTo_20 rfl ?_
    refine V_get 0 dX7_doneTo_21 fX7_doneTo_17 rfl rfl ?_
    refine V_iload_n dX7_doneTo_24 rfl ?_
    refine V_callSpi2 [2] (s_X8_atI (d := d - 1) (by omega) (by omega) (by decide)) gX7_doneTo_X8_at dX7_doneTo_25 oX8_at rfl rfl (Nat.le_of_ble_eq_true rfl) (by omega) ⟨Nat.le_refl _, Nat.le_refl _⟩ ?_
    rw [e2]
    refine V_callV3 [0, 3, 4, 5, 6, 7, 8, 9, 10] (s_X7_doRow (d := d - 1) (by omega) h hB e3 e4) gX7_doneTo_X7_doRow dX7_doneTo_28 oX7_doRow rfl rfl rfl rfl (Nat.le_of_ble_eq_true rfl) (by omega) ⟨Nat.le_refl _, Nat.le_refl _⟩ ?_
    rintro _ _ ⟨W2, m2, Im2, rfl, rfl, hB2⟩
    dsimp only [zPut, List.set, Option.toList, List.cons_append, List.nil_append]
    first | refine V_iinc_N (i := 1) dX7_doneTo_31 rfl (by decide) rfl ?_ | refine V_iinc dX7_doneTo_31 rfl rfl (by decide) rfl ?_
    refine V_goto 2 dX7_doneTo_34 (by decide) ?_
    exact ih (i + 1) _ _ _ _ (by omega) hB2
theorem s_X7_doneTo (hd : 8 ≤ d) {q n k0 k1 k2 a0 a1 m b0 b1 b2 b3 b4 b5 mb : Nat} {K Vv W Im : Nat → Int32} {B : Nat → Bool} {pk pv : Nat → Nat} (h : OKq q n) (hm : m ≤ 8) (hK : ∀ i, i < m → K i = nI (pk i) ∧ Vv i = nI (pv i) ∧ pk i < 4 ∧ pv i < 256) (hB : Bk (q ^ n) B W mb) : Sp tO MX7_doneTo (d, 0, 0) [.ref k0, .ref b0] [obK k0 k1 k2 a0 m, (k1, aI 8 K), (k2, aI 8 Vv), (a0, oB 0 [.ref a1, .int (nI q), .int (nI n), .int (nI (q ^ n))]), (a1, aI 6 (pwF q)), obB b0 b1 b2 b3 b4 b5 a0 mb, (b1, aI 256 W), (b2, aZ 256 (hdF B)), (b3, aI 256 Im), (b4, aI 162 (opF q n B)), (b5, aI 162 (enF q n B))] (fun v' w' => ∃ W' m' Im', v' = none ∧ w' = [obK k0 k1 k2 a0 m, (k1, aI 8 K), (k2, aI 8 Vv), (a0, oB 0 [.ref a1, .int (nI q), .int (nI n), .int (nI (q ^ n))]), (a1, aI 6 (pwF q)), obB b0 b1 b2 b3 b4 b5 a0 m', (b1, aI 256 W'), (b2, aZ 256 (hdF (rowsB q n pk pv m 0 B))), (b3, aI 256 Im'), (b4, aI 162 (opF q n (rowsB q n pk pv m 0 B))), (b5, aI 162 (enF q n (rowsB q n pk pv m 0 B)))] ∧ Bk (q ^ n) (rowsB q n pk pv m 0 B) W' m') := by
  refine eX7_doneTo [some (.ref k0), some (.ref b0), none] rfl (Nat.le_of_ble_eq_true rfl) ?_
  refine V_iconst (v := nI 0) dX7_doneTo_0 (by decide) ?_
  refine V_istore_n dX7_doneTo_1 (by decide) rfl ?_
  exact l_X7_doneTo hd h hm hK rfl m 0 mb B W Im (by omega) hB
end SMALL

