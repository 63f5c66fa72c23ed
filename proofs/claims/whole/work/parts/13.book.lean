/-! Book -/
abbrev obB (b0 b1 b2 b3 b4 b5 a0 m : Nat) : Nat × zE := (b0, oB 1 [.ref a0, .ref b1, .ref b2, .ref b3, .ref b4, .ref b5, .int (nI m)])
abbrev bkG (b0 b1 b2 b3 b4 b5 a0 a1 q n m : Nat) (W Hd Im O E : Nat → Int32) : zW := [obB b0 b1 b2 b3 b4 b5 a0 m, (b1, aI 256 W), (b2, aZ 256 Hd), (b3, aI 256 Im), (b4, aI 162 O), (b5, aI 162 E), (a0, oB 0 [.ref a1, .int (nI q), .int (nI n), .int (nI (q ^ n))]), (a1, aI 6 (pwF q))]
abbrev bkW (b0 b1 b2 b3 b4 b5 a0 a1 q n : Nat) (B : Nat → Bool) (m : Nat) (W Im : Nat → Int32) : zW := bkG b0 b1 b2 b3 b4 b5 a0 a1 q n m W (hdF B) Im (opF q n B) (enF q n B)
def mkO (q n w : Nat) (x : Int32) (O : Nat → Int32) : Nat → Int32 := fun j => O j + nI (hO q n w j (n - 1)) * x
def mkE (q n w : Nat) (x : Int32) (E : Nat → Int32) : Nat → Int32 := fun j => E j + nI (hE q w j (n - 1)) * x
theorem mk_step {O : Nat → Int32} {x : Int32} {h h' : Nat → Nat} {i : Nat} (hh : ∀ j, h' j = h j + if j = i then 1 else 0) : upd (fun j => O j + nI (h j) * x) i (O i + nI (h i) * x + x) = fun j => O j + nI (h' j) * x := by
  funext j
  unfold upd
  by_cases e : j = i
  · subst e
    rw [if_pos rfl, hh j, if_pos rfl, nI_succ, Int32.add_mul, Int32.one_mul, Int32.add_assoc]
  · rw [if_neg e, hh j, if_neg e]; rfl
theorem mk_room {q n k : Nat} (h : OKq q n) (hk : k < n) : q ^ k + q ^ k ≤ 162 := by
  have key : ∀ x ∈ okL, ∀ k, k < x.2 → x.1 ^ k + x.1 ^ k ≤ 162 := by decide +kernel
  exact key (q, n) h.mem k hk
theorem mul_nI1 (x : Int32) : x * nI 1 = x := by rw [show nI 1 = 1 from rfl, Int32.mul_one]
theorem mkO_ins {q n w : Nat} {B : Nat → Bool} (hb : B w = false) (hw : w < 256) : mkO q n w (nI 1) (opF q n B) = opF q n (insB B w) := by
  funext j
  unfold mkO
  rw [mul_nI1, opF_ins hb hw]
theorem mkE_ins {q n w : Nat} {B : Nat → Bool} (hb : B w = false) (hw : w < 256) : mkE q n w (nI 1) (enF q n B) = enF q n (insB B w) := by
  funext j
  unfold mkE
  rw [mul_nI1, enF_ins hb hw]
theorem add_neg_c (a b : Int32) : a + b + b * (-1) = a := by
  rw [Int32.mul_neg, Int32.mul_one, Int32.add_assoc, Int32.add_right_neg, Int32.add_zero]
theorem mkO_del {q n w : Nat} {B : Nat → Bool} (hb : B w = false) (hw : w < 256) : mkO q n w (-1) (opF q n (insB B w)) = opF q n B := by
  funext j
  unfold mkO
  rw [opF_ins hb hw, add_neg_c]
theorem mkE_del {q n w : Nat} {B : Nat → Bool} (hb : B w = false) (hw : w < 256) : mkE q n w (-1) (enF q n (insB B w)) = enF q n B := by
  funext j
  unfold mkE
  rw [enF_ins hb hw, add_neg_c]
theorem delB_ins {B : Nat → Bool} {w : Nat} (h : B w = true) : insB (delB B w) w = B := by
  funext j
  unfold insB delB
  by_cases e : j = w
  · subst e; simp [h]
  · rw [beq_eq_false_iff_ne.mpr e]; simp
section BOOK
variable {tO d q n b0 b1 b2 b3 b4 b5 a0 a1 m : Nat} {W Hd Im O E : Nat → Int32} {B : Nat → Bool}
theorem s_X1_total (hd : 1 ≤ d) : SpP tO MX1_total (d, 0, 0) [.ref b0] [obB b0 b1 b2 b3 b4 b5 a0 m] (some (.int (nI m))) := by
  refine eX1_total [some (.ref b0)] rfl (Nat.le_of_ble_eq_true rfl) ?_
  refine V_aload_n dX1_total_0 rfl ?_
  refine V_get 0 dX1_total_1 fX1_total_32 rfl rfl ?_
  refine V_iret dX1_total_4 rfl (Nat.le_of_ble_eq_true rfl) (Nat.le_refl _) (Nat.le_refl _) ?_
  exact ⟨rfl, rfl⟩
theorem s_X1_has (hd : 1 ≤ d) {x : Int32} (hm : m ≤ 256) : SpP tO MX1_has (d, 0, 0) [.ref b0, .int x] [obB b0 b1 b2 b3 b4 b5 a0 m] (some (.int (bI (isW m x)))) := by
  refine eX1_has [some (.ref b0), some (.int x)] rfl (Nat.le_of_ble_eq_true rfl) ?_
  refine V_iload_n dX1_has_0 rfl ?_
  refine V_if_lt 16 dX1_has_1 (by decide) (fun c_1 => ?_) (fun c_1 => ?_)
  ·
    have e : isW m x = false := by unfold isW; rw [z_lt0] at c_1; exact decide_eq_false (by omega)
    refine V_iconst (v := nI 0) dX1_has_16 (by decide) ?_
    refine V_zret dX1_has_17 rfl (by first | exact Or.inl rfl | exact Or.inr rfl | exact bI_or _) (Nat.le_of_ble_eq_true rfl) (Nat.le_refl _) (Nat.le_refl _) ?_
    exact ⟨by rw [e]; rfl, rfl⟩
  ·
    rw [z_lt0] at c_1
    refine V_iload_n dX1_has_4 rfl ?_
    refine V_aload_n dX1_has_5 rfl ?_
    refine V_get 0 dX1_has_6 fX1_has_32 rfl rfl ?_
    refine V_icmp_ge 16 dX1_has_9 (by decide) (fun c_9 => ?_) (fun c_9 => ?_)
    ·
      have e : isW m x = false := by unfold isW; rw [z_ge (by omega)] at c_9; exact decide_eq_false (by omega)
      refine V_iconst (v := nI 0) dX1_has_16 (by decide) ?_
      refine V_zret dX1_has_17 rfl (by first | exact Or.inl rfl | exact Or.inr rfl | exact bI_or _) (Nat.le_of_ble_eq_true rfl) (Nat.le_refl _) (Nat.le_refl _) ?_
      exact ⟨by rw [e]; rfl, rfl⟩
    ·
      have e : isW m x = true := by unfold isW; rw [z_ge (by omega)] at c_9; exact decide_eq_true (by omega)
      refine V_iconst (v := nI 1) dX1_has_12 (by decide) ?_
      refine V_goto 17 dX1_has_13 (by decide) ?_
      refine V_zret dX1_has_17 rfl (by first | exact Or.inl rfl | exact Or.inr rfl | exact bI_or _) (Nat.le_of_ble_eq_true rfl) (Nat.le_refl _) (Nat.le_refl _) ?_
      exact ⟨by rw [e]; rfl, rfl⟩
theorem s_X1_nth (hd : 2 ≤ d) {i : Nat} (hi : i < 256) : SpP tO MX1_nth (d, 0, 0) [.ref b0, .int (nI i)] [obB b0 b1 b2 b3 b4 b5 a0 m, (b1, aI 256 W)] (some (.int (W i))) := by
  refine eX1_nth [some (.ref b0), some (.int (nI i))] rfl (Nat.le_of_ble_eq_true rfl) ?_
  refine V_aload_n dX1_nth_0 rfl ?_
  refine V_get 0 dX1_nth_1 fX1_nth_15 rfl rfl ?_
  refine V_iload_n dX1_nth_4 rfl ?_
  refine V_callSpi2 [1] (s_X8_atI (d := d - 1) (by omega) hi (by decide)) gX1_nth_X8_at dX1_nth_5 oX8_at rfl rfl (Nat.le_of_ble_eq_true rfl) (by omega) ⟨Nat.le_refl _, Nat.le_refl _⟩ ?_
  refine V_iret dX1_nth_8 rfl (Nat.le_of_ble_eq_true rfl) (Nat.le_refl _) (Nat.le_refl _) ?_
  exact ⟨rfl, rfl⟩
theorem s_X1_holds (hd : 1 ≤ d) {w : Nat} (hw : w < 256) : SpP tO MX1_holds (d, 0, 0) [.ref b0, .int (nI w)] [obB b0 b1 b2 b3 b4 b5 a0 m, (b2, aZ 256 (hdF B))] (some (.int (bI (B w)))) := by
  refine eX1_holds [some (.ref b0), some (.int (nI w))] rfl (Nat.le_of_ble_eq_true rfl) ?_
  refine V_iload_n dX1_holds_0 rfl ?_
  refine V_if_lt_N 26 dX1_holds_1 (by decide) (by omega) ?_
  refine V_iload_n dX1_holds_4 rfl ?_
  refine V_aload_n dX1_holds_5 rfl ?_
  refine V_get 0 dX1_holds_6 fX1_holds_19 rfl rfl ?_
  refine V_alen 1 dX1_holds_9 rfl ?_
  refine V_icmp_ge_N 26 dX1_holds_10 (by decide) (by omega) (by omega) (fun c_10 => absurd c_10 (by omega)) (fun c_10 => ?_)
  refine V_aload_n dX1_holds_13 rfl ?_
  refine V_get 0 dX1_holds_14 fX1_holds_19 rfl rfl ?_
  refine V_iload_n dX1_holds_17 rfl ?_
  refine V_zald_N 1 dX1_holds_18 rfl (by omega) (by first | decide | omega) ?_
  refine V_if_eq_B (b := B w) 26 dX1_holds_19 (by decide) (fun c_19 => ?_) (fun c_19 => ?_)
  ·
    refine V_iconst (v := nI 0) dX1_holds_26 (by decide) ?_
    refine V_zret dX1_holds_27 rfl (by first | exact Or.inl rfl | exact Or.inr rfl | exact bI_or _) (Nat.le_of_ble_eq_true rfl) (Nat.le_refl _) (Nat.le_refl _) ?_
    exact ⟨by rw [c_19]; rfl, rfl⟩
  ·
    refine V_iconst (v := nI 1) dX1_holds_22 (by decide) ?_
    refine V_goto 27 dX1_holds_23 (by decide) ?_
    refine V_zret dX1_holds_27 rfl (by first | exact Or.inl rfl | exact Or.inr rfl | exact bI_or _) (Nat.le_of_ble_eq_true rfl) (Nat.le_refl _) (Nat.le_refl _) ?_
    exact ⟨by rw [c_19]; rfl, rfl⟩
theorem s_X1_hold (hd : 1 ≤ d) {w : Nat} {x : Int32} (hw : w < 256) (hx : x = 0 ∨ x = 1) : SpF tO MX1_hold (d, 0, 0) [.ref b0, .int (nI w), .int x] [obB b0 b1 b2 b3 b4 b5 a0 m, (b2, aZ 256 Hd)] none [obB b0 b1 b2 b3 b4 b5 a0 m, (b2, aZ 256 (upd Hd w x))] := by
  refine eX1_hold [some (.ref b0), some (.int (nI w)), some (.int x)] rfl (Nat.le_of_ble_eq_true rfl) ?_
  refine V_iload_n dX1_hold_0 rfl ?_
  refine V_if_lt_N 20 dX1_hold_1 (by decide) (by omega) ?_
  refine V_iload_n dX1_hold_4 rfl ?_
  refine V_aload_n dX1_hold_5 rfl ?_
  refine V_get 0 dX1_hold_6 fX1_hold_19 rfl rfl ?_
  refine V_alen 1 dX1_hold_9 rfl ?_
  refine V_icmp_ge_N 20 dX1_hold_10 (by decide) (by omega) (by omega) (fun c_10 => absurd c_10 (by omega)) (fun c_10 => ?_)
  refine V_aload_n dX1_hold_13 rfl ?_
  refine V_get 0 dX1_hold_14 fX1_hold_19 rfl rfl ?_
  refine V_iload_n dX1_hold_17 rfl ?_
  refine V_iload_n dX1_hold_18 rfl ?_
  refine V_zast_N 1 dX1_hold_19 rfl (by omega) (by first | decide | omega) hx ?_
  refine V_vret dX1_hold_20 rfl (Nat.le_of_ble_eq_true rfl) (Nat.le_refl _) (Nat.le_refl _) ?_
  exact ⟨rfl, rfl⟩
theorem l_X1_empty (hd : 3 ≤ d) {g : Nat → Nat} (hm : m ≤ 256) (hg : SE B g m) (hg2 : ∀ i, i < m → W i = nI (g i)) (hN : ∀ w, B w = true → w < 256) {w0 : zW} (hw0 : w0.length = 8) : ∀ (f i : Nat) (Hd : Nat → Int32), i + f = m → (∀ j, j < i → Hd (g j) = 0) → (∀ w, Hd w = 0 ∨ Hd w = bI (B w)) → V tO MX1_empty (d, 0, 0) w0 (fun v w' => v = none ∧ w' = bkW b0 b1 b2 b3 b4 b5 a0 a1 q n (fun _ => false) 0 W Im) (0, 0) (bkG b0 b1 b2 b3 b4 b5 a0 a1 q n m W Hd Im O E) 2 [some (.ref b0), some (.int (nI i))] [] := by
  intro f
  induction f with
  | zero =>
    intro i Hd hi h1 h2
    refine V_iload_n dX1_empty_2 rfl ?_
    refine V_aload_n dX1_empty_3 rfl ?_
    refine V_get 0 dX1_empty_4 fX1_empty_32 rfl rfl ?_
    refine V_icmp_ge_N 26 dX1_empty_7 (by decide) (by omega) (by omega) (fun c_7 => ?_) (fun c_7 => absurd c_7 (by omega))
    refine V_aload_n dX1_empty_26 rfl ?_
    refine V_iconst (v := nI 0) dX1_empty_27 (by decide) ?_
    refine V_put 0 dX1_empty_28 fX1_empty_32 ft_1_6 rfl rfl rfl (Nat.le_of_ble_eq_true rfl) ?_
    refine V_aload_n dX1_empty_31 rfl ?_
    refine V_get 0 dX1_empty_32 fX1_empty_26 rfl rfl ?_
    refine V_iconst (v := nI 0) dX1_empty_35 (by decide) ?_
    refine V_callSfv2 [4] (s_X8_fill (d := d - 1) (by omega) (by decide)) gX1_empty_X8_fill dX1_empty_36 oX8_fill rfl rfl (Nat.le_of_ble_eq_true rfl) (by omega) ⟨Nat.le_refl _, Nat.le_refl _⟩ ?_
    simp only [zput_n, zput_c, zset_4]
    refine V_aload_n dX1_empty_39 rfl ?_
    refine V_get 0 dX1_empty_40 fX1_empty_29 rfl rfl ?_
    refine V_iconst (v := nI 0) dX1_empty_43 (by decide) ?_
    refine V_callSfv2 [5] (s_X8_fill (d := d - 1) (by omega) (by decide)) gX1_empty_X8_fill dX1_empty_44 oX8_fill rfl rfl (Nat.le_of_ble_eq_true rfl) (by omega) ⟨Nat.le_refl _, Nat.le_refl _⟩ ?_
    simp only [zput_n, zput_c, zset_5]
    refine V_ag (bkW b0 b1 b2 b3 b4 b5 a0 a1 q n (fun _ => false) 0 W Im) ⟨_, _, rfl, zAg.self _, _, _, rfl, zAg.self _, _, _, rfl, ⟨_, rfl, fun j hj => ?_⟩, _, _, rfl, zAg.self _, _, _, rfl, ⟨_, rfl, fun j hj => by rw [opF_nil]; rfl⟩, _, _, rfl, ⟨_, rfl, fun j hj => by rw [enF_nil]; rfl⟩, zAgs.self _⟩ ?_
    · show Hd j = 0
      rcases h2 j with e | e
      · exact e
      · cases hb : B j with
        | false => rw [e, hb]; rfl
        | true => obtain ⟨i0, hi0, rfl⟩ := (hg.2 j).mp hb; exact h1 i0 (by omega)
    · exact V_vret dX1_empty_47 rfl (by rw [hw0]; exact Nat.le_refl _) (Nat.le_refl _) (Nat.le_refl _) ⟨rfl, rfl⟩
  | succ f ih =>
    intro i Hd hi h1 h2
    have hgi : g i < 256 := hN _ (hg.mem (by omega))
    refine V_iload_n dX1_empty_2 rfl ?_
    refine V_aload_n dX1_empty_3 rfl ?_
    refine V_get 0 dX1_empty_4 fX1_empty_32 rfl rfl ?_
    refine V_icmp_ge_N 26 dX1_empty_7 (by decide) (by omega) (by omega) (fun c_7 => absurd c_7 (by omega)) (fun c_7 => ?_)
    refine V_aload_n dX1_empty_10 rfl ?_
    refine V_aload_n dX1_empty_11 rfl ?_
    refine V_iload_n dX1_empty_12 rfl ?_
    refine V_callVpi1 [0, 1] (s_X1_nth (d := d - 1) (by omega) (by omega)) gX1_empty_X1_nth dX1_empty_13 oX1_nth rfl rfl rfl rfl (Nat.le_of_ble_eq_true rfl) (by omega) ⟨Nat.le_refl _, Nat.le_refl _⟩ ?_
    rw [hg2 i (by omega)]
    refine V_iconst (v := nI 0) dX1_empty_16 (by decide) ?_
    refine V_callVfv2 [0, 2] (s_X1_hold (d := d - 1) (by omega) hgi (Or.inl (by decide))) gX1_empty_X1_hold dX1_empty_17 oX1_hold rfl rfl rfl rfl (Nat.le_of_ble_eq_true rfl) (by omega) ⟨Nat.le_refl _, Nat.le_refl _⟩ ?_
    simp only [zput_n, zput_c, zset_0, zset_2]
    first | refine V_iinc_N (i := 1) dX1_empty_20 rfl (by decide) rfl ?_ | refine V_iinc dX1_empty_20 rfl rfl (by decide) rfl ?_
    refine V_goto 2 dX1_empty_23 (by decide) ?_
    refine ih (i + 1) _ (by omega) (fun j hj => ?_) (fun w => ?_)
    · unfold upd
      by_cases e : g j = g i
      · rw [if_pos e]; rfl
      · rw [if_neg e]; exact h1 j (by rcases Nat.lt_or_ge j i with q1 | q1; exact q1; exact absurd (by rw [show j = i by omega]) e)
    · unfold upd
      by_cases e : w = g i
      · rw [if_pos e]; exact Or.inl rfl
      · rw [if_neg e]; exact h2 w
theorem s_X1_empty (hd : 3 ≤ d) {N : Nat} (hN : N ≤ 256) (hB : Bk N B W m) : SpF tO MX1_empty (d, 0, 0) [.ref b0] (bkG b0 b1 b2 b3 b4 b5 a0 a1 q n m W (hdF B) Im O E) none (bkW b0 b1 b2 b3 b4 b5 a0 a1 q n (fun _ => false) 0 W Im) := by
  refine eX1_empty [some (.ref b0), none] rfl (Nat.le_of_ble_eq_true rfl) ?_
  have hB := hB.mono hN
  have hm := hB.len
  obtain ⟨h1, g, h2, h3⟩ := hB
  refine V_iconst (v := nI 0) dX1_empty_0 (by decide) ?_
  refine V_istore_n dX1_empty_1 (by decide) rfl ?_
  exact l_X1_empty hd hm h2 h3 h1 rfl m 0 _ (by omega) (fun j hj => by omega) (fun w => Or.inr rfl)
theorem l_X1_mark (hd : 3 ≤ d) (h : OKq q n) {w : Nat} {x : Int32} (hw : w < q ^ n) {w0 : zW} (hw0 : w0.length = 8) : ∀ (f k : Nat), k + 1 + f = n → V tO MX1_mark (d, 0, 0) w0 (fun v w' => v = none ∧ w' = bkG b0 b1 b2 b3 b4 b5 a0 a1 q n m W Hd Im (mkO q n w x O) (mkE q n w x E)) (0, 0) (bkG b0 b1 b2 b3 b4 b5 a0 a1 q n m W Hd Im (fun j => O j + nI (hO q n w j k) * x) (fun j => E j + nI (hE q w j k) * x)) 2 [some (.ref b0), some (.int (nI w)), some (.int x), some (.int (nI (k + 1))), none, none, none] [] := by
  have hn := h.2.2.2.1
  intro f
  induction f with
  | zero =>
    intro k hk
    refine V_iload_n dX1_mark_2 rfl ?_
    refine V_aload_n dX1_mark_3 rfl ?_
    refine V_get 0 dX1_mark_4 fX1_mark_9 rfl rfl ?_
    refine V_get 6 dX1_mark_7 fX1_mark_75 rfl rfl ?_
    refine V_icmp_ge_N 97 dX1_mark_10 (by decide) (by omega) (by omega) (fun c_10 => ?_) (fun c_10 => absurd c_10 (by omega))
    exact V_vret dX1_mark_97 rfl (by rw [hw0]; exact Nat.le_refl _) (Nat.le_refl _) (Nat.le_refl _) ⟨rfl, by unfold mkO mkE; rw [show n - 1 = k by omega]⟩
  | succ f ih =>
    intro k hk
    have hp := mk_room h (k := k + 1) (by omega)
    have ho : w / q ^ (n - (k + 1)) < q ^ (k + 1) := by rw [Nat.div_lt_iff_lt_mul (h.pos _), ← OKq.split (by omega)]; exact hw
    have he := Nat.mod_lt w (h.pos (k + 1))
    have e1 := mk_step (O := O) (x := x) (h := fun j => hO q n w j k) (h' := fun j => hO q n w j (k + 1)) (i := q ^ (k + 1) + w / q ^ (n - (k + 1))) (fun j => rfl)
    have e2 := mk_step (O := E) (x := x) (h := fun j => hE q w j k) (h' := fun j => hE q w j (k + 1)) (i := q ^ (k + 1) + w % q ^ (k + 1)) (fun j => rfl)
    have i1 := ih (k + 1) (by omega)
    rw [← e1, ← e2] at i1
    refine V_iload_n dX1_mark_2 rfl ?_
    refine V_aload_n dX1_mark_3 rfl ?_
    refine V_get 0 dX1_mark_4 fX1_mark_9 rfl rfl ?_
    refine V_get 6 dX1_mark_7 fX1_mark_75 rfl rfl ?_
    refine V_icmp_ge_N 97 dX1_mark_10 (by decide) (by omega) (by omega) (fun c_10 => absurd c_10 (by omega)) (fun c_10 => ?_)
    refine V_aload_n dX1_mark_13 rfl ?_
    refine V_get 0 dX1_mark_14 fX1_mark_9 rfl rfl ?_
    refine V_iload_n dX1_mark_17 rfl ?_
    refine V_callVpi1 [6, 7] (s_X0_power (d := d - 1) (by omega) (by omega)) gX1_mark_X0_power dX1_mark_18 oX0_power rfl rfl rfl rfl (Nat.le_of_ble_eq_true rfl) (by omega) ⟨Nat.le_refl _, Nat.le_refl _⟩ ?_
    refine V_istore dX1_mark_21 (by decide) rfl ?_
    refine V_iload dX1_mark_23 rfl ?_
    refine V_aload_n dX1_mark_25 rfl ?_
    refine V_get 0 dX1_mark_26 fX1_mark_9 rfl rfl ?_
    refine V_iload_n dX1_mark_29 rfl ?_
    refine V_iload_n dX1_mark_30 rfl ?_
    refine V_callVpi2 [6, 7] (s_X0_opening (d := d - 1) (by omega) h hw (by omega)) gX1_mark_X0_opening dX1_mark_31 oX0_opening rfl rfl rfl rfl (Nat.le_of_ble_eq_true rfl) (by omega) ⟨Nat.le_refl _, Nat.le_refl _⟩ ?_
    first | refine V_iadd_N dX1_mark_34 ?_ | refine V_iadd dX1_mark_34 ?_
    refine V_istore dX1_mark_35 (by decide) rfl ?_
    refine V_iload dX1_mark_37 rfl ?_
    refine V_aload_n dX1_mark_39 rfl ?_
    refine V_get 0 dX1_mark_40 fX1_mark_9 rfl rfl ?_
    refine V_iload_n dX1_mark_43 rfl ?_
    refine V_iload_n dX1_mark_44 rfl ?_
    refine V_callVpi2 [6, 7] (s_X0_ending (d := d - 1) (by omega) h hw (by omega)) gX1_mark_X0_ending dX1_mark_45 oX0_ending rfl rfl rfl rfl (Nat.le_of_ble_eq_true rfl) (by omega) ⟨Nat.le_refl _, Nat.le_refl _⟩ ?_
    first | refine V_iadd_N dX1_mark_48 ?_ | refine V_iadd dX1_mark_48 ?_
    refine V_istore dX1_mark_49 (by decide) rfl ?_
    refine V_aload_n dX1_mark_51 rfl ?_
    refine V_get 0 dX1_mark_52 fX1_mark_26 rfl rfl ?_
    refine V_iload dX1_mark_55 rfl ?_
    refine V_aload_n dX1_mark_57 rfl ?_
    refine V_get 0 dX1_mark_58 fX1_mark_26 rfl rfl ?_
    refine V_iload dX1_mark_61 rfl ?_
    refine V_callSpi2 [4] (s_X8_atI (d := d - 1) (by omega) (by omega) (by decide)) gX1_mark_X8_at dX1_mark_63 oX8_at rfl rfl (Nat.le_of_ble_eq_true rfl) (by omega) ⟨Nat.le_refl _, Nat.le_refl _⟩ ?_
    refine V_iload_n dX1_mark_66 rfl ?_
    first | refine V_iadd_N dX1_mark_67 ?_ | refine V_iadd dX1_mark_67 ?_
    refine V_callSfv3 [4] (s_X8_setI (d := d - 1) (by omega) (by omega) (by decide)) gX1_mark_X8_set dX1_mark_68 oX8_set rfl rfl (Nat.le_of_ble_eq_true rfl) (by omega) ⟨Nat.le_refl _, Nat.le_refl _⟩ ?_
    simp only [zput_n, zput_c, zset_4]
    refine V_aload_n dX1_mark_71 rfl ?_
    refine V_get 0 dX1_mark_72 fX1_mark_29 rfl rfl ?_
    refine V_iload dX1_mark_75 rfl ?_
    refine V_aload_n dX1_mark_77 rfl ?_
    refine V_get 0 dX1_mark_78 fX1_mark_29 rfl rfl ?_
    refine V_iload dX1_mark_81 rfl ?_
    refine V_callSpi2 [5] (s_X8_atI (d := d - 1) (by omega) (by omega) (by decide)) gX1_mark_X8_at dX1_mark_83 oX8_at rfl rfl (Nat.le_of_ble_eq_true rfl) (by omega) ⟨Nat.le_refl _, Nat.le_refl _⟩ ?_
    refine V_iload_n dX1_mark_86 rfl ?_
    first | refine V_iadd_N dX1_mark_87 ?_ | refine V_iadd dX1_mark_87 ?_
    refine V_callSfv3 [5] (s_X8_setI (d := d - 1) (by omega) (by omega) (by decide)) gX1_mark_X8_set dX1_mark_88 oX8_set rfl rfl (Nat.le_of_ble_eq_true rfl) (by omega) ⟨Nat.le_refl _, Nat.le_refl _⟩ ?_
    simp only [zput_n, zput_c, zset_5]
    first | refine V_iinc_N (i := 1) dX1_mark_91 rfl (by decide) rfl ?_ | refine V_iinc dX1_mark_91 rfl rfl (by decide) rfl ?_
    refine V_goto 2 dX1_mark_94 (by decide) ?_
    exact V_wk [some (.ref b0), some (.int (nI w)), some (.int x), some (.int (nI (k + 1 + 1))), none, none, none] ⟨rfl, rfl, rfl, rfl, trivial, trivial, trivial, trivial⟩ i1
theorem s_X1_mark (hd : 3 ≤ d) (h : OKq q n) {w : Nat} {x : Int32} (hw : w < q ^ n) : SpF tO MX1_mark (d, 0, 0) [.ref b0, .int (nI w), .int x] (bkG b0 b1 b2 b3 b4 b5 a0 a1 q n m W Hd Im O E) none (bkG b0 b1 b2 b3 b4 b5 a0 a1 q n m W Hd Im (mkO q n w x O) (mkE q n w x E)) := by
  refine eX1_mark [some (.ref b0), some (.int (nI w)), some (.int x), none, none, none, none] rfl (Nat.le_of_ble_eq_true rfl) ?_
  have hn := h.2.2.1
  have e1 : (fun j => O j + nI (hO q n w j 0) * x) = O := by funext j; rw [hO, nI_0, Int32.zero_mul, Int32.add_zero]
  have e2 : (fun j => E j + nI (hE q w j 0) * x) = E := by funext j; rw [hE, nI_0, Int32.zero_mul, Int32.add_zero]
  have i1 := l_X1_mark (tO := tO) (d := d) (b0 := b0) (b1 := b1) (b2 := b2) (b3 := b3) (b4 := b4) (b5 := b5) (a0 := a0) (a1 := a1) (m := m) (W := W) (Hd := Hd) (Im := Im) (O := O) (E := E) (x := x) hd h hw (w0 := bkG b0 b1 b2 b3 b4 b5 a0 a1 q n m W Hd Im O E) rfl (n - 1) 0 (by omega)
  rw [e1, e2] at i1
  refine V_iconst (v := nI 1) dX1_mark_0 (by decide) ?_
  refine V_istore_n dX1_mark_1 (by decide) rfl ?_
  exact i1
theorem l_X1_isHidden (hd : 3 ≤ d) (h : OKq q n) {w : Nat} (hw : w < q ^ n) (hB : ∀ w, B w = true → w < q ^ n) : ∀ (f k : Nat), k + f = n → 1 ≤ k → (∀ i, 1 ≤ i → i < k → ¬ ((∃ u, B u = true ∧ u % q ^ (n - i) = w / q ^ i) ∧ ∃ v, B v = true ∧ v / q ^ (n - i) = w % q ^ i)) → V tO MX1_isHidden (d, 0, 0) (bkG b0 b1 b2 b3 b4 b5 a0 a1 q n m W Hd Im (opF q n B) (enF q n B)) (fun v w' => v = some (.int (bI (hidB q n B w))) ∧ w' = bkG b0 b1 b2 b3 b4 b5 a0 a1 q n m W Hd Im (opF q n B) (enF q n B)) (0, 0) (bkG b0 b1 b2 b3 b4 b5 a0 a1 q n m W Hd Im (opF q n B) (enF q n B)) 2 [some (.ref b0), some (.int (nI w)), some (.int (nI k)), none, none, none] [] := by
  have hn := h.2.2.2.1
  intro f
  induction f with
  | zero =>
    intro k hk hk1 hno
    have e : hidB q n B w = false := by
      unfold hidB
      rw [dB_f, Hid_iff h hB]
      rintro ⟨i, h1, h2, h3⟩
      exact hno i h1 (by omega) h3
    refine V_iload_n dX1_isHidden_2 rfl ?_
    refine V_aload_n dX1_isHidden_3 rfl ?_
    refine V_get 0 dX1_isHidden_4 fX1_isHidden_9 rfl rfl ?_
    refine V_get 6 dX1_isHidden_7 fX1_isHidden_75 rfl rfl ?_
    refine V_icmp_ge_N 95 dX1_isHidden_10 (by decide) (by omega) (by omega) (fun c_10 => ?_) (fun c_10 => absurd c_10 (by omega))
    refine V_iconst (v := nI 0) dX1_isHidden_95 (by decide) ?_
    refine V_zret dX1_isHidden_96 rfl (by first | exact Or.inl rfl | exact Or.inr rfl | exact bI_or _) (Nat.le_of_ble_eq_true rfl) (Nat.le_refl _) (Nat.le_refl _) ?_
    exact ⟨by rw [e]; rfl, rfl⟩
  | succ f ih =>
    intro k hk hk1 hno
    have hp := mk_room h (k := k) (by omega)
    have hp2 := mk_room h (k := n - k) (by omega)
    have ho : w / q ^ k < q ^ (n - k) := by rw [Nat.div_lt_iff_lt_mul (h.pos _), Nat.mul_comm, ← OKq.split (by omega)]; exact hw
    have he := Nat.mod_lt w (h.pos k)
    have b1' := enN_le q n B (q ^ (n - k) + w / q ^ k)
    have b2' := opN_le q n B (q ^ k + w % q ^ k)
    have hbd : 256 * (n - 1) ≤ 1024 := by omega
    have f1 := enN_pos h hB (k := n - k) (by omega) (by omega) ho
    have f2 := opN_pos h hB (k := k) hk1 (by omega) he
    have i1 := ih (k + 1) (by omega) (by omega)
    refine V_iload_n dX1_isHidden_2 rfl ?_
    refine V_aload_n dX1_isHidden_3 rfl ?_
    refine V_get 0 dX1_isHidden_4 fX1_isHidden_9 rfl rfl ?_
    refine V_get 6 dX1_isHidden_7 fX1_isHidden_75 rfl rfl ?_
    refine V_icmp_ge_N 95 dX1_isHidden_10 (by decide) (by omega) (by omega) (fun c_10 => absurd c_10 (by omega)) (fun c_10 => ?_)
    refine V_aload_n dX1_isHidden_13 rfl ?_
    refine V_get 0 dX1_isHidden_14 fX1_isHidden_9 rfl rfl ?_
    refine V_get 6 dX1_isHidden_17 fX1_isHidden_75 rfl rfl ?_
    refine V_iload_n dX1_isHidden_20 rfl ?_
    first | refine V_isub_N dX1_isHidden_21 (by omega) ?_ | refine V_isub dX1_isHidden_21 ?_
    refine V_istore_n dX1_isHidden_22 (by decide) rfl ?_
    refine V_aload_n dX1_isHidden_23 rfl ?_
    refine V_get 0 dX1_isHidden_24 fX1_isHidden_9 rfl rfl ?_
    refine V_iload_n dX1_isHidden_27 rfl ?_
    refine V_callVpi1 [6, 7] (s_X0_power (d := d - 1) (by omega) (by omega)) gX1_isHidden_X0_power dX1_isHidden_28 oX0_power rfl rfl rfl rfl (Nat.le_of_ble_eq_true rfl) (by omega) ⟨Nat.le_refl _, Nat.le_refl _⟩ ?_
    refine V_aload_n dX1_isHidden_31 rfl ?_
    refine V_get 0 dX1_isHidden_32 fX1_isHidden_9 rfl rfl ?_
    refine V_iload_n dX1_isHidden_35 rfl ?_
    refine V_iload_n dX1_isHidden_36 rfl ?_
    refine V_callVpi2 [6, 7] (s_X0_opening (d := d - 1) (by omega) h hw (by omega)) gX1_isHidden_X0_opening dX1_isHidden_37 oX0_opening rfl rfl rfl rfl (Nat.le_of_ble_eq_true rfl) (by omega) ⟨Nat.le_refl _, Nat.le_refl _⟩ ?_
    rw [show n - (n - k) = k by omega]
    first | refine V_iadd_N dX1_isHidden_40 ?_ | refine V_iadd dX1_isHidden_40 ?_
    refine V_istore dX1_isHidden_41 (by decide) rfl ?_
    refine V_aload_n dX1_isHidden_43 rfl ?_
    refine V_get 0 dX1_isHidden_44 fX1_isHidden_9 rfl rfl ?_
    refine V_iload_n dX1_isHidden_47 rfl ?_
    refine V_callVpi1 [6, 7] (s_X0_power (d := d - 1) (by omega) (by omega)) gX1_isHidden_X0_power dX1_isHidden_48 oX0_power rfl rfl rfl rfl (Nat.le_of_ble_eq_true rfl) (by omega) ⟨Nat.le_refl _, Nat.le_refl _⟩ ?_
    refine V_aload_n dX1_isHidden_51 rfl ?_
    refine V_get 0 dX1_isHidden_52 fX1_isHidden_9 rfl rfl ?_
    refine V_iload_n dX1_isHidden_55 rfl ?_
    refine V_iload_n dX1_isHidden_56 rfl ?_
    refine V_callVpi2 [6, 7] (s_X0_ending (d := d - 1) (by omega) h hw (by omega)) gX1_isHidden_X0_ending dX1_isHidden_57 oX0_ending rfl rfl rfl rfl (Nat.le_of_ble_eq_true rfl) (by omega) ⟨Nat.le_refl _, Nat.le_refl _⟩ ?_
    first | refine V_iadd_N dX1_isHidden_60 ?_ | refine V_iadd dX1_isHidden_60 ?_
    refine V_istore dX1_isHidden_61 (by decide) rfl ?_
    refine V_aload_n dX1_isHidden_63 rfl ?_
    refine V_get 0 dX1_isHidden_64 fX1_isHidden_29 rfl rfl ?_
    refine V_iload dX1_isHidden_67 rfl ?_
    refine V_callSpi2 [5] (s_X8_atI (d := d - 1) (by omega) (by omega) (by decide)) gX1_isHidden_X8_at dX1_isHidden_69 oX8_at rfl rfl (Nat.le_of_ble_eq_true rfl) (by omega) ⟨Nat.le_refl _, Nat.le_refl _⟩ ?_
    refine V_if_le_N (a := enN q n B (q ^ (n - k) + w / q ^ k)) 89 dX1_isHidden_72 (by decide) (by omega) (fun c_72 => ?_) (fun c_72 => ?_)
    ·
      have hx : ¬ ((∃ u, B u = true ∧ u % q ^ (n - k) = w / q ^ k) ∧ ∃ v, B v = true ∧ v / q ^ (n - k) = w % q ^ k) := fun hh => by have := f1.mpr hh.1; omega
      first | refine V_iinc_N (i := 1) dX1_isHidden_89 rfl (by decide) rfl ?_ | refine V_iinc dX1_isHidden_89 rfl rfl (by decide) rfl ?_
      refine V_goto 2 dX1_isHidden_92 (by decide) ?_
      exact V_wk [some (.ref b0), some (.int (nI w)), some (.int (nI (k + 1))), none, none, none] ⟨rfl, rfl, rfl, trivial, trivial, trivial, trivial⟩ (i1 (fun i h1 h2 => by by_cases e : i = k; subst e; exact hx; exact hno i h1 (by omega)))
    ·
      refine V_aload_n dX1_isHidden_75 rfl ?_
      refine V_get 0 dX1_isHidden_76 fX1_isHidden_26 rfl rfl ?_
      refine V_iload dX1_isHidden_79 rfl ?_
      refine V_callSpi2 [4] (s_X8_atI (d := d - 1) (by omega) (by omega) (by decide)) gX1_isHidden_X8_at dX1_isHidden_81 oX8_at rfl rfl (Nat.le_of_ble_eq_true rfl) (by omega) ⟨Nat.le_refl _, Nat.le_refl _⟩ ?_
      refine V_if_le_N (a := opN q n B (q ^ k + w % q ^ k)) 89 dX1_isHidden_84 (by decide) (by omega) (fun c_84 => ?_) (fun c_84 => ?_)
      ·
        have hx : ¬ ((∃ u, B u = true ∧ u % q ^ (n - k) = w / q ^ k) ∧ ∃ v, B v = true ∧ v / q ^ (n - k) = w % q ^ k) := fun hh => by have := f2.mpr hh.2; omega
        first | refine V_iinc_N (i := 1) dX1_isHidden_89 rfl (by decide) rfl ?_ | refine V_iinc dX1_isHidden_89 rfl rfl (by decide) rfl ?_
        refine V_goto 2 dX1_isHidden_92 (by decide) ?_
        exact V_wk [some (.ref b0), some (.int (nI w)), some (.int (nI (k + 1))), none, none, none] ⟨rfl, rfl, rfl, trivial, trivial, trivial, trivial⟩ (i1 (fun i h1 h2 => by by_cases e : i = k; subst e; exact hx; exact hno i h1 (by omega)))
      ·
        refine V_iconst (v := nI 1) dX1_isHidden_87 (by decide) ?_
        refine V_zret dX1_isHidden_88 rfl (by first | exact Or.inl rfl | exact Or.inr rfl | exact bI_or _) (Nat.le_of_ble_eq_true rfl) (Nat.le_refl _) (Nat.le_refl _) ?_
        exact ⟨by rw [show hidB q n B w = true from dB_t.mpr ((Hid_iff h hB).mpr ⟨k, hk1, by omega, f1.mp c_72, f2.mp c_84⟩)]; rfl, rfl⟩
theorem s_X1_isHidden (hd : 3 ≤ d) (h : OKq q n) {w : Nat} (hw : w < q ^ n) (hB : ∀ w, B w = true → w < q ^ n) : SpP tO MX1_isHidden (d, 0, 0) [.ref b0, .int (nI w)] (bkG b0 b1 b2 b3 b4 b5 a0 a1 q n m W Hd Im (opF q n B) (enF q n B)) (some (.int (bI (hidB q n B w)))) := by
  refine eX1_isHidden [some (.ref b0), some (.int (nI w)), none, none, none, none] rfl (Nat.le_of_ble_eq_true rfl) ?_
  have hn := h.2.2.1
  refine V_iconst (v := nI 1) dX1_isHidden_0 (by decide) ?_
  refine V_istore_n dX1_isHidden_1 (by decide) rfl ?_
  exact l_X1_isHidden hd h hw hB (n - 1) 1 (by omega) (by omega) (fun i h1 h2 => by omega)
theorem l_X1_isFree (hd : 4 ≤ d) (h : OKq q n) {M : Nat → Bool} {g : Nat → Nat} (hm : m ≤ 256) (hg : SE B g m) (hg2 : ∀ i, i < m → W i = nI (g i)) (hB : ∀ w, B w = true → w < q ^ n) (hM : ∀ w, M w = true → w < q ^ n) : ∀ (f i : Nat), i + f = m → (∀ j, j < i → ¬ Hid q n M (g j)) → V tO MX1_isFree (d, 0, 0) (bkG b0 b1 b2 b3 b4 b5 a0 a1 q n m W Hd Im (opF q n M) (enF q n M)) (fun v w' => v = some (.int (bI (dB (∀ w, B w = true → ¬ Hid q n M w)))) ∧ w' = bkG b0 b1 b2 b3 b4 b5 a0 a1 q n m W Hd Im (opF q n M) (enF q n M)) (0, 0) (bkG b0 b1 b2 b3 b4 b5 a0 a1 q n m W Hd Im (opF q n M) (enF q n M)) 2 [some (.ref b0), some (.int (nI i))] [] := by
  intro f
  induction f with
  | zero =>
    intro i hi hno
    have e : dB (∀ w, B w = true → ¬ Hid q n M w) = true := dB_t.mpr (fun w hw => by obtain ⟨j, hj, rfl⟩ := (hg.2 w).mp hw; exact hno j (by omega))
    refine V_iload_n dX1_isFree_2 rfl ?_
    refine V_aload_n dX1_isFree_3 rfl ?_
    refine V_get 0 dX1_isFree_4 fX1_isFree_32 rfl rfl ?_
    refine V_icmp_ge_N 30 dX1_isFree_7 (by decide) (by omega) (by omega) (fun c_7 => ?_) (fun c_7 => absurd c_7 (by omega))
    refine V_iconst (v := nI 1) dX1_isFree_30 (by decide) ?_
    refine V_zret dX1_isFree_31 rfl (by first | exact Or.inl rfl | exact Or.inr rfl | exact bI_or _) (Nat.le_of_ble_eq_true rfl) (Nat.le_refl _) (Nat.le_refl _) ?_
    exact ⟨by rw [e]; rfl, rfl⟩
  | succ f ih =>
    intro i hi hno
    have i1 := ih (i + 1) (by omega)
    refine V_iload_n dX1_isFree_2 rfl ?_
    refine V_aload_n dX1_isFree_3 rfl ?_
    refine V_get 0 dX1_isFree_4 fX1_isFree_32 rfl rfl ?_
    refine V_icmp_ge_N 30 dX1_isFree_7 (by decide) (by omega) (by omega) (fun c_7 => absurd c_7 (by omega)) (fun c_7 => ?_)
    refine V_aload_n dX1_isFree_10 rfl ?_
    refine V_aload_n dX1_isFree_11 rfl ?_
    refine V_iload_n dX1_isFree_12 rfl ?_
    refine V_callVpi1 [0, 1] (s_X1_nth (d := d - 1) (by omega) (by omega)) gX1_isFree_X1_nth dX1_isFree_13 oX1_nth rfl rfl rfl rfl (Nat.le_of_ble_eq_true rfl) (by omega) ⟨Nat.le_refl _, Nat.le_refl _⟩ ?_
    rw [hg2 i (by omega)]
    refine V_callVpi1 [0, 1, 2, 3, 4, 5, 6, 7] (s_X1_isHidden (d := d - 1) (by omega) h (hB _ (hg.mem (by omega))) hM) gX1_isFree_X1_isHidden dX1_isFree_16 oX1_isHidden rfl rfl rfl rfl (Nat.le_of_ble_eq_true rfl) (by omega) ⟨Nat.le_refl _, Nat.le_refl _⟩ ?_
    first | refine V_if_eq_B 24 dX1_isFree_19 (by decide) (fun c_19 => ?_) (fun c_19 => ?_) | refine V_if_eq_N 24 dX1_isFree_19 (by decide) (by omega) (fun c_19 => ?_) (fun c_19 => ?_) | refine V_if_eq 24 dX1_isFree_19 (by decide) (fun c_19 => ?_) (fun c_19 => ?_)
    ·
      first | refine V_iinc_N (i := 1) dX1_isFree_24 rfl (by decide) rfl ?_ | refine V_iinc dX1_isFree_24 rfl rfl (by decide) rfl ?_
      refine V_goto 2 dX1_isFree_27 (by decide) ?_
      exact i1 (fun j hj => by by_cases e : j = i; subst e; exact dB_f.mp c_19; exact hno j (by omega))
    ·
      refine V_iconst (v := nI 0) dX1_isFree_22 (by decide) ?_
      refine V_zret dX1_isFree_23 rfl (by first | exact Or.inl rfl | exact Or.inr rfl | exact bI_or _) (Nat.le_of_ble_eq_true rfl) (Nat.le_refl _) (Nat.le_refl _) ?_
      exact ⟨by rw [show dB (∀ w, B w = true → ¬ Hid q n M w) = false from dB_f.mpr (fun hh => hh _ (hg.mem (by omega)) (dB_t.mp c_19))]; rfl, rfl⟩
theorem s_X1_isFreeM (hd : 4 ≤ d) (h : OKq q n) {M : Nat → Bool} (hB : Bk (q ^ n) B W m) (hM : ∀ w, M w = true → w < q ^ n) : SpP tO MX1_isFree (d, 0, 0) [.ref b0] (bkG b0 b1 b2 b3 b4 b5 a0 a1 q n m W Hd Im (opF q n M) (enF q n M)) (some (.int (bI (dB (∀ w, B w = true → ¬ Hid q n M w))))) := by
  refine eX1_isFree [some (.ref b0), none] rfl (Nat.le_of_ble_eq_true rfl) ?_
  have hm := (hB.mono h.2.2.2.2).len
  obtain ⟨h1, g, h2, h3⟩ := hB
  refine V_iconst (v := nI 0) dX1_isFree_0 (by decide) ?_
  refine V_istore_n dX1_isFree_1 (by decide) rfl ?_
  exact l_X1_isFree hd h hm h2 h3 h1 hM m 0 (by omega) (fun j hj => by omega)
theorem s_X1_isFree (hd : 4 ≤ d) (h : OKq q n) (hB : Bk (q ^ n) B W m) : SpP tO MX1_isFree (d, 0, 0) [.ref b0] (bkW b0 b1 b2 b3 b4 b5 a0 a1 q n B m W Im) (some (.int (bI (frB q n B)))) := by
  have e : frB q n B = dB (∀ w, B w = true → ¬ Hid q n B w) := dB_iff Fr_iff
  rw [e]
  exact s_X1_isFreeM hd h hB hB.1
noncomputable def alB (q n : Nat) (B : Nat → Bool) (w : Nat) : Bool := dB (w < q ^ n ∧ B w = false ∧ Fr q n (insB B w))
theorem s_X1_allows (hd : 5 ≤ d) (h : OKq q n) (hB : Bk (q ^ n) B W m) {w : Nat} (hw : w < 2 ^ 31) : SpP tO MX1_allows (d, 0, 0) [.ref b0, .int (nI w)] (bkW b0 b1 b2 b3 b4 b5 a0 a1 q n B m W Im) (some (.int (bI (alB q n B w)))) := by
  refine eX1_allows [some (.ref b0), some (.int (nI w)), none] rfl (Nat.le_of_ble_eq_true rfl) ?_
  have hN := h.2.2.2.2
  by_cases hwN : w < q ^ n
  · have hI : ∀ j, insB B w j = true → j < q ^ n := fun j hj => by rcases insB_iff.mp hj with e | e; exact hB.1 j e; omega
    refine V_aload_n dX1_allows_0 rfl ?_
    refine V_get 0 dX1_allows_1 fX1_allows_9 rfl rfl ?_
    refine V_iload_n dX1_allows_4 rfl ?_
    refine V_callVpi1 [6, 7] (s_X0_isWord (d := d - 1) (by omega) h) gX1_allows_X0_isWord dX1_allows_5 oX0_isWord rfl rfl rfl rfl (Nat.le_of_ble_eq_true rfl) (by omega) ⟨Nat.le_refl _, Nat.le_refl _⟩ ?_
    rw [isW_nI hw]
    first | refine V_if_eq_B 19 dX1_allows_8 (by decide) (fun c_8 => ?_) (fun c_8 => ?_) | refine V_if_eq_N 19 dX1_allows_8 (by decide) (by omega) (fun c_8 => ?_) (fun c_8 => ?_) | refine V_if_eq 19 dX1_allows_8 (by decide) (fun c_8 => ?_) (fun c_8 => ?_)
    ·
      rw [decide_eq_true hwN] at c_8; cases c_8
    ·
      refine V_aload_n dX1_allows_11 rfl ?_
      refine V_iload_n dX1_allows_12 rfl ?_
      refine V_callVpi1 [0, 2] (s_X1_holds (d := d - 1) (by omega) (by omega)) gX1_allows_X1_holds dX1_allows_13 oX1_holds rfl rfl rfl rfl (Nat.le_of_ble_eq_true rfl) (by omega) ⟨Nat.le_refl _, Nat.le_refl _⟩ ?_
      first | refine V_if_eq_B 21 dX1_allows_16 (by decide) (fun c_16 => ?_) (fun c_16 => ?_) | refine V_if_eq_N 21 dX1_allows_16 (by decide) (by omega) (fun c_16 => ?_) (fun c_16 => ?_) | refine V_if_eq 21 dX1_allows_16 (by decide) (fun c_16 => ?_) (fun c_16 => ?_)
      ·
        refine V_aload_n dX1_allows_21 rfl ?_
        refine V_iload_n dX1_allows_22 rfl ?_
        refine V_iconst (v := nI 1) dX1_allows_23 (by decide) ?_
        refine V_callVfv2 [0, 1, 2, 3, 4, 5, 6, 7] (s_X1_mark (d := d - 1) (by omega) h hwN) gX1_allows_X1_mark dX1_allows_24 oX1_mark rfl rfl rfl rfl (Nat.le_of_ble_eq_true rfl) (by omega) ⟨Nat.le_refl _, Nat.le_refl _⟩ ?_
        dsimp only [zPut, List.set]
        rw [mkO_ins c_16 (by omega), mkE_ins c_16 (by omega)]
        refine V_aload_n dX1_allows_27 rfl ?_
        refine V_iload_n dX1_allows_28 rfl ?_
        refine V_callVpi1 [0, 1, 2, 3, 4, 5, 6, 7] (s_X1_isHidden (d := d - 1) (by omega) h hwN hI) gX1_allows_X1_isHidden dX1_allows_29 oX1_isHidden rfl rfl rfl rfl (Nat.le_of_ble_eq_true rfl) (by omega) ⟨Nat.le_refl _, Nat.le_refl _⟩ ?_
        first | refine V_if_ne_B 46 dX1_allows_32 (by decide) (fun c_32 => ?_) (fun c_32 => ?_) | refine V_if_ne_N 46 dX1_allows_32 (by decide) (by omega) (fun c_32 => ?_) (fun c_32 => ?_) | refine V_if_ne 46 dX1_allows_32 (by decide) (fun c_32 => ?_) (fun c_32 => ?_)
        ·
          have e : alB q n B w = false := dB_f.mpr (fun hh => Fr_iff.mp hh.2.2 w (insB_self B w) (dB_t.mp c_32))
          refine V_iconst (v := nI 0) dX1_allows_46 (by decide) ?_
          refine V_istore_n dX1_allows_47 (by decide) rfl ?_
          refine V_aload_n dX1_allows_48 rfl ?_
          refine V_iload_n dX1_allows_49 rfl ?_
          refine V_iconst (v := -1) dX1_allows_50 (by decide) ?_
          refine V_callVfv2 [0, 1, 2, 3, 4, 5, 6, 7] (s_X1_mark (d := d - 1) (by omega) h hwN) gX1_allows_X1_mark dX1_allows_51 oX1_mark rfl rfl rfl rfl (Nat.le_of_ble_eq_true rfl) (by omega) ⟨Nat.le_refl _, Nat.le_refl _⟩ ?_
          dsimp only [zPut, List.set]
          rw [mkO_del c_16 (by omega), mkE_del c_16 (by omega)]
          refine V_iload_n dX1_allows_54 rfl ?_
          refine V_zret dX1_allows_55 rfl (by first | exact Or.inl rfl | exact Or.inr rfl | exact bI_or _) (Nat.le_of_ble_eq_true rfl) (Nat.le_refl _) (Nat.le_refl _) ?_
          exact ⟨by rw [e]; rfl, rfl⟩
        ·
          refine V_aload_n dX1_allows_35 rfl ?_
          refine V_callVpi0 [0, 1, 2, 3, 4, 5, 6, 7] (s_X1_isFreeM (d := d - 1) (by omega) h hB hI) gX1_allows_X1_isFree dX1_allows_36 oX1_isFree rfl rfl rfl rfl (Nat.le_of_ble_eq_true rfl) (by omega) ⟨Nat.le_refl _, Nat.le_refl _⟩ ?_
          first | refine V_if_eq_B 46 dX1_allows_39 (by decide) (fun c_39 => ?_) (fun c_39 => ?_) | refine V_if_eq_N 46 dX1_allows_39 (by decide) (by omega) (fun c_39 => ?_) (fun c_39 => ?_) | refine V_if_eq 46 dX1_allows_39 (by decide) (fun c_39 => ?_) (fun c_39 => ?_)
          ·
            have e : alB q n B w = false := dB_f.mpr (fun hh => dB_f.mp c_39 (fun x hx => Fr_iff.mp hh.2.2 x (insB_of hx)))
            refine V_iconst (v := nI 0) dX1_allows_46 (by decide) ?_
            refine V_istore_n dX1_allows_47 (by decide) rfl ?_
            refine V_aload_n dX1_allows_48 rfl ?_
            refine V_iload_n dX1_allows_49 rfl ?_
            refine V_iconst (v := -1) dX1_allows_50 (by decide) ?_
            refine V_callVfv2 [0, 1, 2, 3, 4, 5, 6, 7] (s_X1_mark (d := d - 1) (by omega) h hwN) gX1_allows_X1_mark dX1_allows_51 oX1_mark rfl rfl rfl rfl (Nat.le_of_ble_eq_true rfl) (by omega) ⟨Nat.le_refl _, Nat.le_refl _⟩ ?_
            dsimp only [zPut, List.set]
            rw [mkO_del c_16 (by omega), mkE_del c_16 (by omega)]
            refine V_iload_n dX1_allows_54 rfl ?_
            refine V_zret dX1_allows_55 rfl (by first | exact Or.inl rfl | exact Or.inr rfl | exact bI_or _) (Nat.le_of_ble_eq_true rfl) (Nat.le_refl _) (Nat.le_refl _) ?_
            exact ⟨by rw [e]; rfl, rfl⟩
          ·
            have e : alB q n B w = true := dB_t.mpr ⟨hwN, c_16, Fr_iff.mpr (fun x hx => by rcases insB_iff.mp hx with e1 | e1; exact dB_t.mp c_39 x e1; rw [e1]; exact dB_f.mp c_32)⟩
            refine V_iconst (v := nI 1) dX1_allows_42 (by decide) ?_
            refine V_goto 47 dX1_allows_43 (by decide) ?_
            refine V_istore_n dX1_allows_47 (by decide) rfl ?_
            refine V_aload_n dX1_allows_48 rfl ?_
            refine V_iload_n dX1_allows_49 rfl ?_
            refine V_iconst (v := -1) dX1_allows_50 (by decide) ?_
            refine V_callVfv2 [0, 1, 2, 3, 4, 5, 6, 7] (s_X1_mark (d := d - 1) (by omega) h hwN) gX1_allows_X1_mark dX1_allows_51 oX1_mark rfl rfl rfl rfl (Nat.le_of_ble_eq_true rfl) (by omega) ⟨Nat.le_refl _, Nat.le_refl _⟩ ?_
            dsimp only [zPut, List.set]
            rw [mkO_del c_16 (by omega), mkE_del c_16 (by omega)]
            refine V_iload_n dX1_allows_54 rfl ?_
            refine V_zret dX1_allows_55 rfl (by first | exact Or.inl rfl | exact Or.inr rfl | exact bI_or _) (Nat.le_of_ble_eq_true rfl) (Nat.le_refl _) (Nat.le_refl _) ?_
            exact ⟨by rw [e]; rfl, rfl⟩
      ·
        rw [show alB q n B w = false from dB_f.mpr (fun hh => by rw [c_16] at hh; cases hh.2.1)]
        refine V_iconst (v := nI 0) dX1_allows_19 (by decide) ?_
        refine V_zret dX1_allows_20 rfl (by first | exact Or.inl rfl | exact Or.inr rfl | exact bI_or _) (Nat.le_of_ble_eq_true rfl) (Nat.le_refl _) (Nat.le_refl _) ?_
        exact ⟨rfl, rfl⟩
  · have e : alB q n B w = false := dB_f.mpr (fun hh => hwN hh.1)
    rw [e]
    refine V_aload_n dX1_allows_0 rfl ?_
    refine V_get 0 dX1_allows_1 fX1_allows_9 rfl rfl ?_
    refine V_iload_n dX1_allows_4 rfl ?_
    refine V_callVpi1 [6, 7] (s_X0_isWord (d := d - 1) (by omega) h) gX1_allows_X0_isWord dX1_allows_5 oX0_isWord rfl rfl rfl rfl (Nat.le_of_ble_eq_true rfl) (by omega) ⟨Nat.le_refl _, Nat.le_refl _⟩ ?_
    rw [isW_nI hw]
    first | refine V_if_eq_B 19 dX1_allows_8 (by decide) (fun c_8 => ?_) (fun c_8 => ?_) | refine V_if_eq_N 19 dX1_allows_8 (by decide) (by omega) (fun c_8 => ?_) (fun c_8 => ?_) | refine V_if_eq 19 dX1_allows_8 (by decide) (fun c_8 => ?_) (fun c_8 => ?_)
    ·
      refine V_iconst (v := nI 0) dX1_allows_19 (by decide) ?_
      refine V_zret dX1_allows_20 rfl (by first | exact Or.inl rfl | exact Or.inr rfl | exact bI_or _) (Nat.le_of_ble_eq_true rfl) (Nat.le_refl _) (Nat.le_refl _) ?_
      exact ⟨rfl, rfl⟩
    ·
      rw [decide_eq_false hwN] at c_8; cases c_8
end BOOK

