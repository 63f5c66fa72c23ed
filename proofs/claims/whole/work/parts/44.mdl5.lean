/-! the model: the strip -/
theorem num_wLt {q n w p : Nat} (h : OKq q n) : ∀ h2, p + h2 ≤ n → w / q ^ (n - (p + h2)) % q ^ h2 = num q (wLt q n w) p h2
  | 0, _ => by rw [num, Nat.pow_zero, Nat.mod_one]
  | h2 + 1, hp => by
    rw [num, ← num_wLt h h2 (by omega)]
    have e1 : n - (p + h2) = (n - (p + (h2 + 1))) + 1 := by omega
    unfold wLt
    rw [show n - 1 - (p + h2) = n - (p + (h2 + 1)) by omega, e1, Nat.pow_succ q (n - (p + (h2 + 1))), ← Nat.div_div_eq_div_mul, Nat.pow_succ, Nat.mul_comm (q ^ h2) q, Nat.mod_mul, Nat.mul_comm q, Nat.add_comm]
theorem num_eq {q : Nat} {L L' : Nat → Nat} {a a' : Nat} : ∀ {h : Nat}, (∀ i, i < h → L (a + i) < q) → (∀ i, i < h → L' (a' + i) < q) → (num q L a h = num q L' a' h ↔ ∀ i, i < h → L (a + i) = L' (a' + i))
  | 0, _, _ => ⟨fun _ i hi => absurd hi (by omega), fun _ => rfl⟩
  | h + 1, h1, h2 => by
    rw [num, num]
    have i1 := num_eq (q := q) (L := L) (L' := L') (a := a) (a' := a') (h := h) (fun i hi => h1 i (by omega)) (fun i hi => h2 i (by omega))
    constructor
    · intro e i hi
      obtain ⟨e1, e2⟩ := dm_eq (h1 h (by omega)) (h2 h (by omega)) e
      by_cases ei : i = h
      · subst ei; exact e2
      · exact i1.mp e1 i (by omega)
    · intro e
      rw [i1.mpr (fun i hi => e i (by omega)), e h (by omega)]
/-- a word of the book has these letters, c of them, from place p on -/
def thP (q n : Nat) (B : Nat → Bool) (p c : Nat) (l : Nat → Nat) : Prop := ∃ w, B w = true ∧ ∀ i, i < c → wLt q n w (p + i) = l i
theorem fit_th {q n r e i : Nat} {B : Nat → Bool} {L : Nat → Nat} (h : OKq q n) (hr : r < n) (he : (e + (n - r)) % n = 0) (he2 : e < n → e = r) (hp : n - e + i < n) (hL : ∀ k, k ≤ i → L (e - n + k) < q) : fitA q n B L r (e - n + i) ↔ thP q n B (n - e) (i + 1) (fun k => L (e - n + k)) := by
  have hn := h.2.2.1
  have hpl : plc n r (e - n + i) = n - e + i := by
    unfold plc
    by_cases c : e < n
    · rw [he2 c]
      rw [show r - n + i + (n - r) = n - r + i by omega]
      exact Nat.mod_eq_of_lt (by rw [he2 c] at hp; exact hp)
    · obtain ⟨m, hm⟩ := Nat.dvd_of_mod_eq_zero he
      have hm1 : 1 ≤ m := by
        rcases Nat.eq_zero_or_pos m with q1 | q1
        · subst q1; omega
        · exact q1
      obtain ⟨m', rfl⟩ : ∃ m', m = m' + 1 := ⟨m - 1, by omega⟩
      rw [Nat.mul_succ] at hm
      rw [show e - n + i + (n - r) = n * m' + i by omega, Nat.mul_add_mod, show n - e + i = i by omega]
      exact Nat.mod_eq_of_lt (by omega)
  have hb : bhd n r (e - n + i) = i := by
    unfold bhd
    rw [hpl]
    by_cases c : e < n <;> omega
  unfold fitA thP
  rw [hpl, hb, show e - n + i - i = e - n by omega]
  constructor
  · rintro ⟨w, h1, h2⟩
    refine ⟨w, h1, ?_⟩
    rw [show n - 1 - (n - e + i) = n - (n - e + (i + 1)) by omega, num_wLt h (i + 1) (by omega)] at h2
    have h3 := (num_eq (fun k _ => wLt_lt h) (fun k hk => hL k (by omega))).mp h2
    exact h3
  · rintro ⟨w, h1, h2⟩
    refine ⟨w, h1, ?_⟩
    rw [show n - 1 - (n - e + i) = n - (n - e + (i + 1)) by omega, num_wLt h (i + 1) (by omega)]
    exact (num_eq (fun k _ => wLt_lt h) (fun k hk => hL k (by omega))).mpr h2
theorem thP_less {q n p c c' : Nat} {B : Nat → Bool} {l : Nat → Nat} (h : thP q n B p c l) (hc : c' ≤ c) : thP q n B p c' l := by
  obtain ⟨w, h1, h2⟩ := h
  exact ⟨w, h1, fun i hi => h2 i (by omega)⟩
theorem sub_toInt {e n : Nat} (he : e < 2 ^ 30) (hn : n < 2 ^ 30) : (nI e - nI n).toInt = (e : Int) - n := by
  rw [Int32.toInt_sub, nI_toInt (by omega), nI_toInt (by omega)]
  rw [Int.bmod_eq_of_le] <;> omega
def thF (q n : Nat) (B : Nat → Bool) (l : Nat → Nat) (p w : Nat) : Nat → Bool
  | 0 => B w
  | i + 1 => thF q n B l p w i && (wLt q n w (p + i) == l i)
theorem thF_iff {q n p w : Nat} {B : Nat → Bool} {l : Nat → Nat} : ∀ {c : Nat}, thF q n B l p w c = true ↔ B w = true ∧ ∀ i, i < c → wLt q n w (p + i) = l i
  | 0 => ⟨fun h => ⟨h, fun i hi => absurd hi (by omega)⟩, fun h => h.1⟩
  | c + 1 => by
    rw [thF, Bool.and_eq_true, thF_iff (c := c), beq_iff_eq]
    constructor
    · rintro ⟨⟨h1, h2⟩, h3⟩
      refine ⟨h1, fun i hi => ?_⟩
      by_cases e : i = c
      · subst e; exact h3
      · exact h2 i (by omega)
    · rintro ⟨h1, h2⟩
      exact ⟨⟨h1, fun i hi => h2 i (by omega)⟩, h2 c (by omega)⟩
theorem thF_f {q n p w i : Nat} {B : Nat → Bool} {l : Nat → Nat} (h : thF q n B l p w i = false) : ∀ k, thF q n B l p w (i + k) = false
  | 0 => h
  | k + 1 => by rw [← Nat.add_assoc, thF, thF_f h k, Bool.false_and]
section MDL5
variable {tO d m0 : Nat} {A : Nat → Nat} {q n cut rows kq kn kc kr fd wn : Nat} {kt yw : Bool} {cu cv ck rm mo bo ki wa wr fo : Int32} {B KB : Nat → Bool} {Wb R KR P KP Od Ig Pk Lt Lk Rd Nx Tp Pa Wy Sz It : Nat → Int32}
theorem s_X12_cast (hd : 2 ≤ d) (h : OKq q n) (hm : cut ≤ 40) {L : Nat → Nat} (hL : RwOK q cut R L) {x : Int32} : Sp tO MX12_cast (d, 0, 0) [.ref m0, .int x] [obM m0 A q n cut rows kq kn kc kr kt cu cv ck rm mo bo ki wa wr fo fd wn yw, (A 3, aI 40 R)] (fun v w' => ∃ R', v = some (.int (caV q cut x)) ∧ w' = [obM m0 A q n (caN q cut x) rows kq kn kc kr kt cu cv ck rm mo bo ki wa wr fo fd wn yw, (A 3, aI 40 R')] ∧ RwOK q (caN q cut x) R' (caL q cut x L)) := by
  refine eX12_cast [some (.ref m0), some (.int x)] rfl (Nat.le_of_ble_eq_true rfl) ?_
  have hq4 := h.2.1
  have hq2 := h.1
  unfold caV caN caL
  refine V_iload_n dX12_cast_0 rfl ?_
  refine V_i2l dX12_cast_1 ?_
  refine V_lconst (v := 0) dX12_cast_2 (by decide) ?_
  refine V_aload_n dX12_cast_3 rfl ?_
  refine V_get 0 dX12_cast_4 fX12_cast_9 rfl rfl ?_
  refine V_iconst (v := nI 1) dX12_cast_7 (by decide) ?_
  first | refine V_isub_N dX12_cast_8 (by omega) ?_ | refine V_isub dX12_cast_8 ?_
  refine V_i2l dX12_cast_9 ?_
  refine V_callSpi3 [] (s_X12_isInW (d := d - 1) (by omega) (by omega) (by omega)) gX12_cast_X12_isIn dX12_cast_10 oX12_isIn rfl rfl (Nat.le_of_ble_eq_true rfl) (by omega) ⟨Nat.le_refl _, Nat.le_refl _⟩ ?_
  first | refine V_if_ne_B 19 dX12_cast_13 (by decide) (fun c_13 => ?_) (fun c_13 => ?_) | refine V_if_ne_N 19 dX12_cast_13 (by decide) (by omega) (fun c_13 => ?_) (fun c_13 => ?_) | refine V_if_ne 19 dX12_cast_13 (by decide) (fun c_13 => ?_) (fun c_13 => ?_)
  ·
    rw [c_13, if_pos rfl, if_pos rfl, if_pos rfl]
    obtain ⟨c, hc, rfl⟩ := isW_of c_13
    rw [toNat_nI (by omega)]
    refine V_aload_n dX12_cast_19 rfl ?_
    refine V_get 0 dX12_cast_20 fX12_cast_95 rfl rfl ?_
    refine V_bipush (v := nI 40) dX12_cast_23 (by decide) ?_
    refine V_icmp_ne_N 31 dX12_cast_25 (by decide) (by omega) (by decide) (fun c_25 => ?_) (fun c_25 => ?_)
    ·
      rw [if_pos (by omega), if_pos (by omega), if_pos (by omega)]
      refine V_aload_n dX12_cast_31 rfl ?_
      refine V_get 0 dX12_cast_32 fX12_cast_28 rfl rfl ?_
      refine V_aload_n dX12_cast_35 rfl ?_
      refine V_get 0 dX12_cast_36 fX12_cast_95 rfl rfl ?_
      refine V_iload_n dX12_cast_39 rfl ?_
      refine V_iast_N 1 dX12_cast_40 rfl (by omega) (by first | decide | omega) ?_
      refine V_aload_n dX12_cast_41 rfl ?_
      refine V_dup dX12_cast_42 rfl ?_
      refine V_get 0 dX12_cast_43 fX12_cast_95 rfl rfl ?_
      refine V_iconst (v := nI 1) dX12_cast_46 (by decide) ?_
      first | refine V_iadd_N dX12_cast_47 ?_ | refine V_iadd dX12_cast_47 ?_
      refine V_put 0 dX12_cast_48 fX12_cast_95 ft_10_2 rfl rfl rfl (Nat.le_of_ble_eq_true rfl) ?_
      refine V_aload_n dX12_cast_51 rfl ?_
      refine V_get 0 dX12_cast_52 fX12_cast_95 rfl rfl ?_
      refine V_iret dX12_cast_55 rfl (Nat.le_of_ble_eq_true rfl) (Nat.le_refl _) (Nat.le_refl _) ?_
      refine ⟨_, rfl, rfl, fun j hj => ?_⟩
      unfold upd updN
      by_cases e : j = cut
      · rw [if_pos e, if_pos e]; exact ⟨rfl, hc⟩
      · rw [if_neg e, if_neg e]; exact hL j (by omega)
    ·
      rw [if_neg (by omega), if_neg (by omega), if_neg (by omega)]
      refine V_bipush (v := (-4)) dX12_cast_28 (by decide) ?_
      refine V_iret dX12_cast_30 rfl (Nat.le_of_ble_eq_true rfl) (Nat.le_refl _) (Nat.le_refl _) ?_
      exact ⟨R, rfl, rfl, hL⟩
  ·
    rw [c_13]
    refine V_bipush (v := (-2)) dX12_cast_16 (by decide) ?_
    refine V_iret dX12_cast_18 rfl (Nat.le_of_ble_eq_true rfl) (Nat.le_refl _) (Nat.le_refl _) ?_
    exact ⟨R, rfl, rfl, hL⟩
theorem l_X12_spell (hd : 3 ≤ d) (h : OKq q n) {w : Nat} {L : Nat → Nat} (hw : w < q ^ n) (hm : cut + n ≤ 40) {R0 : Nat → Int32} : ∀ (f i : Nat) (R' : Nat → Int32), i + f = n → RwOK q (cut + i) R' (fun j => if j < cut then L j else wLt q n w (j - cut)) → V tO MX12_spell (d, 0, 0) [obM m0 A q n cut rows kq kn kc kr kt cu cv ck rm mo bo ki wa wr fo fd wn yw, (A 3, aI 40 R0)] (fun v w' => ∃ R', v = some (.int (nI (cut + n))) ∧ w' = [obM m0 A q n (cut + n) rows kq kn kc kr kt cu cv ck rm mo bo ki wa wr fo fd wn yw, (A 3, aI 40 R')] ∧ RwOK q (cut + n) R' (fun j => if j < cut then L j else wLt q n w (j - cut))) (0, 0) [obM m0 A q n (cut + i) rows kq kn kc kr kt cu cv ck rm mo bo ki wa wr fo fd wn yw, (A 3, aI 40 R')] 29 [some (.ref m0), some (.int (nI w)), some (.int (nI i))] [] := by
  have hN := h.2.2.2.2
  have hn5 := h.2.2.2.1
  intro f
  induction f with
  | zero =>
    intro i R' hi hR
    have e : i = n := by omega
    subst e
    refine V_iload_n dX12_spell_29 rfl ?_
    refine V_aload_n dX12_spell_30 rfl ?_
    refine V_get 0 dX12_spell_31 fX12_spell_15 rfl rfl ?_
    refine V_icmp_ge_N 68 dX12_spell_34 (by decide) (by omega) (by omega) (fun c_34 => ?_) (fun c_34 => absurd c_34 (by omega))
    refine V_aload_n dX12_spell_68 rfl ?_
    refine V_get 0 dX12_spell_69 fX12_spell_95 rfl rfl ?_
    refine V_iret dX12_spell_72 rfl (Nat.le_of_ble_eq_true rfl) (Nat.le_refl _) (Nat.le_refl _) ?_
    exact ⟨R', rfl, rfl, hR⟩
  | succ f ih =>
    intro i R' hi hR
    refine V_iload_n dX12_spell_29 rfl ?_
    refine V_aload_n dX12_spell_30 rfl ?_
    refine V_get 0 dX12_spell_31 fX12_spell_15 rfl rfl ?_
    refine V_icmp_ge_N 68 dX12_spell_34 (by decide) (by omega) (by omega) (fun c_34 => absurd c_34 (by omega)) (fun c_34 => ?_)
    refine V_aload_n dX12_spell_37 rfl ?_
    refine V_get 0 dX12_spell_38 fX12_spell_28 rfl rfl ?_
    refine V_aload_n dX12_spell_41 rfl ?_
    refine V_get 0 dX12_spell_42 fX12_spell_95 rfl rfl ?_
    refine V_aload_n dX12_spell_45 rfl ?_
    refine V_iload_n dX12_spell_46 rfl ?_
    refine V_iload_n dX12_spell_47 rfl ?_
    refine V_callVpi2 [0] (s_X12_letterOf (d := d - 1) (by omega) h hw (by omega)) gX12_spell_X12_letterOf dX12_spell_48 oX12_letterOf rfl rfl rfl rfl (Nat.le_of_ble_eq_true rfl) (by omega) ⟨Nat.le_refl _, Nat.le_refl _⟩ ?_
    refine V_iast_N 1 dX12_spell_51 rfl (by omega) (by first | decide | omega) ?_
    refine V_aload_n dX12_spell_52 rfl ?_
    refine V_dup dX12_spell_53 rfl ?_
    refine V_get 0 dX12_spell_54 fX12_spell_95 rfl rfl ?_
    refine V_iconst (v := nI 1) dX12_spell_57 (by decide) ?_
    first | refine V_iadd_N dX12_spell_58 ?_ | refine V_iadd dX12_spell_58 ?_
    refine V_put 0 dX12_spell_59 fX12_spell_95 ft_10_2 rfl rfl rfl (Nat.le_of_ble_eq_true rfl) ?_
    first | refine V_iinc_N (i := 1) dX12_spell_62 rfl (by decide) rfl ?_ | refine V_iinc dX12_spell_62 rfl rfl (by decide) rfl ?_
    refine V_goto 29 dX12_spell_65 (by decide) ?_
    refine ih (i + 1) _ (by omega) (fun j hj => ?_)
    unfold upd
    by_cases e : j = cut + i
    · subst e
      dsimp only
      rw [if_pos rfl, if_neg (by omega), show cut + i - cut = i by omega]
      exact ⟨rfl, wLt_lt h⟩
    · rw [if_neg e]; exact hR j (by omega)
theorem s_X12_spell (hd : 4 ≤ d) (h : OKq q n) (hm : cut ≤ 40) {L : Nat → Nat} (hL : RwOK q cut R L) {x : Int32} : Sp tO MX12_spell (d, 0, 0) [.ref m0, .int x] [obM m0 A q n cut rows kq kn kc kr kt cu cv ck rm mo bo ki wa wr fo fd wn yw, (A 3, aI 40 R)] (fun v w' => ∃ R', v = some (.int (seV q n cut x)) ∧ w' = [obM m0 A q n (seN q n cut x) rows kq kn kc kr kt cu cv ck rm mo bo ki wa wr fo fd wn yw, (A 3, aI 40 R')] ∧ RwOK q (seN q n cut x) R' (seL q n cut x L)) := by
  refine eX12_spell [some (.ref m0), some (.int x), none] rfl (Nat.le_of_ble_eq_true rfl) ?_
  have hN := h.2.2.2.2
  have hn5 := h.2.2.2.1
  unfold seV seN seL
  refine V_aload_n dX12_spell_0 rfl ?_
  refine V_iload_n dX12_spell_1 rfl ?_
  refine V_callVpi1 [0] (s_X12_isWord (d := d - 1) (by omega) h) gX12_spell_X12_isWord dX12_spell_2 oX12_isWord rfl rfl rfl rfl (Nat.le_of_ble_eq_true rfl) (by omega) ⟨Nat.le_refl _, Nat.le_refl _⟩ ?_
  first | refine V_if_ne_B 10 dX12_spell_5 (by decide) (fun c_5 => ?_) (fun c_5 => ?_) | refine V_if_ne_N 10 dX12_spell_5 (by decide) (by omega) (fun c_5 => ?_) (fun c_5 => ?_) | refine V_if_ne 10 dX12_spell_5 (by decide) (fun c_5 => ?_) (fun c_5 => ?_)
  ·
    rw [c_5, if_pos rfl, if_pos rfl, if_pos rfl]
    obtain ⟨w, hw, rfl⟩ := isW_of c_5
    rw [toNat_nI (by omega)]
    refine V_aload_n dX12_spell_10 rfl ?_
    refine V_get 0 dX12_spell_11 fX12_spell_95 rfl rfl ?_
    refine V_aload_n dX12_spell_14 rfl ?_
    refine V_get 0 dX12_spell_15 fX12_spell_15 rfl rfl ?_
    first | refine V_iadd_N dX12_spell_18 ?_ | refine V_iadd dX12_spell_18 ?_
    refine V_bipush (v := nI 40) dX12_spell_19 (by decide) ?_
    refine V_icmp_le_N 27 dX12_spell_21 (by decide) (by omega) (by decide) (fun c_21 => ?_) (fun c_21 => ?_)
    ·
      rw [if_pos (by omega), if_pos (by omega), if_pos (by omega)]
      refine V_iconst (v := nI 0) dX12_spell_27 (by decide) ?_
      refine V_istore_n dX12_spell_28 (by decide) rfl ?_
      exact l_X12_spell (by omega) h hw (by omega) n 0 R (by omega) (fun j hj => by dsimp only; rw [if_pos (by omega)]; exact hL j (by omega))
    ·
      rw [if_neg (by omega), if_neg (by omega), if_neg (by omega)]
      refine V_bipush (v := (-4)) dX12_spell_24 (by decide) ?_
      refine V_iret dX12_spell_26 rfl (Nat.le_of_ble_eq_true rfl) (Nat.le_refl _) (Nat.le_refl _) ?_
      exact ⟨R, rfl, rfl, hL⟩
  ·
    rw [c_5]
    refine V_iconst (v := -1) dX12_spell_8 (by decide) ?_
    refine V_iret dX12_spell_9 rfl (Nat.le_of_ble_eq_true rfl) (Nat.le_refl _) (Nat.le_refl _) ?_
    exact ⟨R, rfl, rfl, hL⟩
theorem l_X12_tear {v : Nat} (hm : cut ≤ 40) (hv : v ≤ cut) {w0 : zW} (hw0 : w0.length = 2) : ∀ (f i : Nat) (Rx : Nat → Int32), i + f = cut - v → (∀ j, Rx j = if j < i then R (v + j) else R j) → V tO MX12_tear (d, 0, 0) w0 (fun v' w' => v' = some (.int (nI (cut - v))) ∧ w' = [obM m0 A q n (cut - v) rows kq kn kc kr kt cu cv ck rm mo bo ki wa wr fo fd wn yw, (A 3, aI 40 (fun j => if j < cut - v then R (v + j) else R j))]) (0, 0) [obM m0 A q n cut rows kq kn kc kr kt cu cv ck rm mo bo ki wa wr fo fd wn yw, (A 3, aI 40 Rx)] 19 [some (.ref m0), some (.int (nI v)), some (.int (nI (v + i)))] [] := by
  intro f
  induction f with
  | zero =>
    intro i Rx hi hR
    have e : Rx = fun j => if j < cut - v then R (v + j) else R j := by funext j; rw [hR j, show i = cut - v by omega]
    subst e
    refine V_iload_n dX12_tear_19 rfl ?_
    refine V_aload_n dX12_tear_20 rfl ?_
    refine V_get 0 dX12_tear_21 fX12_tear_95 rfl rfl ?_
    refine V_icmp_ge_N 47 dX12_tear_24 (by decide) (by omega) (by omega) (fun c_24 => ?_) (fun c_24 => absurd c_24 (by omega))
    refine V_aload_n dX12_tear_47 rfl ?_
    refine V_dup dX12_tear_48 rfl ?_
    refine V_get 0 dX12_tear_49 fX12_tear_95 rfl rfl ?_
    refine V_iload_n dX12_tear_52 rfl ?_
    first | refine V_isub_N dX12_tear_53 (by omega) ?_ | refine V_isub dX12_tear_53 ?_
    refine V_put 0 dX12_tear_54 fX12_tear_95 ft_10_2 rfl rfl rfl (Nat.le_of_ble_eq_true rfl) ?_
    refine V_aload_n dX12_tear_57 rfl ?_
    refine V_get 0 dX12_tear_58 fX12_tear_95 rfl rfl ?_
    refine V_iret dX12_tear_61 rfl (by rw [hw0]; exact Nat.le_of_ble_eq_true rfl) (Nat.le_refl _) (Nat.le_refl _) ?_
    exact ⟨rfl, rfl⟩
  | succ f ih =>
    intro i Rx hi hR
    refine V_iload_n dX12_tear_19 rfl ?_
    refine V_aload_n dX12_tear_20 rfl ?_
    refine V_get 0 dX12_tear_21 fX12_tear_95 rfl rfl ?_
    refine V_icmp_ge_N 47 dX12_tear_24 (by decide) (by omega) (by omega) (fun c_24 => absurd c_24 (by omega)) (fun c_24 => ?_)
    refine V_aload_n dX12_tear_27 rfl ?_
    refine V_get 0 dX12_tear_28 fX12_tear_28 rfl rfl ?_
    refine V_iload_n dX12_tear_31 rfl ?_
    refine V_iload_n dX12_tear_32 rfl ?_
    first | refine V_isub_N dX12_tear_33 (by omega) ?_ | refine V_isub dX12_tear_33 ?_
    refine V_aload_n dX12_tear_34 rfl ?_
    refine V_get 0 dX12_tear_35 fX12_tear_28 rfl rfl ?_
    refine V_iload_n dX12_tear_38 rfl ?_
    refine V_iald_N 1 dX12_tear_39 rfl (by omega) (by first | decide | omega) ?_
    refine V_iast_N 1 dX12_tear_40 rfl (by omega) (by first | decide | omega) ?_
    first | refine V_iinc_N (i := 1) dX12_tear_41 rfl (by decide) rfl ?_ | refine V_iinc dX12_tear_41 rfl rfl (by decide) rfl ?_
    refine V_goto 19 dX12_tear_44 (by decide) ?_
    refine ih (i + 1) _ (by omega) (fun j => ?_)
    unfold upd
    by_cases e : j = i
    · rw [if_pos (show j = v + i - v by omega), if_pos (by omega), hR, if_neg (by omega), e]
    · rw [if_neg (show ¬ j = v + i - v by omega), hR j]
      by_cases e2 : j < i
      · rw [if_pos e2, if_pos (by omega)]
      · rw [if_neg e2, if_neg (by omega)]
theorem s_X12_tear (hd : 2 ≤ d) (hm : cut ≤ 40) {L : Nat → Nat} (hL : RwOK q cut R L) {x : Int32} : Sp tO MX12_tear (d, 0, 0) [.ref m0, .int x] [obM m0 A q n cut rows kq kn kc kr kt cu cv ck rm mo bo ki wa wr fo fd wn yw, (A 3, aI 40 R)] (fun v w' => ∃ R', v = some (.int (teV cut x)) ∧ w' = [obM m0 A q n (tnN cut x) rows kq kn kc kr kt cu cv ck rm mo bo ki wa wr fo fd wn yw, (A 3, aI 40 R')] ∧ RwOK q (tnN cut x) R' (tnL cut x L)) := by
  refine eX12_tear [some (.ref m0), some (.int x), none] rfl (Nat.le_of_ble_eq_true rfl) ?_
  unfold teV tnN tnL
  refine V_iload_n dX12_tear_0 rfl ?_
  refine V_i2l dX12_tear_1 ?_
  refine V_lconst (v := 0) dX12_tear_2 (by decide) ?_
  refine V_aload_n dX12_tear_3 rfl ?_
  refine V_get 0 dX12_tear_4 fX12_tear_95 rfl rfl ?_
  refine V_i2l dX12_tear_7 ?_
  refine V_callSpi3 [] (s_X12_isInK (d := d - 1) (by omega) (k := cut) (by rw [Int32.toInt_toInt64, nI_toInt (by omega)])) gX12_tear_X12_isIn dX12_tear_8 oX12_isIn rfl rfl (Nat.le_of_ble_eq_true rfl) (by omega) ⟨Nat.le_refl _, Nat.le_refl _⟩ ?_
  first | refine V_if_ne_B 17 dX12_tear_11 (by decide) (fun c_11 => ?_) (fun c_11 => ?_) | refine V_if_ne_N 17 dX12_tear_11 (by decide) (by omega) (fun c_11 => ?_) (fun c_11 => ?_) | refine V_if_ne 17 dX12_tear_11 (by decide) (fun c_11 => ?_) (fun c_11 => ?_)
  ·
    rw [c_11, if_pos rfl, if_pos rfl, if_pos rfl]
    obtain ⟨c, hc, rfl⟩ := isW_of c_11
    rw [toNat_nI (by omega)]
    have i1 := l_X12_tear (tO := tO) (d := d) (m0 := m0) (A := A) (q := q) (n := n) (rows := rows) (kq := kq) (kn := kn) (kc := kc) (kr := kr) (kt := kt) (cu := cu) (cv := cv) (ck := ck) (rm := rm) (mo := mo) (bo := bo) (ki := ki) (wa := wa) (wr := wr) (fo := fo) (fd := fd) (wn := wn) (yw := yw) (w0 := [obM m0 A q n cut rows kq kn kc kr kt cu cv ck rm mo bo ki wa wr fo fd wn yw, (A 3, aI 40 R)]) hm (show c ≤ cut by omega) rfl (cut - c) 0 R (by omega) (fun j => by rw [if_neg (by omega)])
    refine V_iload_n dX12_tear_17 rfl ?_
    refine V_istore_n dX12_tear_18 (by decide) rfl ?_
    refine V_post i1 ?_
    rintro _ _ ⟨rfl, rfl⟩
    refine ⟨_, rfl, rfl, fun j hj => ?_⟩
    rw [if_pos hj]
    exact hL _ (by omega)
  ·
    rw [c_11]
    refine V_bipush (v := (-2)) dX12_tear_14 (by decide) ?_
    refine V_iret dX12_tear_16 rfl (Nat.le_of_ble_eq_true rfl) (Nat.le_refl _) (Nat.le_refl _) ?_
    exact ⟨R, rfl, rfl, hL⟩
theorem l_X12_isThere2 (hd : 3 ≤ d) (h : OKq q n) {p c w : Nat} {l : Nat → Nat} (hpc : p + c ≤ n) (hw : w < q ^ n) (hl : ∀ i, i < c → Lk i = nI (l i) ∧ l i < 2 ^ 31) {w0 : zW} {Q : zPo} (next : V tO MX12_isThere (d, 0, 0) w0 Q (0, 0) [obM m0 A q n cut rows kq kn kc kr kt cu cv ck rm mo bo ki wa wr fo fd wn yw, (A 0, aZ 256 (hdF B)), (A 11, aI 5 Lk)] 64 [some (.ref m0), some (.int (nI p)), some (.int (nI c)), some (.int (nI w)), some (.int (bI (thF q n B l p w c))), none] []) : ∀ (f i : Nat), i + f = c → V tO MX12_isThere (d, 0, 0) w0 Q (0, 0) [obM m0 A q n cut rows kq kn kc kr kt cu cv ck rm mo bo ki wa wr fo fd wn yw, (A 0, aZ 256 (hdF B)), (A 11, aI 5 Lk)] 21 [some (.ref m0), some (.int (nI p)), some (.int (nI c)), some (.int (nI w)), some (.int (bI (thF q n B l p w i))), some (.int (nI i))] [] := by
  have hn := h.2.2.2.1
  have hq := h.2.1
  intro f
  induction f with
  | zero =>
    intro i hi
    have e : i = c := by omega
    subst e
    refine V_iload dX12_isThere_21 rfl ?_
    refine V_iload_n dX12_isThere_23 rfl ?_
    refine V_icmp_ge_N 64 dX12_isThere_24 (by decide) (by omega) (by omega) (fun c_24 => ?_) (fun c_24 => absurd c_24 (by omega))
    exact V_wk _ (by exact ⟨rfl, rfl, rfl, rfl, rfl, trivial, trivial⟩) next
  | succ f ih =>
    intro i hi
    have i1 := ih (i + 1) (by omega)
    rw [thF] at i1
    have hlt := wLt_lt (w := w) (i := p + i) h
    have hli := (hl i (by omega)).2
    refine V_iload dX12_isThere_21 rfl ?_
    refine V_iload_n dX12_isThere_23 rfl ?_
    refine V_icmp_ge_N 64 dX12_isThere_24 (by decide) (by omega) (by omega) (fun c_24 => absurd c_24 (by omega)) (fun c_24 => ?_)
    refine V_iload dX12_isThere_27 rfl ?_
    first | refine V_if_eq_B 64 dX12_isThere_29 (by decide) (fun c_29 => ?_) (fun c_29 => ?_) | refine V_if_eq_N 64 dX12_isThere_29 (by decide) (by omega) (fun c_29 => ?_) (fun c_29 => ?_) | refine V_if_eq 64 dX12_isThere_29 (by decide) (fun c_29 => ?_) (fun c_29 => ?_)
    ·
      have hf := thF_f c_29 (c - i)
      rw [show i + (c - i) = c by omega] at hf
      rw [hf] at next
      rw [c_29]
      exact V_wk _ (by exact ⟨rfl, rfl, rfl, rfl, rfl, trivial, trivial⟩) next
    ·
      rw [c_29, Bool.true_and] at i1
      refine V_aload_n dX12_isThere_32 rfl ?_
      refine V_iload_n dX12_isThere_33 rfl ?_
      refine V_iload_n dX12_isThere_34 rfl ?_
      refine V_iload dX12_isThere_35 rfl ?_
      first | refine V_iadd_N dX12_isThere_37 ?_ | refine V_iadd dX12_isThere_37 ?_
      refine V_callVpi2 [0] (s_X12_letterOf (d := d - 1) (by omega) h hw (by omega)) gX12_isThere_X12_letterOf dX12_isThere_38 oX12_letterOf rfl rfl rfl rfl (Nat.le_of_ble_eq_true rfl) (by omega) ⟨Nat.le_refl _, Nat.le_refl _⟩ ?_
      refine V_aload_n dX12_isThere_41 rfl ?_
      refine V_get 0 dX12_isThere_42 fX12_isThere_53 rfl rfl ?_
      refine V_iload dX12_isThere_45 rfl ?_
      refine V_iald_N 2 dX12_isThere_47 rfl (by omega) (by first | decide | omega) ?_
      refine V_to (hl i (by omega)).1 ?_
      refine V_icmp_ne_N 55 dX12_isThere_48 (by decide) (by omega) (by omega) (fun c_48 => ?_) (fun c_48 => ?_)
      ·
        rw [show (wLt q n w (p + i) == l i) = false from beq_eq_false_iff_ne.mpr c_48] at i1
        refine V_iconst (v := bI false) dX12_isThere_55 (by decide) ?_
        refine V_istore dX12_isThere_56 (by decide) rfl ?_
        first | refine V_iinc_N (i := 1) dX12_isThere_58 rfl (by decide) rfl ?_ | refine V_iinc dX12_isThere_58 rfl rfl (by decide) rfl ?_
        refine V_goto 21 dX12_isThere_61 (by decide) ?_
        exact i1
      ·
        rw [show (wLt q n w (p + i) == l i) = true from beq_iff_eq.mpr c_48] at i1
        refine V_iconst (v := bI true) dX12_isThere_51 (by decide) ?_
        refine V_goto 56 dX12_isThere_52 (by decide) ?_
        refine V_istore dX12_isThere_56 (by decide) rfl ?_
        first | refine V_iinc_N (i := 1) dX12_isThere_58 rfl (by decide) rfl ?_ | refine V_iinc dX12_isThere_58 rfl rfl (by decide) rfl ?_
        refine V_goto 21 dX12_isThere_61 (by decide) ?_
        exact i1
theorem l_X12_isThere1 (hd : 3 ≤ d) (h : OKq q n) {p c : Nat} {l : Nat → Nat} (hB : ∀ w, B w = true → w < q ^ n) (hpc : p + c ≤ n) (hl : ∀ i, i < c → Lk i = nI (l i) ∧ l i < 2 ^ 31) : ∀ (f w : Nat), w + f = q ^ n → (∀ w', w' < w → ¬ (B w' = true ∧ ∀ i, i < c → wLt q n w' (p + i) = l i)) → V tO MX12_isThere (d, 0, 0) [obM m0 A q n cut rows kq kn kc kr kt cu cv ck rm mo bo ki wa wr fo fd wn yw, (A 0, aZ 256 (hdF B)), (A 11, aI 5 Lk)] (fun v w' => v = some (.int (bI (dB (thP q n B p c l)))) ∧ w' = [obM m0 A q n cut rows kq kn kc kr kt cu cv ck rm mo bo ki wa wr fo fd wn yw, (A 0, aZ 256 (hdF B)), (A 11, aI 5 Lk)]) (0, 0) [obM m0 A q n cut rows kq kn kc kr kt cu cv ck rm mo bo ki wa wr fo fd wn yw, (A 0, aZ 256 (hdF B)), (A 11, aI 5 Lk)] 2 [some (.ref m0), some (.int (nI p)), some (.int (nI c)), some (.int (nI w)), none, none] [] := by
  have hN := h.2.2.2.2
  intro f
  induction f with
  | zero =>
    intro w hw hno
    have e : dB (thP q n B p c l) = false := dB_f.mpr (fun ⟨w', h1, h2⟩ => hno w' (by have := hB w' h1; omega) ⟨h1, h2⟩)
    rw [e]
    refine V_iload_n dX12_isThere_2 rfl ?_
    refine V_aload_n dX12_isThere_3 rfl ?_
    refine V_callVpi0 [0] (s_X12_words (d := d - 1) (by omega) h) gX12_isThere_X12_words dX12_isThere_4 oX12_words rfl rfl rfl rfl (Nat.le_of_ble_eq_true rfl) (by omega) ⟨Nat.le_refl _, Nat.le_refl _⟩ ?_
    refine V_icmp_ge_N 77 dX12_isThere_7 (by decide) (by omega) (by omega) (fun c_7 => ?_) (fun c_7 => absurd c_7 (by omega))
    refine V_iconst (v := nI 0) dX12_isThere_77 (by decide) ?_
    refine V_zret dX12_isThere_78 rfl (by first | exact Or.inl rfl | exact Or.inr rfl | exact bI_or _) (Nat.le_of_ble_eq_true rfl) (Nat.le_refl _) (Nat.le_refl _) ?_
    exact ⟨rfl, rfl⟩
  | succ f ih =>
    intro w hw hno
    have i2 : V tO MX12_isThere (d, 0, 0) [obM m0 A q n cut rows kq kn kc kr kt cu cv ck rm mo bo ki wa wr fo fd wn yw, (A 0, aZ 256 (hdF B)), (A 11, aI 5 Lk)] (fun v w' => v = some (.int (bI (dB (thP q n B p c l)))) ∧ w' = [obM m0 A q n cut rows kq kn kc kr kt cu cv ck rm mo bo ki wa wr fo fd wn yw, (A 0, aZ 256 (hdF B)), (A 11, aI 5 Lk)]) (0, 0) [obM m0 A q n cut rows kq kn kc kr kt cu cv ck rm mo bo ki wa wr fo fd wn yw, (A 0, aZ 256 (hdF B)), (A 11, aI 5 Lk)] 64 [some (.ref m0), some (.int (nI p)), some (.int (nI c)), some (.int (nI w)), some (.int (bI (thF q n B l p w c))), none] [] := by
      refine V_iload dX12_isThere_64 rfl ?_
      first | refine V_if_eq_B 71 dX12_isThere_66 (by decide) (fun c_66 => ?_) (fun c_66 => ?_) | refine V_if_eq_N 71 dX12_isThere_66 (by decide) (by omega) (fun c_66 => ?_) (fun c_66 => ?_) | refine V_if_eq 71 dX12_isThere_66 (by decide) (fun c_66 => ?_) (fun c_66 => ?_)
      ·
        refine V_iinc_N (i := 1) dX12_isThere_71 rfl (by decide) rfl (V_goto 2 dX12_isThere_74 (by decide) ?_)
        refine V_wk _ (by exact ⟨rfl, rfl, rfl, rfl, trivial, trivial, trivial⟩) (ih (w + 1) (by omega) (fun w' hw' hh => ?_))
        by_cases e : w' = w
        · subst e
          rw [thF_iff.mpr hh] at c_66
          cases c_66
        · exact hno w' (by omega) hh
      ·
        rw [show dB (thP q n B p c l) = true from dB_t.mpr ⟨w, (thF_iff.mp c_66).1, (thF_iff.mp c_66).2⟩]
        refine V_iconst (v := nI 1) dX12_isThere_69 (by decide) ?_
        refine V_zret dX12_isThere_70 rfl (by first | exact Or.inl rfl | exact Or.inr rfl | exact bI_or _) (Nat.le_of_ble_eq_true rfl) (Nat.le_refl _) (Nat.le_refl _) ?_
        exact ⟨rfl, rfl⟩
    refine V_iload_n dX12_isThere_2 rfl ?_
    refine V_aload_n dX12_isThere_3 rfl ?_
    refine V_callVpi0 [0] (s_X12_words (d := d - 1) (by omega) h) gX12_isThere_X12_words dX12_isThere_4 oX12_words rfl rfl rfl rfl (Nat.le_of_ble_eq_true rfl) (by omega) ⟨Nat.le_refl _, Nat.le_refl _⟩ ?_
    refine V_icmp_ge_N 77 dX12_isThere_7 (by decide) (by omega) (by omega) (fun c_7 => absurd c_7 (by omega)) (fun c_7 => ?_)
    refine V_aload_n dX12_isThere_10 rfl ?_
    refine V_get 0 dX12_isThere_11 fX12_isThere_18 rfl rfl ?_
    refine V_iload_n dX12_isThere_14 rfl ?_
    refine V_zald_N 1 dX12_isThere_15 rfl (by omega) (by first | decide | omega) ?_
    refine V_istore dX12_isThere_16 (by decide) rfl ?_
    refine V_iconst (v := nI 0) dX12_isThere_18 (by decide) ?_
    refine V_istore dX12_isThere_19 (by decide) rfl ?_
    exact l_X12_isThere2 hd h hpc (by omega) hl i2 c 0 (by omega)
theorem s_X12_isThere (hd : 3 ≤ d) (h : OKq q n) {p c : Nat} {l : Nat → Nat} (hB : ∀ w, B w = true → w < q ^ n) (hpc : p + c ≤ n) (hl : ∀ i, i < c → Lk i = nI (l i) ∧ l i < 2 ^ 31) : SpP tO MX12_isThere (d, 0, 0) [.ref m0, .int (nI p), .int (nI c)] [obM m0 A q n cut rows kq kn kc kr kt cu cv ck rm mo bo ki wa wr fo fd wn yw, (A 0, aZ 256 (hdF B)), (A 11, aI 5 Lk)] (some (.int (bI (dB (thP q n B p c l))))) := by
  refine eX12_isThere [some (.ref m0), some (.int (nI p)), some (.int (nI c)), none, none, none] rfl (Nat.le_of_ble_eq_true rfl) ?_
  refine V_iconst (v := nI 0) dX12_isThere_0 (by decide) ?_
  refine V_istore_n dX12_isThere_1 (by decide) rfl ?_
  exact l_X12_isThere1 hd h hB hpc hl (q ^ n) 0 (by omega) (fun w' hw' => absurd hw' (by omega))
end MDL5

