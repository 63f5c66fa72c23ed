/-! the model: rings -/
def rE (q n w : Nat) : Nat → Nat → Bool
  | 0, t => t == w
  | f + 1, t => t == w || rE q n w f (wTu q n t)
def mL (q n w : Nat) : Nat → Nat → Nat → Nat
  | 0, _, l => l
  | f + 1, t, l => if t = w then l else mL q n w f (wTu q n t) (min l t)
theorem rings_all : ∀ x ∈ okL, ∀ w, w < x.1 ^ x.2 → rE x.1 x.2 w (x.2 - 1) (wTu x.1 x.2 w) = true ∧ mL x.1 x.2 w (x.2 - 1) (wTu x.1 x.2 w) w = rLeast x.1 x.2 w := by decide +kernel
theorem kth_neg {p : Nat → Bool} {x : Int32} (hx : x.toInt < 0) : ∀ (f w c : Nat), c + f < 2 ^ 31 → kth p x f w c = -5
  | 0, _, _, _ => rfl
  | f + 1, w, c, h => by
    rw [kth, kth_neg hx f (w + 1) c (by omega), kth_neg hx f (w + 1) (c + 1) (by omega)]
    rw [if_neg (show ¬ x = nI c from fun e => by rw [e, nI_toInt (by omega)] at hx; omega)]
    split <;> rfl
section MDL3
variable {tO d m0 : Nat} {A : Nat → Nat} {q n cut rows kq kn kc kr fd wn : Nat} {kt yw : Bool} {cu cv ck rm mo bo ki wa wr fo : Int32} {B KB : Nat → Bool} {Wb R KR P KP Od Ig Pk Lt Lk Rd Nx Tp Pa Wy Sz It : Nat → Int32}
theorem s_X12_turned (hd : 3 ≤ d) (h : OKq q n) {w : Nat} (hw : w < q ^ n) : SpP tO MX12_turned (d, 0, 0) [.ref m0, .int (nI w)] [obM m0 A q n cut rows kq kn kc kr kt cu cv ck rm mo bo ki wa wr fo fd wn yw] (some (.int (nI (wTu q n w)))) := by
  refine eX12_turned [some (.ref m0), some (.int (nI w))] rfl (Nat.le_of_ble_eq_true rfl) ?_
  have hN := h.2.2.2.2
  have hn := h.2.2.1
  have hq := h.1
  have hq2 := h.2.1
  have e : q ^ n / q = q ^ (n - 1) := by
    have e1 := Nat.pow_div (x := q) (m := n) (n := 1) hn (by omega)
    rwa [Nat.pow_one] at e1
  have h2 := h.pos (n - 1)
  have h3 := h.le (k := n - 1) (by omega)
  unfold wTu
  rw [← e] at h2 h3 ⊢
  refine V_iload_n dX12_turned_0 rfl ?_
  refine V_aload_n dX12_turned_1 rfl ?_
  refine V_callVpi0 [0] (s_X12_words (d := d - 1) (by omega) h) gX12_turned_X12_words dX12_turned_2 oX12_words rfl rfl rfl rfl (Nat.le_of_ble_eq_true rfl) (by omega) ⟨Nat.le_refl _, Nat.le_refl _⟩ ?_
  refine V_aload_n dX12_turned_5 rfl ?_
  refine V_get 0 dX12_turned_6 fX12_turned_9 rfl rfl ?_
  refine V_idiv_N dX12_turned_9 (by omega) (by omega) (by omega) ?_
  refine V_irem_N dX12_turned_10 (by omega) (by omega) (by omega) ?_
  refine V_aload_n dX12_turned_11 rfl ?_
  refine V_get 0 dX12_turned_12 fX12_turned_9 rfl rfl ?_
  first | refine V_imul_N dX12_turned_15 ?_ | refine V_imul dX12_turned_15 ?_
  refine V_iload_n dX12_turned_16 rfl ?_
  refine V_aload_n dX12_turned_17 rfl ?_
  refine V_callVpi0 [0] (s_X12_words (d := d - 1) (by omega) h) gX12_turned_X12_words dX12_turned_18 oX12_words rfl rfl rfl rfl (Nat.le_of_ble_eq_true rfl) (by omega) ⟨Nat.le_refl _, Nat.le_refl _⟩ ?_
  refine V_aload_n dX12_turned_21 rfl ?_
  refine V_get 0 dX12_turned_22 fX12_turned_9 rfl rfl ?_
  refine V_idiv_N dX12_turned_25 (by omega) (by omega) (by omega) ?_
  refine V_idiv_N dX12_turned_26 (by omega) (by omega) (by omega) ?_
  first | refine V_iadd_N dX12_turned_27 ?_ | refine V_iadd dX12_turned_27 ?_
  refine V_iret dX12_turned_28 rfl (Nat.le_of_ble_eq_true rfl) (Nat.le_refl _) (Nat.le_refl _) ?_
  exact ⟨rfl, rfl⟩
theorem l_X12_ringSize (hd : 4 ≤ d) (h : OKq q n) {w : Nat} (hw : w < q ^ n) : ∀ (f t k : Nat), t < q ^ n → rE q n w f t = true → V tO MX12_ringSize (d, 0, 0) [obM m0 A q n cut rows kq kn kc kr kt cu cv ck rm mo bo ki wa wr fo fd wn yw] (fun v w' => v = some (.int (nI (rS q n w f t k))) ∧ w' = [obM m0 A q n cut rows kq kn kc kr kt cu cv ck rm mo bo ki wa wr fo fd wn yw]) (0, 0) [obM m0 A q n cut rows kq kn kc kr kt cu cv ck rm mo bo ki wa wr fo fd wn yw] 8 [some (.ref m0), some (.int (nI w)), some (.int (nI k)), some (.int (nI t))] [] := by
  have hN := h.2.2.2.2
  intro f
  induction f with
  | zero =>
    intro t k ht he
    have e : t = w := by simpa [rE] using he
    refine V_iload_n dX12_ringSize_8 rfl ?_
    refine V_iload_n dX12_ringSize_9 rfl ?_
    refine V_icmp_eq_N 25 dX12_ringSize_10 (by decide) (by omega) (by omega) (fun c_10 => ?_) (fun c_10 => absurd e c_10)
    refine V_iload_n dX12_ringSize_25 rfl ?_
    refine V_iret dX12_ringSize_26 rfl (Nat.le_of_ble_eq_true rfl) (Nat.le_refl _) (Nat.le_refl _) ?_
    exact ⟨rfl, rfl⟩
  | succ f ih =>
    intro t k ht he
    rw [rS]
    refine V_iload_n dX12_ringSize_8 rfl ?_
    refine V_iload_n dX12_ringSize_9 rfl ?_
    refine V_icmp_eq_N 25 dX12_ringSize_10 (by decide) (by omega) (by omega) (fun c_10 => ?_) (fun c_10 => ?_)
    ·
      rw [if_pos c_10]
      refine V_iload_n dX12_ringSize_25 rfl ?_
      refine V_iret dX12_ringSize_26 rfl (Nat.le_of_ble_eq_true rfl) (Nat.le_refl _) (Nat.le_refl _) ?_
      exact ⟨rfl, rfl⟩
    ·
      rw [if_neg c_10]
      have he2 : rE q n w f (wTu q n t) = true := by simpa [rE, c_10] using he
      first | refine V_iinc_N (i := 1) dX12_ringSize_13 rfl (by decide) rfl ?_ | refine V_iinc dX12_ringSize_13 rfl rfl (by decide) rfl ?_
      refine V_aload_n dX12_ringSize_16 rfl ?_
      refine V_iload_n dX12_ringSize_17 rfl ?_
      refine V_callVpi1 [0] (s_X12_turned (d := d - 1) (by omega) h ht) gX12_ringSize_X12_turned dX12_ringSize_18 oX12_turned rfl rfl rfl rfl (Nat.le_of_ble_eq_true rfl) (by omega) ⟨Nat.le_refl _, Nat.le_refl _⟩ ?_
      refine V_istore_n dX12_ringSize_21 (by decide) rfl ?_
      refine V_goto 8 dX12_ringSize_22 (by decide) ?_
      exact ih _ (k + 1) (wTu_lt h ht) he2
theorem s_X12_ringSize (hd : 4 ≤ d) (h : OKq q n) {w : Nat} (hw : w < q ^ n) : SpP tO MX12_ringSize (d, 0, 0) [.ref m0, .int (nI w)] [obM m0 A q n cut rows kq kn kc kr kt cu cv ck rm mo bo ki wa wr fo fd wn yw] (some (.int (nI (rSize q n w)))) := by
  refine eX12_ringSize [some (.ref m0), some (.int (nI w)), none, none] rfl (Nat.le_of_ble_eq_true rfl) ?_
  refine V_iconst (v := nI 1) dX12_ringSize_0 (by decide) ?_
  refine V_istore_n dX12_ringSize_1 (by decide) rfl ?_
  refine V_aload_n dX12_ringSize_2 rfl ?_
  refine V_iload_n dX12_ringSize_3 rfl ?_
  refine V_callVpi1 [0] (s_X12_turned (d := d - 1) (by omega) h hw) gX12_ringSize_X12_turned dX12_ringSize_4 oX12_turned rfl rfl rfl rfl (Nat.le_of_ble_eq_true rfl) (by omega) ⟨Nat.le_refl _, Nat.le_refl _⟩ ?_
  refine V_istore_n dX12_ringSize_7 (by decide) rfl ?_
  exact l_X12_ringSize hd h hw (n - 1) _ 1 (wTu_lt h hw) (rings_all (q, n) h.mem w hw).1
theorem l_X12_leastOf (hd : 4 ≤ d) (h : OKq q n) {w : Nat} (hw : w < q ^ n) : ∀ (f t l : Nat), t < q ^ n → l < q ^ n → rE q n w f t = true → V tO MX12_leastOf (d, 0, 0) [obM m0 A q n cut rows kq kn kc kr kt cu cv ck rm mo bo ki wa wr fo fd wn yw] (fun v w' => v = some (.int (nI (mL q n w f t l))) ∧ w' = [obM m0 A q n cut rows kq kn kc kr kt cu cv ck rm mo bo ki wa wr fo fd wn yw]) (0, 0) [obM m0 A q n cut rows kq kn kc kr kt cu cv ck rm mo bo ki wa wr fo fd wn yw] 8 [some (.ref m0), some (.int (nI w)), some (.int (nI l)), some (.int (nI t))] [] := by
  have hN := h.2.2.2.2
  intro f
  induction f with
  | zero =>
    intro t l ht hl he
    have e : t = w := by simpa [rE] using he
    refine V_iload_n dX12_leastOf_8 rfl ?_
    refine V_iload_n dX12_leastOf_9 rfl ?_
    refine V_icmp_eq_N 28 dX12_leastOf_10 (by decide) (by omega) (by omega) (fun c_10 => ?_) (fun c_10 => absurd e c_10)
    refine V_iload_n dX12_leastOf_28 rfl ?_
    refine V_iret dX12_leastOf_29 rfl (Nat.le_of_ble_eq_true rfl) (Nat.le_refl _) (Nat.le_refl _) ?_
    exact ⟨rfl, rfl⟩
  | succ f ih =>
    intro t l ht hl he
    rw [mL]
    refine V_iload_n dX12_leastOf_8 rfl ?_
    refine V_iload_n dX12_leastOf_9 rfl ?_
    refine V_icmp_eq_N 28 dX12_leastOf_10 (by decide) (by omega) (by omega) (fun c_10 => ?_) (fun c_10 => ?_)
    ·
      rw [if_pos c_10]
      refine V_iload_n dX12_leastOf_28 rfl ?_
      refine V_iret dX12_leastOf_29 rfl (Nat.le_of_ble_eq_true rfl) (Nat.le_refl _) (Nat.le_refl _) ?_
      exact ⟨rfl, rfl⟩
    ·
      rw [if_neg c_10]
      have he2 : rE q n w f (wTu q n t) = true := by simpa [rE, c_10] using he
      refine V_iload_n dX12_leastOf_13 rfl ?_
      refine V_iload_n dX12_leastOf_14 rfl ?_
      first | refine V_mmin_N dX12_leastOf_15 mmX12_leastOf_140 (by omega) (Nat.le_of_ble_eq_true rfl) (Nat.le_refl _) (Nat.le_refl _) (by omega) (by omega) ?_ | refine V_mmin dX12_leastOf_15 mmX12_leastOf_140 (by omega) (Nat.le_of_ble_eq_true rfl) (Nat.le_refl _) (Nat.le_refl _) ?_
      refine V_istore_n dX12_leastOf_18 (by decide) rfl ?_
      refine V_aload_n dX12_leastOf_19 rfl ?_
      refine V_iload_n dX12_leastOf_20 rfl ?_
      refine V_callVpi1 [0] (s_X12_turned (d := d - 1) (by omega) h ht) gX12_leastOf_X12_turned dX12_leastOf_21 oX12_turned rfl rfl rfl rfl (Nat.le_of_ble_eq_true rfl) (by omega) ⟨Nat.le_refl _, Nat.le_refl _⟩ ?_
      refine V_istore_n dX12_leastOf_24 (by decide) rfl ?_
      refine V_goto 8 dX12_leastOf_25 (by decide) ?_
      exact ih _ (min l t) (wTu_lt h ht) (by omega) he2
theorem s_X12_leastOf (hd : 4 ≤ d) (h : OKq q n) {w : Nat} (hw : w < q ^ n) : SpP tO MX12_leastOf (d, 0, 0) [.ref m0, .int (nI w)] [obM m0 A q n cut rows kq kn kc kr kt cu cv ck rm mo bo ki wa wr fo fd wn yw] (some (.int (nI (rLeast q n w)))) := by
  refine eX12_leastOf [some (.ref m0), some (.int (nI w)), none, none] rfl (Nat.le_of_ble_eq_true rfl) ?_
  have e := rings_all (q, n) h.mem w hw
  refine V_iload_n dX12_leastOf_0 rfl ?_
  refine V_istore_n dX12_leastOf_1 (by decide) rfl ?_
  refine V_aload_n dX12_leastOf_2 rfl ?_
  refine V_iload_n dX12_leastOf_3 rfl ?_
  refine V_callVpi1 [0] (s_X12_turned (d := d - 1) (by omega) h hw) gX12_leastOf_X12_turned dX12_leastOf_4 oX12_turned rfl rfl rfl rfl (Nat.le_of_ble_eq_true rfl) (by omega) ⟨Nat.le_refl _, Nat.le_refl _⟩ ?_
  refine V_istore_n dX12_leastOf_7 (by decide) rfl ?_
  rw [← e.2]
  exact l_X12_leastOf hd h hw (n - 1) _ w (wTu_lt h hw) hw e.1
theorem s_X12_isRing (hd : 5 ≤ d) (h : OKq q n) {w : Nat} (hw : w < q ^ n) : SpP tO MX12_isRing (d, 0, 0) [.ref m0, .int (nI w)] [obM m0 A q n cut rows kq kn kc kr kt cu cv ck rm mo bo ki wa wr fo fd wn yw] (some (.int (bI (rRi q n w)))) := by
  refine eX12_isRing [some (.ref m0), some (.int (nI w))] rfl (Nat.le_of_ble_eq_true rfl) ?_
  have hN := h.2.2.2.2
  have hn := h.2.2.2.1
  have h1 := rLeast_le q n w
  have h2 := (rS_le q n w (n - 1) (wTu q n w) 1).2
  have h3 : rSize q n w < 2 ^ 31 := by unfold rSize; omega
  unfold rRi rWh
  refine V_aload_n dX12_isRing_0 rfl ?_
  refine V_iload_n dX12_isRing_1 rfl ?_
  refine V_callVpi1 [0] (s_X12_leastOf (d := d - 1) (by omega) h hw) gX12_isRing_X12_leastOf dX12_isRing_2 oX12_leastOf rfl rfl rfl rfl (Nat.le_of_ble_eq_true rfl) (by omega) ⟨Nat.le_refl _, Nat.le_refl _⟩ ?_
  refine V_iload_n dX12_isRing_5 rfl ?_
  first | refine V_icmp_ne_N 25 dX12_isRing_6 (by decide) (by omega) (by omega) (fun c_6 => ?_) (fun c_6 => ?_) | refine V_icmp_ne 25 dX12_isRing_6 (by decide) (fun c_6 => ?_) (fun c_6 => ?_)
  ·
    rw [show (rLeast q n w == w) = false from beq_eq_false_iff_ne.mpr c_6, Bool.false_and]
    refine V_iconst (v := nI 0) dX12_isRing_25 (by decide) ?_
    refine V_zret dX12_isRing_26 rfl (by first | exact Or.inl rfl | exact Or.inr rfl | exact bI_or _) (Nat.le_of_ble_eq_true rfl) (Nat.le_refl _) (Nat.le_refl _) ?_
    exact ⟨rfl, rfl⟩
  ·
    rw [show (rLeast q n w == w) = true from beq_iff_eq.mpr c_6, Bool.true_and]
    refine V_aload_n dX12_isRing_9 rfl ?_
    refine V_iload_n dX12_isRing_10 rfl ?_
    refine V_callVpi1 [0] (s_X12_ringSize (d := d - 1) (by omega) h hw) gX12_isRing_X12_ringSize dX12_isRing_11 oX12_ringSize rfl rfl rfl rfl (Nat.le_of_ble_eq_true rfl) (by omega) ⟨Nat.le_refl _, Nat.le_refl _⟩ ?_
    refine V_aload_n dX12_isRing_14 rfl ?_
    refine V_get 0 dX12_isRing_15 fX12_isRing_15 rfl rfl ?_
    first | refine V_icmp_ne_N 25 dX12_isRing_18 (by decide) (by omega) (by omega) (fun c_18 => ?_) (fun c_18 => ?_) | refine V_icmp_ne 25 dX12_isRing_18 (by decide) (fun c_18 => ?_) (fun c_18 => ?_)
    ·
      rw [show (rSize q n w == n) = false from beq_eq_false_iff_ne.mpr c_18]
      refine V_iconst (v := nI 0) dX12_isRing_25 (by decide) ?_
      refine V_zret dX12_isRing_26 rfl (by first | exact Or.inl rfl | exact Or.inr rfl | exact bI_or _) (Nat.le_of_ble_eq_true rfl) (Nat.le_refl _) (Nat.le_refl _) ?_
      exact ⟨rfl, rfl⟩
    ·
      rw [show (rSize q n w == n) = true from beq_iff_eq.mpr c_18]
      refine V_iconst (v := nI 1) dX12_isRing_21 (by decide) ?_
      refine V_goto 26 dX12_isRing_22 (by decide) ?_
      refine V_zret dX12_isRing_26 rfl (by first | exact Or.inl rfl | exact Or.inr rfl | exact bI_or _) (Nat.le_of_ble_eq_true rfl) (Nat.le_refl _) (Nat.le_refl _) ?_
      exact ⟨rfl, rfl⟩
theorem l_X12_ringAt (hd : 6 ≤ d) (h : OKq q n) {i : Nat} (hi : i < 2 ^ 31) : ∀ (f w c : Nat), w + f = q ^ n → c ≤ i → c ≤ w → V tO MX12_ringAt (d, 0, 0) [obM m0 A q n cut rows kq kn kc kr kt cu cv ck rm mo bo ki wa wr fo fd wn yw] (fun v w' => v = some (.int (kth (rRi q n) (nI i) f w c)) ∧ w' = [obM m0 A q n cut rows kq kn kc kr kt cu cv ck rm mo bo ki wa wr fo fd wn yw]) (0, 0) [obM m0 A q n cut rows kq kn kc kr kt cu cv ck rm mo bo ki wa wr fo fd wn yw] 4 [some (.ref m0), some (.int (nI i)), some (.int (nI (i - c))), some (.int (nI w))] [] := by
  have hN := h.2.2.2.2
  intro f
  induction f with
  | zero =>
    intro w c hw hc hcw
    rw [kth]
    refine V_iload_n dX12_ringAt_4 rfl ?_
    refine V_aload_n dX12_ringAt_5 rfl ?_
    refine V_callVpi0 [0] (s_X12_words (d := d - 1) (by omega) h) gX12_ringAt_X12_words dX12_ringAt_6 oX12_words rfl rfl rfl rfl (Nat.le_of_ble_eq_true rfl) (by omega) ⟨Nat.le_refl _, Nat.le_refl _⟩ ?_
    refine V_icmp_ge_N 39 dX12_ringAt_9 (by decide) (by omega) (by omega) (fun c_9 => ?_) (fun c_9 => absurd c_9 (by omega))
    refine V_bipush (v := (-5)) dX12_ringAt_39 (by decide) ?_
    refine V_iret dX12_ringAt_41 rfl (Nat.le_of_ble_eq_true rfl) (Nat.le_refl _) (Nat.le_refl _) ?_
    exact ⟨rfl, rfl⟩
  | succ f ih =>
    intro w c hw hc hcw
    rw [kth]
    refine V_iload_n dX12_ringAt_4 rfl ?_
    refine V_aload_n dX12_ringAt_5 rfl ?_
    refine V_callVpi0 [0] (s_X12_words (d := d - 1) (by omega) h) gX12_ringAt_X12_words dX12_ringAt_6 oX12_words rfl rfl rfl rfl (Nat.le_of_ble_eq_true rfl) (by omega) ⟨Nat.le_refl _, Nat.le_refl _⟩ ?_
    refine V_icmp_ge_N 39 dX12_ringAt_9 (by decide) (by omega) (by omega) (fun c_9 => absurd c_9 (by omega)) (fun c_9 => ?_)
    refine V_iload_n dX12_ringAt_12 rfl ?_
    refine V_if_lt_N 39 dX12_ringAt_13 (by decide) hi ?_
    refine V_aload_n dX12_ringAt_16 rfl ?_
    refine V_iload_n dX12_ringAt_17 rfl ?_
    refine V_callVpi1 [0] (s_X12_isRing (d := d - 1) (by omega) h (by omega)) gX12_ringAt_X12_isRing dX12_ringAt_18 oX12_isRing rfl rfl rfl rfl (Nat.le_of_ble_eq_true rfl) (by omega) ⟨Nat.le_refl _, Nat.le_refl _⟩ ?_
    first | refine V_if_eq_B 33 dX12_ringAt_21 (by decide) (fun c_21 => ?_) (fun c_21 => ?_) | refine V_if_eq_N 33 dX12_ringAt_21 (by decide) (by omega) (fun c_21 => ?_) (fun c_21 => ?_) | refine V_if_eq 33 dX12_ringAt_21 (by decide) (fun c_21 => ?_) (fun c_21 => ?_)
    ·
      rw [if_neg (show ¬ rRi q n w = true by rw [c_21]; exact Bool.false_ne_true)]
      first | refine V_iinc_N (i := 1) dX12_ringAt_33 rfl (by decide) rfl ?_ | refine V_iinc dX12_ringAt_33 rfl rfl (by decide) rfl ?_
      refine V_goto 4 dX12_ringAt_36 (by decide) ?_
      first
      | exact ih (w + 1) c (by omega) (by omega) (by omega)
      | exact ih (w + 1) (c + 1) (by omega) (by omega) (by omega)
    ·
      rw [if_pos c_21]
      refine V_iload_n dX12_ringAt_24 rfl ?_
      refine V_if_ne_N 30 dX12_ringAt_25 (by decide) (by omega) (fun c_25 => ?_) (fun c_25 => ?_)
      ·
        rw [if_neg (show ¬ nI i = nI c from fun e => by rw [nI_eq (by omega) (by omega)] at e; omega)]
        refine V_iinc (v := nI (i - (c + 1))) dX12_ringAt_30 rfl (by rw [show Int32.ofInt (-1) = -1 from by decide, show i - c = (i - (c + 1)) + 1 by omega]; exact pk_m1 _) (by decide) rfl ?_
        first | refine V_iinc_N (i := 1) dX12_ringAt_33 rfl (by decide) rfl ?_ | refine V_iinc dX12_ringAt_33 rfl rfl (by decide) rfl ?_
        refine V_goto 4 dX12_ringAt_36 (by decide) ?_
        first
        | exact ih (w + 1) c (by omega) (by omega) (by omega)
        | exact ih (w + 1) (c + 1) (by omega) (by omega) (by omega)
      ·
        rw [if_pos (show nI i = nI c by rw [show i = c by omega])]
        refine V_iload_n dX12_ringAt_28 rfl ?_
        refine V_iret dX12_ringAt_29 rfl (Nat.le_of_ble_eq_true rfl) (Nat.le_refl _) (Nat.le_refl _) ?_
        exact ⟨rfl, rfl⟩
theorem s_X12_ringAt (hd : 6 ≤ d) (h : OKq q n) {x : Int32} : SpP tO MX12_ringAt (d, 0, 0) [.ref m0, .int x] [obM m0 A q n cut rows kq kn kc kr kt cu cv ck rm mo bo ki wa wr fo fd wn yw] (some (.int (kth (rRi q n) x (q ^ n) 0 0))) := by
  refine eX12_ringAt [some (.ref m0), some (.int x), none, none] rfl (Nat.le_of_ble_eq_true rfl) ?_
  have hN := h.2.2.2.2
  have h0 := h.pos n
  by_cases hx : x.toInt < 0
  · rw [kth_neg hx _ _ _ (by omega)]
    refine V_iload_n dX12_ringAt_0 rfl ?_
    refine V_istore_n dX12_ringAt_1 (by decide) rfl ?_
    refine V_iconst (v := nI 0) dX12_ringAt_2 (by decide) ?_
    refine V_istore_n dX12_ringAt_3 (by decide) rfl ?_
    refine V_iload_n dX12_ringAt_4 rfl ?_
    refine V_aload_n dX12_ringAt_5 rfl ?_
    refine V_callVpi0 [0] (s_X12_words (d := d - 1) (by omega) h) gX12_ringAt_X12_words dX12_ringAt_6 oX12_words rfl rfl rfl rfl (Nat.le_of_ble_eq_true rfl) (by omega) ⟨Nat.le_refl _, Nat.le_refl _⟩ ?_
    refine V_icmp_ge_N 39 dX12_ringAt_9 (by decide) (by omega) (by omega) (fun c_9 => absurd c_9 (by omega)) (fun c_9 => ?_)
    refine V_iload_n dX12_ringAt_12 rfl ?_
    refine V_if_lt 39 dX12_ringAt_13 (by decide) (fun c_13 => ?_) (fun c_13 => absurd (z_lt0.mpr hx) c_13)
    refine V_bipush (v := (-5)) dX12_ringAt_39 (by decide) ?_
    refine V_iret dX12_ringAt_41 rfl (Nat.le_of_ble_eq_true rfl) (Nat.le_refl _) (Nat.le_refl _) ?_
    exact ⟨rfl, rfl⟩
  · obtain ⟨i, hi, rfl⟩ : ∃ i, i < 2 ^ 31 ∧ x = nI i := ⟨x.toInt.toNat, by have := (fb_rng' x).2; omega, toInt_nI (by omega)⟩
    refine V_iload_n dX12_ringAt_0 rfl ?_
    refine V_istore_n dX12_ringAt_1 (by decide) rfl ?_
    refine V_iconst (v := nI 0) dX12_ringAt_2 (by decide) ?_
    refine V_istore_n dX12_ringAt_3 (by decide) rfl ?_
    exact l_X12_ringAt hd h hi (q ^ n) 0 0 (by omega) (Nat.zero_le _) (Nat.le_refl _)
theorem l_X12_rings (hd : 6 ≤ d) (h : OKq q n) : ∀ (f w : Nat), w + f = q ^ n → V tO MX12_rings (d, 0, 0) [obM m0 A q n cut rows kq kn kc kr kt cu cv ck rm mo bo ki wa wr fo fd wn yw] (fun v w' => v = some (.int (nI (ct (rRi q n) (q ^ n)))) ∧ w' = [obM m0 A q n cut rows kq kn kc kr kt cu cv ck rm mo bo ki wa wr fo fd wn yw]) (0, 0) [obM m0 A q n cut rows kq kn kc kr kt cu cv ck rm mo bo ki wa wr fo fd wn yw] 4 [some (.ref m0), some (.int (nI (ct (rRi q n) w))), some (.int (nI w))] [] := by
  have hN := h.2.2.2.2
  intro f
  induction f with
  | zero =>
    intro w hw
    have e : w = q ^ n := by omega
    rw [e]
    refine V_iload_n dX12_rings_4 rfl ?_
    refine V_aload_n dX12_rings_5 rfl ?_
    refine V_callVpi0 [0] (s_X12_words (d := d - 1) (by omega) h) gX12_rings_X12_words dX12_rings_6 oX12_words rfl rfl rfl rfl (Nat.le_of_ble_eq_true rfl) (by omega) ⟨Nat.le_refl _, Nat.le_refl _⟩ ?_
    refine V_icmp_ge_N 34 dX12_rings_9 (by decide) (by omega) (by omega) (fun c_9 => ?_) (fun c_9 => absurd c_9 (by omega))
    refine V_iload_n dX12_rings_34 rfl ?_
    refine V_iret dX12_rings_35 rfl (Nat.le_of_ble_eq_true rfl) (Nat.le_refl _) (Nat.le_refl _) ?_
    exact ⟨rfl, rfl⟩
  | succ f ih =>
    intro w hw
    have i1 := ih (w + 1) (by omega)
    rw [ct_succ _ w] at i1
    refine V_iload_n dX12_rings_4 rfl ?_
    refine V_aload_n dX12_rings_5 rfl ?_
    refine V_callVpi0 [0] (s_X12_words (d := d - 1) (by omega) h) gX12_rings_X12_words dX12_rings_6 oX12_words rfl rfl rfl rfl (Nat.le_of_ble_eq_true rfl) (by omega) ⟨Nat.le_refl _, Nat.le_refl _⟩ ?_
    refine V_icmp_ge_N 34 dX12_rings_9 (by decide) (by omega) (by omega) (fun c_9 => absurd c_9 (by omega)) (fun c_9 => ?_)
    refine V_iload_n dX12_rings_12 rfl ?_
    refine V_aload_n dX12_rings_13 rfl ?_
    refine V_iload_n dX12_rings_14 rfl ?_
    refine V_callVpi1 [0] (s_X12_isRing (d := d - 1) (by omega) h (by omega)) gX12_rings_X12_isRing dX12_rings_15 oX12_isRing rfl rfl rfl rfl (Nat.le_of_ble_eq_true rfl) (by omega) ⟨Nat.le_refl _, Nat.le_refl _⟩ ?_
    first | refine V_if_eq_B 25 dX12_rings_18 (by decide) (fun c_18 => ?_) (fun c_18 => ?_) | refine V_if_eq_N 25 dX12_rings_18 (by decide) (by omega) (fun c_18 => ?_) (fun c_18 => ?_) | refine V_if_eq 25 dX12_rings_18 (by decide) (fun c_18 => ?_) (fun c_18 => ?_)
    ·
      rw [c_18, if_neg Bool.false_ne_true] at i1
      refine V_iconst (v := nI 0) dX12_rings_25 (by decide) ?_
      first | refine V_iadd_N dX12_rings_26 ?_ | refine V_iadd dX12_rings_26 ?_
      refine V_istore_n dX12_rings_27 (by decide) rfl ?_
      first | refine V_iinc_N (i := 1) dX12_rings_28 rfl (by decide) rfl ?_ | refine V_iinc dX12_rings_28 rfl rfl (by decide) rfl ?_
      refine V_goto 4 dX12_rings_31 (by decide) ?_
      exact i1
    ·
      rw [c_18, if_pos rfl] at i1
      refine V_iconst (v := nI 1) dX12_rings_21 (by decide) ?_
      refine V_goto 26 dX12_rings_22 (by decide) ?_
      first | refine V_iadd_N dX12_rings_26 ?_ | refine V_iadd dX12_rings_26 ?_
      refine V_istore_n dX12_rings_27 (by decide) rfl ?_
      first | refine V_iinc_N (i := 1) dX12_rings_28 rfl (by decide) rfl ?_ | refine V_iinc dX12_rings_28 rfl rfl (by decide) rfl ?_
      refine V_goto 4 dX12_rings_31 (by decide) ?_
      exact i1
theorem s_X12_rings (hd : 6 ≤ d) (h : OKq q n) : SpP tO MX12_rings (d, 0, 0) [.ref m0] [obM m0 A q n cut rows kq kn kc kr kt cu cv ck rm mo bo ki wa wr fo fd wn yw] (some (.int (nI (ct (rRi q n) (q ^ n))))) := by
  refine eX12_rings [some (.ref m0), none, none] rfl (Nat.le_of_ble_eq_true rfl) ?_
  refine V_iconst (v := nI 0) dX12_rings_0 (by decide) ?_
  refine V_istore_n dX12_rings_1 (by decide) rfl ?_
  refine V_iconst (v := nI 0) dX12_rings_2 (by decide) ?_
  refine V_istore_n dX12_rings_3 (by decide) rfl ?_
  exact l_X12_rings hd h (q ^ n) 0 (by omega)
theorem l_X12_ring (hd : 6 ≤ d) (h : OKq q n) {w : Nat} (hw : w < q ^ n) {y : Int32} : ∀ (f v : Nat), v + f = rLeast q n w → V tO MX12_ring (d, 0, 0) [obM m0 A q n cut rows kq kn kc kr kt cu cv ck rm mo bo ki wa wr fo fd wn yw] (fun v' w' => v' = some (.int (nI (ct (rRi q n) (rLeast q n w)))) ∧ w' = [obM m0 A q n cut rows kq kn kc kr kt cu cv ck rm mo bo ki wa wr fo fd wn yw]) (0, 0) [obM m0 A q n cut rows kq kn kc kr kt cu cv ck rm mo bo ki wa wr fo fd wn yw] 78 [some (.ref m0), some (.int (nI w)), some (.int y), some (.int (nI (ct (rRi q n) v))), some (.int (nI v))] [] := by
  have hN := h.2.2.2.2
  have h1 := rLeast_le q n w
  intro f
  induction f with
  | zero =>
    intro v hv
    have e : v = rLeast q n w := by omega
    rw [e]
    refine V_iload dX12_ring_78 rfl ?_
    refine V_aload_n dX12_ring_80 rfl ?_
    refine V_iload_n dX12_ring_81 rfl ?_
    refine V_callVpi1 [0] (s_X12_leastOf (d := d - 1) (by omega) h hw) gX12_ring_X12_leastOf dX12_ring_82 oX12_leastOf rfl rfl rfl rfl (Nat.le_of_ble_eq_true rfl) (by omega) ⟨Nat.le_refl _, Nat.le_refl _⟩ ?_
    refine V_icmp_ge_N 111 dX12_ring_85 (by decide) (by omega) (by omega) (fun c_85 => ?_) (fun c_85 => absurd c_85 (by omega))
    refine V_iload_n dX12_ring_111 rfl ?_
    refine V_iret dX12_ring_112 rfl (Nat.le_of_ble_eq_true rfl) (Nat.le_refl _) (Nat.le_refl _) ?_
    exact ⟨rfl, rfl⟩
  | succ f ih =>
    intro v hv
    have i1 := ih (v + 1) (by omega)
    rw [ct_succ _ v] at i1
    refine V_iload dX12_ring_78 rfl ?_
    refine V_aload_n dX12_ring_80 rfl ?_
    refine V_iload_n dX12_ring_81 rfl ?_
    refine V_callVpi1 [0] (s_X12_leastOf (d := d - 1) (by omega) h hw) gX12_ring_X12_leastOf dX12_ring_82 oX12_leastOf rfl rfl rfl rfl (Nat.le_of_ble_eq_true rfl) (by omega) ⟨Nat.le_refl _, Nat.le_refl _⟩ ?_
    refine V_icmp_ge_N 111 dX12_ring_85 (by decide) (by omega) (by omega) (fun c_85 => absurd c_85 (by omega)) (fun c_85 => ?_)
    refine V_iload_n dX12_ring_88 rfl ?_
    refine V_aload_n dX12_ring_89 rfl ?_
    refine V_iload dX12_ring_90 rfl ?_
    refine V_callVpi1 [0] (s_X12_isRing (d := d - 1) (by omega) h (by omega)) gX12_ring_X12_isRing dX12_ring_92 oX12_isRing rfl rfl rfl rfl (Nat.le_of_ble_eq_true rfl) (by omega) ⟨Nat.le_refl _, Nat.le_refl _⟩ ?_
    first | refine V_if_eq_B 102 dX12_ring_95 (by decide) (fun c_95 => ?_) (fun c_95 => ?_) | refine V_if_eq_N 102 dX12_ring_95 (by decide) (by omega) (fun c_95 => ?_) (fun c_95 => ?_) | refine V_if_eq 102 dX12_ring_95 (by decide) (fun c_95 => ?_) (fun c_95 => ?_)
    ·
      rw [c_95, if_neg Bool.false_ne_true] at i1
      refine V_iconst (v := nI 0) dX12_ring_102 (by decide) ?_
      first | refine V_iadd_N dX12_ring_103 ?_ | refine V_iadd dX12_ring_103 ?_
      refine V_istore_n dX12_ring_104 (by decide) rfl ?_
      first | refine V_iinc_N (i := 1) dX12_ring_105 rfl (by decide) rfl ?_ | refine V_iinc dX12_ring_105 rfl rfl (by decide) rfl ?_
      refine V_goto 78 dX12_ring_108 (by decide) ?_
      exact i1
    ·
      rw [c_95, if_pos rfl] at i1
      refine V_iconst (v := nI 1) dX12_ring_98 (by decide) ?_
      refine V_goto 103 dX12_ring_99 (by decide) ?_
      first | refine V_iadd_N dX12_ring_103 ?_ | refine V_iadd dX12_ring_103 ?_
      refine V_istore_n dX12_ring_104 (by decide) rfl ?_
      first | refine V_iinc_N (i := 1) dX12_ring_105 rfl (by decide) rfl ?_ | refine V_iinc dX12_ring_105 rfl rfl (by decide) rfl ?_
      refine V_goto 78 dX12_ring_108 (by decide) ?_
      exact i1
theorem s_X12_ring (hd : 6 ≤ d) (h : OKq q n) {x y : Int32} : SpP tO MX12_ring (d, 0, 0) [.ref m0, .int x, .int y] [obM m0 A q n cut rows kq kn kc kr kt cu cv ck rm mo bo ki wa wr fo fd wn yw] (some (.int (riV q n x y))) := by
  refine eX12_ring [some (.ref m0), some (.int x), some (.int y), none, none] rfl (Nat.le_of_ble_eq_true rfl) ?_
  have hN := h.2.2.2.2
  have hn := h.2.2.2.1
  unfold riV
  refine V_aload_n dX12_ring_0 rfl ?_
  refine V_iload_n dX12_ring_1 rfl ?_
  refine V_callVpi1 [0] (s_X12_isWord (d := d - 1) (by omega) h) gX12_ring_X12_isWord dX12_ring_2 oX12_isWord rfl rfl rfl rfl (Nat.le_of_ble_eq_true rfl) (by omega) ⟨Nat.le_refl _, Nat.le_refl _⟩ ?_
  first | refine V_if_eq_B 20 dX12_ring_5 (by decide) (fun c_5 => ?_) (fun c_5 => ?_) | refine V_if_eq_N 20 dX12_ring_5 (by decide) (by omega) (fun c_5 => ?_) (fun c_5 => ?_) | refine V_if_eq 20 dX12_ring_5 (by decide) (fun c_5 => ?_) (fun c_5 => ?_)
  ·
    rw [c_5]
    refine V_iconst (v := -1) dX12_ring_20 (by decide) ?_
    refine V_iret dX12_ring_21 rfl (Nat.le_of_ble_eq_true rfl) (Nat.le_refl _) (Nat.le_refl _) ?_
    exact ⟨rfl, rfl⟩
  ·
    rw [c_5, if_pos rfl]
    obtain ⟨w, hw, rfl⟩ := isW_of c_5
    rw [toNat_nI (by omega)]
    refine V_iload_n dX12_ring_8 rfl ?_
    refine V_i2l dX12_ring_9 ?_
    refine V_lconst (v := 0) dX12_ring_10 (by decide) ?_
    refine V_ldc2 (v := 3) dX12_ring_11 (by decide +kernel) ?_
    refine V_callSpi3 [] (s_X12_isInK (d := d - 1) (by omega) (k := 3) (by decide)) gX12_ring_X12_isIn dX12_ring_14 oX12_isIn rfl rfl (Nat.le_of_ble_eq_true rfl) (by omega) ⟨Nat.le_refl _, Nat.le_refl _⟩ ?_
    first | refine V_if_ne_B 22 dX12_ring_17 (by decide) (fun c_17 => ?_) (fun c_17 => ?_) | refine V_if_ne_N 22 dX12_ring_17 (by decide) (by omega) (fun c_17 => ?_) (fun c_17 => ?_) | refine V_if_ne 22 dX12_ring_17 (by decide) (fun c_17 => ?_) (fun c_17 => ?_)
    ·
      obtain ⟨c, hc, rfl⟩ := isW_of c_17
      rw [nI_toInt (by omega)]
      have h2 := (rS_le q n w (n - 1) (wTu q n w) 1).2
      have h3 : rSize q n w ≤ n := by unfold rSize; have := h.2.2.1; omega
      refine V_iload_n dX12_ring_22 rfl ?_
      refine V_iconst (v := nI 2) dX12_ring_23 (by decide) ?_
      refine V_icmp_eq_N 58 dX12_ring_24 (by decide) (by omega) (by decide) (fun c_24 => ?_) (fun c_24 => ?_)
      ·
        rw [if_neg (show ¬ (c : Int) = 0 by omega), if_neg (show ¬ (c : Int) = 1 by omega), if_pos (show (c : Int) = 2 by omega)]
        refine V_aload_n dX12_ring_58 rfl ?_
        refine V_iload_n dX12_ring_59 rfl ?_
        refine V_callVpi1 [0] (s_X12_ringSize (d := d - 1) (by omega) h hw) gX12_ring_X12_ringSize dX12_ring_60 oX12_ringSize rfl rfl rfl rfl (Nat.le_of_ble_eq_true rfl) (by omega) ⟨Nat.le_refl _, Nat.le_refl _⟩ ?_
        refine V_aload_n dX12_ring_63 rfl ?_
        refine V_get 0 dX12_ring_64 fX12_ring_15 rfl rfl ?_
        refine V_icmp_ge_N 73 dX12_ring_67 (by decide) (by omega) (by omega) (fun c_67 => ?_) (fun c_67 => ?_)
        ·
          rw [if_pos (show rWh q n w = true by unfold rWh; rw [beq_iff_eq]; omega)]
          refine V_iconst (v := nI 0) dX12_ring_73 (by decide) ?_
          refine V_istore_n dX12_ring_74 (by decide) rfl ?_
          refine V_iconst (v := nI 0) dX12_ring_75 (by decide) ?_
          refine V_istore dX12_ring_76 (by decide) rfl ?_
          exact l_X12_ring hd h hw (rLeast q n w) 0 (by omega)
        ·
          rw [if_neg (show ¬ rWh q n w = true by unfold rWh; rw [beq_iff_eq]; omega)]
          refine V_bipush (v := (-5)) dX12_ring_70 (by decide) ?_
          refine V_iret dX12_ring_72 rfl (Nat.le_of_ble_eq_true rfl) (Nat.le_refl _) (Nat.le_refl _) ?_
          exact ⟨rfl, rfl⟩
      ·
        rw [if_neg (show ¬ (c : Int) = 2 by omega)]
        refine V_iload_n dX12_ring_27 rfl ?_
        refine V_if_ne_N 39 dX12_ring_28 (by decide) (by omega) (fun c_28 => ?_) (fun c_28 => ?_)
        ·
          rw [if_neg (show ¬ (c : Int) = 0 by omega)]
          refine V_iload_n dX12_ring_39 rfl ?_
          refine V_iconst (v := nI 1) dX12_ring_40 (by decide) ?_
          refine V_icmp_ne_N 52 dX12_ring_41 (by decide) (by omega) (by decide) (fun c_41 => ?_) (fun c_41 => ?_)
          ·
            rw [if_neg (show ¬ (c : Int) = 1 by omega), if_pos (show (c : Int) = 3 by omega)]
            refine V_aload_n dX12_ring_52 rfl ?_
            refine V_iload_n dX12_ring_53 rfl ?_
            refine V_callVpi1 [0] (s_X12_turned (d := d - 1) (by omega) h hw) gX12_ring_X12_turned dX12_ring_54 oX12_turned rfl rfl rfl rfl (Nat.le_of_ble_eq_true rfl) (by omega) ⟨Nat.le_refl _, Nat.le_refl _⟩ ?_
            refine V_iret dX12_ring_57 rfl (Nat.le_of_ble_eq_true rfl) (Nat.le_refl _) (Nat.le_refl _) ?_
            exact ⟨rfl, rfl⟩
          ·
            rw [if_pos (show (c : Int) = 1 by omega)]
            refine V_aload_n dX12_ring_44 rfl ?_
            refine V_iload_n dX12_ring_45 rfl ?_
            refine V_callVpi1 [0] (s_X12_leastOf (d := d - 1) (by omega) h hw) gX12_ring_X12_leastOf dX12_ring_46 oX12_leastOf rfl rfl rfl rfl (Nat.le_of_ble_eq_true rfl) (by omega) ⟨Nat.le_refl _, Nat.le_refl _⟩ ?_
            refine V_goto 57 dX12_ring_49 (by decide) ?_
            refine V_iret dX12_ring_57 rfl (Nat.le_of_ble_eq_true rfl) (Nat.le_refl _) (Nat.le_refl _) ?_
            exact ⟨rfl, rfl⟩
        ·
          rw [if_pos (show (c : Int) = 0 by omega)]
          refine V_aload_n dX12_ring_31 rfl ?_
          refine V_iload_n dX12_ring_32 rfl ?_
          refine V_callVpi1 [0] (s_X12_ringSize (d := d - 1) (by omega) h hw) gX12_ring_X12_ringSize dX12_ring_33 oX12_ringSize rfl rfl rfl rfl (Nat.le_of_ble_eq_true rfl) (by omega) ⟨Nat.le_refl _, Nat.le_refl _⟩ ?_
          refine V_goto 57 dX12_ring_36 (by decide) ?_
          refine V_iret dX12_ring_57 rfl (Nat.le_of_ble_eq_true rfl) (Nat.le_refl _) (Nat.le_refl _) ?_
          exact ⟨rfl, rfl⟩
    ·
      have h17 : ¬ (0 ≤ y.toInt ∧ y.toInt < 4) := of_decide_eq_false c_17
      rw [if_neg (by omega), if_neg (by omega), if_neg (by omega), if_neg (by omega)]
      refine V_iconst (v := -1) dX12_ring_20 (by decide) ?_
      refine V_iret dX12_ring_21 rfl (Nat.le_of_ble_eq_true rfl) (Nat.le_refl _) (Nat.le_refl _) ?_
      exact ⟨rfl, rfl⟩
theorem s_X12_bound (hd : 7 ≤ d) (h : OKq q n) {x : Int32} : SpP tO MX12_bound (d, 0, 0) [.ref m0, .int x] [obM m0 A q n cut rows kq kn kc kr kt cu cv ck rm mo bo ki wa wr fo fd wn yw] (some (.int (boV q n x))) := by
  refine eX12_bound [some (.ref m0), some (.int x)] rfl (Nat.le_of_ble_eq_true rfl) ?_
  unfold boV
  refine V_iload_n dX12_bound_0 rfl ?_
  refine V_iconst (v := -1) dX12_bound_1 (by decide) ?_
  refine V_icmp_ne 12 dX12_bound_2 (by decide) (fun c_2 => ?_) (fun c_2 => ?_)
  ·
    rw [if_neg (fun hh => c_2 (z_eqm1.mpr hh))]
    refine V_aload_n dX12_bound_12 rfl ?_
    refine V_iload_n dX12_bound_13 rfl ?_
    refine V_callVpi1 [0] (s_X12_ringAt (d := d - 1) (by omega) h) gX12_bound_X12_ringAt dX12_bound_14 oX12_ringAt rfl rfl rfl rfl (Nat.le_of_ble_eq_true rfl) (by omega) ⟨Nat.le_refl _, Nat.le_refl _⟩ ?_
    refine V_iret dX12_bound_17 rfl (Nat.le_of_ble_eq_true rfl) (Nat.le_refl _) (Nat.le_refl _) ?_
    exact ⟨rfl, rfl⟩
  ·
    rw [if_pos (z_eqm1.mp c_2)]
    refine V_aload_n dX12_bound_5 rfl ?_
    refine V_callVpi0 [0] (s_X12_rings (d := d - 1) (by omega) h) gX12_bound_X12_rings dX12_bound_6 oX12_rings rfl rfl rfl rfl (Nat.le_of_ble_eq_true rfl) (by omega) ⟨Nat.le_refl _, Nat.le_refl _⟩ ?_
    refine V_goto 17 dX12_bound_9 (by decide) ?_
    refine V_iret dX12_bound_17 rfl (Nat.le_of_ble_eq_true rfl) (Nat.le_refl _) (Nat.le_refl _) ?_
    exact ⟨rfl, rfl⟩
end MDL3

