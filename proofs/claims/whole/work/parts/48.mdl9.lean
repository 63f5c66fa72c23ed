/-! the model: texts written, lists, the image -/
def liM (x y : Int32) (It : Nat → Int32) : Nat → Int32 := if isW 4 x then (if isW 13 y then (fun j => if x.toInt.toNat * 12 ≤ j ∧ j < x.toInt.toNat * 12 + 12 then 0 else It j) else It) else It
theorem sub1_toInt {k : Nat} (hk : k < 2 ^ 30) : (nI k - nI 1).toInt64.toInt = (k : Int) - 1 := by
  rw [Int32.toInt_toInt64, sub_toInt hk (by decide)]
  rfl
theorem in_sub1 {x : Int32} {k : Nat} : decide ((0 : Int) ≤ x.toInt ∧ x.toInt ≤ (k : Int) - 1) = isW k x := by
  unfold isW
  apply decide_eq_decide.mpr
  omega
section MDL9
variable {tO d m0 : Nat} {A : Nat → Nat} {q n cut rows kq kn kc kr fd wn : Nat} {kt yw : Bool} {cu cv ck rm mo bo ki wa wr fo : Int32} {B KB : Nat → Bool} {Wb R KR P KP Od Ig Pk Lt Lk Rd Nx Tp Pa Wy Sz It : Nat → Int32}
theorem l_X12_book0 {w0 : zW} {Q : zPo} (next : V tO MX12_book (d, 0, 0) w0 Q (0, 0) [obM m0 A q n cut rows kq kn kc kr kt cu cv ck rm mo bo ki wa wr fo fd wn yw, (A 0, aZ 256 (hdF B)), (A 8, aZ 256 (hdF (fun _ => false))), (A 14, aI 60 Tp), (A 16, aI 3 Wy)] 22 [some (.ref m0), none, none, none, none, none, none] []) : ∀ (f i : Nat) (Hc : Nat → Int32), i + f = 256 → (∀ j, j < i → Hc j = nI 0) → V tO MX12_book (d, 0, 0) w0 Q (0, 0) [obM m0 A q n cut rows kq kn kc kr kt cu cv ck rm mo bo ki wa wr fo fd wn yw, (A 0, aZ 256 (hdF B)), (A 8, aZ 256 Hc), (A 14, aI 60 Tp), (A 16, aI 3 Wy)] 2 [some (.ref m0), some (.int (nI i)), none, none, none, none, none] [] := by
  intro f
  induction f with
  | zero =>
    intro i Hc hi hH
    refine V_iload_n dX12_book_2 rfl ?_
    refine V_sipush (v := nI 256) dX12_book_3 (by decide) ?_
    refine V_icmp_ge_N 22 dX12_book_6 (by decide) (by omega) (by omega) (fun c_6 => ?_) (fun c_6 => absurd c_6 (by omega))
    refine V_agp 2 (hdF (fun _ => false)) rfl (fun j hj => hH j (by omega)) ?_
    exact V_wk _ (by exact ⟨rfl, trivial, trivial, trivial, trivial, trivial, trivial, trivial⟩) next
  | succ f ih =>
    intro i Hc hi hH
    refine V_iload_n dX12_book_2 rfl ?_
    refine V_sipush (v := nI 256) dX12_book_3 (by decide) ?_
    refine V_icmp_ge_N 22 dX12_book_6 (by decide) (by omega) (by omega) (fun c_6 => absurd c_6 (by omega)) (fun c_6 => ?_)
    refine V_aload_n dX12_book_9 rfl ?_
    refine V_get 0 dX12_book_10 fX12_book_44 rfl rfl ?_
    refine V_iload_n dX12_book_13 rfl ?_
    refine V_iconst (v := nI 0) dX12_book_14 (by decide) ?_
    refine V_zast_N 2 dX12_book_15 rfl (by omega) (by first | decide | omega) (by first | exact Or.inl rfl | exact Or.inr rfl | exact bI_or _) ?_
    first | refine V_iinc_N (i := 1) dX12_book_16 rfl (by decide) rfl ?_ | refine V_iinc dX12_book_16 rfl rfl (by decide) rfl ?_
    refine V_goto 2 dX12_book_19 (by decide) ?_
    exact ih (i + 1) _ (by omega) (fun j hj => upd_fill hH hj)
theorem s_X12_book (hd : 5 ≤ d) (h : OKq q n) (hm : fd ≤ 60) {T : Nat → Nat} (hT : TpOK fd Tp T) : Sp tO MX12_book (d, 0, 0) [.ref m0] [obM m0 A q n cut rows kq kn kc kr kt cu cv ck rm mo bo ki wa wr fo fd wn yw, (A 0, aZ 256 (hdF B)), (A 8, aZ 256 Ig), (A 14, aI 60 Tp), (A 16, aI 3 Wy)] (fun v' w' => ∃ r Ig' Wy', r = pR q n T fd 0 0 0 (fun _ => false) ∧ v' = some (.int (bkV r)) ∧ w' = [obM m0 A q n cut rows kq kn kc kr kt cu cv ck rm mo bo ki wa wr fo 0 wn (if r.1 then yw else true), (A 0, aZ 256 (hdF (if r.1 then r.2.2.2.2 else B))), (A 8, aZ 256 Ig'), (A 14, aI 60 Tp), (A 16, aI 3 Wy')] ∧ (r.1 = true → Wy' = Wy) ∧ (r.1 = false → ∀ j, j < 3 → Wy' j = rsF r.2.2.1 r.2.2.2.1 r.2.1 j)) := by
  refine eX12_book [some (.ref m0), none, none, none, none, none, none] rfl (Nat.le_of_ble_eq_true rfl) ?_
  refine V_iconst (v := nI 0) dX12_book_0 (by decide) ?_
  refine V_istore_n dX12_book_1 (by decide) rfl ?_
  refine l_X12_book0 ?_ 256 0 _ (by omega) (fun j hj => absurd hj (by omega))
  refine V_iconst (v := nI 0) dX12_book_22 (by decide) (V_istore_n dX12_book_23 (by decide) rfl ?_)
  refine V_iconst (v := nI (ct (fun _ => false) 256)) dX12_book_24 (by rw [ct_none (fun _ => rfl)]; decide) (V_istore_n dX12_book_25 (by decide) rfl ?_)
  refine V_iconst (v := nI 0) dX12_book_26 (by decide) (V_istore_n dX12_book_27 (by decide) rfl ?_)
  refine V_iconst (v := nI 0) dX12_book_28 (by decide) (V_istore dX12_book_29 (by decide) rfl ?_)
  refine V_iconst (v := bI true) dX12_book_31 (show Int32.ofInt 1 = bI true by decide) (V_istore dX12_book_32 (by decide) rfl ?_)
  refine V_post (l_X12_book hd h hm hT rfl fd 0 0 0 _ none (by omega) (by omega) (by simp) (fun w hw => (by cases hw)) ⟨by omega, fun j a b => absurd b (by omega), fun a => absurd a (by omega)⟩ rfl) ?_
  rintro v' w' ⟨Ig', Wy', h1⟩
  exact ⟨_, Ig', Wy', rfl, h1⟩
theorem s_X12_why (hd : 2 ≤ d) {x : Int32} : SpP tO MX12_why (d, 0, 0) [.ref m0, .int x] [obM m0 A q n cut rows kq kn kc kr kt cu cv ck rm mo bo ki wa wr fo fd wn yw, (A 16, aI 3 Wy)] (some (.int (if yw && isW 3 x then Wy x.toInt.toNat else -1))) := by
  refine eX12_why [some (.ref m0), some (.int x)] rfl (Nat.le_of_ble_eq_true rfl) ?_
  refine V_aload_n dX12_why_0 rfl ?_
  refine V_get 0 dX12_why_1 fX12_why_261 rfl rfl ?_
  first | refine V_if_eq_B 28 dX12_why_4 (by decide) (fun c_4 => ?_) (fun c_4 => ?_) | refine V_if_eq_N 28 dX12_why_4 (by decide) (by omega) (fun c_4 => ?_) (fun c_4 => ?_) | refine V_if_eq 28 dX12_why_4 (by decide) (fun c_4 => ?_) (fun c_4 => ?_)
  ·
    rw [c_4, Bool.false_and, if_neg Bool.false_ne_true]
    refine V_iconst (v := -1) dX12_why_28 (by decide) ?_
    refine V_iret dX12_why_29 rfl (Nat.le_of_ble_eq_true rfl) (Nat.le_refl _) (Nat.le_refl _) ?_
    exact ⟨rfl, rfl⟩
  ·
    rw [c_4, Bool.true_and]
    refine V_iload_n dX12_why_7 rfl ?_
    refine V_i2l dX12_why_8 ?_
    refine V_lconst (v := 0) dX12_why_9 (by decide) ?_
    refine V_ldc2 (v := 2) dX12_why_10 (by decide +kernel) ?_
    refine V_callSpi3 [] (s_X12_isInK (d := d - 1) (by omega) (k := 2) (by decide)) gX12_why_X12_isIn dX12_why_13 oX12_isIn rfl rfl (Nat.le_of_ble_eq_true rfl) (by omega) ⟨Nat.le_refl _, Nat.le_refl _⟩ ?_
    first | refine V_if_eq_B 28 dX12_why_16 (by decide) (fun c_16 => ?_) (fun c_16 => ?_) | refine V_if_eq_N 28 dX12_why_16 (by decide) (by omega) (fun c_16 => ?_) (fun c_16 => ?_) | refine V_if_eq 28 dX12_why_16 (by decide) (fun c_16 => ?_) (fun c_16 => ?_)
    ·
      rw [if_neg (show ¬ isW 3 x = true from fun hh => by rw [show isW 3 x = false from c_16] at hh; cases hh)]
      refine V_iconst (v := -1) dX12_why_28 (by decide) ?_
      refine V_iret dX12_why_29 rfl (Nat.le_of_ble_eq_true rfl) (Nat.le_refl _) (Nat.le_refl _) ?_
      exact ⟨rfl, rfl⟩
    ·
      have c_16 : isW 3 x = true := c_16
      rw [if_pos c_16]
      obtain ⟨c, hc, rfl⟩ := isW_of c_16
      rw [toNat_nI (by omega)]
      refine V_aload_n dX12_why_19 rfl ?_
      refine V_get 0 dX12_why_20 fX12_why_68 rfl rfl ?_
      refine V_iload_n dX12_why_23 rfl ?_
      refine V_iald_N 1 dX12_why_24 rfl (by omega) (by first | decide | omega) ?_
      refine V_goto 29 dX12_why_25 (by decide) ?_
      refine V_iret dX12_why_29 rfl (Nat.le_of_ble_eq_true rfl) (Nat.le_refl _) (Nat.le_refl _) ?_
      exact ⟨rfl, rfl⟩
theorem tx_at {q n c k : Nat} {B : Nat → Bool} (hk : k < n) : txF q n B (c * (n + 1) + k) = nI (97 + wLt q n (eB B c) k) := by
  unfold txF
  rw [Nat.mul_comm c, Nat.mul_add_mod, Nat.mod_eq_of_lt (show k < n + 1 by omega), if_neg (by omega), Nat.mul_add_div (by omega), Nat.div_eq_of_lt (show k < n + 1 by omega), Nat.add_zero]
theorem tx_blank {q n c : Nat} {B : Nat → Bool} (hc : 0 < c) : txF q n B (txN n c) = nI 32 := by
  unfold txF
  have e8 : txN n c = (n + 1) * (c - 1) + n := by
    obtain ⟨i', rfl⟩ : ∃ i', c = i' + 1 := ⟨c - 1, by omega⟩
    have e0 : (i' + 1) * (n + 1) = i' * (n + 1) + (n + 1) := Nat.succ_mul _ _
    unfold txN
    rw [e0, Nat.mul_comm (n + 1), show i' + 1 - 1 = i' by omega]
    omega
  rw [e8, Nat.mul_add_mod, Nat.mod_eq_of_lt (show n < n + 1 by omega), if_pos rfl]
theorem txN_pos {n c : Nat} (hn : 1 ≤ n) (hc : 0 < c) : 0 < txN n c ∧ txN n c + 1 = c * (n + 1) := by
  have : n + 1 ≤ c * (n + 1) := Nat.le_mul_of_pos_left _ hc
  unfold txN
  omega
theorem l_X12_write2 (hd : 3 ≤ d) (h : OKq q n) {w c : Nat} {w0 : zW} {Q : zPo} (hw : w < q ^ n) (hc : c < q ^ n) (he : eB B c = w) (next : ∀ Pa2, (∀ j, j < txN n (c + 1) → Pa2 j = txF q n B j) → V tO MX12_write (d, 0, 0) w0 Q (0, 0) [obM m0 A q n cut rows kq kn kc kr kt cu cv ck rm mo bo ki wa wr fo fd (txN n (c + 1)) yw, (A 0, aZ 256 (hdF B)), (A 15, aI 1600 Pa2)] 99 [some (.ref m0), some (.int (nI w)), none] []) : ∀ (f k : Nat) (Pa2 : Nat → Int32), k + f = n → (∀ j, j < c * (n + 1) + k → Pa2 j = txF q n B j) → V tO MX12_write (d, 0, 0) w0 Q (0, 0) [obM m0 A q n cut rows kq kn kc kr kt cu cv ck rm mo bo ki wa wr fo fd (c * (n + 1) + k) yw, (A 0, aZ 256 (hdF B)), (A 15, aI 1600 Pa2)] 57 [some (.ref m0), some (.int (nI w)), some (.int (nI k))] [] := by
  have hN := h.2.2.2.2
  have hn := h.2.2.2.1
  have ht := txN_le h (show c + 1 ≤ q ^ n by omega)
  rw [Nat.succ_mul] at ht
  intro f
  induction f with
  | zero =>
    intro k Pa2 hk hP
    have e : k = n := by omega
    subst e
    have i1 := next Pa2 (fun j hj => hP j (by unfold txN at hj; rw [Nat.succ_mul] at hj; omega))
    rw [show txN k (c + 1) = c * (k + 1) + k by unfold txN; rw [Nat.succ_mul]; omega] at i1
    refine V_iload_n dX12_write_57 rfl ?_
    refine V_aload_n dX12_write_58 rfl ?_
    refine V_get 0 dX12_write_59 fX12_write_15 rfl rfl ?_
    refine V_icmp_ge_N 99 dX12_write_62 (by decide) (by omega) (by omega) (fun c_62 => ?_) (fun c_62 => absurd c_62 (by omega))
    exact V_wk _ (by exact ⟨rfl, rfl, trivial, trivial⟩) i1
  | succ f ih =>
    intro k Pa2 hk hP
    refine V_iload_n dX12_write_57 rfl ?_
    refine V_aload_n dX12_write_58 rfl ?_
    refine V_get 0 dX12_write_59 fX12_write_15 rfl rfl ?_
    refine V_icmp_ge_N 99 dX12_write_62 (by decide) (by omega) (by omega) (fun c_62 => absurd c_62 (by omega)) (fun c_62 => ?_)
    refine V_aload_n dX12_write_65 rfl ?_
    refine V_get 0 dX12_write_66 fX12_write_65 rfl rfl ?_
    refine V_aload_n dX12_write_69 rfl ?_
    refine V_get 0 dX12_write_70 fX12_write_265 rfl rfl ?_
    refine V_bipush (v := nI 97) dX12_write_73 (by decide) ?_
    refine V_aload_n dX12_write_75 rfl ?_
    refine V_iload_n dX12_write_76 rfl ?_
    refine V_iload_n dX12_write_77 rfl ?_
    refine V_callVpi2 [0] (s_X12_letterOf (d := d - 1) (by omega) h hw (by omega)) gX12_write_X12_letterOf dX12_write_78 oX12_letterOf rfl rfl rfl rfl (Nat.le_of_ble_eq_true rfl) (by omega) ⟨Nat.le_refl _, Nat.le_refl _⟩ ?_
    first | refine V_iadd_N dX12_write_81 ?_ | refine V_iadd dX12_write_81 ?_
    refine V_iast_N 2 dX12_write_82 rfl (by omega) (by first | decide | omega) ?_
    refine V_aload_n dX12_write_83 rfl ?_
    refine V_dup dX12_write_84 rfl ?_
    refine V_get 0 dX12_write_85 fX12_write_265 rfl rfl ?_
    refine V_iconst (v := nI 1) dX12_write_88 (by decide) ?_
    first | refine V_iadd_N dX12_write_89 ?_ | refine V_iadd dX12_write_89 ?_
    refine V_put 0 dX12_write_90 fX12_write_265 ft_10_37 rfl rfl rfl (Nat.le_of_ble_eq_true rfl) ?_
    first | refine V_iinc_N (i := 1) dX12_write_93 rfl (by decide) rfl ?_ | refine V_iinc dX12_write_93 rfl rfl (by decide) rfl ?_
    refine V_goto 57 dX12_write_96 (by decide) ?_
    refine ih (k + 1) _ (by omega) (fun j hj => ?_)
    unfold upd
    by_cases e : j = c * (n + 1) + k
    · rw [if_pos e, e, tx_at (by omega), he]
    · rw [if_neg e]; exact hP j (by omega)
theorem l_X12_write (hd : 3 ≤ d) (h : OKq q n) (hB : ∀ w, B w = true → w < q ^ n) {w0 : zW} (hw0 : w0.length = 3) : ∀ (f w : Nat) (Pa2 : Nat → Int32), w + f = q ^ n → (∀ j, j < txN n (ct B w) → Pa2 j = txF q n B j) → V tO MX12_write (d, 0, 0) w0 (fun v' w' => ∃ Pa', v' = some (.int (nI (txN n (ct B 256)))) ∧ w' = [obM m0 A q n cut rows kq kn kc kr kt cu cv ck rm mo bo ki wa wr fo fd (txN n (ct B 256)) yw, (A 0, aZ 256 (hdF B)), (A 15, aI 1600 Pa')] ∧ ∀ j, j < txN n (ct B 256) → Pa' j = txF q n B j) (0, 0) [obM m0 A q n cut rows kq kn kc kr kt cu cv ck rm mo bo ki wa wr fo fd (txN n (ct B w)) yw, (A 0, aZ 256 (hdF B)), (A 15, aI 1600 Pa2)] 7 [some (.ref m0), some (.int (nI w)), none] [] := by
  have hN := h.2.2.2.2
  have hn := h.2.2.1
  have hn5 := h.2.2.2.1
  intro f
  induction f with
  | zero =>
    intro w Pa2 hw hP
    have e : ct B w = ct B 256 := by rw [ct_256 hN hB, show w = q ^ n by omega]
    rw [e] at hP ⊢
    refine V_iload_n dX12_write_7 rfl ?_
    refine V_aload_n dX12_write_8 rfl ?_
    refine V_callVpi0 [0] (s_X12_words (d := d - 1) (by omega) h) gX12_write_X12_words dX12_write_9 oX12_words rfl rfl rfl rfl (Nat.le_of_ble_eq_true rfl) (by omega) ⟨Nat.le_refl _, Nat.le_refl _⟩ ?_
    refine V_icmp_ge_N 105 dX12_write_12 (by decide) (by omega) (by omega) (fun c_12 => ?_) (fun c_12 => absurd c_12 (by omega))
    refine V_aload_n dX12_write_105 rfl ?_
    refine V_get 0 dX12_write_106 fX12_write_265 rfl rfl ?_
    refine V_iret dX12_write_109 rfl (by rw [hw0]; exact Nat.le_of_ble_eq_true rfl) (Nat.le_refl _) (Nat.le_refl _) ?_
    exact ⟨_, rfl, rfl, hP⟩
  | succ f ih =>
    intro w Pa2 hw hP
    have hcw := ct_le B w
    have ht := txN_le h (show ct B w + 1 ≤ q ^ n by omega)
    rw [Nat.succ_mul] at ht
    have hu : txN n (ct B w) ≤ ct B w * (n + 1) := by unfold txN; omega
    refine V_iload_n dX12_write_7 rfl ?_
    refine V_aload_n dX12_write_8 rfl ?_
    refine V_callVpi0 [0] (s_X12_words (d := d - 1) (by omega) h) gX12_write_X12_words dX12_write_9 oX12_words rfl rfl rfl rfl (Nat.le_of_ble_eq_true rfl) (by omega) ⟨Nat.le_refl _, Nat.le_refl _⟩ ?_
    refine V_icmp_ge_N 105 dX12_write_12 (by decide) (by omega) (by omega) (fun c_12 => absurd c_12 (by omega)) (fun c_12 => ?_)
    refine V_aload_n dX12_write_15 rfl ?_
    refine V_get 0 dX12_write_16 fX12_write_18 rfl rfl ?_
    refine V_iload_n dX12_write_19 rfl ?_
    refine V_zald_N 1 dX12_write_20 rfl (by omega) (by first | decide | omega) ?_
    first | refine V_if_ne_B 27 dX12_write_21 (by decide) (fun c_21 => ?_) (fun c_21 => ?_) | refine V_if_ne_N 27 dX12_write_21 (by decide) (by omega) (fun c_21 => ?_) (fun c_21 => ?_) | refine V_if_ne 27 dX12_write_21 (by decide) (fun c_21 => ?_) (fun c_21 => ?_)
    ·
      have e1 := (eB_of c_21 rfl (by omega)).1
      have i2 : ∀ Pa3, (∀ j, j < txN n (ct B w + 1) → Pa3 j = txF q n B j) → V tO MX12_write (d, 0, 0) w0 (fun v' w' => ∃ Pa', v' = some (.int (nI (txN n (ct B 256)))) ∧ w' = [obM m0 A q n cut rows kq kn kc kr kt cu cv ck rm mo bo ki wa wr fo fd (txN n (ct B 256)) yw, (A 0, aZ 256 (hdF B)), (A 15, aI 1600 Pa')] ∧ ∀ j, j < txN n (ct B 256) → Pa' j = txF q n B j) (0, 0) [obM m0 A q n cut rows kq kn kc kr kt cu cv ck rm mo bo ki wa wr fo fd (txN n (ct B w + 1)) yw, (A 0, aZ 256 (hdF B)), (A 15, aI 1600 Pa3)] 99 [some (.ref m0), some (.int (nI w)), none] [] := by
        intro Pa3 hP3
        have i1 := ih (w + 1) Pa3 (by omega)
        rw [ct_succ _ w, c_21, if_pos rfl] at i1
        exact V_iinc_N (i := 1) dX12_write_99 rfl (by decide) rfl (V_goto 7 dX12_write_102 (by decide) (i1 hP3))
      refine V_aload_n dX12_write_27 rfl ?_
      refine V_get 0 dX12_write_28 fX12_write_265 rfl rfl ?_
      refine V_if_le_N 55 dX12_write_31 (by decide) (by omega) (fun c_31 => ?_) (fun c_31 => ?_)
      ·
        have c0 : ct B w = 0 := by
          rcases Nat.eq_zero_or_pos (ct B w) with q1 | q1
          · exact q1
          · have := (txN_pos hn q1).1; omega
        have e2 : txN n (ct B w) = ct B w * (n + 1) + 0 := by unfold txN; rw [c0]; simp
        refine V_iconst (v := nI 0) dX12_write_55 (by decide) ?_
        refine V_istore_n dX12_write_56 (by decide) rfl ?_
        first
        | (rw [e2]
           exact l_X12_write2 hd h (by omega) (by omega) e1 i2 n 0 Pa2 (by omega) (fun j hj => hP j (by rw [e2]; exact hj)))
        | (have i3 := l_X12_write2 hd h (by omega) (by omega) e1 i2 n 0 (upd Pa2 (txN n (ct B w)) (nI 32)) (by omega) (fun j hj => by
             unfold upd
             by_cases e : j = txN n (ct B w)
             · rw [if_pos e, e, tx_blank c1]
             · rw [if_neg e]; exact hP j (by omega))
           rw [Nat.add_zero, ← e2] at i3
           exact i3)
      ·
        have c1 : 0 < ct B w := by
          rcases Nat.eq_zero_or_pos (ct B w) with q1 | q1
          · rw [q1] at c_31; unfold txN at c_31; simp at c_31
          · exact q1
        have e2 := (txN_pos hn c1).2
        refine V_aload_n dX12_write_34 rfl ?_
        refine V_get 0 dX12_write_35 fX12_write_65 rfl rfl ?_
        refine V_aload_n dX12_write_38 rfl ?_
        refine V_get 0 dX12_write_39 fX12_write_265 rfl rfl ?_
        refine V_bipush (v := nI 32) dX12_write_42 (by decide) ?_
        refine V_iast_N 2 dX12_write_44 rfl (by omega) (by first | decide | omega) ?_
        refine V_aload_n dX12_write_45 rfl ?_
        refine V_dup dX12_write_46 rfl ?_
        refine V_get 0 dX12_write_47 fX12_write_265 rfl rfl ?_
        refine V_iconst (v := nI 1) dX12_write_50 (by decide) ?_
        first | refine V_iadd_N dX12_write_51 ?_ | refine V_iadd dX12_write_51 ?_
        refine V_put 0 dX12_write_52 fX12_write_265 ft_10_37 rfl rfl rfl (Nat.le_of_ble_eq_true rfl) ?_
        refine V_iconst (v := nI 0) dX12_write_55 (by decide) ?_
        refine V_istore_n dX12_write_56 (by decide) rfl ?_
        first
        | (rw [e2]
           exact l_X12_write2 hd h (by omega) (by omega) e1 i2 n 0 Pa2 (by omega) (fun j hj => hP j (by rw [e2]; exact hj)))
        | (have i3 := l_X12_write2 hd h (by omega) (by omega) e1 i2 n 0 (upd Pa2 (txN n (ct B w)) (nI 32)) (by omega) (fun j hj => by
             unfold upd
             by_cases e : j = txN n (ct B w)
             · rw [if_pos e, e, tx_blank c1]
             · rw [if_neg e]; exact hP j (by omega))
           rw [Nat.add_zero, ← e2] at i3
           exact i3)
    ·
      have i1 := ih (w + 1) Pa2 (by omega)
      rw [ct_succ _ w, c_21, if_neg Bool.false_ne_true] at i1
      refine V_goto 99 dX12_write_24 (by decide) ?_
      exact V_iinc_N (i := 1) dX12_write_99 rfl (by decide) rfl (V_goto 7 dX12_write_102 (by decide) (V_wk _ (by exact ⟨rfl, rfl, trivial, trivial⟩) (i1 hP)))
theorem s_X12_write (hd : 3 ≤ d) (h : OKq q n) (hB : ∀ w, B w = true → w < q ^ n) : Sp tO MX12_write (d, 0, 0) [.ref m0] [obM m0 A q n cut rows kq kn kc kr kt cu cv ck rm mo bo ki wa wr fo fd wn yw, (A 0, aZ 256 (hdF B)), (A 15, aI 1600 Pa)] (fun v' w' => ∃ Pa', v' = some (.int (nI (txN n (ct B 256)))) ∧ w' = [obM m0 A q n cut rows kq kn kc kr kt cu cv ck rm mo bo ki wa wr fo fd (txN n (ct B 256)) yw, (A 0, aZ 256 (hdF B)), (A 15, aI 1600 Pa')] ∧ ∀ j, j < txN n (ct B 256) → Pa' j = txF q n B j) := by
  refine eX12_write [some (.ref m0), none, none] rfl (Nat.le_of_ble_eq_true rfl) ?_
  have e0 : txN n (ct B 0) = 0 := by unfold txN; rw [ct]; simp
  have i1 := l_X12_write (tO := tO) (d := d) (m0 := m0) (A := A) (cut := cut) (rows := rows) (kq := kq) (kn := kn) (kc := kc) (kr := kr) (kt := kt) (cu := cu) (cv := cv) (ck := ck) (rm := rm) (mo := mo) (bo := bo) (ki := ki) (wa := wa) (wr := wr) (fo := fo) (fd := fd) (yw := yw) (w0 := [obM m0 A q n cut rows kq kn kc kr kt cu cv ck rm mo bo ki wa wr fo fd wn yw, (A 0, aZ 256 (hdF B)), (A 15, aI 1600 Pa)]) hd h hB rfl (q ^ n) 0 Pa (by omega) (fun j hj => by rw [e0] at hj; omega)
  rw [e0] at i1
  refine V_aload_n dX12_write_0 rfl ?_
  refine V_iconst (v := nI 0) dX12_write_1 (by decide) ?_
  refine V_put 0 dX12_write_2 fX12_write_265 ft_10_37 rfl rfl rfl (Nat.le_of_ble_eq_true rfl) ?_
  refine V_iconst (v := nI 0) dX12_write_5 (by decide) ?_
  refine V_istore_n dX12_write_6 (by decide) rfl ?_
  exact i1
theorem s_X12_paper (hd : 2 ≤ d) (hm : wn ≤ 1457) {x : Int32} : SpP tO MX12_paper (d, 0, 0) [.ref m0, .int x] [obM m0 A q n cut rows kq kn kc kr kt cu cv ck rm mo bo ki wa wr fo fd wn yw, (A 15, aI 1600 Pa)] (some (.int (if isW wn x then Pa x.toInt.toNat else -1))) := by
  refine eX12_paper [some (.ref m0), some (.int x)] rfl (Nat.le_of_ble_eq_true rfl) ?_
  refine V_iload_n dX12_paper_0 rfl ?_
  refine V_i2l dX12_paper_1 ?_
  refine V_lconst (v := 0) dX12_paper_2 (by decide) ?_
  refine V_aload_n dX12_paper_3 rfl ?_
  refine V_get 0 dX12_paper_4 fX12_paper_265 rfl rfl ?_
  refine V_iconst (v := nI 1) dX12_paper_7 (by decide) ?_
  refine V_isub dX12_paper_8 ?_
  refine V_i2l dX12_paper_9 ?_
  refine V_callSpi3 [] (s_X12_isInL (d := d - 1) (by omega) (lo := 0) (hi := (wn : Int) - 1) (by decide) (sub1_toInt (by omega))) gX12_paper_X12_isIn dX12_paper_10 oX12_isIn rfl rfl (Nat.le_of_ble_eq_true rfl) (by omega) ⟨Nat.le_refl _, Nat.le_refl _⟩ ?_
  rw [in_sub1]
  first | refine V_if_eq_B 25 dX12_paper_13 (by decide) (fun c_13 => ?_) (fun c_13 => ?_) | refine V_if_eq_N 25 dX12_paper_13 (by decide) (by omega) (fun c_13 => ?_) (fun c_13 => ?_) | refine V_if_eq 25 dX12_paper_13 (by decide) (fun c_13 => ?_) (fun c_13 => ?_)
  ·
    rw [if_neg (by rw [c_13]; exact Bool.false_ne_true)]
    refine V_iconst (v := -1) dX12_paper_25 (by decide) ?_
    refine V_iret dX12_paper_26 rfl (Nat.le_of_ble_eq_true rfl) (Nat.le_refl _) (Nat.le_refl _) ?_
    exact ⟨rfl, rfl⟩
  ·
    rw [if_pos c_13]
    obtain ⟨c, hc, rfl⟩ := isW_of c_13
    rw [toNat_nI (by omega)]
    refine V_aload_n dX12_paper_16 rfl ?_
    refine V_get 0 dX12_paper_17 fX12_paper_65 rfl rfl ?_
    refine V_iload_n dX12_paper_20 rfl ?_
    refine V_iald_N 1 dX12_paper_21 rfl (by omega) (by first | decide | omega) ?_
    refine V_goto 26 dX12_paper_22 (by decide) ?_
    refine V_iret dX12_paper_26 rfl (Nat.le_of_ble_eq_true rfl) (Nat.le_refl _) (Nat.le_refl _) ?_
    exact ⟨rfl, rfl⟩
theorem s_X12_isList (hd : 2 ≤ d) {x : Int32} : SpP tO MX12_isList (d, 0, 0) [.int x] [] (some (.int (bI (isW 4 x)))) := by
  refine eX12_isList [some (.int x)] rfl (Nat.le_of_ble_eq_true rfl) ?_
  refine V_iload_n dX12_isList_0 rfl ?_
  refine V_i2l dX12_isList_1 ?_
  refine V_lconst (v := 0) dX12_isList_2 (by decide) ?_
  refine V_ldc2 (v := 3) dX12_isList_3 (by decide +kernel) ?_
  refine V_callSpi3 [] (s_X12_isInK (d := d - 1) (by omega) (k := 3) (by decide)) gX12_isList_X12_isIn dX12_isList_6 oX12_isIn rfl rfl (Nat.le_of_ble_eq_true rfl) (by omega) ⟨Nat.le_refl _, Nat.le_refl _⟩ ?_
  refine V_zret dX12_isList_9 rfl (by first | exact Or.inl rfl | exact Or.inr rfl | exact bI_or _) (Nat.le_of_ble_eq_true rfl) (Nat.le_refl _) (Nat.le_refl _) ?_
  exact ⟨rfl, rfl⟩
theorem due_wo {i : Nat} (hi : i < 2 ^ 31) : (if (woV B (nI i)).toInt < 0 then (-1 : Int32) else woV B (nI i)) = dueI B i := by
  unfold woV dueI
  rw [isW_nI hi, toNat_nI hi]
  by_cases c : i < ct B 256
  · rw [decide_eq_true c, if_pos rfl, if_pos c, if_neg]
    have := (fst_le (fun w => !(B w && ct B w == i)) 256 0).2
    rw [nI_toInt (by unfold eB; omega)]
    omega
  · rw [decide_eq_false c, if_neg Bool.false_ne_true, if_neg c, if_pos (by decide)]
theorem l_X12_judge (hd : 3 ≤ d) {l k : Nat} (hl : l < 4) (hk : k ≤ 12) (hs : Sz l = nI k) : ∀ (f i : Nat), i + f = k → V tO MX12_judge (d, 0, 0) [obM m0 A q n cut rows kq kn kc kr kt cu cv ck rm mo bo ki wa wr fo fd wn yw, (A 0, aZ 256 (hdF B)), (A 17, aI 4 Sz), (A 18, aI 48 It)] (fun v' w' => v' = some (.int (juF B It l f i)) ∧ w' = [obM m0 A q n cut rows kq kn kc kr kt cu cv ck rm mo bo ki wa wr fo fd wn yw, (A 0, aZ 256 (hdF B)), (A 17, aI 4 Sz), (A 18, aI 48 It)]) (0, 0) [obM m0 A q n cut rows kq kn kc kr kt cu cv ck rm mo bo ki wa wr fo fd wn yw, (A 0, aZ 256 (hdF B)), (A 17, aI 4 Sz), (A 18, aI 48 It)] 23 [some (.ref m0), some (.int (nI l)), some (.int (nI i)), none] [] := by
  intro f
  induction f with
  | zero =>
    intro i hi
    refine V_iload_n dX12_judge_23 rfl ?_
    refine V_aload_n dX12_judge_24 rfl ?_
    refine V_get 0 dX12_judge_25 fX12_judge_71 rfl rfl ?_
    refine V_iload_n dX12_judge_28 rfl ?_
    refine V_iald_N 2 dX12_judge_29 rfl (by omega) (by first | decide | omega) ?_
    refine V_to hs ?_
    refine V_icmp_ge_N 70 dX12_judge_30 (by decide) (by omega) (by omega) (fun c_30 => ?_) (fun c_30 => absurd c_30 (by omega))
    refine V_bipush (v := (-5)) dX12_judge_70 (by decide) ?_
    refine V_iret dX12_judge_72 rfl (Nat.le_of_ble_eq_true rfl) (Nat.le_refl _) (Nat.le_refl _) ?_
    exact ⟨rfl, rfl⟩
  | succ f ih =>
    intro i hi
    have i1 := ih (i + 1) (by omega)
    have e1 : juF B It l (f + 1) i = if It (l * 12 + i) = dueI B i then juF B It l f (i + 1) else nI i := rfl
    have hdue := due_wo (B := B) (show i < 2 ^ 31 by omega)
    rw [e1]
    refine V_iload_n dX12_judge_23 rfl ?_
    refine V_aload_n dX12_judge_24 rfl ?_
    refine V_get 0 dX12_judge_25 fX12_judge_71 rfl rfl ?_
    refine V_iload_n dX12_judge_28 rfl ?_
    refine V_iald_N 2 dX12_judge_29 rfl (by omega) (by first | decide | omega) ?_
    refine V_to hs ?_
    refine V_icmp_ge_N 70 dX12_judge_30 (by decide) (by omega) (by omega) (fun c_30 => absurd c_30 (by omega)) (fun c_30 => ?_)
    refine V_aload_n dX12_judge_33 rfl ?_
    refine V_iload_n dX12_judge_34 rfl ?_
    refine V_callVpi1 [0, 1] (s_X12_wordOf (d := d - 1) (by omega) ) gX12_judge_X12_wordOf dX12_judge_35 oX12_wordOf rfl rfl rfl rfl (Nat.le_of_ble_eq_true rfl) (by omega) ⟨Nat.le_refl _, Nat.le_refl _⟩ ?_
    refine V_istore_n dX12_judge_38 (by decide) rfl ?_
    refine V_aload_n dX12_judge_39 rfl ?_
    refine V_get 0 dX12_judge_40 fX12_judge_74 rfl rfl ?_
    refine V_bipush (v := nI 12) dX12_judge_43 (by decide) ?_
    refine V_iload_n dX12_judge_45 rfl ?_
    first | refine V_imul_N dX12_judge_46 ?_ | refine V_imul dX12_judge_46 ?_
    refine V_iload_n dX12_judge_47 rfl ?_
    first | refine V_iadd_N dX12_judge_48 ?_ | refine V_iadd dX12_judge_48 ?_
    refine V_iald_N 3 dX12_judge_49 rfl (by omega) (by first | decide | omega) ?_
    refine V_to (show It (12 * l + i) = It (l * 12 + i) by rw [Nat.mul_comm]) ?_
    refine V_iload_n dX12_judge_50 rfl ?_
    refine V_if_ge 58 dX12_judge_51 (by decide) (fun c_51 => ?_) (fun c_51 => ?_)
    ·
      rw [z_ge0] at c_51
      rw [if_neg (by omega)] at hdue
      refine V_iload_n dX12_judge_58 rfl ?_
      refine V_to hdue ?_
      refine V_icmp_eq 64 dX12_judge_59 (by decide) (fun c_59 => ?_) (fun c_59 => ?_)
      ·
        rw [if_pos c_59]
        first | refine V_iinc_N (i := 1) dX12_judge_64 rfl (by decide) rfl ?_ | refine V_iinc dX12_judge_64 rfl rfl (by decide) rfl ?_
        refine V_goto 23 dX12_judge_67 (by decide) ?_
        exact V_wk _ (by exact ⟨rfl, rfl, rfl, trivial, trivial⟩) i1
      ·
        rw [if_neg c_59]
        refine V_iload_n dX12_judge_62 rfl ?_
        refine V_iret dX12_judge_63 rfl (Nat.le_of_ble_eq_true rfl) (Nat.le_refl _) (Nat.le_refl _) ?_
        exact ⟨rfl, rfl⟩
    ·
      rw [z_ge0] at c_51
      rw [if_pos (by omega)] at hdue
      refine V_iconst (v := -1) dX12_judge_54 (by decide) ?_
      refine V_goto 59 dX12_judge_55 (by decide) ?_
      refine V_to hdue ?_
      refine V_icmp_eq 64 dX12_judge_59 (by decide) (fun c_59 => ?_) (fun c_59 => ?_)
      ·
        rw [if_pos c_59]
        first | refine V_iinc_N (i := 1) dX12_judge_64 rfl (by decide) rfl ?_ | refine V_iinc dX12_judge_64 rfl rfl (by decide) rfl ?_
        refine V_goto 23 dX12_judge_67 (by decide) ?_
        exact V_wk _ (by exact ⟨rfl, rfl, rfl, trivial, trivial⟩) i1
      ·
        rw [if_neg c_59]
        refine V_iload_n dX12_judge_62 rfl ?_
        refine V_iret dX12_judge_63 rfl (Nat.le_of_ble_eq_true rfl) (Nat.le_refl _) (Nat.le_refl _) ?_
        exact ⟨rfl, rfl⟩
theorem s_X12_judge (hd : 3 ≤ d) (hL : LnOK Sz) {x : Int32} : SpP tO MX12_judge (d, 0, 0) [.ref m0, .int x] [obM m0 A q n cut rows kq kn kc kr kt cu cv ck rm mo bo ki wa wr fo fd wn yw, (A 0, aZ 256 (hdF B)), (A 17, aI 4 Sz), (A 18, aI 48 It)] (some (.int (juV B Sz It x))) := by
  refine eX12_judge [some (.ref m0), some (.int x), none, none] rfl (Nat.le_of_ble_eq_true rfl) ?_
  unfold juV
  refine V_iload_n dX12_judge_0 rfl ?_
  refine V_callSpi1 [] (s_X12_isList (d := d - 1) (by omega) ) gX12_judge_X12_isList dX12_judge_1 oX12_isList rfl rfl (Nat.le_of_ble_eq_true rfl) (by omega) ⟨Nat.le_refl _, Nat.le_refl _⟩ ?_
  first | refine V_if_ne_B 9 dX12_judge_4 (by decide) (fun c_4 => ?_) (fun c_4 => ?_) | refine V_if_ne_N 9 dX12_judge_4 (by decide) (by omega) (fun c_4 => ?_) (fun c_4 => ?_) | refine V_if_ne 9 dX12_judge_4 (by decide) (fun c_4 => ?_) (fun c_4 => ?_)
  ·
    rw [c_4, if_pos rfl]
    obtain ⟨l, hl, rfl⟩ := isW_of c_4
    rw [toNat_nI (by omega)]
    refine V_aload_n dX12_judge_9 rfl ?_
    refine V_get 0 dX12_judge_10 fX12_judge_71 rfl rfl ?_
    refine V_iload_n dX12_judge_13 rfl ?_
    refine V_iald_N 2 dX12_judge_14 rfl (by omega) (by first | decide | omega) ?_
    refine V_if_ge 21 dX12_judge_15 (by decide) (fun c_15 => ?_) (fun c_15 => ?_)
    ·
      rw [z_ge0] at c_15
      rw [if_neg (show ¬ (Sz l).toInt < 0 by omega)]
      obtain ⟨k, hk, ek⟩ : ∃ k, k ≤ 12 ∧ Sz l = nI k := (hL l hl).resolve_left (fun hh => by rw [hh] at c_15; exact absurd c_15 (by decide))
      rw [ek, toNat_nI (by omega)]
      refine V_iconst (v := nI 0) dX12_judge_21 (by decide) ?_
      refine V_istore_n dX12_judge_22 (by decide) rfl ?_
      exact l_X12_judge hd hl hk ek k 0 (by omega)
    ·
      rw [z_ge0] at c_15
      rw [if_pos (show (Sz l).toInt < 0 by omega)]
      refine V_bipush (v := (-11)) dX12_judge_18 (by decide) ?_
      refine V_iret dX12_judge_20 rfl (Nat.le_of_ble_eq_true rfl) (Nat.le_refl _) (Nat.le_refl _) ?_
      exact ⟨rfl, rfl⟩
  ·
    rw [c_4]
    refine V_iconst (v := -1) dX12_judge_7 (by decide) ?_
    refine V_iret dX12_judge_8 rfl (Nat.le_of_ble_eq_true rfl) (Nat.le_refl _) (Nat.le_refl _) ?_
    exact ⟨rfl, rfl⟩
theorem l_X12_list {l : Nat} {y : Int32} (hl : l < 4) {w0 : zW} (hw0 : w0.length = 3) : ∀ (f i : Nat) (Ix : Nat → Int32), i + f = 12 → (∀ j, Ix j = if l * 12 ≤ j ∧ j < l * 12 + i then 0 else It j) → V tO MX12_list (d, 0, 0) w0 (fun v' w' => v' = some (.int 1) ∧ w' = [obM m0 A q n cut rows kq kn kc kr kt cu cv ck rm mo bo ki wa wr fo fd wn yw, (A 17, aI 4 Sz), (A 18, aI 48 (fun j => if l * 12 ≤ j ∧ j < l * 12 + 12 then 0 else It j))]) (0, 0) [obM m0 A q n cut rows kq kn kc kr kt cu cv ck rm mo bo ki wa wr fo fd wn yw, (A 17, aI 4 Sz), (A 18, aI 48 Ix)] 34 [some (.ref m0), some (.int (nI l)), some (.int y), some (.int (nI i))] [] := by
  intro f
  induction f with
  | zero =>
    intro i Ix hi hI
    have e : Ix = fun j => if l * 12 ≤ j ∧ j < l * 12 + 12 then 0 else It j := by funext j; rw [hI j, show i = 12 by omega]
    subst e
    refine V_iload_n dX12_list_34 rfl ?_
    refine V_bipush (v := nI 12) dX12_list_35 (by decide) ?_
    refine V_icmp_ge_N 58 dX12_list_37 (by decide) (by omega) (by omega) (fun c_37 => ?_) (fun c_37 => absurd c_37 (by omega))
    refine V_iconst (v := nI 1) dX12_list_58 (by decide) ?_
    refine V_iret dX12_list_59 rfl (by rw [hw0]; exact Nat.le_of_ble_eq_true rfl) (Nat.le_refl _) (Nat.le_refl _) ?_
    exact ⟨rfl, rfl⟩
  | succ f ih =>
    intro i Ix hi hI
    refine V_iload_n dX12_list_34 rfl ?_
    refine V_bipush (v := nI 12) dX12_list_35 (by decide) ?_
    refine V_icmp_ge_N 58 dX12_list_37 (by decide) (by omega) (by omega) (fun c_37 => absurd c_37 (by omega)) (fun c_37 => ?_)
    refine V_aload_n dX12_list_40 rfl ?_
    refine V_get 0 dX12_list_41 fX12_list_74 rfl rfl ?_
    refine V_bipush (v := nI 12) dX12_list_44 (by decide) ?_
    refine V_iload_n dX12_list_46 rfl ?_
    first | refine V_imul_N dX12_list_47 ?_ | refine V_imul dX12_list_47 ?_
    refine V_iload_n dX12_list_48 rfl ?_
    first | refine V_iadd_N dX12_list_49 ?_ | refine V_iadd dX12_list_49 ?_
    refine V_iconst (v := nI 0) dX12_list_50 (by decide) ?_
    refine V_iast_N 2 dX12_list_51 rfl (by omega) (by first | decide | omega) ?_
    first | refine V_iinc_N (i := 1) dX12_list_52 rfl (by decide) rfl ?_ | refine V_iinc dX12_list_52 rfl rfl (by decide) rfl ?_
    refine V_goto 34 dX12_list_55 (by decide) ?_
    refine ih (i + 1) _ (by omega) (fun j => ?_)
    unfold upd
    by_cases e : j = 12 * l + i
    · rw [if_pos e, if_pos (by omega)]; rfl
    · rw [if_neg e, hI j]
      by_cases e2 : l * 12 ≤ j ∧ j < l * 12 + i
      · rw [if_pos e2, if_pos (by omega)]
      · rw [if_neg e2, if_neg (by omega)]
theorem s_X12_list (hd : 3 ≤ d) {x y : Int32} : SpF tO MX12_list (d, 0, 0) [.ref m0, .int x, .int y] [obM m0 A q n cut rows kq kn kc kr kt cu cv ck rm mo bo ki wa wr fo fd wn yw, (A 17, aI 4 Sz), (A 18, aI 48 It)] (some (.int (liV x y))) [obM m0 A q n cut rows kq kn kc kr kt cu cv ck rm mo bo ki wa wr fo fd wn yw, (A 17, aI 4 (liL x y Sz)), (A 18, aI 48 (liM x y It))] := by
  refine eX12_list [some (.ref m0), some (.int x), some (.int y), none] rfl (Nat.le_of_ble_eq_true rfl) ?_
  unfold liV liL liM
  refine V_iload_n dX12_list_0 rfl ?_
  refine V_callSpi1 [] (s_X12_isList (d := d - 1) (by omega) ) gX12_list_X12_isList dX12_list_1 oX12_isList rfl rfl (Nat.le_of_ble_eq_true rfl) (by omega) ⟨Nat.le_refl _, Nat.le_refl _⟩ ?_
  first | refine V_if_ne_B 9 dX12_list_4 (by decide) (fun c_4 => ?_) (fun c_4 => ?_) | refine V_if_ne_N 9 dX12_list_4 (by decide) (by omega) (fun c_4 => ?_) (fun c_4 => ?_) | refine V_if_ne 9 dX12_list_4 (by decide) (fun c_4 => ?_) (fun c_4 => ?_)
  ·
    rw [c_4, if_pos rfl, if_pos rfl, if_pos rfl]
    obtain ⟨l, hl, rfl⟩ := isW_of c_4
    rw [toNat_nI (by omega)]
    refine V_iload_n dX12_list_9 rfl ?_
    refine V_bipush (v := nI 12) dX12_list_10 (by decide) ?_
    refine V_icmp_le 18 dX12_list_12 (by decide) (fun c_12 => ?_) (fun c_12 => ?_)
    ·
      rw [z_le (by decide)] at c_12
      rw [if_neg (by omega)]
      refine V_iload_n dX12_list_18 rfl ?_
      refine V_if_ge 25 dX12_list_19 (by decide) (fun c_19 => ?_) (fun c_19 => ?_)
      ·
        rw [z_ge0] at c_19
        rw [if_neg (by omega)]
        have hy : isW 13 y = true := by unfold isW; exact decide_eq_true (by omega)
        rw [hy, if_pos rfl, if_pos rfl]
        refine V_aload_n dX12_list_25 rfl ?_
        refine V_get 0 dX12_list_26 fX12_list_71 rfl rfl ?_
        refine V_iload_n dX12_list_29 rfl ?_
        refine V_iload_n dX12_list_30 rfl ?_
        refine V_iast_N 1 dX12_list_31 rfl (by omega) (by first | decide | omega) ?_
        refine V_iconst (v := nI 0) dX12_list_32 (by decide) ?_
        refine V_istore_n dX12_list_33 (by decide) rfl ?_
        exact l_X12_list (It := It) hl rfl 12 0 It (by omega) (fun j => by rw [if_neg (by omega)])
      ·
        rw [z_ge0] at c_19
        rw [if_pos (by omega), show isW 13 y = false by unfold isW; exact decide_eq_false (by omega)]
        refine V_bipush (v := (-14)) dX12_list_22 (by decide) ?_
        refine V_iret dX12_list_24 rfl (Nat.le_of_ble_eq_true rfl) (Nat.le_refl _) (Nat.le_refl _) ?_
        exact ⟨rfl, rfl⟩
    ·
      rw [z_le (by decide)] at c_12
      rw [if_pos (by omega), show isW 13 y = false by unfold isW; exact decide_eq_false (by omega)]
      refine V_bipush (v := (-2)) dX12_list_15 (by decide) ?_
      refine V_iret dX12_list_17 rfl (Nat.le_of_ble_eq_true rfl) (Nat.le_refl _) (Nat.le_refl _) ?_
      exact ⟨rfl, rfl⟩
  ·
    rw [c_4]
    refine V_iconst (v := -1) dX12_list_7 (by decide) ?_
    refine V_iret dX12_list_8 rfl (Nat.le_of_ble_eq_true rfl) (Nat.le_refl _) (Nat.le_refl _) ?_
    exact ⟨rfl, rfl⟩
theorem s_X12_put (hd : 3 ≤ d) (hL : LnOK Sz) {x y z : Int32} : SpF tO MX12_put (d, 0, 0) [.ref m0, .int x, .int y, .int z] [obM m0 A q n cut rows kq kn kc kr kt cu cv ck rm mo bo ki wa wr fo fd wn yw, (A 17, aI 4 Sz), (A 18, aI 48 It)] (some (.int (puV Sz x y))) [obM m0 A q n cut rows kq kn kc kr kt cu cv ck rm mo bo ki wa wr fo fd wn yw, (A 17, aI 4 Sz), (A 18, aI 48 (puC Sz x y z It))] := by
  refine eX12_put [some (.ref m0), some (.int x), some (.int y), some (.int z)] rfl (Nat.le_of_ble_eq_true rfl) ?_
  unfold puV puC
  refine V_iload_n dX12_put_0 rfl ?_
  refine V_callSpi1 [] (s_X12_isList (d := d - 1) (by omega) ) gX12_put_X12_isList dX12_put_1 oX12_isList rfl rfl (Nat.le_of_ble_eq_true rfl) (by omega) ⟨Nat.le_refl _, Nat.le_refl _⟩ ?_
  first | refine V_if_ne_B 9 dX12_put_4 (by decide) (fun c_4 => ?_) (fun c_4 => ?_) | refine V_if_ne_N 9 dX12_put_4 (by decide) (by omega) (fun c_4 => ?_) (fun c_4 => ?_) | refine V_if_ne 9 dX12_put_4 (by decide) (fun c_4 => ?_) (fun c_4 => ?_)
  ·
    rw [c_4, if_pos rfl, if_pos rfl]
    obtain ⟨l, hl, rfl⟩ := isW_of c_4
    rw [toNat_nI (by omega)]
    refine V_aload_n dX12_put_9 rfl ?_
    refine V_get 0 dX12_put_10 fX12_put_71 rfl rfl ?_
    refine V_iload_n dX12_put_13 rfl ?_
    refine V_iald_N 1 dX12_put_14 rfl (by omega) (by first | decide | omega) ?_
    refine V_if_ge 21 dX12_put_15 (by decide) (fun c_15 => ?_) (fun c_15 => ?_)
    ·
      rw [z_ge0] at c_15
      rw [if_neg (show ¬ (Sz l).toInt < 0 by omega), if_neg (show ¬ (Sz l).toInt < 0 by omega)]
      obtain ⟨k, hk, ek⟩ : ∃ k, k ≤ 12 ∧ Sz l = nI k := (hL l hl).resolve_left (fun hh => by rw [hh] at c_15; exact absurd c_15 (by decide))
      rw [ek, toNat_nI (by omega)]
      refine V_iload_n dX12_put_21 rfl ?_
      refine V_i2l dX12_put_22 ?_
      refine V_lconst (v := 0) dX12_put_23 (by decide) ?_
      refine V_aload_n dX12_put_24 rfl ?_
      refine V_get 0 dX12_put_25 fX12_put_71 rfl rfl ?_
      refine V_iload_n dX12_put_28 rfl ?_
      refine V_iald_N 1 dX12_put_29 rfl (by omega) (by first | decide | omega) ?_
      refine V_to ek ?_
      refine V_iconst (v := nI 1) dX12_put_30 (by decide) ?_
      refine V_isub dX12_put_31 ?_
      refine V_i2l dX12_put_32 ?_
      refine V_callSpi3 [] (s_X12_isInL (d := d - 1) (by omega) (lo := 0) (hi := (k : Int) - 1) (by decide) (sub1_toInt (by omega))) gX12_put_X12_isIn dX12_put_33 oX12_isIn rfl rfl (Nat.le_of_ble_eq_true rfl) (by omega) ⟨Nat.le_refl _, Nat.le_refl _⟩ ?_
      rw [in_sub1]
      first | refine V_if_ne_B 42 dX12_put_36 (by decide) (fun c_36 => ?_) (fun c_36 => ?_) | refine V_if_ne_N 42 dX12_put_36 (by decide) (by omega) (fun c_36 => ?_) (fun c_36 => ?_) | refine V_if_ne 42 dX12_put_36 (by decide) (fun c_36 => ?_) (fun c_36 => ?_)
      ·
        rw [c_36, if_pos rfl, if_pos rfl]
        obtain ⟨i, hi, rfl⟩ := isW_of c_36
        rw [toNat_nI (by omega), Nat.mul_comm l]
        refine V_aload_n dX12_put_42 rfl ?_
        refine V_get 0 dX12_put_43 fX12_put_74 rfl rfl ?_
        refine V_bipush (v := nI 12) dX12_put_46 (by decide) ?_
        refine V_iload_n dX12_put_48 rfl ?_
        first | refine V_imul_N dX12_put_49 ?_ | refine V_imul dX12_put_49 ?_
        refine V_iload_n dX12_put_50 rfl ?_
        first | refine V_iadd_N dX12_put_51 ?_ | refine V_iadd dX12_put_51 ?_
        refine V_iload_n dX12_put_52 rfl ?_
        refine V_iast_N 2 dX12_put_53 rfl (by omega) (by first | decide | omega) ?_
        refine V_iconst (v := nI 1) dX12_put_54 (by decide) ?_
        refine V_iret dX12_put_55 rfl (Nat.le_of_ble_eq_true rfl) (Nat.le_refl _) (Nat.le_refl _) ?_
        exact ⟨rfl, rfl⟩
      ·
        rw [c_36]
        refine V_bipush (v := (-13)) dX12_put_39 (by decide) ?_
        refine V_iret dX12_put_41 rfl (Nat.le_of_ble_eq_true rfl) (Nat.le_refl _) (Nat.le_refl _) ?_
        exact ⟨rfl, rfl⟩
    ·
      rw [z_ge0] at c_15
      rw [if_pos (show (Sz l).toInt < 0 by omega), if_pos (show (Sz l).toInt < 0 by omega)]
      refine V_bipush (v := (-11)) dX12_put_18 (by decide) ?_
      refine V_iret dX12_put_20 rfl (Nat.le_of_ble_eq_true rfl) (Nat.le_refl _) (Nat.le_refl _) ?_
      exact ⟨rfl, rfl⟩
  ·
    rw [c_4]
    refine V_iconst (v := -1) dX12_put_7 (by decide) ?_
    refine V_iret dX12_put_8 rfl (Nat.le_of_ble_eq_true rfl) (Nat.le_refl _) (Nat.le_refl _) ?_
    exact ⟨rfl, rfl⟩
theorem s_X12_get (hd : 3 ≤ d) (hL : LnOK Sz) {x y : Int32} : SpP tO MX12_get (d, 0, 0) [.ref m0, .int x, .int y] [obM m0 A q n cut rows kq kn kc kr kt cu cv ck rm mo bo ki wa wr fo fd wn yw, (A 17, aI 4 Sz), (A 18, aI 48 It)] (some (.long (geV Sz It x y))) := by
  refine eX12_get [some (.ref m0), some (.int x), some (.int y)] rfl (Nat.le_of_ble_eq_true rfl) ?_
  unfold geV
  by_cases hx : isW 4 x = true
  · obtain ⟨l, hl, rfl⟩ := isW_of hx
    rw [hx, if_pos rfl, toNat_nI (by omega)]
    have key : ∃ k : Nat, (Sz l - nI 1).toInt64.toInt = (k : Int) - 1 - (if (Sz l).toInt < 0 then 1 else 0) ∧ k ≤ 12 ∧ (Sz l).toInt.toNat = k ∧ ((Sz l).toInt < 0 → k = 0) := by
      rcases hL l hl with ek | ⟨k, hk, ek⟩
      · exact ⟨0, by rw [ek]; decide, by omega, by rw [ek]; decide, fun _ => rfl⟩
      · refine ⟨k, ?_, hk, by rw [ek, toNat_nI (by omega)], fun hh => ?_⟩
        · rw [ek, sub1_toInt (by omega), nI_toInt (by omega), if_neg (by omega)]; omega
        · rw [ek, nI_toInt (by omega)] at hh; omega
    obtain ⟨k, k1, k2, k3, k4⟩ := key
    have e2 : decide ((0 : Int) ≤ y.toInt ∧ y.toInt ≤ (k : Int) - 1 - (if (Sz l).toInt < 0 then 1 else 0)) = isW k y := by
      unfold isW
      apply decide_eq_decide.mpr
      split
      · next hh => have := k4 hh; omega
      · omega
    rw [k3]
    refine V_iload_n dX12_get_0 rfl ?_
    refine V_callSpi1 [] (s_X12_isList (d := d - 1) (by omega) ) gX12_get_X12_isList dX12_get_1 oX12_isList rfl rfl (Nat.le_of_ble_eq_true rfl) (by omega) ⟨Nat.le_refl _, Nat.le_refl _⟩ ?_
    rw [hx]
    first | refine V_if_eq_B 40 dX12_get_4 (by decide) (fun c_4 => ?_) (fun c_4 => ?_) | refine V_if_eq_N 40 dX12_get_4 (by decide) (by omega) (fun c_4 => ?_) (fun c_4 => ?_) | refine V_if_eq 40 dX12_get_4 (by decide) (fun c_4 => ?_) (fun c_4 => ?_)
    ·
      cases c_4
    ·
      refine V_iload_n dX12_get_7 rfl ?_
      refine V_i2l dX12_get_8 ?_
      refine V_lconst (v := 0) dX12_get_9 (by decide) ?_
      refine V_aload_n dX12_get_10 rfl ?_
      refine V_get 0 dX12_get_11 fX12_get_71 rfl rfl ?_
      refine V_iload_n dX12_get_14 rfl ?_
      refine V_iald_N 1 dX12_get_15 rfl (by omega) (by first | decide | omega) ?_
      refine V_iconst (v := nI 1) dX12_get_16 (by decide) ?_
      refine V_isub dX12_get_17 ?_
      refine V_i2l dX12_get_18 ?_
      refine V_callSpi3 [] (s_X12_isInL (d := d - 1) (by omega) (lo := 0) (by decide) k1) gX12_get_X12_isIn dX12_get_19 oX12_isIn rfl rfl (Nat.le_of_ble_eq_true rfl) (by omega) ⟨Nat.le_refl _, Nat.le_refl _⟩ ?_
      rw [e2]
      first | refine V_if_eq_B 40 dX12_get_22 (by decide) (fun c_22 => ?_) (fun c_22 => ?_) | refine V_if_eq_N 40 dX12_get_22 (by decide) (by omega) (fun c_22 => ?_) (fun c_22 => ?_) | refine V_if_eq 40 dX12_get_22 (by decide) (fun c_22 => ?_) (fun c_22 => ?_)
      ·
        rw [c_22]
        refine V_ldc2 (v := Int64.minValue) dX12_get_40 (by decide +kernel) ?_
        refine V_lret dX12_get_43 rfl (Nat.le_of_ble_eq_true rfl) (Nat.le_refl _) (Nat.le_refl _) ?_
        exact ⟨rfl, rfl⟩
      ·
        rw [c_22, if_pos rfl]
        obtain ⟨i, hi, rfl⟩ := isW_of c_22
        rw [toNat_nI (by omega), Nat.mul_comm l]
        refine V_aload_n dX12_get_25 rfl ?_
        refine V_get 0 dX12_get_26 fX12_get_74 rfl rfl ?_
        refine V_bipush (v := nI 12) dX12_get_29 (by decide) ?_
        refine V_iload_n dX12_get_31 rfl ?_
        first | refine V_imul_N dX12_get_32 ?_ | refine V_imul dX12_get_32 ?_
        refine V_iload_n dX12_get_33 rfl ?_
        first | refine V_iadd_N dX12_get_34 ?_ | refine V_iadd dX12_get_34 ?_
        refine V_iald_N 2 dX12_get_35 rfl (by omega) (by first | decide | omega) ?_
        refine V_i2l dX12_get_36 ?_
        refine V_goto 43 dX12_get_37 (by decide) ?_
        refine V_lret dX12_get_43 rfl (Nat.le_of_ble_eq_true rfl) (Nat.le_refl _) (Nat.le_refl _) ?_
        exact ⟨rfl, rfl⟩
  · have hx : isW 4 x = false := by cases hh : isW 4 x with
      | false => rfl
      | true => exact absurd hh hx
    rw [hx]
    refine V_iload_n dX12_get_0 rfl ?_
    refine V_callSpi1 [] (s_X12_isList (d := d - 1) (by omega) ) gX12_get_X12_isList dX12_get_1 oX12_isList rfl rfl (Nat.le_of_ble_eq_true rfl) (by omega) ⟨Nat.le_refl _, Nat.le_refl _⟩ ?_
    rw [hx]
    first | refine V_if_eq_B 40 dX12_get_4 (by decide) (fun c_4 => ?_) (fun c_4 => ?_) | refine V_if_eq_N 40 dX12_get_4 (by decide) (by omega) (fun c_4 => ?_) (fun c_4 => ?_) | refine V_if_eq 40 dX12_get_4 (by decide) (fun c_4 => ?_) (fun c_4 => ?_)
    ·
      refine V_ldc2 (v := Int64.minValue) dX12_get_40 (by decide +kernel) ?_
      refine V_lret dX12_get_43 rfl (Nat.le_of_ble_eq_true rfl) (Nat.le_refl _) (Nat.le_refl _) ?_
      exact ⟨rfl, rfl⟩
    ·
      cases c_4
theorem l_X12_image2 {w0 : zW} {Q : zPo} (next : V tO MX12_image (d, 0, 0) w0 Q (0, 0) [obM m0 A q n cut rows q n cut rows kt cu cv ck rm mo bo ki wa wr fo fd wn yw, (A 0, aZ 256 (hdF B)), (A 1, aZ 256 (hdF B)), (A 3, aI 40 R), (A 4, aI 40 R), (A 5, aI 16 P), (A 6, aI 16 P)] 92 [some (.ref m0), none] []) : ∀ (f i : Nat) (Hc : Nat → Int32), i + f = 16 → (∀ j, j < i → Hc j = P j) → V tO MX12_image (d, 0, 0) w0 Q (0, 0) [obM m0 A q n cut rows q n cut rows kt cu cv ck rm mo bo ki wa wr fo fd wn yw, (A 0, aZ 256 (hdF B)), (A 1, aZ 256 (hdF B)), (A 3, aI 40 R), (A 4, aI 40 R), (A 5, aI 16 P), (A 6, aI 16 Hc)] 68 [some (.ref m0), some (.int (nI i))] [] := by
  intro f
  induction f with
  | zero =>
    intro i Hc hi hH
    refine V_iload_n dX12_image_68 rfl ?_
    refine V_bipush (v := nI 16) dX12_image_69 (by decide) ?_
    refine V_icmp_ge_N 92 dX12_image_71 (by decide) (by omega) (by omega) (fun c_71 => ?_) (fun c_71 => absurd c_71 (by omega))
    refine V_agp 6 P rfl (fun j hj => hH j (by omega)) ?_
    exact V_wk _ (by exact ⟨rfl, trivial, trivial⟩) next
  | succ f ih =>
    intro i Hc hi hH
    refine V_iload_n dX12_image_68 rfl ?_
    refine V_bipush (v := nI 16) dX12_image_69 (by decide) ?_
    refine V_icmp_ge_N 92 dX12_image_71 (by decide) (by omega) (by omega) (fun c_71 => absurd c_71 (by omega)) (fun c_71 => ?_)
    refine V_aload_n dX12_image_74 rfl ?_
    refine V_get 0 dX12_image_75 fX12_image_38 rfl rfl ?_
    refine V_iload_n dX12_image_78 rfl ?_
    refine V_aload_n dX12_image_79 rfl ?_
    refine V_get 0 dX12_image_80 fX12_image_35 rfl rfl ?_
    refine V_iload_n dX12_image_83 rfl ?_
    refine V_iald_N 5 dX12_image_84 rfl (by omega) (by first | decide | omega) ?_
    refine V_iast_N 6 dX12_image_85 rfl (by omega) (by first | decide | omega) ?_
    first | refine V_iinc_N (i := 1) dX12_image_86 rfl (by decide) rfl ?_ | refine V_iinc dX12_image_86 rfl rfl (by decide) rfl ?_
    refine V_goto 68 dX12_image_89 (by decide) ?_
    exact ih (i + 1) _ (by omega) (fun j hj => upd_copy hH hj)
theorem l_X12_image1 {w0 : zW} {Q : zPo} (next : V tO MX12_image (d, 0, 0) w0 Q (0, 0) [obM m0 A q n cut rows q n cut rows kt cu cv ck rm mo bo ki wa wr fo fd wn yw, (A 0, aZ 256 (hdF B)), (A 1, aZ 256 (hdF B)), (A 3, aI 40 R), (A 4, aI 40 R), (A 5, aI 16 P), (A 6, aI 16 KP)] 66 [some (.ref m0), none] []) : ∀ (f i : Nat) (Hc : Nat → Int32), i + f = 40 → (∀ j, j < i → Hc j = R j) → V tO MX12_image (d, 0, 0) w0 Q (0, 0) [obM m0 A q n cut rows q n cut rows kt cu cv ck rm mo bo ki wa wr fo fd wn yw, (A 0, aZ 256 (hdF B)), (A 1, aZ 256 (hdF B)), (A 3, aI 40 R), (A 4, aI 40 Hc), (A 5, aI 16 P), (A 6, aI 16 KP)] 42 [some (.ref m0), some (.int (nI i))] [] := by
  intro f
  induction f with
  | zero =>
    intro i Hc hi hH
    refine V_iload_n dX12_image_42 rfl ?_
    refine V_bipush (v := nI 40) dX12_image_43 (by decide) ?_
    refine V_icmp_ge_N 66 dX12_image_45 (by decide) (by omega) (by omega) (fun c_45 => ?_) (fun c_45 => absurd c_45 (by omega))
    refine V_agp 4 R rfl (fun j hj => hH j (by omega)) ?_
    exact V_wk _ (by exact ⟨rfl, trivial, trivial⟩) next
  | succ f ih =>
    intro i Hc hi hH
    refine V_iload_n dX12_image_42 rfl ?_
    refine V_bipush (v := nI 40) dX12_image_43 (by decide) ?_
    refine V_icmp_ge_N 66 dX12_image_45 (by decide) (by omega) (by omega) (fun c_45 => absurd c_45 (by omega)) (fun c_45 => ?_)
    refine V_aload_n dX12_image_48 rfl ?_
    refine V_get 0 dX12_image_49 fX12_image_32 rfl rfl ?_
    refine V_iload_n dX12_image_52 rfl ?_
    refine V_aload_n dX12_image_53 rfl ?_
    refine V_get 0 dX12_image_54 fX12_image_28 rfl rfl ?_
    refine V_iload_n dX12_image_57 rfl ?_
    refine V_iald_N 3 dX12_image_58 rfl (by omega) (by first | decide | omega) ?_
    refine V_iast_N 4 dX12_image_59 rfl (by omega) (by first | decide | omega) ?_
    first | refine V_iinc_N (i := 1) dX12_image_60 rfl (by decide) rfl ?_ | refine V_iinc dX12_image_60 rfl rfl (by decide) rfl ?_
    refine V_goto 42 dX12_image_63 (by decide) ?_
    exact ih (i + 1) _ (by omega) (fun j hj => upd_copy hH hj)
theorem s_X12_image (hd : 2 ≤ d) : SpF tO MX12_image (d, 0, 0) [.ref m0] [obM m0 A q n cut rows kq kn kc kr kt cu cv ck rm mo bo ki wa wr fo fd wn yw, (A 0, aZ 256 (hdF B)), (A 1, aZ 256 (hdF KB)), (A 3, aI 40 R), (A 4, aI 40 KR), (A 5, aI 16 P), (A 6, aI 16 KP)] (some (.int (nI (ct B 256)))) [obM m0 A q n cut rows q n cut rows true cu cv ck rm mo bo ki wa wr fo fd wn yw, (A 0, aZ 256 (hdF B)), (A 1, aZ 256 (hdF B)), (A 3, aI 40 R), (A 4, aI 40 R), (A 5, aI 16 P), (A 6, aI 16 P)] := by
  refine eX12_image [some (.ref m0), none] rfl (Nat.le_of_ble_eq_true rfl) ?_
  have i3 : V tO MX12_image (d, 0, 0) [obM m0 A q n cut rows kq kn kc kr kt cu cv ck rm mo bo ki wa wr fo fd wn yw, (A 0, aZ 256 (hdF B)), (A 1, aZ 256 (hdF KB)), (A 3, aI 40 R), (A 4, aI 40 KR), (A 5, aI 16 P), (A 6, aI 16 KP)] (fun v w' => v = some (.int (nI (ct B 256))) ∧ w' = [obM m0 A q n cut rows q n cut rows true cu cv ck rm mo bo ki wa wr fo fd wn yw, (A 0, aZ 256 (hdF B)), (A 1, aZ 256 (hdF B)), (A 3, aI 40 R), (A 4, aI 40 R), (A 5, aI 16 P), (A 6, aI 16 P)]) (0, 0) [obM m0 A q n cut rows q n cut rows kt cu cv ck rm mo bo ki wa wr fo fd wn yw, (A 0, aZ 256 (hdF B)), (A 1, aZ 256 (hdF B)), (A 3, aI 40 R), (A 4, aI 40 R), (A 5, aI 16 P), (A 6, aI 16 P)] 92 [some (.ref m0), none] [] := by
    refine V_aload_n dX12_image_92 rfl ?_
    refine V_iconst (v := bI true) dX12_image_93 (show Int32.ofInt 1 = bI true by decide) ?_
    refine V_put 0 dX12_image_94 fX12_image_283 ft_10_15 rfl (by decide) (by decide) (Nat.le_of_ble_eq_true rfl) ?_
    refine V_aload_n dX12_image_97 rfl ?_
    refine V_callVpi0 [0, 1] (s_X12_many (d := d - 1) (by omega) ) gX12_image_X12_many dX12_image_98 oX12_many rfl rfl rfl rfl (Nat.le_of_ble_eq_true rfl) (by omega) ⟨Nat.le_refl _, Nat.le_refl _⟩ ?_
    refine V_iret dX12_image_101 rfl (Nat.le_of_ble_eq_true rfl) (Nat.le_refl _) (Nat.le_refl _) ?_
    exact ⟨rfl, rfl⟩
  have i2 : V tO MX12_image (d, 0, 0) [obM m0 A q n cut rows kq kn kc kr kt cu cv ck rm mo bo ki wa wr fo fd wn yw, (A 0, aZ 256 (hdF B)), (A 1, aZ 256 (hdF KB)), (A 3, aI 40 R), (A 4, aI 40 KR), (A 5, aI 16 P), (A 6, aI 16 KP)] (fun v w' => v = some (.int (nI (ct B 256))) ∧ w' = [obM m0 A q n cut rows q n cut rows true cu cv ck rm mo bo ki wa wr fo fd wn yw, (A 0, aZ 256 (hdF B)), (A 1, aZ 256 (hdF B)), (A 3, aI 40 R), (A 4, aI 40 R), (A 5, aI 16 P), (A 6, aI 16 P)]) (0, 0) [obM m0 A q n cut rows q n cut rows kt cu cv ck rm mo bo ki wa wr fo fd wn yw, (A 0, aZ 256 (hdF B)), (A 1, aZ 256 (hdF B)), (A 3, aI 40 R), (A 4, aI 40 R), (A 5, aI 16 P), (A 6, aI 16 KP)] 66 [some (.ref m0), none] [] := by
    refine V_iconst (v := nI 0) dX12_image_66 (by decide) ?_
    refine V_istore_n dX12_image_67 (by decide) rfl ?_
    exact l_X12_image2 i3 16 0 _ (by omega) (fun j hj => absurd hj (by omega))
  refine V_aload_n dX12_image_0 rfl ?_
  refine V_aload_n dX12_image_1 rfl ?_
  refine V_get 0 dX12_image_2 fX12_image_9 rfl rfl ?_
  refine V_put 0 dX12_image_5 fX12_image_271 ft_10_4 rfl rfl rfl (Nat.le_of_ble_eq_true rfl) ?_
  refine V_aload_n dX12_image_8 rfl ?_
  refine V_aload_n dX12_image_9 rfl ?_
  refine V_get 0 dX12_image_10 fX12_image_15 rfl rfl ?_
  refine V_put 0 dX12_image_13 fX12_image_274 ft_10_5 rfl rfl rfl (Nat.le_of_ble_eq_true rfl) ?_
  refine V_aload_n dX12_image_16 rfl ?_
  refine V_aload_n dX12_image_17 rfl ?_
  refine V_get 0 dX12_image_18 fX12_image_22 rfl rfl ?_
  refine V_callVfv1 [0, 1, 2] (s_X12_keepsBook (d := d - 1) (by omega) ) gX12_image_X12_keepsBook dX12_image_21 oX12_keepsBook rfl rfl rfl rfl (Nat.le_of_ble_eq_true rfl) (by omega) ⟨Nat.le_refl _, Nat.le_refl _⟩ ?_
  simp only [List.cons_append, List.nil_append, zput_n, zput_c, zset_0, zset_1, zset_2]
  refine V_aload_n dX12_image_24 rfl ?_
  refine V_aload_n dX12_image_25 rfl ?_
  refine V_get 0 dX12_image_26 fX12_image_95 rfl rfl ?_
  refine V_put 0 dX12_image_29 fX12_image_277 ft_10_6 rfl rfl rfl (Nat.le_of_ble_eq_true rfl) ?_
  refine V_aload_n dX12_image_32 rfl ?_
  refine V_aload_n dX12_image_33 rfl ?_
  refine V_get 0 dX12_image_34 fX12_image_98 rfl rfl ?_
  refine V_put 0 dX12_image_37 fX12_image_280 ft_10_7 rfl rfl rfl (Nat.le_of_ble_eq_true rfl) ?_
  refine V_iconst (v := nI 0) dX12_image_40 (by decide) ?_
  refine V_istore_n dX12_image_41 (by decide) rfl ?_
  exact l_X12_image1 i2 40 0 _ (by omega) (fun j hj => absurd hj (by omega))
theorem l_X12_undo3 {w0 : zW} {Q : zPo} (next : V tO MX12_undo (d, 0, 0) w0 Q (0, 0) [obM m0 A kq kn kc kr kq kn kc kr kt cu cv ck rm mo bo ki wa wr fo fd wn yw, (A 0, aZ 256 (hdF KB)), (A 1, aZ 256 (hdF KB)), (A 3, aI 40 KR), (A 4, aI 40 KR), (A 5, aI 16 KP), (A 6, aI 16 KP)] 121 [some (.ref m0), none] []) : ∀ (f i : Nat) (Hc : Nat → Int32), i + f = 16 → (∀ j, j < i → Hc j = KP j) → V tO MX12_undo (d, 0, 0) w0 Q (0, 0) [obM m0 A kq kn kc kr kq kn kc kr kt cu cv ck rm mo bo ki wa wr fo fd wn yw, (A 0, aZ 256 (hdF KB)), (A 1, aZ 256 (hdF KB)), (A 3, aI 40 KR), (A 4, aI 40 KR), (A 5, aI 16 Hc), (A 6, aI 16 KP)] 97 [some (.ref m0), some (.int (nI i))] [] := by
  intro f
  induction f with
  | zero =>
    intro i Hc hi hH
    refine V_iload_n dX12_undo_97 rfl ?_
    refine V_bipush (v := nI 16) dX12_undo_98 (by decide) ?_
    refine V_icmp_ge_N 121 dX12_undo_100 (by decide) (by omega) (by omega) (fun c_100 => ?_) (fun c_100 => absurd c_100 (by omega))
    refine V_agp 5 KP rfl (fun j hj => hH j (by omega)) ?_
    exact V_wk _ (by exact ⟨rfl, trivial, trivial⟩) next
  | succ f ih =>
    intro i Hc hi hH
    refine V_iload_n dX12_undo_97 rfl ?_
    refine V_bipush (v := nI 16) dX12_undo_98 (by decide) ?_
    refine V_icmp_ge_N 121 dX12_undo_100 (by decide) (by omega) (by omega) (fun c_100 => absurd c_100 (by omega)) (fun c_100 => ?_)
    refine V_aload_n dX12_undo_103 rfl ?_
    refine V_get 0 dX12_undo_104 fX12_undo_35 rfl rfl ?_
    refine V_iload_n dX12_undo_107 rfl ?_
    refine V_aload_n dX12_undo_108 rfl ?_
    refine V_get 0 dX12_undo_109 fX12_undo_38 rfl rfl ?_
    refine V_iload_n dX12_undo_112 rfl ?_
    refine V_iald_N 6 dX12_undo_113 rfl (by omega) (by first | decide | omega) ?_
    refine V_iast_N 5 dX12_undo_114 rfl (by omega) (by first | decide | omega) ?_
    first | refine V_iinc_N (i := 1) dX12_undo_115 rfl (by decide) rfl ?_ | refine V_iinc dX12_undo_115 rfl rfl (by decide) rfl ?_
    refine V_goto 97 dX12_undo_118 (by decide) ?_
    exact ih (i + 1) _ (by omega) (fun j hj => upd_copy hH hj)
theorem l_X12_undo2 {w0 : zW} {Q : zPo} (next : V tO MX12_undo (d, 0, 0) w0 Q (0, 0) [obM m0 A kq kn kc kr kq kn kc kr kt cu cv ck rm mo bo ki wa wr fo fd wn yw, (A 0, aZ 256 (hdF KB)), (A 1, aZ 256 (hdF KB)), (A 3, aI 40 KR), (A 4, aI 40 KR), (A 5, aI 16 P), (A 6, aI 16 KP)] 95 [some (.ref m0), none] []) : ∀ (f i : Nat) (Hc : Nat → Int32), i + f = 40 → (∀ j, j < i → Hc j = KR j) → V tO MX12_undo (d, 0, 0) w0 Q (0, 0) [obM m0 A kq kn kc kr kq kn kc kr kt cu cv ck rm mo bo ki wa wr fo fd wn yw, (A 0, aZ 256 (hdF KB)), (A 1, aZ 256 (hdF KB)), (A 3, aI 40 Hc), (A 4, aI 40 KR), (A 5, aI 16 P), (A 6, aI 16 KP)] 71 [some (.ref m0), some (.int (nI i))] [] := by
  intro f
  induction f with
  | zero =>
    intro i Hc hi hH
    refine V_iload_n dX12_undo_71 rfl ?_
    refine V_bipush (v := nI 40) dX12_undo_72 (by decide) ?_
    refine V_icmp_ge_N 95 dX12_undo_74 (by decide) (by omega) (by omega) (fun c_74 => ?_) (fun c_74 => absurd c_74 (by omega))
    refine V_agp 3 KR rfl (fun j hj => hH j (by omega)) ?_
    exact V_wk _ (by exact ⟨rfl, trivial, trivial⟩) next
  | succ f ih =>
    intro i Hc hi hH
    refine V_iload_n dX12_undo_71 rfl ?_
    refine V_bipush (v := nI 40) dX12_undo_72 (by decide) ?_
    refine V_icmp_ge_N 95 dX12_undo_74 (by decide) (by omega) (by omega) (fun c_74 => absurd c_74 (by omega)) (fun c_74 => ?_)
    refine V_aload_n dX12_undo_77 rfl ?_
    refine V_get 0 dX12_undo_78 fX12_undo_28 rfl rfl ?_
    refine V_iload_n dX12_undo_81 rfl ?_
    refine V_aload_n dX12_undo_82 rfl ?_
    refine V_get 0 dX12_undo_83 fX12_undo_32 rfl rfl ?_
    refine V_iload_n dX12_undo_86 rfl ?_
    refine V_iald_N 4 dX12_undo_87 rfl (by omega) (by first | decide | omega) ?_
    refine V_iast_N 3 dX12_undo_88 rfl (by omega) (by first | decide | omega) ?_
    first | refine V_iinc_N (i := 1) dX12_undo_89 rfl (by decide) rfl ?_ | refine V_iinc dX12_undo_89 rfl rfl (by decide) rfl ?_
    refine V_goto 71 dX12_undo_92 (by decide) ?_
    exact ih (i + 1) _ (by omega) (fun j hj => upd_copy hH hj)
theorem l_X12_undo1 {w0 : zW} {Q : zPo} (next : V tO MX12_undo (d, 0, 0) w0 Q (0, 0) [obM m0 A kq kn cut rows kq kn kc kr kt cu cv ck rm mo bo ki wa wr fo fd wn yw, (A 0, aZ 256 (hdF KB)), (A 1, aZ 256 (hdF KB)), (A 3, aI 40 R), (A 4, aI 40 KR), (A 5, aI 16 P), (A 6, aI 16 KP)] 53 [some (.ref m0), none] []) : ∀ (f i : Nat) (Hc : Nat → Int32), i + f = 256 → (∀ j, j < i → Hc j = (hdF KB) j) → V tO MX12_undo (d, 0, 0) w0 Q (0, 0) [obM m0 A kq kn cut rows kq kn kc kr kt cu cv ck rm mo bo ki wa wr fo fd wn yw, (A 0, aZ 256 Hc), (A 1, aZ 256 (hdF KB)), (A 3, aI 40 R), (A 4, aI 40 KR), (A 5, aI 16 P), (A 6, aI 16 KP)] 28 [some (.ref m0), some (.int (nI i))] [] := by
  intro f
  induction f with
  | zero =>
    intro i Hc hi hH
    refine V_iload_n dX12_undo_28 rfl ?_
    refine V_sipush (v := nI 256) dX12_undo_29 (by decide) ?_
    refine V_icmp_ge_N 53 dX12_undo_32 (by decide) (by omega) (by omega) (fun c_32 => ?_) (fun c_32 => absurd c_32 (by omega))
    refine V_agp 1 (hdF KB) rfl (fun j hj => hH j (by omega)) ?_
    exact V_wk _ (by exact ⟨rfl, trivial, trivial⟩) next
  | succ f ih =>
    intro i Hc hi hH
    refine V_iload_n dX12_undo_28 rfl ?_
    refine V_sipush (v := nI 256) dX12_undo_29 (by decide) ?_
    refine V_icmp_ge_N 53 dX12_undo_32 (by decide) (by omega) (by omega) (fun c_32 => absurd c_32 (by omega)) (fun c_32 => ?_)
    refine V_aload_n dX12_undo_35 rfl ?_
    refine V_get 0 dX12_undo_36 fX12_undo_18 rfl rfl ?_
    refine V_iload_n dX12_undo_39 rfl ?_
    refine V_aload_n dX12_undo_40 rfl ?_
    refine V_get 0 dX12_undo_41 fX12_undo_22 rfl rfl ?_
    refine V_iload_n dX12_undo_44 rfl ?_
    refine V_zald_N 2 dX12_undo_45 rfl (by omega) (by first | decide | omega) ?_
    refine V_zast_N 1 dX12_undo_46 rfl (by omega) (by first | decide | omega) (by first | exact Or.inl rfl | exact Or.inr rfl | exact bI_or _) ?_
    first | refine V_iinc_N (i := 1) dX12_undo_47 rfl (by decide) rfl ?_ | refine V_iinc dX12_undo_47 rfl rfl (by decide) rfl ?_
    refine V_goto 28 dX12_undo_50 (by decide) ?_
    exact ih (i + 1) _ (by omega) (fun j hj => upd_copy hH hj)
theorem s_X12_undoN (hd : 2 ≤ d) : SpP tO MX12_undo (d, 0, 0) [.ref m0] [obM m0 A q n cut rows kq kn kc kr false cu cv ck rm mo bo ki wa wr fo fd wn yw, (A 0, aZ 256 (hdF B)), (A 1, aZ 256 (hdF KB)), (A 3, aI 40 R), (A 4, aI 40 KR), (A 5, aI 16 P), (A 6, aI 16 KP)] (some (.int (-3))) := by
  refine eX12_undo [some (.ref m0), none] rfl (Nat.le_of_ble_eq_true rfl) ?_
  refine V_aload_n dX12_undo_0 rfl ?_
  refine V_get 0 dX12_undo_1 fX12_undo_283 rfl rfl ?_
  first | refine V_if_ne_B 10 dX12_undo_4 (by decide) (fun c_4 => ?_) (fun c_4 => ?_) | refine V_if_ne_N 10 dX12_undo_4 (by decide) (by omega) (fun c_4 => ?_) (fun c_4 => ?_) | refine V_if_ne 10 dX12_undo_4 (by decide) (fun c_4 => ?_) (fun c_4 => ?_)
  ·
    cases c_4
  ·
    refine V_bipush (v := (-3)) dX12_undo_7 (by decide) ?_
    refine V_iret dX12_undo_9 rfl (Nat.le_of_ble_eq_true rfl) (Nat.le_refl _) (Nat.le_refl _) ?_
    exact ⟨rfl, rfl⟩
theorem s_X12_undo (hd : 2 ≤ d) : SpF tO MX12_undo (d, 0, 0) [.ref m0] [obM m0 A q n cut rows kq kn kc kr true cu cv ck rm mo bo ki wa wr fo fd wn yw, (A 0, aZ 256 (hdF B)), (A 1, aZ 256 (hdF KB)), (A 3, aI 40 R), (A 4, aI 40 KR), (A 5, aI 16 P), (A 6, aI 16 KP)] (some (.int (nI (ct KB 256)))) [obM m0 A kq kn kc kr kq kn kc kr true cu cv ck rm mo bo ki wa wr fo fd wn yw, (A 0, aZ 256 (hdF KB)), (A 1, aZ 256 (hdF KB)), (A 3, aI 40 KR), (A 4, aI 40 KR), (A 5, aI 16 KP), (A 6, aI 16 KP)] := by
  refine eX12_undo [some (.ref m0), none] rfl (Nat.le_of_ble_eq_true rfl) ?_
  have i3 : V tO MX12_undo (d, 0, 0) [obM m0 A q n cut rows kq kn kc kr true cu cv ck rm mo bo ki wa wr fo fd wn yw, (A 0, aZ 256 (hdF B)), (A 1, aZ 256 (hdF KB)), (A 3, aI 40 R), (A 4, aI 40 KR), (A 5, aI 16 P), (A 6, aI 16 KP)] (fun v w' => v = some (.int (nI (ct KB 256))) ∧ w' = [obM m0 A kq kn kc kr kq kn kc kr true cu cv ck rm mo bo ki wa wr fo fd wn yw, (A 0, aZ 256 (hdF KB)), (A 1, aZ 256 (hdF KB)), (A 3, aI 40 KR), (A 4, aI 40 KR), (A 5, aI 16 KP), (A 6, aI 16 KP)]) (0, 0) [obM m0 A kq kn kc kr kq kn kc kr true cu cv ck rm mo bo ki wa wr fo fd wn yw, (A 0, aZ 256 (hdF KB)), (A 1, aZ 256 (hdF KB)), (A 3, aI 40 KR), (A 4, aI 40 KR), (A 5, aI 16 KP), (A 6, aI 16 KP)] 121 [some (.ref m0), none] [] := by
    refine V_aload_n dX12_undo_121 rfl ?_
    refine V_callVpi0 [0, 1] (s_X12_many (d := d - 1) (by omega) ) gX12_undo_X12_many dX12_undo_122 oX12_many rfl rfl rfl rfl (Nat.le_of_ble_eq_true rfl) (by omega) ⟨Nat.le_refl _, Nat.le_refl _⟩ ?_
    refine V_iret dX12_undo_125 rfl (Nat.le_of_ble_eq_true rfl) (Nat.le_refl _) (Nat.le_refl _) ?_
    exact ⟨rfl, rfl⟩
  have i2 : V tO MX12_undo (d, 0, 0) [obM m0 A q n cut rows kq kn kc kr true cu cv ck rm mo bo ki wa wr fo fd wn yw, (A 0, aZ 256 (hdF B)), (A 1, aZ 256 (hdF KB)), (A 3, aI 40 R), (A 4, aI 40 KR), (A 5, aI 16 P), (A 6, aI 16 KP)] (fun v w' => v = some (.int (nI (ct KB 256))) ∧ w' = [obM m0 A kq kn kc kr kq kn kc kr true cu cv ck rm mo bo ki wa wr fo fd wn yw, (A 0, aZ 256 (hdF KB)), (A 1, aZ 256 (hdF KB)), (A 3, aI 40 KR), (A 4, aI 40 KR), (A 5, aI 16 KP), (A 6, aI 16 KP)]) (0, 0) [obM m0 A kq kn kc kr kq kn kc kr true cu cv ck rm mo bo ki wa wr fo fd wn yw, (A 0, aZ 256 (hdF KB)), (A 1, aZ 256 (hdF KB)), (A 3, aI 40 KR), (A 4, aI 40 KR), (A 5, aI 16 P), (A 6, aI 16 KP)] 95 [some (.ref m0), none] [] := by
    refine V_iconst (v := nI 0) dX12_undo_95 (by decide) ?_
    refine V_istore_n dX12_undo_96 (by decide) rfl ?_
    exact l_X12_undo3 i3 16 0 _ (by omega) (fun j hj => absurd hj (by omega))
  have i1 : V tO MX12_undo (d, 0, 0) [obM m0 A q n cut rows kq kn kc kr true cu cv ck rm mo bo ki wa wr fo fd wn yw, (A 0, aZ 256 (hdF B)), (A 1, aZ 256 (hdF KB)), (A 3, aI 40 R), (A 4, aI 40 KR), (A 5, aI 16 P), (A 6, aI 16 KP)] (fun v w' => v = some (.int (nI (ct KB 256))) ∧ w' = [obM m0 A kq kn kc kr kq kn kc kr true cu cv ck rm mo bo ki wa wr fo fd wn yw, (A 0, aZ 256 (hdF KB)), (A 1, aZ 256 (hdF KB)), (A 3, aI 40 KR), (A 4, aI 40 KR), (A 5, aI 16 KP), (A 6, aI 16 KP)]) (0, 0) [obM m0 A kq kn cut rows kq kn kc kr true cu cv ck rm mo bo ki wa wr fo fd wn yw, (A 0, aZ 256 (hdF KB)), (A 1, aZ 256 (hdF KB)), (A 3, aI 40 R), (A 4, aI 40 KR), (A 5, aI 16 P), (A 6, aI 16 KP)] 53 [some (.ref m0), none] [] := by
    refine V_aload_n dX12_undo_53 rfl ?_
    refine V_aload_n dX12_undo_54 rfl ?_
    refine V_get 0 dX12_undo_55 fX12_undo_277 rfl rfl ?_
    refine V_put 0 dX12_undo_58 fX12_undo_95 ft_10_2 rfl rfl rfl (Nat.le_of_ble_eq_true rfl) ?_
    refine V_aload_n dX12_undo_61 rfl ?_
    refine V_aload_n dX12_undo_62 rfl ?_
    refine V_get 0 dX12_undo_63 fX12_undo_280 rfl rfl ?_
    refine V_put 0 dX12_undo_66 fX12_undo_98 ft_10_3 rfl rfl rfl (Nat.le_of_ble_eq_true rfl) ?_
    refine V_iconst (v := nI 0) dX12_undo_69 (by decide) ?_
    refine V_istore_n dX12_undo_70 (by decide) rfl ?_
    exact l_X12_undo2 i2 40 0 _ (by omega) (fun j hj => absurd hj (by omega))
  refine V_aload_n dX12_undo_0 rfl ?_
  refine V_get 0 dX12_undo_1 fX12_undo_283 rfl rfl ?_
  first | refine V_if_ne_B 10 dX12_undo_4 (by decide) (fun c_4 => ?_) (fun c_4 => ?_) | refine V_if_ne_N 10 dX12_undo_4 (by decide) (by omega) (fun c_4 => ?_) (fun c_4 => ?_) | refine V_if_ne 10 dX12_undo_4 (by decide) (fun c_4 => ?_) (fun c_4 => ?_)
  ·
    refine V_aload_n dX12_undo_10 rfl ?_
    refine V_aload_n dX12_undo_11 rfl ?_
    refine V_get 0 dX12_undo_12 fX12_undo_271 rfl rfl ?_
    refine V_put 0 dX12_undo_15 fX12_undo_9 ft_10_0 rfl rfl rfl (Nat.le_of_ble_eq_true rfl) ?_
    refine V_aload_n dX12_undo_18 rfl ?_
    refine V_aload_n dX12_undo_19 rfl ?_
    refine V_get 0 dX12_undo_20 fX12_undo_274 rfl rfl ?_
    refine V_put 0 dX12_undo_23 fX12_undo_15 ft_10_1 rfl rfl rfl (Nat.le_of_ble_eq_true rfl) ?_
    refine V_iconst (v := nI 0) dX12_undo_26 (by decide) ?_
    refine V_istore_n dX12_undo_27 (by decide) rfl ?_
    exact l_X12_undo1 i1 256 0 _ (by omega) (fun j hj => absurd hj (by omega))
  ·
    cases c_4
theorem s_X12_count (hd : 3 ≤ d) (h : OKq q n) {x : Int32} : SpP tO MX12_count (d, 0, 0) [.ref m0, .int x] [obM m0 A q n cut rows kq kn kc kr kt cu cv ck rm mo bo ki wa wr fo fd wn yw, (A 0, aZ 256 (hdF B))] (some (.int (coV q n (ct B 256) cut fd wn rows x))) := by
  refine eX12_count [some (.ref m0), some (.int x)] rfl (Nat.le_of_ble_eq_true rfl) ?_
  unfold coV
  refine V_iload_n dX12_count_0 rfl ?_
  refine V_tab9 52 57 62 67 72 77 82 87 92 99 dX12_count_1 (by decide) (by decide) (by decide) (by decide) (by decide) (by decide) (by decide) (by decide) (by decide) (by decide) (fun c_1 => ?_) (fun c_1 => ?_) (fun c_1 => ?_) (fun c_1 => ?_) (fun c_1 => ?_) (fun c_1 => ?_) (fun c_1 => ?_) (fun c_1 => ?_) (fun c_1 => ?_) (fun c_1 => ?_)
  ·
    rw [if_pos (by omega)]
    refine V_aload_n dX12_count_52 rfl ?_
    refine V_get 0 dX12_count_53 fX12_count_9 rfl rfl ?_
    refine V_iret dX12_count_56 rfl (Nat.le_of_ble_eq_true rfl) (Nat.le_refl _) (Nat.le_refl _) ?_
    exact ⟨rfl, rfl⟩
  ·
    rw [if_neg (by omega), if_pos (by omega)]
    refine V_aload_n dX12_count_57 rfl ?_
    refine V_get 0 dX12_count_58 fX12_count_15 rfl rfl ?_
    refine V_iret dX12_count_61 rfl (Nat.le_of_ble_eq_true rfl) (Nat.le_refl _) (Nat.le_refl _) ?_
    exact ⟨rfl, rfl⟩
  ·
    rw [if_neg (by omega), if_neg (by omega), if_pos (by omega)]
    refine V_aload_n dX12_count_62 rfl ?_
    refine V_callVpi0 [0] (s_X12_words (d := d - 1) (by omega) h) gX12_count_X12_words dX12_count_63 oX12_words rfl rfl rfl rfl (Nat.le_of_ble_eq_true rfl) (by omega) ⟨Nat.le_refl _, Nat.le_refl _⟩ ?_
    refine V_iret dX12_count_66 rfl (Nat.le_of_ble_eq_true rfl) (Nat.le_refl _) (Nat.le_refl _) ?_
    exact ⟨rfl, rfl⟩
  ·
    rw [if_neg (by omega), if_neg (by omega), if_neg (by omega), if_pos (by omega)]
    refine V_aload_n dX12_count_67 rfl ?_
    refine V_callVpi0 [0, 1] (s_X12_many (d := d - 1) (by omega) ) gX12_count_X12_many dX12_count_68 oX12_many rfl rfl rfl rfl (Nat.le_of_ble_eq_true rfl) (by omega) ⟨Nat.le_refl _, Nat.le_refl _⟩ ?_
    refine V_iret dX12_count_71 rfl (Nat.le_of_ble_eq_true rfl) (Nat.le_refl _) (Nat.le_refl _) ?_
    exact ⟨rfl, rfl⟩
  ·
    rw [if_neg (by omega), if_neg (by omega), if_neg (by omega), if_neg (by omega), if_pos (by omega)]
    refine V_aload_n dX12_count_72 rfl ?_
    refine V_get 0 dX12_count_73 fX12_count_95 rfl rfl ?_
    refine V_iret dX12_count_76 rfl (Nat.le_of_ble_eq_true rfl) (Nat.le_refl _) (Nat.le_refl _) ?_
    exact ⟨rfl, rfl⟩
  ·
    rw [if_neg (by omega), if_neg (by omega), if_neg (by omega), if_neg (by omega), if_neg (by omega), if_pos (by omega)]
    refine V_aload_n dX12_count_77 rfl ?_
    refine V_get 0 dX12_count_78 fX12_count_256 rfl rfl ?_
    refine V_iret dX12_count_81 rfl (Nat.le_of_ble_eq_true rfl) (Nat.le_refl _) (Nat.le_refl _) ?_
    exact ⟨rfl, rfl⟩
  ·
    rw [if_neg (by omega), if_neg (by omega), if_neg (by omega), if_neg (by omega), if_neg (by omega), if_neg (by omega), if_pos (by omega)]
    refine V_aload_n dX12_count_82 rfl ?_
    refine V_get 0 dX12_count_83 fX12_count_265 rfl rfl ?_
    refine V_iret dX12_count_86 rfl (Nat.le_of_ble_eq_true rfl) (Nat.le_refl _) (Nat.le_refl _) ?_
    exact ⟨rfl, rfl⟩
  ·
    rw [if_neg (by omega), if_neg (by omega), if_neg (by omega), if_neg (by omega), if_neg (by omega), if_neg (by omega), if_neg (by omega), if_pos (by omega)]
    refine V_aload_n dX12_count_87 rfl ?_
    refine V_get 0 dX12_count_88 fX12_count_98 rfl rfl ?_
    refine V_iret dX12_count_91 rfl (Nat.le_of_ble_eq_true rfl) (Nat.le_refl _) (Nat.le_refl _) ?_
    exact ⟨rfl, rfl⟩
  ·
    rw [if_neg (by omega), if_neg (by omega), if_neg (by omega), if_neg (by omega), if_neg (by omega), if_neg (by omega), if_neg (by omega), if_neg (by omega), if_pos (by omega)]
    refine V_iconst (v := nI 2) dX12_count_92 (by decide) ?_
    refine V_aload_n dX12_count_93 rfl ?_
    refine V_callVpi0 [0] (s_X12_orders (d := d - 1) (by omega) h) gX12_count_X12_orders dX12_count_94 oX12_orders rfl rfl rfl rfl (Nat.le_of_ble_eq_true rfl) (by omega) ⟨Nat.le_refl _, Nat.le_refl _⟩ ?_
    first | refine V_imul_N dX12_count_97 ?_ | refine V_imul dX12_count_97 ?_
    refine V_iret dX12_count_98 rfl (Nat.le_of_ble_eq_true rfl) (Nat.le_refl _) (Nat.le_refl _) ?_
    exact ⟨rfl, rfl⟩
  ·
    rw [if_neg (by omega), if_neg (by omega), if_neg (by omega), if_neg (by omega), if_neg (by omega), if_neg (by omega), if_neg (by omega), if_neg (by omega), if_neg (by omega)]
    refine V_bipush (v := (-2)) dX12_count_99 (by decide) ?_
    refine V_iret dX12_count_101 rfl (Nat.le_of_ble_eq_true rfl) (Nat.le_refl _) (Nat.le_refl _) ?_
    exact ⟨rfl, rfl⟩
end MDL9

