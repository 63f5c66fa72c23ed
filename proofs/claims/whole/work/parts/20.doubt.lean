/-! Doubt: how long two offsets can both be possible -/
theorem z_su : ∀ n, n < 32 → (((nI n).toUInt32 &&& Int32.toUInt32 31).toBitVec % 32).toNat = n := by decide +kernel
noncomputable def stB (q n : Nat) (B : Nat → Bool) (row j r : Nat) : Bool := dB (∃ w, B w = true ∧ w / q ^ (n - 1 - plc n r j) % q ^ (bhd n r j + 1) = row % q ^ (bhd n r j + 1))
/-- one tail with each letter; all tails -/
noncomputable def tbI (q n : Nat) (B : Nat → Bool) (j r s t : Nat) : Nat → Nat → Nat → Nat
  | 0, _, a => a
  | f + 1, c, a => tbI q n B j r s t f (c + 1) (if stB q n B (t * q + c) j r = true ∧ stB q n B (t * q + c) j s = true then a ||| 2 ^ ((t * q + c) % q ^ min (j + 1) (n - 1)) else a)
noncomputable def tbO (q n : Nat) (B : Nat → Bool) (j r s M : Nat) : Nat → Nat → Nat → Nat
  | 0, _, a => a
  | f + 1, t, a => tbO q n B j r s M f (t + 1) (if M / 2 ^ t % 2 = 0 then a else tbI q n B j r s t q 0 a)
noncomputable def tbN (q n : Nat) (B : Nat → Bool) (j r s M : Nat) : Nat := tbO q n B j r s M (q ^ min j (n - 1)) 0 0
noncomputable def efF (q n : Nat) (B : Nat → Bool) (r s : Nat) : Nat → Nat → Nat → Nat
  | 0, _, _ => 13
  | f + 1, j, M => if tbN q n B j r s M = 0 then j + 1 else efF q n B r s f (j + 1) (tbN q n B j r s M)
noncomputable def dlI (q n : Nat) (B : Nat → Bool) (r : Nat) : Nat → Nat → Nat → Nat
  | 0, _, l => l
  | f + 1, s, l => dlI q n B r f (s + 1) (max l (efF q n B r s 12 0 1))
noncomputable def dlO (q n : Nat) (B : Nat → Bool) : Nat → Nat → Nat → Nat
  | 0, _, l => l
  | f + 1, r, l => dlO q n B f (r + 1) (dlI q n B r (n - (r + 1)) (r + 1) l)
noncomputable def dlN (q n : Nat) (B : Nat → Bool) : Nat := dlO q n B n 0 1
theorem bits_or {a i : Nat} (ha : a < 2 ^ 16) (hi : i < 16) : a ||| 2 ^ i < 2 ^ 16 := Nat.or_lt_two_pow ha (Nat.pow_lt_pow_right (by decide) hi)
theorem room16 {q n : Nat} (h : OKq q n) (hs : q ^ n ≤ 32) : q ^ (n - 1) ≤ 16 := by
  have key : ∀ x ∈ okL, x.1 ^ x.2 ≤ 32 → x.1 ^ (x.2 - 1) ≤ 16 := by decide +kernel
  exact key (q, n) h.mem hs
theorem span_le {q n k : Nat} (h : OKq q n) (hs : q ^ n ≤ 32) : q ^ min k (n - 1) ≤ 16 := Nat.le_trans (Nat.pow_le_pow_right (by have := h.1; omega) (Nat.min_le_right _ _)) (room16 h hs)
theorem tbI_lt {q n j r s t : Nat} {B : Nat → Bool} (h : OKq q n) (hs : q ^ n ≤ 32) : ∀ (f c a : Nat), a < 2 ^ 16 → tbI q n B j r s t f c a < 2 ^ 16
  | 0, _, a, ha => ha
  | f + 1, c, a, ha => by
    rw [tbI]
    refine tbI_lt h hs f (c + 1) _ ?_
    have h1 := span_le (k := j + 1) h hs
    have h2 := Nat.mod_lt (t * q + c) (h.pos (min (j + 1) (n - 1)))
    split
    · exact bits_or ha (by omega)
    · exact ha
theorem tbO_lt {q n j r s M : Nat} {B : Nat → Bool} (h : OKq q n) (hs : q ^ n ≤ 32) : ∀ (f t a : Nat), a < 2 ^ 16 → tbO q n B j r s M f t a < 2 ^ 16
  | 0, _, a, ha => ha
  | f + 1, t, a, ha => by
    rw [tbO]
    refine tbO_lt h hs f (t + 1) _ ?_
    split
    · exact ha
    · exact tbI_lt h hs _ _ _ ha
theorem tbN_lt {q n j r s M : Nat} {B : Nat → Bool} (h : OKq q n) (hs : q ^ n ≤ 32) : tbN q n B j r s M < 2 ^ 16 := tbO_lt h hs _ _ _ (by decide)
theorem efF_le {q n r s : Nat} {B : Nat → Bool} : ∀ (f j M : Nat), j + f ≤ 12 → efF q n B r s f j M ≤ 13
  | 0, _, _, _ => Nat.le_refl _
  | f + 1, j, M, h => by
    rw [efF]
    split
    · omega
    · exact efF_le f (j + 1) _ (by omega)
theorem dlI_le {q n r : Nat} {B : Nat → Bool} : ∀ (f s l : Nat), l ≤ 13 → dlI q n B r f s l ≤ 13
  | 0, _, _, h => h
  | f + 1, s, l, h => by
    rw [dlI]
    exact dlI_le f (s + 1) _ (by have := efF_le (q := q) (n := n) (r := r) (s := s) (B := B) 12 0 1 (by omega); omega)
theorem dlI_top {q n r : Nat} {B : Nat → Bool} : ∀ (f s : Nat), dlI q n B r f s 13 = 13
  | 0, _ => rfl
  | f + 1, s => by
    rw [dlI, show max 13 (efF q n B r s 12 0 1) = 13 by have := efF_le (q := q) (n := n) (r := r) (s := s) (B := B) 12 0 1 (by omega); omega]
    exact dlI_top f (s + 1)
theorem dlO_le {q n : Nat} {B : Nat → Bool} : ∀ (f r l : Nat), l ≤ 13 → dlO q n B f r l ≤ 13
  | 0, _, _, h => h
  | f + 1, r, l, h => by rw [dlO]; exact dlO_le f (r + 1) _ (dlI_le _ _ _ h)
section DOUBT
variable {tO d q n b0 b1 b2 b3 b4 b5 a0 a1 m : Nat} {W Hd Im O E : Nat → Int32} {B : Nat → Bool}
theorem s_X3_stands (hd : 4 ≤ d) (h : OKq q n) (hB : Bk (q ^ n) B W m) {row j r : Nat} (hrow : row < 2 ^ 20) (hj : j < 12) (hr : r < n) : SpP tO MX3_stands (d, 0, 0) [.ref b0, .int (nI row), .int (nI j), .int (nI r)] (bkG b0 b1 b2 b3 b4 b5 a0 a1 q n m W Hd Im O E) (some (.int (bI (stB q n B row j r)))) := by
  refine eX3_stands [some (.ref b0), some (.int (nI row)), some (.int (nI j)), some (.int (nI r)), none, none, none] rfl (Nat.le_of_ble_eq_true rfl) ?_
  have hn := h.2.2.2.1
  have hn1 := h.2.2.1
  have hp := plc_lt (n := n) (r := r) (j := j) (by omega)
  have hp9 : (j + (n - r)) % n = plc n r j := rfl
  have hb9 : min (plc n r j) j = bhd n r j := rfl
  have hbl : bhd n r j ≤ plc n r j := Nat.min_le_left _ _
  have h5 := h.le5 (k := bhd n r j + 1) (by omega)
  have h0 := h.pos (bhd n r j + 1)
  have hm := Nat.mod_lt row h0
  refine V_aload_n dX3_stands_0 rfl ?_
  refine V_get 0 dX3_stands_1 fX3_stands_9 rfl rfl ?_
  refine V_astore dX3_stands_4 (by decide) rfl ?_
  refine V_iload_n dX3_stands_6 rfl ?_
  refine V_iload_n dX3_stands_7 rfl ?_
  refine V_isub dX3_stands_8 ?_
  refine V_aload dX3_stands_9 rfl ?_
  refine V_get 6 dX3_stands_11 fX3_stands_15 rfl rfl ?_
  refine V_iadd dX3_stands_14 ?_
  refine V_to (show nI j - nI r + nI n = nI (j + (n - r)) by rw [← nI_add, ← pk_sub (show r ≤ n by omega), Int32.sub_eq_add_neg, Int32.sub_eq_add_neg, Int32.add_assoc, Int32.add_comm (-nI r)]) ?_
  refine V_aload dX3_stands_15 rfl ?_
  refine V_get 6 dX3_stands_17 fX3_stands_15 rfl rfl ?_
  refine V_callSpi2 [] (s_X8_rest (d := d - 1) (by omega) (by omega) (by omega) (by omega)) gX3_stands_X8_rest dX3_stands_20 oX8_rest rfl rfl (Nat.le_of_ble_eq_true rfl) (by omega) ⟨Nat.le_refl _, Nat.le_refl _⟩ ?_
  rw [hp9]
  refine V_istore dX3_stands_23 (by decide) rfl ?_
  refine V_iload dX3_stands_25 rfl ?_
  refine V_iload_n dX3_stands_27 rfl ?_
  first | refine V_mmin_N dX3_stands_28 mmX3_stands_37 (by omega) (Nat.le_of_ble_eq_true rfl) (Nat.le_refl _) (Nat.le_refl _) (by omega) (by omega) ?_ | refine V_mmin dX3_stands_28 mmX3_stands_37 (by omega) (Nat.le_of_ble_eq_true rfl) (Nat.le_refl _) (Nat.le_refl _) ?_
  rw [hb9]
  refine V_iconst (v := nI 1) dX3_stands_31 (by decide) ?_
  first | refine V_iadd_N dX3_stands_32 ?_ | refine V_iadd dX3_stands_32 ?_
  refine V_istore dX3_stands_33 (by decide) rfl ?_
  refine V_aload_n dX3_stands_35 rfl ?_
  refine V_iload_n dX3_stands_36 rfl ?_
  refine V_aload dX3_stands_37 rfl ?_
  refine V_iload dX3_stands_39 rfl ?_
  refine V_callVpi1 [6, 7] (s_X0_power (d := d - 1) (by omega) (by omega)) gX3_stands_X0_power dX3_stands_41 oX0_power rfl rfl rfl rfl (Nat.le_of_ble_eq_true rfl) (by omega) ⟨Nat.le_refl _, Nat.le_refl _⟩ ?_
  refine V_callSpi2 [] (s_X8_rest (d := d - 1) (by omega) (by omega) h0 (by omega)) gX3_stands_X8_rest dX3_stands_44 oX8_rest rfl rfl (Nat.le_of_ble_eq_true rfl) (by omega) ⟨Nat.le_refl _, Nat.le_refl _⟩ ?_
  refine V_iload dX3_stands_47 rfl ?_
  refine V_iload dX3_stands_49 rfl ?_
  refine V_callVpi3 [0, 1, 2, 3, 4, 5, 6, 7] (s_X1_fits (d := d - 1) (by omega) h (N := 0) hB (by omega) (by omega) hp) gX3_stands_X1_fits dX3_stands_51 oX1_fits rfl rfl rfl rfl (Nat.le_of_ble_eq_true rfl) (by omega) ⟨Nat.le_refl _, Nat.le_refl _⟩ ?_
  refine V_zret dX3_stands_54 rfl (by first | exact Or.inl rfl | exact Or.inr rfl | exact bI_or _) (Nat.le_of_ble_eq_true rfl) (Nat.le_refl _) (Nat.le_refl _) ?_
  exact ⟨rfl, rfl⟩
theorem l_X3_tbI (hd : 5 ≤ d) (h : OKq q n) (hs : q ^ n ≤ 32) (hB : Bk (q ^ n) B W m) {j r s t M : Nat} (hj : j < 12) (hr : r < n) (hs2 : s < n) (ht : t < 16) {Q : zPo} {w0 : zW} (next : ∀ a, a = tbI q n B j r s t q 0 a → True) : ∀ (f c a : Nat), c + f = q → a < 2 ^ 16 → V tO MX3_tailsBehind (d, 0, 0) w0 Q (0, 0) (bkG b0 b1 b2 b3 b4 b5 a0 a1 q n m W Hd Im O E) 137 [some (.ref b0), some (.int (nI M)), some (.int (nI j)), some (.int (nI r)), some (.int (nI s)), some (.ref a0), some (.int (nI (n - 1))), some (.int (nI (q ^ min j (n - 1)))), some (.int (nI (q ^ min (j + 1) (n - 1)))), some (.int (nI (tbI q n B j r s t f c a))), some (.int (nI t)), none, none] [] → V tO MX3_tailsBehind (d, 0, 0) w0 Q (0, 0) (bkG b0 b1 b2 b3 b4 b5 a0 a1 q n m W Hd Im O E) 71 [some (.ref b0), some (.int (nI M)), some (.int (nI j)), some (.int (nI r)), some (.int (nI s)), some (.ref a0), some (.int (nI (n - 1))), some (.int (nI (q ^ min j (n - 1)))), some (.int (nI (q ^ min (j + 1) (n - 1)))), some (.int (nI a)), some (.int (nI t)), some (.int (nI c)), none] [] := by
  have hq := h.2.1
  have h1 := span_le (k := j + 1) h hs
  have h0 := h.pos (min (j + 1) (n - 1))
  intro f
  induction f with
  | zero =>
    intro c a hc ha nx
    refine V_iload dX3_tailsBehind_71 rfl ?_
    refine V_aload dX3_tailsBehind_73 rfl ?_
    refine V_get 6 dX3_tailsBehind_75 fX3_tailsBehind_44 rfl rfl ?_
    refine V_icmp_ge_N 137 dX3_tailsBehind_78 (by decide) (by omega) (by omega) (fun c_78 => ?_) (fun c_78 => absurd c_78 (by omega))
    exact V_wk [some (.ref b0), some (.int (nI M)), some (.int (nI j)), some (.int (nI r)), some (.int (nI s)), some (.ref a0), some (.int (nI (n - 1))), some (.int (nI (q ^ min j (n - 1)))), some (.int (nI (q ^ min (j + 1) (n - 1)))), some (.int (nI a)), some (.int (nI t)), none, none] ⟨rfl, rfl, rfl, rfl, rfl, rfl, rfl, rfl, rfl, rfl, rfl, trivial, trivial, trivial⟩ nx
  | succ f ih =>
    intro c a hc ha nx
    rw [tbI] at nx
    have hrow : t * q + c < 2 ^ 20 := by have := Nat.mul_le_mul (Nat.le_of_lt ht) hq; omega
    have hm := Nat.mod_lt (t * q + c) h0
    have e9 : nI a ||| nI (2 ^ ((t * q + c) % q ^ min (j + 1) (n - 1))) = nI (a ||| 2 ^ ((t * q + c) % q ^ min (j + 1) (n - 1))) := nI_or _ _
    refine V_iload dX3_tailsBehind_71 rfl ?_
    refine V_aload dX3_tailsBehind_73 rfl ?_
    refine V_get 6 dX3_tailsBehind_75 fX3_tailsBehind_44 rfl rfl ?_
    refine V_icmp_ge_N 137 dX3_tailsBehind_78 (by decide) (by omega) (by omega) (fun c_78 => absurd c_78 (by omega)) (fun c_78 => ?_)
    refine V_iload dX3_tailsBehind_81 rfl ?_
    refine V_aload dX3_tailsBehind_83 rfl ?_
    refine V_get 6 dX3_tailsBehind_85 fX3_tailsBehind_44 rfl rfl ?_
    first | refine V_imul_N dX3_tailsBehind_88 ?_ | refine V_imul dX3_tailsBehind_88 ?_
    refine V_iload dX3_tailsBehind_89 rfl ?_
    first | refine V_iadd_N dX3_tailsBehind_91 ?_ | refine V_iadd dX3_tailsBehind_91 ?_
    refine V_istore dX3_tailsBehind_92 (by decide) rfl ?_
    refine V_aload_n dX3_tailsBehind_94 rfl ?_
    refine V_iload dX3_tailsBehind_95 rfl ?_
    refine V_iload_n dX3_tailsBehind_97 rfl ?_
    refine V_iload_n dX3_tailsBehind_98 rfl ?_
    refine V_callSpi4 [0, 1, 2, 3, 4, 5, 6, 7] (s_X3_stands (d := d - 1) (by omega) h hB hrow hj hr) gX3_tailsBehind_X3_stands dX3_tailsBehind_99 oX3_stands rfl rfl (Nat.le_of_ble_eq_true rfl) (by omega) ⟨Nat.le_refl _, Nat.le_refl _⟩ ?_
    first | refine V_if_eq_B 131 dX3_tailsBehind_102 (by decide) (fun c_102 => ?_) (fun c_102 => ?_) | refine V_if_eq_N 131 dX3_tailsBehind_102 (by decide) (by omega) (fun c_102 => ?_) (fun c_102 => ?_) | refine V_if_eq 131 dX3_tailsBehind_102 (by decide) (fun c_102 => ?_) (fun c_102 => ?_)
    ·
      rw [if_neg (by rw [c_102]; exact fun hh => Bool.false_ne_true hh.1)] at nx
      first | refine V_iinc_N (i := 1) dX3_tailsBehind_131 rfl (by decide) rfl ?_ | refine V_iinc dX3_tailsBehind_131 rfl rfl (by decide) rfl ?_
      refine V_goto 71 dX3_tailsBehind_134 (by decide) ?_
      exact V_wk [some (.ref b0), some (.int (nI M)), some (.int (nI j)), some (.int (nI r)), some (.int (nI s)), some (.ref a0), some (.int (nI (n - 1))), some (.int (nI (q ^ min j (n - 1)))), some (.int (nI (q ^ min (j + 1) (n - 1)))), some (.int (nI _)), some (.int (nI t)), some (.int (nI (c + 1))), none] ⟨rfl, rfl, rfl, rfl, rfl, rfl, rfl, rfl, rfl, rfl, rfl, rfl, trivial, trivial⟩ (ih (c + 1) _ (by omega) (by first | exact ha | exact bits_or ha (by omega)) nx)
    ·
      refine V_aload_n dX3_tailsBehind_105 rfl ?_
      refine V_iload dX3_tailsBehind_106 rfl ?_
      refine V_iload_n dX3_tailsBehind_108 rfl ?_
      refine V_iload dX3_tailsBehind_109 rfl ?_
      refine V_callSpi4 [0, 1, 2, 3, 4, 5, 6, 7] (s_X3_stands (d := d - 1) (by omega) h hB hrow hj hs2) gX3_tailsBehind_X3_stands dX3_tailsBehind_111 oX3_stands rfl rfl (Nat.le_of_ble_eq_true rfl) (by omega) ⟨Nat.le_refl _, Nat.le_refl _⟩ ?_
      first | refine V_if_eq_B 131 dX3_tailsBehind_114 (by decide) (fun c_114 => ?_) (fun c_114 => ?_) | refine V_if_eq_N 131 dX3_tailsBehind_114 (by decide) (by omega) (fun c_114 => ?_) (fun c_114 => ?_) | refine V_if_eq 131 dX3_tailsBehind_114 (by decide) (fun c_114 => ?_) (fun c_114 => ?_)
      ·
        rw [if_neg (by rw [c_114]; exact fun hh => Bool.false_ne_true hh.2)] at nx
        first | refine V_iinc_N (i := 1) dX3_tailsBehind_131 rfl (by decide) rfl ?_ | refine V_iinc dX3_tailsBehind_131 rfl rfl (by decide) rfl ?_
        refine V_goto 71 dX3_tailsBehind_134 (by decide) ?_
        exact V_wk [some (.ref b0), some (.int (nI M)), some (.int (nI j)), some (.int (nI r)), some (.int (nI s)), some (.ref a0), some (.int (nI (n - 1))), some (.int (nI (q ^ min j (n - 1)))), some (.int (nI (q ^ min (j + 1) (n - 1)))), some (.int (nI _)), some (.int (nI t)), some (.int (nI (c + 1))), none] ⟨rfl, rfl, rfl, rfl, rfl, rfl, rfl, rfl, rfl, rfl, rfl, rfl, trivial, trivial⟩ (ih (c + 1) _ (by omega) (by first | exact ha | exact bits_or ha (by omega)) nx)
      ·
        rw [if_pos ⟨c_102, c_114⟩] at nx
        refine V_iload dX3_tailsBehind_117 rfl ?_
        refine V_iconst (v := nI 1) dX3_tailsBehind_119 (by decide) ?_
        refine V_iload dX3_tailsBehind_120 rfl ?_
        refine V_iload dX3_tailsBehind_122 rfl ?_
        refine V_callSpi2 [] (s_X8_rest (d := d - 1) (by omega) (by omega) h0 (by omega)) gX3_tailsBehind_X8_rest dX3_tailsBehind_124 oX8_rest rfl rfl (Nat.le_of_ble_eq_true rfl) (by omega) ⟨Nat.le_refl _, Nat.le_refl _⟩ ?_
        refine V_ishl dX3_tailsBehind_127 ?_
        refine V_to (nI_shl1 _ (by omega)) ?_
        refine V_ior dX3_tailsBehind_128 ?_
        refine V_to e9 ?_
        refine V_istore dX3_tailsBehind_129 (by decide) rfl ?_
        first | refine V_iinc_N (i := 1) dX3_tailsBehind_131 rfl (by decide) rfl ?_ | refine V_iinc dX3_tailsBehind_131 rfl rfl (by decide) rfl ?_
        refine V_goto 71 dX3_tailsBehind_134 (by decide) ?_
        exact V_wk [some (.ref b0), some (.int (nI M)), some (.int (nI j)), some (.int (nI r)), some (.int (nI s)), some (.ref a0), some (.int (nI (n - 1))), some (.int (nI (q ^ min j (n - 1)))), some (.int (nI (q ^ min (j + 1) (n - 1)))), some (.int (nI _)), some (.int (nI t)), some (.int (nI (c + 1))), none] ⟨rfl, rfl, rfl, rfl, rfl, rfl, rfl, rfl, rfl, rfl, rfl, rfl, trivial, trivial⟩ (ih (c + 1) _ (by omega) (by first | exact ha | exact bits_or ha (by omega)) nx)
theorem l_X3_tbO (hd : 5 ≤ d) (h : OKq q n) (hs : q ^ n ≤ 32) (hB : Bk (q ^ n) B W m) {j r s M : Nat} (hM : M < 2 ^ 16) (hj : j < 12) (hr : r < n) (hs2 : s < n) : ∀ (f t a : Nat), t + f = q ^ min j (n - 1) → a < 2 ^ 16 → V tO MX3_tailsBehind (d, 0, 0) (bkG b0 b1 b2 b3 b4 b5 a0 a1 q n m W Hd Im O E) (fun v w' => v = some (.int (nI (tbO q n B j r s M f t a))) ∧ w' = bkG b0 b1 b2 b3 b4 b5 a0 a1 q n m W Hd Im O E) (0, 0) (bkG b0 b1 b2 b3 b4 b5 a0 a1 q n m W Hd Im O E) 49 [some (.ref b0), some (.int (nI M)), some (.int (nI j)), some (.int (nI r)), some (.int (nI s)), some (.ref a0), some (.int (nI (n - 1))), some (.int (nI (q ^ min j (n - 1)))), some (.int (nI (q ^ min (j + 1) (n - 1)))), some (.int (nI a)), some (.int (nI t)), none, none] [] := by
  have h1 := span_le (k := j) h hs
  intro f
  induction f with
  | zero =>
    intro t a ht ha
    refine V_iload dX3_tailsBehind_49 rfl ?_
    refine V_iload dX3_tailsBehind_51 rfl ?_
    refine V_icmp_ge_N 143 dX3_tailsBehind_53 (by decide) (by omega) (by omega) (fun c_53 => ?_) (fun c_53 => absurd c_53 (by omega))
    refine V_iload dX3_tailsBehind_143 rfl ?_
    refine V_iret dX3_tailsBehind_145 rfl (Nat.le_of_ble_eq_true rfl) (Nat.le_refl _) (Nat.le_refl _) ?_
    exact ⟨rfl, rfl⟩
  | succ f ih =>
    intro t a ht ha
    rw [tbO]
    have i1 := ih (t + 1)
    refine V_iload dX3_tailsBehind_49 rfl ?_
    refine V_iload dX3_tailsBehind_51 rfl ?_
    refine V_icmp_ge_N 143 dX3_tailsBehind_53 (by decide) (by omega) (by omega) (fun c_53 => absurd c_53 (by omega)) (fun c_53 => ?_)
    refine V_iload_n dX3_tailsBehind_56 rfl ?_
    refine V_iload dX3_tailsBehind_57 rfl ?_
    refine V_iushr dX3_tailsBehind_59 ?_
    refine V_to (pk_ushrN (by omega) (nI t) t (z_su t (by omega))) ?_
    refine V_iconst (v := nI 1) dX3_tailsBehind_60 (by decide) ?_
    refine V_iand dX3_tailsBehind_61 ?_
    refine V_to (pk_andN (k := 1) (Nat.lt_of_le_of_lt (Nat.div_le_self M (2 ^ t)) (by omega)) (by decide)) ?_
    refine V_if_ne_N 68 dX3_tailsBehind_62 (by decide) (by omega) (fun c_62 => ?_) (fun c_62 => ?_)
    ·
      rw [if_neg (by rw [Nat.pow_one] at c_62; omega)]
      refine V_iconst (v := nI 0) dX3_tailsBehind_68 (by decide) ?_
      refine V_istore dX3_tailsBehind_69 (by decide) rfl ?_
      refine l_X3_tbI hd h hs hB hj hr hs2 (by omega) (fun _ _ => trivial) q 0 a (by omega) ha ?_
      refine V_iinc_N (i := 1) dX3_tailsBehind_137 rfl (by decide) rfl ?_
      refine V_goto 49 dX3_tailsBehind_140 (by decide) ?_
      exact i1 _ (by omega) (tbI_lt h hs _ _ _ ha)
    ·
      rw [if_pos (by rw [Nat.pow_one] at c_62; omega)]
      refine V_goto 137 dX3_tailsBehind_65 (by decide) ?_
      first | refine V_iinc_N (i := 1) dX3_tailsBehind_137 rfl (by decide) rfl ?_ | refine V_iinc dX3_tailsBehind_137 rfl rfl (by decide) rfl ?_
      refine V_goto 49 dX3_tailsBehind_140 (by decide) ?_
      exact i1 a (by omega) ha
theorem s_X3_tailsBehind (hd : 5 ≤ d) (h : OKq q n) (hs : q ^ n ≤ 32) (hB : Bk (q ^ n) B W m) {j r s M : Nat} (hM : M < 2 ^ 16) (hj : j < 12) (hr : r < n) (hs2 : s < n) : SpP tO MX3_tailsBehind (d, 0, 0) [.ref b0, .int (nI M), .int (nI j), .int (nI r), .int (nI s)] (bkG b0 b1 b2 b3 b4 b5 a0 a1 q n m W Hd Im O E) (some (.int (nI (tbN q n B j r s M)))) := by
  refine eX3_tailsBehind [some (.ref b0), some (.int (nI M)), some (.int (nI j)), some (.int (nI r)), some (.int (nI s)), none, none, none, none, none, none, none, none] rfl (Nat.le_of_ble_eq_true rfl) ?_
  have hn := h.2.2.2.1
  have hn1 := h.2.2.1
  refine V_aload_n dX3_tailsBehind_0 rfl ?_
  refine V_get 0 dX3_tailsBehind_1 fX3_tailsBehind_9 rfl rfl ?_
  refine V_astore dX3_tailsBehind_4 (by decide) rfl ?_
  refine V_aload dX3_tailsBehind_6 rfl ?_
  refine V_get 6 dX3_tailsBehind_8 fX3_tailsBehind_15 rfl rfl ?_
  refine V_iconst (v := nI 1) dX3_tailsBehind_11 (by decide) ?_
  first | refine V_isub_N dX3_tailsBehind_12 (by omega) ?_ | refine V_isub dX3_tailsBehind_12 ?_
  refine V_istore dX3_tailsBehind_13 (by decide) rfl ?_
  refine V_aload dX3_tailsBehind_15 rfl ?_
  refine V_iload_n dX3_tailsBehind_17 rfl ?_
  refine V_iload dX3_tailsBehind_18 rfl ?_
  first | refine V_mmin_N dX3_tailsBehind_20 mmX3_tailsBehind_37 (by omega) (Nat.le_of_ble_eq_true rfl) (Nat.le_refl _) (Nat.le_refl _) (by omega) (by omega) ?_ | refine V_mmin dX3_tailsBehind_20 mmX3_tailsBehind_37 (by omega) (Nat.le_of_ble_eq_true rfl) (Nat.le_refl _) (Nat.le_refl _) ?_
  refine V_callVpi1 [6, 7] (s_X0_power (d := d - 1) (by omega) (by omega)) gX3_tailsBehind_X0_power dX3_tailsBehind_23 oX0_power rfl rfl rfl rfl (Nat.le_of_ble_eq_true rfl) (by omega) ⟨Nat.le_refl _, Nat.le_refl _⟩ ?_
  refine V_istore dX3_tailsBehind_26 (by decide) rfl ?_
  refine V_aload dX3_tailsBehind_28 rfl ?_
  refine V_iload_n dX3_tailsBehind_30 rfl ?_
  refine V_iconst (v := nI 1) dX3_tailsBehind_31 (by decide) ?_
  first | refine V_iadd_N dX3_tailsBehind_32 ?_ | refine V_iadd dX3_tailsBehind_32 ?_
  refine V_iload dX3_tailsBehind_33 rfl ?_
  first | refine V_mmin_N dX3_tailsBehind_35 mmX3_tailsBehind_37 (by omega) (Nat.le_of_ble_eq_true rfl) (Nat.le_refl _) (Nat.le_refl _) (by omega) (by omega) ?_ | refine V_mmin dX3_tailsBehind_35 mmX3_tailsBehind_37 (by omega) (Nat.le_of_ble_eq_true rfl) (Nat.le_refl _) (Nat.le_refl _) ?_
  refine V_callVpi1 [6, 7] (s_X0_power (d := d - 1) (by omega) (by omega)) gX3_tailsBehind_X0_power dX3_tailsBehind_38 oX0_power rfl rfl rfl rfl (Nat.le_of_ble_eq_true rfl) (by omega) ⟨Nat.le_refl _, Nat.le_refl _⟩ ?_
  refine V_istore dX3_tailsBehind_41 (by decide) rfl ?_
  refine V_iconst (v := nI 0) dX3_tailsBehind_43 (by decide) ?_
  refine V_istore dX3_tailsBehind_44 (by decide) rfl ?_
  refine V_iconst (v := nI 0) dX3_tailsBehind_46 (by decide) ?_
  refine V_istore dX3_tailsBehind_47 (by decide) rfl ?_
  exact l_X3_tbO hd h hs hB hM hj hr hs2 _ 0 0 (by omega) (by decide)
theorem l_X3_endsFor (hd : 6 ≤ d) (h : OKq q n) (hs : q ^ n ≤ 32) (hB : Bk (q ^ n) B W m) {r s : Nat} (hr : r < n) (hs2 : s < n) : ∀ (f j M : Nat), j + f = 12 → M < 2 ^ 16 → V tO MX3_endsFor (d, 0, 0) (bkG b0 b1 b2 b3 b4 b5 a0 a1 q n m W Hd Im O E) (fun v w' => v = some (.int (nI (efF q n B r s f j M))) ∧ w' = bkG b0 b1 b2 b3 b4 b5 a0 a1 q n m W Hd Im O E) (0, 0) (bkG b0 b1 b2 b3 b4 b5 a0 a1 q n m W Hd Im O E) 5 [some (.ref b0), some (.int (nI r)), some (.int (nI s)), some (.int (nI M)), some (.int (nI j))] [] := by
  intro f
  induction f with
  | zero =>
    intro j M hj hM
    refine V_iload dX3_endsFor_5 rfl ?_
    refine V_bipush (v := nI 12) dX3_endsFor_7 (by decide) ?_
    refine V_icmp_ge_N 37 dX3_endsFor_9 (by decide) (by omega) (by omega) (fun c_9 => ?_) (fun c_9 => absurd c_9 (by omega))
    refine V_bipush (v := nI 13) dX3_endsFor_37 (by decide) ?_
    refine V_iret dX3_endsFor_39 rfl (Nat.le_of_ble_eq_true rfl) (Nat.le_refl _) (Nat.le_refl _) ?_
    exact ⟨rfl, rfl⟩
  | succ f ih =>
    intro j M hj hM
    rw [efF]
    have hl := tbN_lt (q := q) (n := n) (j := j) (r := r) (s := s) (M := M) (B := B) h hs
    refine V_iload dX3_endsFor_5 rfl ?_
    refine V_bipush (v := nI 12) dX3_endsFor_7 (by decide) ?_
    refine V_icmp_ge_N 37 dX3_endsFor_9 (by decide) (by omega) (by omega) (fun c_9 => absurd c_9 (by omega)) (fun c_9 => ?_)
    refine V_aload_n dX3_endsFor_12 rfl ?_
    refine V_iload_n dX3_endsFor_13 rfl ?_
    refine V_iload dX3_endsFor_14 rfl ?_
    refine V_iload_n dX3_endsFor_16 rfl ?_
    refine V_iload_n dX3_endsFor_17 rfl ?_
    refine V_callSpi5 [0, 1, 2, 3, 4, 5, 6, 7] (s_X3_tailsBehind (d := d - 1) (by omega) h hs hB hM (by omega) hr hs2) gX3_endsFor_X3_tailsBehind dX3_endsFor_18 oX3_tailsBehind rfl rfl (Nat.le_of_ble_eq_true rfl) (by omega) ⟨Nat.le_refl _, Nat.le_refl _⟩ ?_
    refine V_istore_n dX3_endsFor_21 (by decide) rfl ?_
    refine V_iload_n dX3_endsFor_22 rfl ?_
    refine V_if_ne_N 31 dX3_endsFor_23 (by decide) (by omega) (fun c_23 => ?_) (fun c_23 => ?_)
    ·
      rw [if_neg (by omega)]
      first | refine V_iinc_N (i := 1) dX3_endsFor_31 rfl (by decide) rfl ?_ | refine V_iinc dX3_endsFor_31 rfl rfl (by decide) rfl ?_
      refine V_goto 5 dX3_endsFor_34 (by decide) ?_
      exact ih (j + 1) _ (by omega) hl
    ·
      rw [if_pos c_23]
      refine V_iload dX3_endsFor_26 rfl ?_
      refine V_iconst (v := nI 1) dX3_endsFor_28 (by decide) ?_
      first | refine V_iadd_N dX3_endsFor_29 ?_ | refine V_iadd dX3_endsFor_29 ?_
      refine V_iret dX3_endsFor_30 rfl (Nat.le_of_ble_eq_true rfl) (Nat.le_refl _) (Nat.le_refl _) ?_
      exact ⟨rfl, rfl⟩
theorem s_X3_endsFor (hd : 6 ≤ d) (h : OKq q n) (hs : q ^ n ≤ 32) (hB : Bk (q ^ n) B W m) {r s : Nat} (hr : r < n) (hs2 : s < n) : SpP tO MX3_endsFor (d, 0, 0) [.ref b0, .int (nI r), .int (nI s)] (bkG b0 b1 b2 b3 b4 b5 a0 a1 q n m W Hd Im O E) (some (.int (nI (efF q n B r s 12 0 1)))) := by
  refine eX3_endsFor [some (.ref b0), some (.int (nI r)), some (.int (nI s)), none, none] rfl (Nat.le_of_ble_eq_true rfl) ?_
  refine V_iconst (v := nI 1) dX3_endsFor_0 (by decide) ?_
  refine V_istore_n dX3_endsFor_1 (by decide) rfl ?_
  refine V_iconst (v := nI 0) dX3_endsFor_2 (by decide) ?_
  refine V_istore dX3_endsFor_3 (by decide) rfl ?_
  exact l_X3_endsFor hd h hs hB hr hs2 12 0 1 (by omega) (by decide)
theorem s_X3_ends (hd : 7 ≤ d) (h : OKq q n) (hs : q ^ n ≤ 32) (hB : Bk (q ^ n) B W m) : SpP tO MX3_ends (d, 0, 0) [.ref b0] (bkG b0 b1 b2 b3 b4 b5 a0 a1 q n m W Hd Im O E) (some (.int (if dlN q n B ≤ 12 then nI (dlN q n B) else -5))) := by
  refine eX3_ends [some (.ref b0), none, none, none] rfl (Nat.le_of_ble_eq_true rfl) ?_
  have hn := h.2.2.2.1
  have hn1 := h.2.2.1
  have inner : ∀ (r : Nat), r < n → ∀ (f s l : Nat), s + f = n → l ≤ 13 → V tO MX3_ends (d, 0, 0) (bkG b0 b1 b2 b3 b4 b5 a0 a1 q n m W Hd Im O E) (fun v w' => v = some (.int (if dlN q n B ≤ 12 then nI (dlN q n B) else -5)) ∧ w' = bkG b0 b1 b2 b3 b4 b5 a0 a1 q n m W Hd Im O E) (0, 0) (bkG b0 b1 b2 b3 b4 b5 a0 a1 q n m W Hd Im O E) 4 [some (.ref b0), some (.int (nI (dlI q n B r f s l))), some (.int (nI (r + 1))), none] [] → V tO MX3_ends (d, 0, 0) (bkG b0 b1 b2 b3 b4 b5 a0 a1 q n m W Hd Im O E) (fun v w' => v = some (.int (if dlN q n B ≤ 12 then nI (dlN q n B) else -5)) ∧ w' = bkG b0 b1 b2 b3 b4 b5 a0 a1 q n m W Hd Im O E) (0, 0) (bkG b0 b1 b2 b3 b4 b5 a0 a1 q n m W Hd Im O E) 19 [some (.ref b0), some (.int (nI l)), some (.int (nI r)), some (.int (nI s))] [] := by
    intro r hr f
    induction f with
    | zero =>
      intro s l hs3 hl nx
      refine V_iload_n dX3_ends_19 rfl ?_
      refine V_aload_n dX3_ends_20 rfl ?_
      refine V_get 0 dX3_ends_21 fX3_ends_9 rfl rfl ?_
      refine V_get 6 dX3_ends_24 fX3_ends_15 rfl rfl ?_
      refine V_icmp_ge_N 53 dX3_ends_27 (by decide) (by omega) (by omega) (fun c_27 => ?_) (fun c_27 => absurd c_27 (by omega))
      first | refine V_iinc_N (i := 1) dX3_ends_53 rfl (by decide) rfl ?_ | refine V_iinc dX3_ends_53 rfl rfl (by decide) rfl ?_
      refine V_goto 4 dX3_ends_56 (by decide) ?_
      exact V_wk [some (.ref b0), some (.int (nI l)), some (.int (nI (r + 1))), none] ⟨rfl, rfl, rfl, trivial, trivial⟩ nx
    | succ f ih =>
      intro s l hs3 hl nx
      rw [dlI] at nx
      have he := efF_le (q := q) (n := n) (r := r) (s := s) (B := B) 12 0 1 (by omega)
      refine V_iload_n dX3_ends_19 rfl ?_
      refine V_aload_n dX3_ends_20 rfl ?_
      refine V_get 0 dX3_ends_21 fX3_ends_9 rfl rfl ?_
      refine V_get 6 dX3_ends_24 fX3_ends_15 rfl rfl ?_
      refine V_icmp_ge_N 53 dX3_ends_27 (by decide) (by omega) (by omega) (fun c_27 => absurd c_27 (by omega)) (fun c_27 => ?_)
      refine V_iload_n dX3_ends_30 rfl ?_
      refine V_bipush (v := nI 12) dX3_ends_31 (by decide) ?_
      refine V_icmp_gt_N 53 dX3_ends_33 (by decide) (by omega) (by omega) (fun c_33 => ?_) (fun c_33 => ?_)
      ·
        have h13 : l = 13 := by omega
        subst h13
        rw [show max 13 (efF q n B r s 12 0 1) = 13 by omega, dlI_top] at nx
        first | refine V_iinc_N (i := 1) dX3_ends_53 rfl (by decide) rfl ?_ | refine V_iinc dX3_ends_53 rfl rfl (by decide) rfl ?_
        refine V_goto 4 dX3_ends_56 (by decide) ?_
        exact V_wk [some (.ref b0), some (.int (nI 13)), some (.int (nI (r + 1))), none] ⟨rfl, rfl, rfl, trivial, trivial⟩ nx
      ·
        refine V_iload_n dX3_ends_36 rfl ?_
        refine V_aload_n dX3_ends_37 rfl ?_
        refine V_iload_n dX3_ends_38 rfl ?_
        refine V_iload_n dX3_ends_39 rfl ?_
        refine V_callSpi3 [0, 1, 2, 3, 4, 5, 6, 7] (s_X3_endsFor (d := d - 1) (by omega) h hs hB hr (by omega)) gX3_ends_X3_endsFor dX3_ends_40 oX3_endsFor rfl rfl (Nat.le_of_ble_eq_true rfl) (by omega) ⟨Nat.le_refl _, Nat.le_refl _⟩ ?_
        first | refine V_mmax_N dX3_ends_43 mmX3_ends_27 (by omega) (Nat.le_of_ble_eq_true rfl) (Nat.le_refl _) (Nat.le_refl _) (by omega) (by omega) ?_ | refine V_mmax dX3_ends_43 mmX3_ends_27 (by omega) (Nat.le_of_ble_eq_true rfl) (Nat.le_refl _) (Nat.le_refl _) ?_
        refine V_istore_n dX3_ends_46 (by decide) rfl ?_
        first | refine V_iinc_N (i := 1) dX3_ends_47 rfl (by decide) rfl ?_ | refine V_iinc dX3_ends_47 rfl rfl (by decide) rfl ?_
        refine V_goto 19 dX3_ends_50 (by decide) ?_
        exact ih (s + 1) _ (by omega) (by omega) nx
  have outer : ∀ (f r l : Nat), r + f = n → l ≤ 13 → dlO q n B f r l = dlN q n B → V tO MX3_ends (d, 0, 0) (bkG b0 b1 b2 b3 b4 b5 a0 a1 q n m W Hd Im O E) (fun v w' => v = some (.int (if dlN q n B ≤ 12 then nI (dlN q n B) else -5)) ∧ w' = bkG b0 b1 b2 b3 b4 b5 a0 a1 q n m W Hd Im O E) (0, 0) (bkG b0 b1 b2 b3 b4 b5 a0 a1 q n m W Hd Im O E) 4 [some (.ref b0), some (.int (nI l)), some (.int (nI r)), none] [] := by
    intro f
    induction f with
    | zero =>
      intro r l hr hl e
      rw [dlO] at e
      subst e
      refine V_iload_n dX3_ends_4 rfl ?_
      refine V_aload_n dX3_ends_5 rfl ?_
      refine V_get 0 dX3_ends_6 fX3_ends_9 rfl rfl ?_
      refine V_get 6 dX3_ends_9 fX3_ends_15 rfl rfl ?_
      refine V_icmp_ge_N 59 dX3_ends_12 (by decide) (by omega) (by omega) (fun c_12 => ?_) (fun c_12 => absurd c_12 (by omega))
      refine V_iload_n dX3_ends_59 rfl ?_
      refine V_bipush (v := nI 12) dX3_ends_60 (by decide) ?_
      first | refine V_icmp_le_N 70 dX3_ends_62 (by decide) (by omega) (by omega) (fun c_62 => ?_) (fun c_62 => ?_) | refine V_icmp_le 70 dX3_ends_62 (by decide) (fun c_62 => ?_) (fun c_62 => ?_)
      ·
        refine V_iload_n dX3_ends_70 rfl ?_
        refine V_iret dX3_ends_71 rfl (Nat.le_of_ble_eq_true rfl) (Nat.le_refl _) (Nat.le_refl _) ?_
        exact ⟨by first | rw [if_pos c_62] | rw [if_neg (by omega)], rfl⟩
      ·
        refine V_bipush (v := (-5)) dX3_ends_65 (by decide) ?_
        refine V_goto 71 dX3_ends_67 (by decide) ?_
        refine V_iret dX3_ends_71 rfl (Nat.le_of_ble_eq_true rfl) (Nat.le_refl _) (Nat.le_refl _) ?_
        exact ⟨by first | rw [if_pos c_62] | rw [if_neg (by omega)], rfl⟩
    | succ f ih =>
      intro r l hr hl e
      rw [dlO] at e
      refine V_iload_n dX3_ends_4 rfl ?_
      refine V_aload_n dX3_ends_5 rfl ?_
      refine V_get 0 dX3_ends_6 fX3_ends_9 rfl rfl ?_
      refine V_get 6 dX3_ends_9 fX3_ends_15 rfl rfl ?_
      refine V_icmp_ge_N 59 dX3_ends_12 (by decide) (by omega) (by omega) (fun c_12 => absurd c_12 (by omega)) (fun c_12 => ?_)
      refine V_iload_n dX3_ends_15 rfl ?_
      refine V_iconst (v := nI 1) dX3_ends_16 (by decide) ?_
      first | refine V_iadd_N dX3_ends_17 ?_ | refine V_iadd dX3_ends_17 ?_
      refine V_istore_n dX3_ends_18 (by decide) rfl ?_
      exact inner r (by omega) (n - (r + 1)) (r + 1) l (by omega) hl (ih (r + 1) _ (by omega) (dlI_le _ _ _ hl) e)
  refine V_iconst (v := nI 1) dX3_ends_0 (by decide) ?_
  refine V_istore_n dX3_ends_1 (by decide) rfl ?_
  refine V_iconst (v := nI 0) dX3_ends_2 (by decide) ?_
  refine V_istore_n dX3_ends_3 (by decide) rfl ?_
  exact outer n 0 1 (by omega) (by omega) rfl
end DOUBT

