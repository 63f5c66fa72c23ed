/-! Rows: places, divisors -/
section ROWS
variable {tO d : Nat}
set_option maxHeartbeats 4000000 in
theorem s_X8_at (hd : 1 ≤ d) {a n k : Nat} {f : Nat → Int32} (hn : n < 2 ^ 31) (hk : k < 2 ^ 31) : SpP tO MX8_at (d, 0, 0) [.ref a, .int (nI k)] [(a, aI n f)] (some (.int (if k < n then f k else 0))) := by
  refine eX8_at [some (.ref a), some (.int (nI k))] rfl (Nat.le_of_ble_eq_true rfl) ?_
  refine V_iload_n dX8_at_0 rfl ?_
  refine V_if_lt_N 16 dX8_at_1 (by decide) hk ?_
  refine V_iload_n dX8_at_4 rfl ?_
  refine V_aload_n dX8_at_5 rfl ?_
  refine V_alen 0 dX8_at_6 rfl ?_
  refine V_icmp_ge_N 16 dX8_at_7 (by decide) hk hn (fun c_7 => ?_) (fun c_7 => ?_)
  ·
    refine V_iconst (v := nI 0) dX8_at_16 (by decide) ?_
    refine V_iret dX8_at_17 rfl (Nat.le_of_ble_eq_true rfl) (Nat.le_refl _) (Nat.le_refl _) ?_
    exact ⟨by first | rw [if_pos c_7] | (rw [if_neg (by omega)]; rfl), rfl⟩
  ·
    refine V_aload_n dX8_at_10 rfl ?_
    refine V_iload_n dX8_at_11 rfl ?_
    refine V_iald_N 0 dX8_at_12 rfl (by omega) (by first | decide | omega) ?_
    refine V_goto 17 dX8_at_13 (by decide) ?_
    refine V_iret dX8_at_17 rfl (Nat.le_of_ble_eq_true rfl) (Nat.le_refl _) (Nat.le_refl _) ?_
    exact ⟨by first | rw [if_pos c_7] | (rw [if_neg (by omega)]; rfl), rfl⟩
set_option maxHeartbeats 4000000 in
theorem s_X8_atT (hd : 1 ≤ d) {k : Nat} (hk : k < 2 ^ 31) : SpP tO MX8_at (d, 0, 0) [.ref tO, .int (nI k)] [] (some (.int (if k < 96 then zOrd k else 0))) := by
  refine eX8_at [some (.ref tO), some (.int (nI k))] rfl (Nat.le_of_ble_eq_true rfl) ?_
  refine V_iload_n dX8_at_0 rfl ?_
  refine V_if_lt_N 16 dX8_at_1 (by decide) hk ?_
  refine V_iload_n dX8_at_4 rfl ?_
  refine V_aload_n dX8_at_5 rfl ?_
  refine V_tlen dX8_at_6 ?_
  refine V_icmp_ge_N 16 dX8_at_7 (by decide) hk (by decide) (fun c_7 => ?_) (fun c_7 => ?_)
  ·
    refine V_iconst (v := nI 0) dX8_at_16 (by decide) ?_
    refine V_iret dX8_at_17 rfl (Nat.le_of_ble_eq_true rfl) (Nat.le_refl _) (Nat.le_refl _) ?_
    exact ⟨by first | (rw [if_pos c_7, nI_clamp hk]) | (rw [if_neg (by omega)]; rfl), rfl⟩
  ·
    refine V_aload_n dX8_at_10 rfl ?_
    refine V_iload_n dX8_at_11 rfl ?_
    refine V_tald dX8_at_12 (vp_in_nI c_7 (by decide)) ?_
    refine V_goto 17 dX8_at_13 (by decide) ?_
    refine V_iret dX8_at_17 rfl (Nat.le_of_ble_eq_true rfl) (Nat.le_refl _) (Nat.le_refl _) ?_
    exact ⟨by first | (rw [if_pos c_7, nI_clamp hk]) | (rw [if_neg (by omega)]; rfl), rfl⟩
set_option maxHeartbeats 4000000 in
theorem s_X8_set (hd : 1 ≤ d) {a n k : Nat} {f : Nat → Int32} {x : Int32} (hn : n < 2 ^ 31) (hk : k < 2 ^ 31) : SpF tO MX8_set (d, 0, 0) [.ref a, .int (nI k), .int x] [(a, aI n f)] none [(a, aI n (if k < n then upd f k x else f))] := by
  refine eX8_set [some (.ref a), some (.int (nI k)), some (.int x)] rfl (Nat.le_of_ble_eq_true rfl) ?_
  refine V_iload_n dX8_set_0 rfl ?_
  refine V_if_lt_N 14 dX8_set_1 (by decide) hk ?_
  refine V_iload_n dX8_set_4 rfl ?_
  refine V_aload_n dX8_set_5 rfl ?_
  refine V_alen 0 dX8_set_6 rfl ?_
  refine V_icmp_ge_N 14 dX8_set_7 (by decide) hk hn (fun c_7 => ?_) (fun c_7 => ?_)
  ·
    refine V_vret dX8_set_14 rfl (Nat.le_of_ble_eq_true rfl) (Nat.le_refl _) (Nat.le_refl _) ?_
    exact ⟨rfl, by first | (rw [if_pos c_7]; rfl) | (rw [if_neg (by omega)])⟩
  ·
    refine V_aload_n dX8_set_10 rfl ?_
    refine V_iload_n dX8_set_11 rfl ?_
    refine V_iload_n dX8_set_12 rfl ?_
    refine V_iast_N 0 dX8_set_13 rfl (by omega) (by first | decide | omega) ?_
    refine V_vret dX8_set_14 rfl (Nat.le_of_ble_eq_true rfl) (Nat.le_refl _) (Nat.le_refl _) ?_
    exact ⟨rfl, by first | (rw [if_pos c_7]; rfl) | (rw [if_neg (by omega)])⟩
theorem s_X8_atI (hd : 1 ≤ d) {a n k : Nat} {f : Nat → Int32} (hk : k < n) (hn : n < 2 ^ 31) : SpP tO MX8_at (d, 0, 0) [.ref a, .int (nI k)] [(a, aI n f)] (some (.int (f k))) := by
  have h := s_X8_at (tO := tO) (d := d) hd (a := a) (f := f) hn (show k < 2 ^ 31 by omega)
  rwa [if_pos hk] at h
theorem s_X8_setI (hd : 1 ≤ d) {a n k : Nat} {f : Nat → Int32} {x : Int32} (hk : k < n) (hn : n < 2 ^ 31) : SpF tO MX8_set (d, 0, 0) [.ref a, .int (nI k), .int x] [(a, aI n f)] none [(a, aI n (upd f k x))] := by
  have h := s_X8_set (tO := tO) (d := d) hd (a := a) (f := f) (x := x) hn (show k < 2 ^ 31 by omega)
  rwa [if_pos hk] at h
theorem upd_fill {f : Nat → Int32} {x : Int32} {i j : Nat} (h : ∀ j, j < i → f j = x) (hj : j < i + 1) : upd f i x j = x := by
  unfold upd
  by_cases e : j = i
  · rw [if_pos e]
  · rw [if_neg e]; exact h j (by omega)
set_option maxHeartbeats 4000000 in
theorem l_X8_fill {a n : Nat} {f0 : Nat → Int32} {x : Int32} (hn : n < 2 ^ 30) : ∀ (m i : Nat) (f : Nat → Int32), i + m = n → (∀ j, j < i → f j = x) → V tO MX8_fill (d, 0, 0) [(a, aI n f0)] (fun v w' => v = none ∧ w' = [(a, aI n (fun _ => x))]) (0, 0) [(a, aI n f)] 2 [some (.ref a), some (.int x), some (.int (nI i))] [] := by
  intro m
  induction m with
  | zero =>
    intro i f hi hf
    refine V_iload_n dX8_fill_2 rfl ?_
    refine V_aload_n dX8_fill_3 rfl ?_
    refine V_alen 0 dX8_fill_4 rfl ?_
    refine V_icmp_ge_N 18 dX8_fill_5 (by decide) (by omega) (by omega) (fun c_5 => ?_) (fun c_5 => absurd c_5 (by omega))
    refine V_ag [(a, aI n (fun _ => x))] ⟨_, _, rfl, ⟨_, rfl, fun j hj => hf j (by omega)⟩, rfl⟩ ?_
    refine V_vret dX8_fill_18 rfl (Nat.le_of_ble_eq_true rfl) (Nat.le_refl _) (Nat.le_refl _) ?_
    exact ⟨rfl, rfl⟩
  | succ m ih =>
    intro i f hi hf
    refine V_iload_n dX8_fill_2 rfl ?_
    refine V_aload_n dX8_fill_3 rfl ?_
    refine V_alen 0 dX8_fill_4 rfl ?_
    refine V_icmp_ge_N 18 dX8_fill_5 (by decide) (by omega) (by omega) (fun c_5 => absurd c_5 (by omega)) (fun c_5 => ?_)
    refine V_aload_n dX8_fill_8 rfl ?_
    refine V_iload_n dX8_fill_9 rfl ?_
    refine V_iload_n dX8_fill_10 rfl ?_
    refine V_iast_N 0 dX8_fill_11 rfl (by omega) (by first | decide | omega) ?_
    first | refine V_iinc_N (i := 1) dX8_fill_12 rfl (by decide) rfl ?_ | refine V_iinc dX8_fill_12 rfl rfl (by decide) rfl ?_
    refine V_goto 2 dX8_fill_15 (by decide) ?_
    exact ih (i + 1) _ (by omega) (fun j hj => upd_fill hf hj)
theorem s_X8_fill (hd : 1 ≤ d) {a n : Nat} {f : Nat → Int32} {x : Int32} (hn : n < 2 ^ 30) : SpF tO MX8_fill (d, 0, 0) [.ref a, .int x] [(a, aI n f)] none [(a, aI n (fun _ => x))] := by
  refine eX8_fill [some (.ref a), some (.int x), none] rfl (Nat.le_of_ble_eq_true rfl) ?_
  refine V_iconst (v := nI 0) dX8_fill_0 (by decide) ?_
  refine V_istore_n dX8_fill_1 (by decide) rfl ?_
  exact l_X8_fill hn n 0 f (by omega) (fun j hj => by omega)
theorem upd_copy {f g : Nat → Int32} {i j : Nat} (h : ∀ j, j < i → g j = f j) (hj : j < i + 1) : upd g i (f i) j = f j := by
  unfold upd
  by_cases e : j = i
  · rw [if_pos e, e]
  · rw [if_neg e]; exact h j (by omega)
set_option maxHeartbeats 4000000 in
theorem l_X8_copy {a b n : Nat} {f g0 : Nat → Int32} (hn : n < 2 ^ 30) : ∀ (m i : Nat) (g : Nat → Int32), i + m = n → (∀ j, j < i → g j = f j) → V tO MX8_copy (d, 0, 0) [(a, aI n f), (b, aI n g0)] (fun v w' => v = none ∧ w' = [(a, aI n f), (b, aI n f)]) (0, 0) [(a, aI n f), (b, aI n g)] 2 [some (.ref a), some (.ref b), some (.int (nI i))] [] := by
  intro m
  induction m with
  | zero =>
    intro i g hi hg
    refine V_iload_n dX8_copy_2 rfl ?_
    refine V_aload_n dX8_copy_3 rfl ?_
    refine V_alen 0 dX8_copy_4 rfl ?_
    refine V_icmp_ge_N 26 dX8_copy_5 (by decide) (by omega) (by omega) (fun c_5 => ?_) (fun c_5 => absurd c_5 (by omega))
    refine V_ag [(a, aI n f), (b, aI n f)] ⟨_, _, rfl, zAg.self _, _, _, rfl, ⟨_, rfl, fun j hj => hg j (by omega)⟩, rfl⟩ ?_
    refine V_vret dX8_copy_26 rfl (Nat.le_of_ble_eq_true rfl) (Nat.le_refl _) (Nat.le_refl _) ?_
    exact ⟨rfl, rfl⟩
  | succ m ih =>
    intro i g hi hg
    refine V_iload_n dX8_copy_2 rfl ?_
    refine V_aload_n dX8_copy_3 rfl ?_
    refine V_alen 0 dX8_copy_4 rfl ?_
    refine V_icmp_ge_N 26 dX8_copy_5 (by decide) (by omega) (by omega) (fun c_5 => absurd c_5 (by omega)) (fun c_5 => ?_)
    refine V_iload_n dX8_copy_8 rfl ?_
    refine V_aload_n dX8_copy_9 rfl ?_
    refine V_alen 1 dX8_copy_10 rfl ?_
    refine V_icmp_ge_N 26 dX8_copy_11 (by decide) (by omega) (by omega) (fun c_11 => absurd c_11 (by omega)) (fun c_11 => ?_)
    refine V_aload_n dX8_copy_14 rfl ?_
    refine V_iload_n dX8_copy_15 rfl ?_
    refine V_aload_n dX8_copy_16 rfl ?_
    refine V_iload_n dX8_copy_17 rfl ?_
    refine V_iald_N 0 dX8_copy_18 rfl (by omega) (by first | decide | omega) ?_
    refine V_iast_N 1 dX8_copy_19 rfl (by omega) (by first | decide | omega) ?_
    first | refine V_iinc_N (i := 1) dX8_copy_20 rfl (by decide) rfl ?_ | refine V_iinc dX8_copy_20 rfl rfl (by decide) rfl ?_
    refine V_goto 2 dX8_copy_23 (by decide) ?_
    exact ih (i + 1) _ (by omega) (fun j hj => upd_copy hg hj)
theorem s_X8_copy (hd : 1 ≤ d) {a b n : Nat} {f g : Nat → Int32} (hn : n < 2 ^ 30) : SpF tO MX8_copy (d, 0, 0) [.ref a, .ref b] [(a, aI n f), (b, aI n g)] none [(a, aI n f), (b, aI n f)] := by
  refine eX8_copy [some (.ref a), some (.ref b), none] rfl (Nat.le_of_ble_eq_true rfl) ?_
  refine V_iconst (v := nI 0) dX8_copy_0 (by decide) ?_
  refine V_istore_n dX8_copy_1 (by decide) rfl ?_
  exact l_X8_copy hn n 0 g (by omega) (fun j hj => by omega)
theorem s_X8_over (hd : 1 ≤ d) {a b : Nat} (ha : a < 2 ^ 31) (hb : b < 2 ^ 31) : SpP tO MX8_over (d, 0, 0) [.int (nI a), .int (nI b)] [] (some (.int (nI (a / b)))) := by
  refine eX8_over [some (.int (nI a)), some (.int (nI b))] rfl (Nat.le_of_ble_eq_true rfl) ?_
  refine V_iload_n dX8_over_0 rfl ?_
  refine V_if_le_N 10 dX8_over_1 (by decide) hb (fun c_1 => ?_) (fun c_1 => ?_)
  ·
    refine V_iconst (v := nI 0) dX8_over_10 (by decide) ?_
    refine V_iret dX8_over_11 rfl (Nat.le_of_ble_eq_true rfl) (Nat.le_refl _) (Nat.le_refl _) ?_
    exact ⟨by first | rfl | rw [c_1, Nat.div_zero], rfl⟩
  ·
    refine V_iload_n dX8_over_4 rfl ?_
    refine V_iload_n dX8_over_5 rfl ?_
    refine V_idiv_N dX8_over_6 (by omega) (by omega) (by omega) ?_
    refine V_goto 11 dX8_over_7 (by decide) ?_
    refine V_iret dX8_over_11 rfl (Nat.le_of_ble_eq_true rfl) (Nat.le_refl _) (Nat.le_refl _) ?_
    exact ⟨by first | rfl | rw [c_1, Nat.div_zero], rfl⟩
theorem s_X8_rest (hd : 1 ≤ d) {a b : Nat} (ha : a < 2 ^ 31) (h0 : 0 < b) (hb : b < 2 ^ 31) : SpP tO MX8_rest (d, 0, 0) [.int (nI a), .int (nI b)] [] (some (.int (nI (a % b)))) := by
  refine eX8_rest [some (.int (nI a)), some (.int (nI b))] rfl (Nat.le_of_ble_eq_true rfl) ?_
  refine V_iload_n dX8_rest_0 rfl ?_
  refine V_if_le_N 10 dX8_rest_1 (by decide) hb (fun c_1 => absurd c_1 (by omega)) (fun c_1 => ?_)
  refine V_iload_n dX8_rest_4 rfl ?_
  refine V_iload_n dX8_rest_5 rfl ?_
  refine V_irem_N dX8_rest_6 (by omega) (by omega) (by omega) ?_
  refine V_goto 11 dX8_rest_7 (by decide) ?_
  refine V_iret dX8_rest_11 rfl (Nat.le_of_ble_eq_true rfl) (Nat.le_refl _) (Nat.le_refl _) ?_
  exact ⟨rfl, rfl⟩
/-- the common divisor, sought from above -/
def cdF (a b : Nat) : Nat → Nat
  | 0 => 1
  | k + 1 => if 1 < k + 1 then (if a % (k + 1) = 0 then (if b % (k + 1) = 0 then k + 1 else cdF a b k) else cdF a b k) else 1
theorem l_X8_cd (hd : 3 ≤ d) {a b : Nat} (ha : a < 2 ^ 30) (hb : b < 2 ^ 30) : ∀ (k : Nat), k < 2 ^ 30 → V tO MX8_commonDivisor (d, 0, 0) [] (fun v w' => v = some (.int (nI (cdF a b k))) ∧ w' = []) (0, 0) [] 6 [some (.int (nI a)), some (.int (nI b)), some (.int (nI k))] [] := by
  intro k
  induction k with
  | zero =>
    intro hk
    refine V_iload_n dX8_commonDivisor_6 rfl ?_
    refine V_iconst (v := nI 1) dX8_commonDivisor_7 (by decide) ?_
    refine V_icmp_le_N 35 dX8_commonDivisor_8 (by decide) (by omega) (by omega) (fun c_8 => ?_) (fun c_8 => absurd c_8 (by omega))
    refine V_iconst (v := nI 1) dX8_commonDivisor_35 (by decide) ?_
    refine V_iret dX8_commonDivisor_36 rfl (Nat.le_of_ble_eq_true rfl) (Nat.le_refl _) (Nat.le_refl _) ?_
    exact ⟨rfl, rfl⟩
  | succ k ih =>
    intro hk
    refine V_iload_n dX8_commonDivisor_6 rfl ?_
    refine V_iconst (v := nI 1) dX8_commonDivisor_7 (by decide) ?_
    first | refine V_icmp_le_N 35 dX8_commonDivisor_8 (by decide) (by omega) (by omega) (fun c_8 => ?_) (fun c_8 => ?_) | refine V_icmp_le 35 dX8_commonDivisor_8 (by decide) (fun c_8 => ?_) (fun c_8 => ?_)
    ·
      rw [cdF, if_neg (show ¬ 1 < k + 1 by omega)]
      refine V_iconst (v := nI 1) dX8_commonDivisor_35 (by decide) ?_
      refine V_iret dX8_commonDivisor_36 rfl (Nat.le_of_ble_eq_true rfl) (Nat.le_refl _) (Nat.le_refl _) ?_
      exact ⟨rfl, rfl⟩
    ·
      rw [cdF, if_pos c_8]
      refine V_iload_n dX8_commonDivisor_11 rfl ?_
      refine V_iload_n dX8_commonDivisor_12 rfl ?_
      refine V_callSpi2 [] (s_X8_rest (d := d - 1) (by omega) (by omega) (by omega) (by omega)) gX8_commonDivisor_X8_rest dX8_commonDivisor_13 oX8_rest rfl rfl (Nat.le_of_ble_eq_true rfl) (by omega) ⟨Nat.le_refl _, Nat.le_refl _⟩ ?_
      refine V_if_ne_N 29 dX8_commonDivisor_16 (by decide) (by have := Nat.mod_lt a (show 0 < k + 1 by omega); omega) (fun c_16 => ?_) (fun c_16 => ?_)
      ·
        rw [if_neg (show ¬ a % (k + 1) = 0 by omega)]
        refine V_iinc (v := nI k) dX8_commonDivisor_29 rfl (by rw [show Int32.ofInt (-1) = -1 from by decide]; exact pk_m1 k) (by decide) rfl ?_
        refine V_goto 6 dX8_commonDivisor_32 (by decide) ?_
        exact ih (by omega)
      ·
        rw [if_pos c_16]
        refine V_iload_n dX8_commonDivisor_19 rfl ?_
        refine V_iload_n dX8_commonDivisor_20 rfl ?_
        refine V_callSpi2 [] (s_X8_rest (d := d - 1) (by omega) (by omega) (by omega) (by omega)) gX8_commonDivisor_X8_rest dX8_commonDivisor_21 oX8_rest rfl rfl (Nat.le_of_ble_eq_true rfl) (by omega) ⟨Nat.le_refl _, Nat.le_refl _⟩ ?_
        refine V_if_ne_N 29 dX8_commonDivisor_24 (by decide) (by have := Nat.mod_lt b (show 0 < k + 1 by omega); omega) (fun c_24 => ?_) (fun c_24 => ?_)
        ·
          rw [if_neg (show ¬ b % (k + 1) = 0 by omega)]
          refine V_iinc (v := nI k) dX8_commonDivisor_29 rfl (by rw [show Int32.ofInt (-1) = -1 from by decide]; exact pk_m1 k) (by decide) rfl ?_
          refine V_goto 6 dX8_commonDivisor_32 (by decide) ?_
          exact ih (by omega)
        ·
          rw [if_pos c_24]
          refine V_iload_n dX8_commonDivisor_27 rfl ?_
          refine V_iret dX8_commonDivisor_28 rfl (Nat.le_of_ble_eq_true rfl) (Nat.le_refl _) (Nat.le_refl _) ?_
          exact ⟨rfl, rfl⟩
theorem s_X8_commonDivisor (hd : 3 ≤ d) {a b : Nat} (ha : a < 2 ^ 30) (hb : b < 2 ^ 30) : SpP tO MX8_commonDivisor (d, 0, 0) [.int (nI a), .int (nI b)] [] (some (.int (nI (cdF a b (max a b))))) := by
  refine eX8_commonDivisor [some (.int (nI a)), some (.int (nI b)), none] rfl (Nat.le_of_ble_eq_true rfl) ?_
  refine V_iload_n dX8_commonDivisor_0 rfl ?_
  refine V_iload_n dX8_commonDivisor_1 rfl ?_
  first | refine V_mmax_N dX8_commonDivisor_2 mmX8_commonDivisor_7 (by omega) (Nat.le_of_ble_eq_true rfl) (Nat.le_refl _) (Nat.le_refl _) (by omega) (by omega) ?_ | refine V_mmax dX8_commonDivisor_2 mmX8_commonDivisor_7 (by omega) (Nat.le_of_ble_eq_true rfl) (Nat.le_refl _) (Nat.le_refl _) ?_
  refine V_istore_n dX8_commonDivisor_5 (by decide) rfl ?_
  exact l_X8_cd hd ha hb (max a b) (by omega)
end ROWS

