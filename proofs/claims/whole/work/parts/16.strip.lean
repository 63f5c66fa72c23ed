/-! bits; a strip of letters -/
theorem nI_or (a b : Nat) : nI a ||| nI b = nI (a ||| b) := by
  apply Int32.toBitVec_inj.1
  show BitVec.ofNat 32 a ||| BitVec.ofNat 32 b = BitVec.ofNat 32 (a ||| b)
  apply BitVec.eq_of_getLsbD_eq
  intro i hi
  simp [hi]
theorem nI_shl1 : ∀ r, r < 31 → nI 1 <<< (nI r &&& 31) = nI (2 ^ r) := by decide +kernel
/-- the bits at which p holds, below m -/
def btN (p : Nat → Bool) : Nat → Nat
  | 0 => 0
  | r + 1 => btN p r + if p r then 2 ^ r else 0
theorem btN_lt (p : Nat → Bool) : ∀ m, btN p m < 2 ^ m
  | 0 => by simp [btN]
  | m + 1 => by
    rw [btN, Nat.pow_succ]
    have := btN_lt p m
    split <;> omega
theorem btN_cong {p p' : Nat → Bool} : ∀ {m : Nat}, (∀ r, r < m → p r = p' r) → btN p m = btN p' m
  | 0, _ => rfl
  | m + 1, h => by rw [btN, btN, btN_cong (fun r hr => h r (by omega)), h m (by omega)]
theorem btN_or {p : Nat → Bool} {r : Nat} : nI (btN p r) ||| nI (2 ^ r) = nI (btN p r + 2 ^ r) := by
  have h := btN_lt p r
  rw [nI_or, Nat.or_comm]
  have e := Nat.two_pow_add_eq_or_of_lt (i := r) h 1
  rw [Nat.mul_one] at e
  rw [← e, Nat.add_comm]
/-- the first j from there on at which p fails, f to look at -/
def fst (p : Nat → Bool) : Nat → Nat → Nat
  | 0, j => j
  | f + 1, j => if p j then fst p f (j + 1) else j
theorem fst_le (p : Nat → Bool) : ∀ (f j : Nat), j ≤ fst p f j ∧ fst p f j ≤ j + f
  | 0, j => ⟨Nat.le_refl _, Nat.le_refl _⟩
  | f + 1, j => by
    rw [fst]
    have := fst_le p f (j + 1)
    split <;> omega
theorem le_fst {p : Nat → Bool} {k : Nat} : ∀ {f j : Nat}, j ≤ k → k ≤ j + f → (k ≤ fst p f j ↔ ∀ i, j ≤ i → i < k → p i = true)
  | 0, j, h1, h2 => ⟨fun _ i a b => absurd b (by omega), fun _ => by rw [fst]; omega⟩
  | f + 1, j, h1, h2 => by
    rw [fst]
    by_cases e : p j = true
    · rw [if_pos e]
      by_cases ek : k = j
      · subst ek
        exact ⟨fun _ i a b => absurd b (by omega), fun _ => by have := (fst_le p f (k + 1)).1; omega⟩
      · rw [le_fst (by omega) (by omega)]
        constructor
        · intro h i a b
          by_cases ei : i = j
          · subst ei; exact e
          · exact h i (by omega) b
        · exact fun h i a b => h i (by omega) b
    · rw [if_neg e]
      constructor
      · intro h i a b; exact absurd b (by omega)
      · intro h
        apply Decidable.byContradiction
        intro hn
        exact e (h j (Nat.le_refl _) (by omega))
/-- the number that h letters from a on make -/
def num (q : Nat) (L : Nat → Nat) (a : Nat) : Nat → Nat
  | 0 => 0
  | h + 1 => num q L a h * q + L (a + h)
theorem num_lt {q : Nat} {L : Nat → Nat} {a : Nat} : ∀ {h : Nat}, (∀ i, i < h → L (a + i) < q) → num q L a h < q ^ h
  | 0, _ => by simp [num]
  | h + 1, hl => by
    rw [num, Nat.pow_succ]
    have h1 := num_lt (fun i hi => hl i (by omega)) (q := q) (L := L) (a := a) (h := h)
    have h2 := hl h (by omega)
    calc num q L a h * q + L (a + h) < num q L a h * q + q := by omega
      _ = (num q L a h + 1) * q := by rw [Nat.succ_mul]
      _ ≤ q ^ h * q := Nat.mul_le_mul_right _ h1
/-- letter j stands at this place by offset r; so many letters of its stretch are behind it -/
def plc (n r j : Nat) : Nat := (j + (n - r)) % n
def bhd (n r j : Nat) : Nat := min (plc n r j) j
theorem plc_lt {n r j : Nat} (hn : 0 < n) : plc n r j < n := Nat.mod_lt _ hn
theorem plc_0 {n r : Nat} (hn : 0 < n) (hr : r < n) : plc n r 0 = if r = 0 then 0 else n - r := by
  unfold plc
  by_cases e : r = 0
  · rw [if_pos e, e, Nat.zero_add, Nat.sub_zero, Nat.mod_self]
  · rw [if_neg e, Nat.zero_add, Nat.mod_eq_of_lt (by omega)]
theorem plc_succ {n r j : Nat} (hn : 0 < n) : plc n r (j + 1) = if plc n r j + 1 = n then 0 else plc n r j + 1 := by
  unfold plc
  have hl := Nat.mod_lt (j + (n - r)) hn
  rw [show j + 1 + (n - r) = j + (n - r) + 1 by omega, Nat.add_mod (j + (n - r)) 1]
  by_cases e : (j + (n - r)) % n + 1 = n
  · rw [if_pos e]
    by_cases h1 : n = 1
    · subst h1; exact Nat.mod_one _
    · rw [Nat.mod_eq_of_lt (show 1 < n by omega), e, Nat.mod_self]
  · rw [if_neg e]
    rw [Nat.mod_eq_of_lt (show 1 < n by omega)]
    exact Nat.mod_eq_of_lt (by omega)
def fitA (q n : Nat) (B : Nat → Bool) (L : Nat → Nat) (r j : Nat) : Prop := ∃ w, B w = true ∧ w / q ^ (n - 1 - plc n r j) % q ^ (bhd n r j + 1) = num q L (j - bhd n r j) (bhd n r j + 1)
noncomputable def fitB (q n : Nat) (B : Nat → Bool) (L : Nat → Nat) (r j : Nat) : Bool := dB (fitA q n B L r j)
noncomputable def psB (q n : Nat) (B : Nat → Bool) (L : Nat → Nat) (k r : Nat) : Bool := dB (∀ j, j < k → fitA q n B L r j)
noncomputable def psN (q n : Nat) (B : Nat → Bool) (L : Nat → Nat) (k : Nat) : Nat := btN (psB q n B L k) n
theorem psN_lt (q n : Nat) (B : Nat → Bool) (L : Nat → Nat) (k : Nat) : psN q n B L k < 2 ^ n := btN_lt _ _
noncomputable def rho (q n : Nat) (B : Nat → Bool) (L : Nat → Nat) (m r : Nat) : Nat := fst (fitB q n B L r) m 0
theorem rho_ps {q n m k : Nat} {B : Nat → Bool} {L : Nat → Nat} (hk : k ≤ m) : btN (fun r => decide (k ≤ rho q n B L m r)) n = psN q n B L k := by
  unfold psN
  refine btN_cong (fun r _ => ?_)
  apply Bool.eq_iff_iff.mpr
  rw [decide_eq_true_iff]
  unfold rho psB
  rw [le_fst (Nat.zero_le _) (by omega), dB_t]
  exact ⟨fun h j hj => dB_t.mp (h j (Nat.zero_le _) hj), fun h i _ hi => dB_t.mpr (h i hi)⟩
/-- the first k of 1 .. m for which one offset is left, and that -/
def IsCr (bits : Nat → Nat) (n m k r : Nat) : Prop := 1 ≤ k ∧ k ≤ m ∧ r < n ∧ bits k = 2 ^ r ∧ ∀ k', 1 ≤ k' → k' < k → ∀ r', r' < n → bits k' ≠ 2 ^ r'
abbrev obS (s0 s1 s2 a0 m : Nat) : Nat × zE := (s0, oB 7 [.ref a0, .ref s1, .ref s2, .int (nI m)])
section STRIP
variable {tO d q n s0 s1 s2 b0 b1 b2 b3 b4 b5 a0 a1 m : Nat} {R Rc W Hd Im O E : Nat → Int32} {B : Nat → Bool}
theorem s_X9_total (hd : 1 ≤ d) : SpP tO MX9_total (d, 0, 0) [.ref s0] [obS s0 s1 s2 a0 m] (some (.int (nI m))) := by
  refine eX9_total [some (.ref s0)] rfl (Nat.le_of_ble_eq_true rfl) ?_
  refine V_aload_n dX9_total_0 rfl ?_
  refine V_get 0 dX9_total_1 fX9_total_22 rfl rfl ?_
  refine V_iret dX9_total_4 rfl (Nat.le_of_ble_eq_true rfl) (Nat.le_refl _) (Nat.le_refl _) ?_
  exact ⟨rfl, rfl⟩
theorem s_X9_room (hd : 1 ≤ d) (hm : m ≤ 40) : SpP tO MX9_room (d, 0, 0) [.ref s0] [obS s0 s1 s2 a0 m] (some (.int (nI (40 - m)))) := by
  refine eX9_room [some (.ref s0)] rfl (Nat.le_of_ble_eq_true rfl) ?_
  refine V_bipush (v := nI 40) dX9_room_0 (by decide) ?_
  refine V_aload_n dX9_room_2 rfl ?_
  refine V_get 0 dX9_room_3 fX9_room_22 rfl rfl ?_
  first | refine V_isub_N dX9_room_6 (by omega) ?_ | refine V_isub dX9_room_6 ?_
  refine V_iret dX9_room_7 rfl (Nat.le_of_ble_eq_true rfl) (Nat.le_refl _) (Nat.le_refl _) ?_
  exact ⟨rfl, rfl⟩
theorem s_X9_empty (hd : 1 ≤ d) : SpF tO MX9_empty (d, 0, 0) [.ref s0] [obS s0 s1 s2 a0 m] none [obS s0 s1 s2 a0 0] := by
  refine eX9_empty [some (.ref s0)] rfl (Nat.le_of_ble_eq_true rfl) ?_
  refine V_aload_n dX9_empty_0 rfl ?_
  refine V_iconst (v := nI 0) dX9_empty_1 (by decide) ?_
  refine V_put 0 dX9_empty_2 fX9_empty_22 ft_7_3 rfl rfl rfl (Nat.le_of_ble_eq_true rfl) ?_
  refine V_vret dX9_empty_5 rfl (Nat.le_of_ble_eq_true rfl) (Nat.le_refl _) (Nat.le_refl _) ?_
  exact ⟨rfl, rfl⟩
theorem s_X9_copyFrom (hd : 2 ≤ d) {t0 t1 t2 e0 m2 : Nat} {R2 : Nat → Int32} : SpF tO MX9_copyFrom (d, 0, 0) [.ref s0, .ref t0] [obS s0 s1 s2 a0 m, (s1, aI 40 R), obS t0 t1 t2 e0 m2, (t1, aI 40 R2)] none [obS s0 s1 s2 a0 m2, (s1, aI 40 R2), obS t0 t1 t2 e0 m2, (t1, aI 40 R2)] := by
  refine eX9_copyFrom [some (.ref s0), some (.ref t0)] rfl (Nat.le_of_ble_eq_true rfl) ?_
  refine V_aload_n dX9_copyFrom_0 rfl ?_
  refine V_aload_n dX9_copyFrom_1 rfl ?_
  refine V_get 2 dX9_copyFrom_2 fX9_copyFrom_22 rfl rfl ?_
  refine V_put 0 dX9_copyFrom_5 fX9_copyFrom_22 ft_7_3 rfl rfl rfl (Nat.le_of_ble_eq_true rfl) ?_
  refine V_aload_n dX9_copyFrom_8 rfl ?_
  refine V_get 2 dX9_copyFrom_9 fX9_copyFrom_15 rfl rfl ?_
  refine V_aload_n dX9_copyFrom_12 rfl ?_
  refine V_get 0 dX9_copyFrom_13 fX9_copyFrom_15 rfl rfl ?_
  refine V_callSfv2 [3, 1] (s_X8_copy (d := d - 1) (by omega) (by decide)) gX9_copyFrom_X8_copy dX9_copyFrom_16 oX8_copy rfl rfl (Nat.le_of_ble_eq_true rfl) (by omega) ⟨Nat.le_refl _, Nat.le_refl _⟩ ?_
  simp only [zput_n, zput_c, zset_1, zset_3]
  refine V_vret dX9_copyFrom_19 rfl (Nat.le_of_ble_eq_true rfl) (Nat.le_refl _) (Nat.le_refl _) ?_
  exact ⟨rfl, rfl⟩
theorem s_X9_append (hd : 2 ≤ d) {x : Int32} (hm : m < 40) : SpF tO MX9_append (d, 0, 0) [.ref s0, .int x] [obS s0 s1 s2 a0 m, (s1, aI 40 R)] none [obS s0 s1 s2 a0 (m + 1), (s1, aI 40 (upd R m x))] := by
  refine eX9_append [some (.ref s0), some (.int x)] rfl (Nat.le_of_ble_eq_true rfl) ?_
  refine V_aload_n dX9_append_0 rfl ?_
  refine V_callVpi0 [0] (s_X9_room (d := d - 1) (by omega) (by omega)) gX9_append_X9_room dX9_append_1 oX9_room rfl rfl rfl rfl (Nat.le_of_ble_eq_true rfl) (by omega) ⟨Nat.le_refl _, Nat.le_refl _⟩ ?_
  refine V_if_le_N 29 dX9_append_4 (by decide) (by omega) (fun c_4 => absurd c_4 (by omega)) (fun c_4 => ?_)
  refine V_aload_n dX9_append_7 rfl ?_
  refine V_get 0 dX9_append_8 fX9_append_15 rfl rfl ?_
  refine V_aload_n dX9_append_11 rfl ?_
  refine V_get 0 dX9_append_12 fX9_append_22 rfl rfl ?_
  refine V_iload_n dX9_append_15 rfl ?_
  refine V_callSfv3 [1] (s_X8_setI (d := d - 1) (by omega) (by omega) (by decide)) gX9_append_X8_set dX9_append_16 oX8_set rfl rfl (Nat.le_of_ble_eq_true rfl) (by omega) ⟨Nat.le_refl _, Nat.le_refl _⟩ ?_
  simp only [zput_n, zput_c, zset_1]
  refine V_aload_n dX9_append_19 rfl ?_
  refine V_dup dX9_append_20 rfl ?_
  refine V_get 0 dX9_append_21 fX9_append_22 rfl rfl ?_
  refine V_iconst (v := nI 1) dX9_append_24 (by decide) ?_
  first | refine V_iadd_N dX9_append_25 ?_ | refine V_iadd dX9_append_25 ?_
  refine V_put 0 dX9_append_26 fX9_append_22 ft_7_3 rfl rfl rfl (Nat.le_of_ble_eq_true rfl) ?_
  refine V_vret dX9_append_29 rfl (Nat.le_of_ble_eq_true rfl) (Nat.le_refl _) (Nat.le_refl _) ?_
  exact ⟨rfl, rfl⟩
theorem l_X9_cutAhead (hd : 2 ≤ d) {v : Nat} (hm : m ≤ 40) (hv : v ≤ m) {w0 : zW} (hw0 : w0.length = 2) : ∀ (f i : Nat) (Rx : Nat → Int32), i + f = m - v → (∀ j, Rx j = if j < i then R (v + j) else R j) → V tO MX9_cutAhead (d, 0, 0) w0 (fun v' w' => v' = none ∧ w' = [obS s0 s1 s2 a0 (m - v), (s1, aI 40 (fun j => if j < m - v then R (v + j) else R j))]) (0, 0) [obS s0 s1 s2 a0 m, (s1, aI 40 Rx)] 18 [some (.ref s0), some (.int (nI v)), some (.int (nI (m - v))), some (.int (nI i))] [] := by
  intro f
  induction f with
  | zero =>
    intro i Rx hi hR
    have e : Rx = fun j => if j < m - v then R (v + j) else R j := by funext j; rw [hR j, show i = m - v by omega]
    subst e
    refine V_iload_n dX9_cutAhead_18 rfl ?_
    refine V_iload_n dX9_cutAhead_19 rfl ?_
    refine V_icmp_ge_N 47 dX9_cutAhead_20 (by decide) (by omega) (by omega) (fun c_20 => ?_) (fun c_20 => absurd c_20 (by omega))
    refine V_aload_n dX9_cutAhead_47 rfl ?_
    refine V_iload_n dX9_cutAhead_48 rfl ?_
    refine V_put 0 dX9_cutAhead_49 fX9_cutAhead_22 ft_7_3 rfl rfl rfl (Nat.le_of_ble_eq_true rfl) ?_
    exact V_vret dX9_cutAhead_52 rfl (by rw [hw0]; exact Nat.le_refl _) (Nat.le_refl _) (Nat.le_refl _) ⟨rfl, rfl⟩
  | succ f ih =>
    intro i Rx hi hR
    refine V_iload_n dX9_cutAhead_18 rfl ?_
    refine V_iload_n dX9_cutAhead_19 rfl ?_
    refine V_icmp_ge_N 47 dX9_cutAhead_20 (by decide) (by omega) (by omega) (fun c_20 => absurd c_20 (by omega)) (fun c_20 => ?_)
    refine V_aload_n dX9_cutAhead_23 rfl ?_
    refine V_get 0 dX9_cutAhead_24 fX9_cutAhead_15 rfl rfl ?_
    refine V_iload_n dX9_cutAhead_27 rfl ?_
    refine V_aload_n dX9_cutAhead_28 rfl ?_
    refine V_get 0 dX9_cutAhead_29 fX9_cutAhead_15 rfl rfl ?_
    refine V_iload_n dX9_cutAhead_32 rfl ?_
    refine V_iload_n dX9_cutAhead_33 rfl ?_
    first | refine V_iadd_N dX9_cutAhead_34 ?_ | refine V_iadd dX9_cutAhead_34 ?_
    refine V_callSpi2 [1] (s_X8_atI (d := d - 1) (by omega) (by omega) (by decide)) gX9_cutAhead_X8_at dX9_cutAhead_35 oX8_at rfl rfl (Nat.le_of_ble_eq_true rfl) (by omega) ⟨Nat.le_refl _, Nat.le_refl _⟩ ?_
    refine V_callSfv3 [1] (s_X8_setI (d := d - 1) (by omega) (by omega) (by decide)) gX9_cutAhead_X8_set dX9_cutAhead_38 oX8_set rfl rfl (Nat.le_of_ble_eq_true rfl) (by omega) ⟨Nat.le_refl _, Nat.le_refl _⟩ ?_
    simp only [zput_n, zput_c, zset_1]
    first | refine V_iinc_N (i := 1) dX9_cutAhead_41 rfl (by decide) rfl ?_ | refine V_iinc dX9_cutAhead_41 rfl rfl (by decide) rfl ?_
    refine V_goto 18 dX9_cutAhead_44 (by decide) ?_
    refine ih (i + 1) _ (by omega) (fun j => ?_)
    unfold upd
    by_cases e : j = i
    · rw [if_pos e, if_pos (by omega), hR, if_neg (by omega), e]
    · rw [if_neg e, hR j]
      by_cases e2 : j < i
      · rw [if_pos e2, if_pos (by omega)]
      · rw [if_neg e2, if_neg (by omega)]
theorem s_X9_cutAhead (hd : 2 ≤ d) {v : Nat} (hm : m ≤ 40) (hv : v ≤ m) : SpF tO MX9_cutAhead (d, 0, 0) [.ref s0, .int (nI v)] [obS s0 s1 s2 a0 m, (s1, aI 40 R)] none [obS s0 s1 s2 a0 (m - v), (s1, aI 40 (fun j => if j < m - v then R (v + j) else R j))] := by
  refine eX9_cutAhead [some (.ref s0), some (.int (nI v)), none, none] rfl (Nat.le_of_ble_eq_true rfl) ?_
  refine V_aload_n dX9_cutAhead_0 rfl ?_
  refine V_get 0 dX9_cutAhead_1 fX9_cutAhead_22 rfl rfl ?_
  refine V_iload_n dX9_cutAhead_4 rfl ?_
  first | refine V_isub_N dX9_cutAhead_5 (by omega) ?_ | refine V_isub dX9_cutAhead_5 ?_
  refine V_istore_n dX9_cutAhead_6 (by decide) rfl ?_
  refine V_iload_n dX9_cutAhead_7 rfl ?_
  refine V_if_lt_N 15 dX9_cutAhead_8 (by decide) (by omega) ?_
  refine V_iload_n dX9_cutAhead_11 rfl ?_
  refine V_if_ge_N 16 dX9_cutAhead_12 (by decide) (by omega) ?_
  refine V_iconst (v := nI 0) dX9_cutAhead_16 (by decide) ?_
  refine V_istore_n dX9_cutAhead_17 (by decide) rfl ?_
  exact l_X9_cutAhead hd hm hv rfl (m - v) 0 R (by omega) (fun j => by rw [if_neg (by omega)])
theorem l_X9_reach (hd : 4 ≤ d) (h : OKq q n) {mb r : Nat} {L : Nat → Nat} (hB : Bk (q ^ n) B W mb) (hm : m ≤ 40) (hr : r < n) (hL : ∀ j, j < m → R j = nI (L j) ∧ L j < q) {w0 : zW} (hw0 : w0 = [obS s0 s1 s2 a0 m, (s1, aI 40 R), (s2, aI 5 Rc), (a0, oB 0 [.ref a1, .int (nI q), .int (nI n), .int (nI (q ^ n))]), (a1, aI 6 (pwF q)), obB b0 b1 b2 b3 b4 b5 a0 mb, (b1, aI 256 W), (b2, aZ 256 Hd), (b3, aI 256 Im), (b4, aI 162 O), (b5, aI 162 E)]) : ∀ (f j : Nat), j + f = m → V tO MX9_reach (d, 0, 0) w0 (fun v w' => v = some (.int (nI (fst (fitB q n B L r) f j))) ∧ w' = w0) (0, 0) w0 27 [some (.ref s0), some (.ref b0), some (.int (nI r)), some (.int (nI (plc n r j))), some (.int (nI (num q L (j - bhd n r j) (bhd n r j)))), some (.int (nI (bhd n r j))), some (.int (nI j))] [] := by
  subst hw0
  have hn := h.2.2.2.1
  have hn1 := h.2.2.1
  intro f
  induction f with
  | zero =>
    intro j hj
    refine V_iload dX9_reach_27 rfl ?_
    refine V_aload_n dX9_reach_29 rfl ?_
    refine V_get 0 dX9_reach_30 fX9_reach_22 rfl rfl ?_
    refine V_icmp_ge_N 104 dX9_reach_33 (by decide) (by omega) (by omega) (fun c_33 => ?_) (fun c_33 => absurd c_33 (by omega))
    refine V_aload_n dX9_reach_104 rfl ?_
    refine V_get 0 dX9_reach_105 fX9_reach_22 rfl rfl ?_
    refine V_iret dX9_reach_108 rfl (Nat.le_of_ble_eq_true rfl) (Nat.le_refl _) (Nat.le_refl _) ?_
    exact ⟨by rw [fst, show j = m by omega], rfl⟩
  | succ f ih =>
    intro j hj
    have hp := plc_lt (n := n) (r := r) (j := j) (by omega)
    have hb1 : bhd n r j ≤ plc n r j := Nat.min_le_left _ _
    have hb2 : bhd n r j ≤ j := Nat.min_le_right _ _
    have hnum : num q L (j - bhd n r j) (bhd n r j) * q + L j = num q L (j - bhd n r j) (bhd n r j + 1) := by rw [num, show j - bhd n r j + bhd n r j = j by omega]
    have hlt : num q L (j - bhd n r j) (bhd n r j + 1) < q ^ (bhd n r j + 1) := num_lt (fun i hi => (hL _ (by omega)).2)
    have hl2 := h.le (k := bhd n r j + 1) (by omega)
    have hs := plc_succ (n := n) (r := r) (j := j) (by omega)
    have i1 := ih (j + 1) (by omega)
    rw [fst]
    refine V_iload dX9_reach_27 rfl ?_
    refine V_aload_n dX9_reach_29 rfl ?_
    refine V_get 0 dX9_reach_30 fX9_reach_22 rfl rfl ?_
    refine V_icmp_ge_N 104 dX9_reach_33 (by decide) (by omega) (by omega) (fun c_33 => absurd c_33 (by omega)) (fun c_33 => ?_)
    refine V_iload dX9_reach_36 rfl ?_
    refine V_aload_n dX9_reach_38 rfl ?_
    refine V_get 0 dX9_reach_39 fX9_reach_9 rfl rfl ?_
    refine V_get 3 dX9_reach_42 fX9_reach_53 rfl rfl ?_
    first | refine V_imul_N dX9_reach_45 ?_ | refine V_imul dX9_reach_45 ?_
    refine V_aload_n dX9_reach_46 rfl ?_
    refine V_get 0 dX9_reach_47 fX9_reach_15 rfl rfl ?_
    refine V_iload dX9_reach_50 rfl ?_
    refine V_callSpi2 [1] (s_X8_atI (d := d - 1) (by omega) (by omega) (by decide)) gX9_reach_X8_at dX9_reach_52 oX8_at rfl rfl (Nat.le_of_ble_eq_true rfl) (by omega) ⟨Nat.le_refl _, Nat.le_refl _⟩ ?_
    rw [(hL j (by omega)).1]
    first | refine V_iadd_N dX9_reach_55 ?_ | refine V_iadd dX9_reach_55 ?_
    rw [hnum]
    refine V_istore dX9_reach_56 (by decide) rfl ?_
    first | refine V_iinc_N (i := 1) dX9_reach_58 rfl (by decide) rfl ?_ | refine V_iinc dX9_reach_58 rfl rfl (by decide) rfl ?_
    refine V_aload_n dX9_reach_61 rfl ?_
    refine V_iload dX9_reach_62 rfl ?_
    refine V_iload dX9_reach_64 rfl ?_
    refine V_iload_n dX9_reach_66 rfl ?_
    refine V_callVpi3 [5, 6, 7, 8, 9, 10, 3, 4] (s_X1_fits (d := d - 1) (by omega) h (N := 0) hB (by omega) (by omega) hp) gX9_reach_X1_fits dX9_reach_67 oX1_fits rfl rfl rfl rfl (Nat.le_of_ble_eq_true rfl) (by omega) ⟨Nat.le_refl _, Nat.le_refl _⟩ ?_
    refine V_if_ne_B (b := fitB q n B L r j) 76 dX9_reach_70 (by decide) (fun c_70 => ?_) (fun c_70 => ?_)
    ·
      rw [if_pos c_70]
      first | refine V_iinc_N (i := 1) dX9_reach_76 rfl (by decide) rfl ?_ | refine V_iinc dX9_reach_76 rfl rfl (by decide) rfl ?_
      refine V_iload_n dX9_reach_79 rfl ?_
      refine V_aload_n dX9_reach_80 rfl ?_
      refine V_get 0 dX9_reach_81 fX9_reach_9 rfl rfl ?_
      refine V_get 3 dX9_reach_84 fX9_reach_44 rfl rfl ?_
      first | refine V_icmp_ne_N 98 dX9_reach_87 (by decide) (by omega) (by omega) (fun c_87 => ?_) (fun c_87 => ?_) | refine V_icmp_ne 98 dX9_reach_87 (by decide) (fun c_87 => ?_) (fun c_87 => ?_)
      ·
        rw [if_neg c_87] at hs
        have e2 : bhd n r (j + 1) = bhd n r j + 1 := by unfold bhd at *; rw [hs]; omega
        rw [hs, e2, show j + 1 - (bhd n r j + 1) = j - bhd n r j by omega] at i1
        first | refine V_iinc_N (i := 1) dX9_reach_98 rfl (by decide) rfl ?_ | refine V_iinc dX9_reach_98 rfl rfl (by decide) rfl ?_
        refine V_goto 27 dX9_reach_101 (by decide) ?_
        exact i1
      ·
        rw [if_pos c_87] at hs
        have e2 : bhd n r (j + 1) = 0 := by unfold bhd at *; rw [hs]; omega
        rw [hs, e2, num] at i1
        refine V_iconst (v := nI 0) dX9_reach_90 (by decide) ?_
        refine V_istore_n dX9_reach_91 (by decide) rfl ?_
        refine V_iconst (v := nI 0) dX9_reach_92 (by decide) ?_
        refine V_istore dX9_reach_93 (by decide) rfl ?_
        refine V_iconst (v := nI 0) dX9_reach_95 (by decide) ?_
        refine V_istore dX9_reach_96 (by decide) rfl ?_
        first | refine V_iinc_N (i := 1) dX9_reach_98 rfl (by decide) rfl ?_ | refine V_iinc dX9_reach_98 rfl rfl (by decide) rfl ?_
        refine V_goto 27 dX9_reach_101 (by decide) ?_
        exact i1
    ·
      rw [if_neg (by rw [c_70]; exact Bool.false_ne_true)]
      refine V_iload dX9_reach_73 rfl ?_
      refine V_iret dX9_reach_75 rfl (Nat.le_of_ble_eq_true rfl) (Nat.le_refl _) (Nat.le_refl _) ?_
      exact ⟨rfl, rfl⟩
theorem s_X9_reach (hd : 4 ≤ d) (h : OKq q n) {mb r : Nat} {L : Nat → Nat} (hB : Bk (q ^ n) B W mb) (hm : m ≤ 40) (hr : r < n) (hL : ∀ j, j < m → R j = nI (L j) ∧ L j < q) : SpP tO MX9_reach (d, 0, 0) [.ref s0, .ref b0, .int (nI r)] [obS s0 s1 s2 a0 m, (s1, aI 40 R), (s2, aI 5 Rc), (a0, oB 0 [.ref a1, .int (nI q), .int (nI n), .int (nI (q ^ n))]), (a1, aI 6 (pwF q)), obB b0 b1 b2 b3 b4 b5 a0 mb, (b1, aI 256 W), (b2, aZ 256 Hd), (b3, aI 256 Im), (b4, aI 162 O), (b5, aI 162 E)] (some (.int (nI (rho q n B L m r)))) := by
  refine eX9_reach [some (.ref s0), some (.ref b0), some (.int (nI r)), none, none, none, none] rfl (Nat.le_of_ble_eq_true rfl) ?_
  have hn := h.2.2.2.1
  have hn1 := h.2.2.1
  have h0 := plc_0 (n := n) (r := r) (by omega) hr
  have e2 : bhd n r 0 = 0 := Nat.min_zero _
  have i1 := l_X9_reach (tO := tO) (d := d) (s0 := s0) (s1 := s1) (s2 := s2) (b0 := b0) (b1 := b1) (b2 := b2) (b3 := b3) (b4 := b4) (b5 := b5) (a0 := a0) (a1 := a1) (Rc := Rc) (Hd := Hd) (Im := Im) (O := O) (E := E) hd h hB hm hr hL rfl m 0 (by omega)
  rw [e2, num] at i1
  refine V_iload_n dX9_reach_0 rfl ?_
  refine V_if_ne_N 8 dX9_reach_1 (by decide) (by omega) (fun c_1 => ?_) (fun c_1 => ?_)
  ·
    rw [if_neg (by omega)] at h0
    rw [h0] at i1
    refine V_aload_n dX9_reach_8 rfl ?_
    refine V_get 0 dX9_reach_9 fX9_reach_9 rfl rfl ?_
    refine V_get 3 dX9_reach_12 fX9_reach_44 rfl rfl ?_
    refine V_iload_n dX9_reach_15 rfl ?_
    first | refine V_isub_N dX9_reach_16 (by omega) ?_ | refine V_isub dX9_reach_16 ?_
    refine V_istore_n dX9_reach_17 (by decide) rfl ?_
    refine V_iconst (v := nI 0) dX9_reach_18 (by decide) ?_
    refine V_istore dX9_reach_19 (by decide) rfl ?_
    refine V_iconst (v := nI 0) dX9_reach_21 (by decide) ?_
    refine V_istore dX9_reach_22 (by decide) rfl ?_
    refine V_iconst (v := nI 0) dX9_reach_24 (by decide) ?_
    refine V_istore dX9_reach_25 (by decide) rfl ?_
    exact i1
  ·
    rw [if_pos c_1] at h0
    rw [h0] at i1
    refine V_iconst (v := nI 0) dX9_reach_4 (by decide) ?_
    refine V_goto 17 dX9_reach_5 (by decide) ?_
    refine V_istore_n dX9_reach_17 (by decide) rfl ?_
    refine V_iconst (v := nI 0) dX9_reach_18 (by decide) ?_
    refine V_istore dX9_reach_19 (by decide) rfl ?_
    refine V_iconst (v := nI 0) dX9_reach_21 (by decide) ?_
    refine V_istore dX9_reach_22 (by decide) rfl ?_
    refine V_iconst (v := nI 0) dX9_reach_24 (by decide) ?_
    refine V_istore dX9_reach_25 (by decide) rfl ?_
    exact i1
theorem l_X9_measure (hd : 5 ≤ d) (h : OKq q n) {mb : Nat} {L : Nat → Nat} (hB : Bk (q ^ n) B W mb) (hm : m ≤ 40) (hL : ∀ j, j < m → R j = nI (L j) ∧ L j < q) {w0 : zW} (hw0 : w0.length = 11) : ∀ (f r : Nat) (Rx : Nat → Int32), r + f = n → (∀ j, j < r → Rx j = nI (rho q n B L m j)) → V tO MX9_measure (d, 0, 0) w0 (fun v w' => ∃ R', v = none ∧ (∀ j, j < n → R' j = nI (rho q n B L m j)) ∧ w' = [obS s0 s1 s2 a0 m, (s1, aI 40 R), (s2, aI 5 R'), (a0, oB 0 [.ref a1, .int (nI q), .int (nI n), .int (nI (q ^ n))]), (a1, aI 6 (pwF q)), obB b0 b1 b2 b3 b4 b5 a0 mb, (b1, aI 256 W), (b2, aZ 256 Hd), (b3, aI 256 Im), (b4, aI 162 O), (b5, aI 162 E)]) (0, 0) [obS s0 s1 s2 a0 m, (s1, aI 40 R), (s2, aI 5 Rx), (a0, oB 0 [.ref a1, .int (nI q), .int (nI n), .int (nI (q ^ n))]), (a1, aI 6 (pwF q)), obB b0 b1 b2 b3 b4 b5 a0 mb, (b1, aI 256 W), (b2, aZ 256 Hd), (b3, aI 256 Im), (b4, aI 162 O), (b5, aI 162 E)] 2 [some (.ref s0), some (.ref b0), some (.int (nI r))] [] := by
  have hn := h.2.2.2.1
  intro f
  induction f with
  | zero =>
    intro r Rx hr hR
    refine V_iload_n dX9_measure_2 rfl ?_
    refine V_aload_n dX9_measure_3 rfl ?_
    refine V_get 0 dX9_measure_4 fX9_measure_9 rfl rfl ?_
    refine V_get 3 dX9_measure_7 fX9_measure_44 rfl rfl ?_
    refine V_icmp_ge_N 33 dX9_measure_10 (by decide) (by omega) (by omega) (fun c_10 => ?_) (fun c_10 => absurd c_10 (by omega))
    exact V_vret dX9_measure_33 rfl (by rw [hw0]; exact Nat.le_refl _) (Nat.le_refl _) (Nat.le_refl _) ⟨Rx, rfl, fun j hj => hR j (by omega), rfl⟩
  | succ f ih =>
    intro r Rx hr hR
    refine V_iload_n dX9_measure_2 rfl ?_
    refine V_aload_n dX9_measure_3 rfl ?_
    refine V_get 0 dX9_measure_4 fX9_measure_9 rfl rfl ?_
    refine V_get 3 dX9_measure_7 fX9_measure_44 rfl rfl ?_
    refine V_icmp_ge_N 33 dX9_measure_10 (by decide) (by omega) (by omega) (fun c_10 => absurd c_10 (by omega)) (fun c_10 => ?_)
    refine V_aload_n dX9_measure_13 rfl ?_
    refine V_get 0 dX9_measure_14 fX9_measure_19 rfl rfl ?_
    refine V_iload_n dX9_measure_17 rfl ?_
    refine V_aload_n dX9_measure_18 rfl ?_
    refine V_aload_n dX9_measure_19 rfl ?_
    refine V_iload_n dX9_measure_20 rfl ?_
    refine V_callVpi2 [0, 1, 2, 3, 4, 5, 6, 7, 8, 9, 10] (s_X9_reach (d := d - 1) (by omega) h hB hm (by omega) hL) gX9_measure_X9_reach dX9_measure_21 oX9_reach rfl rfl rfl rfl (Nat.le_of_ble_eq_true rfl) (by omega) ⟨Nat.le_refl _, Nat.le_refl _⟩ ?_
    refine V_callSfv3 [2] (s_X8_setI (d := d - 1) (by omega) (by omega) (by decide)) gX9_measure_X8_set dX9_measure_24 oX8_set rfl rfl (Nat.le_of_ble_eq_true rfl) (by omega) ⟨Nat.le_refl _, Nat.le_refl _⟩ ?_
    simp only [zput_n, zput_c, zset_2]
    first | refine V_iinc_N (i := 1) dX9_measure_27 rfl (by decide) rfl ?_ | refine V_iinc dX9_measure_27 rfl rfl (by decide) rfl ?_
    refine V_goto 2 dX9_measure_30 (by decide) ?_
    refine ih (r + 1) _ (by omega) (fun j hj => ?_)
    unfold upd
    by_cases e : j = r
    · rw [if_pos e, e]
    · rw [if_neg e]; exact hR j (by omega)
theorem s_X9_measure (hd : 5 ≤ d) (h : OKq q n) {mb : Nat} {L : Nat → Nat} (hB : Bk (q ^ n) B W mb) (hm : m ≤ 40) (hL : ∀ j, j < m → R j = nI (L j) ∧ L j < q) : Sp tO MX9_measure (d, 0, 0) [.ref s0, .ref b0] [obS s0 s1 s2 a0 m, (s1, aI 40 R), (s2, aI 5 Rc), (a0, oB 0 [.ref a1, .int (nI q), .int (nI n), .int (nI (q ^ n))]), (a1, aI 6 (pwF q)), obB b0 b1 b2 b3 b4 b5 a0 mb, (b1, aI 256 W), (b2, aZ 256 Hd), (b3, aI 256 Im), (b4, aI 162 O), (b5, aI 162 E)] (fun v w' => ∃ R', v = none ∧ (∀ j, j < n → R' j = nI (rho q n B L m j)) ∧ w' = [obS s0 s1 s2 a0 m, (s1, aI 40 R), (s2, aI 5 R'), (a0, oB 0 [.ref a1, .int (nI q), .int (nI n), .int (nI (q ^ n))]), (a1, aI 6 (pwF q)), obB b0 b1 b2 b3 b4 b5 a0 mb, (b1, aI 256 W), (b2, aZ 256 Hd), (b3, aI 256 Im), (b4, aI 162 O), (b5, aI 162 E)]) := by
  refine eX9_measure [some (.ref s0), some (.ref b0), none] rfl (Nat.le_of_ble_eq_true rfl) ?_
  refine V_iconst (v := nI 0) dX9_measure_0 (by decide) ?_
  refine V_istore_n dX9_measure_1 (by decide) rfl ?_
  exact l_X9_measure hd h hB hm hL rfl n 0 Rc (by omega) (fun j hj => by omega)
theorem l_X9_offsets (hd : 2 ≤ d) (h : OKq q n) {k : Nat} {ro : Nat → Nat} (hk : k ≤ 40) (hR : ∀ j, j < n → Rc j = nI (ro j) ∧ ro j ≤ 40) : ∀ (f r : Nat), r + f = n → V tO MX9_offsets (d, 0, 0) [obS s0 s1 s2 a0 m, (s2, aI 5 Rc), (a0, oB 0 [.ref a1, .int (nI q), .int (nI n), .int (nI (q ^ n))]), (a1, aI 6 (pwF q))] (fun v w' => v = some (.int (nI (btN (fun r => decide (k ≤ ro r)) n))) ∧ w' = [obS s0 s1 s2 a0 m, (s2, aI 5 Rc), (a0, oB 0 [.ref a1, .int (nI q), .int (nI n), .int (nI (q ^ n))]), (a1, aI 6 (pwF q))]) (0, 0) [obS s0 s1 s2 a0 m, (s2, aI 5 Rc), (a0, oB 0 [.ref a1, .int (nI q), .int (nI n), .int (nI (q ^ n))]), (a1, aI 6 (pwF q))] 4 [some (.ref s0), some (.int (nI k)), some (.int (nI (btN (fun r => decide (k ≤ ro r)) r))), some (.int (nI r))] [] := by
  have hn := h.2.2.2.1
  intro f
  induction f with
  | zero =>
    intro r hr
    refine V_iload_n dX9_offsets_4 rfl ?_
    refine V_aload_n dX9_offsets_5 rfl ?_
    refine V_get 0 dX9_offsets_6 fX9_offsets_9 rfl rfl ?_
    refine V_get 2 dX9_offsets_9 fX9_offsets_44 rfl rfl ?_
    refine V_icmp_ge_N 39 dX9_offsets_12 (by decide) (by omega) (by omega) (fun c_12 => ?_) (fun c_12 => absurd c_12 (by omega))
    refine V_iload_n dX9_offsets_39 rfl ?_
    refine V_iret dX9_offsets_40 rfl (Nat.le_of_ble_eq_true rfl) (Nat.le_refl _) (Nat.le_refl _) ?_
    exact ⟨by rw [show r = n by omega], rfl⟩
  | succ f ih =>
    intro r hr
    have h1 := (hR r (by omega)).2
    have i1 := ih (r + 1) (by omega)
    rw [btN] at i1
    refine V_iload_n dX9_offsets_4 rfl ?_
    refine V_aload_n dX9_offsets_5 rfl ?_
    refine V_get 0 dX9_offsets_6 fX9_offsets_9 rfl rfl ?_
    refine V_get 2 dX9_offsets_9 fX9_offsets_44 rfl rfl ?_
    refine V_icmp_ge_N 39 dX9_offsets_12 (by decide) (by omega) (by omega) (fun c_12 => absurd c_12 (by omega)) (fun c_12 => ?_)
    refine V_aload_n dX9_offsets_15 rfl ?_
    refine V_get 0 dX9_offsets_16 fX9_offsets_19 rfl rfl ?_
    refine V_iload_n dX9_offsets_19 rfl ?_
    refine V_callSpi2 [1] (s_X8_atI (d := d - 1) (by omega) (by omega) (by decide)) gX9_offsets_X8_at dX9_offsets_20 oX8_at rfl rfl (Nat.le_of_ble_eq_true rfl) (by omega) ⟨Nat.le_refl _, Nat.le_refl _⟩ ?_
    rw [(hR r (by omega)).1]
    refine V_iload_n dX9_offsets_23 rfl ?_
    first | refine V_icmp_lt_N 33 dX9_offsets_24 (by decide) (by omega) (by omega) (fun c_24 => ?_) (fun c_24 => ?_) | refine V_icmp_lt 33 dX9_offsets_24 (by decide) (fun c_24 => ?_) (fun c_24 => ?_)
    ·
      rw [decide_eq_false (show ¬ k ≤ ro r by omega), if_neg Bool.false_ne_true] at i1
      first | refine V_iinc_N (i := 1) dX9_offsets_33 rfl (by decide) rfl ?_ | refine V_iinc dX9_offsets_33 rfl rfl (by decide) rfl ?_
      refine V_goto 4 dX9_offsets_36 (by decide) ?_
      exact i1
    ·
      rw [decide_eq_true c_24, if_pos rfl] at i1
      refine V_iload_n dX9_offsets_27 rfl ?_
      refine V_iconst (v := nI 1) dX9_offsets_28 (by decide) ?_
      refine V_iload_n dX9_offsets_29 rfl ?_
      refine V_ishl dX9_offsets_30 ?_
      refine V_to (nI_shl1 r (by omega)) ?_
      refine V_ior dX9_offsets_31 ?_
      refine V_to btN_or ?_
      refine V_istore_n dX9_offsets_32 (by decide) rfl ?_
      first | refine V_iinc_N (i := 1) dX9_offsets_33 rfl (by decide) rfl ?_ | refine V_iinc dX9_offsets_33 rfl rfl (by decide) rfl ?_
      refine V_goto 4 dX9_offsets_36 (by decide) ?_
      exact i1
theorem s_X9_offsets (hd : 2 ≤ d) (h : OKq q n) {k : Nat} {ro : Nat → Nat} (hk : k ≤ 40) (hR : ∀ j, j < n → Rc j = nI (ro j) ∧ ro j ≤ 40) : SpP tO MX9_offsets (d, 0, 0) [.ref s0, .int (nI k)] [obS s0 s1 s2 a0 m, (s2, aI 5 Rc), (a0, oB 0 [.ref a1, .int (nI q), .int (nI n), .int (nI (q ^ n))]), (a1, aI 6 (pwF q))] (some (.int (nI (btN (fun r => decide (k ≤ ro r)) n)))) := by
  refine eX9_offsets [some (.ref s0), some (.int (nI k)), none, none] rfl (Nat.le_of_ble_eq_true rfl) ?_
  refine V_iconst (v := nI 0) dX9_offsets_0 (by decide) ?_
  refine V_istore_n dX9_offsets_1 (by decide) rfl ?_
  refine V_iconst (v := nI 0) dX9_offsets_2 (by decide) ?_
  refine V_istore_n dX9_offsets_3 (by decide) rfl ?_
  exact l_X9_offsets hd h hk hR n 0 (by omega)
theorem s_X9_firstCertainN (hd : 3 ≤ d) (h : OKq q n) {x : Int32} {bits ro : Nat → Nat} (hm : m ≤ 40) (hR : ∀ j, j < n → Rc j = nI (ro j) ∧ ro j ≤ 40) (hbits : ∀ k, k ≤ m → btN (fun r => decide (k ≤ ro r)) n = bits k) (hno : ∀ k, 1 ≤ k → k ≤ m → ∀ r, r < n → bits k ≠ 2 ^ r) : SpP tO MX9_firstCertain (d, 0, 0) [.ref s0, .int x] [obS s0 s1 s2 a0 m, (s2, aI 5 Rc), (a0, oB 0 [.ref a1, .int (nI q), .int (nI n), .int (nI (q ^ n))]), (a1, aI 6 (pwF q))] (some (.int (-5))) := by
  have hn := h.2.2.2.1
  have in_ : ∀ (k : Nat), 1 ≤ k → k ≤ m → V tO MX9_firstCertain (d, 0, 0) [obS s0 s1 s2 a0 m, (s2, aI 5 Rc), (a0, oB 0 [.ref a1, .int (nI q), .int (nI n), .int (nI (q ^ n))]), (a1, aI 6 (pwF q))] (fun v w' => v = some (.int (-5)) ∧ w' = [obS s0 s1 s2 a0 m, (s2, aI 5 Rc), (a0, oB 0 [.ref a1, .int (nI q), .int (nI n), .int (nI (q ^ n))]), (a1, aI 6 (pwF q))]) (0, 0) [obS s0 s1 s2 a0 m, (s2, aI 5 Rc), (a0, oB 0 [.ref a1, .int (nI q), .int (nI n), .int (nI (q ^ n))]), (a1, aI 6 (pwF q))] 2 [some (.ref s0), some (.int x), some (.int (nI (k + 1))), none, none] [] → ∀ (f r : Nat), r + f = n → V tO MX9_firstCertain (d, 0, 0) [obS s0 s1 s2 a0 m, (s2, aI 5 Rc), (a0, oB 0 [.ref a1, .int (nI q), .int (nI n), .int (nI (q ^ n))]), (a1, aI 6 (pwF q))] (fun v w' => v = some (.int (-5)) ∧ w' = [obS s0 s1 s2 a0 m, (s2, aI 5 Rc), (a0, oB 0 [.ref a1, .int (nI q), .int (nI n), .int (nI (q ^ n))]), (a1, aI 6 (pwF q))]) (0, 0) [obS s0 s1 s2 a0 m, (s2, aI 5 Rc), (a0, oB 0 [.ref a1, .int (nI q), .int (nI n), .int (nI (q ^ n))]), (a1, aI 6 (pwF q))] 19 [some (.ref s0), some (.int x), some (.int (nI k)), some (.int (nI (bits k))), some (.int (nI r))] [] := by
    intro k hk1 hk2 next f
    have hbl : bits k < 2 ^ 5 := by rw [← hbits k hk2]; exact Nat.lt_of_lt_of_le (btN_lt _ n) (Nat.pow_le_pow_right (by decide) hn)
    induction f with
    | zero =>
      intro r hr
      refine V_iload dX9_firstCertain_19 rfl ?_
      refine V_aload_n dX9_firstCertain_21 rfl ?_
      refine V_get 0 dX9_firstCertain_22 fX9_firstCertain_9 rfl rfl ?_
      refine V_get 2 dX9_firstCertain_25 fX9_firstCertain_44 rfl rfl ?_
      refine V_icmp_ge_N 56 dX9_firstCertain_28 (by decide) (by omega) (by omega) (fun c_28 => ?_) (fun c_28 => absurd c_28 (by omega))
      first | refine V_iinc_N (i := 1) dX9_firstCertain_56 rfl (by decide) rfl ?_ | refine V_iinc dX9_firstCertain_56 rfl rfl (by decide) rfl ?_
      refine V_goto 2 dX9_firstCertain_59 (by decide) ?_
      exact V_wk [some (.ref s0), some (.int x), some (.int (nI (k + 1))), none, none] ⟨rfl, rfl, rfl, trivial, trivial, trivial⟩ next
    | succ f ih =>
      intro r hr
      have hpl : 2 ^ r < 2 ^ 5 := Nat.pow_lt_pow_right (by decide) (by omega)
      refine V_iload dX9_firstCertain_19 rfl ?_
      refine V_aload_n dX9_firstCertain_21 rfl ?_
      refine V_get 0 dX9_firstCertain_22 fX9_firstCertain_9 rfl rfl ?_
      refine V_get 2 dX9_firstCertain_25 fX9_firstCertain_44 rfl rfl ?_
      refine V_icmp_ge_N 56 dX9_firstCertain_28 (by decide) (by omega) (by omega) (fun c_28 => absurd c_28 (by omega)) (fun c_28 => ?_)
      refine V_iload_n dX9_firstCertain_31 rfl ?_
      refine V_iconst (v := nI 1) dX9_firstCertain_32 (by decide) ?_
      refine V_iload dX9_firstCertain_33 rfl ?_
      refine V_ishl dX9_firstCertain_35 ?_
      refine V_to (nI_shl1 r (by omega)) ?_
      refine V_icmp_ne_N 50 dX9_firstCertain_36 (by decide) (by omega) (by omega) (fun c_36 => ?_) (fun c_36 => absurd c_36 (hno k hk1 hk2 r (by omega)))
      first | refine V_iinc_N (i := 1) dX9_firstCertain_50 rfl (by decide) rfl ?_ | refine V_iinc dX9_firstCertain_50 rfl rfl (by decide) rfl ?_
      refine V_goto 19 dX9_firstCertain_53 (by decide) ?_
      exact ih (r + 1) (by omega)
  have out : ∀ (f k : Nat), k + f = m + 1 → 1 ≤ k → V tO MX9_firstCertain (d, 0, 0) [obS s0 s1 s2 a0 m, (s2, aI 5 Rc), (a0, oB 0 [.ref a1, .int (nI q), .int (nI n), .int (nI (q ^ n))]), (a1, aI 6 (pwF q))] (fun v w' => v = some (.int (-5)) ∧ w' = [obS s0 s1 s2 a0 m, (s2, aI 5 Rc), (a0, oB 0 [.ref a1, .int (nI q), .int (nI n), .int (nI (q ^ n))]), (a1, aI 6 (pwF q))]) (0, 0) [obS s0 s1 s2 a0 m, (s2, aI 5 Rc), (a0, oB 0 [.ref a1, .int (nI q), .int (nI n), .int (nI (q ^ n))]), (a1, aI 6 (pwF q))] 2 [some (.ref s0), some (.int x), some (.int (nI k)), none, none] [] := by
    intro f
    induction f with
    | zero =>
      intro k hk hk1
      refine V_iload_n dX9_firstCertain_2 rfl ?_
      refine V_aload_n dX9_firstCertain_3 rfl ?_
      refine V_get 0 dX9_firstCertain_4 fX9_firstCertain_22 rfl rfl ?_
      refine V_icmp_gt_N 62 dX9_firstCertain_7 (by decide) (by omega) (by omega) (fun c_7 => ?_) (fun c_7 => absurd c_7 (by omega))
      refine V_bipush (v := (-5)) dX9_firstCertain_62 (by decide) ?_
      refine V_iret dX9_firstCertain_64 rfl (Nat.le_of_ble_eq_true rfl) (Nat.le_refl _) (Nat.le_refl _) ?_
      exact ⟨rfl, rfl⟩
    | succ f ih =>
      intro k hk hk1
      refine V_iload_n dX9_firstCertain_2 rfl ?_
      refine V_aload_n dX9_firstCertain_3 rfl ?_
      refine V_get 0 dX9_firstCertain_4 fX9_firstCertain_22 rfl rfl ?_
      refine V_icmp_gt_N 62 dX9_firstCertain_7 (by decide) (by omega) (by omega) (fun c_7 => absurd c_7 (by omega)) (fun c_7 => ?_)
      refine V_aload_n dX9_firstCertain_10 rfl ?_
      refine V_iload_n dX9_firstCertain_11 rfl ?_
      refine V_callVpi1 [0, 1, 2, 3] (s_X9_offsets (d := d - 1) (by omega) h (by omega) hR) gX9_firstCertain_X9_offsets dX9_firstCertain_12 oX9_offsets rfl rfl rfl rfl (Nat.le_of_ble_eq_true rfl) (by omega) ⟨Nat.le_refl _, Nat.le_refl _⟩ ?_
      rw [hbits k (by omega)]
      refine V_istore_n dX9_firstCertain_15 (by decide) rfl ?_
      refine V_iconst (v := nI 0) dX9_firstCertain_16 (by decide) ?_
      refine V_istore dX9_firstCertain_17 (by decide) rfl ?_
      exact in_ k hk1 (by omega) (ih (k + 1) (by omega) (by omega)) n 0 (by omega)
  refine eX9_firstCertain [some (.ref s0), some (.int x), none, none, none] rfl (Nat.le_of_ble_eq_true rfl) ?_
  refine V_iconst (v := nI 1) dX9_firstCertain_0 (by decide) ?_
  refine V_istore_n dX9_firstCertain_1 (by decide) rfl ?_
  exact out m 1 (by omega) (by omega)
theorem s_X9_firstCertain (hd : 3 ≤ d) (h : OKq q n) {c k0 r0 : Nat} {bits ro : Nat → Nat} (hc : c ≤ 1) (hm : m ≤ 40) (hR : ∀ j, j < n → Rc j = nI (ro j) ∧ ro j ≤ 40) (hbits : ∀ k, k ≤ m → btN (fun r => decide (k ≤ ro r)) n = bits k) (hcr : IsCr bits n m k0 r0) : SpP tO MX9_firstCertain (d, 0, 0) [.ref s0, .int (nI c)] [obS s0 s1 s2 a0 m, (s2, aI 5 Rc), (a0, oB 0 [.ref a1, .int (nI q), .int (nI n), .int (nI (q ^ n))]), (a1, aI 6 (pwF q))] (some (.int (nI (if c = 0 then k0 else r0)))) := by
  have hn := h.2.2.2.1
  obtain ⟨hk01, hk0m, hr0, hb0, hmin⟩ := hcr
  have hbl : ∀ k, k ≤ m → bits k < 2 ^ 5 := fun k hk2 => by rw [← hbits k hk2]; exact Nat.lt_of_lt_of_le (btN_lt _ n) (Nat.pow_le_pow_right (by decide) hn)
  have last : ∀ (f r : Nat), r + f = r0 → V tO MX9_firstCertain (d, 0, 0) [obS s0 s1 s2 a0 m, (s2, aI 5 Rc), (a0, oB 0 [.ref a1, .int (nI q), .int (nI n), .int (nI (q ^ n))]), (a1, aI 6 (pwF q))] (fun v w' => v = some (.int (nI (if c = 0 then k0 else r0))) ∧ w' = [obS s0 s1 s2 a0 m, (s2, aI 5 Rc), (a0, oB 0 [.ref a1, .int (nI q), .int (nI n), .int (nI (q ^ n))]), (a1, aI 6 (pwF q))]) (0, 0) [obS s0 s1 s2 a0 m, (s2, aI 5 Rc), (a0, oB 0 [.ref a1, .int (nI q), .int (nI n), .int (nI (q ^ n))]), (a1, aI 6 (pwF q))] 19 [some (.ref s0), some (.int (nI c)), some (.int (nI k0)), some (.int (nI (bits k0))), some (.int (nI r))] [] := by
    intro f
    have hb := hbl k0 hk0m
    induction f with
    | zero =>
      intro r hr
      have e : r = r0 := by omega
      subst e
      refine V_iload dX9_firstCertain_19 rfl ?_
      refine V_aload_n dX9_firstCertain_21 rfl ?_
      refine V_get 0 dX9_firstCertain_22 fX9_firstCertain_9 rfl rfl ?_
      refine V_get 2 dX9_firstCertain_25 fX9_firstCertain_44 rfl rfl ?_
      refine V_icmp_ge_N 56 dX9_firstCertain_28 (by decide) (by omega) (by omega) (fun c_28 => absurd c_28 (by omega)) (fun c_28 => ?_)
      refine V_iload_n dX9_firstCertain_31 rfl ?_
      refine V_iconst (v := nI 1) dX9_firstCertain_32 (by decide) ?_
      refine V_iload dX9_firstCertain_33 rfl ?_
      refine V_ishl dX9_firstCertain_35 ?_
      refine V_to (nI_shl1 r (by omega)) ?_
      refine V_icmp_ne_N 50 dX9_firstCertain_36 (by decide) (by omega) (by omega) (fun c_36 => absurd hb0 c_36) (fun c_36 => ?_)
      refine V_iload_n dX9_firstCertain_39 rfl ?_
      refine V_if_ne_N 47 dX9_firstCertain_40 (by decide) (by omega) (fun c_40 => ?_) (fun c_40 => ?_)
      ·
        refine V_iload dX9_firstCertain_47 rfl ?_
        refine V_iret dX9_firstCertain_49 rfl (Nat.le_of_ble_eq_true rfl) (Nat.le_refl _) (Nat.le_refl _) ?_
        exact ⟨by first | rw [if_pos c_40] | rw [if_neg (by omega)], rfl⟩
      ·
        refine V_iload_n dX9_firstCertain_43 rfl ?_
        refine V_goto 49 dX9_firstCertain_44 (by decide) ?_
        refine V_iret dX9_firstCertain_49 rfl (Nat.le_of_ble_eq_true rfl) (Nat.le_refl _) (Nat.le_refl _) ?_
        exact ⟨by first | rw [if_pos c_40] | rw [if_neg (by omega)], rfl⟩
    | succ f ih =>
      intro r hr
      have hpl : 2 ^ r < 2 ^ r0 := Nat.pow_lt_pow_right (by decide) (by omega)
      refine V_iload dX9_firstCertain_19 rfl ?_
      refine V_aload_n dX9_firstCertain_21 rfl ?_
      refine V_get 0 dX9_firstCertain_22 fX9_firstCertain_9 rfl rfl ?_
      refine V_get 2 dX9_firstCertain_25 fX9_firstCertain_44 rfl rfl ?_
      refine V_icmp_ge_N 56 dX9_firstCertain_28 (by decide) (by omega) (by omega) (fun c_28 => absurd c_28 (by omega)) (fun c_28 => ?_)
      refine V_iload_n dX9_firstCertain_31 rfl ?_
      refine V_iconst (v := nI 1) dX9_firstCertain_32 (by decide) ?_
      refine V_iload dX9_firstCertain_33 rfl ?_
      refine V_ishl dX9_firstCertain_35 ?_
      refine V_to (nI_shl1 r (by omega)) ?_
      refine V_icmp_ne_N 50 dX9_firstCertain_36 (by decide) (by omega) (by omega) (fun c_36 => ?_) (fun c_36 => absurd c_36 (by omega))
      first | refine V_iinc_N (i := 1) dX9_firstCertain_50 rfl (by decide) rfl ?_ | refine V_iinc dX9_firstCertain_50 rfl rfl (by decide) rfl ?_
      refine V_goto 19 dX9_firstCertain_53 (by decide) ?_
      exact ih (r + 1) (by omega)
  have in_ : ∀ (k : Nat), 1 ≤ k → k < k0 → V tO MX9_firstCertain (d, 0, 0) [obS s0 s1 s2 a0 m, (s2, aI 5 Rc), (a0, oB 0 [.ref a1, .int (nI q), .int (nI n), .int (nI (q ^ n))]), (a1, aI 6 (pwF q))] (fun v w' => v = some (.int (nI (if c = 0 then k0 else r0))) ∧ w' = [obS s0 s1 s2 a0 m, (s2, aI 5 Rc), (a0, oB 0 [.ref a1, .int (nI q), .int (nI n), .int (nI (q ^ n))]), (a1, aI 6 (pwF q))]) (0, 0) [obS s0 s1 s2 a0 m, (s2, aI 5 Rc), (a0, oB 0 [.ref a1, .int (nI q), .int (nI n), .int (nI (q ^ n))]), (a1, aI 6 (pwF q))] 2 [some (.ref s0), some (.int (nI c)), some (.int (nI (k + 1))), none, none] [] → ∀ (f r : Nat), r + f = n → V tO MX9_firstCertain (d, 0, 0) [obS s0 s1 s2 a0 m, (s2, aI 5 Rc), (a0, oB 0 [.ref a1, .int (nI q), .int (nI n), .int (nI (q ^ n))]), (a1, aI 6 (pwF q))] (fun v w' => v = some (.int (nI (if c = 0 then k0 else r0))) ∧ w' = [obS s0 s1 s2 a0 m, (s2, aI 5 Rc), (a0, oB 0 [.ref a1, .int (nI q), .int (nI n), .int (nI (q ^ n))]), (a1, aI 6 (pwF q))]) (0, 0) [obS s0 s1 s2 a0 m, (s2, aI 5 Rc), (a0, oB 0 [.ref a1, .int (nI q), .int (nI n), .int (nI (q ^ n))]), (a1, aI 6 (pwF q))] 19 [some (.ref s0), some (.int (nI c)), some (.int (nI k)), some (.int (nI (bits k))), some (.int (nI r))] [] := by
    intro k hk1 hk2 next f
    have hb := hbl k (by omega)
    induction f with
    | zero =>
      intro r hr
      refine V_iload dX9_firstCertain_19 rfl ?_
      refine V_aload_n dX9_firstCertain_21 rfl ?_
      refine V_get 0 dX9_firstCertain_22 fX9_firstCertain_9 rfl rfl ?_
      refine V_get 2 dX9_firstCertain_25 fX9_firstCertain_44 rfl rfl ?_
      refine V_icmp_ge_N 56 dX9_firstCertain_28 (by decide) (by omega) (by omega) (fun c_28 => ?_) (fun c_28 => absurd c_28 (by omega))
      first | refine V_iinc_N (i := 1) dX9_firstCertain_56 rfl (by decide) rfl ?_ | refine V_iinc dX9_firstCertain_56 rfl rfl (by decide) rfl ?_
      refine V_goto 2 dX9_firstCertain_59 (by decide) ?_
      exact V_wk [some (.ref s0), some (.int (nI c)), some (.int (nI (k + 1))), none, none] ⟨rfl, rfl, rfl, trivial, trivial, trivial⟩ next
    | succ f ih =>
      intro r hr
      have hpl : 2 ^ r < 2 ^ 5 := Nat.pow_lt_pow_right (by decide) (by omega)
      refine V_iload dX9_firstCertain_19 rfl ?_
      refine V_aload_n dX9_firstCertain_21 rfl ?_
      refine V_get 0 dX9_firstCertain_22 fX9_firstCertain_9 rfl rfl ?_
      refine V_get 2 dX9_firstCertain_25 fX9_firstCertain_44 rfl rfl ?_
      refine V_icmp_ge_N 56 dX9_firstCertain_28 (by decide) (by omega) (by omega) (fun c_28 => absurd c_28 (by omega)) (fun c_28 => ?_)
      refine V_iload_n dX9_firstCertain_31 rfl ?_
      refine V_iconst (v := nI 1) dX9_firstCertain_32 (by decide) ?_
      refine V_iload dX9_firstCertain_33 rfl ?_
      refine V_ishl dX9_firstCertain_35 ?_
      refine V_to (nI_shl1 r (by omega)) ?_
      refine V_icmp_ne_N 50 dX9_firstCertain_36 (by decide) (by omega) (by omega) (fun c_36 => ?_) (fun c_36 => absurd c_36 (hmin k hk1 hk2 r (by omega)))
      first | refine V_iinc_N (i := 1) dX9_firstCertain_50 rfl (by decide) rfl ?_ | refine V_iinc dX9_firstCertain_50 rfl rfl (by decide) rfl ?_
      refine V_goto 19 dX9_firstCertain_53 (by decide) ?_
      exact ih (r + 1) (by omega)
  have out : ∀ (f k : Nat), k + f = k0 → 1 ≤ k → V tO MX9_firstCertain (d, 0, 0) [obS s0 s1 s2 a0 m, (s2, aI 5 Rc), (a0, oB 0 [.ref a1, .int (nI q), .int (nI n), .int (nI (q ^ n))]), (a1, aI 6 (pwF q))] (fun v w' => v = some (.int (nI (if c = 0 then k0 else r0))) ∧ w' = [obS s0 s1 s2 a0 m, (s2, aI 5 Rc), (a0, oB 0 [.ref a1, .int (nI q), .int (nI n), .int (nI (q ^ n))]), (a1, aI 6 (pwF q))]) (0, 0) [obS s0 s1 s2 a0 m, (s2, aI 5 Rc), (a0, oB 0 [.ref a1, .int (nI q), .int (nI n), .int (nI (q ^ n))]), (a1, aI 6 (pwF q))] 2 [some (.ref s0), some (.int (nI c)), some (.int (nI k)), none, none] [] := by
    intro f
    induction f with
    | zero =>
      intro k hk hk1
      have e : k = k0 := by omega
      subst e
      refine V_iload_n dX9_firstCertain_2 rfl ?_
      refine V_aload_n dX9_firstCertain_3 rfl ?_
      refine V_get 0 dX9_firstCertain_4 fX9_firstCertain_22 rfl rfl ?_
      refine V_icmp_gt_N 62 dX9_firstCertain_7 (by decide) (by omega) (by omega) (fun c_7 => absurd c_7 (by omega)) (fun c_7 => ?_)
      refine V_aload_n dX9_firstCertain_10 rfl ?_
      refine V_iload_n dX9_firstCertain_11 rfl ?_
      refine V_callVpi1 [0, 1, 2, 3] (s_X9_offsets (d := d - 1) (by omega) h (by omega) hR) gX9_firstCertain_X9_offsets dX9_firstCertain_12 oX9_offsets rfl rfl rfl rfl (Nat.le_of_ble_eq_true rfl) (by omega) ⟨Nat.le_refl _, Nat.le_refl _⟩ ?_
      rw [hbits k (by omega)]
      refine V_istore_n dX9_firstCertain_15 (by decide) rfl ?_
      refine V_iconst (v := nI 0) dX9_firstCertain_16 (by decide) ?_
      refine V_istore dX9_firstCertain_17 (by decide) rfl ?_
      exact last r0 0 (by omega)
    | succ f ih =>
      intro k hk hk1
      refine V_iload_n dX9_firstCertain_2 rfl ?_
      refine V_aload_n dX9_firstCertain_3 rfl ?_
      refine V_get 0 dX9_firstCertain_4 fX9_firstCertain_22 rfl rfl ?_
      refine V_icmp_gt_N 62 dX9_firstCertain_7 (by decide) (by omega) (by omega) (fun c_7 => absurd c_7 (by omega)) (fun c_7 => ?_)
      refine V_aload_n dX9_firstCertain_10 rfl ?_
      refine V_iload_n dX9_firstCertain_11 rfl ?_
      refine V_callVpi1 [0, 1, 2, 3] (s_X9_offsets (d := d - 1) (by omega) h (by omega) hR) gX9_firstCertain_X9_offsets dX9_firstCertain_12 oX9_offsets rfl rfl rfl rfl (Nat.le_of_ble_eq_true rfl) (by omega) ⟨Nat.le_refl _, Nat.le_refl _⟩ ?_
      rw [hbits k (by omega)]
      refine V_istore_n dX9_firstCertain_15 (by decide) rfl ?_
      refine V_iconst (v := nI 0) dX9_firstCertain_16 (by decide) ?_
      refine V_istore dX9_firstCertain_17 (by decide) rfl ?_
      exact in_ k hk1 (by omega) (ih (k + 1) (by omega) (by omega)) n 0 (by omega)
  refine eX9_firstCertain [some (.ref s0), some (.int (nI c)), none, none, none] rfl (Nat.le_of_ble_eq_true rfl) ?_
  refine V_iconst (v := nI 1) dX9_firstCertain_0 (by decide) ?_
  refine V_istore_n dX9_firstCertain_1 (by decide) rfl ?_
  exact out (k0 - 1) 1 (by omega) (by omega)
end STRIP

