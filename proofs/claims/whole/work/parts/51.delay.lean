/-! delay: both sides count the same -/
theorem tbI_bit {q n j r s t x : Nat} {B : Nat → Bool} : ∀ (f c a : Nat), tbI q n B j r s t f c a / 2 ^ x % 2 = 1 ↔ a / 2 ^ x % 2 = 1 ∨ ∃ c', c ≤ c' ∧ c' < c + f ∧ stB q n B (t * q + c') j r = true ∧ stB q n B (t * q + c') j s = true ∧ (t * q + c') % q ^ min (j + 1) (n - 1) = x
  | 0, c, a => by
    rw [tbI]
    exact ⟨fun h => Or.inl h, fun h => by
      rcases h with h | ⟨c', h1, h2, _⟩
      · exact h
      · omega⟩
  | f + 1, c, a => by
    rw [tbI, tbI_bit f (c + 1)]
    by_cases e : stB q n B (t * q + c) j r = true ∧ stB q n B (t * q + c) j s = true
    · rw [if_pos e, bit_or]
      constructor
      · rintro ((h | h) | ⟨c', h1, h2, h3⟩)
        · exact Or.inl h
        · exact Or.inr ⟨c, Nat.le_refl _, by omega, e.1, e.2, h.symm⟩
        · exact Or.inr ⟨c', by omega, by omega, h3⟩
      · rintro (h | ⟨c', h1, h2, h3, h4, h5⟩)
        · exact Or.inl (Or.inl h)
        · by_cases ec : c' = c
          · subst ec; exact Or.inl (Or.inr h5.symm)
          · exact Or.inr ⟨c', by omega, by omega, h3, h4, h5⟩
    · rw [if_neg e]
      constructor
      · rintro (h | ⟨c', h1, h2, h3⟩)
        · exact Or.inl h
        · exact Or.inr ⟨c', by omega, by omega, h3⟩
      · rintro (h | ⟨c', h1, h2, h3, h4, h5⟩)
        · exact Or.inl h
        · by_cases ec : c' = c
          · subst ec; exact absurd ⟨h3, h4⟩ e
          · exact Or.inr ⟨c', by omega, by omega, h3, h4, h5⟩
theorem tbO_bit {q n j r s M x : Nat} {B : Nat → Bool} : ∀ (f t a : Nat), tbO q n B j r s M f t a / 2 ^ x % 2 = 1 ↔ a / 2 ^ x % 2 = 1 ∨ ∃ t', t ≤ t' ∧ t' < t + f ∧ M / 2 ^ t' % 2 = 1 ∧ ∃ c', c' < q ∧ stB q n B (t' * q + c') j r = true ∧ stB q n B (t' * q + c') j s = true ∧ (t' * q + c') % q ^ min (j + 1) (n - 1) = x
  | 0, t, a => by
    rw [tbO]
    exact ⟨fun h => Or.inl h, fun h => by
      rcases h with h | ⟨c', h1, h2, _⟩
      · exact h
      · omega⟩
  | f + 1, t, a => by
    rw [tbO, tbO_bit f (t + 1)]
    by_cases e : M / 2 ^ t % 2 = 0
    · rw [if_pos e]
      constructor
      · rintro (h | ⟨c', h1, h2, h3⟩)
        · exact Or.inl h
        · exact Or.inr ⟨c', by omega, by omega, h3⟩
      · rintro (h | ⟨c', h1, h2, h3, h4⟩)
        · exact Or.inl h
        · by_cases ec : c' = t
          · subst ec; omega
          · exact Or.inr ⟨c', by omega, by omega, h3, h4⟩
    · rw [if_neg e, tbI_bit]
      constructor
      · rintro ((h | ⟨c', h1, h2, h3⟩) | ⟨c', h1, h2, h3⟩)
        · exact Or.inl h
        · exact Or.inr ⟨t, Nat.le_refl _, by omega, by omega, c', by omega, h3⟩
        · exact Or.inr ⟨c', by omega, by omega, h3⟩
      · rintro (h | ⟨c', h1, h2, h3, c2, h4, h5⟩)
        · exact Or.inl (Or.inl h)
        · by_cases ec : c' = t
          · subst ec; exact Or.inl (Or.inr ⟨c2, by omega, by omega, h5⟩)
          · exact Or.inr ⟨c', by omega, by omega, h3, c2, h4, h5⟩
def RlM (q n : Nat) (M : Nat) (S : Nat → Bool) (j : Nat) : Prop := ∀ t, (M / 2 ^ t % 2 = 1 ↔ S t = true) ∧ (S t = true → t < q ^ min j (n - 1))
theorem zero_bits {x : Nat} : 0 / 2 ^ x % 2 = 1 ↔ False := by simp
theorem RlM.step {q n j r s M : Nat} {B S : Nat → Bool} (h : OKq q n) (hR : RlM q n M S j) : RlM q n (tbN q n B j r s M) (nxS q n B j s r S) (j + 1) := by
  have hn := h.2.2.1
  have hpm : q ^ min j (n - 1) ≤ q ^ (n - 1) := Nat.pow_le_pow_right (by have := h.1; omega) (Nat.min_le_right _ _)
  have md : ∀ t c, t < q ^ min j (n - 1) → c < q → (t * q + c) % q ^ min (j + 1) (n - 1) = (q * t + c) % q ^ (n - 1) := by
    intro t c ht hc
    rw [Nat.mul_comm t q]
    by_cases e : j + 1 ≤ n - 1
    · rw [Nat.min_eq_left (show j ≤ n - 1 by omega)] at ht
      have h1 : q * t + c < q ^ (j + 1) := by
        rw [Nat.pow_succ, Nat.mul_comm q t]
        calc t * q + c < t * q + q := by omega
          _ = (t + 1) * q := by rw [Nat.succ_mul]
          _ ≤ q ^ j * q := Nat.mul_le_mul_right _ ht
      have h2 : q ^ (j + 1) ≤ q ^ (n - 1) := Nat.pow_le_pow_right (by have := h.1; omega) e
      rw [Nat.min_eq_left e, Nat.mod_eq_of_lt h1, Nat.mod_eq_of_lt (Nat.lt_of_lt_of_le h1 h2)]
    · rw [Nat.min_eq_right (by omega)]
  intro x
  constructor
  · unfold tbN nxS nxP
    rw [tbO_bit, zero_bits, false_or, dB_t]
    constructor
    · rintro ⟨t, -, h1, h2, c, h3, h4, h5, h6⟩
      have hS := (hR t).1.mp h2
      have ht := (hR t).2 hS
      rw [Nat.mul_comm t q] at h4 h5
      exact ⟨t, c, Or.inl (by omega), h3, hS, h5, h4, by rw [← md t c ht h3]; exact h6⟩
    · rintro ⟨t, c, h1, h2, h3, h4, h5, h6⟩
      have ht := (hR t).2 h3
      rw [Nat.mul_comm q t] at h4 h5
      exact ⟨t, Nat.zero_le _, by omega, (hR t).1.mpr h3, c, h2, h5, h4, by rw [md t c ht h2]; exact h6⟩
  · intro hx
    obtain ⟨t, c, h1, h2, h3, h4, h5, h6⟩ := dB_t.mp hx
    have ht := (hR t).2 h3
    rw [← h6, ← md t c ht h2]
    exact Nat.mod_lt _ (h.pos _)
theorem bit_some : ∀ {M : Nat}, M ≠ 0 → ∃ t, M / 2 ^ t % 2 = 1 := by
  intro M
  induction M using Nat.strongRecOn with
  | ind M ih =>
    intro h
    by_cases e : M % 2 = 1
    · exact ⟨0, by simpa using e⟩
    · obtain ⟨t, ht⟩ := ih (M / 2) (by omega) (by omega)
      refine ⟨t + 1, ?_⟩
      rw [Nat.pow_succ, Nat.mul_comm, ← Nat.div_div_eq_div_mul]
      exact ht
theorem RlM.zero {q n M j : Nat} {S : Nat → Bool} (h : RlM q n M S j) : M = 0 ↔ anB S = false := by
  constructor
  · intro e
    refine dB_f.mpr (fun ⟨x, hx⟩ => ?_)
    have := (h x).1.mpr hx
    rw [e] at this
    simp at this
  · intro e
    apply Decidable.byContradiction
    intro hn
    obtain ⟨t, ht⟩ := bit_some hn
    exact dB_f.mp e ⟨t, (h t).1.mp ht⟩
theorem ef_lg {q n r s : Nat} {B : Nat → Bool} (h : OKq q n) : ∀ (f j M : Nat) (S : Nat → Bool), RlM q n M S j → j + f = 12 → efF q n B r s f j M = lgF q n B s r f j S + 1
  | 0, j, M, S, _, _ => rfl
  | f + 1, j, M, S, hR, hj => by
    have h1 := hR.step (B := B) (r := r) (s := s) h
    rw [efF, lgF]
    by_cases e : tbN q n B j r s M = 0
    · rw [if_pos e, h1.zero.mp e, if_neg Bool.false_ne_true]
    · rw [if_neg e, if_pos (by cases hh : anB (nxS q n B j s r S) with | true => rfl | false => exact absurd (h1.zero.mpr hh) e)]
      exact ef_lg h f (j + 1) _ _ h1 (by omega)
theorem RlM_1 {q n : Nat} : RlM q n 1 S0 0 := by
  intro t
  unfold S0
  rw [decide_eq_true_iff, Nat.zero_min, Nat.pow_zero]
  refine ⟨?_, fun e => by omega⟩
  rcases Nat.eq_zero_or_pos t with e | e
  · subst e; simp
  · have h2 : 2 ≤ 2 ^ t := Nat.le_trans (by decide) (Nat.pow_le_pow_right (by decide) e)
    rw [Nat.div_eq_of_lt (by omega)]
    constructor
    · intro hh; omega
    · intro hh; omega
theorem ef_lg12 {q n r s : Nat} {B : Nat → Bool} (h : OKq q n) : efF q n B r s 12 0 1 = lgF q n B s r 12 0 S0 + 1 := ef_lg h 12 0 1 S0 RlM_1 rfl
theorem dlI_iff {q n r m : Nat} {B : Nat → Bool} : ∀ (f s l : Nat), dlI q n B r f s l ≤ m ↔ l ≤ m ∧ ∀ s', s ≤ s' → s' < s + f → efF q n B r s' 12 0 1 ≤ m
  | 0, s, l => ⟨fun h => ⟨h, fun s' a b => absurd b (by omega)⟩, fun h => h.1⟩
  | f + 1, s, l => by
    rw [dlI, dlI_iff f (s + 1)]
    constructor
    · rintro ⟨h1, h2⟩
      refine ⟨by omega, fun s' a b => ?_⟩
      by_cases e : s' = s
      · subst e; omega
      · exact h2 s' (by omega) (by omega)
    · rintro ⟨h1, h2⟩
      exact ⟨by have := h2 s (Nat.le_refl _) (by omega); omega, fun s' a b => h2 s' (by omega) (by omega)⟩
theorem dlO_iff {q n m : Nat} {B : Nat → Bool} : ∀ (f r l : Nat), dlO q n B f r l ≤ m ↔ l ≤ m ∧ ∀ r', r ≤ r' → r' < r + f → ∀ s', r' < s' → s' < n → efF q n B r' s' 12 0 1 ≤ m
  | 0, r, l => ⟨fun h => ⟨h, fun s' a b => absurd b (by omega)⟩, fun h => h.1⟩
  | f + 1, r, l => by
    rw [dlO, dlO_iff f (r + 1), dlI_iff]
    constructor
    · rintro ⟨⟨h1, h2⟩, h3⟩
      refine ⟨h1, fun r' a b s' c e => ?_⟩
      by_cases er : r' = r
      · subst er; exact h2 s' (by omega) (by omega)
      · exact h3 r' (by omega) (by omega) s' c e
    · rintro ⟨h1, h2⟩
      exact ⟨⟨h1, fun s' a b => h2 r (Nat.le_refl _) (by omega) s' (by omega) (by omega)⟩, fun r' a b => h2 r' (by omega) (by omega)⟩
theorem dmI_iff {q n r m : Nat} {B : Nat → Bool} : ∀ (f o l : Nat), dmI q n B r f o l ≤ m ↔ l ≤ m ∧ ∀ o', o ≤ o' → o' < o + f → lgF q n B r o' 12 0 S0 ≤ m
  | 0, s, l => ⟨fun h => ⟨h, fun s' a b => absurd b (by omega)⟩, fun h => h.1⟩
  | f + 1, s, l => by
    rw [dmI, dmI_iff f (s + 1)]
    constructor
    · rintro ⟨h1, h2⟩
      refine ⟨by omega, fun s' a b => ?_⟩
      by_cases e : s' = s
      · subst e; omega
      · exact h2 s' (by omega) (by omega)
    · rintro ⟨h1, h2⟩
      exact ⟨by have := h2 s (Nat.le_refl _) (by omega); omega, fun s' a b => h2 s' (by omega) (by omega)⟩
theorem dmO_iff {q n m : Nat} {B : Nat → Bool} : ∀ (f r l : Nat), dmO q n B f r l ≤ m ↔ l ≤ m ∧ ∀ r', r ≤ r' → r' < r + f → ∀ o', o' < r' → lgF q n B r' o' 12 0 S0 ≤ m
  | 0, r, l => ⟨fun h => ⟨h, fun s' a b => absurd b (by omega)⟩, fun h => h.1⟩
  | f + 1, r, l => by
    rw [dmO, dmO_iff f (r + 1), dmI_iff]
    constructor
    · rintro ⟨⟨h1, h2⟩, h3⟩
      refine ⟨h1, fun r' a b o' c => ?_⟩
      by_cases er : r' = r
      · subst er; exact h2 o' (by omega) (by omega)
      · exact h3 r' (by omega) (by omega) o' c
    · rintro ⟨h1, h2⟩
      exact ⟨⟨h1, fun o' a b => h2 r (Nat.le_refl _) (by omega) o' (by omega)⟩, fun r' a b => h2 r' (by omega) (by omega)⟩
theorem dl_dm {q n : Nat} {B : Nat → Bool} (h : OKq q n) : dlN q n B = dmO q n B n 0 0 + 1 := by
  have h1 : dlN q n B ≤ dmO q n B n 0 0 + 1 := by
    unfold dlN
    rw [dlO_iff]
    refine ⟨by omega, fun r' _ b s' c e => ?_⟩
    rw [ef_lg12 h]
    have := (dmO_iff (q := q) (n := n) (B := B) (m := dmO q n B n 0 0) n 0 0).mp (Nat.le_refl _)
    have := this.2 s' (by omega) (by omega) r' c
    omega
  have h2 : dmO q n B n 0 0 ≤ dlN q n B - 1 := by
    have h3 := (dlO_iff (q := q) (n := n) (B := B) (m := dlN q n B) n 0 1).mp (Nat.le_refl _)
    rw [dmO_iff]
    refine ⟨by omega, fun r' _ b o' c => ?_⟩
    have := h3.2 o' (by omega) (by omega) r' c (by omega)
    rw [ef_lg12 h] at this
    omega
  have h3 := (dlO_iff (q := q) (n := n) (B := B) (m := dlN q n B) n 0 1).mp (Nat.le_refl _)
  have := h3.1
  omega
section DELAY
variable {tO d m0 : Nat} {A : Nat → Nat} {q n cut rows kq kn kc kr fd wn : Nat} {kt yw : Bool} {cu cv ck rm mo bo ki wa wr fo : Int32} {B KB : Nat → Bool} {Wb R KR P KP Od Ig Pk Lt Lk Rd Nx Tp Pa Wy Sz It : Nat → Int32}
theorem s_X12_delay (hd : 7 ≤ d) (h : OKq q n) (hB : ∀ w, B w = true → w < q ^ n) : Sp tO MX12_delay (d, 0, 0) [.ref m0] [obM m0 A q n cut rows kq kn kc kr kt cu cv ck rm mo bo ki wa wr fo fd wn yw, (A 0, aZ 256 (hdF B)), (A 11, aI 5 Lk), (A 12, aZ 256 Rd), (A 13, aZ 256 Nx)] (fun v w' => ∃ Lk' Rd' Nx', v = some (.int (dyV q n B)) ∧ w' = [obM m0 A q n cut rows kq kn kc kr kt cu cv ck rm mo bo ki wa wr fo fd wn yw, (A 0, aZ 256 (hdF B)), (A 11, aI 5 Lk'), (A 12, aZ 256 Rd'), (A 13, aZ 256 Nx')]) := by
  have e := s_X12_delay0 (tO := tO) (m0 := m0) (A := A) (cut := cut) (rows := rows) (kq := kq) (kn := kn) (kc := kc) (kr := kr) (kt := kt) (cu := cu) (cv := cv) (ck := ck) (rm := rm) (mo := mo) (bo := bo) (ki := ki) (wa := wa) (wr := wr) (fo := fo) (fd := fd) (wn := wn) (yw := yw) (Lk := Lk) (Rd := Rd) (Nx := Nx) hd h hB
  have e2 : (if q ^ n ≤ 32 then (if dmO q n B n 0 0 < 12 then nI (dmO q n B n 0 0 + 1) else -5) else -3) = dyV q n B := by
    unfold dyV
    rw [dl_dm h]
    by_cases c1 : q ^ n ≤ 32
    · rw [if_pos c1, if_pos c1]
      by_cases c2 : dmO q n B n 0 0 < 12
      · rw [if_pos c2, if_pos (by omega)]
      · rw [if_neg c2, if_neg (by omega)]
    · rw [if_neg c1, if_neg c1]
  rw [e2] at e
  exact e
end DELAY

