/-! books, as sets of numbers -/
def SE (B : Nat → Bool) (g : Nat → Nat) (m : Nat) : Prop := (∀ i j, i < j → j < m → g i < g j) ∧ ∀ w, B w = true ↔ ∃ i, i < m ∧ g i = w
theorem SE.mem {B : Nat → Bool} {g : Nat → Nat} {m i : Nat} (h : SE B g m) (hi : i < m) : B (g i) = true := (h.2 _).mpr ⟨i, hi, rfl⟩
theorem SE.inj {B : Nat → Bool} {g : Nat → Nat} {m i j : Nat} (h : SE B g m) (hi : i < m) (hj : j < m) (e : g i = g j) : i = j := by
  rcases Nat.lt_trichotomy i j with q | q | q
  · have := h.1 i j q hj; omega
  · exact q
  · have := h.1 j i q hi; omega
theorem SE.mono {B : Nat → Bool} {g : Nat → Nat} {m i j : Nat} (h : SE B g m) (hij : i ≤ j) (hj : j < m) : g i ≤ g j := by
  rcases Nat.lt_or_ge i j with q | q
  · exact Nat.le_of_lt (h.1 i j q hj)
  · rw [show i = j by omega]; exact Nat.le_refl _
theorem SE.cnt {B : Nat → Bool} {g : Nat → Nat} {m : Nat} (h : SE B g m) : ∀ (x i : Nat), i ≤ m → (∀ j, j < i → g j < x) → (∀ j, i ≤ j → j < m → x ≤ g j) → ct B x = i
  | 0, i, hi, h1, h2 => by
    cases i with
    | zero => rfl
    | succ i => have := h1 0 (by omega); omega
  | x + 1, i, hi, h1, h2 => by
    rw [ct_succ]
    by_cases hb : B x = true
    · obtain ⟨j0, hj0, hg⟩ := (h.2 x).mp hb
      have hji : j0 < i := by
        apply Decidable.byContradiction
        intro hn
        have := h2 j0 (by omega) hj0
        omega
      cases i with
      | zero => omega
      | succ i =>
        have e : g i = x := by
          have a1 := h1 i (by omega)
          have a2 := h.mono (i := j0) (j := i) (by omega) (by omega)
          omega
        rw [hb, if_pos rfl, h.cnt x i (by omega) (fun j hj => by have := h.1 j i hj (by omega); omega) (fun j hj hjm => by have := h.mono hj hjm; omega)]
    · rw [if_neg hb, h.cnt x i hi (fun j hj => by
        have a1 := h1 j hj
        have a2 : g j ≠ x := fun e => hb (e ▸ h.mem (by omega))
        omega) (fun j hj hjm => by have := h2 j hj hjm; omega)]
      rfl
theorem SE.card {B : Nat → Bool} {g : Nat → Nat} {m N : Nat} (h : SE B g m) (hN : ∀ w, B w = true → w < N) : ct B N = m := h.cnt N m (Nat.le_refl _) (fun j hj => hN _ (h.mem hj)) (fun j h1 h2 => by omega)
theorem SE.at {B : Nat → Bool} {g : Nat → Nat} {m i : Nat} (h : SE B g m) (hi : i < m) : ct B (g i) = i := h.cnt (g i) i (by omega) (fun j hj => h.1 j i hj hi) (fun j h1 h2 => h.mono h1 h2)
theorem ct_lt {p : Nat → Bool} {w : Nat} (hp : p w = false) : ∀ {m : Nat}, w < m → ct p m < m
  | 0, h => absurd h (by omega)
  | m + 1, h => by
    rw [ct_succ]
    by_cases e : w = m
    · subst e
      rw [hp]
      have := ct_le p w
      simp
      omega
    · have := ct_lt hp (m := m) (by omega)
      split <;> omega
theorem SE.nil : SE (fun _ => false) (fun _ => 0) 0 := ⟨fun i j _ h => absurd h (by omega), fun w => ⟨fun h => absurd h Bool.false_ne_true, fun ⟨i, h, _⟩ => absurd h (by omega)⟩⟩
/-- a word comes -/
def insB (B : Nat → Bool) (w : Nat) : Nat → Bool := fun j => B j || (j == w)
theorem insB_self (B : Nat → Bool) (w : Nat) : insB B w w = true := by simp [insB]
theorem insB_of {B : Nat → Bool} {w j : Nat} (h : B j = true) : insB B w j = true := by simp [insB, h]
theorem insB_iff {B : Nat → Bool} {w j : Nat} : insB B w j = true ↔ B j = true ∨ j = w := by simp [insB]
theorem insB_id {B : Nat → Bool} {w : Nat} (h : B w = true) : insB B w = B := by
  funext j
  unfold insB
  by_cases e : j = w
  · subst e; rw [h]; rfl
  · simp [e]
theorem SE.ins {B : Nat → Bool} {g : Nat → Nat} {m i w : Nat} (h : SE B g m) (hi : i ≤ m) (h1 : ∀ j, j < i → g j < w) (h2 : ∀ j, i ≤ j → j < m → w < g j) : SE (insB B w) (fun j => if j < i then g j else if j = i then w else g (j - 1)) (m + 1) := by
  refine ⟨fun a b hab hb => ?_, fun x => ?_⟩
  · dsimp only
    by_cases ha : a < i
    · rw [if_pos ha]
      by_cases hb1 : b < i
      · rw [if_pos hb1]; exact h.1 a b hab (by omega)
      · rw [if_neg hb1]
        by_cases hb2 : b = i
        · rw [if_pos hb2]; exact h1 a ha
        · rw [if_neg hb2]; exact h.1 a (b - 1) (by omega) (by omega)
    · rw [if_neg ha, if_neg (show ¬ b < i by omega), if_neg (show ¬ b = i by omega)]
      by_cases ha2 : a = i
      · rw [if_pos ha2]; exact h2 _ (by omega) (by omega)
      · rw [if_neg ha2]; exact h.1 (a - 1) (b - 1) (by omega) (by omega)
  · rw [insB_iff, h.2 x]
    constructor
    · rintro (⟨j, hj, e⟩ | e)
      · by_cases hji : j < i
        · exact ⟨j, by omega, by dsimp only; rw [if_pos hji]; exact e⟩
        · exact ⟨j + 1, by omega, by dsimp only; rw [if_neg (by omega), if_neg (by omega)]; exact e⟩
      · exact ⟨i, by omega, by dsimp only; rw [if_neg (by omega), if_pos rfl]; exact e.symm⟩
    · rintro ⟨j, hj, e⟩
      dsimp only at e
      by_cases hji : j < i
      · rw [if_pos hji] at e; exact Or.inl ⟨j, by omega, e⟩
      · rw [if_neg hji] at e
        by_cases hj2 : j = i
        · rw [if_pos hj2] at e; exact Or.inr e.symm
        · rw [if_neg hj2] at e; exact Or.inl ⟨j - 1, by omega, e⟩
/-- a word goes -/
def delB (B : Nat → Bool) (w : Nat) : Nat → Bool := fun j => B j && !(j == w)
theorem delB_iff {B : Nat → Bool} {w j : Nat} : delB B w j = true ↔ B j = true ∧ j ≠ w := by simp [delB]
theorem delB_id {B : Nat → Bool} {w : Nat} (h : B w = false) : delB B w = B := by
  funext j
  unfold delB
  by_cases e : j = w
  · subst e; rw [h]; rfl
  · simp [e]
theorem SE.del {B : Nat → Bool} {g : Nat → Nat} {m i : Nat} (h : SE B g (m + 1)) (hi : i < m + 1) : SE (delB B (g i)) (fun j => if j < i then g j else g (j + 1)) m := by
  refine ⟨fun a b hab hb => ?_, fun x => ?_⟩
  · dsimp only
    by_cases ha : a < i
    · rw [if_pos ha]
      by_cases hb1 : b < i
      · rw [if_pos hb1]; exact h.1 a b hab (by omega)
      · rw [if_neg hb1]; exact h.1 a (b + 1) (by omega) (by omega)
    · rw [if_neg ha, if_neg (show ¬ b < i by omega)]
      exact h.1 (a + 1) (b + 1) (by omega) (by omega)
  · rw [delB_iff, h.2 x]
    constructor
    · rintro ⟨⟨j, hj, e⟩, hx⟩
      by_cases hji : j < i
      · exact ⟨j, by omega, by dsimp only; rw [if_pos hji]; exact e⟩
      · have : j ≠ i := fun q => hx (by rw [← e, q])
        exact ⟨j - 1, by omega, by dsimp only; rw [if_neg (by omega), show j - 1 + 1 = j by omega]; exact e⟩
    · rintro ⟨j, hj, e⟩
      dsimp only at e
      by_cases hji : j < i
      · rw [if_pos hji] at e
        exact ⟨⟨j, by omega, e⟩, fun q => by have := h.1 j i hji hi; omega⟩
      · rw [if_neg hji] at e
        exact ⟨⟨j + 1, by omega, e⟩, fun q => by have := h.1 i (j + 1) (by omega) (by omega); omega⟩
/-- the rows of a book: its words in W, the first m of them, all below N -/
def Bk (N : Nat) (B : Nat → Bool) (W : Nat → Int32) (m : Nat) : Prop := (∀ w, B w = true → w < N) ∧ ∃ g, SE B g m ∧ ∀ i, i < m → W i = nI (g i)
theorem Bk.len {N : Nat} {B : Nat → Bool} {W : Nat → Int32} {m : Nat} (h : Bk N B W m) : m ≤ N := by
  obtain ⟨h1, g, h2, -⟩ := h
  rw [← h2.card h1]
  exact ct_le _ _
theorem Bk.card {N : Nat} {B : Nat → Bool} {W : Nat → Int32} {m : Nat} (h : Bk N B W m) : ct B N = m := by
  obtain ⟨h1, g, h2, -⟩ := h
  exact h2.card h1
theorem Bk.nil (N : Nat) (W : Nat → Int32) : Bk N (fun _ => false) W 0 := ⟨fun w h => absurd h Bool.false_ne_true, _, SE.nil, fun i hi => absurd hi (by omega)⟩
theorem Bk.mono {N N' : Nat} {B : Nat → Bool} {W : Nat → Int32} {m : Nat} (h : Bk N B W m) (hN : N ≤ N') : Bk N' B W m := ⟨fun w hw => Nat.lt_of_lt_of_le (h.1 w hw) hN, h.2⟩
def hdF (B : Nat → Bool) : Nat → Int32 := fun w => bI (B w)
/-! the marks: how often an opening, an ending stands at a place -/
def hO (q n w j : Nat) : Nat → Nat
  | 0 => 0
  | k + 1 => hO q n w j k + if j = q ^ (k + 1) + w / q ^ (n - (k + 1)) then 1 else 0
def hE (q w j : Nat) : Nat → Nat
  | 0 => 0
  | k + 1 => hE q w j k + if j = q ^ (k + 1) + w % q ^ (k + 1) then 1 else 0
def sm (f : Nat → Nat) : Nat → Nat
  | 0 => 0
  | m + 1 => sm f m + f m
def opN (q n : Nat) (B : Nat → Bool) (j : Nat) : Nat := sm (fun w => if B w then hO q n w j (n - 1) else 0) 256
def enN (q n : Nat) (B : Nat → Bool) (j : Nat) : Nat := sm (fun w => if B w then hE q w j (n - 1) else 0) 256
def opF (q n : Nat) (B : Nat → Bool) : Nat → Int32 := fun j => nI (opN q n B j)
def enF (q n : Nat) (B : Nat → Bool) : Nat → Int32 := fun j => nI (enN q n B j)
theorem sm_cong {f g : Nat → Nat} : ∀ {m : Nat}, (∀ k, k < m → f k = g k) → sm f m = sm g m
  | 0, _ => rfl
  | m + 1, h => by rw [sm, sm, sm_cong (fun k hk => h k (by omega)), h m (by omega)]
theorem sm_zero : ∀ (m : Nat), sm (fun _ => 0) m = 0
  | 0 => rfl
  | m + 1 => by rw [sm, sm_zero m]
theorem sm_pos {f : Nat → Nat} : ∀ {m : Nat}, 0 < sm f m ↔ ∃ k, k < m ∧ 0 < f k
  | 0 => ⟨fun h => absurd h (by simp [sm]), fun ⟨k, h, _⟩ => absurd h (by omega)⟩
  | m + 1 => by
    rw [sm]
    constructor
    · intro h
      rcases Nat.eq_zero_or_pos (sm f m) with e | e
      · exact ⟨m, by omega, by omega⟩
      · obtain ⟨k, h1, h2⟩ := sm_pos.mp e
        exact ⟨k, by omega, h2⟩
    · rintro ⟨k, h1, h2⟩
      by_cases e : k = m
      · subst e; omega
      · have := (sm_pos (f := f) (m := m)).mpr ⟨k, by omega, h2⟩
        omega
theorem sm_bound {f : Nat → Nat} {c : Nat} : ∀ {m : Nat}, (∀ k, k < m → f k ≤ c) → sm f m ≤ m * c
  | 0, _ => by simp [sm]
  | m + 1, h => by
    rw [sm, Nat.succ_mul]
    have := sm_bound (m := m) (fun k hk => h k (by omega))
    have := h m (by omega)
    omega
theorem sm_ins {f : Nat → Nat} {B : Nat → Bool} {w : Nat} (hw : B w = false) : ∀ {m : Nat}, sm (fun x => if insB B w x then f x else 0) m = sm (fun x => if B x then f x else 0) m + if w < m then f w else 0
  | 0 => by simp [sm]
  | m + 1 => by
    rw [sm, sm, sm_ins hw (m := m)]
    by_cases e : m = w
    · subst e
      rw [if_pos (insB_self B m), hw]
      simp
    · have e2 : insB B w m = B m := by simp [insB, e]
      rw [e2]
      by_cases h3 : w < m
      · rw [if_pos h3, if_pos (show w < m + 1 by omega)]; omega
      · rw [if_neg h3, if_neg (show ¬ w < m + 1 by omega)]; omega
theorem hO_le (q n w j : Nat) : ∀ k, hO q n w j k ≤ k
  | 0 => Nat.le_refl _
  | k + 1 => by rw [hO]; have := hO_le q n w j k; split <;> omega
theorem hE_le (q w j : Nat) : ∀ k, hE q w j k ≤ k
  | 0 => Nat.le_refl _
  | k + 1 => by rw [hE]; have := hE_le q w j k; split <;> omega
theorem hO_pos {q n w j : Nat} : ∀ {k : Nat}, 0 < hO q n w j k ↔ ∃ i, 1 ≤ i ∧ i ≤ k ∧ j = q ^ i + w / q ^ (n - i)
  | 0 => ⟨fun h => absurd h (by simp [hO]), fun ⟨i, h1, h2, _⟩ => absurd h1 (by omega)⟩
  | k + 1 => by
    rw [hO]
    constructor
    · intro h
      by_cases e : j = q ^ (k + 1) + w / q ^ (n - (k + 1))
      · exact ⟨k + 1, by omega, by omega, e⟩
      · rw [if_neg e] at h
        obtain ⟨i, h1, h2, h3⟩ := hO_pos.mp (show 0 < hO q n w j k by omega)
        exact ⟨i, h1, by omega, h3⟩
    · rintro ⟨i, h1, h2, h3⟩
      by_cases e : i = k + 1
      · subst e; rw [if_pos h3]; omega
      · have := (hO_pos (q := q) (n := n) (w := w) (j := j) (k := k)).mpr ⟨i, h1, by omega, h3⟩
        omega
theorem hE_pos {q w j : Nat} : ∀ {k : Nat}, 0 < hE q w j k ↔ ∃ i, 1 ≤ i ∧ i ≤ k ∧ j = q ^ i + w % q ^ i
  | 0 => ⟨fun h => absurd h (by simp [hE]), fun ⟨i, h1, h2, _⟩ => absurd h1 (by omega)⟩
  | k + 1 => by
    rw [hE]
    constructor
    · intro h
      by_cases e : j = q ^ (k + 1) + w % q ^ (k + 1)
      · exact ⟨k + 1, by omega, by omega, e⟩
      · rw [if_neg e] at h
        obtain ⟨i, h1, h2, h3⟩ := hE_pos.mp (show 0 < hE q w j k by omega)
        exact ⟨i, h1, by omega, h3⟩
    · rintro ⟨i, h1, h2, h3⟩
      by_cases e : i = k + 1
      · subst e; rw [if_pos h3]; omega
      · have := (hE_pos (q := q) (w := w) (j := j) (k := k)).mpr ⟨i, h1, by omega, h3⟩
        omega
theorem opN_le (q n : Nat) (B : Nat → Bool) (j : Nat) : opN q n B j ≤ 256 * (n - 1) := sm_bound (fun k _ => by split; exact hO_le _ _ _ _ _; exact Nat.zero_le _)
theorem enN_le (q n : Nat) (B : Nat → Bool) (j : Nat) : enN q n B j ≤ 256 * (n - 1) := sm_bound (fun k _ => by split; exact hE_le _ _ _ _; exact Nat.zero_le _)
theorem pw_apart {q i k a b : Nat} (hq : 2 ≤ q) (ha : a < q ^ i) (hb : b < q ^ k) (e : q ^ i + a = q ^ k + b) : i = k ∧ a = b := by
  have key : ∀ {i k a b : Nat}, a < q ^ i → b < q ^ k → q ^ i + a = q ^ k + b → ¬ i < k := by
    intro i k a b ha hb e hlt
    have h1 : q ^ (i + 1) ≤ q ^ k := Nat.pow_le_pow_right (by omega) hlt
    have h2 : q ^ i * 2 ≤ q ^ i * q := Nat.mul_le_mul_left _ hq
    rw [Nat.pow_succ] at h1
    omega
  have h1 := key ha hb e
  have h2 := key hb ha e.symm
  have h3 : i = k := by omega
  subst h3
  exact ⟨rfl, by omega⟩
/-- what the marks say: an opening of k letters, an ending of k letters -/
theorem opN_pos {q n k p : Nat} {B : Nat → Bool} (h : OKq q n) (hB : ∀ w, B w = true → w < q ^ n) (hk1 : 1 ≤ k) (hk : k < n) (hp : p < q ^ k) : 0 < opN q n B (q ^ k + p) ↔ ∃ v, B v = true ∧ v / q ^ (n - k) = p := by
  unfold opN
  rw [sm_pos]
  have lt : ∀ i w, i ≤ n → w < q ^ n → w / q ^ (n - i) < q ^ i := fun i w hi hw => by rw [Nat.div_lt_iff_lt_mul (h.pos _), ← OKq.split hi]; exact hw
  constructor
  · rintro ⟨w, hw, hpos⟩
    by_cases hb : B w = true
    · rw [if_pos hb] at hpos
      obtain ⟨i, h1, h2, h3⟩ := hO_pos.mp hpos
      obtain ⟨e1, e2⟩ := pw_apart h.1 hp (lt i w (by omega) (hB w hb)) h3
      subst e1
      exact ⟨w, hb, e2.symm⟩
    · rw [if_neg hb] at hpos; omega
  · rintro ⟨w, hb, e⟩
    exact ⟨w, Nat.lt_of_lt_of_le (hB w hb) h.2.2.2.2, by rw [if_pos hb]; exact hO_pos.mpr ⟨k, hk1, by omega, by rw [e]⟩⟩
theorem enN_pos {q n k p : Nat} {B : Nat → Bool} (h : OKq q n) (hB : ∀ w, B w = true → w < q ^ n) (hk1 : 1 ≤ k) (hk : k < n) (hp : p < q ^ k) : 0 < enN q n B (q ^ k + p) ↔ ∃ u, B u = true ∧ u % q ^ k = p := by
  unfold enN
  rw [sm_pos]
  constructor
  · rintro ⟨w, hw, hpos⟩
    by_cases hb : B w = true
    · rw [if_pos hb] at hpos
      obtain ⟨i, h1, h2, h3⟩ := hE_pos.mp hpos
      obtain ⟨e1, e2⟩ := pw_apart h.1 hp (Nat.mod_lt _ (h.pos i)) h3
      subst e1
      exact ⟨w, hb, e2.symm⟩
    · rw [if_neg hb] at hpos; omega
  · rintro ⟨w, hb, e⟩
    exact ⟨w, Nat.lt_of_lt_of_le (hB w hb) h.2.2.2.2, by rw [if_pos hb]; exact hE_pos.mpr ⟨k, hk1, by omega, by rw [e]⟩⟩
theorem opF_ins {q n w : Nat} {B : Nat → Bool} (hw : B w = false) (h : w < 256) (j : Nat) : opF q n (insB B w) j = opF q n B j + nI (hO q n w j (n - 1)) := by
  unfold opF opN
  rw [nI_add, sm_ins hw, if_pos h]
theorem enF_ins {q n w : Nat} {B : Nat → Bool} (hw : B w = false) (h : w < 256) (j : Nat) : enF q n (insB B w) j = enF q n B j + nI (hE q w j (n - 1)) := by
  unfold enF enN
  rw [nI_add, sm_ins hw, if_pos h]
theorem opF_nil (q n : Nat) : opF q n (fun _ => false) = fun _ => 0 := by
  funext j
  unfold opF opN
  simp only [Bool.false_eq_true, if_false]
  rw [sm_zero]; rfl
theorem enF_nil (q n : Nat) : enF q n (fun _ => false) = fun _ => 0 := by
  funext j
  unfold enF enN
  simp only [Bool.false_eq_true, if_false]
  rw [sm_zero]; rfl
/-! hidden words, free books -/
noncomputable def dB (p : Prop) : Bool := @decide p (Classical.propDecidable p)
theorem dB_t {p : Prop} : dB p = true ↔ p := by unfold dB; exact @decide_eq_true_iff p (Classical.propDecidable p)
theorem dB_f {p : Prop} : dB p = false ↔ ¬ p := by unfold dB; exact @decide_eq_false_iff_not p (Classical.propDecidable p)
theorem dB_iff {p p' : Prop} (h : p ↔ p') : dB p = dB p' := by rw [propext h]
/-- w hides in two of B -/
def Hid (q n : Nat) (B : Nat → Bool) (w : Nat) : Prop := ∃ u v k, B u = true ∧ B v = true ∧ 1 ≤ k ∧ k < n ∧ wAc q n u v k = w
def Fr (q n : Nat) (B : Nat → Bool) : Prop := ∀ u v k, B u = true → B v = true → 1 ≤ k → k < n → B (wAc q n u v k) = false
theorem Fr_iff {q n : Nat} {B : Nat → Bool} : Fr q n B ↔ ∀ w, B w = true → ¬ Hid q n B w := by
  constructor
  · rintro h w hw ⟨u, v, k, h1, h2, h3, h4, rfl⟩
    rw [h u v k h1 h2 h3 h4] at hw
    cases hw
  · intro h u v k h1 h2 h3 h4
    cases e : B (wAc q n u v k) with
    | false => rfl
    | true => exact absurd ⟨u, v, k, h1, h2, h3, h4, rfl⟩ (h _ e)
theorem Hid_iff {q n w : Nat} {B : Nat → Bool} (h : OKq q n) (hB : ∀ w, B w = true → w < q ^ n) : Hid q n B w ↔ ∃ k, 1 ≤ k ∧ k < n ∧ (∃ u, B u = true ∧ u % q ^ (n - k) = w / q ^ k) ∧ ∃ v, B v = true ∧ v / q ^ (n - k) = w % q ^ k := by
  constructor
  · rintro ⟨u, v, k, h1, h2, h3, h4, rfl⟩
    have hv : v / q ^ (n - k) < q ^ k := by rw [Nat.div_lt_iff_lt_mul (h.pos _), ← OKq.split (by omega)]; exact hB v h2
    refine ⟨k, h3, h4, ⟨u, h1, ?_⟩, v, h2, ?_⟩
    · unfold wAc
      rw [Nat.mul_comm, Nat.mul_add_div (h.pos k), Nat.div_eq_of_lt hv, Nat.add_zero]
    · unfold wAc
      rw [Nat.mul_comm, Nat.mul_add_mod, Nat.mod_eq_of_lt hv]
  · rintro ⟨k, h1, h2, ⟨u, h3, h4⟩, v, h5, h6⟩
    refine ⟨u, v, k, h3, h5, h1, h2, ?_⟩
    unfold wAc
    rw [h4, h6, Nat.mul_comm]
    exact Nat.div_add_mod w (q ^ k)
noncomputable def hidB (q n : Nat) (B : Nat → Bool) (w : Nat) : Bool := dB (Hid q n B w)
noncomputable def frB (q n : Nat) (B : Nat → Bool) : Bool := dB (Fr q n B)

