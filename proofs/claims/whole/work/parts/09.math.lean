/-! words over few letters, as numbers -/
theorem fb_rng' (x : Int32) : -2147483648 ≤ x.toInt ∧ x.toInt < 2147483648 := by
  have h1 := Int32.le_toInt x
  have h2 := Int32.toInt_lt x
  omega
def OKq (q n : Nat) : Prop := 2 ≤ q ∧ q ≤ 4 ∧ 1 ≤ n ∧ n ≤ 5 ∧ q ^ n ≤ 256
def okL : List (Nat × Nat) := [(2, 1), (2, 2), (2, 3), (2, 4), (2, 5), (3, 1), (3, 2), (3, 3), (3, 4), (3, 5), (4, 1), (4, 2), (4, 3), (4, 4)]
theorem OKq.mem {q n : Nat} (h : OKq q n) : (q, n) ∈ okL := by
  obtain ⟨h1, h2, h3, h4, h5⟩ := h
  have hq : q = 2 ∨ q = 3 ∨ q = 4 := by omega
  have hn : n = 1 ∨ n = 2 ∨ n = 3 ∨ n = 4 ∨ n = 5 := by omega
  rcases hq with rfl | rfl | rfl <;> rcases hn with rfl | rfl | rfl | rfl | rfl <;> first | (exact absurd h5 (by decide)) | decide
theorem okL_all {P : Nat → Nat → Prop} (h : ∀ x ∈ okL, P x.1 x.2) {q n : Nat} (hq : OKq q n) : P q n := h (q, n) hq.mem
theorem OKq.pos {q n : Nat} (h : OKq q n) (k : Nat) : 0 < q ^ k := Nat.pow_pos (by obtain ⟨h1, -⟩ := h; omega)
theorem OKq.le {q n k : Nat} (h : OKq q n) (hk : k ≤ n) : q ^ k ≤ 256 := Nat.le_trans (Nat.pow_le_pow_right (by obtain ⟨h1, -⟩ := h; omega) hk) h.2.2.2.2
theorem OKq.le5 {q n k : Nat} (h : OKq q n) (hk : k ≤ 5) : q ^ k ≤ 1024 := Nat.le_trans (Nat.pow_le_pow_right (by obtain ⟨h1, -⟩ := h; omega) hk) (Nat.le_trans (Nat.pow_le_pow_left h.2.1 5) (by decide))
theorem OKq.split {q n k : Nat} (hk : k ≤ n) : q ^ n = q ^ k * q ^ (n - k) := by
  rw [← Nat.pow_add]
  congr 1
  omega
def pwF (q : Nat) : Nat → Int32 := fun k => nI (q ^ k)
/-- letter i, what is across two words, a word turned -/
def wLt (q n w i : Nat) : Nat := w / q ^ (n - 1 - i) % q
def wAc (q n u v k : Nat) : Nat := u % q ^ (n - k) * q ^ k + v / q ^ (n - k)
def wTu (q n w : Nat) : Nat := w % q ^ (n - 1) * q + w / q ^ (n - 1)
theorem wAc_lt {q n u v k : Nat} (h : OKq q n) (hk : k ≤ n) (hv : v < q ^ n) : wAc q n u v k < q ^ n := by
  unfold wAc
  have h1 : u % q ^ (n - k) < q ^ (n - k) := Nat.mod_lt _ (h.pos _)
  have h2 : v / q ^ (n - k) < q ^ k := by
    rw [Nat.div_lt_iff_lt_mul (h.pos _), ← OKq.split hk]; exact hv
  rw [OKq.split hk, Nat.mul_comm (q ^ k)]
  calc u % q ^ (n - k) * q ^ k + v / q ^ (n - k) < u % q ^ (n - k) * q ^ k + q ^ k := by omega
    _ = (u % q ^ (n - k) + 1) * q ^ k := by rw [Nat.succ_mul]
    _ ≤ q ^ (n - k) * q ^ k := Nat.mul_le_mul_right _ h1
theorem wTu_lt {q n w : Nat} (h : OKq q n) (hw : w < q ^ n) : wTu q n w < q ^ n := by
  have e := wAc_lt (u := w) (v := w) h (k := 1) h.2.2.1 hw
  unfold wAc at e
  unfold wTu
  rw [Nat.pow_one] at e
  exact e
/-- how many are in a word's ring, its least one -/
def rS (q n w : Nat) : Nat → Nat → Nat → Nat
  | 0, _, k => k
  | f + 1, t, k => if t = w then k else rS q n w f (wTu q n t) (k + 1)
def rSize (q n w : Nat) : Nat := rS q n w (n - 1) (wTu q n w) 1
def rL (q n : Nat) : Nat → Nat → Nat → Nat
  | 0, _, l => l
  | f + 1, t, l => rL q n f (wTu q n t) (min l (wTu q n t))
def rLeast (q n w : Nat) : Nat := rL q n (n - 1) w w
def rWh (q n w : Nat) : Bool := rSize q n w == n
def rRi (q n w : Nat) : Bool := rLeast q n w == w && rWh q n w
theorem rS_le (q n w : Nat) : ∀ (f t k : Nat), k ≤ rS q n w f t k ∧ rS q n w f t k ≤ k + f
  | 0, t, k => ⟨Nat.le_refl _, Nat.le_refl _⟩
  | f + 1, t, k => by
    rw [rS]
    have := rS_le q n w f (wTu q n t) (k + 1)
    split <;> omega
theorem rL_le (q n : Nat) : ∀ (f t l : Nat), rL q n f t l ≤ l
  | 0, t, l => Nat.le_refl _
  | f + 1, t, l => by
    rw [rL]
    have := rL_le q n f (wTu q n t) (min l (wTu q n t))
    omega
theorem rLeast_le (q n w : Nat) : rLeast q n w ≤ w := rL_le q n _ w w
/-- how many below m are so -/
def ct (p : Nat → Bool) : Nat → Nat
  | 0 => 0
  | m + 1 => ct p m + (if p m then 1 else 0)
theorem ct_succ (p : Nat → Bool) (m : Nat) : ct p (m + 1) = ct p m + (if p m then 1 else 0) := rfl
theorem ct_le (p : Nat → Bool) : ∀ m, ct p m ≤ m
  | 0 => Nat.le_refl _
  | m + 1 => by rw [ct]; have := ct_le p m; split <;> omega
theorem ct_mono (p : Nat → Bool) (a : Nat) : ∀ b, ct p a ≤ ct p (a + b)
  | 0 => Nat.le_refl _
  | b + 1 => by
    have := ct_mono p a b
    rw [← Nat.add_assoc, ct]; omega
theorem ct_cong {p p' : Nat → Bool} : ∀ {m : Nat}, (∀ k, k < m → p k = p' k) → ct p m = ct p' m
  | 0, _ => rfl
  | m + 1, h => by rw [ct, ct, ct_cong (fun k hk => h k (by omega)), h m (by omega)]
/-- the i-th that is so, from w on, c of them being behind; -5 if there is none -/
def kth (p : Nat → Bool) (i : Int32) : Nat → Nat → Nat → Int32
  | 0, _, _ => -5
  | f + 1, w, c => if p w then (if i = nI c then nI w else kth p i f (w + 1) (c + 1)) else kth p i f (w + 1) c
/-- swaps -/
def fac : Nat → Nat
  | 0 => 1
  | k + 1 => (k + 1) * fac k
def nSw (q : Nat) : Nat := 2 * fac q
def ordN : List Nat := [0, 1, 2, 3, 0, 1, 3, 2, 0, 2, 1, 3, 0, 2, 3, 1, 0, 3, 1, 2, 0, 3, 2, 1, 1, 0, 2, 3, 1, 0, 3, 2, 1, 2, 0, 3, 1, 2, 3, 0, 1, 3, 0, 2, 1, 3, 2, 0, 2, 0, 1, 3, 2, 0, 3, 1, 2, 1, 0, 3, 2, 1, 3, 0, 2, 3, 0, 1, 2, 3, 1, 0, 3, 0, 1, 2, 3, 0, 2, 1, 3, 1, 0, 2, 3, 1, 2, 0, 3, 2, 0, 1, 3, 2, 1, 0]
theorem zOrd_N : ∀ k, k < 96 → zOrd k = nI (ordN.getD k 0) := by decide +kernel
/-- what order j makes of letter c -/
def oT (q j c : Nat) : Nat := ordN.getD (4 * j + (4 - q) + c) 0 - (4 - q)
theorem oT_ok {q j c : Nat} (h1 : 2 ≤ q) (h2 : q ≤ 4) (hj : j < fac q) (hc : c < q) : 4 * j + (4 - q) + c < 96 ∧ 4 - q ≤ ordN.getD (4 * j + (4 - q) + c) 0 ∧ oT q j c < q := by
  have hq : q = 2 ∨ q = 3 ∨ q = 4 := by omega
  have key : ∀ q, q = 2 ∨ q = 3 ∨ q = 4 → ∀ j, j < fac q → ∀ c, c < q → 4 * j + (4 - q) + c < 96 ∧ 4 - q ≤ ordN.getD (4 * j + (4 - q) + c) 0 ∧ oT q j c < q := by
    intro q hq
    rcases hq with rfl | rfl | rfl <;> decide +kernel
  exact key q hq j hj c hc
def exF (q n s w : Nat) : Nat → Nat → Nat → Nat
  | 0, _, r => r
  | f + 1, i, r => exF q n s w f (i + 1) (r * q + oT q (s / 2) (wLt q n w (if s % 2 = 1 then n - 1 - i else i)))
def wEx (q n s w : Nat) : Nat := exF q n s w n 0 0
theorem wLt_lt {q n w i : Nat} (h : OKq q n) : wLt q n w i < q := Nat.mod_lt _ (by obtain ⟨h1, -⟩ := h; omega)
theorem exF_lt {q n s w : Nat} (h : OKq q n) (hs : s < nSw q) : ∀ (f i r : Nat), r < q ^ i → exF q n s w f i r < q ^ (i + f)
  | 0, i, r, hr => hr
  | f + 1, i, r, hr => by
    rw [exF, show i + (f + 1) = i + 1 + f by omega]
    refine exF_lt h hs f (i + 1) _ ?_
    have h1 := (oT_ok (j := s / 2) (c := wLt q n w (if s % 2 = 1 then n - 1 - i else i)) h.1 h.2.1 (by unfold nSw at hs; omega) (wLt_lt h)).2.2
    rw [Nat.pow_succ]
    calc r * q + oT q (s / 2) _ < r * q + q := by omega
      _ = (r + 1) * q := by rw [Nat.succ_mul]
      _ ≤ q ^ i * q := Nat.mul_le_mul_right _ hr
theorem wEx_lt {q n s w : Nat} (h : OKq q n) (hs : s < nSw q) : wEx q n s w < q ^ n := by
  have := exF_lt (w := w) h hs n 0 0 (by simp)
  rwa [Nat.zero_add] at this
/-- a number told by an int, below a bound -/
def isW (N : Nat) (x : Int32) : Bool := decide (0 ≤ x.toInt ∧ x.toInt < (N : Int))
theorem isW_nI {N w : Nat} (hw : w < 2 ^ 31) : isW N (nI w) = decide (w < N) := by
  unfold isW
  rw [nI_toInt hw]
  congr 1
  apply propext
  omega
theorem toInt_nI {x : Int32} (h : 0 ≤ x.toInt) : x = nI x.toInt.toNat := by
  have h2 := (fb_rng' x).2
  apply Int32.toInt_inj.mp
  rw [nI_toInt (by omega)]
  omega
theorem isW_of {N : Nat} {x : Int32} (h : isW N x = true) : ∃ w, w < N ∧ x = nI w := by
  unfold isW at h
  have h := of_decide_eq_true h
  exact ⟨x.toInt.toNat, by omega, toInt_nI h.1⟩
theorem isW_not {N : Nat} {x : Int32} (hN : N < 2 ^ 31) (h : isW N x = false) : ∀ w, w < N → x ≠ nI w := by
  intro w hw e
  subst e
  rw [isW_nI (by omega)] at h
  simp [hw] at h
/-! ints against written numbers -/
theorem z_lt {x : Int32} {k : Nat} (hk : k < 2 ^ 31) : x < nI k ↔ x.toInt < (k : Int) := by rw [Int32.lt_iff_toInt_lt, nI_toInt hk]
theorem z_gt {x : Int32} {k : Nat} (hk : k < 2 ^ 31) : nI k < x ↔ (k : Int) < x.toInt := by rw [Int32.lt_iff_toInt_lt, nI_toInt hk]
theorem z_le {x : Int32} {k : Nat} (hk : k < 2 ^ 31) : x ≤ nI k ↔ x.toInt ≤ (k : Int) := by rw [Int32.le_iff_toInt_le, nI_toInt hk]
theorem z_ge {x : Int32} {k : Nat} (hk : k < 2 ^ 31) : nI k ≤ x ↔ (k : Int) ≤ x.toInt := by rw [Int32.le_iff_toInt_le, nI_toInt hk]
theorem z_lt0 {x : Int32} : x < 0 ↔ x.toInt < 0 := by rw [Int32.lt_iff_toInt_lt, Int32.toInt_zero]
theorem z_ge0 {x : Int32} : 0 ≤ x ↔ 0 ≤ x.toInt := by rw [Int32.le_iff_toInt_le, Int32.toInt_zero]
theorem z_eq {x : Int32} {k : Nat} (hk : k < 2 ^ 31) : x = nI k ↔ x.toInt = (k : Int) := by rw [← Int32.toInt_inj, nI_toInt hk]
theorem z_eqm1 {x : Int32} : x = -1 ↔ x.toInt = -1 := by rw [← Int32.toInt_inj]; exact Iff.rfl
/-- letters and length, as told -/
def szB (x y : Int32) : Bool := decide (2 ≤ x.toInt ∧ x.toInt ≤ 4 ∧ 1 ≤ y.toInt ∧ y.toInt ≤ 5 ∧ x.toInt.toNat ^ y.toInt.toNat ≤ 256)
theorem szB_of {x y : Int32} (h : szB x y = true) : ∃ q n, OKq q n ∧ x = nI q ∧ y = nI n := by
  unfold szB at h
  obtain ⟨h1, h2, h3, h4, h5⟩ := of_decide_eq_true h
  exact ⟨x.toInt.toNat, y.toInt.toNat, ⟨by omega, by omega, by omega, by omega, h5⟩, toInt_nI (by omega), toInt_nI (by omega)⟩
theorem szB_nI {q n : Nat} (hq : q < 2 ^ 31) (hn : n < 2 ^ 31) : szB (nI q) (nI n) = decide (2 ≤ q ∧ q ≤ 4 ∧ 1 ≤ n ∧ n ≤ 5 ∧ q ^ n ≤ 256) := by
  unfold szB
  rw [nI_toInt hq, nI_toInt hn]
  simp only [Int.toNat_natCast]
  congr 1
  apply propext
  constructor <;> rintro ⟨h1, h2, h3, h4, h5⟩ <;> exact ⟨by omega, by omega, by omega, by omega, h5⟩

