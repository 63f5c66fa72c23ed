/-! the model: orders of letters, swaps -/
/-- the least letter not used yet, so many left over -/
def oW (used : Nat) : Nat → Nat → Nat → Nat
  | 0, _, c => c
  | f + 1, skip, c => if used / 2 ^ c % 2 = 1 then oW used f skip (c + 1) else if 0 < skip then oW used f (skip - 1) (c + 1) else c
def oE (used : Nat) : Nat → Nat → Nat → Bool
  | 0, _, _ => false
  | f + 1, skip, c => if used / 2 ^ c % 2 = 1 then oE used f skip (c + 1) else if 0 < skip then oE used f (skip - 1) (c + 1) else true
/-- left, ways, used -/
def oS (q j : Nat) : Nat → Nat × Nat × Nat
  | 0 => (j, fac q, 0)
  | i + 1 => ((oS q j i).1 % ((oS q j i).2.1 / (q - i)), (oS q j i).2.1 / (q - i), (oS q j i).2.2 ||| 2 ^ oW (oS q j i).2.2 8 ((oS q j i).1 / ((oS q j i).2.1 / (q - i))) 0)
theorem oS_all : ∀ q, q = 2 ∨ q = 3 ∨ q = 4 → ∀ j, j < fac q → ∀ i, i < q → ((oS q j i).1 < 24 ∧ (oS q j i).2.1 ≤ 24 ∧ 0 < (oS q j i).2.1 / (q - i) ∧ (oS q j i).2.2 < 16) ∧ oE (oS q j i).2.2 8 ((oS q j i).1 / ((oS q j i).2.1 / (q - i))) 0 = true ∧ oW (oS q j i).2.2 8 ((oS q j i).1 / ((oS q j i).2.1 / (q - i))) 0 = oT q j i ∧ oT q j i < 4 := by
  intro q hq
  rcases hq with rfl | rfl | rfl <;> decide +kernel
theorem bit16 : ∀ u, u < 16 → ∀ c, c < 9 → ((nI u >>> (nI c &&& 31)) &&& nI 1) = nI (u / 2 ^ c % 2) := by decide +kernel
def orF (q j i : Nat) (Od : Nat → Int32) : Nat → Int32 := fun k => if k < i then nI (oT q j k) else Od k
theorem orF_upd {q j i : Nat} {Od : Nat → Int32} : upd (orF q j i Od) i (nI (oT q j i)) = orF q j (i + 1) Od := by
  funext k
  unfold upd orF
  by_cases e : k = i
  · subst e; rw [if_pos rfl, if_pos (by omega)]
  · rw [if_neg e]
    by_cases e2 : k < i
    · rw [if_pos e2, if_pos (by omega)]
    · rw [if_neg e2, if_neg (by omega)]
theorem orF_0 {q j : Nat} {Od : Nat → Int32} : orF q j 0 Od = Od := by
  funext k
  unfold orF
  rw [if_neg (by omega)]
theorem oT_inj : ∀ q, q = 2 ∨ q = 3 ∨ q = 4 → ∀ j, j < fac q → ∀ c, c < q → ∀ c', c' < q → oT q j c = oT q j c' → c = c' := by
  intro q hq
  rcases hq with rfl | rfl | rfl <;> decide +kernel
theorem OKq.q3 {q n : Nat} (h : OKq q n) : q = 2 ∨ q = 3 ∨ q = 4 := by
  have h1 := h.1
  have h2 := h.2.1
  omega
theorem dm_eq {q r r' c c' : Nat} (hc : c < q) (hc' : c' < q) (e : r * q + c = r' * q + c') : r = r' ∧ c = c' := by
  have h1 : (r * q + c) / q = r := by
    rw [Nat.mul_comm, Nat.mul_add_div (by omega), Nat.div_eq_of_lt hc, Nat.add_zero]
  have h2 : (r' * q + c') / q = r' := by
    rw [Nat.mul_comm, Nat.mul_add_div (by omega), Nat.div_eq_of_lt hc', Nat.add_zero]
  have h3 : r = r' := by rw [← h1, ← h2, e]
  subst h3
  exact ⟨rfl, by omega⟩
theorem exF_inj {q n s w w' : Nat} (h : OKq q n) (hs : s < nSw q) : ∀ (f i r r' : Nat), exF q n s w f i r = exF q n s w' f i r' → r = r' ∧ ∀ k, i ≤ k → k < i + f → wLt q n w (if s % 2 = 1 then n - 1 - k else k) = wLt q n w' (if s % 2 = 1 then n - 1 - k else k)
  | 0, i, r, r', e => ⟨e, fun k h1 h2 => absurd h2 (by omega)⟩
  | f + 1, i, r, r', e => by
    rw [exF, exF] at e
    obtain ⟨e1, e2⟩ := exF_inj h hs f (i + 1) _ _ e
    have hj : s / 2 < fac q := by unfold nSw at hs; omega
    have l1 := wLt_lt (w := w) (i := if s % 2 = 1 then n - 1 - i else i) h
    have l2 := wLt_lt (w := w') (i := if s % 2 = 1 then n - 1 - i else i) h
    obtain ⟨e3, e4⟩ := dm_eq (oT_ok h.1 h.2.1 hj l1).2.2 (oT_ok h.1 h.2.1 hj l2).2.2 e1
    refine ⟨e3, fun k h1 h2 => ?_⟩
    by_cases e5 : k = i
    · subst e5
      exact oT_inj q h.q3 (s / 2) hj _ l1 _ l2 e4
    · exact e2 k (by omega) (by omega)
theorem letters_eq {q n w w' : Nat} (h : OKq q n) (hw : w < q ^ n) (hw' : w' < q ^ n) (e : ∀ i, i < n → wLt q n w i = wLt q n w' i) : w = w' := by
  have key : ∀ f, f ≤ n → w / q ^ (n - f) = w' / q ^ (n - f) := by
    intro f
    induction f with
    | zero => intro _; rw [Nat.sub_zero, Nat.div_eq_of_lt hw, Nat.div_eq_of_lt hw']
    | succ f ih =>
      intro hf
      have i1 := ih (by omega)
      have e2 : n - f = (n - (f + 1)) + 1 := by omega
      rw [e2, Nat.pow_succ, ← Nat.div_div_eq_div_mul, ← Nat.div_div_eq_div_mul] at i1
      have e3 := e f (by omega)
      unfold wLt at e3
      rw [show n - 1 - f = n - (f + 1) by omega] at e3
      rw [← Nat.div_add_mod (w / q ^ (n - (f + 1))) q, ← Nat.div_add_mod (w' / q ^ (n - (f + 1))) q, i1, e3]
  have := key n (Nat.le_refl n)
  rwa [Nat.sub_self, Nat.pow_zero, Nat.div_one, Nat.div_one] at this
theorem wEx_inj {q n s w w' : Nat} (h : OKq q n) (hs : s < nSw q) (hw : w < q ^ n) (hw' : w' < q ^ n) (e : wEx q n s w = wEx q n s w') : w = w' := by
  have e1 := (exF_inj h hs n 0 0 0 e).2
  refine letters_eq h hw hw' (fun i hi => ?_)
  by_cases hm : s % 2 = 1
  · have := e1 (n - 1 - i) (by omega) (by omega)
    rw [if_pos hm, show n - 1 - (n - 1 - i) = i by omega] at this
    exact this
  · have := e1 i (by omega) (by omega)
    rw [if_neg hm] at this
    exact this
theorem ct_ins2 {P : Nat → Bool} {x : Nat} (hx : P x = false) : ∀ m, ct (insB P x) m = ct P m + if x < m then 1 else 0
  | 0 => by rw [ct, ct, if_neg (by omega)]
  | m + 1 => by
    rw [ct_succ, ct_succ, ct_ins2 hx m]
    by_cases e : m = x
    · subst e
      rw [insB_self, if_pos rfl, hx, if_neg (show ¬ m < m by omega), if_pos (show m < m + 1 by omega)]
      simp
    · have e2 : insB P x m = P m := by simp [insB, e]
      rw [e2]
      by_cases e3 : x < m
      · rw [if_pos e3, if_pos (show x < m + 1 by omega)]; omega
      · rw [if_neg e3, if_neg (show ¬ x < m + 1 by omega)]; omega
/-- the words of those below v, swapped -/
noncomputable def imP (q n s : Nat) (B : Nat → Bool) (v : Nat) : Nat → Bool := fun w => dB (∃ x, x < v ∧ B x = true ∧ wEx q n s x = w)
theorem imP_0 {q n s : Nat} {B : Nat → Bool} : imP q n s B 0 = fun _ => false := by
  funext w
  exact dB_f.mpr (fun ⟨x, h, _⟩ => absurd h (by omega))
theorem imP_f {q n s v : Nat} {B : Nat → Bool} (hb : B v = false) : imP q n s B (v + 1) = imP q n s B v := by
  funext w
  refine dB_iff ⟨fun ⟨x, h1, h2, h3⟩ => ⟨x, ?_, h2, h3⟩, fun ⟨x, h1, h2, h3⟩ => ⟨x, by omega, h2, h3⟩⟩
  rcases Nat.lt_or_ge x v with q1 | q1
  · exact q1
  · rw [show x = v by omega, hb] at h2; cases h2
theorem imP_t {q n s v : Nat} {B : Nat → Bool} (hb : B v = true) : imP q n s B (v + 1) = insB (imP q n s B v) (wEx q n s v) := by
  funext w
  apply Bool.eq_iff_iff.mpr
  rw [insB_iff]
  unfold imP
  rw [dB_t, dB_t]
  constructor
  · rintro ⟨x, h1, h2, h3⟩
    rcases Nat.lt_or_ge x v with q1 | q1
    · exact Or.inl ⟨x, q1, h2, h3⟩
    · rw [show x = v by omega] at h3; exact Or.inr h3.symm
  · rintro (⟨x, h1, h2, h3⟩ | e)
    · exact ⟨x, by omega, h2, h3⟩
    · exact ⟨v, by omega, hb, e.symm⟩
theorem imP_all {q n s : Nat} {B : Nat → Bool} (hB : ∀ w, B w = true → w < q ^ n) : imP q n s B (q ^ n) = imB q n s B := by
  funext w
  exact dB_iff ⟨fun ⟨x, _, h2, h3⟩ => ⟨x, h2, h3⟩, fun ⟨x, h2, h3⟩ => ⟨x, hB x h2, h2, h3⟩⟩
theorem imP_ct {q n s : Nat} {B : Nat → Bool} (h : OKq q n) (hs : s < nSw q) : ∀ v, v ≤ q ^ n → ct (imP q n s B v) 256 = ct B v
  | 0, _ => by rw [imP_0, ct_none (fun _ => rfl), ct]
  | v + 1, hv => by
    rw [ct_succ B v, ← imP_ct h hs v (by omega)]
    cases hb : B v with
    | false => rw [imP_f hb, if_neg Bool.false_ne_true, Nat.add_zero]
    | true =>
      have hl := wEx_lt (w := v) h hs
      have hN := h.2.2.2.2
      rw [imP_t hb, ct_ins2 (dB_f.mpr (fun ⟨x, h1, h2, h3⟩ => by have := wEx_inj h hs (by omega) (by omega) h3; omega)), if_pos (show wEx q n s v < 256 by omega), if_pos rfl]
theorem ct_sub {P B : Nat → Bool} (h : ∀ w, P w = true → B w = true) : ∀ m, ct P m ≤ ct B m
  | 0 => Nat.le_refl _
  | m + 1 => by
    rw [ct_succ, ct_succ]
    have := ct_sub h m
    cases hp : P m with
    | false => simp; split <;> omega
    | true => rw [h m hp]; omega
theorem ct_sub_eq {P B : Nat → Bool} (h : ∀ w, P w = true → B w = true) : ∀ m, ct P m = ct B m → ∀ w, w < m → P w = B w
  | 0, _, w, hw => absurd hw (by omega)
  | m + 1, e, w, hw => by
    rw [ct_succ, ct_succ] at e
    have h1 := ct_sub h m
    have h2 : P m = B m := by
      cases hp : P m with
      | true => rw [h m hp]
      | false =>
        cases hb : B m with
        | false => rfl
        | true => rw [hp, hb] at e; simp at e; omega
    by_cases e2 : w = m
    · subst e2; exact h2
    · rw [h2] at e
      exact ct_sub_eq h m (by omega) w (by omega)
def eqF (P B : Nat → Bool) : Nat → Bool
  | 0 => true
  | i + 1 => eqF P B i && (P i == B i)
theorem eqF_iff {P B : Nat → Bool} : ∀ {m : Nat}, eqF P B m = true ↔ ∀ w, w < m → P w = B w
  | 0 => ⟨fun _ w hw => absurd hw (by omega), fun _ => rfl⟩
  | m + 1 => by
    rw [eqF, Bool.and_eq_true, eqF_iff (m := m), beq_iff_eq]
    constructor
    · rintro ⟨h1, h2⟩ w hw
      by_cases e : w = m
      · subst e; exact h2
      · exact h1 w (by omega)
    · intro h1
      exact ⟨fun w hw => h1 w (by omega), h1 m (by omega)⟩
theorem imB_ct {q n s : Nat} {B : Nat → Bool} (h : OKq q n) (hs : s < nSw q) (hB : ∀ w, B w = true → w < q ^ n) : ct (imB q n s B) 256 = ct B (q ^ n) := by
  rw [← imP_all hB, imP_ct h hs _ (Nat.le_refl _)]
theorem ct_past {B : Nat → Bool} {N : Nat} (hB : ∀ w, B w = true → w < N) : ∀ k, ct B (N + k) = ct B N
  | 0 => rfl
  | k + 1 => by
    rw [← Nat.add_assoc, ct_succ, ct_past hB k]
    cases hb : B (N + k) with
    | false => rfl
    | true => exact absurd (hB _ hb) (by omega)
theorem ct_256 {B : Nat → Bool} {N : Nat} (hN : N ≤ 256) (hB : ∀ w, B w = true → w < N) : ct B 256 = ct B N := by
  have := ct_past hB (256 - N)
  rwa [show N + (256 - N) = 256 by omega] at this
theorem keep_iff {q n s : Nat} {B : Nat → Bool} (h : OKq q n) (hs : s < nSw q) (hB : ∀ w, B w = true → w < q ^ n) : eqF (imB q n s B) B 256 = kpB q n B s := by
  have hN := h.2.2.2.2
  apply Bool.eq_iff_iff.mpr
  rw [eqF_iff]
  unfold kpB
  rw [dB_t]
  constructor
  · intro h1 w hw
    have h2 := wEx_lt (w := w) h hs
    rw [← h1 _ (by omega)]
    exact dB_t.mpr ⟨w, hw, rfl⟩
  · intro h1
    refine ct_sub_eq (fun w hw => ?_) 256 ?_
    · obtain ⟨v, h2, h3⟩ := dB_t.mp hw
      rw [← h3]; exact h1 v h2
    · rw [imB_ct h hs hB, ct_256 hN hB]
theorem imB_lt {q n s : Nat} {B : Nat → Bool} (h : OKq q n) (hs : s < nSw q) : ∀ w, imB q n s B w = true → w < q ^ n := by
  intro w hw
  obtain ⟨v, -, e⟩ := dB_t.mp hw
  rw [← e]
  exact wEx_lt h hs
section MDL4
variable {tO d m0 : Nat} {A : Nat → Nat} {q n cut rows kq kn kc kr fd wn : Nat} {kt yw : Bool} {cu cv ck rm mo bo ki wa wr fo : Int32} {B KB : Nat → Bool} {Wb R KR P KP Od Ig Pk Lt Lk Rd Nx Tp Pa Wy Sz It : Nat → Int32}
theorem s_X12_orders (hd : 1 ≤ d) (h : OKq q n) : SpP tO MX12_orders (d, 0, 0) [.ref m0] [obM m0 A q n cut rows kq kn kc kr kt cu cv ck rm mo bo ki wa wr fo fd wn yw] (some (.int (nI (fac q)))) := by
  refine eX12_orders [some (.ref m0)] rfl (Nat.le_of_ble_eq_true rfl) ?_
  have h1 := h.1
  have h2 := h.2.1
  refine V_aload_n dX12_orders_0 rfl ?_
  refine V_get 0 dX12_orders_1 fX12_orders_9 rfl rfl ?_
  refine V_iconst (v := nI 2) dX12_orders_4 (by decide) ?_
  first | refine V_icmp_ne_N 12 dX12_orders_5 (by decide) (by omega) (by omega) (fun c_5 => ?_) (fun c_5 => ?_) | refine V_icmp_ne 12 dX12_orders_5 (by decide) (fun c_5 => ?_) (fun c_5 => ?_)
  ·
    refine V_aload_n dX12_orders_12 rfl ?_
    refine V_get 0 dX12_orders_13 fX12_orders_9 rfl rfl ?_
    refine V_iconst (v := nI 3) dX12_orders_16 (by decide) ?_
    first | refine V_icmp_ne_N 25 dX12_orders_17 (by decide) (by omega) (by omega) (fun c_17 => ?_) (fun c_17 => ?_) | refine V_icmp_ne 25 dX12_orders_17 (by decide) (fun c_17 => ?_) (fun c_17 => ?_)
    ·
      rw [show q = 4 by omega]
      refine V_bipush (v := nI 24) dX12_orders_25 (by decide) ?_
      refine V_iret dX12_orders_27 rfl (Nat.le_of_ble_eq_true rfl) (Nat.le_refl _) (Nat.le_refl _) ?_
      exact ⟨rfl, rfl⟩
    ·
      rw [c_17]
      refine V_bipush (v := nI 6) dX12_orders_20 (by decide) ?_
      refine V_goto 27 dX12_orders_22 (by decide) ?_
      refine V_iret dX12_orders_27 rfl (Nat.le_of_ble_eq_true rfl) (Nat.le_refl _) (Nat.le_refl _) ?_
      exact ⟨rfl, rfl⟩
  ·
    rw [c_5]
    refine V_iconst (v := nI 2) dX12_orders_8 (by decide) ?_
    refine V_goto 27 dX12_orders_9 (by decide) ?_
    refine V_iret dX12_orders_27 rfl (Nat.le_of_ble_eq_true rfl) (Nat.le_refl _) (Nat.le_refl _) ?_
    exact ⟨rfl, rfl⟩
theorem l_X12_orders2 (hd : 2 ≤ d) {w0 : zW} {Q : zPo} {x2 x3 : Int32} {i used : Nat} (hu : used < 16) {x1 : Int32} {c0 : Nat} (next : V tO MX12_orders_ (d, 0, 0) w0 Q (0, 0) [obM m0 A q n cut rows kq kn kc kr kt cu cv ck rm mo bo ki wa wr fo fd wn yw, (A 7, aI 4 Od)] 87 [some (.ref m0), some (.int x1), some (.int x2), some (.int x3), some (.int (nI used)), some (.int (nI i)), none, some (.int (nI c0))] []) : ∀ (f skip c : Nat), skip < 24 → c + f ≤ 8 → oE used f skip c = true → oW used f skip c = c0 → V tO MX12_orders_ (d, 0, 0) w0 Q (0, 0) [obM m0 A q n cut rows kq kn kc kr kt cu cv ck rm mo bo ki wa wr fo fd wn yw, (A 7, aI 4 Od)] 44 [some (.ref m0), some (.int x1), some (.int x2), some (.int x3), some (.int (nI used)), some (.int (nI i)), some (.int (nI skip)), some (.int (nI c))] [] := by
  intro f
  induction f with
  | zero =>
    intro skip c hs hc he hw
    rw [oE] at he
    cases he
  | succ f ih =>
    intro skip c hs hc he hw
    rw [oE] at he
    rw [oW] at hw
    refine V_iload dX12_orders__44 rfl ?_
    refine V_iload dX12_orders__46 rfl ?_
    refine V_ishr dX12_orders__48 ?_
    refine V_iconst (v := nI 1) dX12_orders__49 (by decide) ?_
    refine V_iand dX12_orders__50 ?_
    refine V_to (bit16 used hu c (by omega)) ?_
    refine V_iconst (v := nI 1) dX12_orders__51 (by decide) ?_
    refine V_icmp_eq_N 60 dX12_orders__52 (by decide) (by omega) (by decide) (fun c_52 => ?_) (fun c_52 => ?_)
    ·
      rw [if_pos c_52] at he hw
      refine V_iload dX12_orders__60 rfl ?_
      refine V_iload dX12_orders__62 rfl ?_
      refine V_iload dX12_orders__64 rfl ?_
      refine V_ishr dX12_orders__66 ?_
      refine V_iconst (v := nI 1) dX12_orders__67 (by decide) ?_
      refine V_iand dX12_orders__68 ?_
      refine V_to (bit16 used hu c (by omega)) ?_
      refine V_iconst (v := nI 1) dX12_orders__69 (by decide) ?_
      refine V_icmp_ne_N 77 dX12_orders__70 (by decide) (by omega) (by decide) (fun c_70 => ?_) (fun c_70 => ?_)
      ·
        refine V_iconst (v := nI 1) dX12_orders__77 (by decide) ?_
        first | refine V_isub_N dX12_orders__78 (by omega) ?_ | refine V_isub dX12_orders__78 ?_
        refine V_istore dX12_orders__79 (by decide) rfl ?_
        first | refine V_iinc_N (i := 1) dX12_orders__81 rfl (by decide) rfl ?_ | refine V_iinc dX12_orders__81 rfl rfl (by decide) rfl ?_
        refine V_goto 44 dX12_orders__84 (by decide) ?_
        first
        | exact ih skip (c + 1) (by omega) (by omega) he hw
        | exact ih (skip - 1) (c + 1) (by omega) (by omega) he hw
        | (exfalso; omega)
      ·
        refine V_iconst (v := nI 0) dX12_orders__73 (by decide) ?_
        refine V_goto 78 dX12_orders__74 (by decide) ?_
        first | refine V_isub_N dX12_orders__78 (by omega) ?_ | refine V_isub dX12_orders__78 ?_
        refine V_istore dX12_orders__79 (by decide) rfl ?_
        first | refine V_iinc_N (i := 1) dX12_orders__81 rfl (by decide) rfl ?_ | refine V_iinc dX12_orders__81 rfl rfl (by decide) rfl ?_
        refine V_goto 44 dX12_orders__84 (by decide) ?_
        first
        | exact ih skip (c + 1) (by omega) (by omega) he hw
        | exact ih (skip - 1) (c + 1) (by omega) (by omega) he hw
        | (exfalso; omega)
    ·
      rw [if_neg c_52] at he hw
      refine V_iload dX12_orders__55 rfl ?_
      first | refine V_if_le_N 87 dX12_orders__57 (by decide) (by omega) (fun c_57 => ?_) (fun c_57 => ?_) | refine V_if_le 87 dX12_orders__57 (by decide) (fun c_57 => ?_) (fun c_57 => ?_)
      ·
        rw [if_neg (show ¬ 0 < skip by omega)] at he hw
        subst hw
        exact V_wk [some (.ref m0), some (.int x1), some (.int x2), some (.int x3), some (.int (nI used)), some (.int (nI i)), none, some (.int (nI c))] ⟨rfl, rfl, rfl, rfl, rfl, rfl, trivial, rfl, trivial⟩ next
      ·
        rw [if_pos c_57] at he hw
        refine V_iload dX12_orders__60 rfl ?_
        refine V_iload dX12_orders__62 rfl ?_
        refine V_iload dX12_orders__64 rfl ?_
        refine V_ishr dX12_orders__66 ?_
        refine V_iconst (v := nI 1) dX12_orders__67 (by decide) ?_
        refine V_iand dX12_orders__68 ?_
        refine V_to (bit16 used hu c (by omega)) ?_
        refine V_iconst (v := nI 1) dX12_orders__69 (by decide) ?_
        refine V_icmp_ne_N 77 dX12_orders__70 (by decide) (by omega) (by decide) (fun c_70 => ?_) (fun c_70 => ?_)
        ·
          refine V_iconst (v := nI 1) dX12_orders__77 (by decide) ?_
          first | refine V_isub_N dX12_orders__78 (by omega) ?_ | refine V_isub dX12_orders__78 ?_
          refine V_istore dX12_orders__79 (by decide) rfl ?_
          first | refine V_iinc_N (i := 1) dX12_orders__81 rfl (by decide) rfl ?_ | refine V_iinc dX12_orders__81 rfl rfl (by decide) rfl ?_
          refine V_goto 44 dX12_orders__84 (by decide) ?_
          first
          | exact ih skip (c + 1) (by omega) (by omega) he hw
          | exact ih (skip - 1) (c + 1) (by omega) (by omega) he hw
          | (exfalso; omega)
        ·
          refine V_iconst (v := nI 0) dX12_orders__73 (by decide) ?_
          refine V_goto 78 dX12_orders__74 (by decide) ?_
          first | refine V_isub_N dX12_orders__78 (by omega) ?_ | refine V_isub dX12_orders__78 ?_
          refine V_istore dX12_orders__79 (by decide) rfl ?_
          first | refine V_iinc_N (i := 1) dX12_orders__81 rfl (by decide) rfl ?_ | refine V_iinc dX12_orders__81 rfl rfl (by decide) rfl ?_
          refine V_goto 44 dX12_orders__84 (by decide) ?_
          first
          | exact ih skip (c + 1) (by omega) (by omega) he hw
          | exact ih (skip - 1) (c + 1) (by omega) (by omega) he hw
          | (exfalso; omega)
theorem l_X12_orders1 (hd : 2 ≤ d) (h : OKq q n) {j : Nat} (hj : j < fac q) : ∀ (f i : Nat), i + f = q → V tO MX12_orders_ (d, 0, 0) [obM m0 A q n cut rows kq kn kc kr kt cu cv ck rm mo bo ki wa wr fo fd wn yw, (A 7, aI 4 Od)] (fun v w' => v = none ∧ w' = [obM m0 A q n cut rows kq kn kc kr kt cu cv ck rm mo bo ki wa wr fo fd wn yw, (A 7, aI 4 (orF q j q Od))]) (0, 0) [obM m0 A q n cut rows kq kn kc kr kt cu cv ck rm mo bo ki wa wr fo fd wn yw, (A 7, aI 4 (orF q j i Od))] 13 [some (.ref m0), some (.int (nI j)), some (.int (nI (oS q j i).1)), some (.int (nI (oS q j i).2.1)), some (.int (nI (oS q j i).2.2)), some (.int (nI i)), none, none] [] := by
  have hq := h.1
  have hq2 := h.2.1
  intro f
  induction f with
  | zero =>
    intro i hi
    have e : i = q := by omega
    subst e
    refine V_iload dX12_orders__13 rfl ?_
    refine V_aload_n dX12_orders__15 rfl ?_
    refine V_get 0 dX12_orders__16 fX12_orders__9 rfl rfl ?_
    refine V_icmp_ge_N 111 dX12_orders__19 (by decide) (by omega) (by omega) (fun c_19 => ?_) (fun c_19 => absurd c_19 (by omega))
    refine V_vret dX12_orders__111 rfl (Nat.le_of_ble_eq_true rfl) (Nat.le_refl _) (Nat.le_refl _) ?_
    exact ⟨rfl, rfl⟩
  | succ f ih =>
    intro i hi
    obtain ⟨⟨h1, h2, h3, h4⟩, h5, h6, h7⟩ := oS_all q h.q3 j hj i (by omega)
    have i1 := ih (i + 1) (by omega)
    rw [← orF_upd] at i1
    rw [oS] at i1
    rw [h6] at i1
    have h8 : (oS q j i).2.1 / (q - i) ≤ (oS q j i).2.1 := Nat.div_le_self _ _
    have h9 : (oS q j i).1 / ((oS q j i).2.1 / (q - i)) ≤ (oS q j i).1 := Nat.div_le_self _ _
    have i2 : V tO MX12_orders_ (d, 0, 0) [obM m0 A q n cut rows kq kn kc kr kt cu cv ck rm mo bo ki wa wr fo fd wn yw, (A 7, aI 4 Od)] (fun v w' => v = none ∧ w' = [obM m0 A q n cut rows kq kn kc kr kt cu cv ck rm mo bo ki wa wr fo fd wn yw, (A 7, aI 4 (orF q j q Od))]) (0, 0) [obM m0 A q n cut rows kq kn kc kr kt cu cv ck rm mo bo ki wa wr fo fd wn yw, (A 7, aI 4 (orF q j i Od))] 87 [some (.ref m0), some (.int (nI j)), some (.int (nI ((oS q j i).1 % ((oS q j i).2.1 / (q - i))))), some (.int (nI ((oS q j i).2.1 / (q - i)))), some (.int (nI (oS q j i).2.2)), some (.int (nI i)), none, some (.int (nI (oT q j i)))] [] := by
      refine V_aload_n dX12_orders__87 rfl ?_
      refine V_get 0 dX12_orders__88 fX12_orders__41 rfl rfl ?_
      refine V_iload dX12_orders__91 rfl ?_
      refine V_iload dX12_orders__93 rfl ?_
      refine V_iast_N 1 dX12_orders__95 rfl (by omega) (by first | decide | omega) ?_
      refine V_iload dX12_orders__96 rfl ?_
      refine V_iconst (v := nI 1) dX12_orders__98 (by decide) ?_
      refine V_iload dX12_orders__99 rfl ?_
      refine V_ishl dX12_orders__101 ?_
      refine V_to (nI_shl1 _ (by omega)) ?_
      refine V_ior dX12_orders__102 ?_
      refine V_to (nI_or _ _) ?_
      refine V_istore dX12_orders__103 (by decide) rfl ?_
      first | refine V_iinc_N (i := 1) dX12_orders__105 rfl (by decide) rfl ?_ | refine V_iinc dX12_orders__105 rfl rfl (by decide) rfl ?_
      refine V_goto 13 dX12_orders__108 (by decide) ?_
      exact V_wk _ (by exact ⟨rfl, rfl, rfl, rfl, rfl, rfl, trivial, trivial, trivial⟩) i1
    refine V_iload dX12_orders__13 rfl ?_
    refine V_aload_n dX12_orders__15 rfl ?_
    refine V_get 0 dX12_orders__16 fX12_orders__9 rfl rfl ?_
    refine V_icmp_ge_N 111 dX12_orders__19 (by decide) (by omega) (by omega) (fun c_19 => absurd c_19 (by omega)) (fun c_19 => ?_)
    refine V_iload_n dX12_orders__22 rfl ?_
    refine V_aload_n dX12_orders__23 rfl ?_
    refine V_get 0 dX12_orders__24 fX12_orders__9 rfl rfl ?_
    refine V_iload dX12_orders__27 rfl ?_
    first | refine V_isub_N dX12_orders__29 (by omega) ?_ | refine V_isub dX12_orders__29 ?_
    refine V_idiv_N dX12_orders__30 (by omega) (by omega) (by omega) ?_
    refine V_istore_n dX12_orders__31 (by decide) rfl ?_
    refine V_iload_n dX12_orders__32 rfl ?_
    refine V_iload_n dX12_orders__33 rfl ?_
    refine V_idiv_N dX12_orders__34 (by omega) (by omega) (by omega) ?_
    refine V_istore dX12_orders__35 (by decide) rfl ?_
    refine V_iload_n dX12_orders__37 rfl ?_
    refine V_iload_n dX12_orders__38 rfl ?_
    refine V_irem_N dX12_orders__39 (by omega) (by omega) (by omega) ?_
    refine V_istore_n dX12_orders__40 (by decide) rfl ?_
    refine V_iconst (v := nI 0) dX12_orders__41 (by decide) ?_
    refine V_istore dX12_orders__42 (by decide) rfl ?_
    exact l_X12_orders2 hd h4 i2 8 _ 0 (by omega) (Nat.le_refl _) h5 h6
theorem s_X12_orders_ (hd : 2 ≤ d) (h : OKq q n) {j : Nat} (hj : j < fac q) : SpF tO MX12_orders_ (d, 0, 0) [.ref m0, .int (nI j)] [obM m0 A q n cut rows kq kn kc kr kt cu cv ck rm mo bo ki wa wr fo fd wn yw, (A 7, aI 4 Od)] none [obM m0 A q n cut rows kq kn kc kr kt cu cv ck rm mo bo ki wa wr fo fd wn yw, (A 7, aI 4 (orF q j q Od))] := by
  refine eX12_orders_ [some (.ref m0), some (.int (nI j)), none, none, none, none, none, none] rfl (Nat.le_of_ble_eq_true rfl) ?_
  have i1 := l_X12_orders1 (tO := tO) (m0 := m0) (A := A) (cut := cut) (rows := rows) (kq := kq) (kn := kn) (kc := kc) (kr := kr) (kt := kt) (cu := cu) (cv := cv) (ck := ck) (rm := rm) (mo := mo) (bo := bo) (ki := ki) (wa := wa) (wr := wr) (fo := fo) (fd := fd) (wn := wn) (yw := yw) (Od := Od) hd h hj q 0 (by omega)
  rw [orF_0] at i1
  refine V_iload_n dX12_orders__0 rfl ?_
  refine V_istore_n dX12_orders__1 (by decide) rfl ?_
  refine V_aload_n dX12_orders__2 rfl ?_
  refine V_callVpi0 [0] (s_X12_orders (d := d - 1) (by omega) h) gX12_orders__X12_orders dX12_orders__3 oX12_orders rfl rfl rfl rfl (Nat.le_of_ble_eq_true rfl) (by omega) ⟨Nat.le_refl _, Nat.le_refl _⟩ ?_
  refine V_istore_n dX12_orders__6 (by decide) rfl ?_
  refine V_iconst (v := nI 0) dX12_orders__7 (by decide) ?_
  refine V_istore dX12_orders__8 (by decide) rfl ?_
  refine V_iconst (v := nI 0) dX12_orders__10 (by decide) ?_
  refine V_istore dX12_orders__11 (by decide) rfl ?_
  exact i1
theorem l_X12_swappedBy (hd : 3 ≤ d) (h : OKq q n) {s w : Nat} (hs : s < nSw q) (hw : w < q ^ n) {w0 : zW} (hw0 : w0.length = 2) : ∀ (f i r : Nat), i + f = n → V tO MX12_swappedBy (d, 0, 0) w0 (fun v w' => v = some (.int (nI (exF q n s w f i r))) ∧ w' = [obM m0 A q n cut rows kq kn kc kr kt cu cv ck rm mo bo ki wa wr fo fd wn yw, (A 7, aI 4 (orF q (s / 2) q Od))]) (0, 0) [obM m0 A q n cut rows kq kn kc kr kt cu cv ck rm mo bo ki wa wr fo fd wn yw, (A 7, aI 4 (orF q (s / 2) q Od))] 12 [some (.ref m0), some (.int (nI s)), some (.int (nI w)), some (.int (nI r)), some (.int (nI i))] [] := by
  have hn := h.2.2.2.1
  have hq := h.2.1
  have hs48 : s < 48 := by
    have := h.1
    have e : ∀ q, q < 5 → nSw q ≤ 48 := by decide
    have := e q (by omega)
    omega
  intro f
  induction f with
  | zero =>
    intro i r hi
    rw [exF]
    refine V_iload dX12_swappedBy_12 rfl ?_
    refine V_aload_n dX12_swappedBy_14 rfl ?_
    refine V_get 0 dX12_swappedBy_15 fX12_swappedBy_15 rfl rfl ?_
    refine V_icmp_ge_N 65 dX12_swappedBy_18 (by decide) (by omega) (by omega) (fun c_18 => ?_) (fun c_18 => absurd c_18 (by omega))
    refine V_iload_n dX12_swappedBy_65 rfl ?_
    refine V_iret dX12_swappedBy_66 rfl (by rw [hw0]; exact Nat.le_of_ble_eq_true rfl) (Nat.le_refl _) (Nat.le_refl _) ?_
    exact ⟨rfl, rfl⟩
  | succ f ih =>
    intro i r hi
    have hl1 := wLt_lt (w := w) (i := i) h
    have hl2 := wLt_lt (w := w) (i := n - 1 - i) h
    rw [exF]
    refine V_iload dX12_swappedBy_12 rfl ?_
    refine V_aload_n dX12_swappedBy_14 rfl ?_
    refine V_get 0 dX12_swappedBy_15 fX12_swappedBy_15 rfl rfl ?_
    refine V_icmp_ge_N 65 dX12_swappedBy_18 (by decide) (by omega) (by omega) (fun c_18 => absurd c_18 (by omega)) (fun c_18 => ?_)
    refine V_aload_n dX12_swappedBy_21 rfl ?_
    refine V_get 0 dX12_swappedBy_22 fX12_swappedBy_9 rfl rfl ?_
    refine V_iload_n dX12_swappedBy_25 rfl ?_
    first | refine V_imul_N dX12_swappedBy_26 ?_ | refine V_imul dX12_swappedBy_26 ?_
    refine V_to (show nI (q * r) = nI (r * q) by rw [Nat.mul_comm]) ?_
    refine V_aload_n dX12_swappedBy_27 rfl ?_
    refine V_get 0 dX12_swappedBy_28 fX12_swappedBy_41 rfl rfl ?_
    refine V_aload_n dX12_swappedBy_31 rfl ?_
    refine V_iload_n dX12_swappedBy_32 rfl ?_
    refine V_iload_n dX12_swappedBy_33 rfl ?_
    refine V_iconst (v := nI 2) dX12_swappedBy_34 (by decide) ?_
    refine V_irem_N dX12_swappedBy_35 (by omega) (by omega) (by omega) ?_
    refine V_if_ne_N 44 dX12_swappedBy_36 (by decide) (by omega) (fun c_36 => ?_) (fun c_36 => ?_)
    ·
      rw [if_pos (show s % 2 = 1 by omega)]
      refine V_aload_n dX12_swappedBy_44 rfl ?_
      refine V_get 0 dX12_swappedBy_45 fX12_swappedBy_15 rfl rfl ?_
      refine V_iconst (v := nI 1) dX12_swappedBy_48 (by decide) ?_
      first | refine V_isub_N dX12_swappedBy_49 (by omega) ?_ | refine V_isub dX12_swappedBy_49 ?_
      refine V_iload dX12_swappedBy_50 rfl ?_
      first | refine V_isub_N dX12_swappedBy_52 (by omega) ?_ | refine V_isub dX12_swappedBy_52 ?_
      refine V_callVpi2 [0] (s_X12_letterOf (d := d - 1) (by omega) h hw (by omega)) gX12_swappedBy_X12_letterOf dX12_swappedBy_53 oX12_letterOf rfl rfl rfl rfl (Nat.le_of_ble_eq_true rfl) (by omega) ⟨Nat.le_refl _, Nat.le_refl _⟩ ?_
      refine V_iald_N 1 dX12_swappedBy_56 rfl (by omega) (by first | decide | omega) ?_
      refine V_to (if_pos (by omega)) ?_
      first | refine V_iadd_N dX12_swappedBy_57 ?_ | refine V_iadd dX12_swappedBy_57 ?_
      refine V_istore_n dX12_swappedBy_58 (by decide) rfl ?_
      first | refine V_iinc_N (i := 1) dX12_swappedBy_59 rfl (by decide) rfl ?_ | refine V_iinc dX12_swappedBy_59 rfl rfl (by decide) rfl ?_
      refine V_goto 12 dX12_swappedBy_62 (by decide) ?_
      exact ih (i + 1) _ (by omega)
    ·
      rw [if_neg (show ¬ s % 2 = 1 by omega)]
      refine V_iload dX12_swappedBy_39 rfl ?_
      refine V_goto 53 dX12_swappedBy_41 (by decide) ?_
      refine V_callVpi2 [0] (s_X12_letterOf (d := d - 1) (by omega) h hw (by omega)) gX12_swappedBy_X12_letterOf dX12_swappedBy_53 oX12_letterOf rfl rfl rfl rfl (Nat.le_of_ble_eq_true rfl) (by omega) ⟨Nat.le_refl _, Nat.le_refl _⟩ ?_
      refine V_iald_N 1 dX12_swappedBy_56 rfl (by omega) (by first | decide | omega) ?_
      refine V_to (if_pos (by omega)) ?_
      first | refine V_iadd_N dX12_swappedBy_57 ?_ | refine V_iadd dX12_swappedBy_57 ?_
      refine V_istore_n dX12_swappedBy_58 (by decide) rfl ?_
      first | refine V_iinc_N (i := 1) dX12_swappedBy_59 rfl (by decide) rfl ?_ | refine V_iinc dX12_swappedBy_59 rfl rfl (by decide) rfl ?_
      refine V_goto 12 dX12_swappedBy_62 (by decide) ?_
      exact ih (i + 1) _ (by omega)
theorem s_X12_swappedBy (hd : 3 ≤ d) (h : OKq q n) {s w : Nat} (hs : s < nSw q) (hw : w < q ^ n) : SpF tO MX12_swappedBy (d, 0, 0) [.ref m0, .int (nI s), .int (nI w)] [obM m0 A q n cut rows kq kn kc kr kt cu cv ck rm mo bo ki wa wr fo fd wn yw, (A 7, aI 4 Od)] (some (.int (nI (wEx q n s w)))) [obM m0 A q n cut rows kq kn kc kr kt cu cv ck rm mo bo ki wa wr fo fd wn yw, (A 7, aI 4 (orF q (s / 2) q Od))] := by
  refine eX12_swappedBy [some (.ref m0), some (.int (nI s)), some (.int (nI w)), none, none] rfl (Nat.le_of_ble_eq_true rfl) ?_
  have hs2 : s / 2 < fac q := by unfold nSw at hs; omega
  have hs48 : s < 48 := by
    have := h.2.1
    have e : ∀ q, q < 5 → nSw q ≤ 48 := by decide
    have := e q (by omega)
    omega
  refine V_aload_n dX12_swappedBy_0 rfl ?_
  refine V_iload_n dX12_swappedBy_1 rfl ?_
  refine V_iconst (v := nI 2) dX12_swappedBy_2 (by decide) ?_
  refine V_idiv_N dX12_swappedBy_3 (by omega) (by omega) (by omega) ?_
  refine V_callVfv1 [0, 1] (s_X12_orders_ (d := d - 1) (by omega) h hs2) gX12_swappedBy_X12_orders_ dX12_swappedBy_4 oX12_orders_ rfl rfl rfl rfl (Nat.le_of_ble_eq_true rfl) (by omega) ⟨Nat.le_refl _, Nat.le_refl _⟩ ?_
  simp only [zput_n, zput_c, zset_0, zset_1]
  refine V_iconst (v := nI 0) dX12_swappedBy_7 (by decide) ?_
  refine V_istore_n dX12_swappedBy_8 (by decide) rfl ?_
  refine V_iconst (v := nI 0) dX12_swappedBy_9 (by decide) ?_
  refine V_istore dX12_swappedBy_10 (by decide) rfl ?_
  exact l_X12_swappedBy hd h hs hw rfl n 0 0 (by omega)
theorem s_X12_isSwap (hd : 2 ≤ d) (h : OKq q n) {x : Int32} : SpP tO MX12_isSwap (d, 0, 0) [.ref m0, .int x] [obM m0 A q n cut rows kq kn kc kr kt cu cv ck rm mo bo ki wa wr fo fd wn yw] (some (.int (bI (isW (nSw q) x)))) := by
  refine eX12_isSwap [some (.ref m0), some (.int x)] rfl (Nat.le_of_ble_eq_true rfl) ?_
  have e : ∀ q, q < 5 → 2 ≤ q → 2 * fac q < 100 ∧ 0 < 2 * fac q := by decide
  obtain ⟨e1, e2⟩ := e q (by have := h.2.1; omega) h.1
  refine V_iload_n dX12_isSwap_0 rfl ?_
  refine V_i2l dX12_isSwap_1 ?_
  refine V_lconst (v := 0) dX12_isSwap_2 (by decide) ?_
  refine V_iconst (v := nI 2) dX12_isSwap_3 (by decide) ?_
  refine V_aload_n dX12_isSwap_4 rfl ?_
  refine V_callVpi0 [0] (s_X12_orders (d := d - 1) (by omega) h) gX12_isSwap_X12_orders dX12_isSwap_5 oX12_orders rfl rfl rfl rfl (Nat.le_of_ble_eq_true rfl) (by omega) ⟨Nat.le_refl _, Nat.le_refl _⟩ ?_
  first | refine V_imul_N dX12_isSwap_8 ?_ | refine V_imul dX12_isSwap_8 ?_
  refine V_iconst (v := nI 1) dX12_isSwap_9 (by decide) ?_
  first | refine V_isub_N dX12_isSwap_10 (by omega) ?_ | refine V_isub dX12_isSwap_10 ?_
  refine V_i2l dX12_isSwap_11 ?_
  refine V_callSpi3 [] (s_X12_isInW (d := d - 1) (by omega) (k := 2 * fac q) (by omega) (by omega)) gX12_isSwap_X12_isIn dX12_isSwap_12 oX12_isIn rfl rfl (Nat.le_of_ble_eq_true rfl) (by omega) ⟨Nat.le_refl _, Nat.le_refl _⟩ ?_
  refine V_zret dX12_isSwap_15 rfl (by first | exact Or.inl rfl | exact Or.inr rfl | exact bI_or _) (Nat.le_of_ble_eq_true rfl) (Nat.le_refl _) (Nat.le_refl _) ?_
  exact ⟨rfl, rfl⟩
theorem s_X12_swapped (hd : 4 ≤ d) (h : OKq q n) {x y : Int32} : Sp tO MX12_swapped (d, 0, 0) [.ref m0, .int x, .int y] [obM m0 A q n cut rows kq kn kc kr kt cu cv ck rm mo bo ki wa wr fo fd wn yw, (A 7, aI 4 Od)] (fun v w' => ∃ Od', v = some (.int (swV q n x y)) ∧ w' = [obM m0 A q n cut rows kq kn kc kr kt cu cv ck rm mo bo ki wa wr fo fd wn yw, (A 7, aI 4 Od')]) := by
  refine eX12_swapped [some (.ref m0), some (.int x), some (.int y)] rfl (Nat.le_of_ble_eq_true rfl) ?_
  have hN := h.2.2.2.2
  unfold swV
  refine V_aload_n dX12_swapped_0 rfl ?_
  refine V_iload_n dX12_swapped_1 rfl ?_
  refine V_callVpi1 [0] (s_X12_isSwap (d := d - 1) (by omega) h) gX12_swapped_X12_isSwap dX12_swapped_2 oX12_isSwap rfl rfl rfl rfl (Nat.le_of_ble_eq_true rfl) (by omega) ⟨Nat.le_refl _, Nat.le_refl _⟩ ?_
  first | refine V_if_eq_B 25 dX12_swapped_5 (by decide) (fun c_5 => ?_) (fun c_5 => ?_) | refine V_if_eq_N 25 dX12_swapped_5 (by decide) (by omega) (fun c_5 => ?_) (fun c_5 => ?_) | refine V_if_eq 25 dX12_swapped_5 (by decide) (fun c_5 => ?_) (fun c_5 => ?_)
  ·
    rw [c_5, Bool.false_and]
    refine V_iconst (v := -1) dX12_swapped_25 (by decide) ?_
    refine V_iret dX12_swapped_26 rfl (Nat.le_of_ble_eq_true rfl) (Nat.le_refl _) (Nat.le_refl _) ?_
    exact ⟨_, rfl, rfl⟩
  ·
    refine V_aload_n dX12_swapped_8 rfl ?_
    refine V_iload_n dX12_swapped_9 rfl ?_
    refine V_callVpi1 [0] (s_X12_isWord (d := d - 1) (by omega) h) gX12_swapped_X12_isWord dX12_swapped_10 oX12_isWord rfl rfl rfl rfl (Nat.le_of_ble_eq_true rfl) (by omega) ⟨Nat.le_refl _, Nat.le_refl _⟩ ?_
    first | refine V_if_eq_B 25 dX12_swapped_13 (by decide) (fun c_13 => ?_) (fun c_13 => ?_) | refine V_if_eq_N 25 dX12_swapped_13 (by decide) (by omega) (fun c_13 => ?_) (fun c_13 => ?_) | refine V_if_eq 25 dX12_swapped_13 (by decide) (fun c_13 => ?_) (fun c_13 => ?_)
    ·
      rw [c_13, Bool.and_false]
      refine V_iconst (v := -1) dX12_swapped_25 (by decide) ?_
      refine V_iret dX12_swapped_26 rfl (Nat.le_of_ble_eq_true rfl) (Nat.le_refl _) (Nat.le_refl _) ?_
      exact ⟨_, rfl, rfl⟩
    ·
      rw [c_5, c_13, Bool.and_self, if_pos rfl]
      obtain ⟨s, hs, rfl⟩ := isW_of c_5
      obtain ⟨w, hw, rfl⟩ := isW_of c_13
      have hs48 : nSw q ≤ 48 := by
        have e : ∀ q, q < 5 → nSw q ≤ 48 := by decide
        exact e q (by have := h.2.1; omega)
      rw [toNat_nI (by omega), toNat_nI (by omega)]
      refine V_aload_n dX12_swapped_16 rfl ?_
      refine V_iload_n dX12_swapped_17 rfl ?_
      refine V_iload_n dX12_swapped_18 rfl ?_
      refine V_callVfi2 [0, 1] (s_X12_swappedBy (d := d - 1) (by omega) h hs hw) gX12_swapped_X12_swappedBy dX12_swapped_19 oX12_swappedBy rfl rfl rfl rfl (Nat.le_of_ble_eq_true rfl) (by omega) ⟨Nat.le_refl _, Nat.le_refl _⟩ ?_
      simp only [zput_n, zput_c, zset_0, zset_1]
      refine V_goto 26 dX12_swapped_22 (by decide) ?_
      refine V_iret dX12_swapped_26 rfl (Nat.le_of_ble_eq_true rfl) (Nat.le_refl _) (Nat.le_refl _) ?_
      exact ⟨_, rfl, rfl⟩
theorem l_X12_swaps2 (hd : 4 ≤ d) (h : OKq q n) {s : Nat} (hs : s < nSw q) (hB : ∀ w, B w = true → w < q ^ n) {w0 : zW} (hw0 : w0.length = 4) : ∀ (f v : Nat) (Od : Nat → Int32), v + f = q ^ n → V tO MX12_swaps (d, 0, 0) w0 (fun v w' => ∃ Od', v = none ∧ w' = [obM m0 A q n cut rows kq kn kc kr kt cu cv ck rm mo bo ki wa wr fo fd wn yw, (A 0, aZ 256 (hdF B)), (A 7, aI 4 Od'), (A 8, aZ 256 (hdF (imB q n s B)))]) (0, 0) [obM m0 A q n cut rows kq kn kc kr kt cu cv ck rm mo bo ki wa wr fo fd wn yw, (A 0, aZ 256 (hdF B)), (A 7, aI 4 Od), (A 8, aZ 256 (hdF (imP q n s B v)))] 24 [some (.ref m0), some (.int (nI s)), some (.int (nI v))] [] := by
  have hN := h.2.2.2.2
  intro f
  induction f with
  | zero =>
    intro v Od hv
    have e : v = q ^ n := by omega
    subst e
    rw [imP_all hB]
    refine V_iload_n dX12_swaps_24 rfl ?_
    refine V_aload_n dX12_swaps_25 rfl ?_
    refine V_callVpi0 [0] (s_X12_words (d := d - 1) (by omega) h) gX12_swaps_X12_words dX12_swaps_26 oX12_words rfl rfl rfl rfl (Nat.le_of_ble_eq_true rfl) (by omega) ⟨Nat.le_refl _, Nat.le_refl _⟩ ?_
    refine V_icmp_ge_N 59 dX12_swaps_29 (by decide) (by omega) (by omega) (fun c_29 => ?_) (fun c_29 => absurd c_29 (by omega))
    refine V_vret dX12_swaps_59 rfl (by rw [hw0]; exact Nat.le_of_ble_eq_true rfl) (Nat.le_refl _) (Nat.le_refl _) ?_
    exact ⟨_, rfl, rfl⟩
  | succ f ih =>
    intro v Od hv
    have hl := wEx_lt (w := v) h hs
    refine V_iload_n dX12_swaps_24 rfl ?_
    refine V_aload_n dX12_swaps_25 rfl ?_
    refine V_callVpi0 [0] (s_X12_words (d := d - 1) (by omega) h) gX12_swaps_X12_words dX12_swaps_26 oX12_words rfl rfl rfl rfl (Nat.le_of_ble_eq_true rfl) (by omega) ⟨Nat.le_refl _, Nat.le_refl _⟩ ?_
    refine V_icmp_ge_N 59 dX12_swaps_29 (by decide) (by omega) (by omega) (fun c_29 => absurd c_29 (by omega)) (fun c_29 => ?_)
    refine V_aload_n dX12_swaps_32 rfl ?_
    refine V_get 0 dX12_swaps_33 fX12_swaps_18 rfl rfl ?_
    refine V_iload_n dX12_swaps_36 rfl ?_
    refine V_zald_N 1 dX12_swaps_37 rfl (by omega) (by first | decide | omega) ?_
    first | refine V_if_eq_B 53 dX12_swaps_38 (by decide) (fun c_38 => ?_) (fun c_38 => ?_) | refine V_if_eq_N 53 dX12_swaps_38 (by decide) (by omega) (fun c_38 => ?_) (fun c_38 => ?_) | refine V_if_eq 53 dX12_swaps_38 (by decide) (fun c_38 => ?_) (fun c_38 => ?_)
    ·
      have i1 := ih (v + 1) Od (by omega)
      rw [imP_f c_38] at i1
      first | refine V_iinc_N (i := 1) dX12_swaps_53 rfl (by decide) rfl ?_ | refine V_iinc dX12_swaps_53 rfl rfl (by decide) rfl ?_
      refine V_goto 24 dX12_swaps_56 (by decide) ?_
      exact i1
    ·
      have i1 := ih (v + 1) (orF q (s / 2) q Od) (by omega)
      rw [imP_t c_38, ← hdF_ins] at i1
      refine V_aload_n dX12_swaps_41 rfl ?_
      refine V_get 0 dX12_swaps_42 fX12_swaps_44 rfl rfl ?_
      refine V_aload_n dX12_swaps_45 rfl ?_
      refine V_iload_n dX12_swaps_46 rfl ?_
      refine V_iload_n dX12_swaps_47 rfl ?_
      refine V_callVfi2 [0, 2] (s_X12_swappedBy (d := d - 1) (by omega) h hs (by omega)) gX12_swaps_X12_swappedBy dX12_swaps_48 oX12_swappedBy rfl rfl rfl rfl (Nat.le_of_ble_eq_true rfl) (by omega) ⟨Nat.le_refl _, Nat.le_refl _⟩ ?_
      simp only [zput_n, zput_c, zset_0, zset_2]
      refine V_iconst (v := nI 1) dX12_swaps_51 (by decide) ?_
      refine V_zast_N 3 dX12_swaps_52 rfl (by omega) (by first | decide | omega) (by first | exact Or.inl rfl | exact Or.inr rfl | exact bI_or _) ?_
      first | refine V_iinc_N (i := 1) dX12_swaps_53 rfl (by decide) rfl ?_ | refine V_iinc dX12_swaps_53 rfl rfl (by decide) rfl ?_
      refine V_goto 24 dX12_swaps_56 (by decide) ?_
      exact i1
theorem l_X12_swaps1 (hd : 4 ≤ d) (h : OKq q n) {s : Nat} (hs : s < nSw q) (hB : ∀ w, B w = true → w < q ^ n) {w0 : zW} (hw0 : w0.length = 4) : ∀ (f i : Nat) (Hc : Nat → Int32), i + f = 256 → (∀ j, j < i → Hc j = nI 0) → V tO MX12_swaps (d, 0, 0) w0 (fun v w' => ∃ Od', v = none ∧ w' = [obM m0 A q n cut rows kq kn kc kr kt cu cv ck rm mo bo ki wa wr fo fd wn yw, (A 0, aZ 256 (hdF B)), (A 7, aI 4 Od'), (A 8, aZ 256 (hdF (imB q n s B)))]) (0, 0) [obM m0 A q n cut rows kq kn kc kr kt cu cv ck rm mo bo ki wa wr fo fd wn yw, (A 0, aZ 256 (hdF B)), (A 7, aI 4 Od), (A 8, aZ 256 Hc)] 2 [some (.ref m0), some (.int (nI s)), some (.int (nI i))] [] := by
  intro f
  induction f with
  | zero =>
    intro i Hc hi hH
    refine V_iload_n dX12_swaps_2 rfl ?_
    refine V_sipush (v := nI 256) dX12_swaps_3 (by decide) ?_
    refine V_icmp_ge_N 22 dX12_swaps_6 (by decide) (by omega) (by omega) (fun c_6 => ?_) (fun c_6 => absurd c_6 (by omega))
    refine V_agp 3 (hdF (imP q n s B 0)) rfl (fun j hj => by rw [imP_0, hdF_nil]; exact hH j (by omega)) ?_
    refine V_iconst (v := nI 0) dX12_swaps_22 (by decide) ?_
    refine V_istore_n dX12_swaps_23 (by decide) rfl ?_
    exact l_X12_swaps2 hd h hs hB hw0 (q ^ n) 0 _ (by omega)
  | succ f ih =>
    intro i Hc hi hH
    refine V_iload_n dX12_swaps_2 rfl ?_
    refine V_sipush (v := nI 256) dX12_swaps_3 (by decide) ?_
    refine V_icmp_ge_N 22 dX12_swaps_6 (by decide) (by omega) (by omega) (fun c_6 => absurd c_6 (by omega)) (fun c_6 => ?_)
    refine V_aload_n dX12_swaps_9 rfl ?_
    refine V_get 0 dX12_swaps_10 fX12_swaps_44 rfl rfl ?_
    refine V_iload_n dX12_swaps_13 rfl ?_
    refine V_iconst (v := nI 0) dX12_swaps_14 (by decide) ?_
    refine V_zast_N 3 dX12_swaps_15 rfl (by omega) (by first | decide | omega) (by first | exact Or.inl rfl | exact Or.inr rfl | exact bI_or _) ?_
    first | refine V_iinc_N (i := 1) dX12_swaps_16 rfl (by decide) rfl ?_ | refine V_iinc dX12_swaps_16 rfl rfl (by decide) rfl ?_
    refine V_goto 2 dX12_swaps_19 (by decide) ?_
    exact ih (i + 1) _ (by omega) (fun j hj => upd_fill hH hj)
theorem s_X12_swaps (hd : 4 ≤ d) (h : OKq q n) {s : Nat} (hs : s < nSw q) (hB : ∀ w, B w = true → w < q ^ n) : Sp tO MX12_swaps (d, 0, 0) [.ref m0, .int (nI s)] [obM m0 A q n cut rows kq kn kc kr kt cu cv ck rm mo bo ki wa wr fo fd wn yw, (A 0, aZ 256 (hdF B)), (A 7, aI 4 Od), (A 8, aZ 256 Ig)] (fun v w' => ∃ Od', v = none ∧ w' = [obM m0 A q n cut rows kq kn kc kr kt cu cv ck rm mo bo ki wa wr fo fd wn yw, (A 0, aZ 256 (hdF B)), (A 7, aI 4 Od'), (A 8, aZ 256 (hdF (imB q n s B)))]) := by
  refine eX12_swaps [some (.ref m0), some (.int (nI s)), none] rfl (Nat.le_of_ble_eq_true rfl) ?_
  refine V_iconst (v := nI 0) dX12_swaps_0 (by decide) ?_
  refine V_istore_n dX12_swaps_1 (by decide) rfl ?_
  exact l_X12_swaps1 hd h hs hB rfl 256 0 _ (by omega) (fun j hj => by omega)
theorem l_X12_becomesImage {P : Nat → Bool} : ∀ (f i : Nat) (Hc : Nat → Int32), i + f = 256 → (∀ j, j < i → Hc j = hdF P j) → V tO MX12_becomesImage (d, 0, 0) [obM m0 A q n cut rows kq kn kc kr kt cu cv ck rm mo bo ki wa wr fo fd wn yw, (A 0, aZ 256 (hdF B)), (A 8, aZ 256 (hdF P))] (fun v w' => v = none ∧ w' = [obM m0 A q n cut rows kq kn kc kr kt cu cv ck rm mo bo ki wa wr fo fd wn yw, (A 0, aZ 256 (hdF P)), (A 8, aZ 256 (hdF P))]) (0, 0) [obM m0 A q n cut rows kq kn kc kr kt cu cv ck rm mo bo ki wa wr fo fd wn yw, (A 0, aZ 256 Hc), (A 8, aZ 256 (hdF P))] 2 [some (.ref m0), some (.int (nI i))] [] := by
  intro f
  induction f with
  | zero =>
    intro i Hc hi hH
    refine V_iload_n dX12_becomesImage_2 rfl ?_
    refine V_sipush (v := nI 256) dX12_becomesImage_3 (by decide) ?_
    refine V_icmp_ge_N 27 dX12_becomesImage_6 (by decide) (by omega) (by omega) (fun c_6 => ?_) (fun c_6 => absurd c_6 (by omega))
    refine V_agp 1 (hdF P) rfl (fun j hj => hH j (by omega)) ?_
    refine V_vret dX12_becomesImage_27 rfl (Nat.le_of_ble_eq_true rfl) (Nat.le_refl _) (Nat.le_refl _) ?_
    exact ⟨rfl, rfl⟩
  | succ f ih =>
    intro i Hc hi hH
    refine V_iload_n dX12_becomesImage_2 rfl ?_
    refine V_sipush (v := nI 256) dX12_becomesImage_3 (by decide) ?_
    refine V_icmp_ge_N 27 dX12_becomesImage_6 (by decide) (by omega) (by omega) (fun c_6 => absurd c_6 (by omega)) (fun c_6 => ?_)
    refine V_aload_n dX12_becomesImage_9 rfl ?_
    refine V_get 0 dX12_becomesImage_10 fX12_becomesImage_18 rfl rfl ?_
    refine V_iload_n dX12_becomesImage_13 rfl ?_
    refine V_aload_n dX12_becomesImage_14 rfl ?_
    refine V_get 0 dX12_becomesImage_15 fX12_becomesImage_44 rfl rfl ?_
    refine V_iload_n dX12_becomesImage_18 rfl ?_
    refine V_zald_N 2 dX12_becomesImage_19 rfl (by omega) (by first | decide | omega) ?_
    refine V_zast_N 1 dX12_becomesImage_20 rfl (by omega) (by first | decide | omega) (by first | exact Or.inl rfl | exact Or.inr rfl | exact bI_or _) ?_
    first | refine V_iinc_N (i := 1) dX12_becomesImage_21 rfl (by decide) rfl ?_ | refine V_iinc dX12_becomesImage_21 rfl rfl (by decide) rfl ?_
    refine V_goto 2 dX12_becomesImage_24 (by decide) ?_
    exact ih (i + 1) _ (by omega) (fun j hj => upd_copy hH hj)
theorem s_X12_becomesImage (hd : 1 ≤ d) {P : Nat → Bool} : SpF tO MX12_becomesImage (d, 0, 0) [.ref m0] [obM m0 A q n cut rows kq kn kc kr kt cu cv ck rm mo bo ki wa wr fo fd wn yw, (A 0, aZ 256 (hdF B)), (A 8, aZ 256 (hdF P))] none [obM m0 A q n cut rows kq kn kc kr kt cu cv ck rm mo bo ki wa wr fo fd wn yw, (A 0, aZ 256 (hdF P)), (A 8, aZ 256 (hdF P))] := by
  refine eX12_becomesImage [some (.ref m0), none] rfl (Nat.le_of_ble_eq_true rfl) ?_
  refine V_iconst (v := nI 0) dX12_becomesImage_0 (by decide) ?_
  refine V_istore_n dX12_becomesImage_1 (by decide) rfl ?_
  exact l_X12_becomesImage 256 0 _ (by omega) (fun j hj => by omega)
theorem s_X12_swap (hd : 6 ≤ d) (h : OKq q n) (hB : ∀ w, B w = true → w < q ^ n) {x : Int32} : Sp tO MX12_swap (d, 0, 0) [.ref m0, .int x] [obM m0 A q n cut rows kq kn kc kr kt cu cv ck rm mo bo ki wa wr fo fd wn yw, (A 0, aZ 256 (hdF B)), (A 7, aI 4 Od), (A 8, aZ 256 Ig)] (fun v w' => ∃ Od' Ig', v = some (.int (spV q n B x)) ∧ w' = [obM m0 A q n cut rows kq kn kc kr kt cu cv ck rm mo bo ki wa wr fo fd wn yw, (A 0, aZ 256 (hdF (spB q n B x))), (A 7, aI 4 Od'), (A 8, aZ 256 Ig')]) := by
  refine eX12_swap [some (.ref m0), some (.int x)] rfl (Nat.le_of_ble_eq_true rfl) ?_
  unfold spV spB
  have hs48 : nSw q ≤ 48 := by
    have e : ∀ q, q < 5 → nSw q ≤ 48 := by decide
    exact e q (by have := h.2.1; omega)
  refine V_aload_n dX12_swap_0 rfl ?_
  refine V_iload_n dX12_swap_1 rfl ?_
  refine V_callVpi1 [0] (s_X12_isSwap (d := d - 1) (by omega) h) gX12_swap_X12_isSwap dX12_swap_2 oX12_isSwap rfl rfl rfl rfl (Nat.le_of_ble_eq_true rfl) (by omega) ⟨Nat.le_refl _, Nat.le_refl _⟩ ?_
  first | refine V_if_ne_B 10 dX12_swap_5 (by decide) (fun c_5 => ?_) (fun c_5 => ?_) | refine V_if_ne_N 10 dX12_swap_5 (by decide) (by omega) (fun c_5 => ?_) (fun c_5 => ?_) | refine V_if_ne 10 dX12_swap_5 (by decide) (fun c_5 => ?_) (fun c_5 => ?_)
  ·
    rw [c_5, if_pos rfl, if_pos rfl]
    obtain ⟨s, hs, rfl⟩ := isW_of c_5
    rw [toNat_nI (by omega)]
    refine V_aload_n dX12_swap_10 rfl ?_
    refine V_iload_n dX12_swap_11 rfl ?_
    refine V_callV1 [0, 1, 2, 3] (s_X12_swaps (d := d - 1) (by omega) h hs hB) gX12_swap_X12_swaps dX12_swap_12 oX12_swaps rfl rfl rfl rfl (Nat.le_of_ble_eq_true rfl) (by omega) ⟨Nat.le_refl _, Nat.le_refl _⟩ ?_
    rintro _ _ ⟨Od', rfl, rfl⟩
    simp only [zput_n, zput_c, zset_0, zset_1, zset_2, zset_3, Option.toList, List.cons_append, List.nil_append]
    refine V_aload_n dX12_swap_15 rfl ?_
    refine V_callVfv0 [0, 1, 3] (s_X12_becomesImage (d := d - 1) (by omega) ) gX12_swap_X12_becomesImage dX12_swap_16 oX12_becomesImage rfl rfl rfl rfl (Nat.le_of_ble_eq_true rfl) (by omega) ⟨Nat.le_refl _, Nat.le_refl _⟩ ?_
    simp only [zput_n, zput_c, zset_0, zset_1, zset_3]
    refine V_aload_n dX12_swap_19 rfl ?_
    refine V_callVpi0 [0, 1] (s_X12_many (d := d - 1) (by omega) ) gX12_swap_X12_many dX12_swap_20 oX12_many rfl rfl rfl rfl (Nat.le_of_ble_eq_true rfl) (by omega) ⟨Nat.le_refl _, Nat.le_refl _⟩ ?_
    refine V_iret dX12_swap_23 rfl (Nat.le_of_ble_eq_true rfl) (Nat.le_refl _) (Nat.le_refl _) ?_
    exact ⟨_, _, rfl, rfl⟩
  ·
    rw [c_5]
    refine V_iconst (v := -1) dX12_swap_8 (by decide) ?_
    refine V_iret dX12_swap_9 rfl (Nat.le_of_ble_eq_true rfl) (Nat.le_refl _) (Nat.le_refl _) ?_
    exact ⟨Od, Ig, rfl, rfl⟩
theorem bI_and (a b : Bool) : bI a &&& bI b = bI (a && b) := by cases a <;> cases b <;> decide
theorem l_X12_keeps2 {w0 : zW} {Q : zPo} {P : Nat → Bool} {x1 x2 x3 : Int32} (next : V tO MX12_keeps (d, 0, 0) w0 Q (0, 0) [obM m0 A q n cut rows kq kn kc kr kt cu cv ck rm mo bo ki wa wr fo fd wn yw, (A 0, aZ 256 (hdF B)), (A 7, aI 4 Od), (A 8, aZ 256 (hdF P))] 71 [some (.ref m0), some (.int x1), some (.int x2), some (.int x3), some (.int (bI (eqF P B 256))), none] []) : ∀ (f i : Nat), i + f = 256 → V tO MX12_keeps (d, 0, 0) w0 Q (0, 0) [obM m0 A q n cut rows kq kn kc kr kt cu cv ck rm mo bo ki wa wr fo fd wn yw, (A 0, aZ 256 (hdF B)), (A 7, aI 4 Od), (A 8, aZ 256 (hdF P))] 30 [some (.ref m0), some (.int x1), some (.int x2), some (.int x3), some (.int (bI (eqF P B i))), some (.int (nI i))] [] := by
  intro f
  induction f with
  | zero =>
    intro i hi
    have e : i = 256 := by omega
    subst e
    refine V_iload dX12_keeps_30 rfl ?_
    refine V_sipush (v := nI 256) dX12_keeps_32 (by decide) ?_
    refine V_icmp_ge_N 71 dX12_keeps_35 (by decide) (by omega) (by omega) (fun c_35 => ?_) (fun c_35 => absurd c_35 (by omega))
    exact V_wk _ (by exact ⟨rfl, rfl, rfl, rfl, rfl, trivial, trivial⟩) next
  | succ f ih =>
    intro i hi
    have i1 := ih (i + 1) (by omega)
    rw [eqF] at i1
    have bi : ∀ a b : Bool, hdF (fun _ => a) 0 = hdF (fun _ => b) 0 ↔ a = b := by decide
    refine V_iload dX12_keeps_30 rfl ?_
    refine V_sipush (v := nI 256) dX12_keeps_32 (by decide) ?_
    refine V_icmp_ge_N 71 dX12_keeps_35 (by decide) (by omega) (by omega) (fun c_35 => absurd c_35 (by omega)) (fun c_35 => ?_)
    refine V_iload dX12_keeps_38 rfl ?_
    refine V_aload_n dX12_keeps_40 rfl ?_
    refine V_get 0 dX12_keeps_41 fX12_keeps_44 rfl rfl ?_
    refine V_iload dX12_keeps_44 rfl ?_
    refine V_zald_N 3 dX12_keeps_46 rfl (by omega) (by first | decide | omega) ?_
    refine V_aload_n dX12_keeps_47 rfl ?_
    refine V_get 0 dX12_keeps_48 fX12_keeps_18 rfl rfl ?_
    refine V_iload dX12_keeps_51 rfl ?_
    refine V_zald_N 1 dX12_keeps_53 rfl (by omega) (by first | decide | omega) ?_
    refine V_icmp_ne 61 dX12_keeps_54 (by decide) (fun c_54 => ?_) (fun c_54 => ?_)
    ·
      rw [show (P i == B i) = false from beq_eq_false_iff_ne.mpr (fun e => c_54 ((bi (P i) (B i)).mpr e))] at i1
      refine V_iconst (v := bI false) dX12_keeps_61 (by decide) ?_
      refine V_iand dX12_keeps_62 ?_
      refine V_to (bI_and _ _) ?_
      refine V_istore dX12_keeps_63 (by decide) rfl ?_
      first | refine V_iinc_N (i := 1) dX12_keeps_65 rfl (by decide) rfl ?_ | refine V_iinc dX12_keeps_65 rfl rfl (by decide) rfl ?_
      refine V_goto 30 dX12_keeps_68 (by decide) ?_
      exact i1
    ·
      rw [show (P i == B i) = true from beq_iff_eq.mpr ((bi (P i) (B i)).mp c_54)] at i1
      refine V_iconst (v := bI true) dX12_keeps_57 (by decide) ?_
      refine V_goto 62 dX12_keeps_58 (by decide) ?_
      refine V_iand dX12_keeps_62 ?_
      refine V_to (bI_and _ _) ?_
      refine V_istore dX12_keeps_63 (by decide) rfl ?_
      first | refine V_iinc_N (i := 1) dX12_keeps_65 rfl (by decide) rfl ?_ | refine V_iinc dX12_keeps_65 rfl rfl (by decide) rfl ?_
      refine V_goto 30 dX12_keeps_68 (by decide) ?_
      exact i1
theorem l_X12_keeps (hd : 30 ≤ d) (h : OKq q n) (hB : ∀ w, B w = true → w < q ^ n) {x : Int32} (hx : ¬ x.toInt < -1) {z : Int32} {w0 : zW} (hw0 : w0.length = 4) : ∀ (f w c : Nat) (Od Ig : Nat → Int32), w + f = nSw q → c ≤ w → (x.toInt = -1 → z = nI (c + (ct (kpB q n B) (nSw q) - ct (kpB q n B) w))) → (x.toInt ≠ -1 → z = kth (kpB q n B) x f w c) → V tO MX12_keeps (d, 0, 0) w0 (fun v w' => ∃ Od' Ig', v = some (.int z) ∧ w' = [obM m0 A q n cut rows kq kn kc kr kt cu cv ck rm mo bo ki wa wr fo fd wn yw, (A 0, aZ 256 (hdF B)), (A 7, aI 4 Od'), (A 8, aZ 256 Ig')]) (0, 0) [obM m0 A q n cut rows kq kn kc kr kt cu cv ck rm mo bo ki wa wr fo fd wn yw, (A 0, aZ 256 (hdF B)), (A 7, aI 4 Od), (A 8, aZ 256 Ig)] 4 [some (.ref m0), some (.int x), some (.int (nI c)), some (.int (nI w)), none, none] [] := by
  have hs48 : nSw q ≤ 48 := by
    have e : ∀ q, q < 5 → nSw q ≤ 48 := by decide
    exact e q (by have := h.2.1; omega)
  have es : 2 * fac q = nSw q := rfl
  have hge : ¬ x < -1 := fun hh => hx (z_ltm1.mp hh)
  intro f
  induction f with
  | zero =>
    intro w c Od Ig hw hcw h1 h2
    have e1 : w = nSw q := by omega
    subst e1
    rw [Nat.sub_self, Nat.add_zero] at h1
    rw [kth] at h2
    refine V_iload_n dX12_keeps_4 rfl ?_
    refine V_iconst (v := nI 2) dX12_keeps_5 (by decide) ?_
    refine V_aload_n dX12_keeps_6 rfl ?_
    refine V_callVpi0 [0] (s_X12_orders (d := d - 1) (by omega) h) gX12_keeps_X12_orders dX12_keeps_7 oX12_orders rfl rfl rfl rfl (Nat.le_of_ble_eq_true rfl) (by omega) ⟨Nat.le_refl _, Nat.le_refl _⟩ ?_
    first | refine V_imul_N dX12_keeps_10 ?_ | refine V_imul dX12_keeps_10 ?_
    refine V_icmp_ge_N 92 dX12_keeps_11 (by decide) (by omega) (by omega) (fun c_11 => ?_) (fun c_11 => absurd c_11 (by omega))
    refine V_iload_n dX12_keeps_92 rfl ?_
    refine V_iconst (v := -1) dX12_keeps_93 (by decide) ?_
    refine V_icmp_ne 101 dX12_keeps_94 (by decide) (fun c_94 => ?_) (fun c_94 => ?_)
    ·
      rw [h2 (fun hh => c_94 (z_eqm1.mpr hh))]
      refine V_bipush (v := (-5)) dX12_keeps_101 (by decide) ?_
      refine V_iret dX12_keeps_103 rfl (by rw [hw0]; exact Nat.le_of_ble_eq_true rfl) (Nat.le_refl _) (Nat.le_refl _) ?_
      exact ⟨_, _, rfl, rfl⟩
    ·
      rw [h1 (z_eqm1.mp c_94)]
      refine V_iload_n dX12_keeps_97 rfl ?_
      refine V_goto 103 dX12_keeps_98 (by decide) ?_
      refine V_iret dX12_keeps_103 rfl (by rw [hw0]; exact Nat.le_of_ble_eq_true rfl) (Nat.le_refl _) (Nat.le_refl _) ?_
      exact ⟨_, _, rfl, rfl⟩
  | succ f ih =>
    intro w c Od Ig hw hcw h1 h2
    have hm := ct_mono (kpB q n B) (w + 1) (nSw q - (w + 1))
    rw [show w + 1 + (nSw q - (w + 1)) = nSw q by omega] at hm
    rw [ct_succ] at hm
    have i2 : ∀ (Od2 : Nat → Int32), V tO MX12_keeps (d, 0, 0) w0 (fun v w' => ∃ Od' Ig', v = some (.int z) ∧ w' = [obM m0 A q n cut rows kq kn kc kr kt cu cv ck rm mo bo ki wa wr fo fd wn yw, (A 0, aZ 256 (hdF B)), (A 7, aI 4 Od'), (A 8, aZ 256 Ig')]) (0, 0) [obM m0 A q n cut rows kq kn kc kr kt cu cv ck rm mo bo ki wa wr fo fd wn yw, (A 0, aZ 256 (hdF B)), (A 7, aI 4 Od2), (A 8, aZ 256 (hdF (imB q n w B)))] 71 [some (.ref m0), some (.int x), some (.int (nI c)), some (.int (nI w)), some (.int (bI (eqF (imB q n w B) B 256))), none] [] := by
      intro Od2
      rw [keep_iff h (by omega) hB]
      refine V_iload dX12_keeps_71 rfl ?_
      first | refine V_if_eq_B 86 dX12_keeps_73 (by decide) (fun c_73 => ?_) (fun c_73 => ?_) | refine V_if_eq_N 86 dX12_keeps_73 (by decide) (by omega) (fun c_73 => ?_) (fun c_73 => ?_) | refine V_if_eq 86 dX12_keeps_73 (by decide) (fun c_73 => ?_) (fun c_73 => ?_)
      ·
        rw [kth, if_neg (by rw [c_73]; exact Bool.false_ne_true)] at h2
        first | refine V_iinc_N (i := 1) dX12_keeps_86 rfl (by decide) rfl ?_ | refine V_iinc dX12_keeps_86 rfl rfl (by decide) rfl ?_
        refine V_goto 4 dX12_keeps_89 (by decide) ?_
        first
        | exact V_wk _ (by exact ⟨rfl, rfl, rfl, rfl, trivial, trivial, trivial⟩) (ih (w + 1) (c + 1) _ _ (by omega) (by omega) (fun hh => by rw [h1 hh, ct_succ, c_73, if_pos rfl]; congr 1; omega) h2)
        | exact V_wk _ (by exact ⟨rfl, rfl, rfl, rfl, trivial, trivial, trivial⟩) (ih (w + 1) c _ _ (by omega) (by omega) (fun hh => by rw [h1 hh, ct_succ, c_73, if_neg Bool.false_ne_true]; rfl) h2)
      ·
        rw [kth, if_pos c_73] at h2
        rw [c_73, if_pos rfl] at hm
        refine V_iload_n dX12_keeps_76 rfl ?_
        refine V_iload_n dX12_keeps_77 rfl ?_
        refine V_icmp_ne 83 dX12_keeps_78 (by decide) (fun c_78 => ?_) (fun c_78 => ?_)
        ·
          rw [if_neg (fun hh => c_78 hh.symm)] at h2
          first | refine V_iinc_N (i := 1) dX12_keeps_83 rfl (by decide) rfl ?_ | refine V_iinc dX12_keeps_83 rfl rfl (by decide) rfl ?_
          first | refine V_iinc_N (i := 1) dX12_keeps_86 rfl (by decide) rfl ?_ | refine V_iinc dX12_keeps_86 rfl rfl (by decide) rfl ?_
          refine V_goto 4 dX12_keeps_89 (by decide) ?_
          first
          | exact V_wk _ (by exact ⟨rfl, rfl, rfl, rfl, trivial, trivial, trivial⟩) (ih (w + 1) (c + 1) _ _ (by omega) (by omega) (fun hh => by rw [h1 hh, ct_succ, c_73, if_pos rfl]; congr 1; omega) h2)
          | exact V_wk _ (by exact ⟨rfl, rfl, rfl, rfl, trivial, trivial, trivial⟩) (ih (w + 1) c _ _ (by omega) (by omega) (fun hh => by rw [h1 hh, ct_succ, c_73, if_neg Bool.false_ne_true]; rfl) h2)
        ·
          have hx1 : x.toInt ≠ -1 := by rw [← c_78]; rw [nI_toInt (by have := ct_le (kpB q n B) w; omega)]; omega
          rw [if_pos c_78.symm] at h2
          rw [h2 hx1]
          refine V_iload_n dX12_keeps_81 rfl ?_
          refine V_iret dX12_keeps_82 rfl (by rw [hw0]; exact Nat.le_of_ble_eq_true rfl) (Nat.le_refl _) (Nat.le_refl _) ?_
          exact ⟨_, _, rfl, rfl⟩
    refine V_iload_n dX12_keeps_4 rfl ?_
    refine V_iconst (v := nI 2) dX12_keeps_5 (by decide) ?_
    refine V_aload_n dX12_keeps_6 rfl ?_
    refine V_callVpi0 [0] (s_X12_orders (d := d - 1) (by omega) h) gX12_keeps_X12_orders dX12_keeps_7 oX12_orders rfl rfl rfl rfl (Nat.le_of_ble_eq_true rfl) (by omega) ⟨Nat.le_refl _, Nat.le_refl _⟩ ?_
    first | refine V_imul_N dX12_keeps_10 ?_ | refine V_imul dX12_keeps_10 ?_
    refine V_icmp_ge_N 92 dX12_keeps_11 (by decide) (by omega) (by omega) (fun c_11 => absurd c_11 (by omega)) (fun c_11 => ?_)
    refine V_iload_n dX12_keeps_14 rfl ?_
    refine V_iconst (v := -1) dX12_keeps_15 (by decide) ?_
    refine V_icmp_lt 92 dX12_keeps_16 (by decide) (fun c_16 => absurd c_16 hge) (fun c_16 => ?_)
    refine V_aload_n dX12_keeps_19 rfl ?_
    refine V_iload_n dX12_keeps_20 rfl ?_
    refine V_callV1 [0, 1, 2, 3] (s_X12_swaps (d := d - 1) (by omega) h (by omega) hB) gX12_keeps_X12_swaps dX12_keeps_21 oX12_swaps rfl rfl rfl rfl (Nat.le_of_ble_eq_true rfl) (by omega) ⟨Nat.le_refl _, Nat.le_refl _⟩ ?_
    rintro _ _ ⟨Od2, rfl, rfl⟩
    simp only [zput_n, zput_c, zset_0, zset_1, zset_2, zset_3, Option.toList, List.cons_append, List.nil_append]
    refine V_iconst (v := bI (eqF (imB q n w B) B 0)) dX12_keeps_24 (show Int32.ofInt 1 = bI true by decide) ?_
    refine V_istore dX12_keeps_25 (by decide) rfl ?_
    refine V_iconst (v := nI 0) dX12_keeps_27 (by decide) ?_
    refine V_istore dX12_keeps_28 (by decide) rfl ?_
    exact l_X12_keeps2 (i2 Od2) 256 0 (by omega)
theorem s_X12_keeps (hd : 30 ≤ d) (h : OKq q n) (hB : ∀ w, B w = true → w < q ^ n) {x : Int32} : Sp tO MX12_keeps (d, 0, 0) [.ref m0, .int x] [obM m0 A q n cut rows kq kn kc kr kt cu cv ck rm mo bo ki wa wr fo fd wn yw, (A 0, aZ 256 (hdF B)), (A 7, aI 4 Od), (A 8, aZ 256 Ig)] (fun v w' => ∃ Od' Ig', v = some (.int (kiV (kpB q n B) (nSw q) x)) ∧ w' = [obM m0 A q n cut rows kq kn kc kr kt cu cv ck rm mo bo ki wa wr fo fd wn yw, (A 0, aZ 256 (hdF B)), (A 7, aI 4 Od'), (A 8, aZ 256 Ig')]) := by
  refine eX12_keeps [some (.ref m0), some (.int x), none, none, none, none] rfl (Nat.le_of_ble_eq_true rfl) ?_
  unfold kiV
  have hs48 : nSw q ≤ 48 ∧ 0 < nSw q := by
    have e : ∀ q, q < 5 → nSw q ≤ 48 ∧ 0 < nSw q := by decide
    exact e q (by have := h.2.1; omega)
  have es : 2 * fac q = nSw q := rfl
  by_cases hlt : x.toInt < -1
  · rw [if_pos hlt]
    have hne : ¬ x = -1 := fun hh => by rw [z_eqm1.mp hh] at hlt; omega
    refine V_iconst (v := nI 0) dX12_keeps_0 (by decide) ?_
    refine V_istore_n dX12_keeps_1 (by decide) rfl ?_
    refine V_iconst (v := nI 0) dX12_keeps_2 (by decide) ?_
    refine V_istore_n dX12_keeps_3 (by decide) rfl ?_
    refine V_iload_n dX12_keeps_4 rfl ?_
    refine V_iconst (v := nI 2) dX12_keeps_5 (by decide) ?_
    refine V_aload_n dX12_keeps_6 rfl ?_
    refine V_callVpi0 [0] (s_X12_orders (d := d - 1) (by omega) h) gX12_keeps_X12_orders dX12_keeps_7 oX12_orders rfl rfl rfl rfl (Nat.le_of_ble_eq_true rfl) (by omega) ⟨Nat.le_refl _, Nat.le_refl _⟩ ?_
    first | refine V_imul_N dX12_keeps_10 ?_ | refine V_imul dX12_keeps_10 ?_
    refine V_icmp_ge_N 92 dX12_keeps_11 (by decide) (by omega) (by omega) (fun c_11 => absurd c_11 (by omega)) (fun c_11 => ?_)
    refine V_iload_n dX12_keeps_14 rfl ?_
    refine V_iconst (v := -1) dX12_keeps_15 (by decide) ?_
    refine V_icmp_lt 92 dX12_keeps_16 (by decide) (fun c_16 => ?_) (fun c_16 => absurd (z_ltm1.mpr hlt) c_16)
    refine V_iload_n dX12_keeps_92 rfl ?_
    refine V_iconst (v := -1) dX12_keeps_93 (by decide) ?_
    refine V_icmp_ne 101 dX12_keeps_94 (by decide) (fun c_94 => ?_) (fun c_94 => absurd c_94 hne)
    refine V_bipush (v := (-5)) dX12_keeps_101 (by decide) ?_
    refine V_iret dX12_keeps_103 rfl (Nat.le_of_ble_eq_true rfl) (Nat.le_refl _) (Nat.le_refl _) ?_
    exact ⟨_, _, rfl, rfl⟩
  · rw [if_neg hlt]
    refine V_iconst (v := nI 0) dX12_keeps_0 (by decide) ?_
    refine V_istore_n dX12_keeps_1 (by decide) rfl ?_
    refine V_iconst (v := nI 0) dX12_keeps_2 (by decide) ?_
    refine V_istore_n dX12_keeps_3 (by decide) rfl ?_
    exact l_X12_keeps hd h hB hlt rfl (nSw q) 0 0 _ _ (by omega) (Nat.le_refl _) (fun hh => by rw [if_pos hh, ct, Nat.sub_zero, Nat.zero_add]) (fun hh => by rw [if_neg hh])
theorem l_X12_keepsBook {b : Nat} {Hz : Nat → Int32} : ∀ (f i : Nat) (Hc : Nat → Int32), i + f = 256 → (∀ j, j < i → Hc j = hdF B j) → V tO MX12_keepsBook (d, 0, 0) ([obM m0 A q n cut rows kq kn kc kr kt cu cv ck rm mo bo ki wa wr fo fd wn yw, (A 0, aZ 256 (hdF B))] ++ [(b, aZ 256 Hz)]) (fun v w' => v = none ∧ w' = [obM m0 A q n cut rows kq kn kc kr kt cu cv ck rm mo bo ki wa wr fo fd wn yw, (A 0, aZ 256 (hdF B))] ++ [(b, aZ 256 (hdF B))]) (0, 0) ([obM m0 A q n cut rows kq kn kc kr kt cu cv ck rm mo bo ki wa wr fo fd wn yw, (A 0, aZ 256 (hdF B))] ++ [(b, aZ 256 Hc)]) 2 [some (.ref m0), some (.ref b), some (.int (nI i))] [] := by
  intro f
  induction f with
  | zero =>
    intro i Hc hi hH
    refine V_iload_n dX12_keepsBook_2 rfl ?_
    refine V_sipush (v := nI 256) dX12_keepsBook_3 (by decide) ?_
    refine V_icmp_ge_N 24 dX12_keepsBook_6 (by decide) (by omega) (by omega) (fun c_6 => ?_) (fun c_6 => absurd c_6 (by omega))
    refine V_agp 2 (hdF B) rfl (fun j hj => hH j (by omega)) ?_
    refine V_vret dX12_keepsBook_24 rfl (Nat.le_of_ble_eq_true rfl) (Nat.le_refl _) (Nat.le_refl _) ?_
    exact ⟨rfl, rfl⟩
  | succ f ih =>
    intro i Hc hi hH
    refine V_iload_n dX12_keepsBook_2 rfl ?_
    refine V_sipush (v := nI 256) dX12_keepsBook_3 (by decide) ?_
    refine V_icmp_ge_N 24 dX12_keepsBook_6 (by decide) (by omega) (by omega) (fun c_6 => absurd c_6 (by omega)) (fun c_6 => ?_)
    refine V_aload_n dX12_keepsBook_9 rfl ?_
    refine V_iload_n dX12_keepsBook_10 rfl ?_
    refine V_aload_n dX12_keepsBook_11 rfl ?_
    refine V_get 0 dX12_keepsBook_12 fX12_keepsBook_18 rfl rfl ?_
    refine V_iload_n dX12_keepsBook_15 rfl ?_
    refine V_zald_N 1 dX12_keepsBook_16 rfl (by omega) (by first | decide | omega) ?_
    refine V_zast_N 2 dX12_keepsBook_17 rfl (by omega) (by first | decide | omega) (by first | exact Or.inl rfl | exact Or.inr rfl | exact bI_or _) ?_
    first | refine V_iinc_N (i := 1) dX12_keepsBook_18 rfl (by decide) rfl ?_ | refine V_iinc dX12_keepsBook_18 rfl rfl (by decide) rfl ?_
    refine V_goto 2 dX12_keepsBook_21 (by decide) ?_
    exact ih (i + 1) _ (by omega) (fun j hj => upd_copy hH hj)
theorem s_X12_keepsBook (hd : 1 ≤ d) {b : Nat} {Hc : Nat → Int32} : SpF tO MX12_keepsBook (d, 0, 0) [.ref m0, .ref b] ([obM m0 A q n cut rows kq kn kc kr kt cu cv ck rm mo bo ki wa wr fo fd wn yw, (A 0, aZ 256 (hdF B))] ++ [(b, aZ 256 Hc)]) none ([obM m0 A q n cut rows kq kn kc kr kt cu cv ck rm mo bo ki wa wr fo fd wn yw, (A 0, aZ 256 (hdF B))] ++ [(b, aZ 256 (hdF B))]) := by
  refine eX12_keepsBook [some (.ref m0), some (.ref b), none] rfl (Nat.le_of_ble_eq_true rfl) ?_
  refine V_iconst (v := nI 0) dX12_keepsBook_0 (by decide) ?_
  refine V_istore_n dX12_keepsBook_1 (by decide) rfl ?_
  exact l_X12_keepsBook 256 0 _ (by omega) (fun j hj => by omega)
end MDL4

