/-! the model: what hides, which words may come -/
theorem IsCl_uniq {q n : Nat} {B : Nat → Bool} {u v k u' v' k' : Nat} (h : IsCl q n B u v k) (h' : IsCl q n B u' v' k') : u = u' ∧ v = v' ∧ k = k' := by
  obtain ⟨a1, a2, a3, a4, a5, a6, a7, a8⟩ := h
  obtain ⟨b1, b2, b3, b4, b5, b6, b7, b8⟩ := h'
  have e1 : u = u' := by
    rcases Nat.lt_trichotomy u u' with q1 | q1 | q1
    · rw [b8 u a1 q1 v a2 k a3 a4] at a5; cases a5
    · exact q1
    · rw [a8 u' b1 q1 v' b2 k' b3 b4] at b5; cases b5
  subst e1
  have e2 : v = v' := by
    rcases Nat.lt_trichotomy v v' with q1 | q1 | q1
    · rw [b7 v a2 q1 k a3 a4] at a5; cases a5
    · exact q1
    · rw [a7 v' b2 q1 k' b3 b4] at b5; cases b5
  subst e2
  refine ⟨rfl, rfl, ?_⟩
  rcases Nat.lt_trichotomy k k' with q1 | q1 | q1
  · rw [b6 k a3 q1] at a5; cases a5
  · exact q1
  · rw [a6 k' b3 q1] at b5; cases b5
section MDL2
variable {tO d m0 : Nat} {A : Nat → Nat} {q n cut rows kq kn kc kr fd wn : Nat} {kt yw : Bool} {cu cv ck rm mo bo ki wa wr fo : Int32} {B KB : Nat → Bool} {Wb R KR P KP Od Ig Pk Lt Lk Rd Nx Tp Pa Wy Sz It : Nat → Int32}
theorem l_X12_isFree3 (hd : 4 ≤ d) (h : OKq q n) {Q : zPo} {w0 : zW} (hw0 : w0.length = 2) {u v : Nat} (hu : u < q ^ n) (hv : v < q ^ n) (hQ : ∀ k, 1 ≤ k → k < n → B v = true → B (wAc q n u v k) = true → (∀ i, 1 ≤ i → i < k → B (wAc q n u v i) = false) → Q (some (.int (bI false))) [obM m0 A q n cut rows kq kn kc kr kt (nI u) (nI v) (nI k) rm mo bo ki wa wr fo fd wn yw, (A 0, aZ 256 (hdF B))]) (next : (∀ k, 1 ≤ k → k < n → B v = true → B (wAc q n u v k) = false) → V tO MX12_isFree (d, 0, 0) w0 Q (0, 0) [obM m0 A q n cut rows kq kn kc kr kt cu cv ck rm mo bo ki wa wr fo fd wn yw, (A 0, aZ 256 (hdF B))] 86 [some (.ref m0), some (.int (nI u)), some (.int (nI v)), none] []) : ∀ (f k : Nat), k + f = n → 1 ≤ k → (∀ i, 1 ≤ i → i < k → B v = true → B (wAc q n u v i) = false) → V tO MX12_isFree (d, 0, 0) w0 Q (0, 0) [obM m0 A q n cut rows kq kn kc kr kt cu cv ck rm mo bo ki wa wr fo fd wn yw, (A 0, aZ 256 (hdF B))] 31 [some (.ref m0), some (.int (nI u)), some (.int (nI v)), some (.int (nI k))] [] := by
  have hN := h.2.2.2.2
  have hn := h.2.2.2.1
  intro f
  induction f with
  | zero =>
    intro k hk hk1 hi
    refine V_iload_n dX12_isFree_31 rfl ?_
    refine V_aload_n dX12_isFree_32 rfl ?_
    refine V_get 0 dX12_isFree_33 fX12_isFree_15 rfl rfl ?_
    refine V_icmp_ge_N 86 dX12_isFree_36 (by decide) (by omega) (by omega) (fun c_36 => ?_) (fun c_36 => absurd c_36 (by omega))
    exact V_wk [some (.ref m0), some (.int (nI u)), some (.int (nI v)), none] ⟨rfl, rfl, rfl, trivial, trivial⟩ (next (fun i h1 h2 => hi i h1 (by omega)))
  | succ f ih =>
    intro k hk hk1 hi
    have hl := wAc_lt (u := u) h (show k ≤ n by omega) hv
    refine V_iload_n dX12_isFree_31 rfl ?_
    refine V_aload_n dX12_isFree_32 rfl ?_
    refine V_get 0 dX12_isFree_33 fX12_isFree_15 rfl rfl ?_
    refine V_icmp_ge_N 86 dX12_isFree_36 (by decide) (by omega) (by omega) (fun c_36 => absurd c_36 (by omega)) (fun c_36 => ?_)
    refine V_aload_n dX12_isFree_39 rfl ?_
    refine V_get 0 dX12_isFree_40 fX12_isFree_18 rfl rfl ?_
    refine V_iload_n dX12_isFree_43 rfl ?_
    refine V_zald_N 1 dX12_isFree_44 rfl (by omega) (by first | decide | omega) ?_
    first | refine V_if_eq_B 86 dX12_isFree_45 (by decide) (fun c_45 => ?_) (fun c_45 => ?_) | refine V_if_eq_N 86 dX12_isFree_45 (by decide) (by omega) (fun c_45 => ?_) (fun c_45 => ?_) | refine V_if_eq 86 dX12_isFree_45 (by decide) (fun c_45 => ?_) (fun c_45 => ?_)
    ·
      exact V_wk [some (.ref m0), some (.int (nI u)), some (.int (nI v)), none] ⟨rfl, rfl, rfl, trivial, trivial⟩ (next (fun i h1 h2 h3 => by rw [c_45] at h3; cases h3))
    ·
      refine V_aload_n dX12_isFree_48 rfl ?_
      refine V_get 0 dX12_isFree_49 fX12_isFree_18 rfl rfl ?_
      refine V_aload_n dX12_isFree_52 rfl ?_
      refine V_iload_n dX12_isFree_53 rfl ?_
      refine V_iload_n dX12_isFree_54 rfl ?_
      refine V_iload_n dX12_isFree_55 rfl ?_
      refine V_callVpi3 [0] (s_X12_across (d := d - 1) (by omega) h hu hv (by omega)) gX12_isFree_X12_across dX12_isFree_56 oX12_across rfl rfl rfl rfl (Nat.le_of_ble_eq_true rfl) (by omega) ⟨Nat.le_refl _, Nat.le_refl _⟩ ?_
      refine V_zald_N 1 dX12_isFree_59 rfl (by omega) (by first | decide | omega) ?_
      first | refine V_if_eq_B 80 dX12_isFree_60 (by decide) (fun c_60 => ?_) (fun c_60 => ?_) | refine V_if_eq_N 80 dX12_isFree_60 (by decide) (by omega) (fun c_60 => ?_) (fun c_60 => ?_) | refine V_if_eq 80 dX12_isFree_60 (by decide) (fun c_60 => ?_) (fun c_60 => ?_)
      ·
        exact V_iinc_N (i := 1) dX12_isFree_80 rfl (by decide) rfl (V_goto 31 dX12_isFree_83 (by decide) (ih (k + 1) (by omega) (by omega) (fun i h1 h2 h3 => by rcases Nat.lt_or_ge i k with q1 | q1; exact hi i h1 q1 h3; rw [show i = k by omega]; exact c_60)))
      ·
        refine V_aload_n dX12_isFree_63 rfl ?_
        refine V_iload_n dX12_isFree_64 rfl ?_
        refine V_put 0 dX12_isFree_65 fX12_isFree_119 ft_10_16 rfl rfl rfl (Nat.le_of_ble_eq_true rfl) ?_
        refine V_aload_n dX12_isFree_68 rfl ?_
        refine V_iload_n dX12_isFree_69 rfl ?_
        refine V_put 0 dX12_isFree_70 fX12_isFree_122 ft_10_17 rfl rfl rfl (Nat.le_of_ble_eq_true rfl) ?_
        refine V_aload_n dX12_isFree_73 rfl ?_
        refine V_iload_n dX12_isFree_74 rfl ?_
        refine V_put 0 dX12_isFree_75 fX12_isFree_125 ft_10_18 rfl rfl rfl (Nat.le_of_ble_eq_true rfl) ?_
        refine V_iconst (v := nI 0) dX12_isFree_78 (by decide) ?_
        refine V_zret dX12_isFree_79 rfl (by first | exact Or.inl rfl | exact Or.inr rfl | exact bI_or _) (by rw [hw0]; exact Nat.le_of_ble_eq_true rfl) (Nat.le_refl _) (Nat.le_refl _) ?_
        exact hQ k hk1 (by omega) c_45 c_60 (fun i h1 h2 => hi i h1 h2 c_45)
theorem l_X12_isFree2 (hd : 4 ≤ d) (h : OKq q n) {Q : zPo} {w0 : zW} (hw0 : w0.length = 2) {u : Nat} (hu : u < q ^ n) (hQ : ∀ v k, v < q ^ n → B u = true → 1 ≤ k → k < n → B v = true → B (wAc q n u v k) = true → (∀ i, 1 ≤ i → i < k → B (wAc q n u v i) = false) → (∀ v', v' < v → B v' = true → ∀ i, 1 ≤ i → i < n → B (wAc q n u v' i) = false) → Q (some (.int (bI false))) [obM m0 A q n cut rows kq kn kc kr kt (nI u) (nI v) (nI k) rm mo bo ki wa wr fo fd wn yw, (A 0, aZ 256 (hdF B))]) (next : (B u = true → ∀ v', v' < q ^ n → B v' = true → ∀ i, 1 ≤ i → i < n → B (wAc q n u v' i) = false) → V tO MX12_isFree (d, 0, 0) w0 Q (0, 0) [obM m0 A q n cut rows kq kn kc kr kt cu cv ck rm mo bo ki wa wr fo fd wn yw, (A 0, aZ 256 (hdF B))] 92 [some (.ref m0), some (.int (nI u)), none, none] []) : ∀ (f v : Nat), v + f = q ^ n → (∀ v', v' < v → B v' = true → ∀ i, 1 ≤ i → i < n → B (wAc q n u v' i) = false) → V tO MX12_isFree (d, 0, 0) w0 Q (0, 0) [obM m0 A q n cut rows kq kn kc kr kt cu cv ck rm mo bo ki wa wr fo fd wn yw, (A 0, aZ 256 (hdF B))] 12 [some (.ref m0), some (.int (nI u)), some (.int (nI v)), none] [] := by
  have hN := h.2.2.2.2
  have hn := h.2.2.1
  intro f
  induction f with
  | zero =>
    intro v hv hi
    refine V_iload_n dX12_isFree_12 rfl ?_
    refine V_aload_n dX12_isFree_13 rfl ?_
    refine V_callVpi0 [0] (s_X12_words (d := d - 1) (by omega) h) gX12_isFree_X12_words dX12_isFree_14 oX12_words rfl rfl rfl rfl (Nat.le_of_ble_eq_true rfl) (by omega) ⟨Nat.le_refl _, Nat.le_refl _⟩ ?_
    refine V_icmp_ge_N 92 dX12_isFree_17 (by decide) (by omega) (by omega) (fun c_17 => ?_) (fun c_17 => absurd c_17 (by omega))
    exact V_wk [some (.ref m0), some (.int (nI u)), none, none] ⟨rfl, rfl, trivial, trivial, trivial⟩ (next (fun _ v' h1 => hi v' (by omega)))
  | succ f ih =>
    intro v hv hi
    refine V_iload_n dX12_isFree_12 rfl ?_
    refine V_aload_n dX12_isFree_13 rfl ?_
    refine V_callVpi0 [0] (s_X12_words (d := d - 1) (by omega) h) gX12_isFree_X12_words dX12_isFree_14 oX12_words rfl rfl rfl rfl (Nat.le_of_ble_eq_true rfl) (by omega) ⟨Nat.le_refl _, Nat.le_refl _⟩ ?_
    refine V_icmp_ge_N 92 dX12_isFree_17 (by decide) (by omega) (by omega) (fun c_17 => absurd c_17 (by omega)) (fun c_17 => ?_)
    refine V_aload_n dX12_isFree_20 rfl ?_
    refine V_get 0 dX12_isFree_21 fX12_isFree_18 rfl rfl ?_
    refine V_iload_n dX12_isFree_24 rfl ?_
    refine V_zald_N 1 dX12_isFree_25 rfl (by omega) (by first | decide | omega) ?_
    first | refine V_if_eq_B 92 dX12_isFree_26 (by decide) (fun c_26 => ?_) (fun c_26 => ?_) | refine V_if_eq_N 92 dX12_isFree_26 (by decide) (by omega) (fun c_26 => ?_) (fun c_26 => ?_) | refine V_if_eq 92 dX12_isFree_26 (by decide) (fun c_26 => ?_) (fun c_26 => ?_)
    ·
      exact V_wk [some (.ref m0), some (.int (nI u)), none, none] ⟨rfl, rfl, trivial, trivial, trivial⟩ (next (fun h1 => by rw [c_26] at h1; cases h1))
    ·
      refine V_iconst (v := nI 1) dX12_isFree_29 (by decide) ?_
      refine V_istore_n dX12_isFree_30 (by decide) rfl ?_
      refine l_X12_isFree3 hd h hw0 hu (by omega) (fun k h1 h2 h3 h4 h5 => hQ v k (by omega) c_26 h1 h2 h3 h4 h5 hi) (fun hk => ?_) (n - 1) 1 (by omega) (Nat.le_refl _) (fun i h1 h2 => absurd h2 (by omega))
      refine V_iinc_N (i := 1) dX12_isFree_86 rfl (by decide) rfl (V_goto 12 dX12_isFree_89 (by decide) (ih (v + 1) (by omega) (fun v' h1 h2 i h3 h4 => ?_)))
      rcases Nat.lt_or_ge v' v with q1 | q1
      · exact hi v' q1 h2 i h3 h4
      · have e : v' = v := by omega
        subst e
        exact hk i h3 h4 h2
abbrev frQ (m0 : Nat) (A : Nat → Nat) (q n cut rows kq kn kc kr : Nat) (kt : Bool) (rm mo bo ki wa wr fo : Int32) (fd wn : Nat) (yw : Bool) (B : Nat → Bool) : zPo := fun v w' => ∃ cu' cv' ck', v = some (.int (bI (frB q n B))) ∧ w' = [obM m0 A q n cut rows kq kn kc kr kt cu' cv' ck' rm mo bo ki wa wr fo fd wn yw, (A 0, aZ 256 (hdF B))] ∧ (frB q n B = false → cu' = nI (clT q n B).1 ∧ cv' = nI (clT q n B).2.1 ∧ ck' = nI (clT q n B).2.2)
theorem l_X12_isFree1 (hd : 4 ≤ d) (h : OKq q n) (hB : ∀ w, B w = true → w < q ^ n) : ∀ (f u : Nat), u + f = q ^ n → (∀ u', u' < u → B u' = true → ∀ v', v' < q ^ n → B v' = true → ∀ i, 1 ≤ i → i < n → B (wAc q n u' v' i) = false) → V tO MX12_isFree (d, 0, 0) [obM m0 A q n cut rows kq kn kc kr kt cu cv ck rm mo bo ki wa wr fo fd wn yw, (A 0, aZ 256 (hdF B))] (frQ m0 A q n cut rows kq kn kc kr kt rm mo bo ki wa wr fo fd wn yw B) (0, 0) [obM m0 A q n cut rows kq kn kc kr kt cu cv ck rm mo bo ki wa wr fo fd wn yw, (A 0, aZ 256 (hdF B))] 2 [some (.ref m0), some (.int (nI u)), none, none] [] := by
  have hN := h.2.2.2.2
  have hn := h.2.2.1
  intro f
  induction f with
  | zero =>
    intro u hu hi
    have hf : frB q n B = true := dB_t.mpr (fun u' v' k h1 h2 h3 h4 => hi u' (by have := hB u' h1; omega) h1 v' (hB v' h2) h2 k h3 h4)
    refine V_iload_n dX12_isFree_2 rfl ?_
    refine V_aload_n dX12_isFree_3 rfl ?_
    refine V_callVpi0 [0] (s_X12_words (d := d - 1) (by omega) h) gX12_isFree_X12_words dX12_isFree_4 oX12_words rfl rfl rfl rfl (Nat.le_of_ble_eq_true rfl) (by omega) ⟨Nat.le_refl _, Nat.le_refl _⟩ ?_
    refine V_icmp_ge_N 98 dX12_isFree_7 (by decide) (by omega) (by omega) (fun c_7 => ?_) (fun c_7 => absurd c_7 (by omega))
    refine V_iconst (v := nI 1) dX12_isFree_98 (by decide) ?_
    refine V_zret dX12_isFree_99 rfl (by first | exact Or.inl rfl | exact Or.inr rfl | exact bI_or _) (Nat.le_of_ble_eq_true rfl) (Nat.le_refl _) (Nat.le_refl _) ?_
    exact ⟨cu, cv, ck, by rw [hf]; rfl, rfl, fun hh => by rw [hf] at hh; cases hh⟩
  | succ f ih =>
    intro u hu hi
    refine V_iload_n dX12_isFree_2 rfl ?_
    refine V_aload_n dX12_isFree_3 rfl ?_
    refine V_callVpi0 [0] (s_X12_words (d := d - 1) (by omega) h) gX12_isFree_X12_words dX12_isFree_4 oX12_words rfl rfl rfl rfl (Nat.le_of_ble_eq_true rfl) (by omega) ⟨Nat.le_refl _, Nat.le_refl _⟩ ?_
    refine V_icmp_ge_N 98 dX12_isFree_7 (by decide) (by omega) (by omega) (fun c_7 => absurd c_7 (by omega)) (fun c_7 => ?_)
    refine V_iconst (v := nI 0) dX12_isFree_10 (by decide) ?_
    refine V_istore_n dX12_isFree_11 (by decide) rfl ?_
    refine l_X12_isFree2 hd h rfl (by omega) (fun v k hv hbu h1 h2 h3 h4 h5 h6 => ?_) (fun hk => ?_) (q ^ n) 0 (by omega) (fun v' h1 => absurd h1 (by omega))
    · have hf : frB q n B = false := dB_f.mpr (fun hh => by rw [hh u v k hbu h3 h1 h2] at h4; cases h4)
      have hc : IsCl q n B u v k := ⟨hbu, h3, h1, h2, h4, h5, fun v' a b i c e => h6 v' b a i c e, fun u' a b v' c i e g => hi u' b a v' (hB v' c) c i e g⟩
      obtain ⟨e1, e2, e3⟩ := IsCl_uniq hc (clT_is hf)
      exact ⟨nI u, nI v, nI k, by rw [hf], rfl, fun _ => ⟨by rw [← e1], by rw [← e2], by rw [← e3]⟩⟩
    · exact V_iinc_N (i := 1) dX12_isFree_92 rfl (by decide) rfl (V_goto 2 dX12_isFree_95 (by decide) (ih (u + 1) (by omega) (fun u' h1 h2 v' h3 h4 i h5 h6 => by
        rcases Nat.lt_or_ge u' u with q1 | q1
        · exact hi u' q1 h2 v' h3 h4 i h5 h6
        · have e : u' = u := by omega
          subst e; exact hk h2 v' h3 h4 i h5 h6)))
theorem s_X12_isFree (hd : 4 ≤ d) (h : OKq q n) (hB : ∀ w, B w = true → w < q ^ n) : Sp tO MX12_isFree (d, 0, 0) [.ref m0] [obM m0 A q n cut rows kq kn kc kr kt cu cv ck rm mo bo ki wa wr fo fd wn yw, (A 0, aZ 256 (hdF B))] (frQ m0 A q n cut rows kq kn kc kr kt rm mo bo ki wa wr fo fd wn yw B) := by
  refine eX12_isFree [some (.ref m0), none, none, none] rfl (Nat.le_of_ble_eq_true rfl) ?_
  refine V_iconst (v := nI 0) dX12_isFree_0 (by decide) ?_
  refine V_istore_n dX12_isFree_1 (by decide) rfl ?_
  exact l_X12_isFree1 hd h hB (q ^ n) 0 (by omega) (fun u' h1 => absurd h1 (by omega))
theorem s_X12_clash (hd : 5 ≤ d) (h : OKq q n) (hB : ∀ w, B w = true → w < q ^ n) {x : Int32} : Sp tO MX12_clash (d, 0, 0) [.ref m0, .int x] [obM m0 A q n cut rows kq kn kc kr kt cu cv ck rm mo bo ki wa wr fo fd wn yw, (A 0, aZ 256 (hdF B))] (fun v w' => ∃ cu' cv' ck', v = some (.int (clX q n B x)) ∧ w' = [obM m0 A q n cut rows kq kn kc kr kt cu' cv' ck' rm mo bo ki wa wr fo fd wn yw, (A 0, aZ 256 (hdF B))]) := by
  refine eX12_clash [some (.ref m0), some (.int x)] rfl (Nat.le_of_ble_eq_true rfl) ?_
  have hN := h.2.2.2.2
  unfold clX
  refine V_iload_n dX12_clash_0 rfl ?_
  refine V_i2l dX12_clash_1 ?_
  refine V_lconst (v := 0) dX12_clash_2 (by decide) ?_
  refine V_ldc2 (v := 3) dX12_clash_3 (by decide +kernel) ?_
  refine V_callSpi3 [] (s_X12_isInK (d := d - 1) (by omega) (k := 3) (by decide)) gX12_clash_X12_isIn dX12_clash_6 oX12_isIn rfl rfl (Nat.le_of_ble_eq_true rfl) (by omega) ⟨Nat.le_refl _, Nat.le_refl _⟩ ?_
  first | refine V_if_ne_B 14 dX12_clash_9 (by decide) (fun c_9 => ?_) (fun c_9 => ?_) | refine V_if_ne_N 14 dX12_clash_9 (by decide) (by omega) (fun c_9 => ?_) (fun c_9 => ?_) | refine V_if_ne 14 dX12_clash_9 (by decide) (fun c_9 => ?_) (fun c_9 => ?_)
  ·
    rw [c_9, if_pos rfl]
    obtain ⟨c, hc, rfl⟩ := isW_of c_9
    rw [toNat_nI (by omega)]
    refine V_aload_n dX12_clash_14 rfl ?_
    refine V_callV0 [0, 1] (s_X12_isFree (d := d - 1) (by omega) h hB) gX12_clash_X12_isFree dX12_clash_15 oX12_isFree rfl rfl rfl rfl (Nat.le_of_ble_eq_true rfl) (by omega) ⟨Nat.le_refl _, Nat.le_refl _⟩ ?_
    rintro _ _ ⟨cu', cv', ck', rfl, rfl, hcl⟩
    simp only [zput_n, zput_c, zset_0, zset_1, Option.toList, List.cons_append, List.nil_append]
    first | refine V_if_eq_B 24 dX12_clash_18 (by decide) (fun c_18 => ?_) (fun c_18 => ?_) | refine V_if_eq_N 24 dX12_clash_18 (by decide) (by omega) (fun c_18 => ?_) (fun c_18 => ?_) | refine V_if_eq 24 dX12_clash_18 (by decide) (fun c_18 => ?_) (fun c_18 => ?_)
    ·
      have hf : frB q n B = false := c_18
      rw [if_neg (by rw [hf]; exact Bool.false_ne_true)]
      have hcl2 := clT_is hf
      obtain ⟨rfl, rfl, rfl⟩ := hcl hf
      refine V_iload_n dX12_clash_24 rfl ?_
      refine V_if_ne_N 35 dX12_clash_25 (by decide) (by omega) (fun c_25 => ?_) (fun c_25 => ?_)
      ·
        refine V_iload_n dX12_clash_35 rfl ?_
        refine V_iconst (v := nI 1) dX12_clash_36 (by decide) ?_
        refine V_icmp_ne_N 47 dX12_clash_37 (by decide) (by omega) (by decide) (fun c_37 => ?_) (fun c_37 => ?_)
        ·
          refine V_iload_n dX12_clash_47 rfl ?_
          refine V_iconst (v := nI 2) dX12_clash_48 (by decide) ?_
          refine V_icmp_ne_N 59 dX12_clash_49 (by decide) (by omega) (by decide) (fun c_49 => ?_) (fun c_49 => ?_)
          ·
            rw [show clV q n (clT q n B).1 (clT q n B).2.1 (clT q n B).2.2 c = wAc q n (clT q n B).1 (clT q n B).2.1 (clT q n B).2.2 by unfold clV; rw [if_neg (by omega), if_neg c_37, if_neg c_49]]
            refine V_aload_n dX12_clash_59 rfl ?_
            refine V_aload_n dX12_clash_60 rfl ?_
            refine V_get 0 dX12_clash_61 fX12_clash_119 rfl rfl ?_
            refine V_aload_n dX12_clash_64 rfl ?_
            refine V_get 0 dX12_clash_65 fX12_clash_122 rfl rfl ?_
            refine V_aload_n dX12_clash_68 rfl ?_
            refine V_get 0 dX12_clash_69 fX12_clash_125 rfl rfl ?_
            refine V_callVpi3 [0] (s_X12_across (d := d - 1) (by omega) h (hB _ hcl2.1) (hB _ hcl2.2.1) (Nat.le_of_lt hcl2.2.2.2.1)) gX12_clash_X12_across dX12_clash_72 oX12_across rfl rfl rfl rfl (Nat.le_of_ble_eq_true rfl) (by omega) ⟨Nat.le_refl _, Nat.le_refl _⟩ ?_
            refine V_iret dX12_clash_75 rfl (Nat.le_of_ble_eq_true rfl) (Nat.le_refl _) (Nat.le_refl _) ?_
            exact ⟨_, _, _, rfl, rfl⟩
          ·
            subst c_49
            refine V_aload_n dX12_clash_52 rfl ?_
            refine V_get 0 dX12_clash_53 fX12_clash_125 rfl rfl ?_
            refine V_goto 75 dX12_clash_56 (by decide) ?_
            refine V_iret dX12_clash_75 rfl (Nat.le_of_ble_eq_true rfl) (Nat.le_refl _) (Nat.le_refl _) ?_
            exact ⟨_, _, _, rfl, rfl⟩
        ·
          subst c_37
          refine V_aload_n dX12_clash_40 rfl ?_
          refine V_get 0 dX12_clash_41 fX12_clash_122 rfl rfl ?_
          refine V_goto 75 dX12_clash_44 (by decide) ?_
          refine V_iret dX12_clash_75 rfl (Nat.le_of_ble_eq_true rfl) (Nat.le_refl _) (Nat.le_refl _) ?_
          exact ⟨_, _, _, rfl, rfl⟩
      ·
        subst c_25
        refine V_aload_n dX12_clash_28 rfl ?_
        refine V_get 0 dX12_clash_29 fX12_clash_119 rfl rfl ?_
        refine V_goto 75 dX12_clash_32 (by decide) ?_
        refine V_iret dX12_clash_75 rfl (Nat.le_of_ble_eq_true rfl) (Nat.le_refl _) (Nat.le_refl _) ?_
        exact ⟨_, _, _, rfl, rfl⟩
    ·
      rw [if_pos c_18]
      refine V_bipush (v := (-5)) dX12_clash_21 (by decide) ?_
      refine V_iret dX12_clash_23 rfl (Nat.le_of_ble_eq_true rfl) (Nat.le_refl _) (Nat.le_refl _) ?_
      exact ⟨cu', cv', ck', rfl, rfl⟩
  ·
    rw [c_9]
    refine V_iconst (v := -1) dX12_clash_12 (by decide) ?_
    refine V_iret dX12_clash_13 rfl (Nat.le_of_ble_eq_true rfl) (Nat.le_refl _) (Nat.le_refl _) ?_
    exact ⟨cu, cv, ck, rfl, rfl⟩
theorem s_X12_mayCome (hd : 5 ≤ d) (h : OKq q n) (hB : ∀ w, B w = true → w < q ^ n) {w : Nat} (hw : w < q ^ n) : Sp tO MX12_mayCome (d, 0, 0) [.ref m0, .int (nI w)] [obM m0 A q n cut rows kq kn kc kr kt cu cv ck rm mo bo ki wa wr fo fd wn yw, (A 0, aZ 256 (hdF B))] (fun v w' => ∃ cu' cv' ck', v = some (.int (bI (alB q n B w))) ∧ w' = [obM m0 A q n cut rows kq kn kc kr kt cu' cv' ck' rm mo bo ki wa wr fo fd wn yw, (A 0, aZ 256 (hdF B))]) := by
  refine eX12_mayCome [some (.ref m0), some (.int (nI w)), none] rfl (Nat.le_of_ble_eq_true rfl) ?_
  have hN := h.2.2.2.2
  have hB2 : ∀ x, insB B w x = true → x < q ^ n := fun x hx => by
    rcases insB_iff.mp hx with h1 | h1
    · exact hB x h1
    · rw [h1]; exact hw
  refine V_aload_n dX12_mayCome_0 rfl ?_
  refine V_get 0 dX12_mayCome_1 fX12_mayCome_18 rfl rfl ?_
  refine V_iload_n dX12_mayCome_4 rfl ?_
  refine V_zald_N 1 dX12_mayCome_5 rfl (by omega) (by first | decide | omega) ?_
  first | refine V_if_eq_B 11 dX12_mayCome_6 (by decide) (fun c_6 => ?_) (fun c_6 => ?_) | refine V_if_eq_N 11 dX12_mayCome_6 (by decide) (by omega) (fun c_6 => ?_) (fun c_6 => ?_) | refine V_if_eq 11 dX12_mayCome_6 (by decide) (fun c_6 => ?_) (fun c_6 => ?_)
  ·
    have hb : B w = false := c_6
    have e : alB q n B w = frB q n (insB B w) := dB_iff ⟨fun hh => hh.2.2, fun hh => ⟨hw, hb, hh⟩⟩
    refine V_aload_n dX12_mayCome_11 rfl ?_
    refine V_get 0 dX12_mayCome_12 fX12_mayCome_18 rfl rfl ?_
    refine V_iload_n dX12_mayCome_15 rfl ?_
    refine V_iconst (v := nI 1) dX12_mayCome_16 (by decide) ?_
    refine V_zast_N 1 dX12_mayCome_17 rfl (show w < 256 by omega) (by decide) (Or.inr rfl) ?_
    rw [hdF_ins]
    simp only [zset_1]
    refine V_aload_n dX12_mayCome_18 rfl ?_
    refine V_callV0 [0, 1] (s_X12_isFree (d := d - 1) (by omega) h hB2) gX12_mayCome_X12_isFree dX12_mayCome_19 oX12_isFree rfl rfl rfl rfl (Nat.le_of_ble_eq_true rfl) (by omega) ⟨Nat.le_refl _, Nat.le_refl _⟩ ?_
    rintro _ _ ⟨cu', cv', ck', rfl, rfl, -⟩
    simp only [zput_n, zput_c, zset_0, zset_1, Option.toList, List.cons_append, List.nil_append]
    refine V_istore_n dX12_mayCome_22 (by decide) rfl ?_
    refine V_aload_n dX12_mayCome_23 rfl ?_
    refine V_get 0 dX12_mayCome_24 fX12_mayCome_18 rfl rfl ?_
    refine V_iload_n dX12_mayCome_27 rfl ?_
    refine V_iconst (v := nI 0) dX12_mayCome_28 (by decide) ?_
    refine V_zast_N 1 dX12_mayCome_29 rfl (show w < 256 by omega) (by decide) (Or.inl rfl) ?_
    rw [hdF_del, delB_insB' hb]
    simp only [zset_1]
    refine V_iload_n dX12_mayCome_30 rfl ?_
    refine V_zret dX12_mayCome_31 rfl (by first | exact Or.inl rfl | exact Or.inr rfl | exact bI_or _) (Nat.le_of_ble_eq_true rfl) (Nat.le_refl _) (Nat.le_refl _) ?_
    exact ⟨cu', cv', ck', by rw [e], rfl⟩
  ·
    have e : alB q n B w = false := dB_f.mpr (fun hh => by rw [hh.2.1] at c_6; cases c_6)
    refine V_iconst (v := nI 0) dX12_mayCome_9 (by decide) ?_
    refine V_zret dX12_mayCome_10 rfl (by first | exact Or.inl rfl | exact Or.inr rfl | exact bI_or _) (Nat.le_of_ble_eq_true rfl) (Nat.le_refl _) (Nat.le_refl _) ?_
    exact ⟨cu, cv, ck, by rw [e]; rfl, rfl⟩
theorem s_X12_may (hd : 6 ≤ d) (h : OKq q n) (hB : ∀ w, B w = true → w < q ^ n) {x : Int32} : Sp tO MX12_may (d, 0, 0) [.ref m0, .int x] [obM m0 A q n cut rows kq kn kc kr kt cu cv ck rm mo bo ki wa wr fo fd wn yw, (A 0, aZ 256 (hdF B))] (fun v w' => ∃ cu' cv' ck', v = some (.int (maV q n B x)) ∧ w' = [obM m0 A q n cut rows kq kn kc kr kt cu' cv' ck' rm mo bo ki wa wr fo fd wn yw, (A 0, aZ 256 (hdF B))]) := by
  refine eX12_may [some (.ref m0), some (.int x)] rfl (Nat.le_of_ble_eq_true rfl) ?_
  have hN := h.2.2.2.2
  unfold maV
  refine V_aload_n dX12_may_0 rfl ?_
  refine V_iload_n dX12_may_1 rfl ?_
  refine V_callVpi1 [0] (s_X12_isWord (d := d - 1) (by omega) h) gX12_may_X12_isWord dX12_may_2 oX12_isWord rfl rfl rfl rfl (Nat.le_of_ble_eq_true rfl) (by omega) ⟨Nat.le_refl _, Nat.le_refl _⟩ ?_
  first | refine V_if_eq_B 24 dX12_may_5 (by decide) (fun c_5 => ?_) (fun c_5 => ?_) | refine V_if_eq_N 24 dX12_may_5 (by decide) (by omega) (fun c_5 => ?_) (fun c_5 => ?_) | refine V_if_eq 24 dX12_may_5 (by decide) (fun c_5 => ?_) (fun c_5 => ?_)
  ·
    rw [c_5]
    refine V_iconst (v := -1) dX12_may_24 (by decide) ?_
    refine V_iret dX12_may_25 rfl (Nat.le_of_ble_eq_true rfl) (Nat.le_refl _) (Nat.le_refl _) ?_
    first
    | exact ⟨cu, cv, ck, rfl, rfl⟩
    | exact ⟨_, _, _, by rw [c_13]; rfl, rfl⟩
  ·
    rw [c_5, if_pos rfl]
    obtain ⟨w, hw, rfl⟩ := isW_of c_5
    rw [toNat_nI (by omega)]
    refine V_aload_n dX12_may_8 rfl ?_
    refine V_iload_n dX12_may_9 rfl ?_
    refine V_callV1 [0, 1] (s_X12_mayCome (d := d - 1) (by omega) h hB hw) gX12_may_X12_mayCome dX12_may_10 oX12_mayCome rfl rfl rfl rfl (Nat.le_of_ble_eq_true rfl) (by omega) ⟨Nat.le_refl _, Nat.le_refl _⟩ ?_
    rintro _ _ ⟨cu', cv', ck', rfl, rfl⟩
    simp only [zput_n, zput_c, zset_0, zset_1, Option.toList, List.cons_append, List.nil_append]
    first | refine V_if_eq_B 20 dX12_may_13 (by decide) (fun c_13 => ?_) (fun c_13 => ?_) | refine V_if_eq_N 20 dX12_may_13 (by decide) (by omega) (fun c_13 => ?_) (fun c_13 => ?_) | refine V_if_eq 20 dX12_may_13 (by decide) (fun c_13 => ?_) (fun c_13 => ?_)
    ·
      refine V_iconst (v := nI 0) dX12_may_20 (by decide) ?_
      refine V_goto 25 dX12_may_21 (by decide) ?_
      refine V_iret dX12_may_25 rfl (Nat.le_of_ble_eq_true rfl) (Nat.le_refl _) (Nat.le_refl _) ?_
      first
      | exact ⟨cu, cv, ck, rfl, rfl⟩
      | exact ⟨_, _, _, by rw [c_13]; rfl, rfl⟩
    ·
      refine V_iconst (v := nI 1) dX12_may_16 (by decide) ?_
      refine V_goto 25 dX12_may_17 (by decide) ?_
      refine V_iret dX12_may_25 rfl (Nat.le_of_ble_eq_true rfl) (Nat.le_refl _) (Nat.le_refl _) ?_
      first
      | exact ⟨cu, cv, ck, rfl, rfl⟩
      | exact ⟨_, _, _, by rw [c_13]; rfl, rfl⟩
theorem z_ltm1 {x : Int32} : x < -1 ↔ x.toInt < -1 := by
  rw [Int32.lt_iff_toInt_lt, show (-1 : Int32).toInt = -1 from by decide]
theorem l_X12_mays (hd : 30 ≤ d) (h : OKq q n) (hB : ∀ w, B w = true → w < q ^ n) {x : Int32} (hx : ¬ x.toInt < -1) {cu0 cv0 ck0 z : Int32} : ∀ (f w c : Nat) (cu cv ck : Int32), w + f = q ^ n → c ≤ w → (x.toInt = -1 → z = nI (c + (ct (alB q n B) (q ^ n) - ct (alB q n B) w))) → (x.toInt ≠ -1 → z = kth (alB q n B) x f w c) → V tO MX12_mays (d, 0, 0) [obM m0 A q n cut rows kq kn kc kr kt cu0 cv0 ck0 rm mo bo ki wa wr fo fd wn yw, (A 0, aZ 256 (hdF B))] (fun v w' => ∃ cu' cv' ck', v = some (.int z) ∧ w' = [obM m0 A q n cut rows kq kn kc kr kt cu' cv' ck' rm mo bo ki wa wr fo fd wn yw, (A 0, aZ 256 (hdF B))]) (0, 0) [obM m0 A q n cut rows kq kn kc kr kt cu cv ck rm mo bo ki wa wr fo fd wn yw, (A 0, aZ 256 (hdF B))] 10 [some (.ref m0), some (.int x), some (.int (nI c)), some (.int (bI true)), some (.int (nI w))] [] := by
  have hN := h.2.2.2.2
  intro f
  induction f with
  | zero =>
    intro w c cu cv ck hw hcw h1 h2
    have e1 : w = q ^ n := by omega
    subst e1
    rw [Nat.sub_self, Nat.add_zero] at h1
    rw [kth] at h2
    refine V_iload dX12_mays_10 rfl ?_
    refine V_aload_n dX12_mays_12 rfl ?_
    refine V_callVpi0 [0] (s_X12_words (d := d - 1) (by omega) h) gX12_mays_X12_words dX12_mays_13 oX12_words rfl rfl rfl rfl (Nat.le_of_ble_eq_true rfl) (by omega) ⟨Nat.le_refl _, Nat.le_refl _⟩ ?_
    refine V_icmp_ge_N 54 dX12_mays_16 (by decide) (by omega) (by omega) (fun c_16 => ?_) (fun c_16 => absurd c_16 (by omega))
    refine V_iload_n dX12_mays_54 rfl ?_
    refine V_iconst (v := -1) dX12_mays_55 (by decide) ?_
    refine V_icmp_ne 63 dX12_mays_56 (by decide) (fun c_56 => ?_) (fun c_56 => ?_)
    ·
      rw [h2 (fun hh => c_56 (z_eqm1.mpr hh))]
      refine V_bipush (v := (-5)) dX12_mays_63 (by decide) ?_
      refine V_iret dX12_mays_65 rfl (Nat.le_of_ble_eq_true rfl) (Nat.le_refl _) (Nat.le_refl _) ?_
      exact ⟨cu, cv, ck, rfl, rfl⟩
    ·
      rw [h1 (z_eqm1.mp c_56)]
      refine V_iload_n dX12_mays_59 rfl ?_
      refine V_goto 65 dX12_mays_60 (by decide) ?_
      refine V_iret dX12_mays_65 rfl (Nat.le_of_ble_eq_true rfl) (Nat.le_refl _) (Nat.le_refl _) ?_
      exact ⟨cu, cv, ck, rfl, rfl⟩
  | succ f ih =>
    intro w c cu cv ck hw hcw h1 h2
    have hm := ct_mono (alB q n B) (w + 1) (q ^ n - (w + 1))
    rw [show w + 1 + (q ^ n - (w + 1)) = q ^ n by omega] at hm
    rw [ct_succ] at hm
    refine V_iload dX12_mays_10 rfl ?_
    refine V_aload_n dX12_mays_12 rfl ?_
    refine V_callVpi0 [0] (s_X12_words (d := d - 1) (by omega) h) gX12_mays_X12_words dX12_mays_13 oX12_words rfl rfl rfl rfl (Nat.le_of_ble_eq_true rfl) (by omega) ⟨Nat.le_refl _, Nat.le_refl _⟩ ?_
    refine V_icmp_ge_N 54 dX12_mays_16 (by decide) (by omega) (by omega) (fun c_16 => absurd c_16 (by omega)) (fun c_16 => ?_)
    refine V_iload_n dX12_mays_19 rfl ?_
    refine V_iconst (v := -1) dX12_mays_20 (by decide) ?_
    refine V_icmp_lt 54 dX12_mays_21 (by decide) (fun c_21 => absurd (z_ltm1.mp c_21) hx) (fun c_21 => ?_)
    refine V_iload_n dX12_mays_24 rfl ?_
    first | refine V_if_eq_B 54 dX12_mays_25 (by decide) (fun c_25 => ?_) (fun c_25 => ?_) | refine V_if_eq_N 54 dX12_mays_25 (by decide) (by omega) (fun c_25 => ?_) (fun c_25 => ?_) | refine V_if_eq 54 dX12_mays_25 (by decide) (fun c_25 => ?_) (fun c_25 => ?_)
    ·
      cases c_25
    ·
      refine V_aload_n dX12_mays_28 rfl ?_
      refine V_iload dX12_mays_29 rfl ?_
      refine V_callV1 [0, 1] (s_X12_mayCome (d := d - 1) (by omega) h hB (by omega)) gX12_mays_X12_mayCome dX12_mays_31 oX12_mayCome rfl rfl rfl rfl (Nat.le_of_ble_eq_true rfl) (by omega) ⟨Nat.le_refl _, Nat.le_refl _⟩ ?_
      rintro _ _ ⟨cu', cv', ck', rfl, rfl⟩
      simp only [zput_n, zput_c, zset_0, zset_1, Option.toList, List.cons_append, List.nil_append]
      first | refine V_if_eq_B 48 dX12_mays_34 (by decide) (fun c_34 => ?_) (fun c_34 => ?_) | refine V_if_eq_N 48 dX12_mays_34 (by decide) (by omega) (fun c_34 => ?_) (fun c_34 => ?_) | refine V_if_eq 48 dX12_mays_34 (by decide) (fun c_34 => ?_) (fun c_34 => ?_)
      ·
        rw [kth, if_neg (by rw [c_34]; exact Bool.false_ne_true)] at h2
        first | refine V_iinc_N (i := 1) dX12_mays_48 rfl (by decide) rfl ?_ | refine V_iinc dX12_mays_48 rfl rfl (by decide) rfl ?_
        refine V_goto 10 dX12_mays_51 (by decide) ?_
        first
        | exact ih (w + 1) (c + 1) cu' cv' ck' (by omega) (by omega) (fun hh => by rw [h1 hh, ct_succ, c_34, if_pos rfl]; congr 1; omega) h2
        | exact ih (w + 1) c cu' cv' ck' (by omega) (by omega) (fun hh => by rw [h1 hh, ct_succ, c_34, if_neg Bool.false_ne_true]; rfl) h2
      ·
        rw [kth, if_pos c_34] at h2
        rw [c_34, if_pos rfl] at hm
        refine V_iload_n dX12_mays_37 rfl ?_
        refine V_iload_n dX12_mays_38 rfl ?_
        refine V_icmp_ne 45 dX12_mays_39 (by decide) (fun c_39 => ?_) (fun c_39 => ?_)
        ·
          rw [if_neg (fun hh => c_39 hh.symm)] at h2
          first | refine V_iinc_N (i := 1) dX12_mays_45 rfl (by decide) rfl ?_ | refine V_iinc dX12_mays_45 rfl rfl (by decide) rfl ?_
          first | refine V_iinc_N (i := 1) dX12_mays_48 rfl (by decide) rfl ?_ | refine V_iinc dX12_mays_48 rfl rfl (by decide) rfl ?_
          refine V_goto 10 dX12_mays_51 (by decide) ?_
          first
          | exact ih (w + 1) (c + 1) cu' cv' ck' (by omega) (by omega) (fun hh => by rw [h1 hh, ct_succ, c_34, if_pos rfl]; congr 1; omega) h2
          | exact ih (w + 1) c cu' cv' ck' (by omega) (by omega) (fun hh => by rw [h1 hh, ct_succ, c_34, if_neg Bool.false_ne_true]; rfl) h2
        ·
          have hx1 : x.toInt ≠ -1 := by rw [← c_39]; rw [nI_toInt (by have := ct_le (alB q n B) w; omega)]; omega
          rw [if_pos c_39.symm] at h2
          rw [h2 hx1]
          refine V_iload dX12_mays_42 rfl ?_
          refine V_iret dX12_mays_44 rfl (Nat.le_of_ble_eq_true rfl) (Nat.le_refl _) (Nat.le_refl _) ?_
          exact ⟨cu', cv', ck', rfl, rfl⟩
theorem s_X12_mays (hd : 30 ≤ d) (h : OKq q n) (hB : ∀ w, B w = true → w < q ^ n) {x : Int32} : Sp tO MX12_mays (d, 0, 0) [.ref m0, .int x] [obM m0 A q n cut rows kq kn kc kr kt cu cv ck rm mo bo ki wa wr fo fd wn yw, (A 0, aZ 256 (hdF B))] (fun v w' => ∃ cu' cv' ck', v = some (.int (kiV (alB q n B) (q ^ n) x)) ∧ w' = [obM m0 A q n cut rows kq kn kc kr kt cu' cv' ck' rm mo bo ki wa wr fo fd wn yw, (A 0, aZ 256 (hdF B))]) := by
  refine eX12_mays [some (.ref m0), some (.int x), none, none, none] rfl (Nat.le_of_ble_eq_true rfl) ?_
  unfold kiV
  have hN := h.2.2.2.2
  have h0 := h.pos n
  by_cases hlt : x.toInt < -1
  · rw [if_pos hlt]
    have hne : ¬ x = -1 := fun hh => by rw [z_eqm1.mp hh] at hlt; omega
    refine V_iconst (v := nI 0) dX12_mays_0 (by decide) ?_
    refine V_istore_n dX12_mays_1 (by decide) rfl ?_
    refine V_aload_n dX12_mays_2 rfl ?_
    refine V_callV0 [0, 1] (s_X12_isFree (d := d - 1) (by omega) h hB) gX12_mays_X12_isFree dX12_mays_3 oX12_isFree rfl rfl rfl rfl (Nat.le_of_ble_eq_true rfl) (by omega) ⟨Nat.le_refl _, Nat.le_refl _⟩ ?_
    rintro _ _ ⟨cu', cv', ck', rfl, rfl, -⟩
    simp only [zput_n, zput_c, zset_0, zset_1, Option.toList, List.cons_append, List.nil_append]
    refine V_istore_n dX12_mays_6 (by decide) rfl ?_
    refine V_iconst (v := nI 0) dX12_mays_7 (by decide) ?_
    refine V_istore dX12_mays_8 (by decide) rfl ?_
    refine V_iload dX12_mays_10 rfl ?_
    refine V_aload_n dX12_mays_12 rfl ?_
    refine V_callVpi0 [0] (s_X12_words (d := d - 1) (by omega) h) gX12_mays_X12_words dX12_mays_13 oX12_words rfl rfl rfl rfl (Nat.le_of_ble_eq_true rfl) (by omega) ⟨Nat.le_refl _, Nat.le_refl _⟩ ?_
    refine V_icmp_ge_N 54 dX12_mays_16 (by decide) (by omega) (by omega) (fun c_16 => absurd c_16 (by omega)) (fun c_16 => ?_)
    refine V_iload_n dX12_mays_19 rfl ?_
    refine V_iconst (v := -1) dX12_mays_20 (by decide) ?_
    refine V_icmp_lt 54 dX12_mays_21 (by decide) (fun c_21 => ?_) (fun c_21 => absurd (z_ltm1.mpr hlt) c_21)
    refine V_iload_n dX12_mays_54 rfl ?_
    refine V_iconst (v := -1) dX12_mays_55 (by decide) ?_
    refine V_icmp_ne 63 dX12_mays_56 (by decide) (fun c_56 => ?_) (fun c_56 => absurd c_56 hne)
    refine V_bipush (v := (-5)) dX12_mays_63 (by decide) ?_
    refine V_iret dX12_mays_65 rfl (Nat.le_of_ble_eq_true rfl) (Nat.le_refl _) (Nat.le_refl _) ?_
    exact ⟨cu', cv', ck', rfl, rfl⟩
  · rw [if_neg hlt]
    have hge : ¬ x < -1 := fun hh => hlt (z_ltm1.mp hh)
    by_cases hfr : frB q n B = true
    · skip
      refine V_iconst (v := nI 0) dX12_mays_0 (by decide) ?_
      refine V_istore_n dX12_mays_1 (by decide) rfl ?_
      refine V_aload_n dX12_mays_2 rfl ?_
      refine V_callV0 [0, 1] (s_X12_isFree (d := d - 1) (by omega) h hB) gX12_mays_X12_isFree dX12_mays_3 oX12_isFree rfl rfl rfl rfl (Nat.le_of_ble_eq_true rfl) (by omega) ⟨Nat.le_refl _, Nat.le_refl _⟩ ?_
      rintro _ _ ⟨cu', cv', ck', rfl, rfl, -⟩
      simp only [zput_n, zput_c, zset_0, zset_1, Option.toList, List.cons_append, List.nil_append]
      rw [hfr]
      refine V_istore_n dX12_mays_6 (by decide) rfl ?_
      refine V_iconst (v := nI 0) dX12_mays_7 (by decide) ?_
      refine V_istore dX12_mays_8 (by decide) rfl ?_
      exact l_X12_mays hd h hB hlt (q ^ n) 0 0 cu' cv' ck' (by omega) (Nat.le_refl _) (fun hh => by rw [if_pos hh, ct, Nat.sub_zero, Nat.zero_add]) (fun hh => by rw [if_neg hh])
    · have hff : frB q n B = false := by cases hh : frB q n B with
        | false => rfl
        | true => exact absurd hh hfr
      have ha := fun w => alB_fr (w := w) hff
      refine V_iconst (v := nI 0) dX12_mays_0 (by decide) ?_
      refine V_istore_n dX12_mays_1 (by decide) rfl ?_
      refine V_aload_n dX12_mays_2 rfl ?_
      refine V_callV0 [0, 1] (s_X12_isFree (d := d - 1) (by omega) h hB) gX12_mays_X12_isFree dX12_mays_3 oX12_isFree rfl rfl rfl rfl (Nat.le_of_ble_eq_true rfl) (by omega) ⟨Nat.le_refl _, Nat.le_refl _⟩ ?_
      rintro _ _ ⟨cu', cv', ck', rfl, rfl, -⟩
      simp only [zput_n, zput_c, zset_0, zset_1, Option.toList, List.cons_append, List.nil_append]
      rw [hff]
      refine V_istore_n dX12_mays_6 (by decide) rfl ?_
      refine V_iconst (v := nI 0) dX12_mays_7 (by decide) ?_
      refine V_istore dX12_mays_8 (by decide) rfl ?_
      refine V_iload dX12_mays_10 rfl ?_
      refine V_aload_n dX12_mays_12 rfl ?_
      refine V_callVpi0 [0] (s_X12_words (d := d - 1) (by omega) h) gX12_mays_X12_words dX12_mays_13 oX12_words rfl rfl rfl rfl (Nat.le_of_ble_eq_true rfl) (by omega) ⟨Nat.le_refl _, Nat.le_refl _⟩ ?_
      refine V_icmp_ge_N 54 dX12_mays_16 (by decide) (by omega) (by omega) (fun c_16 => absurd c_16 (by omega)) (fun c_16 => ?_)
      refine V_iload_n dX12_mays_19 rfl ?_
      refine V_iconst (v := -1) dX12_mays_20 (by decide) ?_
      refine V_icmp_lt 54 dX12_mays_21 (by decide) (fun c_21 => absurd c_21 hge) (fun c_21 => ?_)
      refine V_iload_n dX12_mays_24 rfl ?_
      first | refine V_if_eq_B 54 dX12_mays_25 (by decide) (fun c_25 => ?_) (fun c_25 => ?_) | refine V_if_eq_N 54 dX12_mays_25 (by decide) (by omega) (fun c_25 => ?_) (fun c_25 => ?_) | refine V_if_eq 54 dX12_mays_25 (by decide) (fun c_25 => ?_) (fun c_25 => ?_)
      ·
        refine V_iload_n dX12_mays_54 rfl ?_
        refine V_iconst (v := -1) dX12_mays_55 (by decide) ?_
        refine V_icmp_ne 63 dX12_mays_56 (by decide) (fun c_56 => ?_) (fun c_56 => ?_)
        ·
          rw [if_neg (fun hh => c_56 (z_eqm1.mpr hh)), kth_none ha]
          refine V_bipush (v := (-5)) dX12_mays_63 (by decide) ?_
          refine V_iret dX12_mays_65 rfl (Nat.le_of_ble_eq_true rfl) (Nat.le_refl _) (Nat.le_refl _) ?_
          exact ⟨cu', cv', ck', rfl, rfl⟩
        ·
          rw [if_pos (z_eqm1.mp c_56), ct_none ha]
          refine V_iload_n dX12_mays_59 rfl ?_
          refine V_goto 65 dX12_mays_60 (by decide) ?_
          refine V_iret dX12_mays_65 rfl (Nat.le_of_ble_eq_true rfl) (Nat.le_refl _) (Nat.le_refl _) ?_
          exact ⟨cu', cv', ck', rfl, rfl⟩
      ·
        cases c_25
end MDL2

