/-! the model: offsets that are possible, certain ones -/
theorem psB_t {q n k r : Nat} {B : Nat → Bool} {L : Nat → Nat} (h : ∀ j, j < k → fitA q n B L r j) : psB q n B L k r = true := dB_t.mpr h
theorem psB_f {q n k r j : Nat} {B : Nat → Bool} {L : Nat → Nat} (hj : j < k) (h : ¬ fitA q n B L r j) : psB q n B L k r = false := dB_f.mpr (fun hh => h (hh j hj))
theorem sub_max {e n : Nat} (he : e < 2 ^ 30) (hn : n < 2 ^ 30) : (if nI 0 < nI e - nI n then nI e - nI n else nI 0) = nI (e - n) := by
  have h1 := sub_toInt he hn
  by_cases c : nI 0 < nI e - nI n
  · rw [if_pos c]
    rw [z_gt (by decide)] at c
    exact pk_sub (by omega)
  · rw [if_neg c]
    rw [z_gt (by decide)] at c
    rw [show e - n = 0 by omega]
theorem sub_sub' {e n : Nat} (he : e < 2 ^ 29) (hn : n < 2 ^ 29) : nI (e - n) - (nI e - nI n) = nI (n - e) := by
  apply Int32.toInt_inj.mp
  rw [Int32.toInt_sub, sub_toInt (by omega) (by omega), nI_toInt (by omega), nI_toInt (by omega), Int.bmod_eq_of_le] <;> omega
theorem IsCr_uniq {bits : Nat → Nat} {n m k r k' r' : Nat} (h : IsCr bits n m k r) (h' : IsCr bits n m k' r') : k = k' ∧ r = r' := by
  obtain ⟨a1, a2, a3, a4, a5⟩ := h
  obtain ⟨b1, b2, b3, b4, b5⟩ := h'
  have e : k = k' := by
    rcases Nat.lt_trichotomy k k' with q1 | q1 | q1
    · exact absurd a4 (b5 k a1 q1 r a3)
    · exact q1
    · exact absurd b4 (a5 k' b1 q1 r' b3)
  subst e
  rw [a4] at b4
  exact ⟨rfl, (Nat.pow_right_inj (show 1 < 2 by decide)).mp b4⟩
theorem and_m1 : ∀ b, b < 32 → (nI b &&& nI (b - 1)) = nI (b &&& (b - 1)) := by decide +kernel
theorem pw_and : ∀ r, r < 5 → 2 ^ r &&& (2 ^ r - 1) = 0 := by decide
theorem and_pw : ∀ b, b < 32 → 0 < b → b &&& (b - 1) = 0 → ∃ r, r < 5 ∧ b = 2 ^ r := by decide +kernel
theorem shr_pw : ∀ a, a < 5 → ∀ r, r < 6 → (nI (2 ^ a) >>> (nI r &&& 31)) = nI (2 ^ a / 2 ^ r) := by decide +kernel
theorem shr_pw1 : ∀ a, a < 5 → ∀ r, r < a → 2 ^ a / 2 ^ r ≠ 1 := by decide +kernel
section MDL6
variable {tO d m0 : Nat} {A : Nat → Nat} {q n cut rows kq kn kc kr fd wn : Nat} {kt yw : Bool} {cu cv ck rm mo bo ki wa wr fo : Int32} {B KB : Nat → Bool} {Wb R KR P KP Od Ig Pk Lt Lk Rd Nx Tp Pa Wy Sz It : Nat → Int32}
theorem l_X12_isPossible2 {r k a b : Nat} {x4 : Int32} {L : Nat → Nat} (hk : k ≤ cut) (hm : cut ≤ 40) (hb : b ≤ k) (hab : b - a ≤ 5) (hL : RwOK q cut R L) {w0 : zW} {Q : zPo} (next : ∀ Lc, (∀ i, i < b - a → Lc i = nI (L (a + i))) → V tO MX12_isPossible (d, 0, 0) w0 Q (0, 0) [obM m0 A q n cut rows kq kn kc kr kt cu cv ck rm mo bo ki wa wr fo fd wn yw, (A 0, aZ 256 (hdF B)), (A 3, aI 40 R), (A 11, aI 5 Lc)] 83 [some (.ref m0), some (.int (nI r)), some (.int (nI k)), some (.int (bI true)), some (.int x4), some (.int (nI a)), some (.int (nI b)), none] []) : ∀ (f j : Nat) (Lc : Nat → Int32), j + f = b → a ≤ j → (∀ i, i < j - a → Lc i = nI (L (a + i))) → V tO MX12_isPossible (d, 0, 0) w0 Q (0, 0) [obM m0 A q n cut rows kq kn kc kr kt cu cv ck rm mo bo ki wa wr fo fd wn yw, (A 0, aZ 256 (hdF B)), (A 3, aI 40 R), (A 11, aI 5 Lc)] 53 [some (.ref m0), some (.int (nI r)), some (.int (nI k)), some (.int (bI true)), some (.int x4), some (.int (nI a)), some (.int (nI b)), some (.int (nI j))] [] := by
  intro f
  induction f with
  | zero =>
    intro j Lc hj haj hc
    have e : j = b := by omega
    subst e
    refine V_iload dX12_isPossible_53 rfl ?_
    refine V_iload dX12_isPossible_55 rfl ?_
    refine V_icmp_ge_N 83 dX12_isPossible_57 (by decide) (by omega) (by omega) (fun c_57 => ?_) (fun c_57 => absurd c_57 (by omega))
    exact V_wk _ (by exact ⟨rfl, rfl, rfl, rfl, rfl, rfl, rfl, trivial, trivial⟩) (next Lc hc)
  | succ f ih =>
    intro j Lc hj haj hc
    refine V_iload dX12_isPossible_53 rfl ?_
    refine V_iload dX12_isPossible_55 rfl ?_
    refine V_icmp_ge_N 83 dX12_isPossible_57 (by decide) (by omega) (by omega) (fun c_57 => absurd c_57 (by omega)) (fun c_57 => ?_)
    refine V_aload_n dX12_isPossible_60 rfl ?_
    refine V_get 0 dX12_isPossible_61 fX12_isPossible_53 rfl rfl ?_
    refine V_iload dX12_isPossible_64 rfl ?_
    refine V_iload dX12_isPossible_66 rfl ?_
    first | refine V_isub_N dX12_isPossible_68 (by omega) ?_ | refine V_isub dX12_isPossible_68 ?_
    refine V_aload_n dX12_isPossible_69 rfl ?_
    refine V_get 0 dX12_isPossible_70 fX12_isPossible_28 rfl rfl ?_
    refine V_iload dX12_isPossible_73 rfl ?_
    refine V_iald_N 2 dX12_isPossible_75 rfl (by omega) (by first | decide | omega) ?_
    refine V_iast_N 3 dX12_isPossible_76 rfl (by omega) (by first | decide | omega) ?_
    first | refine V_iinc_N (i := 1) dX12_isPossible_77 rfl (by decide) rfl ?_ | refine V_iinc dX12_isPossible_77 rfl rfl (by decide) rfl ?_
    refine V_goto 53 dX12_isPossible_80 (by decide) ?_
    refine ih (j + 1) _ (by omega) (by omega) (fun i hi => ?_)
    unfold upd
    by_cases e : i = j - a
    · rw [if_pos e, (hL j (by omega)).1, show a + i = j by omega]
    · rw [if_neg e]; exact hc i (by omega)
theorem l_X12_isPossible1 (hd : 4 ≤ d) (h : OKq q n) (hB : ∀ w, B w = true → w < q ^ n) {r k : Nat} {L : Nat → Nat} (hk : k ≤ cut) (hm : cut ≤ 40) (hr : r < n) (hL : RwOK q cut R L) {w0 : zW} (hw0 : w0.length = 4) : ∀ (f e : Nat) (Lc : Nat → Int32) (x5 x6 x7 : Option Value), n + k ≤ e + f → e ≤ n + k + n → (e + (n - r)) % n = 0 → (e < n → e = r) → 1 ≤ e → (∀ j, j < e - n → j < k → fitA q n B L r j) → V tO MX12_isPossible (d, 0, 0) w0 (fun v w' => ∃ Lk', v = some (.int (bI (psB q n B L k r))) ∧ w' = [obM m0 A q n cut rows kq kn kc kr kt cu cv ck rm mo bo ki wa wr fo fd wn yw, (A 0, aZ 256 (hdF B)), (A 3, aI 40 R), (A 11, aI 5 Lk')]) (0, 0) [obM m0 A q n cut rows kq kn kc kr kt cu cv ck rm mo bo ki wa wr fo fd wn yw, (A 0, aZ 256 (hdF B)), (A 3, aI 40 R), (A 11, aI 5 Lc)] 18 [some (.ref m0), some (.int (nI r)), some (.int (nI k)), some (.int (bI true)), some (.int (nI e - nI n)), none, none, none] [] := by
  have hn5 := h.2.2.2.1
  have hn1 := h.2.2.1
  have hq4 := h.2.1
  intro f
  induction f with
  | zero =>
    intro e Lc x5 x6 x7 hf hek hmod he1 he2 hi
    have hs := sub_toInt (e := e) (n := n) (by omega) (by omega)
    have hps : psB q n B L k r = true := psB_t (fun j hj => hi j (by omega) hj)
    refine V_iload dX12_isPossible_18 rfl ?_
    refine V_iload_n dX12_isPossible_20 rfl ?_
    refine V_icmp_ge 125 dX12_isPossible_21 (by decide) (fun c_21 => ?_) (fun c_21 => ?_)
    ·
      refine V_iload_n dX12_isPossible_125 rfl ?_
      refine V_zret dX12_isPossible_126 rfl (by first | exact Or.inl rfl | exact Or.inr rfl | exact bI_or _) (by rw [hw0]; exact Nat.le_of_ble_eq_true rfl) (Nat.le_refl _) (Nat.le_refl _) ?_
      exact ⟨_, by rw [hps], rfl⟩
    ·
      exact absurd (by rw [Int32.le_iff_toInt_le, hs, nI_toInt (by omega)]; omega) c_21
  | succ f ih =>
    intro e Lc x5 x6 x7 hf hek hmod he1 he2 hi
    have hs := sub_toInt (e := e) (n := n) (by omega) (by omega)
    have go : (∀ j, j < e → j < k → fitA q n B L r j) → e < n + k → ∀ Lc2, V tO MX12_isPossible (d, 0, 0) w0 (fun v w' => ∃ Lk', v = some (.int (bI (psB q n B L k r))) ∧ w' = [obM m0 A q n cut rows kq kn kc kr kt cu cv ck rm mo bo ki wa wr fo fd wn yw, (A 0, aZ 256 (hdF B)), (A 3, aI 40 R), (A 11, aI 5 Lk')]) (0, 0) [obM m0 A q n cut rows kq kn kc kr kt cu cv ck rm mo bo ki wa wr fo fd wn yw, (A 0, aZ 256 (hdF B)), (A 3, aI 40 R), (A 11, aI 5 Lc2)] 112 [some (.ref m0), some (.int (nI r)), some (.int (nI k)), some (.int (bI true)), some (.int (nI e - nI n)), some (.int (nI (e - n))), some (.int (nI (min k e))), none] [.int (bI true)] := by
      intro hall hek2 Lc2
      refine V_istore_n dX12_isPossible_112 (by decide) rfl ?_
      refine V_iload dX12_isPossible_113 rfl ?_
      refine V_aload_n dX12_isPossible_115 rfl ?_
      refine V_get 0 dX12_isPossible_116 fX12_isPossible_15 rfl rfl ?_
      refine V_iadd dX12_isPossible_119 ?_
      refine V_to (show nI e - nI n + nI n = nI (e + n) - nI n by rw [Int32.sub_add_cancel, ← nI_add, Int32.add_sub_cancel]) ?_
      refine V_istore dX12_isPossible_120 (by decide) rfl ?_
      refine V_goto 18 dX12_isPossible_122 (by decide) ?_
      refine V_wk _ (by exact ⟨rfl, rfl, rfl, rfl, rfl, trivial, trivial, trivial, trivial⟩) (ih (e + n) Lc2 none none none (by omega) (by omega) ?_ (by omega) (by omega) (fun j hj hjk => hall j (by omega) hjk))
      rw [show e + n + (n - r) = e + (n - r) + n by omega, Nat.add_mod_right]
      exact hmod
    have bad : psB q n B L k r = false → ∀ Lc2, V tO MX12_isPossible (d, 0, 0) w0 (fun v w' => ∃ Lk', v = some (.int (bI (psB q n B L k r))) ∧ w' = [obM m0 A q n cut rows kq kn kc kr kt cu cv ck rm mo bo ki wa wr fo fd wn yw, (A 0, aZ 256 (hdF B)), (A 3, aI 40 R), (A 11, aI 5 Lk')]) (0, 0) [obM m0 A q n cut rows kq kn kc kr kt cu cv ck rm mo bo ki wa wr fo fd wn yw, (A 0, aZ 256 (hdF B)), (A 3, aI 40 R), (A 11, aI 5 Lc2)] 112 [some (.ref m0), some (.int (nI r)), some (.int (nI k)), some (.int (bI true)), some (.int (nI e - nI n)), some (.int (nI (e - n))), some (.int (nI (min k e))), none] [.int (bI false)] := by
      intro hps Lc2
      refine V_istore_n dX12_isPossible_112 (by decide) rfl ?_
      refine V_iload dX12_isPossible_113 rfl ?_
      refine V_aload_n dX12_isPossible_115 rfl ?_
      refine V_get 0 dX12_isPossible_116 fX12_isPossible_15 rfl rfl ?_
      refine V_iadd dX12_isPossible_119 ?_
      refine V_istore dX12_isPossible_120 (by decide) rfl ?_
      refine V_goto 18 dX12_isPossible_122 (by decide) ?_
      refine V_iload dX12_isPossible_18 rfl ?_
      refine V_iload_n dX12_isPossible_20 rfl ?_
      refine V_icmp_ge 125 dX12_isPossible_21 (by decide) (fun c_21 => ?_) (fun c_21 => ?_)
      ·
        refine V_iload_n dX12_isPossible_125 rfl ?_
        refine V_zret dX12_isPossible_126 rfl (by first | exact Or.inl rfl | exact Or.inr rfl | exact bI_or _) (by rw [hw0]; exact Nat.le_of_ble_eq_true rfl) (Nat.le_refl _) (Nat.le_refl _) ?_
        exact ⟨_, by rw [hps], rfl⟩
      ·
        refine V_iload_n dX12_isPossible_24 rfl ?_
        first | refine V_if_eq_B 125 dX12_isPossible_25 (by decide) (fun c_25 => ?_) (fun c_25 => ?_) | refine V_if_eq_N 125 dX12_isPossible_25 (by decide) (by omega) (fun c_25 => ?_) (fun c_25 => ?_) | refine V_if_eq 125 dX12_isPossible_25 (by decide) (fun c_25 => ?_) (fun c_25 => ?_)
        ·
          refine V_iload_n dX12_isPossible_125 rfl ?_
          refine V_zret dX12_isPossible_126 rfl (by first | exact Or.inl rfl | exact Or.inr rfl | exact bI_or _) (by rw [hw0]; exact Nat.le_of_ble_eq_true rfl) (Nat.le_refl _) (Nat.le_refl _) ?_
          exact ⟨_, by rw [hps], rfl⟩
        ·
          cases c_25
    have i2 : e < n + k → ∀ Lc2, (∀ i, i < min k e - (e - n) → Lc2 i = nI (L (e - n + i))) → V tO MX12_isPossible (d, 0, 0) w0 (fun v w' => ∃ Lk', v = some (.int (bI (psB q n B L k r))) ∧ w' = [obM m0 A q n cut rows kq kn kc kr kt cu cv ck rm mo bo ki wa wr fo fd wn yw, (A 0, aZ 256 (hdF B)), (A 3, aI 40 R), (A 11, aI 5 Lk')]) (0, 0) [obM m0 A q n cut rows kq kn kc kr kt cu cv ck rm mo bo ki wa wr fo fd wn yw, (A 0, aZ 256 (hdF B)), (A 3, aI 40 R), (A 11, aI 5 Lc2)] 83 [some (.ref m0), some (.int (nI r)), some (.int (nI k)), some (.int (bI true)), some (.int (nI e - nI n)), some (.int (nI (e - n))), some (.int (nI (min k e))), none] [] := by
      intro hek2 Lc2 hc2
      refine V_iload dX12_isPossible_83 rfl ?_
      refine V_iload dX12_isPossible_85 rfl ?_
      refine V_icmp_le_N 107 dX12_isPossible_87 (by decide) (by omega) (by omega) (fun c_87 => ?_) (fun c_87 => ?_)
      ·
        refine V_iconst (v := bI true) dX12_isPossible_107 (show Int32.ofInt 1 = bI true by decide) (V_goto 112 dX12_isPossible_108 (by decide) ?_)
        exact go (fun j h1 h2 => hi j (by omega) h2) hek2 Lc2
      ·
        refine V_aload_n dX12_isPossible_90 rfl ?_
        refine V_iload dX12_isPossible_91 rfl ?_
        refine V_iload dX12_isPossible_93 rfl ?_
        refine V_isub dX12_isPossible_95 ?_
        refine V_to (sub_sub' (by omega) (by omega)) ?_
        refine V_iload dX12_isPossible_96 rfl ?_
        refine V_iload dX12_isPossible_98 rfl ?_
        first | refine V_isub_N dX12_isPossible_100 (by omega) ?_ | refine V_isub dX12_isPossible_100 ?_
        refine V_callVpi2 [0, 1, 3] (s_X12_isThere (d := d - 1) (by omega) h hB (l := fun i => L (e - n + i)) (by omega) (fun i hi => ⟨hc2 i hi, by have := (hL (e - n + i) (by omega)).2; omega⟩)) gX12_isPossible_X12_isThere dX12_isPossible_101 oX12_isThere rfl rfl rfl rfl (Nat.le_of_ble_eq_true rfl) (by omega) ⟨Nat.le_refl _, Nat.le_refl _⟩ ?_
        first | refine V_if_eq_B 111 dX12_isPossible_104 (by decide) (fun c_104 => ?_) (fun c_104 => ?_) | refine V_if_eq_N 111 dX12_isPossible_104 (by decide) (by omega) (fun c_104 => ?_) (fun c_104 => ?_) | refine V_if_eq 111 dX12_isPossible_104 (by decide) (fun c_104 => ?_) (fun c_104 => ?_)
        ·
          refine V_iconst (v := bI false) dX12_isPossible_111 (show Int32.ofInt 0 = bI false by decide) ?_
          refine bad (psB_f (j := e - n + (min k e - (e - n) - 1)) (by omega) (fun hh => ?_)) Lc2
          have hth := (fit_th h hr hmod he1 (by omega) (fun k2 hk2 => (hL _ (by omega)).2)).mp hh
          rw [show min k e - (e - n) - 1 + 1 = min k e - (e - n) by omega] at hth
          exact dB_f.mp c_104 hth
        ·
          refine V_iconst (v := bI true) dX12_isPossible_107 (show Int32.ofInt 1 = bI true by decide) (V_goto 112 dX12_isPossible_108 (by decide) ?_)
          refine go (fun j h1 h2 => ?_) hek2 Lc2
          rcases Nat.lt_or_ge j (e - n) with q1 | q1
          · exact hi j q1 h2
          · rw [show j = e - n + (j - (e - n)) by omega]
            exact (fit_th h hr hmod he1 (by omega) (fun k2 hk2 => (hL _ (by omega)).2)).mpr (thP_less (dB_t.mp c_104) (by omega))
    refine V_iload dX12_isPossible_18 rfl ?_
    refine V_iload_n dX12_isPossible_20 rfl ?_
    refine V_icmp_ge 125 dX12_isPossible_21 (by decide) (fun c_21 => ?_) (fun c_21 => ?_)
    ·
      rw [Int32.le_iff_toInt_le, hs, nI_toInt (by omega)] at c_21
      have hps : psB q n B L k r = true := psB_t (fun j hj => hi j (by omega) hj)
      refine V_iload_n dX12_isPossible_125 rfl ?_
      refine V_zret dX12_isPossible_126 rfl (by first | exact Or.inl rfl | exact Or.inr rfl | exact bI_or _) (by rw [hw0]; exact Nat.le_of_ble_eq_true rfl) (Nat.le_refl _) (Nat.le_refl _) ?_
      exact ⟨_, by rw [hps], rfl⟩
    ·
      rw [Int32.le_iff_toInt_le, hs, nI_toInt (by omega)] at c_21
      refine V_iload_n dX12_isPossible_24 rfl ?_
      first | refine V_if_eq_B 125 dX12_isPossible_25 (by decide) (fun c_25 => ?_) (fun c_25 => ?_) | refine V_if_eq_N 125 dX12_isPossible_25 (by decide) (by omega) (fun c_25 => ?_) (fun c_25 => ?_) | refine V_if_eq 125 dX12_isPossible_25 (by decide) (fun c_25 => ?_) (fun c_25 => ?_)
      ·
        cases c_25
      ·
        refine V_iconst (v := nI 0) dX12_isPossible_28 (by decide) ?_
        refine V_iload dX12_isPossible_29 rfl ?_
        refine V_mmax dX12_isPossible_31 mmX12_isPossible_216 (by omega) (Nat.le_of_ble_eq_true rfl) (Nat.le_refl _) (Nat.le_refl _) ?_
        refine V_to (sub_max (by omega) (by omega)) ?_
        refine V_istore dX12_isPossible_34 (by decide) rfl ?_
        refine V_iload_n dX12_isPossible_36 rfl ?_
        refine V_iload dX12_isPossible_37 rfl ?_
        refine V_aload_n dX12_isPossible_39 rfl ?_
        refine V_get 0 dX12_isPossible_40 fX12_isPossible_15 rfl rfl ?_
        refine V_iadd dX12_isPossible_43 ?_
        refine V_to (Int32.sub_add_cancel _ _) ?_
        first | refine V_mmin_N dX12_isPossible_44 mmX12_isPossible_140 (by omega) (Nat.le_of_ble_eq_true rfl) (Nat.le_refl _) (Nat.le_refl _) (by omega) (by omega) ?_ | refine V_mmin dX12_isPossible_44 mmX12_isPossible_140 (by omega) (Nat.le_of_ble_eq_true rfl) (Nat.le_refl _) (Nat.le_refl _) ?_
        refine V_istore dX12_isPossible_47 (by decide) rfl ?_
        refine V_iload dX12_isPossible_49 rfl ?_
        refine V_istore dX12_isPossible_51 (by decide) rfl ?_
        exact l_X12_isPossible2 hk hm (Nat.min_le_left _ _) (by omega) hL (i2 (by omega)) (min k e - (e - n)) (e - n) Lc (by omega) (Nat.le_refl _) (fun i hi => absurd hi (by omega))
theorem s_X12_isPossible (hd : 4 ≤ d) (h : OKq q n) (hB : ∀ w, B w = true → w < q ^ n) {r k : Nat} {L : Nat → Nat} (hk : k ≤ cut) (hm : cut ≤ 40) (hr : r < n) (hL : RwOK q cut R L) : Sp tO MX12_isPossible (d, 0, 0) [.ref m0, .int (nI r), .int (nI k)] [obM m0 A q n cut rows kq kn kc kr kt cu cv ck rm mo bo ki wa wr fo fd wn yw, (A 0, aZ 256 (hdF B)), (A 3, aI 40 R), (A 11, aI 5 Lk)] (fun v w' => ∃ Lk', v = some (.int (bI (psB q n B L k r))) ∧ w' = [obM m0 A q n cut rows kq kn kc kr kt cu cv ck rm mo bo ki wa wr fo fd wn yw, (A 0, aZ 256 (hdF B)), (A 3, aI 40 R), (A 11, aI 5 Lk')]) := by
  refine eX12_isPossible [some (.ref m0), some (.int (nI r)), some (.int (nI k)), none, none, none, none, none] rfl (Nat.le_of_ble_eq_true rfl) ?_
  have hn5 := h.2.2.2.1
  have hn1 := h.2.2.1
  refine V_iconst (v := bI true) dX12_isPossible_0 (show Int32.ofInt 1 = bI true by decide) ?_
  refine V_istore_n dX12_isPossible_1 (by decide) rfl ?_
  refine V_iload_n dX12_isPossible_2 rfl ?_
  first | refine V_if_le_N 15 dX12_isPossible_3 (by decide) (by omega) (fun c_3 => ?_) (fun c_3 => ?_) | refine V_if_le 15 dX12_isPossible_3 (by decide) (fun c_3 => ?_) (fun c_3 => ?_)
  ·
    refine V_iconst (v := nI n - nI n) dX12_isPossible_15 (by rw [Int32.sub_self]; decide) ?_
    refine V_istore dX12_isPossible_16 (by decide) rfl ?_
    first
    | exact l_X12_isPossible1 hd h hB hk hm hr hL rfl (n + k) n Lk none none none (by omega) (by omega) (by rw [c_3, Nat.sub_zero, Nat.add_mod_right, Nat.mod_self]) (by omega) (by omega) (fun j hj => absurd hj (by omega))
    | exact l_X12_isPossible1 hd h hB hk hm hr hL rfl (n + k) r Lk none none none (by omega) (by omega) (by rw [show r + (n - r) = n by omega, Nat.mod_self]) (fun _ => rfl) (by omega) (fun j hj => absurd hj (by omega))
  ·
    refine V_iload_n dX12_isPossible_6 rfl ?_
    refine V_aload_n dX12_isPossible_7 rfl ?_
    refine V_get 0 dX12_isPossible_8 fX12_isPossible_15 rfl rfl ?_
    refine V_isub dX12_isPossible_11 ?_
    refine V_goto 16 dX12_isPossible_12 (by decide) ?_
    refine V_istore dX12_isPossible_16 (by decide) rfl ?_
    first
    | exact l_X12_isPossible1 hd h hB hk hm hr hL rfl (n + k) n Lk none none none (by omega) (by omega) (by rw [c_3, Nat.sub_zero, Nat.add_mod_right, Nat.mod_self]) (by omega) (by omega) (fun j hj => absurd hj (by omega))
    | exact l_X12_isPossible1 hd h hB hk hm hr hL rfl (n + k) r Lk none none none (by omega) (by omega) (by rw [show r + (n - r) = n by omega, Nat.mod_self]) (fun _ => rfl) (by omega) (fun j hj => absurd hj (by omega))
theorem l_X12_possibleOf (hd : 5 ≤ d) (h : OKq q n) (hB : ∀ w, B w = true → w < q ^ n) {k : Nat} {L : Nat → Nat} (hk : k ≤ cut) (hm : cut ≤ 40) (hL : RwOK q cut R L) {w0 : zW} (hw0 : w0.length = 4) : ∀ (f r : Nat) (Lc : Nat → Int32), r + f = n → V tO MX12_possibleOf (d, 0, 0) w0 (fun v w' => ∃ Lk', v = some (.int (nI (psN q n B L k))) ∧ w' = [obM m0 A q n cut rows kq kn kc kr kt cu cv ck rm mo bo ki wa wr fo fd wn yw, (A 0, aZ 256 (hdF B)), (A 3, aI 40 R), (A 11, aI 5 Lk')]) (0, 0) [obM m0 A q n cut rows kq kn kc kr kt cu cv ck rm mo bo ki wa wr fo fd wn yw, (A 0, aZ 256 (hdF B)), (A 3, aI 40 R), (A 11, aI 5 Lc)] 4 [some (.ref m0), some (.int (nI k)), some (.int (nI (btN (psB q n B L k) r))), some (.int (nI r))] [] := by
  have hn5 := h.2.2.2.1
  intro f
  induction f with
  | zero =>
    intro r Lc hr
    have e : r = n := by omega
    subst e
    refine V_iload_n dX12_possibleOf_4 rfl ?_
    refine V_aload_n dX12_possibleOf_5 rfl ?_
    refine V_get 0 dX12_possibleOf_6 fX12_possibleOf_15 rfl rfl ?_
    refine V_icmp_ge_N 37 dX12_possibleOf_9 (by decide) (by omega) (by omega) (fun c_9 => ?_) (fun c_9 => absurd c_9 (by omega))
    refine V_iload_n dX12_possibleOf_37 rfl ?_
    refine V_iret dX12_possibleOf_38 rfl (by rw [hw0]; exact Nat.le_of_ble_eq_true rfl) (Nat.le_refl _) (Nat.le_refl _) ?_
    exact ⟨_, rfl, rfl⟩
  | succ f ih =>
    intro r Lc hr
    refine V_iload_n dX12_possibleOf_4 rfl ?_
    refine V_aload_n dX12_possibleOf_5 rfl ?_
    refine V_get 0 dX12_possibleOf_6 fX12_possibleOf_15 rfl rfl ?_
    refine V_icmp_ge_N 37 dX12_possibleOf_9 (by decide) (by omega) (by omega) (fun c_9 => absurd c_9 (by omega)) (fun c_9 => ?_)
    refine V_iload_n dX12_possibleOf_12 rfl ?_
    refine V_aload_n dX12_possibleOf_13 rfl ?_
    refine V_iload_n dX12_possibleOf_14 rfl ?_
    refine V_iload_n dX12_possibleOf_15 rfl ?_
    refine V_callV2 [0, 1, 2, 3] (s_X12_isPossible (d := d - 1) (by omega) h hB hk hm (by omega) hL) gX12_possibleOf_X12_isPossible dX12_possibleOf_16 oX12_isPossible rfl rfl rfl rfl (Nat.le_of_ble_eq_true rfl) (by omega) ⟨Nat.le_refl _, Nat.le_refl _⟩ ?_
    rintro _ _ ⟨Lk', rfl, rfl⟩
    simp only [zput_n, zput_c, zset_0, zset_1, zset_2, zset_3, Option.toList, List.cons_append, List.nil_append]
    have i1 := ih (r + 1) Lk' (by omega)
    rw [btN] at i1
    first | refine V_if_eq_B 28 dX12_possibleOf_19 (by decide) (fun c_19 => ?_) (fun c_19 => ?_) | refine V_if_eq_N 28 dX12_possibleOf_19 (by decide) (by omega) (fun c_19 => ?_) (fun c_19 => ?_) | refine V_if_eq 28 dX12_possibleOf_19 (by decide) (fun c_19 => ?_) (fun c_19 => ?_)
    ·
      rw [c_19, if_neg Bool.false_ne_true] at i1
      refine V_iconst (v := nI 0) dX12_possibleOf_28 (by decide) ?_
      refine V_ior dX12_possibleOf_29 ?_
      refine V_to (show nI (btN (psB q n B L k) r) ||| nI 0 = nI (btN (psB q n B L k) r) by rw [nI_or, Nat.or_zero]) ?_
      refine V_istore_n dX12_possibleOf_30 (by decide) rfl ?_
      refine V_iinc_N (i := 1) dX12_possibleOf_31 rfl (by decide) rfl ?_
      refine V_goto 4 dX12_possibleOf_34 (by decide) ?_
      exact i1
    ·
      rw [c_19, if_pos rfl] at i1
      refine V_iconst (v := nI 1) dX12_possibleOf_22 (by decide) ?_
      refine V_iload_n dX12_possibleOf_23 rfl ?_
      refine V_ishl dX12_possibleOf_24 ?_
      refine V_to (nI_shl1 r (by omega)) ?_
      refine V_goto 29 dX12_possibleOf_25 (by decide) ?_
      refine V_ior dX12_possibleOf_29 ?_
      refine V_to btN_or ?_
      refine V_istore_n dX12_possibleOf_30 (by decide) rfl ?_
      first | refine V_iinc_N (i := 1) dX12_possibleOf_31 rfl (by decide) rfl ?_ | refine V_iinc dX12_possibleOf_31 rfl rfl (by decide) rfl ?_
      refine V_goto 4 dX12_possibleOf_34 (by decide) ?_
      exact i1
theorem s_X12_possibleOf (hd : 5 ≤ d) (h : OKq q n) (hB : ∀ w, B w = true → w < q ^ n) {k : Nat} {L : Nat → Nat} (hk : k ≤ cut) (hm : cut ≤ 40) (hL : RwOK q cut R L) : Sp tO MX12_possibleOf (d, 0, 0) [.ref m0, .int (nI k)] [obM m0 A q n cut rows kq kn kc kr kt cu cv ck rm mo bo ki wa wr fo fd wn yw, (A 0, aZ 256 (hdF B)), (A 3, aI 40 R), (A 11, aI 5 Lk)] (fun v w' => ∃ Lk', v = some (.int (nI (psN q n B L k))) ∧ w' = [obM m0 A q n cut rows kq kn kc kr kt cu cv ck rm mo bo ki wa wr fo fd wn yw, (A 0, aZ 256 (hdF B)), (A 3, aI 40 R), (A 11, aI 5 Lk')]) := by
  refine eX12_possibleOf [some (.ref m0), some (.int (nI k)), none, none] rfl (Nat.le_of_ble_eq_true rfl) ?_
  refine V_iconst (v := nI 0) dX12_possibleOf_0 (by decide) ?_
  refine V_istore_n dX12_possibleOf_1 (by decide) rfl ?_
  refine V_iconst (v := nI 0) dX12_possibleOf_2 (by decide) ?_
  refine V_istore_n dX12_possibleOf_3 (by decide) rfl ?_
  exact l_X12_possibleOf hd h hB hk hm hL rfl n 0 _ (by omega)
theorem s_X12_possible (hd : 6 ≤ d) (h : OKq q n) (hB : ∀ w, B w = true → w < q ^ n) {L : Nat → Nat} (hm : cut ≤ 40) (hL : RwOK q cut R L) {x : Int32} : Sp tO MX12_possible (d, 0, 0) [.ref m0, .int x] [obM m0 A q n cut rows kq kn kc kr kt cu cv ck rm mo bo ki wa wr fo fd wn yw, (A 0, aZ 256 (hdF B)), (A 3, aI 40 R), (A 11, aI 5 Lk)] (fun v w' => ∃ Lk', v = some (.int (poV q n B L cut x)) ∧ w' = [obM m0 A q n cut rows kq kn kc kr kt cu cv ck rm mo bo ki wa wr fo fd wn yw, (A 0, aZ 256 (hdF B)), (A 3, aI 40 R), (A 11, aI 5 Lk')]) := by
  refine eX12_possible [some (.ref m0), some (.int x)] rfl (Nat.le_of_ble_eq_true rfl) ?_
  unfold poV
  refine V_iload_n dX12_possible_0 rfl ?_
  refine V_i2l dX12_possible_1 ?_
  refine V_lconst (v := 0) dX12_possible_2 (by decide) ?_
  refine V_aload_n dX12_possible_3 rfl ?_
  refine V_get 0 dX12_possible_4 fX12_possible_95 rfl rfl ?_
  refine V_i2l dX12_possible_7 ?_
  refine V_callSpi3 [] (s_X12_isInK (d := d - 1) (by omega) (k := cut) (by rw [Int32.toInt_toInt64, nI_toInt (by omega)])) gX12_possible_X12_isIn dX12_possible_8 oX12_isIn rfl rfl (Nat.le_of_ble_eq_true rfl) (by omega) ⟨Nat.le_refl _, Nat.le_refl _⟩ ?_
  first | refine V_if_eq_B 22 dX12_possible_11 (by decide) (fun c_11 => ?_) (fun c_11 => ?_) | refine V_if_eq_N 22 dX12_possible_11 (by decide) (by omega) (fun c_11 => ?_) (fun c_11 => ?_) | refine V_if_eq 22 dX12_possible_11 (by decide) (fun c_11 => ?_) (fun c_11 => ?_)
  ·
    rw [c_11]
    refine V_bipush (v := (-2)) dX12_possible_22 (by decide) ?_
    refine V_iret dX12_possible_24 rfl (Nat.le_of_ble_eq_true rfl) (Nat.le_refl _) (Nat.le_refl _) ?_
    exact ⟨_, rfl, rfl⟩
  ·
    rw [c_11, if_pos rfl]
    obtain ⟨c, hc, rfl⟩ := isW_of c_11
    rw [toNat_nI (by omega)]
    refine V_aload_n dX12_possible_14 rfl ?_
    refine V_iload_n dX12_possible_15 rfl ?_
    refine V_callV1 [0, 1, 2, 3] (s_X12_possibleOf (d := d - 1) (by omega) h hB (by omega) hm hL) gX12_possible_X12_possibleOf dX12_possible_16 oX12_possibleOf rfl rfl rfl rfl (Nat.le_of_ble_eq_true rfl) (by omega) ⟨Nat.le_refl _, Nat.le_refl _⟩ ?_
    rintro _ _ ⟨Lk', rfl, rfl⟩
    simp only [zput_n, zput_c, zset_0, zset_1, zset_2, zset_3, Option.toList, List.cons_append, List.nil_append]
    refine V_goto 24 dX12_possible_19 (by decide) ?_
    refine V_iret dX12_possible_24 rfl (Nat.le_of_ble_eq_true rfl) (Nat.le_refl _) (Nat.le_refl _) ?_
    exact ⟨_, rfl, rfl⟩
theorem l_X12_certain2 {a : Nat} (ha : a < 5) {w0 : zW} {Q : zPo} {x1 x2 : Int32} (next : V tO MX12_certain (d, 0, 0) w0 Q (0, 0) [obM m0 A q n cut rows kq kn kc kr kt cu cv ck rm mo bo ki wa wr fo fd wn yw, (A 0, aZ 256 (hdF B)), (A 3, aI 40 R), (A 11, aI 5 Lk)] 57 [some (.ref m0), some (.int x1), some (.int x2), some (.int (nI (2 ^ a))), some (.int (nI a))] []) : ∀ (f r : Nat), r + f = a → V tO MX12_certain (d, 0, 0) w0 Q (0, 0) [obM m0 A q n cut rows kq kn kc kr kt cu cv ck rm mo bo ki wa wr fo fd wn yw, (A 0, aZ 256 (hdF B)), (A 3, aI 40 R), (A 11, aI 5 Lk)] 43 [some (.ref m0), some (.int x1), some (.int x2), some (.int (nI (2 ^ a))), some (.int (nI r))] [] := by
  intro f
  induction f with
  | zero =>
    intro r hr
    have e : r = a := by omega
    subst e
    have e2 : 2 ^ r / 2 ^ r = 1 := Nat.div_self (Nat.pow_pos (by decide))
    refine V_iload_n dX12_certain_43 rfl ?_
    refine V_iload dX12_certain_44 rfl ?_
    refine V_ishr dX12_certain_46 ?_
    refine V_to (shr_pw r ha r (by omega)) ?_
    refine V_iconst (v := nI 1) dX12_certain_47 (by decide) ?_
    refine V_icmp_eq_N 57 dX12_certain_48 (by decide) (by omega) (by decide) (fun c_48 => ?_) (fun c_48 => absurd e2 c_48)
    exact next
  | succ f ih =>
    intro r hr
    have e2 := shr_pw1 a ha r (by omega)
    have e3 : 2 ^ a / 2 ^ r ≤ 16 := Nat.le_trans (Nat.div_le_self _ _) (Nat.pow_le_pow_right (by decide) (show a ≤ 4 by omega))
    refine V_iload_n dX12_certain_43 rfl ?_
    refine V_iload dX12_certain_44 rfl ?_
    refine V_ishr dX12_certain_46 ?_
    refine V_to (shr_pw a ha r (by omega)) ?_
    refine V_iconst (v := nI 1) dX12_certain_47 (by decide) ?_
    refine V_icmp_eq_N 57 dX12_certain_48 (by decide) (by omega) (by decide) (fun c_48 => absurd c_48 e2) (fun c_48 => ?_)
    first | refine V_iinc_N (i := 1) dX12_certain_51 rfl (by decide) rfl ?_ | refine V_iinc dX12_certain_51 rfl rfl (by decide) rfl ?_
    refine V_goto 43 dX12_certain_54 (by decide) ?_
    exact ih (r + 1) (by omega)
theorem l_X12_certain (hd : 6 ≤ d) (h : OKq q n) (hB : ∀ w, B w = true → w < q ^ n) {L : Nat → Nat} (hm : cut ≤ 40) (hL : RwOK q cut R L) {c : Nat} (hc : c < 2) {w0 : zW} (hw0 : w0.length = 4) : ∀ (f k : Nat) (Lc : Nat → Int32), k + f = cut + 1 → 1 ≤ k → (∀ k', 1 ≤ k' → k' < k → ∀ r, r < n → psN q n B L k' ≠ 2 ^ r) → V tO MX12_certain (d, 0, 0) w0 (fun v w' => ∃ Lk', v = some (.int (crV q n B L cut (nI c))) ∧ w' = [obM m0 A q n cut rows kq kn kc kr kt cu cv ck rm mo bo ki wa wr fo fd wn yw, (A 0, aZ 256 (hdF B)), (A 3, aI 40 R), (A 11, aI 5 Lk')]) (0, 0) [obM m0 A q n cut rows kq kn kc kr kt cu cv ck rm mo bo ki wa wr fo fd wn yw, (A 0, aZ 256 (hdF B)), (A 3, aI 40 R), (A 11, aI 5 Lc)] 14 [some (.ref m0), some (.int (nI c)), some (.int (nI k)), none, none] [] := by
  have hn5 := h.2.2.2.1
  have hcw : isW 2 (nI c) = true := by rw [isW_nI (by omega)]; exact decide_eq_true hc
  intro f
  induction f with
  | zero =>
    intro k Lc hk hk1 hno
    have e : crV q n B L cut (nI c) = -5 := by
      unfold crV
      rw [hcw, if_pos rfl, if_neg (show ¬ dB _ = true from fun hh => ?_)]
      obtain ⟨t, t1, t2, t3, t4, -⟩ := dB_t.mp hh
      exact hno t.1 t1 (by omega) t.2 t3 t4
    rw [e]
    refine V_iload_n dX12_certain_14 rfl ?_
    refine V_aload_n dX12_certain_15 rfl ?_
    refine V_get 0 dX12_certain_16 fX12_certain_95 rfl rfl ?_
    refine V_icmp_gt_N 74 dX12_certain_19 (by decide) (by omega) (by omega) (fun c_19 => ?_) (fun c_19 => absurd c_19 (by omega))
    refine V_bipush (v := (-5)) dX12_certain_74 (by decide) ?_
    refine V_iret dX12_certain_76 rfl (by rw [hw0]; exact Nat.le_of_ble_eq_true rfl) (Nat.le_refl _) (Nat.le_refl _) ?_
    exact ⟨_, rfl, rfl⟩
  | succ f ih =>
    intro k Lc hk hk1 hno
    have hb1 := psN_lt q n B L k
    have hb2 : 2 ^ n ≤ 32 := Nat.pow_le_pow_right (by decide) hn5
    have hb3 : psN q n B L k &&& (psN q n B L k - 1) ≤ psN q n B L k := Nat.and_le_left
    have nx : (∀ r, r < n → psN q n B L k ≠ 2 ^ r) → ∀ k', 1 ≤ k' → k' < k + 1 → ∀ r, r < n → psN q n B L k' ≠ 2 ^ r := by
      intro h1 k' h2 h3 r h4
      by_cases e : k' = k
      · subst e; exact h1 r h4
      · exact hno k' h2 (by omega) r h4
    refine V_iload_n dX12_certain_14 rfl ?_
    refine V_aload_n dX12_certain_15 rfl ?_
    refine V_get 0 dX12_certain_16 fX12_certain_95 rfl rfl ?_
    refine V_icmp_gt_N 74 dX12_certain_19 (by decide) (by omega) (by omega) (fun c_19 => absurd c_19 (by omega)) (fun c_19 => ?_)
    refine V_aload_n dX12_certain_22 rfl ?_
    refine V_iload_n dX12_certain_23 rfl ?_
    refine V_callV1 [0, 1, 2, 3] (s_X12_possibleOf (d := d - 1) (by omega) h hB (by omega) hm hL) gX12_certain_X12_possibleOf dX12_certain_24 oX12_possibleOf rfl rfl rfl rfl (Nat.le_of_ble_eq_true rfl) (by omega) ⟨Nat.le_refl _, Nat.le_refl _⟩ ?_
    rintro _ _ ⟨Lk', rfl, rfl⟩
    simp only [zput_n, zput_c, zset_0, zset_1, zset_2, zset_3, Option.toList, List.cons_append, List.nil_append]
    refine V_istore_n dX12_certain_27 (by decide) rfl ?_
    refine V_iload_n dX12_certain_28 rfl ?_
    refine V_if_eq_N 68 dX12_certain_29 (by decide) (by omega) (fun c_29 => ?_) (fun c_29 => ?_)
    ·
      have i1 := ih (k + 1) Lk' (by omega) (by omega) (nx (fun r hr => by rw [c_29]; have := Nat.pow_pos (a := 2) (n := r) (by decide); omega))
      first | refine V_iinc_N (i := 1) dX12_certain_68 rfl (by decide) rfl ?_ | refine V_iinc dX12_certain_68 rfl rfl (by decide) rfl ?_
      refine V_goto 14 dX12_certain_71 (by decide) ?_
      exact V_wk _ (by exact ⟨rfl, rfl, rfl, trivial, trivial, trivial⟩) i1
    ·
      refine V_iload_n dX12_certain_32 rfl ?_
      refine V_iload_n dX12_certain_33 rfl ?_
      refine V_iconst (v := nI 1) dX12_certain_34 (by decide) ?_
      first | refine V_isub_N dX12_certain_35 (by omega) ?_ | refine V_isub dX12_certain_35 ?_
      refine V_iand dX12_certain_36 ?_
      refine V_to (and_m1 _ (by omega)) ?_
      refine V_if_ne_N 68 dX12_certain_37 (by decide) (by omega) (fun c_37 => ?_) (fun c_37 => ?_)
      ·
        have i1 := ih (k + 1) Lk' (by omega) (by omega) (nx (fun r hr e => by rw [e, pw_and r (by omega)] at c_37; omega))
        first | refine V_iinc_N (i := 1) dX12_certain_68 rfl (by decide) rfl ?_ | refine V_iinc dX12_certain_68 rfl rfl (by decide) rfl ?_
        refine V_goto 14 dX12_certain_71 (by decide) ?_
        exact V_wk _ (by exact ⟨rfl, rfl, rfl, trivial, trivial, trivial⟩) i1
      ·
        obtain ⟨a, ha, hpa⟩ := and_pw _ (show psN q n B L k < 32 by omega) c_29 c_37
        rw [hpa]
        have han : a < n := by rw [hpa] at hb1; exact (Nat.pow_lt_pow_iff_right (by decide)).mp hb1
        have hcr : IsCr (psN q n B L) n cut k a := ⟨hk1, by omega, han, hpa, hno⟩
        have hex : dB (∃ t : Nat × Nat, IsCr (psN q n B L) n cut t.1 t.2) = true := dB_t.mpr ⟨(k, a), hcr⟩
        obtain ⟨e1, e2⟩ := IsCr_uniq hcr (crT_is ⟨(k, a), hcr⟩)
        have e3 : crV q n B L cut (nI c) = nI (if c = 0 then k else a) := by unfold crV; rw [hcw, if_pos rfl, hex, if_pos rfl, toNat_nI (by omega), ← e1, ← e2]
        rw [e3]
        refine V_iconst (v := nI 0) dX12_certain_40 (by decide) ?_
        refine V_istore dX12_certain_41 (by decide) rfl ?_
        refine l_X12_certain2 ha ?_ a 0 (by omega)
        refine V_iload_n dX12_certain_57 rfl ?_
        refine V_if_ne_N 65 dX12_certain_58 (by decide) (by omega) (fun c_58 => ?_) (fun c_58 => ?_)
        · refine V_iload dX12_certain_65 rfl ?_
          refine V_iret dX12_certain_67 rfl (by rw [hw0]; exact Nat.le_of_ble_eq_true rfl) (Nat.le_refl _) (Nat.le_refl _) ?_
          exact ⟨_, by rw [if_neg (by omega)], rfl⟩
        · refine V_iload_n dX12_certain_61 rfl ?_
          refine V_goto 67 dX12_certain_62 (by decide) ?_
          refine V_iret dX12_certain_67 rfl (by rw [hw0]; exact Nat.le_of_ble_eq_true rfl) (Nat.le_refl _) (Nat.le_refl _) ?_
          exact ⟨_, by rw [if_pos c_58], rfl⟩
theorem s_X12_certain (hd : 6 ≤ d) (h : OKq q n) (hB : ∀ w, B w = true → w < q ^ n) {L : Nat → Nat} (hm : cut ≤ 40) (hL : RwOK q cut R L) {x : Int32} : Sp tO MX12_certain (d, 0, 0) [.ref m0, .int x] [obM m0 A q n cut rows kq kn kc kr kt cu cv ck rm mo bo ki wa wr fo fd wn yw, (A 0, aZ 256 (hdF B)), (A 3, aI 40 R), (A 11, aI 5 Lk)] (fun v w' => ∃ Lk', v = some (.int (crV q n B L cut x)) ∧ w' = [obM m0 A q n cut rows kq kn kc kr kt cu cv ck rm mo bo ki wa wr fo fd wn yw, (A 0, aZ 256 (hdF B)), (A 3, aI 40 R), (A 11, aI 5 Lk')]) := by
  refine eX12_certain [some (.ref m0), some (.int x), none, none, none] rfl (Nat.le_of_ble_eq_true rfl) ?_
  refine V_iload_n dX12_certain_0 rfl ?_
  refine V_i2l dX12_certain_1 ?_
  refine V_lconst (v := 0) dX12_certain_2 (by decide) ?_
  refine V_lconst (v := 1) dX12_certain_3 (by decide) ?_
  refine V_callSpi3 [] (s_X12_isInK (d := d - 1) (by omega) (k := 1) (by decide)) gX12_certain_X12_isIn dX12_certain_4 oX12_isIn rfl rfl (Nat.le_of_ble_eq_true rfl) (by omega) ⟨Nat.le_refl _, Nat.le_refl _⟩ ?_
  first | refine V_if_ne_B 12 dX12_certain_7 (by decide) (fun c_7 => ?_) (fun c_7 => ?_) | refine V_if_ne_N 12 dX12_certain_7 (by decide) (by omega) (fun c_7 => ?_) (fun c_7 => ?_) | refine V_if_ne 12 dX12_certain_7 (by decide) (fun c_7 => ?_) (fun c_7 => ?_)
  ·
    obtain ⟨c, hc, rfl⟩ := isW_of c_7
    refine V_iconst (v := nI 1) dX12_certain_12 (by decide) ?_
    refine V_istore_n dX12_certain_13 (by decide) rfl ?_
    exact l_X12_certain hd h hB hm hL hc rfl cut 1 _ (by omega) (Nat.le_refl _) (fun k' h1 h2 => absurd h2 (by omega))
  ·
    unfold crV
    rw [c_7]
    refine V_iconst (v := -1) dX12_certain_10 (by decide) ?_
    refine V_iret dX12_certain_11 rfl (Nat.le_of_ble_eq_true rfl) (Nat.le_refl _) (Nat.le_refl _) ?_
    exact ⟨_, rfl, rfl⟩
end MDL6

