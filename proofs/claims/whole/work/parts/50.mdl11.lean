/-! the model: delay -/
noncomputable def nxP (q n : Nat) (B : Nat → Bool) (j r o : Nat) (S : Nat → Bool) (s c : Nat) : Nat → Bool := fun x => dB (∃ s' c', (s' < s ∨ s' = s ∧ c' < c) ∧ c' < q ∧ S s' = true ∧ stB q n B (q * s' + c') j r = true ∧ stB q n B (q * s' + c') j o = true ∧ (q * s' + c') % q ^ (n - 1) = x)
noncomputable def nxS (q n : Nat) (B : Nat → Bool) (j r o : Nat) (S : Nat → Bool) : Nat → Bool := nxP q n B j r o S (q ^ (n - 1)) 0
noncomputable def anB (N : Nat → Bool) : Bool := dB (∃ x, N x = true)
noncomputable def lgF (q n : Nat) (B : Nat → Bool) (r o : Nat) : Nat → Nat → (Nat → Bool) → Nat
  | 0, _, _ => 12
  | f + 1, j, S => if anB (nxS q n B j r o S) = true then lgF q n B r o f (j + 1) (nxS q n B j r o S) else j
def S0 : Nat → Bool := fun s => decide (s = 0)
noncomputable def dmI (q n : Nat) (B : Nat → Bool) (r : Nat) : Nat → Nat → Nat → Nat
  | 0, _, l => l
  | f + 1, o, l => dmI q n B r f (o + 1) (max l (lgF q n B r o 12 0 S0))
noncomputable def dmO (q n : Nat) (B : Nat → Bool) : Nat → Nat → Nat → Nat
  | 0, _, l => l
  | f + 1, r, l => dmO q n B f (r + 1) (dmI q n B r r 0 l)
theorem nxP_00 {q n j r o : Nat} {B S : Nat → Bool} : nxP q n B j r o S 0 0 = fun _ => false := by
  funext x
  exact dB_f.mpr (fun ⟨s', c', h, _⟩ => by omega)
theorem nxP_no {q n j r o s c : Nat} {B S : Nat → Bool} (h : ¬ (S s = true ∧ stB q n B (q * s + c) j r = true ∧ stB q n B (q * s + c) j o = true)) : nxP q n B j r o S s (c + 1) = nxP q n B j r o S s c := by
  funext x
  refine dB_iff ⟨fun ⟨s', c', h1, h2, h3, h4, h5, h6⟩ => ⟨s', c', ?_, h2, h3, h4, h5, h6⟩, fun ⟨s', c', h1, h2⟩ => ⟨s', c', by omega, h2⟩⟩
  by_cases e : s' = s ∧ c' = c
  · obtain ⟨rfl, rfl⟩ := e
    exact absurd ⟨h3, h4, h5⟩ h
  · omega
theorem nxP_yes {q n j r o s c : Nat} {B S : Nat → Bool} (hc : c < q) (h : S s = true ∧ stB q n B (q * s + c) j r = true ∧ stB q n B (q * s + c) j o = true) : nxP q n B j r o S s (c + 1) = insB (nxP q n B j r o S s c) ((q * s + c) % q ^ (n - 1)) := by
  funext x
  apply Bool.eq_iff_iff.mpr
  rw [insB_iff]
  unfold nxP
  rw [dB_t, dB_t]
  constructor
  · rintro ⟨s', c', h1, h2, h3, h4, h5, h6⟩
    by_cases e : s' = s ∧ c' = c
    · obtain ⟨rfl, rfl⟩ := e
      exact Or.inr h6.symm
    · exact Or.inl ⟨s', c', by omega, h2, h3, h4, h5, h6⟩
  · rintro (⟨s', c', h1, h2⟩ | e)
    · exact ⟨s', c', by omega, h2⟩
    · exact ⟨s, c, by omega, hc, h.1, h.2.1, h.2.2, e.symm⟩
theorem nxP_end {q n j r o s : Nat} {B S : Nat → Bool} : nxP q n B j r o S s q = nxP q n B j r o S (s + 1) 0 := by
  funext x
  refine dB_iff ⟨fun ⟨s', c', h1, h2, h3⟩ => ⟨s', c', by omega, h2, h3⟩, fun ⟨s', c', h1, h2, h3⟩ => ⟨s', c', by omega, h2, h3⟩⟩
theorem nxP_skip {q n j r o s c : Nat} {B S : Nat → Bool} (h : S s = false) : nxP q n B j r o S s c = nxP q n B j r o S (s + 1) 0 := by
  funext x
  refine dB_iff ⟨fun ⟨s', c', h1, h2, h3⟩ => ⟨s', c', by omega, h2, h3⟩, fun ⟨s', c', h1, h2, h3, h4⟩ => ⟨s', c', ?_, h2, h3, h4⟩⟩
  by_cases e : s' = s
  · subst e; rw [h] at h3; cases h3
  · omega
theorem anB_ins {N : Nat → Bool} {x : Nat} : anB (insB N x) = true := dB_t.mpr ⟨x, insB_self N x⟩
theorem anB_nil : anB (fun _ => false) = false := dB_f.mpr (fun ⟨x, h⟩ => by cases h)
section MDL11
variable {tO d m0 : Nat} {A : Nat → Nat} {q n cut rows kq kn kc kr fd wn : Nat} {kt yw : Bool} {cu cv ck rm mo bo ki wa wr fo : Int32} {B KB : Nat → Bool} {Wb R KR P KP Od Ig Pk Lt Lk Rd Nx Tp Pa Wy Sz It : Nat → Int32}
theorem l_X12_longestD (hd : 6 ≤ d) (h : OKq q n) (hs : q ^ n ≤ 32) (hB : ∀ w, B w = true → w < q ^ n) {r o j s : Nat} {S : Nat → Bool} (hr : r < n) (ho : o < n) (hj : j < 12) (hsw : s < q ^ (n - 1)) {w0 : zW} {Q : zPo} (next : ∀ Lc, V tO MX12_longest (d, 0, 0) w0 Q (0, 0) [obM m0 A q n cut rows kq kn kc kr kt cu cv ck rm mo bo ki wa wr fo fd wn yw, (A 0, aZ 256 (hdF B)), (A 11, aI 5 Lc), (A 12, aZ 256 (hdF S)), (A 13, aZ 256 (hdF (nxP q n B j r o S (s + 1) 0)))] 172 [some (.ref m0), some (.int (nI r)), some (.int (nI o)), some (.int (nI (q ^ (n - 1)))), some (.int (nI (j + 1))), some (.int (bI (anB (nxP q n B j r o S (s + 1) 0)))), some (.int (nI s)), none, none] []) : ∀ (f c : Nat) (Lc : Nat → Int32), c + f = q → V tO MX12_longest (d, 0, 0) w0 Q (0, 0) [obM m0 A q n cut rows kq kn kc kr kt cu cv ck rm mo bo ki wa wr fo fd wn yw, (A 0, aZ 256 (hdF B)), (A 11, aI 5 Lc), (A 12, aZ 256 (hdF S)), (A 13, aZ 256 (hdF (nxP q n B j r o S s c)))] 98 [some (.ref m0), some (.int (nI r)), some (.int (nI o)), some (.int (nI (q ^ (n - 1)))), some (.int (nI (j + 1))), some (.int (bI (anB (nxP q n B j r o S s c)))), some (.int (nI s)), some (.int (nI c)), none] [] := by
  have hW := room16 h hs
  have hW0 := h.pos (n - 1)
  have hq4 := h.2.1
  have hqs : q * s ≤ 4 * 16 := Nat.mul_le_mul hq4 (by omega)
  intro f
  induction f with
  | zero =>
    intro c Lc hc
    have e : c = q := by omega
    subst e
    rw [nxP_end]
    refine V_iload dX12_longest_98 rfl ?_
    refine V_aload_n dX12_longest_100 rfl ?_
    refine V_get 0 dX12_longest_101 fX12_longest_9 rfl rfl ?_
    refine V_icmp_ge_N 172 dX12_longest_104 (by decide) (by omega) (by omega) (fun c_104 => ?_) (fun c_104 => absurd c_104 (by omega))
    exact V_wk _ (by exact ⟨rfl, rfl, rfl, rfl, rfl, rfl, rfl, trivial, trivial, trivial⟩) (next Lc)
  | succ f ih =>
    intro c Lc hc
    have hm := Nat.mod_lt (q * s + c) hW0
    refine V_iload dX12_longest_98 rfl ?_
    refine V_aload_n dX12_longest_100 rfl ?_
    refine V_get 0 dX12_longest_101 fX12_longest_9 rfl rfl ?_
    refine V_icmp_ge_N 172 dX12_longest_104 (by decide) (by omega) (by omega) (fun c_104 => absurd c_104 (by omega)) (fun c_104 => ?_)
    refine V_aload_n dX12_longest_107 rfl ?_
    refine V_get 0 dX12_longest_108 fX12_longest_56 rfl rfl ?_
    refine V_iload dX12_longest_111 rfl ?_
    refine V_zald_N 3 dX12_longest_113 rfl (by omega) (by first | decide | omega) ?_
    first | refine V_if_eq_B 172 dX12_longest_114 (by decide) (fun c_114 => ?_) (fun c_114 => ?_) | refine V_if_eq_N 172 dX12_longest_114 (by decide) (by omega) (fun c_114 => ?_) (fun c_114 => ?_) | refine V_if_eq 172 dX12_longest_114 (by decide) (fun c_114 => ?_) (fun c_114 => ?_)
    ·
      have hS : S s = false := c_114
      rw [nxP_skip hS]
      exact V_wk _ (by exact ⟨rfl, rfl, rfl, rfl, rfl, rfl, rfl, trivial, trivial, trivial⟩) (next Lc)
    ·
      have hS : S s = true := c_114
      refine V_aload_n dX12_longest_117 rfl ?_
      refine V_get 0 dX12_longest_118 fX12_longest_9 rfl rfl ?_
      refine V_iload dX12_longest_121 rfl ?_
      first | refine V_imul_N dX12_longest_123 ?_ | refine V_imul dX12_longest_123 ?_
      refine V_iload dX12_longest_124 rfl ?_
      first | refine V_iadd_N dX12_longest_126 ?_ | refine V_iadd dX12_longest_126 ?_
      refine V_istore dX12_longest_127 (by decide) rfl ?_
      refine V_aload_n dX12_longest_129 rfl ?_
      refine V_iload_n dX12_longest_130 rfl ?_
      refine V_iload dX12_longest_131 rfl ?_
      refine V_iload dX12_longest_133 rfl ?_
      refine V_callV3 [0, 1, 2] (s_X12_goesOn (d := d - 1) (by omega) h hB hr hj (by omega)) gX12_longest_X12_goesOn dX12_longest_135 oX12_goesOn rfl rfl rfl rfl (Nat.le_of_ble_eq_true rfl) (by omega) ⟨Nat.le_refl _, Nat.le_refl _⟩ ?_
      rintro _ _ ⟨Lc2, rfl, rfl⟩
      simp only [zput_n, zput_c, zset_0, zset_1, zset_2, Option.toList, List.cons_append, List.nil_append]
      first | refine V_if_eq_B 166 dX12_longest_138 (by decide) (fun c_138 => ?_) (fun c_138 => ?_) | refine V_if_eq_N 166 dX12_longest_138 (by decide) (by omega) (fun c_138 => ?_) (fun c_138 => ?_) | refine V_if_eq 166 dX12_longest_138 (by decide) (fun c_138 => ?_) (fun c_138 => ?_)
      ·
        have i1 := ih (c + 1) Lc2 (by omega)
        rw [nxP_no (fun hh => by rw [c_138] at hh; exact absurd hh.2.1 (by decide))] at i1
        first | refine V_iinc_N (i := 1) dX12_longest_166 rfl (by decide) rfl ?_ | refine V_iinc dX12_longest_166 rfl rfl (by decide) rfl ?_
        refine V_goto 98 dX12_longest_169 (by decide) ?_
        exact V_wk _ (by exact ⟨rfl, rfl, rfl, rfl, rfl, rfl, rfl, rfl, trivial, trivial⟩) i1
      ·
        refine V_aload_n dX12_longest_141 rfl ?_
        refine V_iload_n dX12_longest_142 rfl ?_
        refine V_iload dX12_longest_143 rfl ?_
        refine V_iload dX12_longest_145 rfl ?_
        refine V_callV3 [0, 1, 2] (s_X12_goesOn (d := d - 1) (by omega) h hB ho hj (by omega)) gX12_longest_X12_goesOn dX12_longest_147 oX12_goesOn rfl rfl rfl rfl (Nat.le_of_ble_eq_true rfl) (by omega) ⟨Nat.le_refl _, Nat.le_refl _⟩ ?_
        rintro _ _ ⟨Lc3, rfl, rfl⟩
        simp only [zput_n, zput_c, zset_0, zset_1, zset_2, Option.toList, List.cons_append, List.nil_append]
        first | refine V_if_eq_B 166 dX12_longest_150 (by decide) (fun c_150 => ?_) (fun c_150 => ?_) | refine V_if_eq_N 166 dX12_longest_150 (by decide) (by omega) (fun c_150 => ?_) (fun c_150 => ?_) | refine V_if_eq 166 dX12_longest_150 (by decide) (fun c_150 => ?_) (fun c_150 => ?_)
        ·
          have i1 := ih (c + 1) Lc3 (by omega)
          rw [nxP_no (fun hh => by rw [c_150] at hh; exact absurd hh.2.2 (by decide))] at i1
          first | refine V_iinc_N (i := 1) dX12_longest_166 rfl (by decide) rfl ?_ | refine V_iinc dX12_longest_166 rfl rfl (by decide) rfl ?_
          refine V_goto 98 dX12_longest_169 (by decide) ?_
          exact V_wk _ (by exact ⟨rfl, rfl, rfl, rfl, rfl, rfl, rfl, rfl, trivial, trivial⟩) i1
        ·
          have i1 := ih (c + 1) Lc3 (by omega)
          rw [nxP_yes (by omega) ⟨hS, c_138, c_150⟩, anB_ins, ← hdF_ins] at i1
          refine V_aload_n dX12_longest_153 rfl ?_
          refine V_get 0 dX12_longest_154 fX12_longest_59 rfl rfl ?_
          refine V_iload dX12_longest_157 rfl ?_
          refine V_iload_n dX12_longest_159 rfl ?_
          refine V_irem_N dX12_longest_160 (by omega) (by omega) (by omega) ?_
          refine V_iconst (v := nI 1) dX12_longest_161 (by decide) ?_
          refine V_zast_N 4 dX12_longest_162 rfl (by omega) (by first | decide | omega) (by first | exact Or.inl rfl | exact Or.inr rfl | exact bI_or _) ?_
          refine V_iconst (v := bI true) dX12_longest_163 (show Int32.ofInt 1 = bI true by decide) ?_
          refine V_istore dX12_longest_164 (by decide) rfl ?_
          first | refine V_iinc_N (i := 1) dX12_longest_166 rfl (by decide) rfl ?_ | refine V_iinc dX12_longest_166 rfl rfl (by decide) rfl ?_
          refine V_goto 98 dX12_longest_169 (by decide) ?_
          exact V_wk _ (by exact ⟨rfl, rfl, rfl, rfl, rfl, rfl, rfl, rfl, trivial, trivial⟩) i1
theorem l_X12_longestC (hd : 6 ≤ d) (h : OKq q n) (hs : q ^ n ≤ 32) (hB : ∀ w, B w = true → w < q ^ n) {r o j : Nat} {S : Nat → Bool} (hr : r < n) (ho : o < n) (hj : j < 12) {w0 : zW} {Q : zPo} (next : ∀ Lc, V tO MX12_longest (d, 0, 0) w0 Q (0, 0) [obM m0 A q n cut rows kq kn kc kr kt cu cv ck rm mo bo ki wa wr fo fd wn yw, (A 0, aZ 256 (hdF B)), (A 11, aI 5 Lc), (A 12, aZ 256 (hdF S)), (A 13, aZ 256 (hdF (nxS q n B j r o S)))] 178 [some (.ref m0), some (.int (nI r)), some (.int (nI o)), some (.int (nI (q ^ (n - 1)))), some (.int (nI (j + 1))), some (.int (bI (anB (nxS q n B j r o S)))), none, none, none] []) : ∀ (f s : Nat) (Lc : Nat → Int32), s + f = q ^ (n - 1) → V tO MX12_longest (d, 0, 0) w0 Q (0, 0) [obM m0 A q n cut rows kq kn kc kr kt cu cv ck rm mo bo ki wa wr fo fd wn yw, (A 0, aZ 256 (hdF B)), (A 11, aI 5 Lc), (A 12, aZ 256 (hdF S)), (A 13, aZ 256 (hdF (nxP q n B j r o S s 0)))] 89 [some (.ref m0), some (.int (nI r)), some (.int (nI o)), some (.int (nI (q ^ (n - 1)))), some (.int (nI (j + 1))), some (.int (bI (anB (nxP q n B j r o S s 0)))), some (.int (nI s)), none, none] [] := by
  have hW := room16 h hs
  intro f
  induction f with
  | zero =>
    intro s Lc hsf
    have e : s = q ^ (n - 1) := by omega
    subst e
    refine V_iload dX12_longest_89 rfl ?_
    refine V_iload_n dX12_longest_91 rfl ?_
    refine V_icmp_ge_N 178 dX12_longest_92 (by decide) (by omega) (by omega) (fun c_92 => ?_) (fun c_92 => absurd c_92 (by omega))
    exact V_wk _ (by exact ⟨rfl, rfl, rfl, rfl, rfl, rfl, trivial, trivial, trivial, trivial⟩) (next Lc)
  | succ f ih =>
    intro s Lc hsf
    refine V_iload dX12_longest_89 rfl ?_
    refine V_iload_n dX12_longest_91 rfl ?_
    refine V_icmp_ge_N 178 dX12_longest_92 (by decide) (by omega) (by omega) (fun c_92 => absurd c_92 (by omega)) (fun c_92 => ?_)
    refine V_iconst (v := nI 0) dX12_longest_95 (by decide) ?_
    refine V_istore dX12_longest_96 (by decide) rfl ?_
    refine l_X12_longestD hd h hs hB hr ho hj (by omega) (fun Lc2 => ?_) q 0 Lc (by omega)
    exact V_iinc_N (i := 1) dX12_longest_172 rfl (by decide) rfl (V_goto 89 dX12_longest_175 (by decide) (ih (s + 1) Lc2 (by omega)))
theorem l_X12_longestB {x1 x2 x3 x4 x5 : Int32} {S : Nat → Bool} {w0 : zW} {Q : zPo} (next : V tO MX12_longest (d, 0, 0) w0 Q (0, 0) [obM m0 A q n cut rows kq kn kc kr kt cu cv ck rm mo bo ki wa wr fo fd wn yw, (A 0, aZ 256 (hdF B)), (A 11, aI 5 Lk), (A 12, aZ 256 (hdF S)), (A 13, aZ 256 (hdF (fun _ => false)))] 86 [some (.ref m0), some (.int x1), some (.int x2), some (.int x3), some (.int x4), some (.int x5), none, none, none] []) : ∀ (f i : Nat) (Hc : Nat → Int32), i + f = 256 → (∀ j, j < i → Hc j = nI 0) → V tO MX12_longest (d, 0, 0) w0 Q (0, 0) [obM m0 A q n cut rows kq kn kc kr kt cu cv ck rm mo bo ki wa wr fo fd wn yw, (A 0, aZ 256 (hdF B)), (A 11, aI 5 Lk), (A 12, aZ 256 (hdF S)), (A 13, aZ 256 Hc)] 64 [some (.ref m0), some (.int x1), some (.int x2), some (.int x3), some (.int x4), some (.int x5), some (.int (nI i)), none, none] [] := by
  intro f
  induction f with
  | zero =>
    intro i Hc hi hH
    refine V_iload dX12_longest_64 rfl ?_
    refine V_sipush (v := nI 256) dX12_longest_66 (by decide) ?_
    refine V_icmp_ge_N 86 dX12_longest_69 (by decide) (by omega) (by omega) (fun c_69 => ?_) (fun c_69 => absurd c_69 (by omega))
    refine V_agp 4 (hdF (fun _ => false)) rfl (fun j hj => hH j (by omega)) ?_
    exact V_wk _ (by exact ⟨rfl, rfl, rfl, rfl, rfl, rfl, trivial, trivial, trivial, trivial⟩) next
  | succ f ih =>
    intro i Hc hi hH
    refine V_iload dX12_longest_64 rfl ?_
    refine V_sipush (v := nI 256) dX12_longest_66 (by decide) ?_
    refine V_icmp_ge_N 86 dX12_longest_69 (by decide) (by omega) (by omega) (fun c_69 => absurd c_69 (by omega)) (fun c_69 => ?_)
    refine V_aload_n dX12_longest_72 rfl ?_
    refine V_get 0 dX12_longest_73 fX12_longest_59 rfl rfl ?_
    refine V_iload dX12_longest_76 rfl ?_
    refine V_iconst (v := nI 0) dX12_longest_78 (by decide) ?_
    refine V_zast_N 4 dX12_longest_79 rfl (by omega) (by first | decide | omega) (by first | exact Or.inl rfl | exact Or.inr rfl | exact bI_or _) ?_
    first | refine V_iinc_N (i := 1) dX12_longest_80 rfl (by decide) rfl ?_ | refine V_iinc dX12_longest_80 rfl rfl (by decide) rfl ?_
    refine V_goto 64 dX12_longest_83 (by decide) ?_
    exact ih (i + 1) _ (by omega) (fun j hj => upd_fill hH hj)
theorem l_X12_longestE {x1 x2 x3 x4 : Int32} {N : Nat → Bool} {w0 : zW} {Q : zPo} (next : V tO MX12_longest (d, 0, 0) w0 Q (0, 0) [obM m0 A q n cut rows kq kn kc kr kt cu cv ck rm mo bo ki wa wr fo fd wn yw, (A 0, aZ 256 (hdF B)), (A 11, aI 5 Lk), (A 12, aZ 256 (hdF N)), (A 13, aZ 256 (hdF N))] 219 [some (.ref m0), some (.int x1), some (.int x2), some (.int x3), some (.int x4), none, none, none, none] []) : ∀ (f i : Nat) (Hc : Nat → Int32), i + f = 256 → (∀ j, j < i → Hc j = hdF N j) → V tO MX12_longest (d, 0, 0) w0 Q (0, 0) [obM m0 A q n cut rows kq kn kc kr kt cu cv ck rm mo bo ki wa wr fo fd wn yw, (A 0, aZ 256 (hdF B)), (A 11, aI 5 Lk), (A 12, aZ 256 Hc), (A 13, aZ 256 (hdF N))] 191 [some (.ref m0), some (.int x1), some (.int x2), some (.int x3), some (.int x4), none, some (.int (nI i)), none, none] [] := by
  intro f
  induction f with
  | zero =>
    intro i Hc hi hH
    refine V_iload dX12_longest_191 rfl ?_
    refine V_sipush (v := nI 256) dX12_longest_193 (by decide) ?_
    refine V_icmp_ge_N 219 dX12_longest_196 (by decide) (by omega) (by omega) (fun c_196 => ?_) (fun c_196 => absurd c_196 (by omega))
    refine V_agp 3 (hdF N) rfl (fun j hj => hH j (by omega)) ?_
    exact V_wk _ (by exact ⟨rfl, rfl, rfl, rfl, rfl, trivial, trivial, trivial, trivial, trivial⟩) next
  | succ f ih =>
    intro i Hc hi hH
    refine V_iload dX12_longest_191 rfl ?_
    refine V_sipush (v := nI 256) dX12_longest_193 (by decide) ?_
    refine V_icmp_ge_N 219 dX12_longest_196 (by decide) (by omega) (by omega) (fun c_196 => absurd c_196 (by omega)) (fun c_196 => ?_)
    refine V_aload_n dX12_longest_199 rfl ?_
    refine V_get 0 dX12_longest_200 fX12_longest_56 rfl rfl ?_
    refine V_iload dX12_longest_203 rfl ?_
    refine V_aload_n dX12_longest_205 rfl ?_
    refine V_get 0 dX12_longest_206 fX12_longest_59 rfl rfl ?_
    refine V_iload dX12_longest_209 rfl ?_
    refine V_zald_N 4 dX12_longest_211 rfl (by omega) (by first | decide | omega) ?_
    refine V_zast_N 3 dX12_longest_212 rfl (by omega) (by first | decide | omega) (by first | exact Or.inl rfl | exact Or.inr rfl | exact bI_or _) ?_
    first | refine V_iinc_N (i := 1) dX12_longest_213 rfl (by decide) rfl ?_ | refine V_iinc dX12_longest_213 rfl rfl (by decide) rfl ?_
    refine V_goto 191 dX12_longest_216 (by decide) ?_
    exact ih (i + 1) _ (by omega) (fun j hj => upd_copy hH hj)
theorem l_X12_longestA {x1 x2 x3 : Int32} {w0 : zW} {Q : zPo} (next : V tO MX12_longest (d, 0, 0) w0 Q (0, 0) [obM m0 A q n cut rows kq kn kc kr kt cu cv ck rm mo bo ki wa wr fo fd wn yw, (A 0, aZ 256 (hdF B)), (A 11, aI 5 Lk), (A 12, aZ 256 (hdF S0)), (A 13, aZ 256 Nx)] 48 [some (.ref m0), some (.int x1), some (.int x2), some (.int x3), none, none, none, none, none] []) : ∀ (f i : Nat) (Hc : Nat → Int32), i + f = 256 → (∀ j, j < i → Hc j = hdF S0 j) → V tO MX12_longest (d, 0, 0) w0 Q (0, 0) [obM m0 A q n cut rows kq kn kc kr kt cu cv ck rm mo bo ki wa wr fo fd wn yw, (A 0, aZ 256 (hdF B)), (A 11, aI 5 Lk), (A 12, aZ 256 Hc), (A 13, aZ 256 Nx)] 17 [some (.ref m0), some (.int x1), some (.int x2), some (.int x3), some (.int (nI i)), none, none, none, none] [] := by
  intro f
  induction f with
  | zero =>
    intro i Hc hi hH
    refine V_iload dX12_longest_17 rfl ?_
    refine V_sipush (v := nI 256) dX12_longest_19 (by decide) ?_
    refine V_icmp_ge_N 48 dX12_longest_22 (by decide) (by omega) (by omega) (fun c_22 => ?_) (fun c_22 => absurd c_22 (by omega))
    refine V_agp 3 (hdF S0) rfl (fun j hj => hH j (by omega)) ?_
    exact V_wk _ (by exact ⟨rfl, rfl, rfl, rfl, trivial, trivial, trivial, trivial, trivial, trivial⟩) next
  | succ f ih =>
    intro i Hc hi hH
    have key : ∀ x, x = hdF S0 i → ∀ j, j < i + 1 → upd Hc i x j = hdF S0 j := by
      intro x hx j hj
      unfold upd
      by_cases e : j = i
      · rw [if_pos e, e, hx]
      · rw [if_neg e]; exact hH j (by omega)
    refine V_iload dX12_longest_17 rfl ?_
    refine V_sipush (v := nI 256) dX12_longest_19 (by decide) ?_
    refine V_icmp_ge_N 48 dX12_longest_22 (by decide) (by omega) (by omega) (fun c_22 => absurd c_22 (by omega)) (fun c_22 => ?_)
    refine V_aload_n dX12_longest_25 rfl ?_
    refine V_get 0 dX12_longest_26 fX12_longest_56 rfl rfl ?_
    refine V_iload dX12_longest_29 rfl ?_
    refine V_iload dX12_longest_31 rfl ?_
    refine V_if_ne_N 40 dX12_longest_33 (by decide) (by omega) (fun c_33 => ?_) (fun c_33 => ?_)
    ·
      refine V_iconst (v := nI 0) dX12_longest_40 (by decide) ?_
      refine V_zast_N 3 dX12_longest_41 rfl (by omega) (by first | decide | omega) (by first | exact Or.inl rfl | exact Or.inr rfl | exact bI_or _) ?_
      first | refine V_iinc_N (i := 1) dX12_longest_42 rfl (by decide) rfl ?_ | refine V_iinc dX12_longest_42 rfl rfl (by decide) rfl ?_
      refine V_goto 17 dX12_longest_45 (by decide) ?_
      first
      | exact ih (i + 1) _ (by omega) (key (nI 0) (by unfold hdF S0; rw [decide_eq_false (by omega)]; rfl))
      | exact ih (i + 1) _ (by omega) (key (nI 1) (by unfold hdF S0; rw [decide_eq_true c_33]; rfl))
    ·
      refine V_iconst (v := nI 1) dX12_longest_36 (by decide) ?_
      refine V_goto 41 dX12_longest_37 (by decide) ?_
      refine V_zast_N 3 dX12_longest_41 rfl (by omega) (by first | decide | omega) (by first | exact Or.inl rfl | exact Or.inr rfl | exact bI_or _) ?_
      first | refine V_iinc_N (i := 1) dX12_longest_42 rfl (by decide) rfl ?_ | refine V_iinc dX12_longest_42 rfl rfl (by decide) rfl ?_
      refine V_goto 17 dX12_longest_45 (by decide) ?_
      first
      | exact ih (i + 1) _ (by omega) (key (nI 0) (by unfold hdF S0; rw [decide_eq_false (by omega)]; rfl))
      | exact ih (i + 1) _ (by omega) (key (nI 1) (by unfold hdF S0; rw [decide_eq_true c_33]; rfl))
theorem l_X12_longest (hd : 6 ≤ d) (h : OKq q n) (hs : q ^ n ≤ 32) (hB : ∀ w, B w = true → w < q ^ n) {r o : Nat} (hr : r < n) (ho : o < n) {w0 : zW} (hw0 : w0.length = 5) : ∀ (f j : Nat) (S : Nat → Bool) (Lc Nc : Nat → Int32), j + f = 12 → V tO MX12_longest (d, 0, 0) w0 (fun v w' => ∃ Lk' Rd' Nx', v = some (.int (nI (lgF q n B r o f j S))) ∧ w' = [obM m0 A q n cut rows kq kn kc kr kt cu cv ck rm mo bo ki wa wr fo fd wn yw, (A 0, aZ 256 (hdF B)), (A 11, aI 5 Lk'), (A 12, aZ 256 Rd'), (A 13, aZ 256 Nx')]) (0, 0) [obM m0 A q n cut rows kq kn kc kr kt cu cv ck rm mo bo ki wa wr fo fd wn yw, (A 0, aZ 256 (hdF B)), (A 11, aI 5 Lc), (A 12, aZ 256 (hdF S)), (A 13, aZ 256 Nc)] 51 [some (.ref m0), some (.int (nI r)), some (.int (nI o)), some (.int (nI (q ^ (n - 1)))), some (.int (nI (j + 1))), none, none, none, none] [] := by
  intro f
  induction f with
  | zero =>
    intro j S Lc Nc hj
    rw [lgF]
    refine V_iload dX12_longest_51 rfl ?_
    refine V_bipush (v := nI 12) dX12_longest_53 (by decide) ?_
    refine V_icmp_gt_N 225 dX12_longest_55 (by decide) (by omega) (by decide) (fun c_55 => ?_) (fun c_55 => absurd c_55 (by omega))
    refine V_bipush (v := nI 12) dX12_longest_225 (by decide) ?_
    refine V_iret dX12_longest_227 rfl (by rw [hw0]; exact Nat.le_of_ble_eq_true rfl) (Nat.le_refl _) (Nat.le_refl _) ?_
    exact ⟨_, _, _, rfl, rfl⟩
  | succ f ih =>
    intro j S Lc Nc hj
    rw [lgF]
    have i2 : ∀ Lc2, V tO MX12_longest (d, 0, 0) w0 (fun v w' => ∃ Lk' Rd' Nx', v = some (.int (nI (if anB (nxS q n B j r o S) = true then lgF q n B r o f (j + 1) (nxS q n B j r o S) else j))) ∧ w' = [obM m0 A q n cut rows kq kn kc kr kt cu cv ck rm mo bo ki wa wr fo fd wn yw, (A 0, aZ 256 (hdF B)), (A 11, aI 5 Lk'), (A 12, aZ 256 Rd'), (A 13, aZ 256 Nx')]) (0, 0) [obM m0 A q n cut rows kq kn kc kr kt cu cv ck rm mo bo ki wa wr fo fd wn yw, (A 0, aZ 256 (hdF B)), (A 11, aI 5 Lc2), (A 12, aZ 256 (hdF S)), (A 13, aZ 256 (hdF (nxS q n B j r o S)))] 178 [some (.ref m0), some (.int (nI r)), some (.int (nI o)), some (.int (nI (q ^ (n - 1)))), some (.int (nI (j + 1))), some (.int (bI (anB (nxS q n B j r o S)))), none, none, none] [] := by
      intro Lc2
      refine V_iload dX12_longest_178 rfl ?_
      first | refine V_if_ne_B 188 dX12_longest_180 (by decide) (fun c_180 => ?_) (fun c_180 => ?_) | refine V_if_ne_N 188 dX12_longest_180 (by decide) (by omega) (fun c_180 => ?_) (fun c_180 => ?_) | refine V_if_ne 188 dX12_longest_180 (by decide) (fun c_180 => ?_) (fun c_180 => ?_)
      ·
        rw [c_180, if_pos rfl]
        refine V_iconst (v := nI 0) dX12_longest_188 (by decide) ?_
        refine V_istore dX12_longest_189 (by decide) rfl ?_
        refine V_wk [some (.ref m0), some (.int (nI r)), some (.int (nI o)), some (.int (nI (q ^ (n - 1)))), some (.int (nI (j + 1))), none, some (.int (nI 0)), none, none] (by exact ⟨rfl, rfl, rfl, rfl, rfl, trivial, rfl, trivial, trivial, trivial⟩) ?_
        refine l_X12_longestE ?_ 256 0 _ (by omega) (fun j hj => absurd hj (by omega))
        exact V_iinc_N (i := 1) dX12_longest_219 rfl (by decide) rfl (V_goto 51 dX12_longest_222 (by decide) (ih (j + 1) _ _ _ (by omega)))
      ·
        rw [c_180, if_neg Bool.false_ne_true]
        refine V_iload dX12_longest_183 rfl ?_
        refine V_iconst (v := nI 1) dX12_longest_185 (by decide) ?_
        first | refine V_isub_N dX12_longest_186 (by omega) ?_ | refine V_isub dX12_longest_186 ?_
        refine V_iret dX12_longest_187 rfl (by rw [hw0]; exact Nat.le_of_ble_eq_true rfl) (Nat.le_refl _) (Nat.le_refl _) ?_
        exact ⟨_, _, _, by rw [Nat.add_sub_cancel], rfl⟩
    refine V_iload dX12_longest_51 rfl ?_
    refine V_bipush (v := nI 12) dX12_longest_53 (by decide) ?_
    refine V_icmp_gt_N 225 dX12_longest_55 (by decide) (by omega) (by decide) (fun c_55 => absurd c_55 (by omega)) (fun c_55 => ?_)
    refine V_iconst (v := nI 0) dX12_longest_58 (by decide) ?_
    refine V_istore dX12_longest_59 (by decide) rfl ?_
    refine V_iconst (v := nI 0) dX12_longest_61 (by decide) ?_
    refine V_istore dX12_longest_62 (by decide) rfl ?_
    refine l_X12_longestB ?_ 256 0 _ (by omega) (fun j hj => absurd hj (by omega))
    refine V_iconst (v := nI 0) dX12_longest_86 (by decide) (V_istore dX12_longest_87 (by decide) rfl ?_)
    have i3 := l_X12_longestC hd h hs hB hr ho (show j < 12 by omega) i2 (q ^ (n - 1)) 0 Lc (by omega)
    rw [nxP_00, anB_nil] at i3
    exact i3
theorem s_X12_longest (hd : 6 ≤ d) (h : OKq q n) (hs : q ^ n ≤ 32) (hB : ∀ w, B w = true → w < q ^ n) {r o : Nat} (hr : r < n) (ho : o < n) : Sp tO MX12_longest (d, 0, 0) [.ref m0, .int (nI r), .int (nI o)] [obM m0 A q n cut rows kq kn kc kr kt cu cv ck rm mo bo ki wa wr fo fd wn yw, (A 0, aZ 256 (hdF B)), (A 11, aI 5 Lk), (A 12, aZ 256 Rd), (A 13, aZ 256 Nx)] (fun v w' => ∃ Lk' Rd' Nx', v = some (.int (nI (lgF q n B r o 12 0 S0))) ∧ w' = [obM m0 A q n cut rows kq kn kc kr kt cu cv ck rm mo bo ki wa wr fo fd wn yw, (A 0, aZ 256 (hdF B)), (A 11, aI 5 Lk'), (A 12, aZ 256 Rd'), (A 13, aZ 256 Nx')]) := by
  refine eX12_longest [some (.ref m0), some (.int (nI r)), some (.int (nI o)), none, none, none, none, none, none] rfl (Nat.le_of_ble_eq_true rfl) ?_
  have hn := h.2.2.1
  have hn5 := h.2.2.2.1
  refine V_aload_n dX12_longest_0 rfl ?_
  refine V_get 0 dX12_longest_1 fX12_longest_9 rfl rfl ?_
  refine V_aload_n dX12_longest_4 rfl ?_
  refine V_get 0 dX12_longest_5 fX12_longest_15 rfl rfl ?_
  refine V_iconst (v := nI 1) dX12_longest_8 (by decide) ?_
  first | refine V_isub_N dX12_longest_9 (by omega) ?_ | refine V_isub dX12_longest_9 ?_
  refine V_callSpi2 [] (s_X12_power (d := d - 1) (by omega) (by omega)) gX12_longest_X12_power dX12_longest_10 oX12_power rfl rfl (Nat.le_of_ble_eq_true rfl) (by omega) ⟨Nat.le_refl _, Nat.le_refl _⟩ ?_
  refine V_istore_n dX12_longest_13 (by decide) rfl ?_
  refine V_iconst (v := nI 0) dX12_longest_14 (by decide) ?_
  refine V_istore dX12_longest_15 (by decide) rfl ?_
  refine l_X12_longestA ?_ 256 0 _ (by omega) (fun j hj => absurd hj (by omega))
  refine V_iconst (v := nI 1) dX12_longest_48 (by decide) (V_istore dX12_longest_49 (by decide) rfl ?_)
  exact l_X12_longest hd h hs hB hr ho rfl 12 0 S0 _ _ (by omega)
theorem lgF_le {q n r o : Nat} {B : Nat → Bool} : ∀ (f j : Nat) (S : Nat → Bool), j + f ≤ 12 → lgF q n B r o f j S ≤ 12
  | 0, _, _, _ => Nat.le_refl _
  | f + 1, j, S, h => by
    rw [lgF]
    split
    · exact lgF_le f (j + 1) _ (by omega)
    · omega
theorem dmI_le {q n r : Nat} {B : Nat → Bool} : ∀ (f o l : Nat), l ≤ 12 → dmI q n B r f o l ≤ 12
  | 0, _, _, h => h
  | f + 1, o, l, h => by
    rw [dmI]
    exact dmI_le f (o + 1) _ (by have := lgF_le (q := q) (n := n) (r := r) (o := o) (B := B) 12 0 S0 (by omega); omega)
theorem dmO_le {q n : Nat} {B : Nat → Bool} : ∀ (f r l : Nat), l ≤ 12 → dmO q n B f r l ≤ 12
  | 0, _, _, h => h
  | f + 1, r, l, h => by rw [dmO]; exact dmO_le f (r + 1) _ (dmI_le _ _ _ h)
theorem l_X12_delay2 (hd : 7 ≤ d) (h : OKq q n) (hs : q ^ n ≤ 32) (hB : ∀ w, B w = true → w < q ^ n) {r : Nat} (hr : r < n) {w0 : zW} {Q : zPo} {z : Nat} (next : ∀ Lc Rc Nc, V tO MX12_delay (d, 0, 0) w0 Q (0, 0) [obM m0 A q n cut rows kq kn kc kr kt cu cv ck rm mo bo ki wa wr fo fd wn yw, (A 0, aZ 256 (hdF B)), (A 11, aI 5 Lc), (A 12, aZ 256 Rc), (A 13, aZ 256 Nc)] 48 [some (.ref m0), some (.int (nI z)), some (.int (nI r)), none] []) : ∀ (f o l : Nat) (Lc Rc Nc : Nat → Int32), o + f = r → l ≤ 12 → dmI q n B r f o l = z → V tO MX12_delay (d, 0, 0) w0 Q (0, 0) [obM m0 A q n cut rows kq kn kc kr kt cu cv ck rm mo bo ki wa wr fo fd wn yw, (A 0, aZ 256 (hdF B)), (A 11, aI 5 Lc), (A 12, aZ 256 Rc), (A 13, aZ 256 Nc)] 26 [some (.ref m0), some (.int (nI l)), some (.int (nI r)), some (.int (nI o))] [] := by
  have hn5 := h.2.2.2.1
  intro f
  induction f with
  | zero =>
    intro o l Lc Rc Nc ho hl hz
    rw [dmI] at hz
    subst hz
    refine V_iload_n dX12_delay_26 rfl ?_
    refine V_iload_n dX12_delay_27 rfl ?_
    refine V_icmp_ge_N 48 dX12_delay_28 (by decide) (by omega) (by omega) (fun c_28 => ?_) (fun c_28 => absurd c_28 (by omega))
    exact V_wk _ (by exact ⟨rfl, rfl, rfl, trivial, trivial⟩) (next Lc Rc Nc)
  | succ f ih =>
    intro o l Lc Rc Nc ho hl hz
    rw [dmI] at hz
    have hg := lgF_le (q := q) (n := n) (r := r) (o := o) (B := B) 12 0 S0 (by omega)
    refine V_iload_n dX12_delay_26 rfl ?_
    refine V_iload_n dX12_delay_27 rfl ?_
    refine V_icmp_ge_N 48 dX12_delay_28 (by decide) (by omega) (by omega) (fun c_28 => absurd c_28 (by omega)) (fun c_28 => ?_)
    refine V_iload_n dX12_delay_31 rfl ?_
    refine V_aload_n dX12_delay_32 rfl ?_
    refine V_iload_n dX12_delay_33 rfl ?_
    refine V_iload_n dX12_delay_34 rfl ?_
    refine V_callV2 [0, 1, 2, 3, 4] (s_X12_longest (d := d - 1) (by omega) h hs hB hr (by omega)) gX12_delay_X12_longest dX12_delay_35 oX12_longest rfl rfl rfl rfl (Nat.le_of_ble_eq_true rfl) (by omega) ⟨Nat.le_refl _, Nat.le_refl _⟩ ?_
    rintro _ _ ⟨Lc2, Rc2, Nc2, rfl, rfl⟩
    simp only [zput_n, zput_c, zset_0, zset_1, zset_2, zset_3, zset_4, Option.toList, List.cons_append, List.nil_append]
    first | refine V_mmax_N dX12_delay_38 mmX12_delay_216 (by omega) (Nat.le_of_ble_eq_true rfl) (Nat.le_refl _) (Nat.le_refl _) (by omega) (by omega) ?_ | refine V_mmax dX12_delay_38 mmX12_delay_216 (by omega) (Nat.le_of_ble_eq_true rfl) (Nat.le_refl _) (Nat.le_refl _) ?_
    refine V_istore_n dX12_delay_41 (by decide) rfl ?_
    first | refine V_iinc_N (i := 1) dX12_delay_42 rfl (by decide) rfl ?_ | refine V_iinc dX12_delay_42 rfl rfl (by decide) rfl ?_
    refine V_goto 26 dX12_delay_45 (by decide) ?_
    exact ih (o + 1) _ Lc2 Rc2 Nc2 (by omega) (by omega) hz
theorem l_X12_delay1 (hd : 7 ≤ d) (h : OKq q n) (hs : q ^ n ≤ 32) (hB : ∀ w, B w = true → w < q ^ n) {w0 : zW} (hw0 : w0.length = 5) : ∀ (f r l : Nat) (Lc Rc Nc : Nat → Int32), r + f = n → l ≤ 12 → V tO MX12_delay (d, 0, 0) w0 (fun v w' => ∃ Lk' Rd' Nx', v = some (.int (if dmO q n B f r l < 12 then nI (dmO q n B f r l + 1) else -5)) ∧ w' = [obM m0 A q n cut rows kq kn kc kr kt cu cv ck rm mo bo ki wa wr fo fd wn yw, (A 0, aZ 256 (hdF B)), (A 11, aI 5 Lk'), (A 12, aZ 256 Rd'), (A 13, aZ 256 Nx')]) (0, 0) [obM m0 A q n cut rows kq kn kc kr kt cu cv ck rm mo bo ki wa wr fo fd wn yw, (A 0, aZ 256 (hdF B)), (A 11, aI 5 Lc), (A 12, aZ 256 Rc), (A 13, aZ 256 Nc)] 16 [some (.ref m0), some (.int (nI l)), some (.int (nI r)), none] [] := by
  have hn5 := h.2.2.2.1
  intro f
  induction f with
  | zero =>
    intro r l Lc Rc Nc hr hl
    rw [dmO]
    refine V_iload_n dX12_delay_16 rfl ?_
    refine V_aload_n dX12_delay_17 rfl ?_
    refine V_get 0 dX12_delay_18 fX12_delay_15 rfl rfl ?_
    refine V_icmp_ge_N 54 dX12_delay_21 (by decide) (by omega) (by omega) (fun c_21 => ?_) (fun c_21 => absurd c_21 (by omega))
    refine V_iload_n dX12_delay_54 rfl ?_
    refine V_bipush (v := nI 12) dX12_delay_55 (by decide) ?_
    refine V_icmp_ge_N 66 dX12_delay_57 (by decide) (by omega) (by decide) (fun c_57 => ?_) (fun c_57 => ?_)
    ·
      rw [if_neg (show ¬ l < 12 by omega)]
      refine V_bipush (v := (-5)) dX12_delay_66 (by decide) ?_
      refine V_iret dX12_delay_68 rfl (by rw [hw0]; exact Nat.le_of_ble_eq_true rfl) (Nat.le_refl _) (Nat.le_refl _) ?_
      exact ⟨_, _, _, rfl, rfl⟩
    ·
      rw [if_pos c_57]
      refine V_iload_n dX12_delay_60 rfl ?_
      refine V_iconst (v := nI 1) dX12_delay_61 (by decide) ?_
      first | refine V_iadd_N dX12_delay_62 ?_ | refine V_iadd dX12_delay_62 ?_
      refine V_goto 68 dX12_delay_63 (by decide) ?_
      refine V_iret dX12_delay_68 rfl (by rw [hw0]; exact Nat.le_of_ble_eq_true rfl) (Nat.le_refl _) (Nat.le_refl _) ?_
      exact ⟨_, _, _, rfl, rfl⟩
  | succ f ih =>
    intro r l Lc Rc Nc hr hl
    rw [dmO]
    refine V_iload_n dX12_delay_16 rfl ?_
    refine V_aload_n dX12_delay_17 rfl ?_
    refine V_get 0 dX12_delay_18 fX12_delay_15 rfl rfl ?_
    refine V_icmp_ge_N 54 dX12_delay_21 (by decide) (by omega) (by omega) (fun c_21 => absurd c_21 (by omega)) (fun c_21 => ?_)
    refine V_iconst (v := nI 0) dX12_delay_24 (by decide) ?_
    refine V_istore_n dX12_delay_25 (by decide) rfl ?_
    refine l_X12_delay2 hd h hs hB (by omega) (fun Lc2 Rc2 Nc2 => ?_) r 0 l Lc Rc Nc (by omega) hl rfl
    exact V_iinc_N (i := 1) dX12_delay_48 rfl (by decide) rfl (V_goto 16 dX12_delay_51 (by decide) (ih (r + 1) _ Lc2 Rc2 Nc2 (by omega) (dmI_le _ _ _ hl)))
theorem s_X12_delay0 (hd : 7 ≤ d) (h : OKq q n) (hB : ∀ w, B w = true → w < q ^ n) : Sp tO MX12_delay (d, 0, 0) [.ref m0] [obM m0 A q n cut rows kq kn kc kr kt cu cv ck rm mo bo ki wa wr fo fd wn yw, (A 0, aZ 256 (hdF B)), (A 11, aI 5 Lk), (A 12, aZ 256 Rd), (A 13, aZ 256 Nx)] (fun v w' => ∃ Lk' Rd' Nx', v = some (.int (if q ^ n ≤ 32 then (if dmO q n B n 0 0 < 12 then nI (dmO q n B n 0 0 + 1) else -5) else -3)) ∧ w' = [obM m0 A q n cut rows kq kn kc kr kt cu cv ck rm mo bo ki wa wr fo fd wn yw, (A 0, aZ 256 (hdF B)), (A 11, aI 5 Lk'), (A 12, aZ 256 Rd'), (A 13, aZ 256 Nx')]) := by
  refine eX12_delay [some (.ref m0), none, none, none] rfl (Nat.le_of_ble_eq_true rfl) ?_
  have hN := h.2.2.2.2
  refine V_aload_n dX12_delay_0 rfl ?_
  refine V_callVpi0 [0] (s_X12_words (d := d - 1) (by omega) h) gX12_delay_X12_words dX12_delay_1 oX12_words rfl rfl rfl rfl (Nat.le_of_ble_eq_true rfl) (by omega) ⟨Nat.le_refl _, Nat.le_refl _⟩ ?_
  refine V_bipush (v := nI 32) dX12_delay_4 (by decide) ?_
  refine V_icmp_le_N 12 dX12_delay_6 (by decide) (by omega) (by decide) (fun c_6 => ?_) (fun c_6 => ?_)
  ·
    rw [if_pos c_6]
    refine V_iconst (v := nI 0) dX12_delay_12 (by decide) ?_
    refine V_istore_n dX12_delay_13 (by decide) rfl ?_
    refine V_iconst (v := nI 0) dX12_delay_14 (by decide) ?_
    refine V_istore_n dX12_delay_15 (by decide) rfl ?_
    exact l_X12_delay1 hd h c_6 hB rfl n 0 0 _ _ _ (by omega) (by omega)
  ·
    rw [if_neg (by omega)]
    refine V_bipush (v := (-3)) dX12_delay_9 (by decide) ?_
    refine V_iret dX12_delay_11 rfl (Nat.le_of_ble_eq_true rfl) (Nat.le_refl _) (Nat.le_refl _) ?_
    exact ⟨_, _, _, rfl, rfl⟩
end MDL11

