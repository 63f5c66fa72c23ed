/-! the model: draws, plans -/
theorem cd_gcd : ∀ a, a < 31 → ∀ b, b < 31 → 0 < b → cdF a b (max a b) = Nat.gcd a b := by decide +kernel
theorem drB_lt {N : Nat} (hN : 0 < N) : ∀ (f : Nat) (z : Int32) (S : Nat → Bool), (∀ w, S w = true → w < N) → ∀ w, drB N f z S w = true → w < N
  | 0, _, _, h => h
  | f + 1, z, S, h => drB_lt hN f (zS z) _ (fun w hw => by
    rcases insB_iff.mp hw with h1 | h1
    · exact h w h1
    · rw [h1]; exact Nat.mod_lt _ hN)
theorem rowB_lt {q n k v : Nat} {B : Nat → Bool} (h : OKq q n) (hB : ∀ w, B w = true → w < q ^ n) : ∀ w, rowB q n k v B w = true → w < q ^ n := by
  have ins : v < q ^ n → ∀ w, insB B v w = true → w < q ^ n := fun hv w hw => by
    rcases insB_iff.mp hw with h1 | h1
    · exact hB w h1
    · rw [h1]; exact hv
  unfold rowB
  split
  · split
    · next hv => exact ins hv
    · exact hB
  · split
    · exact fun w hw => hB w (delB_iff.mp hw).1
    · split
      · split
        · next hs => exact imB_lt h hs
        · exact hB
      · split
        · next ha => exact ins (dB_t.mp ha).1
        · exact hB
theorem rowsB_lt {q n : Nat} {pk pv : Nat → Nat} (h : OKq q n) : ∀ (f i : Nat) (B : Nat → Bool), (∀ w, B w = true → w < q ^ n) → ∀ w, rowsB q n pk pv f i B w = true → w < q ^ n
  | 0, _, _, hB => hB
  | f + 1, i, B, hB => rowsB_lt h f (i + 1) _ (rowB_lt h hB)
def PnM (m : Nat) (P : Nat → Int32) (pk pv : Nat → Nat) : Prop := ∀ i, i < m → P (2 * i) = nI (pk i) ∧ P (2 * i + 1) = nI (pv i) ∧ pk i < 4 ∧ pv i < 256
section MDL7
variable {tO d m0 : Nat} {A : Nat → Nat} {q n cut rows kq kn kc kr fd wn : Nat} {kt yw : Bool} {cu cv ck rm mo bo ki wa wr fo : Int32} {B KB : Nat → Bool} {Wb R KR P KP Od Ig Pk Lt Lk Rd Nx Tp Pa Wy Sz It : Nat → Int32}
theorem s_X12_common : ∀ (b d a : Nat), b + 2 ≤ d → a < 2 ^ 31 → b < 2 ^ 31 → SpP tO MX12_common (d, 0, 0) [.int (nI a), .int (nI b)] [] (some (.int (nI (Nat.gcd b a)))) := by
  intro b
  induction b using Nat.strongRecOn with
  | ind b ih =>
    intro d a hd ha hb
    refine eX12_common [some (.int (nI a)), some (.int (nI b))] rfl (Nat.le_of_ble_eq_true rfl) ?_
    refine V_iload_n dX12_common_0 rfl ?_
    refine V_if_ne_N 8 dX12_common_1 (by decide) hb (fun c_1 => ?_) (fun c_1 => ?_)
    ·
      rw [Nat.gcd_rec]
      have hlt := Nat.mod_lt a c_1
      refine V_iload_n dX12_common_8 rfl ?_
      refine V_iload_n dX12_common_9 rfl ?_
      refine V_iload_n dX12_common_10 rfl ?_
      refine V_irem_N dX12_common_11 (by omega) (by omega) (by omega) ?_
      refine V_callSpi2 [] (ih (a % b) hlt (d - 1) b (by omega) hb (by omega)) gX12_common_X12_common dX12_common_12 oX12_common rfl rfl (Nat.le_of_ble_eq_true rfl) (by omega) ⟨Nat.le_refl _, Nat.le_refl _⟩ ?_
      refine V_iret dX12_common_15 rfl (Nat.le_of_ble_eq_true rfl) (Nat.le_refl _) (Nat.le_refl _) ?_
      exact ⟨rfl, rfl⟩
    ·
      rw [c_1, Nat.gcd_zero_left]
      refine V_iload_n dX12_common_4 rfl ?_
      refine V_goto 15 dX12_common_5 (by decide) ?_
      refine V_iret dX12_common_15 rfl (Nat.le_of_ble_eq_true rfl) (Nat.le_refl _) (Nat.le_refl _) ?_
      exact ⟨rfl, rfl⟩
theorem l_X12_odds_draw (h : OKq q n) (hd : 30 ≤ d) {w0 : zW} {Q : zPo} {v t : Nat} (hv : v ≤ 12) {x2 x3 x4 x5 : Int32} {D : Nat → Bool} (next : V tO MX12_odds (d, 0, 0) w0 Q (0, 0) [obM m0 A q n cut rows kq kn kc kr kt cu cv ck rm mo bo ki wa wr fo fd wn yw, (A 0, aZ 256 (hdF D)), (A 2, aZ 256 Wb)] 132 [some (.ref m0), some (.int (nI v)), some (.int x2), some (.int x3), some (.int x4), some (.int x5), some (.int (nI t)), none, none] []) : ∀ (f i : Nat) (z : Int32) (S : Nat → Bool), i + f = v → drB (q ^ n) f z S = D → V tO MX12_odds (d, 0, 0) w0 Q (0, 0) [obM m0 A q n cut rows kq kn kc kr kt cu cv ck rm mo bo ki wa wr fo fd wn yw, (A 0, aZ 256 (hdF S)), (A 2, aZ 256 Wb)] 93 [some (.ref m0), some (.int (nI v)), some (.int x2), some (.int x3), some (.int x4), some (.int x5), some (.int (nI t)), some (.int z), some (.int (nI i))] [] := by
  have hN := h.2.2.2.2
  have h0 := h.pos n
  intro f
  induction f with
  | zero =>
    intro i z S hi hS
    rw [drB] at hS
    subst hS
    refine V_iload dX12_odds_93 rfl ?_
    refine V_iload_n dX12_odds_95 rfl ?_
    refine V_icmp_ge_N 132 dX12_odds_96 (by decide) (by omega) (by omega) (fun c_96 => ?_) (fun c_96 => absurd c_96 (by omega))
    exact V_wk _ (by exact ⟨rfl, rfl, rfl, rfl, rfl, rfl, rfl, trivial, trivial, trivial⟩) next
  | succ f ih =>
    intro i z S hi hS
    rw [drB] at hS
    have hz := zD_lt (zS z)
    have hm := Nat.mod_lt (zD (zS z)) h0
    have i1 := ih (i + 1) (zS z) _ (by omega) hS
    rw [← hdF_ins] at i1
    refine V_iload dX12_odds_93 rfl ?_
    refine V_iload_n dX12_odds_95 rfl ?_
    refine V_icmp_ge_N 132 dX12_odds_96 (by decide) (by omega) (by omega) (fun c_96 => absurd c_96 (by omega)) (fun c_96 => ?_)
    refine V_iload dX12_odds_99 rfl ?_
    refine V_ldc (v := (nI 1103515245)) dX12_odds_101 (by decide +kernel) ?_
    refine V_imul dX12_odds_103 ?_
    refine V_sipush (v := nI 12345) dX12_odds_104 (by decide) ?_
    refine V_iadd dX12_odds_107 ?_
    refine V_istore dX12_odds_108 (by decide) rfl ?_
    refine V_aload_n dX12_odds_110 rfl ?_
    refine V_get 0 dX12_odds_111 fX12_odds_18 rfl rfl ?_
    refine V_iload dX12_odds_114 rfl ?_
    refine V_bipush (v := nI 16) dX12_odds_116 (by decide) ?_
    refine V_iushr dX12_odds_118 ?_
    refine V_to (zD_eq (zS z)) ?_
    refine V_aload_n dX12_odds_119 rfl ?_
    refine V_callVpi0 [0] (s_X12_words (d := d - 1) (by omega) h) gX12_odds_X12_words dX12_odds_120 oX12_words rfl rfl rfl rfl (Nat.le_of_ble_eq_true rfl) (by omega) ⟨Nat.le_refl _, Nat.le_refl _⟩ ?_
    refine V_irem_N dX12_odds_123 (by omega) (by omega) (by omega) ?_
    refine V_iconst (v := nI 1) dX12_odds_124 (by decide) ?_
    refine V_zast_N 1 dX12_odds_125 rfl (by omega) (by first | decide | omega) (by first | exact Or.inl rfl | exact Or.inr rfl | exact bI_or _) ?_
    first | refine V_iinc_N (i := 1) dX12_odds_126 rfl (by decide) rfl ?_ | refine V_iinc dX12_odds_126 rfl rfl (by decide) rfl ?_
    refine V_goto 93 dX12_odds_129 (by decide) ?_
    exact i1
theorem l_X12_odds_clear {w0 : zW} {Q : zPo} {x1 x2 x3 x4 x5 x6 : Int32} {o8 : Option Value} (next : V tO MX12_odds (d, 0, 0) w0 Q (0, 0) [obM m0 A q n cut rows kq kn kc kr kt cu cv ck rm mo bo ki wa wr fo fd wn yw, (A 0, aZ 256 (hdF (fun _ => false))), (A 2, aZ 256 Wb)] 84 [some (.ref m0), some (.int x1), some (.int x2), some (.int x3), some (.int x4), some (.int x5), some (.int x6), none, none] []) : ∀ (f i : Nat) (Hc : Nat → Int32), i + f = 256 → (∀ j, j < i → Hc j = nI 0) → V tO MX12_odds (d, 0, 0) w0 Q (0, 0) [obM m0 A q n cut rows kq kn kc kr kt cu cv ck rm mo bo ki wa wr fo fd wn yw, (A 0, aZ 256 Hc), (A 2, aZ 256 Wb)] 62 [some (.ref m0), some (.int x1), some (.int x2), some (.int x3), some (.int x4), some (.int x5), some (.int x6), some (.int (nI i)), none] [] := by
  intro f
  induction f with
  | zero =>
    intro i Hc hi hH
    refine V_iload dX12_odds_62 rfl ?_
    refine V_sipush (v := nI 256) dX12_odds_64 (by decide) ?_
    refine V_icmp_ge_N 84 dX12_odds_67 (by decide) (by omega) (by omega) (fun c_67 => ?_) (fun c_67 => absurd c_67 (by omega))
    refine V_agp 1 (hdF (fun _ => false)) rfl (fun j hj => hH j (by omega)) ?_
    exact V_wk _ (by exact ⟨rfl, rfl, rfl, rfl, rfl, rfl, rfl, trivial, trivial, trivial⟩) next
  | succ f ih =>
    intro i Hc hi hH
    refine V_iload dX12_odds_62 rfl ?_
    refine V_sipush (v := nI 256) dX12_odds_64 (by decide) ?_
    refine V_icmp_ge_N 84 dX12_odds_67 (by decide) (by omega) (by omega) (fun c_67 => absurd c_67 (by omega)) (fun c_67 => ?_)
    refine V_aload_n dX12_odds_70 rfl ?_
    refine V_get 0 dX12_odds_71 fX12_odds_18 rfl rfl ?_
    refine V_iload dX12_odds_74 rfl ?_
    refine V_iconst (v := nI 0) dX12_odds_76 (by decide) ?_
    refine V_zast_N 1 dX12_odds_77 rfl (by omega) (by first | decide | omega) (by first | exact Or.inl rfl | exact Or.inr rfl | exact bI_or _) ?_
    first | refine V_iinc_N (i := 1) dX12_odds_78 rfl (by decide) rfl ?_ | refine V_iinc dX12_odds_78 rfl rfl (by decide) rfl ?_
    refine V_goto 62 dX12_odds_81 (by decide) ?_
    exact ih (i + 1) _ (by omega) (fun j hj => upd_fill hH hj)
theorem l_X12_odds_back {w0 : zW} {Q : zPo} {x1 x2 x3 x4 x5 : Int32} (next : V tO MX12_odds (d, 0, 0) w0 Q (0, 0) [obM m0 A q n cut rows kq kn kc kr kt cu cv ck rm mo bo ki wa wr fo fd wn yw, (A 0, aZ 256 (hdF B)), (A 2, aZ 256 (hdF B))] 186 [some (.ref m0), some (.int x1), some (.int x2), some (.int x3), some (.int x4), some (.int x5), none, none, none] []) : ∀ (f i : Nat) (Hc : Nat → Int32), i + f = 256 → (∀ j, j < i → Hc j = hdF B j) → V tO MX12_odds (d, 0, 0) w0 Q (0, 0) [obM m0 A q n cut rows kq kn kc kr kt cu cv ck rm mo bo ki wa wr fo fd wn yw, (A 0, aZ 256 Hc), (A 2, aZ 256 (hdF B))] 158 [some (.ref m0), some (.int x1), some (.int x2), some (.int x3), some (.int x4), some (.int x5), some (.int (nI i)), none, none] [] := by
  intro f
  induction f with
  | zero =>
    intro i Hc hi hH
    refine V_iload dX12_odds_158 rfl ?_
    refine V_sipush (v := nI 256) dX12_odds_160 (by decide) ?_
    refine V_icmp_ge_N 186 dX12_odds_163 (by decide) (by omega) (by omega) (fun c_163 => ?_) (fun c_163 => absurd c_163 (by omega))
    refine V_agp 1 (hdF B) rfl (fun j hj => hH j (by omega)) ?_
    exact V_wk _ (by exact ⟨rfl, rfl, rfl, rfl, rfl, rfl, trivial, trivial, trivial, trivial⟩) next
  | succ f ih =>
    intro i Hc hi hH
    refine V_iload dX12_odds_158 rfl ?_
    refine V_sipush (v := nI 256) dX12_odds_160 (by decide) ?_
    refine V_icmp_ge_N 186 dX12_odds_163 (by decide) (by omega) (by omega) (fun c_163 => absurd c_163 (by omega)) (fun c_163 => ?_)
    refine V_aload_n dX12_odds_166 rfl ?_
    refine V_get 0 dX12_odds_167 fX12_odds_18 rfl rfl ?_
    refine V_iload dX12_odds_170 rfl ?_
    refine V_aload_n dX12_odds_172 rfl ?_
    refine V_get 0 dX12_odds_173 fX12_odds_25 rfl rfl ?_
    refine V_iload dX12_odds_176 rfl ?_
    refine V_zald_N 2 dX12_odds_178 rfl (by omega) (by first | decide | omega) ?_
    refine V_zast_N 1 dX12_odds_179 rfl (by omega) (by first | decide | omega) (by first | exact Or.inl rfl | exact Or.inr rfl | exact bI_or _) ?_
    first | refine V_iinc_N (i := 1) dX12_odds_180 rfl (by decide) rfl ?_ | refine V_iinc dX12_odds_180 rfl rfl (by decide) rfl ?_
    refine V_goto 158 dX12_odds_183 (by decide) ?_
    exact ih (i + 1) _ (by omega) (fun j hj => upd_copy hH hj)
theorem l_X12_odds (hd : 60 ≤ d) (h : OKq q n) {v mm p : Nat} {z : Int32} (hv : v ≤ 12) (hm1 : 1 ≤ mm) (hm : mm ≤ 30) (hp : p ≤ 1) {w0 : zW} (hw0 : w0.length = 3) : ∀ (f t : Nat) (Hc : Nat → Int32) (cu cv ck : Int32), t + f = mm → V tO MX12_odds (d, 0, 0) w0 (fun v' w' => ∃ Wb' cu' cv' ck', v' = some (.long (if p = 0 then nI (ct (odF q n v z) mm / odD q n v z mm) else nI (mm / odD q n v z mm)).toInt64) ∧ w' = [obM m0 A q n cut rows kq kn kc kr kt cu' cv' ck' rm mo bo ki wa wr fo fd wn yw, (A 0, aZ 256 (hdF B)), (A 2, aZ 256 Wb')]) (0, 0) [obM m0 A q n cut rows kq kn kc kr kt cu cv ck rm mo bo ki wa wr fo fd wn yw, (A 0, aZ 256 Hc), (A 2, aZ 256 (hdF B))] 53 [some (.ref m0), some (.int (nI v)), some (.int z), some (.int (nI mm)), some (.int (nI p)), some (.int (nI (ct (odF q n v z) t))), some (.int (nI t)), none, none] [] := by
  have hN := h.2.2.2.2
  have h0 := h.pos n
  have hct := ct_le (odF q n v z)
  intro f
  induction f with
  | zero =>
    intro t Hc cu cv ck ht
    have e : t = mm := by omega
    subst e
    have hg : odD q n v z t = Nat.gcd (ct (odF q n v z) t) t := by
      unfold odD
      exact cd_gcd _ (by have := hct t; omega) t (by omega) hm1
    have hg0 : 0 < Nat.gcd (ct (odF q n v z) t) t := Nat.gcd_pos_of_pos_right _ hm1
    have hg1 : Nat.gcd (ct (odF q n v z) t) t ≤ t := Nat.gcd_le_right _ hm1
    have hc1 := hct t
    rw [hg]
    refine V_iload dX12_odds_53 rfl ?_
    refine V_iload_n dX12_odds_55 rfl ?_
    refine V_icmp_ge_N 155 dX12_odds_56 (by decide) (by omega) (by omega) (fun c_56 => ?_) (fun c_56 => absurd c_56 (by omega))
    refine V_iconst (v := nI 0) dX12_odds_155 (by decide) ?_
    refine V_istore dX12_odds_156 (by decide) rfl ?_
    refine l_X12_odds_back ?_ 256 0 _ (by omega) (fun j hj => absurd hj (by omega))
    refine V_iload dX12_odds_186 rfl ?_
    refine V_if_ne_N 196 dX12_odds_188 (by decide) (by omega) (fun c_188 => ?_) (fun c_188 => ?_)
    · rw [if_neg (show ¬ p = 0 by omega)]
      refine V_iload_n dX12_odds_196 rfl ?_
      refine V_iload_n dX12_odds_197 rfl ?_
      refine V_iload dX12_odds_198 rfl ?_
      refine V_callSpi2 [] (s_X12_common (ct (odF q n v z) t) (d - 1) t (by omega) (by omega) (by omega)) gX12_odds_X12_common dX12_odds_200 oX12_common rfl rfl (Nat.le_of_ble_eq_true rfl) (by omega) ⟨Nat.le_refl _, Nat.le_refl _⟩ ?_
      refine V_idiv_N dX12_odds_203 (by omega) hg0 (by omega) ?_
      refine V_i2l dX12_odds_204 ?_
      refine V_lret dX12_odds_205 rfl (by rw [hw0]; exact Nat.le_of_ble_eq_true rfl) (Nat.le_refl _) (Nat.le_refl _) ?_
      exact ⟨_, _, _, _, rfl, rfl⟩
    · rw [if_pos c_188]
      refine V_iload dX12_odds_191 rfl ?_
      refine V_goto 197 dX12_odds_193 (by decide) ?_
      refine V_iload_n dX12_odds_197 rfl ?_
      refine V_iload dX12_odds_198 rfl ?_
      refine V_callSpi2 [] (s_X12_common (ct (odF q n v z) t) (d - 1) t (by omega) (by omega) (by omega)) gX12_odds_X12_common dX12_odds_200 oX12_common rfl rfl (Nat.le_of_ble_eq_true rfl) (by omega) ⟨Nat.le_refl _, Nat.le_refl _⟩ ?_
      refine V_idiv_N dX12_odds_203 (by omega) hg0 (by omega) ?_
      refine V_i2l dX12_odds_204 ?_
      refine V_lret dX12_odds_205 rfl (by rw [hw0]; exact Nat.le_of_ble_eq_true rfl) (Nat.le_refl _) (Nat.le_refl _) ?_
      exact ⟨_, _, _, _, rfl, rfl⟩
  | succ f ih =>
    intro t Hc cu cv ck ht
    have hD := drB_lt h0 v (z + nI t) (fun _ => false) (fun w hw => by cases hw)
    have i2 : V tO MX12_odds (d, 0, 0) w0 (fun v' w' => ∃ Wb' cu' cv' ck', v' = some (.long (if p = 0 then nI (ct (odF q n v z) mm / odD q n v z mm) else nI (mm / odD q n v z mm)).toInt64) ∧ w' = [obM m0 A q n cut rows kq kn kc kr kt cu' cv' ck' rm mo bo ki wa wr fo fd wn yw, (A 0, aZ 256 (hdF B)), (A 2, aZ 256 Wb')]) (0, 0) [obM m0 A q n cut rows kq kn kc kr kt cu cv ck rm mo bo ki wa wr fo fd wn yw, (A 0, aZ 256 (hdF (drB (q ^ n) v (z + nI t) (fun _ => false)))), (A 2, aZ 256 (hdF B))] 132 [some (.ref m0), some (.int (nI v)), some (.int z), some (.int (nI mm)), some (.int (nI p)), some (.int (nI (ct (odF q n v z) t))), some (.int (nI t)), none, none] [] := by
      refine V_iload dX12_odds_132 rfl ?_
      refine V_aload_n dX12_odds_134 rfl ?_
      refine V_callV0 [0, 1] (s_X12_isFree (d := d - 1) (by omega) h hD) gX12_odds_X12_isFree dX12_odds_135 oX12_isFree rfl rfl rfl rfl (Nat.le_of_ble_eq_true rfl) (by omega) ⟨Nat.le_refl _, Nat.le_refl _⟩ ?_
      rintro _ _ ⟨cu', cv', ck', rfl, rfl, -⟩
      simp only [zput_n, zput_c, zset_0, zset_1, Option.toList, List.cons_append, List.nil_append]
      have i1 := ih (t + 1) (hdF (drB (q ^ n) v (z + nI t) (fun _ => false))) cu' cv' ck' (by omega)
      rw [ct_succ _ t] at i1
      first | refine V_if_eq_B 145 dX12_odds_138 (by decide) (fun c_138 => ?_) (fun c_138 => ?_) | refine V_if_eq_N 145 dX12_odds_138 (by decide) (by omega) (fun c_138 => ?_) (fun c_138 => ?_) | refine V_if_eq 145 dX12_odds_138 (by decide) (fun c_138 => ?_) (fun c_138 => ?_)
      ·
        rw [show odF q n v z t = false from c_138, if_neg Bool.false_ne_true] at i1
        refine V_iconst (v := nI 0) dX12_odds_145 (by decide) ?_
        first | refine V_iadd_N dX12_odds_146 ?_ | refine V_iadd dX12_odds_146 ?_
        refine V_istore dX12_odds_147 (by decide) rfl ?_
        first | refine V_iinc_N (i := 1) dX12_odds_149 rfl (by decide) rfl ?_ | refine V_iinc dX12_odds_149 rfl rfl (by decide) rfl ?_
        refine V_goto 53 dX12_odds_152 (by decide) ?_
        exact i1
      ·
        rw [show odF q n v z t = true from c_138, if_pos rfl] at i1
        refine V_iconst (v := nI 1) dX12_odds_141 (by decide) ?_
        refine V_goto 146 dX12_odds_142 (by decide) ?_
        first | refine V_iadd_N dX12_odds_146 ?_ | refine V_iadd dX12_odds_146 ?_
        refine V_istore dX12_odds_147 (by decide) rfl ?_
        first | refine V_iinc_N (i := 1) dX12_odds_149 rfl (by decide) rfl ?_ | refine V_iinc dX12_odds_149 rfl rfl (by decide) rfl ?_
        refine V_goto 53 dX12_odds_152 (by decide) ?_
        exact i1
    refine V_iload dX12_odds_53 rfl ?_
    refine V_iload_n dX12_odds_55 rfl ?_
    refine V_icmp_ge_N 155 dX12_odds_56 (by decide) (by omega) (by omega) (fun c_56 => absurd c_56 (by omega)) (fun c_56 => ?_)
    refine V_iconst (v := nI 0) dX12_odds_59 (by decide) ?_
    refine V_istore dX12_odds_60 (by decide) rfl ?_
    refine l_X12_odds_clear (o8 := none) ?_ 256 0 _ (by omega) (fun j hj => absurd hj (by omega))
    refine V_iload_n dX12_odds_84 rfl ?_
    refine V_iload dX12_odds_85 rfl ?_
    refine V_iadd dX12_odds_87 ?_
    refine V_istore dX12_odds_88 (by decide) rfl ?_
    refine V_iconst (v := nI 0) dX12_odds_90 (by decide) ?_
    refine V_istore dX12_odds_91 (by decide) rfl ?_
    exact l_X12_odds_draw h (by omega) hv i2 v 0 _ _ (by omega) rfl
theorem s_X12_odds (hd : 60 ≤ d) (h : OKq q n) {x z y p : Int32} : Sp tO MX12_odds (d, 0, 0) [.ref m0, .int x, .int z, .int y, .int p] [obM m0 A q n cut rows kq kn kc kr kt cu cv ck rm mo bo ki wa wr fo fd wn yw, (A 0, aZ 256 (hdF B)), (A 2, aZ 256 Wb)] (fun v' w' => ∃ Wb' cu' cv' ck', v' = some (.long (odV q n x z y p)) ∧ w' = [obM m0 A q n cut rows kq kn kc kr kt cu' cv' ck' rm mo bo ki wa wr fo fd wn yw, (A 0, aZ 256 (hdF B)), (A 2, aZ 256 Wb')]) := by
  refine eX12_odds [some (.ref m0), some (.int x), some (.int z), some (.int y), some (.int p), none, none, none, none] rfl (Nat.le_of_ble_eq_true rfl) ?_
  unfold odV
  refine V_iload_n dX12_odds_0 rfl ?_
  refine V_i2l dX12_odds_1 ?_
  refine V_lconst (v := 1) dX12_odds_2 (by decide) ?_
  refine V_ldc2 (v := 12) dX12_odds_3 (by decide +kernel) ?_
  refine V_callSpi3 [] (s_X12_isInL (d := d - 1) (by omega) (lo := 1) (hi := 12) (by decide) (by decide)) gX12_odds_X12_isIn dX12_odds_6 oX12_isIn rfl rfl (Nat.le_of_ble_eq_true rfl) (by omega) ⟨Nat.le_refl _, Nat.le_refl _⟩ ?_
  first | refine V_if_eq_B 35 dX12_odds_9 (by decide) (fun c_9 => ?_) (fun c_9 => ?_) | refine V_if_eq_N 35 dX12_odds_9 (by decide) (by omega) (fun c_9 => ?_) (fun c_9 => ?_) | refine V_if_eq 35 dX12_odds_9 (by decide) (fun c_9 => ?_) (fun c_9 => ?_)
  ·
    rw [show odOK x y p = false by unfold odOK; exact decide_eq_false (fun hh => of_decide_eq_false c_9 (by omega))]
    refine V_ldc2 (v := Int64.minValue) dX12_odds_35 (by decide +kernel) ?_
    refine V_lret dX12_odds_38 rfl (Nat.le_of_ble_eq_true rfl) (Nat.le_refl _) (Nat.le_refl _) ?_
    exact ⟨_, _, _, _, rfl, rfl⟩
  ·
    refine V_iload_n dX12_odds_12 rfl ?_
    refine V_i2l dX12_odds_13 ?_
    refine V_lconst (v := 1) dX12_odds_14 (by decide) ?_
    refine V_ldc2 (v := 30) dX12_odds_15 (by decide +kernel) ?_
    refine V_callSpi3 [] (s_X12_isInL (d := d - 1) (by omega) (lo := 1) (hi := 30) (by decide) (by decide)) gX12_odds_X12_isIn dX12_odds_18 oX12_isIn rfl rfl (Nat.le_of_ble_eq_true rfl) (by omega) ⟨Nat.le_refl _, Nat.le_refl _⟩ ?_
    first | refine V_if_eq_B 35 dX12_odds_21 (by decide) (fun c_21 => ?_) (fun c_21 => ?_) | refine V_if_eq_N 35 dX12_odds_21 (by decide) (by omega) (fun c_21 => ?_) (fun c_21 => ?_) | refine V_if_eq 35 dX12_odds_21 (by decide) (fun c_21 => ?_) (fun c_21 => ?_)
    ·
      rw [show odOK x y p = false by unfold odOK; exact decide_eq_false (fun hh => of_decide_eq_false c_21 (by omega))]
      refine V_ldc2 (v := Int64.minValue) dX12_odds_35 (by decide +kernel) ?_
      refine V_lret dX12_odds_38 rfl (Nat.le_of_ble_eq_true rfl) (Nat.le_refl _) (Nat.le_refl _) ?_
      exact ⟨_, _, _, _, rfl, rfl⟩
    ·
      refine V_iload dX12_odds_24 rfl ?_
      refine V_i2l dX12_odds_26 ?_
      refine V_lconst (v := 0) dX12_odds_27 (by decide) ?_
      refine V_lconst (v := 1) dX12_odds_28 (by decide) ?_
      refine V_callSpi3 [] (s_X12_isInL (d := d - 1) (by omega) (lo := 0) (hi := 1) (by decide) (by decide)) gX12_odds_X12_isIn dX12_odds_29 oX12_isIn rfl rfl (Nat.le_of_ble_eq_true rfl) (by omega) ⟨Nat.le_refl _, Nat.le_refl _⟩ ?_
      first | refine V_if_ne_B 39 dX12_odds_32 (by decide) (fun c_32 => ?_) (fun c_32 => ?_) | refine V_if_ne_N 39 dX12_odds_32 (by decide) (by omega) (fun c_32 => ?_) (fun c_32 => ?_) | refine V_if_ne 39 dX12_odds_32 (by decide) (fun c_32 => ?_) (fun c_32 => ?_)
      ·
        have h9 := of_decide_eq_true c_9
        have h21 := of_decide_eq_true c_21
        have h32 := of_decide_eq_true c_32
        rw [show odOK x y p = true by unfold odOK; exact decide_eq_true (by omega), if_pos rfl]
        obtain ⟨v, hv, rfl⟩ := isW_of (N := 13) (x := x) (by unfold isW; exact decide_eq_true (by omega))
        obtain ⟨mm, hmm, rfl⟩ := isW_of (N := 31) (x := y) (by unfold isW; exact decide_eq_true (by omega))
        obtain ⟨p, hp, rfl⟩ := isW_of (N := 2) (x := p) (by unfold isW; exact decide_eq_true (by omega))
        rw [toNat_nI (w := v) (by omega), toNat_nI (w := mm) (by omega)]
        have ep : ((nI p).toInt = 0) ↔ p = 0 := by rw [nI_toInt (by omega)]; omega
        simp only [ep]
        rw [nI_toInt (by omega)] at h9 h21
        refine V_aload_n dX12_odds_39 rfl ?_
        refine V_aload_n dX12_odds_40 rfl ?_
        refine V_get 0 dX12_odds_41 fX12_odds_25 rfl rfl ?_
        refine V_callVfv1 [0, 1, 2] (s_X12_keepsBook (d := d - 1) (by omega) ) gX12_odds_X12_keepsBook dX12_odds_44 oX12_keepsBook rfl rfl rfl rfl (Nat.le_of_ble_eq_true rfl) (by omega) ⟨Nat.le_refl _, Nat.le_refl _⟩ ?_
        simp only [List.cons_append, List.nil_append, zput_n, zput_c, zset_0, zset_1, zset_2]
        refine V_iconst (v := nI 0) dX12_odds_47 (by decide) ?_
        refine V_istore dX12_odds_48 (by decide) rfl ?_
        refine V_iconst (v := nI 0) dX12_odds_50 (by decide) ?_
        refine V_istore dX12_odds_51 (by decide) rfl ?_
        exact l_X12_odds hd h (by omega) (by omega) (by omega) (by omega) rfl mm 0 _ cu cv ck (by omega)
      ·
        rw [show odOK x y p = false by unfold odOK; exact decide_eq_false (fun hh => of_decide_eq_false c_32 (by omega))]
        refine V_ldc2 (v := Int64.minValue) dX12_odds_35 (by decide +kernel) ?_
        refine V_lret dX12_odds_38 rfl (Nat.le_of_ble_eq_true rfl) (Nat.le_refl _) (Nat.le_refl _) ?_
        exact ⟨_, _, _, _, rfl, rfl⟩
theorem s_X12_plan (hd : 2 ≤ d) (hm : rows ≤ 8) {pk pv : Nat → Nat} (hP : PnM rows P pk pv) {x y : Int32} : Sp tO MX12_plan (d, 0, 0) [.ref m0, .int x, .int y] [obM m0 A q n cut rows kq kn kc kr kt cu cv ck rm mo bo ki wa wr fo fd wn yw, (A 5, aI 16 P)] (fun v' w' => ∃ P', v' = some (.int (plV rows x y)) ∧ w' = [obM m0 A q n cut (plN rows x y) kq kn kc kr kt cu cv ck rm mo bo ki wa wr fo fd wn yw, (A 5, aI 16 P')] ∧ PnM (plN rows x y) P' (plP rows x y x pk) (plP rows x y y pv)) := by
  refine eX12_plan [some (.ref m0), some (.int x), some (.int y)] rfl (Nat.le_of_ble_eq_true rfl) ?_
  unfold plV plN plP
  have fin : isW 4 x = true → isW (plE x) y = true → rows < 8 → PnM (rows + 1) (upd (upd P (2 * rows) x) (2 * rows + 1) y) (updN pk rows x.toInt.toNat) (updN pv rows y.toInt.toNat) := fun hx hy hm8 j hj => by
    obtain ⟨c, hc, rfl⟩ := isW_of hx
    obtain ⟨v, hv, rfl⟩ := isW_of hy
    have h1 : plE (nI c) ≤ 256 := by unfold plE; split <;> omega
    rw [toNat_nI (by omega), toNat_nI (by omega)]
    unfold upd updN
    by_cases e : j = rows
    · subst e
      rw [if_neg (by omega), if_pos rfl, if_pos rfl, if_pos rfl, if_pos rfl]; exact ⟨rfl, rfl, by omega, by omega⟩
    · rw [if_neg (show ¬ 2 * j = 2 * rows + 1 by omega), if_neg (show ¬ 2 * j = 2 * rows by omega), if_neg (show ¬ 2 * j + 1 = 2 * rows + 1 by omega), if_neg (show ¬ 2 * j + 1 = 2 * rows by omega), if_neg e, if_neg e]; exact hP j (by omega)
  refine V_iload_n dX12_plan_0 rfl ?_
  refine V_iconst (v := -1) dX12_plan_1 (by decide) ?_
  refine V_icmp_ne 12 dX12_plan_2 (by decide) (fun c_2 => ?_) (fun c_2 => ?_)
  ·
    have c_2 : ¬ x.toInt = -1 := fun hh => c_2 (z_eqm1.mpr hh)
    rw [if_neg c_2, if_neg c_2, if_neg c_2, if_neg c_2]
    refine V_iload_n dX12_plan_12 rfl ?_
    refine V_i2l dX12_plan_13 ?_
    refine V_lconst (v := 0) dX12_plan_14 (by decide) ?_
    refine V_ldc2 (v := 3) dX12_plan_15 (by decide +kernel) ?_
    refine V_callSpi3 [] (s_X12_isInK (d := d - 1) (by omega) (k := 3) (by decide)) gX12_plan_X12_isIn dX12_plan_18 oX12_isIn rfl rfl (Nat.le_of_ble_eq_true rfl) (by omega) ⟨Nat.le_refl _, Nat.le_refl _⟩ ?_
    first | refine V_if_ne_B 26 dX12_plan_21 (by decide) (fun c_21 => ?_) (fun c_21 => ?_) | refine V_if_ne_N 26 dX12_plan_21 (by decide) (by omega) (fun c_21 => ?_) (fun c_21 => ?_) | refine V_if_ne 26 dX12_plan_21 (by decide) (fun c_21 => ?_) (fun c_21 => ?_)
    ·
      have c_21 : isW 4 x = true := c_21
      rw [c_21, if_pos rfl, if_pos rfl, if_pos rfl, if_pos rfl]
      refine V_iload_n dX12_plan_26 rfl ?_
      refine V_i2l dX12_plan_27 ?_
      refine V_lconst (v := 0) dX12_plan_28 (by decide) ?_
      refine V_iload_n dX12_plan_29 rfl ?_
      refine V_iconst (v := nI 2) dX12_plan_30 (by decide) ?_
      refine V_icmp_ne 40 dX12_plan_31 (by decide) (fun c_31 => ?_) (fun c_31 => ?_)
      ·
        have hE : plE x = 256 := by unfold plE; rw [if_neg (show ¬ x.toInt = 2 from fun hh => c_31 ((z_eq (by decide)).mpr hh))]
        refine V_ldc2 (v := 255) dX12_plan_40 (by decide +kernel) ?_
        refine V_callSpi3 [] (s_X12_isInK (d := d - 1) (by omega) (k := plE x - 1) (by rw [hE]; decide)) gX12_plan_X12_isIn dX12_plan_43 oX12_isIn rfl rfl (Nat.le_of_ble_eq_true rfl) (by omega) ⟨Nat.le_refl _, Nat.le_refl _⟩ ?_
        first | refine V_if_ne_B 52 dX12_plan_46 (by decide) (fun c_46 => ?_) (fun c_46 => ?_) | refine V_if_ne_N 52 dX12_plan_46 (by decide) (by omega) (fun c_46 => ?_) (fun c_46 => ?_) | refine V_if_ne 52 dX12_plan_46 (by decide) (fun c_46 => ?_) (fun c_46 => ?_)
        ·
          have c_46 : isW (plE x) y = true := by rw [hE] at c_46 ⊢; exact c_46
          rw [c_46, if_pos rfl, if_pos rfl, if_pos rfl, if_pos rfl]
          refine V_aload_n dX12_plan_52 rfl ?_
          refine V_get 0 dX12_plan_53 fX12_plan_98 rfl rfl ?_
          refine V_bipush (v := nI 8) dX12_plan_56 (by decide) ?_
          refine V_icmp_ne_N 64 dX12_plan_58 (by decide) (by omega) (by decide) (fun c_58 => ?_) (fun c_58 => ?_)
          ·
            rw [if_pos (by omega), if_pos (by omega), if_pos (by omega), if_pos (by omega)]
            refine V_aload_n dX12_plan_64 rfl ?_
            refine V_get 0 dX12_plan_65 fX12_plan_35 rfl rfl ?_
            refine V_iconst (v := nI 2) dX12_plan_68 (by decide) ?_
            refine V_aload_n dX12_plan_69 rfl ?_
            refine V_get 0 dX12_plan_70 fX12_plan_98 rfl rfl ?_
            first | refine V_imul_N dX12_plan_73 ?_ | refine V_imul dX12_plan_73 ?_
            refine V_iload_n dX12_plan_74 rfl ?_
            refine V_iast_N 1 dX12_plan_75 rfl (by omega) (by first | decide | omega) ?_
            refine V_aload_n dX12_plan_76 rfl ?_
            refine V_get 0 dX12_plan_77 fX12_plan_35 rfl rfl ?_
            refine V_iconst (v := nI 2) dX12_plan_80 (by decide) ?_
            refine V_aload_n dX12_plan_81 rfl ?_
            refine V_get 0 dX12_plan_82 fX12_plan_98 rfl rfl ?_
            first | refine V_imul_N dX12_plan_85 ?_ | refine V_imul dX12_plan_85 ?_
            refine V_iconst (v := nI 1) dX12_plan_86 (by decide) ?_
            first | refine V_iadd_N dX12_plan_87 ?_ | refine V_iadd dX12_plan_87 ?_
            refine V_iload_n dX12_plan_88 rfl ?_
            refine V_iast_N 1 dX12_plan_89 rfl (by omega) (by first | decide | omega) ?_
            refine V_aload_n dX12_plan_90 rfl ?_
            refine V_dup dX12_plan_91 rfl ?_
            refine V_get 0 dX12_plan_92 fX12_plan_98 rfl rfl ?_
            refine V_iconst (v := nI 1) dX12_plan_95 (by decide) ?_
            first | refine V_iadd_N dX12_plan_96 ?_ | refine V_iadd dX12_plan_96 ?_
            refine V_put 0 dX12_plan_97 fX12_plan_98 ft_10_3 rfl rfl rfl (Nat.le_of_ble_eq_true rfl) ?_
            refine V_aload_n dX12_plan_100 rfl ?_
            refine V_get 0 dX12_plan_101 fX12_plan_98 rfl rfl ?_
            refine V_iret dX12_plan_104 rfl (Nat.le_of_ble_eq_true rfl) (Nat.le_refl _) (Nat.le_refl _) ?_
            exact ⟨_, rfl, rfl, fin c_21 c_46 (by omega)⟩
          ·
            rw [if_neg (by omega), if_neg (by omega), if_neg (by omega), if_neg (by omega)]
            refine V_bipush (v := (-4)) dX12_plan_61 (by decide) ?_
            refine V_iret dX12_plan_63 rfl (Nat.le_of_ble_eq_true rfl) (Nat.le_refl _) (Nat.le_refl _) ?_
            exact ⟨P, rfl, rfl, hP⟩
        ·
          have c_46 : isW (plE x) y = false := by rw [hE] at c_46 ⊢; exact c_46
          rw [c_46]
          refine V_bipush (v := (-2)) dX12_plan_49 (by decide) ?_
          refine V_iret dX12_plan_51 rfl (Nat.le_of_ble_eq_true rfl) (Nat.le_refl _) (Nat.le_refl _) ?_
          exact ⟨P, rfl, rfl, hP⟩
      ·
        have hE : plE x = 48 := by unfold plE; rw [if_pos (show x.toInt = 2 from (z_eq (by decide)).mp c_31)]
        refine V_ldc2 (v := 47) dX12_plan_34 (by decide +kernel) ?_
        refine V_goto 43 dX12_plan_37 (by decide) ?_
        refine V_callSpi3 [] (s_X12_isInK (d := d - 1) (by omega) (k := plE x - 1) (by rw [hE]; decide)) gX12_plan_X12_isIn dX12_plan_43 oX12_isIn rfl rfl (Nat.le_of_ble_eq_true rfl) (by omega) ⟨Nat.le_refl _, Nat.le_refl _⟩ ?_
        first | refine V_if_ne_B 52 dX12_plan_46 (by decide) (fun c_46 => ?_) (fun c_46 => ?_) | refine V_if_ne_N 52 dX12_plan_46 (by decide) (by omega) (fun c_46 => ?_) (fun c_46 => ?_) | refine V_if_ne 52 dX12_plan_46 (by decide) (fun c_46 => ?_) (fun c_46 => ?_)
        ·
          have c_46 : isW (plE x) y = true := by rw [hE] at c_46 ⊢; exact c_46
          rw [c_46, if_pos rfl, if_pos rfl, if_pos rfl, if_pos rfl]
          refine V_aload_n dX12_plan_52 rfl ?_
          refine V_get 0 dX12_plan_53 fX12_plan_98 rfl rfl ?_
          refine V_bipush (v := nI 8) dX12_plan_56 (by decide) ?_
          refine V_icmp_ne_N 64 dX12_plan_58 (by decide) (by omega) (by decide) (fun c_58 => ?_) (fun c_58 => ?_)
          ·
            rw [if_pos (by omega), if_pos (by omega), if_pos (by omega), if_pos (by omega)]
            refine V_aload_n dX12_plan_64 rfl ?_
            refine V_get 0 dX12_plan_65 fX12_plan_35 rfl rfl ?_
            refine V_iconst (v := nI 2) dX12_plan_68 (by decide) ?_
            refine V_aload_n dX12_plan_69 rfl ?_
            refine V_get 0 dX12_plan_70 fX12_plan_98 rfl rfl ?_
            first | refine V_imul_N dX12_plan_73 ?_ | refine V_imul dX12_plan_73 ?_
            refine V_iload_n dX12_plan_74 rfl ?_
            refine V_iast_N 1 dX12_plan_75 rfl (by omega) (by first | decide | omega) ?_
            refine V_aload_n dX12_plan_76 rfl ?_
            refine V_get 0 dX12_plan_77 fX12_plan_35 rfl rfl ?_
            refine V_iconst (v := nI 2) dX12_plan_80 (by decide) ?_
            refine V_aload_n dX12_plan_81 rfl ?_
            refine V_get 0 dX12_plan_82 fX12_plan_98 rfl rfl ?_
            first | refine V_imul_N dX12_plan_85 ?_ | refine V_imul dX12_plan_85 ?_
            refine V_iconst (v := nI 1) dX12_plan_86 (by decide) ?_
            first | refine V_iadd_N dX12_plan_87 ?_ | refine V_iadd dX12_plan_87 ?_
            refine V_iload_n dX12_plan_88 rfl ?_
            refine V_iast_N 1 dX12_plan_89 rfl (by omega) (by first | decide | omega) ?_
            refine V_aload_n dX12_plan_90 rfl ?_
            refine V_dup dX12_plan_91 rfl ?_
            refine V_get 0 dX12_plan_92 fX12_plan_98 rfl rfl ?_
            refine V_iconst (v := nI 1) dX12_plan_95 (by decide) ?_
            first | refine V_iadd_N dX12_plan_96 ?_ | refine V_iadd dX12_plan_96 ?_
            refine V_put 0 dX12_plan_97 fX12_plan_98 ft_10_3 rfl rfl rfl (Nat.le_of_ble_eq_true rfl) ?_
            refine V_aload_n dX12_plan_100 rfl ?_
            refine V_get 0 dX12_plan_101 fX12_plan_98 rfl rfl ?_
            refine V_iret dX12_plan_104 rfl (Nat.le_of_ble_eq_true rfl) (Nat.le_refl _) (Nat.le_refl _) ?_
            exact ⟨_, rfl, rfl, fin c_21 c_46 (by omega)⟩
          ·
            rw [if_neg (by omega), if_neg (by omega), if_neg (by omega), if_neg (by omega)]
            refine V_bipush (v := (-4)) dX12_plan_61 (by decide) ?_
            refine V_iret dX12_plan_63 rfl (Nat.le_of_ble_eq_true rfl) (Nat.le_refl _) (Nat.le_refl _) ?_
            exact ⟨P, rfl, rfl, hP⟩
        ·
          have c_46 : isW (plE x) y = false := by rw [hE] at c_46 ⊢; exact c_46
          rw [c_46]
          refine V_bipush (v := (-2)) dX12_plan_49 (by decide) ?_
          refine V_iret dX12_plan_51 rfl (Nat.le_of_ble_eq_true rfl) (Nat.le_refl _) (Nat.le_refl _) ?_
          exact ⟨P, rfl, rfl, hP⟩
    ·
      have c_21 : isW 4 x = false := c_21
      rw [c_21]
      refine V_iconst (v := -1) dX12_plan_24 (by decide) ?_
      refine V_iret dX12_plan_25 rfl (Nat.le_of_ble_eq_true rfl) (Nat.le_refl _) (Nat.le_refl _) ?_
      exact ⟨P, rfl, rfl, hP⟩
  ·
    have c_2 := z_eqm1.mp c_2
    rw [if_pos c_2, if_pos c_2, if_pos c_2, if_pos c_2]
    refine V_aload_n dX12_plan_5 rfl ?_
    refine V_iconst (v := nI 0) dX12_plan_6 (by decide) ?_
    refine V_put 0 dX12_plan_7 fX12_plan_98 ft_10_3 rfl rfl rfl (Nat.le_of_ble_eq_true rfl) ?_
    refine V_iconst (v := nI 0) dX12_plan_10 (by decide) ?_
    refine V_iret dX12_plan_11 rfl (Nat.le_of_ble_eq_true rfl) (Nat.le_refl _) (Nat.le_refl _) ?_
    exact ⟨P, rfl, rfl, fun i hi => absurd hi (by omega)⟩
theorem s_X12_does (hd : 8 ≤ d) (h : OKq q n) (hB : ∀ w, B w = true → w < q ^ n) {k v : Nat} (hk : k < 4) (hv : v < 256) : Sp tO MX12_does (d, 0, 0) [.ref m0, .int (nI k), .int (nI v)] [obM m0 A q n cut rows kq kn kc kr kt cu cv ck rm mo bo ki wa wr fo fd wn yw, (A 0, aZ 256 (hdF B)), (A 7, aI 4 Od), (A 8, aZ 256 Ig)] (fun v' w' => ∃ cu' cv' ck' Od' Ig', v' = none ∧ w' = [obM m0 A q n cut rows kq kn kc kr kt cu' cv' ck' rm mo bo ki wa wr fo fd wn yw, (A 0, aZ 256 (hdF (rowB q n k v B))), (A 7, aI 4 Od'), (A 8, aZ 256 Ig')]) := by
  refine eX12_does [some (.ref m0), some (.int (nI k)), some (.int (nI v))] rfl (Nat.le_of_ble_eq_true rfl) ?_
  have hN := h.2.2.2.2
  have hws := isW_nI (N := nSw q) (w := v) (by omega)
  have hww := isW_nI (N := q ^ n) (w := v) (by omega)
  unfold rowB
  refine V_iload_n dX12_does_0 rfl ?_
  refine V_iconst (v := nI 2) dX12_does_1 (by decide) ?_
  refine V_icmp_ne_N 25 dX12_does_2 (by decide) (by omega) (by decide) (fun c_2 => ?_) (fun c_2 => ?_)
  ·
    refine V_aload_n dX12_does_25 rfl ?_
    refine V_iload_n dX12_does_26 rfl ?_
    refine V_callVpi1 [0] (s_X12_isWord (d := d - 1) (by omega) h) gX12_does_X12_isWord dX12_does_27 oX12_isWord rfl rfl rfl rfl (Nat.le_of_ble_eq_true rfl) (by omega) ⟨Nat.le_refl _, Nat.le_refl _⟩ ?_
    rw [hww]
    first | refine V_if_eq_B 70 dX12_does_30 (by decide) (fun c_30 => ?_) (fun c_30 => ?_) | refine V_if_eq_N 70 dX12_does_30 (by decide) (by omega) (fun c_30 => ?_) (fun c_30 => ?_) | refine V_if_eq 70 dX12_does_30 (by decide) (fun c_30 => ?_) (fun c_30 => ?_)
    ·
      have hnw := of_decide_eq_false c_30
      have hbf : B v = false := Bool.eq_false_iff.mpr (fun hh => hnw (hB v hh))
      have e : (if k = 0 then (if v < q ^ n then insB B v else B) else if k = 1 then delB B v else if k = 2 then (if v < nSw q then imB q n v B else B) else if alB q n B v then insB B v else B) = B := by
        by_cases k0 : k = 0
        · rw [if_pos k0, if_neg hnw]
        · rw [if_neg k0]
          by_cases k1 : k = 1
          · rw [if_pos k1, delB_id hbf]
          · rw [if_neg k1, if_neg c_2, if_neg (show ¬ alB q n B v = true from fun hh => hnw (dB_t.mp hh).1)]
      rw [e]
      refine V_vret dX12_does_70 rfl (Nat.le_of_ble_eq_true rfl) (Nat.le_refl _) (Nat.le_refl _) ?_
      first
      | exact ⟨_, _, _, _, _, rfl, rfl⟩
      | (rw [e9]; exact ⟨_, _, _, _, _, rfl, rfl⟩)
    ·
      have hw := of_decide_eq_true c_30
      refine V_aload_n dX12_does_33 rfl ?_
      refine V_get 0 dX12_does_34 fX12_does_18 rfl rfl ?_
      refine V_iload_n dX12_does_37 rfl ?_
      refine V_iload_n dX12_does_38 rfl ?_
      refine V_if_eq_N 64 dX12_does_39 (by decide) (by omega) (fun c_39 => ?_) (fun c_39 => ?_)
      ·
        rw [if_pos c_39, if_pos hw, ← hdF_ins]
        refine V_iconst (v := nI 1) dX12_does_64 (by decide) ?_
        refine V_goto 69 dX12_does_65 (by decide) ?_
        refine V_zast_N 1 dX12_does_69 rfl (by omega) (by first | decide | omega) (by first | exact Or.inl rfl | exact Or.inr rfl | exact bI_or _) ?_
        refine V_vret dX12_does_70 rfl (Nat.le_of_ble_eq_true rfl) (Nat.le_refl _) (Nat.le_refl _) ?_
        first
        | exact ⟨_, _, _, _, _, rfl, rfl⟩
        | (rw [e9]; exact ⟨_, _, _, _, _, rfl, rfl⟩)
      ·
        rw [if_neg (show ¬ k = 0 by omega)]
        refine V_iload_n dX12_does_42 rfl ?_
        refine V_iconst (v := nI 3) dX12_does_43 (by decide) ?_
        refine V_icmp_ne_N 68 dX12_does_44 (by decide) (by omega) (by decide) (fun c_44 => ?_) (fun c_44 => ?_)
        ·
          rw [if_pos (show k = 1 by omega), ← hdF_del]
          refine V_iconst (v := nI 0) dX12_does_68 (by decide) ?_
          refine V_zast_N 1 dX12_does_69 rfl (by omega) (by first | decide | omega) (by first | exact Or.inl rfl | exact Or.inr rfl | exact bI_or _) ?_
          refine V_vret dX12_does_70 rfl (Nat.le_of_ble_eq_true rfl) (Nat.le_refl _) (Nat.le_refl _) ?_
          first
          | exact ⟨_, _, _, _, _, rfl, rfl⟩
          | (rw [e9]; exact ⟨_, _, _, _, _, rfl, rfl⟩)
        ·
          rw [if_neg (show ¬ k = 1 by omega), if_neg (show ¬ k = 2 by omega)]
          refine V_aload_n dX12_does_47 rfl ?_
          refine V_get 0 dX12_does_48 fX12_does_18 rfl rfl ?_
          refine V_iload_n dX12_does_51 rfl ?_
          refine V_zald_N 1 dX12_does_52 rfl (by omega) (by first | decide | omega) ?_
          first | refine V_if_ne_B 64 dX12_does_53 (by decide) (fun c_53 => ?_) (fun c_53 => ?_) | refine V_if_ne_N 64 dX12_does_53 (by decide) (by omega) (fun c_53 => ?_) (fun c_53 => ?_) | refine V_if_ne 64 dX12_does_53 (by decide) (fun c_53 => ?_) (fun c_53 => ?_)
          ·
            have hal : alB q n B v = false := dB_f.mpr (fun hh => by rw [hh.2.1] at c_53; cases c_53)
            rw [if_neg (by rw [hal]; exact Bool.false_ne_true)]
            have e9 : upd (hdF B) v (nI 1) = hdF B := by rw [hdF_ins, insB_id c_53]
            refine V_iconst (v := nI 1) dX12_does_64 (by decide) ?_
            refine V_goto 69 dX12_does_65 (by decide) ?_
            refine V_zast_N 1 dX12_does_69 rfl (by omega) (by first | decide | omega) (by first | exact Or.inl rfl | exact Or.inr rfl | exact bI_or _) ?_
            refine V_vret dX12_does_70 rfl (Nat.le_of_ble_eq_true rfl) (Nat.le_refl _) (Nat.le_refl _) ?_
            first
            | exact ⟨_, _, _, _, _, rfl, rfl⟩
            | (rw [e9]; exact ⟨_, _, _, _, _, rfl, rfl⟩)
          ·
            refine V_aload_n dX12_does_56 rfl ?_
            refine V_iload_n dX12_does_57 rfl ?_
            refine V_callV1 [0, 1] (s_X12_mayCome (d := d - 1) (by omega) h hB hw) gX12_does_X12_mayCome dX12_does_58 oX12_mayCome rfl rfl rfl rfl (Nat.le_of_ble_eq_true rfl) (by omega) ⟨Nat.le_refl _, Nat.le_refl _⟩ ?_
            rintro _ _ ⟨cu', cv', ck', rfl, rfl⟩
            simp only [zput_n, zput_c, zset_0, zset_1, Option.toList, List.cons_append, List.nil_append]
            first | refine V_if_eq_B 68 dX12_does_61 (by decide) (fun c_61 => ?_) (fun c_61 => ?_) | refine V_if_eq_N 68 dX12_does_61 (by decide) (by omega) (fun c_61 => ?_) (fun c_61 => ?_) | refine V_if_eq 68 dX12_does_61 (by decide) (fun c_61 => ?_) (fun c_61 => ?_)
            ·
              rw [if_neg (by rw [c_61]; exact Bool.false_ne_true)]
              have hbf : B v = false := c_53
              have e9 : upd (hdF B) v (nI 0) = hdF B := by rw [hdF_del, delB_id hbf]
              refine V_iconst (v := nI 0) dX12_does_68 (by decide) ?_
              refine V_zast_N 1 dX12_does_69 rfl (by omega) (by first | decide | omega) (by first | exact Or.inl rfl | exact Or.inr rfl | exact bI_or _) ?_
              refine V_vret dX12_does_70 rfl (Nat.le_of_ble_eq_true rfl) (Nat.le_refl _) (Nat.le_refl _) ?_
              first
              | exact ⟨_, _, _, _, _, rfl, rfl⟩
              | (rw [e9]; exact ⟨_, _, _, _, _, rfl, rfl⟩)
            ·
              rw [if_pos c_61, ← hdF_ins]
              refine V_iconst (v := nI 1) dX12_does_64 (by decide) ?_
              refine V_goto 69 dX12_does_65 (by decide) ?_
              refine V_zast_N 1 dX12_does_69 rfl (by omega) (by first | decide | omega) (by first | exact Or.inl rfl | exact Or.inr rfl | exact bI_or _) ?_
              refine V_vret dX12_does_70 rfl (Nat.le_of_ble_eq_true rfl) (Nat.le_refl _) (Nat.le_refl _) ?_
              first
              | exact ⟨_, _, _, _, _, rfl, rfl⟩
              | (rw [e9]; exact ⟨_, _, _, _, _, rfl, rfl⟩)
  ·
    rw [if_neg (show ¬ k = 0 by omega), if_neg (show ¬ k = 1 by omega), if_pos c_2]
    refine V_aload_n dX12_does_5 rfl ?_
    refine V_iload_n dX12_does_6 rfl ?_
    refine V_callVpi1 [0] (s_X12_isSwap (d := d - 1) (by omega) h) gX12_does_X12_isSwap dX12_does_7 oX12_isSwap rfl rfl rfl rfl (Nat.le_of_ble_eq_true rfl) (by omega) ⟨Nat.le_refl _, Nat.le_refl _⟩ ?_
    rw [hws]
    first | refine V_if_eq_B 70 dX12_does_10 (by decide) (fun c_10 => ?_) (fun c_10 => ?_) | refine V_if_eq_N 70 dX12_does_10 (by decide) (by omega) (fun c_10 => ?_) (fun c_10 => ?_) | refine V_if_eq 70 dX12_does_10 (by decide) (fun c_10 => ?_) (fun c_10 => ?_)
    ·
      rw [if_neg (of_decide_eq_false c_10)]
      refine V_vret dX12_does_70 rfl (Nat.le_of_ble_eq_true rfl) (Nat.le_refl _) (Nat.le_refl _) ?_
      first
      | exact ⟨_, _, _, _, _, rfl, rfl⟩
      | (rw [e9]; exact ⟨_, _, _, _, _, rfl, rfl⟩)
    ·
      have hs := of_decide_eq_true c_10
      rw [if_pos hs]
      refine V_aload_n dX12_does_13 rfl ?_
      refine V_iload_n dX12_does_14 rfl ?_
      refine V_callV1 [0, 1, 2, 3] (s_X12_swaps (d := d - 1) (by omega) h hs hB) gX12_does_X12_swaps dX12_does_15 oX12_swaps rfl rfl rfl rfl (Nat.le_of_ble_eq_true rfl) (by omega) ⟨Nat.le_refl _, Nat.le_refl _⟩ ?_
      rintro _ _ ⟨Od', rfl, rfl⟩
      simp only [zput_n, zput_c, zset_0, zset_1, zset_2, zset_3, Option.toList, List.cons_append, List.nil_append]
      refine V_aload_n dX12_does_18 rfl ?_
      refine V_callVfv0 [0, 1, 3] (s_X12_becomesImage (d := d - 1) (by omega) ) gX12_does_X12_becomesImage dX12_does_19 oX12_becomesImage rfl rfl rfl rfl (Nat.le_of_ble_eq_true rfl) (by omega) ⟨Nat.le_refl _, Nat.le_refl _⟩ ?_
      simp only [zput_n, zput_c, zset_0, zset_1, zset_3]
      refine V_goto 70 dX12_does_22 (by decide) ?_
      refine V_vret dX12_does_70 rfl (Nat.le_of_ble_eq_true rfl) (Nat.le_refl _) (Nat.le_refl _) ?_
      first
      | exact ⟨_, _, _, _, _, rfl, rfl⟩
      | (rw [e9]; exact ⟨_, _, _, _, _, rfl, rfl⟩)
theorem l_X12_behind_back {w0 : zW} {x1 x2 : Int32} {Q : zPo} (hw0 : w0.length = 6) (hQ : Q (some (.int x2)) [obM m0 A q n cut rows kq kn kc kr kt cu cv ck rm mo bo ki wa wr fo fd wn yw, (A 0, aZ 256 (hdF B)), (A 2, aZ 256 (hdF B)), (A 7, aI 4 Od), (A 8, aZ 256 Ig), (A 5, aI 16 P)]) : ∀ (f i : Nat) (Hc : Nat → Int32), i + f = 256 → (∀ j, j < i → Hc j = hdF B j) → V tO MX12_behind (d, 0, 0) w0 Q (0, 0) [obM m0 A q n cut rows kq kn kc kr kt cu cv ck rm mo bo ki wa wr fo fd wn yw, (A 0, aZ 256 Hc), (A 2, aZ 256 (hdF B)), (A 7, aI 4 Od), (A 8, aZ 256 Ig), (A 5, aI 16 P)] 99 [some (.ref m0), some (.int x1), some (.int x2), some (.int (nI i))] [] := by
  intro f
  induction f with
  | zero =>
    intro i Hc hi hH
    refine V_iload_n dX12_behind_99 rfl ?_
    refine V_sipush (v := nI 256) dX12_behind_100 (by decide) ?_
    refine V_icmp_ge_N 124 dX12_behind_103 (by decide) (by omega) (by omega) (fun c_103 => ?_) (fun c_103 => absurd c_103 (by omega))
    refine V_agp 1 (hdF B) rfl (fun j hj => hH j (by omega)) ?_
    refine V_iload_n dX12_behind_124 rfl ?_
    refine V_iret dX12_behind_125 rfl (by rw [hw0]; exact Nat.le_of_ble_eq_true rfl) (Nat.le_refl _) (Nat.le_refl _) ?_
    exact hQ
  | succ f ih =>
    intro i Hc hi hH
    refine V_iload_n dX12_behind_99 rfl ?_
    refine V_sipush (v := nI 256) dX12_behind_100 (by decide) ?_
    refine V_icmp_ge_N 124 dX12_behind_103 (by decide) (by omega) (by omega) (fun c_103 => absurd c_103 (by omega)) (fun c_103 => ?_)
    refine V_aload_n dX12_behind_106 rfl ?_
    refine V_get 0 dX12_behind_107 fX12_behind_18 rfl rfl ?_
    refine V_iload_n dX12_behind_110 rfl ?_
    refine V_aload_n dX12_behind_111 rfl ?_
    refine V_get 0 dX12_behind_112 fX12_behind_25 rfl rfl ?_
    refine V_iload_n dX12_behind_115 rfl ?_
    refine V_zald_N 2 dX12_behind_116 rfl (by omega) (by first | decide | omega) ?_
    refine V_zast_N 1 dX12_behind_117 rfl (by omega) (by first | decide | omega) (by first | exact Or.inl rfl | exact Or.inr rfl | exact bI_or _) ?_
    first | refine V_iinc_N (i := 1) dX12_behind_118 rfl (by decide) rfl ?_ | refine V_iinc dX12_behind_118 rfl rfl (by decide) rfl ?_
    refine V_goto 99 dX12_behind_121 (by decide) ?_
    exact ih (i + 1) _ (by omega) (fun j hj => upd_copy hH hj)
theorem l_X12_behind (hd : 9 ≤ d) (h : OKq q n) (hm : rows ≤ 8) {pk pv : Nat → Nat} (hP : PnM rows P pk pv) {c : Nat} (hc : c < 3) {w0 : zW} (hw0 : w0.length = 6) : ∀ (f i : Nat) (C : Nat → Bool) (cu cv ck : Int32) (Od Ig : Nat → Int32), i + f = rows → (∀ w, C w = true → w < q ^ n) → V tO MX12_behind (d, 0, 0) w0 (fun v' w' => ∃ Wb' cu' cv' ck' Od' Ig', v' = some (.int (beV q n (rowsB q n pk pv f i C) (nI c))) ∧ w' = [obM m0 A q n cut rows kq kn kc kr kt cu' cv' ck' rm mo bo ki wa wr fo fd wn yw, (A 0, aZ 256 (hdF B)), (A 2, aZ 256 Wb'), (A 7, aI 4 Od'), (A 8, aZ 256 Ig'), (A 5, aI 16 P)]) (0, 0) [obM m0 A q n cut rows kq kn kc kr kt cu cv ck rm mo bo ki wa wr fo fd wn yw, (A 0, aZ 256 (hdF C)), (A 2, aZ 256 (hdF B)), (A 7, aI 4 Od), (A 8, aZ 256 Ig), (A 5, aI 16 P)] 24 [some (.ref m0), some (.int (nI c)), some (.int (nI i)), none] [] := by
  have hcw : isW 3 (nI c) = true := by rw [isW_nI (by omega)]; exact decide_eq_true hc
  intro f
  induction f with
  | zero =>
    intro i C cu cv ck Od Ig hi hC
    rw [rowsB]
    have hcC := ct_le C 256
    unfold beV
    rw [hcw, if_pos rfl, nI_toInt (by omega)]
    refine V_iload_n dX12_behind_24 rfl ?_
    refine V_aload_n dX12_behind_25 rfl ?_
    refine V_get 0 dX12_behind_26 fX12_behind_98 rfl rfl ?_
    refine V_icmp_ge_N 60 dX12_behind_29 (by decide) (by omega) (by omega) (fun c_29 => ?_) (fun c_29 => absurd c_29 (by omega))
    refine V_iload_n dX12_behind_60 rfl ?_
    refine V_if_ne_N 71 dX12_behind_61 (by decide) (by omega) (fun c_61 => ?_) (fun c_61 => ?_)
    ·
      rw [if_neg (show ¬ (c : Int) = 0 by omega)]
      refine V_iload_n dX12_behind_71 rfl ?_
      refine V_iconst (v := nI 1) dX12_behind_72 (by decide) ?_
      refine V_icmp_ne_N 91 dX12_behind_73 (by decide) (by omega) (by decide) (fun c_73 => ?_) (fun c_73 => ?_)
      ·
        rw [if_neg (show ¬ (c : Int) = 1 by omega)]
        refine V_aload_n dX12_behind_91 rfl ?_
        refine V_iconst (v := nI 0) dX12_behind_92 (by decide) ?_
        refine V_callVpi1 [0, 1] (s_X12_wordOf (d := d - 1) (by omega) ) gX12_behind_X12_wordOf dX12_behind_93 oX12_wordOf rfl rfl rfl rfl (Nat.le_of_ble_eq_true rfl) (by omega) ⟨Nat.le_refl _, Nat.le_refl _⟩ ?_
        refine V_istore_n dX12_behind_96 (by decide) rfl ?_
        refine V_iconst (v := nI 0) dX12_behind_97 (by decide) ?_
        refine V_istore_n dX12_behind_98 (by decide) rfl ?_
        refine l_X12_behind_back hw0 ?_ 256 0 _ (by omega) (fun j hj => absurd hj (by omega))
        first
        | exact ⟨_, _, _, _, _, _, rfl, rfl⟩
        | exact ⟨_, _, _, _, _, _, by unfold woV; rw [isW_nI (by decide)]; by_cases q1 : 0 < ct C 256; rw [if_pos q1, decide_eq_true q1, if_pos rfl]; rfl; rw [if_neg q1, decide_eq_false q1, if_neg Bool.false_ne_true], rfl⟩
      ·
        rw [if_pos (show (c : Int) = 1 by omega)]
        refine V_aload_n dX12_behind_76 rfl ?_
        refine V_callV0 [0, 1] (s_X12_isFree (d := d - 1) (by omega) h hC) gX12_behind_X12_isFree dX12_behind_77 oX12_isFree rfl rfl rfl rfl (Nat.le_of_ble_eq_true rfl) (by omega) ⟨Nat.le_refl _, Nat.le_refl _⟩ ?_
        rintro _ _ ⟨cu', cv', ck', rfl, rfl, -⟩
        simp only [zput_n, zput_c, zset_0, zset_1, Option.toList, List.cons_append, List.nil_append]
        first | refine V_if_eq_B 87 dX12_behind_80 (by decide) (fun c_80 => ?_) (fun c_80 => ?_) | refine V_if_eq_N 87 dX12_behind_80 (by decide) (by omega) (fun c_80 => ?_) (fun c_80 => ?_) | refine V_if_eq 87 dX12_behind_80 (by decide) (fun c_80 => ?_) (fun c_80 => ?_)
        ·
          rw [c_80]
          refine V_iconst (v := nI 0) dX12_behind_87 (by decide) ?_
          refine V_goto 96 dX12_behind_88 (by decide) ?_
          refine V_istore_n dX12_behind_96 (by decide) rfl ?_
          refine V_iconst (v := nI 0) dX12_behind_97 (by decide) ?_
          refine V_istore_n dX12_behind_98 (by decide) rfl ?_
          refine l_X12_behind_back hw0 ?_ 256 0 _ (by omega) (fun j hj => absurd hj (by omega))
          first
          | exact ⟨_, _, _, _, _, _, rfl, rfl⟩
          | exact ⟨_, _, _, _, _, _, by unfold woV; rw [isW_nI (by decide)]; by_cases q1 : 0 < ct C 256; rw [if_pos q1, decide_eq_true q1, if_pos rfl]; rfl; rw [if_neg q1, decide_eq_false q1, if_neg Bool.false_ne_true], rfl⟩
        ·
          rw [c_80]
          refine V_iconst (v := nI 1) dX12_behind_83 (by decide) ?_
          refine V_goto 96 dX12_behind_84 (by decide) ?_
          refine V_istore_n dX12_behind_96 (by decide) rfl ?_
          refine V_iconst (v := nI 0) dX12_behind_97 (by decide) ?_
          refine V_istore_n dX12_behind_98 (by decide) rfl ?_
          refine l_X12_behind_back hw0 ?_ 256 0 _ (by omega) (fun j hj => absurd hj (by omega))
          first
          | exact ⟨_, _, _, _, _, _, rfl, rfl⟩
          | exact ⟨_, _, _, _, _, _, by unfold woV; rw [isW_nI (by decide)]; by_cases q1 : 0 < ct C 256; rw [if_pos q1, decide_eq_true q1, if_pos rfl]; rfl; rw [if_neg q1, decide_eq_false q1, if_neg Bool.false_ne_true], rfl⟩
    ·
      rw [if_pos (show (c : Int) = 0 by omega)]
      refine V_aload_n dX12_behind_64 rfl ?_
      refine V_callVpi0 [0, 1] (s_X12_many (d := d - 1) (by omega) ) gX12_behind_X12_many dX12_behind_65 oX12_many rfl rfl rfl rfl (Nat.le_of_ble_eq_true rfl) (by omega) ⟨Nat.le_refl _, Nat.le_refl _⟩ ?_
      refine V_goto 96 dX12_behind_68 (by decide) ?_
      refine V_istore_n dX12_behind_96 (by decide) rfl ?_
      refine V_iconst (v := nI 0) dX12_behind_97 (by decide) ?_
      refine V_istore_n dX12_behind_98 (by decide) rfl ?_
      refine l_X12_behind_back hw0 ?_ 256 0 _ (by omega) (fun j hj => absurd hj (by omega))
      first
      | exact ⟨_, _, _, _, _, _, rfl, rfl⟩
      | exact ⟨_, _, _, _, _, _, by unfold woV; rw [isW_nI (by decide)]; by_cases q1 : 0 < ct C 256; rw [if_pos q1, decide_eq_true q1, if_pos rfl]; rfl; rw [if_neg q1, decide_eq_false q1, if_neg Bool.false_ne_true], rfl⟩
  | succ f ih =>
    intro i C cu cv ck Od Ig hi hC
    obtain ⟨p1, p2, p3, p4⟩ := hP i (by omega)
    rw [rowsB]
    refine V_iload_n dX12_behind_24 rfl ?_
    refine V_aload_n dX12_behind_25 rfl ?_
    refine V_get 0 dX12_behind_26 fX12_behind_98 rfl rfl ?_
    refine V_icmp_ge_N 60 dX12_behind_29 (by decide) (by omega) (by omega) (fun c_29 => absurd c_29 (by omega)) (fun c_29 => ?_)
    refine V_aload_n dX12_behind_32 rfl ?_
    refine V_aload_n dX12_behind_33 rfl ?_
    refine V_get 0 dX12_behind_34 fX12_behind_35 rfl rfl ?_
    refine V_iconst (v := nI 2) dX12_behind_37 (by decide) ?_
    refine V_iload_n dX12_behind_38 rfl ?_
    first | refine V_imul_N dX12_behind_39 ?_ | refine V_imul dX12_behind_39 ?_
    refine V_iald_N 5 dX12_behind_40 rfl (by omega) (by first | decide | omega) ?_
    refine V_aload_n dX12_behind_41 rfl ?_
    refine V_get 0 dX12_behind_42 fX12_behind_35 rfl rfl ?_
    refine V_iconst (v := nI 2) dX12_behind_45 (by decide) ?_
    refine V_iload_n dX12_behind_46 rfl ?_
    first | refine V_imul_N dX12_behind_47 ?_ | refine V_imul dX12_behind_47 ?_
    refine V_iconst (v := nI 1) dX12_behind_48 (by decide) ?_
    first | refine V_iadd_N dX12_behind_49 ?_ | refine V_iadd dX12_behind_49 ?_
    refine V_iald_N 5 dX12_behind_50 rfl (by omega) (by first | decide | omega) ?_
    rw [p1, p2]
    refine V_callV2 [0, 1, 3, 4] (s_X12_does (d := d - 1) (by omega) h hC p3 p4) gX12_behind_X12_does dX12_behind_51 oX12_does rfl rfl rfl rfl (Nat.le_of_ble_eq_true rfl) (by omega) ⟨Nat.le_refl _, Nat.le_refl _⟩ ?_
    rintro _ _ ⟨cu', cv', ck', Od', Ig', rfl, rfl⟩
    simp only [zput_n, zput_c, zset_0, zset_1, zset_2, zset_3, zset_4, Option.toList, List.cons_append, List.nil_append]
    first | refine V_iinc_N (i := 1) dX12_behind_54 rfl (by decide) rfl ?_ | refine V_iinc dX12_behind_54 rfl rfl (by decide) rfl ?_
    refine V_goto 24 dX12_behind_57 (by decide) ?_
    exact ih (i + 1) _ cu' cv' ck' Od' Ig' (by omega) (rowB_lt h hC)
theorem s_X12_behind (hd : 9 ≤ d) (h : OKq q n) (hB : ∀ w, B w = true → w < q ^ n) (hm : rows ≤ 8) {pk pv : Nat → Nat} (hP : PnM rows P pk pv) {x : Int32} : Sp tO MX12_behind (d, 0, 0) [.ref m0, .int x] [obM m0 A q n cut rows kq kn kc kr kt cu cv ck rm mo bo ki wa wr fo fd wn yw, (A 0, aZ 256 (hdF B)), (A 2, aZ 256 Wb), (A 7, aI 4 Od), (A 8, aZ 256 Ig), (A 5, aI 16 P)] (fun v' w' => ∃ Wb' cu' cv' ck' Od' Ig', v' = some (.int (beV q n (rowsB q n pk pv rows 0 B) x)) ∧ w' = [obM m0 A q n cut rows kq kn kc kr kt cu' cv' ck' rm mo bo ki wa wr fo fd wn yw, (A 0, aZ 256 (hdF B)), (A 2, aZ 256 Wb'), (A 7, aI 4 Od'), (A 8, aZ 256 Ig'), (A 5, aI 16 P)]) := by
  refine eX12_behind [some (.ref m0), some (.int x), none, none] rfl (Nat.le_of_ble_eq_true rfl) ?_
  refine V_iload_n dX12_behind_0 rfl ?_
  refine V_i2l dX12_behind_1 ?_
  refine V_lconst (v := 0) dX12_behind_2 (by decide) ?_
  refine V_ldc2 (v := 2) dX12_behind_3 (by decide +kernel) ?_
  refine V_callSpi3 [] (s_X12_isInK (d := d - 1) (by omega) (k := 2) (by decide)) gX12_behind_X12_isIn dX12_behind_6 oX12_isIn rfl rfl (Nat.le_of_ble_eq_true rfl) (by omega) ⟨Nat.le_refl _, Nat.le_refl _⟩ ?_
  first | refine V_if_ne_B 14 dX12_behind_9 (by decide) (fun c_9 => ?_) (fun c_9 => ?_) | refine V_if_ne_N 14 dX12_behind_9 (by decide) (by omega) (fun c_9 => ?_) (fun c_9 => ?_) | refine V_if_ne 14 dX12_behind_9 (by decide) (fun c_9 => ?_) (fun c_9 => ?_)
  ·
    have c_9 : isW 3 x = true := c_9
    obtain ⟨c, hc, rfl⟩ := isW_of c_9
    refine V_aload_n dX12_behind_14 rfl ?_
    refine V_aload_n dX12_behind_15 rfl ?_
    refine V_get 0 dX12_behind_16 fX12_behind_25 rfl rfl ?_
    refine V_callVfv1 [0, 1, 2] (s_X12_keepsBook (d := d - 1) (by omega) ) gX12_behind_X12_keepsBook dX12_behind_19 oX12_keepsBook rfl rfl rfl rfl (Nat.le_of_ble_eq_true rfl) (by omega) ⟨Nat.le_refl _, Nat.le_refl _⟩ ?_
    simp only [List.cons_append, List.nil_append, zput_n, zput_c, zset_0, zset_1, zset_2]
    refine V_iconst (v := nI 0) dX12_behind_22 (by decide) ?_
    refine V_istore_n dX12_behind_23 (by decide) rfl ?_
    exact l_X12_behind hd h hm hP hc rfl rows 0 B cu cv ck Od Ig (by omega) hB
  ·
    have c_9 : isW 3 x = false := c_9
    unfold beV
    rw [c_9]
    refine V_iconst (v := -1) dX12_behind_12 (by decide) ?_
    refine V_iret dX12_behind_13 rfl (Nat.le_of_ble_eq_true rfl) (Nat.le_refl _) (Nat.le_refl _) ?_
    exact ⟨_, _, _, _, _, _, rfl, rfl⟩
end MDL7

