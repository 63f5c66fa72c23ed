/-! the model: its world, words, the book -/
abbrev obM (m0 : Nat) (A : Nat → Nat) (q n cut rows kq kn kc kr : Nat) (kt : Bool) (cu cv ck rm mo bo ki wa wr fo : Int32) (fd wn : Nat) (yw : Bool) : Nat × zE := (m0, oB 10 [.int (nI q), .int (nI n), .int (nI cut), .int (nI rows), .int (nI kq), .int (nI kn), .int (nI kc), .int (nI kr), .ref (A 0), .ref (A 1), .ref (A 2), .ref (A 3), .ref (A 4), .ref (A 5), .ref (A 6), .int (bI kt), .int cu, .int cv, .int ck, .ref (A 7), .ref (A 8), .ref (A 9), .ref (A 10), .int rm, .int mo, .int bo, .int ki, .int wa, .int wr, .int fo, .ref (A 11), .ref (A 12), .ref (A 13), .ref (A 14), .ref (A 15), .ref (A 16), .int (nI fd), .int (nI wn), .int (bI yw), .ref (A 17), .ref (A 18)])
theorem zAgs_set : ∀ (ws : zW) (k : Nat) {a n : Nat} {b : Bool} {f g : Nat → Int32}, ws[k]? = some (a, .inl (b, n, f)) → (∀ i, i < n → f i = g i) → zAgs ws (ws.set k (a, .inl (b, n, g)))
  | [], k, a, n, b, f, g, h, _ => by simp at h
  | q :: t, 0, a, n, b, f, g, h, hg => by
    simp at h
    subst h
    exact ⟨_, _, rfl, ⟨g, rfl, hg⟩, zAgs.self t⟩
  | q :: t, k + 1, a, n, b, f, g, h, hg => ⟨_, _, rfl, zAg.self q, zAgs_set t k (by simpa using h) hg⟩
theorem V_agp {tO : Nat} {me : zM} {r : Nat × Nat × Nat} {ws0 ws : zW} {Q : zPo} {u : Nat × Nat} {pc : Nat} {lc : List (Option Value)} {st : List Value} (k : Nat) {a n : Nat} {b : Bool} {f : Nat → Int32} (g : Nat → Int32) (he : ws[k]? = some (a, .inl (b, n, f))) (hg : ∀ i, i < n → f i = g i) (kk : V tO me r ws0 Q u (ws.set k (a, .inl (b, n, g))) pc lc st) : V tO me r ws0 Q u ws pc lc st := V_ag _ (zAgs_set ws k he hg) kk
theorem hdF_ins (B : Nat → Bool) (w : Nat) : upd (hdF B) w (nI 1) = hdF (insB B w) := by
  funext j
  unfold upd hdF insB
  by_cases e : j = w
  · subst e; rw [if_pos rfl, show (B j || j == j) = true by simp]; rfl
  · rw [if_neg e, show (B j || j == w) = B j by simp [e]]
theorem hdF_del (B : Nat → Bool) (w : Nat) : upd (hdF B) w (nI 0) = hdF (delB B w) := by
  funext j
  unfold upd hdF delB
  by_cases e : j = w
  · subst e; rw [if_pos rfl, show (B j && !j == j) = false by simp]; rfl
  · rw [if_neg e, show (B j && !j == w) = B j by simp [e]]
theorem hdF_nil : hdF (fun _ => false) = fun _ => nI 0 := by
  funext j
  rfl
theorem delB_insB' {B : Nat → Bool} {w : Nat} (h : B w = false) : delB (insB B w) w = B := by
  funext j
  unfold insB delB
  by_cases e : j = w
  · subst e; simp [h]
  · show ((B j || j == w) && !(j == w)) = B j
    rw [show (j == w) = false from beq_eq_false_iff_ne.mpr e]; cases B j <;> rfl
theorem le64 {x : Int32} {b c : Int64} {lo hi : Int} (hb : b.toInt = lo) (hc : c.toInt = hi) : decide (b ≤ x.toInt64 ∧ x.toInt64 ≤ c) = decide (lo ≤ x.toInt ∧ x.toInt ≤ hi) := by
  apply decide_eq_decide.mpr
  rw [Int64.le_iff_toInt_le, Int64.le_iff_toInt_le, Int32.toInt_toInt64, hb, hc]
section MDL1
variable {tO d m0 : Nat} {A : Nat → Nat} {q n cut rows kq kn kc kr fd wn : Nat} {kt yw : Bool} {cu cv ck rm mo bo ki wa wr fo : Int32} {B KB : Nat → Bool} {Wb R KR P KP Od Ig Pk Lt Lk Rd Nx Tp Pa Wy Sz It : Nat → Int32}
theorem s_X12_isIn (hd : 1 ≤ d) {a b c : Int64} : SpP tO MX12_isIn (d, 0, 0) [.long a, .long b, .long c] [] (some (.int (bI (decide (b ≤ a ∧ a ≤ c))))) := by
  refine eX12_isIn [some (.long a), none, some (.long b), none, some (.long c), none] rfl (Nat.le_of_ble_eq_true rfl) ?_
  refine V_lload_n dX12_isIn_0 rfl ?_
  refine V_lload_n dX12_isIn_1 rfl ?_
  refine V_lcmp dX12_isIn_2 ?_
  refine V_if_lt 17 dX12_isIn_3 (by decide) (fun c_3 => ?_) (fun c_3 => ?_)
  ·
    rw [lg_cmp_lt] at c_3
    rw [show decide (b ≤ a ∧ a ≤ c) = false from decide_eq_false (fun hh => Int64.not_le.mpr c_3 hh.1)]
    refine V_iconst (v := nI 0) dX12_isIn_17 (by decide) ?_
    refine V_zret dX12_isIn_18 rfl (by first | exact Or.inl rfl | exact Or.inr rfl | exact bI_or _) (Nat.le_of_ble_eq_true rfl) (Nat.le_refl _) (Nat.le_refl _) ?_
    exact ⟨rfl, rfl⟩
  ·
    rw [lg_cmp_lt] at c_3
    refine V_lload_n dX12_isIn_6 rfl ?_
    refine V_lload dX12_isIn_7 rfl ?_
    refine V_lcmp dX12_isIn_9 ?_
    refine V_if_gt 17 dX12_isIn_10 (by decide) (fun c_10 => ?_) (fun c_10 => ?_)
    ·
      rw [lg_cmp_gt] at c_10
      rw [show decide (b ≤ a ∧ a ≤ c) = false from decide_eq_false (fun hh => Int64.not_le.mpr c_10 hh.2)]
      refine V_iconst (v := nI 0) dX12_isIn_17 (by decide) ?_
      refine V_zret dX12_isIn_18 rfl (by first | exact Or.inl rfl | exact Or.inr rfl | exact bI_or _) (Nat.le_of_ble_eq_true rfl) (Nat.le_refl _) (Nat.le_refl _) ?_
      exact ⟨rfl, rfl⟩
    ·
      rw [lg_cmp_gt] at c_10
      rw [show decide (b ≤ a ∧ a ≤ c) = true from decide_eq_true ⟨Int64.not_lt.mp c_3, Int64.not_lt.mp c_10⟩]
      refine V_iconst (v := nI 1) dX12_isIn_13 (by decide) ?_
      refine V_goto 18 dX12_isIn_14 (by decide) ?_
      refine V_zret dX12_isIn_18 rfl (by first | exact Or.inl rfl | exact Or.inr rfl | exact bI_or _) (Nat.le_of_ble_eq_true rfl) (Nat.le_refl _) (Nat.le_refl _) ?_
      exact ⟨rfl, rfl⟩
theorem s_X12_isInL (hd : 1 ≤ d) {x : Int32} {b c : Int64} {lo hi : Int} (hb : b.toInt = lo) (hc : c.toInt = hi) : SpP tO MX12_isIn (d, 0, 0) [.long x.toInt64, .long b, .long c] [] (some (.int (bI (decide (lo ≤ x.toInt ∧ x.toInt ≤ hi))))) := by
  have e := s_X12_isIn (tO := tO) (d := d) hd (a := x.toInt64) (b := b) (c := c)
  rwa [le64 hb hc] at e
theorem s_X12_isInK (hd : 1 ≤ d) {x : Int32} {c : Int64} {k : Nat} (hc : c.toInt = (k : Int)) : SpP tO MX12_isIn (d, 0, 0) [.long x.toInt64, .long 0, .long c] [] (some (.int (bI (isW (k + 1) x)))) := by
  have e := s_X12_isInL (tO := tO) (d := d) hd (x := x) (b := 0) (c := c) (lo := 0) rfl hc
  rwa [show decide ((0 : Int) ≤ x.toInt ∧ x.toInt ≤ (k : Int)) = isW (k + 1) x by unfold isW; apply decide_eq_decide.mpr; omega] at e
theorem s_X12_isInW (hd : 1 ≤ d) {x : Int32} {k : Nat} (hk : k < 2 ^ 31) (h0 : 0 < k) : SpP tO MX12_isIn (d, 0, 0) [.long x.toInt64, .long 0, .long (nI (k - 1)).toInt64] [] (some (.int (bI (isW k x)))) := by
  have e := s_X12_isInK (tO := tO) (d := d) hd (x := x) (c := (nI (k - 1)).toInt64) (k := k - 1) (by rw [Int32.toInt_toInt64, nI_toInt (by omega)])
  rwa [show k - 1 + 1 = k by omega] at e
theorem l_X12_power {n : Nat} (hn : n < 2 ^ 31) : ∀ (f i : Nat), i + f = n → V tO MX12_power (d, 0, 0) [] (fun v w' => v = some (.int (nI (q ^ n))) ∧ w' = []) (0, 0) [] 4 [some (.int (nI q)), some (.int (nI n)), some (.int (nI (q ^ i))), some (.int (nI i))] [] := by
  intro f
  induction f with
  | zero =>
    intro i hi
    have e : i = n := by omega
    subst e
    refine V_iload_n dX12_power_4 rfl ?_
    refine V_iload_n dX12_power_5 rfl ?_
    refine V_icmp_ge_N 19 dX12_power_6 (by decide) (by omega) (by omega) (fun c_6 => ?_) (fun c_6 => absurd c_6 (by omega))
    refine V_iload_n dX12_power_19 rfl ?_
    refine V_iret dX12_power_20 rfl (Nat.le_of_ble_eq_true rfl) (Nat.le_refl _) (Nat.le_refl _) ?_
    exact ⟨rfl, rfl⟩
  | succ f ih =>
    intro i hi
    have i1 := ih (i + 1) (by omega)
    rw [Nat.pow_succ] at i1
    refine V_iload_n dX12_power_4 rfl ?_
    refine V_iload_n dX12_power_5 rfl ?_
    refine V_icmp_ge_N 19 dX12_power_6 (by decide) (by omega) (by omega) (fun c_6 => absurd c_6 (by omega)) (fun c_6 => ?_)
    refine V_iload_n dX12_power_9 rfl ?_
    refine V_iload_n dX12_power_10 rfl ?_
    first | refine V_imul_N dX12_power_11 ?_ | refine V_imul dX12_power_11 ?_
    refine V_istore_n dX12_power_12 (by decide) rfl ?_
    first | refine V_iinc_N (i := 1) dX12_power_13 rfl (by decide) rfl ?_ | refine V_iinc dX12_power_13 rfl rfl (by decide) rfl ?_
    refine V_goto 4 dX12_power_16 (by decide) ?_
    exact i1
theorem s_X12_power (hd : 1 ≤ d) {n : Nat} (hn : n < 2 ^ 31) : SpP tO MX12_power (d, 0, 0) [.int (nI q), .int (nI n)] [] (some (.int (nI (q ^ n)))) := by
  refine eX12_power [some (.int (nI q)), some (.int (nI n)), none, none] rfl (Nat.le_of_ble_eq_true rfl) ?_
  refine V_iconst (v := nI 1) dX12_power_0 (by decide) ?_
  refine V_istore_n dX12_power_1 (by decide) rfl ?_
  refine V_iconst (v := nI 0) dX12_power_2 (by decide) ?_
  refine V_istore_n dX12_power_3 (by decide) rfl ?_
  exact l_X12_power hn n 0 (by omega)
theorem s_X12_words (hd : 2 ≤ d) (h : OKq q n) : SpP tO MX12_words (d, 0, 0) [.ref m0] [obM m0 A q n cut rows kq kn kc kr kt cu cv ck rm mo bo ki wa wr fo fd wn yw] (some (.int (nI (q ^ n)))) := by
  refine eX12_words [some (.ref m0)] rfl (Nat.le_of_ble_eq_true rfl) ?_
  have hn := h.2.2.2.1
  refine V_aload_n dX12_words_0 rfl ?_
  refine V_get 0 dX12_words_1 fX12_words_9 rfl rfl ?_
  refine V_aload_n dX12_words_4 rfl ?_
  refine V_get 0 dX12_words_5 fX12_words_15 rfl rfl ?_
  refine V_callSpi2 [] (s_X12_power (d := d - 1) (by omega) (by omega)) gX12_words_X12_power dX12_words_8 oX12_power rfl rfl (Nat.le_of_ble_eq_true rfl) (by omega) ⟨Nat.le_refl _, Nat.le_refl _⟩ ?_
  refine V_iret dX12_words_11 rfl (Nat.le_of_ble_eq_true rfl) (Nat.le_refl _) (Nat.le_refl _) ?_
  exact ⟨rfl, rfl⟩
theorem s_X12_isWord (hd : 3 ≤ d) (h : OKq q n) {x : Int32} : SpP tO MX12_isWord (d, 0, 0) [.ref m0, .int x] [obM m0 A q n cut rows kq kn kc kr kt cu cv ck rm mo bo ki wa wr fo fd wn yw] (some (.int (bI (isW (q ^ n) x)))) := by
  refine eX12_isWord [some (.ref m0), some (.int x)] rfl (Nat.le_of_ble_eq_true rfl) ?_
  have hN := h.2.2.2.2
  have h0 := h.pos n
  refine V_iload_n dX12_isWord_0 rfl ?_
  refine V_i2l dX12_isWord_1 ?_
  refine V_lconst (v := 0) dX12_isWord_2 (by decide) ?_
  refine V_aload_n dX12_isWord_3 rfl ?_
  refine V_callVpi0 [0] (s_X12_words (d := d - 1) (by omega) h) gX12_isWord_X12_words dX12_isWord_4 oX12_words rfl rfl rfl rfl (Nat.le_of_ble_eq_true rfl) (by omega) ⟨Nat.le_refl _, Nat.le_refl _⟩ ?_
  refine V_iconst (v := nI 1) dX12_isWord_7 (by decide) ?_
  first | refine V_isub_N dX12_isWord_8 (by omega) ?_ | refine V_isub dX12_isWord_8 ?_
  refine V_i2l dX12_isWord_9 ?_
  refine V_callSpi3 [] (s_X12_isInW (d := d - 1) (by omega) (by omega) h0) gX12_isWord_X12_isIn dX12_isWord_10 oX12_isIn rfl rfl (Nat.le_of_ble_eq_true rfl) (by omega) ⟨Nat.le_refl _, Nat.le_refl _⟩ ?_
  refine V_zret dX12_isWord_13 rfl (by first | exact Or.inl rfl | exact Or.inr rfl | exact bI_or _) (Nat.le_of_ble_eq_true rfl) (Nat.le_refl _) (Nat.le_refl _) ?_
  exact ⟨rfl, rfl⟩
theorem s_X12_letterOf (hd : 2 ≤ d) (h : OKq q n) {w i : Nat} (hw : w < q ^ n) (hi : i < n) : SpP tO MX12_letterOf (d, 0, 0) [.ref m0, .int (nI w), .int (nI i)] [obM m0 A q n cut rows kq kn kc kr kt cu cv ck rm mo bo ki wa wr fo fd wn yw] (some (.int (nI (wLt q n w i)))) := by
  refine eX12_letterOf [some (.ref m0), some (.int (nI w)), some (.int (nI i))] rfl (Nat.le_of_ble_eq_true rfl) ?_
  have hN := h.2.2.2.2
  have hn := h.2.2.2.1
  have h0 := h.pos (n - 1 - i)
  have h1 := h.le (k := n - 1 - i) (by omega)
  have hq := h.1
  have hq2 := h.2.1
  have h3 : w / q ^ (n - 1 - i) ≤ w := Nat.div_le_self _ _
  refine V_iload_n dX12_letterOf_0 rfl ?_
  refine V_aload_n dX12_letterOf_1 rfl ?_
  refine V_get 0 dX12_letterOf_2 fX12_letterOf_9 rfl rfl ?_
  refine V_aload_n dX12_letterOf_5 rfl ?_
  refine V_get 0 dX12_letterOf_6 fX12_letterOf_15 rfl rfl ?_
  refine V_iconst (v := nI 1) dX12_letterOf_9 (by decide) ?_
  first | refine V_isub_N dX12_letterOf_10 (by omega) ?_ | refine V_isub dX12_letterOf_10 ?_
  refine V_iload_n dX12_letterOf_11 rfl ?_
  first | refine V_isub_N dX12_letterOf_12 (by omega) ?_ | refine V_isub dX12_letterOf_12 ?_
  refine V_callSpi2 [] (s_X12_power (d := d - 1) (by omega) (by omega)) gX12_letterOf_X12_power dX12_letterOf_13 oX12_power rfl rfl (Nat.le_of_ble_eq_true rfl) (by omega) ⟨Nat.le_refl _, Nat.le_refl _⟩ ?_
  refine V_idiv_N dX12_letterOf_16 (by omega) (by omega) (by omega) ?_
  refine V_aload_n dX12_letterOf_17 rfl ?_
  refine V_get 0 dX12_letterOf_18 fX12_letterOf_9 rfl rfl ?_
  refine V_irem_N dX12_letterOf_21 (by omega) (by omega) (by omega) ?_
  refine V_iret dX12_letterOf_22 rfl (Nat.le_of_ble_eq_true rfl) (Nat.le_refl _) (Nat.le_refl _) ?_
  exact ⟨rfl, rfl⟩
theorem l_X12_many : ∀ (f w : Nat), w + f = 256 → V tO MX12_many (d, 0, 0) [obM m0 A q n cut rows kq kn kc kr kt cu cv ck rm mo bo ki wa wr fo fd wn yw, (A 0, aZ 256 (hdF B))] (fun v w' => v = some (.int (nI (ct B 256))) ∧ w' = [obM m0 A q n cut rows kq kn kc kr kt cu cv ck rm mo bo ki wa wr fo fd wn yw, (A 0, aZ 256 (hdF B))]) (0, 0) [obM m0 A q n cut rows kq kn kc kr kt cu cv ck rm mo bo ki wa wr fo fd wn yw, (A 0, aZ 256 (hdF B))] 4 [some (.ref m0), some (.int (nI (ct B w))), some (.int (nI w))] [] := by
  intro f
  induction f with
  | zero =>
    intro w hw
    have e : w = 256 := by omega
    subst e
    refine V_iload_n dX12_many_4 rfl ?_
    refine V_sipush (v := nI 256) dX12_many_5 (by decide) ?_
    refine V_icmp_ge_N 34 dX12_many_8 (by decide) (by omega) (by omega) (fun c_8 => ?_) (fun c_8 => absurd c_8 (by omega))
    refine V_iload_n dX12_many_34 rfl ?_
    refine V_iret dX12_many_35 rfl (Nat.le_of_ble_eq_true rfl) (Nat.le_refl _) (Nat.le_refl _) ?_
    exact ⟨rfl, rfl⟩
  | succ f ih =>
    intro w hw
    have i1 := ih (w + 1) (by omega)
    rw [ct_succ B w] at i1
    refine V_iload_n dX12_many_4 rfl ?_
    refine V_sipush (v := nI 256) dX12_many_5 (by decide) ?_
    refine V_icmp_ge_N 34 dX12_many_8 (by decide) (by omega) (by omega) (fun c_8 => absurd c_8 (by omega)) (fun c_8 => ?_)
    refine V_iload_n dX12_many_11 rfl ?_
    refine V_aload_n dX12_many_12 rfl ?_
    refine V_get 0 dX12_many_13 fX12_many_18 rfl rfl ?_
    refine V_iload_n dX12_many_16 rfl ?_
    refine V_zald_N 1 dX12_many_17 rfl (by omega) (by first | decide | omega) ?_
    first | refine V_if_eq_B 25 dX12_many_18 (by decide) (fun c_18 => ?_) (fun c_18 => ?_) | refine V_if_eq_N 25 dX12_many_18 (by decide) (by omega) (fun c_18 => ?_) (fun c_18 => ?_) | refine V_if_eq 25 dX12_many_18 (by decide) (fun c_18 => ?_) (fun c_18 => ?_)
    ·
      rw [c_18, if_neg Bool.false_ne_true] at i1
      refine V_iconst (v := nI 0) dX12_many_25 (by decide) ?_
      first | refine V_iadd_N dX12_many_26 ?_ | refine V_iadd dX12_many_26 ?_
      refine V_istore_n dX12_many_27 (by decide) rfl ?_
      first | refine V_iinc_N (i := 1) dX12_many_28 rfl (by decide) rfl ?_ | refine V_iinc dX12_many_28 rfl rfl (by decide) rfl ?_
      refine V_goto 4 dX12_many_31 (by decide) ?_
      exact i1
    ·
      rw [c_18, if_pos rfl] at i1
      refine V_iconst (v := nI 1) dX12_many_21 (by decide) ?_
      refine V_goto 26 dX12_many_22 (by decide) ?_
      first | refine V_iadd_N dX12_many_26 ?_ | refine V_iadd dX12_many_26 ?_
      refine V_istore_n dX12_many_27 (by decide) rfl ?_
      first | refine V_iinc_N (i := 1) dX12_many_28 rfl (by decide) rfl ?_ | refine V_iinc dX12_many_28 rfl rfl (by decide) rfl ?_
      refine V_goto 4 dX12_many_31 (by decide) ?_
      exact i1
theorem s_X12_many (hd : 1 ≤ d) : SpP tO MX12_many (d, 0, 0) [.ref m0] [obM m0 A q n cut rows kq kn kc kr kt cu cv ck rm mo bo ki wa wr fo fd wn yw, (A 0, aZ 256 (hdF B))] (some (.int (nI (ct B 256)))) := by
  refine eX12_many [some (.ref m0), none, none] rfl (Nat.le_of_ble_eq_true rfl) ?_
  refine V_iconst (v := nI 0) dX12_many_0 (by decide) ?_
  refine V_istore_n dX12_many_1 (by decide) rfl ?_
  refine V_iconst (v := nI 0) dX12_many_2 (by decide) ?_
  refine V_istore_n dX12_many_3 (by decide) rfl ?_
  exact l_X12_many 256 0 (by omega)
theorem s_X12_sizeN (hd : 3 ≤ d) {x y : Int32} (hx : szB x y = false) : SpP tO MX12_size (d, 0, 0) [.ref m0, .int x, .int y] [obM m0 A q n cut rows kq kn kc kr kt cu cv ck rm mo bo ki wa wr fo fd wn yw, (A 0, aZ 256 (hdF B))] (some (.int (-2))) := by
  refine eX12_size [some (.ref m0), some (.int x), some (.int y), none] rfl (Nat.le_of_ble_eq_true rfl) ?_
  refine V_iload_n dX12_size_0 rfl ?_
  refine V_i2l dX12_size_1 ?_
  refine V_ldc2 (v := 2) dX12_size_2 (by decide +kernel) ?_
  refine V_ldc2 (v := 4) dX12_size_5 (by decide +kernel) ?_
  refine V_callSpi3 [] (s_X12_isInL (d := d - 1) (by omega) (lo := 2) (hi := 4) (by decide) (by decide)) gX12_size_X12_isIn dX12_size_8 oX12_isIn rfl rfl (Nat.le_of_ble_eq_true rfl) (by omega) ⟨Nat.le_refl _, Nat.le_refl _⟩ ?_
  first | refine V_if_eq_B 37 dX12_size_11 (by decide) (fun c_11 => ?_) (fun c_11 => ?_) | refine V_if_eq_N 37 dX12_size_11 (by decide) (by omega) (fun c_11 => ?_) (fun c_11 => ?_) | refine V_if_eq 37 dX12_size_11 (by decide) (fun c_11 => ?_) (fun c_11 => ?_)
  ·
    refine V_bipush (v := (-2)) dX12_size_37 (by decide) ?_
    refine V_iret dX12_size_39 rfl (Nat.le_of_ble_eq_true rfl) (Nat.le_refl _) (Nat.le_refl _) ?_
    exact ⟨rfl, rfl⟩
  ·
    refine V_iload_n dX12_size_14 rfl ?_
    refine V_i2l dX12_size_15 ?_
    refine V_lconst (v := 1) dX12_size_16 (by decide) ?_
    refine V_ldc2 (v := 5) dX12_size_17 (by decide +kernel) ?_
    refine V_callSpi3 [] (s_X12_isInL (d := d - 1) (by omega) (lo := 1) (hi := 5) (by decide) (by decide)) gX12_size_X12_isIn dX12_size_20 oX12_isIn rfl rfl (Nat.le_of_ble_eq_true rfl) (by omega) ⟨Nat.le_refl _, Nat.le_refl _⟩ ?_
    first | refine V_if_eq_B 37 dX12_size_23 (by decide) (fun c_23 => ?_) (fun c_23 => ?_) | refine V_if_eq_N 37 dX12_size_23 (by decide) (by omega) (fun c_23 => ?_) (fun c_23 => ?_) | refine V_if_eq 37 dX12_size_23 (by decide) (fun c_23 => ?_) (fun c_23 => ?_)
    ·
      refine V_bipush (v := (-2)) dX12_size_37 (by decide) ?_
      refine V_iret dX12_size_39 rfl (Nat.le_of_ble_eq_true rfl) (Nat.le_refl _) (Nat.le_refl _) ?_
      exact ⟨rfl, rfl⟩
    ·
      have h11 := of_decide_eq_true c_11
      have h23 := of_decide_eq_true c_23
      obtain ⟨q', hq', rfl⟩ : ∃ q', q' < 5 ∧ x = nI q' := ⟨x.toInt.toNat, by omega, toInt_nI (by omega)⟩
      obtain ⟨n', hn', rfl⟩ : ∃ n', n' < 6 ∧ y = nI n' := ⟨y.toInt.toNat, by omega, toInt_nI (by omega)⟩
      rw [nI_toInt (by omega)] at h11 h23
      have hp : q' ^ n' ≤ 1024 := Nat.le_trans (Nat.pow_le_pow_left (show q' ≤ 4 by omega) n') (Nat.le_trans (Nat.pow_le_pow_right (by decide) (show n' ≤ 5 by omega)) (by decide))
      refine V_iload_n dX12_size_26 rfl ?_
      refine V_iload_n dX12_size_27 rfl ?_
      refine V_callSpi2 [] (s_X12_power (d := d - 1) (by omega) (by omega)) gX12_size_X12_power dX12_size_28 oX12_power rfl rfl (Nat.le_of_ble_eq_true rfl) (by omega) ⟨Nat.le_refl _, Nat.le_refl _⟩ ?_
      refine V_sipush (v := nI 256) dX12_size_31 (by decide) ?_
      refine V_icmp_le_N 40 dX12_size_34 (by decide) (by omega) (by decide) (fun c_34 => ?_) (fun c_34 => ?_)
      ·
        exact absurd hx (by rw [szB_nI (by omega) (by omega), decide_eq_true (show 2 ≤ q' ∧ q' ≤ 4 ∧ 1 ≤ n' ∧ n' ≤ 5 ∧ q' ^ n' ≤ 256 from ⟨by omega, by omega, by omega, by omega, c_34⟩)]; exact Bool.noConfusion)
      ·
        refine V_bipush (v := (-2)) dX12_size_37 (by decide) ?_
        refine V_iret dX12_size_39 rfl (Nat.le_of_ble_eq_true rfl) (Nat.le_refl _) (Nat.le_refl _) ?_
        exact ⟨rfl, rfl⟩
theorem l_X12_size (hd : 3 ≤ d) (h : OKq q n) {Q : zPo} {x y : Int32} (hQ : Q (some (.int (nI (q ^ n)))) [obM m0 A q n 0 0 kq kn kc kr kt cu cv ck rm mo bo ki wa wr fo fd wn yw, (A 0, aZ 256 (hdF (fun _ => false)))]) {w0 : zW} (hw0 : w0.length = 2) : ∀ (f i : Nat) (Hc : Nat → Int32), i + f = 256 → (∀ j, j < i → Hc j = nI 0) → V tO MX12_size (d, 0, 0) w0 Q (0, 0) [obM m0 A q n cut rows kq kn kc kr kt cu cv ck rm mo bo ki wa wr fo fd wn yw, (A 0, aZ 256 Hc)] 52 [some (.ref m0), some (.int x), some (.int y), some (.int (nI i))] [] := by
  intro f
  induction f with
  | zero =>
    intro i Hc hi hH
    refine V_iload_n dX12_size_52 rfl ?_
    refine V_sipush (v := nI 256) dX12_size_53 (by decide) ?_
    refine V_icmp_ge_N 72 dX12_size_56 (by decide) (by omega) (by omega) (fun c_56 => ?_) (fun c_56 => absurd c_56 (by omega))
    refine V_agp 1 (hdF (fun _ => false)) rfl (fun j hj => hH j (by omega)) ?_
    refine V_aload_n dX12_size_72 rfl ?_
    refine V_iconst (v := nI 0) dX12_size_73 (by decide) ?_
    refine V_put 0 dX12_size_74 fX12_size_95 ft_10_2 rfl rfl rfl (Nat.le_of_ble_eq_true rfl) ?_
    refine V_aload_n dX12_size_77 rfl ?_
    refine V_iconst (v := nI 0) dX12_size_78 (by decide) ?_
    refine V_put 0 dX12_size_79 fX12_size_98 ft_10_3 rfl rfl rfl (Nat.le_of_ble_eq_true rfl) ?_
    refine V_aload_n dX12_size_82 rfl ?_
    refine V_callVpi0 [0] (s_X12_words (d := d - 1) (by omega) h) gX12_size_X12_words dX12_size_83 oX12_words rfl rfl rfl rfl (Nat.le_of_ble_eq_true rfl) (by omega) ⟨Nat.le_refl _, Nat.le_refl _⟩ ?_
    refine V_iret dX12_size_86 rfl (by rw [hw0]; exact Nat.le_of_ble_eq_true rfl) (Nat.le_refl _) (Nat.le_refl _) ?_
    exact hQ
  | succ f ih =>
    intro i Hc hi hH
    refine V_iload_n dX12_size_52 rfl ?_
    refine V_sipush (v := nI 256) dX12_size_53 (by decide) ?_
    refine V_icmp_ge_N 72 dX12_size_56 (by decide) (by omega) (by omega) (fun c_56 => absurd c_56 (by omega)) (fun c_56 => ?_)
    refine V_aload_n dX12_size_59 rfl ?_
    refine V_get 0 dX12_size_60 fX12_size_18 rfl rfl ?_
    refine V_iload_n dX12_size_63 rfl ?_
    refine V_iconst (v := nI 0) dX12_size_64 (by decide) ?_
    refine V_zast_N 1 dX12_size_65 rfl (by omega) (by first | decide | omega) (by first | exact Or.inl rfl | exact Or.inr rfl | exact bI_or _) ?_
    first | refine V_iinc_N (i := 1) dX12_size_66 rfl (by decide) rfl ?_ | refine V_iinc dX12_size_66 rfl rfl (by decide) rfl ?_
    refine V_goto 52 dX12_size_69 (by decide) ?_
    exact ih (i + 1) _ (by omega) (fun j hj => upd_fill hH hj)
theorem s_X12_size (hd : 3 ≤ d) {q' n' : Nat} (h : OKq q' n') : SpF tO MX12_size (d, 0, 0) [.ref m0, .int (nI q'), .int (nI n')] [obM m0 A q n cut rows kq kn kc kr kt cu cv ck rm mo bo ki wa wr fo fd wn yw, (A 0, aZ 256 (hdF B))] (some (.int (nI (q' ^ n')))) [obM m0 A q' n' 0 0 kq kn kc kr kt cu cv ck rm mo bo ki wa wr fo fd wn yw, (A 0, aZ 256 (hdF (fun _ => false)))] := by
  refine eX12_size [some (.ref m0), some (.int (nI q')), some (.int (nI n')), none] rfl (Nat.le_of_ble_eq_true rfl) ?_
  have hN := h.2.2.2.2
  have e1 : decide ((2 : Int) ≤ (nI q').toInt ∧ (nI q').toInt ≤ 4) = true := by
    have h1 := h.1
    have h2 := h.2.1
    rw [nI_toInt (by omega)]
    exact decide_eq_true (by omega)
  have e2 : decide ((1 : Int) ≤ (nI n').toInt ∧ (nI n').toInt ≤ 5) = true := by
    have h1 := h.2.2.1
    have h2 := h.2.2.2.1
    rw [nI_toInt (by omega)]
    exact decide_eq_true (by omega)
  have hn := h.2.2.2.1
  refine V_iload_n dX12_size_0 rfl ?_
  refine V_i2l dX12_size_1 ?_
  refine V_ldc2 (v := 2) dX12_size_2 (by decide +kernel) ?_
  refine V_ldc2 (v := 4) dX12_size_5 (by decide +kernel) ?_
  refine V_callSpi3 [] (s_X12_isInL (d := d - 1) (by omega) (lo := 2) (hi := 4) (by decide) (by decide)) gX12_size_X12_isIn dX12_size_8 oX12_isIn rfl rfl (Nat.le_of_ble_eq_true rfl) (by omega) ⟨Nat.le_refl _, Nat.le_refl _⟩ ?_
  rw [e1]
  first | refine V_if_eq_B 37 dX12_size_11 (by decide) (fun c_11 => ?_) (fun c_11 => ?_) | refine V_if_eq_N 37 dX12_size_11 (by decide) (by omega) (fun c_11 => ?_) (fun c_11 => ?_) | refine V_if_eq 37 dX12_size_11 (by decide) (fun c_11 => ?_) (fun c_11 => ?_)
  ·
    cases c_11
  ·
    refine V_iload_n dX12_size_14 rfl ?_
    refine V_i2l dX12_size_15 ?_
    refine V_lconst (v := 1) dX12_size_16 (by decide) ?_
    refine V_ldc2 (v := 5) dX12_size_17 (by decide +kernel) ?_
    refine V_callSpi3 [] (s_X12_isInL (d := d - 1) (by omega) (lo := 1) (hi := 5) (by decide) (by decide)) gX12_size_X12_isIn dX12_size_20 oX12_isIn rfl rfl (Nat.le_of_ble_eq_true rfl) (by omega) ⟨Nat.le_refl _, Nat.le_refl _⟩ ?_
    rw [e2]
    first | refine V_if_eq_B 37 dX12_size_23 (by decide) (fun c_23 => ?_) (fun c_23 => ?_) | refine V_if_eq_N 37 dX12_size_23 (by decide) (by omega) (fun c_23 => ?_) (fun c_23 => ?_) | refine V_if_eq 37 dX12_size_23 (by decide) (fun c_23 => ?_) (fun c_23 => ?_)
    ·
      cases c_23
    ·
      refine V_iload_n dX12_size_26 rfl ?_
      refine V_iload_n dX12_size_27 rfl ?_
      refine V_callSpi2 [] (s_X12_power (d := d - 1) (by omega) (by omega)) gX12_size_X12_power dX12_size_28 oX12_power rfl rfl (Nat.le_of_ble_eq_true rfl) (by omega) ⟨Nat.le_refl _, Nat.le_refl _⟩ ?_
      refine V_sipush (v := nI 256) dX12_size_31 (by decide) ?_
      refine V_icmp_le_N 40 dX12_size_34 (by decide) (by omega) (by decide) (fun c_34 => ?_) (fun c_34 => absurd c_34 (by omega))
      refine V_aload_n dX12_size_40 rfl ?_
      refine V_iload_n dX12_size_41 rfl ?_
      refine V_put 0 dX12_size_42 fX12_size_9 ft_10_0 rfl rfl rfl (Nat.le_of_ble_eq_true rfl) ?_
      refine V_aload_n dX12_size_45 rfl ?_
      refine V_iload_n dX12_size_46 rfl ?_
      refine V_put 0 dX12_size_47 fX12_size_15 ft_10_1 rfl rfl rfl (Nat.le_of_ble_eq_true rfl) ?_
      refine V_iconst (v := nI 0) dX12_size_50 (by decide) ?_
      refine V_istore_n dX12_size_51 (by decide) rfl ?_
      exact l_X12_size hd h ⟨rfl, rfl⟩ rfl 256 0 _ (by omega) (fun j hj => by omega)
theorem s_X12_add (hd : 4 ≤ d) (h : OKq q n) {x : Int32} : SpF tO MX12_add (d, 0, 0) [.ref m0, .int x] [obM m0 A q n cut rows kq kn kc kr kt cu cv ck rm mo bo ki wa wr fo fd wn yw, (A 0, aZ 256 (hdF B))] (some (.int (adV q n B x))) [obM m0 A q n cut rows kq kn kc kr kt cu cv ck rm mo bo ki wa wr fo fd wn yw, (A 0, aZ 256 (hdF (adB q n B x)))] := by
  refine eX12_add [some (.ref m0), some (.int x)] rfl (Nat.le_of_ble_eq_true rfl) ?_
  have hN := h.2.2.2.2
  unfold adV adB
  cases hx : isW (q ^ n) x with
  | false =>
    refine V_aload_n dX12_add_0 rfl ?_
    refine V_iload_n dX12_add_1 rfl ?_
    refine V_callVpi1 [0] (s_X12_isWord (d := d - 1) (by omega) h) gX12_add_X12_isWord dX12_add_2 oX12_isWord rfl rfl rfl rfl (Nat.le_of_ble_eq_true rfl) (by omega) ⟨Nat.le_refl _, Nat.le_refl _⟩ ?_
    rw [hx]
    first | refine V_if_ne_B 10 dX12_add_5 (by decide) (fun c_5 => ?_) (fun c_5 => ?_) | refine V_if_ne_N 10 dX12_add_5 (by decide) (by omega) (fun c_5 => ?_) (fun c_5 => ?_) | refine V_if_ne 10 dX12_add_5 (by decide) (fun c_5 => ?_) (fun c_5 => ?_)
    ·
      cases c_5
    ·
      refine V_iconst (v := -1) dX12_add_8 (by decide) ?_
      refine V_iret dX12_add_9 rfl (Nat.le_of_ble_eq_true rfl) (Nat.le_refl _) (Nat.le_refl _) ?_
      exact ⟨rfl, rfl⟩
  | true =>
    obtain ⟨w, hw, rfl⟩ := isW_of hx
    rw [if_pos rfl, if_pos rfl, toNat_nI (by omega)]
    refine V_aload_n dX12_add_0 rfl ?_
    refine V_iload_n dX12_add_1 rfl ?_
    refine V_callVpi1 [0] (s_X12_isWord (d := d - 1) (by omega) h) gX12_add_X12_isWord dX12_add_2 oX12_isWord rfl rfl rfl rfl (Nat.le_of_ble_eq_true rfl) (by omega) ⟨Nat.le_refl _, Nat.le_refl _⟩ ?_
    rw [hx]
    first | refine V_if_ne_B 10 dX12_add_5 (by decide) (fun c_5 => ?_) (fun c_5 => ?_) | refine V_if_ne_N 10 dX12_add_5 (by decide) (by omega) (fun c_5 => ?_) (fun c_5 => ?_) | refine V_if_ne 10 dX12_add_5 (by decide) (fun c_5 => ?_) (fun c_5 => ?_)
    ·
      refine V_aload_n dX12_add_10 rfl ?_
      refine V_get 0 dX12_add_11 fX12_add_18 rfl rfl ?_
      refine V_iload_n dX12_add_14 rfl ?_
      refine V_zald_N 1 dX12_add_15 rfl (by omega) (by first | decide | omega) ?_
      first | refine V_if_eq_B 22 dX12_add_16 (by decide) (fun c_16 => ?_) (fun c_16 => ?_) | refine V_if_eq_N 22 dX12_add_16 (by decide) (by omega) (fun c_16 => ?_) (fun c_16 => ?_) | refine V_if_eq 22 dX12_add_16 (by decide) (fun c_16 => ?_) (fun c_16 => ?_)
      ·
        rw [if_neg (by rw [c_16]; exact Bool.false_ne_true)]
        refine V_aload_n dX12_add_22 rfl ?_
        refine V_get 0 dX12_add_23 fX12_add_18 rfl rfl ?_
        refine V_iload_n dX12_add_26 rfl ?_
        refine V_iconst (v := nI 1) dX12_add_27 (by decide) ?_
        refine V_zast_N 1 dX12_add_28 rfl (show w < 256 by omega) (by decide) (Or.inr rfl) ?_
        rw [hdF_ins]
        simp only [zset_1]
        refine V_aload_n dX12_add_29 rfl ?_
        refine V_callVpi0 [0, 1] (s_X12_many (d := d - 1) (by omega) ) gX12_add_X12_many dX12_add_30 oX12_many rfl rfl rfl rfl (Nat.le_of_ble_eq_true rfl) (by omega) ⟨Nat.le_refl _, Nat.le_refl _⟩ ?_
        refine V_iret dX12_add_33 rfl (Nat.le_of_ble_eq_true rfl) (Nat.le_refl _) (Nat.le_refl _) ?_
        exact ⟨rfl, rfl⟩
      ·
        rw [if_pos c_16, insB_id c_16]
        refine V_bipush (v := (-3)) dX12_add_19 (by decide) ?_
        refine V_iret dX12_add_21 rfl (Nat.le_of_ble_eq_true rfl) (Nat.le_refl _) (Nat.le_refl _) ?_
        exact ⟨rfl, rfl⟩
    ·
      cases c_5
theorem s_X12_drop (hd : 4 ≤ d) (h : OKq q n) {x : Int32} : SpF tO MX12_drop (d, 0, 0) [.ref m0, .int x] [obM m0 A q n cut rows kq kn kc kr kt cu cv ck rm mo bo ki wa wr fo fd wn yw, (A 0, aZ 256 (hdF B))] (some (.int (dpV q n B x))) [obM m0 A q n cut rows kq kn kc kr kt cu cv ck rm mo bo ki wa wr fo fd wn yw, (A 0, aZ 256 (hdF (dpB q n B x)))] := by
  refine eX12_drop [some (.ref m0), some (.int x)] rfl (Nat.le_of_ble_eq_true rfl) ?_
  have hN := h.2.2.2.2
  unfold dpV dpB
  cases hx : isW (q ^ n) x with
  | false =>
    refine V_aload_n dX12_drop_0 rfl ?_
    refine V_iload_n dX12_drop_1 rfl ?_
    refine V_callVpi1 [0] (s_X12_isWord (d := d - 1) (by omega) h) gX12_drop_X12_isWord dX12_drop_2 oX12_isWord rfl rfl rfl rfl (Nat.le_of_ble_eq_true rfl) (by omega) ⟨Nat.le_refl _, Nat.le_refl _⟩ ?_
    rw [hx]
    first | refine V_if_ne_B 10 dX12_drop_5 (by decide) (fun c_5 => ?_) (fun c_5 => ?_) | refine V_if_ne_N 10 dX12_drop_5 (by decide) (by omega) (fun c_5 => ?_) (fun c_5 => ?_) | refine V_if_ne 10 dX12_drop_5 (by decide) (fun c_5 => ?_) (fun c_5 => ?_)
    ·
      cases c_5
    ·
      refine V_iconst (v := -1) dX12_drop_8 (by decide) ?_
      refine V_iret dX12_drop_9 rfl (Nat.le_of_ble_eq_true rfl) (Nat.le_refl _) (Nat.le_refl _) ?_
      exact ⟨rfl, rfl⟩
  | true =>
    obtain ⟨w, hw, rfl⟩ := isW_of hx
    rw [if_pos rfl, if_pos rfl, toNat_nI (by omega)]
    refine V_aload_n dX12_drop_0 rfl ?_
    refine V_iload_n dX12_drop_1 rfl ?_
    refine V_callVpi1 [0] (s_X12_isWord (d := d - 1) (by omega) h) gX12_drop_X12_isWord dX12_drop_2 oX12_isWord rfl rfl rfl rfl (Nat.le_of_ble_eq_true rfl) (by omega) ⟨Nat.le_refl _, Nat.le_refl _⟩ ?_
    rw [hx]
    first | refine V_if_ne_B 10 dX12_drop_5 (by decide) (fun c_5 => ?_) (fun c_5 => ?_) | refine V_if_ne_N 10 dX12_drop_5 (by decide) (by omega) (fun c_5 => ?_) (fun c_5 => ?_) | refine V_if_ne 10 dX12_drop_5 (by decide) (fun c_5 => ?_) (fun c_5 => ?_)
    ·
      refine V_aload_n dX12_drop_10 rfl ?_
      refine V_get 0 dX12_drop_11 fX12_drop_18 rfl rfl ?_
      refine V_iload_n dX12_drop_14 rfl ?_
      refine V_zald_N 1 dX12_drop_15 rfl (by omega) (by first | decide | omega) ?_
      first | refine V_if_ne_B 22 dX12_drop_16 (by decide) (fun c_16 => ?_) (fun c_16 => ?_) | refine V_if_ne_N 22 dX12_drop_16 (by decide) (by omega) (fun c_16 => ?_) (fun c_16 => ?_) | refine V_if_ne 22 dX12_drop_16 (by decide) (fun c_16 => ?_) (fun c_16 => ?_)
      ·
        rw [if_pos c_16]
        refine V_aload_n dX12_drop_22 rfl ?_
        refine V_get 0 dX12_drop_23 fX12_drop_18 rfl rfl ?_
        refine V_iload_n dX12_drop_26 rfl ?_
        refine V_iconst (v := nI 0) dX12_drop_27 (by decide) ?_
        refine V_zast_N 1 dX12_drop_28 rfl (show w < 256 by omega) (by decide) (Or.inl rfl) ?_
        rw [hdF_del]
        simp only [zset_1]
        refine V_aload_n dX12_drop_29 rfl ?_
        refine V_callVpi0 [0, 1] (s_X12_many (d := d - 1) (by omega) ) gX12_drop_X12_many dX12_drop_30 oX12_many rfl rfl rfl rfl (Nat.le_of_ble_eq_true rfl) (by omega) ⟨Nat.le_refl _, Nat.le_refl _⟩ ?_
        refine V_iret dX12_drop_33 rfl (Nat.le_of_ble_eq_true rfl) (Nat.le_refl _) (Nat.le_refl _) ?_
        exact ⟨rfl, rfl⟩
      ·
        rw [if_neg (by rw [c_16]; exact Bool.false_ne_true), delB_id c_16]
        refine V_bipush (v := (-3)) dX12_drop_19 (by decide) ?_
        refine V_iret dX12_drop_21 rfl (Nat.le_of_ble_eq_true rfl) (Nat.le_refl _) (Nat.le_refl _) ?_
        exact ⟨rfl, rfl⟩
    ·
      cases c_5
theorem l_X12_clear {c : Nat} : ∀ (f i : Nat) (Hc : Nat → Int32), i + f = 256 → (∀ j, j < i → Hc j = nI 0) → V tO MX12_clear (d, 0, 0) [obM m0 A q n cut rows kq kn kc kr kt cu cv ck rm mo bo ki wa wr fo fd wn yw, (A 0, aZ 256 (hdF B))] (fun v w' => v = some (.int (nI c)) ∧ w' = [obM m0 A q n cut rows kq kn kc kr kt cu cv ck rm mo bo ki wa wr fo fd wn yw, (A 0, aZ 256 (hdF (fun _ => false)))]) (0, 0) [obM m0 A q n cut rows kq kn kc kr kt cu cv ck rm mo bo ki wa wr fo fd wn yw, (A 0, aZ 256 Hc)] 7 [some (.ref m0), some (.int (nI c)), some (.int (nI i))] [] := by
  intro f
  induction f with
  | zero =>
    intro i Hc hi hH
    refine V_iload_n dX12_clear_7 rfl ?_
    refine V_sipush (v := nI 256) dX12_clear_8 (by decide) ?_
    refine V_icmp_ge_N 27 dX12_clear_11 (by decide) (by omega) (by omega) (fun c_11 => ?_) (fun c_11 => absurd c_11 (by omega))
    refine V_agp 1 (hdF (fun _ => false)) rfl (fun j hj => hH j (by omega)) ?_
    refine V_iload_n dX12_clear_27 rfl ?_
    refine V_iret dX12_clear_28 rfl (Nat.le_of_ble_eq_true rfl) (Nat.le_refl _) (Nat.le_refl _) ?_
    exact ⟨rfl, rfl⟩
  | succ f ih =>
    intro i Hc hi hH
    refine V_iload_n dX12_clear_7 rfl ?_
    refine V_sipush (v := nI 256) dX12_clear_8 (by decide) ?_
    refine V_icmp_ge_N 27 dX12_clear_11 (by decide) (by omega) (by omega) (fun c_11 => absurd c_11 (by omega)) (fun c_11 => ?_)
    refine V_aload_n dX12_clear_14 rfl ?_
    refine V_get 0 dX12_clear_15 fX12_clear_18 rfl rfl ?_
    refine V_iload_n dX12_clear_18 rfl ?_
    refine V_iconst (v := nI 0) dX12_clear_19 (by decide) ?_
    refine V_zast_N 1 dX12_clear_20 rfl (by omega) (by first | decide | omega) (by first | exact Or.inl rfl | exact Or.inr rfl | exact bI_or _) ?_
    first | refine V_iinc_N (i := 1) dX12_clear_21 rfl (by decide) rfl ?_ | refine V_iinc dX12_clear_21 rfl rfl (by decide) rfl ?_
    refine V_goto 7 dX12_clear_24 (by decide) ?_
    exact ih (i + 1) _ (by omega) (fun j hj => upd_fill hH hj)
theorem s_X12_clear (hd : 2 ≤ d) : SpF tO MX12_clear (d, 0, 0) [.ref m0] [obM m0 A q n cut rows kq kn kc kr kt cu cv ck rm mo bo ki wa wr fo fd wn yw, (A 0, aZ 256 (hdF B))] (some (.int (nI (ct B 256)))) [obM m0 A q n cut rows kq kn kc kr kt cu cv ck rm mo bo ki wa wr fo fd wn yw, (A 0, aZ 256 (hdF (fun _ => false)))] := by
  refine eX12_clear [some (.ref m0), none, none] rfl (Nat.le_of_ble_eq_true rfl) ?_
  refine V_aload_n dX12_clear_0 rfl ?_
  refine V_callVpi0 [0, 1] (s_X12_many (d := d - 1) (by omega) ) gX12_clear_X12_many dX12_clear_1 oX12_many rfl rfl rfl rfl (Nat.le_of_ble_eq_true rfl) (by omega) ⟨Nat.le_refl _, Nat.le_refl _⟩ ?_
  refine V_istore_n dX12_clear_4 (by decide) rfl ?_
  refine V_iconst (v := nI 0) dX12_clear_5 (by decide) ?_
  refine V_istore_n dX12_clear_6 (by decide) rfl ?_
  exact l_X12_clear 256 0 _ (by omega) (fun j hj => by omega)
theorem eB_of {w i : Nat} (hb : B w = true) (hc : ct B w = i) (hw : w < 256) : eB B i = w ∧ i < ct B 256 := by
  have h1 : w ≤ eB B i := by
    refine (le_fst (Nat.zero_le _) (by omega)).mpr (fun v _ hv => ?_)
    cases hbv : B v with
    | false => rfl
    | true =>
      have h2 : ct B (v + 1) = ct B v + 1 := by rw [ct_succ, hbv, if_pos rfl]
      have h3 := ct_mono B (v + 1) (w - (v + 1))
      rw [show v + 1 + (w - (v + 1)) = w by omega] at h3
      rw [show (ct B v == i) = false from beq_eq_false_iff_ne.mpr (by omega)]
      rfl
  have h4 : ¬ w + 1 ≤ eB B i := by
    intro h5
    have h6 := (le_fst (p := fun w => !(B w && ct B w == i)) (k := w + 1) (f := 256) (j := 0) (Nat.zero_le _) (by omega)).mp h5 w (Nat.zero_le _) (by omega)
    simp [hb, hc] at h6
  refine ⟨by omega, ?_⟩
  have h2 : ct B (w + 1) = ct B w + 1 := by rw [ct_succ, hb, if_pos rfl]
  have h3 := ct_mono B (w + 1) (256 - (w + 1))
  rw [show w + 1 + (256 - (w + 1)) = 256 by omega] at h3
  omega
theorem l_X12_wordOf {i : Nat} (hi : i < 2 ^ 31) : ∀ (f w : Nat), w + f = 256 → ct B w ≤ i → V tO MX12_wordOf (d, 0, 0) [obM m0 A q n cut rows kq kn kc kr kt cu cv ck rm mo bo ki wa wr fo fd wn yw, (A 0, aZ 256 (hdF B))] (fun v w' => v = some (.int (woV B (nI i))) ∧ w' = [obM m0 A q n cut rows kq kn kc kr kt cu cv ck rm mo bo ki wa wr fo fd wn yw, (A 0, aZ 256 (hdF B))]) (0, 0) [obM m0 A q n cut rows kq kn kc kr kt cu cv ck rm mo bo ki wa wr fo fd wn yw, (A 0, aZ 256 (hdF B))] 4 [some (.ref m0), some (.int (nI i)), some (.int (nI (i - ct B w))), some (.int (nI w))] [] := by
  intro f
  induction f with
  | zero =>
    intro w hw hc
    have e : w = 256 := by omega
    subst e
    have e2 : woV B (nI i) = -5 := by
      unfold woV
      rw [isW_nI hi, decide_eq_false (show ¬ i < ct B 256 by omega), if_neg Bool.false_ne_true]
    rw [e2]
    refine V_iload_n dX12_wordOf_4 rfl ?_
    refine V_sipush (v := nI 256) dX12_wordOf_5 (by decide) ?_
    refine V_icmp_ge_N 39 dX12_wordOf_8 (by decide) (by omega) (by omega) (fun c_8 => ?_) (fun c_8 => absurd c_8 (by omega))
    refine V_bipush (v := (-5)) dX12_wordOf_39 (by decide) ?_
    refine V_iret dX12_wordOf_41 rfl (Nat.le_of_ble_eq_true rfl) (Nat.le_refl _) (Nat.le_refl _) ?_
    exact ⟨rfl, rfl⟩
  | succ f ih =>
    intro w hw hc
    have i1 := ih (w + 1) (by omega)
    rw [ct_succ B w] at i1
    refine V_iload_n dX12_wordOf_4 rfl ?_
    refine V_sipush (v := nI 256) dX12_wordOf_5 (by decide) ?_
    refine V_icmp_ge_N 39 dX12_wordOf_8 (by decide) (by omega) (by omega) (fun c_8 => absurd c_8 (by omega)) (fun c_8 => ?_)
    refine V_iload_n dX12_wordOf_11 rfl ?_
    refine V_if_lt_N 39 dX12_wordOf_12 (by decide) hi ?_
    refine V_aload_n dX12_wordOf_15 rfl ?_
    refine V_get 0 dX12_wordOf_16 fX12_wordOf_18 rfl rfl ?_
    refine V_iload_n dX12_wordOf_19 rfl ?_
    refine V_zald_N 1 dX12_wordOf_20 rfl (by omega) (by first | decide | omega) ?_
    first | refine V_if_eq_B 33 dX12_wordOf_21 (by decide) (fun c_21 => ?_) (fun c_21 => ?_) | refine V_if_eq_N 33 dX12_wordOf_21 (by decide) (by omega) (fun c_21 => ?_) (fun c_21 => ?_) | refine V_if_eq 33 dX12_wordOf_21 (by decide) (fun c_21 => ?_) (fun c_21 => ?_)
    ·
      rw [c_21, if_neg Bool.false_ne_true] at i1
      first | refine V_iinc_N (i := 1) dX12_wordOf_33 rfl (by decide) rfl ?_ | refine V_iinc dX12_wordOf_33 rfl rfl (by decide) rfl ?_
      refine V_goto 4 dX12_wordOf_36 (by decide) ?_
      first
      | exact i1 hc
      | exact i1 (by omega)
    ·
      rw [c_21, if_pos rfl] at i1
      refine V_iload_n dX12_wordOf_24 rfl ?_
      refine V_if_ne_N 30 dX12_wordOf_25 (by decide) (by omega) (fun c_25 => ?_) (fun c_25 => ?_)
      ·
        refine V_iinc (v := nI (i - (ct B w + 1))) dX12_wordOf_30 rfl (by rw [show Int32.ofInt (-1) = -1 from by decide, show i - ct B w = (i - (ct B w + 1)) + 1 by omega]; exact pk_m1 _) (by decide) rfl ?_
        first | refine V_iinc_N (i := 1) dX12_wordOf_33 rfl (by decide) rfl ?_ | refine V_iinc dX12_wordOf_33 rfl rfl (by decide) rfl ?_
        refine V_goto 4 dX12_wordOf_36 (by decide) ?_
        first
        | exact i1 hc
        | exact i1 (by omega)
      ·
        have e3 := eB_of c_21 (show ct B w = i by omega) (by omega)
        refine V_iload_n dX12_wordOf_28 rfl ?_
        refine V_iret dX12_wordOf_29 rfl (Nat.le_of_ble_eq_true rfl) (Nat.le_refl _) (Nat.le_refl _) ?_
        exact ⟨by unfold woV; rw [isW_nI hi, decide_eq_true e3.2, if_pos rfl, toNat_nI hi, e3.1], rfl⟩
theorem s_X12_wordOf (hd : 1 ≤ d) {x : Int32} : SpP tO MX12_wordOf (d, 0, 0) [.ref m0, .int x] [obM m0 A q n cut rows kq kn kc kr kt cu cv ck rm mo bo ki wa wr fo fd wn yw, (A 0, aZ 256 (hdF B))] (some (.int (woV B x))) := by
  refine eX12_wordOf [some (.ref m0), some (.int x), none, none] rfl (Nat.le_of_ble_eq_true rfl) ?_
  by_cases hx : x.toInt < 0
  · have e2 : woV B x = -5 := by
      unfold woV isW
      rw [decide_eq_false (by omega), if_neg Bool.false_ne_true]
    rw [e2]
    refine V_iload_n dX12_wordOf_0 rfl ?_
    refine V_istore_n dX12_wordOf_1 (by decide) rfl ?_
    refine V_iconst (v := nI 0) dX12_wordOf_2 (by decide) ?_
    refine V_istore_n dX12_wordOf_3 (by decide) rfl ?_
    refine V_iload_n dX12_wordOf_4 rfl ?_
    refine V_sipush (v := nI 256) dX12_wordOf_5 (by decide) ?_
    first | refine V_icmp_ge_N 39 dX12_wordOf_8 (by decide) (by omega) (by omega) (fun c_8 => ?_) (fun c_8 => ?_) | refine V_icmp_ge 39 dX12_wordOf_8 (by decide) (fun c_8 => ?_) (fun c_8 => ?_)
    ·
      refine V_bipush (v := (-5)) dX12_wordOf_39 (by decide) ?_
      refine V_iret dX12_wordOf_41 rfl (Nat.le_of_ble_eq_true rfl) (Nat.le_refl _) (Nat.le_refl _) ?_
      exact ⟨rfl, rfl⟩
    ·
      refine V_iload_n dX12_wordOf_11 rfl ?_
      refine V_if_lt 39 dX12_wordOf_12 (by decide) (fun c_12 => ?_) (fun c_12 => absurd (z_lt0.mpr hx) c_12)
      refine V_bipush (v := (-5)) dX12_wordOf_39 (by decide) ?_
      refine V_iret dX12_wordOf_41 rfl (Nat.le_of_ble_eq_true rfl) (Nat.le_refl _) (Nat.le_refl _) ?_
      exact ⟨rfl, rfl⟩
  · obtain ⟨i, hi, rfl⟩ : ∃ i, i < 2 ^ 31 ∧ x = nI i := ⟨x.toInt.toNat, by have := (fb_rng' x).2; omega, toInt_nI (by omega)⟩
    refine V_iload_n dX12_wordOf_0 rfl ?_
    refine V_istore_n dX12_wordOf_1 (by decide) rfl ?_
    refine V_iconst (v := nI 0) dX12_wordOf_2 (by decide) ?_
    refine V_istore_n dX12_wordOf_3 (by decide) rfl ?_
    exact l_X12_wordOf hi 256 0 (by omega) (Nat.zero_le _)
theorem s_X12_word (hd : 2 ≤ d) {x : Int32} : SpP tO MX12_word (d, 0, 0) [.ref m0, .int x] [obM m0 A q n cut rows kq kn kc kr kt cu cv ck rm mo bo ki wa wr fo fd wn yw, (A 0, aZ 256 (hdF B))] (some (.int (woV B x))) := by
  refine eX12_word [some (.ref m0), some (.int x)] rfl (Nat.le_of_ble_eq_true rfl) ?_
  refine V_aload_n dX12_word_0 rfl ?_
  refine V_iload_n dX12_word_1 rfl ?_
  refine V_callVpi1 [0, 1] (s_X12_wordOf (d := d - 1) (by omega) ) gX12_word_X12_wordOf dX12_word_2 oX12_wordOf rfl rfl rfl rfl (Nat.le_of_ble_eq_true rfl) (by omega) ⟨Nat.le_refl _, Nat.le_refl _⟩ ?_
  refine V_iret dX12_word_5 rfl (Nat.le_of_ble_eq_true rfl) (Nat.le_refl _) (Nat.le_refl _) ?_
  exact ⟨rfl, rfl⟩
theorem s_X12_letter (hd : 4 ≤ d) (h : OKq q n) {x y : Int32} : SpP tO MX12_letter (d, 0, 0) [.ref m0, .int x, .int y] [obM m0 A q n cut rows kq kn kc kr kt cu cv ck rm mo bo ki wa wr fo fd wn yw] (some (.int (leV q n x y))) := by
  refine eX12_letter [some (.ref m0), some (.int x), some (.int y)] rfl (Nat.le_of_ble_eq_true rfl) ?_
  have hN := h.2.2.2.2
  have hn := h.2.2.2.1
  have hn1 := h.2.2.1
  unfold leV
  refine V_aload_n dX12_letter_0 rfl ?_
  refine V_iload_n dX12_letter_1 rfl ?_
  refine V_callVpi1 [0] (s_X12_isWord (d := d - 1) (by omega) h) gX12_letter_X12_isWord dX12_letter_2 oX12_isWord rfl rfl rfl rfl (Nat.le_of_ble_eq_true rfl) (by omega) ⟨Nat.le_refl _, Nat.le_refl _⟩ ?_
  first | refine V_if_eq_B 33 dX12_letter_5 (by decide) (fun c_5 => ?_) (fun c_5 => ?_) | refine V_if_eq_N 33 dX12_letter_5 (by decide) (by omega) (fun c_5 => ?_) (fun c_5 => ?_) | refine V_if_eq 33 dX12_letter_5 (by decide) (fun c_5 => ?_) (fun c_5 => ?_)
  ·
    rw [c_5, Bool.false_and]
    refine V_iconst (v := -1) dX12_letter_33 (by decide) ?_
    refine V_iret dX12_letter_34 rfl (Nat.le_of_ble_eq_true rfl) (Nat.le_refl _) (Nat.le_refl _) ?_
    exact ⟨rfl, rfl⟩
  ·
    refine V_iload_n dX12_letter_8 rfl ?_
    refine V_i2l dX12_letter_9 ?_
    refine V_lconst (v := 0) dX12_letter_10 (by decide) ?_
    refine V_aload_n dX12_letter_11 rfl ?_
    refine V_get 0 dX12_letter_12 fX12_letter_15 rfl rfl ?_
    refine V_iconst (v := nI 1) dX12_letter_15 (by decide) ?_
    first | refine V_isub_N dX12_letter_16 (by omega) ?_ | refine V_isub dX12_letter_16 ?_
    refine V_i2l dX12_letter_17 ?_
    refine V_callSpi3 [] (s_X12_isInW (d := d - 1) (by omega) (by omega) (by omega)) gX12_letter_X12_isIn dX12_letter_18 oX12_isIn rfl rfl (Nat.le_of_ble_eq_true rfl) (by omega) ⟨Nat.le_refl _, Nat.le_refl _⟩ ?_
    first | refine V_if_eq_B 33 dX12_letter_21 (by decide) (fun c_21 => ?_) (fun c_21 => ?_) | refine V_if_eq_N 33 dX12_letter_21 (by decide) (by omega) (fun c_21 => ?_) (fun c_21 => ?_) | refine V_if_eq 33 dX12_letter_21 (by decide) (fun c_21 => ?_) (fun c_21 => ?_)
    ·
      rw [c_21, Bool.and_false]
      refine V_iconst (v := -1) dX12_letter_33 (by decide) ?_
      refine V_iret dX12_letter_34 rfl (Nat.le_of_ble_eq_true rfl) (Nat.le_refl _) (Nat.le_refl _) ?_
      exact ⟨rfl, rfl⟩
    ·
      rw [c_5, c_21, Bool.and_self, if_pos rfl]
      obtain ⟨w, hw, rfl⟩ := isW_of c_5
      obtain ⟨i, hi, rfl⟩ := isW_of c_21
      rw [toNat_nI (by omega), toNat_nI (by omega)]
      refine V_aload_n dX12_letter_24 rfl ?_
      refine V_iload_n dX12_letter_25 rfl ?_
      refine V_iload_n dX12_letter_26 rfl ?_
      refine V_callVpi2 [0] (s_X12_letterOf (d := d - 1) (by omega) h hw hi) gX12_letter_X12_letterOf dX12_letter_27 oX12_letterOf rfl rfl rfl rfl (Nat.le_of_ble_eq_true rfl) (by omega) ⟨Nat.le_refl _, Nat.le_refl _⟩ ?_
      refine V_goto 34 dX12_letter_30 (by decide) ?_
      refine V_iret dX12_letter_34 rfl (Nat.le_of_ble_eq_true rfl) (Nat.le_refl _) (Nat.le_refl _) ?_
      exact ⟨rfl, rfl⟩
theorem s_X12_across (hd : 3 ≤ d) (h : OKq q n) {u v k : Nat} (hu : u < q ^ n) (hv : v < q ^ n) (hk : k ≤ n) : SpP tO MX12_across (d, 0, 0) [.ref m0, .int (nI u), .int (nI v), .int (nI k)] [obM m0 A q n cut rows kq kn kc kr kt cu cv ck rm mo bo ki wa wr fo fd wn yw] (some (.int (nI (wAc q n u v k)))) := by
  refine eX12_across [some (.ref m0), some (.int (nI u)), some (.int (nI v)), some (.int (nI k)), none] rfl (Nat.le_of_ble_eq_true rfl) ?_
  have hN := h.2.2.2.2
  have hn := h.2.2.2.1
  have h0 := h.pos k
  have h1 := h.le hk
  have e : q ^ n / q ^ k = q ^ (n - k) := Nat.pow_div hk (by have := h.1; omega)
  have h2 := h.pos (n - k)
  have h3 := h.le (k := n - k) (by omega)
  unfold wAc
  rw [← e] at h2 h3 ⊢
  refine V_aload_n dX12_across_0 rfl ?_
  refine V_get 0 dX12_across_1 fX12_across_9 rfl rfl ?_
  refine V_iload_n dX12_across_4 rfl ?_
  refine V_callSpi2 [] (s_X12_power (d := d - 1) (by omega) (by omega)) gX12_across_X12_power dX12_across_5 oX12_power rfl rfl (Nat.le_of_ble_eq_true rfl) (by omega) ⟨Nat.le_refl _, Nat.le_refl _⟩ ?_
  refine V_istore dX12_across_8 (by decide) rfl ?_
  refine V_iload_n dX12_across_10 rfl ?_
  refine V_aload_n dX12_across_11 rfl ?_
  refine V_callVpi0 [0] (s_X12_words (d := d - 1) (by omega) h) gX12_across_X12_words dX12_across_12 oX12_words rfl rfl rfl rfl (Nat.le_of_ble_eq_true rfl) (by omega) ⟨Nat.le_refl _, Nat.le_refl _⟩ ?_
  refine V_iload dX12_across_15 rfl ?_
  refine V_idiv_N dX12_across_17 (by omega) (by omega) (by omega) ?_
  refine V_irem_N dX12_across_18 (by omega) (by omega) (by omega) ?_
  refine V_iload dX12_across_19 rfl ?_
  first | refine V_imul_N dX12_across_21 ?_ | refine V_imul dX12_across_21 ?_
  refine V_iload_n dX12_across_22 rfl ?_
  refine V_aload_n dX12_across_23 rfl ?_
  refine V_callVpi0 [0] (s_X12_words (d := d - 1) (by omega) h) gX12_across_X12_words dX12_across_24 oX12_words rfl rfl rfl rfl (Nat.le_of_ble_eq_true rfl) (by omega) ⟨Nat.le_refl _, Nat.le_refl _⟩ ?_
  refine V_iload dX12_across_27 rfl ?_
  refine V_idiv_N dX12_across_29 (by omega) (by omega) (by omega) ?_
  refine V_idiv_N dX12_across_30 (by omega) (by omega) (by omega) ?_
  first | refine V_iadd_N dX12_across_31 ?_ | refine V_iadd dX12_across_31 ?_
  refine V_iret dX12_across_32 rfl (Nat.le_of_ble_eq_true rfl) (Nat.le_refl _) (Nat.le_refl _) ?_
  exact ⟨rfl, rfl⟩
theorem l_X12_hides (hd : 4 ≤ d) (h : OKq q n) {u v w : Nat} (hu : u < q ^ n) (hv : v < q ^ n) (hw : w < q ^ n) : ∀ (f k : Nat), k + f = n → 1 ≤ k → V tO MX12_hides (d, 0, 0) [obM m0 A q n cut rows kq kn kc kr kt cu cv ck rm mo bo ki wa wr fo fd wn yw] (fun v' w' => v' = some (.int (nI (btN (hiP q n u v w) n))) ∧ w' = [obM m0 A q n cut rows kq kn kc kr kt cu cv ck rm mo bo ki wa wr fo fd wn yw]) (0, 0) [obM m0 A q n cut rows kq kn kc kr kt cu cv ck rm mo bo ki wa wr fo fd wn yw] 32 [some (.ref m0), some (.int (nI u)), some (.int (nI v)), some (.int (nI w)), some (.int (nI (btN (hiP q n u v w) k))), some (.int (nI k))] [] := by
  have hN := h.2.2.2.2
  have hn := h.2.2.2.1
  intro f
  induction f with
  | zero =>
    intro k hk hk1
    have e : k = n := by omega
    subst e
    refine V_iload dX12_hides_32 rfl ?_
    refine V_aload_n dX12_hides_34 rfl ?_
    refine V_get 0 dX12_hides_35 fX12_hides_15 rfl rfl ?_
    refine V_icmp_ge_N 72 dX12_hides_38 (by decide) (by omega) (by omega) (fun c_38 => ?_) (fun c_38 => absurd c_38 (by omega))
    refine V_iload dX12_hides_72 rfl ?_
    refine V_iret dX12_hides_74 rfl (Nat.le_of_ble_eq_true rfl) (Nat.le_refl _) (Nat.le_refl _) ?_
    exact ⟨rfl, rfl⟩
  | succ f ih =>
    intro k hk hk1
    have i1 := ih (k + 1) (by omega) (by omega)
    rw [btN] at i1
    have hl := wAc_lt (u := u) h (show k ≤ n by omega) hv
    refine V_iload dX12_hides_32 rfl ?_
    refine V_aload_n dX12_hides_34 rfl ?_
    refine V_get 0 dX12_hides_35 fX12_hides_15 rfl rfl ?_
    refine V_icmp_ge_N 72 dX12_hides_38 (by decide) (by omega) (by omega) (fun c_38 => absurd c_38 (by omega)) (fun c_38 => ?_)
    refine V_iload dX12_hides_41 rfl ?_
    refine V_aload_n dX12_hides_43 rfl ?_
    refine V_iload_n dX12_hides_44 rfl ?_
    refine V_iload_n dX12_hides_45 rfl ?_
    refine V_iload dX12_hides_46 rfl ?_
    refine V_callVpi3 [0] (s_X12_across (d := d - 1) (by omega) h hu hv (by omega)) gX12_hides_X12_across dX12_hides_48 oX12_across rfl rfl rfl rfl (Nat.le_of_ble_eq_true rfl) (by omega) ⟨Nat.le_refl _, Nat.le_refl _⟩ ?_
    refine V_iload_n dX12_hides_51 rfl ?_
    first | refine V_icmp_ne_N 62 dX12_hides_52 (by decide) (by omega) (by omega) (fun c_52 => ?_) (fun c_52 => ?_) | refine V_icmp_ne 62 dX12_hides_52 (by decide) (fun c_52 => ?_) (fun c_52 => ?_)
    ·
      rw [show hiP q n u v w k = false by unfold hiP; exact decide_eq_false (fun hh => c_52 hh.2), if_neg Bool.false_ne_true] at i1
      refine V_iconst (v := nI 0) dX12_hides_62 (by decide) ?_
      refine V_ior dX12_hides_63 ?_
      refine V_to (show nI (btN (hiP q n u v w) k) ||| nI 0 = nI (btN (hiP q n u v w) k) by rw [nI_or, Nat.or_zero]) ?_
      refine V_istore dX12_hides_64 (by decide) rfl ?_
      refine V_iinc_N (i := 1) dX12_hides_66 rfl (by decide) rfl ?_
      refine V_goto 32 dX12_hides_69 (by decide) ?_
      exact i1
    ·
      rw [show hiP q n u v w k = true by unfold hiP; exact decide_eq_true ⟨hk1, c_52⟩, if_pos rfl] at i1
      refine V_iconst (v := nI 1) dX12_hides_55 (by decide) ?_
      refine V_iload dX12_hides_56 rfl ?_
      refine V_ishl dX12_hides_58 ?_
      refine V_to (nI_shl1 k (by omega)) ?_
      refine V_goto 63 dX12_hides_59 (by decide) ?_
      refine V_ior dX12_hides_63 ?_
      refine V_to btN_or ?_
      refine V_istore dX12_hides_64 (by decide) rfl ?_
      first | refine V_iinc_N (i := 1) dX12_hides_66 rfl (by decide) rfl ?_ | refine V_iinc dX12_hides_66 rfl rfl (by decide) rfl ?_
      refine V_goto 32 dX12_hides_69 (by decide) ?_
      exact i1
theorem s_X12_hides (hd : 4 ≤ d) (h : OKq q n) {x y z : Int32} : SpP tO MX12_hides (d, 0, 0) [.ref m0, .int x, .int y, .int z] [obM m0 A q n cut rows kq kn kc kr kt cu cv ck rm mo bo ki wa wr fo fd wn yw] (some (.int (hiV q n x y z))) := by
  refine eX12_hides [some (.ref m0), some (.int x), some (.int y), some (.int z), none, none] rfl (Nat.le_of_ble_eq_true rfl) ?_
  have hN := h.2.2.2.2
  have hn := h.2.2.1
  unfold hiV
  refine V_aload_n dX12_hides_0 rfl ?_
  refine V_iload_n dX12_hides_1 rfl ?_
  refine V_callVpi1 [0] (s_X12_isWord (d := d - 1) (by omega) h) gX12_hides_X12_isWord dX12_hides_2 oX12_isWord rfl rfl rfl rfl (Nat.le_of_ble_eq_true rfl) (by omega) ⟨Nat.le_refl _, Nat.le_refl _⟩ ?_
  first | refine V_if_eq_B 24 dX12_hides_5 (by decide) (fun c_5 => ?_) (fun c_5 => ?_) | refine V_if_eq_N 24 dX12_hides_5 (by decide) (by omega) (fun c_5 => ?_) (fun c_5 => ?_) | refine V_if_eq 24 dX12_hides_5 (by decide) (fun c_5 => ?_) (fun c_5 => ?_)
  ·
    rw [c_5, Bool.false_and]
    refine V_iconst (v := -1) dX12_hides_24 (by decide) ?_
    refine V_iret dX12_hides_25 rfl (Nat.le_of_ble_eq_true rfl) (Nat.le_refl _) (Nat.le_refl _) ?_
    exact ⟨rfl, rfl⟩
  ·
    refine V_aload_n dX12_hides_8 rfl ?_
    refine V_iload_n dX12_hides_9 rfl ?_
    refine V_callVpi1 [0] (s_X12_isWord (d := d - 1) (by omega) h) gX12_hides_X12_isWord dX12_hides_10 oX12_isWord rfl rfl rfl rfl (Nat.le_of_ble_eq_true rfl) (by omega) ⟨Nat.le_refl _, Nat.le_refl _⟩ ?_
    first | refine V_if_eq_B 24 dX12_hides_13 (by decide) (fun c_13 => ?_) (fun c_13 => ?_) | refine V_if_eq_N 24 dX12_hides_13 (by decide) (by omega) (fun c_13 => ?_) (fun c_13 => ?_) | refine V_if_eq 24 dX12_hides_13 (by decide) (fun c_13 => ?_) (fun c_13 => ?_)
    ·
      rw [c_13, Bool.false_and, Bool.and_false]
      refine V_iconst (v := -1) dX12_hides_24 (by decide) ?_
      refine V_iret dX12_hides_25 rfl (Nat.le_of_ble_eq_true rfl) (Nat.le_refl _) (Nat.le_refl _) ?_
      exact ⟨rfl, rfl⟩
    ·
      refine V_aload_n dX12_hides_16 rfl ?_
      refine V_iload_n dX12_hides_17 rfl ?_
      refine V_callVpi1 [0] (s_X12_isWord (d := d - 1) (by omega) h) gX12_hides_X12_isWord dX12_hides_18 oX12_isWord rfl rfl rfl rfl (Nat.le_of_ble_eq_true rfl) (by omega) ⟨Nat.le_refl _, Nat.le_refl _⟩ ?_
      first | refine V_if_ne_B 26 dX12_hides_21 (by decide) (fun c_21 => ?_) (fun c_21 => ?_) | refine V_if_ne_N 26 dX12_hides_21 (by decide) (by omega) (fun c_21 => ?_) (fun c_21 => ?_) | refine V_if_ne 26 dX12_hides_21 (by decide) (fun c_21 => ?_) (fun c_21 => ?_)
      ·
        rw [c_5, c_13, c_21, Bool.and_self, Bool.and_self, if_pos rfl]
        obtain ⟨u, hu, rfl⟩ := isW_of c_5
        obtain ⟨v, hv, rfl⟩ := isW_of c_13
        obtain ⟨w, hw, rfl⟩ := isW_of c_21
        rw [toNat_nI (by omega), toNat_nI (by omega), toNat_nI (by omega)]
        refine V_iconst (v := nI 0) dX12_hides_26 (by decide) ?_
        refine V_istore dX12_hides_27 (by decide) rfl ?_
        refine V_iconst (v := nI 1) dX12_hides_29 (by decide) ?_
        refine V_istore dX12_hides_30 (by decide) rfl ?_
        have i1 := l_X12_hides (tO := tO) (d := d) (m0 := m0) (A := A) (cut := cut) (rows := rows) (kq := kq) (kn := kn) (kc := kc) (kr := kr) (kt := kt) (cu := cu) (cv := cv) (ck := ck) (rm := rm) (mo := mo) (bo := bo) (ki := ki) (wa := wa) (wr := wr) (fo := fo) (fd := fd) (wn := wn) (yw := yw) hd h hu hv hw (n - 1) 1 (by omega) (by omega)
        exact i1
      ·
        rw [c_21, Bool.and_false, Bool.and_false]
        refine V_iconst (v := -1) dX12_hides_24 (by decide) ?_
        refine V_iret dX12_hides_25 rfl (Nat.le_of_ble_eq_true rfl) (Nat.le_refl _) (Nat.le_refl _) ?_
        exact ⟨rfl, rfl⟩
end MDL1

