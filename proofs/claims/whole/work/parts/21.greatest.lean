/-! Greatest: the free books of most words, sought ring by ring -/
theorem nI_shl32 : ∀ r, r < 32 → nI 1 <<< (nI r &&& 31) = nI (2 ^ r) := by decide +kernel
def rgF (q n : Nat) : Nat → Int32 := fun w => if w < q ^ n ∧ rWh q n w = true then nI (ct (rRi q n) (rLeast q n w)) else -1
def inR (q n r w : Nat) : Bool := decide (rgF q n w = nI r)
def nK (q n : Nat) : Nat := ct (rRi q n) (q ^ n)
def nt (S : Nat × List Nat) (c bits : Nat) : Nat × List Nat := if S.1 < c then (c, [bits]) else (S.1, S.2 ++ [bits])
def lpF (P : Nat → Bool) (F : Nat → Nat × List Nat → Nat × List Nat) : Nat → Nat → Nat × List Nat → Nat × List Nat
  | 0, _, S => S
  | g + 1, w, S => lpF P F g (w + 1) (if P w then F w S else S)
noncomputable def skF (q n K : Nat) : Nat → (Nat → Bool) → Nat → Nat × List Nat → Nat × List Nat
  | 0, B, bits, S => if ct B 256 < S.1 then S else nt S (ct B 256) bits
  | f + 1, B, bits, S => if ct B 256 + (f + 1) < S.1 then S else skF q n K f B bits (lpF (fun w => inR q n (K - (f + 1)) w && alB q n B w) (fun w S => skF q n K f (insB B w) (bits ||| 2 ^ w) S) 32 0 S)
/-- the greatest books: how many words, and each as bits -/
noncomputable def GR (q n : Nat) : Nat × List Nat := skF q n (nK q n) (nK q n) (fun _ => false) 0 (0, [])
def exb (q n s bits : Nat) : Nat → Nat → Nat → Nat
  | 0, _, a => a
  | f + 1, w, a => exb q n s bits f (w + 1) (if bits / 2 ^ w % 2 = 1 then a ||| 2 ^ wEx q n s w else a)
def lsF (q n bits : Nat) : Nat → Nat → Bool
  | 0, _ => true
  | f + 1, s => if exb q n s bits 32 0 0 < bits then false else lsF q n bits f (s + 1)
def lsB (q n bits : Nat) : Bool := lsF q n bits (nSw q) 0
def unC (q n : Nat) (L : List Nat) (m : Nat) : Nat := ct (fun i => lsB q n (L.getD i 0)) m
/-- the word of a ring among bits -/
def wdF (q n bits k : Nat) : Nat → Nat → Int32
  | 0, _ => -1
  | f + 1, w => if bits / 2 ^ w % 2 = 1 then (if inR q n k w then nI w else wdF q n bits k f (w + 1)) else wdF q n bits k f (w + 1)
theorem inR_ok {q n r w : Nat} (h : OKq q n) (hs : q ^ n ≤ 32) (hr : r < 64) (hi : inR q n r w = true) : w < q ^ n ∧ rWh q n w = true ∧ w < 31 := by
  have hi := of_decide_eq_true hi
  unfold rgF at hi
  by_cases e : w < q ^ n ∧ rWh q n w = true
  · refine ⟨e.1, e.2, ?_⟩
    have key : ∀ x ∈ okL, x.1 ^ x.2 ≤ 32 → ∀ w, w < x.1 ^ x.2 → rWh x.1 x.2 w = true → w < 31 := by decide +kernel
    exact key (q, n) h.mem hs w e.1 e.2
  · rw [if_neg e] at hi
    exact absurd hi (by intro hh; have := congrArg Int32.toInt hh; rw [nI_toInt (by omega)] at this; rw [show (-1 : Int32).toInt = -1 from by decide] at this; omega)
theorem nK_le {q n : Nat} (h : OKq q n) (hs : q ^ n ≤ 32) : nK q n ≤ 8 := by
  have key : ∀ x ∈ okL, x.1 ^ x.2 ≤ 32 → nK x.1 x.2 ≤ 8 := by decide +kernel
  exact key (q, n) h.mem hs
/-- bits of whole words -/
def BOK (q n bits : Nat) : Prop := bits < 2 ^ 31 ∧ ∀ w, bits / 2 ^ w % 2 = 1 → w < q ^ n ∧ rWh q n w = true
theorem bit_or {a i w : Nat} : (a ||| 2 ^ i) / 2 ^ w % 2 = 1 ↔ a / 2 ^ w % 2 = 1 ∨ w = i := by
  have e : ∀ x, x / 2 ^ w % 2 = 1 ↔ x.testBit w = true := fun x => by rw [Nat.testBit_eq_decide_div_mod_eq]; simp
  rw [e, e, Nat.testBit_or, Nat.testBit_two_pow, Bool.or_eq_true, decide_eq_true_iff]
  exact or_congr Iff.rfl ⟨fun h => h.symm, fun h => h.symm⟩
theorem BOK.or {q n r w bits : Nat} (h : OKq q n) (hs : q ^ n ≤ 32) (hr : r < 64) (hb : BOK q n bits) (hi : inR q n r w = true) : BOK q n (bits ||| 2 ^ w) := by
  obtain ⟨h1, h2, h3⟩ := inR_ok h hs hr hi
  refine ⟨Nat.or_lt_two_pow hb.1 (Nat.pow_lt_pow_right (by decide) (by omega)), fun x hx => ?_⟩
  rcases bit_or.mp hx with e | e
  · exact hb.2 x e
  · rw [e]; exact ⟨h1, h2⟩
theorem wEx_wh {q n s w : Nat} (h : OKq q n) (hs : q ^ n ≤ 32) (hsw : s < nSw q) (hw : w < q ^ n) (hr : rWh q n w = true) : wEx q n s w < 31 := by
  have key : ∀ x ∈ okL, x.1 ^ x.2 ≤ 32 → ∀ s, s < nSw x.1 → ∀ w, w < x.1 ^ x.2 → rWh x.1 x.2 w = true → wEx x.1 x.2 s w < 31 := by decide +kernel
  exact key (q, n) h.mem hs s hsw w hw hr
/-- what the found books are in their row -/
def FOK (F : Nat → Int32) (L : List Nat) : Prop := ∀ i, i < min L.length 128 → F i = nI (L.getD i 0)
theorem FOK.nil (F : Nat → Int32) : FOK F [] := fun i hi => by simp at hi
theorem FOK.app {F : Nat → Int32} {L : List Nat} {b : Nat} (h : FOK F L) : FOK (if L.length < 128 then upd F L.length (nI b) else F) (L ++ [b]) := by
  intro i hi
  simp only [List.length_append, List.length_cons, List.length_nil] at hi
  by_cases hl : L.length < 128
  · rw [if_pos hl]
    unfold upd
    by_cases e : i = L.length
    · subst e; rw [if_pos rfl]; simp
    · rw [if_neg e, h i (by omega)]
      unfold List.getD
      rw [List.getElem?_append_left (by omega)]
  · rw [if_neg hl, h i (by omega)]
    unfold List.getD
    rw [List.getElem?_append_left (by omega)]
abbrev obG (g0 g1 g2 a0 b0 qo no K mo my un : Nat) : Nat × zE := (g0, oB 3 [.ref a0, .ref b0, .ref g1, .ref g2, .int (nI qo), .int (nI no), .int (nI K), .int (nI mo), .int (nI my), .int (nI un)])
section GREATEST
variable {tO d q n g0 g1 g2 a0 a1 b0 b1 b2 b3 b4 b5 m qo no K mo my un : Nat} {W Hd Im O E F Rg : Nat → Int32} {B : Nat → Bool}
theorem s_X4_books (hd : 1 ≤ d) : SpP tO MX4_books (d, 0, 0) [.ref g0] [obG g0 g1 g2 a0 b0 qo no K mo my un] (some (.int (nI my))) := by
  refine eX4_books [some (.ref g0)] rfl (Nat.le_of_ble_eq_true rfl) ?_
  refine V_aload_n dX4_books_0 rfl ?_
  refine V_get 0 dX4_books_1 fX4_books_33 rfl rfl ?_
  refine V_iret dX4_books_4 rfl (Nat.le_of_ble_eq_true rfl) (Nat.le_refl _) (Nat.le_refl _) ?_
  exact ⟨rfl, rfl⟩
theorem s_X4_wordsEach (hd : 1 ≤ d) : SpP tO MX4_wordsEach (d, 0, 0) [.ref g0] [obG g0 g1 g2 a0 b0 qo no K mo my un] (some (.int (nI mo))) := by
  refine eX4_wordsEach [some (.ref g0)] rfl (Nat.le_of_ble_eq_true rfl) ?_
  refine V_aload_n dX4_wordsEach_0 rfl ?_
  refine V_get 0 dX4_wordsEach_1 fX4_wordsEach_36 rfl rfl ?_
  refine V_iret dX4_wordsEach_4 rfl (Nat.le_of_ble_eq_true rfl) (Nat.le_refl _) (Nat.le_refl _) ?_
  exact ⟨rfl, rfl⟩
theorem s_X4_kinds (hd : 1 ≤ d) : SpP tO MX4_kinds (d, 0, 0) [.ref g0] [obG g0 g1 g2 a0 b0 qo no K mo my un] (some (.int (nI un))) := by
  refine eX4_kinds [some (.ref g0)] rfl (Nat.le_of_ble_eq_true rfl) ?_
  refine V_aload_n dX4_kinds_0 rfl ?_
  refine V_get 0 dX4_kinds_1 fX4_kinds_39 rfl rfl ?_
  refine V_iret dX4_kinds_4 rfl (Nat.le_of_ble_eq_true rfl) (Nat.le_refl _) (Nat.le_refl _) ?_
  exact ⟨rfl, rfl⟩
theorem s_X4_note (hd : 2 ≤ d) {L : List Nat} {b : Nat} (hmy : my = min L.length 128) (hF : FOK F L) (hm : m ≤ 256) (hmo : mo ≤ 256) : Sp tO MX4_note (d, 0, 0) [.ref g0, .int (nI b)] [obG g0 g1 g2 a0 b0 qo no K mo my un, (g2, aI 128 F), obB b0 b1 b2 b3 b4 b5 a0 m] (fun v w' => ∃ F', v = none ∧ FOK F' (nt (mo, L) m b).2 ∧ w' = [obG g0 g1 g2 a0 b0 qo no K (nt (mo, L) m b).1 (min (nt (mo, L) m b).2.length 128) un, (g2, aI 128 F'), obB b0 b1 b2 b3 b4 b5 a0 m]) := by
  refine eX4_note [some (.ref g0), some (.int (nI b))] rfl (Nat.le_of_ble_eq_true rfl) ?_
  have hmy2 : my ≤ 128 := by omega
  refine V_aload_n dX4_note_0 rfl ?_
  refine V_get 0 dX4_note_1 fX4_note_15 rfl rfl ?_
  refine V_callVpi0 [2] (s_X1_total (d := d - 1) (by omega) ) gX4_note_X1_total dX4_note_4 oX1_total rfl rfl rfl rfl (Nat.le_of_ble_eq_true rfl) (by omega) ⟨Nat.le_refl _, Nat.le_refl _⟩ ?_
  refine V_aload_n dX4_note_7 rfl ?_
  refine V_get 0 dX4_note_8 fX4_note_36 rfl rfl ?_
  first | refine V_icmp_le_N 30 dX4_note_11 (by decide) (by omega) (by omega) (fun c_11 => ?_) (fun c_11 => ?_) | refine V_icmp_le 30 dX4_note_11 (by decide) (fun c_11 => ?_) (fun c_11 => ?_)
  ·
    have e : nt (mo, L) m b = (mo, L ++ [b]) := by unfold nt; rw [if_neg (by omega)]
    have hA := hF.app (b := b)
    refine V_aload_n dX4_note_30 rfl ?_
    refine V_get 0 dX4_note_31 fX4_note_33 rfl rfl ?_
    refine V_aload_n dX4_note_34 rfl ?_
    refine V_get 0 dX4_note_35 fX4_note_23 rfl rfl ?_
    refine V_alen 1 dX4_note_38 rfl ?_
    first | refine V_icmp_ge_N 64 dX4_note_39 (by decide) (by omega) (by decide) (fun c_39 => ?_) (fun c_39 => ?_) | fail
    ·
      refine V_vret dX4_note_64 rfl (Nat.le_of_ble_eq_true rfl) (Nat.le_refl _) (Nat.le_refl _) ?_
      rw [e]
      first
      | (refine ⟨_, rfl, hA, ?_⟩; simp only [List.length_append, List.length_cons, List.length_nil]; rw [if_pos (show L.length < 128 by omega), show my = L.length by omega, show min (L.length + (0 + 1)) 128 = L.length + 1 by omega]; rfl)
      | (refine ⟨_, rfl, hA, ?_⟩; simp only [List.length_append, List.length_cons, List.length_nil]; rw [if_neg (show ¬ L.length < 128 by omega), show my = 128 by omega, show min (L.length + (0 + 1)) 128 = 128 by omega])
      | exact ⟨_, rfl, hA, rfl⟩
      | exact absurd c_39 (by omega)
    ·
      refine V_aload_n dX4_note_42 rfl ?_
      refine V_get 0 dX4_note_43 fX4_note_23 rfl rfl ?_
      refine V_aload_n dX4_note_46 rfl ?_
      refine V_get 0 dX4_note_47 fX4_note_33 rfl rfl ?_
      refine V_iload_n dX4_note_50 rfl ?_
      refine V_callSfv3 [1] (s_X8_setI (d := d - 1) (by omega) (by omega) (by decide)) gX4_note_X8_set dX4_note_51 oX8_set rfl rfl (Nat.le_of_ble_eq_true rfl) (by omega) ⟨Nat.le_refl _, Nat.le_refl _⟩ ?_
      simp only [zput_n, zput_c, zset_1]
      refine V_aload_n dX4_note_54 rfl ?_
      refine V_dup dX4_note_55 rfl ?_
      refine V_get 0 dX4_note_56 fX4_note_33 rfl rfl ?_
      refine V_iconst (v := nI 1) dX4_note_59 (by decide) ?_
      first | refine V_iadd_N dX4_note_60 ?_ | refine V_iadd dX4_note_60 ?_
      refine V_put 0 dX4_note_61 fX4_note_33 ft_3_8 rfl rfl rfl (Nat.le_of_ble_eq_true rfl) ?_
      refine V_vret dX4_note_64 rfl (Nat.le_of_ble_eq_true rfl) (Nat.le_refl _) (Nat.le_refl _) ?_
      rw [e]
      first
      | (refine ⟨_, rfl, hA, ?_⟩; simp only [List.length_append, List.length_cons, List.length_nil]; rw [if_pos (show L.length < 128 by omega), show my = L.length by omega, show min (L.length + (0 + 1)) 128 = L.length + 1 by omega]; rfl)
      | (refine ⟨_, rfl, hA, ?_⟩; simp only [List.length_append, List.length_cons, List.length_nil]; rw [if_neg (show ¬ L.length < 128 by omega), show my = 128 by omega, show min (L.length + (0 + 1)) 128 = 128 by omega])
      | exact ⟨_, rfl, hA, rfl⟩
      | exact absurd c_39 (by omega)
  ·
    have e : nt (mo, L) m b = (m, [b]) := by unfold nt; rw [if_pos c_11]
    have hA : FOK (upd F 0 (nI b)) [b] := (FOK.nil F).app (b := b)
    refine V_aload_n dX4_note_14 rfl ?_
    refine V_aload_n dX4_note_15 rfl ?_
    refine V_get 0 dX4_note_16 fX4_note_15 rfl rfl ?_
    refine V_callVpi0 [2] (s_X1_total (d := d - 1) (by omega) ) gX4_note_X1_total dX4_note_19 oX1_total rfl rfl rfl rfl (Nat.le_of_ble_eq_true rfl) (by omega) ⟨Nat.le_refl _, Nat.le_refl _⟩ ?_
    refine V_put 0 dX4_note_22 fX4_note_36 ft_3_7 rfl rfl rfl (Nat.le_of_ble_eq_true rfl) ?_
    refine V_aload_n dX4_note_25 rfl ?_
    refine V_iconst (v := nI 0) dX4_note_26 (by decide) ?_
    refine V_put 0 dX4_note_27 fX4_note_33 ft_3_8 rfl rfl rfl (Nat.le_of_ble_eq_true rfl) ?_
    refine V_aload_n dX4_note_30 rfl ?_
    refine V_get 0 dX4_note_31 fX4_note_33 rfl rfl ?_
    refine V_aload_n dX4_note_34 rfl ?_
    refine V_get 0 dX4_note_35 fX4_note_23 rfl rfl ?_
    refine V_alen 1 dX4_note_38 rfl ?_
    first | refine V_icmp_ge_N 64 dX4_note_39 (by decide) (by omega) (by decide) (fun c_39 => ?_) (fun c_39 => ?_) | fail
    ·
      refine V_vret dX4_note_64 rfl (Nat.le_of_ble_eq_true rfl) (Nat.le_refl _) (Nat.le_refl _) ?_
      rw [e]
      first
      | (refine ⟨_, rfl, hA, ?_⟩; simp only [List.length_append, List.length_cons, List.length_nil]; rw [if_pos (show L.length < 128 by omega), show my = L.length by omega, show min (L.length + (0 + 1)) 128 = L.length + 1 by omega]; rfl)
      | (refine ⟨_, rfl, hA, ?_⟩; simp only [List.length_append, List.length_cons, List.length_nil]; rw [if_neg (show ¬ L.length < 128 by omega), show my = 128 by omega, show min (L.length + (0 + 1)) 128 = 128 by omega])
      | exact ⟨_, rfl, hA, rfl⟩
      | exact absurd c_39 (by omega)
    ·
      refine V_aload_n dX4_note_42 rfl ?_
      refine V_get 0 dX4_note_43 fX4_note_23 rfl rfl ?_
      refine V_aload_n dX4_note_46 rfl ?_
      refine V_get 0 dX4_note_47 fX4_note_33 rfl rfl ?_
      refine V_iload_n dX4_note_50 rfl ?_
      refine V_callSfv3 [1] (s_X8_setI (d := d - 1) (by omega) (by omega) (by decide)) gX4_note_X8_set dX4_note_51 oX8_set rfl rfl (Nat.le_of_ble_eq_true rfl) (by omega) ⟨Nat.le_refl _, Nat.le_refl _⟩ ?_
      simp only [zput_n, zput_c, zset_1]
      refine V_aload_n dX4_note_54 rfl ?_
      refine V_dup dX4_note_55 rfl ?_
      refine V_get 0 dX4_note_56 fX4_note_33 rfl rfl ?_
      refine V_iconst (v := nI 1) dX4_note_59 (by decide) ?_
      first | refine V_iadd_N dX4_note_60 ?_ | refine V_iadd dX4_note_60 ?_
      refine V_put 0 dX4_note_61 fX4_note_33 ft_3_8 rfl rfl rfl (Nat.le_of_ble_eq_true rfl) ?_
      refine V_vret dX4_note_64 rfl (Nat.le_of_ble_eq_true rfl) (Nat.le_refl _) (Nat.le_refl _) ?_
      rw [e]
      first
      | (refine ⟨_, rfl, hA, ?_⟩; simp only [List.length_append, List.length_cons, List.length_nil]; rw [if_pos (show L.length < 128 by omega), show my = L.length by omega, show min (L.length + (0 + 1)) 128 = L.length + 1 by omega]; rfl)
      | (refine ⟨_, rfl, hA, ?_⟩; simp only [List.length_append, List.length_cons, List.length_nil]; rw [if_neg (show ¬ L.length < 128 by omega), show my = 128 by omega, show min (L.length + (0 + 1)) 128 = 128 by omega])
      | exact ⟨_, rfl, hA, rfl⟩
      | exact absurd c_39 (by omega)
theorem l_X4_wordOf {bits k : Nat} (hb : bits < 2 ^ 31) (hk : k < 64) {x : Nat} {w0 : zW} (hw0 : w0 = [obG g0 g1 g2 a0 b0 qo no K mo my un, (g1, aI 32 (rgF q n)), (g2, aI 128 F)]) : ∀ (f w : Nat), w + f = 32 → V tO MX4_wordOf (d, 0, 0) w0 (fun v w' => v = some (.int (wdF q n bits k f w)) ∧ w' = w0) (0, 0) w0 39 [some (.ref g0), some (.int (nI x)), some (.int (nI k)), some (.int (nI bits)), some (.int (nI w))] [] := by
  subst hw0
  intro f
  induction f with
  | zero =>
    intro w hw
    refine V_iload dX4_wordOf_39 rfl ?_
    refine V_aload_n dX4_wordOf_41 rfl ?_
    refine V_get 0 dX4_wordOf_42 fX4_wordOf_19 rfl rfl ?_
    refine V_alen 1 dX4_wordOf_45 rfl ?_
    refine V_icmp_ge_N 79 dX4_wordOf_46 (by decide) (by omega) (by omega) (fun c_46 => ?_) (fun c_46 => absurd c_46 (by omega))
    refine V_iconst (v := -1) dX4_wordOf_79 (by decide) ?_
    refine V_iret dX4_wordOf_80 rfl (Nat.le_of_ble_eq_true rfl) (Nat.le_refl _) (Nat.le_refl _) ?_
    exact ⟨rfl, rfl⟩
  | succ f ih =>
    intro w hw
    rw [wdF]
    refine V_iload dX4_wordOf_39 rfl ?_
    refine V_aload_n dX4_wordOf_41 rfl ?_
    refine V_get 0 dX4_wordOf_42 fX4_wordOf_19 rfl rfl ?_
    refine V_alen 1 dX4_wordOf_45 rfl ?_
    refine V_icmp_ge_N 79 dX4_wordOf_46 (by decide) (by omega) (by omega) (fun c_46 => absurd c_46 (by omega)) (fun c_46 => ?_)
    refine V_iload_n dX4_wordOf_49 rfl ?_
    refine V_iload dX4_wordOf_50 rfl ?_
    refine V_iushr dX4_wordOf_52 ?_
    refine V_to (pk_ushrN (by omega) (nI w) w (z_su w (by omega))) ?_
    refine V_iconst (v := nI 1) dX4_wordOf_53 (by decide) ?_
    refine V_iand dX4_wordOf_54 ?_
    refine V_to (pk_andN (k := 1) (Nat.lt_of_le_of_lt (Nat.div_le_self bits (2 ^ w)) (by omega)) (by decide)) ?_
    refine V_iconst (v := nI 1) dX4_wordOf_55 (by decide) ?_
    refine V_icmp_ne_N 73 dX4_wordOf_56 (by decide) (by omega) (by decide) (fun c_56 => ?_) (fun c_56 => ?_)
    ·
      rw [if_neg (by rw [Nat.pow_one] at c_56; exact c_56)]
      first | refine V_iinc_N (i := 1) dX4_wordOf_73 rfl (by decide) rfl ?_ | refine V_iinc dX4_wordOf_73 rfl rfl (by decide) rfl ?_
      refine V_goto 39 dX4_wordOf_76 (by decide) ?_
      exact ih (w + 1) (by omega)
    ·
      rw [if_pos (by rw [Nat.pow_one] at c_56; exact c_56)]
      refine V_aload_n dX4_wordOf_59 rfl ?_
      refine V_get 0 dX4_wordOf_60 fX4_wordOf_19 rfl rfl ?_
      refine V_iload dX4_wordOf_63 rfl ?_
      refine V_iald_N 1 dX4_wordOf_65 rfl (by omega) (by first | decide | omega) ?_
      refine V_iload_n dX4_wordOf_66 rfl ?_
      refine V_icmp_ne 73 dX4_wordOf_67 (by decide) (fun c_67 => ?_) (fun c_67 => ?_)
      ·
        rw [if_neg (by unfold inR; rw [decide_eq_false c_67]; exact Bool.false_ne_true)]
        first | refine V_iinc_N (i := 1) dX4_wordOf_73 rfl (by decide) rfl ?_ | refine V_iinc dX4_wordOf_73 rfl rfl (by decide) rfl ?_
        refine V_goto 39 dX4_wordOf_76 (by decide) ?_
        exact ih (w + 1) (by omega)
      ·
        rw [if_pos (by unfold inR; exact decide_eq_true c_67)]
        refine V_iload dX4_wordOf_70 rfl ?_
        refine V_iret dX4_wordOf_72 rfl (Nat.le_of_ble_eq_true rfl) (Nat.le_refl _) (Nat.le_refl _) ?_
        exact ⟨rfl, rfl⟩
theorem s_X4_wordOf (hd : 2 ≤ d) {L : List Nat} {x y : Int32} (hK : K ≤ 8) (hmy : my = min L.length 128) (hF : FOK F L) (hL : ∀ i, i < my → L.getD i 0 < 2 ^ 31) : SpP tO MX4_wordOf (d, 0, 0) [.ref g0, .int x, .int y] [obG g0 g1 g2 a0 b0 qo no K mo my un, (g1, aI 32 (rgF q n)), (g2, aI 128 F)] (some (.int (if isW my x && isW K y then wdF q n (L.getD x.toInt.toNat 0) y.toInt.toNat 32 0 else -5))) := by
  refine eX4_wordOf [some (.ref g0), some (.int x), some (.int y), none, none] rfl (Nat.le_of_ble_eq_true rfl) ?_
  have hmy2 : my ≤ 128 := by omega
  refine V_iload_n dX4_wordOf_0 rfl ?_
  refine V_if_lt 24 dX4_wordOf_1 (by decide) (fun c_1 => ?_) (fun c_1 => ?_)
  ·
    have e : (isW my x && isW K y) = false := by rw [show isW my x = false by unfold isW; rw [z_lt0] at c_1; exact decide_eq_false (by omega)]; rfl
    refine V_bipush (v := (-5)) dX4_wordOf_24 (by decide) ?_
    refine V_iret dX4_wordOf_26 rfl (Nat.le_of_ble_eq_true rfl) (Nat.le_refl _) (Nat.le_refl _) ?_
    exact ⟨by rw [e]; rfl, rfl⟩
  ·
    rw [z_lt0] at c_1
    refine V_iload_n dX4_wordOf_4 rfl ?_
    refine V_aload_n dX4_wordOf_5 rfl ?_
    refine V_get 0 dX4_wordOf_6 fX4_wordOf_33 rfl rfl ?_
    refine V_icmp_ge 24 dX4_wordOf_9 (by decide) (fun c_9 => ?_) (fun c_9 => ?_)
    ·
      have e : (isW my x && isW K y) = false := by rw [show isW my x = false by unfold isW; rw [z_ge (by omega)] at c_9; exact decide_eq_false (by omega)]; rfl
      refine V_bipush (v := (-5)) dX4_wordOf_24 (by decide) ?_
      refine V_iret dX4_wordOf_26 rfl (Nat.le_of_ble_eq_true rfl) (Nat.le_refl _) (Nat.le_refl _) ?_
      exact ⟨by rw [e]; rfl, rfl⟩
    ·
      rw [z_ge (by omega)] at c_9
      refine V_iload_n dX4_wordOf_12 rfl ?_
      refine V_if_lt 24 dX4_wordOf_13 (by decide) (fun c_13 => ?_) (fun c_13 => ?_)
      ·
        have e : (isW my x && isW K y) = false := by rw [show isW K y = false by unfold isW; rw [z_lt0] at c_13; exact decide_eq_false (by omega), Bool.and_false]
        refine V_bipush (v := (-5)) dX4_wordOf_24 (by decide) ?_
        refine V_iret dX4_wordOf_26 rfl (Nat.le_of_ble_eq_true rfl) (Nat.le_refl _) (Nat.le_refl _) ?_
        exact ⟨by rw [e]; rfl, rfl⟩
      ·
        rw [z_lt0] at c_13
        refine V_iload_n dX4_wordOf_16 rfl ?_
        refine V_aload_n dX4_wordOf_17 rfl ?_
        refine V_get 0 dX4_wordOf_18 fX4_wordOf_42 rfl rfl ?_
        refine V_icmp_lt 27 dX4_wordOf_21 (by decide) (fun c_21 => ?_) (fun c_21 => ?_)
        ·
          rw [z_lt (by omega)] at c_21
          have e1 : isW my x = true := by unfold isW; exact decide_eq_true (by omega)
          have e2 : isW K y = true := by unfold isW; exact decide_eq_true (by omega)
          rw [e1, e2, Bool.and_self, if_pos rfl]
          obtain ⟨i, hi, rfl⟩ := isW_of e1
          obtain ⟨k, hk, rfl⟩ := isW_of e2
          rw [nI_toInt (by omega), nI_toInt (by omega), Int.toNat_natCast, Int.toNat_natCast]
          refine V_aload_n dX4_wordOf_27 rfl ?_
          refine V_get 0 dX4_wordOf_28 fX4_wordOf_23 rfl rfl ?_
          refine V_iload_n dX4_wordOf_31 rfl ?_
          refine V_callSpi2 [2] (s_X8_atI (d := d - 1) (by omega) (by omega) (by decide)) gX4_wordOf_X8_at dX4_wordOf_32 oX8_at rfl rfl (Nat.le_of_ble_eq_true rfl) (by omega) ⟨Nat.le_refl _, Nat.le_refl _⟩ ?_
          rw [hF i (by omega)]
          refine V_istore_n dX4_wordOf_35 (by decide) rfl ?_
          refine V_iconst (v := nI 0) dX4_wordOf_36 (by decide) ?_
          refine V_istore dX4_wordOf_37 (by decide) rfl ?_
          exact l_X4_wordOf (hL i hi) (by omega) rfl 32 0 (by omega)
        ·
          have e : (isW my x && isW K y) = false := by rw [show isW K y = false by unfold isW; rw [z_lt (by omega)] at c_21; exact decide_eq_false (by omega), Bool.and_false]
          refine V_bipush (v := (-5)) dX4_wordOf_24 (by decide) ?_
          refine V_iret dX4_wordOf_26 rfl (Nat.le_of_ble_eq_true rfl) (Nat.le_refl _) (Nat.le_refl _) ?_
          exact ⟨by rw [e]; rfl, rfl⟩
theorem l_X4_numberRings (hd : 6 ≤ d) (h : OKq q n) {w0 : zW} (hw0 : w0.length = 4) : ∀ (f w : Nat) (Rx : Nat → Int32), w + f = 32 → (∀ j, j < w → Rx j = rgF q n j) → V tO MX4_numberRings (d, 0, 0) w0 (fun v w' => v = none ∧ w' = [obG g0 g1 g2 a0 b0 qo no K mo my un, (g1, aI 32 (rgF q n)), (a0, oB 0 [.ref a1, .int (nI q), .int (nI n), .int (nI (q ^ n))]), (a1, aI 6 (pwF q))]) (0, 0) [obG g0 g1 g2 a0 b0 qo no K mo my un, (g1, aI 32 Rx), (a0, oB 0 [.ref a1, .int (nI q), .int (nI n), .int (nI (q ^ n))]), (a1, aI 6 (pwF q))] 20 [some (.ref g0), some (.int (nI w)), none] [] := by
  intro f
  induction f with
  | zero =>
    intro w Rx hw hR
    refine V_iload_n dX4_numberRings_20 rfl ?_
    refine V_aload_n dX4_numberRings_21 rfl ?_
    refine V_get 0 dX4_numberRings_22 fX4_numberRings_19 rfl rfl ?_
    refine V_alen 1 dX4_numberRings_25 rfl ?_
    refine V_icmp_ge_N 92 dX4_numberRings_26 (by decide) (by omega) (by omega) (fun c_26 => ?_) (fun c_26 => absurd c_26 (by omega))
    refine V_ag [obG g0 g1 g2 a0 b0 qo no K mo my un, (g1, aI 32 (rgF q n)), (a0, oB 0 [.ref a1, .int (nI q), .int (nI n), .int (nI (q ^ n))]), (a1, aI 6 (pwF q))] ⟨_, _, rfl, zAg.self _, _, _, rfl, ⟨_, rfl, fun j hj => hR j (by omega)⟩, zAgs.self _⟩ ?_
    exact V_vret dX4_numberRings_92 rfl (by rw [hw0]; exact Nat.le_refl _) (Nat.le_refl _) (Nat.le_refl _) ⟨rfl, rfl⟩
  | succ f ih =>
    intro w Rx hw hR
    have nx : ∀ x : Int32, x = rgF q n w → ∀ j, j < w + 1 → upd Rx w x j = rgF q n j := fun x hx j hj => by
      unfold upd
      by_cases e : j = w
      · rw [if_pos e, hx, e]
      · rw [if_neg e]; exact hR j (by omega)
    have hle := rLeast_le q n w
    have i1 := ih (w + 1)
    have k57 : ∀ b : Bool, rgF q n w = (if b then nI (ct (rRi q n) (rLeast q n w)) else -1) → (b = true → w < q ^ n) → V tO MX4_numberRings (d, 0, 0) w0 (fun v w' => v = none ∧ w' = [obG g0 g1 g2 a0 b0 qo no K mo my un, (g1, aI 32 (rgF q n)), (a0, oB 0 [.ref a1, .int (nI q), .int (nI n), .int (nI (q ^ n))]), (a1, aI 6 (pwF q))]) (0, 0) [obG g0 g1 g2 a0 b0 qo no K mo my un, (g1, aI 32 Rx), (a0, oB 0 [.ref a1, .int (nI q), .int (nI n), .int (nI (q ^ n))]), (a1, aI 6 (pwF q))] 57 [some (.ref g0), some (.int (nI w)), some (.int (bI b))] [] := by
      intro b e hlt
      refine V_aload_n dX4_numberRings_57 rfl ?_
      refine V_get 0 dX4_numberRings_58 fX4_numberRings_19 rfl rfl ?_
      refine V_iload_n dX4_numberRings_61 rfl ?_
      refine V_iload_n dX4_numberRings_62 rfl ?_
      refine V_if_eq_B 84 dX4_numberRings_63 (by decide) (fun c_63 => ?_) (fun c_63 => ?_)
      ·
        refine V_iconst (v := -1) dX4_numberRings_84 (by decide) ?_
        refine V_iast_N 1 dX4_numberRings_85 rfl (by omega) (by first | decide | omega) ?_
        first | refine V_iinc_N (i := 1) dX4_numberRings_86 rfl (by decide) rfl ?_ | refine V_iinc dX4_numberRings_86 rfl rfl (by decide) rfl ?_
        refine V_goto 20 dX4_numberRings_89 (by decide) ?_
        first
        | exact V_wk [some (.ref g0), some (.int (nI (w + 1))), none] ⟨rfl, rfl, trivial, trivial⟩ (i1 _ (by omega) (nx _ (by rw [e, c_63]; rfl)))
      ·
        refine V_aload_n dX4_numberRings_66 rfl ?_
        refine V_get 0 dX4_numberRings_67 fX4_numberRings_9 rfl rfl ?_
        refine V_aload_n dX4_numberRings_70 rfl ?_
        refine V_get 0 dX4_numberRings_71 fX4_numberRings_9 rfl rfl ?_
        refine V_iload_n dX4_numberRings_74 rfl ?_
        refine V_callVpi1 [2, 3] (s_X0_ringLeast (d := d - 1) (by omega) h (hlt c_63)) gX4_numberRings_X0_ringLeast dX4_numberRings_75 oX0_ringLeast rfl rfl rfl rfl (Nat.le_of_ble_eq_true rfl) (by omega) ⟨Nat.le_refl _, Nat.le_refl _⟩ ?_
        refine V_callVpi1 [2, 3] (s_X0_wholeRingsBelow (d := d - 1) (by omega) h (by have := hlt c_63; omega)) gX4_numberRings_X0_wholeRingsBelow dX4_numberRings_78 oX0_wholeRingsBelow rfl rfl rfl rfl (Nat.le_of_ble_eq_true rfl) (by omega) ⟨Nat.le_refl _, Nat.le_refl _⟩ ?_
        refine V_goto 85 dX4_numberRings_81 (by decide) ?_
        refine V_iast_N 1 dX4_numberRings_85 rfl (by omega) (by first | decide | omega) ?_
        first | refine V_iinc_N (i := 1) dX4_numberRings_86 rfl (by decide) rfl ?_ | refine V_iinc dX4_numberRings_86 rfl rfl (by decide) rfl ?_
        refine V_goto 20 dX4_numberRings_89 (by decide) ?_
        first
        | exact V_wk [some (.ref g0), some (.int (nI (w + 1))), none] ⟨rfl, rfl, trivial, trivial⟩ (i1 _ (by omega) (nx _ (by rw [e, c_63]; rfl)))
    refine V_iload_n dX4_numberRings_20 rfl ?_
    refine V_aload_n dX4_numberRings_21 rfl ?_
    refine V_get 0 dX4_numberRings_22 fX4_numberRings_19 rfl rfl ?_
    refine V_alen 1 dX4_numberRings_25 rfl ?_
    refine V_icmp_ge_N 92 dX4_numberRings_26 (by decide) (by omega) (by omega) (fun c_26 => absurd c_26 (by omega)) (fun c_26 => ?_)
    refine V_aload_n dX4_numberRings_29 rfl ?_
    refine V_get 0 dX4_numberRings_30 fX4_numberRings_9 rfl rfl ?_
    refine V_iload_n dX4_numberRings_33 rfl ?_
    refine V_callVpi1 [2, 3] (s_X0_isWord (d := d - 1) (by omega) h) gX4_numberRings_X0_isWord dX4_numberRings_34 oX0_isWord rfl rfl rfl rfl (Nat.le_of_ble_eq_true rfl) (by omega) ⟨Nat.le_refl _, Nat.le_refl _⟩ ?_
    rw [isW_nI (by omega)]
    first | refine V_if_eq_B 55 dX4_numberRings_37 (by decide) (fun c_37 => ?_) (fun c_37 => ?_) | refine V_if_eq_N 55 dX4_numberRings_37 (by decide) (by omega) (fun c_37 => ?_) (fun c_37 => ?_) | refine V_if_eq 55 dX4_numberRings_37 (by decide) (fun c_37 => ?_) (fun c_37 => ?_)
    ·
      have e : rgF q n w = -1 := by unfold rgF; rw [if_neg (fun hh => of_decide_eq_false c_37 hh.1)]
      have k := k57 false e (fun hh => Bool.noConfusion hh)
      refine V_iconst (v := nI 0) dX4_numberRings_55 (by decide) ?_
      refine V_istore_n dX4_numberRings_56 (by decide) rfl ?_
      exact k
    ·
      have hlt := of_decide_eq_true c_37
      refine V_aload_n dX4_numberRings_40 rfl ?_
      refine V_get 0 dX4_numberRings_41 fX4_numberRings_9 rfl rfl ?_
      refine V_iload_n dX4_numberRings_44 rfl ?_
      refine V_callVpi1 [2, 3] (s_X0_isWhole (d := d - 1) (by omega) h hlt) gX4_numberRings_X0_isWhole dX4_numberRings_45 oX0_isWhole rfl rfl rfl rfl (Nat.le_of_ble_eq_true rfl) (by omega) ⟨Nat.le_refl _, Nat.le_refl _⟩ ?_
      first | refine V_if_eq_B 55 dX4_numberRings_48 (by decide) (fun c_48 => ?_) (fun c_48 => ?_) | refine V_if_eq_N 55 dX4_numberRings_48 (by decide) (by omega) (fun c_48 => ?_) (fun c_48 => ?_) | refine V_if_eq 55 dX4_numberRings_48 (by decide) (fun c_48 => ?_) (fun c_48 => ?_)
      ·
        have e : rgF q n w = -1 := by unfold rgF; rw [if_neg (fun hh => by rw [c_48] at hh; cases hh.2)]
        have k := k57 false e (fun hh => Bool.noConfusion hh)
        refine V_iconst (v := nI 0) dX4_numberRings_55 (by decide) ?_
        refine V_istore_n dX4_numberRings_56 (by decide) rfl ?_
        exact k
      ·
        have e : rgF q n w = nI (ct (rRi q n) (rLeast q n w)) := by unfold rgF; rw [if_pos ⟨hlt, c_48⟩]
        have k := k57 true e (fun _ => hlt)
        refine V_iconst (v := nI 1) dX4_numberRings_51 (by decide) ?_
        refine V_goto 56 dX4_numberRings_52 (by decide) ?_
        refine V_istore_n dX4_numberRings_56 (by decide) rfl ?_
        exact k
theorem s_X4_numberRings (hd : 6 ≤ d) (h : OKq q n) : SpF tO MX4_numberRings (d, 0, 0) [.ref g0] [obG g0 g1 g2 a0 b0 qo no K mo my un, (g1, aI 32 Rg), (a0, oB 0 [.ref a1, .int (nI q), .int (nI n), .int (nI (q ^ n))]), (a1, aI 6 (pwF q))] none [obG g0 g1 g2 a0 b0 qo no (nK q n) mo my un, (g1, aI 32 (rgF q n)), (a0, oB 0 [.ref a1, .int (nI q), .int (nI n), .int (nI (q ^ n))]), (a1, aI 6 (pwF q))] := by
  refine eX4_numberRings [some (.ref g0), none, none] rfl (Nat.le_of_ble_eq_true rfl) ?_
  refine V_aload_n dX4_numberRings_0 rfl ?_
  refine V_aload_n dX4_numberRings_1 rfl ?_
  refine V_get 0 dX4_numberRings_2 fX4_numberRings_9 rfl rfl ?_
  refine V_aload_n dX4_numberRings_5 rfl ?_
  refine V_get 0 dX4_numberRings_6 fX4_numberRings_9 rfl rfl ?_
  refine V_get 2 dX4_numberRings_9 fX4_numberRings_75 rfl rfl ?_
  refine V_callVpi1 [2, 3] (s_X0_wholeRingsBelow (d := d - 1) (by omega) h (Nat.le_refl _)) gX4_numberRings_X0_wholeRingsBelow dX4_numberRings_12 oX0_wholeRingsBelow rfl rfl rfl rfl (Nat.le_of_ble_eq_true rfl) (by omega) ⟨Nat.le_refl _, Nat.le_refl _⟩ ?_
  refine V_put 0 dX4_numberRings_15 fX4_numberRings_42 ft_3_6 rfl rfl rfl (Nat.le_of_ble_eq_true rfl) ?_
  refine V_iconst (v := nI 0) dX4_numberRings_18 (by decide) ?_
  refine V_istore_n dX4_numberRings_19 (by decide) rfl ?_
  exact l_X4_numberRings hd h rfl 32 0 Rg (by omega) (fun j hj => by omega)
theorem exb_lt {q n s bits : Nat} (h : OKq q n) (hs : q ^ n ≤ 32) (hsw : s < nSw q) (hb : BOK q n bits) : ∀ (f w a : Nat), a < 2 ^ 31 → exb q n s bits f w a < 2 ^ 31
  | 0, _, a, ha => ha
  | f + 1, w, a, ha => by
    rw [exb]
    refine exb_lt h hs hsw hb f (w + 1) _ ?_
    split
    · next e => exact Nat.or_lt_two_pow ha (Nat.pow_lt_pow_right (by decide) (wEx_wh h hs hsw (hb.2 w e).1 (hb.2 w e).2))
    · exact ha
theorem l_X4_exchangedBits (hd : 4 ≤ d) (h : OKq q n) (hs : q ^ n ≤ 32) {s bits : Nat} (hsw : s < nSw q) (hb : BOK q n bits) : ∀ (f w a : Nat), w + f = 32 → V tO MX4_exchangedBits (d, 0, 0) [obG g0 g1 g2 a0 b0 qo no K mo my un, (a0, oB 0 [.ref a1, .int (nI q), .int (nI n), .int (nI (q ^ n))]), (a1, aI 6 (pwF q))] (fun v w' => v = some (.int (nI (exb q n s bits f w a))) ∧ w' = [obG g0 g1 g2 a0 b0 qo no K mo my un, (a0, oB 0 [.ref a1, .int (nI q), .int (nI n), .int (nI (q ^ n))]), (a1, aI 6 (pwF q))]) (0, 0) [obG g0 g1 g2 a0 b0 qo no K mo my un, (a0, oB 0 [.ref a1, .int (nI q), .int (nI n), .int (nI (q ^ n))]), (a1, aI 6 (pwF q))] 5 [some (.ref g0), some (.int (nI s)), some (.int (nI bits)), some (.int (nI a)), some (.int (nI w))] [] := by
  have hb1 := hb.1
  intro f
  induction f with
  | zero =>
    intro w a hw
    refine V_iload dX4_exchangedBits_5 rfl ?_
    refine V_bipush (v := nI 32) dX4_exchangedBits_7 (by decide) ?_
    refine V_icmp_ge_N 43 dX4_exchangedBits_9 (by decide) (by omega) (by omega) (fun c_9 => ?_) (fun c_9 => absurd c_9 (by omega))
    refine V_iload_n dX4_exchangedBits_43 rfl ?_
    refine V_iret dX4_exchangedBits_44 rfl (Nat.le_of_ble_eq_true rfl) (Nat.le_refl _) (Nat.le_refl _) ?_
    exact ⟨rfl, rfl⟩
  | succ f ih =>
    intro w a hw
    rw [exb]
    refine V_iload dX4_exchangedBits_5 rfl ?_
    refine V_bipush (v := nI 32) dX4_exchangedBits_7 (by decide) ?_
    refine V_icmp_ge_N 43 dX4_exchangedBits_9 (by decide) (by omega) (by omega) (fun c_9 => absurd c_9 (by omega)) (fun c_9 => ?_)
    refine V_iload_n dX4_exchangedBits_12 rfl ?_
    refine V_iload dX4_exchangedBits_13 rfl ?_
    refine V_iushr dX4_exchangedBits_15 ?_
    refine V_to (pk_ushrN (by omega) (nI w) w (z_su w (by omega))) ?_
    refine V_iconst (v := nI 1) dX4_exchangedBits_16 (by decide) ?_
    refine V_iand dX4_exchangedBits_17 ?_
    refine V_to (pk_andN (k := 1) (Nat.lt_of_le_of_lt (Nat.div_le_self bits (2 ^ w)) (by omega)) (by decide)) ?_
    refine V_iconst (v := nI 1) dX4_exchangedBits_18 (by decide) ?_
    refine V_icmp_ne_N 37 dX4_exchangedBits_19 (by decide) (by omega) (by decide) (fun c_19 => ?_) (fun c_19 => ?_)
    ·
      rw [if_neg (by rw [Nat.pow_one] at c_19; exact c_19)]
      first | refine V_iinc_N (i := 1) dX4_exchangedBits_37 rfl (by decide) rfl ?_ | refine V_iinc dX4_exchangedBits_37 rfl rfl (by decide) rfl ?_
      refine V_goto 5 dX4_exchangedBits_40 (by decide) ?_
      exact ih (w + 1) _ (by omega)
    ·
      rw [Nat.pow_one] at c_19
      have hw2 := hb.2 w c_19
      have hx := wEx_wh h hs hsw hw2.1 hw2.2
      rw [if_pos c_19]
      refine V_iload_n dX4_exchangedBits_22 rfl ?_
      refine V_iconst (v := nI 1) dX4_exchangedBits_23 (by decide) ?_
      refine V_aload_n dX4_exchangedBits_24 rfl ?_
      refine V_get 0 dX4_exchangedBits_25 fX4_exchangedBits_9 rfl rfl ?_
      refine V_iload_n dX4_exchangedBits_28 rfl ?_
      refine V_iload dX4_exchangedBits_29 rfl ?_
      refine V_callVpi2 [1, 2] (s_X0_exchanged (d := d - 1) (by omega) h hsw hw2.1) gX4_exchangedBits_X0_exchanged dX4_exchangedBits_31 oX0_exchanged rfl rfl rfl rfl (Nat.le_of_ble_eq_true rfl) (by omega) ⟨Nat.le_refl _, Nat.le_refl _⟩ ?_
      refine V_ishl dX4_exchangedBits_34 ?_
      refine V_to (nI_shl32 _ (by omega)) ?_
      refine V_ior dX4_exchangedBits_35 ?_
      refine V_to (nI_or _ _) ?_
      refine V_istore_n dX4_exchangedBits_36 (by decide) rfl ?_
      first | refine V_iinc_N (i := 1) dX4_exchangedBits_37 rfl (by decide) rfl ?_ | refine V_iinc dX4_exchangedBits_37 rfl rfl (by decide) rfl ?_
      refine V_goto 5 dX4_exchangedBits_40 (by decide) ?_
      exact ih (w + 1) _ (by omega)
theorem s_X4_exchangedBits (hd : 4 ≤ d) (h : OKq q n) (hs : q ^ n ≤ 32) {s bits : Nat} (hsw : s < nSw q) (hb : BOK q n bits) : SpP tO MX4_exchangedBits (d, 0, 0) [.ref g0, .int (nI s), .int (nI bits)] [obG g0 g1 g2 a0 b0 qo no K mo my un, (a0, oB 0 [.ref a1, .int (nI q), .int (nI n), .int (nI (q ^ n))]), (a1, aI 6 (pwF q))] (some (.int (nI (exb q n s bits 32 0 0)))) := by
  refine eX4_exchangedBits [some (.ref g0), some (.int (nI s)), some (.int (nI bits)), none, none] rfl (Nat.le_of_ble_eq_true rfl) ?_
  refine V_iconst (v := nI 0) dX4_exchangedBits_0 (by decide) ?_
  refine V_istore_n dX4_exchangedBits_1 (by decide) rfl ?_
  refine V_iconst (v := nI 0) dX4_exchangedBits_2 (by decide) ?_
  refine V_istore dX4_exchangedBits_3 (by decide) rfl ?_
  exact l_X4_exchangedBits hd h hs hsw hb 32 0 0 (by omega)
theorem l_X4_isLeast (hd : 5 ≤ d) (h : OKq q n) (hs : q ^ n ≤ 32) {bits : Nat} (hb : BOK q n bits) : ∀ (f s : Nat), s + f = nSw q → V tO MX4_isLeastOfItsKind (d, 0, 0) [obG g0 g1 g2 a0 b0 qo no K mo my un, (a0, oB 0 [.ref a1, .int (nI q), .int (nI n), .int (nI (q ^ n))]), (a1, aI 6 (pwF q))] (fun v w' => v = some (.int (bI (lsF q n bits f s))) ∧ w' = [obG g0 g1 g2 a0 b0 qo no K mo my un, (a0, oB 0 [.ref a1, .int (nI q), .int (nI n), .int (nI (q ^ n))]), (a1, aI 6 (pwF q))]) (0, 0) [obG g0 g1 g2 a0 b0 qo no K mo my un, (a0, oB 0 [.ref a1, .int (nI q), .int (nI n), .int (nI (q ^ n))]), (a1, aI 6 (pwF q))] 10 [some (.ref g0), some (.int (nI bits)), some (.int (nI (nSw q))), some (.int (nI s))] [] := by
  have hb1 := hb.1
  have hS := nSw_le h
  intro f
  induction f with
  | zero =>
    intro s hs2
    refine V_iload_n dX4_isLeastOfItsKind_10 rfl ?_
    refine V_iload_n dX4_isLeastOfItsKind_11 rfl ?_
    refine V_icmp_ge_N 33 dX4_isLeastOfItsKind_12 (by decide) (by omega) (by omega) (fun c_12 => ?_) (fun c_12 => absurd c_12 (by omega))
    refine V_iconst (v := nI 1) dX4_isLeastOfItsKind_33 (by decide) ?_
    refine V_zret dX4_isLeastOfItsKind_34 rfl (by first | exact Or.inl rfl | exact Or.inr rfl | exact bI_or _) (Nat.le_of_ble_eq_true rfl) (Nat.le_refl _) (Nat.le_refl _) ?_
    exact ⟨rfl, rfl⟩
  | succ f ih =>
    intro s hs2
    rw [lsF]
    have hl := exb_lt (s := s) h hs (by omega) hb 32 0 0 (by omega)
    refine V_iload_n dX4_isLeastOfItsKind_10 rfl ?_
    refine V_iload_n dX4_isLeastOfItsKind_11 rfl ?_
    refine V_icmp_ge_N 33 dX4_isLeastOfItsKind_12 (by decide) (by omega) (by omega) (fun c_12 => absurd c_12 (by omega)) (fun c_12 => ?_)
    refine V_aload_n dX4_isLeastOfItsKind_15 rfl ?_
    refine V_iload_n dX4_isLeastOfItsKind_16 rfl ?_
    refine V_iload_n dX4_isLeastOfItsKind_17 rfl ?_
    refine V_callVpi2 [0, 1, 2] (s_X4_exchangedBits (d := d - 1) (by omega) h hs (by omega) hb) gX4_isLeastOfItsKind_X4_exchangedBits dX4_isLeastOfItsKind_18 oX4_exchangedBits rfl rfl rfl rfl (Nat.le_of_ble_eq_true rfl) (by omega) ⟨Nat.le_refl _, Nat.le_refl _⟩ ?_
    refine V_iload_n dX4_isLeastOfItsKind_21 rfl ?_
    first | refine V_icmp_ge_N 27 dX4_isLeastOfItsKind_22 (by decide) (by omega) (by omega) (fun c_22 => ?_) (fun c_22 => ?_) | refine V_icmp_ge 27 dX4_isLeastOfItsKind_22 (by decide) (fun c_22 => ?_) (fun c_22 => ?_)
    ·
      rw [if_neg (by omega)]
      first | refine V_iinc_N (i := 1) dX4_isLeastOfItsKind_27 rfl (by decide) rfl ?_ | refine V_iinc dX4_isLeastOfItsKind_27 rfl rfl (by decide) rfl ?_
      refine V_goto 10 dX4_isLeastOfItsKind_30 (by decide) ?_
      exact ih (s + 1) (by omega)
    ·
      rw [if_pos c_22]
      refine V_iconst (v := nI 0) dX4_isLeastOfItsKind_25 (by decide) ?_
      refine V_zret dX4_isLeastOfItsKind_26 rfl (by first | exact Or.inl rfl | exact Or.inr rfl | exact bI_or _) (Nat.le_of_ble_eq_true rfl) (Nat.le_refl _) (Nat.le_refl _) ?_
      exact ⟨rfl, rfl⟩
theorem s_X4_isLeastOfItsKind (hd : 5 ≤ d) (h : OKq q n) (hs : q ^ n ≤ 32) {bits : Nat} (hb : BOK q n bits) : SpP tO MX4_isLeastOfItsKind (d, 0, 0) [.ref g0, .int (nI bits)] [obG g0 g1 g2 a0 b0 qo no K mo my un, (a0, oB 0 [.ref a1, .int (nI q), .int (nI n), .int (nI (q ^ n))]), (a1, aI 6 (pwF q))] (some (.int (bI (lsB q n bits)))) := by
  refine eX4_isLeastOfItsKind [some (.ref g0), some (.int (nI bits)), none, none] rfl (Nat.le_of_ble_eq_true rfl) ?_
  refine V_aload_n dX4_isLeastOfItsKind_0 rfl ?_
  refine V_get 0 dX4_isLeastOfItsKind_1 fX4_isLeastOfItsKind_9 rfl rfl ?_
  refine V_callVpi0 [1, 2] (s_X0_swaps (d := d - 1) (by omega) h) gX4_isLeastOfItsKind_X0_swaps dX4_isLeastOfItsKind_4 oX0_swaps rfl rfl rfl rfl (Nat.le_of_ble_eq_true rfl) (by omega) ⟨Nat.le_refl _, Nat.le_refl _⟩ ?_
  refine V_istore_n dX4_isLeastOfItsKind_7 (by decide) rfl ?_
  refine V_iconst (v := nI 0) dX4_isLeastOfItsKind_8 (by decide) ?_
  refine V_istore_n dX4_isLeastOfItsKind_9 (by decide) rfl ?_
  exact l_X4_isLeast hd h hs hb (nSw q) 0 (by omega)
end GREATEST

