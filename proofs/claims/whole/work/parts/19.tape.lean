/-! Tape -/
abbrev obT (t0 t1 t2 : Nat) (fl : Bool) (m : Nat) : Nat × zE := (t0, oB 8 [.ref t1, .ref t2, .int (bI fl), .int (nI m)])
def rsF (a b c : Nat) : Nat → Int32 := fun j => if j = 0 then nI a else if j = 1 then nI b else nI c
theorem ct_ins {B : Nat → Bool} {w : Nat} (hw : B w = false) : ∀ {m : Nat}, w < m → ct (insB B w) m = ct B m + 1
  | 0, h => absurd h (by omega)
  | m + 1, h => by
    rw [ct_succ, ct_succ]
    by_cases e : w = m
    · subst e
      rw [insB_self, if_pos rfl, hw, if_neg Bool.false_ne_true, ct_cong (p := insB B w) (p' := B) (fun k hk => by simp [insB, show k ≠ w by omega])]
    · rw [ct_ins hw (by omega), show insB B w m = B m by simp [insB, show m ≠ w by omega]]
      omega
/-- a tape read from place i on, h letters of a word w behind: whether it tells a book; where not, how many words and letters are ahead; the book -/
def pR (q n : Nat) (T : Nat → Nat) : Nat → Nat → Nat → Nat → (Nat → Bool) → Bool × Nat × Nat × Nat × (Nat → Bool)
  | 0, i, h, _, B => if h = n then (true, 0, 0, 0, B) else (false, i, ct B 256, h, B)
  | f + 1, i, h, w, B =>
    if h = n then (if T i = 32 then pR q n T f (i + 1) 0 0 B else (false, i, ct B 256, h, B))
    else if 97 ≤ T i ∧ T i < 97 + q then
      (if h + 1 = n then (if B (w * q + (T i - 97)) then (false, i, ct B 256, h, B) else pR q n T f (i + 1) (h + 1) (w * q + (T i - 97)) (insB B (w * q + (T i - 97))))
      else pR q n T f (i + 1) (h + 1) (w * q + (T i - 97)) B)
    else (false, i, ct B 256, h, B)
section TAPE
variable {tO d t0 t1 t2 m : Nat} {fl : Bool} {Tb Rs : Nat → Int32}
theorem s_X10_total (hd : 1 ≤ d) : SpP tO MX10_total (d, 0, 0) [.ref t0] [obT t0 t1 t2 fl m] (some (.int (nI m))) := by
  refine eX10_total [some (.ref t0)] rfl (Nat.le_of_ble_eq_true rfl) ?_
  refine V_aload_n dX10_total_0 rfl ?_
  refine V_get 0 dX10_total_1 fX10_total_22 rfl rfl ?_
  refine V_iret dX10_total_4 rfl (Nat.le_of_ble_eq_true rfl) (Nat.le_refl _) (Nat.le_refl _) ?_
  exact ⟨rfl, rfl⟩
theorem s_X10_append (hd : 2 ≤ d) {x : Int32} (hm : m < 60) : SpF tO MX10_append (d, 0, 0) [.ref t0, .int x] [obT t0 t1 t2 fl m, (t1, aI 60 Tb)] (some (.int (bI true))) [obT t0 t1 t2 fl (m + 1), (t1, aI 60 (upd Tb m x))] := by
  refine eX10_append [some (.ref t0), some (.int x)] rfl (Nat.le_of_ble_eq_true rfl) ?_
  refine V_aload_n dX10_append_0 rfl ?_
  refine V_get 0 dX10_append_1 fX10_append_22 rfl rfl ?_
  refine V_bipush (v := nI 60) dX10_append_4 (by decide) ?_
  refine V_icmp_lt_N 11 dX10_append_6 (by decide) (by omega) (by omega) (fun c_6 => ?_) (fun c_6 => absurd c_6 (by omega))
  refine V_aload_n dX10_append_11 rfl ?_
  refine V_get 0 dX10_append_12 fX10_append_11 rfl rfl ?_
  refine V_aload_n dX10_append_15 rfl ?_
  refine V_get 0 dX10_append_16 fX10_append_22 rfl rfl ?_
  refine V_iload_n dX10_append_19 rfl ?_
  refine V_callSfv3 [1] (s_X8_setI (d := d - 1) (by omega) (by omega) (by decide)) gX10_append_X8_set dX10_append_20 oX8_set rfl rfl (Nat.le_of_ble_eq_true rfl) (by omega) ⟨Nat.le_refl _, Nat.le_refl _⟩ ?_
  simp only [zput_n, zput_c, zset_1]
  refine V_aload_n dX10_append_23 rfl ?_
  refine V_dup dX10_append_24 rfl ?_
  refine V_get 0 dX10_append_25 fX10_append_22 rfl rfl ?_
  refine V_iconst (v := nI 1) dX10_append_28 (by decide) ?_
  first | refine V_iadd_N dX10_append_29 ?_ | refine V_iadd dX10_append_29 ?_
  refine V_put 0 dX10_append_30 fX10_append_22 ft_8_3 rfl rfl rfl (Nat.le_of_ble_eq_true rfl) ?_
  refine V_iconst (v := nI 1) dX10_append_33 (by decide) ?_
  refine V_zret dX10_append_34 rfl (by first | exact Or.inl rfl | exact Or.inr rfl | exact bI_or _) (Nat.le_of_ble_eq_true rfl) (Nat.le_refl _) (Nat.le_refl _) ?_
  exact ⟨rfl, rfl⟩
theorem s_X10_appendN (hd : 2 ≤ d) {x : Int32} : SpP tO MX10_append (d, 0, 0) [.ref t0, .int x] [obT t0 t1 t2 fl 60, (t1, aI 60 Tb)] (some (.int (bI false))) := by
  refine eX10_append [some (.ref t0), some (.int x)] rfl (Nat.le_of_ble_eq_true rfl) ?_
  refine V_aload_n dX10_append_0 rfl ?_
  refine V_get 0 dX10_append_1 fX10_append_22 rfl rfl ?_
  refine V_bipush (v := nI 60) dX10_append_4 (by decide) ?_
  refine V_icmp_lt_N 11 dX10_append_6 (by decide) (by omega) (by omega) (fun c_6 => absurd c_6 (by omega)) (fun c_6 => ?_)
  refine V_iconst (v := nI 0) dX10_append_9 (by decide) ?_
  refine V_zret dX10_append_10 rfl (by first | exact Or.inl rfl | exact Or.inr rfl | exact bI_or _) (Nat.le_of_ble_eq_true rfl) (Nat.le_refl _) (Nat.le_refl _) ?_
  exact ⟨rfl, rfl⟩
theorem s_X10_reason (hd : 2 ≤ d) {x : Int32} : SpP tO MX10_reason (d, 0, 0) [.ref t0, .int x] [obT t0 t1 t2 fl m, (t2, aI 3 Rs)] (some (.int (if fl && isW 3 x then Rs x.toInt.toNat else -1))) := by
  refine eX10_reason [some (.ref t0), some (.int x)] rfl (Nat.le_of_ble_eq_true rfl) ?_
  refine V_aload_n dX10_reason_0 rfl ?_
  refine V_get 0 dX10_reason_1 fX10_reason_18 rfl rfl ?_
  refine V_if_eq_B 27 dX10_reason_4 (by decide) (fun c_4 => ?_) (fun c_4 => ?_)
  ·
    have e : (fl && isW 3 x) = false := by rw [c_4]; rfl
    refine V_iconst (v := -1) dX10_reason_27 (by decide) ?_
    refine V_iret dX10_reason_28 rfl (Nat.le_of_ble_eq_true rfl) (Nat.le_refl _) (Nat.le_refl _) ?_
    exact ⟨by rw [e]; rfl, rfl⟩
  ·
    refine V_iload_n dX10_reason_7 rfl ?_
    refine V_if_lt 27 dX10_reason_8 (by decide) (fun c_8 => ?_) (fun c_8 => ?_)
    ·
      have e : (fl && isW 3 x) = false := by rw [show isW 3 x = false by unfold isW; rw [z_lt0] at c_8; exact decide_eq_false (by omega), Bool.and_false]
      refine V_iconst (v := -1) dX10_reason_27 (by decide) ?_
      refine V_iret dX10_reason_28 rfl (Nat.le_of_ble_eq_true rfl) (Nat.le_refl _) (Nat.le_refl _) ?_
      exact ⟨by rw [e]; rfl, rfl⟩
    ·
      rw [z_lt0] at c_8
      refine V_iload_n dX10_reason_11 rfl ?_
      refine V_iconst (v := nI 3) dX10_reason_12 (by decide) ?_
      refine V_icmp_ge 27 dX10_reason_13 (by decide) (fun c_13 => ?_) (fun c_13 => ?_)
      ·
        have e : (fl && isW 3 x) = false := by rw [show isW 3 x = false by unfold isW; rw [z_ge (by decide)] at c_13; exact decide_eq_false (by omega), Bool.and_false]
        refine V_iconst (v := -1) dX10_reason_27 (by decide) ?_
        refine V_iret dX10_reason_28 rfl (Nat.le_of_ble_eq_true rfl) (Nat.le_refl _) (Nat.le_refl _) ?_
        exact ⟨by rw [e]; rfl, rfl⟩
      ·
        have e1 : isW 3 x = true := by unfold isW; rw [z_ge (by decide)] at c_13; exact decide_eq_true (by omega)
        have e : (fl && isW 3 x) = true := by rw [c_4, e1]; rfl
        obtain ⟨w, hw, rfl⟩ := isW_of e1
        rw [nI_toInt (by omega)] at *
        refine V_aload_n dX10_reason_16 rfl ?_
        refine V_get 0 dX10_reason_17 fX10_reason_15 rfl rfl ?_
        refine V_iload_n dX10_reason_20 rfl ?_
        refine V_callSpi2 [1] (s_X8_atI (d := d - 1) (by omega) (by omega) (by decide)) gX10_reason_X8_at dX10_reason_21 oX8_at rfl rfl (Nat.le_of_ble_eq_true rfl) (by omega) ⟨Nat.le_refl _, Nat.le_refl _⟩ ?_
        refine V_goto 28 dX10_reason_24 (by decide) ?_
        refine V_iret dX10_reason_28 rfl (Nat.le_of_ble_eq_true rfl) (Nat.le_refl _) (Nat.le_refl _) ?_
        exact ⟨by rw [e]; rfl, rfl⟩
theorem s_X10_fault (hd : 2 ≤ d) {a b c : Nat} : SpF tO MX10_fault (d, 0, 0) [.ref t0, .int (nI a), .int (nI b), .int (nI c)] [obT t0 t1 t2 fl m, (t2, aI 3 Rs)] (some (.int (nI a))) [obT t0 t1 t2 true m, (t2, aI 3 (rsF b c a))] := by
  refine eX10_fault [some (.ref t0), some (.int (nI a)), some (.int (nI b)), some (.int (nI c))] rfl (Nat.le_of_ble_eq_true rfl) ?_
  refine V_aload_n dX10_fault_0 rfl ?_
  refine V_iconst (v := nI 1) dX10_fault_1 (by decide) ?_
  refine V_put 0 dX10_fault_2 fX10_fault_18 ft_8_2 rfl (by decide) (by decide) (Nat.le_of_ble_eq_true rfl) ?_
  refine V_aload_n dX10_fault_5 rfl ?_
  refine V_get 0 dX10_fault_6 fX10_fault_15 rfl rfl ?_
  refine V_iconst (v := nI 0) dX10_fault_9 (by decide) ?_
  refine V_iload_n dX10_fault_10 rfl ?_
  refine V_callSfv3 [1] (s_X8_setI (d := d - 1) (by omega) (by omega) (by decide)) gX10_fault_X8_set dX10_fault_11 oX8_set rfl rfl (Nat.le_of_ble_eq_true rfl) (by omega) ⟨Nat.le_refl _, Nat.le_refl _⟩ ?_
  simp only [zput_n, zput_c, zset_1]
  refine V_aload_n dX10_fault_14 rfl ?_
  refine V_get 0 dX10_fault_15 fX10_fault_15 rfl rfl ?_
  refine V_iconst (v := nI 1) dX10_fault_18 (by decide) ?_
  refine V_iload_n dX10_fault_19 rfl ?_
  refine V_callSfv3 [1] (s_X8_setI (d := d - 1) (by omega) (by omega) (by decide)) gX10_fault_X8_set dX10_fault_20 oX8_set rfl rfl (Nat.le_of_ble_eq_true rfl) (by omega) ⟨Nat.le_refl _, Nat.le_refl _⟩ ?_
  simp only [zput_n, zput_c, zset_1]
  refine V_aload_n dX10_fault_23 rfl ?_
  refine V_get 0 dX10_fault_24 fX10_fault_15 rfl rfl ?_
  refine V_iconst (v := nI 2) dX10_fault_27 (by decide) ?_
  refine V_iload_n dX10_fault_28 rfl ?_
  refine V_callSfv3 [1] (s_X8_setI (d := d - 1) (by omega) (by omega) (by decide)) gX10_fault_X8_set dX10_fault_29 oX8_set rfl rfl (Nat.le_of_ble_eq_true rfl) (by omega) ⟨Nat.le_refl _, Nat.le_refl _⟩ ?_
  simp only [zput_n, zput_c, zset_1]
  refine V_ag [obT t0 t1 t2 true m, (t2, aI 3 (rsF b c a))] ⟨_, _, rfl, rfl, _, _, rfl, ⟨_, rfl, fun j hj => ?_⟩, rfl⟩ ?_
  · unfold upd rsF
    by_cases e2 : j = 2
    · subst e2; rfl
    · by_cases e1 : j = 1
      · subst e1; rfl
      · have e0 : j = 0 := by omega
        subst e0; rfl
  refine V_iload_n dX10_fault_32 rfl ?_
  refine V_iret dX10_fault_33 rfl (Nat.le_of_ble_eq_true rfl) (Nat.le_refl _) (Nat.le_refl _) ?_
  exact ⟨rfl, rfl⟩
theorem l_X10_readInto (hd : 6 ≤ d) {q n M b0 b1 b2 b3 b4 b5 a0 a1 : Nat} {Im : Nat → Int32} {T : Nat → Nat} (h : OKq q n) (hM : M ≤ 60) (hT : ∀ j, j < M → Tb j = nI (T j) ∧ T j < 128) {w0 : zW} (hw0 : w0.length = 11) : ∀ (f i hl w mb : Nat) (B : Nat → Bool) (W : Nat → Int32) (x7 : Option Value), i + f = M → hl ≤ n → w < q ^ hl → Bk (q ^ n) B W mb → V tO MX10_readInto (d, 0, 0) w0 (fun v w' => ∃ W' m' r, r = pR q n T f i hl w B ∧ v = some (.int (if r.1 then -1 else nI r.2.1)) ∧ w' = [obT t0 t1 t2 (fl || !r.1) 0, (t1, aI 60 Tb), (t2, aI 3 (if r.1 then Rs else rsF r.2.2.1 r.2.2.2.1 r.2.1)), obB b0 b1 b2 b3 b4 b5 a0 m', (b1, aI 256 W'), (b2, aZ 256 (hdF r.2.2.2.2)), (b3, aI 256 Im), (b4, aI 162 (opF q n r.2.2.2.2)), (b5, aI 162 (enF q n r.2.2.2.2)), (a0, oB 0 [.ref a1, .int (nI q), .int (nI n), .int (nI (q ^ n))]), (a1, aI 6 (pwF q))] ∧ Bk (q ^ n) r.2.2.2.2 W' m') (0, 0) [obT t0 t1 t2 fl 0, (t1, aI 60 Tb), (t2, aI 3 Rs), obB b0 b1 b2 b3 b4 b5 a0 mb, (b1, aI 256 W), (b2, aZ 256 (hdF B)), (b3, aI 256 Im), (b4, aI 162 (opF q n B)), (b5, aI 162 (enF q n B)), (a0, oB 0 [.ref a1, .int (nI q), .int (nI n), .int (nI (q ^ n))]), (a1, aI 6 (pwF q))] 28 [some (.ref t0), some (.ref b0), some (.ref a0), some (.int (nI M)), some (.int (nI hl)), some (.int (nI w)), some (.int (nI i)), none] [] := by
  have hN := h.2.2.2.2
  have hn := h.2.2.2.1
  have hq := h.2.1
  intro f
  induction f with
  | zero =>
    intro i hl w mb B W x7 hi hh hw hB
    have hcm := hB.m hN
    have e : i = M := by omega
    subst e
    refine V_iload dX10_readInto_28 rfl ?_
    refine V_iload_n dX10_readInto_30 rfl ?_
    refine V_icmp_ge_N 167 dX10_readInto_31 (by decide) (by omega) (by omega) (fun c_31 => ?_) (fun c_31 => absurd c_31 (by omega))
    refine V_iload dX10_readInto_167 rfl ?_
    refine V_aload_n dX10_readInto_169 rfl ?_
    refine V_get 9 dX10_readInto_170 fX10_readInto_45 rfl rfl ?_
    first | refine V_icmp_ne_N 180 dX10_readInto_173 (by decide) (by omega) (by omega) (fun c_173 => ?_) (fun c_173 => ?_) | refine V_icmp_ne 180 dX10_readInto_173 (by decide) (fun c_173 => ?_) (fun c_173 => ?_)
    ·
      refine V_aload_n dX10_readInto_180 rfl ?_
      refine V_iload_n dX10_readInto_181 rfl ?_
      refine V_aload_n dX10_readInto_182 rfl ?_
      refine V_callVpi0 [3] (s_X1_total (d := d - 1) (by omega) ) gX10_readInto_X1_total dX10_readInto_183 oX1_total rfl rfl rfl rfl (Nat.le_of_ble_eq_true rfl) (by omega) ⟨Nat.le_refl _, Nat.le_refl _⟩ ?_
      refine V_iload dX10_readInto_186 rfl ?_
      refine V_callVfi3 [0, 2] (s_X10_fault (d := d - 1) (by omega) ) gX10_readInto_X10_fault dX10_readInto_188 oX10_fault rfl rfl rfl rfl (Nat.le_of_ble_eq_true rfl) (by omega) ⟨Nat.le_refl _, Nat.le_refl _⟩ ?_
      simp only [zput_n, zput_c, zset_0, zset_2]
      first
      | exact V_iret dX10_readInto_191 rfl (by rw [hw0]; exact Nat.le_refl _) (Nat.le_refl _) (Nat.le_refl _) ⟨W, mb, _, rfl, by rw [pR, if_pos c_173]; rfl, by rw [pR, if_pos c_173]; simp, by rw [pR, if_pos c_173]; exact hB⟩
      | exact V_iret dX10_readInto_191 rfl (by rw [hw0]; exact Nat.le_refl _) (Nat.le_refl _) (Nat.le_refl _) ⟨W, mb, _, rfl, by rw [pR, if_neg c_173]; rfl, by rw [pR, if_neg c_173, hcm]; simp, by rw [pR, if_neg c_173]; exact hB⟩
    ·
      refine V_iconst (v := -1) dX10_readInto_176 (by decide) ?_
      refine V_goto 191 dX10_readInto_177 (by decide) ?_
      first
      | exact V_iret dX10_readInto_191 rfl (by rw [hw0]; exact Nat.le_refl _) (Nat.le_refl _) (Nat.le_refl _) ⟨W, mb, _, rfl, by rw [pR, if_pos c_173]; rfl, by rw [pR, if_pos c_173]; simp, by rw [pR, if_pos c_173]; exact hB⟩
      | exact V_iret dX10_readInto_191 rfl (by rw [hw0]; exact Nat.le_refl _) (Nat.le_refl _) (Nat.le_refl _) ⟨W, mb, _, rfl, by rw [pR, if_neg c_173]; rfl, by rw [pR, if_neg c_173, hcm]; simp, by rw [pR, if_neg c_173]; exact hB⟩
  | succ f ih =>
    intro i hl w mb B W x7 hi hh hw hB
    have hcm := hB.m hN
    obtain ⟨hTi, hT2⟩ := hT i (by omega)
    have hx : (nI (T i) - nI 97).toInt = (T i : Int) - 97 := pk_sub_toInt (by omega) (by omega)
    have bad : pR q n T (f + 1) i hl w B = (false, i, ct B 256, hl, B) → ∀ (pc : Nat) (lc : List (Option Value)), decode MX10_readInto.2.1 pc = .ok (.ireturn, 1) → V tO MX10_readInto (d, 0, 0) w0 (fun v w' => ∃ W' m' r, r = pR q n T (f + 1) i hl w B ∧ v = some (.int (if r.1 then -1 else nI r.2.1)) ∧ w' = [obT t0 t1 t2 (fl || !r.1) 0, (t1, aI 60 Tb), (t2, aI 3 (if r.1 then Rs else rsF r.2.2.1 r.2.2.2.1 r.2.1)), obB b0 b1 b2 b3 b4 b5 a0 m', (b1, aI 256 W'), (b2, aZ 256 (hdF r.2.2.2.2)), (b3, aI 256 Im), (b4, aI 162 (opF q n r.2.2.2.2)), (b5, aI 162 (enF q n r.2.2.2.2)), (a0, oB 0 [.ref a1, .int (nI q), .int (nI n), .int (nI (q ^ n))]), (a1, aI 6 (pwF q))] ∧ Bk (q ^ n) r.2.2.2.2 W' m') (0, 0) [obT t0 t1 t2 true 0, (t1, aI 60 Tb), (t2, aI 3 (rsF mb hl i)), obB b0 b1 b2 b3 b4 b5 a0 mb, (b1, aI 256 W), (b2, aZ 256 (hdF B)), (b3, aI 256 Im), (b4, aI 162 (opF q n B)), (b5, aI 162 (enF q n B)), (a0, oB 0 [.ref a1, .int (nI q), .int (nI n), .int (nI (q ^ n))]), (a1, aI 6 (pwF q))] pc lc [.int (nI i)] := fun e pc lc hdg => V_iret hdg rfl (by rw [hw0]; exact Nat.le_refl _) (Nat.le_refl _) (Nat.le_refl _) ⟨W, mb, _, rfl, by rw [e]; rfl, by rw [e, hcm]; simp, by rw [e]; exact hB⟩
    refine V_iload dX10_readInto_28 rfl ?_
    refine V_iload_n dX10_readInto_30 rfl ?_
    refine V_icmp_ge_N 167 dX10_readInto_31 (by decide) (by omega) (by omega) (fun c_31 => absurd c_31 (by omega)) (fun c_31 => ?_)
    refine V_aload_n dX10_readInto_34 rfl ?_
    refine V_get 0 dX10_readInto_35 fX10_readInto_11 rfl rfl ?_
    refine V_iload dX10_readInto_38 rfl ?_
    refine V_callSpi2 [1] (s_X8_atI (d := d - 1) (by omega) (by omega) (by decide)) gX10_readInto_X8_at dX10_readInto_40 oX8_at rfl rfl (Nat.le_of_ble_eq_true rfl) (by omega) ⟨Nat.le_refl _, Nat.le_refl _⟩ ?_
    rw [hTi]
    refine V_bipush (v := nI 97) dX10_readInto_43 (by decide) ?_
    refine V_isub dX10_readInto_45 ?_
    refine V_istore dX10_readInto_46 (by decide) rfl ?_
    refine V_iload dX10_readInto_48 rfl ?_
    refine V_aload_n dX10_readInto_50 rfl ?_
    refine V_get 9 dX10_readInto_51 fX10_readInto_45 rfl rfl ?_
    first | refine V_icmp_ne_N 86 dX10_readInto_54 (by decide) (by omega) (by omega) (fun c_54 => ?_) (fun c_54 => ?_) | refine V_icmp_ne 86 dX10_readInto_54 (by decide) (fun c_54 => ?_) (fun c_54 => ?_)
    ·
      refine V_iload dX10_readInto_86 rfl ?_
      refine V_if_lt 100 dX10_readInto_88 (by decide) (fun c_88 => ?_) (fun c_88 => ?_)
      ·
        rw [z_lt0] at c_88
        have b1 := bad (by rw [pR, if_neg c_54, if_neg (by omega)])
        refine V_aload_n dX10_readInto_100 rfl ?_
        refine V_iload dX10_readInto_101 rfl ?_
        refine V_aload_n dX10_readInto_103 rfl ?_
        refine V_callVpi0 [3] (s_X1_total (d := d - 1) (by omega) ) gX10_readInto_X1_total dX10_readInto_104 oX1_total rfl rfl rfl rfl (Nat.le_of_ble_eq_true rfl) (by omega) ⟨Nat.le_refl _, Nat.le_refl _⟩ ?_
        refine V_iload dX10_readInto_107 rfl ?_
        refine V_callVfi3 [0, 2] (s_X10_fault (d := d - 1) (by omega) ) gX10_readInto_X10_fault dX10_readInto_109 oX10_fault rfl rfl rfl rfl (Nat.le_of_ble_eq_true rfl) (by omega) ⟨Nat.le_refl _, Nat.le_refl _⟩ ?_
        simp only [zput_n, zput_c, zset_0, zset_2]
        exact b1 _ _ dX10_readInto_112
      ·
        rw [z_lt0] at c_88
        refine V_iload dX10_readInto_91 rfl ?_
        refine V_aload_n dX10_readInto_93 rfl ?_
        refine V_get 9 dX10_readInto_94 fX10_readInto_58 rfl rfl ?_
        refine V_icmp_lt 113 dX10_readInto_97 (by decide) (fun c_97 => ?_) (fun c_97 => ?_)
        ·
          rw [z_lt (by omega)] at c_97
          have hr : 97 ≤ T i ∧ T i < 97 + q := by omega
          rw [pk_sub hr.1]
          have hlt : w * q + (T i - 97) < q ^ (hl + 1) := by
            rw [Nat.pow_succ]
            calc w * q + (T i - 97) < w * q + q := by omega
              _ = (w + 1) * q := by rw [Nat.succ_mul]
              _ ≤ q ^ hl * q := Nat.mul_le_mul_right _ hw
          refine V_iload dX10_readInto_113 rfl ?_
          refine V_aload_n dX10_readInto_115 rfl ?_
          refine V_get 9 dX10_readInto_116 fX10_readInto_58 rfl rfl ?_
          first | refine V_imul_N dX10_readInto_119 ?_ | refine V_imul dX10_readInto_119 ?_
          refine V_iload dX10_readInto_120 rfl ?_
          first | refine V_iadd_N dX10_readInto_122 ?_ | refine V_iadd dX10_readInto_122 ?_
          refine V_istore dX10_readInto_123 (by decide) rfl ?_
          refine V_iload dX10_readInto_125 rfl ?_
          refine V_iconst (v := nI 1) dX10_readInto_127 (by decide) ?_
          first | refine V_iadd_N dX10_readInto_128 ?_ | refine V_iadd dX10_readInto_128 ?_
          refine V_aload_n dX10_readInto_129 rfl ?_
          refine V_get 9 dX10_readInto_130 fX10_readInto_45 rfl rfl ?_
          first | refine V_icmp_ne_N 158 dX10_readInto_133 (by decide) (by omega) (by omega) (fun c_133 => ?_) (fun c_133 => ?_) | refine V_icmp_ne 158 dX10_readInto_133 (by decide) (fun c_133 => ?_) (fun c_133 => ?_)
          ·
            have i1 := ih (i + 1) (hl + 1) (w * q + (T i - 97)) mb B W none (by omega) (by omega) hlt hB
            rw [show pR q n T f (i + 1) (hl + 1) (w * q + (T i - 97)) B = pR q n T (f + 1) i hl w B by rw [pR, if_neg c_54, if_pos hr, if_neg c_133]] at i1
            refine V_wk [some (.ref t0), some (.ref b0), some (.ref a0), some (.int (nI M)), some (.int (nI hl)), some (.int (nI (w * q + (T i - 97)))), some (.int (nI i)), none] ⟨rfl, rfl, rfl, rfl, rfl, rfl, rfl, trivial, trivial⟩ ?_
            refine V_iinc_N (i := 1) dX10_readInto_158 rfl (by decide) rfl ?_
            refine V_iinc_N (i := 1) dX10_readInto_161 rfl (by decide) rfl ?_
            refine V_goto 28 dX10_readInto_164 (by decide) ?_
            exact i1
          ·
            refine V_aload_n dX10_readInto_136 rfl ?_
            refine V_iload dX10_readInto_137 rfl ?_
            refine V_callV1 [3, 4, 5, 6, 7, 8, 9, 10] (s_X1_include (d := d - 1) (by omega) h hB (c_133 ▸ hlt)) gX10_readInto_X1_include dX10_readInto_139 oX1_include rfl rfl rfl rfl (Nat.le_of_ble_eq_true rfl) (by omega) ⟨Nat.le_refl _, Nat.le_refl _⟩ ?_
            rintro _ _ ⟨W2, m2, rfl, rfl, hB2⟩
            dsimp only [zPut, List.set, Option.toList, List.cons_append, List.nil_append]
            refine V_if_ne_B 158 dX10_readInto_142 (by decide) (fun c_142 => ?_) (fun c_142 => ?_)
            ·
              have hbw : B (w * q + (T i - 97)) = false := by cases hh : B (w * q + (T i - 97)) with | false => rfl | true => rw [hh] at c_142; cases c_142
              have i1 := ih (i + 1) (hl + 1) (w * q + (T i - 97)) m2 _ W2 none (by omega) (by omega) hlt hB2
              rw [show pR q n T f (i + 1) (hl + 1) (w * q + (T i - 97)) (insB B (w * q + (T i - 97))) = pR q n T (f + 1) i hl w B by rw [pR, if_neg c_54, if_pos hr, if_pos c_133, if_neg (by rw [hbw]; exact Bool.false_ne_true)]] at i1
              refine V_wk [some (.ref t0), some (.ref b0), some (.ref a0), some (.int (nI M)), some (.int (nI hl)), some (.int (nI (w * q + (T i - 97)))), some (.int (nI i)), none] ⟨rfl, rfl, rfl, rfl, rfl, rfl, rfl, trivial, trivial⟩ ?_
              refine V_iinc_N (i := 1) dX10_readInto_158 rfl (by decide) rfl ?_
              refine V_iinc_N (i := 1) dX10_readInto_161 rfl (by decide) rfl ?_
              refine V_goto 28 dX10_readInto_164 (by decide) ?_
              exact i1
            ·
              have hbw : B (w * q + (T i - 97)) = true := by cases hh : B (w * q + (T i - 97)) with | true => rfl | false => rw [hh] at c_142; cases c_142
              rw [insB_id hbw] at hB2 ⊢
              have hm2 : m2 = mb := by rw [← hB2.m hN, ← hB.m hN]
              subst hm2
              have bad2 : pR q n T (f + 1) i hl w B = (false, i, ct B 256, hl, B) := by rw [pR, if_neg c_54, if_pos hr, if_pos c_133, if_pos hbw]
              refine V_aload_n dX10_readInto_145 rfl ?_
              refine V_iload dX10_readInto_146 rfl ?_
              refine V_aload_n dX10_readInto_148 rfl ?_
              refine V_callVpi0 [3] (s_X1_total (d := d - 1) (by omega) ) gX10_readInto_X1_total dX10_readInto_149 oX1_total rfl rfl rfl rfl (Nat.le_of_ble_eq_true rfl) (by omega) ⟨Nat.le_refl _, Nat.le_refl _⟩ ?_
              refine V_iload dX10_readInto_152 rfl ?_
              refine V_callVfi3 [0, 2] (s_X10_fault (d := d - 1) (by omega) ) gX10_readInto_X10_fault dX10_readInto_154 oX10_fault rfl rfl rfl rfl (Nat.le_of_ble_eq_true rfl) (by omega) ⟨Nat.le_refl _, Nat.le_refl _⟩ ?_
              simp only [zput_n, zput_c, zset_0, zset_2]
              exact V_iret dX10_readInto_157 rfl (by rw [hw0]; exact Nat.le_refl _) (Nat.le_refl _) (Nat.le_refl _) ⟨W2, m2, _, rfl, by rw [bad2]; rfl, by rw [bad2, hcm]; simp, by rw [bad2]; exact hB2⟩
        ·
          rw [z_lt (by omega)] at c_97
          have b1 := bad (by rw [pR, if_neg c_54, if_neg (by omega)])
          refine V_aload_n dX10_readInto_100 rfl ?_
          refine V_iload dX10_readInto_101 rfl ?_
          refine V_aload_n dX10_readInto_103 rfl ?_
          refine V_callVpi0 [3] (s_X1_total (d := d - 1) (by omega) ) gX10_readInto_X1_total dX10_readInto_104 oX1_total rfl rfl rfl rfl (Nat.le_of_ble_eq_true rfl) (by omega) ⟨Nat.le_refl _, Nat.le_refl _⟩ ?_
          refine V_iload dX10_readInto_107 rfl ?_
          refine V_callVfi3 [0, 2] (s_X10_fault (d := d - 1) (by omega) ) gX10_readInto_X10_fault dX10_readInto_109 oX10_fault rfl rfl rfl rfl (Nat.le_of_ble_eq_true rfl) (by omega) ⟨Nat.le_refl _, Nat.le_refl _⟩ ?_
          simp only [zput_n, zput_c, zset_0, zset_2]
          exact b1 _ _ dX10_readInto_112
    ·
      refine V_iload dX10_readInto_57 rfl ?_
      refine V_bipush (v := (-65)) dX10_readInto_59 (by decide) ?_
      refine V_icmp_eq 77 dX10_readInto_61 (by decide) (fun c_61 => ?_) (fun c_61 => ?_)
      ·
        have e2 : T i = 32 := by rw [c_61, show (-65 : Int32).toInt = -65 from by decide] at hx; omega
        have i1 := ih (i + 1) 0 0 mb B W none (by omega) (Nat.zero_le _) (by simp) hB
        rw [show pR q n T f (i + 1) 0 0 B = pR q n T (f + 1) i hl w B by rw [pR, if_pos c_54, if_pos e2]] at i1
        refine V_iconst (v := nI 0) dX10_readInto_77 (by decide) ?_
        refine V_istore dX10_readInto_78 (by decide) rfl ?_
        refine V_iconst (v := nI 0) dX10_readInto_80 (by decide) ?_
        refine V_istore dX10_readInto_81 (by decide) rfl ?_
        refine V_goto 161 dX10_readInto_83 (by decide) ?_
        first | refine V_iinc_N (i := 1) dX10_readInto_161 rfl (by decide) rfl ?_ | refine V_iinc dX10_readInto_161 rfl rfl (by decide) rfl ?_
        refine V_goto 28 dX10_readInto_164 (by decide) ?_
        exact V_wk [some (.ref t0), some (.ref b0), some (.ref a0), some (.int (nI M)), some (.int (nI 0)), some (.int (nI 0)), some (.int (nI (i + 1))), none] ⟨rfl, rfl, rfl, rfl, rfl, rfl, rfl, trivial, trivial⟩ i1
      ·
        have e2 : T i ≠ 32 := fun e => c_61 (by apply Int32.toInt_inj.mp; rw [hx, e]; decide)
        have b1 := bad (by rw [pR, if_pos c_54, if_neg e2])
        refine V_aload_n dX10_readInto_64 rfl ?_
        refine V_iload dX10_readInto_65 rfl ?_
        refine V_aload_n dX10_readInto_67 rfl ?_
        refine V_callVpi0 [3] (s_X1_total (d := d - 1) (by omega) ) gX10_readInto_X1_total dX10_readInto_68 oX1_total rfl rfl rfl rfl (Nat.le_of_ble_eq_true rfl) (by omega) ⟨Nat.le_refl _, Nat.le_refl _⟩ ?_
        refine V_iload dX10_readInto_71 rfl ?_
        refine V_callVfi3 [0, 2] (s_X10_fault (d := d - 1) (by omega) ) gX10_readInto_X10_fault dX10_readInto_73 oX10_fault rfl rfl rfl rfl (Nat.le_of_ble_eq_true rfl) (by omega) ⟨Nat.le_refl _, Nat.le_refl _⟩ ?_
        simp only [zput_n, zput_c, zset_0, zset_2]
        exact b1 _ _ dX10_readInto_76
theorem s_X10_readInto (hd : 6 ≤ d) {q n M N b0 b1 b2 b3 b4 b5 a0 a1 mb : Nat} {Im O E W : Nat → Int32} {B0 : Nat → Bool} {T : Nat → Nat} (h : OKq q n) (hM : M ≤ 60) (hT : ∀ j, j < M → Tb j = nI (T j) ∧ T j < 128) (hN : N ≤ 256) (hB : Bk N B0 W mb) : Sp tO MX10_readInto (d, 0, 0) [.ref t0, .ref b0] [obT t0 t1 t2 fl M, (t1, aI 60 Tb), (t2, aI 3 Rs), obB b0 b1 b2 b3 b4 b5 a0 mb, (b1, aI 256 W), (b2, aZ 256 (hdF B0)), (b3, aI 256 Im), (b4, aI 162 O), (b5, aI 162 E), (a0, oB 0 [.ref a1, .int (nI q), .int (nI n), .int (nI (q ^ n))]), (a1, aI 6 (pwF q))] (fun v w' => ∃ W' m' r, r = pR q n T M 0 0 0 (fun _ => false) ∧ v = some (.int (if r.1 then -1 else nI r.2.1)) ∧ w' = [obT t0 t1 t2 (fl || !r.1) 0, (t1, aI 60 Tb), (t2, aI 3 (if r.1 then Rs else rsF r.2.2.1 r.2.2.2.1 r.2.1)), obB b0 b1 b2 b3 b4 b5 a0 m', (b1, aI 256 W'), (b2, aZ 256 (hdF r.2.2.2.2)), (b3, aI 256 Im), (b4, aI 162 (opF q n r.2.2.2.2)), (b5, aI 162 (enF q n r.2.2.2.2)), (a0, oB 0 [.ref a1, .int (nI q), .int (nI n), .int (nI (q ^ n))]), (a1, aI 6 (pwF q))] ∧ Bk (q ^ n) r.2.2.2.2 W' m') := by
  refine eX10_readInto [some (.ref t0), some (.ref b0), none, none, none, none, none, none] rfl (Nat.le_of_ble_eq_true rfl) ?_
  refine V_aload_n dX10_readInto_0 rfl ?_
  refine V_get 3 dX10_readInto_1 fX10_readInto_36 rfl rfl ?_
  refine V_astore_n dX10_readInto_4 (by decide) rfl ?_
  refine V_aload_n dX10_readInto_5 rfl ?_
  refine V_get 0 dX10_readInto_6 fX10_readInto_22 rfl rfl ?_
  refine V_istore_n dX10_readInto_9 (by decide) rfl ?_
  refine V_iconst (v := nI 0) dX10_readInto_10 (by decide) ?_
  refine V_istore dX10_readInto_11 (by decide) rfl ?_
  refine V_iconst (v := nI 0) dX10_readInto_13 (by decide) ?_
  refine V_istore dX10_readInto_14 (by decide) rfl ?_
  refine V_aload_n dX10_readInto_16 rfl ?_
  refine V_iconst (v := nI 0) dX10_readInto_17 (by decide) ?_
  refine V_put 0 dX10_readInto_18 fX10_readInto_22 ft_8_3 rfl rfl rfl (Nat.le_of_ble_eq_true rfl) ?_
  refine V_aload_n dX10_readInto_21 rfl ?_
  refine V_callVfv0 [3, 4, 5, 6, 7, 8, 9, 10] (s_X1_empty (d := d - 1) (by omega) hN hB) gX10_readInto_X1_empty dX10_readInto_22 oX1_empty rfl rfl rfl rfl (Nat.le_of_ble_eq_true rfl) (by omega) ⟨Nat.le_refl _, Nat.le_refl _⟩ ?_
  simp only [zput_n, zput_c, zset_3, zset_4, zset_5, zset_6, zset_7, zset_8, zset_9, zset_10]
  refine V_iconst (v := nI 0) dX10_readInto_25 (by decide) ?_
  refine V_istore dX10_readInto_26 (by decide) rfl ?_
  exact l_X10_readInto hd h hM hT rfl M 0 0 0 0 _ W none (by omega) (Nat.zero_le _) (by simp) (Bk.nil _ _)
end TAPE

