/-! Greatest: the search, and what is kept of it -/
abbrev gkW (g0 g1 g2 b0 b1 b2 b3 b4 b5 a0 a1 q n qo no K : Nat) (S : Nat × List Nat) (un : Nat) (F : Nat → Int32) (B : Nat → Bool) (m : Nat) (W Im : Nat → Int32) : zW := [obG g0 g1 g2 a0 b0 qo no K S.1 (min S.2.length 128) un, (g1, aI 32 (rgF q n)), (g2, aI 128 F), obB b0 b1 b2 b3 b4 b5 a0 m, (b1, aI 256 W), (b2, aZ 256 (hdF B)), (b3, aI 256 Im), (b4, aI 162 (opF q n B)), (b5, aI 162 (enF q n B)), (a0, oB 0 [.ref a1, .int (nI q), .int (nI n), .int (nI (q ^ n))]), (a1, aI 6 (pwF q))]
theorem delB_insB {B : Nat → Bool} {w : Nat} (h : B w = false) : delB (insB B w) w = B := by
  funext j
  unfold delB insB
  by_cases e : j = w
  · subst e; rw [h, beq_self_eq_true]; rfl
  · rw [beq_eq_false_iff_ne.mpr e]; simp
theorem nt_le {S : Nat × List Nat} {c b : Nat} (hS : S.1 ≤ 256) (hc : c ≤ 256) : (nt S c b).1 ≤ 256 := by
  unfold nt
  split
  · exact hc
  · exact hS
theorem lpF_le {P : Nat → Bool} {F : Nat → Nat × List Nat → Nat × List Nat} (hF : ∀ w S, S.1 ≤ 256 → (F w S).1 ≤ 256) : ∀ (g w : Nat) (S : Nat × List Nat), S.1 ≤ 256 → (lpF P F g w S).1 ≤ 256
  | 0, _, S, h => h
  | g + 1, w, S, h => by
    rw [lpF]
    refine lpF_le hF g (w + 1) _ ?_
    split
    · exact hF w S h
    · exact h
theorem skF_le {q n K : Nat} : ∀ (f : Nat) (B : Nat → Bool) (bits : Nat) (S : Nat × List Nat), S.1 ≤ 256 → (skF q n K f B bits S).1 ≤ 256
  | 0, B, bits, S, h => by
    rw [skF]
    split
    · exact h
    · exact nt_le h (ct_le _ _)
  | f + 1, B, bits, S, h => by
    rw [skF]
    split
    · exact h
    · exact skF_le f B bits _ (lpF_le (fun w S hS => skF_le f _ _ _ hS) 32 0 S h)
section SEEK
variable {tO q n g0 g1 g2 a0 a1 b0 b1 b2 b3 b4 b5 qo no un : Nat} {Im : Nat → Int32}
theorem l_X4_seekLoop {d f r bits m : Nat} (hd : 7 + f ≤ d) (h : OKq q n) (hs : q ^ n ≤ 32) (hr : r + (f + 1) = nK q n) (hb : BOK q n bits) {B : Nat → Bool} (hbm : ct B 256 = m)
    (IH : ∀ (B : Nat → Bool) (bits m : Nat) (S : Nat × List Nat) (W F : Nat → Int32), BOK q n bits → S.1 ≤ 256 → FOK F S.2 → Bk (q ^ n) B W m → Sp tO MX4_seek (d - 1, 0, 0) [.ref g0, .int (nI (r + 1)), .int (nI bits)] (gkW g0 g1 g2 b0 b1 b2 b3 b4 b5 a0 a1 q n qo no (nK q n) S un F B m W Im) (fun v w' => ∃ W' F', v = none ∧ w' = gkW g0 g1 g2 b0 b1 b2 b3 b4 b5 a0 a1 q n qo no (nK q n) (skF q n (nK q n) f B bits S) un F' B m W' Im ∧ FOK F' (skF q n (nK q n) f B bits S).2 ∧ Bk (q ^ n) B W' m)) {w0 : zW} (hw0 : w0.length = 11) :
    ∀ (g w : Nat) (S : Nat × List Nat) (W F : Nat → Int32), w + g = 32 → S.1 ≤ 256 → FOK F S.2 → Bk (q ^ n) B W m → V tO MX4_seek (d, 0, 0) w0 (fun v w' => ∃ W' F' S', S' = skF q n (nK q n) f B bits (lpF (fun w => inR q n r w && alB q n B w) (fun w S => skF q n (nK q n) f (insB B w) (bits ||| 2 ^ w) S) g w S) ∧ v = none ∧ w' = gkW g0 g1 g2 b0 b1 b2 b3 b4 b5 a0 a1 q n qo no (nK q n) S' un F' B m W' Im ∧ FOK F' S'.2 ∧ Bk (q ^ n) B W' m) (0, 0) (gkW g0 g1 g2 b0 b1 b2 b3 b4 b5 a0 a1 q n qo no (nK q n) S un F B m W Im) 38 [some (.ref g0), some (.int (nI r)), some (.int (nI bits)), some (.int (nI w))] [] := by
  have hN := h.2.2.2.2
  have hK := nK_le h hs
  intro g
  induction g with
  | zero =>
    intro w S W F hw hS hF hB
    rw [lpF]
    refine V_iload_n dX4_seek_38 rfl ?_
    refine V_aload_n dX4_seek_39 rfl ?_
    refine V_get 0 dX4_seek_40 fX4_seek_19 rfl rfl ?_
    refine V_alen 1 dX4_seek_43 rfl ?_
    refine V_icmp_ge_N 104 dX4_seek_44 (by decide) (by omega) (by omega) (fun c_44 => ?_) (fun c_44 => absurd c_44 (by omega))
    refine V_aload_n dX4_seek_104 rfl ?_
    refine V_iload_n dX4_seek_105 rfl ?_
    refine V_iconst (v := nI 1) dX4_seek_106 (by decide) ?_
    first | refine V_iadd_N dX4_seek_107 ?_ | refine V_iadd dX4_seek_107 ?_
    refine V_iload_n dX4_seek_108 rfl ?_
    refine V_callS3 [0, 1, 2, 3, 4, 5, 6, 7, 8, 9, 10] (IH B bits m S W F hb hS hF hB) gX4_seek_X4_seek dX4_seek_109 oX4_seek rfl rfl (Nat.le_of_ble_eq_true rfl) (by omega) ⟨Nat.le_refl _, Nat.le_refl _⟩ ?_
    rintro _ _ ⟨W2, F2, rfl, rfl, hF2, hB2⟩
    simp only [zput_n, zput_c, zset_0, zset_1, zset_2, zset_3, zset_4, zset_5, zset_6, zset_7, zset_8, zset_9, zset_10, Option.toList, List.nil_append]
    exact V_vret dX4_seek_112 rfl (by rw [hw0]; exact Nat.le_refl _) (Nat.le_refl _) (Nat.le_refl _) ⟨W2, F2, _, rfl, rfl, rfl, hF2, hB2⟩
  | succ g ih =>
    intro w S W F hw hS hF hB
    rw [lpF]
    refine V_iload_n dX4_seek_38 rfl ?_
    refine V_aload_n dX4_seek_39 rfl ?_
    refine V_get 0 dX4_seek_40 fX4_seek_19 rfl rfl ?_
    refine V_alen 1 dX4_seek_43 rfl ?_
    refine V_icmp_ge_N 104 dX4_seek_44 (by decide) (by omega) (by omega) (fun c_44 => absurd c_44 (by omega)) (fun c_44 => ?_)
    refine V_aload_n dX4_seek_47 rfl ?_
    refine V_get 0 dX4_seek_48 fX4_seek_19 rfl rfl ?_
    refine V_iload_n dX4_seek_51 rfl ?_
    refine V_iald_N 1 dX4_seek_52 rfl (by omega) (by first | decide | omega) ?_
    refine V_iload_n dX4_seek_53 rfl ?_
    refine V_icmp_ne 98 dX4_seek_54 (by decide) (fun c_54 => ?_) (fun c_54 => ?_)
    ·
      rw [if_neg (by rw [show inR q n r w = false by unfold inR; exact decide_eq_false c_54]; exact Bool.false_ne_true)]
      first | refine V_iinc_N (i := 1) dX4_seek_98 rfl (by decide) rfl ?_ | refine V_iinc dX4_seek_98 rfl rfl (by decide) rfl ?_
      refine V_goto 38 dX4_seek_101 (by decide) ?_
      first | exact ih (w + 1) _ _ _ (by omega) hS3 hF3 hB4 | exact ih (w + 1) _ _ _ (by omega) hS hF hB
    ·
      have hi : inR q n r w = true := by unfold inR; exact decide_eq_true c_54
      have hok := inR_ok h hs (by omega) hi
      refine V_aload_n dX4_seek_57 rfl ?_
      refine V_get 0 dX4_seek_58 fX4_seek_15 rfl rfl ?_
      refine V_iload_n dX4_seek_61 rfl ?_
      refine V_callVpi1 [3, 4, 5, 6, 7, 8, 9, 10] (s_X1_allows (d := d - 1) (by omega) h hB (by omega)) gX4_seek_X1_allows dX4_seek_62 oX1_allows rfl rfl rfl rfl (Nat.le_of_ble_eq_true rfl) (by omega) ⟨Nat.le_refl _, Nat.le_refl _⟩ ?_
      first | refine V_if_eq_B 98 dX4_seek_65 (by decide) (fun c_65 => ?_) (fun c_65 => ?_) | refine V_if_eq_N 98 dX4_seek_65 (by decide) (by omega) (fun c_65 => ?_) (fun c_65 => ?_) | refine V_if_eq 98 dX4_seek_65 (by decide) (fun c_65 => ?_) (fun c_65 => ?_)
      ·
        rw [if_neg (by rw [c_65, Bool.and_false]; exact Bool.false_ne_true)]
        first | refine V_iinc_N (i := 1) dX4_seek_98 rfl (by decide) rfl ?_ | refine V_iinc dX4_seek_98 rfl rfl (by decide) rfl ?_
        refine V_goto 38 dX4_seek_101 (by decide) ?_
        first | exact ih (w + 1) _ _ _ (by omega) hS3 hF3 hB4 | exact ih (w + 1) _ _ _ (by omega) hS hF hB
      ·
        rw [if_pos (by rw [c_65, hi]; rfl)]
        have hbw := (dB_t.mp c_65).2.1
        refine V_aload_n dX4_seek_68 rfl ?_
        refine V_get 0 dX4_seek_69 fX4_seek_15 rfl rfl ?_
        refine V_iload_n dX4_seek_72 rfl ?_
        refine V_callV1 [3, 4, 5, 6, 7, 8, 9, 10] (s_X1_include (d := d - 1) (by omega) h hB hok.1) gX4_seek_X1_include dX4_seek_73 oX1_include rfl rfl rfl rfl (Nat.le_of_ble_eq_true rfl) (by omega) ⟨Nat.le_refl _, Nat.le_refl _⟩ ?_
        rintro _ _ ⟨W2, m2, rfl, rfl, hB2⟩
        simp only [zput_n, zput_c, zset_3, zset_4, zset_5, zset_6, zset_7, zset_8, zset_9, zset_10, Option.toList, List.cons_append, List.nil_append]
        refine V_pop dX4_seek_76 rfl ?_
        refine V_aload_n dX4_seek_77 rfl ?_
        refine V_iload_n dX4_seek_78 rfl ?_
        refine V_iconst (v := nI 1) dX4_seek_79 (by decide) ?_
        first | refine V_iadd_N dX4_seek_80 ?_ | refine V_iadd dX4_seek_80 ?_
        refine V_iload_n dX4_seek_81 rfl ?_
        refine V_iconst (v := nI 1) dX4_seek_82 (by decide) ?_
        refine V_iload_n dX4_seek_83 rfl ?_
        refine V_ishl dX4_seek_84 ?_
        refine V_to (nI_shl32 w (by omega)) ?_
        refine V_ior dX4_seek_85 ?_
        refine V_to (nI_or _ _) ?_
        refine V_callS3 [0, 1, 2, 3, 4, 5, 6, 7, 8, 9, 10] (IH (insB B w) (bits ||| 2 ^ w) m2 S W2 F (hb.or h hs (by omega) hi) hS hF hB2) gX4_seek_X4_seek dX4_seek_86 oX4_seek rfl rfl (Nat.le_of_ble_eq_true rfl) (by omega) ⟨Nat.le_refl _, Nat.le_refl _⟩ ?_
        rintro _ _ ⟨W3, F3, rfl, rfl, hF3, hB3⟩
        simp only [zput_n, zput_c, zset_0, zset_1, zset_2, zset_3, zset_4, zset_5, zset_6, zset_7, zset_8, zset_9, zset_10, Option.toList, List.nil_append]
        refine V_aload_n dX4_seek_89 rfl ?_
        refine V_get 0 dX4_seek_90 fX4_seek_15 rfl rfl ?_
        refine V_iload_n dX4_seek_93 rfl ?_
        refine V_callV1 [3, 4, 5, 6, 7, 8, 9, 10] (s_X1_exclude (d := d - 1) (by omega) h hB3 (by omega)) gX4_seek_X1_exclude dX4_seek_94 oX1_exclude rfl rfl rfl rfl (Nat.le_of_ble_eq_true rfl) (by omega) ⟨Nat.le_refl _, Nat.le_refl _⟩ ?_
        rintro _ _ ⟨W4, m4, rfl, rfl, hB4⟩
        simp only [zput_n, zput_c, zset_3, zset_4, zset_5, zset_6, zset_7, zset_8, zset_9, zset_10, Option.toList, List.cons_append, List.nil_append]
        rw [delB_insB hbw] at hB4 ⊢
        have e4 : m4 = m := by rw [← hB4.m hN, hbm]
        subst e4
        have hS3 := skF_le (q := q) (n := n) (K := nK q n) f (insB B w) (bits ||| 2 ^ w) S hS
        refine V_pop dX4_seek_97 rfl ?_
        first | refine V_iinc_N (i := 1) dX4_seek_98 rfl (by decide) rfl ?_ | refine V_iinc dX4_seek_98 rfl rfl (by decide) rfl ?_
        refine V_goto 38 dX4_seek_101 (by decide) ?_
        first | exact ih (w + 1) _ _ _ (by omega) hS3 hF3 hB4 | exact ih (w + 1) _ _ _ (by omega) hS hF hB
theorem s_X4_seek (h : OKq q n) (hs : q ^ n ≤ 32) : ∀ (f d r : Nat), 6 + f ≤ d → r + f = nK q n → ∀ (B : Nat → Bool) (bits m : Nat) (S : Nat × List Nat) (W F : Nat → Int32), BOK q n bits → S.1 ≤ 256 → FOK F S.2 → Bk (q ^ n) B W m → Sp tO MX4_seek (d, 0, 0) [.ref g0, .int (nI r), .int (nI bits)] (gkW g0 g1 g2 b0 b1 b2 b3 b4 b5 a0 a1 q n qo no (nK q n) S un F B m W Im) (fun v w' => ∃ W' F', v = none ∧ w' = gkW g0 g1 g2 b0 b1 b2 b3 b4 b5 a0 a1 q n qo no (nK q n) (skF q n (nK q n) f B bits S) un F' B m W' Im ∧ FOK F' (skF q n (nK q n) f B bits S).2 ∧ Bk (q ^ n) B W' m) := by
  have hN := h.2.2.2.2
  have hK := nK_le h hs
  intro f
  induction f with
  | zero =>
    intro d r hd hr B bits m S W F hb hS hF hB
    have hbm := hB.m hN
    have hml := hB.len
    refine eX4_seek [some (.ref g0), some (.int (nI r)), some (.int (nI bits)), none] rfl (Nat.le_of_ble_eq_true rfl) ?_
    refine V_aload_n dX4_seek_0 rfl ?_
    refine V_get 0 dX4_seek_1 fX4_seek_15 rfl rfl ?_
    refine V_callVpi0 [3] (s_X1_total (d := d - 1) (by omega) ) gX4_seek_X1_total dX4_seek_4 oX1_total rfl rfl rfl rfl (Nat.le_of_ble_eq_true rfl) (by omega) ⟨Nat.le_refl _, Nat.le_refl _⟩ ?_
    refine V_aload_n dX4_seek_7 rfl ?_
    refine V_get 0 dX4_seek_8 fX4_seek_42 rfl rfl ?_
    first | refine V_iadd_N dX4_seek_11 ?_ | refine V_iadd dX4_seek_11 ?_
    refine V_iload_n dX4_seek_12 rfl ?_
    first | refine V_isub_N dX4_seek_13 (by omega) ?_ | refine V_isub dX4_seek_13 ?_
    refine V_aload_n dX4_seek_14 rfl ?_
    refine V_get 0 dX4_seek_15 fX4_seek_36 rfl rfl ?_
    refine V_icmp_ge_N 22 dX4_seek_18 (by decide) (by omega) (by omega) (fun c_18 => ?_) (fun c_18 => ?_)
    ·
      refine V_iload_n dX4_seek_22 rfl ?_
      refine V_aload_n dX4_seek_23 rfl ?_
      refine V_get 0 dX4_seek_24 fX4_seek_42 rfl rfl ?_
      refine V_icmp_lt_N 36 dX4_seek_27 (by decide) (by omega) (by omega) (fun c_27 => absurd c_27 (by omega)) (fun c_27 => ?_)
      refine V_aload_n dX4_seek_30 rfl ?_
      refine V_iload_n dX4_seek_31 rfl ?_
      refine V_callV1 [0, 2, 3] (s_X4_note (d := d - 1) (by omega) rfl hF (by omega) hS) gX4_seek_X4_note dX4_seek_32 oX4_note rfl rfl rfl rfl (Nat.le_of_ble_eq_true rfl) (by omega) ⟨Nat.le_refl _, Nat.le_refl _⟩ ?_
      rintro _ _ ⟨F2, rfl, hF2, rfl⟩
      simp only [zput_n, zput_c, zset_0, zset_1, zset_2, zset_3, Option.toList, List.nil_append]
      refine V_vret dX4_seek_35 rfl (Nat.le_of_ble_eq_true rfl) (Nat.le_refl _) (Nat.le_refl _) ?_
      have e : skF q n (nK q n) 0 B bits S = nt S m bits := by rw [skF, if_neg (by omega), hbm]
      rw [e]
      exact ⟨_, _, rfl, rfl, hF2, hB⟩
    ·
      refine V_vret dX4_seek_21 rfl (Nat.le_of_ble_eq_true rfl) (Nat.le_refl _) (Nat.le_refl _) ?_
      have e : skF q n (nK q n) 0 B bits S = S := by rw [skF, if_pos (by omega)]
      rw [e]
      exact ⟨_, _, rfl, rfl, hF, hB⟩
  | succ f ih =>
    intro d r hd hr B bits m S W F hb hS hF hB
    have hbm := hB.m hN
    have hml := hB.len
    refine eX4_seek [some (.ref g0), some (.int (nI r)), some (.int (nI bits)), none] rfl (Nat.le_of_ble_eq_true rfl) ?_
    refine V_aload_n dX4_seek_0 rfl ?_
    refine V_get 0 dX4_seek_1 fX4_seek_15 rfl rfl ?_
    refine V_callVpi0 [3] (s_X1_total (d := d - 1) (by omega) ) gX4_seek_X1_total dX4_seek_4 oX1_total rfl rfl rfl rfl (Nat.le_of_ble_eq_true rfl) (by omega) ⟨Nat.le_refl _, Nat.le_refl _⟩ ?_
    refine V_aload_n dX4_seek_7 rfl ?_
    refine V_get 0 dX4_seek_8 fX4_seek_42 rfl rfl ?_
    first | refine V_iadd_N dX4_seek_11 ?_ | refine V_iadd dX4_seek_11 ?_
    refine V_iload_n dX4_seek_12 rfl ?_
    first | refine V_isub_N dX4_seek_13 (by omega) ?_ | refine V_isub dX4_seek_13 ?_
    refine V_aload_n dX4_seek_14 rfl ?_
    refine V_get 0 dX4_seek_15 fX4_seek_36 rfl rfl ?_
    refine V_icmp_ge_N 22 dX4_seek_18 (by decide) (by omega) (by omega) (fun c_18 => ?_) (fun c_18 => ?_)
    ·
      refine V_iload_n dX4_seek_22 rfl ?_
      refine V_aload_n dX4_seek_23 rfl ?_
      refine V_get 0 dX4_seek_24 fX4_seek_42 rfl rfl ?_
      refine V_icmp_lt_N 36 dX4_seek_27 (by decide) (by omega) (by omega) (fun c_27 => ?_) (fun c_27 => absurd c_27 (by omega))
      refine V_iconst (v := nI 0) dX4_seek_36 (by decide) ?_
      refine V_istore_n dX4_seek_37 (by decide) rfl ?_
      refine V_post (l_X4_seekLoop (d := d) (f := f) (r := r) (by omega) h hs hr hb hbm (fun B bits m S W F h1 h2 h3 h4 => ih (d - 1) (r + 1) (by omega) (by omega) B bits m S W F h1 h2 h3 h4) rfl 32 0 S W F (by omega) hS hF hB) ?_
      rintro v w' ⟨W2, F2, S2, e, e1, e2, hF2, hB2⟩
      have e9 : skF q n (nK q n) (f + 1) B bits S = S2 := by rw [skF, if_neg (by omega), e, show nK q n - (f + 1) = r by omega]
      rw [e9]
      exact ⟨W2, F2, e1, e2, hF2, hB2⟩
    ·
      refine V_vret dX4_seek_21 rfl (Nat.le_of_ble_eq_true rfl) (Nat.le_refl _) (Nat.le_refl _) ?_
      have e : skF q n (nK q n) (f + 1) B bits S = S := by rw [skF, if_pos (by omega)]
      rw [e]
      exact ⟨_, _, rfl, rfl, hF, hB⟩
end SEEK

