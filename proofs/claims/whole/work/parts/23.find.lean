/-! Greatest: sought once for an alphabet -/
def GC (q n K mo my un : Nat) (Rg F : Nat → Int32) : Prop := Rg = rgF q n ∧ K = nK q n ∧ mo = (GR q n).1 ∧ my = min (GR q n).2.length 128 ∧ FOK F (GR q n).2 ∧ un = unC q n (GR q n).2 my
theorem nt_BOK {q n : Nat} {S : Nat × List Nat} {c b : Nat} (hS : ∀ x ∈ S.2, BOK q n x) (hb : BOK q n b) : ∀ x ∈ (nt S c b).2, BOK q n x := by
  intro x hx
  unfold nt at hx
  split at hx
  · simp at hx; rw [hx]; exact hb
  · simp at hx
    rcases hx with e | e
    · exact hS x e
    · rw [e]; exact hb
theorem lpF_BOK {q n : Nat} {P : Nat → Bool} {F : Nat → Nat × List Nat → Nat × List Nat} (hF : ∀ w S, P w = true → (∀ x ∈ S.2, BOK q n x) → ∀ x ∈ (F w S).2, BOK q n x) : ∀ (g w : Nat) (S : Nat × List Nat), (∀ x ∈ S.2, BOK q n x) → ∀ x ∈ (lpF P F g w S).2, BOK q n x
  | 0, _, S, h => h
  | g + 1, w, S, h => by
    rw [lpF]
    refine lpF_BOK hF g (w + 1) _ ?_
    split
    · next e => exact hF w S e h
    · exact h
theorem skF_BOK {q n K : Nat} (h : OKq q n) (hs : q ^ n ≤ 32) (hK : K ≤ 8) : ∀ (f : Nat) (B : Nat → Bool) (bits : Nat) (S : Nat × List Nat), BOK q n bits → (∀ x ∈ S.2, BOK q n x) → ∀ x ∈ (skF q n K f B bits S).2, BOK q n x
  | 0, B, bits, S, hb, hS => by
    rw [skF]
    split
    · exact hS
    · exact nt_BOK hS hb
  | f + 1, B, bits, S, hb, hS => by
    rw [skF]
    split
    · exact hS
    · refine skF_BOK h hs hK f B bits _ hb (lpF_BOK (fun w S hP hS => skF_BOK h hs hK f _ _ _ (hb.or h hs (r := K - (f + 1)) (by omega) ?_) hS) 32 0 S hS)
      rw [Bool.and_eq_true] at hP
      exact hP.1
theorem BOK_0 (q n : Nat) : BOK q n 0 := ⟨by decide, fun w h => by simp at h⟩
theorem GR_BOK {q n : Nat} (h : OKq q n) (hs : q ^ n ≤ 32) : ∀ i, i < (GR q n).2.length → BOK q n ((GR q n).2.getD i 0) := by
  intro i hi
  have k := skF_BOK h hs (nK_le h hs) (nK q n) (fun _ => false) 0 (0, []) (BOK_0 q n) (fun x hx => by simp at hx)
  unfold List.getD
  rw [List.getElem?_eq_getElem hi]
  exact k _ (List.getElem_mem hi)
section FIND
variable {tO d q n g0 g1 g2 a0 a1 b0 b1 b2 b3 b4 b5 qo no K mo my un mT NT : Nat} {Im Rg F W O E : Nat → Int32} {BT : Nat → Bool}
theorem l_X4_find (hd : 6 ≤ d) (h : OKq q n) (hs : q ^ n ≤ 32) {F : Nat → Int32} (hF : FOK F (GR q n).2) (hmy : my = min (GR q n).2.length 128) {w0 : zW} (hw0 : w0.length = 11) : ∀ (f i : Nat), i + f = my → V tO MX4_find (d, 0, 0) w0 (fun v w' => v = none ∧ w' = [obG g0 g1 g2 a0 b0 q n K mo my (unC q n (GR q n).2 my), (g1, aI 32 Rg), (g2, aI 128 F), obB b0 b1 b2 b3 b4 b5 a0 mT, (b1, aI 256 W), (b2, aZ 256 (hdF BT)), (b3, aI 256 Im), (b4, aI 162 O), (b5, aI 162 E), (a0, oB 0 [.ref a1, .int (nI q), .int (nI n), .int (nI (q ^ n))]), (a1, aI 6 (pwF q))]) (0, 0) [obG g0 g1 g2 a0 b0 q n K mo my (unC q n (GR q n).2 i), (g1, aI 32 Rg), (g2, aI 128 F), obB b0 b1 b2 b3 b4 b5 a0 mT, (b1, aI 256 W), (b2, aZ 256 (hdF BT)), (b3, aI 256 Im), (b4, aI 162 O), (b5, aI 162 E), (a0, oB 0 [.ref a1, .int (nI q), .int (nI n), .int (nI (q ^ n))]), (a1, aI 6 (pwF q))] 85 [some (.ref g0), some (.int (nI i))] [] := by
  have hmy2 : my ≤ 128 := by omega
  intro f
  induction f with
  | zero =>
    intro i hi
    have e : i = my := by omega
    subst e
    refine V_iload_n dX4_find_85 rfl ?_
    refine V_aload_n dX4_find_86 rfl ?_
    refine V_get 0 dX4_find_87 fX4_find_33 rfl rfl ?_
    refine V_icmp_ge_N 124 dX4_find_90 (by decide) (by omega) (by omega) (fun c_90 => ?_) (fun c_90 => absurd c_90 (by omega))
    exact V_vret dX4_find_124 rfl (by rw [hw0]; exact Nat.le_refl _) (Nat.le_refl _) (Nat.le_refl _) ⟨rfl, rfl⟩
  | succ f ih =>
    intro i hi
    have i1 := ih (i + 1) (by omega)
    unfold unC at i1 ⊢
    rw [ct_succ] at i1
    have hb := GR_BOK h hs i (by omega)
    refine V_iload_n dX4_find_85 rfl ?_
    refine V_aload_n dX4_find_86 rfl ?_
    refine V_get 0 dX4_find_87 fX4_find_33 rfl rfl ?_
    refine V_icmp_ge_N 124 dX4_find_90 (by decide) (by omega) (by omega) (fun c_90 => absurd c_90 (by omega)) (fun c_90 => ?_)
    refine V_aload_n dX4_find_93 rfl ?_
    refine V_aload_n dX4_find_94 rfl ?_
    refine V_get 0 dX4_find_95 fX4_find_23 rfl rfl ?_
    refine V_iload_n dX4_find_98 rfl ?_
    refine V_callSpi2 [2] (s_X8_atI (d := d - 1) (by omega) (by omega) (by decide)) gX4_find_X8_at dX4_find_99 oX8_at rfl rfl (Nat.le_of_ble_eq_true rfl) (by omega) ⟨Nat.le_refl _, Nat.le_refl _⟩ ?_
    rw [hF i (by omega)]
    refine V_callVpi1 [0, 9, 10] (s_X4_isLeastOfItsKind (d := d - 1) (by omega) h hs hb) gX4_find_X4_isLeastOfItsKind dX4_find_102 oX4_isLeastOfItsKind rfl rfl rfl rfl (Nat.le_of_ble_eq_true rfl) (by omega) ⟨Nat.le_refl _, Nat.le_refl _⟩ ?_
    first | refine V_if_eq_B 118 dX4_find_105 (by decide) (fun c_105 => ?_) (fun c_105 => ?_) | refine V_if_eq_N 118 dX4_find_105 (by decide) (by omega) (fun c_105 => ?_) (fun c_105 => ?_) | refine V_if_eq 118 dX4_find_105 (by decide) (fun c_105 => ?_) (fun c_105 => ?_)
    ·
      rw [c_105, if_neg Bool.false_ne_true] at i1
      first | refine V_iinc_N (i := 1) dX4_find_118 rfl (by decide) rfl ?_ | refine V_iinc dX4_find_118 rfl rfl (by decide) rfl ?_
      refine V_goto 85 dX4_find_121 (by decide) ?_
      exact i1
    ·
      rw [c_105, if_pos rfl] at i1
      refine V_aload_n dX4_find_108 rfl ?_
      refine V_dup dX4_find_109 rfl ?_
      refine V_get 0 dX4_find_110 fX4_find_39 rfl rfl ?_
      refine V_iconst (v := nI 1) dX4_find_113 (by decide) ?_
      first | refine V_iadd_N dX4_find_114 ?_ | refine V_iadd dX4_find_114 ?_
      refine V_put 0 dX4_find_115 fX4_find_39 ft_3_9 rfl rfl rfl (Nat.le_of_ble_eq_true rfl) ?_
      first | refine V_iinc_N (i := 1) dX4_find_118 rfl (by decide) rfl ?_ | refine V_iinc dX4_find_118 rfl rfl (by decide) rfl ?_
      refine V_goto 85 dX4_find_121 (by decide) ?_
      exact i1
theorem s_X4_find (hd : 16 ≤ d) (h : OKq q n) (hs : q ^ n ≤ 32) (hqo : qo ≤ 4) (hno : no ≤ 5) (hNT : NT ≤ 256) (hBT : Bk NT BT W mT) (hc : qo = q → no = n → GC q n K mo my un Rg F) : Sp tO MX4_find (d, 0, 0) [.ref g0] [obG g0 g1 g2 a0 b0 qo no K mo my un, (g1, aI 32 Rg), (g2, aI 128 F), obB b0 b1 b2 b3 b4 b5 a0 mT, (b1, aI 256 W), (b2, aZ 256 (hdF BT)), (b3, aI 256 Im), (b4, aI 162 O), (b5, aI 162 E), (a0, oB 0 [.ref a1, .int (nI q), .int (nI n), .int (nI (q ^ n))]), (a1, aI 6 (pwF q))] (fun v w' => ∃ K' mo' my' un' Rg' F' mT' W' BT' O' E', v = none ∧ w' = [obG g0 g1 g2 a0 b0 q n K' mo' my' un', (g1, aI 32 Rg'), (g2, aI 128 F'), obB b0 b1 b2 b3 b4 b5 a0 mT', (b1, aI 256 W'), (b2, aZ 256 (hdF BT')), (b3, aI 256 Im), (b4, aI 162 O'), (b5, aI 162 E'), (a0, oB 0 [.ref a1, .int (nI q), .int (nI n), .int (nI (q ^ n))]), (a1, aI 6 (pwF q))] ∧ GC q n K' mo' my' un' Rg' F' ∧ Bk 256 BT' W' mT') := by
  refine eX4_find [some (.ref g0), none] rfl (Nat.le_of_ble_eq_true rfl) ?_
  have hq4 := h.2.1
  have hn5 := h.2.2.2.1
  have hK := nK_le h hs
  refine V_aload_n dX4_find_0 rfl ?_
  refine V_get 0 dX4_find_1 fX4_find_26 rfl rfl ?_
  refine V_aload_n dX4_find_4 rfl ?_
  refine V_get 0 dX4_find_5 fX4_find_9 rfl rfl ?_
  refine V_get 9 dX4_find_8 fX4_find_51 rfl rfl ?_
  first | refine V_icmp_ne_N 29 dX4_find_11 (by decide) (by omega) (by omega) (fun c_11 => ?_) (fun c_11 => ?_) | refine V_icmp_ne 29 dX4_find_11 (by decide) (fun c_11 => ?_) (fun c_11 => ?_)
  ·
    refine V_aload_n dX4_find_29 rfl ?_
    refine V_aload_n dX4_find_30 rfl ?_
    refine V_get 0 dX4_find_31 fX4_find_9 rfl rfl ?_
    refine V_get 9 dX4_find_34 fX4_find_51 rfl rfl ?_
    refine V_put 0 dX4_find_37 fX4_find_26 ft_3_4 rfl rfl rfl (Nat.le_of_ble_eq_true rfl) ?_
    refine V_aload_n dX4_find_40 rfl ?_
    refine V_aload_n dX4_find_41 rfl ?_
    refine V_get 0 dX4_find_42 fX4_find_9 rfl rfl ?_
    refine V_get 9 dX4_find_45 fX4_find_56 rfl rfl ?_
    refine V_put 0 dX4_find_48 fX4_find_30 ft_3_5 rfl rfl rfl (Nat.le_of_ble_eq_true rfl) ?_
    refine V_aload_n dX4_find_51 rfl ?_
    refine V_callVfv0 [0, 1, 9, 10] (s_X4_numberRings (d := d - 1) (by omega) h) gX4_find_X4_numberRings dX4_find_52 oX4_numberRings rfl rfl rfl rfl (Nat.le_of_ble_eq_true rfl) (by omega) ⟨Nat.le_refl _, Nat.le_refl _⟩ ?_
    simp only [zput_n, zput_c, zset_0, zset_1, zset_9, zset_10]
    refine V_aload_n dX4_find_55 rfl ?_
    refine V_iconst (v := nI 0) dX4_find_56 (by decide) ?_
    refine V_put 0 dX4_find_57 fX4_find_36 ft_3_7 rfl rfl rfl (Nat.le_of_ble_eq_true rfl) ?_
    refine V_aload_n dX4_find_60 rfl ?_
    refine V_iconst (v := nI 0) dX4_find_61 (by decide) ?_
    refine V_put 0 dX4_find_62 fX4_find_33 ft_3_8 rfl rfl rfl (Nat.le_of_ble_eq_true rfl) ?_
    refine V_aload_n dX4_find_65 rfl ?_
    refine V_get 0 dX4_find_66 fX4_find_15 rfl rfl ?_
    refine V_callVfv0 [3, 4, 5, 6, 7, 8, 9, 10] (s_X1_empty (d := d - 1) (by omega) hNT hBT) gX4_find_X1_empty dX4_find_69 oX1_empty rfl rfl rfl rfl (Nat.le_of_ble_eq_true rfl) (by omega) ⟨Nat.le_refl _, Nat.le_refl _⟩ ?_
    simp only [zput_n, zput_c, zset_3, zset_4, zset_5, zset_6, zset_7, zset_8, zset_9, zset_10]
    refine V_aload_n dX4_find_72 rfl ?_
    refine V_iconst (v := nI 0) dX4_find_73 (by decide) ?_
    refine V_iconst (v := nI 0) dX4_find_74 (by decide) ?_
    refine V_callS3 [0, 1, 2, 3, 4, 5, 6, 7, 8, 9, 10] (s_X4_seek (un := un) (qo := q) (no := n) h hs (nK q n) (d - 1) 0 (by omega) (by omega) (fun _ => false) 0 0 (0, []) _ F (BOK_0 q n) (by decide) (FOK.nil F) (Bk.nil _ _)) gX4_find_X4_seek dX4_find_75 oX4_seek rfl rfl (Nat.le_of_ble_eq_true rfl) (by omega) ⟨Nat.le_refl _, Nat.le_refl _⟩ ?_
    rintro _ _ ⟨W2, F2, rfl, rfl, hF2, hB2⟩
    simp only [zput_n, zput_c, zset_0, zset_1, zset_2, zset_3, zset_4, zset_5, zset_6, zset_7, zset_8, zset_9, zset_10, Option.toList, List.nil_append]
    refine V_aload_n dX4_find_78 rfl ?_
    refine V_iconst (v := nI 0) dX4_find_79 (by decide) ?_
    refine V_put 0 dX4_find_80 fX4_find_39 ft_3_9 rfl rfl rfl (Nat.le_of_ble_eq_true rfl) ?_
    refine V_iconst (v := nI 0) dX4_find_83 (by decide) ?_
    refine V_istore_n dX4_find_84 (by decide) rfl ?_
    refine V_post (l_X4_find (by omega) h hs hF2 rfl rfl _ 0 (by rw [Nat.zero_add])) ?_
    rintro v w' ⟨e1, e2⟩
    exact ⟨_, _, _, _, _, _, _, _, _, _, _, e1, e2, ⟨rfl, rfl, rfl, rfl, hF2, rfl⟩, hB2.mono h.2.2.2.2⟩
  ·
    refine V_aload_n dX4_find_14 rfl ?_
    refine V_get 0 dX4_find_15 fX4_find_30 rfl rfl ?_
    refine V_aload_n dX4_find_18 rfl ?_
    refine V_get 0 dX4_find_19 fX4_find_9 rfl rfl ?_
    refine V_get 9 dX4_find_22 fX4_find_56 rfl rfl ?_
    first | refine V_icmp_ne_N 29 dX4_find_25 (by decide) (by omega) (by omega) (fun c_25 => ?_) (fun c_25 => ?_) | refine V_icmp_ne 29 dX4_find_25 (by decide) (fun c_25 => ?_) (fun c_25 => ?_)
    ·
      refine V_aload_n dX4_find_29 rfl ?_
      refine V_aload_n dX4_find_30 rfl ?_
      refine V_get 0 dX4_find_31 fX4_find_9 rfl rfl ?_
      refine V_get 9 dX4_find_34 fX4_find_51 rfl rfl ?_
      refine V_put 0 dX4_find_37 fX4_find_26 ft_3_4 rfl rfl rfl (Nat.le_of_ble_eq_true rfl) ?_
      refine V_aload_n dX4_find_40 rfl ?_
      refine V_aload_n dX4_find_41 rfl ?_
      refine V_get 0 dX4_find_42 fX4_find_9 rfl rfl ?_
      refine V_get 9 dX4_find_45 fX4_find_56 rfl rfl ?_
      refine V_put 0 dX4_find_48 fX4_find_30 ft_3_5 rfl rfl rfl (Nat.le_of_ble_eq_true rfl) ?_
      refine V_aload_n dX4_find_51 rfl ?_
      refine V_callVfv0 [0, 1, 9, 10] (s_X4_numberRings (d := d - 1) (by omega) h) gX4_find_X4_numberRings dX4_find_52 oX4_numberRings rfl rfl rfl rfl (Nat.le_of_ble_eq_true rfl) (by omega) ⟨Nat.le_refl _, Nat.le_refl _⟩ ?_
      simp only [zput_n, zput_c, zset_0, zset_1, zset_9, zset_10]
      refine V_aload_n dX4_find_55 rfl ?_
      refine V_iconst (v := nI 0) dX4_find_56 (by decide) ?_
      refine V_put 0 dX4_find_57 fX4_find_36 ft_3_7 rfl rfl rfl (Nat.le_of_ble_eq_true rfl) ?_
      refine V_aload_n dX4_find_60 rfl ?_
      refine V_iconst (v := nI 0) dX4_find_61 (by decide) ?_
      refine V_put 0 dX4_find_62 fX4_find_33 ft_3_8 rfl rfl rfl (Nat.le_of_ble_eq_true rfl) ?_
      refine V_aload_n dX4_find_65 rfl ?_
      refine V_get 0 dX4_find_66 fX4_find_15 rfl rfl ?_
      refine V_callVfv0 [3, 4, 5, 6, 7, 8, 9, 10] (s_X1_empty (d := d - 1) (by omega) hNT hBT) gX4_find_X1_empty dX4_find_69 oX1_empty rfl rfl rfl rfl (Nat.le_of_ble_eq_true rfl) (by omega) ⟨Nat.le_refl _, Nat.le_refl _⟩ ?_
      simp only [zput_n, zput_c, zset_3, zset_4, zset_5, zset_6, zset_7, zset_8, zset_9, zset_10]
      refine V_aload_n dX4_find_72 rfl ?_
      refine V_iconst (v := nI 0) dX4_find_73 (by decide) ?_
      refine V_iconst (v := nI 0) dX4_find_74 (by decide) ?_
      refine V_callS3 [0, 1, 2, 3, 4, 5, 6, 7, 8, 9, 10] (s_X4_seek (un := un) (qo := q) (no := n) h hs (nK q n) (d - 1) 0 (by omega) (by omega) (fun _ => false) 0 0 (0, []) _ F (BOK_0 q n) (by decide) (FOK.nil F) (Bk.nil _ _)) gX4_find_X4_seek dX4_find_75 oX4_seek rfl rfl (Nat.le_of_ble_eq_true rfl) (by omega) ⟨Nat.le_refl _, Nat.le_refl _⟩ ?_
      rintro _ _ ⟨W2, F2, rfl, rfl, hF2, hB2⟩
      simp only [zput_n, zput_c, zset_0, zset_1, zset_2, zset_3, zset_4, zset_5, zset_6, zset_7, zset_8, zset_9, zset_10, Option.toList, List.nil_append]
      refine V_aload_n dX4_find_78 rfl ?_
      refine V_iconst (v := nI 0) dX4_find_79 (by decide) ?_
      refine V_put 0 dX4_find_80 fX4_find_39 ft_3_9 rfl rfl rfl (Nat.le_of_ble_eq_true rfl) ?_
      refine V_iconst (v := nI 0) dX4_find_83 (by decide) ?_
      refine V_istore_n dX4_find_84 (by decide) rfl ?_
      refine V_post (l_X4_find (by omega) h hs hF2 rfl rfl _ 0 (by rw [Nat.zero_add])) ?_
      rintro v w' ⟨e1, e2⟩
      exact ⟨_, _, _, _, _, _, _, _, _, _, _, e1, e2, ⟨rfl, rfl, rfl, rfl, hF2, rfl⟩, hB2.mono h.2.2.2.2⟩
    ·
      refine V_vret dX4_find_28 rfl (Nat.le_of_ble_eq_true rfl) (Nat.le_refl _) (Nat.le_refl _) ?_
      exact ⟨K, mo, my, un, Rg, F, mT, W, BT, O, E, rfl, by rw [c_11, c_25], hc c_11 c_25, hBT.mono hNT⟩
end FIND

