/-! the model: great -/
section GREAT5
variable {tO d m0 : Nat} {A : Nat → Nat} {q n cut rows kq kn kc kr fd wn : Nat} {kt yw : Bool} {cu cv ck rm mo bo ki wa wr fo : Int32} {B KB : Nat → Bool} {Wb R KR P KP Od Ig Pk Lt Lk Rd Nx Tp Pa Wy Sz It : Nat → Int32}
theorem l_X12_great_clear {x1 x2 : Int32} {w0 : zW} {Q : zPo} (next : V tO MX12_great (d, 0, 0) w0 Q (0, 0) [obM m0 A q n cut rows kq kn kc kr kt cu cv ck rm mo bo ki wa wr fo fd wn yw, (A 0, aZ 256 (hdF (memF []))), (A 2, aZ 256 Wb), (A 7, aI 4 Od), (A 9, aI 32 Pk), (A 10, aI 32 Lt)] 79 [some (.ref m0), some (.int x1), some (.int x2), none] []) : ∀ (f i : Nat) (Hc : Nat → Int32), i + f = 256 → (∀ j, j < i → Hc j = nI 0) → V tO MX12_great (d, 0, 0) w0 Q (0, 0) [obM m0 A q n cut rows kq kn kc kr kt cu cv ck rm mo bo ki wa wr fo fd wn yw, (A 0, aZ 256 Hc), (A 2, aZ 256 Wb), (A 7, aI 4 Od), (A 9, aI 32 Pk), (A 10, aI 32 Lt)] 59 [some (.ref m0), some (.int x1), some (.int x2), some (.int (nI i))] [] := by
  intro f
  induction f with
  | zero =>
    intro i Hc hi hH
    refine V_iload_n dX12_great_59 rfl ?_
    refine V_sipush (v := nI 256) dX12_great_60 (by decide) ?_
    refine V_icmp_ge_N 79 dX12_great_63 (by decide) (by omega) (by omega) (fun c_63 => ?_) (fun c_63 => absurd c_63 (by omega))
    refine V_agp 1 (hdF (memF [])) rfl (fun j hj => by rw [memF_nil, hdF_nil]; exact hH j (by omega)) ?_
    exact V_wk _ (by exact ⟨rfl, rfl, rfl, trivial, trivial⟩) next
  | succ f ih =>
    intro i Hc hi hH
    refine V_iload_n dX12_great_59 rfl ?_
    refine V_sipush (v := nI 256) dX12_great_60 (by decide) ?_
    refine V_icmp_ge_N 79 dX12_great_63 (by decide) (by omega) (by omega) (fun c_63 => absurd c_63 (by omega)) (fun c_63 => ?_)
    refine V_aload_n dX12_great_66 rfl ?_
    refine V_get 0 dX12_great_67 fX12_great_18 rfl rfl ?_
    refine V_iload_n dX12_great_70 rfl ?_
    refine V_iconst (v := nI 0) dX12_great_71 (by decide) ?_
    refine V_zast_N 1 dX12_great_72 rfl (by omega) (by first | decide | omega) (by first | exact Or.inl rfl | exact Or.inr rfl | exact bI_or _) ?_
    first | refine V_iinc_N (i := 1) dX12_great_73 rfl (by decide) rfl ?_ | refine V_iinc dX12_great_73 rfl rfl (by decide) rfl ?_
    refine V_goto 59 dX12_great_76 (by decide) ?_
    exact ih (i + 1) _ (by omega) (fun j hj => upd_fill hH hj)
theorem l_X12_great_back {x1 x2 : Int32} {w0 : zW} {Q : zPo} (next : V tO MX12_great (d, 0, 0) w0 Q (0, 0) [obM m0 A q n cut rows kq kn kc kr kt cu cv ck rm mo bo ki wa wr fo fd wn yw, (A 0, aZ 256 (hdF B)), (A 2, aZ 256 (hdF B)), (A 7, aI 4 Od), (A 9, aI 32 Pk), (A 10, aI 32 Lt)] 151 [some (.ref m0), some (.int x1), some (.int x2), none] []) : ∀ (f i : Nat) (Hc : Nat → Int32), i + f = 256 → (∀ j, j < i → Hc j = hdF B j) → V tO MX12_great (d, 0, 0) w0 Q (0, 0) [obM m0 A q n cut rows kq kn kc kr kt cu cv ck rm mo bo ki wa wr fo fd wn yw, (A 0, aZ 256 Hc), (A 2, aZ 256 (hdF B)), (A 7, aI 4 Od), (A 9, aI 32 Pk), (A 10, aI 32 Lt)] 126 [some (.ref m0), some (.int x1), some (.int x2), some (.int (nI i))] [] := by
  intro f
  induction f with
  | zero =>
    intro i Hc hi hH
    refine V_iload_n dX12_great_126 rfl ?_
    refine V_sipush (v := nI 256) dX12_great_127 (by decide) ?_
    refine V_icmp_ge_N 151 dX12_great_130 (by decide) (by omega) (by omega) (fun c_130 => ?_) (fun c_130 => absurd c_130 (by omega))
    refine V_agp 1 (hdF B) rfl (fun j hj => hH j (by omega)) ?_
    exact V_wk _ (by exact ⟨rfl, rfl, rfl, trivial, trivial⟩) next
  | succ f ih =>
    intro i Hc hi hH
    refine V_iload_n dX12_great_126 rfl ?_
    refine V_sipush (v := nI 256) dX12_great_127 (by decide) ?_
    refine V_icmp_ge_N 151 dX12_great_130 (by decide) (by omega) (by omega) (fun c_130 => absurd c_130 (by omega)) (fun c_130 => ?_)
    refine V_aload_n dX12_great_133 rfl ?_
    refine V_get 0 dX12_great_134 fX12_great_18 rfl rfl ?_
    refine V_iload_n dX12_great_137 rfl ?_
    refine V_aload_n dX12_great_138 rfl ?_
    refine V_get 0 dX12_great_139 fX12_great_25 rfl rfl ?_
    refine V_iload_n dX12_great_142 rfl ?_
    refine V_zald_N 2 dX12_great_143 rfl (by omega) (by first | decide | omega) ?_
    refine V_zast_N 1 dX12_great_144 rfl (by omega) (by first | decide | omega) (by first | exact Or.inl rfl | exact Or.inr rfl | exact bI_or _) ?_
    first | refine V_iinc_N (i := 1) dX12_great_145 rfl (by decide) rfl ?_ | refine V_iinc dX12_great_145 rfl rfl (by decide) rfl ?_
    refine V_goto 126 dX12_great_148 (by decide) ?_
    exact ih (i + 1) _ (by omega) (fun j hj => upd_copy hH hj)
theorem z_m3 {x : Int32} : x < -3 ↔ x.toInt < -3 := by
  rw [Int32.lt_iff_toInt_lt, show (-3 : Int32).toInt = -3 from by decide]
theorem z_em {x : Int32} {k : Int32} : x = k ↔ x.toInt = k.toInt := by rw [Int32.toInt_inj]
theorem grV_ok {q n : Nat} (h : OKq q n) (hs : q ^ n ≤ 32) {x y : Int32} (hx : ¬ x.toInt < -3) (hy : 0 ≤ x.toInt → isW (nK q n) y = true) : grV q n x y = (if x = -1 then nI (LL q n).length else if x = -2 then nI (mxT q n) else if x = -3 then nI (((LL q n).filter (fiB q n (nK q n))).length) else if fdF x y (LL q n) 0 (-5) = nI 256 then -1 else fdF x y (LL q n) 0 (-5)) := by
  have hm := h.sm hs
  have hlen : (LL q n).length ≤ 128 := (LL_ok (q, n) hm).1.2
  have hGR := GR_LL h hs
  have hmy : grMy q n = (LL q n).length := by
    unfold grMy
    rw [hGR]
    dsimp only
    rw [List.length_map]
    omega
  unfold grV
  rw [if_pos hs, hmy, hGR]
  dsimp only
  by_cases h1 : x = -1
  · rw [if_pos h1, if_pos (by rw [h1]; decide)]
  · rw [if_neg h1, if_neg (fun hh => h1 (z_em.mpr (by rw [hh]; decide)))]
    by_cases h2 : x = -2
    · rw [if_pos h2, if_pos (by rw [h2]; decide)]
    · rw [if_neg h2, if_neg (fun hh => h2 (z_em.mpr (by rw [hh]; decide)))]
      by_cases h3 : x = -3
      · rw [if_pos h3, if_pos (by rw [h3]; decide)]
        unfold unC
        have e1 : ct (fun i => lsB q n (((LL q n).map bitsOf).getD i 0)) (LL q n).length = ((LL q n).filter (fun ps => lsB q n (bitsOf ps))).length := by
          have e2 := ct_filter (p := lsB q n) (z := 0) ((LL q n).map bitsOf)
          rw [List.length_map] at e2
          rw [e2, List.filter_map, List.length_map]
          rfl
        rw [e1]
        exact congrArg nI (LL_facts (q, n) hm).symm
      · rw [if_neg h3, if_neg (fun hh => h3 (z_em.mpr (by rw [hh]; decide)))]
        have hx0 : 0 ≤ x.toInt := by
          have a1 : x.toInt ≠ -1 := fun hh => h1 (z_em.mpr (by rw [hh]; decide))
          have a2 : x.toInt ≠ -2 := fun hh => h2 (z_em.mpr (by rw [hh]; decide))
          have a3 : x.toInt ≠ -3 := fun hh => h3 (z_em.mpr (by rw [hh]; decide))
          omega
        have hyK := hy hx0
        obtain ⟨k, hk, rfl⟩ := isW_of hyK
        have hK8 := nK_le h hs
        obtain ⟨i, hi, rfl⟩ : ∃ i, i < 2 ^ 31 ∧ x = nI i := ⟨x.toInt.toNat, by have := (fb_rng' x).2; omega, toInt_nI hx0⟩
        rw [hyK, Bool.and_true, isW_nI hi, toNat_nI hi, toNat_nI (by omega)]
        by_cases hil : i < (LL q n).length
        · rw [decide_eq_true hil, if_pos rfl, fdF_at hi (by rw [nI_toInt (by omega)]; omega) _ _ _ (Nat.zero_le _) (by omega) (by omega), Nat.sub_zero, toNat_nI (by omega)]
          have hw := LL_words (q, n) hm
          dsimp only at hw
          rw [List.all_eq_true] at hw
          have hw2 := hw ((LL q n)[i]) (List.getElem_mem hil)
          rw [List.all_eq_true] at hw2
          have hw3 := hw2 k (List.mem_range.mpr hk)
          rw [Bool.and_eq_true] at hw3
          have hw4 := of_decide_eq_true hw3.1
          have hw5 := of_decide_eq_true hw3.2
          rw [List.getD_eq_getElem?_getD (l := (LL q n).map bitsOf), List.getElem?_map, List.getElem?_eq_getElem hil]
          rw [show (LL q n).getD i [] = (LL q n)[i] by rw [List.getD_eq_getElem?_getD, List.getElem?_eq_getElem hil]; rfl]
          dsimp only [Option.map, Option.getD]
          rw [wdT_eq h hs hk 32 0 (by omega), hw5]
          by_cases e : ((LL q n)[i]).getD k 256 = 256
          · rw [if_pos e, e, if_pos rfl]
          · rw [if_neg e, if_neg (fun hh => e (by rw [nI_eq (by omega) (by decide)] at hh; exact hh))]
        · rw [decide_eq_false hil, if_neg Bool.false_ne_true, fdF_no _ _ _ (fun j _ hj hh => by rw [nI_eq (by omega) hi] at hh; omega), if_neg (by decide)]
theorem l_X12_great_end {x y : Int32} {a b kz : Nat} {fx : Int32} {w0 : zW} (hw0 : w0.length = 6) {Wb2 Od2 Pk2 Lt2 : Nat → Int32} {cu2 cv2 ck2 rm2 : Int32} : V tO MX12_great (d, 0, 0) w0 (fun v w' => ∃ Wb' Od' Pk' Lt' cu' cv' ck' rm' mo' bo' ki' wa' wr' fo', v = some (.int (if x = -1 then nI a else if x = -2 then nI b else if x = -3 then nI kz else if fx = nI 256 then -1 else fx)) ∧ w' = [obM m0 A q n cut rows kq kn kc kr kt cu' cv' ck' rm' mo' bo' ki' wa' wr' fo' fd wn yw, (A 0, aZ 256 (hdF B)), (A 2, aZ 256 Wb'), (A 7, aI 4 Od'), (A 9, aI 32 Pk'), (A 10, aI 32 Lt')]) (0, 0) [obM m0 A q n cut rows kq kn kc kr kt cu2 cv2 ck2 rm2 (nI b) (nI a) (nI (if x = -3 then kz else 0)) x y fx fd wn yw, (A 0, aZ 256 (hdF B)), (A 2, aZ 256 Wb2), (A 7, aI 4 Od2), (A 9, aI 32 Pk2), (A 10, aI 32 Lt2)] 151 [some (.ref m0), some (.int x), some (.int y), none] [] := by
  refine V_iload_n dX12_great_151 rfl ?_
  refine V_iconst (v := -1) dX12_great_152 (by decide) ?_
  refine V_icmp_ne 163 dX12_great_153 (by decide) (fun c_153 => ?_) (fun c_153 => ?_)
  ·
    rw [if_neg c_153]
    refine V_iload_n dX12_great_163 rfl ?_
    refine V_bipush (v := (-2)) dX12_great_164 (by decide) ?_
    refine V_icmp_ne 176 dX12_great_166 (by decide) (fun c_166 => ?_) (fun c_166 => ?_)
    ·
      rw [if_neg c_166]
      refine V_iload_n dX12_great_176 rfl ?_
      refine V_bipush (v := (-3)) dX12_great_177 (by decide) ?_
      refine V_icmp_ne 189 dX12_great_179 (by decide) (fun c_179 => ?_) (fun c_179 => ?_)
      ·
        rw [if_neg c_179]
        refine V_aload_n dX12_great_189 rfl ?_
        refine V_get 0 dX12_great_190 fX12_great_199 rfl rfl ?_
        refine V_sipush (v := nI 256) dX12_great_193 (by decide) ?_
        refine V_icmp_ne 203 dX12_great_196 (by decide) (fun c_196 => ?_) (fun c_196 => ?_)
        ·
          rw [if_neg c_196]
          refine V_aload_n dX12_great_203 rfl ?_
          refine V_get 0 dX12_great_204 fX12_great_199 rfl rfl ?_
          refine V_iret dX12_great_207 rfl (by rw [hw0]; exact Nat.le_of_ble_eq_true rfl) (Nat.le_refl _) (Nat.le_refl _) ?_
          exact ⟨_, _, _, _, _, _, _, _, _, _, _, _, _, _, rfl, rfl⟩
        ·
          rw [if_pos c_196]
          refine V_iconst (v := -1) dX12_great_199 (by decide) ?_
          refine V_goto 207 dX12_great_200 (by decide) ?_
          refine V_iret dX12_great_207 rfl (by rw [hw0]; exact Nat.le_of_ble_eq_true rfl) (Nat.le_refl _) (Nat.le_refl _) ?_
          exact ⟨_, _, _, _, _, _, _, _, _, _, _, _, _, _, rfl, rfl⟩
      ·
        rw [if_pos c_179, if_pos c_179]
        refine V_aload_n dX12_great_182 rfl ?_
        refine V_get 0 dX12_great_183 fX12_great_202 rfl rfl ?_
        refine V_goto 207 dX12_great_186 (by decide) ?_
        refine V_iret dX12_great_207 rfl (by rw [hw0]; exact Nat.le_of_ble_eq_true rfl) (Nat.le_refl _) (Nat.le_refl _) ?_
        exact ⟨_, _, _, _, _, _, _, _, _, _, _, _, _, _, rfl, rfl⟩
    ·
      rw [if_pos c_166]
      refine V_aload_n dX12_great_169 rfl ?_
      refine V_get 0 dX12_great_170 fX12_great_187 rfl rfl ?_
      refine V_goto 207 dX12_great_173 (by decide) ?_
      refine V_iret dX12_great_207 rfl (by rw [hw0]; exact Nat.le_of_ble_eq_true rfl) (Nat.le_refl _) (Nat.le_refl _) ?_
      exact ⟨_, _, _, _, _, _, _, _, _, _, _, _, _, _, rfl, rfl⟩
  ·
    rw [if_pos c_153]
    refine V_aload_n dX12_great_156 rfl ?_
    refine V_get 0 dX12_great_157 fX12_great_190 rfl rfl ?_
    refine V_goto 207 dX12_great_160 (by decide) ?_
    refine V_iret dX12_great_207 rfl (by rw [hw0]; exact Nat.le_of_ble_eq_true rfl) (Nat.le_refl _) (Nat.le_refl _) ?_
    exact ⟨_, _, _, _, _, _, _, _, _, _, _, _, _, _, rfl, rfl⟩
theorem l_X12_great_run (hd : 40 ≤ d) (h : OKq q n) (hs : q ^ n ≤ 32) {x y : Int32} (hy : 0 ≤ x.toInt → isW (nK q n) y = true) (hss : ss q n (nK q n) x y false (rgT q n) [] [] 0 (0, 0, 0, -5) = (mxT q n, 0, 0, -5)) {kz : Nat} {fx : Int32} (hst : ss q n (nK q n) x y true (rgT q n) [] [] 0 (mxT q n, 0, 0, -5) = (mxT q n, (LL q n).length, (if x = -3 then kz else 0), fx)) (hmx : mxT q n ≤ nK q n) {w0 : zW} (hw0 : w0.length = 6) : V tO MX12_great (d, 0, 0) w0 (fun v w' => ∃ Wb' Od' Pk' Lt' cu' cv' ck' rm' mo' bo' ki' wa' wr' fo', v = some (.int (if x = -1 then nI (LL q n).length else if x = -2 then nI (mxT q n) else if x = -3 then nI kz else if fx = nI 256 then -1 else fx)) ∧ w' = [obM m0 A q n cut rows kq kn kc kr kt cu' cv' ck' rm' mo' bo' ki' wa' wr' fo' fd wn yw, (A 0, aZ 256 (hdF B)), (A 2, aZ 256 Wb'), (A 7, aI 4 Od'), (A 9, aI 32 Pk'), (A 10, aI 32 Lt')]) (0, 0) [obM m0 A q n cut rows kq kn kc kr kt cu cv ck (nI (nK q n)) mo bo ki wa wr fo fd wn yw, (A 0, aZ 256 (hdF (memF []))), (A 2, aZ 256 (hdF B)), (A 7, aI 4 Od), (A 9, aI 32 Pk), (A 10, aI 32 Lt)] 79 [some (.ref m0), some (.int x), some (.int y), none] [] := by
  have hK8 := nK_le h hs
  have hm := h.sm hs
  have hT := rgT_q h hs
  have hdj := rgT_disj (q, n) hm
  dsimp only at hdj
  have h66 : (6 : Nat) ^ (rgT q n).length ≤ 6 ^ 8 := Nat.pow_le_pow_right (by decide) (by omega)
  have h67 : (6 : Nat) ^ 8 = 1679616 := by decide
  refine V_aload_n dX12_great_79 rfl ?_
  refine V_iconst (v := nI 0) dX12_great_80 (by decide) ?_
  refine V_put 0 dX12_great_81 fX12_great_187 ft_10_24 rfl rfl rfl (Nat.le_of_ble_eq_true rfl) ?_
  refine V_aload_n dX12_great_84 rfl ?_
  refine V_iconst (v := nI 0) dX12_great_85 (by decide) ?_
  refine V_put 0 dX12_great_86 fX12_great_190 ft_10_25 rfl rfl rfl (Nat.le_of_ble_eq_true rfl) ?_
  refine V_aload_n dX12_great_89 rfl ?_
  refine V_iconst (v := nI 0) dX12_great_90 (by decide) ?_
  refine V_put 0 dX12_great_91 fX12_great_202 ft_10_26 rfl rfl rfl (Nat.le_of_ble_eq_true rfl) ?_
  refine V_aload_n dX12_great_94 rfl ?_
  refine V_iload_n dX12_great_95 rfl ?_
  refine V_put 0 dX12_great_96 fX12_great_193 ft_10_27 rfl rfl rfl (Nat.le_of_ble_eq_true rfl) ?_
  refine V_aload_n dX12_great_99 rfl ?_
  refine V_iload_n dX12_great_100 rfl ?_
  refine V_put 0 dX12_great_101 fX12_great_196 ft_10_28 rfl rfl rfl (Nat.le_of_ble_eq_true rfl) ?_
  refine V_aload_n dX12_great_104 rfl ?_
  refine V_bipush (v := (-5)) dX12_great_105 (by decide) ?_
  refine V_put 0 dX12_great_107 fX12_great_199 ft_10_29 rfl rfl rfl (Nat.le_of_ble_eq_true rfl) ?_
  refine V_aload_n dX12_great_110 rfl ?_
  refine V_iconst (v := nI 0) dX12_great_111 (by decide) ?_
  refine V_iconst (v := nI 0) dX12_great_112 (by decide) ?_
  refine V_iconst (v := nI 0) dX12_great_113 (by decide) ?_
  refine V_callV3 [0, 1, 3, 4, 5] (s_X12_searches (tO := tO) h hs (K := nK q n) (wa := x) (wr := y) rfl (fun a _ => hy a) (cn := false) (rgT q n) (d - 1) 0 0 [] [] (0, 0, 0, -5) _ _ _ _ _ _ (by omega) (by omega) (by rw [List.drop_zero]) (fun w hw => absurd hw (by simp)) hdj (fun w hw => absurd hw (by simp)) rfl (fun r hr => absurd hr (by omega)) (Nat.zero_le _) (Nat.le_refl _) (by dsimp only; omega)) gX12_great_X12_searches dX12_great_114 oX12_searches rfl rfl rfl rfl (Nat.le_of_ble_eq_true rfl) (by omega) ⟨Nat.le_refl _, Nat.le_refl _⟩ ?_
  rw [hss]
  rintro _ _ ⟨cu1, cv1, ck1, Od1, Lt1, Pk1, rfl, rfl, -⟩
  simp only [zput_n, zput_c, zset_0, zset_1, zset_2, zset_3, zset_4, zset_5, Option.toList, List.cons_append, List.nil_append]
  refine V_aload_n dX12_great_117 rfl ?_
  refine V_iconst (v := nI 0) dX12_great_118 (by decide) ?_
  refine V_iconst (v := nI 0) dX12_great_119 (by decide) ?_
  refine V_iconst (v := nI 1) dX12_great_120 (by decide) ?_
  refine V_callV3 [0, 1, 3, 4, 5] (s_X12_searches (tO := tO) h hs (K := nK q n) (wa := x) (wr := y) rfl (fun a _ => hy a) (cn := true) (rgT q n) (d - 1) 0 0 [] [] (mxT q n, 0, 0, -5) _ _ _ _ _ _ (by omega) (by omega) (by rw [List.drop_zero]) (fun w hw => absurd hw (by simp)) hdj (fun w hw => absurd hw (by simp)) rfl (fun r hr => absurd hr (by omega)) hmx (Nat.le_refl _) (by dsimp only; omega)) gX12_great_X12_searches dX12_great_121 oX12_searches rfl rfl rfl rfl (Nat.le_of_ble_eq_true rfl) (by omega) ⟨Nat.le_refl _, Nat.le_refl _⟩ ?_
  rw [hst]
  rintro _ _ ⟨cu2, cv2, ck2, Od2, Lt2, Pk2, rfl, rfl, -⟩
  simp only [zput_n, zput_c, zset_0, zset_1, zset_2, zset_3, zset_4, zset_5, Option.toList, List.cons_append, List.nil_append]
  refine V_iconst (v := nI 0) dX12_great_124 (by decide) ?_
  refine V_istore_n dX12_great_125 (by decide) rfl ?_
  refine l_X12_great_back ?_ 256 0 _ (by omega) (fun j hj => absurd hj (by omega))
  exact l_X12_great_end hw0
theorem s_X12_great (hd : 40 ≤ d) (h : OKq q n) {x y : Int32} : Sp tO MX12_great (d, 0, 0) [.ref m0, .int x, .int y] [obM m0 A q n cut rows kq kn kc kr kt cu cv ck rm mo bo ki wa wr fo fd wn yw, (A 0, aZ 256 (hdF B)), (A 2, aZ 256 Wb), (A 7, aI 4 Od), (A 9, aI 32 Pk), (A 10, aI 32 Lt)] (fun v w' => ∃ Wb' Od' Pk' Lt' cu' cv' ck' rm' mo' bo' ki' wa' wr' fo', v = some (.int (grV q n x y)) ∧ w' = [obM m0 A q n cut rows kq kn kc kr kt cu' cv' ck' rm' mo' bo' ki' wa' wr' fo' fd wn yw, (A 0, aZ 256 (hdF B)), (A 2, aZ 256 Wb'), (A 7, aI 4 Od'), (A 9, aI 32 Pk'), (A 10, aI 32 Lt')]) := by
  refine eX12_great [some (.ref m0), some (.int x), some (.int y), none] rfl (Nat.le_of_ble_eq_true rfl) ?_
  have hN := h.2.2.2.2
  by_cases hs : q ^ n ≤ 32
  · have hK8 := nK_le h hs
    have hm := h.sm hs
    have hT := rgT_q h hs
    have hsml : small (rgT q n) := by
      intro R hR w hw
      obtain ⟨r, hr, rfl⟩ := List.mem_iff_getElem.mp hR
      have := (hT.2 r hr).2 w (by rw [List.getD_eq_getElem?_getD, List.getElem?_eq_getElem hr]; exact hw)
      omega
    have hnot : (x.toInt < -3 ∨ 0 ≤ x.toInt ∧ isW (nK q n) y = false) → grV q n x y = -5 := by
      intro hh
      unfold grV
      rw [if_pos hs]
      rcases hh with hh | ⟨hh, hk⟩
      · rw [if_neg (by omega), if_neg (by omega), if_neg (by omega), show isW (grMy q n) x = false by unfold isW; exact decide_eq_false (by omega)]
        rfl
      · rw [if_neg (by omega), if_neg (by omega), if_neg (by omega), hk, Bool.and_false]
        rfl
    have hk0 : 0 < nK q n := by
      have key : ∀ x ∈ smL, 0 < nK x.1 x.2 := by decide +kernel
      exact key (q, n) hm
    have run : ¬ x.toInt < -3 → (0 ≤ x.toInt → isW (nK q n) y = true) → V tO MX12_great (d, 0, 0) [obM m0 A q n cut rows kq kn kc kr kt cu cv ck rm mo bo ki wa wr fo fd wn yw, (A 0, aZ 256 (hdF B)), (A 2, aZ 256 Wb), (A 7, aI 4 Od), (A 9, aI 32 Pk), (A 10, aI 32 Lt)] (fun v w' => ∃ Wb' Od' Pk' Lt' cu' cv' ck' rm' mo' bo' ki' wa' wr' fo', v = some (.int (grV q n x y)) ∧ w' = [obM m0 A q n cut rows kq kn kc kr kt cu' cv' ck' rm' mo' bo' ki' wa' wr' fo' fd wn yw, (A 0, aZ 256 (hdF B)), (A 2, aZ 256 Wb'), (A 7, aI 4 Od'), (A 9, aI 32 Pk'), (A 10, aI 32 Lt')]) (0, 0) [obM m0 A q n cut rows kq kn kc kr kt cu cv ck (nI (nK q n)) mo bo ki wa wr fo fd wn yw, (A 0, aZ 256 (hdF B)), (A 2, aZ 256 Wb), (A 7, aI 4 Od), (A 9, aI 32 Pk), (A 10, aI 32 Lt)] 49 [some (.ref m0), some (.int x), some (.int y), none] [] := by
      intro hx hy
      rw [grV_ok h hs hx hy]
      have hP0 : ∀ Pk0 : Nat → Int32, PkOK q n 0 Pk0 (fun i => ([] : List Nat).getD i 256) := fun _ r hr => absurd hr (by omega)
      have hss := ss_f (q := q) (n := n) (K := nK q n) (wa := x) (wr := y) (rgT q n) [] [] (0, 0, 0, -5) hsml
      have h66 : (6 : Nat) ^ (rgT q n).length ≤ 6 ^ 8 := Nat.pow_le_pow_right (by decide) (by omega)
      have h67 : (6 : Nat) ^ 8 = 1679616 := by decide
      have emx : mx0 (m2 q n (rgT q n) [] [] (cnp []) 0) = mxT q n := by
        obtain ⟨⟨f1, -⟩, f2⟩ := LL_ok (q, n) hm
        have g1 := m2_filter (q := q) (n := n) (rgT q n) [] [] 0 (mxT q n) hsml rfl
        have g2 := m2_filter (q := q) (n := n) (rgT q n) [] [] 0 (mxT q n + 1) hsml rfl
        exact mx0_of (by rw [show cnp [] = 0 from rfl, ← g1]; exact f1) (by rw [show cnp [] = 0 from rfl, ← g2]; exact f2)
      rw [emx] at hss
      dsimp only at hss
      rw [Nat.zero_max, show cnp [] = 0 from rfl] at hss
      have hmxK : mxT q n ≤ nK q n := by
        have key : ∀ x ∈ smL, mxT x.1 x.2 ≤ nK x.1 x.2 := by decide +kernel
        exact key (q, n) hm
      have hst := ss_t (q := q) (n := n) (K := nK q n) (wa := x) (wr := y) (rgT q n) [] [] 0 (mxT q n, 0, 0, -5)
      rw [fold_lf] at hst
      dsimp only at hst
      rw [Nat.zero_add, Nat.zero_add] at hst
      have hst2 : ss q n (nK q n) x y true (rgT q n) [] [] 0 (mxT q n, 0, 0, -5) = (mxT q n, (LL q n).length, (if x = -3 then ((LL q n).filter (fiB q n (nK q n))).length else 0), fdF x y (LL q n) 0 (-5)) := hst
      refine V_aload_n dX12_great_49 rfl ?_
      refine V_aload_n dX12_great_50 rfl ?_
      refine V_get 0 dX12_great_51 fX12_great_25 rfl rfl ?_
      refine V_callVfv1 [0, 1, 2] (s_X12_keepsBook (d := d - 1) (by omega) ) gX12_great_X12_keepsBook dX12_great_54 oX12_keepsBook rfl rfl rfl rfl (Nat.le_of_ble_eq_true rfl) (by omega) ⟨Nat.le_refl _, Nat.le_refl _⟩ ?_
      simp only [List.cons_append, List.nil_append, zput_n, zput_c, zset_0, zset_1, zset_2]
      refine V_iconst (v := nI 0) dX12_great_57 (by decide) ?_
      refine V_istore_n dX12_great_58 (by decide) rfl ?_
      refine l_X12_great_clear ?_ 256 0 _ (by omega) (fun j hj => absurd hj (by omega))
      have i9 := l_X12_great_run (tO := tO) (m0 := m0) (A := A) (cut := cut) (rows := rows) (kq := kq) (kn := kn) (kc := kc) (kr := kr) (kt := kt) (cu := cu) (cv := cv) (ck := ck) (mo := mo) (bo := bo) (ki := ki) (wa := wa) (wr := wr) (fo := fo) (fd := fd) (wn := wn) (yw := yw) (B := B) (Od := Od) (Pk := Pk) (Lt := Lt) (w0 := [obM m0 A q n cut rows kq kn kc kr kt cu cv ck rm mo bo ki wa wr fo fd wn yw, (A 0, aZ 256 (hdF B)), (A 2, aZ 256 Wb), (A 7, aI 4 Od), (A 9, aI 32 Pk), (A 10, aI 32 Lt)]) hd h hs hy hss hst2 hmxK rfl
      exact i9
    refine V_aload_n dX12_great_0 rfl ?_
    refine V_callVpi0 [0] (s_X12_words (d := d - 1) (by omega) h) gX12_great_X12_words dX12_great_1 oX12_words rfl rfl rfl rfl (Nat.le_of_ble_eq_true rfl) (by omega) ⟨Nat.le_refl _, Nat.le_refl _⟩ ?_
    refine V_bipush (v := nI 32) dX12_great_4 (by decide) ?_
    refine V_icmp_le_N 12 dX12_great_6 (by decide) (by omega) (by decide) (fun c_6 => ?_) (fun c_6 => absurd c_6 (by omega))
    refine V_aload_n dX12_great_12 rfl ?_
    refine V_aload_n dX12_great_13 rfl ?_
    refine V_callVpi0 [0] (s_X12_rings (d := d - 1) (by omega) h) gX12_great_X12_rings dX12_great_14 oX12_rings rfl rfl rfl rfl (Nat.le_of_ble_eq_true rfl) (by omega) ⟨Nat.le_refl _, Nat.le_refl _⟩ ?_
    refine V_put 0 dX12_great_17 fX12_great_178 ft_10_23 rfl rfl rfl (Nat.le_of_ble_eq_true rfl) ?_
    refine V_iload_n dX12_great_20 rfl ?_
    refine V_bipush (v := (-3)) dX12_great_21 (by decide) ?_
    refine V_icmp_lt 46 dX12_great_23 (by decide) (fun c_23 => ?_) (fun c_23 => ?_)
    ·
      rw [z_m3] at c_23
      rw [hnot (Or.inl c_23)]
      refine V_bipush (v := (-5)) dX12_great_46 (by decide) ?_
      refine V_iret dX12_great_48 rfl (Nat.le_of_ble_eq_true rfl) (Nat.le_refl _) (Nat.le_refl _) ?_
      exact ⟨_, _, _, _, _, _, _, _, _, _, _, _, _, _, rfl, rfl⟩
    ·
      rw [z_m3] at c_23
      refine V_iload_n dX12_great_26 rfl ?_
      refine V_if_lt 49 dX12_great_27 (by decide) (fun c_27 => ?_) (fun c_27 => ?_)
      ·
        rw [z_lt0] at c_27
        exact run c_23 (fun hh => by omega)
      ·
        rw [z_lt0] at c_27
        refine V_iload_n dX12_great_30 rfl ?_
        refine V_i2l dX12_great_31 ?_
        refine V_lconst (v := 0) dX12_great_32 (by decide) ?_
        refine V_aload_n dX12_great_33 rfl ?_
        refine V_get 0 dX12_great_34 fX12_great_178 rfl rfl ?_
        refine V_iconst (v := nI 1) dX12_great_37 (by decide) ?_
        refine V_isub_N dX12_great_38 (show 1 ≤ nK q n from hk0) ?_
        refine V_i2l dX12_great_39 ?_
        refine V_callSpi3 [] (s_X12_isInW (d := d - 1) (by omega) (k := nK q n) (by omega) hk0) gX12_great_X12_isIn dX12_great_40 oX12_isIn rfl rfl (Nat.le_of_ble_eq_true rfl) (by omega) ⟨Nat.le_refl _, Nat.le_refl _⟩ ?_
        first | refine V_if_ne_B 49 dX12_great_43 (by decide) (fun c_43 => ?_) (fun c_43 => ?_) | refine V_if_ne_N 49 dX12_great_43 (by decide) (by omega) (fun c_43 => ?_) (fun c_43 => ?_) | refine V_if_ne 49 dX12_great_43 (by decide) (fun c_43 => ?_) (fun c_43 => ?_)
        ·
          exact run c_23 (fun _ => c_43)
        ·
          rw [hnot (Or.inr ⟨by omega, c_43⟩)]
          refine V_bipush (v := (-5)) dX12_great_46 (by decide) ?_
          refine V_iret dX12_great_48 rfl (Nat.le_of_ble_eq_true rfl) (Nat.le_refl _) (Nat.le_refl _) ?_
          exact ⟨_, _, _, _, _, _, _, _, _, _, _, _, _, _, rfl, rfl⟩
  · unfold grV
    rw [if_neg hs]
    refine V_aload_n dX12_great_0 rfl ?_
    refine V_callVpi0 [0] (s_X12_words (d := d - 1) (by omega) h) gX12_great_X12_words dX12_great_1 oX12_words rfl rfl rfl rfl (Nat.le_of_ble_eq_true rfl) (by omega) ⟨Nat.le_refl _, Nat.le_refl _⟩ ?_
    refine V_bipush (v := nI 32) dX12_great_4 (by decide) ?_
    refine V_icmp_le_N 12 dX12_great_6 (by decide) (by omega) (by decide) (fun c_6 => absurd c_6 (by omega)) (fun c_6 => ?_)
    refine V_bipush (v := (-3)) dX12_great_9 (by decide) ?_
    refine V_iret dX12_great_11 rfl (Nat.le_of_ble_eq_true rfl) (Nat.le_refl _) (Nat.le_refl _) ?_
    exact ⟨_, _, _, _, _, _, _, _, _, _, _, _, _, _, rfl, rfl⟩
end GREAT5

