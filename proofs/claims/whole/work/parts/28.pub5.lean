section PUB5
variable {tO d q n x0 d0 e0 t0 t1 t2 t3 t4 t5 g0 g1 g2 p0 p1 p2 r0 r1 l0 l1 l2 s0 s1 s2 k0 k1 k2 b0 b1 b2 b3 b4 b5 a0 a1 m ms mk mT mt mp NT : Nat} {tk fl : Bool} {W Im O E R Rc K Vv WT ImT OT ET Tb Rs Pb Ln Ce : Nat → Int32} {B BT : Nat → Bool} {L T pk pv : Nat → Nat}
abbrev xhW (x0 d0 e0 : Nat) (tk : Bool) (t0 g0 p0 r0 l0 s0 k0 b0 b1 b2 b3 b4 b5 t1 t2 t3 t4 t5 k1 k2 a0 a1 q n : Nat) (B : Nat → Bool) (m : Nat) (W Im : Nat → Int32) (mk : Nat) (K Vv : Nat → Int32) (BT : Nat → Bool) (mT : Nat) (WT ImT OT ET : Nat → Int32) : zW := [obX x0 d0 e0 tk t0 g0 p0 r0 l0, obD d0 a0 b0 s0 k0, obB b0 b1 b2 b3 b4 b5 a0 m, (b1, aI 256 W), (b2, aZ 256 (hdF B)), (b3, aI 256 Im), (b4, aI 162 (opF q n B)), (b5, aI 162 (enF q n B)), obB t0 t1 t2 t3 t4 t5 a0 mT, (t1, aI 256 WT), (t2, aZ 256 (hdF BT)), (t3, aI 256 ImT), (t4, aI 162 OT), (t5, aI 162 ET), obK k0 k1 k2 a0 mk, (k1, aI 8 K), (k2, aI 8 Vv), (a0, oB 0 [.ref a1, .int (nI q), .int (nI n), .int (nI (q ^ n))]), (a1, aI 6 (pwF q))]
theorem s_X11_behind (hd : 30 ≤ d) (h : OKq q n) (hB : Bk (q ^ n) B W m) (hm : mk ≤ 8) (hP : PnOK mk K Vv pk pv) (hBT : Bk 256 BT WT mT) {x : Int32} : Sp tO MX11_behind (d, 0, 0) [.ref x0, .int x] (xhW x0 d0 e0 tk t0 g0 p0 r0 l0 s0 k0 b0 b1 b2 b3 b4 b5 t1 t2 t3 t4 t5 k1 k2 a0 a1 q n B m W Im mk K Vv BT mT WT ImT OT ET) (fun v' w' => ∃ BT' mT' WT' ImT' OT' ET', v' = some (.int (beV q n (rowsB q n pk pv mk 0 B) x)) ∧ w' = xhW x0 d0 e0 tk t0 g0 p0 r0 l0 s0 k0 b0 b1 b2 b3 b4 b5 t1 t2 t3 t4 t5 k1 k2 a0 a1 q n B m W Im mk K Vv BT' mT' WT' ImT' OT' ET' ∧ Bk 256 BT' WT' mT') := by
  refine eX11_behind [some (.ref x0), some (.int x)] rfl (Nat.le_of_ble_eq_true rfl) ?_
  have hN := h.2.2.2.2
  unfold beV
  refine V_iload_n dX11_behind_0 rfl ?_
  refine V_if_lt 9 dX11_behind_1 (by decide) (fun c_1 => ?_) (fun c_1 => ?_)
  ·
    rw [z_lt0] at c_1
    rw [show isW 3 x = false by unfold isW; exact decide_eq_false (by omega)]
    refine V_iconst (v := -1) dX11_behind_9 (by decide) ?_
    refine V_iret dX11_behind_10 rfl (Nat.le_of_ble_eq_true rfl) (Nat.le_refl _) (Nat.le_refl _) ?_
    exact ⟨BT, mT, WT, ImT, OT, ET, rfl, rfl, hBT⟩
  ·
    rw [z_lt0] at c_1
    refine V_iload_n dX11_behind_4 rfl ?_
    refine V_iconst (v := nI 2) dX11_behind_5 (by decide) ?_
    refine V_icmp_le 11 dX11_behind_6 (by decide) (fun c_6 => ?_) (fun c_6 => ?_)
    ·
      rw [z_le (by decide)] at c_6
      have hx : isW 3 x = true := by unfold isW; exact decide_eq_true (by omega)
      rw [hx, if_pos rfl]
      obtain ⟨c, hc, rfl⟩ := isW_of hx
      have e0 : ((nI c).toInt = 0) ↔ c = 0 := by rw [nI_toInt (by omega)]; omega
      have e1 : ((nI c).toInt = 1) ↔ c = 1 := by rw [nI_toInt (by omega)]; omega
      simp only [e0, e1]
      refine V_aload_n dX11_behind_11 rfl ?_
      refine V_get 0 dX11_behind_12 fX11_behind_34 rfl rfl ?_
      refine V_aload_n dX11_behind_15 rfl ?_
      refine V_get 0 dX11_behind_16 fX11_behind_12 rfl rfl ?_
      refine V_get 1 dX11_behind_19 fX11_behind_86 rfl rfl ?_
      refine V_callVfv1 [8, 9, 10, 11, 12, 13, 2, 3, 4, 5, 6, 7] (s_X1_copyFrom (d := d - 1) (by omega) ) gX11_behind_X1_copyFrom dX11_behind_22 oX1_copyFrom rfl rfl rfl rfl (Nat.le_of_ble_eq_true rfl) (by omega) ⟨Nat.le_refl _, Nat.le_refl _⟩ ?_
      simp only [zput_n, zput_c, zset_2, zset_3, zset_4, zset_5, zset_6, zset_7, zset_8, zset_9, zset_10, zset_11, zset_12, zset_13]
      refine V_aload_n dX11_behind_25 rfl ?_
      refine V_get 0 dX11_behind_26 fX11_behind_12 rfl rfl ?_
      refine V_get 1 dX11_behind_29 fX11_behind_227 rfl rfl ?_
      refine V_aload_n dX11_behind_32 rfl ?_
      refine V_get 0 dX11_behind_33 fX11_behind_34 rfl rfl ?_
      refine V_callV1 [14, 15, 16, 17, 18, 8, 9, 10, 11, 12, 13] (s_X7_doneTo (d := d - 1) (by omega) h hm hP hB) gX11_behind_X7_doneTo dX11_behind_36 oX7_doneTo rfl rfl rfl rfl (Nat.le_of_ble_eq_true rfl) (by omega) ⟨Nat.le_refl _, Nat.le_refl _⟩ ?_
      rintro _ _ ⟨W2, m2, Im2, rfl, rfl, hB2⟩
      simp only [zput_n, zput_c, zset_2, zset_3, zset_4, zset_5, zset_6, zset_7, zset_8, zset_9, zset_10, zset_11, zset_12, zset_13, zset_14, zset_15, zset_16, zset_17, zset_18, Option.toList, List.nil_append]
      generalize rowsB q n pk pv mk 0 B = C at hB2 ⊢
      have hm2 := hB2.len
      rw [hB2.m hN]
      refine V_iload_n dX11_behind_39 rfl ?_
      refine V_if_ne_N 51 dX11_behind_40 (by decide) (by omega) (fun c_40 => ?_) (fun c_40 => ?_)
      ·
        rw [if_neg (show ¬ c = 0 by omega)]
        refine V_iload_n dX11_behind_51 rfl ?_
        refine V_iconst (v := nI 1) dX11_behind_52 (by decide) ?_
        refine V_icmp_ne_N 72 dX11_behind_53 (by decide) (by omega) (by omega) (fun c_53 => ?_) (fun c_53 => ?_)
        ·
          rw [if_neg c_53]
          refine V_aload_n dX11_behind_72 rfl ?_
          refine V_get 0 dX11_behind_73 fX11_behind_34 rfl rfl ?_
          refine V_iconst (v := nI 0) dX11_behind_76 (by decide) ?_
          refine V_callVpi1 [8] (s_X1_has (d := d - 1) (by omega) (by omega)) gX11_behind_X1_has dX11_behind_77 oX1_has rfl rfl rfl rfl (Nat.le_of_ble_eq_true rfl) (by omega) ⟨Nat.le_refl _, Nat.le_refl _⟩ ?_
          rw [isW_nI (by decide)]
          first | refine V_if_eq_B 94 dX11_behind_80 (by decide) (fun c_80 => ?_) (fun c_80 => ?_) | refine V_if_eq_N 94 dX11_behind_80 (by decide) (by omega) (fun c_80 => ?_) (fun c_80 => ?_) | refine V_if_eq 94 dX11_behind_80 (by decide) (fun c_80 => ?_) (fun c_80 => ?_)
          ·
            rw [if_neg (show ¬ 0 < m2 by simpa using c_80)]
            refine V_bipush (v := (-5)) dX11_behind_94 (by decide) ?_
            refine V_iret dX11_behind_96 rfl (Nat.le_of_ble_eq_true rfl) (Nat.le_refl _) (Nat.le_refl _) ?_
            exact ⟨C, _, _, _, _, _, rfl, rfl, hB2.mono hN⟩
          ·
            have c_80 : 0 < m2 := by simpa using c_80
            rw [if_pos c_80, ← hB2.w hN c_80]
            refine V_aload_n dX11_behind_83 rfl ?_
            refine V_get 0 dX11_behind_84 fX11_behind_34 rfl rfl ?_
            refine V_iconst (v := nI 0) dX11_behind_87 (by decide) ?_
            refine V_callVpi1 [8, 9] (s_X1_nth (d := d - 1) (by omega) (by decide)) gX11_behind_X1_nth dX11_behind_88 oX1_nth rfl rfl rfl rfl (Nat.le_of_ble_eq_true rfl) (by omega) ⟨Nat.le_refl _, Nat.le_refl _⟩ ?_
            refine V_goto 96 dX11_behind_91 (by decide) ?_
            refine V_iret dX11_behind_96 rfl (Nat.le_of_ble_eq_true rfl) (Nat.le_refl _) (Nat.le_refl _) ?_
            exact ⟨C, _, _, _, _, _, rfl, rfl, hB2.mono hN⟩
        ·
          rw [if_pos c_53]
          refine V_aload_n dX11_behind_56 rfl ?_
          refine V_get 0 dX11_behind_57 fX11_behind_34 rfl rfl ?_
          refine V_callVpi0 [8, 9, 10, 11, 12, 13, 17, 18] (s_X1_isFree (d := d - 1) (by omega) h hB2) gX11_behind_X1_isFree dX11_behind_60 oX1_isFree rfl rfl rfl rfl (Nat.le_of_ble_eq_true rfl) (by omega) ⟨Nat.le_refl _, Nat.le_refl _⟩ ?_
          first | refine V_if_eq_B 70 dX11_behind_63 (by decide) (fun c_63 => ?_) (fun c_63 => ?_) | refine V_if_eq_N 70 dX11_behind_63 (by decide) (by omega) (fun c_63 => ?_) (fun c_63 => ?_) | refine V_if_eq 70 dX11_behind_63 (by decide) (fun c_63 => ?_) (fun c_63 => ?_)
          ·
            refine V_iconst (v := nI 0) dX11_behind_70 (by decide) ?_
            refine V_iret dX11_behind_71 rfl (Nat.le_of_ble_eq_true rfl) (Nat.le_refl _) (Nat.le_refl _) ?_
            exact ⟨C, _, _, _, _, _, by rw [c_63]; rfl, rfl, hB2.mono hN⟩
          ·
            refine V_iconst (v := nI 1) dX11_behind_66 (by decide) ?_
            refine V_goto 71 dX11_behind_67 (by decide) ?_
            refine V_iret dX11_behind_71 rfl (Nat.le_of_ble_eq_true rfl) (Nat.le_refl _) (Nat.le_refl _) ?_
            exact ⟨C, _, _, _, _, _, by rw [c_63]; rfl, rfl, hB2.mono hN⟩
      ·
        rw [if_pos c_40]
        refine V_aload_n dX11_behind_43 rfl ?_
        refine V_get 0 dX11_behind_44 fX11_behind_34 rfl rfl ?_
        refine V_callVpi0 [8] (s_X1_total (d := d - 1) (by omega) ) gX11_behind_X1_total dX11_behind_47 oX1_total rfl rfl rfl rfl (Nat.le_of_ble_eq_true rfl) (by omega) ⟨Nat.le_refl _, Nat.le_refl _⟩ ?_
        refine V_iret dX11_behind_50 rfl (Nat.le_of_ble_eq_true rfl) (Nat.le_refl _) (Nat.le_refl _) ?_
        exact ⟨C, _, _, _, _, _, rfl, rfl, hB2.mono hN⟩
    ·
      rw [z_le (by decide)] at c_6
      rw [show isW 3 x = false by unfold isW; exact decide_eq_false (by omega)]
      refine V_iconst (v := -1) dX11_behind_9 (by decide) ?_
      refine V_iret dX11_behind_10 rfl (Nat.le_of_ble_eq_true rfl) (Nat.le_refl _) (Nat.le_refl _) ?_
      exact ⟨BT, mT, WT, ImT, OT, ET, rfl, rfl, hBT⟩
theorem s_X11_feed (hd : 30 ≤ d) (hm : mt ≤ 60) (hT : TpOK mt Tb T) {x : Int32} : Sp tO MX11_feed (d, 0, 0) [.ref x0, .int x] [obX x0 d0 e0 tk t0 g0 p0 r0 l0, obT p0 p1 p2 fl mt, (p1, aI 60 Tb)] (fun v' w' => ∃ Tb', v' = some (.int (feV mt x)) ∧ w' = [obX x0 d0 e0 tk t0 g0 p0 r0 l0, obT p0 p1 p2 fl (feN mt x), (p1, aI 60 Tb')] ∧ TpOK (feN mt x) Tb' (feT mt x T)) := by
  refine eX11_feed [some (.ref x0), some (.int x)] rfl (Nat.le_of_ble_eq_true rfl) ?_
  unfold feV feN feT
  refine V_iload_n dX11_feed_0 rfl ?_
  refine V_iconst (v := nI 1) dX11_feed_1 (by decide) ?_
  refine V_icmp_lt 11 dX11_feed_2 (by decide) (fun c_2 => ?_) (fun c_2 => ?_)
  ·
    rw [z_lt (by decide)] at c_2
    rw [show feOK x = false by unfold feOK; exact decide_eq_false (by omega)]
    refine V_bipush (v := (-2)) dX11_feed_11 (by decide) ?_
    refine V_iret dX11_feed_13 rfl (Nat.le_of_ble_eq_true rfl) (Nat.le_refl _) (Nat.le_refl _) ?_
    exact ⟨_, rfl, rfl, hT⟩
  ·
    rw [z_lt (by decide)] at c_2
    refine V_iload_n dX11_feed_5 rfl ?_
    refine V_bipush (v := nI 127) dX11_feed_6 (by decide) ?_
    refine V_icmp_le 14 dX11_feed_8 (by decide) (fun c_8 => ?_) (fun c_8 => ?_)
    ·
      rw [z_le (by decide)] at c_8
      rw [show feOK x = true by unfold feOK; exact decide_eq_true (by omega), if_pos rfl, if_pos rfl, if_pos rfl]
      obtain ⟨c, hc, rfl⟩ := isW_of (N := 128) (x := x) (by unfold isW; exact decide_eq_true (by omega))
      rw [toNat_nI (by omega)]
      refine V_aload_n dX11_feed_14 rfl ?_
      refine V_get 0 dX11_feed_15 fX11_feed_50 rfl rfl ?_
      refine V_iload_n dX11_feed_18 rfl ?_
      by_cases hm8 : mt < 60
      · rw [if_pos hm8, if_pos hm8, if_pos hm8]
        refine V_callVfi1 [1, 2] (s_X10_append (d := d - 1) (by omega) hm8) gX11_feed_X10_append dX11_feed_19 oX10_append rfl rfl rfl rfl (Nat.le_of_ble_eq_true rfl) (by omega) ⟨Nat.le_refl _, Nat.le_refl _⟩ ?_
        simp only [zput_n, zput_c, zset_1, zset_2, Option.toList, List.nil_append]
        refine V_if_eq_B 35 dX11_feed_22 (by decide) (fun c => absurd c (by decide)) (fun _ => ?_)
        refine V_aload_n dX11_feed_25 rfl ?_
        refine V_get 0 dX11_feed_26 fX11_feed_50 rfl rfl ?_
        refine V_callVpi0 [1] (s_X10_total (d := d - 1) (by omega)) gX11_feed_X10_total dX11_feed_29 oX10_total rfl rfl rfl rfl (Nat.le_of_ble_eq_true rfl) (by omega) ⟨Nat.le_refl _, Nat.le_refl _⟩ ?_
        refine V_goto 37 dX11_feed_32 (by decide) ?_
        refine V_iret dX11_feed_37 rfl (Nat.le_of_ble_eq_true rfl) (Nat.le_refl _) (Nat.le_refl _) ?_
        refine ⟨_, rfl, rfl, fun j hj => ?_⟩
        unfold upd updN
        by_cases e : j = mt
        · rw [if_pos e, if_pos e]; exact ⟨rfl, hc⟩
        · rw [if_neg e, if_neg e]; exact hT j (by omega)
      · have e8 : mt = 60 := by omega
        rw [if_neg hm8, if_neg hm8, if_neg hm8]
        subst e8
        refine V_callVpi1 [1, 2] (s_X10_appendN (d := d - 1) (by omega)) gX11_feed_X10_append dX11_feed_19 oX10_append rfl rfl rfl rfl (Nat.le_of_ble_eq_true rfl) (by omega) ⟨Nat.le_refl _, Nat.le_refl _⟩ ?_
        refine V_if_eq_B 35 dX11_feed_22 (by decide) (fun _ => ?_) (fun c => absurd c (by decide))
        refine V_bipush (v := (-4)) dX11_feed_35 (by decide) ?_
        refine V_iret dX11_feed_37 rfl (Nat.le_of_ble_eq_true rfl) (Nat.le_refl _) (Nat.le_refl _) ?_
        exact ⟨_, rfl, rfl, hT⟩
    ·
      rw [z_le (by decide)] at c_8
      rw [show feOK x = false by unfold feOK; exact decide_eq_false (by omega)]
      refine V_bipush (v := (-2)) dX11_feed_11 (by decide) ?_
      refine V_iret dX11_feed_13 rfl (Nat.le_of_ble_eq_true rfl) (Nat.le_refl _) (Nat.le_refl _) ?_
      exact ⟨_, rfl, rfl, hT⟩
abbrev xkW (x0 d0 e0 : Nat) (tk : Bool) (t0 g0 p0 r0 l0 p1 p2 : Nat) (fl : Bool) (mt : Nat) (Tb Rs : Nat → Int32) (t1 t2 t3 t4 t5 s0 k0 b0 b1 b2 b3 b4 b5 a0 a1 q n : Nat) (B : Nat → Bool) (m : Nat) (W Im : Nat → Int32) (BT : Nat → Bool) (mT : Nat) (WT ImT OT ET : Nat → Int32) : zW := [obX x0 d0 e0 tk t0 g0 p0 r0 l0, obT p0 p1 p2 fl mt, (p1, aI 60 Tb), (p2, aI 3 Rs), obB t0 t1 t2 t3 t4 t5 a0 mT, (t1, aI 256 WT), (t2, aZ 256 (hdF BT)), (t3, aI 256 ImT), (t4, aI 162 OT), (t5, aI 162 ET), (a0, oB 0 [.ref a1, .int (nI q), .int (nI n), .int (nI (q ^ n))]), (a1, aI 6 (pwF q)), obD d0 a0 b0 s0 k0, obB b0 b1 b2 b3 b4 b5 a0 m, (b1, aI 256 W), (b2, aZ 256 (hdF B)), (b3, aI 256 Im), (b4, aI 162 (opF q n B)), (b5, aI 162 (enF q n B))]
theorem s_X11_book (hd : 30 ≤ d) (h : OKq q n) (hB : Bk (q ^ n) B W m) (hm : mt ≤ 60) (hT : TpOK mt Tb T) (hBT : Bk 256 BT WT mT) : Sp tO MX11_book (d, 0, 0) [.ref x0] (xkW x0 d0 e0 tk t0 g0 p0 r0 l0 p1 p2 fl mt Tb Rs t1 t2 t3 t4 t5 s0 k0 b0 b1 b2 b3 b4 b5 a0 a1 q n B m W Im BT mT WT ImT OT ET) (fun v' w' => ∃ r B' m' W' BT' mT' WT' OT' ET', r = pR q n T mt 0 0 0 (fun _ => false) ∧ B' = (if r.1 then r.2.2.2.2 else B) ∧ v' = some (.int (bkV r)) ∧ w' = xkW x0 d0 e0 tk t0 g0 p0 r0 l0 p1 p2 (fl || !r.1) 0 Tb (if r.1 then Rs else rsF r.2.2.1 r.2.2.2.1 r.2.1) t1 t2 t3 t4 t5 s0 k0 b0 b1 b2 b3 b4 b5 a0 a1 q n B' m' W' Im BT' mT' WT' ImT OT' ET' ∧ Bk (q ^ n) B' W' m' ∧ Bk 256 BT' WT' mT') := by
  refine eX11_book [some (.ref x0), none] rfl (Nat.le_of_ble_eq_true rfl) ?_
  have hN := h.2.2.2.2
  refine V_aload_n dX11_book_0 rfl ?_
  refine V_get 0 dX11_book_1 fX11_book_50 rfl rfl ?_
  refine V_aload_n dX11_book_4 rfl ?_
  refine V_get 0 dX11_book_5 fX11_book_34 rfl rfl ?_
  refine V_callV1 [1, 2, 3, 4, 5, 6, 7, 8, 9, 10, 11] (s_X10_readInto (d := d - 1) (by omega) h hm hT (Nat.le_refl _) hBT) gX11_book_X10_readInto dX11_book_8 oX10_readInto rfl rfl rfl rfl (Nat.le_of_ble_eq_true rfl) (by omega) ⟨Nat.le_refl _, Nat.le_refl _⟩ ?_
  rintro _ _ ⟨W2, m2, r, hr, rfl, rfl, hB2⟩
  simp only [zput_n, zput_c, zset_1, zset_2, zset_3, zset_4, zset_5, zset_6, zset_7, zset_8, zset_9, zset_10, zset_11, Option.toList, List.nil_append]
  have hr3 := pR_le q n T mt 0 0 0 (fun _ => false)
  rw [← hr] at hr3
  obtain ⟨ok, r1, r2, r3, C⟩ := r
  dsimp only at hr3 hB2 ⊢
  refine V_istore_n dX11_book_11 (by decide) rfl ?_
  refine V_iload_n dX11_book_12 rfl ?_
  refine V_if_lt 21 dX11_book_13 (by decide) (fun c_13 => ?_) (fun c_13 => ?_)
  ·
    have hk : ok = true := by
      cases ok
      · rw [if_neg Bool.false_ne_true, z_lt0, nI_toInt (by omega)] at c_13; omega
      · rfl
    subst hk
    refine V_aload_n dX11_book_21 rfl ?_
    refine V_get 0 dX11_book_22 fX11_book_12 rfl rfl ?_
    refine V_get 12 dX11_book_25 fX11_book_86 rfl rfl ?_
    refine V_aload_n dX11_book_28 rfl ?_
    refine V_get 0 dX11_book_29 fX11_book_34 rfl rfl ?_
    refine V_callVfv1 [13, 14, 15, 16, 17, 18, 4, 5, 6, 7, 8, 9] (s_X1_copyFrom (d := d - 1) (by omega) ) gX11_book_X1_copyFrom dX11_book_32 oX1_copyFrom rfl rfl rfl rfl (Nat.le_of_ble_eq_true rfl) (by omega) ⟨Nat.le_refl _, Nat.le_refl _⟩ ?_
    simp only [zput_n, zput_c, zset_4, zset_5, zset_6, zset_7, zset_8, zset_9, zset_13, zset_14, zset_15, zset_16, zset_17, zset_18]
    refine V_aload_n dX11_book_35 rfl ?_
    refine V_get 0 dX11_book_36 fX11_book_12 rfl rfl ?_
    refine V_get 12 dX11_book_39 fX11_book_86 rfl rfl ?_
    refine V_callVpi0 [13] (s_X1_total (d := d - 1) (by omega) ) gX11_book_X1_total dX11_book_42 oX1_total rfl rfl rfl rfl (Nat.le_of_ble_eq_true rfl) (by omega) ⟨Nat.le_refl _, Nat.le_refl _⟩ ?_
    refine V_iret dX11_book_45 rfl (Nat.le_of_ble_eq_true rfl) (Nat.le_refl _) (Nat.le_refl _) ?_
    exact ⟨_, C, m2, W2, C, m2, W2, _, _, hr, rfl, by rw [bkV, if_pos rfl, hB2.m hN], rfl, hB2, hB2.mono hN⟩
  ·
    have hk : ok = false := by
      cases ok
      · rfl
      · exact absurd (show (-1 : Int32) < 0 by decide) c_13
    subst hk
    refine V_bipush (v := (-100)) dX11_book_16 (by decide) ?_
    refine V_iload_n dX11_book_18 rfl ?_
    rw [if_neg Bool.false_ne_true]
    first | refine V_isub_N dX11_book_19 (by omega) ?_ | refine V_isub dX11_book_19 ?_
    refine V_iret dX11_book_20 rfl (Nat.le_of_ble_eq_true rfl) (Nat.le_refl _) (Nat.le_refl _) ?_
    exact ⟨_, B, m, W, C, m2, W2, _, _, hr, rfl, rfl, rfl, hB, hB2.mono hN⟩
theorem s_X11_why (hd : 30 ≤ d) {x : Int32} : SpP tO MX11_why (d, 0, 0) [.ref x0, .int x] [obX x0 d0 e0 tk t0 g0 p0 r0 l0, obT p0 p1 p2 fl mt, (p2, aI 3 Rs)] (some (.int (if fl && isW 3 x then Rs x.toInt.toNat else -1))) := by
  refine eX11_why [some (.ref x0), some (.int x)] rfl (Nat.le_of_ble_eq_true rfl) ?_
  refine V_aload_n dX11_why_0 rfl ?_
  refine V_get 0 dX11_why_1 fX11_why_50 rfl rfl ?_
  refine V_iload_n dX11_why_4 rfl ?_
  refine V_callVpi1 [1, 2] (s_X10_reason (d := d - 1) (by omega) ) gX11_why_X10_reason dX11_why_5 oX10_reason rfl rfl rfl rfl (Nat.le_of_ble_eq_true rfl) (by omega) ⟨Nat.le_refl _, Nat.le_refl _⟩ ?_
  refine V_iret dX11_why_8 rfl (Nat.le_of_ble_eq_true rfl) (Nat.le_refl _) (Nat.le_refl _) ?_
  exact ⟨rfl, rfl⟩
theorem s_X11_write (hd : 30 ≤ d) (h : OKq q n) (hB : Bk (q ^ n) B W m) : Sp tO MX11_write (d, 0, 0) [.ref x0] [obX x0 d0 e0 tk t0 g0 p0 r0 l0, obP r0 r1 mp, (r1, aI 1457 Pb), obD d0 a0 b0 s0 k0, obB b0 b1 b2 b3 b4 b5 a0 m, (b1, aI 256 W), (b2, aZ 256 (hdF B)), (b3, aI 256 Im), (b4, aI 162 (opF q n B)), (b5, aI 162 (enF q n B)), (a0, oB 0 [.ref a1, .int (nI q), .int (nI n), .int (nI (q ^ n))]), (a1, aI 6 (pwF q))] (fun v' w' => ∃ Pb', v' = some (.int (nI (txN n m))) ∧ w' = [obX x0 d0 e0 tk t0 g0 p0 r0 l0, obP r0 r1 (txN n m), (r1, aI 1457 Pb'), obD d0 a0 b0 s0 k0, obB b0 b1 b2 b3 b4 b5 a0 m, (b1, aI 256 W), (b2, aZ 256 (hdF B)), (b3, aI 256 Im), (b4, aI 162 (opF q n B)), (b5, aI 162 (enF q n B)), (a0, oB 0 [.ref a1, .int (nI q), .int (nI n), .int (nI (q ^ n))]), (a1, aI 6 (pwF q))] ∧ ∀ j, j < txN n m → Pb' j = txF q n B j) := by
  refine eX11_write [some (.ref x0)] rfl (Nat.le_of_ble_eq_true rfl) ?_
  refine V_aload_n dX11_write_0 rfl ?_
  refine V_get 0 dX11_write_1 fX11_write_57 rfl rfl ?_
  refine V_aload_n dX11_write_4 rfl ?_
  refine V_get 0 dX11_write_5 fX11_write_12 rfl rfl ?_
  refine V_get 3 dX11_write_8 fX11_write_86 rfl rfl ?_
  refine V_callV1 [1, 2, 4, 5, 6, 7, 8, 9, 10, 11] (s_X6_become (d := d - 1) (by omega) h hB) gX11_write_X6_become dX11_write_11 oX6_become rfl rfl rfl rfl (Nat.le_of_ble_eq_true rfl) (by omega) ⟨Nat.le_refl _, Nat.le_refl _⟩ ?_
  rintro _ _ ⟨P2, rfl, hP2, rfl⟩
  simp only [zput_n, zput_c, zset_1, zset_2, zset_3, zset_4, zset_5, zset_6, zset_7, zset_8, zset_9, zset_10, zset_11, Option.toList, List.nil_append]
  refine V_aload_n dX11_write_14 rfl ?_
  refine V_get 0 dX11_write_15 fX11_write_57 rfl rfl ?_
  refine V_callVpi0 [1] (s_X6_total (d := d - 1) (by omega) ) gX11_write_X6_total dX11_write_18 oX6_total rfl rfl rfl rfl (Nat.le_of_ble_eq_true rfl) (by omega) ⟨Nat.le_refl _, Nat.le_refl _⟩ ?_
  refine V_iret dX11_write_21 rfl (Nat.le_of_ble_eq_true rfl) (Nat.le_refl _) (Nat.le_refl _) ?_
  exact ⟨P2, rfl, rfl, hP2⟩
theorem s_X11_paper (hd : 30 ≤ d) (hm : mp ≤ 1457) {x : Int32} : SpP tO MX11_paper (d, 0, 0) [.ref x0, .int x] [obX x0 d0 e0 tk t0 g0 p0 r0 l0, obP r0 r1 mp, (r1, aI 1457 Pb)] (some (.int (if isW mp x then Pb x.toInt.toNat else -1))) := by
  refine eX11_paper [some (.ref x0), some (.int x)] rfl (Nat.le_of_ble_eq_true rfl) ?_
  refine V_aload_n dX11_paper_0 rfl ?_
  refine V_get 0 dX11_paper_1 fX11_paper_57 rfl rfl ?_
  refine V_iload_n dX11_paper_4 rfl ?_
  refine V_callVpi1 [1, 2] (s_X6_byteAt (d := d - 1) (by omega) hm) gX11_paper_X6_byteAt dX11_paper_5 oX6_byteAt rfl rfl rfl rfl (Nat.le_of_ble_eq_true rfl) (by omega) ⟨Nat.le_refl _, Nat.le_refl _⟩ ?_
  refine V_iret dX11_paper_8 rfl (Nat.le_of_ble_eq_true rfl) (Nat.le_refl _) (Nat.le_refl _) ?_
  exact ⟨rfl, rfl⟩
theorem l_X11_judge (hd : 30 ≤ d) (hm : m ≤ 256) (hmB : ct B 256 = m) (hW : ∀ i, i < m → W i = nI (eB B i)) {l k : Nat} (hl : l < 4) (hk : k ≤ 12) : ∀ (f i : Nat), i + f = k → V tO MX11_judge (d, 0, 0) [obX x0 d0 e0 tk t0 g0 p0 r0 l0, obL l0 l1 l2, (l1, aI 4 Ln), (l2, aI 48 Ce), obD d0 a0 b0 s0 k0, obB b0 b1 b2 b3 b4 b5 a0 m, (b1, aI 256 W)] (fun v' w' => v' = some (.int (juF B Ce l f i)) ∧ w' = [obX x0 d0 e0 tk t0 g0 p0 r0 l0, obL l0 l1 l2, (l1, aI 4 Ln), (l2, aI 48 Ce), obD d0 a0 b0 s0 k0, obB b0 b1 b2 b3 b4 b5 a0 m, (b1, aI 256 W)]) (0, 0) [obX x0 d0 e0 tk t0 g0 p0 r0 l0, obL l0 l1 l2, (l1, aI 4 Ln), (l2, aI 48 Ce), obD d0 a0 b0 s0 k0, obB b0 b1 b2 b3 b4 b5 a0 m, (b1, aI 256 W)] 27 [some (.ref x0), some (.int (nI l)), some (.int (nI k)), some (.int (nI i)), none] [] := by
  intro f
  induction f with
  | zero =>
    intro i hi
    refine V_iload_n dX11_judge_27 rfl ?_
    refine V_iload_n dX11_judge_28 rfl ?_
    refine V_icmp_ge_N 85 dX11_judge_29 (by decide) (by omega) (by omega) (fun c_29 => ?_) (fun c_29 => absurd c_29 (by omega))
    refine V_bipush (v := (-5)) dX11_judge_85 (by decide) ?_
    refine V_iret dX11_judge_87 rfl (Nat.le_of_ble_eq_true rfl) (Nat.le_refl _) (Nat.le_refl _) ?_
    exact ⟨rfl, rfl⟩
  | succ f ih =>
    intro i hi
    have i1 := ih (i + 1) (by omega)
    have e1 : juF B Ce l (f + 1) i = if Ce (l * 12 + i) = dueI B i then juF B Ce l f (i + 1) else nI i := rfl
    rw [e1]
    unfold dueI
    rw [hmB]
    refine V_iload_n dX11_judge_27 rfl ?_
    refine V_iload_n dX11_judge_28 rfl ?_
    refine V_icmp_ge_N 85 dX11_judge_29 (by decide) (by omega) (by omega) (fun c_29 => absurd c_29 (by omega)) (fun c_29 => ?_)
    refine V_aload_n dX11_judge_32 rfl ?_
    refine V_get 0 dX11_judge_33 fX11_judge_12 rfl rfl ?_
    refine V_get 4 dX11_judge_36 fX11_judge_86 rfl rfl ?_
    refine V_iload_n dX11_judge_39 rfl ?_
    refine V_callVpi1 [5] (s_X1_has (d := d - 1) (by omega) hm) gX11_judge_X1_has dX11_judge_40 oX1_has rfl rfl rfl rfl (Nat.le_of_ble_eq_true rfl) (by omega) ⟨Nat.le_refl _, Nat.le_refl _⟩ ?_
    rw [isW_nI (by omega)]
    first | refine V_if_eq_B 60 dX11_judge_43 (by decide) (fun c_43 => ?_) (fun c_43 => ?_) | refine V_if_eq_N 60 dX11_judge_43 (by decide) (by omega) (fun c_43 => ?_) (fun c_43 => ?_) | refine V_if_eq 60 dX11_judge_43 (by decide) (fun c_43 => ?_) (fun c_43 => ?_)
    ·
      have c_43 : ¬ i < m := by simpa using c_43
      rw [if_neg c_43]
      refine V_iconst (v := -1) dX11_judge_60 (by decide) ?_
      refine V_istore dX11_judge_61 (by decide) rfl ?_
      refine V_aload_n dX11_judge_63 rfl ?_
      refine V_get 0 dX11_judge_64 fX11_judge_64 rfl rfl ?_
      refine V_iload_n dX11_judge_67 rfl ?_
      refine V_iload_n dX11_judge_68 rfl ?_
      refine V_callVpi2 [1, 3] (s_X5_at (d := d - 1) (by omega) hl (by omega)) gX11_judge_X5_at dX11_judge_69 oX5_at rfl rfl rfl rfl (Nat.le_of_ble_eq_true rfl) (by omega) ⟨Nat.le_refl _, Nat.le_refl _⟩ ?_
      refine V_iload dX11_judge_72 rfl ?_
      refine V_icmp_eq 79 dX11_judge_74 (by decide) (fun c_74 => ?_) (fun c_74 => ?_)
      ·
        rw [if_pos c_74]
        first | refine V_iinc_N (i := 1) dX11_judge_79 rfl (by decide) rfl ?_ | refine V_iinc dX11_judge_79 rfl rfl (by decide) rfl ?_
        refine V_goto 27 dX11_judge_82 (by decide) ?_
        exact V_wk [some (.ref x0), some (.int (nI l)), some (.int (nI k)), some (.int (nI (i + 1))), none] ⟨rfl, rfl, rfl, rfl, trivial, trivial⟩ i1
      ·
        rw [if_neg c_74]
        refine V_iload_n dX11_judge_77 rfl ?_
        refine V_iret dX11_judge_78 rfl (Nat.le_of_ble_eq_true rfl) (Nat.le_refl _) (Nat.le_refl _) ?_
        exact ⟨rfl, rfl⟩
    ·
      have c_43 : i < m := by simpa using c_43
      rw [if_pos c_43, ← hW i c_43]
      refine V_aload_n dX11_judge_46 rfl ?_
      refine V_get 0 dX11_judge_47 fX11_judge_12 rfl rfl ?_
      refine V_get 4 dX11_judge_50 fX11_judge_86 rfl rfl ?_
      refine V_iload_n dX11_judge_53 rfl ?_
      refine V_callVpi1 [5, 6] (s_X1_nth (d := d - 1) (by omega) (by omega)) gX11_judge_X1_nth dX11_judge_54 oX1_nth rfl rfl rfl rfl (Nat.le_of_ble_eq_true rfl) (by omega) ⟨Nat.le_refl _, Nat.le_refl _⟩ ?_
      refine V_goto 61 dX11_judge_57 (by decide) ?_
      refine V_istore dX11_judge_61 (by decide) rfl ?_
      refine V_aload_n dX11_judge_63 rfl ?_
      refine V_get 0 dX11_judge_64 fX11_judge_64 rfl rfl ?_
      refine V_iload_n dX11_judge_67 rfl ?_
      refine V_iload_n dX11_judge_68 rfl ?_
      refine V_callVpi2 [1, 3] (s_X5_at (d := d - 1) (by omega) hl (by omega)) gX11_judge_X5_at dX11_judge_69 oX5_at rfl rfl rfl rfl (Nat.le_of_ble_eq_true rfl) (by omega) ⟨Nat.le_refl _, Nat.le_refl _⟩ ?_
      refine V_iload dX11_judge_72 rfl ?_
      refine V_icmp_eq 79 dX11_judge_74 (by decide) (fun c_74 => ?_) (fun c_74 => ?_)
      ·
        rw [if_pos c_74]
        first | refine V_iinc_N (i := 1) dX11_judge_79 rfl (by decide) rfl ?_ | refine V_iinc dX11_judge_79 rfl rfl (by decide) rfl ?_
        refine V_goto 27 dX11_judge_82 (by decide) ?_
        exact V_wk [some (.ref x0), some (.int (nI l)), some (.int (nI k)), some (.int (nI (i + 1))), none] ⟨rfl, rfl, rfl, rfl, trivial, trivial⟩ i1
      ·
        rw [if_neg c_74]
        refine V_iload_n dX11_judge_77 rfl ?_
        refine V_iret dX11_judge_78 rfl (Nat.le_of_ble_eq_true rfl) (Nat.le_refl _) (Nat.le_refl _) ?_
        exact ⟨rfl, rfl⟩
theorem s_X11_judge (hd : 30 ≤ d) (hm : m ≤ 256) (hmB : ct B 256 = m) (hW : ∀ i, i < m → W i = nI (eB B i)) (hL : LnOK Ln) {x : Int32} : SpP tO MX11_judge (d, 0, 0) [.ref x0, .int x] [obX x0 d0 e0 tk t0 g0 p0 r0 l0, obL l0 l1 l2, (l1, aI 4 Ln), (l2, aI 48 Ce), obD d0 a0 b0 s0 k0, obB b0 b1 b2 b3 b4 b5 a0 m, (b1, aI 256 W)] (some (.int (juV B Ln Ce x))) := by
  refine eX11_judge [some (.ref x0), some (.int x), none, none, none] rfl (Nat.le_of_ble_eq_true rfl) ?_
  unfold juV
  refine V_iload_n dX11_judge_0 rfl ?_
  refine V_callSpi1 [] (s_X5_isList (d := d - 1) (by omega) ) gX11_judge_X5_isList dX11_judge_1 oX5_isList rfl rfl (Nat.le_of_ble_eq_true rfl) (by omega) ⟨Nat.le_refl _, Nat.le_refl _⟩ ?_
  first | refine V_if_ne_B 9 dX11_judge_4 (by decide) (fun c_4 => ?_) (fun c_4 => ?_) | refine V_if_ne_N 9 dX11_judge_4 (by decide) (by omega) (fun c_4 => ?_) (fun c_4 => ?_) | refine V_if_ne 9 dX11_judge_4 (by decide) (fun c_4 => ?_) (fun c_4 => ?_)
  ·
    rw [c_4, if_pos rfl]
    obtain ⟨l, hl, rfl⟩ := isW_of c_4
    rw [toNat_nI (by omega)]
    refine V_aload_n dX11_judge_9 rfl ?_
    refine V_get 0 dX11_judge_10 fX11_judge_64 rfl rfl ?_
    refine V_iload_n dX11_judge_13 rfl ?_
    refine V_callVpi1 [1, 2] (s_X5_length (d := d - 1) (by omega) hl) gX11_judge_X5_length dX11_judge_14 oX5_length rfl rfl rfl rfl (Nat.le_of_ble_eq_true rfl) (by omega) ⟨Nat.le_refl _, Nat.le_refl _⟩ ?_
    refine V_istore_n dX11_judge_17 (by decide) rfl ?_
    refine V_iload_n dX11_judge_18 rfl ?_
    refine V_if_ge 25 dX11_judge_19 (by decide) (fun c_19 => ?_) (fun c_19 => ?_)
    ·
      rw [z_ge0] at c_19
      rw [if_neg (by omega)]
      obtain ⟨k, hk, ek⟩ : ∃ k, k ≤ 12 ∧ Ln l = nI k := (hL l hl).resolve_left (fun hh => by rw [hh] at c_19; exact absurd c_19 (by decide))
      rw [ek, toNat_nI (by omega)]
      refine V_iconst (v := nI 0) dX11_judge_25 (by decide) ?_
      refine V_istore_n dX11_judge_26 (by decide) rfl ?_
      exact l_X11_judge hd hm hmB hW hl hk k 0 (by omega)
    ·
      rw [z_ge0] at c_19
      rw [if_pos (by omega)]
      refine V_bipush (v := (-11)) dX11_judge_22 (by decide) ?_
      refine V_iret dX11_judge_24 rfl (Nat.le_of_ble_eq_true rfl) (Nat.le_refl _) (Nat.le_refl _) ?_
      exact ⟨rfl, rfl⟩
  ·
    rw [c_4]
    refine V_iconst (v := -1) dX11_judge_7 (by decide) ?_
    refine V_iret dX11_judge_8 rfl (Nat.le_of_ble_eq_true rfl) (Nat.le_refl _) (Nat.le_refl _) ?_
    exact ⟨rfl, rfl⟩
theorem s_X11_list (hd : 30 ≤ d) {x y : Int32} : SpF tO MX11_list (d, 0, 0) [.ref x0, .int x, .int y] [obX x0 d0 e0 tk t0 g0 p0 r0 l0, obL l0 l1 l2, (l1, aI 4 Ln), (l2, aI 48 Ce)] (some (.int (liV x y))) [obX x0 d0 e0 tk t0 g0 p0 r0 l0, obL l0 l1 l2, (l1, aI 4 (liL x y Ln)), (l2, aI 48 (liC x y Ce))] := by
  refine eX11_list [some (.ref x0), some (.int x), some (.int y)] rfl (Nat.le_of_ble_eq_true rfl) ?_
  unfold liV liL liC
  refine V_iload_n dX11_list_0 rfl ?_
  refine V_callSpi1 [] (s_X5_isList (d := d - 1) (by omega) ) gX11_list_X5_isList dX11_list_1 oX5_isList rfl rfl (Nat.le_of_ble_eq_true rfl) (by omega) ⟨Nat.le_refl _, Nat.le_refl _⟩ ?_
  first | refine V_if_ne_B 9 dX11_list_4 (by decide) (fun c_4 => ?_) (fun c_4 => ?_) | refine V_if_ne_N 9 dX11_list_4 (by decide) (by omega) (fun c_4 => ?_) (fun c_4 => ?_) | refine V_if_ne 9 dX11_list_4 (by decide) (fun c_4 => ?_) (fun c_4 => ?_)
  ·
    rw [c_4, if_pos rfl, if_pos rfl, if_pos rfl]
    obtain ⟨l, hl, rfl⟩ := isW_of c_4
    rw [toNat_nI (by omega)]
    refine V_iload_n dX11_list_9 rfl ?_
    refine V_bipush (v := nI 12) dX11_list_10 (by decide) ?_
    refine V_icmp_le 18 dX11_list_12 (by decide) (fun c_12 => ?_) (fun c_12 => ?_)
    ·
      rw [z_le (by decide)] at c_12
      rw [if_neg (by omega)]
      refine V_iload_n dX11_list_18 rfl ?_
      refine V_if_ge 25 dX11_list_19 (by decide) (fun c_19 => ?_) (fun c_19 => ?_)
      ·
        rw [z_ge0] at c_19
        rw [if_neg (by omega)]
        have hy : isW 13 y = true := by unfold isW; exact decide_eq_true (by omega)
        rw [hy, if_pos rfl, if_pos rfl]
        obtain ⟨k, hk, rfl⟩ := isW_of hy
        rw [toNat_nI (by omega)]
        refine V_aload_n dX11_list_25 rfl ?_
        refine V_get 0 dX11_list_26 fX11_list_64 rfl rfl ?_
        refine V_iload_n dX11_list_29 rfl ?_
        refine V_iload_n dX11_list_30 rfl ?_
        refine V_callVfv2 [1, 2, 3] (s_X5_become (d := d - 1) (by omega) hl (by omega)) gX11_list_X5_become dX11_list_31 oX5_become rfl rfl rfl rfl (Nat.le_of_ble_eq_true rfl) (by omega) ⟨Nat.le_refl _, Nat.le_refl _⟩ ?_
        simp only [zput_n, zput_c, zset_1, zset_2, zset_3]
        refine V_iconst (v := nI 1) dX11_list_34 (by decide) ?_
        refine V_iret dX11_list_35 rfl (Nat.le_of_ble_eq_true rfl) (Nat.le_refl _) (Nat.le_refl _) ?_
        exact ⟨rfl, rfl⟩
      ·
        rw [z_ge0] at c_19
        rw [if_pos (by omega), show isW 13 y = false by unfold isW; exact decide_eq_false (by omega)]
        refine V_bipush (v := (-14)) dX11_list_22 (by decide) ?_
        refine V_iret dX11_list_24 rfl (Nat.le_of_ble_eq_true rfl) (Nat.le_refl _) (Nat.le_refl _) ?_
        exact ⟨rfl, rfl⟩
    ·
      rw [z_le (by decide)] at c_12
      rw [if_pos (by omega), show isW 13 y = false by unfold isW; exact decide_eq_false (by omega)]
      refine V_bipush (v := (-2)) dX11_list_15 (by decide) ?_
      refine V_iret dX11_list_17 rfl (Nat.le_of_ble_eq_true rfl) (Nat.le_refl _) (Nat.le_refl _) ?_
      exact ⟨rfl, rfl⟩
  ·
    rw [c_4]
    refine V_iconst (v := -1) dX11_list_7 (by decide) ?_
    refine V_iret dX11_list_8 rfl (Nat.le_of_ble_eq_true rfl) (Nat.le_refl _) (Nat.le_refl _) ?_
    exact ⟨rfl, rfl⟩
theorem s_X11_put (hd : 30 ≤ d) (hL : LnOK Ln) {x y z : Int32} : SpF tO MX11_put (d, 0, 0) [.ref x0, .int x, .int y, .int z] [obX x0 d0 e0 tk t0 g0 p0 r0 l0, obL l0 l1 l2, (l1, aI 4 Ln), (l2, aI 48 Ce)] (some (.int (puV Ln x y))) [obX x0 d0 e0 tk t0 g0 p0 r0 l0, obL l0 l1 l2, (l1, aI 4 Ln), (l2, aI 48 (puC Ln x y z Ce))] := by
  refine eX11_put [some (.ref x0), some (.int x), some (.int y), some (.int z), none] rfl (Nat.le_of_ble_eq_true rfl) ?_
  unfold puV puC
  refine V_iload_n dX11_put_0 rfl ?_
  refine V_callSpi1 [] (s_X5_isList (d := d - 1) (by omega) ) gX11_put_X5_isList dX11_put_1 oX5_isList rfl rfl (Nat.le_of_ble_eq_true rfl) (by omega) ⟨Nat.le_refl _, Nat.le_refl _⟩ ?_
  first | refine V_if_ne_B 9 dX11_put_4 (by decide) (fun c_4 => ?_) (fun c_4 => ?_) | refine V_if_ne_N 9 dX11_put_4 (by decide) (by omega) (fun c_4 => ?_) (fun c_4 => ?_) | refine V_if_ne 9 dX11_put_4 (by decide) (fun c_4 => ?_) (fun c_4 => ?_)
  ·
    rw [c_4, if_pos rfl, if_pos rfl]
    obtain ⟨l, hl, rfl⟩ := isW_of c_4
    rw [toNat_nI (by omega)]
    refine V_aload_n dX11_put_9 rfl ?_
    refine V_get 0 dX11_put_10 fX11_put_64 rfl rfl ?_
    refine V_iload_n dX11_put_13 rfl ?_
    refine V_callVpi1 [1, 2] (s_X5_length (d := d - 1) (by omega) hl) gX11_put_X5_length dX11_put_14 oX5_length rfl rfl rfl rfl (Nat.le_of_ble_eq_true rfl) (by omega) ⟨Nat.le_refl _, Nat.le_refl _⟩ ?_
    refine V_istore dX11_put_17 (by decide) rfl ?_
    refine V_iload dX11_put_19 rfl ?_
    refine V_if_ge 27 dX11_put_21 (by decide) (fun c_21 => ?_) (fun c_21 => ?_)
    ·
      rw [z_ge0] at c_21
      rw [if_neg (show ¬ (Ln l).toInt < 0 by omega), if_neg (show ¬ (Ln l).toInt < 0 by omega)]
      obtain ⟨k, hk, ek⟩ : ∃ k, k ≤ 12 ∧ Ln l = nI k := (hL l hl).resolve_left (fun hh => by rw [hh] at c_21; exact absurd c_21 (by decide))
      rw [ek, toNat_nI (by omega)]
      refine V_iload_n dX11_put_27 rfl ?_
      refine V_if_lt 37 dX11_put_28 (by decide) (fun c_28 => ?_) (fun c_28 => ?_)
      ·
        rw [z_lt0] at c_28
        rw [show isW k y = false by unfold isW; exact decide_eq_false (by omega)]
        refine V_bipush (v := (-13)) dX11_put_37 (by decide) ?_
        refine V_iret dX11_put_39 rfl (Nat.le_of_ble_eq_true rfl) (Nat.le_refl _) (Nat.le_refl _) ?_
        exact ⟨rfl, rfl⟩
      ·
        rw [z_lt0] at c_28
        refine V_iload_n dX11_put_31 rfl ?_
        refine V_iload dX11_put_32 rfl ?_
        refine V_icmp_lt 40 dX11_put_34 (by decide) (fun c_34 => ?_) (fun c_34 => ?_)
        ·
          rw [z_lt (by omega)] at c_34
          have hy : isW k y = true := by unfold isW; exact decide_eq_true (by omega)
          rw [hy, if_pos rfl, if_pos rfl]
          obtain ⟨i, hi, rfl⟩ := isW_of hy
          rw [toNat_nI (by omega)]
          refine V_aload_n dX11_put_40 rfl ?_
          refine V_get 0 dX11_put_41 fX11_put_64 rfl rfl ?_
          refine V_iload_n dX11_put_44 rfl ?_
          refine V_iload_n dX11_put_45 rfl ?_
          refine V_iload_n dX11_put_46 rfl ?_
          refine V_callVfv3 [1, 3] (s_X5_set (d := d - 1) (by omega) hl (by omega)) gX11_put_X5_set dX11_put_47 oX5_set rfl rfl rfl rfl (Nat.le_of_ble_eq_true rfl) (by omega) ⟨Nat.le_refl _, Nat.le_refl _⟩ ?_
          simp only [zput_n, zput_c, zset_1, zset_3]
          refine V_iconst (v := nI 1) dX11_put_50 (by decide) ?_
          refine V_iret dX11_put_51 rfl (Nat.le_of_ble_eq_true rfl) (Nat.le_refl _) (Nat.le_refl _) ?_
          exact ⟨rfl, rfl⟩
        ·
          rw [z_lt (by omega)] at c_34
          rw [show isW k y = false by unfold isW; exact decide_eq_false (by omega)]
          refine V_bipush (v := (-13)) dX11_put_37 (by decide) ?_
          refine V_iret dX11_put_39 rfl (Nat.le_of_ble_eq_true rfl) (Nat.le_refl _) (Nat.le_refl _) ?_
          exact ⟨rfl, rfl⟩
    ·
      rw [z_ge0] at c_21
      rw [if_pos (show (Ln l).toInt < 0 by omega), if_pos (show (Ln l).toInt < 0 by omega)]
      refine V_bipush (v := (-11)) dX11_put_24 (by decide) ?_
      refine V_iret dX11_put_26 rfl (Nat.le_of_ble_eq_true rfl) (Nat.le_refl _) (Nat.le_refl _) ?_
      exact ⟨rfl, rfl⟩
  ·
    rw [c_4]
    refine V_iconst (v := -1) dX11_put_7 (by decide) ?_
    refine V_iret dX11_put_8 rfl (Nat.le_of_ble_eq_true rfl) (Nat.le_refl _) (Nat.le_refl _) ?_
    exact ⟨rfl, rfl⟩
theorem s_X11_get (hd : 30 ≤ d) (hL : LnOK Ln) {x y : Int32} : SpP tO MX11_get (d, 0, 0) [.ref x0, .int x, .int y] [obX x0 d0 e0 tk t0 g0 p0 r0 l0, obL l0 l1 l2, (l1, aI 4 Ln), (l2, aI 48 Ce)] (some (.long (geV Ln Ce x y))) := by
  refine eX11_get [some (.ref x0), some (.int x), some (.int y)] rfl (Nat.le_of_ble_eq_true rfl) ?_
  unfold geV
  refine V_iload_n dX11_get_0 rfl ?_
  refine V_callSpi1 [] (s_X5_isList (d := d - 1) (by omega) ) gX11_get_X5_isList dX11_get_1 oX5_isList rfl rfl (Nat.le_of_ble_eq_true rfl) (by omega) ⟨Nat.le_refl _, Nat.le_refl _⟩ ?_
  first | refine V_if_eq_B 23 dX11_get_4 (by decide) (fun c_4 => ?_) (fun c_4 => ?_) | refine V_if_eq_N 23 dX11_get_4 (by decide) (by omega) (fun c_4 => ?_) (fun c_4 => ?_) | refine V_if_eq 23 dX11_get_4 (by decide) (fun c_4 => ?_) (fun c_4 => ?_)
  ·
    rw [c_4]
    refine V_ldc2 (v := Int64.minValue) dX11_get_23 (by decide +kernel) ?_
    refine V_lret dX11_get_26 rfl (Nat.le_of_ble_eq_true rfl) (Nat.le_refl _) (Nat.le_refl _) ?_
    exact ⟨rfl, rfl⟩
  ·
    rw [c_4, if_pos rfl]
    obtain ⟨l, hl, rfl⟩ := isW_of c_4
    rw [toNat_nI (by omega)]
    refine V_iload_n dX11_get_7 rfl ?_
    refine V_if_lt 23 dX11_get_8 (by decide) (fun c_8 => ?_) (fun c_8 => ?_)
    ·
      rw [z_lt0] at c_8
      rw [show isW _ y = false by unfold isW; exact decide_eq_false (by omega)]
      refine V_ldc2 (v := Int64.minValue) dX11_get_23 (by decide +kernel) ?_
      refine V_lret dX11_get_26 rfl (Nat.le_of_ble_eq_true rfl) (Nat.le_refl _) (Nat.le_refl _) ?_
      exact ⟨rfl, rfl⟩
    ·
      rw [z_lt0] at c_8
      refine V_iload_n dX11_get_11 rfl ?_
      refine V_aload_n dX11_get_12 rfl ?_
      refine V_get 0 dX11_get_13 fX11_get_64 rfl rfl ?_
      refine V_iload_n dX11_get_16 rfl ?_
      refine V_callVpi1 [1, 2] (s_X5_length (d := d - 1) (by omega) hl) gX11_get_X5_length dX11_get_17 oX5_length rfl rfl rfl rfl (Nat.le_of_ble_eq_true rfl) (by omega) ⟨Nat.le_refl _, Nat.le_refl _⟩ ?_
      refine V_icmp_lt 27 dX11_get_20 (by decide) (fun c_20 => ?_) (fun c_20 => ?_)
      ·
        rw [Int32.lt_iff_toInt_lt] at c_20
        obtain ⟨k, hk, ek⟩ : ∃ k, k ≤ 12 ∧ Ln l = nI k := (hL l hl).resolve_left (fun hh => by rw [hh, show (-1 : Int32).toInt = -1 from by decide] at c_20; omega)
        rw [ek, nI_toInt (by omega)] at c_20
        have hy : isW k y = true := by unfold isW; exact decide_eq_true (by omega)
        rw [ek, toNat_nI (by omega), hy, if_pos rfl]
        obtain ⟨i, hi, rfl⟩ := isW_of hy
        rw [toNat_nI (by omega)]
        refine V_aload_n dX11_get_27 rfl ?_
        refine V_get 0 dX11_get_28 fX11_get_64 rfl rfl ?_
        refine V_iload_n dX11_get_31 rfl ?_
        refine V_iload_n dX11_get_32 rfl ?_
        refine V_callVpi2 [1, 3] (s_X5_at (d := d - 1) (by omega) hl (by omega)) gX11_get_X5_at dX11_get_33 oX5_at rfl rfl rfl rfl (Nat.le_of_ble_eq_true rfl) (by omega) ⟨Nat.le_refl _, Nat.le_refl _⟩ ?_
        refine V_i2l dX11_get_36 ?_
        refine V_lret dX11_get_37 rfl (Nat.le_of_ble_eq_true rfl) (Nat.le_refl _) (Nat.le_refl _) ?_
        exact ⟨rfl, rfl⟩
      ·
        rw [Int32.lt_iff_toInt_lt] at c_20
        rw [show isW _ y = false by unfold isW; exact decide_eq_false (by omega)]
        refine V_ldc2 (v := Int64.minValue) dX11_get_23 (by decide +kernel) ?_
        refine V_lret dX11_get_26 rfl (Nat.le_of_ble_eq_true rfl) (Nat.le_refl _) (Nat.le_refl _) ?_
        exact ⟨rfl, rfl⟩
end PUB5

