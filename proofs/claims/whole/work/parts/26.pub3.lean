/-! size, great, cast, spell, tear, possible, certain, delay -/
def szV (x y : Int32) : Int32 := if szB x y then nI (x.toInt.toNat ^ y.toInt.toNat) else -2
def RwOK (q m : Nat) (R : Nat → Int32) (L : Nat → Nat) : Prop := ∀ j, j < m → R j = nI (L j) ∧ L j < q
def updN (L : Nat → Nat) (k x : Nat) : Nat → Nat := fun j => if j = k then x else L j
def caN (q m : Nat) (x : Int32) : Nat := if isW q x then (if m < 40 then m + 1 else m) else m
def caL (q m : Nat) (x : Int32) (L : Nat → Nat) : Nat → Nat := if isW q x then (if m < 40 then updN L m x.toInt.toNat else L) else L
def seN (q n m : Nat) (x : Int32) : Nat := if isW (q ^ n) x then (if m + n ≤ 40 then m + n else m) else m
def seL (q n m : Nat) (x : Int32) (L : Nat → Nat) : Nat → Nat := if isW (q ^ n) x then (if m + n ≤ 40 then (fun j => if j < m then L j else wLt q n x.toInt.toNat (j - m)) else L) else L
def tnN (m : Nat) (x : Int32) : Nat := if isW (m + 1) x then m - x.toInt.toNat else m
def tnL (m : Nat) (x : Int32) (L : Nat → Nat) : Nat → Nat := if isW (m + 1) x then (fun j => L (x.toInt.toNat + j)) else L
def GI (qo no K mo my un : Nat) (Rg F : Nat → Int32) : Prop := qo ≤ 4 ∧ no ≤ 5 ∧ (OKq qo no → GC qo no K mo my un Rg F)
section PUB3
variable {tO d q n x0 d0 e0 t0 t1 t2 t3 t4 t5 g0 g1 g2 p0 r0 l0 s0 s1 s2 k0 k1 k2 b0 b1 b2 b3 b4 b5 a0 a1 m ms mk mT qo no K mo my un NT : Nat} {tk : Bool} {W Im O E R Rc Kk Vv WT ImT OT ET Rg F : Nat → Int32} {B BT : Nat → Bool} {L : Nat → Nat}
theorem s_X11_sizeN (hd : 30 ≤ d) {x y : Int32} (hx : szB x y = false) : SpP tO MX11_size (d, 0, 0) [.ref x0, .int x, .int y] (obX x0 d0 e0 tk t0 g0 p0 r0 l0 :: dkW d0 a0 a1 b0 b1 b2 b3 b4 b5 s0 s1 s2 k0 k1 k2 q n m W (hdF B) Im O E ms R Rc mk Kk Vv) (some (.int (-2))) := by
  refine eX11_size [some (.ref x0), some (.int x), some (.int y)] rfl (Nat.le_of_ble_eq_true rfl) ?_
  refine V_iload_n dX11_size_0 rfl ?_
  refine V_iload_n dX11_size_1 rfl ?_
  refine V_callSpi2 [] (s_X0_canBe (d := d - 1) (by omega) ) gX11_size_X0_canBe dX11_size_2 oX0_canBe rfl rfl (Nat.le_of_ble_eq_true rfl) (by omega) ⟨Nat.le_refl _, Nat.le_refl _⟩ ?_
  rw [hx]
  first | refine V_if_ne_B 11 dX11_size_5 (by decide) (fun c_5 => ?_) (fun c_5 => ?_) | refine V_if_ne_N 11 dX11_size_5 (by decide) (by omega) (fun c_5 => ?_) (fun c_5 => ?_) | refine V_if_ne 11 dX11_size_5 (by decide) (fun c_5 => ?_) (fun c_5 => ?_)
  ·
    cases c_5
  ·
    refine V_bipush (v := (-2)) dX11_size_8 (by decide) ?_
    refine V_iret dX11_size_10 rfl (Nat.le_of_ble_eq_true rfl) (Nat.le_refl _) (Nat.le_refl _) ?_
    exact ⟨rfl, rfl⟩
theorem s_X11_size (hd : 30 ≤ d) {N q' n' : Nat} (h : OKq q' n') (hN : N ≤ 256) (hB : Bk N B W m) : SpF tO MX11_size (d, 0, 0) [.ref x0, .int (nI q'), .int (nI n')] (obX x0 d0 e0 tk t0 g0 p0 r0 l0 :: dkW d0 a0 a1 b0 b1 b2 b3 b4 b5 s0 s1 s2 k0 k1 k2 q n m W (hdF B) Im O E ms R Rc mk Kk Vv) (some (.int (nI (q' ^ n')))) (obX x0 d0 e0 tk t0 g0 p0 r0 l0 :: dkW d0 a0 a1 b0 b1 b2 b3 b4 b5 s0 s1 s2 k0 k1 k2 q' n' 0 W (hdF (fun _ => false)) Im (opF q' n' (fun _ => false)) (enF q' n' (fun _ => false)) 0 R Rc 0 Kk Vv) := by
  refine eX11_size [some (.ref x0), some (.int (nI q')), some (.int (nI n'))] rfl (Nat.le_of_ble_eq_true rfl) ?_
  have hq := h.2.1
  have hn := h.2.2.2.1
  refine V_iload_n dX11_size_0 rfl ?_
  refine V_iload_n dX11_size_1 rfl ?_
  refine V_callSpi2 [] (s_X0_canBe (d := d - 1) (by omega) ) gX11_size_X0_canBe dX11_size_2 oX0_canBe rfl rfl (Nat.le_of_ble_eq_true rfl) (by omega) ⟨Nat.le_refl _, Nat.le_refl _⟩ ?_
  rw [szB_nI (by omega) (by omega), show decide (2 ≤ q' ∧ q' ≤ 4 ∧ 1 ≤ n' ∧ n' ≤ 5 ∧ q' ^ n' ≤ 256) = true from decide_eq_true h]
  first | refine V_if_ne_B 11 dX11_size_5 (by decide) (fun c_5 => ?_) (fun c_5 => ?_) | refine V_if_ne_N 11 dX11_size_5 (by decide) (by omega) (fun c_5 => ?_) (fun c_5 => ?_) | refine V_if_ne 11 dX11_size_5 (by decide) (fun c_5 => ?_) (fun c_5 => ?_)
  ·
    refine V_aload_n dX11_size_11 rfl ?_
    refine V_get 0 dX11_size_12 fX11_size_12 rfl rfl ?_
    refine V_iload_n dX11_size_15 rfl ?_
    refine V_iload_n dX11_size_16 rfl ?_
    refine V_callVfv2 [1, 2, 3, 4, 5, 6, 7, 8, 9, 10, 11, 12, 13, 14, 15] (s_X2_beginAnew (d := d - 1) (by omega) h hN hB) gX11_size_X2_beginAnew dX11_size_17 oX2_beginAnew rfl rfl rfl rfl (Nat.le_of_ble_eq_true rfl) (by omega) ⟨Nat.le_refl _, Nat.le_refl _⟩ ?_
    simp only [zput_n, zput_c, zset_1, zset_2, zset_3, zset_4, zset_5, zset_6, zset_7, zset_8, zset_9, zset_10, zset_11, zset_12, zset_13, zset_14, zset_15]
    refine V_aload_n dX11_size_20 rfl ?_
    refine V_get 0 dX11_size_21 fX11_size_12 rfl rfl ?_
    refine V_get 1 dX11_size_24 fX11_size_27 rfl rfl ?_
    refine V_get 2 dX11_size_27 fX11_size_78 rfl rfl ?_
    refine V_iret dX11_size_30 rfl (Nat.le_of_ble_eq_true rfl) (Nat.le_refl _) (Nat.le_refl _) ?_
    exact ⟨rfl, rfl⟩
  ·
    cases c_5
theorem s_X11_great (hd : 30 ≤ d) (h : OKq q n) (hNT : NT ≤ 256) (hBT : Bk NT BT WT mT) (hg : GI qo no K mo my un Rg F) {x y : Int32} : Sp tO MX11_great (d, 0, 0) [.ref x0, .int x, .int y] [obX x0 d0 e0 tk t0 g0 p0 r0 l0, obG g0 g1 g2 a0 t0 qo no K mo my un, (g1, aI 32 Rg), (g2, aI 128 F), obB t0 t1 t2 t3 t4 t5 a0 mT, (t1, aI 256 WT), (t2, aZ 256 (hdF BT)), (t3, aI 256 ImT), (t4, aI 162 OT), (t5, aI 162 ET), (a0, oB 0 [.ref a1, .int (nI q), .int (nI n), .int (nI (q ^ n))]), (a1, aI 6 (pwF q)), obD d0 a0 b0 s0 k0] (fun v w' => ∃ qo' no' K' mo' my' un' Rg' F' mT' WT' BT' OT' ET', v = some (.int (grV q n x y)) ∧ w' = [obX x0 d0 e0 tk t0 g0 p0 r0 l0, obG g0 g1 g2 a0 t0 qo' no' K' mo' my' un', (g1, aI 32 Rg'), (g2, aI 128 F'), obB t0 t1 t2 t3 t4 t5 a0 mT', (t1, aI 256 WT'), (t2, aZ 256 (hdF BT')), (t3, aI 256 ImT), (t4, aI 162 OT'), (t5, aI 162 ET'), (a0, oB 0 [.ref a1, .int (nI q), .int (nI n), .int (nI (q ^ n))]), (a1, aI 6 (pwF q)), obD d0 a0 b0 s0 k0] ∧ Bk 256 BT' WT' mT' ∧ GI qo' no' K' mo' my' un' Rg' F') := by
  refine eX11_great [some (.ref x0), some (.int x), some (.int y)] rfl (Nat.le_of_ble_eq_true rfl) ?_
  have hN := h.2.2.2.2
  unfold grV
  refine V_aload_n dX11_great_0 rfl ?_
  refine V_get 0 dX11_great_1 fX11_great_12 rfl rfl ?_
  refine V_get 12 dX11_great_4 fX11_great_27 rfl rfl ?_
  refine V_get 10 dX11_great_7 fX11_great_78 rfl rfl ?_
  refine V_bipush (v := nI 32) dX11_great_10 (by decide) ?_
  first | refine V_icmp_le_N 18 dX11_great_12 (by decide) (by omega) (by omega) (fun c_12 => ?_) (fun c_12 => ?_) | refine V_icmp_le 18 dX11_great_12 (by decide) (fun c_12 => ?_) (fun c_12 => ?_)
  ·
    rw [if_pos c_12]
    refine V_aload_n dX11_great_18 rfl ?_
    refine V_get 0 dX11_great_19 fX11_great_43 rfl rfl ?_
    refine V_callV0 [1, 2, 3, 4, 5, 6, 7, 8, 9, 10, 11] (s_X4_find (d := d - 1) (by omega) h c_12 hg.1 hg.2.1 hNT hBT (fun e1 e2 => by subst e1; subst e2; exact hg.2.2 h)) gX11_great_X4_find dX11_great_22 oX4_find rfl rfl rfl rfl (Nat.le_of_ble_eq_true rfl) (by omega) ⟨Nat.le_refl _, Nat.le_refl _⟩ ?_
    rintro _ _ ⟨K2, mo2, my2, un2, Rg2, F2, mT2, WT2, BT2, OT2, ET2, rfl, rfl, hG, hB2⟩
    have hG2 := hG
    obtain ⟨e1, e2, e3, e4, hF2, e6⟩ := hG
    subst e1 e2 e3 e4 e6
    have hGI : GI q n (nK q n) (GR q n).1 (min (GR q n).2.length 128) (unC q n (GR q n).2 (min (GR q n).2.length 128)) (rgF q n) F2 := ⟨h.2.1, h.2.2.2.1, fun _ => hG2⟩
    simp only [zput_n, zput_c, zset_1, zset_2, zset_3, zset_4, zset_5, zset_6, zset_7, zset_8, zset_9, zset_10, zset_11, Option.toList, List.nil_append]
    refine V_iload_n dX11_great_25 rfl ?_
    refine V_tab3 68 60 52 76 dX11_great_26 (by decide) (by decide) (by decide) (by decide) (fun c_26 => ?_) (fun c_26 => ?_) (fun c_26 => ?_) (fun c_26 => ?_)
    ·
      rw [if_neg (by omega), if_neg (by omega), if_pos (by omega)]
      refine V_aload_n dX11_great_68 rfl ?_
      refine V_get 0 dX11_great_69 fX11_great_43 rfl rfl ?_
      refine V_callVpi0 [1] (s_X4_kinds (d := d - 1) (by omega) ) gX11_great_X4_kinds dX11_great_72 oX4_kinds rfl rfl rfl rfl (Nat.le_of_ble_eq_true rfl) (by omega) ⟨Nat.le_refl _, Nat.le_refl _⟩ ?_
      refine V_iret dX11_great_75 rfl (Nat.le_of_ble_eq_true rfl) (Nat.le_refl _) (Nat.le_refl _) ?_
      exact ⟨_, _, _, _, _, _, _, _, _, _, _, _, _, rfl, rfl, hB2, hGI⟩
    ·
      rw [if_neg (by omega), if_pos (by omega)]
      refine V_aload_n dX11_great_60 rfl ?_
      refine V_get 0 dX11_great_61 fX11_great_43 rfl rfl ?_
      refine V_callVpi0 [1] (s_X4_wordsEach (d := d - 1) (by omega) ) gX11_great_X4_wordsEach dX11_great_64 oX4_wordsEach rfl rfl rfl rfl (Nat.le_of_ble_eq_true rfl) (by omega) ⟨Nat.le_refl _, Nat.le_refl _⟩ ?_
      refine V_iret dX11_great_67 rfl (Nat.le_of_ble_eq_true rfl) (Nat.le_refl _) (Nat.le_refl _) ?_
      exact ⟨_, _, _, _, _, _, _, _, _, _, _, _, _, rfl, rfl, hB2, hGI⟩
    ·
      rw [if_pos (by omega)]
      refine V_aload_n dX11_great_52 rfl ?_
      refine V_get 0 dX11_great_53 fX11_great_43 rfl rfl ?_
      refine V_callVpi0 [1] (s_X4_books (d := d - 1) (by omega) ) gX11_great_X4_books dX11_great_56 oX4_books rfl rfl rfl rfl (Nat.le_of_ble_eq_true rfl) (by omega) ⟨Nat.le_refl _, Nat.le_refl _⟩ ?_
      refine V_iret dX11_great_59 rfl (Nat.le_of_ble_eq_true rfl) (Nat.le_refl _) (Nat.le_refl _) ?_
      exact ⟨_, _, _, _, _, _, _, _, _, _, _, _, _, rfl, rfl, hB2, hGI⟩
    ·
      rw [if_neg (by omega), if_neg (by omega), if_neg (by omega)]
      refine V_aload_n dX11_great_76 rfl ?_
      refine V_get 0 dX11_great_77 fX11_great_43 rfl rfl ?_
      refine V_iload_n dX11_great_80 rfl ?_
      refine V_iload_n dX11_great_81 rfl ?_
      refine V_callVpi2 [1, 2, 3] (s_X4_wordOf (d := d - 1) (by omega) (nK_le h c_12) rfl hF2 (fun i hi => (GR_BOK h c_12 i (by omega)).1)) gX11_great_X4_wordOf dX11_great_82 oX4_wordOf rfl rfl rfl rfl (Nat.le_of_ble_eq_true rfl) (by omega) ⟨Nat.le_refl _, Nat.le_refl _⟩ ?_
      refine V_iret dX11_great_85 rfl (Nat.le_of_ble_eq_true rfl) (Nat.le_refl _) (Nat.le_refl _) ?_
      exact ⟨_, _, _, _, _, _, _, _, _, _, _, _, _, rfl, rfl, hB2, hGI⟩
  ·
    rw [if_neg (show ¬ q ^ n ≤ 32 by omega)]
    refine V_bipush (v := (-3)) dX11_great_15 (by decide) ?_
    refine V_iret dX11_great_17 rfl (Nat.le_of_ble_eq_true rfl) (Nat.le_refl _) (Nat.le_refl _) ?_
    exact ⟨qo, no, K, mo, my, un, Rg, F, mT, WT, BT, OT, ET, rfl, rfl, hBT.mono hNT, hg⟩
theorem s_X11_cast (hd : 30 ≤ d) (h : OKq q n) (hm : m ≤ 40) (hL : RwOK q m R L) {x : Int32} : Sp tO MX11_cast (d, 0, 0) [.ref x0, .int x] [obX x0 d0 e0 tk t0 g0 p0 r0 l0, obD d0 a0 b0 s0 k0, obS s0 s1 s2 a0 m, (s1, aI 40 R), (a0, oB 0 [.ref a1, .int (nI q), .int (nI n), .int (nI (q ^ n))]), (a1, aI 6 (pwF q))] (fun v w' => ∃ R', v = some (.int (caV q m x)) ∧ w' = [obX x0 d0 e0 tk t0 g0 p0 r0 l0, obD d0 a0 b0 s0 k0, obS s0 s1 s2 a0 (caN q m x), (s1, aI 40 R'), (a0, oB 0 [.ref a1, .int (nI q), .int (nI n), .int (nI (q ^ n))]), (a1, aI 6 (pwF q))] ∧ RwOK q (caN q m x) R' (caL q m x L)) := by
  refine eX11_cast [some (.ref x0), some (.int x)] rfl (Nat.le_of_ble_eq_true rfl) ?_
  have hq4 := h.2.1
  unfold caV caN caL
  refine V_iload_n dX11_cast_0 rfl ?_
  refine V_if_lt 18 dX11_cast_1 (by decide) (fun c_1 => ?_) (fun c_1 => ?_)
  ·
    rw [z_lt0] at c_1
    rw [show isW q x = false by unfold isW; exact decide_eq_false (by omega)]
    refine V_bipush (v := (-2)) dX11_cast_18 (by decide) ?_
    refine V_iret dX11_cast_20 rfl (Nat.le_of_ble_eq_true rfl) (Nat.le_refl _) (Nat.le_refl _) ?_
    exact ⟨R, rfl, rfl, hL⟩
  ·
    rw [z_lt0] at c_1
    refine V_iload_n dX11_cast_4 rfl ?_
    refine V_aload_n dX11_cast_5 rfl ?_
    refine V_get 0 dX11_cast_6 fX11_cast_12 rfl rfl ?_
    refine V_get 1 dX11_cast_9 fX11_cast_27 rfl rfl ?_
    refine V_get 4 dX11_cast_12 fX11_cast_179 rfl rfl ?_
    refine V_icmp_lt 21 dX11_cast_15 (by decide) (fun c_15 => ?_) (fun c_15 => ?_)
    ·
      rw [z_lt (by omega)] at c_15
      have hx : isW q x = true := by unfold isW; exact decide_eq_true (by omega)
      rw [hx, if_pos rfl, if_pos rfl, if_pos rfl]
      obtain ⟨c, hc, rfl⟩ := isW_of hx
      rw [toNat_nI (by omega)]
      refine V_aload_n dX11_cast_21 rfl ?_
      refine V_get 0 dX11_cast_22 fX11_cast_12 rfl rfl ?_
      refine V_get 1 dX11_cast_25 fX11_cast_182 rfl rfl ?_
      refine V_callVpi0 [2] (s_X9_room (d := d - 1) (by omega) hm) gX11_cast_X9_room dX11_cast_28 oX9_room rfl rfl rfl rfl (Nat.le_of_ble_eq_true rfl) (by omega) ⟨Nat.le_refl _, Nat.le_refl _⟩ ?_
      refine V_iconst (v := nI 1) dX11_cast_31 (by decide) ?_
      first | refine V_icmp_ge_N 38 dX11_cast_32 (by decide) (by omega) (by omega) (fun c_32 => ?_) (fun c_32 => ?_) | refine V_icmp_ge 38 dX11_cast_32 (by decide) (fun c_32 => ?_) (fun c_32 => ?_)
      ·
        rw [if_pos (by omega), if_pos (by omega), if_pos (by omega)]
        refine V_aload_n dX11_cast_38 rfl ?_
        refine V_get 0 dX11_cast_39 fX11_cast_12 rfl rfl ?_
        refine V_get 1 dX11_cast_42 fX11_cast_182 rfl rfl ?_
        refine V_iload_n dX11_cast_45 rfl ?_
        refine V_callVfv1 [2, 3] (s_X9_append (d := d - 1) (by omega) (by omega)) gX11_cast_X9_append dX11_cast_46 oX9_append rfl rfl rfl rfl (Nat.le_of_ble_eq_true rfl) (by omega) ⟨Nat.le_refl _, Nat.le_refl _⟩ ?_
        simp only [zput_n, zput_c, zset_2, zset_3]
        refine V_aload_n dX11_cast_49 rfl ?_
        refine V_get 0 dX11_cast_50 fX11_cast_12 rfl rfl ?_
        refine V_get 1 dX11_cast_53 fX11_cast_182 rfl rfl ?_
        refine V_callVpi0 [2] (s_X9_total (d := d - 1) (by omega) ) gX11_cast_X9_total dX11_cast_56 oX9_total rfl rfl rfl rfl (Nat.le_of_ble_eq_true rfl) (by omega) ⟨Nat.le_refl _, Nat.le_refl _⟩ ?_
        refine V_iret dX11_cast_59 rfl (Nat.le_of_ble_eq_true rfl) (Nat.le_refl _) (Nat.le_refl _) ?_
        refine ⟨_, rfl, rfl, fun j hj => ?_⟩
        unfold upd updN
        by_cases e : j = m
        · rw [if_pos e, if_pos e]; exact ⟨rfl, hc⟩
        · rw [if_neg e, if_neg e]; exact hL j (by omega)
      ·
        rw [if_neg (by omega), if_neg (by omega), if_neg (by omega)]
        refine V_bipush (v := (-4)) dX11_cast_35 (by decide) ?_
        refine V_iret dX11_cast_37 rfl (Nat.le_of_ble_eq_true rfl) (Nat.le_refl _) (Nat.le_refl _) ?_
        exact ⟨R, rfl, rfl, hL⟩
    ·
      rw [z_lt (by omega)] at c_15
      rw [show isW q x = false by unfold isW; exact decide_eq_false (by omega)]
      refine V_bipush (v := (-2)) dX11_cast_18 (by decide) ?_
      refine V_iret dX11_cast_20 rfl (Nat.le_of_ble_eq_true rfl) (Nat.le_refl _) (Nat.le_refl _) ?_
      exact ⟨R, rfl, rfl, hL⟩
theorem l_X11_spell (hd : 30 ≤ d) (h : OKq q n) {w : Nat} (hw : w < q ^ n) (hm : m + n ≤ 40) : ∀ (f i : Nat) (R' : Nat → Int32), i + f = n → RwOK q (m + i) R' (fun j => if j < m then L j else wLt q n w (j - m)) → V tO MX11_spell (d, 0, 0) [obX x0 d0 e0 tk t0 g0 p0 r0 l0, obD d0 a0 b0 s0 k0, obS s0 s1 s2 a0 m, (s1, aI 40 R), (a0, oB 0 [.ref a1, .int (nI q), .int (nI n), .int (nI (q ^ n))]), (a1, aI 6 (pwF q))] (fun v w' => ∃ R', v = some (.int (nI (m + n))) ∧ w' = [obX x0 d0 e0 tk t0 g0 p0 r0 l0, obD d0 a0 b0 s0 k0, obS s0 s1 s2 a0 (m + n), (s1, aI 40 R'), (a0, oB 0 [.ref a1, .int (nI q), .int (nI n), .int (nI (q ^ n))]), (a1, aI 6 (pwF q))] ∧ RwOK q (m + n) R' (fun j => if j < m then L j else wLt q n w (j - m))) (0, 0) [obX x0 d0 e0 tk t0 g0 p0 r0 l0, obD d0 a0 b0 s0 k0, obS s0 s1 s2 a0 (m + i), (s1, aI 40 R'), (a0, oB 0 [.ref a1, .int (nI q), .int (nI n), .int (nI (q ^ n))]), (a1, aI 6 (pwF q))] 40 [some (.ref x0), some (.int (nI w)), some (.ref a0), some (.int (nI i))] [] := by
  have hN := h.2.2.2.2
  have hn5 := h.2.2.2.1
  intro f
  induction f with
  | zero =>
    intro i R' hi hR
    have e : i = n := by omega
    subst e
    refine V_iload_n dX11_spell_40 rfl ?_
    refine V_aload_n dX11_spell_41 rfl ?_
    refine V_get 4 dX11_spell_42 fX11_spell_109 rfl rfl ?_
    refine V_icmp_ge_N 71 dX11_spell_45 (by decide) (by omega) (by omega) (fun c_45 => ?_) (fun c_45 => absurd c_45 (by omega))
    refine V_aload_n dX11_spell_71 rfl ?_
    refine V_get 0 dX11_spell_72 fX11_spell_12 rfl rfl ?_
    refine V_get 1 dX11_spell_75 fX11_spell_182 rfl rfl ?_
    refine V_callVpi0 [2] (s_X9_total (d := d - 1) (by omega) ) gX11_spell_X9_total dX11_spell_78 oX9_total rfl rfl rfl rfl (Nat.le_of_ble_eq_true rfl) (by omega) ⟨Nat.le_refl _, Nat.le_refl _⟩ ?_
    refine V_iret dX11_spell_81 rfl (Nat.le_of_ble_eq_true rfl) (Nat.le_refl _) (Nat.le_refl _) ?_
    exact ⟨R', rfl, rfl, hR⟩
  | succ f ih =>
    intro i R' hi hR
    refine V_iload_n dX11_spell_40 rfl ?_
    refine V_aload_n dX11_spell_41 rfl ?_
    refine V_get 4 dX11_spell_42 fX11_spell_109 rfl rfl ?_
    refine V_icmp_ge_N 71 dX11_spell_45 (by decide) (by omega) (by omega) (fun c_45 => absurd c_45 (by omega)) (fun c_45 => ?_)
    refine V_aload_n dX11_spell_48 rfl ?_
    refine V_get 0 dX11_spell_49 fX11_spell_12 rfl rfl ?_
    refine V_get 1 dX11_spell_52 fX11_spell_182 rfl rfl ?_
    refine V_aload_n dX11_spell_55 rfl ?_
    refine V_iload_n dX11_spell_56 rfl ?_
    refine V_iload_n dX11_spell_57 rfl ?_
    refine V_iconst (v := nI 1) dX11_spell_58 (by decide) ?_
    refine V_callVpi3 [4, 5] (s_X0_part (d := d - 1) (by omega) h hw (by omega)) gX11_spell_X0_part dX11_spell_59 oX0_part rfl rfl rfl rfl (Nat.le_of_ble_eq_true rfl) (by omega) ⟨Nat.le_refl _, Nat.le_refl _⟩ ?_
    refine V_callVfv1 [2, 3] (s_X9_append (d := d - 1) (by omega) (by omega)) gX11_spell_X9_append dX11_spell_62 oX9_append rfl rfl rfl rfl (Nat.le_of_ble_eq_true rfl) (by omega) ⟨Nat.le_refl _, Nat.le_refl _⟩ ?_
    simp only [zput_n, zput_c, zset_2, zset_3]
    first | refine V_iinc_N (i := 1) dX11_spell_65 rfl (by decide) rfl ?_ | refine V_iinc dX11_spell_65 rfl rfl (by decide) rfl ?_
    refine V_goto 40 dX11_spell_68 (by decide) ?_
    refine ih (i + 1) _ (by omega) (fun j hj => ?_)
    unfold upd
    by_cases e : j = m + i
    · subst e
      dsimp only
      rw [if_pos rfl, if_neg (by omega), show m + i - m = i by omega]
      exact ⟨rfl, wLt_lt h⟩
    · rw [if_neg e]; exact hR j (by omega)
theorem s_X11_spell (hd : 30 ≤ d) (h : OKq q n) (hm : m ≤ 40) (hL : RwOK q m R L) {x : Int32} : Sp tO MX11_spell (d, 0, 0) [.ref x0, .int x] [obX x0 d0 e0 tk t0 g0 p0 r0 l0, obD d0 a0 b0 s0 k0, obS s0 s1 s2 a0 m, (s1, aI 40 R), (a0, oB 0 [.ref a1, .int (nI q), .int (nI n), .int (nI (q ^ n))]), (a1, aI 6 (pwF q))] (fun v w' => ∃ R', v = some (.int (seV q n m x)) ∧ w' = [obX x0 d0 e0 tk t0 g0 p0 r0 l0, obD d0 a0 b0 s0 k0, obS s0 s1 s2 a0 (seN q n m x), (s1, aI 40 R'), (a0, oB 0 [.ref a1, .int (nI q), .int (nI n), .int (nI (q ^ n))]), (a1, aI 6 (pwF q))] ∧ RwOK q (seN q n m x) R' (seL q n m x L)) := by
  refine eX11_spell [some (.ref x0), some (.int x), none, none] rfl (Nat.le_of_ble_eq_true rfl) ?_
  have hN := h.2.2.2.2
  have hn5 := h.2.2.2.1
  unfold seV seN seL
  refine V_aload_n dX11_spell_0 rfl ?_
  refine V_get 0 dX11_spell_1 fX11_spell_12 rfl rfl ?_
  refine V_get 1 dX11_spell_4 fX11_spell_27 rfl rfl ?_
  refine V_astore_n dX11_spell_7 (by decide) rfl ?_
  refine V_aload_n dX11_spell_8 rfl ?_
  refine V_iload_n dX11_spell_9 rfl ?_
  refine V_callVpi1 [4, 5] (s_X0_isWord (d := d - 1) (by omega) h) gX11_spell_X0_isWord dX11_spell_10 oX0_isWord rfl rfl rfl rfl (Nat.le_of_ble_eq_true rfl) (by omega) ⟨Nat.le_refl _, Nat.le_refl _⟩ ?_
  first | refine V_if_ne_B 18 dX11_spell_13 (by decide) (fun c_13 => ?_) (fun c_13 => ?_) | refine V_if_ne_N 18 dX11_spell_13 (by decide) (by omega) (fun c_13 => ?_) (fun c_13 => ?_) | refine V_if_ne 18 dX11_spell_13 (by decide) (fun c_13 => ?_) (fun c_13 => ?_)
  ·
    rw [c_13, if_pos rfl, if_pos rfl, if_pos rfl]
    obtain ⟨w, hw, rfl⟩ := isW_of c_13
    rw [toNat_nI (by omega)]
    refine V_aload_n dX11_spell_18 rfl ?_
    refine V_get 0 dX11_spell_19 fX11_spell_12 rfl rfl ?_
    refine V_get 1 dX11_spell_22 fX11_spell_182 rfl rfl ?_
    refine V_callVpi0 [2] (s_X9_room (d := d - 1) (by omega) hm) gX11_spell_X9_room dX11_spell_25 oX9_room rfl rfl rfl rfl (Nat.le_of_ble_eq_true rfl) (by omega) ⟨Nat.le_refl _, Nat.le_refl _⟩ ?_
    refine V_aload_n dX11_spell_28 rfl ?_
    refine V_get 4 dX11_spell_29 fX11_spell_109 rfl rfl ?_
    first | refine V_icmp_ge_N 38 dX11_spell_32 (by decide) (by omega) (by omega) (fun c_32 => ?_) (fun c_32 => ?_) | refine V_icmp_ge 38 dX11_spell_32 (by decide) (fun c_32 => ?_) (fun c_32 => ?_)
    ·
      rw [if_pos (by omega), if_pos (by omega), if_pos (by omega)]
      refine V_iconst (v := nI 0) dX11_spell_38 (by decide) ?_
      refine V_istore_n dX11_spell_39 (by decide) rfl ?_
      exact l_X11_spell (R := R) hd h hw (by omega) n 0 R (by omega) (fun j hj => by dsimp only; rw [if_pos (by omega)]; exact hL j (by omega))
    ·
      rw [if_neg (by omega), if_neg (by omega), if_neg (by omega)]
      refine V_bipush (v := (-4)) dX11_spell_35 (by decide) ?_
      refine V_iret dX11_spell_37 rfl (Nat.le_of_ble_eq_true rfl) (Nat.le_refl _) (Nat.le_refl _) ?_
      exact ⟨R, rfl, rfl, hL⟩
  ·
    rw [c_13]
    refine V_iconst (v := -1) dX11_spell_16 (by decide) ?_
    refine V_iret dX11_spell_17 rfl (Nat.le_of_ble_eq_true rfl) (Nat.le_refl _) (Nat.le_refl _) ?_
    exact ⟨R, rfl, rfl, hL⟩
theorem s_X11_tear (hd : 30 ≤ d) (hm : m ≤ 40) (hL : RwOK q m R L) {x : Int32} : Sp tO MX11_tear (d, 0, 0) [.ref x0, .int x] [obX x0 d0 e0 tk t0 g0 p0 r0 l0, obD d0 a0 b0 s0 k0, obS s0 s1 s2 a0 m, (s1, aI 40 R)] (fun v w' => ∃ R', v = some (.int (teV m x)) ∧ w' = [obX x0 d0 e0 tk t0 g0 p0 r0 l0, obD d0 a0 b0 s0 k0, obS s0 s1 s2 a0 (tnN m x), (s1, aI 40 R')] ∧ RwOK q (tnN m x) R' (tnL m x L)) := by
  refine eX11_tear [some (.ref x0), some (.int x)] rfl (Nat.le_of_ble_eq_true rfl) ?_
  unfold teV tnN tnL
  refine V_iload_n dX11_tear_0 rfl ?_
  refine V_if_lt 18 dX11_tear_1 (by decide) (fun c_1 => ?_) (fun c_1 => ?_)
  ·
    rw [z_lt0] at c_1
    rw [show isW (m + 1) x = false by unfold isW; exact decide_eq_false (by omega)]
    refine V_bipush (v := (-2)) dX11_tear_18 (by decide) ?_
    refine V_iret dX11_tear_20 rfl (Nat.le_of_ble_eq_true rfl) (Nat.le_refl _) (Nat.le_refl _) ?_
    exact ⟨R, rfl, rfl, hL⟩
  ·
    rw [z_lt0] at c_1
    refine V_iload_n dX11_tear_4 rfl ?_
    refine V_aload_n dX11_tear_5 rfl ?_
    refine V_get 0 dX11_tear_6 fX11_tear_12 rfl rfl ?_
    refine V_get 1 dX11_tear_9 fX11_tear_182 rfl rfl ?_
    refine V_callVpi0 [2] (s_X9_total (d := d - 1) (by omega) ) gX11_tear_X9_total dX11_tear_12 oX9_total rfl rfl rfl rfl (Nat.le_of_ble_eq_true rfl) (by omega) ⟨Nat.le_refl _, Nat.le_refl _⟩ ?_
    refine V_icmp_le 21 dX11_tear_15 (by decide) (fun c_15 => ?_) (fun c_15 => ?_)
    ·
      rw [z_le (by omega)] at c_15
      have hx : isW (m + 1) x = true := by unfold isW; exact decide_eq_true (by omega)
      rw [hx, if_pos rfl, if_pos rfl, if_pos rfl]
      obtain ⟨c, hc, rfl⟩ := isW_of hx
      rw [toNat_nI (by omega)]
      refine V_aload_n dX11_tear_21 rfl ?_
      refine V_get 0 dX11_tear_22 fX11_tear_12 rfl rfl ?_
      refine V_get 1 dX11_tear_25 fX11_tear_182 rfl rfl ?_
      refine V_iload_n dX11_tear_28 rfl ?_
      refine V_callVfv1 [2, 3] (s_X9_cutAhead (d := d - 1) (by omega) hm (by omega)) gX11_tear_X9_cutAhead dX11_tear_29 oX9_cutAhead rfl rfl rfl rfl (Nat.le_of_ble_eq_true rfl) (by omega) ⟨Nat.le_refl _, Nat.le_refl _⟩ ?_
      simp only [zput_n, zput_c, zset_2, zset_3]
      refine V_aload_n dX11_tear_32 rfl ?_
      refine V_get 0 dX11_tear_33 fX11_tear_12 rfl rfl ?_
      refine V_get 1 dX11_tear_36 fX11_tear_182 rfl rfl ?_
      refine V_callVpi0 [2] (s_X9_total (d := d - 1) (by omega) ) gX11_tear_X9_total dX11_tear_39 oX9_total rfl rfl rfl rfl (Nat.le_of_ble_eq_true rfl) (by omega) ⟨Nat.le_refl _, Nat.le_refl _⟩ ?_
      refine V_iret dX11_tear_42 rfl (Nat.le_of_ble_eq_true rfl) (Nat.le_refl _) (Nat.le_refl _) ?_
      refine ⟨_, rfl, rfl, fun j hj => ?_⟩
      rw [if_pos hj]
      exact hL _ (by omega)
    ·
      rw [z_le (by omega)] at c_15
      rw [show isW (m + 1) x = false by unfold isW; exact decide_eq_false (by omega)]
      refine V_bipush (v := (-2)) dX11_tear_18 (by decide) ?_
      refine V_iret dX11_tear_20 rfl (Nat.le_of_ble_eq_true rfl) (Nat.le_refl _) (Nat.le_refl _) ?_
      exact ⟨R, rfl, rfl, hL⟩
abbrev xpW (x0 d0 e0 : Nat) (tk : Bool) (t0 g0 p0 r0 l0 s0 s1 s2 k0 b0 b1 b2 b3 b4 b5 a0 a1 q n : Nat) (B : Nat → Bool) (m : Nat) (W Im : Nat → Int32) (ms : Nat) (R Rc : Nat → Int32) : zW := [obX x0 d0 e0 tk t0 g0 p0 r0 l0, obD d0 a0 b0 s0 k0, obS s0 s1 s2 a0 ms, (s1, aI 40 R), (s2, aI 5 Rc), (a0, oB 0 [.ref a1, .int (nI q), .int (nI n), .int (nI (q ^ n))]), (a1, aI 6 (pwF q)), obB b0 b1 b2 b3 b4 b5 a0 m, (b1, aI 256 W), (b2, aZ 256 (hdF B)), (b3, aI 256 Im), (b4, aI 162 (opF q n B)), (b5, aI 162 (enF q n B))]
theorem s_X11_possible (hd : 30 ≤ d) (h : OKq q n) (hB : Bk (q ^ n) B W m) (hm : ms ≤ 40) (hL : RwOK q ms R L) {x : Int32} : Sp tO MX11_possible (d, 0, 0) [.ref x0, .int x] (xpW x0 d0 e0 tk t0 g0 p0 r0 l0 s0 s1 s2 k0 b0 b1 b2 b3 b4 b5 a0 a1 q n B m W Im ms R Rc) (fun v w' => ∃ Rc', v = some (.int (poV q n B L ms x)) ∧ w' = xpW x0 d0 e0 tk t0 g0 p0 r0 l0 s0 s1 s2 k0 b0 b1 b2 b3 b4 b5 a0 a1 q n B m W Im ms R Rc') := by
  refine eX11_possible [some (.ref x0), some (.int x)] rfl (Nat.le_of_ble_eq_true rfl) ?_
  unfold poV
  refine V_iload_n dX11_possible_0 rfl ?_
  refine V_if_lt 18 dX11_possible_1 (by decide) (fun c_1 => ?_) (fun c_1 => ?_)
  ·
    rw [z_lt0] at c_1
    rw [show isW (ms + 1) x = false by unfold isW; exact decide_eq_false (by omega)]
    refine V_bipush (v := (-2)) dX11_possible_18 (by decide) ?_
    refine V_iret dX11_possible_20 rfl (Nat.le_of_ble_eq_true rfl) (Nat.le_refl _) (Nat.le_refl _) ?_
    exact ⟨Rc, rfl, rfl⟩
  ·
    rw [z_lt0] at c_1
    refine V_iload_n dX11_possible_4 rfl ?_
    refine V_aload_n dX11_possible_5 rfl ?_
    refine V_get 0 dX11_possible_6 fX11_possible_12 rfl rfl ?_
    refine V_get 1 dX11_possible_9 fX11_possible_182 rfl rfl ?_
    refine V_callVpi0 [2] (s_X9_total (d := d - 1) (by omega) ) gX11_possible_X9_total dX11_possible_12 oX9_total rfl rfl rfl rfl (Nat.le_of_ble_eq_true rfl) (by omega) ⟨Nat.le_refl _, Nat.le_refl _⟩ ?_
    refine V_icmp_le 21 dX11_possible_15 (by decide) (fun c_15 => ?_) (fun c_15 => ?_)
    ·
      rw [z_le (by omega)] at c_15
      have hx : isW (ms + 1) x = true := by unfold isW; exact decide_eq_true (by omega)
      rw [hx, if_pos rfl]
      obtain ⟨c, hc, rfl⟩ := isW_of hx
      rw [toNat_nI (by omega)]
      refine V_aload_n dX11_possible_21 rfl ?_
      refine V_get 0 dX11_possible_22 fX11_possible_12 rfl rfl ?_
      refine V_get 1 dX11_possible_25 fX11_possible_182 rfl rfl ?_
      refine V_aload_n dX11_possible_28 rfl ?_
      refine V_get 0 dX11_possible_29 fX11_possible_12 rfl rfl ?_
      refine V_get 1 dX11_possible_32 fX11_possible_86 rfl rfl ?_
      refine V_callV1 [2, 3, 4, 5, 6, 7, 8, 9, 10, 11, 12] (s_X9_measure (d := d - 1) (by omega) h hB hm hL) gX11_possible_X9_measure dX11_possible_35 oX9_measure rfl rfl rfl rfl (Nat.le_of_ble_eq_true rfl) (by omega) ⟨Nat.le_refl _, Nat.le_refl _⟩ ?_
      rintro _ _ ⟨R2, rfl, hR2, rfl⟩
      simp only [zput_n, zput_c, zset_2, zset_3, zset_4, zset_5, zset_6, zset_7, zset_8, zset_9, zset_10, zset_11, zset_12, Option.toList, List.nil_append]
      refine V_aload_n dX11_possible_38 rfl ?_
      refine V_get 0 dX11_possible_39 fX11_possible_12 rfl rfl ?_
      refine V_get 1 dX11_possible_42 fX11_possible_182 rfl rfl ?_
      refine V_iload_n dX11_possible_45 rfl ?_
      refine V_callVpi1 [2, 4, 5, 6] (s_X9_offsets (d := d - 1) (by omega) h (by omega) (fun j hj => ⟨hR2 j hj, Nat.le_trans (fst_le _ ms 0).2 (by omega)⟩)) gX11_possible_X9_offsets dX11_possible_46 oX9_offsets rfl rfl rfl rfl (Nat.le_of_ble_eq_true rfl) (by omega) ⟨Nat.le_refl _, Nat.le_refl _⟩ ?_
      refine V_iret dX11_possible_49 rfl (Nat.le_of_ble_eq_true rfl) (Nat.le_refl _) (Nat.le_refl _) ?_
      exact ⟨R2, by rw [rho_ps (by omega)], rfl⟩
    ·
      rw [z_le (by omega)] at c_15
      rw [show isW (ms + 1) x = false by unfold isW; exact decide_eq_false (by omega)]
      refine V_bipush (v := (-2)) dX11_possible_18 (by decide) ?_
      refine V_iret dX11_possible_20 rfl (Nat.le_of_ble_eq_true rfl) (Nat.le_refl _) (Nat.le_refl _) ?_
      exact ⟨Rc, rfl, rfl⟩
theorem s_X11_certain (hd : 30 ≤ d) (h : OKq q n) (hB : Bk (q ^ n) B W m) (hm : ms ≤ 40) (hL : RwOK q ms R L) {x : Int32} : Sp tO MX11_certain (d, 0, 0) [.ref x0, .int x] (xpW x0 d0 e0 tk t0 g0 p0 r0 l0 s0 s1 s2 k0 b0 b1 b2 b3 b4 b5 a0 a1 q n B m W Im ms R Rc) (fun v w' => ∃ Rc', v = some (.int (crV q n B L ms x)) ∧ w' = xpW x0 d0 e0 tk t0 g0 p0 r0 l0 s0 s1 s2 k0 b0 b1 b2 b3 b4 b5 a0 a1 q n B m W Im ms R Rc') := by
  refine eX11_certain [some (.ref x0), some (.int x)] rfl (Nat.le_of_ble_eq_true rfl) ?_
  unfold crV
  refine V_iload_n dX11_certain_0 rfl ?_
  refine V_if_lt 9 dX11_certain_1 (by decide) (fun c_1 => ?_) (fun c_1 => ?_)
  ·
    rw [z_lt0] at c_1
    rw [show isW 2 x = false by unfold isW; exact decide_eq_false (by omega)]
    refine V_iconst (v := -1) dX11_certain_9 (by decide) ?_
    refine V_iret dX11_certain_10 rfl (Nat.le_of_ble_eq_true rfl) (Nat.le_refl _) (Nat.le_refl _) ?_
    exact ⟨Rc, rfl, rfl⟩
  ·
    rw [z_lt0] at c_1
    refine V_iload_n dX11_certain_4 rfl ?_
    refine V_iconst (v := nI 1) dX11_certain_5 (by decide) ?_
    refine V_icmp_le 11 dX11_certain_6 (by decide) (fun c_6 => ?_) (fun c_6 => ?_)
    ·
      rw [z_le (by decide)] at c_6
      have hx : isW 2 x = true := by unfold isW; exact decide_eq_true (by omega)
      rw [hx, if_pos rfl]
      obtain ⟨c, hc, rfl⟩ := isW_of hx
      rw [toNat_nI (by omega)]
      refine V_aload_n dX11_certain_11 rfl ?_
      refine V_get 0 dX11_certain_12 fX11_certain_12 rfl rfl ?_
      refine V_get 1 dX11_certain_15 fX11_certain_182 rfl rfl ?_
      refine V_aload_n dX11_certain_18 rfl ?_
      refine V_get 0 dX11_certain_19 fX11_certain_12 rfl rfl ?_
      refine V_get 1 dX11_certain_22 fX11_certain_86 rfl rfl ?_
      refine V_callV1 [2, 3, 4, 5, 6, 7, 8, 9, 10, 11, 12] (s_X9_measure (d := d - 1) (by omega) h hB hm hL) gX11_certain_X9_measure dX11_certain_25 oX9_measure rfl rfl rfl rfl (Nat.le_of_ble_eq_true rfl) (by omega) ⟨Nat.le_refl _, Nat.le_refl _⟩ ?_
      rintro _ _ ⟨R2, rfl, hR2, rfl⟩
      simp only [zput_n, zput_c, zset_2, zset_3, zset_4, zset_5, zset_6, zset_7, zset_8, zset_9, zset_10, zset_11, zset_12, Option.toList, List.nil_append]
      have hro : ∀ j, j < n → R2 j = nI (rho q n B L ms j) ∧ rho q n B L ms j ≤ 40 := fun j hj => ⟨hR2 j hj, Nat.le_trans (fst_le _ ms 0).2 (by omega)⟩
      have hbits : ∀ k, k ≤ ms → btN (fun r => decide (k ≤ rho q n B L ms r)) n = psN q n B L k := fun k hk => rho_ps hk
      refine V_aload_n dX11_certain_28 rfl ?_
      refine V_get 0 dX11_certain_29 fX11_certain_12 rfl rfl ?_
      refine V_get 1 dX11_certain_32 fX11_certain_182 rfl rfl ?_
      refine V_iload_n dX11_certain_35 rfl ?_
      by_cases hcr : ∃ t : Nat × Nat, IsCr (psN q n B L) n ms t.1 t.2
      · rw [if_pos (dB_t.mpr hcr)]
        refine V_callVpi1 [2, 4, 5, 6] (s_X9_firstCertain (d := d - 1) (by omega) h (by omega) hm hro hbits (crT_is hcr)) gX11_certain_X9_firstCertain dX11_certain_36 oX9_firstCertain rfl rfl rfl rfl (Nat.le_of_ble_eq_true rfl) (by omega) ⟨Nat.le_refl _, Nat.le_refl _⟩ ?_
        refine V_iret dX11_certain_39 rfl (Nat.le_of_ble_eq_true rfl) (Nat.le_refl _) (Nat.le_refl _) ?_
        exact ⟨R2, by split <;> rfl, rfl⟩
      · rw [if_neg (fun hh => hcr (dB_t.mp hh))]
        refine V_callVpi1 [2, 4, 5, 6] (s_X9_firstCertainN (d := d - 1) (by omega) h hm hro hbits (IsCr_ex hcr)) gX11_certain_X9_firstCertain dX11_certain_36 oX9_firstCertain rfl rfl rfl rfl (Nat.le_of_ble_eq_true rfl) (by omega) ⟨Nat.le_refl _, Nat.le_refl _⟩ ?_
        refine V_iret dX11_certain_39 rfl (Nat.le_of_ble_eq_true rfl) (Nat.le_refl _) (Nat.le_refl _) ?_
        exact ⟨R2, rfl, rfl⟩
    ·
      rw [z_le (by decide)] at c_6
      rw [show isW 2 x = false by unfold isW; exact decide_eq_false (by omega)]
      refine V_iconst (v := -1) dX11_certain_9 (by decide) ?_
      refine V_iret dX11_certain_10 rfl (Nat.le_of_ble_eq_true rfl) (Nat.le_refl _) (Nat.le_refl _) ?_
      exact ⟨Rc, rfl, rfl⟩
theorem s_X11_delay (hd : 30 ≤ d) (h : OKq q n) (hB : Bk (q ^ n) B W m) : SpP tO MX11_delay (d, 0, 0) [.ref x0] (xbW x0 d0 e0 tk t0 g0 p0 r0 l0 s0 k0 b0 b1 b2 b3 b4 b5 a0 a1 q n B m W Im) (some (.int (dyV q n B))) := by
  refine eX11_delay [some (.ref x0)] rfl (Nat.le_of_ble_eq_true rfl) ?_
  have hN := h.2.2.2.2
  unfold dyV
  refine V_aload_n dX11_delay_0 rfl ?_
  refine V_get 0 dX11_delay_1 fX11_delay_12 rfl rfl ?_
  refine V_get 1 dX11_delay_4 fX11_delay_27 rfl rfl ?_
  refine V_get 8 dX11_delay_7 fX11_delay_78 rfl rfl ?_
  refine V_bipush (v := nI 32) dX11_delay_10 (by decide) ?_
  first | refine V_icmp_le_N 20 dX11_delay_12 (by decide) (by omega) (by omega) (fun c_12 => ?_) (fun c_12 => ?_) | refine V_icmp_le 20 dX11_delay_12 (by decide) (fun c_12 => ?_) (fun c_12 => ?_)
  ·
    rw [if_pos c_12]
    refine V_aload_n dX11_delay_20 rfl ?_
    refine V_get 0 dX11_delay_21 fX11_delay_12 rfl rfl ?_
    refine V_get 1 dX11_delay_24 fX11_delay_86 rfl rfl ?_
    refine V_callSpi1 [2, 3, 4, 5, 6, 7, 8, 9] (s_X3_ends (d := d - 1) (by omega) h c_12 hB) gX11_delay_X3_ends dX11_delay_27 oX3_ends rfl rfl (Nat.le_of_ble_eq_true rfl) (by omega) ⟨Nat.le_refl _, Nat.le_refl _⟩ ?_
    refine V_iret dX11_delay_30 rfl (Nat.le_of_ble_eq_true rfl) (Nat.le_refl _) (Nat.le_refl _) ?_
    exact ⟨rfl, rfl⟩
  ·
    rw [if_neg (show ¬ q ^ n ≤ 32 by omega)]
    refine V_bipush (v := (-3)) dX11_delay_15 (by decide) ?_
    refine V_goto 30 dX11_delay_17 (by decide) ?_
    refine V_iret dX11_delay_30 rfl (Nat.le_of_ble_eq_true rfl) (Nat.le_refl _) (Nat.le_refl _) ?_
    exact ⟨rfl, rfl⟩
end PUB3

