/-! odds, plan, behind, texts, lists, the image, count -/
def odOK (v m p : Int32) : Bool := decide (1 ≤ v.toInt ∧ v.toInt ≤ 12 ∧ 1 ≤ m.toInt ∧ m.toInt ≤ 30 ∧ 0 ≤ p.toInt ∧ p.toInt ≤ 1)
noncomputable def odF (q n v : Nat) (z : Int32) (t : Nat) : Bool := frB q n (drB (q ^ n) v (z + nI t) (fun _ => false))
noncomputable def odD (q n v : Nat) (z : Int32) (m : Nat) : Nat := cdF (ct (odF q n v z) m) m (max (ct (odF q n v z) m) m)
noncomputable def odV (q n : Nat) (v z m p : Int32) : Int64 := if odOK v m p then (if p.toInt = 0 then nI (ct (odF q n v.toInt.toNat z) m.toInt.toNat / odD q n v.toInt.toNat z m.toInt.toNat) else nI (m.toInt.toNat / odD q n v.toInt.toNat z m.toInt.toNat)).toInt64 else Int64.minValue
theorem cdF_le (a b : Nat) : ∀ k, cdF a b k ≤ k + 1
  | 0 => by rw [cdF]; omega
  | k + 1 => by
    have := cdF_le a b k
    rw [cdF]
    split
    · split
      · split
        · omega
        · omega
      · omega
    · omega
def plE (x : Int32) : Nat := if x.toInt = 2 then 48 else 256
def plV (m : Nat) (x y : Int32) : Int32 := if x.toInt = -1 then 0 else if isW 4 x then (if isW (plE x) y then (if m < 8 then nI (m + 1) else -4) else -2) else -1
def plN (m : Nat) (x y : Int32) : Nat := if x.toInt = -1 then 0 else if isW 4 x then (if isW (plE x) y then (if m < 8 then m + 1 else m) else m) else m
def plP (m : Nat) (x y z : Int32) (P : Nat → Nat) : Nat → Nat := if x.toInt = -1 then P else if isW 4 x then (if isW (plE x) y then (if m < 8 then updN P m z.toInt.toNat else P) else P) else P
def PnOK (m : Nat) (K Vv : Nat → Int32) (pk pv : Nat → Nat) : Prop := ∀ i, i < m → K i = nI (pk i) ∧ Vv i = nI (pv i) ∧ pk i < 4 ∧ pv i < 256
noncomputable def beV (q n : Nat) (C : Nat → Bool) (x : Int32) : Int32 := if isW 3 x then (if x.toInt = 0 then nI (ct C 256) else if x.toInt = 1 then bI (frB q n C) else if 0 < ct C 256 then nI (eB C 0) else -5) else -1
def TpOK (m : Nat) (Tb : Nat → Int32) (T : Nat → Nat) : Prop := ∀ j, j < m → Tb j = nI (T j) ∧ T j < 128
def feOK (x : Int32) : Bool := decide (1 ≤ x.toInt ∧ x.toInt ≤ 127)
def feV (m : Nat) (x : Int32) : Int32 := if feOK x then (if m < 60 then nI (m + 1) else -4) else -2
def feN (m : Nat) (x : Int32) : Nat := if feOK x then (if m < 60 then m + 1 else m) else m
def feT (m : Nat) (x : Int32) (T : Nat → Nat) : Nat → Nat := if feOK x then (if m < 60 then updN T m x.toInt.toNat else T) else T
theorem pR_le (q n : Nat) (T : Nat → Nat) : ∀ (f i h w : Nat) (B : Nat → Bool), (pR q n T f i h w B).2.1 ≤ i + f
  | 0, i, h, w, B => by rw [pR]; split <;> simp
  | f + 1, i, h, w, B => by
    have h1 := fun h w B => pR_le q n T f (i + 1) h w B
    rw [pR]
    split
    · split
      · exact Nat.le_trans (h1 _ _ _) (by omega)
      · simp
    · split
      · split
        · split
          · simp
          · exact Nat.le_trans (h1 _ _ _) (by omega)
        · exact Nat.le_trans (h1 _ _ _) (by omega)
      · simp
def bkV (r : Bool × Nat × Nat × Nat × (Nat → Bool)) : Int32 := if r.1 then nI (ct r.2.2.2.2 256) else -100 - nI r.2.1
def LnOK (Ln : Nat → Int32) : Prop := ∀ l, l < 4 → Ln l = -1 ∨ ∃ k, k ≤ 12 ∧ Ln l = nI k
def dueI (B : Nat → Bool) (i : Nat) : Int32 := if i < ct B 256 then nI (eB B i) else -1
def juF (B : Nat → Bool) (Ce : Nat → Int32) (l : Nat) : Nat → Nat → Int32
  | 0, _ => -5
  | f + 1, i => if Ce (l * 12 + i) = dueI B i then juF B Ce l f (i + 1) else nI i
def juV (B : Nat → Bool) (Ln Ce : Nat → Int32) (x : Int32) : Int32 := if isW 4 x then (if (Ln x.toInt.toNat).toInt < 0 then -11 else juF B Ce x.toInt.toNat (Ln x.toInt.toNat).toInt.toNat 0) else -1
def liV (x y : Int32) : Int32 := if isW 4 x then (if 12 < y.toInt then -2 else if y.toInt < 0 then -14 else 1) else -1
def liL (x y : Int32) (Ln : Nat → Int32) : Nat → Int32 := if isW 4 x then (if isW 13 y then upd Ln x.toInt.toNat y else Ln) else Ln
def liC (x y : Int32) (Ce : Nat → Int32) : Nat → Int32 := if isW 4 x then (if isW 13 y then (fun j => if x.toInt.toNat * 12 ≤ j ∧ j < x.toInt.toNat * 12 + y.toInt.toNat then 0 else Ce j) else Ce) else Ce
def puV (Ln : Nat → Int32) (x y : Int32) : Int32 := if isW 4 x then (if (Ln x.toInt.toNat).toInt < 0 then -11 else if isW (Ln x.toInt.toNat).toInt.toNat y then 1 else -13) else -1
def puC (Ln : Nat → Int32) (x y z : Int32) (Ce : Nat → Int32) : Nat → Int32 := if isW 4 x then (if (Ln x.toInt.toNat).toInt < 0 then Ce else if isW (Ln x.toInt.toNat).toInt.toNat y then upd Ce (x.toInt.toNat * 12 + y.toInt.toNat) z else Ce) else Ce
def geV (Ln Ce : Nat → Int32) (x y : Int32) : Int64 := if isW 4 x then (if isW (Ln x.toInt.toNat).toInt.toNat y then (Ce (x.toInt.toNat * 12 + y.toInt.toNat)).toInt64 else Int64.minValue) else Int64.minValue
def coV (q n m ms mt mp mk : Nat) (x : Int32) : Int32 := if x.toInt = 0 then nI q else if x.toInt = 1 then nI n else if x.toInt = 2 then nI (q ^ n) else if x.toInt = 3 then nI m else if x.toInt = 4 then nI ms else if x.toInt = 5 then nI mt else if x.toInt = 6 then nI mp else if x.toInt = 7 then nI mk else if x.toInt = 8 then nI (nSw q) else -2
section PUB4
variable {tO d q n x0 d0 e0 t0 t1 t2 t3 t4 t5 g0 g1 g2 p0 p1 p2 r0 r1 l0 l1 l2 s0 s1 s2 k0 k1 k2 b0 b1 b2 b3 b4 b5 a0 a1 m ms mk mT mt mp NT : Nat} {tk fl : Bool} {W Im O E R Rc K Vv WT ImT OT ET Tb Rs Pb Ln Ce : Nat → Int32} {B BT : Nat → Bool} {L T pk pv : Nat → Nat}
abbrev xoW (x0 d0 e0 : Nat) (tk : Bool) (t0 g0 p0 r0 l0 t1 t2 t3 t4 t5 a0 a1 q n : Nat) (BT : Nat → Bool) (mT : Nat) (WT ImT OT ET : Nat → Int32) : zW := [obX x0 d0 e0 tk t0 g0 p0 r0 l0, obB t0 t1 t2 t3 t4 t5 a0 mT, (t1, aI 256 WT), (t2, aZ 256 (hdF BT)), (t3, aI 256 ImT), (t4, aI 162 OT), (t5, aI 162 ET), (a0, oB 0 [.ref a1, .int (nI q), .int (nI n), .int (nI (q ^ n))]), (a1, aI 6 (pwF q))]
theorem l_X11_odds (hd : 30 ≤ d) (h : OKq q n) {v mm p : Nat} {z : Int32} (hv : v ≤ 12) (hm1 : 1 ≤ mm) (hm : mm ≤ 30) (hp : p ≤ 1) {w0 : zW} (hw0 : w0.length = 9) : ∀ (f t mT NT : Nat) (BT : Nat → Bool) (WT OT ET : Nat → Int32), t + f = mm → NT ≤ 256 → Bk NT BT WT mT → V tO MX11_odds (d, 0, 0) w0 (fun v' w' => ∃ BT' mT' WT' OT' ET', v' = some (.long (if p = 0 then nI (ct (odF q n v z) mm / odD q n v z mm) else nI (mm / odD q n v z mm)).toInt64) ∧ w' = xoW x0 d0 e0 tk t0 g0 p0 r0 l0 t1 t2 t3 t4 t5 a0 a1 q n BT' mT' WT' ImT OT' ET' ∧ Bk 256 BT' WT' mT') (0, 0) (xoW x0 d0 e0 tk t0 g0 p0 r0 l0 t1 t2 t3 t4 t5 a0 a1 q n BT mT WT ImT OT ET) 43 [some (.ref x0), some (.int (nI v)), some (.int z), some (.int (nI mm)), some (.int (nI p)), some (.int (nI (ct (odF q n v z) t))), some (.int (nI t))] [] := by
  have hN := h.2.2.2.2
  intro f
  induction f with
  | zero =>
    intro t mT NT BT WT OT ET ht hNT hB
    have e : t = mm := by omega
    subst e
    have hc := ct_le (odF q n v z) t
    have hD := cdF_le (ct (odF q n v z) t) t (max (ct (odF q n v z) t) t)
    refine V_iload dX11_odds_43 rfl ?_
    refine V_iload_n dX11_odds_45 rfl ?_
    refine V_icmp_ge_N 80 dX11_odds_46 (by decide) (by omega) (by omega) (fun c_46 => ?_) (fun c_46 => absurd c_46 (by omega))
    refine V_iload dX11_odds_80 rfl ?_
    refine V_iload_n dX11_odds_82 rfl ?_
    refine V_callSpi2 [] (s_X8_commonDivisor (d := d - 1) (by omega) (by omega) (by omega)) gX11_odds_X8_commonDivisor dX11_odds_83 oX8_commonDivisor rfl rfl (Nat.le_of_ble_eq_true rfl) (by omega) ⟨Nat.le_refl _, Nat.le_refl _⟩ ?_
    refine V_istore dX11_odds_86 (by decide) rfl ?_
    refine V_iload dX11_odds_88 rfl ?_
    refine V_if_ne_N 98 dX11_odds_90 (by decide) (by omega) (fun c_90 => ?_) (fun c_90 => ?_)
    ·
      rw [if_neg (show ¬ p = 0 by omega)]
      refine V_iload_n dX11_odds_98 rfl ?_
      refine V_iload dX11_odds_99 rfl ?_
      refine V_callSpi2 [] (s_X8_over (d := d - 1) (by omega) (by omega) (by omega)) gX11_odds_X8_over dX11_odds_101 oX8_over rfl rfl (Nat.le_of_ble_eq_true rfl) (by omega) ⟨Nat.le_refl _, Nat.le_refl _⟩ ?_
      refine V_i2l dX11_odds_104 ?_
      exact V_lret dX11_odds_105 rfl (by rw [hw0]; exact Nat.le_refl _) (Nat.le_refl _) (Nat.le_refl _) ⟨BT, mT, WT, OT, ET, rfl, rfl, hB.mono hNT⟩
    ·
      rw [if_pos c_90]
      refine V_iload dX11_odds_93 rfl ?_
      refine V_goto 99 dX11_odds_95 (by decide) ?_
      refine V_iload dX11_odds_99 rfl ?_
      refine V_callSpi2 [] (s_X8_over (d := d - 1) (by omega) (by omega) (by omega)) gX11_odds_X8_over dX11_odds_101 oX8_over rfl rfl (Nat.le_of_ble_eq_true rfl) (by omega) ⟨Nat.le_refl _, Nat.le_refl _⟩ ?_
      refine V_i2l dX11_odds_104 ?_
      exact V_lret dX11_odds_105 rfl (by rw [hw0]; exact Nat.le_refl _) (Nat.le_refl _) (Nat.le_refl _) ⟨BT, mT, WT, OT, ET, rfl, rfl, hB.mono hNT⟩
  | succ f ih =>
    intro t mT NT BT WT OT ET ht hNT hB
    have e2 : odF q n v z t = frB q n (drB (q ^ n) v (z + nI t) (fun _ => false)) := rfl
    refine V_iload dX11_odds_43 rfl ?_
    refine V_iload_n dX11_odds_45 rfl ?_
    refine V_icmp_ge_N 80 dX11_odds_46 (by decide) (by omega) (by omega) (fun c_46 => absurd c_46 (by omega)) (fun c_46 => ?_)
    refine V_aload_n dX11_odds_49 rfl ?_
    refine V_get 0 dX11_odds_50 fX11_odds_34 rfl rfl ?_
    refine V_iload_n dX11_odds_53 rfl ?_
    refine V_iload_n dX11_odds_54 rfl ?_
    refine V_iload dX11_odds_55 rfl ?_
    refine V_iadd dX11_odds_57 ?_
    refine V_callV2 [1, 2, 3, 4, 5, 6, 7, 8] (s_X1_draw (d := d - 1) (by omega) h hNT hB hv) gX11_odds_X1_draw dX11_odds_58 oX1_draw rfl rfl rfl rfl (Nat.le_of_ble_eq_true rfl) (by omega) ⟨Nat.le_refl _, Nat.le_refl _⟩ ?_
    rintro _ _ ⟨W2, m2, rfl, rfl, hB2⟩
    simp only [zput_n, zput_c, zset_1, zset_2, zset_3, zset_4, zset_5, zset_6, zset_7, zset_8, Option.toList, List.nil_append]
    have i1 := ih (t + 1) m2 (q ^ n) (drB (q ^ n) v (z + nI t) (fun _ => false)) W2 (opF q n (drB (q ^ n) v (z + nI t) (fun _ => false))) (enF q n (drB (q ^ n) v (z + nI t) (fun _ => false))) (by omega) hN hB2
    rw [ct_succ] at i1
    refine V_aload_n dX11_odds_61 rfl ?_
    refine V_get 0 dX11_odds_62 fX11_odds_34 rfl rfl ?_
    refine V_callVpi0 [1, 2, 3, 4, 5, 6, 7, 8] (s_X1_isFree (d := d - 1) (by omega) h hB2) gX11_odds_X1_isFree dX11_odds_65 oX1_isFree rfl rfl rfl rfl (Nat.le_of_ble_eq_true rfl) (by omega) ⟨Nat.le_refl _, Nat.le_refl _⟩ ?_
    first | refine V_if_eq_B 74 dX11_odds_68 (by decide) (fun c_68 => ?_) (fun c_68 => ?_) | refine V_if_eq_N 74 dX11_odds_68 (by decide) (by omega) (fun c_68 => ?_) (fun c_68 => ?_) | refine V_if_eq 74 dX11_odds_68 (by decide) (fun c_68 => ?_) (fun c_68 => ?_)
    ·
      rw [e2, c_68, if_neg Bool.false_ne_true] at i1
      first | refine V_iinc_N (i := 1) dX11_odds_74 rfl (by decide) rfl ?_ | refine V_iinc dX11_odds_74 rfl rfl (by decide) rfl ?_
      refine V_goto 43 dX11_odds_77 (by decide) ?_
      exact i1
    ·
      rw [e2, c_68, if_pos rfl] at i1
      first | refine V_iinc_N (i := 1) dX11_odds_71 rfl (by decide) rfl ?_ | refine V_iinc dX11_odds_71 rfl rfl (by decide) rfl ?_
      first | refine V_iinc_N (i := 1) dX11_odds_74 rfl (by decide) rfl ?_ | refine V_iinc dX11_odds_74 rfl rfl (by decide) rfl ?_
      refine V_goto 43 dX11_odds_77 (by decide) ?_
      exact i1
theorem s_X11_odds (hd : 30 ≤ d) (h : OKq q n) (hNT : NT ≤ 256) (hBT : Bk NT BT WT mT) {x z y p : Int32} : Sp tO MX11_odds (d, 0, 0) [.ref x0, .int x, .int z, .int y, .int p] (xoW x0 d0 e0 tk t0 g0 p0 r0 l0 t1 t2 t3 t4 t5 a0 a1 q n BT mT WT ImT OT ET) (fun v' w' => ∃ BT' mT' WT' OT' ET', v' = some (.long (odV q n x z y p)) ∧ w' = xoW x0 d0 e0 tk t0 g0 p0 r0 l0 t1 t2 t3 t4 t5 a0 a1 q n BT' mT' WT' ImT OT' ET' ∧ Bk 256 BT' WT' mT') := by
  refine eX11_odds [some (.ref x0), some (.int x), some (.int z), some (.int y), some (.int p), none, none] rfl (Nat.le_of_ble_eq_true rfl) ?_
  unfold odV
  refine V_iload_n dX11_odds_0 rfl ?_
  refine V_iconst (v := nI 1) dX11_odds_1 (by decide) ?_
  refine V_icmp_lt 33 dX11_odds_2 (by decide) (fun c_2 => ?_) (fun c_2 => ?_)
  ·
    rw [z_lt (by decide)] at c_2
    rw [show odOK x y p = false by unfold odOK; exact decide_eq_false (by omega)]
    refine V_ldc2 (v := Int64.minValue) dX11_odds_33 (by decide +kernel) ?_
    refine V_lret dX11_odds_36 rfl (Nat.le_of_ble_eq_true rfl) (Nat.le_refl _) (Nat.le_refl _) ?_
    exact ⟨BT, mT, WT, OT, ET, rfl, rfl, hBT.mono hNT⟩
  ·
    rw [z_lt (by decide)] at c_2
    refine V_iload_n dX11_odds_5 rfl ?_
    refine V_bipush (v := nI 12) dX11_odds_6 (by decide) ?_
    refine V_icmp_gt 33 dX11_odds_8 (by decide) (fun c_8 => ?_) (fun c_8 => ?_)
    ·
      rw [z_gt (by decide)] at c_8
      rw [show odOK x y p = false by unfold odOK; exact decide_eq_false (by omega)]
      refine V_ldc2 (v := Int64.minValue) dX11_odds_33 (by decide +kernel) ?_
      refine V_lret dX11_odds_36 rfl (Nat.le_of_ble_eq_true rfl) (Nat.le_refl _) (Nat.le_refl _) ?_
      exact ⟨BT, mT, WT, OT, ET, rfl, rfl, hBT.mono hNT⟩
    ·
      rw [z_gt (by decide)] at c_8
      refine V_iload_n dX11_odds_11 rfl ?_
      refine V_iconst (v := nI 1) dX11_odds_12 (by decide) ?_
      refine V_icmp_lt 33 dX11_odds_13 (by decide) (fun c_13 => ?_) (fun c_13 => ?_)
      ·
        rw [z_lt (by decide)] at c_13
        rw [show odOK x y p = false by unfold odOK; exact decide_eq_false (by omega)]
        refine V_ldc2 (v := Int64.minValue) dX11_odds_33 (by decide +kernel) ?_
        refine V_lret dX11_odds_36 rfl (Nat.le_of_ble_eq_true rfl) (Nat.le_refl _) (Nat.le_refl _) ?_
        exact ⟨BT, mT, WT, OT, ET, rfl, rfl, hBT.mono hNT⟩
      ·
        rw [z_lt (by decide)] at c_13
        refine V_iload_n dX11_odds_16 rfl ?_
        refine V_bipush (v := nI 30) dX11_odds_17 (by decide) ?_
        refine V_icmp_gt 33 dX11_odds_19 (by decide) (fun c_19 => ?_) (fun c_19 => ?_)
        ·
          rw [z_gt (by decide)] at c_19
          rw [show odOK x y p = false by unfold odOK; exact decide_eq_false (by omega)]
          refine V_ldc2 (v := Int64.minValue) dX11_odds_33 (by decide +kernel) ?_
          refine V_lret dX11_odds_36 rfl (Nat.le_of_ble_eq_true rfl) (Nat.le_refl _) (Nat.le_refl _) ?_
          exact ⟨BT, mT, WT, OT, ET, rfl, rfl, hBT.mono hNT⟩
        ·
          rw [z_gt (by decide)] at c_19
          refine V_iload dX11_odds_22 rfl ?_
          refine V_if_lt 33 dX11_odds_24 (by decide) (fun c_24 => ?_) (fun c_24 => ?_)
          ·
            rw [z_lt0] at c_24
            rw [show odOK x y p = false by unfold odOK; exact decide_eq_false (by omega)]
            refine V_ldc2 (v := Int64.minValue) dX11_odds_33 (by decide +kernel) ?_
            refine V_lret dX11_odds_36 rfl (Nat.le_of_ble_eq_true rfl) (Nat.le_refl _) (Nat.le_refl _) ?_
            exact ⟨BT, mT, WT, OT, ET, rfl, rfl, hBT.mono hNT⟩
          ·
            rw [z_lt0] at c_24
            refine V_iload dX11_odds_27 rfl ?_
            refine V_iconst (v := nI 1) dX11_odds_29 (by decide) ?_
            refine V_icmp_le 37 dX11_odds_30 (by decide) (fun c_30 => ?_) (fun c_30 => ?_)
            ·
              rw [z_le (by decide)] at c_30
              rw [show odOK x y p = true by unfold odOK; exact decide_eq_true (by omega), if_pos rfl]
              obtain ⟨v, hv, rfl⟩ := isW_of (N := 13) (x := x) (by unfold isW; exact decide_eq_true (by omega))
              obtain ⟨mm, hmm, rfl⟩ := isW_of (N := 31) (x := y) (by unfold isW; exact decide_eq_true (by omega))
              obtain ⟨p, hp, rfl⟩ := isW_of (N := 2) (x := p) (by unfold isW; exact decide_eq_true (by omega))
              rw [toNat_nI (w := v) (by omega), toNat_nI (w := mm) (by omega)]
              have ep : ((nI p).toInt = 0) ↔ p = 0 := by rw [nI_toInt (by omega)]; omega
              simp only [ep]
              rw [nI_toInt (by omega)] at c_2 c_13
              refine V_iconst (v := nI 0) dX11_odds_37 (by decide) ?_
              refine V_istore dX11_odds_38 (by decide) rfl ?_
              refine V_iconst (v := nI 0) dX11_odds_40 (by decide) ?_
              refine V_istore dX11_odds_41 (by decide) rfl ?_
              exact l_X11_odds hd h (by omega) (by omega) (by omega) (by omega) rfl mm 0 mT NT BT WT OT ET (by omega) hNT hBT
            ·
              rw [z_le (by decide)] at c_30
              rw [show odOK x y p = false by unfold odOK; exact decide_eq_false (by omega)]
              refine V_ldc2 (v := Int64.minValue) dX11_odds_33 (by decide +kernel) ?_
              refine V_lret dX11_odds_36 rfl (Nat.le_of_ble_eq_true rfl) (Nat.le_refl _) (Nat.le_refl _) ?_
              exact ⟨BT, mT, WT, OT, ET, rfl, rfl, hBT.mono hNT⟩
theorem s_X11_plan (hd : 30 ≤ d) (hm : mk ≤ 8) (hP : PnOK mk K Vv pk pv) {x y : Int32} : Sp tO MX11_plan (d, 0, 0) [.ref x0, .int x, .int y] [obX x0 d0 e0 tk t0 g0 p0 r0 l0, obD d0 a0 b0 s0 k0, obK k0 k1 k2 a0 mk, (k1, aI 8 K), (k2, aI 8 Vv)] (fun v' w' => ∃ K' Vv', v' = some (.int (plV mk x y)) ∧ w' = [obX x0 d0 e0 tk t0 g0 p0 r0 l0, obD d0 a0 b0 s0 k0, obK k0 k1 k2 a0 (plN mk x y), (k1, aI 8 K'), (k2, aI 8 Vv')] ∧ PnOK (plN mk x y) K' Vv' (plP mk x y x pk) (plP mk x y y pv)) := by
  refine eX11_plan [some (.ref x0), some (.int x), some (.int y), none] rfl (Nat.le_of_ble_eq_true rfl) ?_
  unfold plV plN plP
  have fin : isW 4 x = true → ∀ e, e = plE x → isW e y = true → mk < 8 → PnOK (mk + 1) (upd K mk x) (upd Vv mk y) (updN pk mk x.toInt.toNat) (updN pv mk y.toInt.toNat) := fun hx e he hy hm8 j hj => by
    obtain ⟨c, hc, rfl⟩ := isW_of hx
    obtain ⟨v, hv, rfl⟩ := isW_of hy
    have h1 : e ≤ 256 := by rw [he]; unfold plE; split <;> omega
    rw [toNat_nI (by omega), toNat_nI (by omega)]
    unfold upd updN
    by_cases e : j = mk
    · rw [if_pos e, if_pos e, if_pos e, if_pos e]; exact ⟨rfl, rfl, by omega, by omega⟩
    · rw [if_neg e, if_neg e, if_neg e, if_neg e]; exact hP j (by omega)
  refine V_iload_n dX11_plan_0 rfl ?_
  refine V_iconst (v := -1) dX11_plan_1 (by decide) ?_
  refine V_icmp_ne 17 dX11_plan_2 (by decide) (fun c_2 => ?_) (fun c_2 => ?_)
  ·
    have c_2 : ¬ x.toInt = -1 := fun hh => c_2 (z_eqm1.mpr hh)
    rw [if_neg c_2, if_neg c_2, if_neg c_2, if_neg c_2]
    refine V_iload_n dX11_plan_17 rfl ?_
    refine V_if_lt 26 dX11_plan_18 (by decide) (fun c_18 => ?_) (fun c_18 => ?_)
    ·
      rw [z_lt0] at c_18
      rw [show isW 4 x = false by unfold isW; exact decide_eq_false (by omega)]
      refine V_iconst (v := -1) dX11_plan_26 (by decide) ?_
      refine V_iret dX11_plan_27 rfl (Nat.le_of_ble_eq_true rfl) (Nat.le_refl _) (Nat.le_refl _) ?_
      exact ⟨K, Vv, rfl, rfl, hP⟩
    ·
      rw [z_lt0] at c_18
      refine V_iload_n dX11_plan_21 rfl ?_
      refine V_iconst (v := nI 3) dX11_plan_22 (by decide) ?_
      refine V_icmp_le 28 dX11_plan_23 (by decide) (fun c_23 => ?_) (fun c_23 => ?_)
      ·
        rw [z_le (by decide)] at c_23
        have hx : isW 4 x = true := by unfold isW; exact decide_eq_true (by omega)
        rw [hx, if_pos rfl, if_pos rfl, if_pos rfl, if_pos rfl]
        refine V_iload_n dX11_plan_28 rfl ?_
        refine V_iconst (v := nI 2) dX11_plan_29 (by decide) ?_
        refine V_icmp_ne 38 dX11_plan_30 (by decide) (fun c_30 => ?_) (fun c_30 => ?_)
        ·
          have he : 256 = plE x := by unfold plE; rw [if_neg (show ¬ x.toInt = 2 from fun hh => c_30 ((z_eq (by decide)).mpr hh))]
          rw [← he]
          have fin := fin hx 256 he
          refine V_sipush (v := nI 256) dX11_plan_38 (by decide) ?_
          refine V_istore_n dX11_plan_41 (by decide) rfl ?_
          refine V_iload_n dX11_plan_42 rfl ?_
          refine V_if_lt 51 dX11_plan_43 (by decide) (fun c_43 => ?_) (fun c_43 => ?_)
          ·
            rw [z_lt0] at c_43
            rw [show isW _ y = false by unfold isW; exact decide_eq_false (by omega)]
            refine V_bipush (v := (-2)) dX11_plan_51 (by decide) ?_
            refine V_iret dX11_plan_53 rfl (Nat.le_of_ble_eq_true rfl) (Nat.le_refl _) (Nat.le_refl _) ?_
            exact ⟨K, Vv, rfl, rfl, hP⟩
          ·
            rw [z_lt0] at c_43
            refine V_iload_n dX11_plan_46 rfl ?_
            refine V_iload_n dX11_plan_47 rfl ?_
            refine V_icmp_lt 54 dX11_plan_48 (by decide) (fun c_48 => ?_) (fun c_48 => ?_)
            ·
              rw [z_lt (by decide)] at c_48
              have hy : ∀ N : Nat, y.toInt < N → isW N y = true := fun N hN => by unfold isW; exact decide_eq_true ⟨by omega, hN⟩
              have hy := hy _ c_48
              rw [hy, if_pos rfl, if_pos rfl, if_pos rfl, if_pos rfl]
              have fin := fin hy
              refine V_aload_n dX11_plan_54 rfl ?_
              refine V_get 0 dX11_plan_55 fX11_plan_12 rfl rfl ?_
              refine V_get 1 dX11_plan_58 fX11_plan_227 rfl rfl ?_
              refine V_iload_n dX11_plan_61 rfl ?_
              refine V_iload_n dX11_plan_62 rfl ?_
              by_cases hm8 : mk < 8
              · rw [if_pos hm8, if_pos hm8, if_pos hm8, if_pos hm8]
                refine V_callVfi2 [2, 3, 4] (s_X7_append (d := d - 1) (by omega) hm8) gX11_plan_X7_append dX11_plan_63 oX7_append rfl rfl rfl rfl (Nat.le_of_ble_eq_true rfl) (by omega) ⟨Nat.le_refl _, Nat.le_refl _⟩ ?_
                simp only [zput_n, zput_c, zset_2, zset_3, zset_4, Option.toList, List.nil_append]
                refine V_if_eq_B 82 dX11_plan_66 (by decide) (fun c => absurd c (by decide)) (fun _ => ?_)
                refine V_aload_n dX11_plan_69 rfl ?_
                refine V_get 0 dX11_plan_70 fX11_plan_12 rfl rfl ?_
                refine V_get 1 dX11_plan_73 fX11_plan_227 rfl rfl ?_
                refine V_callVpi0 [2] (s_X7_total (d := d - 1) (by omega)) gX11_plan_X7_total dX11_plan_76 oX7_total rfl rfl rfl rfl (Nat.le_of_ble_eq_true rfl) (by omega) ⟨Nat.le_refl _, Nat.le_refl _⟩ ?_
                refine V_goto 84 dX11_plan_79 (by decide) ?_
                refine V_iret dX11_plan_84 rfl (Nat.le_of_ble_eq_true rfl) (Nat.le_refl _) (Nat.le_refl _) ?_
                exact ⟨_, _, rfl, rfl, fin hm8⟩
              · have e8 : mk = 8 := by omega
                rw [if_neg hm8, if_neg hm8, if_neg hm8, if_neg hm8]
                subst e8
                refine V_callVpi2 [2, 3, 4] (s_X7_appendN (d := d - 1) (by omega)) gX11_plan_X7_append dX11_plan_63 oX7_append rfl rfl rfl rfl (Nat.le_of_ble_eq_true rfl) (by omega) ⟨Nat.le_refl _, Nat.le_refl _⟩ ?_
                refine V_if_eq_B 82 dX11_plan_66 (by decide) (fun _ => ?_) (fun c => absurd c (by decide))
                refine V_bipush (v := (-4)) dX11_plan_82 (by decide) ?_
                refine V_iret dX11_plan_84 rfl (Nat.le_of_ble_eq_true rfl) (Nat.le_refl _) (Nat.le_refl _) ?_
                exact ⟨_, _, rfl, rfl, hP⟩
            ·
              rw [z_lt (by decide)] at c_48
              rw [show isW _ y = false by unfold isW; exact decide_eq_false (by omega)]
              refine V_bipush (v := (-2)) dX11_plan_51 (by decide) ?_
              refine V_iret dX11_plan_53 rfl (Nat.le_of_ble_eq_true rfl) (Nat.le_refl _) (Nat.le_refl _) ?_
              exact ⟨K, Vv, rfl, rfl, hP⟩
        ·
          have he : 48 = plE x := by unfold plE; rw [if_pos (show x.toInt = 2 from (z_eq (by decide)).mp c_30)]
          rw [← he]
          have fin := fin hx 48 he
          refine V_bipush (v := nI 48) dX11_plan_33 (by decide) ?_
          refine V_goto 41 dX11_plan_35 (by decide) ?_
          refine V_istore_n dX11_plan_41 (by decide) rfl ?_
          refine V_iload_n dX11_plan_42 rfl ?_
          refine V_if_lt 51 dX11_plan_43 (by decide) (fun c_43 => ?_) (fun c_43 => ?_)
          ·
            rw [z_lt0] at c_43
            rw [show isW _ y = false by unfold isW; exact decide_eq_false (by omega)]
            refine V_bipush (v := (-2)) dX11_plan_51 (by decide) ?_
            refine V_iret dX11_plan_53 rfl (Nat.le_of_ble_eq_true rfl) (Nat.le_refl _) (Nat.le_refl _) ?_
            exact ⟨K, Vv, rfl, rfl, hP⟩
          ·
            rw [z_lt0] at c_43
            refine V_iload_n dX11_plan_46 rfl ?_
            refine V_iload_n dX11_plan_47 rfl ?_
            refine V_icmp_lt 54 dX11_plan_48 (by decide) (fun c_48 => ?_) (fun c_48 => ?_)
            ·
              rw [z_lt (by decide)] at c_48
              have hy : ∀ N : Nat, y.toInt < N → isW N y = true := fun N hN => by unfold isW; exact decide_eq_true ⟨by omega, hN⟩
              have hy := hy _ c_48
              rw [hy, if_pos rfl, if_pos rfl, if_pos rfl, if_pos rfl]
              have fin := fin hy
              refine V_aload_n dX11_plan_54 rfl ?_
              refine V_get 0 dX11_plan_55 fX11_plan_12 rfl rfl ?_
              refine V_get 1 dX11_plan_58 fX11_plan_227 rfl rfl ?_
              refine V_iload_n dX11_plan_61 rfl ?_
              refine V_iload_n dX11_plan_62 rfl ?_
              by_cases hm8 : mk < 8
              · rw [if_pos hm8, if_pos hm8, if_pos hm8, if_pos hm8]
                refine V_callVfi2 [2, 3, 4] (s_X7_append (d := d - 1) (by omega) hm8) gX11_plan_X7_append dX11_plan_63 oX7_append rfl rfl rfl rfl (Nat.le_of_ble_eq_true rfl) (by omega) ⟨Nat.le_refl _, Nat.le_refl _⟩ ?_
                simp only [zput_n, zput_c, zset_2, zset_3, zset_4, Option.toList, List.nil_append]
                refine V_if_eq_B 82 dX11_plan_66 (by decide) (fun c => absurd c (by decide)) (fun _ => ?_)
                refine V_aload_n dX11_plan_69 rfl ?_
                refine V_get 0 dX11_plan_70 fX11_plan_12 rfl rfl ?_
                refine V_get 1 dX11_plan_73 fX11_plan_227 rfl rfl ?_
                refine V_callVpi0 [2] (s_X7_total (d := d - 1) (by omega)) gX11_plan_X7_total dX11_plan_76 oX7_total rfl rfl rfl rfl (Nat.le_of_ble_eq_true rfl) (by omega) ⟨Nat.le_refl _, Nat.le_refl _⟩ ?_
                refine V_goto 84 dX11_plan_79 (by decide) ?_
                refine V_iret dX11_plan_84 rfl (Nat.le_of_ble_eq_true rfl) (Nat.le_refl _) (Nat.le_refl _) ?_
                exact ⟨_, _, rfl, rfl, fin hm8⟩
              · have e8 : mk = 8 := by omega
                rw [if_neg hm8, if_neg hm8, if_neg hm8, if_neg hm8]
                subst e8
                refine V_callVpi2 [2, 3, 4] (s_X7_appendN (d := d - 1) (by omega)) gX11_plan_X7_append dX11_plan_63 oX7_append rfl rfl rfl rfl (Nat.le_of_ble_eq_true rfl) (by omega) ⟨Nat.le_refl _, Nat.le_refl _⟩ ?_
                refine V_if_eq_B 82 dX11_plan_66 (by decide) (fun _ => ?_) (fun c => absurd c (by decide))
                refine V_bipush (v := (-4)) dX11_plan_82 (by decide) ?_
                refine V_iret dX11_plan_84 rfl (Nat.le_of_ble_eq_true rfl) (Nat.le_refl _) (Nat.le_refl _) ?_
                exact ⟨_, _, rfl, rfl, hP⟩
            ·
              rw [z_lt (by decide)] at c_48
              rw [show isW _ y = false by unfold isW; exact decide_eq_false (by omega)]
              refine V_bipush (v := (-2)) dX11_plan_51 (by decide) ?_
              refine V_iret dX11_plan_53 rfl (Nat.le_of_ble_eq_true rfl) (Nat.le_refl _) (Nat.le_refl _) ?_
              exact ⟨K, Vv, rfl, rfl, hP⟩
      ·
        rw [z_le (by decide)] at c_23
        rw [show isW 4 x = false by unfold isW; exact decide_eq_false (by omega)]
        refine V_iconst (v := -1) dX11_plan_26 (by decide) ?_
        refine V_iret dX11_plan_27 rfl (Nat.le_of_ble_eq_true rfl) (Nat.le_refl _) (Nat.le_refl _) ?_
        exact ⟨K, Vv, rfl, rfl, hP⟩
  ·
    have c_2 := z_eqm1.mp c_2
    rw [if_pos c_2, if_pos c_2, if_pos c_2, if_pos c_2]
    refine V_aload_n dX11_plan_5 rfl ?_
    refine V_get 0 dX11_plan_6 fX11_plan_12 rfl rfl ?_
    refine V_get 1 dX11_plan_9 fX11_plan_227 rfl rfl ?_
    refine V_callVfv0 [2] (s_X7_empty (d := d - 1) (by omega) ) gX11_plan_X7_empty dX11_plan_12 oX7_empty rfl rfl rfl rfl (Nat.le_of_ble_eq_true rfl) (by omega) ⟨Nat.le_refl _, Nat.le_refl _⟩ ?_
    simp only [zput_n, zput_c, zset_2]
    refine V_iconst (v := nI 0) dX11_plan_15 (by decide) ?_
    refine V_iret dX11_plan_16 rfl (Nat.le_of_ble_eq_true rfl) (Nat.le_refl _) (Nat.le_refl _) ?_
    exact ⟨K, Vv, rfl, rfl, fun i hi => absurd hi (by omega)⟩
end PUB4

