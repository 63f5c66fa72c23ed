/-! greatest books, strips: what calls answer -/
noncomputable def grMy (q n : Nat) : Nat := min (GR q n).2.length 128
noncomputable def grV (q n : Nat) (x y : Int32) : Int32 := if q ^ n ≤ 32 then (if x.toInt = -1 then nI (grMy q n) else if x.toInt = -2 then nI (GR q n).1 else if x.toInt = -3 then nI (unC q n (GR q n).2 (grMy q n)) else if isW (grMy q n) x && isW (nK q n) y then wdF q n ((GR q n).2.getD x.toInt.toNat 0) y.toInt.toNat 32 0 else -5) else -3
def caV (q cut : Nat) (x : Int32) : Int32 := if isW q x then (if cut < 40 then nI (cut + 1) else -4) else -2
def seV (q n cut : Nat) (x : Int32) : Int32 := if isW (q ^ n) x then (if cut + n ≤ 40 then nI (cut + n) else -4) else -1
def teV (cut : Nat) (x : Int32) : Int32 := if isW (cut + 1) x then nI (cut - x.toInt.toNat) else -2
noncomputable def poV (q n : Nat) (B : Nat → Bool) (L : Nat → Nat) (cut : Nat) (x : Int32) : Int32 := if isW (cut + 1) x then nI (psN q n B L x.toInt.toNat) else -2
noncomputable def crT (bits : Nat → Nat) (n m : Nat) : Nat × Nat := @dite _ (∃ t : Nat × Nat, IsCr bits n m t.1 t.2) (Classical.propDecidable _) (fun h => Classical.choose h) (fun _ => (0, 0))
noncomputable def crV (q n : Nat) (B : Nat → Bool) (L : Nat → Nat) (cut : Nat) (x : Int32) : Int32 := if isW 2 x then (if dB (∃ t : Nat × Nat, IsCr (psN q n B L) n cut t.1 t.2) then nI (if x.toInt.toNat = 0 then (crT (psN q n B L) n cut).1 else (crT (psN q n B L) n cut).2) else -5) else -1
theorem crT_is {bits : Nat → Nat} {n m : Nat} (h : ∃ t : Nat × Nat, IsCr bits n m t.1 t.2) : IsCr bits n m (crT bits n m).1 (crT bits n m).2 := by
  unfold crT
  rw [dif_pos h]
  exact Classical.choose_spec h
theorem IsCr_ex {bits : Nat → Nat} {n m : Nat} (h : ¬ ∃ t : Nat × Nat, IsCr bits n m t.1 t.2) : ∀ k, 1 ≤ k → k ≤ m → ∀ r, r < n → bits k ≠ 2 ^ r := by
  intro k hk1 hk2 r hr e
  apply h
  obtain ⟨k', ⟨a, b, r', c, d⟩, hm⟩ := least_ex (p := fun k => 1 ≤ k ∧ k ≤ m ∧ ∃ r, r < n ∧ bits k = 2 ^ r) ⟨k, hk1, hk2, r, hr, e⟩
  exact ⟨(k', r'), a, b, c, d, fun k2 a2 b2 r2 c2 d2 => hm k2 b2 ⟨a2, by dsimp only at b2; omega, r2, c2, d2⟩⟩
noncomputable def dyV (q n : Nat) (B : Nat → Bool) : Int32 := if q ^ n ≤ 32 then (if dlN q n B ≤ 12 then nI (dlN q n B) else -5) else -3
theorem kth_low {p : Nat → Bool} {x : Int32} (hx : x.toInt < 0) : ∀ (f w c : Nat), c + f < 2 ^ 31 → kth p x f w c = -5
  | 0, _, _, _ => rfl
  | f + 1, w, c, h => by
    rw [kth, kth_low hx f (w + 1) c (by omega), kth_low hx f (w + 1) (c + 1) (by omega)]
    rw [if_neg (show ¬ x = nI c from fun e => by rw [e, nI_toInt (by omega)] at hx; omega)]
    split <;> rfl
theorem kiV_eq {p : Nat → Bool} {N : Nat} {x : Int32} (hN : N < 2 ^ 31) : kiV p N x = if x.toInt = -1 then nI (ct p N) else kth p x N 0 0 := by
  unfold kiV
  by_cases h : x.toInt < -1
  · rw [if_pos h, if_neg (by omega), kth_low (by omega) _ _ _ (by omega)]
  · rw [if_neg h]
section PUB2
variable {tO d q n x0 d0 e0 t0 g0 p0 r0 l0 s0 s1 s2 k0 b0 b1 b2 b3 b4 b5 a0 a1 m ms : Nat} {tk : Bool} {W Im R Rc : Nat → Int32} {B : Nat → Bool} {L : Nat → Nat}
theorem l_X11_mays (hd : 30 ≤ d) (h : OKq q n) (hB : Bk (q ^ n) B W m) {x : Int32} {e : Nat} (he : e ≤ q ^ n) {z : Int32} : ∀ (f w c : Nat), w + f = e → c ≤ w → (x.toInt = -1 → z = nI (c + (ct (alB q n B) e - ct (alB q n B) w))) → (x.toInt ≠ -1 → z = kth (alB q n B) x f w c) → V tO MX11_mays (d, 0, 0) (xbW x0 d0 e0 tk t0 g0 p0 r0 l0 s0 k0 b0 b1 b2 b3 b4 b5 a0 a1 q n B m W Im) (fun v w' => v = some (.int z) ∧ w' = xbW x0 d0 e0 tk t0 g0 p0 r0 l0 s0 k0 b0 b1 b2 b3 b4 b5 a0 a1 q n B m W Im) (0, 0) (xbW x0 d0 e0 tk t0 g0 p0 r0 l0 s0 k0 b0 b1 b2 b3 b4 b5 a0 a1 q n B m W Im) 33 [some (.ref x0), some (.int x), some (.int (nI c)), some (.int (nI e)), some (.int (nI w))] [] := by
  have hN := h.2.2.2.2
  intro f
  induction f with
  | zero =>
    intro w c hw hcw h1 h2
    have e1 : w = e := by omega
    subst e1
    rw [Nat.sub_self, Nat.add_zero] at h1
    rw [kth] at h2
    refine V_iload dX11_mays_33 rfl ?_
    refine V_iload_n dX11_mays_35 rfl ?_
    refine V_icmp_ge_N 71 dX11_mays_36 (by decide) (by omega) (by omega) (fun c_36 => ?_) (fun c_36 => absurd c_36 (by omega))
    refine V_iload_n dX11_mays_71 rfl ?_
    refine V_iconst (v := -1) dX11_mays_72 (by decide) ?_
    refine V_icmp_ne 80 dX11_mays_73 (by decide) (fun c_73 => ?_) (fun c_73 => ?_)
    ·
      rw [h2 (fun hh => c_73 (z_eqm1.mpr hh))]
      refine V_bipush (v := (-5)) dX11_mays_80 (by decide) ?_
      refine V_iret dX11_mays_82 rfl (Nat.le_of_ble_eq_true rfl) (Nat.le_refl _) (Nat.le_refl _) ?_
      exact ⟨rfl, rfl⟩
    ·
      rw [h1 (z_eqm1.mp c_73)]
      refine V_iload_n dX11_mays_76 rfl ?_
      refine V_goto 82 dX11_mays_77 (by decide) ?_
      refine V_iret dX11_mays_82 rfl (Nat.le_of_ble_eq_true rfl) (Nat.le_refl _) (Nat.le_refl _) ?_
      exact ⟨rfl, rfl⟩
  | succ f ih =>
    intro w c hw hcw h1 h2
    have hm := ct_mono (alB q n B) (w + 1) (e - (w + 1))
    rw [show w + 1 + (e - (w + 1)) = e by omega] at hm
    rw [ct_succ] at hm
    refine V_iload dX11_mays_33 rfl ?_
    refine V_iload_n dX11_mays_35 rfl ?_
    refine V_icmp_ge_N 71 dX11_mays_36 (by decide) (by omega) (by omega) (fun c_36 => absurd c_36 (by omega)) (fun c_36 => ?_)
    refine V_aload_n dX11_mays_39 rfl ?_
    refine V_get 0 dX11_mays_40 fX11_mays_12 rfl rfl ?_
    refine V_get 1 dX11_mays_43 fX11_mays_86 rfl rfl ?_
    refine V_iload dX11_mays_46 rfl ?_
    refine V_callVpi1 [2, 3, 4, 5, 6, 7, 8, 9] (s_X1_allows (d := d - 1) (by omega) h hB (by omega)) gX11_mays_X1_allows dX11_mays_48 oX1_allows rfl rfl rfl rfl (Nat.le_of_ble_eq_true rfl) (by omega) ⟨Nat.le_refl _, Nat.le_refl _⟩ ?_
    first | refine V_if_eq_B 65 dX11_mays_51 (by decide) (fun c_51 => ?_) (fun c_51 => ?_) | refine V_if_eq_N 65 dX11_mays_51 (by decide) (by omega) (fun c_51 => ?_) (fun c_51 => ?_) | refine V_if_eq 65 dX11_mays_51 (by decide) (fun c_51 => ?_) (fun c_51 => ?_)
    ·
      rw [kth, if_neg (by rw [c_51]; exact Bool.false_ne_true)] at h2
      first | refine V_iinc_N (i := 1) dX11_mays_65 rfl (by decide) rfl ?_ | refine V_iinc dX11_mays_65 rfl rfl (by decide) rfl ?_
      refine V_goto 33 dX11_mays_68 (by decide) ?_
      first
      | exact ih (w + 1) (c + 1) (by omega) (by omega) (fun hh => by rw [h1 hh, ct_succ, c_51, if_pos rfl]; congr 1; omega) h2
      | exact ih (w + 1) c (by omega) (by omega) (fun hh => by rw [h1 hh, ct_succ, c_51, if_neg Bool.false_ne_true]; rfl) h2
    ·
      rw [kth, if_pos c_51] at h2
      rw [c_51, if_pos rfl] at hm
      refine V_iload_n dX11_mays_54 rfl ?_
      refine V_iload_n dX11_mays_55 rfl ?_
      refine V_icmp_ne 62 dX11_mays_56 (by decide) (fun c_56 => ?_) (fun c_56 => ?_)
      ·
        rw [if_neg (fun hh => c_56 hh.symm)] at h2
        first | refine V_iinc_N (i := 1) dX11_mays_62 rfl (by decide) rfl ?_ | refine V_iinc dX11_mays_62 rfl rfl (by decide) rfl ?_
        first | refine V_iinc_N (i := 1) dX11_mays_65 rfl (by decide) rfl ?_ | refine V_iinc dX11_mays_65 rfl rfl (by decide) rfl ?_
        refine V_goto 33 dX11_mays_68 (by decide) ?_
        first
        | exact ih (w + 1) (c + 1) (by omega) (by omega) (fun hh => by rw [h1 hh, ct_succ, c_51, if_pos rfl]; congr 1; omega) h2
        | exact ih (w + 1) c (by omega) (by omega) (fun hh => by rw [h1 hh, ct_succ, c_51, if_neg Bool.false_ne_true]; rfl) h2
      ·
        have hx1 : x.toInt ≠ -1 := by rw [← c_56]; rw [nI_toInt (by have := ct_le (alB q n B) w; omega)]; omega
        rw [if_pos c_56.symm] at h2
        rw [h2 hx1]
        refine V_iload dX11_mays_59 rfl ?_
        refine V_iret dX11_mays_61 rfl (Nat.le_of_ble_eq_true rfl) (Nat.le_refl _) (Nat.le_refl _) ?_
        exact ⟨rfl, rfl⟩
theorem s_X11_mays (hd : 30 ≤ d) (h : OKq q n) (hB : Bk (q ^ n) B W m) {x : Int32} : SpP tO MX11_mays (d, 0, 0) [.ref x0, .int x] (xbW x0 d0 e0 tk t0 g0 p0 r0 l0 s0 k0 b0 b1 b2 b3 b4 b5 a0 a1 q n B m W Im) (some (.int (kiV (alB q n B) (q ^ n) x))) := by
  refine eX11_mays [some (.ref x0), some (.int x), none, none, none] rfl (Nat.le_of_ble_eq_true rfl) ?_
  have hN := h.2.2.2.2
  rw [kiV_eq (N := q ^ n) (by omega)]
  refine V_iconst (v := nI 0) dX11_mays_0 (by decide) ?_
  refine V_istore_n dX11_mays_1 (by decide) rfl ?_
  refine V_aload_n dX11_mays_2 rfl ?_
  refine V_get 0 dX11_mays_3 fX11_mays_12 rfl rfl ?_
  refine V_get 1 dX11_mays_6 fX11_mays_86 rfl rfl ?_
  refine V_callVpi0 [2, 3, 4, 5, 6, 7, 8, 9] (s_X1_isFree (d := d - 1) (by omega) h hB) gX11_mays_X1_isFree dX11_mays_9 oX1_isFree rfl rfl rfl rfl (Nat.le_of_ble_eq_true rfl) (by omega) ⟨Nat.le_refl _, Nat.le_refl _⟩ ?_
  first | refine V_if_eq_B 28 dX11_mays_12 (by decide) (fun c_12 => ?_) (fun c_12 => ?_) | refine V_if_eq_N 28 dX11_mays_12 (by decide) (by omega) (fun c_12 => ?_) (fun c_12 => ?_) | refine V_if_eq 28 dX11_mays_12 (by decide) (fun c_12 => ?_) (fun c_12 => ?_)
  ·
    have ha := fun w => alB_fr (w := w) c_12
    refine V_iconst (v := nI 0) dX11_mays_28 (by decide) ?_
    refine V_istore_n dX11_mays_29 (by decide) rfl ?_
    refine V_iconst (v := nI 0) dX11_mays_30 (by decide) ?_
    refine V_istore dX11_mays_31 (by decide) rfl ?_
    first
    | exact l_X11_mays hd h hB (Nat.le_refl _) (q ^ n) 0 0 (by omega) (Nat.le_refl _) (fun hh => by rw [if_pos hh, ct, Nat.sub_zero, Nat.zero_add]) (fun hh => by rw [if_neg hh])
    | exact l_X11_mays hd h hB (Nat.zero_le _) 0 0 0 (by omega) (Nat.le_refl _) (fun hh => by rw [if_pos hh, ct_none ha, ct_none ha]) (fun hh => by rw [if_neg hh, kth_none ha, kth])
  ·
    refine V_aload_n dX11_mays_15 rfl ?_
    refine V_get 0 dX11_mays_16 fX11_mays_12 rfl rfl ?_
    refine V_get 1 dX11_mays_19 fX11_mays_27 rfl rfl ?_
    refine V_get 8 dX11_mays_22 fX11_mays_78 rfl rfl ?_
    refine V_goto 29 dX11_mays_25 (by decide) ?_
    refine V_istore_n dX11_mays_29 (by decide) rfl ?_
    refine V_iconst (v := nI 0) dX11_mays_30 (by decide) ?_
    refine V_istore dX11_mays_31 (by decide) rfl ?_
    first
    | exact l_X11_mays hd h hB (Nat.le_refl _) (q ^ n) 0 0 (by omega) (Nat.le_refl _) (fun hh => by rw [if_pos hh, ct, Nat.sub_zero, Nat.zero_add]) (fun hh => by rw [if_neg hh])
    | exact l_X11_mays hd h hB (Nat.zero_le _) 0 0 0 (by omega) (Nat.le_refl _) (fun hh => by rw [if_pos hh, ct_none ha, ct_none ha]) (fun hh => by rw [if_neg hh, kth_none ha, kth])
theorem s_X11_ring (hd : 30 ≤ d) (h : OKq q n) {x y : Int32} : SpP tO MX11_ring (d, 0, 0) [.ref x0, .int x, .int y] (xaW x0 d0 e0 tk t0 g0 p0 r0 l0 a0 b0 s0 k0 a1 q n) (some (.int (riV q n x y))) := by
  refine eX11_ring [some (.ref x0), some (.int x), some (.int y), none] rfl (Nat.le_of_ble_eq_true rfl) ?_
  have hN := h.2.2.2.2
  unfold riV
  refine V_aload_n dX11_ring_0 rfl ?_
  refine V_get 0 dX11_ring_1 fX11_ring_12 rfl rfl ?_
  refine V_get 1 dX11_ring_4 fX11_ring_27 rfl rfl ?_
  refine V_astore_n dX11_ring_7 (by decide) rfl ?_
  refine V_aload_n dX11_ring_8 rfl ?_
  refine V_iload_n dX11_ring_9 rfl ?_
  refine V_callVpi1 [2, 3] (s_X0_isWord (d := d - 1) (by omega) h) gX11_ring_X0_isWord dX11_ring_10 oX0_isWord rfl rfl rfl rfl (Nat.le_of_ble_eq_true rfl) (by omega) ⟨Nat.le_refl _, Nat.le_refl _⟩ ?_
  first | refine V_if_ne_B 18 dX11_ring_13 (by decide) (fun c_13 => ?_) (fun c_13 => ?_) | refine V_if_ne_N 18 dX11_ring_13 (by decide) (by omega) (fun c_13 => ?_) (fun c_13 => ?_) | refine V_if_ne 18 dX11_ring_13 (by decide) (fun c_13 => ?_) (fun c_13 => ?_)
  ·
    rw [c_13, if_pos rfl]
    obtain ⟨w, hw, rfl⟩ := isW_of c_13
    rw [toNat_nI (by omega)]
    have hle := rLeast_le q n w
    refine V_iload_n dX11_ring_18 rfl ?_
    refine V_tab4 48 54 60 83 89 dX11_ring_19 (by decide) (by decide) (by decide) (by decide) (by decide) (fun c_19 => ?_) (fun c_19 => ?_) (fun c_19 => ?_) (fun c_19 => ?_) (fun c_19 => ?_)
    ·
      rw [if_pos (by omega)]
      refine V_aload_n dX11_ring_48 rfl ?_
      refine V_iload_n dX11_ring_49 rfl ?_
      refine V_callVpi1 [2, 3] (s_X0_ringSize (d := d - 1) (by omega) h hw) gX11_ring_X0_ringSize dX11_ring_50 oX0_ringSize rfl rfl rfl rfl (Nat.le_of_ble_eq_true rfl) (by omega) ⟨Nat.le_refl _, Nat.le_refl _⟩ ?_
      refine V_iret dX11_ring_53 rfl (Nat.le_of_ble_eq_true rfl) (Nat.le_refl _) (Nat.le_refl _) ?_
      exact ⟨rfl, rfl⟩
    ·
      rw [if_neg (by omega), if_pos (by omega)]
      refine V_aload_n dX11_ring_54 rfl ?_
      refine V_iload_n dX11_ring_55 rfl ?_
      refine V_callVpi1 [2, 3] (s_X0_ringLeast (d := d - 1) (by omega) h hw) gX11_ring_X0_ringLeast dX11_ring_56 oX0_ringLeast rfl rfl rfl rfl (Nat.le_of_ble_eq_true rfl) (by omega) ⟨Nat.le_refl _, Nat.le_refl _⟩ ?_
      refine V_iret dX11_ring_59 rfl (Nat.le_of_ble_eq_true rfl) (Nat.le_refl _) (Nat.le_refl _) ?_
      exact ⟨rfl, rfl⟩
    ·
      rw [if_neg (by omega), if_neg (by omega), if_pos (by omega)]
      refine V_aload_n dX11_ring_60 rfl ?_
      refine V_iload_n dX11_ring_61 rfl ?_
      refine V_callVpi1 [2, 3] (s_X0_isWhole (d := d - 1) (by omega) h hw) gX11_ring_X0_isWhole dX11_ring_62 oX0_isWhole rfl rfl rfl rfl (Nat.le_of_ble_eq_true rfl) (by omega) ⟨Nat.le_refl _, Nat.le_refl _⟩ ?_
      first | refine V_if_eq_B 80 dX11_ring_65 (by decide) (fun c_65 => ?_) (fun c_65 => ?_) | refine V_if_eq_N 80 dX11_ring_65 (by decide) (by omega) (fun c_65 => ?_) (fun c_65 => ?_) | refine V_if_eq 80 dX11_ring_65 (by decide) (fun c_65 => ?_) (fun c_65 => ?_)
      ·
        rw [c_65]
        refine V_bipush (v := (-5)) dX11_ring_80 (by decide) ?_
        refine V_iret dX11_ring_82 rfl (Nat.le_of_ble_eq_true rfl) (Nat.le_refl _) (Nat.le_refl _) ?_
        exact ⟨rfl, rfl⟩
      ·
        rw [c_65, if_pos rfl]
        refine V_aload_n dX11_ring_68 rfl ?_
        refine V_aload_n dX11_ring_69 rfl ?_
        refine V_iload_n dX11_ring_70 rfl ?_
        refine V_callVpi1 [2, 3] (s_X0_ringLeast (d := d - 1) (by omega) h hw) gX11_ring_X0_ringLeast dX11_ring_71 oX0_ringLeast rfl rfl rfl rfl (Nat.le_of_ble_eq_true rfl) (by omega) ⟨Nat.le_refl _, Nat.le_refl _⟩ ?_
        refine V_callVpi1 [2, 3] (s_X0_wholeRingsBelow (d := d - 1) (by omega) h (by omega)) gX11_ring_X0_wholeRingsBelow dX11_ring_74 oX0_wholeRingsBelow rfl rfl rfl rfl (Nat.le_of_ble_eq_true rfl) (by omega) ⟨Nat.le_refl _, Nat.le_refl _⟩ ?_
        refine V_goto 82 dX11_ring_77 (by decide) ?_
        refine V_iret dX11_ring_82 rfl (Nat.le_of_ble_eq_true rfl) (Nat.le_refl _) (Nat.le_refl _) ?_
        exact ⟨rfl, rfl⟩
    ·
      rw [if_neg (by omega), if_neg (by omega), if_neg (by omega), if_pos (by omega)]
      refine V_aload_n dX11_ring_83 rfl ?_
      refine V_iload_n dX11_ring_84 rfl ?_
      refine V_callVpi1 [2, 3] (s_X0_turned (d := d - 1) (by omega) h hw) gX11_ring_X0_turned dX11_ring_85 oX0_turned rfl rfl rfl rfl (Nat.le_of_ble_eq_true rfl) (by omega) ⟨Nat.le_refl _, Nat.le_refl _⟩ ?_
      refine V_iret dX11_ring_88 rfl (Nat.le_of_ble_eq_true rfl) (Nat.le_refl _) (Nat.le_refl _) ?_
      exact ⟨rfl, rfl⟩
    ·
      rw [if_neg (by omega), if_neg (by omega), if_neg (by omega), if_neg (by omega)]
      refine V_iconst (v := -1) dX11_ring_89 (by decide) ?_
      refine V_iret dX11_ring_90 rfl (Nat.le_of_ble_eq_true rfl) (Nat.le_refl _) (Nat.le_refl _) ?_
      exact ⟨rfl, rfl⟩
  ·
    rw [c_13]
    refine V_iconst (v := -1) dX11_ring_16 (by decide) ?_
    refine V_iret dX11_ring_17 rfl (Nat.le_of_ble_eq_true rfl) (Nat.le_refl _) (Nat.le_refl _) ?_
    exact ⟨rfl, rfl⟩
theorem s_X11_bound (hd : 30 ≤ d) (h : OKq q n) {x : Int32} : SpP tO MX11_bound (d, 0, 0) [.ref x0, .int x] (xaW x0 d0 e0 tk t0 g0 p0 r0 l0 a0 b0 s0 k0 a1 q n) (some (.int (boV q n x))) := by
  refine eX11_bound [some (.ref x0), some (.int x)] rfl (Nat.le_of_ble_eq_true rfl) ?_
  unfold boV
  refine V_iload_n dX11_bound_0 rfl ?_
  refine V_iconst (v := -1) dX11_bound_1 (by decide) ?_
  refine V_icmp_ne 26 dX11_bound_2 (by decide) (fun c_2 => ?_) (fun c_2 => ?_)
  ·
    rw [if_neg (fun hh => c_2 (z_eqm1.mpr hh))]
    refine V_aload_n dX11_bound_26 rfl ?_
    refine V_get 0 dX11_bound_27 fX11_bound_12 rfl rfl ?_
    refine V_get 1 dX11_bound_30 fX11_bound_27 rfl rfl ?_
    refine V_iload_n dX11_bound_33 rfl ?_
    refine V_callVpi1 [2, 3] (s_X0_wholeRing (d := d - 1) (by omega) h) gX11_bound_X0_wholeRing dX11_bound_34 oX0_wholeRing rfl rfl rfl rfl (Nat.le_of_ble_eq_true rfl) (by omega) ⟨Nat.le_refl _, Nat.le_refl _⟩ ?_
    refine V_iret dX11_bound_37 rfl (Nat.le_of_ble_eq_true rfl) (Nat.le_refl _) (Nat.le_refl _) ?_
    exact ⟨rfl, rfl⟩
  ·
    rw [if_pos (z_eqm1.mp c_2)]
    refine V_aload_n dX11_bound_5 rfl ?_
    refine V_get 0 dX11_bound_6 fX11_bound_12 rfl rfl ?_
    refine V_get 1 dX11_bound_9 fX11_bound_27 rfl rfl ?_
    refine V_aload_n dX11_bound_12 rfl ?_
    refine V_get 0 dX11_bound_13 fX11_bound_12 rfl rfl ?_
    refine V_get 1 dX11_bound_16 fX11_bound_27 rfl rfl ?_
    refine V_get 2 dX11_bound_19 fX11_bound_78 rfl rfl ?_
    refine V_callVpi1 [2, 3] (s_X0_wholeRingsBelow (d := d - 1) (by omega) h (Nat.le_refl _)) gX11_bound_X0_wholeRingsBelow dX11_bound_22 oX0_wholeRingsBelow rfl rfl rfl rfl (Nat.le_of_ble_eq_true rfl) (by omega) ⟨Nat.le_refl _, Nat.le_refl _⟩ ?_
    refine V_iret dX11_bound_25 rfl (Nat.le_of_ble_eq_true rfl) (Nat.le_refl _) (Nat.le_refl _) ?_
    exact ⟨rfl, rfl⟩
theorem s_X11_swapped (hd : 30 ≤ d) (h : OKq q n) {x y : Int32} : SpP tO MX11_swapped (d, 0, 0) [.ref x0, .int x, .int y] (xaW x0 d0 e0 tk t0 g0 p0 r0 l0 a0 b0 s0 k0 a1 q n) (some (.int (swV q n x y))) := by
  refine eX11_swapped [some (.ref x0), some (.int x), some (.int y), none] rfl (Nat.le_of_ble_eq_true rfl) ?_
  have hN := h.2.2.2.2
  have hS := nSw_le h
  unfold swV
  refine V_aload_n dX11_swapped_0 rfl ?_
  refine V_get 0 dX11_swapped_1 fX11_swapped_12 rfl rfl ?_
  refine V_get 1 dX11_swapped_4 fX11_swapped_27 rfl rfl ?_
  refine V_astore_n dX11_swapped_7 (by decide) rfl ?_
  refine V_aload_n dX11_swapped_8 rfl ?_
  refine V_iload_n dX11_swapped_9 rfl ?_
  refine V_callVpi1 [2, 3] (s_X0_isSwap (d := d - 1) (by omega) h) gX11_swapped_X0_isSwap dX11_swapped_10 oX0_isSwap rfl rfl rfl rfl (Nat.le_of_ble_eq_true rfl) (by omega) ⟨Nat.le_refl _, Nat.le_refl _⟩ ?_
  first | refine V_if_eq_B 24 dX11_swapped_13 (by decide) (fun c_13 => ?_) (fun c_13 => ?_) | refine V_if_eq_N 24 dX11_swapped_13 (by decide) (by omega) (fun c_13 => ?_) (fun c_13 => ?_) | refine V_if_eq 24 dX11_swapped_13 (by decide) (fun c_13 => ?_) (fun c_13 => ?_)
  ·
    rw [c_13, Bool.false_and]
    refine V_iconst (v := -1) dX11_swapped_24 (by decide) ?_
    refine V_iret dX11_swapped_25 rfl (Nat.le_of_ble_eq_true rfl) (Nat.le_refl _) (Nat.le_refl _) ?_
    exact ⟨rfl, rfl⟩
  ·
    refine V_aload_n dX11_swapped_16 rfl ?_
    refine V_iload_n dX11_swapped_17 rfl ?_
    refine V_callVpi1 [2, 3] (s_X0_isWord (d := d - 1) (by omega) h) gX11_swapped_X0_isWord dX11_swapped_18 oX0_isWord rfl rfl rfl rfl (Nat.le_of_ble_eq_true rfl) (by omega) ⟨Nat.le_refl _, Nat.le_refl _⟩ ?_
    first | refine V_if_ne_B 26 dX11_swapped_21 (by decide) (fun c_21 => ?_) (fun c_21 => ?_) | refine V_if_ne_N 26 dX11_swapped_21 (by decide) (by omega) (fun c_21 => ?_) (fun c_21 => ?_) | refine V_if_ne 26 dX11_swapped_21 (by decide) (fun c_21 => ?_) (fun c_21 => ?_)
    ·
      rw [c_13, c_21, Bool.and_self, if_pos rfl]
      obtain ⟨s, hs, rfl⟩ := isW_of c_13
      obtain ⟨w, hw, rfl⟩ := isW_of c_21
      rw [toNat_nI (by omega), toNat_nI (by omega)]
      refine V_aload_n dX11_swapped_26 rfl ?_
      refine V_iload_n dX11_swapped_27 rfl ?_
      refine V_iload_n dX11_swapped_28 rfl ?_
      refine V_callVpi2 [2, 3] (s_X0_exchanged (d := d - 1) (by omega) h hs hw) gX11_swapped_X0_exchanged dX11_swapped_29 oX0_exchanged rfl rfl rfl rfl (Nat.le_of_ble_eq_true rfl) (by omega) ⟨Nat.le_refl _, Nat.le_refl _⟩ ?_
      refine V_iret dX11_swapped_32 rfl (Nat.le_of_ble_eq_true rfl) (Nat.le_refl _) (Nat.le_refl _) ?_
      exact ⟨rfl, rfl⟩
    ·
      rw [c_21, Bool.and_false]
      refine V_iconst (v := -1) dX11_swapped_24 (by decide) ?_
      refine V_iret dX11_swapped_25 rfl (Nat.le_of_ble_eq_true rfl) (Nat.le_refl _) (Nat.le_refl _) ?_
      exact ⟨rfl, rfl⟩
theorem s_X11_swap (hd : 30 ≤ d) (h : OKq q n) (hB : Bk (q ^ n) B W m) {x : Int32} : Sp tO MX11_swap (d, 0, 0) [.ref x0, .int x] (xbW x0 d0 e0 tk t0 g0 p0 r0 l0 s0 k0 b0 b1 b2 b3 b4 b5 a0 a1 q n B m W Im) (fun v w' => ∃ W' m' Im', v = some (.int (spV q n B x)) ∧ w' = xbW x0 d0 e0 tk t0 g0 p0 r0 l0 s0 k0 b0 b1 b2 b3 b4 b5 a0 a1 q n (spB q n B x) m' W' Im' ∧ Bk (q ^ n) (spB q n B x) W' m') := by
  refine eX11_swap [some (.ref x0), some (.int x)] rfl (Nat.le_of_ble_eq_true rfl) ?_
  have hN := h.2.2.2.2
  have hS := nSw_le h
  unfold spV spB
  cases hx : isW (nSw q) x with
  | false =>
    refine V_aload_n dX11_swap_0 rfl ?_
    refine V_get 0 dX11_swap_1 fX11_swap_12 rfl rfl ?_
    refine V_get 1 dX11_swap_4 fX11_swap_27 rfl rfl ?_
    refine V_iload_n dX11_swap_7 rfl ?_
    refine V_callVpi1 [8, 9] (s_X0_isSwap (d := d - 1) (by omega) h) gX11_swap_X0_isSwap dX11_swap_8 oX0_isSwap rfl rfl rfl rfl (Nat.le_of_ble_eq_true rfl) (by omega) ⟨Nat.le_refl _, Nat.le_refl _⟩ ?_
    rw [hx]
    first | refine V_if_ne_B 16 dX11_swap_11 (by decide) (fun c_11 => ?_) (fun c_11 => ?_) | refine V_if_ne_N 16 dX11_swap_11 (by decide) (by omega) (fun c_11 => ?_) (fun c_11 => ?_) | refine V_if_ne 16 dX11_swap_11 (by decide) (fun c_11 => ?_) (fun c_11 => ?_)
    ·
      cases c_11
    ·
      refine V_iconst (v := -1) dX11_swap_14 (by decide) ?_
      refine V_iret dX11_swap_15 rfl (Nat.le_of_ble_eq_true rfl) (Nat.le_refl _) (Nat.le_refl _) ?_
      exact ⟨W, m, Im, rfl, rfl, hB⟩
  | true =>
    obtain ⟨s, hs, rfl⟩ := isW_of hx
    rw [if_pos rfl, if_pos rfl, toNat_nI (by omega)]
    refine V_aload_n dX11_swap_0 rfl ?_
    refine V_get 0 dX11_swap_1 fX11_swap_12 rfl rfl ?_
    refine V_get 1 dX11_swap_4 fX11_swap_27 rfl rfl ?_
    refine V_iload_n dX11_swap_7 rfl ?_
    refine V_callVpi1 [8, 9] (s_X0_isSwap (d := d - 1) (by omega) h) gX11_swap_X0_isSwap dX11_swap_8 oX0_isSwap rfl rfl rfl rfl (Nat.le_of_ble_eq_true rfl) (by omega) ⟨Nat.le_refl _, Nat.le_refl _⟩ ?_
    rw [hx]
    first | refine V_if_ne_B 16 dX11_swap_11 (by decide) (fun c_11 => ?_) (fun c_11 => ?_) | refine V_if_ne_N 16 dX11_swap_11 (by decide) (by omega) (fun c_11 => ?_) (fun c_11 => ?_) | refine V_if_ne 16 dX11_swap_11 (by decide) (fun c_11 => ?_) (fun c_11 => ?_)
    ·
      refine V_aload_n dX11_swap_16 rfl ?_
      refine V_get 0 dX11_swap_17 fX11_swap_12 rfl rfl ?_
      refine V_get 1 dX11_swap_20 fX11_swap_86 rfl rfl ?_
      refine V_iload_n dX11_swap_23 rfl ?_
      refine V_callV1 [2, 3, 4, 5, 6, 7, 8, 9] (s_X1_exchange (d := d - 1) (by omega) h hB hs) gX11_swap_X1_exchange dX11_swap_24 oX1_exchange rfl rfl rfl rfl (Nat.le_of_ble_eq_true rfl) (by omega) ⟨Nat.le_refl _, Nat.le_refl _⟩ ?_
      rintro _ _ ⟨W2, m2, Im2, rfl, rfl, hB2⟩
      simp only [zput_n, zput_c, zset_2, zset_3, zset_4, zset_5, zset_6, zset_7, zset_8, zset_9, Option.toList, List.cons_append, List.nil_append]
      refine V_aload_n dX11_swap_27 rfl ?_
      refine V_get 0 dX11_swap_28 fX11_swap_12 rfl rfl ?_
      refine V_get 1 dX11_swap_31 fX11_swap_86 rfl rfl ?_
      refine V_callVpi0 [2] (s_X1_total (d := d - 1) (by omega) ) gX11_swap_X1_total dX11_swap_34 oX1_total rfl rfl rfl rfl (Nat.le_of_ble_eq_true rfl) (by omega) ⟨Nat.le_refl _, Nat.le_refl _⟩ ?_
      refine V_iret dX11_swap_37 rfl (Nat.le_of_ble_eq_true rfl) (Nat.le_refl _) (Nat.le_refl _) ?_
      exact ⟨W2, m2, Im2, by rw [hB2.m hN], rfl, hB2⟩
    ·
      cases c_11
theorem l_X11_keeps (hd : 30 ≤ d) (h : OKq q n) (hB : Bk (q ^ n) B W m) {x : Int32} {z : Int32} : ∀ (f w c : Nat), w + f = nSw q → c ≤ w → (x.toInt = -1 → z = nI (c + (ct (kpB q n B) (nSw q) - ct (kpB q n B) w))) → (x.toInt ≠ -1 → z = kth (kpB q n B) x f w c) → V tO MX11_keeps (d, 0, 0) (xbW x0 d0 e0 tk t0 g0 p0 r0 l0 s0 k0 b0 b1 b2 b3 b4 b5 a0 a1 q n B m W Im) (fun v w' => v = some (.int z) ∧ w' = xbW x0 d0 e0 tk t0 g0 p0 r0 l0 s0 k0 b0 b1 b2 b3 b4 b5 a0 a1 q n B m W Im) (0, 0) (xbW x0 d0 e0 tk t0 g0 p0 r0 l0 s0 k0 b0 b1 b2 b3 b4 b5 a0 a1 q n B m W Im) 16 [some (.ref x0), some (.int x), some (.int (nI c)), some (.int (nI (nSw q))), some (.int (nI w))] [] := by
  have hN := h.2.2.2.2
  have hS := nSw_le h
  intro f
  induction f with
  | zero =>
    intro w c hw hcw h1 h2
    have e1 : w = nSw q := by omega
    rw [e1, Nat.sub_self, Nat.add_zero] at h1
    rw [kth] at h2
    refine V_iload dX11_keeps_16 rfl ?_
    refine V_iload_n dX11_keeps_18 rfl ?_
    refine V_icmp_ge_N 54 dX11_keeps_19 (by decide) (by omega) (by omega) (fun c_19 => ?_) (fun c_19 => absurd c_19 (by omega))
    refine V_iload_n dX11_keeps_54 rfl ?_
    refine V_iconst (v := -1) dX11_keeps_55 (by decide) ?_
    refine V_icmp_ne 63 dX11_keeps_56 (by decide) (fun c_56 => ?_) (fun c_56 => ?_)
    ·
      rw [h2 (fun hh => c_56 (z_eqm1.mpr hh))]
      refine V_bipush (v := (-5)) dX11_keeps_63 (by decide) ?_
      refine V_iret dX11_keeps_65 rfl (Nat.le_of_ble_eq_true rfl) (Nat.le_refl _) (Nat.le_refl _) ?_
      exact ⟨rfl, rfl⟩
    ·
      rw [h1 (z_eqm1.mp c_56)]
      refine V_iload_n dX11_keeps_59 rfl ?_
      refine V_goto 65 dX11_keeps_60 (by decide) ?_
      refine V_iret dX11_keeps_65 rfl (Nat.le_of_ble_eq_true rfl) (Nat.le_refl _) (Nat.le_refl _) ?_
      exact ⟨rfl, rfl⟩
  | succ f ih =>
    intro w c hw hcw h1 h2
    have hm := ct_mono (kpB q n B) (w + 1) (nSw q - (w + 1))
    rw [show w + 1 + (nSw q - (w + 1)) = nSw q by omega] at hm
    rw [ct_succ] at hm
    refine V_iload dX11_keeps_16 rfl ?_
    refine V_iload_n dX11_keeps_18 rfl ?_
    refine V_icmp_ge_N 54 dX11_keeps_19 (by decide) (by omega) (by omega) (fun c_19 => absurd c_19 (by omega)) (fun c_19 => ?_)
    refine V_aload_n dX11_keeps_22 rfl ?_
    refine V_get 0 dX11_keeps_23 fX11_keeps_12 rfl rfl ?_
    refine V_get 1 dX11_keeps_26 fX11_keeps_86 rfl rfl ?_
    refine V_iload dX11_keeps_29 rfl ?_
    refine V_callVpi1 [2, 3, 4, 5, 6, 7, 8, 9] (s_X1_isKeptBy (d := d - 1) (by omega) h hB (by omega)) gX11_keeps_X1_isKeptBy dX11_keeps_31 oX1_isKeptBy rfl rfl rfl rfl (Nat.le_of_ble_eq_true rfl) (by omega) ⟨Nat.le_refl _, Nat.le_refl _⟩ ?_
    refine V_if_eq_B (b := kpB q n B w) 48 dX11_keeps_34 (by decide) (fun c_34 => ?_) (fun c_34 => ?_)
    ·
      rw [kth, if_neg (by rw [c_34]; exact Bool.false_ne_true)] at h2
      first | refine V_iinc_N (i := 1) dX11_keeps_48 rfl (by decide) rfl ?_ | refine V_iinc dX11_keeps_48 rfl rfl (by decide) rfl ?_
      refine V_goto 16 dX11_keeps_51 (by decide) ?_
      first
      | exact ih (w + 1) (c + 1) (by omega) (by omega) (fun hh => by rw [h1 hh, ct_succ, c_34, if_pos rfl]; congr 1; omega) h2
      | exact ih (w + 1) c (by omega) (by omega) (fun hh => by rw [h1 hh, ct_succ, c_34, if_neg Bool.false_ne_true]; rfl) h2
    ·
      rw [kth, if_pos c_34] at h2
      rw [c_34, if_pos rfl] at hm
      refine V_iload_n dX11_keeps_37 rfl ?_
      refine V_iload_n dX11_keeps_38 rfl ?_
      refine V_icmp_ne 45 dX11_keeps_39 (by decide) (fun c_39 => ?_) (fun c_39 => ?_)
      ·
        rw [if_neg (fun hh => c_39 hh.symm)] at h2
        first | refine V_iinc_N (i := 1) dX11_keeps_45 rfl (by decide) rfl ?_ | refine V_iinc dX11_keeps_45 rfl rfl (by decide) rfl ?_
        first | refine V_iinc_N (i := 1) dX11_keeps_48 rfl (by decide) rfl ?_ | refine V_iinc dX11_keeps_48 rfl rfl (by decide) rfl ?_
        refine V_goto 16 dX11_keeps_51 (by decide) ?_
        first
        | exact ih (w + 1) (c + 1) (by omega) (by omega) (fun hh => by rw [h1 hh, ct_succ, c_34, if_pos rfl]; congr 1; omega) h2
        | exact ih (w + 1) c (by omega) (by omega) (fun hh => by rw [h1 hh, ct_succ, c_34, if_neg Bool.false_ne_true]; rfl) h2
      ·
        have hx1 : x.toInt ≠ -1 := by rw [← c_39]; rw [nI_toInt (by have := ct_le (kpB q n B) w; omega)]; omega
        rw [if_pos c_39.symm] at h2
        rw [h2 hx1]
        refine V_iload dX11_keeps_42 rfl ?_
        refine V_iret dX11_keeps_44 rfl (Nat.le_of_ble_eq_true rfl) (Nat.le_refl _) (Nat.le_refl _) ?_
        exact ⟨rfl, rfl⟩
theorem s_X11_keeps (hd : 30 ≤ d) (h : OKq q n) (hB : Bk (q ^ n) B W m) {x : Int32} : SpP tO MX11_keeps (d, 0, 0) [.ref x0, .int x] (xbW x0 d0 e0 tk t0 g0 p0 r0 l0 s0 k0 b0 b1 b2 b3 b4 b5 a0 a1 q n B m W Im) (some (.int (kiV (kpB q n B) (nSw q) x))) := by
  refine eX11_keeps [some (.ref x0), some (.int x), none, none, none] rfl (Nat.le_of_ble_eq_true rfl) ?_
  have hS := nSw_le h
  rw [kiV_eq (N := nSw q) (by omega)]
  refine V_iconst (v := nI 0) dX11_keeps_0 (by decide) ?_
  refine V_istore_n dX11_keeps_1 (by decide) rfl ?_
  refine V_aload_n dX11_keeps_2 rfl ?_
  refine V_get 0 dX11_keeps_3 fX11_keeps_12 rfl rfl ?_
  refine V_get 1 dX11_keeps_6 fX11_keeps_27 rfl rfl ?_
  refine V_callVpi0 [8, 9] (s_X0_swaps (d := d - 1) (by omega) h) gX11_keeps_X0_swaps dX11_keeps_9 oX0_swaps rfl rfl rfl rfl (Nat.le_of_ble_eq_true rfl) (by omega) ⟨Nat.le_refl _, Nat.le_refl _⟩ ?_
  refine V_istore_n dX11_keeps_12 (by decide) rfl ?_
  refine V_iconst (v := nI 0) dX11_keeps_13 (by decide) ?_
  refine V_istore dX11_keeps_14 (by decide) rfl ?_
  exact l_X11_keeps hd h hB (nSw q) 0 0 (by omega) (Nat.le_refl _) (fun hh => by rw [if_pos hh, ct, Nat.sub_zero, Nat.zero_add]) (fun hh => by rw [if_neg hh])
end PUB2

