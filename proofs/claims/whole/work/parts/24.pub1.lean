/-! what calls answer, as functions of the book -/
def adV (q n : Nat) (B : Nat → Bool) (x : Int32) : Int32 := if isW (q ^ n) x then (if B x.toInt.toNat then -3 else nI (ct (insB B x.toInt.toNat) 256)) else -1
def adB (q n : Nat) (B : Nat → Bool) (x : Int32) : Nat → Bool := if isW (q ^ n) x then insB B x.toInt.toNat else B
def dpV (q n : Nat) (B : Nat → Bool) (x : Int32) : Int32 := if isW (q ^ n) x then (if B x.toInt.toNat then nI (ct (delB B x.toInt.toNat) 256) else -3) else -1
def dpB (q n : Nat) (B : Nat → Bool) (x : Int32) : Nat → Bool := if isW (q ^ n) x then delB B x.toInt.toNat else B
def woV (B : Nat → Bool) (x : Int32) : Int32 := if isW (ct B 256) x then nI (eB B x.toInt.toNat) else -5
def leV (q n : Nat) (x y : Int32) : Int32 := if isW (q ^ n) x && isW n y then nI (wLt q n x.toInt.toNat y.toInt.toNat) else -1
def hiP (q n u v w : Nat) : Nat → Bool := fun k => decide (1 ≤ k ∧ wAc q n u v k = w)
def hiV (q n : Nat) (x y z : Int32) : Int32 := if isW (q ^ n) x && (isW (q ^ n) y && isW (q ^ n) z) then nI (btN (hiP q n x.toInt.toNat y.toInt.toNat z.toInt.toNat) n) else -1
noncomputable def clT (q n : Nat) (B : Nat → Bool) : Nat × Nat × Nat := @dite _ (∃ t : Nat × Nat × Nat, IsCl q n B t.1 t.2.1 t.2.2) (Classical.propDecidable _) (fun h => Classical.choose h) (fun _ => (0, 0, 0))
noncomputable def clX (q n : Nat) (B : Nat → Bool) (x : Int32) : Int32 := if isW 4 x then (if frB q n B then -5 else nI (clV q n (clT q n B).1 (clT q n B).2.1 (clT q n B).2.2 x.toInt.toNat)) else -1
noncomputable def maV (q n : Nat) (B : Nat → Bool) (x : Int32) : Int32 := if isW (q ^ n) x then bI (alB q n B x.toInt.toNat) else -1
/-- how many are so, or the i-th of them -/
def kiV (p : Nat → Bool) (N : Nat) (x : Int32) : Int32 := if x.toInt < -1 then -5 else if x.toInt = -1 then nI (ct p N) else kth p x N 0 0
def riV (q n : Nat) (x y : Int32) : Int32 := if isW (q ^ n) x then (if y.toInt = 0 then nI (rSize q n x.toInt.toNat) else if y.toInt = 1 then nI (rLeast q n x.toInt.toNat) else if y.toInt = 2 then (if rWh q n x.toInt.toNat then nI (ct (rRi q n) (rLeast q n x.toInt.toNat)) else -5) else if y.toInt = 3 then nI (wTu q n x.toInt.toNat) else -1) else -1
def boV (q n : Nat) (x : Int32) : Int32 := if x.toInt = -1 then nI (ct (rRi q n) (q ^ n)) else kth (rRi q n) x (q ^ n) 0 0
def swV (q n : Nat) (x y : Int32) : Int32 := if isW (nSw q) x && isW (q ^ n) y then nI (wEx q n x.toInt.toNat y.toInt.toNat) else -1
noncomputable def spB (q n : Nat) (B : Nat → Bool) (x : Int32) : Nat → Bool := if isW (nSw q) x then imB q n x.toInt.toNat B else B
noncomputable def spV (q n : Nat) (B : Nat → Bool) (x : Int32) : Int32 := if isW (nSw q) x then nI (ct (imB q n x.toInt.toNat B) 256) else -1
noncomputable def kpB (q n : Nat) (B : Nat → Bool) (s : Nat) : Bool := dB (∀ w, B w = true → B (wEx q n s w) = true)
theorem nb_t {b : Bool} (h : (!b) = true) : b = false := by cases b <;> simp_all
theorem nb_f {b : Bool} (h : (!b) = false) : b = true := by cases b <;> simp_all
theorem toNat_nI {w : Nat} (h : w < 2 ^ 31) : (nI w).toInt.toNat = w := by rw [nI_toInt h, Int.toNat_natCast]
theorem Fr_sub {q n w : Nat} {B : Nat → Bool} (h : Fr q n (insB B w)) : Fr q n B := by
  intro u v k h1 h2 h3 h4
  have := h u v k (insB_of h1) (insB_of h2) h3 h4
  unfold insB at this
  rw [Bool.or_eq_false_iff] at this
  exact this.1
theorem alB_fr {q n w : Nat} {B : Nat → Bool} (h : frB q n B = false) : alB q n B w = false := dB_f.mpr (fun hh => dB_f.mp h (Fr_sub hh.2.2))
theorem ct_none {p : Nat → Bool} (h : ∀ w, p w = false) : ∀ m, ct p m = 0
  | 0 => rfl
  | m + 1 => by rw [ct_succ, ct_none h m, h m]; rfl
theorem kth_none {p : Nat → Bool} {x : Int32} (h : ∀ w, p w = false) : ∀ f w c, kth p x f w c = -5
  | 0, _, _ => rfl
  | f + 1, w, c => by rw [kth, h w, if_neg Bool.false_ne_true, kth_none h f]
theorem least_ex {p : Nat → Prop} (h : ∃ k, p k) : ∃ k, p k ∧ ∀ j, j < k → ¬ p j := pk_least p h
theorem IsCl_ex {q n : Nat} {B : Nat → Bool} (h : ¬ Fr q n B) : ∃ t : Nat × Nat × Nat, IsCl q n B t.1 t.2.1 t.2.2 := by
  have h1 : ∃ u, B u = true ∧ ∃ v, B v = true ∧ ∃ k, 1 ≤ k ∧ k < n ∧ B (wAc q n u v k) = true := by
    apply Classical.byContradiction
    intro hn
    apply h
    intro u v k a b c d
    apply Bool.eq_false_iff.mpr
    intro e
    exact hn ⟨u, a, v, b, k, c, d, e⟩
  obtain ⟨u, ⟨hu, h2⟩, hum⟩ := least_ex h1
  obtain ⟨v, ⟨hv, h3⟩, hvm⟩ := least_ex h2
  obtain ⟨k, ⟨k1, k2, k3⟩, hkm⟩ := least_ex h3
  refine ⟨(u, v, k), hu, hv, k1, k2, k3, ?_, ?_, ?_⟩
  · intro i a b
    apply Bool.eq_false_iff.mpr
    intro e
    exact hkm i b ⟨a, by dsimp only at b; omega, e⟩
  · intro v' a b i c d
    apply Bool.eq_false_iff.mpr
    intro e
    exact hvm v' b ⟨a, i, c, d, e⟩
  · intro u' a b v' c i d e
    apply Bool.eq_false_iff.mpr
    intro f
    exact hum u' b ⟨a, v', c, i, d, e, f⟩
theorem clT_is {q n : Nat} {B : Nat → Bool} (h : frB q n B = false) : IsCl q n B (clT q n B).1 (clT q n B).2.1 (clT q n B).2.2 := by
  have h1 := IsCl_ex (dB_f.mp h)
  unfold clT
  rw [dif_pos h1]
  exact Classical.choose_spec h1
abbrev obX (x0 d0 e0 : Nat) (tk : Bool) (t0 g0 p0 r0 l0 : Nat) : Nat × zE := (x0, oB 9 [.ref d0, .ref e0, .int (bI tk), .ref t0, .ref g0, .ref p0, .ref r0, .ref l0])
abbrev obD (d0 a0 b0 s0 k0 : Nat) : Nat × zE := (d0, oB 2 [.ref a0, .ref b0, .ref s0, .ref k0])
section PUB1
variable {tO d q n x0 d0 e0 t0 g0 p0 r0 l0 s0 k0 b0 b1 b2 b3 b4 b5 a0 a1 m : Nat} {tk : Bool} {W Im : Nat → Int32} {B : Nat → Bool}
abbrev xaW (x0 d0 e0 : Nat) (tk : Bool) (t0 g0 p0 r0 l0 a0 b0 s0 k0 a1 q n : Nat) : zW := [obX x0 d0 e0 tk t0 g0 p0 r0 l0, obD d0 a0 b0 s0 k0, (a0, oB 0 [.ref a1, .int (nI q), .int (nI n), .int (nI (q ^ n))]), (a1, aI 6 (pwF q))]
abbrev xbW (x0 d0 e0 : Nat) (tk : Bool) (t0 g0 p0 r0 l0 s0 k0 b0 b1 b2 b3 b4 b5 a0 a1 q n : Nat) (B : Nat → Bool) (m : Nat) (W Im : Nat → Int32) : zW := [obX x0 d0 e0 tk t0 g0 p0 r0 l0, obD d0 a0 b0 s0 k0, obB b0 b1 b2 b3 b4 b5 a0 m, (b1, aI 256 W), (b2, aZ 256 (hdF B)), (b3, aI 256 Im), (b4, aI 162 (opF q n B)), (b5, aI 162 (enF q n B)), (a0, oB 0 [.ref a1, .int (nI q), .int (nI n), .int (nI (q ^ n))]), (a1, aI 6 (pwF q))]
theorem s_X11_add (hd : 30 ≤ d) (h : OKq q n) (hB : Bk (q ^ n) B W m) {x : Int32} : Sp tO MX11_add (d, 0, 0) [.ref x0, .int x] (xbW x0 d0 e0 tk t0 g0 p0 r0 l0 s0 k0 b0 b1 b2 b3 b4 b5 a0 a1 q n B m W Im) (fun v w' => ∃ W' m', v = some (.int (adV q n B x)) ∧ w' = xbW x0 d0 e0 tk t0 g0 p0 r0 l0 s0 k0 b0 b1 b2 b3 b4 b5 a0 a1 q n (adB q n B x) m' W' Im ∧ Bk (q ^ n) (adB q n B x) W' m') := by
  refine eX11_add [some (.ref x0), some (.int x)] rfl (Nat.le_of_ble_eq_true rfl) ?_
  have hN := h.2.2.2.2
  unfold adV adB
  cases hx : isW (q ^ n) x with
  | false =>
    refine V_aload_n dX11_add_0 rfl ?_
    refine V_get 0 dX11_add_1 fX11_add_12 rfl rfl ?_
    refine V_get 1 dX11_add_4 fX11_add_27 rfl rfl ?_
    refine V_iload_n dX11_add_7 rfl ?_
    refine V_callVpi1 [8, 9] (s_X0_isWord (d := d - 1) (by omega) h) gX11_add_X0_isWord dX11_add_8 oX0_isWord rfl rfl rfl rfl (Nat.le_of_ble_eq_true rfl) (by omega) ⟨Nat.le_refl _, Nat.le_refl _⟩ ?_
    rw [hx]
    first | refine V_if_ne_B 16 dX11_add_11 (by decide) (fun c_11 => ?_) (fun c_11 => ?_) | refine V_if_ne_N 16 dX11_add_11 (by decide) (by omega) (fun c_11 => ?_) (fun c_11 => ?_) | refine V_if_ne 16 dX11_add_11 (by decide) (fun c_11 => ?_) (fun c_11 => ?_)
    ·
      cases c_11
    ·
      refine V_iconst (v := -1) dX11_add_14 (by decide) ?_
      refine V_iret dX11_add_15 rfl (Nat.le_of_ble_eq_true rfl) (Nat.le_refl _) (Nat.le_refl _) ?_
      exact ⟨W, m, rfl, rfl, hB⟩
  | true =>
    obtain ⟨w, hw, rfl⟩ := isW_of hx
    rw [if_pos rfl, if_pos rfl, toNat_nI (by omega)]
    refine V_aload_n dX11_add_0 rfl ?_
    refine V_get 0 dX11_add_1 fX11_add_12 rfl rfl ?_
    refine V_get 1 dX11_add_4 fX11_add_27 rfl rfl ?_
    refine V_iload_n dX11_add_7 rfl ?_
    refine V_callVpi1 [8, 9] (s_X0_isWord (d := d - 1) (by omega) h) gX11_add_X0_isWord dX11_add_8 oX0_isWord rfl rfl rfl rfl (Nat.le_of_ble_eq_true rfl) (by omega) ⟨Nat.le_refl _, Nat.le_refl _⟩ ?_
    rw [hx]
    first | refine V_if_ne_B 16 dX11_add_11 (by decide) (fun c_11 => ?_) (fun c_11 => ?_) | refine V_if_ne_N 16 dX11_add_11 (by decide) (by omega) (fun c_11 => ?_) (fun c_11 => ?_) | refine V_if_ne 16 dX11_add_11 (by decide) (fun c_11 => ?_) (fun c_11 => ?_)
    ·
      refine V_aload_n dX11_add_16 rfl ?_
      refine V_get 0 dX11_add_17 fX11_add_12 rfl rfl ?_
      refine V_get 1 dX11_add_20 fX11_add_86 rfl rfl ?_
      refine V_iload_n dX11_add_23 rfl ?_
      refine V_callV1 [2, 3, 4, 5, 6, 7, 8, 9] (s_X1_include (d := d - 1) (by omega) h hB hw) gX11_add_X1_include dX11_add_24 oX1_include rfl rfl rfl rfl (Nat.le_of_ble_eq_true rfl) (by omega) ⟨Nat.le_refl _, Nat.le_refl _⟩ ?_
      rintro _ _ ⟨W2, m2, rfl, rfl, hB2⟩
      simp only [zput_n, zput_c, zset_2, zset_3, zset_4, zset_5, zset_6, zset_7, zset_8, zset_9, Option.toList, List.cons_append, List.nil_append]
      refine V_if_eq_B 43 dX11_add_27 (by decide) (fun c_27 => ?_) (fun c_27 => ?_)
      ·
        refine V_bipush (v := (-3)) dX11_add_43 (by decide) ?_
        refine V_iret dX11_add_45 rfl (Nat.le_of_ble_eq_true rfl) (Nat.le_refl _) (Nat.le_refl _) ?_
        first
        | exact ⟨W2, m2, by rw [nb_f c_27]; rfl, rfl, hB2⟩
        | exact ⟨W2, m2, by rw [nb_t c_27, if_neg Bool.false_ne_true, hB2.m hN], rfl, hB2⟩
      ·
        refine V_aload_n dX11_add_30 rfl ?_
        refine V_get 0 dX11_add_31 fX11_add_12 rfl rfl ?_
        refine V_get 1 dX11_add_34 fX11_add_86 rfl rfl ?_
        refine V_callVpi0 [2] (s_X1_total (d := d - 1) (by omega) ) gX11_add_X1_total dX11_add_37 oX1_total rfl rfl rfl rfl (Nat.le_of_ble_eq_true rfl) (by omega) ⟨Nat.le_refl _, Nat.le_refl _⟩ ?_
        refine V_goto 45 dX11_add_40 (by decide) ?_
        refine V_iret dX11_add_45 rfl (Nat.le_of_ble_eq_true rfl) (Nat.le_refl _) (Nat.le_refl _) ?_
        first
        | exact ⟨W2, m2, by rw [nb_f c_27]; rfl, rfl, hB2⟩
        | exact ⟨W2, m2, by rw [nb_t c_27, if_neg Bool.false_ne_true, hB2.m hN], rfl, hB2⟩
    ·
      cases c_11
theorem s_X11_drop (hd : 30 ≤ d) (h : OKq q n) (hB : Bk (q ^ n) B W m) {x : Int32} : Sp tO MX11_drop (d, 0, 0) [.ref x0, .int x] (xbW x0 d0 e0 tk t0 g0 p0 r0 l0 s0 k0 b0 b1 b2 b3 b4 b5 a0 a1 q n B m W Im) (fun v w' => ∃ W' m', v = some (.int (dpV q n B x)) ∧ w' = xbW x0 d0 e0 tk t0 g0 p0 r0 l0 s0 k0 b0 b1 b2 b3 b4 b5 a0 a1 q n (dpB q n B x) m' W' Im ∧ Bk (q ^ n) (dpB q n B x) W' m') := by
  refine eX11_drop [some (.ref x0), some (.int x)] rfl (Nat.le_of_ble_eq_true rfl) ?_
  have hN := h.2.2.2.2
  unfold dpV dpB
  cases hx : isW (q ^ n) x with
  | false =>
    refine V_aload_n dX11_drop_0 rfl ?_
    refine V_get 0 dX11_drop_1 fX11_drop_12 rfl rfl ?_
    refine V_get 1 dX11_drop_4 fX11_drop_27 rfl rfl ?_
    refine V_iload_n dX11_drop_7 rfl ?_
    refine V_callVpi1 [8, 9] (s_X0_isWord (d := d - 1) (by omega) h) gX11_drop_X0_isWord dX11_drop_8 oX0_isWord rfl rfl rfl rfl (Nat.le_of_ble_eq_true rfl) (by omega) ⟨Nat.le_refl _, Nat.le_refl _⟩ ?_
    rw [hx]
    first | refine V_if_ne_B 16 dX11_drop_11 (by decide) (fun c_11 => ?_) (fun c_11 => ?_) | refine V_if_ne_N 16 dX11_drop_11 (by decide) (by omega) (fun c_11 => ?_) (fun c_11 => ?_) | refine V_if_ne 16 dX11_drop_11 (by decide) (fun c_11 => ?_) (fun c_11 => ?_)
    ·
      cases c_11
    ·
      refine V_iconst (v := -1) dX11_drop_14 (by decide) ?_
      refine V_iret dX11_drop_15 rfl (Nat.le_of_ble_eq_true rfl) (Nat.le_refl _) (Nat.le_refl _) ?_
      exact ⟨W, m, rfl, rfl, hB⟩
  | true =>
    obtain ⟨w, hw, rfl⟩ := isW_of hx
    rw [if_pos rfl, if_pos rfl, toNat_nI (by omega)]
    refine V_aload_n dX11_drop_0 rfl ?_
    refine V_get 0 dX11_drop_1 fX11_drop_12 rfl rfl ?_
    refine V_get 1 dX11_drop_4 fX11_drop_27 rfl rfl ?_
    refine V_iload_n dX11_drop_7 rfl ?_
    refine V_callVpi1 [8, 9] (s_X0_isWord (d := d - 1) (by omega) h) gX11_drop_X0_isWord dX11_drop_8 oX0_isWord rfl rfl rfl rfl (Nat.le_of_ble_eq_true rfl) (by omega) ⟨Nat.le_refl _, Nat.le_refl _⟩ ?_
    rw [hx]
    first | refine V_if_ne_B 16 dX11_drop_11 (by decide) (fun c_11 => ?_) (fun c_11 => ?_) | refine V_if_ne_N 16 dX11_drop_11 (by decide) (by omega) (fun c_11 => ?_) (fun c_11 => ?_) | refine V_if_ne 16 dX11_drop_11 (by decide) (fun c_11 => ?_) (fun c_11 => ?_)
    ·
      refine V_aload_n dX11_drop_16 rfl ?_
      refine V_get 0 dX11_drop_17 fX11_drop_12 rfl rfl ?_
      refine V_get 1 dX11_drop_20 fX11_drop_86 rfl rfl ?_
      refine V_iload_n dX11_drop_23 rfl ?_
      refine V_callV1 [2, 3, 4, 5, 6, 7, 8, 9] (s_X1_exclude (d := d - 1) (by omega) h hB (by omega)) gX11_drop_X1_exclude dX11_drop_24 oX1_exclude rfl rfl rfl rfl (Nat.le_of_ble_eq_true rfl) (by omega) ⟨Nat.le_refl _, Nat.le_refl _⟩ ?_
      rintro _ _ ⟨W2, m2, rfl, rfl, hB2⟩
      simp only [zput_n, zput_c, zset_2, zset_3, zset_4, zset_5, zset_6, zset_7, zset_8, zset_9, Option.toList, List.cons_append, List.nil_append]
      refine V_if_eq_B 43 dX11_drop_27 (by decide) (fun c_27 => ?_) (fun c_27 => ?_)
      ·
        refine V_bipush (v := (-3)) dX11_drop_43 (by decide) ?_
        refine V_iret dX11_drop_45 rfl (Nat.le_of_ble_eq_true rfl) (Nat.le_refl _) (Nat.le_refl _) ?_
        first
        | exact ⟨W2, m2, by rw [c_27, if_pos rfl, hB2.m hN], rfl, hB2⟩
        | exact ⟨W2, m2, by rw [c_27]; rfl, rfl, hB2⟩
      ·
        refine V_aload_n dX11_drop_30 rfl ?_
        refine V_get 0 dX11_drop_31 fX11_drop_12 rfl rfl ?_
        refine V_get 1 dX11_drop_34 fX11_drop_86 rfl rfl ?_
        refine V_callVpi0 [2] (s_X1_total (d := d - 1) (by omega) ) gX11_drop_X1_total dX11_drop_37 oX1_total rfl rfl rfl rfl (Nat.le_of_ble_eq_true rfl) (by omega) ⟨Nat.le_refl _, Nat.le_refl _⟩ ?_
        refine V_goto 45 dX11_drop_40 (by decide) ?_
        refine V_iret dX11_drop_45 rfl (Nat.le_of_ble_eq_true rfl) (Nat.le_refl _) (Nat.le_refl _) ?_
        first
        | exact ⟨W2, m2, by rw [c_27, if_pos rfl, hB2.m hN], rfl, hB2⟩
        | exact ⟨W2, m2, by rw [c_27]; rfl, rfl, hB2⟩
    ·
      cases c_11
theorem s_X11_clear (hd : 30 ≤ d) (h : OKq q n) (hB : Bk (q ^ n) B W m) : SpF tO MX11_clear (d, 0, 0) [.ref x0] (xbW x0 d0 e0 tk t0 g0 p0 r0 l0 s0 k0 b0 b1 b2 b3 b4 b5 a0 a1 q n B m W Im) (some (.int (nI (ct B 256)))) (xbW x0 d0 e0 tk t0 g0 p0 r0 l0 s0 k0 b0 b1 b2 b3 b4 b5 a0 a1 q n (fun _ => false) 0 W Im) := by
  refine eX11_clear [some (.ref x0), none] rfl (Nat.le_of_ble_eq_true rfl) ?_
  rw [hB.m h.2.2.2.2]
  refine V_aload_n dX11_clear_0 rfl ?_
  refine V_get 0 dX11_clear_1 fX11_clear_12 rfl rfl ?_
  refine V_get 1 dX11_clear_4 fX11_clear_86 rfl rfl ?_
  refine V_callVpi0 [2] (s_X1_total (d := d - 1) (by omega) ) gX11_clear_X1_total dX11_clear_7 oX1_total rfl rfl rfl rfl (Nat.le_of_ble_eq_true rfl) (by omega) ⟨Nat.le_refl _, Nat.le_refl _⟩ ?_
  refine V_istore_n dX11_clear_10 (by decide) rfl ?_
  refine V_aload_n dX11_clear_11 rfl ?_
  refine V_get 0 dX11_clear_12 fX11_clear_12 rfl rfl ?_
  refine V_get 1 dX11_clear_15 fX11_clear_86 rfl rfl ?_
  refine V_callVfv0 [2, 3, 4, 5, 6, 7, 8, 9] (s_X1_empty (d := d - 1) (by omega) h.2.2.2.2 hB) gX11_clear_X1_empty dX11_clear_18 oX1_empty rfl rfl rfl rfl (Nat.le_of_ble_eq_true rfl) (by omega) ⟨Nat.le_refl _, Nat.le_refl _⟩ ?_
  simp only [zput_n, zput_c, zset_2, zset_3, zset_4, zset_5, zset_6, zset_7, zset_8, zset_9]
  refine V_iload_n dX11_clear_21 rfl ?_
  refine V_iret dX11_clear_22 rfl (Nat.le_of_ble_eq_true rfl) (Nat.le_refl _) (Nat.le_refl _) ?_
  exact ⟨rfl, rfl⟩
theorem s_X11_word (hd : 30 ≤ d) (h : OKq q n) (hB : Bk (q ^ n) B W m) {x : Int32} : SpP tO MX11_word (d, 0, 0) [.ref x0, .int x] (xbW x0 d0 e0 tk t0 g0 p0 r0 l0 s0 k0 b0 b1 b2 b3 b4 b5 a0 a1 q n B m W Im) (some (.int (woV B x))) := by
  refine eX11_word [some (.ref x0), some (.int x)] rfl (Nat.le_of_ble_eq_true rfl) ?_
  have hN := h.2.2.2.2
  have hm := hB.len
  unfold woV
  rw [hB.m hN]
  refine V_aload_n dX11_word_0 rfl ?_
  refine V_get 0 dX11_word_1 fX11_word_12 rfl rfl ?_
  refine V_get 1 dX11_word_4 fX11_word_86 rfl rfl ?_
  refine V_iload_n dX11_word_7 rfl ?_
  refine V_callVpi1 [2] (s_X1_has (d := d - 1) (by omega) (by omega)) gX11_word_X1_has dX11_word_8 oX1_has rfl rfl rfl rfl (Nat.le_of_ble_eq_true rfl) (by omega) ⟨Nat.le_refl _, Nat.le_refl _⟩ ?_
  first | refine V_if_eq_B 28 dX11_word_11 (by decide) (fun c_11 => ?_) (fun c_11 => ?_) | refine V_if_eq_N 28 dX11_word_11 (by decide) (by omega) (fun c_11 => ?_) (fun c_11 => ?_) | refine V_if_eq 28 dX11_word_11 (by decide) (fun c_11 => ?_) (fun c_11 => ?_)
  ·
    rw [c_11]
    refine V_bipush (v := (-5)) dX11_word_28 (by decide) ?_
    refine V_iret dX11_word_30 rfl (Nat.le_of_ble_eq_true rfl) (Nat.le_refl _) (Nat.le_refl _) ?_
    exact ⟨rfl, rfl⟩
  ·
    obtain ⟨i, hi, rfl⟩ := isW_of c_11
    rw [c_11, if_pos rfl, toNat_nI (by omega), ← hB.w hN hi]
    refine V_aload_n dX11_word_14 rfl ?_
    refine V_get 0 dX11_word_15 fX11_word_12 rfl rfl ?_
    refine V_get 1 dX11_word_18 fX11_word_86 rfl rfl ?_
    refine V_iload_n dX11_word_21 rfl ?_
    refine V_callVpi1 [2, 3] (s_X1_nth (d := d - 1) (by omega) (by omega)) gX11_word_X1_nth dX11_word_22 oX1_nth rfl rfl rfl rfl (Nat.le_of_ble_eq_true rfl) (by omega) ⟨Nat.le_refl _, Nat.le_refl _⟩ ?_
    refine V_goto 30 dX11_word_25 (by decide) ?_
    refine V_iret dX11_word_30 rfl (Nat.le_of_ble_eq_true rfl) (Nat.le_refl _) (Nat.le_refl _) ?_
    exact ⟨rfl, rfl⟩
theorem s_X11_letter (hd : 30 ≤ d) (h : OKq q n) {x y : Int32} : SpP tO MX11_letter (d, 0, 0) [.ref x0, .int x, .int y] (xaW x0 d0 e0 tk t0 g0 p0 r0 l0 a0 b0 s0 k0 a1 q n) (some (.int (leV q n x y))) := by
  refine eX11_letter [some (.ref x0), some (.int x), some (.int y), none] rfl (Nat.le_of_ble_eq_true rfl) ?_
  have hN := h.2.2.2.2
  have hn := h.2.2.2.1
  unfold leV
  refine V_aload_n dX11_letter_0 rfl ?_
  refine V_get 0 dX11_letter_1 fX11_letter_12 rfl rfl ?_
  refine V_get 1 dX11_letter_4 fX11_letter_27 rfl rfl ?_
  refine V_astore_n dX11_letter_7 (by decide) rfl ?_
  refine V_aload_n dX11_letter_8 rfl ?_
  refine V_iload_n dX11_letter_9 rfl ?_
  refine V_callVpi1 [2, 3] (s_X0_isWord (d := d - 1) (by omega) h) gX11_letter_X0_isWord dX11_letter_10 oX0_isWord rfl rfl rfl rfl (Nat.le_of_ble_eq_true rfl) (by omega) ⟨Nat.le_refl _, Nat.le_refl _⟩ ?_
  first | refine V_if_eq_B 28 dX11_letter_13 (by decide) (fun c_13 => ?_) (fun c_13 => ?_) | refine V_if_eq_N 28 dX11_letter_13 (by decide) (by omega) (fun c_13 => ?_) (fun c_13 => ?_) | refine V_if_eq 28 dX11_letter_13 (by decide) (fun c_13 => ?_) (fun c_13 => ?_)
  ·
    rw [c_13, Bool.false_and]
    refine V_iconst (v := -1) dX11_letter_28 (by decide) ?_
    refine V_iret dX11_letter_29 rfl (Nat.le_of_ble_eq_true rfl) (Nat.le_refl _) (Nat.le_refl _) ?_
    exact ⟨rfl, rfl⟩
  ·
    refine V_iload_n dX11_letter_16 rfl ?_
    refine V_if_lt 28 dX11_letter_17 (by decide) (fun c_17 => ?_) (fun c_17 => ?_)
    ·
      rw [z_lt0] at c_17
      rw [show isW n y = false by unfold isW; exact decide_eq_false (by omega), Bool.and_false]
      refine V_iconst (v := -1) dX11_letter_28 (by decide) ?_
      refine V_iret dX11_letter_29 rfl (Nat.le_of_ble_eq_true rfl) (Nat.le_refl _) (Nat.le_refl _) ?_
      exact ⟨rfl, rfl⟩
    ·
      rw [z_lt0] at c_17
      refine V_iload_n dX11_letter_20 rfl ?_
      refine V_aload_n dX11_letter_21 rfl ?_
      refine V_get 2 dX11_letter_22 fX11_letter_109 rfl rfl ?_
      refine V_icmp_lt 30 dX11_letter_25 (by decide) (fun c_25 => ?_) (fun c_25 => ?_)
      ·
        rw [z_lt (by omega)] at c_25
        have hy : isW n y = true := by unfold isW; exact decide_eq_true (by omega)
        rw [c_13, hy, Bool.and_self, if_pos rfl]
        obtain ⟨w, hw, rfl⟩ := isW_of c_13
        obtain ⟨i, hi, rfl⟩ := isW_of hy
        rw [toNat_nI (by omega), toNat_nI (by omega)]
        refine V_aload_n dX11_letter_30 rfl ?_
        refine V_iload_n dX11_letter_31 rfl ?_
        refine V_iload_n dX11_letter_32 rfl ?_
        refine V_iconst (v := nI 1) dX11_letter_33 (by decide) ?_
        refine V_callVpi3 [2, 3] (s_X0_part (d := d - 1) (by omega) h hw hi) gX11_letter_X0_part dX11_letter_34 oX0_part rfl rfl rfl rfl (Nat.le_of_ble_eq_true rfl) (by omega) ⟨Nat.le_refl _, Nat.le_refl _⟩ ?_
        refine V_iret dX11_letter_37 rfl (Nat.le_of_ble_eq_true rfl) (Nat.le_refl _) (Nat.le_refl _) ?_
        exact ⟨rfl, rfl⟩
      ·
        rw [z_lt (by omega)] at c_25
        rw [show isW n y = false by unfold isW; exact decide_eq_false (by omega), Bool.and_false]
        refine V_iconst (v := -1) dX11_letter_28 (by decide) ?_
        refine V_iret dX11_letter_29 rfl (Nat.le_of_ble_eq_true rfl) (Nat.le_refl _) (Nat.le_refl _) ?_
        exact ⟨rfl, rfl⟩
theorem l_X11_hides (hd : 30 ≤ d) (h : OKq q n) {u v w : Nat} (hu : u < q ^ n) (hv : v < q ^ n) (hw : w < q ^ n) : ∀ (f k : Nat), k + f = n → 1 ≤ k → V tO MX11_hides (d, 0, 0) (xaW x0 d0 e0 tk t0 g0 p0 r0 l0 a0 b0 s0 k0 a1 q n) (fun v' w' => v' = some (.int (nI (btN (hiP q n u v w) n))) ∧ w' = xaW x0 d0 e0 tk t0 g0 p0 r0 l0 a0 b0 s0 k0 a1 q n) (0, 0) (xaW x0 d0 e0 tk t0 g0 p0 r0 l0 a0 b0 s0 k0 a1 q n) 44 [some (.ref x0), some (.int (nI u)), some (.int (nI v)), some (.int (nI w)), some (.ref a0), some (.int (nI (btN (hiP q n u v w) k))), some (.int (nI k))] [] := by
  have hN := h.2.2.2.2
  have hn := h.2.2.2.1
  intro f
  induction f with
  | zero =>
    intro k hk hk1
    have e : k = n := by omega
    subst e
    refine V_iload dX11_hides_44 rfl ?_
    refine V_aload dX11_hides_46 rfl ?_
    refine V_get 2 dX11_hides_48 fX11_hides_109 rfl rfl ?_
    refine V_icmp_ge_N 82 dX11_hides_51 (by decide) (by omega) (by omega) (fun c_51 => ?_) (fun c_51 => absurd c_51 (by omega))
    refine V_iload dX11_hides_82 rfl ?_
    refine V_iret dX11_hides_84 rfl (Nat.le_of_ble_eq_true rfl) (Nat.le_refl _) (Nat.le_refl _) ?_
    exact ⟨rfl, rfl⟩
  | succ f ih =>
    intro k hk hk1
    have i1 := ih (k + 1) (by omega) (by omega)
    rw [btN] at i1
    have hl := wAc_lt (u := u) h (show k ≤ n by omega) hv
    refine V_iload dX11_hides_44 rfl ?_
    refine V_aload dX11_hides_46 rfl ?_
    refine V_get 2 dX11_hides_48 fX11_hides_109 rfl rfl ?_
    refine V_icmp_ge_N 82 dX11_hides_51 (by decide) (by omega) (by omega) (fun c_51 => absurd c_51 (by omega)) (fun c_51 => ?_)
    refine V_aload dX11_hides_54 rfl ?_
    refine V_iload_n dX11_hides_56 rfl ?_
    refine V_iload_n dX11_hides_57 rfl ?_
    refine V_iload dX11_hides_58 rfl ?_
    refine V_callVpi3 [2, 3] (s_X0_across (d := d - 1) (by omega) h hu hv (by omega)) gX11_hides_X0_across dX11_hides_60 oX0_across rfl rfl rfl rfl (Nat.le_of_ble_eq_true rfl) (by omega) ⟨Nat.le_refl _, Nat.le_refl _⟩ ?_
    refine V_iload_n dX11_hides_63 rfl ?_
    first | refine V_icmp_ne_N 76 dX11_hides_64 (by decide) (by omega) (by omega) (fun c_64 => ?_) (fun c_64 => ?_) | refine V_icmp_ne 76 dX11_hides_64 (by decide) (fun c_64 => ?_) (fun c_64 => ?_)
    ·
      rw [show hiP q n u v w k = false by unfold hiP; exact decide_eq_false (fun hh => c_64 hh.2), if_neg Bool.false_ne_true] at i1
      first | refine V_iinc_N (i := 1) dX11_hides_76 rfl (by decide) rfl ?_ | refine V_iinc dX11_hides_76 rfl rfl (by decide) rfl ?_
      refine V_goto 44 dX11_hides_79 (by decide) ?_
      exact i1
    ·
      rw [show hiP q n u v w k = true by unfold hiP; exact decide_eq_true ⟨hk1, c_64⟩, if_pos rfl] at i1
      refine V_iload dX11_hides_67 rfl ?_
      refine V_iconst (v := nI 1) dX11_hides_69 (by decide) ?_
      refine V_iload dX11_hides_70 rfl ?_
      refine V_ishl dX11_hides_72 ?_
      refine V_to (nI_shl1 k (by omega)) ?_
      refine V_ior dX11_hides_73 ?_
      refine V_to btN_or ?_
      refine V_istore dX11_hides_74 (by decide) rfl ?_
      first | refine V_iinc_N (i := 1) dX11_hides_76 rfl (by decide) rfl ?_ | refine V_iinc dX11_hides_76 rfl rfl (by decide) rfl ?_
      refine V_goto 44 dX11_hides_79 (by decide) ?_
      exact i1
theorem s_X11_hides (hd : 30 ≤ d) (h : OKq q n) {x y z : Int32} : SpP tO MX11_hides (d, 0, 0) [.ref x0, .int x, .int y, .int z] (xaW x0 d0 e0 tk t0 g0 p0 r0 l0 a0 b0 s0 k0 a1 q n) (some (.int (hiV q n x y z))) := by
  refine eX11_hides [some (.ref x0), some (.int x), some (.int y), some (.int z), none, none, none] rfl (Nat.le_of_ble_eq_true rfl) ?_
  have hN := h.2.2.2.2
  have hn := h.2.2.1
  unfold hiV
  refine V_aload_n dX11_hides_0 rfl ?_
  refine V_get 0 dX11_hides_1 fX11_hides_12 rfl rfl ?_
  refine V_get 1 dX11_hides_4 fX11_hides_27 rfl rfl ?_
  refine V_astore dX11_hides_7 (by decide) rfl ?_
  refine V_aload dX11_hides_9 rfl ?_
  refine V_iload_n dX11_hides_11 rfl ?_
  refine V_callVpi1 [2, 3] (s_X0_isWord (d := d - 1) (by omega) h) gX11_hides_X0_isWord dX11_hides_12 oX0_isWord rfl rfl rfl rfl (Nat.le_of_ble_eq_true rfl) (by omega) ⟨Nat.le_refl _, Nat.le_refl _⟩ ?_
  first | refine V_if_eq_B 36 dX11_hides_15 (by decide) (fun c_15 => ?_) (fun c_15 => ?_) | refine V_if_eq_N 36 dX11_hides_15 (by decide) (by omega) (fun c_15 => ?_) (fun c_15 => ?_) | refine V_if_eq 36 dX11_hides_15 (by decide) (fun c_15 => ?_) (fun c_15 => ?_)
  ·
    rw [c_15, Bool.false_and]
    refine V_iconst (v := -1) dX11_hides_36 (by decide) ?_
    refine V_iret dX11_hides_37 rfl (Nat.le_of_ble_eq_true rfl) (Nat.le_refl _) (Nat.le_refl _) ?_
    exact ⟨rfl, rfl⟩
  ·
    refine V_aload dX11_hides_18 rfl ?_
    refine V_iload_n dX11_hides_20 rfl ?_
    refine V_callVpi1 [2, 3] (s_X0_isWord (d := d - 1) (by omega) h) gX11_hides_X0_isWord dX11_hides_21 oX0_isWord rfl rfl rfl rfl (Nat.le_of_ble_eq_true rfl) (by omega) ⟨Nat.le_refl _, Nat.le_refl _⟩ ?_
    first | refine V_if_eq_B 36 dX11_hides_24 (by decide) (fun c_24 => ?_) (fun c_24 => ?_) | refine V_if_eq_N 36 dX11_hides_24 (by decide) (by omega) (fun c_24 => ?_) (fun c_24 => ?_) | refine V_if_eq 36 dX11_hides_24 (by decide) (fun c_24 => ?_) (fun c_24 => ?_)
    ·
      rw [c_24, Bool.false_and, Bool.and_false]
      refine V_iconst (v := -1) dX11_hides_36 (by decide) ?_
      refine V_iret dX11_hides_37 rfl (Nat.le_of_ble_eq_true rfl) (Nat.le_refl _) (Nat.le_refl _) ?_
      exact ⟨rfl, rfl⟩
    ·
      refine V_aload dX11_hides_27 rfl ?_
      refine V_iload_n dX11_hides_29 rfl ?_
      refine V_callVpi1 [2, 3] (s_X0_isWord (d := d - 1) (by omega) h) gX11_hides_X0_isWord dX11_hides_30 oX0_isWord rfl rfl rfl rfl (Nat.le_of_ble_eq_true rfl) (by omega) ⟨Nat.le_refl _, Nat.le_refl _⟩ ?_
      first | refine V_if_ne_B 38 dX11_hides_33 (by decide) (fun c_33 => ?_) (fun c_33 => ?_) | refine V_if_ne_N 38 dX11_hides_33 (by decide) (by omega) (fun c_33 => ?_) (fun c_33 => ?_) | refine V_if_ne 38 dX11_hides_33 (by decide) (fun c_33 => ?_) (fun c_33 => ?_)
      ·
        rw [c_15, c_24, c_33, Bool.and_self, Bool.and_self, if_pos rfl]
        obtain ⟨u, hu, rfl⟩ := isW_of c_15
        obtain ⟨v, hv, rfl⟩ := isW_of c_24
        obtain ⟨w, hw, rfl⟩ := isW_of c_33
        rw [toNat_nI (by omega), toNat_nI (by omega), toNat_nI (by omega)]
        refine V_iconst (v := nI 0) dX11_hides_38 (by decide) ?_
        refine V_istore dX11_hides_39 (by decide) rfl ?_
        refine V_iconst (v := nI 1) dX11_hides_41 (by decide) ?_
        refine V_istore dX11_hides_42 (by decide) rfl ?_
        have i1 := l_X11_hides (tO := tO) (d := d) (x0 := x0) (d0 := d0) (e0 := e0) (tk := tk) (t0 := t0) (g0 := g0) (p0 := p0) (r0 := r0) (l0 := l0) (a0 := a0) (b0 := b0) (s0 := s0) (k0 := k0) (a1 := a1) hd h hu hv hw (n - 1) 1 (by omega) (by omega)
        exact i1
      ·
        rw [c_33, Bool.and_false, Bool.and_false]
        refine V_iconst (v := -1) dX11_hides_36 (by decide) ?_
        refine V_iret dX11_hides_37 rfl (Nat.le_of_ble_eq_true rfl) (Nat.le_refl _) (Nat.le_refl _) ?_
        exact ⟨rfl, rfl⟩
theorem s_X11_clash (hd : 30 ≤ d) (h : OKq q n) (hB : Bk (q ^ n) B W m) {x : Int32} : SpP tO MX11_clash (d, 0, 0) [.ref x0, .int x] (xbW x0 d0 e0 tk t0 g0 p0 r0 l0 s0 k0 b0 b1 b2 b3 b4 b5 a0 a1 q n B m W Im) (some (.int (clX q n B x))) := by
  refine eX11_clash [some (.ref x0), some (.int x)] rfl (Nat.le_of_ble_eq_true rfl) ?_
  unfold clX
  refine V_iload_n dX11_clash_0 rfl ?_
  refine V_if_lt 9 dX11_clash_1 (by decide) (fun c_1 => ?_) (fun c_1 => ?_)
  ·
    rw [z_lt0] at c_1
    rw [show isW 4 x = false by unfold isW; exact decide_eq_false (by omega)]
    refine V_iconst (v := -1) dX11_clash_9 (by decide) ?_
    refine V_iret dX11_clash_10 rfl (Nat.le_of_ble_eq_true rfl) (Nat.le_refl _) (Nat.le_refl _) ?_
    exact ⟨rfl, rfl⟩
  ·
    rw [z_lt0] at c_1
    refine V_iload_n dX11_clash_4 rfl ?_
    refine V_iconst (v := nI 3) dX11_clash_5 (by decide) ?_
    refine V_icmp_le 11 dX11_clash_6 (by decide) (fun c_6 => ?_) (fun c_6 => ?_)
    ·
      rw [z_le (by decide)] at c_6
      have hx : isW 4 x = true := by unfold isW; exact decide_eq_true (by omega)
      rw [hx, if_pos rfl]
      obtain ⟨c, hc, rfl⟩ := isW_of hx
      rw [toNat_nI (by omega)]
      refine V_aload_n dX11_clash_11 rfl ?_
      refine V_get 0 dX11_clash_12 fX11_clash_12 rfl rfl ?_
      refine V_get 1 dX11_clash_15 fX11_clash_86 rfl rfl ?_
      refine V_callVpi0 [2, 3, 4, 5, 6, 7, 8, 9] (s_X1_isFree (d := d - 1) (by omega) h hB) gX11_clash_X1_isFree dX11_clash_18 oX1_isFree rfl rfl rfl rfl (Nat.le_of_ble_eq_true rfl) (by omega) ⟨Nat.le_refl _, Nat.le_refl _⟩ ?_
      first | refine V_if_eq_B 29 dX11_clash_21 (by decide) (fun c_21 => ?_) (fun c_21 => ?_) | refine V_if_eq_N 29 dX11_clash_21 (by decide) (by omega) (fun c_21 => ?_) (fun c_21 => ?_) | refine V_if_eq 29 dX11_clash_21 (by decide) (fun c_21 => ?_) (fun c_21 => ?_)
      ·
        rw [c_21]
        refine V_aload_n dX11_clash_29 rfl ?_
        refine V_get 0 dX11_clash_30 fX11_clash_12 rfl rfl ?_
        refine V_get 1 dX11_clash_33 fX11_clash_86 rfl rfl ?_
        refine V_iload_n dX11_clash_36 rfl ?_
        refine V_callVpi1 [2, 3, 4, 5, 6, 7, 8, 9] (s_X1_firstClash (d := d - 1) (by omega) h hB (clT_is c_21) (by omega)) gX11_clash_X1_firstClash dX11_clash_37 oX1_firstClash rfl rfl rfl rfl (Nat.le_of_ble_eq_true rfl) (by omega) ⟨Nat.le_refl _, Nat.le_refl _⟩ ?_
        refine V_iret dX11_clash_40 rfl (Nat.le_of_ble_eq_true rfl) (Nat.le_refl _) (Nat.le_refl _) ?_
        exact ⟨rfl, rfl⟩
      ·
        rw [c_21]
        refine V_bipush (v := (-5)) dX11_clash_24 (by decide) ?_
        refine V_goto 40 dX11_clash_26 (by decide) ?_
        refine V_iret dX11_clash_40 rfl (Nat.le_of_ble_eq_true rfl) (Nat.le_refl _) (Nat.le_refl _) ?_
        exact ⟨rfl, rfl⟩
    ·
      rw [z_le (by decide)] at c_6
      rw [show isW 4 x = false by unfold isW; exact decide_eq_false (by omega)]
      refine V_iconst (v := -1) dX11_clash_9 (by decide) ?_
      refine V_iret dX11_clash_10 rfl (Nat.le_of_ble_eq_true rfl) (Nat.le_refl _) (Nat.le_refl _) ?_
      exact ⟨rfl, rfl⟩
theorem s_X11_may (hd : 30 ≤ d) (h : OKq q n) (hB : Bk (q ^ n) B W m) {x : Int32} : SpP tO MX11_may (d, 0, 0) [.ref x0, .int x] (xbW x0 d0 e0 tk t0 g0 p0 r0 l0 s0 k0 b0 b1 b2 b3 b4 b5 a0 a1 q n B m W Im) (some (.int (maV q n B x))) := by
  refine eX11_may [some (.ref x0), some (.int x)] rfl (Nat.le_of_ble_eq_true rfl) ?_
  have hN := h.2.2.2.2
  unfold maV
  refine V_aload_n dX11_may_0 rfl ?_
  refine V_get 0 dX11_may_1 fX11_may_12 rfl rfl ?_
  refine V_get 1 dX11_may_4 fX11_may_27 rfl rfl ?_
  refine V_iload_n dX11_may_7 rfl ?_
  refine V_callVpi1 [8, 9] (s_X0_isWord (d := d - 1) (by omega) h) gX11_may_X0_isWord dX11_may_8 oX0_isWord rfl rfl rfl rfl (Nat.le_of_ble_eq_true rfl) (by omega) ⟨Nat.le_refl _, Nat.le_refl _⟩ ?_
  first | refine V_if_ne_B 16 dX11_may_11 (by decide) (fun c_11 => ?_) (fun c_11 => ?_) | refine V_if_ne_N 16 dX11_may_11 (by decide) (by omega) (fun c_11 => ?_) (fun c_11 => ?_) | refine V_if_ne 16 dX11_may_11 (by decide) (fun c_11 => ?_) (fun c_11 => ?_)
  ·
    rw [c_11, if_pos rfl]
    obtain ⟨w, hw, rfl⟩ := isW_of c_11
    rw [toNat_nI (by omega)]
    refine V_aload_n dX11_may_16 rfl ?_
    refine V_get 0 dX11_may_17 fX11_may_12 rfl rfl ?_
    refine V_get 1 dX11_may_20 fX11_may_86 rfl rfl ?_
    refine V_iload_n dX11_may_23 rfl ?_
    refine V_callVpi1 [2, 3, 4, 5, 6, 7, 8, 9] (s_X1_allows (d := d - 1) (by omega) h hB (by omega)) gX11_may_X1_allows dX11_may_24 oX1_allows rfl rfl rfl rfl (Nat.le_of_ble_eq_true rfl) (by omega) ⟨Nat.le_refl _, Nat.le_refl _⟩ ?_
    first | refine V_if_eq_B 34 dX11_may_27 (by decide) (fun c_27 => ?_) (fun c_27 => ?_) | refine V_if_eq_N 34 dX11_may_27 (by decide) (by omega) (fun c_27 => ?_) (fun c_27 => ?_) | refine V_if_eq 34 dX11_may_27 (by decide) (fun c_27 => ?_) (fun c_27 => ?_)
    ·
      refine V_iconst (v := nI 0) dX11_may_34 (by decide) ?_
      refine V_iret dX11_may_35 rfl (Nat.le_of_ble_eq_true rfl) (Nat.le_refl _) (Nat.le_refl _) ?_
      exact ⟨by rw [c_27]; rfl, rfl⟩
    ·
      refine V_iconst (v := nI 1) dX11_may_30 (by decide) ?_
      refine V_goto 35 dX11_may_31 (by decide) ?_
      refine V_iret dX11_may_35 rfl (Nat.le_of_ble_eq_true rfl) (Nat.le_refl _) (Nat.le_refl _) ?_
      exact ⟨by rw [c_27]; rfl, rfl⟩
  ·
    rw [c_11]
    refine V_iconst (v := -1) dX11_may_14 (by decide) ?_
    refine V_iret dX11_may_15 rfl (Nat.le_of_ble_eq_true rfl) (Nat.le_refl _) (Nat.le_refl _) ?_
    exact ⟨rfl, rfl⟩
end PUB1

