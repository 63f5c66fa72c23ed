/-! the model: greatest books -/
def rnT (q n w : Nat) : Nat := (rgT q n).findIdx (fun R => R.contains w)
def whT (q n w : Nat) : Bool := (rgT q n).any (fun R => R.contains w)
theorem wh_all : ∀ x ∈ smL, ∀ w, w < x.1 ^ x.2 → whT x.1 x.2 w = true → (rWh x.1 x.2 w = true ∧ ct (rRi x.1 x.2) (rLeast x.1 x.2 w) = rnT x.1 x.2 w) ∧ rnT x.1 x.2 w < nK x.1 x.2 := by decide +kernel
theorem wh_sw_all : ∀ x ∈ smL, ∀ s, s < nSw x.1 → ∀ w, w < x.1 ^ x.2 → whT x.1 x.2 w = true → whT x.1 x.2 (wEx x.1 x.2 s w) = true := by decide +kernel
theorem hd_all : ∀ x ∈ smL, ∀ r, r < (rgT x.1 x.2).length → (kth (rRi x.1 x.2) (nI r) (x.1 ^ x.2) 0 0 = nI (((rgT x.1 x.2).getD r []).headD 0) ∧ ((rgT x.1 x.2).getD r []).headD 0 < x.1 ^ x.2) ∧ (List.range' (((rgT x.1 x.2).getD r []).headD 0) (x.1 ^ x.2 - ((rgT x.1 x.2).getD r []).headD 0)).filter (fun w => rLeast x.1 x.2 w == ((rgT x.1 x.2).getD r []).headD 0) = (rgT x.1 x.2).getD r [] ∧ ((rgT x.1 x.2).getD r []).length ≤ 5 := by decide +kernel
def lsR (q n s : Nat) (pk : Nat → Nat) : Nat → Nat → Nat
  | 0 => fun _ => 256
  | r + 1 => if pk r < 256 then updN (lsR q n s pk r) (rnT q n (wEx q n s (pk r))) (wEx q n s (pk r)) else lsR q n s pk r
def ahF (ls pk : Nat → Nat) : Nat → Nat → Bool
  | 0, _ => false
  | f + 1, r => if ls r = pk r then ahF ls pk f (r + 1) else decide (ls r < pk r)
def ahB (q n K : Nat) (pk : Nat → Nat) (s : Nat) : Bool := ahF (lsR q n s pk K) pk K 0
def fiR (q n K : Nat) (pk : Nat → Nat) : Nat → Bool
  | 0 => true
  | s + 1 => fiR q n K pk s && !ahB q n K pk s
def fiB (q n K : Nat) (ps : List Nat) : Bool := fiR q n K (fun i => ps.getD i 256) (nSw q)
theorem fiR_f {q n K s : Nat} {pk : Nat → Nat} (h : fiR q n K pk s = false) : ∀ k, fiR q n K pk (s + k) = false
  | 0 => h
  | k + 1 => by rw [← Nat.add_assoc, fiR, fiR_f h k, Bool.false_and]
theorem lsR_le {q n s : Nat} {pk : Nat → Nat} (h : OKq q n) (hs : q ^ n ≤ 32) (hsw : s < nSw q) : ∀ r j, lsR q n s pk r j ≤ 256
  | 0, j => Nat.le_refl _
  | r + 1, j => by
    rw [lsR]
    split
    · unfold updN
      have := wEx_lt (w := pk r) h hsw
      split
      · omega
      · exact lsR_le h hs hsw r j
    · exact lsR_le h hs hsw r j
section GREAT2
variable {tO d m0 : Nat} {A : Nat → Nat} {q n cut rows kq kn kc kr fd wn : Nat} {kt yw : Bool} {cu cv ck rm mo bo ki wa wr fo : Int32} {B KB : Nat → Bool} {Wb R KR P KP Od Ig Pk Lt Lk Rd Nx Tp Pa Wy Sz It : Nat → Int32}
def PkOK (q n K : Nat) (Pk : Nat → Int32) (pk : Nat → Nat) : Prop := ∀ r, r < K → Pk r = nI (pk r) ∧ (pk r = 256 ∨ (pk r < q ^ n ∧ whT q n (pk r) = true))
theorem ring2 {q n w : Nat} (h : OKq q n) (hs : q ^ n ≤ 32) (hw : w < q ^ n) (hh : whT q n w = true) : riV q n (nI w) (nI 2) = nI (rnT q n w) := by
  obtain ⟨⟨h1, h2⟩, -⟩ := wh_all (q, n) (h.sm hs) w hw hh
  unfold riV
  rw [isW_nI (by omega), decide_eq_true hw, if_pos rfl, nI_toInt (by decide), toNat_nI (by omega)]
  rw [if_neg (by decide), if_neg (by decide), if_pos (by decide), if_pos h1]
  exact congrArg nI h2
theorem l_X12_isAhead1 {K : Nat} (hK : K ≤ 8) {x1 : Int32} {w0 : zW} {Q : zPo} (next : ∀ Lc, (∀ j, j < K → Lc j = nI 256) → V tO MX12_isAhead (d, 0, 0) w0 Q (0, 0) [obM m0 A q n cut rows kq kn kc kr kt cu cv ck (nI K) mo bo ki wa wr fo fd wn yw, (A 7, aI 4 Od), (A 9, aI 32 Pk), (A 10, aI 32 Lc)] 25 [some (.ref m0), some (.int x1), none, none] []) : ∀ (f i : Nat) (Lc : Nat → Int32), i + f = K → (∀ j, j < i → Lc j = nI 256) → V tO MX12_isAhead (d, 0, 0) w0 Q (0, 0) [obM m0 A q n cut rows kq kn kc kr kt cu cv ck (nI K) mo bo ki wa wr fo fd wn yw, (A 7, aI 4 Od), (A 9, aI 32 Pk), (A 10, aI 32 Lc)] 2 [some (.ref m0), some (.int x1), some (.int (nI i)), none] [] := by
  intro f
  induction f with
  | zero =>
    intro i Lc hi hL
    refine V_iload_n dX12_isAhead_2 rfl ?_
    refine V_aload_n dX12_isAhead_3 rfl ?_
    refine V_get 0 dX12_isAhead_4 fX12_isAhead_178 rfl rfl ?_
    refine V_icmp_ge_N 25 dX12_isAhead_7 (by decide) (by omega) (by omega) (fun c_7 => ?_) (fun c_7 => absurd c_7 (by omega))
    exact V_wk _ (by exact ⟨rfl, rfl, trivial, trivial, trivial⟩) (next Lc (fun j hj => hL j (by omega)))
  | succ f ih =>
    intro i Lc hi hL
    refine V_iload_n dX12_isAhead_2 rfl ?_
    refine V_aload_n dX12_isAhead_3 rfl ?_
    refine V_get 0 dX12_isAhead_4 fX12_isAhead_178 rfl rfl ?_
    refine V_icmp_ge_N 25 dX12_isAhead_7 (by decide) (by omega) (by omega) (fun c_7 => absurd c_7 (by omega)) (fun c_7 => ?_)
    refine V_aload_n dX12_isAhead_10 rfl ?_
    refine V_get 0 dX12_isAhead_11 fX12_isAhead_50 rfl rfl ?_
    refine V_iload_n dX12_isAhead_14 rfl ?_
    refine V_sipush (v := nI 256) dX12_isAhead_15 (by decide) ?_
    refine V_iast_N 3 dX12_isAhead_18 rfl (by omega) (by first | decide | omega) ?_
    first | refine V_iinc_N (i := 1) dX12_isAhead_19 rfl (by decide) rfl ?_ | refine V_iinc dX12_isAhead_19 rfl rfl (by decide) rfl ?_
    refine V_goto 2 dX12_isAhead_22 (by decide) ?_
    exact ih (i + 1) _ (by omega) (fun j hj => upd_fill hL hj)
theorem l_X12_isAhead2 (hd : 8 ≤ d) (h : OKq q n) (hs : q ^ n ≤ 32) {K s : Nat} (hK : K ≤ 8) (hKn : K = nK q n) (hsw : s < nSw q) {pk : Nat → Nat} (hP : PkOK q n K Pk pk) {w0 : zW} {Q : zPo} (next : ∀ Lc Oc, (∀ j, j < K → Lc j = nI (lsR q n s pk K j)) → V tO MX12_isAhead (d, 0, 0) w0 Q (0, 0) [obM m0 A q n cut rows kq kn kc kr kt cu cv ck (nI K) mo bo ki wa wr fo fd wn yw, (A 7, aI 4 Oc), (A 9, aI 32 Pk), (A 10, aI 32 Lc)] 77 [some (.ref m0), some (.int (nI s)), none, none] []) : ∀ (f r : Nat) (Lc Oc : Nat → Int32), r + f = K → (∀ j, j < K → Lc j = nI (lsR q n s pk r j)) → V tO MX12_isAhead (d, 0, 0) w0 Q (0, 0) [obM m0 A q n cut rows kq kn kc kr kt cu cv ck (nI K) mo bo ki wa wr fo fd wn yw, (A 7, aI 4 Oc), (A 9, aI 32 Pk), (A 10, aI 32 Lc)] 27 [some (.ref m0), some (.int (nI s)), some (.int (nI r)), none] [] := by
  intro f
  induction f with
  | zero =>
    intro r Lc Oc hr hL
    have e : r = K := by omega
    subst e
    refine V_iload_n dX12_isAhead_27 rfl ?_
    refine V_aload_n dX12_isAhead_28 rfl ?_
    refine V_get 0 dX12_isAhead_29 fX12_isAhead_178 rfl rfl ?_
    refine V_icmp_ge_N 77 dX12_isAhead_32 (by decide) (by omega) (by omega) (fun c_32 => ?_) (fun c_32 => absurd c_32 (by omega))
    exact V_wk _ (by exact ⟨rfl, rfl, trivial, trivial, trivial⟩) (next Lc Oc hL)
  | succ f ih =>
    intro r Lc Oc hr hL
    obtain ⟨p1, p2⟩ := hP r (by omega)
    have hp256 : pk r ≤ 256 := by rcases p2 with e | e <;> omega
    refine V_iload_n dX12_isAhead_27 rfl ?_
    refine V_aload_n dX12_isAhead_28 rfl ?_
    refine V_get 0 dX12_isAhead_29 fX12_isAhead_178 rfl rfl ?_
    refine V_icmp_ge_N 77 dX12_isAhead_32 (by decide) (by omega) (by omega) (fun c_32 => absurd c_32 (by omega)) (fun c_32 => ?_)
    refine V_aload_n dX12_isAhead_35 rfl ?_
    refine V_get 0 dX12_isAhead_36 fX12_isAhead_47 rfl rfl ?_
    refine V_iload_n dX12_isAhead_39 rfl ?_
    refine V_iald_N 2 dX12_isAhead_40 rfl (by omega) (by first | decide | omega) ?_
    refine V_to p1 ?_
    refine V_sipush (v := nI 256) dX12_isAhead_41 (by decide) ?_
    refine V_icmp_ge_N 71 dX12_isAhead_44 (by decide) (by omega) (by decide) (fun c_44 => ?_) (fun c_44 => ?_)
    ·
      have i1 := ih (r + 1) Lc Oc (by omega) (fun j hj => by rw [lsR, if_neg (by omega)]; exact hL j hj)
      first | refine V_iinc_N (i := 1) dX12_isAhead_71 rfl (by decide) rfl ?_ | refine V_iinc dX12_isAhead_71 rfl rfl (by decide) rfl ?_
      refine V_goto 27 dX12_isAhead_74 (by decide) ?_
      exact V_wk _ (by exact ⟨rfl, rfl, rfl, trivial, trivial⟩) i1
    ·
      have p3 : pk r < q ^ n ∧ whT q n (pk r) = true := p2.resolve_left (by omega)
      have hto := wEx_lt (w := pk r) h hsw
      have hwt : whT q n (wEx q n s (pk r)) = true := wh_sw_all (q, n) (h.sm hs) s hsw (pk r) p3.1 p3.2
      have hrn : rnT q n (wEx q n s (pk r)) < nK q n := (wh_all (q, n) (h.sm hs) _ hto hwt).2
      have hri := ring2 h hs hto hwt
      refine V_aload_n dX12_isAhead_47 rfl ?_
      refine V_iload_n dX12_isAhead_48 rfl ?_
      refine V_aload_n dX12_isAhead_49 rfl ?_
      refine V_get 0 dX12_isAhead_50 fX12_isAhead_47 rfl rfl ?_
      refine V_iload_n dX12_isAhead_53 rfl ?_
      refine V_iald_N 2 dX12_isAhead_54 rfl (by omega) (by first | decide | omega) ?_
      refine V_to p1 ?_
      refine V_callVfi2 [0, 1] (s_X12_swappedBy (d := d - 1) (by omega) h hsw p3.1) gX12_isAhead_X12_swappedBy dX12_isAhead_55 oX12_swappedBy rfl rfl rfl rfl (Nat.le_of_ble_eq_true rfl) (by omega) ⟨Nat.le_refl _, Nat.le_refl _⟩ ?_
      simp only [zput_n, zput_c, zset_0, zset_1]
      refine V_istore_n dX12_isAhead_58 (by decide) rfl ?_
      refine V_aload_n dX12_isAhead_59 rfl ?_
      refine V_get 0 dX12_isAhead_60 fX12_isAhead_50 rfl rfl ?_
      refine V_aload_n dX12_isAhead_63 rfl ?_
      refine V_iload_n dX12_isAhead_64 rfl ?_
      refine V_iconst (v := nI 2) dX12_isAhead_65 (by decide) ?_
      refine V_callVpi2 [0] (s_X12_ring (d := d - 1) (by omega) h) gX12_isAhead_X12_ring dX12_isAhead_66 oX12_ring rfl rfl rfl rfl (Nat.le_of_ble_eq_true rfl) (by omega) ⟨Nat.le_refl _, Nat.le_refl _⟩ ?_
      refine V_to hri ?_
      have i1 := ih (r + 1) (upd Lc (rnT q n (wEx q n s (pk r))) (nI (wEx q n s (pk r)))) (orF q (s / 2) q Oc) (by omega) (fun j hj => by
        rw [lsR, if_pos c_44]
        unfold upd updN
        by_cases e : j = rnT q n (wEx q n s (pk r))
        · rw [if_pos e, if_pos e]
        · rw [if_neg e, if_neg e]; exact hL j hj)
      refine V_iload_n dX12_isAhead_69 rfl ?_
      refine V_iast_N 3 dX12_isAhead_70 rfl (by omega) (by first | decide | omega) ?_
      first | refine V_iinc_N (i := 1) dX12_isAhead_71 rfl (by decide) rfl ?_ | refine V_iinc dX12_isAhead_71 rfl rfl (by decide) rfl ?_
      refine V_goto 27 dX12_isAhead_74 (by decide) ?_
      exact V_wk _ (by exact ⟨rfl, rfl, rfl, trivial, trivial⟩) i1
theorem l_X12_isAhead3 {K : Nat} (hK : K ≤ 8) {x1 : Int32} {ls pk : Nat → Nat} (hl : ∀ j, ls j ≤ 256) (hP : PkOK q n K Pk pk) (hN : q ^ n ≤ 32) {w0 : zW} (hw0 : w0.length = 4) (hLt : ∀ j, j < K → Lt j = nI (ls j)) : ∀ (f r : Nat), r + f = K → V tO MX12_isAhead (d, 0, 0) w0 (fun v w' => ∃ Od' Lt', v = some (.int (bI (ahF ls pk f r))) ∧ w' = [obM m0 A q n cut rows kq kn kc kr kt cu cv ck (nI K) mo bo ki wa wr fo fd wn yw, (A 7, aI 4 Od'), (A 9, aI 32 Pk), (A 10, aI 32 Lt')]) (0, 0) [obM m0 A q n cut rows kq kn kc kr kt cu cv ck (nI K) mo bo ki wa wr fo fd wn yw, (A 7, aI 4 Od), (A 9, aI 32 Pk), (A 10, aI 32 Lt)] 79 [some (.ref m0), some (.int x1), some (.int (nI r)), none] [] := by
  intro f
  induction f with
  | zero =>
    intro r hr
    rw [ahF]
    refine V_iload_n dX12_isAhead_79 rfl ?_
    refine V_aload_n dX12_isAhead_80 rfl ?_
    refine V_get 0 dX12_isAhead_81 fX12_isAhead_178 rfl rfl ?_
    refine V_icmp_ge_N 129 dX12_isAhead_84 (by decide) (by omega) (by omega) (fun c_84 => ?_) (fun c_84 => absurd c_84 (by omega))
    refine V_iconst (v := nI 0) dX12_isAhead_129 (by decide) ?_
    refine V_zret dX12_isAhead_130 rfl (by first | exact Or.inl rfl | exact Or.inr rfl | exact bI_or _) (by rw [hw0]; exact Nat.le_of_ble_eq_true rfl) (Nat.le_refl _) (Nat.le_refl _) ?_
    exact ⟨_, _, rfl, rfl⟩
  | succ f ih =>
    intro r hr
    obtain ⟨p1, p2⟩ := hP r (by omega)
    have hp256 : pk r ≤ 256 := by rcases p2 with e | e <;> omega
    have hl1 := hl r
    rw [ahF]
    refine V_iload_n dX12_isAhead_79 rfl ?_
    refine V_aload_n dX12_isAhead_80 rfl ?_
    refine V_get 0 dX12_isAhead_81 fX12_isAhead_178 rfl rfl ?_
    refine V_icmp_ge_N 129 dX12_isAhead_84 (by decide) (by omega) (by omega) (fun c_84 => absurd c_84 (by omega)) (fun c_84 => ?_)
    refine V_aload_n dX12_isAhead_87 rfl ?_
    refine V_get 0 dX12_isAhead_88 fX12_isAhead_50 rfl rfl ?_
    refine V_iload_n dX12_isAhead_91 rfl ?_
    refine V_iald_N 3 dX12_isAhead_92 rfl (by omega) (by first | decide | omega) ?_
    refine V_to (hLt r (by omega)) ?_
    refine V_aload_n dX12_isAhead_93 rfl ?_
    refine V_get 0 dX12_isAhead_94 fX12_isAhead_47 rfl rfl ?_
    refine V_iload_n dX12_isAhead_97 rfl ?_
    refine V_iald_N 2 dX12_isAhead_98 rfl (by omega) (by first | decide | omega) ?_
    refine V_to p1 ?_
    refine V_icmp_eq_N 123 dX12_isAhead_99 (by decide) (by omega) (by omega) (fun c_99 => ?_) (fun c_99 => ?_)
    ·
      rw [if_pos c_99]
      first | refine V_iinc_N (i := 1) dX12_isAhead_123 rfl (by decide) rfl ?_ | refine V_iinc dX12_isAhead_123 rfl rfl (by decide) rfl ?_
      refine V_goto 79 dX12_isAhead_126 (by decide) ?_
      exact ih (r + 1) (by omega)
    ·
      rw [if_neg c_99]
      refine V_aload_n dX12_isAhead_102 rfl ?_
      refine V_get 0 dX12_isAhead_103 fX12_isAhead_50 rfl rfl ?_
      refine V_iload_n dX12_isAhead_106 rfl ?_
      refine V_iald_N 3 dX12_isAhead_107 rfl (by omega) (by first | decide | omega) ?_
      refine V_to (hLt r (by omega)) ?_
      refine V_aload_n dX12_isAhead_108 rfl ?_
      refine V_get 0 dX12_isAhead_109 fX12_isAhead_47 rfl rfl ?_
      refine V_iload_n dX12_isAhead_112 rfl ?_
      refine V_iald_N 2 dX12_isAhead_113 rfl (by omega) (by first | decide | omega) ?_
      refine V_to p1 ?_
      refine V_icmp_ge_N 121 dX12_isAhead_114 (by decide) (by omega) (by omega) (fun c_114 => ?_) (fun c_114 => ?_)
      ·
        rw [decide_eq_false (by omega)]
        refine V_iconst (v := nI 0) dX12_isAhead_121 (by decide) ?_
        refine V_zret dX12_isAhead_122 rfl (by first | exact Or.inl rfl | exact Or.inr rfl | exact bI_or _) (by rw [hw0]; exact Nat.le_of_ble_eq_true rfl) (Nat.le_refl _) (Nat.le_refl _) ?_
        exact ⟨_, _, rfl, rfl⟩
      ·
        rw [decide_eq_true (by omega)]
        refine V_iconst (v := nI 1) dX12_isAhead_117 (by decide) ?_
        refine V_goto 122 dX12_isAhead_118 (by decide) ?_
        refine V_zret dX12_isAhead_122 rfl (by first | exact Or.inl rfl | exact Or.inr rfl | exact bI_or _) (by rw [hw0]; exact Nat.le_of_ble_eq_true rfl) (Nat.le_refl _) (Nat.le_refl _) ?_
        exact ⟨_, _, rfl, rfl⟩
theorem s_X12_isAhead (hd : 8 ≤ d) (h : OKq q n) (hs : q ^ n ≤ 32) {K s : Nat} (hKn : K = nK q n) (hsw : s < nSw q) {pk : Nat → Nat} (hP : PkOK q n K Pk pk) : Sp tO MX12_isAhead (d, 0, 0) [.ref m0, .int (nI s)] [obM m0 A q n cut rows kq kn kc kr kt cu cv ck (nI K) mo bo ki wa wr fo fd wn yw, (A 7, aI 4 Od), (A 9, aI 32 Pk), (A 10, aI 32 Lt)] (fun v w' => ∃ Od' Lt', v = some (.int (bI (ahB q n K pk s))) ∧ w' = [obM m0 A q n cut rows kq kn kc kr kt cu cv ck (nI K) mo bo ki wa wr fo fd wn yw, (A 7, aI 4 Od'), (A 9, aI 32 Pk), (A 10, aI 32 Lt')]) := by
  refine eX12_isAhead [some (.ref m0), some (.int (nI s)), none, none] rfl (Nat.le_of_ble_eq_true rfl) ?_
  have hK : K ≤ 8 := by rw [hKn]; exact nK_le h hs
  refine V_iconst (v := nI 0) dX12_isAhead_0 (by decide) ?_
  refine V_istore_n dX12_isAhead_1 (by decide) rfl ?_
  refine l_X12_isAhead1 hK (fun Lc hL => ?_) K 0 _ (by omega) (fun j hj => absurd hj (by omega))
  refine V_iconst (v := nI 0) dX12_isAhead_25 (by decide) (V_istore_n dX12_isAhead_26 (by decide) rfl ?_)
  refine l_X12_isAhead2 hd h hs hK hKn hsw hP (fun Lc2 Oc2 hL2 => ?_) K 0 Lc Od (by omega) hL
  refine V_iconst (v := nI 0) dX12_isAhead_77 (by decide) (V_istore_n dX12_isAhead_78 (by decide) rfl ?_)
  exact l_X12_isAhead3 hK (lsR_le h hs hsw K) hP hs rfl hL2 K 0 (by omega)
theorem l_X12_isFirst (hd : 9 ≤ d) (h : OKq q n) (hs : q ^ n ≤ 32) {K : Nat} (hKn : K = nK q n) {pk : Nat → Nat} (hP : PkOK q n K Pk pk) {w0 : zW} (hw0 : w0.length = 4) : ∀ (f s : Nat) (Oc Lc : Nat → Int32), s + f = nSw q → V tO MX12_isFirst (d, 0, 0) w0 (fun v w' => ∃ Od' Lt', v = some (.int (bI (fiR q n K pk (nSw q)))) ∧ w' = [obM m0 A q n cut rows kq kn kc kr kt cu cv ck (nI K) mo bo ki wa wr fo fd wn yw, (A 7, aI 4 Od'), (A 9, aI 32 Pk), (A 10, aI 32 Lt')]) (0, 0) [obM m0 A q n cut rows kq kn kc kr kt cu cv ck (nI K) mo bo ki wa wr fo fd wn yw, (A 7, aI 4 Oc), (A 9, aI 32 Pk), (A 10, aI 32 Lc)] 4 [some (.ref m0), some (.int (bI (fiR q n K pk s))), some (.int (nI s))] [] := by
  have hs48 : nSw q ≤ 48 := by
    have e : ∀ q, q < 5 → nSw q ≤ 48 := by decide
    exact e q (by have := h.2.1; omega)
  have es : 2 * fac q = nSw q := rfl
  intro f
  induction f with
  | zero =>
    intro s Oc Lc hsf
    have e : s = nSw q := by omega
    subst e
    refine V_iload_n dX12_isFirst_4 rfl ?_
    refine V_iconst (v := nI 2) dX12_isFirst_5 (by decide) ?_
    refine V_aload_n dX12_isFirst_6 rfl ?_
    refine V_callVpi0 [0] (s_X12_orders (d := d - 1) (by omega) h) gX12_isFirst_X12_orders dX12_isFirst_7 oX12_orders rfl rfl rfl rfl (Nat.le_of_ble_eq_true rfl) (by omega) ⟨Nat.le_refl _, Nat.le_refl _⟩ ?_
    first | refine V_imul_N dX12_isFirst_10 ?_ | refine V_imul dX12_isFirst_10 ?_
    refine V_icmp_ge_N 38 dX12_isFirst_11 (by decide) (by omega) (by omega) (fun c_11 => ?_) (fun c_11 => absurd c_11 (by omega))
    refine V_iload_n dX12_isFirst_38 rfl ?_
    refine V_zret dX12_isFirst_39 rfl (by first | exact Or.inl rfl | exact Or.inr rfl | exact bI_or _) (by rw [hw0]; exact Nat.le_of_ble_eq_true rfl) (Nat.le_refl _) (Nat.le_refl _) ?_
    exact ⟨_, _, rfl, rfl⟩
  | succ f ih =>
    intro s Oc Lc hsf
    refine V_iload_n dX12_isFirst_4 rfl ?_
    refine V_iconst (v := nI 2) dX12_isFirst_5 (by decide) ?_
    refine V_aload_n dX12_isFirst_6 rfl ?_
    refine V_callVpi0 [0] (s_X12_orders (d := d - 1) (by omega) h) gX12_isFirst_X12_orders dX12_isFirst_7 oX12_orders rfl rfl rfl rfl (Nat.le_of_ble_eq_true rfl) (by omega) ⟨Nat.le_refl _, Nat.le_refl _⟩ ?_
    first | refine V_imul_N dX12_isFirst_10 ?_ | refine V_imul dX12_isFirst_10 ?_
    refine V_icmp_ge_N 38 dX12_isFirst_11 (by decide) (by omega) (by omega) (fun c_11 => absurd c_11 (by omega)) (fun c_11 => ?_)
    refine V_iload_n dX12_isFirst_14 rfl ?_
    first | refine V_if_eq_B 38 dX12_isFirst_15 (by decide) (fun c_15 => ?_) (fun c_15 => ?_) | refine V_if_eq_N 38 dX12_isFirst_15 (by decide) (by omega) (fun c_15 => ?_) (fun c_15 => ?_) | refine V_if_eq 38 dX12_isFirst_15 (by decide) (fun c_15 => ?_) (fun c_15 => ?_)
    ·
      have e := fiR_f c_15 (nSw q - s)
      rw [show s + (nSw q - s) = nSw q by omega] at e
      refine V_iload_n dX12_isFirst_38 rfl ?_
      refine V_zret dX12_isFirst_39 rfl (by first | exact Or.inl rfl | exact Or.inr rfl | exact bI_or _) (by rw [hw0]; exact Nat.le_of_ble_eq_true rfl) (Nat.le_refl _) (Nat.le_refl _) ?_
      exact ⟨_, _, by rw [c_15, e], rfl⟩
    ·
      refine V_aload_n dX12_isFirst_18 rfl ?_
      refine V_iload_n dX12_isFirst_19 rfl ?_
      refine V_callV1 [0, 1, 2, 3] (s_X12_isAhead (d := d - 1) (by omega) h hs hKn (by omega) hP) gX12_isFirst_X12_isAhead dX12_isFirst_20 oX12_isAhead rfl rfl rfl rfl (Nat.le_of_ble_eq_true rfl) (by omega) ⟨Nat.le_refl _, Nat.le_refl _⟩ ?_
      rintro _ _ ⟨Od', Lt', rfl, rfl⟩
      simp only [zput_n, zput_c, zset_0, zset_1, zset_2, zset_3, Option.toList, List.cons_append, List.nil_append]
      have i1 := ih (s + 1) Od' Lt' (by omega)
      rw [fiR, c_15, Bool.true_and] at i1
      first | refine V_if_ne_B 30 dX12_isFirst_23 (by decide) (fun c_23 => ?_) (fun c_23 => ?_) | refine V_if_ne_N 30 dX12_isFirst_23 (by decide) (by omega) (fun c_23 => ?_) (fun c_23 => ?_) | refine V_if_ne 30 dX12_isFirst_23 (by decide) (fun c_23 => ?_) (fun c_23 => ?_)
      ·
        rw [c_23] at i1
        refine V_iconst (v := bI false) dX12_isFirst_30 (show Int32.ofInt 0 = bI false by decide) ?_
        refine V_istore_n dX12_isFirst_31 (by decide) rfl ?_
        first | refine V_iinc_N (i := 1) dX12_isFirst_32 rfl (by decide) rfl ?_ | refine V_iinc dX12_isFirst_32 rfl rfl (by decide) rfl ?_
        refine V_goto 4 dX12_isFirst_35 (by decide) ?_
        exact i1
      ·
        rw [c_23] at i1
        refine V_iconst (v := bI true) dX12_isFirst_26 (show Int32.ofInt 1 = bI true by decide) ?_
        refine V_goto 31 dX12_isFirst_27 (by decide) ?_
        refine V_istore_n dX12_isFirst_31 (by decide) rfl ?_
        first | refine V_iinc_N (i := 1) dX12_isFirst_32 rfl (by decide) rfl ?_ | refine V_iinc dX12_isFirst_32 rfl rfl (by decide) rfl ?_
        refine V_goto 4 dX12_isFirst_35 (by decide) ?_
        exact i1
theorem s_X12_isFirst (hd : 9 ≤ d) (h : OKq q n) (hs : q ^ n ≤ 32) {K : Nat} (hKn : K = nK q n) {pk : Nat → Nat} (hP : PkOK q n K Pk pk) : Sp tO MX12_isFirst (d, 0, 0) [.ref m0] [obM m0 A q n cut rows kq kn kc kr kt cu cv ck (nI K) mo bo ki wa wr fo fd wn yw, (A 7, aI 4 Od), (A 9, aI 32 Pk), (A 10, aI 32 Lt)] (fun v w' => ∃ Od' Lt', v = some (.int (bI (fiR q n K pk (nSw q)))) ∧ w' = [obM m0 A q n cut rows kq kn kc kr kt cu cv ck (nI K) mo bo ki wa wr fo fd wn yw, (A 7, aI 4 Od'), (A 9, aI 32 Pk), (A 10, aI 32 Lt')]) := by
  refine eX12_isFirst [some (.ref m0), none, none] rfl (Nat.le_of_ble_eq_true rfl) ?_
  refine V_iconst (v := bI (fiR q n K pk 0)) dX12_isFirst_0 (show Int32.ofInt 1 = bI true by decide) ?_
  refine V_istore_n dX12_isFirst_1 (by decide) rfl ?_
  refine V_iconst (v := nI 0) dX12_isFirst_2 (by decide) ?_
  refine V_istore_n dX12_isFirst_3 (by decide) rfl ?_
  exact l_X12_isFirst hd h hs hKn hP rfl (nSw q) 0 _ _ (by omega)
end GREAT2

