/-! Book: words come and go, copies, clashes, swaps, letters, draws -/
theorem Bk.ins_id {N m w : Nat} {B : Nat → Bool} {W : Nat → Int32} (h : Bk N B W m) (hw : B w = true) : Bk N (insB B w) W m := by rw [insB_id hw]; exact h
def fhN (q n : Nat) (B : Nat → Bool) (u v : Nat) : Nat → Nat → Nat
  | 0, _ => 0
  | f + 1, k => if B (wAc q n u v k) then k else fhN q n B u v f (k + 1)
theorem fhN_0 {q n u v : Nat} {B : Nat → Bool} : ∀ {f k : Nat}, 1 ≤ k → (fhN q n B u v f k = 0 ↔ ∀ i, k ≤ i → i < k + f → B (wAc q n u v i) = false)
  | 0, k, _ => ⟨fun _ i h1 h2 => absurd h2 (by omega), fun _ => rfl⟩
  | f + 1, k, hk => by
    rw [fhN]
    by_cases e : B (wAc q n u v k) = true
    · rw [if_pos e]
      exact ⟨fun h => absurd h (by omega), fun h => by rw [h k (by omega) (by omega)] at e; cases e⟩
    · rw [if_neg e, fhN_0 (by omega)]
      constructor
      · intro h i h1 h2
        by_cases ei : i = k
        · subst ei; exact Bool.eq_false_iff.mpr e
        · exact h i (by omega) (by omega)
      · exact fun h i h1 h2 => h i (by omega) (by omega)
theorem fhN_at {q n u v k0 : Nat} {B : Nat → Bool} (hb : B (wAc q n u v k0) = true) : ∀ {f k : Nat}, k ≤ k0 → k0 < k + f → (∀ i, k ≤ i → i < k0 → B (wAc q n u v i) = false) → fhN q n B u v f k = k0
  | 0, k, h1, h2, _ => absurd h2 (by omega)
  | f + 1, k, h1, h2, h3 => by
    rw [fhN]
    by_cases e : k = k0
    · subst e; rw [if_pos hb]
    · rw [if_neg (by rw [h3 k (by omega) (by omega)]; exact Bool.false_ne_true)]
      exact fhN_at hb (by omega) (by omega) (fun i a b => h3 i (by omega) b)
theorem fhN_le {q n u v : Nat} {B : Nat → Bool} : ∀ {f k : Nat}, fhN q n B u v f k ≤ k + f
  | 0, k => Nat.zero_le _
  | f + 1, k => by
    rw [fhN]
    split
    · omega
    · have := fhN_le (q := q) (n := n) (u := u) (v := v) (B := B) (f := f) (k := k + 1); omega
/-- the first clash -/
def IsCl (q n : Nat) (B : Nat → Bool) (u v k : Nat) : Prop := B u = true ∧ B v = true ∧ 1 ≤ k ∧ k < n ∧ B (wAc q n u v k) = true ∧ (∀ i, 1 ≤ i → i < k → B (wAc q n u v i) = false) ∧ (∀ v', B v' = true → v' < v → ∀ i, 1 ≤ i → i < n → B (wAc q n u v' i) = false) ∧ ∀ u', B u' = true → u' < u → ∀ v', B v' = true → ∀ i, 1 ≤ i → i < n → B (wAc q n u' v' i) = false
def clV (q n u v k c : Nat) : Nat := if c = 0 then u else if c = 1 then v else if c = 2 then k else wAc q n u v k
/-- the book behind a swap -/
noncomputable def imB (q n s : Nat) (B : Nat → Bool) : Nat → Bool := fun w => dB (∃ v, B v = true ∧ wEx q n s v = w)
/-- a number's high half -/
def zD (z : Int32) : Nat := z.toBitVec.toNat / 65536
theorem zD_lt (z : Int32) : zD z < 65536 := by
  unfold zD
  have := z.toBitVec.isLt
  omega
theorem nI_bv (y : Int32) : y = nI y.toBitVec.toNat := by
  apply Int32.toBitVec_inj.mp
  unfold nI
  rw [Int32.toBitVec_ofNat', BitVec.ofNat_toNat]
  simp
theorem zD_eq (z : Int32) : (z.toUInt32 >>> ((nI 16).toUInt32 &&& Int32.toUInt32 31)).toInt32 = nI (zD z) := by
  have h := pk_ushr z (nI 16) 16 (by decide)
  rw [nI_bv (z.toUInt32 >>> ((nI 16).toUInt32 &&& Int32.toUInt32 31)).toInt32, h]
  rfl
def zS (z : Int32) : Int32 := z * nI 1103515245 + nI 12345
def drB (N : Nat) : Nat → Int32 → (Nat → Bool) → Nat → Bool
  | 0, _, B => B
  | v + 1, z, B => drB N v (zS z) (insB B (zD (zS z) % N))
section BOOK2
variable {tO d q n b0 b1 b2 b3 b4 b5 a0 a1 m : Nat} {W Hd Im O E : Nat → Int32} {B : Nat → Bool}
theorem l_X1_include (hd : 4 ≤ d) (h : OKq q n) (hB : Bk (q ^ n) B W m) {g : Nat → Nat} (hg : SE B g m) (hg2 : ∀ i, i < m → W i = nI (g i)) {w : Nat} (hw : w < q ^ n) (hbw : B w = false) (hm : m < 256) : ∀ (i : Nat) (Wc : Nat → Int32), i ≤ m → (∀ j, j < i → Wc j = nI (g j)) → (∀ j, i < j → j ≤ m → Wc j = nI (g (j - 1))) → (∀ j, i ≤ j → j < m → w < g j) → V tO MX1_include (d, 0, 0) (bkW b0 b1 b2 b3 b4 b5 a0 a1 q n B m W Im) (fun v w' => ∃ W' m', v = some (.int (bI true)) ∧ w' = bkW b0 b1 b2 b3 b4 b5 a0 a1 q n (insB B w) m' W' Im ∧ Bk (q ^ n) (insB B w) W' m') (0, 0) (bkW b0 b1 b2 b3 b4 b5 a0 a1 q n B m Wc Im) 38 [some (.ref b0), some (.int (nI w)), some (.int (nI i))] [] := by
  have hN := h.2.2.2.2
  have fin : ∀ (i : Nat) (Wc : Nat → Int32), i ≤ m → (∀ j, j < i → Wc j = nI (g j)) → (∀ j, i < j → j ≤ m → Wc j = nI (g (j - 1))) → (∀ j, i ≤ j → j < m → w < g j) → (∀ j, j < i → g j < w) → V tO MX1_include (d, 0, 0) (bkW b0 b1 b2 b3 b4 b5 a0 a1 q n B m W Im) (fun v w' => ∃ W' m', v = some (.int (bI true)) ∧ w' = bkW b0 b1 b2 b3 b4 b5 a0 a1 q n (insB B w) m' W' Im ∧ Bk (q ^ n) (insB B w) W' m') (0, 0) (bkW b0 b1 b2 b3 b4 b5 a0 a1 q n B m Wc Im) 74 [some (.ref b0), some (.int (nI w)), some (.int (nI i))] [] := by
    intro i Wc hi h1 h2 h3 h4
    have hg' := hg.ins hi h4 h3
    refine V_aload_n dX1_include_74 rfl ?_
    refine V_get 0 dX1_include_75 fX1_include_15 rfl rfl ?_
    refine V_iload_n dX1_include_78 rfl ?_
    refine V_iload_n dX1_include_79 rfl ?_
    refine V_callSfv3 [1] (s_X8_setI (d := d - 1) (by omega) (by omega) (by decide)) gX1_include_X8_set dX1_include_80 oX8_set rfl rfl (Nat.le_of_ble_eq_true rfl) (by omega) ⟨Nat.le_refl _, Nat.le_refl _⟩ ?_
    simp only [zput_n, zput_c, zset_1]
    refine V_aload_n dX1_include_83 rfl ?_
    refine V_dup dX1_include_84 rfl ?_
    refine V_get 0 dX1_include_85 fX1_include_32 rfl rfl ?_
    refine V_iconst (v := nI 1) dX1_include_88 (by decide) ?_
    first | refine V_iadd_N dX1_include_89 ?_ | refine V_iadd dX1_include_89 ?_
    refine V_put 0 dX1_include_90 fX1_include_32 ft_1_6 rfl rfl rfl (Nat.le_of_ble_eq_true rfl) ?_
    refine V_aload_n dX1_include_93 rfl ?_
    refine V_iload_n dX1_include_94 rfl ?_
    refine V_iconst (v := nI 1) dX1_include_95 (by decide) ?_
    refine V_callVfv2 [0, 2] (s_X1_hold (d := d - 1) (by omega) (by omega) (Or.inr (by decide))) gX1_include_X1_hold dX1_include_96 oX1_hold rfl rfl rfl rfl (Nat.le_of_ble_eq_true rfl) (by omega) ⟨Nat.le_refl _, Nat.le_refl _⟩ ?_
    simp only [zput_n, zput_c, zset_0, zset_2]
    refine V_aload_n dX1_include_99 rfl ?_
    refine V_iload_n dX1_include_100 rfl ?_
    refine V_iconst (v := nI 1) dX1_include_101 (by decide) ?_
    refine V_callVfv2 [0, 1, 2, 3, 4, 5, 6, 7] (s_X1_mark (d := d - 1) (by omega) h hw) gX1_include_X1_mark dX1_include_102 oX1_mark rfl rfl rfl rfl (Nat.le_of_ble_eq_true rfl) (by omega) ⟨Nat.le_refl _, Nat.le_refl _⟩ ?_
    dsimp only [zPut, List.set]
    rw [mkO_ins hbw (by omega), mkE_ins hbw (by omega)]
    refine V_ag (bkW b0 b1 b2 b3 b4 b5 a0 a1 q n (insB B w) (m + 1) (upd Wc i (nI w)) Im) ⟨_, _, rfl, zAg.self _, _, _, rfl, zAg.self _, _, _, rfl, ⟨_, rfl, fun j hj => ?_⟩, zAgs.self _⟩ ?_
    · show upd (hdF B) w 1 j = bI (insB B w j)
      unfold upd hdF insB
      by_cases e : j = w
      · rw [if_pos e, e, beq_self_eq_true, Bool.or_true]; rfl
      · rw [if_neg e, beq_eq_false_iff_ne.mpr e, Bool.or_false]
    refine V_iconst (v := nI 1) dX1_include_105 (by decide) ?_
    refine V_zret dX1_include_106 rfl (by first | exact Or.inl rfl | exact Or.inr rfl | exact bI_or _) (Nat.le_of_ble_eq_true rfl) (Nat.le_refl _) (Nat.le_refl _) ?_
    refine ⟨_, _, rfl, rfl, fun j hj => by rcases insB_iff.mp hj with e | e; exact hB.1 j e; omega, _, hg', fun j hj => ?_⟩
    unfold upd
    by_cases e : j = i
    · rw [if_pos e, if_neg (by omega), if_pos e]
    · rw [if_neg e]
      by_cases e2 : j < i
      · rw [if_pos e2]; exact h1 j e2
      · rw [if_neg e2, if_neg e]; exact h2 j (by omega) (by omega)
  intro i
  induction i with
  | zero =>
    intro Wc hi h1 h2 h3
    refine V_iload_n dX1_include_38 rfl ?_
    refine V_if_le_N 74 dX1_include_39 (by decide) (by omega) (fun c_39 => ?_) (fun c_39 => absurd c_39 (by omega))
    exact fin 0 Wc hi h1 h2 h3 (fun j hj => by omega)
  | succ i ih =>
    intro Wc hi h1 h2 h3
    have hgi := hB.1 _ (hg.mem (i := i) (by omega))
    have hne : g i ≠ w := fun e => by rw [← e, hg.mem (by omega)] at hbw; cases hbw
    refine V_iload_n dX1_include_38 rfl ?_
    refine V_if_le_N 74 dX1_include_39 (by decide) (by omega) (fun c_39 => absurd c_39 (by omega)) (fun c_39 => ?_)
    refine V_aload_n dX1_include_42 rfl ?_
    refine V_iload_n dX1_include_43 rfl ?_
    refine V_iconst (v := nI 1) dX1_include_44 (by decide) ?_
    first | refine V_isub_N dX1_include_45 (by omega) ?_ | refine V_isub dX1_include_45 ?_
    refine V_callVpi1 [0, 1] (s_X1_nth (d := d - 1) (by omega) (by omega)) gX1_include_X1_nth dX1_include_46 oX1_nth rfl rfl rfl rfl (Nat.le_of_ble_eq_true rfl) (by omega) ⟨Nat.le_refl _, Nat.le_refl _⟩ ?_
    rw [show i + 1 - 1 = i by omega, h1 i (by omega)]
    refine V_iload_n dX1_include_49 rfl ?_
    first | refine V_icmp_le_N 74 dX1_include_50 (by decide) (by omega) (by omega) (fun c_50 => ?_) (fun c_50 => ?_) | refine V_icmp_le 74 dX1_include_50 (by decide) (fun c_50 => ?_) (fun c_50 => ?_)
    ·
      exact fin (i + 1) Wc hi h1 h2 h3 (fun j hj => by have := hg.mono (i := j) (j := i) (by omega) (by omega); omega)
    ·
      refine V_aload_n dX1_include_53 rfl ?_
      refine V_get 0 dX1_include_54 fX1_include_15 rfl rfl ?_
      refine V_iload_n dX1_include_57 rfl ?_
      refine V_aload_n dX1_include_58 rfl ?_
      refine V_iload_n dX1_include_59 rfl ?_
      refine V_iconst (v := nI 1) dX1_include_60 (by decide) ?_
      first | refine V_isub_N dX1_include_61 (by omega) ?_ | refine V_isub dX1_include_61 ?_
      refine V_callVpi1 [0, 1] (s_X1_nth (d := d - 1) (by omega) (by omega)) gX1_include_X1_nth dX1_include_62 oX1_nth rfl rfl rfl rfl (Nat.le_of_ble_eq_true rfl) (by omega) ⟨Nat.le_refl _, Nat.le_refl _⟩ ?_
      rw [show i + 1 - 1 = i by omega, h1 i (by omega)]
      refine V_callSfv3 [1] (s_X8_setI (d := d - 1) (by omega) (by omega) (by decide)) gX1_include_X8_set dX1_include_65 oX8_set rfl rfl (Nat.le_of_ble_eq_true rfl) (by omega) ⟨Nat.le_refl _, Nat.le_refl _⟩ ?_
      simp only [zput_n, zput_c, zset_1]
      refine V_iinc (v := nI i) dX1_include_68 rfl (by rw [show Int32.ofInt (-1) = -1 from by decide]; exact pk_m1 i) (by decide) rfl ?_
      refine V_goto 38 dX1_include_71 (by decide) ?_
      refine ih _ (by omega) (fun j hj => ?_) (fun j hj1 hj2 => ?_) (fun j hj1 hj2 => ?_)
      · unfold upd; rw [if_neg (by omega)]; exact h1 j (by omega)
      · unfold upd
        by_cases e : j = i + 1
        · rw [if_pos e, e]; rfl
        · rw [if_neg e]; exact h2 j (by omega) hj2
      · by_cases e : j = i
        · subst e; exact c_50
        · exact h3 j (by omega) hj2
theorem s_X1_include (hd : 5 ≤ d) (h : OKq q n) (hB : Bk (q ^ n) B W m) {w : Nat} (hw : w < q ^ n) : Sp tO MX1_include (d, 0, 0) [.ref b0, .int (nI w)] (bkW b0 b1 b2 b3 b4 b5 a0 a1 q n B m W Im) (fun v w' => ∃ W' m', v = some (.int (bI (!B w))) ∧ w' = bkW b0 b1 b2 b3 b4 b5 a0 a1 q n (insB B w) m' W' Im ∧ Bk (q ^ n) (insB B w) W' m') := by
  refine eX1_include [some (.ref b0), some (.int (nI w)), none] rfl (Nat.le_of_ble_eq_true rfl) ?_
  have hN := h.2.2.2.2
  have hm := hB.len
  refine V_aload_n dX1_include_0 rfl ?_
  refine V_get 0 dX1_include_1 fX1_include_9 rfl rfl ?_
  refine V_iload_n dX1_include_4 rfl ?_
  refine V_callVpi1 [6, 7] (s_X0_isWord (d := d - 1) (by omega) h) gX1_include_X0_isWord dX1_include_5 oX0_isWord rfl rfl rfl rfl (Nat.le_of_ble_eq_true rfl) (by omega) ⟨Nat.le_refl _, Nat.le_refl _⟩ ?_
  rw [isW_nI (by omega), decide_eq_true hw]
  first | refine V_if_eq_B 31 dX1_include_8 (by decide) (fun c_8 => ?_) (fun c_8 => ?_) | refine V_if_eq_N 31 dX1_include_8 (by decide) (by omega) (fun c_8 => ?_) (fun c_8 => ?_) | refine V_if_eq 31 dX1_include_8 (by decide) (fun c_8 => ?_) (fun c_8 => ?_)
  ·
    cases c_8
  ·
    refine V_aload_n dX1_include_11 rfl ?_
    refine V_iload_n dX1_include_12 rfl ?_
    refine V_callVpi1 [0, 2] (s_X1_holds (d := d - 1) (by omega) (by omega)) gX1_include_X1_holds dX1_include_13 oX1_holds rfl rfl rfl rfl (Nat.le_of_ble_eq_true rfl) (by omega) ⟨Nat.le_refl _, Nat.le_refl _⟩ ?_
    first | refine V_if_ne_B 31 dX1_include_16 (by decide) (fun c_16 => ?_) (fun c_16 => ?_) | refine V_if_ne_N 31 dX1_include_16 (by decide) (by omega) (fun c_16 => ?_) (fun c_16 => ?_) | refine V_if_ne 31 dX1_include_16 (by decide) (fun c_16 => ?_) (fun c_16 => ?_)
    ·
      have e1 : insB B w = B := insB_id c_16
      refine V_iconst (v := nI 0) dX1_include_31 (by decide) ?_
      refine V_zret dX1_include_32 rfl (by first | exact Or.inl rfl | exact Or.inr rfl | exact bI_or _) (Nat.le_of_ble_eq_true rfl) (Nat.le_refl _) (Nat.le_refl _) ?_
      exact ⟨W, m, by rw [c_16]; rfl, by rw [e1], by rw [e1]; exact hB⟩
    ·
      refine V_aload_n dX1_include_19 rfl ?_
      refine V_get 0 dX1_include_20 fX1_include_32 rfl rfl ?_
      refine V_aload_n dX1_include_23 rfl ?_
      refine V_get 0 dX1_include_24 fX1_include_15 rfl rfl ?_
      refine V_alen 1 dX1_include_27 rfl ?_
      refine V_icmp_lt_N 33 dX1_include_28 (by decide) (by omega) (by decide) (fun c_28 => ?_) (fun c_28 => ?_)
      ·
        refine V_aload_n dX1_include_33 rfl ?_
        refine V_get 0 dX1_include_34 fX1_include_32 rfl rfl ?_
        refine V_istore_n dX1_include_37 (by decide) rfl ?_
        obtain ⟨hb1, g, hg, hg2⟩ := hB
        rw [c_16]
        exact l_X1_include (by omega) h ⟨hb1, g, hg, hg2⟩ hg hg2 hw c_16 c_28 m W (by omega) hg2 (fun j h1 h2 => by omega) (fun j h1 h2 => by omega)
      ·
        obtain ⟨hb1, g, hg, -⟩ := hB
        exact absurd (ct_lt c_16 hw) (by rw [hg.card hb1]; omega)
theorem s_X1_includeN (hd : 2 ≤ d) (h : OKq q n) {w : Nat} (hw : q ^ n ≤ w) (hw2 : w < 2 ^ 31) : SpP tO MX1_include (d, 0, 0) [.ref b0, .int (nI w)] (bkG b0 b1 b2 b3 b4 b5 a0 a1 q n m W Hd Im O E) (some (.int (bI false))) := by
  refine eX1_include [some (.ref b0), some (.int (nI w)), none] rfl (Nat.le_of_ble_eq_true rfl) ?_
  refine V_aload_n dX1_include_0 rfl ?_
  refine V_get 0 dX1_include_1 fX1_include_9 rfl rfl ?_
  refine V_iload_n dX1_include_4 rfl ?_
  refine V_callVpi1 [6, 7] (s_X0_isWord (d := d - 1) (by omega) h) gX1_include_X0_isWord dX1_include_5 oX0_isWord rfl rfl rfl rfl (Nat.le_of_ble_eq_true rfl) (by omega) ⟨Nat.le_refl _, Nat.le_refl _⟩ ?_
  rw [isW_nI (by omega), decide_eq_false (by omega)]
  first | refine V_if_eq_B 31 dX1_include_8 (by decide) (fun c_8 => ?_) (fun c_8 => ?_) | refine V_if_eq_N 31 dX1_include_8 (by decide) (by omega) (fun c_8 => ?_) (fun c_8 => ?_) | refine V_if_eq 31 dX1_include_8 (by decide) (fun c_8 => ?_) (fun c_8 => ?_)
  ·
    refine V_iconst (v := nI 0) dX1_include_31 (by decide) ?_
    refine V_zret dX1_include_32 rfl (by first | exact Or.inl rfl | exact Or.inr rfl | exact bI_or _) (Nat.le_of_ble_eq_true rfl) (Nat.le_refl _) (Nat.le_refl _) ?_
    exact ⟨rfl, rfl⟩
  ·
    cases c_8
theorem l_X1_exclude (hd : 4 ≤ d) (h : OKq q n) {g : Nat → Nat} (hg : SE B g (m + 1)) (hg2 : ∀ i, i < m + 1 → W i = nI (g i)) (hB : ∀ w, B w = true → w < q ^ n) {i0 : Nat} (hi0 : i0 < m + 1) (hm : m < 256) : ∀ (f i : Nat) (Wc : Nat → Int32), i + f = m + 1 → (∀ j, j < (if i ≤ i0 then i else i - 1) → Wc j = nI (if j < i0 then g j else g (j + 1))) → (∀ j, i ≤ j → j < m + 1 → Wc j = W j) → V tO MX1_exclude (d, 0, 0) (bkW b0 b1 b2 b3 b4 b5 a0 a1 q n B (m + 1) W Im) (fun v w' => ∃ W' m', v = some (.int (bI true)) ∧ w' = bkW b0 b1 b2 b3 b4 b5 a0 a1 q n (delB B (g i0)) m' W' Im ∧ Bk (q ^ n) (delB B (g i0)) W' m') (0, 0) (bkW b0 b1 b2 b3 b4 b5 a0 a1 q n B (m + 1) Wc Im) 14 [some (.ref b0), some (.int (nI (g i0))), some (.int (nI (if i ≤ i0 then i else i - 1))), some (.int (nI i))] [] := by
  have hN := h.2.2.2.2
  have hw := hB _ (hg.mem hi0)
  intro f
  induction f with
  | zero =>
    intro i Wc hi h1 h2
    rw [if_neg (by omega)] at h1
    rw [if_neg (by omega)]
    have e3 : delB B (g i0) (g i0) = false := by simp [delB]
    have e4 : insB (delB B (g i0)) (g i0) = B := delB_ins (hg.mem hi0)
    refine V_iload_n dX1_exclude_14 rfl ?_
    refine V_aload_n dX1_exclude_15 rfl ?_
    refine V_get 0 dX1_exclude_16 fX1_exclude_32 rfl rfl ?_
    refine V_icmp_ge_N 53 dX1_exclude_19 (by decide) (by omega) (by omega) (fun c_19 => ?_) (fun c_19 => absurd c_19 (by omega))
    refine V_aload_n dX1_exclude_53 rfl ?_
    refine V_iload_n dX1_exclude_54 rfl ?_
    refine V_put 0 dX1_exclude_55 fX1_exclude_32 ft_1_6 rfl rfl rfl (Nat.le_of_ble_eq_true rfl) ?_
    refine V_aload_n dX1_exclude_58 rfl ?_
    refine V_iload_n dX1_exclude_59 rfl ?_
    refine V_iconst (v := nI 0) dX1_exclude_60 (by decide) ?_
    refine V_callVfv2 [0, 2] (s_X1_hold (d := d - 1) (by omega) (by omega) (Or.inl (by decide))) gX1_exclude_X1_hold dX1_exclude_61 oX1_hold rfl rfl rfl rfl (Nat.le_of_ble_eq_true rfl) (by omega) ⟨Nat.le_refl _, Nat.le_refl _⟩ ?_
    simp only [zput_n, zput_c, zset_0, zset_2]
    refine V_aload_n dX1_exclude_64 rfl ?_
    refine V_iload_n dX1_exclude_65 rfl ?_
    refine V_iconst (v := -1) dX1_exclude_66 (by decide) ?_
    refine V_callVfv2 [0, 1, 2, 3, 4, 5, 6, 7] (s_X1_mark (d := d - 1) (by omega) h hw) gX1_exclude_X1_mark dX1_exclude_67 oX1_mark rfl rfl rfl rfl (Nat.le_of_ble_eq_true rfl) (by omega) ⟨Nat.le_refl _, Nat.le_refl _⟩ ?_
    dsimp only [zPut, List.set]
    rw [show opF q n B = opF q n (insB (delB B (g i0)) (g i0)) by rw [e4], show enF q n B = enF q n (insB (delB B (g i0)) (g i0)) by rw [e4]]
    rw [mkO_del e3 (by omega), mkE_del e3 (by omega)]
    refine V_ag (bkW b0 b1 b2 b3 b4 b5 a0 a1 q n (delB B (g i0)) (i - 1) Wc Im) ⟨_, _, rfl, zAg.self _, _, _, rfl, zAg.self _, _, _, rfl, ⟨_, rfl, fun j hj => ?_⟩, zAgs.self _⟩ ?_
    · show upd (hdF B) (g i0) 0 j = bI (delB B (g i0) j)
      unfold upd hdF delB
      by_cases e : j = g i0
      · rw [if_pos e, e, beq_self_eq_true, Bool.not_true, Bool.and_false]; rfl
      · rw [if_neg e, beq_eq_false_iff_ne.mpr e, Bool.not_false, Bool.and_true]
    refine V_iconst (v := nI 1) dX1_exclude_70 (by decide) ?_
    refine V_zret dX1_exclude_71 rfl (by first | exact Or.inl rfl | exact Or.inr rfl | exact bI_or _) (Nat.le_of_ble_eq_true rfl) (Nat.le_refl _) (Nat.le_refl _) ?_
    exact ⟨_, _, rfl, rfl, fun j hj => hB j (delB_iff.mp hj).1, _, (show i - 1 = m by omega) ▸ hg.del hi0, fun j hj => h1 j hj⟩
  | succ f ih =>
    intro i Wc hi h1 h2
    have hgi := hB _ (hg.mem (i := i) (by omega))
    have i1 := ih (i + 1)
    refine V_iload_n dX1_exclude_14 rfl ?_
    refine V_aload_n dX1_exclude_15 rfl ?_
    refine V_get 0 dX1_exclude_16 fX1_exclude_32 rfl rfl ?_
    refine V_icmp_ge_N 53 dX1_exclude_19 (by decide) (by omega) (by omega) (fun c_19 => absurd c_19 (by omega)) (fun c_19 => ?_)
    refine V_aload_n dX1_exclude_22 rfl ?_
    refine V_iload_n dX1_exclude_23 rfl ?_
    refine V_callVpi1 [0, 1] (s_X1_nth (d := d - 1) (by omega) (by omega)) gX1_exclude_X1_nth dX1_exclude_24 oX1_nth rfl rfl rfl rfl (Nat.le_of_ble_eq_true rfl) (by omega) ⟨Nat.le_refl _, Nat.le_refl _⟩ ?_
    rw [h2 i (by omega) (by omega), hg2 i (by omega)]
    refine V_iload_n dX1_exclude_27 rfl ?_
    first | refine V_icmp_eq_N 47 dX1_exclude_28 (by decide) (by omega) (by omega) (fun c_28 => ?_) (fun c_28 => ?_) | refine V_icmp_eq 47 dX1_exclude_28 (by decide) (fun c_28 => ?_) (fun c_28 => ?_)
    ·
      have e : i = i0 := hg.inj (by omega) hi0 c_28
      skip
      first | refine V_iinc_N (i := 1) dX1_exclude_47 rfl (by decide) rfl ?_ | refine V_iinc dX1_exclude_47 rfl rfl (by decide) rfl ?_
      refine V_goto 14 dX1_exclude_50 (by decide) ?_
      first
      | (subst e
         have i2 := i1 Wc (by omega) (by rw [if_neg (by omega)]; rw [if_pos (Nat.le_refl _)] at h1; exact h1) (fun j hj1 hj2 => h2 j (by omega) hj2)
         rw [if_neg (by omega)] at i2
         rw [if_pos (Nat.le_refl _)]
         exact i2)
      | (have i2 := i1 (upd Wc (if i ≤ i0 then i else i - 1) (nI (g i))) (by omega) (fun j hj => by
           unfold upd
           by_cases ej : j = (if i ≤ i0 then i else i - 1)
           · rw [if_pos ej]
             by_cases el : i ≤ i0
             · rw [if_pos el] at ej; rw [if_pos (by omega), ej]
             · rw [if_neg el] at ej; rw [if_neg (by omega), ej, show i - 1 + 1 = i by omega]
           · rw [if_neg ej]
             refine h1 j ?_
             by_cases el : i ≤ i0
             · rw [if_pos el] at ej ⊢; rw [if_pos (by omega)] at hj; omega
             · rw [if_neg el] at ej ⊢; rw [if_neg (by omega)] at hj; omega) (fun j hj1 hj2 => by
           unfold upd
           rw [if_neg (by split <;> omega)]
           exact h2 j (by omega) hj2)
         have e5 : (if i ≤ i0 then i else i - 1) + 1 = if i + 1 ≤ i0 then i + 1 else i + 1 - 1 := by
           by_cases el : i ≤ i0
           · rw [if_pos el, if_pos (by omega)]
           · rw [if_neg el, if_neg (by omega)]; omega
         rw [e5]
         exact i2)
    ·
      have e : i ≠ i0 := fun e => c_28 (by rw [e])
      refine V_aload_n dX1_exclude_31 rfl ?_
      refine V_get 0 dX1_exclude_32 fX1_exclude_15 rfl rfl ?_
      refine V_iload_n dX1_exclude_35 rfl ?_
      refine V_aload_n dX1_exclude_36 rfl ?_
      refine V_iload_n dX1_exclude_37 rfl ?_
      refine V_callVpi1 [0, 1] (s_X1_nth (d := d - 1) (by omega) (by omega)) gX1_exclude_X1_nth dX1_exclude_38 oX1_nth rfl rfl rfl rfl (Nat.le_of_ble_eq_true rfl) (by omega) ⟨Nat.le_refl _, Nat.le_refl _⟩ ?_
      rw [h2 i (by omega) (by omega), hg2 i (by omega)]
      refine V_callSfv3 [1] (s_X8_setI (d := d - 1) (by omega) (by split <;> omega) (by decide)) gX1_exclude_X8_set dX1_exclude_41 oX8_set rfl rfl (Nat.le_of_ble_eq_true rfl) (by omega) ⟨Nat.le_refl _, Nat.le_refl _⟩ ?_
      simp only [zput_n, zput_c, zset_1]
      first | refine V_iinc_N (i := 1) dX1_exclude_44 rfl (by decide) rfl ?_ | refine V_iinc dX1_exclude_44 rfl rfl (by decide) rfl ?_
      skip
      first | refine V_iinc_N (i := 1) dX1_exclude_47 rfl (by decide) rfl ?_ | refine V_iinc dX1_exclude_47 rfl rfl (by decide) rfl ?_
      refine V_goto 14 dX1_exclude_50 (by decide) ?_
      first
      | (subst e
         have i2 := i1 Wc (by omega) (by rw [if_neg (by omega)]; rw [if_pos (Nat.le_refl _)] at h1; exact h1) (fun j hj1 hj2 => h2 j (by omega) hj2)
         rw [if_neg (by omega)] at i2
         rw [if_pos (Nat.le_refl _)]
         exact i2)
      | (have i2 := i1 (upd Wc (if i ≤ i0 then i else i - 1) (nI (g i))) (by omega) (fun j hj => by
           unfold upd
           by_cases ej : j = (if i ≤ i0 then i else i - 1)
           · rw [if_pos ej]
             by_cases el : i ≤ i0
             · rw [if_pos el] at ej; rw [if_pos (by omega), ej]
             · rw [if_neg el] at ej; rw [if_neg (by omega), ej, show i - 1 + 1 = i by omega]
           · rw [if_neg ej]
             refine h1 j ?_
             by_cases el : i ≤ i0
             · rw [if_pos el] at ej ⊢; rw [if_pos (by omega)] at hj; omega
             · rw [if_neg el] at ej ⊢; rw [if_neg (by omega)] at hj; omega) (fun j hj1 hj2 => by
           unfold upd
           rw [if_neg (by split <;> omega)]
           exact h2 j (by omega) hj2)
         have e5 : (if i ≤ i0 then i else i - 1) + 1 = if i + 1 ≤ i0 then i + 1 else i + 1 - 1 := by
           by_cases el : i ≤ i0
           · rw [if_pos el, if_pos (by omega)]
           · rw [if_neg el, if_neg (by omega)]; omega
         rw [e5]
         exact i2)
theorem s_X1_exclude (hd : 5 ≤ d) (h : OKq q n) (hB : Bk (q ^ n) B W m) {w : Nat} (hw : w < 256) : Sp tO MX1_exclude (d, 0, 0) [.ref b0, .int (nI w)] (bkW b0 b1 b2 b3 b4 b5 a0 a1 q n B m W Im) (fun v w' => ∃ W' m', v = some (.int (bI (B w))) ∧ w' = bkW b0 b1 b2 b3 b4 b5 a0 a1 q n (delB B w) m' W' Im ∧ Bk (q ^ n) (delB B w) W' m') := by
  refine eX1_exclude [some (.ref b0), some (.int (nI w)), none, none] rfl (Nat.le_of_ble_eq_true rfl) ?_
  have hN := h.2.2.2.2
  have hm := hB.len
  refine V_aload_n dX1_exclude_0 rfl ?_
  refine V_iload_n dX1_exclude_1 rfl ?_
  refine V_callVpi1 [0, 2] (s_X1_holds (d := d - 1) (by omega) hw) gX1_exclude_X1_holds dX1_exclude_2 oX1_holds rfl rfl rfl rfl (Nat.le_of_ble_eq_true rfl) (by omega) ⟨Nat.le_refl _, Nat.le_refl _⟩ ?_
  first | refine V_if_ne_B 10 dX1_exclude_5 (by decide) (fun c_5 => ?_) (fun c_5 => ?_) | refine V_if_ne_N 10 dX1_exclude_5 (by decide) (by omega) (fun c_5 => ?_) (fun c_5 => ?_) | refine V_if_ne 10 dX1_exclude_5 (by decide) (fun c_5 => ?_) (fun c_5 => ?_)
  ·
    refine V_iconst (v := nI 0) dX1_exclude_10 (by decide) ?_
    refine V_istore_n dX1_exclude_11 (by decide) rfl ?_
    refine V_iconst (v := nI 0) dX1_exclude_12 (by decide) ?_
    refine V_istore_n dX1_exclude_13 (by decide) rfl ?_
    obtain ⟨hb1, g, hg, hg2⟩ := hB
    obtain ⟨i0, hi0, rfl⟩ := (hg.2 w).mp c_5
    rw [c_5]
    obtain ⟨m, rfl⟩ : ∃ m', m = m' + 1 := ⟨m - 1, by omega⟩
    have i1 := l_X1_exclude (tO := tO) (d := d) (b0 := b0) (b1 := b1) (b2 := b2) (b3 := b3) (b4 := b4) (b5 := b5) (a0 := a0) (a1 := a1) (Im := Im) (by omega) h hg hg2 hb1 hi0 (by omega) (m + 1) 0 W (by omega) (fun j hj => by rw [if_pos (Nat.zero_le _)] at hj; omega) (fun j h1 h2 => rfl)
    rw [if_pos (Nat.zero_le _)] at i1
    exact i1
  ·
    have e1 : delB B w = B := delB_id c_5
    refine V_iconst (v := nI 0) dX1_exclude_8 (by decide) ?_
    refine V_zret dX1_exclude_9 rfl (by first | exact Or.inl rfl | exact Or.inr rfl | exact bI_or _) (Nat.le_of_ble_eq_true rfl) (Nat.le_refl _) (Nat.le_refl _) ?_
    exact ⟨W, m, by rw [c_5]; rfl, by rw [e1], by rw [e1]; exact hB⟩
end BOOK2

