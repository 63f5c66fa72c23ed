/-! the model: how long two offsets can both be possible -/
theorem num_wL {q n w p : Nat} : ∀ h2, p + h2 ≤ n → w / q ^ (n - (p + h2)) % q ^ h2 = num q (wLt q n w) p h2
  | 0, _ => by rw [num, Nat.pow_zero, Nat.mod_one]
  | h2 + 1, hp => by
    rw [num, ← num_wL h2 (by omega)]
    have e1 : n - (p + h2) = (n - (p + (h2 + 1))) + 1 := by omega
    unfold wLt
    rw [show n - 1 - (p + h2) = n - (p + (h2 + 1)) by omega, e1, Nat.pow_succ q (n - (p + (h2 + 1))), ← Nat.div_div_eq_div_mul, Nat.pow_succ, Nat.mul_comm (q ^ h2) q, Nat.mod_mul, Nat.mul_comm q, Nat.add_comm]
theorem st_th {q n row j r : Nat} {B : Nat → Bool} (h : OKq q n) (hr : r < n) : dB (thP q n B (plc n r j + 1 - (bhd n r j + 1)) (bhd n r j + 1) (fun i => row / q ^ (bhd n r j + 1 - 1 - i) % q)) = stB q n B row j r := by
  have hn := h.2.2.1
  have hq := h.1
  have hp := plc_lt (n := n) (r := r) (j := j) (by omega)
  have hb : bhd n r j ≤ plc n r j := Nat.min_le_left _ _
  refine dB_iff ?_
  have e0 : row % q ^ (bhd n r j + 1) = num q (wLt q (bhd n r j + 1) row) 0 (bhd n r j + 1) := by
    rw [← num_wL (bhd n r j + 1) (by omega), Nat.zero_add, Nat.sub_self, Nat.pow_zero, Nat.div_one]
  have key : ∀ w, (w / q ^ (n - 1 - plc n r j) % q ^ (bhd n r j + 1) = row % q ^ (bhd n r j + 1) ↔ ∀ i, i < bhd n r j + 1 → wLt q n w (plc n r j + 1 - (bhd n r j + 1) + i) = row / q ^ (bhd n r j + 1 - 1 - i) % q) := by
    intro w
    rw [e0, show n - 1 - plc n r j = n - (plc n r j + 1 - (bhd n r j + 1) + (bhd n r j + 1)) by omega, num_wL (bhd n r j + 1) (by omega)]
    rw [num_eq (fun i _ => wLt_lt h) (fun i _ => Nat.mod_lt _ (by omega))]
    constructor
    · intro e i hi
      rw [e i hi]
      unfold wLt
      rw [Nat.zero_add]
    · intro e i hi
      rw [e i hi]
      unfold wLt
      rw [Nat.zero_add]
  constructor
  · rintro ⟨w, h1, h2⟩
    exact ⟨w, h1, (key w).mpr h2⟩
  · rintro ⟨w, h1, h2⟩
    exact ⟨w, h1, (key w).mp h2⟩
theorem sub_add_n {j r n : Nat} (hr : r ≤ n) : nI j - nI r + nI n = nI (j + (n - r)) := by
  obtain ⟨k, rfl⟩ : ∃ k, n = r + k := ⟨n - r, by omega⟩
  rw [← nI_add r k, ← Int32.add_assoc, Int32.sub_add_cancel, nI_add, show r + k - r = k by omega]
section MDL10
variable {tO d m0 : Nat} {A : Nat → Nat} {q n cut rows kq kn kc kr fd wn : Nat} {kt yw : Bool} {cu cv ck rm mo bo ki wa wr fo : Int32} {B KB : Nat → Bool} {Wb R KR P KP Od Ig Pk Lt Lk Rd Nx Tp Pa Wy Sz It : Nat → Int32}
theorem l_X12_goesOn (h : OKq q n) {x1 x2 : Int32} {p c last : Nat} (hc : c ≤ 5) (hlast : last < 2 ^ 20) {w0 : zW} {Q : zPo} (next : ∀ Lc, (∀ k, k < c → Lc k = nI (last / q ^ (c - 1 - k) % q)) → V tO MX12_goesOn (d, 0, 0) w0 Q (0, 0) [obM m0 A q n cut rows kq kn kc kr kt cu cv ck rm mo bo ki wa wr fo fd wn yw, (A 0, aZ 256 (hdF B)), (A 11, aI 5 Lc)] 75 [some (.ref m0), some (.int x1), some (.int x2), some (.int (nI last)), some (.int (nI p)), some (.int (nI c)), none, none] []) : ∀ (a : Nat) (y : Int32) (Lc : Nat → Int32), a ≤ c → y = nI a + (-1) → (∀ k, a ≤ k → k < c → Lc k = nI (last / q ^ (c - 1 - k) % q)) → V tO MX12_goesOn (d, 0, 0) w0 Q (0, 0) [obM m0 A q n cut rows kq kn kc kr kt cu cv ck rm mo bo ki wa wr fo fd wn yw, (A 0, aZ 256 (hdF B)), (A 11, aI 5 Lc)] 41 [some (.ref m0), some (.int x1), some (.int x2), some (.int (nI last)), some (.int (nI p)), some (.int (nI c)), some (.int (nI (last / q ^ (c - a)))), some (.int y)] [] := by
  have hq := h.1
  have hq4 := h.2.1
  intro a
  induction a with
  | zero =>
    intro y Lc ha hy hL
    have hy2 : y < 0 := by rw [hy]; decide
    refine V_iload dX12_goesOn_41 rfl ?_
    refine V_if_lt 75 dX12_goesOn_43 (by decide) (fun c_43 => ?_) (fun c_43 => absurd hy2 c_43)
    exact V_wk _ (by exact ⟨rfl, rfl, rfl, rfl, rfl, rfl, trivial, trivial, trivial⟩) (next Lc (fun k hk => hL k (by omega) hk))
  | succ a ih =>
    intro y Lc ha hy hL
    rw [pk_m1] at hy
    subst hy
    have hle : last / q ^ (c - (a + 1)) ≤ last := Nat.div_le_self _ _
    have e1 : last / q ^ (c - a) = last / q ^ (c - (a + 1)) / q := by
      rw [show c - a = (c - (a + 1)) + 1 by omega, Nat.pow_succ, Nat.div_div_eq_div_mul]
    have i1 := ih (nI a + (-1)) (upd Lc a (nI (last / q ^ (c - (a + 1)) % q))) (by omega) rfl (fun k hk1 hk2 => by
      unfold upd
      by_cases e : k = a
      · rw [if_pos e, e, show c - 1 - a = c - (a + 1) by omega]
      · rw [if_neg e]; exact hL k (by omega) hk2)
    rw [e1] at i1
    refine V_iload dX12_goesOn_41 rfl ?_
    refine V_if_lt_N 75 dX12_goesOn_43 (by decide) (by omega) ?_
    refine V_aload_n dX12_goesOn_46 rfl ?_
    refine V_get 0 dX12_goesOn_47 fX12_goesOn_53 rfl rfl ?_
    refine V_iload dX12_goesOn_50 rfl ?_
    refine V_iload dX12_goesOn_52 rfl ?_
    refine V_aload_n dX12_goesOn_54 rfl ?_
    refine V_get 0 dX12_goesOn_55 fX12_goesOn_9 rfl rfl ?_
    refine V_irem_N dX12_goesOn_58 (by omega) (by omega) (by omega) ?_
    refine V_iast_N 2 dX12_goesOn_59 rfl (by omega) (by first | decide | omega) ?_
    refine V_iload dX12_goesOn_60 rfl ?_
    refine V_aload_n dX12_goesOn_62 rfl ?_
    refine V_get 0 dX12_goesOn_63 fX12_goesOn_9 rfl rfl ?_
    refine V_idiv_N dX12_goesOn_66 (by omega) (by omega) (by omega) ?_
    refine V_istore dX12_goesOn_67 (by decide) rfl ?_
    refine V_iinc (v := nI a + (-1)) dX12_goesOn_69 rfl (by rw [show Int32.ofInt (-1) = -1 from by decide]) (by decide) rfl ?_
    refine V_goto 41 dX12_goesOn_72 (by decide) ?_
    exact i1
theorem s_X12_goesOn (hd : 4 ≤ d) (h : OKq q n) (hB : ∀ w, B w = true → w < q ^ n) {r j last : Nat} (hr : r < n) (hj : j < 12) (hlast : last < 2 ^ 20) : Sp tO MX12_goesOn (d, 0, 0) [.ref m0, .int (nI r), .int (nI (j + 1)), .int (nI last)] [obM m0 A q n cut rows kq kn kc kr kt cu cv ck rm mo bo ki wa wr fo fd wn yw, (A 0, aZ 256 (hdF B)), (A 11, aI 5 Lk)] (fun v w' => ∃ Lk', v = some (.int (bI (stB q n B last j r))) ∧ w' = [obM m0 A q n cut rows kq kn kc kr kt cu cv ck rm mo bo ki wa wr fo fd wn yw, (A 0, aZ 256 (hdF B)), (A 11, aI 5 Lk')]) := by
  refine eX12_goesOn [some (.ref m0), some (.int (nI r)), some (.int (nI (j + 1))), some (.int (nI last)), none, none, none, none] rfl (Nat.le_of_ble_eq_true rfl) ?_
  have hn := h.2.2.1
  have hn5 := h.2.2.2.1
  have hq4 := h.2.1
  have hq := h.1
  have hp := plc_lt (n := n) (r := r) (j := j) (by omega)
  have hb : bhd n r j ≤ plc n r j := Nat.min_le_left _ _
  have eb : min (plc n r j + 1) (j + 1) = bhd n r j + 1 := by unfold bhd; omega
  refine V_iload_n dX12_goesOn_0 rfl ?_
  refine V_iconst (v := nI 1) dX12_goesOn_1 (by decide) ?_
  refine V_isub_N dX12_goesOn_2 (by omega) ?_
  refine V_to (show nI (j + 1 - 1) = nI j by rw [Nat.add_sub_cancel]) ?_
  refine V_iload_n dX12_goesOn_3 rfl ?_
  refine V_aload_n dX12_goesOn_4 rfl ?_
  refine V_get 0 dX12_goesOn_5 fX12_goesOn_15 rfl rfl ?_
  refine V_irem_N dX12_goesOn_8 (by omega) (by omega) (by omega) ?_
  refine V_to (show nI (r % n) = nI r by rw [Nat.mod_eq_of_lt hr]) ?_
  refine V_isub dX12_goesOn_9 ?_
  refine V_aload_n dX12_goesOn_10 rfl ?_
  refine V_get 0 dX12_goesOn_11 fX12_goesOn_15 rfl rfl ?_
  refine V_iadd dX12_goesOn_14 ?_
  refine V_to (sub_add_n (by omega)) ?_
  refine V_aload_n dX12_goesOn_15 rfl ?_
  refine V_get 0 dX12_goesOn_16 fX12_goesOn_15 rfl rfl ?_
  refine V_irem_N dX12_goesOn_19 (by omega) (by omega) (by omega) ?_
  refine V_to (show nI ((j + (n - r)) % n) = nI (plc n r j) from rfl) ?_
  refine V_istore dX12_goesOn_20 (by decide) rfl ?_
  refine V_iload dX12_goesOn_22 rfl ?_
  refine V_iconst (v := nI 1) dX12_goesOn_24 (by decide) ?_
  first | refine V_iadd_N dX12_goesOn_25 ?_ | refine V_iadd dX12_goesOn_25 ?_
  refine V_iload_n dX12_goesOn_26 rfl ?_
  first | refine V_mmin_N dX12_goesOn_27 mmX12_goesOn_140 (by omega) (Nat.le_of_ble_eq_true rfl) (Nat.le_refl _) (Nat.le_refl _) (by omega) (by omega) ?_ | refine V_mmin dX12_goesOn_27 mmX12_goesOn_140 (by omega) (Nat.le_of_ble_eq_true rfl) (Nat.le_refl _) (Nat.le_refl _) ?_
  refine V_to (show nI (min (plc n r j + 1) (j + 1)) = nI (bhd n r j + 1) by rw [eb]) ?_
  refine V_istore dX12_goesOn_30 (by decide) rfl ?_
  refine V_iload_n dX12_goesOn_32 rfl ?_
  refine V_istore dX12_goesOn_33 (by decide) rfl ?_
  refine V_iload dX12_goesOn_35 rfl ?_
  refine V_iconst (v := nI 1) dX12_goesOn_37 (by decide) ?_
  first | refine V_isub_N dX12_goesOn_38 (by omega) ?_ | refine V_isub dX12_goesOn_38 ?_
  refine V_istore dX12_goesOn_39 (by decide) rfl ?_
  have i1 := l_X12_goesOn (tO := tO) (d := d) (m0 := m0) (A := A) (cut := cut) (rows := rows) (kq := kq) (kn := kn) (kc := kc) (kr := kr) (kt := kt) (cu := cu) (cv := cv) (ck := ck) (rm := rm) (mo := mo) (bo := bo) (ki := ki) (wa := wa) (wr := wr) (fo := fo) (fd := fd) (wn := wn) (yw := yw) (B := B) (x1 := nI r) (x2 := nI (j + 1)) (p := plc n r j) (c := bhd n r j + 1) (w0 := [obM m0 A q n cut rows kq kn kc kr kt cu cv ck rm mo bo ki wa wr fo fd wn yw, (A 0, aZ 256 (hdF B)), (A 11, aI 5 Lk)]) (Q := fun v w' => ∃ Lk', v = some (.int (bI (stB q n B last j r))) ∧ w' = [obM m0 A q n cut rows kq kn kc kr kt cu cv ck rm mo bo ki wa wr fo fd wn yw, (A 0, aZ 256 (hdF B)), (A 11, aI 5 Lk')]) h (by omega) hlast ?_ (bhd n r j + 1) (nI (bhd n r j + 1 - 1)) Lk (Nat.le_refl _) (by rw [Nat.add_sub_cancel, pk_m1]) (fun k a b => absurd b (by omega))
  · rw [Nat.sub_self, Nat.pow_zero, Nat.div_one] at i1
    exact i1
  · intro Lc hL
    refine V_aload_n dX12_goesOn_75 rfl ?_
    refine V_iload dX12_goesOn_76 rfl ?_
    refine V_iconst (v := nI 1) dX12_goesOn_78 (by decide) ?_
    refine V_iadd_N dX12_goesOn_79 ?_
    refine V_iload dX12_goesOn_80 rfl ?_
    refine V_isub_N dX12_goesOn_82 (by omega) ?_
    refine V_iload dX12_goesOn_83 rfl ?_
    refine V_callVpi2 [0, 1, 2] (s_X12_isThere (d := d - 1) (by omega) h hB (l := fun i => last / q ^ (bhd n r j + 1 - 1 - i) % q) (by omega) (fun i hi => ⟨hL i hi, by have := Nat.mod_lt (last / q ^ (bhd n r j + 1 - 1 - i)) (show 0 < q by omega); omega⟩)) gX12_goesOn_X12_isThere dX12_goesOn_85 oX12_isThere rfl rfl rfl rfl (Nat.le_of_ble_eq_true rfl) (by omega) ⟨Nat.le_refl _, Nat.le_refl _⟩ ?_
    rw [st_th h hr]
    refine V_zret dX12_goesOn_88 rfl (bI_or _) (Nat.le_of_ble_eq_true rfl) (Nat.le_refl _) (Nat.le_refl _) ?_
    exact ⟨_, rfl, rfl⟩
end MDL10

