/-! the model: its search, both passes -/
abbrev ssT : Type := Nat × Nat × Nat × Int32
/-- most, books, kinds, found -/
def ss (q n K : Nat) (wa wr : Int32) (cn : Bool) : List (List Nat) → List Nat → List Nat → Nat → ssT → ssT
  | [], _, ps, has, T => if has < T.1 then T else if cn then (T.1, T.2.1 + 1, T.2.2.1 + (if wa = -3 ∧ fiB q n K ps = true then 1 else 0), if nI T.2.1 = wa ∧ 0 ≤ wr.toInt then nI (ps.getD wr.toInt.toNat 256) else T.2.2.2) else (has, T.2.1, T.2.2.1, T.2.2.2)
  | R :: Rs, ws, ps, has, T => if has + Rs.length + 1 < T.1 then T else
      if cn = true ∨ (R.foldl (fun T w => if frL q n (w :: ws) then ss q n K wa wr cn Rs (w :: ws) (ps ++ [w]) (has + 1) T else T) T).1 < has + Rs.length
      then ss q n K wa wr cn Rs ws (ps ++ [256]) has (R.foldl (fun T w => if frL q n (w :: ws) then ss q n K wa wr cn Rs (w :: ws) (ps ++ [w]) (has + 1) T else T) T)
      else R.foldl (fun T w => if frL q n (w :: ws) then ss q n K wa wr cn Rs (w :: ws) (ps ++ [w]) (has + 1) T else T) T
/-- how far most and books can go -/
theorem foldl_inv {α σ : Type} {f : σ → α → σ} (I : Nat → σ → Prop) (hf : ∀ k a S, I k S → I (k + 1) (f S a)) : ∀ (l : List α) (k : Nat) (S : σ), I k S → I (k + l.length) (l.foldl f S)
  | [], k, S, h => h
  | a :: l, k, S, h => by
    rw [List.foldl_cons, List.length_cons, show k + (l.length + 1) = k + 1 + l.length by omega]
    exact foldl_inv I hf l (k + 1) _ (hf k a S h)
theorem ss_le {q n K : Nat} {wa wr : Int32} {cn : Bool} : ∀ (Rs : List (List Nat)) (ws ps : List Nat) (has : Nat) (T : ssT), (∀ R ∈ Rs, R.length ≤ 5) → has + Rs.length ≤ K → T.1 ≤ K → (ss q n K wa wr cn Rs ws ps has T).1 ≤ K ∧ (ss q n K wa wr cn Rs ws ps has T).2.1 ≤ T.2.1 + 6 ^ Rs.length
  | [], ws, ps, has, T, hR, hK, hT => by
    rw [ss]
    split
    · exact ⟨hT, Nat.le_add_right _ _⟩
    · split
      · exact ⟨hT, by simp⟩
      · exact ⟨by simpa using hK, by simp⟩
  | R :: Rs, ws, ps, has, T, hR, hK, hT => by
    rw [List.length_cons] at hK
    have hR2 : ∀ R' ∈ Rs, R'.length ≤ 5 := fun R' h => hR R' (List.mem_cons_of_mem _ h)
    have h5 := hR R List.mem_cons_self
    have e6 : 6 ^ (Rs.length + 1) = 6 ^ Rs.length * 6 := Nat.pow_succ _ _
    have h60 : 0 < 6 ^ Rs.length := Nat.pow_pos (by decide)
    have hf := foldl_inv (f := fun T w => if frL q n (w :: ws) then ss q n K wa wr cn Rs (w :: ws) (ps ++ [w]) (has + 1) T else T) (fun k S => S.1 ≤ K ∧ S.2.1 ≤ T.2.1 + k * 6 ^ Rs.length) (fun k a S hS => by
      split
      · have := ss_le (q := q) (n := n) (wa := wa) (wr := wr) (cn := cn) Rs (a :: ws) (ps ++ [a]) (has + 1) S hR2 (by omega) hS.1
        rw [Nat.succ_mul]
        omega
      · rw [Nat.succ_mul]
        omega) R 0 T ⟨hT, by omega⟩
    rw [Nat.zero_add] at hf
    have h7 : R.length * 6 ^ Rs.length ≤ 5 * 6 ^ Rs.length := Nat.mul_le_mul_right _ h5
    rw [ss, List.length_cons, e6]
    split
    · exact ⟨hT, by omega⟩
    · split
      · have := ss_le (q := q) (n := n) (wa := wa) (wr := wr) (cn := cn) Rs ws (ps ++ [256]) has _ hR2 (by omega) hf.1
        omega
      · omega
section GREAT3
variable {tO d m0 : Nat} {A : Nat → Nat} {q n cut rows kq kn kc kr fd wn : Nat} {kt yw : Bool} {cu cv ck rm mo bo ki wa wr fo : Int32} {B KB : Nat → Bool} {Wb R KR P KP Od Ig Pk Lt Lk Rd Nx Tp Pa Wy Sz It : Nat → Int32}
abbrev seQ (m0 : Nat) (A : Nat → Nat) (q n cut rows kq kn kc kr : Nat) (kt : Bool) (K : Nat) (wa wr : Int32) (fd wn : Nat) (yw : Bool) (S : Nat → Bool) (r : Nat) (Pk : Nat → Int32) (T : ssT) : zPo := fun v w' => ∃ cu' cv' ck' Od' Lt' Pk', v = none ∧ w' = [obM m0 A q n cut rows kq kn kc kr kt cu' cv' ck' (nI K) (nI T.1) (nI T.2.1) (nI T.2.2.1) wa wr T.2.2.2 fd wn yw, (A 0, aZ 256 (hdF S)), (A 7, aI 4 Od'), (A 9, aI 32 Pk'), (A 10, aI 32 Lt')] ∧ ∀ i, i < r → Pk' i = Pk i
theorem l_X12_searches_leaf (hd : 10 ≤ d) (h : OKq q n) (hs : q ^ n ≤ 32) {K has : Nat} (hKn : K = nK q n) {cn : Bool} {ws ps : List Nat} {T : ssT} (hwr : 0 ≤ wa.toInt → 0 ≤ wr.toInt → isW K wr = true) (hps : ps.length = K) (hP : PkOK q n K Pk (fun i => ps.getD i 256)) (hT : T.1 ≤ K) (hb : T.2.1 < 2 ^ 30) (hhas : has ≤ K) (hge : T.1 ≤ has) : V tO MX12_searches (d, 0, 0) [obM m0 A q n cut rows kq kn kc kr kt cu cv ck (nI K) (nI T.1) (nI T.2.1) (nI T.2.2.1) wa wr T.2.2.2 fd wn yw, (A 0, aZ 256 (hdF (memF ws))), (A 7, aI 4 Od), (A 9, aI 32 Pk), (A 10, aI 32 Lt)] (seQ m0 A q n cut rows kq kn kc kr kt K wa wr fd wn yw (memF ws) K Pk (if cn then (T.1, T.2.1 + 1, T.2.2.1 + (if wa = -3 ∧ fiB q n K ps = true then 1 else 0), if nI T.2.1 = wa ∧ 0 ≤ wr.toInt then nI (ps.getD wr.toInt.toNat 256) else T.2.2.2) else (has, T.2.1, T.2.2.1, T.2.2.2))) (0, 0) [obM m0 A q n cut rows kq kn kc kr kt cu cv ck (nI K) (nI T.1) (nI T.2.1) (nI T.2.2.1) wa wr T.2.2.2 fd wn yw, (A 0, aZ 256 (hdF (memF ws))), (A 7, aI 4 Od), (A 9, aI 32 Pk), (A 10, aI 32 Lt)] 24 [some (.ref m0), some (.int (nI K)), some (.int (nI has)), some (.int (bI cn)), none, none] [] := by
  have hK : K ≤ 8 := by rw [hKn]; exact nK_le h hs
  have i72 : ∀ fo2, V tO MX12_searches (d, 0, 0) [obM m0 A q n cut rows kq kn kc kr kt cu cv ck (nI K) (nI T.1) (nI T.2.1) (nI T.2.2.1) wa wr T.2.2.2 fd wn yw, (A 0, aZ 256 (hdF (memF ws))), (A 7, aI 4 Od), (A 9, aI 32 Pk), (A 10, aI 32 Lt)] (seQ m0 A q n cut rows kq kn kc kr kt K wa wr fd wn yw (memF ws) K Pk (T.1, T.2.1 + 1, T.2.2.1 + (if wa = -3 ∧ fiB q n K ps = true then 1 else 0), fo2)) (0, 0) [obM m0 A q n cut rows kq kn kc kr kt cu cv ck (nI K) (nI T.1) (nI T.2.1) (nI T.2.2.1) wa wr fo2 fd wn yw, (A 0, aZ 256 (hdF (memF ws))), (A 7, aI 4 Od), (A 9, aI 32 Pk), (A 10, aI 32 Lt)] 72 [some (.ref m0), some (.int (nI K)), some (.int (nI has)), some (.int (bI cn)), none, none] [] := by
    intro fo2
    refine V_aload_n dX12_searches_72 rfl ?_
    refine V_dup dX12_searches_73 rfl ?_
    refine V_get 0 dX12_searches_74 fX12_searches_202 rfl rfl ?_
    refine V_aload_n dX12_searches_77 rfl ?_
    refine V_get 0 dX12_searches_78 fX12_searches_193 rfl rfl ?_
    refine V_bipush (v := (-3)) dX12_searches_81 (by decide) ?_
    refine V_icmp_ne 97 dX12_searches_83 (by decide) (fun c_83 => ?_) (fun c_83 => ?_)
    ·
      rw [if_neg (fun hh => c_83 hh.1)]
      refine V_iconst (v := nI 0) dX12_searches_97 (by decide) ?_
      first | refine V_iadd_N dX12_searches_98 ?_ | refine V_iadd dX12_searches_98 ?_
      refine V_put 0 dX12_searches_99 fX12_searches_202 ft_10_26 rfl rfl rfl (Nat.le_of_ble_eq_true rfl) ?_
      refine V_aload_n dX12_searches_102 rfl ?_
      refine V_dup dX12_searches_103 rfl ?_
      refine V_get 0 dX12_searches_104 fX12_searches_190 rfl rfl ?_
      refine V_iconst (v := nI 1) dX12_searches_107 (by decide) ?_
      first | refine V_iadd_N dX12_searches_108 ?_ | refine V_iadd dX12_searches_108 ?_
      refine V_put 0 dX12_searches_109 fX12_searches_190 ft_10_25 rfl rfl rfl (Nat.le_of_ble_eq_true rfl) ?_
      refine V_vret dX12_searches_112 rfl (Nat.le_of_ble_eq_true rfl) (Nat.le_refl _) (Nat.le_refl _) ?_
      exact ⟨_, _, _, _, _, _, rfl, rfl, fun i _ => rfl⟩
    ·
      refine V_aload_n dX12_searches_86 rfl ?_
      refine V_callV0 [0, 2, 3, 4] (s_X12_isFirst (d := d - 1) (by omega) h hs hKn hP) gX12_searches_X12_isFirst dX12_searches_87 oX12_isFirst rfl rfl rfl rfl (Nat.le_of_ble_eq_true rfl) (by omega) ⟨Nat.le_refl _, Nat.le_refl _⟩ ?_
      rintro _ _ ⟨Od', Lt', rfl, rfl⟩
      simp only [zput_n, zput_c, zset_0, zset_1, zset_2, zset_3, Option.toList, List.cons_append, List.nil_append]
      first | refine V_if_eq_B 97 dX12_searches_90 (by decide) (fun c_90 => ?_) (fun c_90 => ?_) | refine V_if_eq_N 97 dX12_searches_90 (by decide) (by omega) (fun c_90 => ?_) (fun c_90 => ?_) | refine V_if_eq 97 dX12_searches_90 (by decide) (fun c_90 => ?_) (fun c_90 => ?_)
      ·
        rw [if_neg (show ¬ (wa = -3 ∧ fiB q n K ps = true) from fun hh => by rw [show fiB q n K ps = false from c_90] at hh; exact absurd hh.2 (by decide))]
        refine V_iconst (v := nI 0) dX12_searches_97 (by decide) ?_
        first | refine V_iadd_N dX12_searches_98 ?_ | refine V_iadd dX12_searches_98 ?_
        refine V_put 0 dX12_searches_99 fX12_searches_202 ft_10_26 rfl rfl rfl (Nat.le_of_ble_eq_true rfl) ?_
        refine V_aload_n dX12_searches_102 rfl ?_
        refine V_dup dX12_searches_103 rfl ?_
        refine V_get 0 dX12_searches_104 fX12_searches_190 rfl rfl ?_
        refine V_iconst (v := nI 1) dX12_searches_107 (by decide) ?_
        first | refine V_iadd_N dX12_searches_108 ?_ | refine V_iadd dX12_searches_108 ?_
        refine V_put 0 dX12_searches_109 fX12_searches_190 ft_10_25 rfl rfl rfl (Nat.le_of_ble_eq_true rfl) ?_
        refine V_vret dX12_searches_112 rfl (Nat.le_of_ble_eq_true rfl) (Nat.le_refl _) (Nat.le_refl _) ?_
        exact ⟨_, _, _, _, _, _, rfl, rfl, fun i _ => rfl⟩
      ·
        rw [if_pos (show wa = -3 ∧ fiB q n K ps = true from ⟨c_83, c_90⟩)]
        refine V_iconst (v := nI 1) dX12_searches_93 (by decide) ?_
        refine V_goto 98 dX12_searches_94 (by decide) ?_
        first | refine V_iadd_N dX12_searches_98 ?_ | refine V_iadd dX12_searches_98 ?_
        refine V_put 0 dX12_searches_99 fX12_searches_202 ft_10_26 rfl rfl rfl (Nat.le_of_ble_eq_true rfl) ?_
        refine V_aload_n dX12_searches_102 rfl ?_
        refine V_dup dX12_searches_103 rfl ?_
        refine V_get 0 dX12_searches_104 fX12_searches_190 rfl rfl ?_
        refine V_iconst (v := nI 1) dX12_searches_107 (by decide) ?_
        first | refine V_iadd_N dX12_searches_108 ?_ | refine V_iadd dX12_searches_108 ?_
        refine V_put 0 dX12_searches_109 fX12_searches_190 ft_10_25 rfl rfl rfl (Nat.le_of_ble_eq_true rfl) ?_
        refine V_vret dX12_searches_112 rfl (Nat.le_of_ble_eq_true rfl) (Nat.le_refl _) (Nat.le_refl _) ?_
        exact ⟨_, _, _, _, _, _, rfl, rfl, fun i _ => rfl⟩
  cases cn with
  | false =>
    rw [if_neg Bool.false_ne_true]
    refine V_iload_n dX12_searches_24 rfl ?_
    first | refine V_if_ne_B 34 dX12_searches_25 (by decide) (fun c_25 => ?_) (fun c_25 => ?_) | refine V_if_ne_N 34 dX12_searches_25 (by decide) (by omega) (fun c_25 => ?_) (fun c_25 => ?_) | refine V_if_ne 34 dX12_searches_25 (by decide) (fun c_25 => ?_) (fun c_25 => ?_)
    ·
      cases c_25
    ·
      refine V_aload_n dX12_searches_28 rfl ?_
      refine V_iload_n dX12_searches_29 rfl ?_
      refine V_put 0 dX12_searches_30 fX12_searches_187 ft_10_24 rfl rfl rfl (Nat.le_of_ble_eq_true rfl) ?_
      refine V_vret dX12_searches_33 rfl (Nat.le_of_ble_eq_true rfl) (Nat.le_refl _) (Nat.le_refl _) ?_
      exact ⟨_, _, _, _, _, _, rfl, rfl, fun i _ => rfl⟩
  | true =>
    rw [if_pos rfl]
    refine V_iload_n dX12_searches_24 rfl ?_
    first | refine V_if_ne_B 34 dX12_searches_25 (by decide) (fun c_25 => ?_) (fun c_25 => ?_) | refine V_if_ne_N 34 dX12_searches_25 (by decide) (by omega) (fun c_25 => ?_) (fun c_25 => ?_) | refine V_if_ne 34 dX12_searches_25 (by decide) (fun c_25 => ?_) (fun c_25 => ?_)
    ·
      refine V_aload_n dX12_searches_34 rfl ?_
      refine V_aload_n dX12_searches_35 rfl ?_
      refine V_get 0 dX12_searches_36 fX12_searches_190 rfl rfl ?_
      refine V_aload_n dX12_searches_39 rfl ?_
      refine V_get 0 dX12_searches_40 fX12_searches_193 rfl rfl ?_
      refine V_icmp_ne 65 dX12_searches_43 (by decide) (fun c_43 => ?_) (fun c_43 => ?_)
      ·
        rw [if_neg (show ¬ (nI T.2.1 = wa ∧ 0 ≤ wr.toInt) from fun hh => c_43 hh.1)]
        refine V_aload_n dX12_searches_65 rfl ?_
        refine V_get 0 dX12_searches_66 fX12_searches_199 rfl rfl ?_
        refine V_put 0 dX12_searches_69 fX12_searches_199 ft_10_29 rfl rfl rfl (Nat.le_of_ble_eq_true rfl) ?_
        exact i72 _
      ·
        refine V_aload_n dX12_searches_46 rfl ?_
        refine V_get 0 dX12_searches_47 fX12_searches_196 rfl rfl ?_
        refine V_if_lt 65 dX12_searches_50 (by decide) (fun c_50 => ?_) (fun c_50 => ?_)
        ·
          rw [z_lt0] at c_50
          rw [if_neg (show ¬ (nI T.2.1 = wa ∧ 0 ≤ wr.toInt) from fun hh => by omega)]
          refine V_aload_n dX12_searches_65 rfl ?_
          refine V_get 0 dX12_searches_66 fX12_searches_199 rfl rfl ?_
          refine V_put 0 dX12_searches_69 fX12_searches_199 ft_10_29 rfl rfl rfl (Nat.le_of_ble_eq_true rfl) ?_
          exact i72 _
        ·
          rw [z_lt0] at c_50
          rw [if_pos (show nI T.2.1 = wa ∧ 0 ≤ wr.toInt from ⟨c_43, by omega⟩)]
          have hwK : isW K wr = true := hwr (by rw [← c_43, nI_toInt (by omega)]; omega) (by omega)
          obtain ⟨k, hk, rfl⟩ := isW_of hwK
          rw [toNat_nI (by omega)]
          refine V_aload_n dX12_searches_53 rfl ?_
          refine V_get 0 dX12_searches_54 fX12_searches_47 rfl rfl ?_
          refine V_aload_n dX12_searches_57 rfl ?_
          refine V_get 0 dX12_searches_58 fX12_searches_196 rfl rfl ?_
          refine V_iald_N 3 dX12_searches_61 rfl (by omega) (by first | decide | omega) ?_
          refine V_to (hP k hk).1 ?_
          refine V_goto 69 dX12_searches_62 (by decide) ?_
          refine V_put 0 dX12_searches_69 fX12_searches_199 ft_10_29 rfl rfl rfl (Nat.le_of_ble_eq_true rfl) ?_
          exact i72 _
    ·
      cases c_25
theorem l_X12_searches_loop (hd : 10 ≤ d) (h : OKq q n) (hs : q ^ n ≤ 32) {K r has hd0 : Nat} (hKn : K = nK q n) {cn : Bool} {R : List Nat} {Rs : List (List Nat)} {ws ps : List Nat} {Tf : ssT} {Pk0 : Nat → Int32} (hrK : r + (Rs.length + 1) = K) (hhas : has ≤ r) (hR5 : ∀ R' ∈ Rs, R'.length ≤ 5) (hnw : ∀ w ∈ R, w ∉ ws) (hwN : ∀ w ∈ R, w < q ^ n) (hws : ∀ w ∈ ws, w < q ^ n) (hhd : hd0 < q ^ n) (hmem : ∀ w, hd0 ≤ w → w < q ^ n → rLeast q n w = hd0 → w ∈ R) {w0 : zW} {Q : zPo}
    (IH : ∀ (w : Nat) (T : ssT) (Pk Od Lt : Nat → Int32) (cu cv ck : Int32), w ∈ R → frL q n (w :: ws) = true → T.1 ≤ K → T.2.1 + 6 ^ Rs.length < 2 ^ 28 → (∀ i, i < r → Pk i = Pk0 i) → Pk r = nI w → Sp tO MX12_searches (d - 1, 0, 0) [.ref m0, .int (nI (r + 1)), .int (nI (has + 1)), .int (bI cn)] [obM m0 A q n cut rows kq kn kc kr kt cu cv ck (nI K) (nI T.1) (nI T.2.1) (nI T.2.2.1) wa wr T.2.2.2 fd wn yw, (A 0, aZ 256 (hdF (memF (w :: ws)))), (A 7, aI 4 Od), (A 9, aI 32 Pk), (A 10, aI 32 Lt)] (seQ m0 A q n cut rows kq kn kc kr kt K wa wr fd wn yw (memF (w :: ws)) (r + 1) Pk (ss q n K wa wr cn Rs (w :: ws) (ps ++ [w]) (has + 1) T)))
    (next : ∀ (Pk Od Lt : Nat → Int32) (cu cv ck : Int32), (∀ i, i < r → Pk i = Pk0 i) → V tO MX12_searches (d, 0, 0) w0 Q (0, 0) [obM m0 A q n cut rows kq kn kc kr kt cu cv ck (nI K) (nI Tf.1) (nI Tf.2.1) (nI Tf.2.2.1) wa wr Tf.2.2.2 fd wn yw, (A 0, aZ 256 (hdF (memF ws))), (A 7, aI 4 Od), (A 9, aI 32 Pk), (A 10, aI 32 Lt)] 192 [some (.ref m0), some (.int (nI r)), some (.int (nI has)), some (.int (bI cn)), none, none] []) :
    ∀ (g w : Nat) (T : ssT) (Pk Od Lt : Nat → Int32) (cu cv ck : Int32), hd0 ≤ w → w + g = q ^ n → T.1 ≤ K → T.2.1 + ((List.range' w g).filter (fun w => rLeast q n w == hd0)).length * 6 ^ Rs.length < 2 ^ 28 → (∀ i, i < r → Pk i = Pk0 i) → ((List.range' w g).filter (fun w => rLeast q n w == hd0)).foldl (fun T w => if frL q n (w :: ws) then ss q n K wa wr cn Rs (w :: ws) (ps ++ [w]) (has + 1) T else T) T = Tf → V tO MX12_searches (d, 0, 0) w0 Q (0, 0) [obM m0 A q n cut rows kq kn kc kr kt cu cv ck (nI K) (nI T.1) (nI T.2.1) (nI T.2.2.1) wa wr T.2.2.2 fd wn yw, (A 0, aZ 256 (hdF (memF ws))), (A 7, aI 4 Od), (A 9, aI 32 Pk), (A 10, aI 32 Lt)] 124 [some (.ref m0), some (.int (nI r)), some (.int (nI has)), some (.int (bI cn)), some (.int (nI hd0)), some (.int (nI w))] [] := by
  have hK : K ≤ 8 := by rw [hKn]; exact nK_le h hs
  have h60 : 0 < 6 ^ Rs.length := Nat.pow_pos (by decide)
  intro g
  induction g with
  | zero =>
    intro w T Pk Od Lt cu cv ck hw hg hT hb hPk hf
    have e : T = Tf := hf
    subst e
    refine V_iload dX12_searches_124 rfl ?_
    refine V_aload_n dX12_searches_126 rfl ?_
    refine V_callVpi0 [0] (s_X12_words (d := d - 1) (by omega) h) gX12_searches_X12_words dX12_searches_127 oX12_words rfl rfl rfl rfl (Nat.le_of_ble_eq_true rfl) (by omega) ⟨Nat.le_refl _, Nat.le_refl _⟩ ?_
    refine V_icmp_ge_N 192 dX12_searches_130 (by decide) (by omega) (by omega) (fun c_130 => ?_) (fun c_130 => absurd c_130 (by omega))
    exact V_wk _ (by exact ⟨rfl, rfl, rfl, rfl, trivial, trivial, trivial⟩) (next Pk Od Lt cu cv ck hPk)
  | succ g ih =>
    intro w T Pk Od Lt cu cv ck hw hg hT hb hPk hf
    rw [List.range'_succ] at hf hb
    have hle := rLeast_le q n w
    refine V_iload dX12_searches_124 rfl ?_
    refine V_aload_n dX12_searches_126 rfl ?_
    refine V_callVpi0 [0] (s_X12_words (d := d - 1) (by omega) h) gX12_searches_X12_words dX12_searches_127 oX12_words rfl rfl rfl rfl (Nat.le_of_ble_eq_true rfl) (by omega) ⟨Nat.le_refl _, Nat.le_refl _⟩ ?_
    refine V_icmp_ge_N 192 dX12_searches_130 (by decide) (by omega) (by omega) (fun c_130 => absurd c_130 (by omega)) (fun c_130 => ?_)
    refine V_aload_n dX12_searches_133 rfl ?_
    refine V_iload dX12_searches_134 rfl ?_
    refine V_callVpi1 [0] (s_X12_leastOf (d := d - 1) (by omega) h (by omega)) gX12_searches_X12_leastOf dX12_searches_136 oX12_leastOf rfl rfl rfl rfl (Nat.le_of_ble_eq_true rfl) (by omega) ⟨Nat.le_refl _, Nat.le_refl _⟩ ?_
    refine V_iload dX12_searches_139 rfl ?_
    refine V_icmp_ne_N 186 dX12_searches_141 (by decide) (by omega) (by omega) (fun c_141 => ?_) (fun c_141 => ?_)
    ·
      rw [List.filter_cons_of_neg (by simpa using c_141)] at hf hb
      have i1 := ih (w + 1) T Pk Od Lt cu cv ck (by omega) (by omega) hT hb hPk hf
      first | refine V_iinc_N (i := 1) dX12_searches_186 rfl (by decide) rfl ?_ | refine V_iinc dX12_searches_186 rfl rfl (by decide) rfl ?_
      refine V_goto 124 dX12_searches_189 (by decide) ?_
      exact i1
    ·
      rw [List.filter_cons_of_pos (by simpa using c_141)] at hf hb
      rw [List.foldl_cons] at hf
      rw [List.length_cons, Nat.succ_mul] at hb
      have hwR := hmem w hw (by omega) c_141
      have hnw2 : memF ws w = false := by cases hh : memF ws w with
        | false => rfl
        | true => exact absurd (memF_t.mp hh) (hnw w hwR)
      have hB2 : ∀ x, memF (w :: ws) x = true → x < q ^ n := fun x hx => by
        rcases List.mem_cons.mp (memF_t.mp hx) with e | e
        · rw [e]; exact hwN w hwR
        · exact hws x e
      have hpk : ∀ i, i < r → upd Pk r (nI w) i = Pk0 i := fun i hi => by unfold upd; rw [if_neg (by omega)]; exact hPk i hi
      refine V_aload_n dX12_searches_144 rfl ?_
      refine V_get 0 dX12_searches_145 fX12_searches_18 rfl rfl ?_
      refine V_iload dX12_searches_148 rfl ?_
      refine V_iconst (v := nI 1) dX12_searches_150 (by decide) ?_
      refine V_zast_N 1 dX12_searches_151 rfl (show w < 256 by omega) (by decide) (Or.inr rfl) ?_
      rw [hdF_ins, ← memF_cons]
      simp only [zset_1]
      refine V_aload_n dX12_searches_152 rfl ?_
      refine V_get 0 dX12_searches_153 fX12_searches_47 rfl rfl ?_
      refine V_iload_n dX12_searches_156 rfl ?_
      refine V_iload dX12_searches_157 rfl ?_
      refine V_iast_N 3 dX12_searches_159 rfl (by omega) (by first | decide | omega) ?_
      refine V_aload_n dX12_searches_160 rfl ?_
      refine V_callV0 [0, 1] (s_X12_isFree (d := d - 1) (by omega) h hB2) gX12_searches_X12_isFree dX12_searches_161 oX12_isFree rfl rfl rfl rfl (Nat.le_of_ble_eq_true rfl) (by omega) ⟨Nat.le_refl _, Nat.le_refl _⟩ ?_
      rintro _ _ ⟨cu', cv', ck', rfl, rfl, -⟩
      simp only [zput_n, zput_c, zset_0, zset_1, zset_2, zset_3, Option.toList, List.cons_append, List.nil_append]
      rw [← frL_iff]
      first | refine V_if_eq_B 178 dX12_searches_164 (by decide) (fun c_164 => ?_) (fun c_164 => ?_) | refine V_if_eq_N 178 dX12_searches_164 (by decide) (by omega) (fun c_164 => ?_) (fun c_164 => ?_) | refine V_if_eq 178 dX12_searches_164 (by decide) (fun c_164 => ?_) (fun c_164 => ?_)
      ·
        rw [if_neg (by rw [c_164]; exact Bool.false_ne_true)] at hf
        have i1 := ih (w + 1) T (upd Pk r (nI w)) Od Lt cu' cv' ck' (by omega) (by omega) hT (by omega) hpk hf
        refine V_aload_n dX12_searches_178 rfl ?_
        refine V_get 0 dX12_searches_179 fX12_searches_18 rfl rfl ?_
        refine V_iload dX12_searches_182 rfl ?_
        refine V_iconst (v := nI 0) dX12_searches_184 (by decide) ?_
        refine V_zast_N 1 dX12_searches_185 rfl (show w < 256 by omega) (by decide) (Or.inl rfl) ?_
        rw [hdF_del, memF_cons, delB_insB' hnw2]
        simp only [zset_1]
        first | refine V_iinc_N (i := 1) dX12_searches_186 rfl (by decide) rfl ?_ | refine V_iinc dX12_searches_186 rfl rfl (by decide) rfl ?_
        refine V_goto 124 dX12_searches_189 (by decide) ?_
        exact i1
      ·
        rw [if_pos c_164] at hf
        have hss := ss_le (q := q) (n := n) (K := K) (wa := wa) (wr := wr) (cn := cn) Rs (w :: ws) (ps ++ [w]) (has + 1) T hR5 (by omega) hT
        refine V_aload_n dX12_searches_167 rfl ?_
        refine V_iload_n dX12_searches_168 rfl ?_
        refine V_iconst (v := nI 1) dX12_searches_169 (by decide) ?_
        first | refine V_iadd_N dX12_searches_170 ?_ | refine V_iadd dX12_searches_170 ?_
        refine V_iload_n dX12_searches_171 rfl ?_
        refine V_iconst (v := nI 1) dX12_searches_172 (by decide) ?_
        first | refine V_iadd_N dX12_searches_173 ?_ | refine V_iadd dX12_searches_173 ?_
        refine V_iload_n dX12_searches_174 rfl ?_
        refine V_callV3 [0, 1, 2, 3, 4] (IH w T (upd Pk r (nI w)) Od Lt cu' cv' ck' hwR c_164 hT (by omega) hpk (if_pos rfl)) gX12_searches_X12_searches dX12_searches_175 oX12_searches rfl rfl rfl rfl (Nat.le_of_ble_eq_true rfl) (by omega) ⟨Nat.le_refl _, Nat.le_refl _⟩ ?_
        rintro _ _ ⟨cu2, cv2, ck2, Od2, Lt2, Pk2, rfl, rfl, hPk2⟩
        simp only [zput_n, zput_c, zset_0, zset_1, zset_2, zset_3, zset_4, Option.toList, List.cons_append, List.nil_append]
        have i1 := ih (w + 1) _ Pk2 Od2 Lt2 cu2 cv2 ck2 (by omega) (by omega) hss.1 (by omega) (fun i hi => by rw [hPk2 i (by omega)]; exact hpk i hi) hf
        refine V_aload_n dX12_searches_178 rfl ?_
        refine V_get 0 dX12_searches_179 fX12_searches_18 rfl rfl ?_
        refine V_iload dX12_searches_182 rfl ?_
        refine V_iconst (v := nI 0) dX12_searches_184 (by decide) ?_
        refine V_zast_N 1 dX12_searches_185 rfl (show w < 256 by omega) (by decide) (Or.inl rfl) ?_
        rw [hdF_del, memF_cons, delB_insB' hnw2]
        simp only [zset_1]
        first | refine V_iinc_N (i := 1) dX12_searches_186 rfl (by decide) rfl ?_ | refine V_iinc dX12_searches_186 rfl rfl (by decide) rfl ?_
        refine V_goto 124 dX12_searches_189 (by decide) ?_
        exact i1
theorem l_X12_searches_tail (hd : 10 ≤ d) (h : OKq q n) (hs : q ^ n ≤ 32) {K r has : Nat} (hKn : K = nK q n) {cn : Bool} {Rs : List (List Nat)} {ws ps : List Nat} {Tf : ssT} {Pk0 : Nat → Int32} {w0 : zW} (hw0 : w0.length = 5) (hrK : r + (Rs.length + 1) = K) (hhas : has ≤ r) (hTf : Tf.1 ≤ K)
    (IH : ∀ (Pk3 : Nat → Int32), (∀ i, i < r + 1 → Pk3 i = upd Pk r (nI 256) i) → Sp tO MX12_searches (d - 1, 0, 0) [.ref m0, .int (nI (r + 1)), .int (nI has), .int (bI cn)] [obM m0 A q n cut rows kq kn kc kr kt cu cv ck (nI K) (nI Tf.1) (nI Tf.2.1) (nI Tf.2.2.1) wa wr Tf.2.2.2 fd wn yw, (A 0, aZ 256 (hdF (memF ws))), (A 7, aI 4 Od), (A 9, aI 32 Pk3), (A 10, aI 32 Lt)] (seQ m0 A q n cut rows kq kn kc kr kt K wa wr fd wn yw (memF ws) (r + 1) Pk3 (ss q n K wa wr cn Rs ws (ps ++ [256]) has Tf)))
    (hPk : ∀ i, i < r → Pk i = Pk0 i) :
    V tO MX12_searches (d, 0, 0) w0 (seQ m0 A q n cut rows kq kn kc kr kt K wa wr fd wn yw (memF ws) r Pk0 (if cn = true ∨ Tf.1 < has + Rs.length then ss q n K wa wr cn Rs ws (ps ++ [256]) has Tf else Tf)) (0, 0) [obM m0 A q n cut rows kq kn kc kr kt cu cv ck (nI K) (nI Tf.1) (nI Tf.2.1) (nI Tf.2.2.1) wa wr Tf.2.2.2 fd wn yw, (A 0, aZ 256 (hdF (memF ws))), (A 7, aI 4 Od), (A 9, aI 32 Pk), (A 10, aI 32 Lt)] 192 [some (.ref m0), some (.int (nI r)), some (.int (nI has)), some (.int (bI cn)), none, none] [] := by
  have hK : K ≤ 8 := by rw [hKn]; exact nK_le h hs
  have hpk : ∀ i, i < r → upd Pk r (nI 256) i = Pk0 i := fun i hi => by unfold upd; rw [if_neg (by omega)]; exact hPk i hi
  have fin : (cn = true ∨ Tf.1 < has + Rs.length) → V tO MX12_searches (d, 0, 0) w0 (seQ m0 A q n cut rows kq kn kc kr kt K wa wr fd wn yw (memF ws) r Pk0 (if cn = true ∨ Tf.1 < has + Rs.length then ss q n K wa wr cn Rs ws (ps ++ [256]) has Tf else Tf)) (0, 0) [obM m0 A q n cut rows kq kn kc kr kt cu cv ck (nI K) (nI Tf.1) (nI Tf.2.1) (nI Tf.2.2.1) wa wr Tf.2.2.2 fd wn yw, (A 0, aZ 256 (hdF (memF ws))), (A 7, aI 4 Od), (A 9, aI 32 (upd Pk r (nI 256))), (A 10, aI 32 Lt)] 222 [some (.ref m0), some (.int (nI r)), some (.int (nI has)), some (.int (bI cn)), none, none] [] := by
    intro hc
    rw [if_pos hc]
    refine V_aload_n dX12_searches_222 rfl ?_
    refine V_iload_n dX12_searches_223 rfl ?_
    refine V_iconst (v := nI 1) dX12_searches_224 (by decide) ?_
    first | refine V_iadd_N dX12_searches_225 ?_ | refine V_iadd dX12_searches_225 ?_
    refine V_iload_n dX12_searches_226 rfl ?_
    refine V_iload_n dX12_searches_227 rfl ?_
    refine V_callV3 [0, 1, 2, 3, 4] (IH _ (fun i _ => rfl)) gX12_searches_X12_searches dX12_searches_228 oX12_searches rfl rfl rfl rfl (Nat.le_of_ble_eq_true rfl) (by omega) ⟨Nat.le_refl _, Nat.le_refl _⟩ ?_
    rintro _ _ ⟨cu2, cv2, ck2, Od2, Lt2, Pk2, rfl, rfl, hPk2⟩
    simp only [zput_n, zput_c, zset_0, zset_1, zset_2, zset_3, zset_4, Option.toList, List.cons_append, List.nil_append]
    refine V_vret dX12_searches_231 rfl (by rw [hw0]; exact Nat.le_of_ble_eq_true rfl) (Nat.le_refl _) (Nat.le_refl _) ?_
    exact ⟨_, _, _, _, _, _, rfl, rfl, fun i hi => by rw [hPk2 i (by omega)]; exact hpk i hi⟩
  refine V_aload_n dX12_searches_192 rfl ?_
  refine V_get 0 dX12_searches_193 fX12_searches_47 rfl rfl ?_
  refine V_iload_n dX12_searches_196 rfl ?_
  refine V_sipush (v := nI 256) dX12_searches_197 (by decide) ?_
  refine V_iast_N 3 dX12_searches_200 rfl (show r < 32 by omega) (by decide) ?_
  simp only [zset_3]
  refine V_iload_n dX12_searches_201 rfl ?_
  first | refine V_if_ne_B 222 dX12_searches_202 (by decide) (fun c_202 => ?_) (fun c_202 => ?_) | refine V_if_ne_N 222 dX12_searches_202 (by decide) (by omega) (fun c_202 => ?_) (fun c_202 => ?_) | refine V_if_ne 222 dX12_searches_202 (by decide) (fun c_202 => ?_) (fun c_202 => ?_)
  ·
    first
    | exact fin (Or.inl c_202)
    | exact fin (Or.inr (by omega))
  ·
    refine V_iload_n dX12_searches_205 rfl ?_
    refine V_aload_n dX12_searches_206 rfl ?_
    refine V_get 0 dX12_searches_207 fX12_searches_178 rfl rfl ?_
    first | refine V_iadd_N dX12_searches_210 ?_ | refine V_iadd dX12_searches_210 ?_
    refine V_iload_n dX12_searches_211 rfl ?_
    first | refine V_isub_N dX12_searches_212 (by omega) ?_ | refine V_isub dX12_searches_212 ?_
    refine V_iconst (v := nI 1) dX12_searches_213 (by decide) ?_
    first | refine V_isub_N dX12_searches_214 (by omega) ?_ | refine V_isub dX12_searches_214 ?_
    refine V_aload_n dX12_searches_215 rfl ?_
    refine V_get 0 dX12_searches_216 fX12_searches_187 rfl rfl ?_
    refine V_icmp_le_N 231 dX12_searches_219 (by decide) (by omega) (by omega) (fun c_219 => ?_) (fun c_219 => ?_)
    ·
      rw [if_neg (show ¬ (cn = true ∨ Tf.1 < has + Rs.length) from fun hh => by rw [c_202] at hh; rcases hh with hh | hh; cases hh; omega)]
      refine V_vret dX12_searches_231 rfl (by rw [hw0]; exact Nat.le_of_ble_eq_true rfl) (Nat.le_refl _) (Nat.le_refl _) ?_
      exact ⟨_, _, _, _, _, _, rfl, rfl, hpk⟩
    ·
      first
      | exact fin (Or.inl c_202)
      | exact fin (Or.inr (by omega))
theorem s_X12_searches (h : OKq q n) (hs : q ^ n ≤ 32) {K : Nat} (hKn : K = nK q n) (hwr : 0 ≤ wa.toInt → 0 ≤ wr.toInt → isW K wr = true) {cn : Bool} : ∀ (Rs : List (List Nat)) (d r has : Nat) (ws ps : List Nat) (T : ssT) (Pk Od Lt : Nat → Int32) (cu cv ck : Int32), 12 + Rs.length ≤ d → r + Rs.length = K → Rs = (rgT q n).drop r → (∀ w ∈ ws, ∀ R ∈ Rs, w ∉ R) → disj Rs = true → (∀ w ∈ ws, w < q ^ n) → ps.length = r → PkOK q n r Pk (fun i => ps.getD i 256) → T.1 ≤ K → has ≤ r → T.2.1 + 6 ^ Rs.length < 2 ^ 28 → Sp tO MX12_searches (d, 0, 0) [.ref m0, .int (nI r), .int (nI has), .int (bI cn)] [obM m0 A q n cut rows kq kn kc kr kt cu cv ck (nI K) (nI T.1) (nI T.2.1) (nI T.2.2.1) wa wr T.2.2.2 fd wn yw, (A 0, aZ 256 (hdF (memF ws))), (A 7, aI 4 Od), (A 9, aI 32 Pk), (A 10, aI 32 Lt)] (seQ m0 A q n cut rows kq kn kc kr kt K wa wr fd wn yw (memF ws) r Pk (ss q n K wa wr cn Rs ws ps has T)) := by
  have hK : K ≤ 8 := by rw [hKn]; exact nK_le h hs
  have hTb := rgT_q h hs
  have hlen := hTb.1
  rw [← hKn] at hlen
  intro Rs
  induction Rs with
  | nil =>
    intro d r has ws ps T Pk Od Lt cu cv ck hd hrK hR hdis hdj hws hps hP hT hhas hb
    have e : r = K := by simpa using hrK
    subst e
    refine eX12_searches [some (.ref m0), some (.int (nI r)), some (.int (nI has)), some (.int (bI cn)), none, none] rfl (Nat.le_of_ble_eq_true rfl) ?_
    rw [ss]
    refine V_iload_n dX12_searches_0 rfl ?_
    refine V_aload_n dX12_searches_1 rfl ?_
    refine V_get 0 dX12_searches_2 fX12_searches_178 rfl rfl ?_
    first | refine V_iadd_N dX12_searches_5 ?_ | refine V_iadd dX12_searches_5 ?_
    refine V_iload_n dX12_searches_6 rfl ?_
    first | refine V_isub_N dX12_searches_7 (by omega) ?_ | refine V_isub dX12_searches_7 ?_
    refine V_aload_n dX12_searches_8 rfl ?_
    refine V_get 0 dX12_searches_9 fX12_searches_187 rfl rfl ?_
    refine V_icmp_ge_N 16 dX12_searches_12 (by decide) (by omega) (by omega) (fun c_12 => ?_) (fun c_12 => ?_)
    ·
      rw [if_neg (show ¬ has < T.1 by omega)]
      refine V_iload_n dX12_searches_16 rfl ?_
      refine V_aload_n dX12_searches_17 rfl ?_
      refine V_get 0 dX12_searches_18 fX12_searches_178 rfl rfl ?_
      refine V_icmp_ne_N 113 dX12_searches_21 (by decide) (by omega) (by omega) (fun c_21 => absurd rfl c_21) (fun c_21 => ?_)
      exact l_X12_searches_leaf (by simp at hd; omega) h hs hKn hwr hps hP hT (by simp at hb; omega) hhas (by omega)
    ·
      rw [if_pos (show has < T.1 by omega)]
      refine V_vret dX12_searches_15 rfl (Nat.le_of_ble_eq_true rfl) (Nat.le_refl _) (Nat.le_refl _) ?_
      exact ⟨_, _, _, _, _, _, rfl, rfl, fun i _ => rfl⟩
  | cons R Rs IHs =>
    intro d r has ws ps T Pk Od Lt cu cv ck hd hrK hR hdis hdj hws hps hP hT hhas hb
    rw [List.length_cons] at hd hrK hb
    rw [Nat.pow_succ] at hb
    have h60 : 0 < 6 ^ Rs.length := Nat.pow_pos (by decide)
    have hr : r < (rgT q n).length := by omega
    have hRe : R = (rgT q n).getD r [] ∧ Rs = (rgT q n).drop (r + 1) := by
      have e1 := List.drop_eq_getElem_cons hr
      rw [← hR] at e1
      injection e1 with e2 e3
      refine ⟨?_, e3⟩
      rw [e2, List.getD_eq_getElem?_getD, List.getElem?_eq_getElem hr]
      rfl
    obtain ⟨⟨t1, t2⟩, t3, t4⟩ := hd_all (q, n) (h.sm hs) r hr
    dsimp only at t1 t2 t3 t4
    rw [← hRe.1] at t1 t2 t3 t4
    have hwN := (hTb.2 r hr).2
    rw [← hRe.1] at hwN
    generalize hhd : R.headD 0 = hd0 at t1 t2 t3
    have hR5 : ∀ R' ∈ Rs, R'.length ≤ 5 := by
      intro R' h1
      rw [hRe.2] at h1
      obtain ⟨k, hk, e⟩ := List.mem_iff_getElem.mp h1
      rw [List.getElem_drop] at e
      rw [List.length_drop] at hk
      have := (hd_all (q, n) (h.sm hs) (r + 1 + k) (by show _ < (rgT q n).length; omega)).2.2
      dsimp only at this
      rw [List.getD_eq_getElem?_getD, List.getElem?_eq_getElem (by omega)] at this
      rw [← e]
      exact this
    unfold disj at hdj
    rw [Bool.and_eq_true] at hdj
    have hnw : ∀ w ∈ R, w ∉ ws := fun w h1 h2 => hdis w h2 R List.mem_cons_self h1
    have hmem : ∀ w, hd0 ≤ w → w < q ^ n → rLeast q n w = hd0 → w ∈ R := by
      intro w h1 h2 h3
      rw [← t3, List.mem_filter]
      exact ⟨by rw [List.mem_range'_1]; omega, by rw [beq_iff_eq]; exact h3⟩
    have hdis2 : ∀ w ∈ ws, ∀ R' ∈ Rs, w ∉ R' := fun w h1 R' h2 => hdis w h1 R' (List.mem_cons_of_mem _ h2)
    have hfl := foldl_inv (f := fun T w => if frL q n (w :: ws) then ss q n K wa wr cn Rs (w :: ws) (ps ++ [w]) (has + 1) T else T) (fun k S => S.1 ≤ K ∧ S.2.1 ≤ T.2.1 + k * 6 ^ Rs.length) (fun k a S hS => by
      split
      · have := ss_le (q := q) (n := n) (wa := wa) (wr := wr) (cn := cn) Rs (a :: ws) (ps ++ [a]) (has + 1) S hR5 (by omega) hS.1
        rw [Nat.succ_mul]
        omega
      · rw [Nat.succ_mul]
        omega) R 0 T ⟨hT, by omega⟩
    rw [Nat.zero_add] at hfl
    have h7 : R.length * 6 ^ Rs.length ≤ 5 * 6 ^ Rs.length := Nat.mul_le_mul_right _ t4
    refine eX12_searches [some (.ref m0), some (.int (nI r)), some (.int (nI has)), some (.int (bI cn)), none, none] rfl (Nat.le_of_ble_eq_true rfl) ?_
    rw [ss]
    generalize hTf : R.foldl (fun T w => if frL q n (w :: ws) then ss q n K wa wr cn Rs (w :: ws) (ps ++ [w]) (has + 1) T else T) T = Tf at hfl
    refine V_iload_n dX12_searches_0 rfl ?_
    refine V_aload_n dX12_searches_1 rfl ?_
    refine V_get 0 dX12_searches_2 fX12_searches_178 rfl rfl ?_
    first | refine V_iadd_N dX12_searches_5 ?_ | refine V_iadd dX12_searches_5 ?_
    refine V_iload_n dX12_searches_6 rfl ?_
    first | refine V_isub_N dX12_searches_7 (by omega) ?_ | refine V_isub dX12_searches_7 ?_
    refine V_aload_n dX12_searches_8 rfl ?_
    refine V_get 0 dX12_searches_9 fX12_searches_187 rfl rfl ?_
    refine V_icmp_ge_N 16 dX12_searches_12 (by decide) (by omega) (by omega) (fun c_12 => ?_) (fun c_12 => ?_)
    ·
      rw [if_neg (show ¬ has + Rs.length + 1 < T.1 by omega)]
      refine V_iload_n dX12_searches_16 rfl ?_
      refine V_aload_n dX12_searches_17 rfl ?_
      refine V_get 0 dX12_searches_18 fX12_searches_178 rfl rfl ?_
      refine V_icmp_ne_N 113 dX12_searches_21 (by decide) (by omega) (by omega) (fun c_21 => ?_) (fun c_21 => absurd c_21 (by omega))
      refine V_aload_n dX12_searches_113 rfl ?_
      refine V_iload_n dX12_searches_114 rfl ?_
      refine V_callVpi1 [0] (s_X12_ringAt (d := d - 1) (by omega) h) gX12_searches_X12_ringAt dX12_searches_115 oX12_ringAt rfl rfl rfl rfl (Nat.le_of_ble_eq_true rfl) (by omega) ⟨Nat.le_refl _, Nat.le_refl _⟩ ?_
      rw [t1]
      refine V_istore dX12_searches_118 (by decide) rfl ?_
      refine V_iload dX12_searches_120 rfl ?_
      refine V_istore dX12_searches_122 (by decide) rfl ?_
      refine l_X12_searches_loop (R := R) (Pk0 := Pk) (ps := ps) (Tf := Tf) (by omega) h hs hKn (by omega) hhas hR5 hnw hwN hws t2 hmem ?_ ?_ (q ^ n - hd0) hd0 T Pk Od Lt cu cv ck (Nat.le_refl _) (by omega) hT (by rw [t3]; omega) (fun i _ => rfl) (by rw [t3]; exact hTf)
      · intro w T2 Pk2 Od2 Lt2 cu2 cv2 ck2 h1 h2 h3 h4 h5 h6
        have hwt : whT q n w = true := by
          unfold whT
          rw [List.any_eq_true]
          refine ⟨R, ?_, List.contains_iff_mem.mpr h1⟩
          rw [hRe.1, List.getD_eq_getElem?_getD, List.getElem?_eq_getElem hr]
          exact List.getElem_mem hr
        refine IHs (d - 1) (r + 1) (has + 1) (w :: ws) (ps ++ [w]) T2 Pk2 Od2 Lt2 cu2 cv2 ck2 (by omega) (by omega) hRe.2 ?_ hdj.2 ?_ (by rw [List.length_append, hps]; rfl) ?_ h3 (by omega) ?_
        · intro x hx R' hR'
          rcases List.mem_cons.mp hx with e | e
          · subst e
            have h8 := List.all_eq_true.mp hdj.1 x h1
            have h9 := List.all_eq_true.mp h8 R' hR'
            intro hh
            rw [List.contains_iff_mem.mpr hh] at h9
            cases h9
          · exact hdis2 x e R' hR'
        · intro x hx
          rcases List.mem_cons.mp hx with e | e
          · rw [e]; exact hwN w h1
          · exact hws x e
        · intro i hi
          dsimp only
          by_cases e : i = r
          · subst e
            rw [List.getD_eq_getElem?_getD, List.getElem?_append_right (by omega), hps, Nat.sub_self]
            exact ⟨h6, Or.inr ⟨hwN w h1, hwt⟩⟩
          · rw [h5 i (by omega), List.getD_eq_getElem?_getD, List.getElem?_append_left (by omega), ← List.getD_eq_getElem?_getD]
            exact hP i (by omega)
        · exact h4
      · intro Pk2 Od2 Lt2 cu2 cv2 ck2 h5
        exact l_X12_searches_tail (by omega) h hs hKn rfl hrK hhas hfl.1 (fun Pk3 h7 => by
          refine IHs (d - 1) (r + 1) has ws (ps ++ [256]) Tf Pk3 Od2 Lt2 cu2 cv2 ck2 (by omega) (by omega) hRe.2 hdis2 hdj.2 hws (by rw [List.length_append, hps]; rfl) ?_ hfl.1 (by omega) (by omega)
          intro i hi
          dsimp only
          by_cases e : i = r
          · subst e
            rw [List.getD_eq_getElem?_getD, List.getElem?_append_right (by omega), hps, Nat.sub_self]
            exact ⟨(h7 i (by omega)).trans (if_pos rfl), Or.inl rfl⟩
          · rw [h7 i hi, show upd Pk2 r (nI 256) i = Pk2 i from if_neg e, h5 i (by omega), List.getD_eq_getElem?_getD, List.getElem?_append_left (by omega), ← List.getD_eq_getElem?_getD]
            exact hP i (by omega)) h5
    ·
      rw [if_pos (show has + Rs.length + 1 < T.1 by omega)]
      refine V_vret dX12_searches_15 rfl (Nat.le_of_ble_eq_true rfl) (Nat.le_refl _) (Nat.le_refl _) ?_
      exact ⟨_, _, _, _, _, _, rfl, rfl, fun i _ => rfl⟩
end GREAT3

