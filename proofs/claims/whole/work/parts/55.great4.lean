/-! great: the model's answer is the class's -/
theorem mx0_le {k : Nat} : ∀ {l : List (List Nat)}, (∀ x ∈ l, cnp x ≤ k) → mx0 l ≤ k
  | [], _ => Nat.zero_le _
  | x :: l, h => by
    rw [mx0]
    have := h x List.mem_cons_self
    have := mx0_le (fun y hy => h y (List.mem_cons_of_mem _ hy))
    omega
theorem ss_f {q n K : Nat} {wa wr : Int32} : ∀ (Rs : List (List Nat)) (ws ps : List Nat) (T : ssT), small Rs → ss q n K wa wr false Rs ws ps (cnp ps) T = (max T.1 (mx0 (m2 q n Rs ws ps (cnp ps) 0)), T.2)
  | [], ws, ps, T, hs => by
    rw [ss, m2, if_neg (Nat.not_lt_zero _), if_neg Bool.false_ne_true]
    have e : mx0 [ps] = cnp ps := by simp [mx0]
    rw [e]
    by_cases h : cnp ps < T.1
    · rw [if_pos h, Nat.max_eq_left (by omega)]
    · rw [if_neg h, Nat.max_eq_right (by omega)]
  | R :: Rs, ws, ps, T, hs => by
    have hs2 : small Rs := fun R' h1 w h2 => hs R' (List.mem_cons_of_mem _ h1) w h2
    have e256 : cnp (ps ++ [256]) = cnp ps := by rw [cnp_app, if_neg (by omega)]; rfl
    have hfold : ∀ (l : List Nat) (T : ssT), (∀ w ∈ l, w < 256) → l.foldl (fun T w => if frL q n (w :: ws) then ss q n K wa wr false Rs (w :: ws) (ps ++ [w]) (cnp ps + 1) T else T) T = (max T.1 (mx0 (l.flatMap (fun w => if frL q n (w :: ws) then m2 q n Rs (w :: ws) (ps ++ [w]) (cnp ps + 1) 0 else []))), T.2) := by
      intro l
      induction l with
      | nil => intro T _; simp [mx0]
      | cons w l ih =>
        intro T hl
        rw [List.foldl_cons, List.flatMap_cons, mx0_app, ih _ (fun x hx => hl x (List.mem_cons_of_mem _ hx))]
        by_cases hf : frL q n (w :: ws) = true
        · have ew : cnp (ps ++ [w]) = cnp ps + 1 := by rw [cnp_app, if_pos (hl w List.mem_cons_self)]
          have i1 := ss_f (q := q) (n := n) (K := K) (wa := wa) (wr := wr) Rs (w :: ws) (ps ++ [w]) T hs2
          rw [ew] at i1
          rw [if_pos hf, if_pos hf, i1]
          dsimp only
          rw [Nat.max_assoc]
        · rw [if_neg hf, if_neg hf]
          simp [mx0]
    have hl := m2_cnt (q := q) (n := n) Rs ws (ps ++ [256]) (cnp ps) 0 hs2 e256.symm
    have hl2 := mx0_le (fun x hx => (hl x hx).2)
    rw [ss, hfold R T (fun w hw => hs R List.mem_cons_self w hw), m2, if_neg (Nat.not_lt_zero _), mx0_app]
    have i2 := ss_f (q := q) (n := n) (K := K) (wa := wa) (wr := wr) Rs ws (ps ++ [256]) (max T.1 (mx0 (R.flatMap (fun w => if frL q n (w :: ws) then m2 q n Rs (w :: ws) (ps ++ [w]) (cnp ps + 1) 0 else []))), T.2) hs2
    rw [e256] at i2
    by_cases h1 : cnp ps + Rs.length + 1 < T.1
    · rw [if_pos h1]
      have h2 := m2_cnt (q := q) (n := n) (R :: Rs) ws ps (cnp ps) 0 hs rfl
      rw [m2, if_neg (Nat.not_lt_zero _)] at h2
      have h3 := mx0_le (fun x hx => (h2 x hx).2)
      rw [mx0_app, List.length_cons] at h3
      rw [Nat.max_eq_left (by omega)]
    · rw [if_neg h1]
      dsimp only
      split
      · rw [i2]
        dsimp only
        rw [Nat.max_assoc]
      · next h2 =>
        have h3 : ¬ max T.1 (mx0 (R.flatMap (fun w => if frL q n (w :: ws) then m2 q n Rs (w :: ws) (ps ++ [w]) (cnp ps + 1) 0 else []))) < cnp ps + Rs.length := fun hh => h2 (Or.inr hh)
        rw [← Nat.max_assoc, Nat.max_eq_left (b := mx0 (m2 q n Rs ws (ps ++ [256]) (cnp ps) 0)) (by omega)]
def lfS (q n K : Nat) (wa wr : Int32) (T : ssT) (ps : List Nat) : ssT := (T.1, T.2.1 + 1, T.2.2.1 + (if wa = -3 ∧ fiB q n K ps = true then 1 else 0), if nI T.2.1 = wa ∧ 0 ≤ wr.toInt then nI (ps.getD wr.toInt.toNat 256) else T.2.2.2)
theorem lfS_1 {q n K : Nat} {wa wr : Int32} : ∀ (l : List (List Nat)) (T : ssT), (l.foldl (lfS q n K wa wr) T).1 = T.1
  | [], T => rfl
  | x :: l, T => by rw [List.foldl_cons, lfS_1 l]; rfl
theorem ss_t {q n K : Nat} {wa wr : Int32} : ∀ (Rs : List (List Nat)) (ws ps : List Nat) (has : Nat) (T : ssT), ss q n K wa wr true Rs ws ps has T = (m2 q n Rs ws ps has T.1).foldl (lfS q n K wa wr) T
  | [], ws, ps, has, T => by
    rw [ss, m2]
    split
    · rfl
    · rw [if_pos rfl]; rfl
  | R :: Rs, ws, ps, has, T => by
    have hfold : ∀ (l : List Nat) (T2 : ssT), T2.1 = T.1 → l.foldl (fun T w => if frL q n (w :: ws) then ss q n K wa wr true Rs (w :: ws) (ps ++ [w]) (has + 1) T else T) T2 = (l.flatMap (fun w => if frL q n (w :: ws) then m2 q n Rs (w :: ws) (ps ++ [w]) (has + 1) T.1 else [])).foldl (lfS q n K wa wr) T2 := by
      intro l
      induction l with
      | nil => intro T2 _; rfl
      | cons w l ih =>
        intro T2 h2
        rw [List.foldl_cons, List.flatMap_cons, List.foldl_append]
        by_cases hf : frL q n (w :: ws) = true
        · rw [if_pos hf, if_pos hf, ss_t Rs (w :: ws) (ps ++ [w]) (has + 1) T2, h2]
          exact ih _ (by rw [lfS_1, h2])
        · rw [if_neg hf, if_neg hf]
          exact ih T2 h2
    rw [ss, m2]
    split
    · rfl
    · rw [if_pos (Or.inl rfl), hfold R T rfl, List.foldl_append, ss_t Rs ws (ps ++ [256]) has, lfS_1]
def fdF (wa wr : Int32) : List (List Nat) → Nat → Int32 → Int32
  | [], _, x => x
  | ps :: l, b, x => fdF wa wr l (b + 1) (if nI b = wa ∧ 0 ≤ wr.toInt then nI (ps.getD wr.toInt.toNat 256) else x)
theorem fold_lf {q n K : Nat} {wa wr : Int32} : ∀ (l : List (List Nat)) (T : ssT), l.foldl (lfS q n K wa wr) T = (T.1, T.2.1 + l.length, T.2.2.1 + (if wa = -3 then (l.filter (fiB q n K)).length else 0), fdF wa wr l T.2.1 T.2.2.2)
  | [], T => by simp [fdF]
  | ps :: l, T => by
    rw [List.foldl_cons, fold_lf l, fdF, List.length_cons]
    unfold lfS
    dsimp only
    refine congrArg (Prod.mk T.1) ?_
    rw [show T.2.1 + 1 + l.length = T.2.1 + (l.length + 1) by omega]
    refine congrArg (Prod.mk _) ?_
    refine congrArg (fun z => (z, _)) ?_
    by_cases h : wa = -3
    · rw [if_pos h, if_pos h]
      by_cases h2 : fiB q n K ps = true
      · rw [if_pos ⟨h, h2⟩, List.filter_cons_of_pos h2, List.length_cons]; omega
      · rw [if_neg (fun hh => h2 hh.2), List.filter_cons_of_neg h2]; omega
    · rw [if_neg h, if_neg h, if_neg (fun hh => h hh.1)]
theorem fdF_no {wa wr : Int32} : ∀ (l : List (List Nat)) (b : Nat) (x : Int32), (∀ j, b ≤ j → j < b + l.length → nI j ≠ wa) → fdF wa wr l b x = x
  | [], _, _, _ => rfl
  | ps :: l, b, x, h => by
    rw [List.length_cons] at h
    rw [fdF, if_neg (fun hh => h b (Nat.le_refl _) (by omega) hh.1)]
    exact fdF_no l (b + 1) x (fun j h1 h2 => h j (by omega) (by omega))
theorem fdF_at {wr : Int32} {i : Nat} (hi : i < 2 ^ 31) (hw : 0 ≤ wr.toInt) : ∀ (l : List (List Nat)) (b : Nat) (x : Int32), b ≤ i → i < b + l.length → b + l.length < 2 ^ 31 → fdF (nI i) wr l b x = nI ((l.getD (i - b) []).getD wr.toInt.toNat 256)
  | [], b, x, h1, h2, _ => by simp at h2; omega
  | ps :: l, b, x, h1, h2, h3 => by
    rw [List.length_cons] at h2 h3
    rw [fdF]
    by_cases e : b = i
    · subst e
      rw [if_pos ⟨rfl, hw⟩, Nat.sub_self]
      exact fdF_no l (b + 1) _ (fun j h4 h5 hh => by rw [nI_eq (by omega) (by omega)] at hh; omega)
    · rw [if_neg (fun hh => e (by have := hh.1; rw [nI_eq (by omega) (by omega)] at this; exact this)), fdF_at hi hw l (b + 1) _ (by omega) (by omega) (by omega)]
      rw [show i - b = (i - (b + 1)) + 1 by omega]
      rfl
/-- what is counted of the lists -/
def wdT (q n bits k : Nat) : Nat → Nat → Int32
  | 0, _ => -1
  | f + 1, w => if bits / 2 ^ w % 2 = 1 then (if ((rgT q n).getD k []).contains w then nI w else wdT q n bits k f (w + 1)) else wdT q n bits k f (w + 1)
theorem wdT_eq {q n bits k : Nat} (h : OKq q n) (hs : q ^ n ≤ 32) (hk : k < nK q n) : ∀ (f w : Nat), w + f = 32 → wdF q n bits k f w = wdT q n bits k f w
  | 0, _, _ => rfl
  | f + 1, w, hw => by
    have hT := rgT_q h hs
    have e : inR q n k w = ((rgT q n).getD k []).contains w := by
      rw [← (hT.2 k (by rw [hT.1]; exact hk)).1]
      apply Bool.eq_iff_iff.mpr
      rw [List.contains_iff_mem, List.mem_filter, List.mem_range]
      exact ⟨fun hh => ⟨by omega, hh⟩, fun hh => hh.2⟩
    rw [wdF, wdT, wdT_eq h hs hk f (w + 1) (by omega), e]
set_option maxRecDepth 100000 in
theorem LL_facts : ∀ x ∈ smL, ((LL x.1 x.2).filter (fiB x.1 x.2 (nK x.1 x.2))).length = ((LL x.1 x.2).filter (fun ps => lsB x.1 x.2 (bitsOf ps))).length := by decide +kernel
set_option maxRecDepth 100000 in
theorem LL_words : ∀ x ∈ smL, (LL x.1 x.2).all (fun ps => (List.range (nK x.1 x.2)).all (fun k => decide (ps.getD k 256 ≤ 256) && decide (wdT x.1 x.2 (bitsOf ps) k 32 0 = if ps.getD k 256 = 256 then -1 else nI (ps.getD k 256)))) = true := by decide +kernel
theorem ct_filter {α : Type} {p : α → Bool} {z : α} : ∀ (l : List α), ct (fun i => p (l.getD i z)) l.length = (l.filter p).length := by
  have key : ∀ (m : Nat) (l : List α), m ≤ l.length → ct (fun i => p (l.getD i z)) m = ((l.take m).filter p).length := by
    intro m
    induction m with
    | zero => intro l _; rfl
    | succ m ih =>
      intro l hm
      rw [ct_succ, ih l (by omega), List.take_succ_eq_append_getElem (by omega), List.filter_append, List.length_append, List.getD_eq_getElem?_getD, List.getElem?_eq_getElem (by omega)]
      dsimp only [Option.getD]
      by_cases h : p (l[m]'(by omega)) = true
      · rw [if_pos h, List.filter_cons_of_pos h]; rfl
      · rw [if_neg h, List.filter_cons_of_neg h]; rfl
  intro l
  rw [key l.length l (Nat.le_refl _), List.take_length]

