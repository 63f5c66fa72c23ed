/-! great: both searches list the same books -/
def smL : List (Nat × Nat) := [(2, 1), (2, 2), (2, 3), (2, 4), (2, 5), (3, 1), (3, 2), (3, 3), (4, 1), (4, 2)]
theorem OKq.sm {q n : Nat} (h : OKq q n) (hs : q ^ n ≤ 32) : (q, n) ∈ smL := by
  have key : ∀ x ∈ okL, x.1 ^ x.2 ≤ 32 → x ∈ smL := by decide +kernel
  exact key (q, n) h.mem hs
/-- the whole rings, their words rising -/
def rgT : Nat → Nat → List (List Nat)
  | 2, 1 => [[0], [1]]
  | 2, 2 => [[1, 2]]
  | 2, 3 => [[1, 2, 4], [3, 5, 6]]
  | 2, 4 => [[1, 2, 4, 8], [3, 6, 9, 12], [7, 11, 13, 14]]
  | 2, 5 => [[1, 2, 4, 8, 16], [3, 6, 12, 17, 24], [5, 9, 10, 18, 20], [7, 14, 19, 25, 28], [11, 13, 21, 22, 26], [15, 23, 27, 29, 30]]
  | 3, 1 => [[0], [1], [2]]
  | 3, 2 => [[1, 3], [2, 6], [5, 7]]
  | 3, 3 => [[1, 3, 9], [2, 6, 18], [4, 10, 12], [5, 15, 19], [7, 11, 21], [8, 20, 24], [14, 16, 22], [17, 23, 25]]
  | 4, 1 => [[0], [1], [2], [3]]
  | 4, 2 => [[1, 4], [2, 8], [3, 12], [6, 9], [7, 13], [11, 14]]
  | _, _ => []
def mxT : Nat → Nat → Nat
  | 2, 1 => 2
  | 2, 2 => 1
  | 2, 3 => 2
  | 2, 4 => 3
  | 2, 5 => 6
  | 3, 1 => 3
  | 3, 2 => 3
  | 3, 3 => 8
  | 4, 1 => 4
  | 4, 2 => 5
  | _, _ => 0
theorem rgT_ok : ∀ x ∈ smL, (rgT x.1 x.2).length = nK x.1 x.2 ∧ ∀ r, r < (rgT x.1 x.2).length → (List.range 32).filter (inR x.1 x.2 r) = (rgT x.1 x.2).getD r [] ∧ ∀ w ∈ (rgT x.1 x.2).getD r [], w < x.1 ^ x.2 := by decide +kernel
theorem rgT_q {q n : Nat} (h : OKq q n) (hs : q ^ n ≤ 32) : (rgT q n).length = nK q n ∧ ∀ r, r < (rgT q n).length → (List.range 32).filter (inR q n r) = (rgT q n).getD r [] ∧ ∀ w ∈ (rgT q n).getD r [], w < q ^ n := rgT_ok (q, n) (h.sm hs)
def disj : List (List Nat) → Bool
  | [] => true
  | R :: Rs => R.all (fun w => Rs.all (fun R' => !R'.contains w)) && disj Rs
theorem rgT_disj : ∀ x ∈ smL, disj (rgT x.1 x.2) = true := by decide +kernel
def bitsOf (ps : List Nat) : Nat := ps.foldl (fun a p => if p < 256 then a ||| 2 ^ p else a) 0
def cnp (ps : List Nat) : Nat := (ps.filter (fun p => decide (p < 256))).length
/-- words free of one another -/
def frL (q n : Nat) (ws : List Nat) : Bool := ws.all (fun u => ws.all (fun v => (List.range n).all (fun k => k == 0 || !ws.contains (wAc q n u v k))))
def memF (ws : List Nat) : Nat → Bool := fun w => ws.contains w
theorem memF_cons (ws : List Nat) (w : Nat) : memF (w :: ws) = insB (memF ws) w := by
  funext x
  unfold memF insB
  rw [List.contains_cons, Bool.or_comm]
theorem memF_nil : memF [] = fun _ => false := by
  funext x
  rfl
theorem memF_t {ws : List Nat} {w : Nat} : memF ws w = true ↔ w ∈ ws := by
  unfold memF
  exact List.contains_iff_mem
theorem frL_iff {q n : Nat} {ws : List Nat} : frL q n ws = frB q n (memF ws) := by
  apply Bool.eq_iff_iff.mpr
  unfold frB
  rw [dB_t]
  unfold frL Fr
  simp only [List.all_eq_true, List.mem_range, Bool.or_eq_true, beq_iff_eq, Bool.not_eq_true']
  constructor
  · intro h u v k hu hv h1 h2
    rcases h u (memF_t.mp hu) v (memF_t.mp hv) k h2 with h3 | h3
    · omega
    · exact h3
  · intro h u hu v hv k hk
    by_cases h1 : k = 0
    · exact Or.inl h1
    · exact Or.inr (h u v k (memF_t.mpr hu) (memF_t.mpr hv) (by omega) hk)
/-- the free books below a node that have at least m words, each told by its picks -/
def m2 (q n : Nat) : List (List Nat) → List Nat → List Nat → Nat → Nat → List (List Nat)
  | [], _, ps, has, m => if has < m then [] else [ps]
  | R :: Rs, ws, ps, has, m => if has + Rs.length + 1 < m then [] else R.flatMap (fun w => if frL q n (w :: ws) then m2 q n Rs (w :: ws) (ps ++ [w]) (has + 1) m else []) ++ m2 q n Rs ws (ps ++ [256]) has m
theorem cnp_app {ps : List Nat} {w : Nat} : cnp (ps ++ [w]) = cnp ps + if w < 256 then 1 else 0 := by
  unfold cnp
  rw [List.filter_append, List.length_append]
  by_cases h : w < 256
  · rw [if_pos h]; simp [h]
  · rw [if_neg h]; simp [h]
theorem bitsOf_app {ps : List Nat} {w : Nat} : bitsOf (ps ++ [w]) = if w < 256 then bitsOf ps ||| 2 ^ w else bitsOf ps := by
  unfold bitsOf
  rw [List.foldl_append]
  rfl
/-- all words of these rings are below 256 -/
def small (Rs : List (List Nat)) : Prop := ∀ R ∈ Rs, ∀ w ∈ R, w < 256
theorem m2_cnt {q n : Nat} : ∀ (Rs : List (List Nat)) (ws ps : List Nat) (has m : Nat), small Rs → has = cnp ps → ∀ x ∈ m2 q n Rs ws ps has m, m ≤ cnp x ∧ cnp x ≤ has + Rs.length
  | [], ws, ps, has, m, _, hh, x, hx => by
    rw [m2] at hx
    split at hx
    · simp at hx
    · simp at hx; subst hx; simp; omega
  | R :: Rs, ws, ps, has, m, hsm, hh, x, hx => by
    rw [m2] at hx
    have hs2 : small Rs := fun R' h1 w h2 => hsm R' (List.mem_cons_of_mem _ h1) w h2
    split at hx
    · simp at hx
    · rw [List.mem_append, List.mem_flatMap] at hx
      rw [List.length_cons]
      rcases hx with ⟨w, h1, h2⟩ | hx
      · split at h2
        · have hw := hsm R List.mem_cons_self w h1
          have := m2_cnt Rs _ _ _ _ hs2 (by rw [cnp_app, if_pos hw, hh]) x h2
          omega
        · simp at h2
      · have := m2_cnt Rs _ _ _ _ hs2 (by rw [cnp_app, if_neg (by omega), hh]; rfl) x hx
        omega
theorem filter_flatMap' {α β : Type} (p : β → Bool) (f : α → List β) : ∀ l : List α, (l.flatMap f).filter p = l.flatMap (fun a => (f a).filter p)
  | [] => rfl
  | a :: l => by rw [List.flatMap_cons, List.filter_append, filter_flatMap' p f l, List.flatMap_cons]
theorem flatMap_congr' {α β : Type} {f g : α → List β} : ∀ {l : List α}, (∀ a ∈ l, f a = g a) → l.flatMap f = l.flatMap g
  | [], _ => rfl
  | a :: l, h => by rw [List.flatMap_cons, List.flatMap_cons, h a List.mem_cons_self, flatMap_congr' (fun b hb => h b (List.mem_cons_of_mem _ hb))]
theorem m2_filter {q n : Nat} : ∀ (Rs : List (List Nat)) (ws ps : List Nat) (has m : Nat), small Rs → has = cnp ps → m2 q n Rs ws ps has m = (m2 q n Rs ws ps has 0).filter (fun x => decide (m ≤ cnp x))
  | [], ws, ps, has, m, _, hh => by
    rw [m2, m2, if_neg (show ¬ has < 0 by omega)]
    by_cases h : has < m
    · rw [if_pos h, List.filter_cons_of_neg (by simp; omega)]; rfl
    · rw [if_neg h, List.filter_cons_of_pos (by simp; omega)]; rfl
  | R :: Rs, ws, ps, has, m, hsm, hh => by
    have hs2 : small Rs := fun R' h1 w h2 => hsm R' (List.mem_cons_of_mem _ h1) w h2
    by_cases h : has + Rs.length + 1 < m
    · have h0 := m2_cnt (q := q) (n := n) (R :: Rs) ws ps has 0 hsm hh
      rw [List.filter_eq_nil_iff.mpr (fun x hx => by have := (h0 x hx).2; rw [List.length_cons] at this; simp; omega)]
      rw [m2, if_pos h]
    · rw [m2, if_neg h, m2, if_neg (by omega), List.filter_append, filter_flatMap']
      rw [← m2_filter Rs ws (ps ++ [256]) has m hs2 (by rw [cnp_app, if_neg (by omega), hh]; rfl)]
      congr 1
      refine flatMap_congr' (fun w hw => ?_)
      split
      · exact m2_filter Rs (w :: ws) (ps ++ [w]) (has + 1) m hs2 (by rw [cnp_app, if_pos (hsm R List.mem_cons_self w hw), hh])
      · rfl
/-- the class's search as one walk over the free books -/
def stP (S : Nat × List Nat) (x : List Nat) : Nat × List Nat := if cnp x < S.1 then S else nt S (cnp x) (bitsOf x)
theorem stP_skip {S : Nat × List Nat} : ∀ {l : List (List Nat)}, (∀ x ∈ l, cnp x < S.1) → l.foldl stP S = S
  | [], _ => rfl
  | x :: l, h => by
    rw [List.foldl_cons]
    have e : stP S x = S := if_pos (h x List.mem_cons_self)
    rw [e]
    exact stP_skip (fun y hy => h y (List.mem_cons_of_mem _ hy))
theorem lpF_range {P : Nat → Bool} {F : Nat → Nat × List Nat → Nat × List Nat} : ∀ (g w : Nat) (S : Nat × List Nat), lpF P F g w S = (List.range' w g).foldl (fun S w => if P w then F w S else S) S
  | 0, w, S => rfl
  | g + 1, w, S => by
    rw [lpF, lpF_range g (w + 1), List.range'_succ, List.foldl_cons]
theorem foldl_filter' {α σ : Type} {p : α → Bool} {f : σ → α → σ} : ∀ (l : List α) (S : σ), l.foldl (fun S w => if p w then f S w else S) S = (l.filter p).foldl f S
  | [], S => rfl
  | a :: l, S => by
    rw [List.foldl_cons, foldl_filter' l]
    by_cases h : p a = true
    · rw [if_pos h, List.filter_cons_of_pos h, List.foldl_cons]
    · rw [if_neg h, List.filter_cons_of_neg h]
theorem foldl_flat {α σ β : Type} {g : α → List β} {f : σ → β → σ} : ∀ (l : List α) (S : σ), l.foldl (fun S a => (g a).foldl f S) S = (l.flatMap g).foldl f S
  | [], S => rfl
  | a :: l, S => by rw [List.foldl_cons, foldl_flat l, List.flatMap_cons, List.foldl_append]
theorem foldl_congr' {α σ : Type} {f g : σ → α → σ} : ∀ {l : List α} {S : σ}, (∀ a ∈ l, ∀ S, f S a = g S a) → l.foldl f S = l.foldl g S
  | [], _, _ => rfl
  | a :: l, S, h => by
    rw [List.foldl_cons, List.foldl_cons, h a List.mem_cons_self S]
    exact foldl_congr' (fun b hb => h b (List.mem_cons_of_mem _ hb))
theorem skF_m2 {q n : Nat} (h : OKq q n) (hs : q ^ n ≤ 32) : ∀ (f : Nat) (Rs : List (List Nat)) (ws ps : List Nat) (S : Nat × List Nat), f ≤ nK q n → Rs = (rgT q n).drop (nK q n - f) → Rs.length = f → (∀ w ∈ ws, ∀ R ∈ Rs, w ∉ R) → disj Rs = true → ct (memF ws) 256 = cnp ps → skF q n (nK q n) f (memF ws) (bitsOf ps) S = (m2 q n Rs ws ps (cnp ps) 0).foldl stP S := by
  have hT := rgT_q h hs
  have hsml : small (rgT q n) := by
    intro R hR w hw
    obtain ⟨r, hr, rfl⟩ := List.mem_iff_getElem.mp hR
    have := (hT.2 r hr).2 w (by rw [List.getD_eq_getElem?_getD, List.getElem?_eq_getElem hr]; exact hw)
    have := h.2.2.2.2
    omega
  intro f
  induction f with
  | zero =>
    intro Rs ws ps S hf hR hl hd hj hc
    have e : Rs = [] := List.eq_nil_of_length_eq_zero hl
    subst e
    rw [skF, m2, if_neg (Nat.not_lt_zero _), hc]
    rfl
  | succ f ih =>
    intro Rs ws ps S hf hR hl hd hj hc
    obtain ⟨R, Rs', rfl⟩ : ∃ R Rs', Rs = R :: Rs' := by
      cases Rs with
      | nil => simp at hl
      | cons R Rs' => exact ⟨R, Rs', rfl⟩
    have hl' : Rs'.length = f := by simpa using hl
    have hlen := hT.1
    have hr : nK q n - (f + 1) < (rgT q n).length := by omega
    have hRe : R = (rgT q n).getD (nK q n - (f + 1)) [] ∧ Rs' = (rgT q n).drop (nK q n - f) := by
      have e1 := List.drop_eq_getElem_cons hr
      rw [← hR] at e1
      injection e1 with e2 e3
      refine ⟨?_, by rw [e3]; congr 1; omega⟩
      rw [e2, List.getD_eq_getElem?_getD, List.getElem?_eq_getElem hr]
      rfl
    have hfil := (hT.2 _ hr).1
    have hlt := (hT.2 _ hr).2
    rw [← hRe.1] at hfil hlt
    have hsm : small (R :: Rs') := by
      intro R' h1 w h2
      rw [hR] at h1
      exact hsml R' (List.mem_of_mem_drop h1) w h2
    unfold disj at hj
    rw [Bool.and_eq_true] at hj
    have hd' : ∀ w ∈ ws, ∀ R' ∈ Rs', w ∉ R' := fun w h1 R' h2 => hd w h1 R' (List.mem_cons_of_mem _ h2)
    rw [skF, hc]
    by_cases hp : cnp ps + (f + 1) < S.1
    · rw [if_pos hp]
      refine (stP_skip (fun x hx => ?_)).symm
      have := (m2_cnt (q := q) (n := n) _ ws ps _ 0 hsm rfl x hx).2
      rw [hl] at this
      omega
    · rw [if_neg hp, m2, if_neg (Nat.not_lt_zero _), List.foldl_append]
      have e256 : cnp (ps ++ [256]) = cnp ps := by rw [cnp_app, if_neg (by omega)]; rfl
      have b256 : bitsOf (ps ++ [256]) = bitsOf ps := by rw [bitsOf_app, if_neg (by omega)]
      have i1 := ih Rs' ws (ps ++ [256]) (lpF (fun w => inR q n (nK q n - (f + 1)) w && alB q n (memF ws) w) (fun w S => skF q n (nK q n) f (insB (memF ws) w) (bitsOf ps ||| 2 ^ w) S) 32 0 S) (by omega) hRe.2 hl' hd' hj.2 (by rw [e256]; exact hc)
      rw [b256, e256] at i1
      rw [i1]
      congr 1
      rw [lpF_range, ← List.range_eq_range']
      have e3 : (fun (S : Nat × List Nat) w => if (inR q n (nK q n - (f + 1)) w && alB q n (memF ws) w) = true then skF q n (nK q n) f (insB (memF ws) w) (bitsOf ps ||| 2 ^ w) S else S) = (fun S w => if inR q n (nK q n - (f + 1)) w = true then (if alB q n (memF ws) w = true then skF q n (nK q n) f (insB (memF ws) w) (bitsOf ps ||| 2 ^ w) S else S) else S) := by
        funext S w
        cases inR q n (nK q n - (f + 1)) w <;> simp
      rw [e3, foldl_filter', hfil, ← foldl_flat]
      refine foldl_congr' (fun w hw S' => ?_)
      have hwl := hlt w hw
      have hnw : w ∉ ws := fun hh => hd w hh R List.mem_cons_self hw
      have hnw2 : memF ws w = false := by
        cases hh : memF ws w with
        | false => rfl
        | true => exact absurd (memF_t.mp hh) hnw
      have hN := h.2.2.2.2
      have eal : alB q n (memF ws) w = frL q n (w :: ws) := by
        rw [frL_iff, memF_cons]
        exact dB_iff ⟨fun hh => hh.2.2, fun hh => ⟨hwl, hnw2, hh⟩⟩
      rw [eal]
      by_cases hfr : frL q n (w :: ws) = true
      · rw [if_pos hfr, if_pos hfr, ← memF_cons]
        have ew : cnp (ps ++ [w]) = cnp ps + 1 := by rw [cnp_app, if_pos (by omega)]
        have bw : bitsOf (ps ++ [w]) = bitsOf ps ||| 2 ^ w := by rw [bitsOf_app, if_pos (by omega)]
        have i2 := ih Rs' (w :: ws) (ps ++ [w]) S' (by omega) hRe.2 hl' (fun x hx R' hR' => by
          rcases List.mem_cons.mp hx with e | e
          · subst e
            have h5 := List.all_eq_true.mp hj.1 x hw
            have h6 := List.all_eq_true.mp h5 R' hR'
            intro hh
            rw [List.contains_iff_mem.mpr hh] at h6
            cases h6
          · exact hd' x e R' hR') hj.2 (by rw [ew, ← hc, memF_cons, ct_ins2 hnw2, if_pos (by omega)])
        rw [bw, ew] at i2
        exact i2
      · rw [if_neg hfr, if_neg hfr]
        rfl
/-- the most words; those that have as many -/
def mx0 : List (List Nat) → Nat
  | [] => 0
  | x :: l => max (cnp x) (mx0 l)
theorem mx0_app : ∀ (l l' : List (List Nat)), mx0 (l ++ l') = max (mx0 l) (mx0 l')
  | [], l' => by simp [mx0]
  | x :: l, l' => by rw [List.cons_append, mx0, mx0, mx0_app l l']; omega
theorem mx0_ge : ∀ {l : List (List Nat)} {x : List Nat}, x ∈ l → cnp x ≤ mx0 l
  | y :: l, x, h => by
    rw [mx0]
    rcases List.mem_cons.mp h with e | e
    · subst e; omega
    · have := mx0_ge e; omega
theorem stP_all : ∀ (l2 l1 : List (List Nat)), l2.foldl stP (mx0 l1, (l1.filter (fun x => decide (mx0 l1 ≤ cnp x))).map bitsOf) = (mx0 (l1 ++ l2), ((l1 ++ l2).filter (fun x => decide (mx0 (l1 ++ l2) ≤ cnp x))).map bitsOf)
  | [], l1 => by rw [List.append_nil]; rfl
  | x :: l2, l1 => by
    have i1 := stP_all l2 (l1 ++ [x])
    rw [List.append_assoc, List.singleton_append] at i1
    rw [List.foldl_cons, ← i1]
    congr 1
    have e1 : mx0 (l1 ++ [x]) = max (mx0 l1) (cnp x) := by rw [mx0_app]; simp [mx0]
    rw [e1]
    unfold stP nt
    dsimp only
    by_cases h1 : cnp x < mx0 l1
    · rw [if_pos h1, Nat.max_eq_left (by omega), List.filter_append]
      congr 1
      rw [List.map_append, List.filter_cons_of_neg (by simp; omega)]
      simp
    · rw [if_neg h1]
      by_cases h2 : mx0 l1 < cnp x
      · rw [if_pos h2, Nat.max_eq_right (by omega), List.filter_append, List.filter_eq_nil_iff.mpr (fun y hy => by have := mx0_ge hy; simp; omega)]
        rw [List.filter_cons_of_pos (by simp)]
        rfl
      · rw [if_neg h2, show max (mx0 l1) (cnp x) = mx0 l1 by omega, List.filter_append, List.map_append, List.filter_cons_of_pos (by simp; omega)]
        rfl
theorem mx0_of {l : List (List Nat)} {m : Nat} (h1 : l.filter (fun x => decide (m ≤ cnp x)) ≠ []) (h2 : l.filter (fun x => decide (m + 1 ≤ cnp x)) = []) : mx0 l = m := by
  have h3 : m ≤ mx0 l := by
    obtain ⟨x, hx⟩ := List.exists_mem_of_ne_nil _ h1
    rw [List.mem_filter] at hx
    have := mx0_ge hx.1
    have := of_decide_eq_true hx.2
    omega
  have h4 : ∀ {l : List (List Nat)}, l.filter (fun x => decide (m + 1 ≤ cnp x)) = [] → mx0 l ≤ m := by
    intro l
    induction l with
    | nil => intro _; exact Nat.zero_le _
    | cons x l ih =>
      intro h
      rw [List.filter_eq_nil_iff] at h
      rw [mx0]
      have h5 := h x List.mem_cons_self
      simp at h5
      have := ih (List.filter_eq_nil_iff.mpr (fun y hy => h y (List.mem_cons_of_mem _ hy)))
      omega
  have := h4 h2
  omega
/-- the greatest books by their picks -/
def LL (q n : Nat) : List (List Nat) := m2 q n (rgT q n) [] [] 0 (mxT q n)
theorem LL_ok : ∀ x ∈ smL, (LL x.1 x.2 ≠ [] ∧ (LL x.1 x.2).length ≤ 128) ∧ m2 x.1 x.2 (rgT x.1 x.2) [] [] 0 (mxT x.1 x.2 + 1) = [] := by decide +kernel
theorem GR_LL {q n : Nat} (h : OKq q n) (hs : q ^ n ≤ 32) : GR q n = (mxT q n, (LL q n).map bitsOf) := by
  have hm := h.sm hs
  have hT := rgT_q h hs
  have hsml : small (rgT q n) := by
    intro R hR w hw
    obtain ⟨r, hr, rfl⟩ := List.mem_iff_getElem.mp hR
    have := (hT.2 r hr).2 w (by rw [List.getD_eq_getElem?_getD, List.getElem?_eq_getElem hr]; exact hw)
    have := h.2.2.2.2
    omega
  have e1 := skF_m2 h hs (nK q n) (rgT q n) [] [] (0, []) (Nat.le_refl _) (by rw [Nat.sub_self, List.drop_zero]) hT.1 (fun w hw => absurd hw (by simp)) (rgT_disj (q, n) hm) (by rw [memF_nil, ct_none (fun _ => rfl)]; rfl)
  unfold GR
  rw [show bitsOf [] = 0 from rfl, memF_nil] at e1
  rw [e1]
  have e2 := stP_all (m2 q n (rgT q n) [] [] (cnp []) 0) []
  rw [List.nil_append] at e2
  have e3 : (mx0 [], (([] : List (List Nat)).filter (fun x => decide (mx0 [] ≤ cnp x))).map bitsOf) = ((0, []) : Nat × List Nat) := rfl
  rw [e3] at e2
  rw [e2]
  obtain ⟨⟨f1, -⟩, f2⟩ := LL_ok (q, n) hm
  have g1 := m2_filter (q := q) (n := n) (rgT q n) [] [] 0 (mxT q n) hsml rfl
  have g2 := m2_filter (q := q) (n := n) (rgT q n) [] [] 0 (mxT q n + 1) hsml rfl
  have e4 : mx0 (m2 q n (rgT q n) [] [] (cnp []) 0) = mxT q n := mx0_of (by rw [show cnp [] = 0 from rfl, ← g1]; exact f1) (by rw [show cnp [] = 0 from rfl, ← g2]; exact f2)
  rw [e4]
  congr 1
  unfold LL
  rw [g1]
  rfl

