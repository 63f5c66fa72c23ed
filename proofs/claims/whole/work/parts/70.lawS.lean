/-! the law from its entry -/
theorem st_tab {s : State} {b : Nat} {A : Nat → Prop} (hts : ∀ w ∈ lw_tbl, w.before #[Value.ref b] s = true) (hgv : (Jvm.Cond.and given_1 narrow_1).before #[Value.ref b] s = true) (hA : ∀ a : Nat, a < s.heap.size → ¬ A a) : ∃ tO, zST tO A s s.heap := by
  have hs := flat_of_before _ hgv
  have hel : ∀ j : Nat, j < 96 → (Cond.eq (.elem (.static "CommaFreeBooks$Alphabet" "ORDERS" "[I") (.int (Int32.ofNat j))) (.int (zOrd j))).before #[Value.ref b] s = true := by
    intro j hj
    apply hs
    revert j
    decide +kernel
  obtain ⟨t, ht, hT⟩ := va_Tof (args := #[Value.ref b]) (s := s) (tm := .static "CommaFreeBooks$Alphabet" "ORDERS" "[I") (ty := .int) (N := 96) (f := fun j => .int (zOrd j)) (A := A) (by decide) (hs _ (by decide +kernel)) (va_eqt (hs (Cond.eq (.length (.static "CommaFreeBooks$Alphabet" "ORDERS" "[I")) (.int 96)) (by decide +kernel))) (fun j hj => va_eqt (hel j hj)) hA
  exact ⟨t, va_Zref (hts (.laysStatic "CommaFreeBooks$Alphabet" "ORDERS" "[I") (by decide +kernel)) (hts (.initialized "CommaFreeBooks$Alphabet") (by decide +kernel)) ht hA, hT⟩
theorem st_nest {s : State} {b : Nat} (hts : ∀ w ∈ lw_tbl, w.before #[Value.ref b] s = true) : zNest s := by
  have h : ∀ t ∈ zNl, zNc t ∈ lw_tbl := by decide +kernel
  exact fun t ht => va_Nw.of rfl (hts _ (h t ht))
theorem st_cls {s : State} {b : Nat} (hts : ∀ w ∈ lw_tbl, w.before #[Value.ref b] s = true) : ∃ (dC : Nat → ClassId) (dI : Nat → Nat → Nat), ∀ (k : Nat) (q : vw_C), vwCl[k]? = some q → u_Kn s q.1 q.2.1 q.2.2 (dC k) (dI k) := by
  obtain ⟨c0, i0, h0⟩ := u_known (C := RX0) (T := TX0) (N := 4) (n := 4) hts inX0 (hts (.instantiable RX0 4) (by decide +kernel))
  obtain ⟨c1, i1, h1⟩ := u_known (C := RX1) (T := TX1) (N := 7) (n := 7) hts inX1 (hts (.instantiable RX1 7) (by decide +kernel))
  obtain ⟨c2, i2, h2⟩ := u_known (C := RX2) (T := TX2) (N := 4) (n := 4) hts inX2 (hts (.instantiable RX2 4) (by decide +kernel))
  obtain ⟨c3, i3, h3⟩ := u_known (C := RX4) (T := TX4) (N := 10) (n := 10) hts inX4 (hts (.instantiable RX4 10) (by decide +kernel))
  obtain ⟨c4, i4, h4⟩ := u_known (C := RX5) (T := TX5) (N := 2) (n := 2) hts inX5 (hts (.instantiable RX5 2) (by decide +kernel))
  obtain ⟨c5, i5, h5⟩ := u_known (C := RX6) (T := TX6) (N := 2) (n := 2) hts inX6 (hts (.instantiable RX6 2) (by decide +kernel))
  obtain ⟨c6, i6, h6⟩ := u_known (C := RX7) (T := TX7) (N := 4) (n := 4) hts inX7 (hts (.instantiable RX7 4) (by decide +kernel))
  obtain ⟨c7, i7, h7⟩ := u_known (C := RX9) (T := TX9) (N := 4) (n := 4) hts inX9 (hts (.instantiable RX9 4) (by decide +kernel))
  obtain ⟨c8, i8, h8⟩ := u_known (C := RX10) (T := TX10) (N := 4) (n := 4) hts inX10 (hts (.instantiable RX10 4) (by decide +kernel))
  obtain ⟨c9, i9, h9⟩ := u_known (C := RX11) (T := TX11) (N := 8) (n := 8) hts inX11 (hts (.instantiable RX11 8) (by decide +kernel))
  obtain ⟨c10, i10, h10⟩ := u_known (C := RX12) (T := TX12) (N := 41) (n := 41) hts inX12 (hts (.instantiable RX12 41) (by decide +kernel))
  refine ⟨fun k => [c0, c1, c2, c3, c4, c5, c6, c7, c8, c9, c10].getD k c0, fun k => [i0, i1, i2, i3, i4, i5, i6, i7, i8, i9, i10].getD k i0, ?_⟩
  intro k q hq
  match k, hq with
  | 0, hq => cases hq; exact h0
  | 1, hq => cases hq; exact h1
  | 2, hq => cases hq; exact h2
  | 3, hq => cases hq; exact h3
  | 4, hq => cases hq; exact h4
  | 5, hq => cases hq; exact h5
  | 6, hq => cases hq; exact h6
  | 7, hq => cases hq; exact h7
  | 8, hq => cases hq; exact h8
  | 9, hq => cases hq; exact h9
  | 10, hq => cases hq; exact h10
  | k + 11, hq => cases hq
theorem st_arr {s : State} {b : Nat} {ty : FieldType} (hty : ∀ C, ty ≠ .object C) (hts : (Cond.arrayClass ty).before #[Value.ref b] s = true) : ∃ cA, ArrOfT s cA ty ∧ va_RA s cA ty := by
  obtain ⟨cA, kA, comp, h1, h2, h3⟩ := Cond.arrayClass_spec hts
  refine ⟨cA, fun n z => ⟨fun k h => (by cases h), kA, h2, comp, h3⟩, ?_⟩
  cases ty with
  | object C => exact absurd rfl (hty C)
  | _ => exact h1
set_option maxHeartbeats 4000000 in
theorem whole_start {p : Program} {e : Env} {s : State} {m : MethodId} {below : List Frame} {meth : Method} {c : Code} (l : Launch) (hflags : l.flags = flags0) {b L : Nat} {xs : Nat → Int32} (hL : L ≤ 2560) (C0 : lw_At p s m meth c b L xs) : W p l e room_1 s m #[Value.ref b] below meth c s.heap [] 0 0 (lw_Z below #[Value.ref b] s) (entryFrame m ([Value.ref b] : List Value).toArray 4) := by
  obtain ⟨hx, hb, hr, hml, hown, hts, hX, hbl, hlocks, hgv⟩ := C0
  obtain ⟨dC, dI, hK⟩ := st_cls hts
  obtain ⟨cI, hI1, hI2⟩ := st_arr (ty := .int) (fun C h => by cases h) (hts (.arrayClass .int) (by decide +kernel))
  obtain ⟨cZ, hZ1, hZ2⟩ := st_arr (ty := .boolean) (fun C h => by cases h) (hts (.arrayClass .boolean) (by decide +kernel))
  have hA : ∀ a : Nat, a < s.heap.size → ¬ va_A (zR cI cZ []) s.heap.size a := by
    rintro a h1 (⟨k, e, h⟩ | h)
    · simp [zR] at h
    · omega
  obtain ⟨tO, hO⟩ := st_tab (A := va_A (zR cI cZ []) s.heap.size) hts hgv hA
  have hKK : va_K (dC, dI) vwCl (zTys cI cZ) s := ⟨hK, fun k q hq => by
    match k, hq with
    | 0, hq => cases hq; exact ⟨hI1, hI2⟩
    | 1, hq => cases hq; exact ⟨hZ1, hZ2⟩
    | k + 2, hq => cases hq⟩
  have hl := lv_entry ([.ref b]) (n := 4) (Nat.le_of_ble_eq_true rfl)
  rw [lg_entry_eq]
  refine law_all (tO := tO) (bs := b) (L := L) (xs := xs) hL p l e s m below meth c dC dI cI cZ s.heap [] _ ⟨hx, hb, hml, hr, fun w hw => hts w (wsL_law_in w hw), hown, hlocks, ⟨hX, hbl⟩, hKK, hO, st_nest hts⟩ (fun k q h => by simp [zR] at h) ⟨fun i j p q h => by simp [zR] at h, fun k q h => by simp [zR] at h⟩ va_S.rf ⟨hl.1, hl.2.1, fun q hq => ?_⟩
  have hq' : q = (0, Value.ref b) := by simpa [zP] using hq
  subst hq'
  exact hl.2.2 _ (by simp [lv_args])
