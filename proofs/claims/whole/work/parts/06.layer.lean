/-! THE LAYER: a method's walk over a world of my own words (addresses stay names, contents are lists) -/
abbrev zE : Type := (Bool × Nat × (Nat → Int32)) ⊕ (Nat × List Value)
abbrev zW : Type := List (Nat × zE)
abbrev zM : Type := MethodName × ByteArray × Nat × Option FieldType × List Cond × String
abbrev zPo : Type := Option Value → zW → Prop
/-- an array of ints, an array of booleans, an object -/
abbrev aI (n : Nat) (f : Nat → Int32) : zE := .inl (false, n, f)
abbrev aZ (n : Nat) (f : Nat → Int32) : zE := .inl (true, n, f)
abbrev oB (c : Nat) (fs : List Value) : zE := .inr (c, fs)
def zRe (cI cZ : ClassId) : Nat × zE → Nat × va_E
  | (a, .inl (b, n, f)) => (a, .inl (if b then cZ else cI, n, .inl f))
  | (a, .inr o) => (a, .inr o)
def zR (cI cZ : ClassId) (ws : zW) : va_W := ws.map (zRe cI cZ)
def zTys (cI cZ : ClassId) : List (ClassId × FieldType) := [(cI, .int), (cZ, .boolean)]
theorem zRe_1 (cI cZ : ClassId) (q : Nat × zE) : (zRe cI cZ q).1 = q.1 := by
  obtain ⟨a, e⟩ := q
  cases e <;> rfl
theorem zR_get {cI cZ : ClassId} {ws : zW} {k : Nat} {q : Nat × zE} (h : ws[k]? = some q) : (zR cI cZ ws)[k]? = some (zRe cI cZ q) := by
  unfold zR
  rw [List.getElem?_map, h]
  rfl
theorem zR_inv {cI cZ : ClassId} {ws : zW} {k : Nat} {q : Nat × va_E} (h : (zR cI cZ ws)[k]? = some q) : ∃ q0, ws[k]? = some q0 ∧ q = zRe cI cZ q0 := by
  unfold zR at h
  rw [List.getElem?_map] at h
  cases hk : ws[k]? with
  | none => rw [hk] at h; cases h
  | some q0 => rw [hk] at h; exact ⟨q0, rfl, (Option.some.inj h).symm⟩
theorem zR_set (cI cZ : ClassId) (ws : zW) (k : Nat) (q : Nat × zE) : (zR cI cZ ws).set k (zRe cI cZ q) = zR cI cZ (ws.set k q) := by
  unfold zR
  rw [List.map_set]
theorem zR_app (cI cZ : ClassId) (w1 w2 : zW) : zR cI cZ (w1 ++ w2) = zR cI cZ w1 ++ zR cI cZ w2 := by
  unfold zR
  rw [List.map_append]
/-! the nest's fields, the static table -/
abbrev zL6 : Type := String × Nat × String × String × String × String
def zNc (t : zL6) : Cond := .fieldLinkNest t.1 t.2.1 t.2.2.1 t.2.2.2.1 t.2.2.2.2.1 t.2.2.2.2.2
def zNl : List zL6 := [("CommaFreeBooks$Desk", 48, "CommaFreeBooks$Alphabet", "letters", "I", "CommaFreeBooks"), ("CommaFreeBooks$Doubt", 44, "CommaFreeBooks$Alphabet", "letters", "I", "CommaFreeBooks"), ("CommaFreeBooks$Tape", 58, "CommaFreeBooks$Alphabet", "letters", "I", "CommaFreeBooks"), ("CommaFreeBooks$Greatest", 51, "CommaFreeBooks$Alphabet", "letters", "I", "CommaFreeBooks"), ("CommaFreeBooks$Strip", 53, "CommaFreeBooks$Alphabet", "letters", "I", "CommaFreeBooks"), ("CommaFreeBooks", 179, "CommaFreeBooks$Alphabet", "letters", "I", "CommaFreeBooks"), ("CommaFreeBooks$Doubt", 15, "CommaFreeBooks$Alphabet", "length", "I", "CommaFreeBooks"), ("CommaFreeBooks$Desk", 52, "CommaFreeBooks$Alphabet", "length", "I", "CommaFreeBooks"), ("CommaFreeBooks$Paper", 39, "CommaFreeBooks$Alphabet", "length", "I", "CommaFreeBooks"), ("CommaFreeBooks$Tape", 45, "CommaFreeBooks$Alphabet", "length", "I", "CommaFreeBooks"), ("CommaFreeBooks$Greatest", 56, "CommaFreeBooks$Alphabet", "length", "I", "CommaFreeBooks"), ("CommaFreeBooks", 109, "CommaFreeBooks$Alphabet", "length", "I", "CommaFreeBooks"), ("CommaFreeBooks$Strip", 44, "CommaFreeBooks$Alphabet", "length", "I", "CommaFreeBooks"), ("CommaFreeBooks$Book", 75, "CommaFreeBooks$Alphabet", "length", "I", "CommaFreeBooks"), ("CommaFreeBooks", 78, "CommaFreeBooks$Alphabet", "size", "I", "CommaFreeBooks"), ("CommaFreeBooks$Greatest", 75, "CommaFreeBooks$Alphabet", "size", "I", "CommaFreeBooks"), ("CommaFreeBooks$Book", 118, "CommaFreeBooks$Alphabet", "size", "I", "CommaFreeBooks"), ("CommaFreeBooks$Doubt", 9, "CommaFreeBooks$Book", "alphabet", "LCommaFreeBooks$Alphabet;", "CommaFreeBooks"), ("CommaFreeBooks$Paper", 35, "CommaFreeBooks$Book", "alphabet", "LCommaFreeBooks$Alphabet;", "CommaFreeBooks"), ("CommaFreeBooks$Tape", 36, "CommaFreeBooks$Book", "alphabet", "LCommaFreeBooks$Alphabet;", "CommaFreeBooks"), ("CommaFreeBooks", 27, "CommaFreeBooks$Desk", "alphabet", "LCommaFreeBooks$Alphabet;", "CommaFreeBooks"), ("CommaFreeBooks", 86, "CommaFreeBooks$Desk", "book", "LCommaFreeBooks$Book;", "CommaFreeBooks"), ("CommaFreeBooks", 182, "CommaFreeBooks$Desk", "strip", "LCommaFreeBooks$Strip;", "CommaFreeBooks"), ("CommaFreeBooks", 227, "CommaFreeBooks$Desk", "plan", "LCommaFreeBooks$Plan;", "CommaFreeBooks")]
def zNest (U : State) : Prop := ∀ t ∈ zNl, va_Nw (zNc t) U
theorem zNest.warm {s U : State} (hW : s.WarmedH U.vm) (h : zNest s) : zNest U := fun t ht => va_Nw.warmF hW (h t ht)
theorem zNest.calling {U : State} {g : JFrame} {mk : MethodId} {a : Array Value} (h : zNest U) : zNest (U.calling g mk a) := fun t ht => va_Nw.same (u := U) rfl rfl (h t ht)
def zOrdL : List Int32 := [0, 1, 2, 3, 0, 1, 3, 2, 0, 2, 1, 3, 0, 2, 3, 1, 0, 3, 1, 2, 0, 3, 2, 1, 1, 0, 2, 3, 1, 0, 3, 2, 1, 2, 0, 3, 1, 2, 3, 0, 1, 3, 0, 2, 1, 3, 2, 0, 2, 0, 1, 3, 2, 0, 3, 1, 2, 1, 0, 3, 2, 1, 3, 0, 2, 3, 0, 1, 2, 3, 1, 0, 3, 0, 1, 2, 3, 0, 2, 1, 3, 1, 0, 2, 3, 1, 2, 0, 3, 2, 0, 1, 3, 2, 1, 0]
def zOrd (j : Nat) : Int32 := zOrdL.getD j 0
def zST (tO : Nat) (A : Nat → Prop) (U : State) (H : Heap) : Prop := va_Z "CommaFreeBooks$Alphabet" "ORDERS" "[I" (.ref tO) A U H ∧ va_T .int tO 96 (fun j => .int (zOrd j)) A U H
/-! a method's start and end, its contract -/
def zRm (r : Nat × Nat × Nat) : Room := { frames := r.1, cells := r.2.1, slots := r.2.2, locals := 40 * r.1 }
def zIn (dC : Nat → ClassId) (dI : Nat → Nat → Nat) (cI cZ : ClassId) (tO : Nat) (ws : zW) (sz : Nat) (U : State) : Prop :=
  U.heap.size = sz ∧ va_P (dC, dI) vwCl (zR cI cZ ws) U.heap ∧ va_K (dC, dI) vwCl (zTys cI cZ) U ∧ va_D (fun _ => True) (zR cI cZ ws) ∧ zST tO (va_A (zR cI cZ ws) sz) U U.heap ∧ zNest U
def zQ (dC : Nat → ClassId) (dI : Nat → Nat → Nat) (cI cZ : ClassId) (ws0 : zW) (sz : Nat) (Po : zPo) : Array Value → State → Outcome → State → Prop := fun _ st oc t =>
  (∃ (v : Option Value) (ws : zW), oc = .returned v ∧ Po v ws ∧ ws0.length ≤ ws.length ∧ va_P (dC, dI) vwCl (zR cI cZ ws) t.heap ∧ va_D (va_A (zR cI cZ ws0) sz) (zR cI cZ ws)) ∧ va_F (va_A (zR cI cZ ws0) sz) st t
def Sp (tO : Nat) (me : zM) (r : Nat × Nat × Nat) (args : List Value) (ws : zW) (Po : zPo) : Prop :=
  ∀ (l : Launch) (dC : Nat → ClassId) (dI : Nat → Nat → Nat) (cI cZ : ClassId) (sz : Nat), Met l me.1 me.2.2.2.2.1 (zRm r) (va_Pc args (zIn dC dI cI cZ tO ws sz)) (zQ dC dI cI cZ ws sz Po) r.2.1 r.2.2 (va_A (zR cI cZ ws) sz)
theorem zIn.blind {av : List Value} {dC : Nat → ClassId} {dI : Nat → Nat → Nat} {cI cZ : ClassId} {tO : Nat} {ws : zW} {sz : Nat} : FrameBlind (va_Pc av (zIn dC dI cI cZ tO ws sz)) := fun a U g mk q => by
  obtain ⟨q0, q1, qP, qK, qD, ⟨qZ, qT⟩, qN⟩ := q
  exact ⟨q0, q1, qP, va_K.moved (u := U) (U := U.calling g mk a) (Vm.Alike.refl U.vm) qK, qD, ⟨va_Z.moved (u := U) (U := U.calling g mk a) (Vm.Alike.refl U.vm) qZ, va_T.moved (u := U) (U := U.calling g mk a) (Vm.Alike.refl U.vm) qT⟩, zNest.calling qN⟩
/-! locals by their places -/
def zP : Nat → List (Option Value) → List (Nat × Value)
  | _, [] => []
  | i, none :: t => zP (i + 1) t
  | i, some v :: t => (i, v) :: zP (i + 1) t
theorem mem_zP : ∀ (lc : List (Option Value)) (k j : Nat) (w : Value), (j, w) ∈ zP k lc ↔ ∃ i, j = k + i ∧ lc[i]? = some (some w)
  | [], k, j, w => by simp [zP]
  | none :: t, k, j, w => by
    rw [zP, mem_zP t (k + 1) j w]
    constructor
    · rintro ⟨i, h1, h2⟩
      exact ⟨i + 1, by omega, by simpa using h2⟩
    · rintro ⟨i, h1, h2⟩
      cases i with
      | zero => simp at h2
      | succ i => exact ⟨i, by omega, by simpa using h2⟩
  | some v :: t, k, j, w => by
    rw [zP, List.mem_cons, mem_zP t (k + 1) j w]
    constructor
    · rintro (h | ⟨i, h1, h2⟩)
      · cases h
        exact ⟨0, by omega, by simp⟩
      · exact ⟨i + 1, by omega, by simpa using h2⟩
    · rintro ⟨i, h1, h2⟩
      cases i with
      | zero => left; simp at h2; rw [h2]; simp [h1]
      | succ i => right; exact ⟨i, by omega, by simpa using h2⟩
def zL (ls : Array Slot) (nL : Nat) (lc : List (Option Value)) : Prop := lv_has ls nL (zP 0 lc)
theorem zL.get {ls : Array Slot} {nL i : Nat} {lc : List (Option Value)} {v : Value} (h : zL ls nL lc) (hi : lc[i]? = some (some v)) : ls[i]? = some (.val v) := h.2.2 (i, v) ((mem_zP lc 0 i v).mpr ⟨i, by omega, hi⟩)
def zNo2 (lc : List (Option Value)) : Bool := lc.all (fun o => match o with | some v => v.category == 1 | none => true)
theorem zNo2_at {lc : List (Option Value)} (h : zNo2 lc = true) {i : Nat} {v : Value} (hi : lc[i]? = some (some v)) : v.category = 1 := by
  have h1 := List.all_eq_true.mp h _ (List.mem_of_getElem? hi)
  simpa using h1
theorem zL.set {ls' : Array Slot} {nL i : Nat} {lc : List (Option Value)} {v : Value} (hn : zNo2 lc = true) (h : lv_has ls' nL ((i, v) :: (zP 0 lc).filter (fun q => !(q.1 == i) && !(q.1 + 1 == i && q.2.category == 2)))) : zL ls' nL (lc.set i (some v)) := by
  refine ⟨h.1, h.2.1, fun q hq => ?_⟩
  obtain ⟨j, w⟩ := q
  obtain ⟨i', h1, h2⟩ := (mem_zP _ 0 j w).mp hq
  have e : i' = j := by omega
  subst e
  by_cases hji : i' = i
  · subst hji
    rw [List.getElem?_set] at h2
    split at h2
    · split at h2
      · cases h2
        exact h.2.2 (i', v) List.mem_cons_self
      · cases h2
    · next hne => exact absurd rfl hne
  · rw [List.getElem?_set_ne (Ne.symm hji)] at h2
    refine h.2.2 (i', w) (List.mem_cons_of_mem _ (List.mem_filter.mpr ⟨(mem_zP _ 0 i' w).mpr ⟨i', by omega, h2⟩, ?_⟩))
    have hc := zNo2_at hn h2
    simp [hji, hc]
theorem zL.weak {ls : Array Slot} {nL : Nat} {lc lc' : List (Option Value)} (h : zL ls nL lc) (hw : ∀ (i : Nat) (v : Value), lc'[i]? = some (some v) → lc[i]? = some (some v)) : zL ls nL lc' := by
  refine ⟨h.1, h.2.1, fun q hq => ?_⟩
  obtain ⟨j, w⟩ := q
  obtain ⟨i', h1, h2⟩ := (mem_zP _ 0 j w).mp hq
  exact h.2.2 (j, w) ((mem_zP _ 0 j w).mpr ⟨i', h1, hw i' w h2⟩)
/-! the judgement -/
def zC (tO : Nat) (me : zM) (r : Nat × Nat × Nat) (ws0 : zW) (p : Program) (s : State) (m : MethodId) (args : Array Value) (meth : Method) (c : Code) (dC : Nat → ClassId) (dI : Nat → Nat → Nat) (cI cZ : ClassId) : Prop :=
  p.tables.exec = Jvm.exec ∧ c.code = me.2.1 ∧ c.maxLocals = me.2.2.1 ∧ meth.sig.returnType = me.2.2.2.1 ∧ (∀ w ∈ me.2.2.2.2.1, w.before args s = true) ∧ s.vm.findClass me.2.2.2.2.2 = some m.cls ∧ meth.locks = false ∧ meth.name = me.1.name ∧
  va_K (dC, dI) vwCl (zTys cI cZ) s ∧ zST tO (va_A (zR cI cZ ws0) s.heap.size) s s.heap ∧ zNest s
def V (tO : Nat) (me : zM) (r : Nat × Nat × Nat) (ws0 : zW) (Po : zPo) (u : Nat × Nat) (ws : zW) (pc : Nat) (lc : List (Option Value)) (st : List Value) : Prop :=
  ∀ (p : Program) (l : Launch) (e : Env) (s : State) (m : MethodId) (args : Array Value) (below : List Frame) (meth : Method) (c : Code) (dC : Nat → ClassId) (dI : Nat → Nat → Nat) (cI cZ : ClassId) (H : Heap) (locs : List Loc) (ls : Array Slot),
  zC tO me r ws0 p s m args meth c dC dI cI cZ → va_P (dC, dI) vwCl (zR cI cZ ws) H → va_D (va_A (zR cI cZ ws0) s.heap.size) (zR cI cZ ws) → va_S (va_A (zR cI cZ ws0) s.heap.size) s.heap H locs → zL ls me.2.2.1 lc →
  W p l e (zRm r) s m args below meth c H locs u.1 u.2 (MQ below (zQ dC dI cI cZ ws0 s.heap.size Po) args s r.2.1 r.2.2 (va_A (zR cI cZ ws0) s.heap.size)) (F0 m pc ls st)
/-- the locals of a method's start -/
def zLoc (args : List Value) (nL : Nat) : List (Option Value) :=
  let l := args.flatMap (fun v => if v.category = 2 then [some v, none] else [some v])
  l ++ List.replicate (nL - l.length) none
theorem zLoc_at : ∀ (args : List Value) (k i : Nat) (v : Value) (nL : Nat), (args.flatMap (fun v => if v.category = 2 then [some v, none] else [some v]) ++ List.replicate nL none)[i]? = some (some v) → (k + i, v) ∈ lv_args k args
  | [], k, i, v, nL, h => by
    simp only [List.flatMap_nil, List.nil_append, List.getElem?_replicate] at h
    split at h <;> cases h
  | a :: t, k, i, v, nL, h => by
    rw [lv_args, List.mem_cons]
    by_cases hc : a.category = 2
    · simp only [List.flatMap_cons, if_pos hc] at h
      rw [if_pos hc]
      match i, h with
      | 0, h => left; simp at h; simp [h]
      | 1, h => simp at h
      | i + 2, h =>
        right
        have := zLoc_at t (k + 2) i v nL (by simpa using h)
        rwa [show k + (i + 2) = k + 2 + i by omega]
    · simp only [List.flatMap_cons, if_neg hc] at h
      rw [if_neg hc]
      match i, h with
      | 0, h => left; simp at h; simp [h]
      | i + 1, h =>
        right
        have := zLoc_at t (k + 1) i v nL (by simpa using h)
        rwa [show k + (i + 1) = k + 1 + i by omega]
theorem Sp.of {tO : Nat} {me : zM} {r : Nat × Nat × Nat} {args : List Value} {ws : zW} {Po : zPo} {ts' : List Cond} (hy : plainName me.1.cls = true) (hw : me.2.2.2.2.1 = Cond.code me.1 me.2.1 me.2.2.1 me.2.2.2.1 :: ts') (ho : me.1.cls = me.2.2.2.2.2) (hlen : (lg_sl args).length ≤ me.2.2.1)
    (k : V tO me r ws Po (0, 0) ws 0 (zLoc args me.2.2.1) []) : Sp tO me r args ws Po := by
  intro l dC dI cI cZ sz
  refine Met.ofW (cc := me.2.1) (maxL := me.2.2.1) (ret := me.2.2.2.1) hy hw ?_
  intro p e s m args' below meth c s₁ B hml hv
  obtain ⟨rfl, hsz, hP, hK, hD0, hZ, hN⟩ := hv
  subst hsz
  have hl := lv_entry args (n := me.2.2.1) hlen
  rw [lg_entry_eq]
  exact k p l e s m _ below meth c dC dI cI cZ s.heap [] _ ⟨B.exec, B.bytes, hml, B.returns, atoms_spec (ws := me.2.2.2.2.1) B.pre, ho ▸ findClass_of_methodNamed B.named, B.notSynchronized, (name_of_methodNamed B.named B.method).1, hK, hZ, hN⟩ hP hD0.self va_S.rf
    ⟨hl.1, hl.2.1, fun q hq => by
      obtain ⟨j, w⟩ := q
      obtain ⟨i, h1, h2⟩ := (mem_zP _ 0 j w).mp hq
      exact hl.2.2 (j, w) (by
        have h3 := zLoc_at args 0 i w _ h2
        rwa [← h1] at h3)⟩
section ZV
variable {tO : Nat} {me : zM} {r : Nat × Nat × Nat} {ws0 ws : zW} {Q : zPo} {u : Nat × Nat} {pc : Nat} {lc : List (Option Value)} {st : List Value}
theorem V_iconst {n : Int} {v : Int32} (hdg : decode me.2.1 pc = .ok (.iconst n, 1)) (hv : Int32.ofInt n = v) (k : V tO me r ws0 Q u ws (pc + 1) lc (.int v :: st)) : V tO me r ws0 Q u ws (pc) lc (st) := by
  intro p l e s m args below meth c dC dI cI cZ H locs ls hC hP hD hS hl
  exact lv_iconst hC.1 hC.2.1 hdg hv (k p l e s m args below meth c dC dI cI cZ H locs ls hC hP hD hS hl)
theorem V_bipush {n : Int} {v : Int32} (hdg : decode me.2.1 pc = .ok (.bipush n, 2)) (hv : (Int8.ofInt n).toInt32 = v) (k : V tO me r ws0 Q u ws (pc + 2) lc (.int v :: st)) : V tO me r ws0 Q u ws (pc) lc (st) := by
  intro p l e s m args below meth c dC dI cI cZ H locs ls hC hP hD hS hl
  exact lv_bipush hC.1 hC.2.1 hdg hv (k p l e s m args below meth c dC dI cI cZ H locs ls hC hP hD hS hl)
theorem V_sipush {n : Int} {v : Int32} (hdg : decode me.2.1 pc = .ok (.sipush n, 3)) (hv : (Int16.ofInt n).toInt32 = v) (k : V tO me r ws0 Q u ws (pc + 3) lc (.int v :: st)) : V tO me r ws0 Q u ws (pc) lc (st) := by
  intro p l e s m args below meth c dC dI cI cZ H locs ls hC hP hD hS hl
  exact lv_sipush hC.1 hC.2.1 hdg hv (k p l e s m args below meth c dC dI cI cZ H locs ls hC hP hD hS hl)
theorem V_lconst {n : Fin 2} {v : Int64} (hdg : decode me.2.1 pc = .ok (.lconst n, 1)) (hv : Int64.ofNat (n : Nat) = v) (k : V tO me r ws0 Q u ws (pc + 1) lc (.long v :: st)) : V tO me r ws0 Q u ws (pc) lc (st) := by
  intro p l e s m args below meth c dC dI cI cZ H locs ls hC hP hD hS hl
  exact lv_lconst hC.1 hC.2.1 hdg hv (k p l e s m args below meth c dC dI cI cZ H locs ls hC hP hD hS hl)
theorem V_ldc {n : Nat} {v : Int32} (hdg : decode me.2.1 pc = .ok (.ldc n, 2)) (hw : Cond.constant me.2.2.2.2.2 n v ∈ me.2.2.2.2.1) (k : V tO me r ws0 Q u ws (pc + 2) lc (.int v :: st)) : V tO me r ws0 Q u ws (pc) lc (st) := by
  intro p l e s m args below meth c dC dI cI cZ H locs ls hC hP hD hS hl
  exact lv_ldc hC.1 hC.2.1 hC.2.2.2.2.2.1 (hC.2.2.2.2.1 _ hw) hdg (k p l e s m args below meth c dC dI cI cZ H locs ls hC hP hD hS hl)
theorem V_ldc2 {n : Nat} {v : Int64} (hdg : decode me.2.1 pc = .ok (.ldc2_w n, 3)) (hw : Cond.constantLong me.2.2.2.2.2 n v ∈ me.2.2.2.2.1) (k : V tO me r ws0 Q u ws (pc + 3) lc (.long v :: st)) : V tO me r ws0 Q u ws (pc) lc (st) := by
  intro p l e s m args below meth c dC dI cI cZ H locs ls hC hP hD hS hl
  exact lv_ldc2 hC.1 hC.2.1 hC.2.2.2.2.2.1 (hC.2.2.2.2.1 _ hw) hdg (k p l e s m args below meth c dC dI cI cZ H locs ls hC hP hD hS hl)
theorem V_iload_n {j : Fin 4} {x : Int32} (hdg : decode me.2.1 pc = .ok (.iload_n j, 1)) (hl0 : lc[(j : Nat)]? = some (some (.int x))) (k : V tO me r ws0 Q u ws (pc + 1) lc (.int x :: st)) : V tO me r ws0 Q u ws (pc) lc (st) := by
  intro p l e s m args below meth c dC dI cI cZ H locs ls hC hP hD hS hl
  exact lv_iload_n hC.1 hC.2.1 hdg rfl (hl.get hl0) (k p l e s m args below meth c dC dI cI cZ H locs ls hC hP hD hS hl)
theorem V_iload {j : Nat} {x : Int32} (hdg : decode me.2.1 pc = .ok (.iload j, 2)) (hl0 : lc[j]? = some (some (.int x))) (k : V tO me r ws0 Q u ws (pc + 2) lc (.int x :: st)) : V tO me r ws0 Q u ws (pc) lc (st) := by
  intro p l e s m args below meth c dC dI cI cZ H locs ls hC hP hD hS hl
  exact lv_iload hC.1 hC.2.1 hdg (hl.get hl0) (k p l e s m args below meth c dC dI cI cZ H locs ls hC hP hD hS hl)
theorem V_lload_n {j : Fin 4} {x : Int64} (hdg : decode me.2.1 pc = .ok (.lload_n j, 1)) (hl0 : lc[(j : Nat)]? = some (some (.long x))) (k : V tO me r ws0 Q u ws (pc + 1) lc (.long x :: st)) : V tO me r ws0 Q u ws (pc) lc (st) := by
  intro p l e s m args below meth c dC dI cI cZ H locs ls hC hP hD hS hl
  exact lv_lload_n hC.1 hC.2.1 hdg rfl (hl.get hl0) (k p l e s m args below meth c dC dI cI cZ H locs ls hC hP hD hS hl)
theorem V_lload {j : Nat} {x : Int64} (hdg : decode me.2.1 pc = .ok (.lload j, 2)) (hl0 : lc[j]? = some (some (.long x))) (k : V tO me r ws0 Q u ws (pc + 2) lc (.long x :: st)) : V tO me r ws0 Q u ws (pc) lc (st) := by
  intro p l e s m args below meth c dC dI cI cZ H locs ls hC hP hD hS hl
  exact lv_lload hC.1 hC.2.1 hdg (hl.get hl0) (k p l e s m args below meth c dC dI cI cZ H locs ls hC hP hD hS hl)
theorem V_aload_n {j : Fin 4} {x : Nat} (hdg : decode me.2.1 pc = .ok (.aload_n j, 1)) (hl0 : lc[(j : Nat)]? = some (some (.ref x))) (k : V tO me r ws0 Q u ws (pc + 1) lc (.ref x :: st)) : V tO me r ws0 Q u ws (pc) lc (st) := by
  intro p l e s m args below meth c dC dI cI cZ H locs ls hC hP hD hS hl
  exact lv_aload_n hC.1 hC.2.1 hdg rfl (hl.get hl0) (k p l e s m args below meth c dC dI cI cZ H locs ls hC hP hD hS hl)
theorem V_aload {j : Nat} {x : Nat} (hdg : decode me.2.1 pc = .ok (.aload j, 2)) (hl0 : lc[j]? = some (some (.ref x))) (k : V tO me r ws0 Q u ws (pc + 2) lc (.ref x :: st)) : V tO me r ws0 Q u ws (pc) lc (st) := by
  intro p l e s m args below meth c dC dI cI cZ H locs ls hC hP hD hS hl
  exact lv_aload hC.1 hC.2.1 hdg (hl.get hl0) (k p l e s m args below meth c dC dI cI cZ H locs ls hC hP hD hS hl)
theorem V_istore_n {j : Fin 4} {x : Int32} (hdg : decode me.2.1 pc = .ok (.istore_n j, 1)) (hn : (j : Nat) < me.2.2.1) (h2 : zNo2 lc = true) (k : V tO me r ws0 Q u ws (pc + 1) (lc.set (j : Nat) (some (.int x))) (st)) : V tO me r ws0 Q u ws (pc) lc (.int x :: st) := by
  intro p l e s m args below meth c dC dI cI cZ H locs ls hC hP hD hS hl
  exact lv_istore_n hC.1 hC.2.1 hdg rfl hl hn rfl (fun ls' hl' => k p l e s m args below meth c dC dI cI cZ H locs ls' hC hP hD hS (zL.set h2 hl'))
theorem V_istore {j : Nat} {x : Int32} (hdg : decode me.2.1 pc = .ok (.istore j, 2)) (hn : j < me.2.2.1) (h2 : zNo2 lc = true) (k : V tO me r ws0 Q u ws (pc + 2) (lc.set j (some (.int x))) (st)) : V tO me r ws0 Q u ws (pc) lc (.int x :: st) := by
  intro p l e s m args below meth c dC dI cI cZ H locs ls hC hP hD hS hl
  exact lv_istore hC.1 hC.2.1 hdg hl hn rfl (fun ls' hl' => k p l e s m args below meth c dC dI cI cZ H locs ls' hC hP hD hS (zL.set h2 hl'))
theorem V_astore_n {j : Fin 4} {x : Nat} (hdg : decode me.2.1 pc = .ok (.astore_n j, 1)) (hn : (j : Nat) < me.2.2.1) (h2 : zNo2 lc = true) (k : V tO me r ws0 Q u ws (pc + 1) (lc.set (j : Nat) (some (.ref x))) (st)) : V tO me r ws0 Q u ws (pc) lc (.ref x :: st) := by
  intro p l e s m args below meth c dC dI cI cZ H locs ls hC hP hD hS hl
  exact lv_astore_n hC.1 hC.2.1 hdg rfl hl hn rfl (fun ls' hl' => k p l e s m args below meth c dC dI cI cZ H locs ls' hC hP hD hS (zL.set h2 hl'))
theorem V_astore {j : Nat} {x : Nat} (hdg : decode me.2.1 pc = .ok (.astore j, 2)) (hn : j < me.2.2.1) (h2 : zNo2 lc = true) (k : V tO me r ws0 Q u ws (pc + 2) (lc.set j (some (.ref x))) (st)) : V tO me r ws0 Q u ws (pc) lc (.ref x :: st) := by
  intro p l e s m args below meth c dC dI cI cZ H locs ls hC hP hD hS hl
  exact lv_astore hC.1 hC.2.1 hdg hl hn rfl (fun ls' hl' => k p l e s m args below meth c dC dI cI cZ H locs ls' hC hP hD hS (zL.set h2 hl'))
theorem V_iinc {j : Nat} {n : Int} {x v : Int32} (hdg : decode me.2.1 pc = .ok (.iinc j n, 3)) (hl0 : lc[j]? = some (some (.int x))) (hv : x + Int32.ofInt n = v) (hn : j < me.2.2.1) (h2 : zNo2 lc = true) (k : V tO me r ws0 Q u ws (pc + 3) (lc.set j (some (.int v))) (st)) : V tO me r ws0 Q u ws (pc) lc (st) := by
  intro p l e s m args below meth c dC dI cI cZ H locs ls hC hP hD hS hl
  obtain ⟨i0, h0⟩ := List.getElem?_of_mem ((mem_zP lc 0 j (.int x)).mpr ⟨j, by omega, hl0⟩)
  exact lv_iinc hC.1 hC.2.1 hdg hl h0 hv hn rfl (fun ls' hl' => k p l e s m args below meth c dC dI cI cZ H locs ls' hC hP hD hS (zL.set h2 hl'))
theorem V_iadd {x y : Int32} (hdg : decode me.2.1 pc = .ok (.iadd, 1)) (k : V tO me r ws0 Q u ws (pc + 1) lc (.int (x + y) :: st)) : V tO me r ws0 Q u ws (pc) lc (.int y :: .int x :: st) := by
  intro p l e s m args below meth c dC dI cI cZ H locs ls hC hP hD hS hl
  exact lv_iadd hC.1 hC.2.1 hdg (k p l e s m args below meth c dC dI cI cZ H locs ls hC hP hD hS hl)
theorem V_isub {x y : Int32} (hdg : decode me.2.1 pc = .ok (.isub, 1)) (k : V tO me r ws0 Q u ws (pc + 1) lc (.int (x - y) :: st)) : V tO me r ws0 Q u ws (pc) lc (.int y :: .int x :: st) := by
  intro p l e s m args below meth c dC dI cI cZ H locs ls hC hP hD hS hl
  exact lv_isub hC.1 hC.2.1 hdg (k p l e s m args below meth c dC dI cI cZ H locs ls hC hP hD hS hl)
theorem V_imul {x y : Int32} (hdg : decode me.2.1 pc = .ok (.imul, 1)) (k : V tO me r ws0 Q u ws (pc + 1) lc (.int (x * y) :: st)) : V tO me r ws0 Q u ws (pc) lc (.int y :: .int x :: st) := by
  intro p l e s m args below meth c dC dI cI cZ H locs ls hC hP hD hS hl
  exact lv_imul hC.1 hC.2.1 hdg (k p l e s m args below meth c dC dI cI cZ H locs ls hC hP hD hS hl)
theorem V_iand {x y : Int32} (hdg : decode me.2.1 pc = .ok (.iand, 1)) (k : V tO me r ws0 Q u ws (pc + 1) lc (.int (x &&& y) :: st)) : V tO me r ws0 Q u ws (pc) lc (.int y :: .int x :: st) := by
  intro p l e s m args below meth c dC dI cI cZ H locs ls hC hP hD hS hl
  exact lv_iand hC.1 hC.2.1 hdg (k p l e s m args below meth c dC dI cI cZ H locs ls hC hP hD hS hl)
theorem V_ior {x y : Int32} (hdg : decode me.2.1 pc = .ok (.ior, 1)) (k : V tO me r ws0 Q u ws (pc + 1) lc (.int (x ||| y) :: st)) : V tO me r ws0 Q u ws (pc) lc (.int y :: .int x :: st) := by
  intro p l e s m args below meth c dC dI cI cZ H locs ls hC hP hD hS hl
  exact lv_ior hC.1 hC.2.1 hdg (k p l e s m args below meth c dC dI cI cZ H locs ls hC hP hD hS hl)
theorem V_ishl {x y : Int32} (hdg : decode me.2.1 pc = .ok (.ishl, 1)) (k : V tO me r ws0 Q u ws (pc + 1) lc (.int (x <<< (y &&& 31)) :: st)) : V tO me r ws0 Q u ws (pc) lc (.int y :: .int x :: st) := by
  intro p l e s m args below meth c dC dI cI cZ H locs ls hC hP hD hS hl
  exact lv_ishl hC.1 hC.2.1 hdg (k p l e s m args below meth c dC dI cI cZ H locs ls hC hP hD hS hl)
theorem V_ishr {x y : Int32} (hdg : decode me.2.1 pc = .ok (.ishr, 1)) (k : V tO me r ws0 Q u ws (pc + 1) lc (.int (x >>> (y &&& 31)) :: st)) : V tO me r ws0 Q u ws (pc) lc (.int y :: .int x :: st) := by
  intro p l e s m args below meth c dC dI cI cZ H locs ls hC hP hD hS hl
  exact lv_ishr hC.1 hC.2.1 hdg (k p l e s m args below meth c dC dI cI cZ H locs ls hC hP hD hS hl)
theorem V_idiv {x y : Int32} (hdg : decode me.2.1 pc = .ok (.idiv, 1)) (hne : ¬ y = 0) (k : V tO me r ws0 Q u ws (pc + 1) lc (.int (x / y) :: st)) : V tO me r ws0 Q u ws (pc) lc (.int y :: .int x :: st) := by
  intro p l e s m args below meth c dC dI cI cZ H locs ls hC hP hD hS hl
  exact lv_idiv hC.1 hC.2.1 hdg hne (k p l e s m args below meth c dC dI cI cZ H locs ls hC hP hD hS hl)
theorem V_irem {x y : Int32} (hdg : decode me.2.1 pc = .ok (.irem, 1)) (hne : ¬ y = 0) (k : V tO me r ws0 Q u ws (pc + 1) lc (.int (x - x / y * y) :: st)) : V tO me r ws0 Q u ws (pc) lc (.int y :: .int x :: st) := by
  intro p l e s m args below meth c dC dI cI cZ H locs ls hC hP hD hS hl
  exact lv_irem hC.1 hC.2.1 hdg hne (k p l e s m args below meth c dC dI cI cZ H locs ls hC hP hD hS hl)
theorem V_iushr {x y : Int32} (hdg : decode me.2.1 pc = .ok (.iushr, 1)) (k : V tO me r ws0 Q u ws (pc + 1) lc (.int ((x.toUInt32 >>> (y.toUInt32 &&& Int32.toUInt32 31)).toInt32) :: st)) : V tO me r ws0 Q u ws (pc) lc (.int y :: .int x :: st) := by
  intro p l e s m args below meth c dC dI cI cZ H locs ls hC hP hD hS hl
  exact lv_iushr hC.1 hC.2.1 hdg rfl (k p l e s m args below meth c dC dI cI cZ H locs ls hC hP hD hS hl)
theorem V_i2l {x : Int32} (hdg : decode me.2.1 pc = .ok (.i2l, 1)) (k : V tO me r ws0 Q u ws (pc + 1) lc (.long x.toInt64 :: st)) : V tO me r ws0 Q u ws (pc) lc (.int x :: st) := by
  intro p l e s m args below meth c dC dI cI cZ H locs ls hC hP hD hS hl
  exact lv_i2l hC.1 hC.2.1 hdg rfl (k p l e s m args below meth c dC dI cI cZ H locs ls hC hP hD hS hl)
theorem V_lcmp {x y : Int64} (hdg : decode me.2.1 pc = .ok (.lcmp, 1)) (k : V tO me r ws0 Q u ws (pc + 1) lc (.int (lg_cmp x y) :: st)) : V tO me r ws0 Q u ws (pc) lc (.long y :: .long x :: st) := by
  intro p l e s m args below meth c dC dI cI cZ H locs ls hC hP hD hS hl
  exact W.lcmp hC.1 hC.2.1 hdg (k p l e s m args below meth c dC dI cI cZ H locs ls hC hP hD hS hl)
theorem V_dup {x : Value} (hdg : decode me.2.1 pc = .ok (.dup, 1)) (hx : x.category = 1) (k : V tO me r ws0 Q u ws (pc + 1) lc (x :: x :: st)) : V tO me r ws0 Q u ws (pc) lc (x :: st) := by
  intro p l e s m args below meth c dC dI cI cZ H locs ls hC hP hD hS hl
  exact lv_dup hC.1 hC.2.1 hdg hx (k p l e s m args below meth c dC dI cI cZ H locs ls hC hP hD hS hl)
theorem V_pop {x : Value} (hdg : decode me.2.1 pc = .ok (.pop, 1)) (hx : x.category = 1) (k : V tO me r ws0 Q u ws (pc + 1) lc (st)) : V tO me r ws0 Q u ws (pc) lc (x :: st) := by
  intro p l e s m args below meth c dC dI cI cZ H locs ls hC hP hD hS hl
  exact lv_pop hC.1 hC.2.1 hdg hx (k p l e s m args below meth c dC dI cI cZ H locs ls hC hP hD hS hl)
theorem V_if_eq {x : Int32} {off : Int} (tgt : Nat) (hdg : decode me.2.1 pc = .ok (.ifCond .eq off, 3)) (ht : (pc : Int) + off = (tgt : Int)) (kt : x = 0 → V tO me r ws0 Q u ws (tgt) lc (st)) (kf : ¬ x = 0 → V tO me r ws0 Q u ws (pc + 3) lc (st)) : V tO me r ws0 Q u ws (pc) lc (.int x :: st) := by
  intro p l e s m args below meth c dC dI cI cZ H locs ls hC hP hD hS hl
  exact lv_if_eq hC.1 hC.2.1 hdg ht (fun h => kt h p l e s m args below meth c dC dI cI cZ H locs ls hC hP hD hS hl) (fun h => kf h p l e s m args below meth c dC dI cI cZ H locs ls hC hP hD hS hl)
theorem V_icmp_eq {x y : Int32} {off : Int} (tgt : Nat) (hdg : decode me.2.1 pc = .ok (.if_icmp .eq off, 3)) (ht : (pc : Int) + off = (tgt : Int)) (kt : x = y → V tO me r ws0 Q u ws (tgt) lc (st)) (kf : ¬ x = y → V tO me r ws0 Q u ws (pc + 3) lc (st)) : V tO me r ws0 Q u ws (pc) lc (.int y :: .int x :: st) := by
  intro p l e s m args below meth c dC dI cI cZ H locs ls hC hP hD hS hl
  exact lv_icmp_eq hC.1 hC.2.1 hdg ht (fun h => kt h p l e s m args below meth c dC dI cI cZ H locs ls hC hP hD hS hl) (fun h => kf h p l e s m args below meth c dC dI cI cZ H locs ls hC hP hD hS hl)
theorem V_if_ne {x : Int32} {off : Int} (tgt : Nat) (hdg : decode me.2.1 pc = .ok (.ifCond .ne off, 3)) (ht : (pc : Int) + off = (tgt : Int)) (kt : ¬ x = 0 → V tO me r ws0 Q u ws (tgt) lc (st)) (kf : x = 0 → V tO me r ws0 Q u ws (pc + 3) lc (st)) : V tO me r ws0 Q u ws (pc) lc (.int x :: st) := by
  intro p l e s m args below meth c dC dI cI cZ H locs ls hC hP hD hS hl
  exact lv_if_ne hC.1 hC.2.1 hdg ht (fun h => kt h p l e s m args below meth c dC dI cI cZ H locs ls hC hP hD hS hl) (fun h => kf h p l e s m args below meth c dC dI cI cZ H locs ls hC hP hD hS hl)
theorem V_icmp_ne {x y : Int32} {off : Int} (tgt : Nat) (hdg : decode me.2.1 pc = .ok (.if_icmp .ne off, 3)) (ht : (pc : Int) + off = (tgt : Int)) (kt : ¬ x = y → V tO me r ws0 Q u ws (tgt) lc (st)) (kf : x = y → V tO me r ws0 Q u ws (pc + 3) lc (st)) : V tO me r ws0 Q u ws (pc) lc (.int y :: .int x :: st) := by
  intro p l e s m args below meth c dC dI cI cZ H locs ls hC hP hD hS hl
  exact lv_icmp_ne hC.1 hC.2.1 hdg ht (fun h => kt h p l e s m args below meth c dC dI cI cZ H locs ls hC hP hD hS hl) (fun h => kf h p l e s m args below meth c dC dI cI cZ H locs ls hC hP hD hS hl)
theorem V_if_lt {x : Int32} {off : Int} (tgt : Nat) (hdg : decode me.2.1 pc = .ok (.ifCond .lt off, 3)) (ht : (pc : Int) + off = (tgt : Int)) (kt : x < 0 → V tO me r ws0 Q u ws (tgt) lc (st)) (kf : ¬ x < 0 → V tO me r ws0 Q u ws (pc + 3) lc (st)) : V tO me r ws0 Q u ws (pc) lc (.int x :: st) := by
  intro p l e s m args below meth c dC dI cI cZ H locs ls hC hP hD hS hl
  exact lv_if_lt hC.1 hC.2.1 hdg ht (fun h => kt h p l e s m args below meth c dC dI cI cZ H locs ls hC hP hD hS hl) (fun h => kf h p l e s m args below meth c dC dI cI cZ H locs ls hC hP hD hS hl)
theorem V_icmp_lt {x y : Int32} {off : Int} (tgt : Nat) (hdg : decode me.2.1 pc = .ok (.if_icmp .lt off, 3)) (ht : (pc : Int) + off = (tgt : Int)) (kt : x < y → V tO me r ws0 Q u ws (tgt) lc (st)) (kf : ¬ x < y → V tO me r ws0 Q u ws (pc + 3) lc (st)) : V tO me r ws0 Q u ws (pc) lc (.int y :: .int x :: st) := by
  intro p l e s m args below meth c dC dI cI cZ H locs ls hC hP hD hS hl
  exact lv_icmp_lt hC.1 hC.2.1 hdg ht (fun h => kt h p l e s m args below meth c dC dI cI cZ H locs ls hC hP hD hS hl) (fun h => kf h p l e s m args below meth c dC dI cI cZ H locs ls hC hP hD hS hl)
theorem V_if_ge {x : Int32} {off : Int} (tgt : Nat) (hdg : decode me.2.1 pc = .ok (.ifCond .ge off, 3)) (ht : (pc : Int) + off = (tgt : Int)) (kt : 0 ≤ x → V tO me r ws0 Q u ws (tgt) lc (st)) (kf : ¬ 0 ≤ x → V tO me r ws0 Q u ws (pc + 3) lc (st)) : V tO me r ws0 Q u ws (pc) lc (.int x :: st) := by
  intro p l e s m args below meth c dC dI cI cZ H locs ls hC hP hD hS hl
  exact lv_if_ge hC.1 hC.2.1 hdg ht (fun h => kt h p l e s m args below meth c dC dI cI cZ H locs ls hC hP hD hS hl) (fun h => kf h p l e s m args below meth c dC dI cI cZ H locs ls hC hP hD hS hl)
theorem V_icmp_ge {x y : Int32} {off : Int} (tgt : Nat) (hdg : decode me.2.1 pc = .ok (.if_icmp .ge off, 3)) (ht : (pc : Int) + off = (tgt : Int)) (kt : y ≤ x → V tO me r ws0 Q u ws (tgt) lc (st)) (kf : ¬ y ≤ x → V tO me r ws0 Q u ws (pc + 3) lc (st)) : V tO me r ws0 Q u ws (pc) lc (.int y :: .int x :: st) := by
  intro p l e s m args below meth c dC dI cI cZ H locs ls hC hP hD hS hl
  exact lv_icmp_ge hC.1 hC.2.1 hdg ht (fun h => kt h p l e s m args below meth c dC dI cI cZ H locs ls hC hP hD hS hl) (fun h => kf h p l e s m args below meth c dC dI cI cZ H locs ls hC hP hD hS hl)
theorem V_if_gt {x : Int32} {off : Int} (tgt : Nat) (hdg : decode me.2.1 pc = .ok (.ifCond .gt off, 3)) (ht : (pc : Int) + off = (tgt : Int)) (kt : 0 < x → V tO me r ws0 Q u ws (tgt) lc (st)) (kf : ¬ 0 < x → V tO me r ws0 Q u ws (pc + 3) lc (st)) : V tO me r ws0 Q u ws (pc) lc (.int x :: st) := by
  intro p l e s m args below meth c dC dI cI cZ H locs ls hC hP hD hS hl
  exact lv_if_gt hC.1 hC.2.1 hdg ht (fun h => kt h p l e s m args below meth c dC dI cI cZ H locs ls hC hP hD hS hl) (fun h => kf h p l e s m args below meth c dC dI cI cZ H locs ls hC hP hD hS hl)
theorem V_icmp_gt {x y : Int32} {off : Int} (tgt : Nat) (hdg : decode me.2.1 pc = .ok (.if_icmp .gt off, 3)) (ht : (pc : Int) + off = (tgt : Int)) (kt : y < x → V tO me r ws0 Q u ws (tgt) lc (st)) (kf : ¬ y < x → V tO me r ws0 Q u ws (pc + 3) lc (st)) : V tO me r ws0 Q u ws (pc) lc (.int y :: .int x :: st) := by
  intro p l e s m args below meth c dC dI cI cZ H locs ls hC hP hD hS hl
  exact lv_icmp_gt hC.1 hC.2.1 hdg ht (fun h => kt h p l e s m args below meth c dC dI cI cZ H locs ls hC hP hD hS hl) (fun h => kf h p l e s m args below meth c dC dI cI cZ H locs ls hC hP hD hS hl)
theorem V_if_le {x : Int32} {off : Int} (tgt : Nat) (hdg : decode me.2.1 pc = .ok (.ifCond .le off, 3)) (ht : (pc : Int) + off = (tgt : Int)) (kt : x ≤ 0 → V tO me r ws0 Q u ws (tgt) lc (st)) (kf : ¬ x ≤ 0 → V tO me r ws0 Q u ws (pc + 3) lc (st)) : V tO me r ws0 Q u ws (pc) lc (.int x :: st) := by
  intro p l e s m args below meth c dC dI cI cZ H locs ls hC hP hD hS hl
  exact lv_if_le hC.1 hC.2.1 hdg ht (fun h => kt h p l e s m args below meth c dC dI cI cZ H locs ls hC hP hD hS hl) (fun h => kf h p l e s m args below meth c dC dI cI cZ H locs ls hC hP hD hS hl)
theorem V_icmp_le {x y : Int32} {off : Int} (tgt : Nat) (hdg : decode me.2.1 pc = .ok (.if_icmp .le off, 3)) (ht : (pc : Int) + off = (tgt : Int)) (kt : x ≤ y → V tO me r ws0 Q u ws (tgt) lc (st)) (kf : ¬ x ≤ y → V tO me r ws0 Q u ws (pc + 3) lc (st)) : V tO me r ws0 Q u ws (pc) lc (.int y :: .int x :: st) := by
  intro p l e s m args below meth c dC dI cI cZ H locs ls hC hP hD hS hl
  exact lv_icmp_le hC.1 hC.2.1 hdg ht (fun h => kt h p l e s m args below meth c dC dI cI cZ H locs ls hC hP hD hS hl) (fun h => kf h p l e s m args below meth c dC dI cI cZ H locs ls hC hP hD hS hl)
theorem V_goto {off : Int} (tgt : Nat) (hdg : decode me.2.1 pc = .ok (.goto off, 3)) (ht : (pc : Int) + off = (tgt : Int)) (k : V tO me r ws0 Q u ws (tgt) lc (st)) : V tO me r ws0 Q u ws (pc) lc (st) := by
  intro p l e s m args below meth c dC dI cI cZ H locs ls hC hP hD hS hl
  exact lv_goto hC.1 hC.2.1 hdg ht (k p l e s m args below meth c dC dI cI cZ H locs ls hC hP hD hS hl)
theorem V_tableOut {dflt lo hi : Int} {offs : Array Int} {len : Nat} {x : Int32} (tgt : Nat) (hdg : decode me.2.1 pc = .ok (.tableswitch dflt lo hi offs, len)) (h : x.toInt < lo ∨ hi < x.toInt) (ht : (pc : Int) + dflt = (tgt : Int)) (k : V tO me r ws0 Q u ws (tgt) lc (st)) : V tO me r ws0 Q u ws (pc) lc (.int x :: st) := by
  intro p l e s m args below meth c dC dI cI cZ H locs ls hC hP hD hS hl
  exact lv_tableOut hC.1 hC.2.1 hdg h ht (k p l e s m args below meth c dC dI cI cZ H locs ls hC hP hD hS hl)
theorem V_tableIn {dflt lo hi : Int} {offs : Array Int} {len : Nat} {x : Int32} {off : Int} (tgt : Nat) (hdg : decode me.2.1 pc = .ok (.tableswitch dflt lo hi offs, len)) (h1 : ¬ x.toInt < lo) (h2 : ¬ hi < x.toInt) (ho : offs[(x.toInt - lo).toNat]? = some off) (ht : (pc : Int) + off = (tgt : Int)) (k : V tO me r ws0 Q u ws (tgt) lc (st)) : V tO me r ws0 Q u ws (pc) lc (.int x :: st) := by
  intro p l e s m args below meth c dC dI cI cZ H locs ls hC hP hD hS hl
  exact lv_tableIn hC.1 hC.2.1 hdg h1 h2 ho ht (k p l e s m args below meth c dC dI cI cZ H locs ls hC hP hD hS hl)
theorem V_loc (lc' : List (Option Value)) (hw : ∀ (i : Nat) (v : Value), lc'[i]? = some (some v) → lc[i]? = some (some v)) (k : V tO me r ws0 Q u ws (pc) lc' (st)) : V tO me r ws0 Q u ws (pc) lc (st) := by
  intro p l e s m args below meth c dC dI cI cZ H locs ls hC hP hD hS hl
  exact k p l e s m args below meth c dC dI cI cZ H locs ls hC hP hD hS (hl.weak hw)
theorem V_iret {x : Int32} (hdg : decode me.2.1 pc = .ok (.ireturn, 1)) (hr : me.2.2.2.1 = some .int) (hn : ws0.length ≤ ws.length) (hu1 : u.1 ≤ r.2.1) (hu2 : u.2 ≤ r.2.2) (h : Q (some (.int x)) ws) : V tO me r ws0 Q u ws (pc) lc (.int x :: []) := by
  intro p l e s m args below meth c dC dI cI cZ H locs ls hC hP hD hS hl
  refine W.widen hu1 hu2 ?_
  exact W.iret hC.1 hC.2.1 (hC.2.2.2.1.trans hr) (fun t ht hW => ⟨⟨_, ws, rfl, h, hn, by rw [ht]; exact hP, hD⟩, hS.F ht⟩) hS.2.2 hdg hC.2.2.2.2.2.2.1
theorem V_lret {x : Int64} (hdg : decode me.2.1 pc = .ok (.lreturn, 1)) (hr : me.2.2.2.1 = some .long) (hn : ws0.length ≤ ws.length) (hu1 : u.1 ≤ r.2.1) (hu2 : u.2 ≤ r.2.2) (h : Q (some (.long x)) ws) : V tO me r ws0 Q u ws (pc) lc (.long x :: []) := by
  intro p l e s m args below meth c dC dI cI cZ H locs ls hC hP hD hS hl
  refine W.widen hu1 hu2 ?_
  exact W.lret hC.1 hC.2.1 (hC.2.2.2.1.trans hr) (fun t ht hW => ⟨⟨_, ws, rfl, h, hn, by rw [ht]; exact hP, hD⟩, hS.F ht⟩) hS.2.2 hdg hC.2.2.2.2.2.2.1
theorem V_zret {x : Int32} (hdg : decode me.2.1 pc = .ok (.ireturn, 1)) (hr : me.2.2.2.1 = some .boolean) (hx : x = 0 ∨ x = 1) (hn : ws0.length ≤ ws.length) (hu1 : u.1 ≤ r.2.1) (hu2 : u.2 ≤ r.2.2) (h : Q (some (.int x)) ws) : V tO me r ws0 Q u ws (pc) lc (.int x :: []) := by
  intro p l e s m args below meth c dC dI cI cZ H locs ls hC hP hD hS hl
  refine W.widen hu1 hu2 ?_
  exact W.zret hC.1 hC.2.1 (hC.2.2.2.1.trans hr) (by rcases hx with rfl | rfl <;> rfl) (fun t ht hW => ⟨⟨_, ws, rfl, h, hn, by rw [ht]; exact hP, hD⟩, hS.F ht⟩) hS.2.2 hdg hC.2.2.2.2.2.2.1
theorem V_vret (hdg : decode me.2.1 pc = .ok (.return_, 1)) (hr : me.2.2.2.1 = none) (hn : ws0.length ≤ ws.length) (hu1 : u.1 ≤ r.2.1) (hu2 : u.2 ≤ r.2.2) (h : Q none ws) : V tO me r ws0 Q u ws (pc) lc ([]) := by
  intro p l e s m args below meth c dC dI cI cZ H locs ls hC hP hD hS hl
  refine W.widen hu1 hu2 ?_
  exact W.vret hC.1 hC.2.1 (hC.2.2.2.1.trans hr) (fun t ht hW => ⟨⟨_, ws, rfl, h, hn, by rw [ht]; exact hP, hD⟩, hS.F ht⟩) hS.2.2 hdg hC.2.2.2.2.2.2.1
theorem V_iald (q0 : Nat) {a n : Nat} {f : Nat → Int32} {i : Int32} (hdg : decode me.2.1 pc = .ok (.iaload, 1)) (ha : ws[q0]? = some (a, .inl (false, n, f))) (hin : vp_in i n) (k : V tO me r ws0 Q u ws (pc + 1) lc (.int (f i.toNatClampNeg) :: st)) : V tO me r ws0 Q u ws (pc) lc (.int i :: .ref a :: st) := by
  intro p l e s m args below meth c dC dI cI cZ H locs ls hC hP hD hS hl
  exact va_iald hC.1 hC.2.1 hC.2.2.2.2.2.2.2.2.1 hP q0 0 (zR_get ha) rfl hin hdg (k p l e s m args below meth c dC dI cI cZ H locs ls hC hP hD hS hl)
theorem V_zald (q0 : Nat) {a n : Nat} {f : Nat → Int32} {i : Int32} (hdg : decode me.2.1 pc = .ok (.baload, 1)) (ha : ws[q0]? = some (a, .inl (true, n, f))) (hin : vp_in i n) (k : V tO me r ws0 Q u ws (pc + 1) lc (.int (f i.toNatClampNeg) :: st)) : V tO me r ws0 Q u ws (pc) lc (.int i :: .ref a :: st) := by
  intro p l e s m args below meth c dC dI cI cZ H locs ls hC hP hD hS hl
  exact va_zald hC.1 hC.2.1 hC.2.2.2.2.2.2.2.2.1 hP q0 1 (zR_get ha) rfl hin hdg (k p l e s m args below meth c dC dI cI cZ H locs ls hC hP hD hS hl)
theorem V_iast (q0 : Nat) {a n : Nat} {f : Nat → Int32} {i x : Int32} (hdg : decode me.2.1 pc = .ok (.iastore, 1)) (ha : ws[q0]? = some (a, .inl (false, n, f))) (hin : vp_in i n) (k : V tO me r ws0 Q u (ws.set q0 (a, .inl (false, n, upd f i.toNatClampNeg x))) (pc + 1) lc (st)) : V tO me r ws0 Q u ws (pc) lc (.int x :: .int i :: .ref a :: st) := by
  intro p l e s m args below meth c dC dI cI cZ H locs ls hC hP hD hS hl
  refine va_iast hC.1 hC.2.1 hC.2.2.2.2.2.2.2.2.1 hP hD hS q0 0 (zR_get ha) rfl hin hdg (fun H1 locs1 hP1 hD1 hS1 => ?_)
  have e9 := zR_set cI cZ ws q0 (a, .inl (false, n, upd f i.toNatClampNeg x))
  exact k p l e s m args below meth c dC dI cI cZ H1 locs1 ls hC (by rw [← e9]; exact hP1) (by rw [← e9]; exact hD1) hS1 hl
theorem V_zast (q0 : Nat) {a n : Nat} {f : Nat → Int32} {i x : Int32} (hdg : decode me.2.1 pc = .ok (.bastore, 1)) (ha : ws[q0]? = some (a, .inl (true, n, f))) (hin : vp_in i n) (k : V tO me r ws0 Q u (ws.set q0 (a, .inl (true, n, upd f i.toNatClampNeg (vp_nar .boolean x)))) (pc + 1) lc (st)) : V tO me r ws0 Q u ws (pc) lc (.int x :: .int i :: .ref a :: st) := by
  intro p l e s m args below meth c dC dI cI cZ H locs ls hC hP hD hS hl
  refine va_zast hC.1 hC.2.1 hC.2.2.2.2.2.2.2.2.1 hP hD hS q0 1 (zR_get ha) rfl hin hdg (fun H1 locs1 hP1 hD1 hS1 => ?_)
  have e9 := zR_set cI cZ ws q0 (a, .inl (true, n, upd f i.toNatClampNeg (vp_nar .boolean x)))
  exact k p l e s m args below meth c dC dI cI cZ H1 locs1 ls hC (by rw [← e9]; exact hP1) (by rw [← e9]; exact hD1) hS1 hl
theorem V_alen (q0 : Nat) {a n : Nat} {b : Bool} {f : Nat → Int32} (hdg : decode me.2.1 pc = .ok (.arraylength, 1)) (ha : ws[q0]? = some (a, .inl (b, n, f))) (k : V tO me r ws0 Q u ws (pc + 1) lc (.int (nI n) :: st)) : V tO me r ws0 Q u ws (pc) lc (.ref a :: st) := by
  intro p l e s m args below meth c dC dI cI cZ H locs ls hC hP hD hS hl
  cases b with
  | false => exact va_alen hC.1 hC.2.1 hC.2.2.2.2.2.2.2.2.1 hP q0 0 (zR_get ha) rfl rfl hdg (k p l e s m args below meth c dC dI cI cZ H locs ls hC hP hD hS hl)
  | true => exact va_alen hC.1 hC.2.1 hC.2.2.2.2.2.2.2.2.1 hP q0 1 (zR_get ha) rfl rfl hdg (k p l e s m args below meth c dC dI cI cZ H locs ls hC hP hD hS hl)
/-- a field by its pool index: of class ci, its k-th -/
def zF (me : zM) (idx ci k : Nat) : Prop := ∃ q : vw_C, vwCl[ci]? = some q ∧ k < q.2.2 ∧ (∀ w ∈ u_ws q.1 q.2.1 q.2.2, w ∈ me.2.2.2.2.1) ∧ (Cond.fieldLink me.2.2.2.2.2 idx (q.2.1 k).1 (q.2.1 k).2.1 (q.2.1 k).2.2.1 ∈ me.2.2.2.2.1 ∨ (me.2.2.2.2.2, idx, (q.2.1 k).1, (q.2.1 k).2.1, (q.2.1 k).2.2.1, "CommaFreeBooks") ∈ zNl)
def zFt (ci k : Nat) (fin : Bool) (ty : FieldType) : Prop := ∃ q : vw_C, vwCl[ci]? = some q ∧ (q.2.1 k).2.2.2 = fin ∧ parseFieldDescriptor (q.2.1 k).2.2.1 = some ty
theorem z_cls : ∀ (ci : Nat) (q : vw_C), vwCl[ci]? = some q → (∃ ty0 : Nat → FieldType, ∀ k, k < q.2.2 → parseFieldDescriptor (q.2.1 k).2.2.1 = some (ty0 k)) ∧ ∀ a, a < q.2.2 → ∀ b, b < q.2.2 → a ≠ b → (q.2.1 a).2.1 ≠ (q.2.1 b).2.1
  | 0, q, h => by cases h; exact ⟨⟨_, tyX0_ok⟩, nmX0⟩
  | 1, q, h => by cases h; exact ⟨⟨_, tyX1_ok⟩, nmX1⟩
  | 2, q, h => by cases h; exact ⟨⟨_, tyX2_ok⟩, nmX2⟩
  | 3, q, h => by cases h; exact ⟨⟨_, tyX4_ok⟩, nmX4⟩
  | 4, q, h => by cases h; exact ⟨⟨_, tyX5_ok⟩, nmX5⟩
  | 5, q, h => by cases h; exact ⟨⟨_, tyX6_ok⟩, nmX6⟩
  | 6, q, h => by cases h; exact ⟨⟨_, tyX7_ok⟩, nmX7⟩
  | 7, q, h => by cases h; exact ⟨⟨_, tyX9_ok⟩, nmX9⟩
  | 8, q, h => by cases h; exact ⟨⟨_, tyX10_ok⟩, nmX10⟩
  | 9, q, h => by cases h; exact ⟨⟨_, tyX11_ok⟩, nmX11⟩
  | 10, q, h => by cases h; exact ⟨⟨_, tyX12_ok⟩, nmX12⟩
  | n + 11, q, h => by cases h
theorem V_get (q0 : Nat) {a ci k idx : Nat} {fs : List Value} {v : Value} (hdg : decode me.2.1 pc = .ok (.getfield idx, 3)) (hf : zF me idx ci k) (he : ws[q0]? = some (a, .inr (ci, fs))) (hv : fs[k]? = some v) (k : V tO me r ws0 Q u ws (pc + 3) lc (v :: st)) : V tO me r ws0 Q u ws (pc) lc (.ref a :: st) := by
  intro p l e s m args below meth c dC dI cI cZ H locs ls hC hP hD hS hl
  obtain ⟨⟨C, T, N⟩, hc, hk, hin, hlk⟩ := hf
  rcases hlk with hlk | hlk
  · exact va_get hC.1 hC.2.1 hC.2.2.2.2.1 hin hC.2.2.2.2.2.1 hC.2.2.2.2.2.2.2.2.1 hP q0 (zR_get he) hc _ hk (hC.2.2.2.2.1 _ hlk) (fun _ h9 => h9) hv hdg (k p l e s m args below meth c dC dI cI cZ H locs ls hC hP hD hS hl)
  · exact va_getN hC.1 hC.2.1 hC.2.2.2.2.1 hin hC.2.2.2.2.2.1 hC.2.2.2.2.2.2.2.2.1 hP q0 (zR_get he) hc _ hk (va_Nw.use rfl (hC.2.2.2.2.2.2.2.2.2.2 _ hlk)) (fun _ h9 => h9) hv hdg (k p l e s m args below meth c dC dI cI cZ H locs ls hC hP hD hS hl)
theorem V_put (q0 : Nat) {a ci k idx : Nat} {fs : List Value} {v : Value} {ty : FieldType} (hdg : decode me.2.1 pc = .ok (.putfield idx, 3)) (hf : zF me idx ci k) (hft : zFt ci k false ty) (he : ws[q0]? = some (a, .inr (ci, fs))) (hn : narrow ty v = v) (hfit : fits ty v = true) (hlen : k < fs.length) (kk : V tO me r ws0 Q u (ws.set q0 (a, .inr (ci, fs.set k v))) (pc + 3) lc (st)) : V tO me r ws0 Q u ws (pc) lc (v :: .ref a :: st) := by
  intro p l e s m args below meth c dC dI cI cZ H locs ls hC hP hD hS hl
  obtain ⟨⟨C, T, N⟩, hc, hk, hin, hlk⟩ := hf
  obtain ⟨⟨ty0, hty⟩, hnm⟩ := z_cls ci _ hc
  obtain ⟨q', hc', hfin, hd⟩ := hft
  cases hc.symm.trans hc'
  have e9 := zR_set cI cZ ws q0 (a, .inr (ci, fs.set k v))
  rcases hlk with hlk | hlk
  · exact va_put hC.1 hC.2.1 hC.2.2.2.2.1 hin ty0 hty hnm hC.2.2.2.2.2.1 hC.2.2.2.2.2.2.2.2.1 hP hD hS q0 (zR_get he) hc _ hk (hC.2.2.2.2.1 _ hlk) (fun _ h9 => h9) hfin hd hn hfit hlen hdg (fun H1 locs1 hP1 hD1 hS1 => kk p l e s m args below meth c dC dI cI cZ H1 locs1 ls hC (by rw [← e9]; exact hP1) (by rw [← e9]; exact hD1) hS1 hl)
  · exact va_putN hC.1 hC.2.1 hC.2.2.2.2.1 hin ty0 hty hnm hC.2.2.2.2.2.1 hC.2.2.2.2.2.2.2.2.1 hP hD hS q0 (zR_get he) hc _ hk (va_Nw.use rfl (hC.2.2.2.2.2.2.2.2.2.2 _ hlk)) (fun _ h9 => h9) hfin hd hn hfit hlen hdg (fun H1 locs1 hP1 hD1 hS1 => kk p l e s m args below meth c dC dI cI cZ H1 locs1 ls hC (by rw [← e9]; exact hP1) (by rw [← e9]; exact hD1) hS1 hl)
def zMmax (me : zM) (idx : Nat) : Prop := ∀ w ∈ ([.methodLink me.2.2.2.2.2 idx Lib.Math.max.name, .static Lib.Math.max.name, .initialized "java/lang/Math", .code Lib.Math.max.name Lib.Math.max.code 2 (some .int)] : List Cond), w ∈ me.2.2.2.2.1
theorem V_mmax {x y : Int32} {idx : Nat} (hdg : decode me.2.1 pc = .ok (.invokestatic idx, 3)) (hM : zMmax me idx) (hr1 : 1 ≤ r.1) (hst : (st.map fun v => v.category).sum ≤ 8) (hu1 : u.1 ≤ r.2.1) (hu2 : u.2 ≤ r.2.2) (k : V tO me r ws0 Q u ws (pc + 3) lc (.int (if x < y then y else x) :: st)) : V tO me r ws0 Q u ws (pc) lc (.int y :: .int x :: st) := by
  intro p l e s m args below meth c dC dI cI cZ H locs ls hC hP hD hS hl
  have hM' := fun w hw => hC.2.2.2.2.1 w (hM w hw)
  exact va_mmax hC.1 hC.2.1 (hC.2.2.1.trans hl.1.symm) hC.2.2.2.2.2.1 (hM' _ (by simp)) (hM' _ (by simp)) (hM' _ (by simp)) (hM' _ (by simp)) hr1 (by show _ ≤ 40 * r.1; omega) hu1 hu2 hdg (k p l e s m args below meth c dC dI cI cZ H locs ls hC hP hD hS hl)
def zMmin (me : zM) (idx : Nat) : Prop := ∀ w ∈ ([.methodLink me.2.2.2.2.2 idx Lib.Math.min.name, .static Lib.Math.min.name, .initialized "java/lang/Math", .code Lib.Math.min.name Lib.Math.min.code 2 (some .int)] : List Cond), w ∈ me.2.2.2.2.1
theorem V_mmin {x y : Int32} {idx : Nat} (hdg : decode me.2.1 pc = .ok (.invokestatic idx, 3)) (hM : zMmin me idx) (hr1 : 1 ≤ r.1) (hst : (st.map fun v => v.category).sum ≤ 8) (hu1 : u.1 ≤ r.2.1) (hu2 : u.2 ≤ r.2.2) (k : V tO me r ws0 Q u ws (pc + 3) lc (.int (if y < x then y else x) :: st)) : V tO me r ws0 Q u ws (pc) lc (.int y :: .int x :: st) := by
  intro p l e s m args below meth c dC dI cI cZ H locs ls hC hP hD hS hl
  have hM' := fun w hw => hC.2.2.2.2.1 w (hM w hw)
  exact va_mmin hC.1 hC.2.1 (hC.2.2.1.trans hl.1.symm) hC.2.2.2.2.2.1 (hM' _ (by simp)) (hM' _ (by simp)) (hM' _ (by simp)) (hM' _ (by simp)) hr1 (by show _ ≤ 40 * r.1; omega) hu1 hu2 hdg (k p l e s m args below meth c dC dI cI cZ H locs ls hC hP hD hS hl)
theorem V_gets {idx : Nat} (hdg : decode me.2.1 pc = .ok (.getstatic idx, 3)) (hlk : Cond.fieldLink me.2.2.2.2.2 idx "CommaFreeBooks$Alphabet" "ORDERS" "[I" ∈ me.2.2.2.2.1) (k : V tO me r ws0 Q u ws (pc + 3) lc (.ref tO :: st)) : V tO me r ws0 Q u ws (pc) lc (st) := by
  intro p l e s m args below meth c dC dI cI cZ H locs ls hC hP hD hS hl
  exact va_gets hC.1 hC.2.1 hC.2.2.2.2.2.2.2.2.2.1.1 hS hC.2.2.2.2.2.1 (hC.2.2.2.2.1 _ hlk) (fun _ h9 => h9) hdg (k p l e s m args below meth c dC dI cI cZ H locs ls hC hP hD hS hl)
theorem V_tald {i : Int32} (hdg : decode me.2.1 pc = .ok (.iaload, 1)) (hin : vp_in i 96) (k : V tO me r ws0 Q u ws (pc + 1) lc (.int (zOrd i.toNatClampNeg) :: st)) : V tO me r ws0 Q u ws (pc) lc (.int i :: .ref tO :: st) := by
  intro p l e s m args below meth c dC dI cI cZ H locs ls hC hP hD hS hl
  exact va_ti hC.1 hC.2.1 hC.2.2.2.2.2.2.2.2.2.1.2 hS hin rfl hdg (k p l e s m args below meth c dC dI cI cZ H locs ls hC hP hD hS hl)
theorem V_tlen (hdg : decode me.2.1 pc = .ok (.arraylength, 1)) (k : V tO me r ws0 Q u ws (pc + 1) lc (.int (nI 96) :: st)) : V tO me r ws0 Q u ws (pc) lc (.ref tO :: st) := by
  intro p l e s m args below meth c dC dI cI cZ H locs ls hC hP hD hS hl
  exact va_tlen hC.1 hC.2.1 hC.2.2.2.2.2.2.2.2.2.1.2 hS rfl hdg (k p l e s m args below meth c dC dI cI cZ H locs ls hC hP hD hS hl)
end ZV
/-! calls -/
def zPut {α : Type} : List α → List Nat → List α → List α
  | ws, [], wc => ws ++ wc
  | ws, i :: is, w :: wc => zPut (ws.set i w) is wc
  | ws, _ :: _, [] => ws
theorem zPut_get {α : Type} : ∀ (is : List Nat) (ws wc : List α), is.length ≤ wc.length → ∀ (k : Nat) (q : α), (zPut ws is wc)[k]? = some q → (k ∉ is ∧ ws[k]? = some q) ∨ ∃ j : Nat, wc[j]? = some q ∧ (is[j]? = some k ∨ (is.length ≤ j ∧ k = ws.length + (j - is.length)))
  | [], ws, wc, _, k, q, h => by
    rw [zPut] at h
    by_cases hk : k < ws.length
    · rw [List.getElem?_append_left hk] at h
      exact Or.inl ⟨List.not_mem_nil, h⟩
    · rw [List.getElem?_append_right (by omega)] at h
      exact Or.inr ⟨k - ws.length, h, Or.inr ⟨Nat.zero_le _, by simp; omega⟩⟩
  | i :: is, ws, w :: wc, hl, k, q, h => by
    rw [zPut] at h
    rcases zPut_get is (ws.set i w) wc (by simpa using hl) k q h with ⟨h1, h2⟩ | ⟨j, h1, h2⟩
    · by_cases hk : k = i
      · subst hk
        have hlt : k < ws.length := by have := (List.getElem?_eq_some_iff.mp h2).1; simpa using this
        rw [List.getElem?_set_self hlt] at h2
        exact Or.inr ⟨0, by simpa using h2, Or.inl (by simp)⟩
      · rw [List.getElem?_set_ne (Ne.symm hk)] at h2
        exact Or.inl ⟨by simp [hk, h1], h2⟩
    · refine Or.inr ⟨j + 1, by simpa using h1, ?_⟩
      rcases h2 with h2 | ⟨h2, h3⟩
      · exact Or.inl (by simpa using h2)
      · exact Or.inr ⟨by simp; omega, by simp at h3 ⊢; omega⟩
  | _ :: _, _, [], hl, _, _, _ => by simp at hl
theorem zPut_map {α β : Type} (f : α → β) : ∀ (is : List Nat) (ws wc : List α), (zPut ws is wc).map f = zPut (ws.map f) is (wc.map f)
  | [], ws, wc => by simp [zPut]
  | i :: is, ws, w :: wc => by
    rw [List.map_cons, zPut, zPut, zPut_map f is, List.map_set]
  | _ :: _, _, [] => by simp [zPut]
theorem zPick {α : Type} {is : List Nat} {ws wc : List α} (h : is.map (fun i => ws[i]?) = wc.map some) (k : Nat) (q : α) (hq : wc[k]? = some q) : ∃ i, is[k]? = some i ∧ ws[i]? = some q := by
  have h1 : (is.map (fun i => ws[i]?))[k]? = some (some q) := by rw [h, List.getElem?_map, hq]; rfl
  rw [List.getElem?_map] at h1
  cases hi : is[k]? with
  | none => rw [hi] at h1; cases h1
  | some i => rw [hi] at h1; exact ⟨i, rfl, Option.some.inj h1⟩
theorem zPick_len {α : Type} {is : List Nat} {ws wc : List α} (h : is.map (fun i => ws[i]?) = wc.map some) : is.length = wc.length := by
  have := congrArg List.length h
  simpa using this
theorem zPick_map {α β : Type} (f : α → β) {is : List Nat} {ws wc : List α} (h : is.map (fun i => ws[i]?) = wc.map some) : is.map (fun i => (ws.map f)[i]?) = (wc.map f).map some := by
  have h2 := congrArg (List.map (Option.map f)) h
  simpa [List.map_map, Function.comp_def, List.getElem?_map] using h2
theorem zJoin {A0 : Nat → Prop} {D : va_G} {cl : List vw_C} {ws wc w1 : va_W} {H H1 : Heap} (hP : va_P D cl ws H) (hD : va_D A0 ws) (is : List Nat) (hC : is.map (fun i => ws[i]?) = wc.map some) (hlen : is.length ≤ w1.length)
    (hk : ∀ q : Nat, q < H.size → ¬ va_A wc H.size q → H1[q]? = H[q]?) (hF : ∀ q, va_A wc H.size q → A0 q) (hP1 : va_P D cl w1 H1) (hD1 : va_D (va_A wc H.size) w1) : va_P D cl (zPut ws is w1) H1 ∧ va_D A0 (zPut ws is w1) := by
  have apart : ∀ (k : Nat) (q : Nat × va_E), k ∉ is → ws[k]? = some q → q.1 < H.size ∧ ¬ va_A wc H.size q.1 := by
    intro k q hki hq
    have hl := (hP k q hq).lt
    refine ⟨hl, fun h => ?_⟩
    rcases h with ⟨k2, e, h⟩ | h
    · obtain ⟨j, h3, h4⟩ := zPick hC k2 (q.1, e) h
      have hij := hD.1 k j q (q.1, e) hq h4 rfl
      subst hij
      exact hki (List.mem_of_getElem? h3)
    · omega
  refine ⟨fun k q hq => ?_, fun k k' q q' hq hq' hqq => ?_, fun k q hq => ?_⟩
  · rcases zPut_get is ws w1 hlen k q hq with ⟨h1, h2⟩ | ⟨j, h1, -⟩
    · obtain ⟨g1, g2⟩ := apart k q h1 h2
      exact (hP k q h2).kept (hk q.1 g1 g2)
    · exact hP1 j q h1
  · rcases zPut_get is ws w1 hlen k q hq with ⟨h1, h2⟩ | ⟨j, h1, h2⟩ <;> rcases zPut_get is ws w1 hlen k' q' hq' with ⟨h3, h4⟩ | ⟨j', h3, h4⟩
    · exact hD.1 k k' q q' h2 h4 hqq
    · exact absurd (by rw [hqq]; exact hD1.2 j' q' h3) (apart k q h1 h2).2
    · exact absurd (by rw [← hqq]; exact hD1.2 j q h1) (apart k' q' h3 h4).2
    · have e := hD1.1 j j' q q' h1 h3 hqq
      subst e
      rcases h2 with h2 | ⟨h2, h2'⟩ <;> rcases h4 with h4 | ⟨h4, h4'⟩
      · rw [h2] at h4; exact Option.some.inj h4
      · have := (List.getElem?_eq_some_iff.mp h2).1; omega
      · have := (List.getElem?_eq_some_iff.mp h4).1; omega
      · omega
  · rcases zPut_get is ws w1 hlen k q hq with ⟨h1, h2⟩ | ⟨j, h1, h2⟩
    · exact hD.2 k q h2
    · exact hF _ (hD1.2 j q h1)
/-- what a callee needs of its method -/
def zOk (me' : zM) (n : Nat) : Prop := (∃ ts', me'.2.2.2.2.1 = Cond.code me'.1 me'.2.1 me'.2.2.1 me'.2.2.2.1 :: ts') ∧ me'.1.cls ≠ "java/lang/invoke/MethodHandle" ∧ me'.1.cls ≠ "java/lang/invoke/VarHandle" ∧ (parseMethodDescriptor me'.1.desc).map (fun d => d.parameters.length) = some n ∧ me'.2.2.1 ≤ 20
section ZCALL
variable {tO : Nat} {me me' : zM} {r r' : Nat × Nat × Nat} {ws0 ws wc : zW} {Q Po' : zPo} {u : Nat × Nat} {pc idx : Nat} {lc : List (Option Value)} {st : List Value}
theorem z_in {p : Program} {s : State} {m : MethodId} {args : Array Value} {meth : Method} {c : Code} {dC : Nat → ClassId} {dI : Nat → Nat → Nat} {cI cZ : ClassId} {H : Heap} {locs : List Loc}
    (hC : zC tO me r ws0 p s m args meth c dC dI cI cZ) (hP : va_P (dC, dI) vwCl (zR cI cZ ws) H) (hD : va_D (va_A (zR cI cZ ws0) s.heap.size) (zR cI cZ ws)) (hS : va_S (va_A (zR cI cZ ws0) s.heap.size) s.heap H locs) (is : List Nat) (hnd : va_nd is = true) (hpk : is.map (fun i => ws[i]?) = wc.map some) :
    (∀ q, va_A (zR cI cZ wc) H.size q → va_A (zR cI cZ ws0) s.heap.size q) ∧ (∀ U : State, U.heap = H → s.WarmedH U.vm → zIn dC dI cI cZ tO wc H.size U) := by
  have hpk' : is.map (fun i => (zR cI cZ ws)[i]?) = (zR cI cZ wc).map some := zPick_map (zRe cI cZ) hpk
  have hF := va_free (wc := zR cI cZ wc) hD hS (fun q h => Or.inr h) is hpk'
  refine ⟨hF, fun U hU hW => ⟨by rw [hU], ?_, va_K.moved hW.alike hC.2.2.2.2.2.2.2.2.1, (hD.sub is hnd hpk').weaken (fun _ _ _ _ => trivial), ?_, zNest.warm hW hC.2.2.2.2.2.2.2.2.2.2⟩⟩
  · rw [hU]
    intro k q hq
    obtain ⟨i, -, h2⟩ := zPick hpk' k q hq
    exact hP i q h2
  · rw [hU]
    obtain ⟨hZ, hT⟩ := hC.2.2.2.2.2.2.2.2.2.1
    exact ⟨((hZ.kept (fun a h1 h2 => hS.2.1 a h1 h2)).narrow hF).moved hW.alike, ((hT.kept (fun a h1 h2 => hS.2.1 a h1 h2)).narrow hF).moved hW.alike⟩
theorem z_after {p : Program} {l : Launch} {e : Env} {s : State} {m : MethodId} {args : Array Value} {below : List Frame} {meth : Method} {c : Code} {dC : Nat → ClassId} {dI : Nat → Nat → Nat} {cI cZ : ClassId} {H : Heap} {locs : List Loc} {ls : Array Slot} {st0 rest : List Value} {a : Array Value}
    (hC : zC tO me r ws0 p s m args meth c dC dI cI cZ) (hP : va_P (dC, dI) vwCl (zR cI cZ ws) H) (hD : va_D (va_A (zR cI cZ ws0) s.heap.size) (zR cI cZ ws)) (hS : va_S (va_A (zR cI cZ ws0) s.heap.size) s.heap H locs) (hl : zL ls me.2.2.1 lc) (is : List Nat) (hpk : is.map (fun i => ws[i]?) = wc.map some)
    (hF : ∀ q, va_A (zR cI cZ wc) H.size q → va_A (zR cI cZ ws0) s.heap.size q)
    (hr : va_Run p l e (zRm r) s m args below meth c H locs u.1 u.2 r'.2.1 r'.2.2 (F0 m pc ls st0) rest (zQ dC dI cI cZ wc H.size Po' a) (va_A (zR cI cZ wc) H.size))
    (kk : ∀ (v : Option Value) (w' : zW), Po' v w' → V tO me r ws0 Q (u.1 + r'.2.1, u.2 + r'.2.2) (zPut ws is w') (pc + 3) lc (v.toList ++ rest)) :
    W p l e (zRm r) s m args below meth c H locs u.1 u.2 (MQ below (zQ dC dI cI cZ ws0 s.heap.size Q) args s r.2.1 r.2.2 (va_A (zR cI cZ ws0) s.heap.size)) (F0 m pc ls st0) := by
  have hpk' : is.map (fun i => (zR cI cZ ws)[i]?) = (zR cI cZ wc).map some := zPick_map (zRe cI cZ) hpk
  intro T hT X
  obtain ⟨v, st₀, t, T', L, h0, X', hL, e1, e2, ⟨⟨v', w', hv, hp, hln, hP1, hD1⟩, hz, hk⟩, go⟩ := hr T hT X
  cases hv
  rw [h0] at hz hk
  obtain ⟨hP2, hD2⟩ := zJoin (w1 := zR cI cZ w') (H1 := T'.heap) hP hD is hpk' (by rw [zPick_len hpk]; simpa [zR] using hln) (fun q h1 h2 => by rw [e1]; exact hk q h1 h2) hF (by rw [e1]; exact hP1) hD1
  have e9 : zPut (zR cI cZ ws) is (zR cI cZ w') = zR cI cZ (zPut ws is w') := (zPut_map (zRe cI cZ) is ws w').symm
  rw [e9] at hP2 hD2
  obtain ⟨t2, a1, b1⟩ := kk v w' hp p l e s m args below meth c dC dI cI cZ T'.heap (locs ++ L) ls hC hP2 hD2
    ⟨Nat.le_trans hS.1 (by rw [e1]; exact hz), fun q h1 h2 => by rw [e1, hk q (Nat.lt_of_lt_of_le h1 hS.1) (fun z => h2 (hF q z))]; exact hS.2.1 q h1 h2, fun q hq => by
      rcases List.mem_append.mp hq with h | h
      · exact hS.2.2 q h
      · exact hF _ (hL q h)⟩ hl T' rfl X'
  exact ⟨t2, go t2 a1, b1⟩
theorem V_callV {b ci : Nat} {As : List Value} {fs : List Value} (is : List Nat) (hS' : Sp tO me' r' (.ref b :: As) wc Po') (hG : GoodIn me.2.2.2.2.1 (wsV me.2.2.2.2.2 idx me'.1.cls me'.1 me'.2.2.2.2.1)) (hdg : decode me.2.1 pc = .ok (.invokevirtual idx, 3)) (hok : zOk me' As.length)
    (hb0 : wc[0]? = some (b, .inr (ci, fs))) (hcl : (vwCl[ci]?).map (fun q => q.1) = some me'.1.cls) (hnd : va_nd is = true) (hpk : is.map (fun i => ws[i]?) = wc.map some) (hst : (st.map fun v => v.category).sum ≤ 8) (hroom : r'.1 < r.1) (hu : u.1 + r'.2.1 ≤ r.2.1 ∧ u.2 + r'.2.2 ≤ r.2.2)
    (kk : ∀ (v : Option Value) (w' : zW), Po' v w' → V tO me r ws0 Q (u.1 + r'.2.1, u.2 + r'.2.2) (zPut ws is w') (pc + 3) lc (v.toList ++ st)) : V tO me r ws0 Q u ws pc lc (As.reverse ++ .ref b :: st) := by
  intro p l e s m args below meth c dC dI cI cZ H locs ls hC hP hD hS hl
  obtain ⟨hF, hI⟩ := z_in hC hP hD hS is hnd hpk
  obtain ⟨⟨ts', hw⟩, hn1, hn2, hn3, hn4⟩ := hok
  obtain ⟨i0, -, hi0⟩ := zPick hpk 0 _ hb0
  cases hcq : vwCl[ci]? with
  | none => rw [hcq] at hcl; cases hcl
  | some q' =>
    rw [hcq] at hcl
    have hrec := va_recv hC.2.2.2.2.2.2.2.2.1 hP hcq (zR_get hi0)
    rw [show q'.1 = me'.1.cls from Option.some.inj hcl] at hrec
    refine z_after hC hP hD hS hl is hpk hF (va_runV (As := As) (rest := st) ⟨hC.1, hC.2.1, hC.2.2.1, hC.2.2.2.2.2.1, hC.2.2.2.2.1⟩ (hS' l dC dI cI cZ H.size) (cwV As.length hC.2.2.2.2.1 hG hw rfl rfl ⟨rfl, hn1, hn2, hn3⟩ ⟨hroom, ?_⟩) ⟨zIn.blind, hrec, fun U hU hW => ⟨rfl, hI U hU hW⟩⟩ rfl rfl hl.1 rfl (lv_room hst) hdg hu) kk
    show 8 + (_ + 11) + 40 * r'.1 ≤ 40 * r.1
    omega
theorem V_callS {As : List Value} (is : List Nat) (hS' : Sp tO me' r' As wc Po') (hG : GoodIn me.2.2.2.2.1 (va_wsS me.2.2.2.2.2 idx me'.1 me'.2.2.2.2.1)) (hdg : decode me.2.1 pc = .ok (.invokestatic idx, 3)) (hok : zOk me' As.length)
    (hnd : va_nd is = true) (hpk : is.map (fun i => ws[i]?) = wc.map some) (hst : (st.map fun v => v.category).sum ≤ 8) (hroom : r'.1 < r.1) (hu : u.1 + r'.2.1 ≤ r.2.1 ∧ u.2 + r'.2.2 ≤ r.2.2)
    (kk : ∀ (v : Option Value) (w' : zW), Po' v w' → V tO me r ws0 Q (u.1 + r'.2.1, u.2 + r'.2.2) (zPut ws is w') (pc + 3) lc (v.toList ++ st)) : V tO me r ws0 Q u ws pc lc (As.reverse ++ st) := by
  intro p l e s m args below meth c dC dI cI cZ H locs ls hC hP hD hS hl
  obtain ⟨hF, hI⟩ := z_in hC hP hD hS is hnd hpk
  obtain ⟨⟨ts', hw⟩, hn1, hn2, hn3, hn4⟩ := hok
  refine z_after hC hP hD hS hl is hpk hF (va_runS (As := As) (rest := st) ⟨hC.1, hC.2.1, hC.2.2.1, hC.2.2.2.2.2.1, hC.2.2.2.2.1⟩ (hS' l dC dI cI cZ H.size) (va_cwS As.length hC.2.2.2.2.1 hG hw rfl rfl ⟨hn1, hn2, hn3⟩ ⟨hroom, ?_⟩) ⟨zIn.blind, fun U hU hW => ⟨rfl, hI U hU hW⟩⟩ rfl rfl hl.1 rfl (lv_room hst) hdg hu) kk
  show 8 + (_ + 11) + 40 * r'.1 ≤ 40 * r.1
  omega
end ZCALL
