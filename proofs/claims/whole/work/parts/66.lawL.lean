/-! THE LAW's own layer: as the layer, but with the script, the law's own room and its end -/
def zX (tO b L : Nat) (xs : Nat → Int32) (p : Program) (s : State) (m : MethodId) (meth : Method) (c : Code) (dC : Nat → ClassId) (dI : Nat → Nat → Nat) (cI cZ : ClassId) : Prop :=
  p.tables.exec = Jvm.exec ∧ c.code = cL_law ∧ c.maxLocals = 4 ∧ meth.sig.returnType = some .boolean ∧ (∀ w ∈ wsL_law, w.before #[Value.ref b] s = true) ∧ s.vm.findClass RL = some m.cls ∧ meth.locks = false ∧ (va_X b L xs s s.heap ∧ b < s.heap.size) ∧
  va_K (dC, dI) vwCl (zTys cI cZ) s ∧ zST tO (va_A (zR cI cZ []) s.heap.size) s s.heap ∧ zNest s
def VX (tO b L : Nat) (xs : Nat → Int32) (u : Nat × Nat) (ws : zW) (pc : Nat) (lc : List (Option Value)) (st : List Value) : Prop :=
  ∀ (p : Program) (l : Launch) (e : Env) (s : State) (m : MethodId) (below : List Frame) (meth : Method) (c : Code) (dC : Nat → ClassId) (dI : Nat → Nat → Nat) (cI cZ : ClassId) (H : Heap) (locs : List Loc) (ls : Array Slot),
  zX tO b L xs p s m meth c dC dI cI cZ → va_P (dC, dI) vwCl (zR cI cZ ws) H → va_D (va_A (zR cI cZ []) s.heap.size) (zR cI cZ ws) → va_S (va_A (zR cI cZ []) s.heap.size) s.heap H locs → zL ls 4 lc →
  W p l e room_1 s m #[Value.ref b] below meth c H locs u.1 u.2 (lw_Z below #[Value.ref b] s) (F0 m pc ls st)
section XROWS
variable {tO bs L : Nat} {xs : Nat → Int32} {me' : zM} {r' : Nat × Nat × Nat} {ws wc : zW} {Po' : zPo} {u : Nat × Nat} {pc idx : Nat} {lc : List (Option Value)} {st : List Value}
theorem X_iconst {n : Int} {v : Int32} (hdg : decode cL_law pc = .ok (.iconst n, 1)) (hv : Int32.ofInt n = v) (k : VX tO bs L xs u ws (pc + 1) lc (.int v :: st)) : VX tO bs L xs u ws (pc) lc (st) := by
  intro p l e s m below meth c dC dI cI cZ H locs ls hC hP hD hS hl
  exact lv_iconst hC.1 hC.2.1 hdg hv (k p l e s m below meth c dC dI cI cZ H locs ls hC hP hD hS hl)
theorem X_bipush {n : Int} {v : Int32} (hdg : decode cL_law pc = .ok (.bipush n, 2)) (hv : (Int8.ofInt n).toInt32 = v) (k : VX tO bs L xs u ws (pc + 2) lc (.int v :: st)) : VX tO bs L xs u ws (pc) lc (st) := by
  intro p l e s m below meth c dC dI cI cZ H locs ls hC hP hD hS hl
  exact lv_bipush hC.1 hC.2.1 hdg hv (k p l e s m below meth c dC dI cI cZ H locs ls hC hP hD hS hl)
theorem X_aload_n {j : Fin 4} {x : Nat} (hdg : decode cL_law pc = .ok (.aload_n j, 1)) (hl0 : lc[(j : Nat)]? = some (some (.ref x))) (k : VX tO bs L xs u ws (pc + 1) lc (.ref x :: st)) : VX tO bs L xs u ws (pc) lc (st) := by
  intro p l e s m below meth c dC dI cI cZ H locs ls hC hP hD hS hl
  exact lv_aload_n hC.1 hC.2.1 hdg rfl (hl.get hl0) (k p l e s m below meth c dC dI cI cZ H locs ls hC hP hD hS hl)
theorem X_iload_n {j : Fin 4} {x : Int32} (hdg : decode cL_law pc = .ok (.iload_n j, 1)) (hl0 : lc[(j : Nat)]? = some (some (.int x))) (k : VX tO bs L xs u ws (pc + 1) lc (.int x :: st)) : VX tO bs L xs u ws (pc) lc (st) := by
  intro p l e s m below meth c dC dI cI cZ H locs ls hC hP hD hS hl
  exact lv_iload_n hC.1 hC.2.1 hdg rfl (hl.get hl0) (k p l e s m below meth c dC dI cI cZ H locs ls hC hP hD hS hl)
theorem X_astore_n {j : Fin 4} {x : Nat} (hdg : decode cL_law pc = .ok (.astore_n j, 1)) (hn : (j : Nat) < 4) (h2 : zNo2 lc = true) (k : VX tO bs L xs u ws (pc + 1) (lc.set (j : Nat) (some (.ref x))) (st)) : VX tO bs L xs u ws (pc) lc (.ref x :: st) := by
  intro p l e s m below meth c dC dI cI cZ H locs ls hC hP hD hS hl
  exact lv_astore_n hC.1 hC.2.1 hdg rfl hl hn rfl (fun ls' hl' => k p l e s m below meth c dC dI cI cZ H locs ls' hC hP hD hS (zL.set h2 hl'))
theorem X_istore_n {j : Fin 4} {x : Int32} (hdg : decode cL_law pc = .ok (.istore_n j, 1)) (hn : (j : Nat) < 4) (h2 : zNo2 lc = true) (k : VX tO bs L xs u ws (pc + 1) (lc.set (j : Nat) (some (.int x))) (st)) : VX tO bs L xs u ws (pc) lc (.int x :: st) := by
  intro p l e s m below meth c dC dI cI cZ H locs ls hC hP hD hS hl
  exact lv_istore_n hC.1 hC.2.1 hdg rfl hl hn rfl (fun ls' hl' => k p l e s m below meth c dC dI cI cZ H locs ls' hC hP hD hS (zL.set h2 hl'))
theorem X_iinc {j : Nat} {n : Int} {x v : Int32} (hdg : decode cL_law pc = .ok (.iinc j n, 3)) (hl0 : lc[j]? = some (some (.int x))) (hv : x + Int32.ofInt n = v) (hn : j < 4) (h2 : zNo2 lc = true) (k : VX tO bs L xs u ws (pc + 3) (lc.set j (some (.int v))) (st)) : VX tO bs L xs u ws (pc) lc (st) := by
  intro p l e s m below meth c dC dI cI cZ H locs ls hC hP hD hS hl
  obtain ⟨i0, h0⟩ := List.getElem?_of_mem ((mem_zP lc 0 j (.int x)).mpr ⟨j, by omega, hl0⟩)
  exact lv_iinc hC.1 hC.2.1 hdg hl h0 hv hn rfl (fun ls' hl' => k p l e s m below meth c dC dI cI cZ H locs ls' hC hP hD hS (zL.set h2 hl'))
theorem X_iadd {x y : Int32} (hdg : decode cL_law pc = .ok (.iadd, 1)) (k : VX tO bs L xs u ws (pc + 1) lc (.int (x + y) :: st)) : VX tO bs L xs u ws (pc) lc (.int y :: .int x :: st) := by
  intro p l e s m below meth c dC dI cI cZ H locs ls hC hP hD hS hl
  exact lv_iadd hC.1 hC.2.1 hdg (k p l e s m below meth c dC dI cI cZ H locs ls hC hP hD hS hl)
theorem X_isub {x y : Int32} (hdg : decode cL_law pc = .ok (.isub, 1)) (k : VX tO bs L xs u ws (pc + 1) lc (.int (x - y) :: st)) : VX tO bs L xs u ws (pc) lc (.int y :: .int x :: st) := by
  intro p l e s m below meth c dC dI cI cZ H locs ls hC hP hD hS hl
  exact lv_isub hC.1 hC.2.1 hdg (k p l e s m below meth c dC dI cI cZ H locs ls hC hP hD hS hl)
theorem X_iand {x y : Int32} (hdg : decode cL_law pc = .ok (.iand, 1)) (k : VX tO bs L xs u ws (pc + 1) lc (.int (x &&& y) :: st)) : VX tO bs L xs u ws (pc) lc (.int y :: .int x :: st) := by
  intro p l e s m below meth c dC dI cI cZ H locs ls hC hP hD hS hl
  exact lv_iand hC.1 hC.2.1 hdg (k p l e s m below meth c dC dI cI cZ H locs ls hC hP hD hS hl)
theorem X_goto {off : Int} (tgt : Nat) (hdg : decode cL_law pc = .ok (.goto off, 3)) (ht : (pc : Int) + off = (tgt : Int)) (k : VX tO bs L xs u ws (tgt) lc (st)) : VX tO bs L xs u ws (pc) lc (st) := by
  intro p l e s m below meth c dC dI cI cZ H locs ls hC hP hD hS hl
  exact lv_goto hC.1 hC.2.1 hdg ht (k p l e s m below meth c dC dI cI cZ H locs ls hC hP hD hS hl)
theorem X_if_eq {x : Int32} {off : Int} (tgt : Nat) (hdg : decode cL_law pc = .ok (.ifCond .eq off, 3)) (ht : (pc : Int) + off = (tgt : Int)) (kt : x = 0 → VX tO bs L xs u ws (tgt) lc (st)) (kf : ¬ x = 0 → VX tO bs L xs u ws (pc + 3) lc (st)) : VX tO bs L xs u ws (pc) lc (.int x :: st) := by
  intro p l e s m below meth c dC dI cI cZ H locs ls hC hP hD hS hl
  exact lv_if_eq hC.1 hC.2.1 hdg ht (fun h => kt h p l e s m below meth c dC dI cI cZ H locs ls hC hP hD hS hl) (fun h => kf h p l e s m below meth c dC dI cI cZ H locs ls hC hP hD hS hl)
theorem X_icmp_gt {x y : Int32} {off : Int} (tgt : Nat) (hdg : decode cL_law pc = .ok (.if_icmp .gt off, 3)) (ht : (pc : Int) + off = (tgt : Int)) (kt : y < x → VX tO bs L xs u ws (tgt) lc (st)) (kf : ¬ y < x → VX tO bs L xs u ws (pc + 3) lc (st)) : VX tO bs L xs u ws (pc) lc (.int y :: .int x :: st) := by
  intro p l e s m below meth c dC dI cI cZ H locs ls hC hP hD hS hl
  exact lv_icmp_gt hC.1 hC.2.1 hdg ht (fun h => kt h p l e s m below meth c dC dI cI cZ H locs ls hC hP hD hS hl) (fun h => kf h p l e s m below meth c dC dI cI cZ H locs ls hC hP hD hS hl)
theorem X_icmp_eq {x y : Int32} {off : Int} (tgt : Nat) (hdg : decode cL_law pc = .ok (.if_icmp .eq off, 3)) (ht : (pc : Int) + off = (tgt : Int)) (kt : x = y → VX tO bs L xs u ws (tgt) lc (st)) (kf : ¬ x = y → VX tO bs L xs u ws (pc + 3) lc (st)) : VX tO bs L xs u ws (pc) lc (.int y :: .int x :: st) := by
  intro p l e s m below meth c dC dI cI cZ H locs ls hC hP hD hS hl
  exact lv_icmp_eq hC.1 hC.2.1 hdg ht (fun h => kt h p l e s m below meth c dC dI cI cZ H locs ls hC hP hD hS hl) (fun h => kf h p l e s m below meth c dC dI cI cZ H locs ls hC hP hD hS hl)
theorem X_lcmp {x y : Int64} (hdg : decode cL_law pc = .ok (.lcmp, 1)) (k : VX tO bs L xs u ws (pc + 1) lc (.int (lg_cmp x y) :: st)) : VX tO bs L xs u ws (pc) lc (.long y :: .long x :: st) := by
  intro p l e s m below meth c dC dI cI cZ H locs ls hC hP hD hS hl
  exact W.lcmp hC.1 hC.2.1 hdg (k p l e s m below meth c dC dI cI cZ H locs ls hC hP hD hS hl)
theorem X_dup {x : Value} (hdg : decode cL_law pc = .ok (.dup, 1)) (hx : x.category = 1) (k : VX tO bs L xs u ws (pc + 1) lc (x :: x :: st)) : VX tO bs L xs u ws (pc) lc (x :: st) := by
  intro p l e s m below meth c dC dI cI cZ H locs ls hC hP hD hS hl
  exact lv_dup hC.1 hC.2.1 hdg hx (k p l e s m below meth c dC dI cI cZ H locs ls hC hP hD hS hl)
theorem X_tableIn {dflt lo hi : Int} {offs : Array Int} {len : Nat} {x : Int32} {off : Int} (tgt : Nat) (hdg : decode cL_law pc = .ok (.tableswitch dflt lo hi offs, len)) (h1 : ¬ x.toInt < lo) (h2 : ¬ hi < x.toInt) (ho : offs[(x.toInt - lo).toNat]? = some off) (ht : (pc : Int) + off = (tgt : Int)) (k : VX tO bs L xs u ws (tgt) lc (st)) : VX tO bs L xs u ws (pc) lc (.int x :: st) := by
  intro p l e s m below meth c dC dI cI cZ H locs ls hC hP hD hS hl
  exact lv_tableIn hC.1 hC.2.1 hdg h1 h2 ho ht (k p l e s m below meth c dC dI cI cZ H locs ls hC hP hD hS hl)
theorem X_tableOut {dflt lo hi : Int} {offs : Array Int} {len : Nat} {x : Int32} (tgt : Nat) (hdg : decode cL_law pc = .ok (.tableswitch dflt lo hi offs, len)) (h : x.toInt < lo ∨ hi < x.toInt) (ht : (pc : Int) + dflt = (tgt : Int)) (k : VX tO bs L xs u ws (tgt) lc (st)) : VX tO bs L xs u ws (pc) lc (.int x :: st) := by
  intro p l e s m below meth c dC dI cI cZ H locs ls hC hP hD hS hl
  exact lv_tableOut hC.1 hC.2.1 hdg h ht (k p l e s m below meth c dC dI cI cZ H locs ls hC hP hD hS hl)
theorem X_sld {i : Int32} (hdg : decode cL_law pc = .ok (.iaload, 1)) (hin : vp_in i L) (k : VX tO bs L xs u ws (pc + 1) lc (.int (xs i.toNatClampNeg) :: st)) : VX tO bs L xs u ws pc lc (.int i :: .ref bs :: st) := by
  intro p l e s m below meth c dC dI cI cZ H locs ls hC hP hD hS hl
  refine va_sld hC.1 hC.2.1 hC.2.2.2.2.2.2.2.1.1 hC.2.2.2.2.2.2.2.1.2 ?_ hS hin hdg (k p l e s m below meth c dC dI cI cZ H locs ls hC hP hD hS hl)
  rintro (⟨k, e, h⟩ | h)
  · simp [zR] at h
  · have := hC.2.2.2.2.2.2.2.1.2; omega
theorem X_slen (hdg : decode cL_law pc = .ok (.arraylength, 1)) (k : VX tO bs L xs u ws (pc + 1) lc (.int (nI L) :: st)) : VX tO bs L xs u ws pc lc (.ref bs :: st) := by
  intro p l e s m below meth c dC dI cI cZ H locs ls hC hP hD hS hl
  refine va_slen hC.1 hC.2.1 hC.2.2.2.2.2.2.2.1.1 hC.2.2.2.2.2.2.2.1.2 ?_ hS hdg (k p l e s m below meth c dC dI cI cZ H locs ls hC hP hD hS hl)
  rintro (⟨k, e, h⟩ | h)
  · simp [zR] at h
  · have := hC.2.2.2.2.2.2.2.1.2; omega
theorem X_ret (hdg : decode cL_law pc = .ok (.ireturn, 1)) (hu : u.1 ≤ 600000 ∧ u.2 ≤ 7302250) : VX tO bs L xs u ws pc lc [.int 1] := by
  intro p l e s m below meth c dC dI cI cZ H locs ls hC hP hD hS hl
  refine va_forget (fun q hq => ?_) (W.widen hu.1 hu.2 (lw_ret hC.1 hC.2.1 hC.2.2.2.1 hC.2.2.2.2.2.2.1 hdg))
  rcases hS.2.2 q hq with ⟨k, e, h⟩ | h
  · simp [zR] at h
  · exact h
theorem x_in {p : Program} {s : State} {m : MethodId} {meth : Method} {c : Code} {dC : Nat → ClassId} {dI : Nat → Nat → Nat} {cI cZ : ClassId} {H : Heap} {locs : List Loc}
    (hC : zX tO bs L xs p s m meth c dC dI cI cZ) (hP : va_P (dC, dI) vwCl (zR cI cZ ws) H) (hD : va_D (va_A (zR cI cZ []) s.heap.size) (zR cI cZ ws)) (hS : va_S (va_A (zR cI cZ []) s.heap.size) s.heap H locs) (is : List Nat) (hnd : va_nd is = true) (hpk : is.map (fun i => ws[i]?) = wc.map some) :
    (∀ q, va_A (zR cI cZ wc) H.size q → va_A (zR cI cZ []) s.heap.size q) ∧ (∀ U : State, U.heap = H → s.WarmedH U.vm → zIn dC dI cI cZ tO wc H.size U) := by
  have hpk' : is.map (fun i => (zR cI cZ ws)[i]?) = (zR cI cZ wc).map some := zPick_map (zRe cI cZ) hpk
  have hF := va_free (wc := zR cI cZ wc) hD hS (fun q h => Or.inr h) is hpk'
  refine ⟨hF, fun U hU hW => ⟨by rw [hU], ?_, va_K.moved hW.alike hC.2.2.2.2.2.2.2.2.1, (hD.sub is hnd hpk').weaken (fun _ _ _ _ => trivial), ?_, zNest.warm hW hC.2.2.2.2.2.2.2.2.2.2⟩⟩
  · rw [hU]
    intro k q hq
    obtain ⟨i, -, h2⟩ := zPick hpk' k q hq
    exact hP i q h2
  · rw [hU]
    obtain ⟨hZ, hT⟩ := hC.2.2.2.2.2.2.2.2.2.1
    exact ⟨((hZ.kept (fun a h1 h2 => hS.2.1 a h1 h2)).narrow hF).moved hW.alike, ((hT.kept (fun a h1 h2 => hS.2.1 a h1 h2)).narrow hF).moved hW.alike⟩
theorem x_after {p : Program} {l : Launch} {e : Env} {s : State} {m : MethodId} {below : List Frame} {meth : Method} {c : Code} {dC : Nat → ClassId} {dI : Nat → Nat → Nat} {cI cZ : ClassId} {H : Heap} {locs : List Loc} {ls : Array Slot} {st0 rest : List Value} {a : Array Value}
    (hC : zX tO bs L xs p s m meth c dC dI cI cZ) (hP : va_P (dC, dI) vwCl (zR cI cZ ws) H) (hD : va_D (va_A (zR cI cZ []) s.heap.size) (zR cI cZ ws)) (hS : va_S (va_A (zR cI cZ []) s.heap.size) s.heap H locs) (hl : zL ls 4 lc) (is : List Nat) (hpk : is.map (fun i => ws[i]?) = wc.map some)
    (hF : ∀ q, va_A (zR cI cZ wc) H.size q → va_A (zR cI cZ []) s.heap.size q)
    (hr : va_Run p l e room_1 s m #[Value.ref bs] below meth c H locs u.1 u.2 r'.2.1 r'.2.2 (F0 m pc ls st0) rest (zQ dC dI cI cZ wc H.size Po' a) (va_A (zR cI cZ wc) H.size))
    (kk : ∀ (v : Option Value) (w' : zW), Po' v w' → VX tO bs L xs (u.1 + r'.2.1, u.2 + r'.2.2) (zPut ws is w') (pc + 3) lc (v.toList ++ rest)) :
    W p l e room_1 s m #[Value.ref bs] below meth c H locs u.1 u.2 (lw_Z below #[Value.ref bs] s) (F0 m pc ls st0) := by
  have hpk' : is.map (fun i => (zR cI cZ ws)[i]?) = (zR cI cZ wc).map some := zPick_map (zRe cI cZ) hpk
  intro T hT X
  obtain ⟨v, st₀, t, T', L, h0, X', hL, e1, e2, ⟨⟨v', w', hv, hp, hln, hP1, hD1⟩, hz, hk⟩, go⟩ := hr T hT X
  cases hv
  rw [h0] at hz hk
  obtain ⟨hP2, hD2⟩ := zJoin (w1 := zR cI cZ w') (H1 := T'.heap) hP hD is hpk' (by rw [zPick_len hpk]; simpa [zR] using hln) (fun q h1 h2 => by rw [e1]; exact hk q h1 h2) hF (by rw [e1]; exact hP1) hD1
  have e9 : zPut (zR cI cZ ws) is (zR cI cZ w') = zR cI cZ (zPut ws is w') := (zPut_map (zRe cI cZ) is ws w').symm
  rw [e9] at hP2 hD2
  obtain ⟨t2, a1, b1⟩ := kk v w' hp p l e s m below meth c dC dI cI cZ T'.heap (locs ++ L) ls hC hP2 hD2
    ⟨Nat.le_trans hS.1 (by rw [e1]; exact hz), fun q h1 h2 => by rw [e1, hk q (Nat.lt_of_lt_of_le h1 hS.1) (fun z => h2 (hF q z))]; exact hS.2.1 q h1 h2, fun q hq => by
      rcases List.mem_append.mp hq with h | h
      · exact hS.2.2 q h
      · exact hF _ (hL q h)⟩ hl T' rfl X'
  exact ⟨t2, go t2 a1, b1⟩
def zInX (me' : zM) (idx : Nat) : Prop := me'.1.name = "<init>" ∧ me'.2.2.2.1 = none ∧ ∀ w ∈ ([.initialized me'.1.cls, .methodLink RL idx me'.1, .instanceMethod me'.1] : List Cond), w ∈ wsL_law
theorem X_callV {b ci : Nat} {As : List Value} {fs : List Value} (is : List Nat) (hS' : Sp tO me' r' (.ref b :: As) wc Po') (hG : GoodIn wsL_law (wsV RL idx me'.1.cls me'.1 me'.2.2.2.2.1)) (hdg : decode cL_law pc = .ok (.invokevirtual idx, 3)) (hok : zOk me' As.length)
    (hb0 : wc[0]? = some (b, .inr (ci, fs))) (hcl : (vwCl[ci]?).map (fun q => q.1) = some me'.1.cls) (hnd : va_nd is = true) (hpk : is.map (fun i => ws[i]?) = wc.map some) (hst : (st.map fun v => v.category).sum ≤ 8) (hroom : r'.1 < 2000) (hu : u.1 + r'.2.1 ≤ 600000 ∧ u.2 + r'.2.2 ≤ 7302250)
    (kk : ∀ (v : Option Value) (w' : zW), Po' v w' → VX tO bs L xs (u.1 + r'.2.1, u.2 + r'.2.2) (zPut ws is w') (pc + 3) lc (v.toList ++ st)) : VX tO bs L xs u ws pc lc (As.reverse ++ .ref b :: st) := by
  intro p l e s m below meth c dC dI cI cZ H locs ls hC hP hD hS hl
  obtain ⟨hF, hI⟩ := x_in hC hP hD hS is hnd hpk
  obtain ⟨⟨ts', hw⟩, hn1, hn2, hn3, hn4⟩ := hok
  obtain ⟨i0, -, hi0⟩ := zPick hpk 0 _ hb0
  cases hcq : vwCl[ci]? with
  | none => rw [hcq] at hcl; cases hcl
  | some q' =>
    rw [hcq] at hcl
    have hrec := va_recv hC.2.2.2.2.2.2.2.2.1 hP hcq (zR_get hi0)
    rw [show q'.1 = me'.1.cls from Option.some.inj hcl] at hrec
    refine x_after hC hP hD hS hl is hpk hF (va_runV (As := As) (rest := st) ⟨hC.1, hC.2.1, hC.2.2.1, hC.2.2.2.2.2.1, hC.2.2.2.2.1⟩ (hS' l dC dI cI cZ H.size) (cwV As.length hC.2.2.2.2.1 hG hw rfl rfl ⟨rfl, hn1, hn2, hn3⟩ ⟨by show r'.1 < 2048; omega, ?_⟩) ⟨zIn.blind, hrec, fun U hU hW => ⟨rfl, hI U hU hW⟩⟩ rfl rfl hl.1 rfl (lv_room hst) hdg hu) kk
    show 8 + (_ + 11) + 40 * r'.1 ≤ 84000
    omega
theorem X_callI {b : Nat} {As : List Value} (is : List Nat) (hS' : Sp tO me' r' (.ref b :: As) wc Po') (hG : GoodIn wsL_law me'.2.2.2.2.1) (hw3 : zInX me' idx) (hdg : decode cL_law pc = .ok (.invokespecial idx, 3)) (hok : zOk me' As.length)
    (hnd : va_nd is = true) (hpk : is.map (fun i => ws[i]?) = wc.map some) (hst : (st.map fun v => v.category).sum ≤ 8) (hroom : r'.1 < 2000) (hu : u.1 + r'.2.1 ≤ 600000 ∧ u.2 + r'.2.2 ≤ 7302250)
    (kk : ∀ (v : Option Value) (w' : zW), Po' v w' → VX tO bs L xs (u.1 + r'.2.1, u.2 + r'.2.2) (zPut ws is w') (pc + 3) lc (v.toList ++ st)) : VX tO bs L xs u ws pc lc (As.reverse ++ .ref b :: st) := by
  intro p l e s m below meth c dC dI cI cZ H locs ls hC hP hD hS hl
  obtain ⟨hF, hI⟩ := x_in hC hP hD hS is hnd hpk
  obtain ⟨⟨ts', hw⟩, hn1, hn2, hn3, hn4⟩ := hok
  obtain ⟨h1, h2, h3⟩ := hw3
  have h4 := fun w hw => hC.2.2.2.2.1 w (h3 w hw)
  rw [h2] at hw
  refine x_after hC hP hD hS hl is hpk hF (va_runI (As := As) (rest := st) ⟨hC.1, hC.2.1, hC.2.2.1, hC.2.2.2.2.2.1, hC.2.2.2.2.1⟩ (hS' l dC dI cI cZ H.size) (cwI As.length hC.2.2.2.2.1 hG hw rfl rfl (h4 _ (by simp)) (h4 _ (by simp)) (h4 _ (by simp)) h1 ⟨hn1, hn2, hn3⟩ ⟨by show r'.1 < 2048; omega, ?_⟩) ⟨zIn.blind, fun U hU hW => ⟨rfl, hI U hU hW⟩⟩ rfl rfl hl.1 rfl (lv_room hst) hdg hu) kk
  show 8 + (_ + 11) + 40 * r'.1 ≤ 84000
  omega
def zNewX (idx ci : Nat) (fs : List Value) : Prop := ∃ q : vw_C, vwCl[ci]? = some q ∧ (∀ w ∈ u_ws q.1 q.2.1 q.2.2, w ∈ wsL_law) ∧ (∀ w ∈ ([Cond.classLink RL idx q.1, .instantiable q.1 q.2.2, .initialized q.1] : List Cond), w ∈ wsL_law) ∧ (∀ j, j < q.2.2 → parseFieldDescriptor (q.2.1 j).2.2.1 = some (zTy q j)) ∧ (∀ j, j < q.2.2 → defaultValue (zTy q j) = vp_V fs j) ∧ fs.length = q.2.2
theorem X_new {ci : Nat} {fs : List Value} (hdg : decode cL_law pc = .ok (.new idx, 3)) (hn : zNewX idx ci fs) (hu : u.1 + 1 ≤ 600000 ∧ u.2 + fs.length ≤ 7302250) (k : ∀ a, VX tO bs L xs (u.1 + 1, u.2 + fs.length) (ws ++ [(a, oB ci fs)]) (pc + 3) lc (.ref a :: st)) : VX tO bs L xs u ws pc lc st := by
  intro p l e s m below meth c dC dI cI cZ H locs ls hC hP hD hS hl
  obtain ⟨⟨C, T, N⟩, hc, hin, hws, hty, hfs, hlen⟩ := hn
  have h2 := fun w hw => hC.2.2.2.2.1 w (hws w hw)
  rw [hlen] at hu k
  exact va_new hC.1 hC.2.1 hC.2.2.2.2.1 hin (zTy (C, T, N)) hty hC.2.2.2.2.2.1 (h2 _ (by simp)) (h2 _ (by simp)) (h2 _ (by simp)) hC.2.2.2.2.2.2.2.2.1 hP hD hS (fun q h => Or.inr h) hc hfs hu.1 hu.2 hdg
    (fun a H1 hP1 hD1 hS1 => k a p l e s m below meth c dC dI cI cZ H1 locs ls hC (by rw [zR_app]; exact hP1) (by rw [zR_app]; exact hD1) hS1 hl)
end XROWS
