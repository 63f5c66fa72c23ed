/-! THE LAYER's rows for constructors -/
section ZC
variable {tO : Nat} {me me' : zM} {r r' : Nat × Nat × Nat} {ws0 ws wc : zW} {Q Po' : zPo} {u : Nat × Nat} {pc idx : Nat} {lc : List (Option Value)} {st : List Value}
def zOb (me : zM) (idx : Nat) : Prop := ∀ w ∈ ([Cond.methodLink me.2.2.2.2.2 idx Lib.objectInit, .instanceMethod Lib.objectInit, .code Lib.objectInit ⟨#[0xb1]⟩ 1 none] : List Cond), w ∈ me.2.2.2.2.1
theorem V_objInit {a : Nat} (hdg : decode me.2.1 pc = .ok (.invokespecial idx, 3)) (h1 : zOb me idx) (hst : (st.map fun v => v.category).sum ≤ 8) (hr : 1 ≤ r.1) (k : V tO me r ws0 Q u ws (pc + 3) lc st) : V tO me r ws0 Q u ws pc lc (.ref a :: st) := by
  intro p l e s m args below meth c dC dI cI cZ H locs ls hC hP hD hS hl
  have h2 := fun w hw => hC.2.2.2.2.1 w (h1 w hw)
  exact W.objInit hC.1 hC.2.1 hC.2.2.2.2.2.1 (h2 _ (by simp)) (h2 _ (by simp)) (h2 _ (by simp)) rfl (hl.1.trans hC.2.2.1.symm) rfl hdg hr (by show 2 * 0 + _ + 12 ≤ 40 * r.1; omega) (k p l e s m args below meth c dC dI cI cZ H locs ls hC hP hD hS hl)
def zTy (q : vw_C) (j : Nat) : FieldType := (parseFieldDescriptor (q.2.1 j).2.2.1).getD .int
def zNew (me : zM) (idx ci : Nat) (fs : List Value) : Prop := ∃ q : vw_C, vwCl[ci]? = some q ∧ (∀ w ∈ u_ws q.1 q.2.1 q.2.2, w ∈ me.2.2.2.2.1) ∧ (∀ w ∈ ([Cond.classLink me.2.2.2.2.2 idx q.1, .instantiable q.1 q.2.2, .initialized q.1] : List Cond), w ∈ me.2.2.2.2.1) ∧ (∀ j, j < q.2.2 → parseFieldDescriptor (q.2.1 j).2.2.1 = some (zTy q j)) ∧ (∀ j, j < q.2.2 → defaultValue (zTy q j) = vp_V fs j) ∧ fs.length = q.2.2
theorem V_new {ci : Nat} {fs : List Value} (hdg : decode me.2.1 pc = .ok (.new idx, 3)) (hn : zNew me idx ci fs) (hu : u.1 + 1 ≤ r.2.1 ∧ u.2 + fs.length ≤ r.2.2) (k : ∀ a, V tO me r ws0 Q (u.1 + 1, u.2 + fs.length) (ws ++ [(a, oB ci fs)]) (pc + 3) lc (.ref a :: st)) : V tO me r ws0 Q u ws pc lc st := by
  intro p l e s m args below meth c dC dI cI cZ H locs ls hC hP hD hS hl
  obtain ⟨⟨C, T, N⟩, hc, hin, hws, hty, hfs, hlen⟩ := hn
  have h2 := fun w hw => hC.2.2.2.2.1 w (hws w hw)
  rw [hlen] at hu k
  exact va_new hC.1 hC.2.1 hC.2.2.2.2.1 hin (zTy (C, T, N)) hty hC.2.2.2.2.2.1 (h2 _ (by simp)) (h2 _ (by simp)) (h2 _ (by simp)) hC.2.2.2.2.2.2.2.2.1 hP hD hS (fun q h => Or.inr h) hc hfs hu.1 hu.2 hdg
    (fun a H1 hP1 hD1 hS1 => k a p l e s m args below meth c dC dI cI cZ H1 locs ls hC (by rw [zR_app]; exact hP1) (by rw [zR_app]; exact hD1) hS1 hl)
theorem z_clampN {n : Nat} (hn : n < 2 ^ 31) : (nI n).toNatClampNeg = n := by show (nI n).toInt.toNat = n; rw [nI_toInt hn, Int.toNat_natCast]
theorem z_nneg {n : Nat} (hn : n < 2 ^ 31) : ¬ nI n < 0 := by rw [Int32.lt_iff_toInt_lt, nI_toInt hn, Int32.toInt_zero]; omega
theorem V_newaI {n : Nat} (hdg : decode me.2.1 pc = .ok (.newarray .int, 2)) (hw : Cond.arrayClass .int ∈ me.2.2.2.2.1) (hn : n < 2 ^ 20) (hu : u.1 + 1 ≤ r.2.1 ∧ u.2 + n ≤ r.2.2) (k : ∀ a, V tO me r ws0 Q (u.1 + 1, u.2 + n) (ws ++ [(a, aI n (fun _ => 0))]) (pc + 2) lc (.ref a :: st)) : V tO me r ws0 Q u ws pc lc (.int (nI n) :: st) := by
  intro p l e s m args below meth c dC dI cI cZ H locs ls hC hP hD hS hl
  refine va_newa (atype := .int) (a0 := (n, .inl (fun _ => 0))) (ty := .int) hC.1 hC.2.1 (hC.2.2.2.2.1 _ hw) rfl hC.2.2.2.2.2.2.2.2.1 hP hD hS (fun q h => Or.inr h) (fun cA => rfl) (z_nneg (by omega)) (z_clampN (by omega)) (by show n * 4 ≤ _; omega) hu.1 hu.2 hdg (fun a cA H1 hK1 hP1 hD1 hS1 => ?_)
  have e : cA = cI := by
    have h1 : s.vm.findClass ("[" ++ FieldType.int.toString) = some cA := (hK1.2 2 (cA, .int) rfl).2
    have h2 : s.vm.findClass ("[" ++ FieldType.int.toString) = some cI := (hC.2.2.2.2.2.2.2.2.1.2 0 (cI, .int) rfl).2
    exact Option.some.inj (h1.symm.trans h2)
  subst e
  exact k a p l e s m args below meth c dC dI cA cZ H1 locs ls hC (by rw [zR_app]; exact hP1) (by rw [zR_app]; exact hD1) hS1 hl
theorem V_newaZ {n : Nat} (hdg : decode me.2.1 pc = .ok (.newarray .boolean, 2)) (hw : Cond.arrayClass .boolean ∈ me.2.2.2.2.1) (hn : n < 2 ^ 20) (hu : u.1 + 1 ≤ r.2.1 ∧ u.2 + n ≤ r.2.2) (k : ∀ a, V tO me r ws0 Q (u.1 + 1, u.2 + n) (ws ++ [(a, aZ n (fun _ => 0))]) (pc + 2) lc (.ref a :: st)) : V tO me r ws0 Q u ws pc lc (.int (nI n) :: st) := by
  intro p l e s m args below meth c dC dI cI cZ H locs ls hC hP hD hS hl
  refine va_newa (atype := .boolean) (a0 := (n, .inl (fun _ => 0))) (ty := .boolean) hC.1 hC.2.1 (hC.2.2.2.2.1 _ hw) rfl hC.2.2.2.2.2.2.2.2.1 hP hD hS (fun q h => Or.inr h) (fun cA => rfl) (z_nneg (by omega)) (z_clampN (by omega)) (by show n * 1 ≤ _; omega) hu.1 hu.2 hdg (fun a cA H1 hK1 hP1 hD1 hS1 => ?_)
  have e : cA = cZ := by
    have h1 : s.vm.findClass ("[" ++ FieldType.boolean.toString) = some cA := (hK1.2 2 (cA, .boolean) rfl).2
    have h2 : s.vm.findClass ("[" ++ FieldType.boolean.toString) = some cZ := (hC.2.2.2.2.2.2.2.2.1.2 1 (cZ, .boolean) rfl).2
    exact Option.some.inj (h1.symm.trans h2)
  subst e
  exact k a p l e s m args below meth c dC dI cI cA H1 locs ls hC (by rw [zR_app]; exact hP1) (by rw [zR_app]; exact hD1) hS1 hl
def zFf (me : zM) (idx ci k : Nat) (ty : FieldType) : Prop := ∃ q : vw_C, vwCl[ci]? = some q ∧ k < q.2.2 ∧ (∀ w ∈ u_ws q.1 q.2.1 q.2.2, w ∈ me.2.2.2.2.1) ∧ Cond.fieldLink me.2.2.2.2.2 idx (q.2.1 k).1 (q.2.1 k).2.1 (q.2.1 k).2.2.1 ∈ me.2.2.2.2.1 ∧ (q.2.1 k).2.2.2 = true ∧ (q.2.1 k).1 = me.2.2.2.2.2 ∧ parseFieldDescriptor (q.2.1 k).2.2.1 = some ty
theorem V_putF (q0 : Nat) {a ci k : Nat} {fs : List Value} {v : Value} {ty : FieldType} (hdg : decode me.2.1 pc = .ok (.putfield idx, 3)) (hf : zFf me idx ci k ty) (hnm : me.1.name = "<init>") (he : ws[q0]? = some (a, .inr (ci, fs))) (hn : narrow ty v = v) (hfit : fits ty v = true) (hlen : k < fs.length) (kk : V tO me r ws0 Q u (ws.set q0 (a, .inr (ci, fs.set k v))) (pc + 3) lc (st)) : V tO me r ws0 Q u ws (pc) lc (v :: .ref a :: st) := by
  intro p l e s m args below meth c dC dI cI cZ H locs ls hC hP hD hS hl
  obtain ⟨⟨C, T, N⟩, hc, hk, hin, hlk, hfin, hdecl, hd⟩ := hf
  obtain ⟨⟨ty0, hty⟩, hnm2⟩ := z_cls ci _ hc
  have e9 := zR_set cI cZ ws q0 (a, .inr (ci, fs.set k v))
  exact va_putF hC.1 hC.2.1 hC.2.2.2.2.1 hin ty0 hty hnm2 hC.2.2.2.2.2.1 hC.2.2.2.2.2.2.2.2.1 hP hD hS q0 (zR_get he) hc _ hk (hC.2.2.2.2.1 _ hlk) (fun _ h9 => h9) hfin (hC.2.2.2.2.2.2.2.1.trans hnm) hdecl hd hn hfit hlen hdg (fun H1 locs1 hP1 hD1 hS1 => kk p l e s m args below meth c dC dI cI cZ H1 locs1 ls hC (by rw [← e9]; exact hP1) (by rw [← e9]; exact hD1) hS1 hl)
def zIn3 (me me' : zM) (idx : Nat) : Prop := me'.1.name = "<init>" ∧ me'.2.2.2.1 = none ∧ ∀ w ∈ ([.initialized me'.1.cls, .methodLink me.2.2.2.2.2 idx me'.1, .instanceMethod me'.1] : List Cond), w ∈ me.2.2.2.2.1
theorem V_callI {b : Nat} {As : List Value} (is : List Nat) (hS' : Sp tO me' r' (.ref b :: As) wc Po') (hG : GoodIn me.2.2.2.2.1 me'.2.2.2.2.1) (hw3 : zIn3 me me' idx) (hdg : decode me.2.1 pc = .ok (.invokespecial idx, 3)) (hok : zOk me' As.length)
    (hnd : va_nd is = true) (hpk : is.map (fun i => ws[i]?) = wc.map some) (hst : (st.map fun v => v.category).sum ≤ 8) (hroom : r'.1 < r.1) (hu : u.1 + r'.2.1 ≤ r.2.1 ∧ u.2 + r'.2.2 ≤ r.2.2)
    (kk : ∀ (v : Option Value) (w' : zW), Po' v w' → V tO me r ws0 Q (u.1 + r'.2.1, u.2 + r'.2.2) (zPut ws is w') (pc + 3) lc (v.toList ++ st)) : V tO me r ws0 Q u ws pc lc (As.reverse ++ .ref b :: st) := by
  intro p l e s m args below meth c dC dI cI cZ H locs ls hC hP hD hS hl
  obtain ⟨hF, hI⟩ := z_in hC hP hD hS is hnd hpk
  obtain ⟨⟨ts', hw⟩, hn1, hn2, hn3, hn4⟩ := hok
  obtain ⟨h1, h2, h3⟩ := hw3
  have h4 := fun w hw => hC.2.2.2.2.1 w (h3 w hw)
  rw [h2] at hw
  refine z_after hC hP hD hS hl is hpk hF (va_runI (As := As) (rest := st) ⟨hC.1, hC.2.1, hC.2.2.1, hC.2.2.2.2.2.1, hC.2.2.2.2.1⟩ (hS' l dC dI cI cZ H.size) (cwI As.length hC.2.2.2.2.1 hG hw rfl rfl (h4 _ (by simp)) (h4 _ (by simp)) (h4 _ (by simp)) h1 ⟨hn1, hn2, hn3⟩ ⟨hroom, ?_⟩) ⟨zIn.blind, fun U hU hW => ⟨rfl, hI U hU hW⟩⟩ rfl rfl hl.1 rfl (lv_room hst) hdg hu) kk
  show 8 + (_ + 11) + 40 * r'.1 ≤ 40 * r.1
  omega
theorem V_callI0 {b : Nat} (is : List Nat) (hS' : Sp tO me' r' [.ref b] wc Po') (hG : GoodIn me.2.2.2.2.1 me'.2.2.2.2.1) (hw3 : zIn3 me me' idx) (hdg : decode me.2.1 pc = .ok (.invokespecial idx, 3)) (hok : zOk me' 0) (hnd : va_nd is = true) (hpk : is.map (fun i => ws[i]?) = wc.map some) (hst : (st.map fun v => v.category).sum ≤ 8) (hroom : r'.1 < r.1) (hu : u.1 + r'.2.1 ≤ r.2.1 ∧ u.2 + r'.2.2 ≤ r.2.2) (kk : ∀ (v : Option Value) (w' : zW), Po' v w' → V tO me r ws0 Q (u.1 + r'.2.1, u.2 + r'.2.2) (zPut ws is w') (pc + 3) lc (v.toList ++ st)) : V tO me r ws0 Q u ws pc lc (.ref b :: st) := V_callI (As := []) is hS' hG hw3 hdg hok hnd hpk hst hroom hu kk
theorem V_callI1 {b : Nat} {x1 : Value} (is : List Nat) (hS' : Sp tO me' r' [.ref b, x1] wc Po') (hG : GoodIn me.2.2.2.2.1 me'.2.2.2.2.1) (hw3 : zIn3 me me' idx) (hdg : decode me.2.1 pc = .ok (.invokespecial idx, 3)) (hok : zOk me' 1) (hnd : va_nd is = true) (hpk : is.map (fun i => ws[i]?) = wc.map some) (hst : (st.map fun v => v.category).sum ≤ 8) (hroom : r'.1 < r.1) (hu : u.1 + r'.2.1 ≤ r.2.1 ∧ u.2 + r'.2.2 ≤ r.2.2) (kk : ∀ (v : Option Value) (w' : zW), Po' v w' → V tO me r ws0 Q (u.1 + r'.2.1, u.2 + r'.2.2) (zPut ws is w') (pc + 3) lc (v.toList ++ st)) : V tO me r ws0 Q u ws pc lc (x1 :: .ref b :: st) := V_callI (As := [x1]) is hS' hG hw3 hdg hok hnd hpk hst hroom hu kk
theorem V_callI2 {b : Nat} {x1 x2 : Value} (is : List Nat) (hS' : Sp tO me' r' [.ref b, x1, x2] wc Po') (hG : GoodIn me.2.2.2.2.1 me'.2.2.2.2.1) (hw3 : zIn3 me me' idx) (hdg : decode me.2.1 pc = .ok (.invokespecial idx, 3)) (hok : zOk me' 2) (hnd : va_nd is = true) (hpk : is.map (fun i => ws[i]?) = wc.map some) (hst : (st.map fun v => v.category).sum ≤ 8) (hroom : r'.1 < r.1) (hu : u.1 + r'.2.1 ≤ r.2.1 ∧ u.2 + r'.2.2 ≤ r.2.2) (kk : ∀ (v : Option Value) (w' : zW), Po' v w' → V tO me r ws0 Q (u.1 + r'.2.1, u.2 + r'.2.2) (zPut ws is w') (pc + 3) lc (v.toList ++ st)) : V tO me r ws0 Q u ws pc lc (x2 :: x1 :: .ref b :: st) := V_callI (As := [x1, x2]) is hS' hG hw3 hdg hok hnd hpk hst hroom hu kk
theorem V_equ {u' : Nat × Nat} (u : Nat × Nat) (h : u' = u) (k : V tO me r ws0 Q u ws pc lc st) : V tO me r ws0 Q u' ws pc lc st := h ▸ k
theorem zpk_1 {y0 y1 : Nat × zE} {l : zW} : [1].map (fun i => (y0 :: y1 :: l)[i]?) = [y1].map some := rfl
theorem zpk_3 {y0 y1 y2 y3 : Nat × zE} {l : zW} : [3].map (fun i => (y0 :: y1 :: y2 :: y3 :: l)[i]?) = [y3].map some := rfl
theorem zpk_9 {y0 y1 y2 y3 y4 y5 y6 y7 y8 y9 : Nat × zE} {l : zW} : [9].map (fun i => (y0 :: y1 :: y2 :: y3 :: y4 :: y5 :: y6 :: y7 :: y8 :: y9 :: l)[i]?) = [y9].map some := rfl
theorem zpk_12 {y0 y1 y2 y3 y4 y5 y6 y7 y8 y9 y10 y11 y12 : Nat × zE} {l : zW} : [12].map (fun i => (y0 :: y1 :: y2 :: y3 :: y4 :: y5 :: y6 :: y7 :: y8 :: y9 :: y10 :: y11 :: y12 :: l)[i]?) = [y12].map some := rfl
theorem zpk_16 {y0 y1 y2 y3 y4 y5 y6 y7 y8 y9 y10 y11 y12 y13 y14 y15 y16 : Nat × zE} {l : zW} : [16].map (fun i => (y0 :: y1 :: y2 :: y3 :: y4 :: y5 :: y6 :: y7 :: y8 :: y9 :: y10 :: y11 :: y12 :: y13 :: y14 :: y15 :: y16 :: l)[i]?) = [y16].map some := rfl
theorem zpk_31 {y0 y1 y2 y3 y4 y5 y6 y7 y8 y9 y10 y11 y12 y13 y14 y15 y16 y17 y18 y19 y20 y21 y22 y23 y24 y25 y26 y27 y28 y29 y30 y31 : Nat × zE} {l : zW} : [31].map (fun i => (y0 :: y1 :: y2 :: y3 :: y4 :: y5 :: y6 :: y7 :: y8 :: y9 :: y10 :: y11 :: y12 :: y13 :: y14 :: y15 :: y16 :: y17 :: y18 :: y19 :: y20 :: y21 :: y22 :: y23 :: y24 :: y25 :: y26 :: y27 :: y28 :: y29 :: y30 :: y31 :: l)[i]?) = [y31].map some := rfl
theorem zpk_37 {y0 y1 y2 y3 y4 y5 y6 y7 y8 y9 y10 y11 y12 y13 y14 y15 y16 y17 y18 y19 y20 y21 y22 y23 y24 y25 y26 y27 y28 y29 y30 y31 y32 y33 y34 y35 y36 y37 : Nat × zE} {l : zW} : [37].map (fun i => (y0 :: y1 :: y2 :: y3 :: y4 :: y5 :: y6 :: y7 :: y8 :: y9 :: y10 :: y11 :: y12 :: y13 :: y14 :: y15 :: y16 :: y17 :: y18 :: y19 :: y20 :: y21 :: y22 :: y23 :: y24 :: y25 :: y26 :: y27 :: y28 :: y29 :: y30 :: y31 :: y32 :: y33 :: y34 :: y35 :: y36 :: y37 :: l)[i]?) = [y37].map some := rfl
theorem zpk_40 {y0 y1 y2 y3 y4 y5 y6 y7 y8 y9 y10 y11 y12 y13 y14 y15 y16 y17 y18 y19 y20 y21 y22 y23 y24 y25 y26 y27 y28 y29 y30 y31 y32 y33 y34 y35 y36 y37 y38 y39 y40 : Nat × zE} {l : zW} : [40].map (fun i => (y0 :: y1 :: y2 :: y3 :: y4 :: y5 :: y6 :: y7 :: y8 :: y9 :: y10 :: y11 :: y12 :: y13 :: y14 :: y15 :: y16 :: y17 :: y18 :: y19 :: y20 :: y21 :: y22 :: y23 :: y24 :: y25 :: y26 :: y27 :: y28 :: y29 :: y30 :: y31 :: y32 :: y33 :: y34 :: y35 :: y36 :: y37 :: y38 :: y39 :: y40 :: l)[i]?) = [y40].map some := rfl
theorem zpk_43 {y0 y1 y2 y3 y4 y5 y6 y7 y8 y9 y10 y11 y12 y13 y14 y15 y16 y17 y18 y19 y20 y21 y22 y23 y24 y25 y26 y27 y28 y29 y30 y31 y32 y33 y34 y35 y36 y37 y38 y39 y40 y41 y42 y43 : Nat × zE} {l : zW} : [43].map (fun i => (y0 :: y1 :: y2 :: y3 :: y4 :: y5 :: y6 :: y7 :: y8 :: y9 :: y10 :: y11 :: y12 :: y13 :: y14 :: y15 :: y16 :: y17 :: y18 :: y19 :: y20 :: y21 :: y22 :: y23 :: y24 :: y25 :: y26 :: y27 :: y28 :: y29 :: y30 :: y31 :: y32 :: y33 :: y34 :: y35 :: y36 :: y37 :: y38 :: y39 :: y40 :: y41 :: y42 :: y43 :: l)[i]?) = [y43].map some := rfl
theorem zpk_45 {y0 y1 y2 y3 y4 y5 y6 y7 y8 y9 y10 y11 y12 y13 y14 y15 y16 y17 y18 y19 y20 y21 y22 y23 y24 y25 y26 y27 y28 y29 y30 y31 y32 y33 y34 y35 y36 y37 y38 y39 y40 y41 y42 y43 y44 y45 : Nat × zE} {l : zW} : [45].map (fun i => (y0 :: y1 :: y2 :: y3 :: y4 :: y5 :: y6 :: y7 :: y8 :: y9 :: y10 :: y11 :: y12 :: y13 :: y14 :: y15 :: y16 :: y17 :: y18 :: y19 :: y20 :: y21 :: y22 :: y23 :: y24 :: y25 :: y26 :: y27 :: y28 :: y29 :: y30 :: y31 :: y32 :: y33 :: y34 :: y35 :: y36 :: y37 :: y38 :: y39 :: y40 :: y41 :: y42 :: y43 :: y44 :: y45 :: l)[i]?) = [y45].map some := rfl
end ZC

