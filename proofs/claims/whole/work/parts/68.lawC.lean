/-! the law: the calls, one by one -/
theorem caN_le {q m : Nat} {x : Int32} (h : m ≤ 40) : caN q m x ≤ 40 := by
  unfold caN
  split
  · split <;> omega
  · exact h
theorem seN_le {q n m : Nat} {x : Int32} (h : m ≤ 40) : seN q n m x ≤ 40 := by
  unfold seN
  split
  · split <;> omega
  · exact h
theorem tnN_le {m : Nat} {x : Int32} (h : m ≤ 40) : tnN m x ≤ 40 := by
  unfold tnN
  split <;> omega
theorem plN_le {m : Nat} {x y : Int32} (h : m ≤ 8) : plN m x y ≤ 8 := by
  unfold plN
  split
  · omega
  · split
    · split
      · split <;> omega
      · exact h
    · exact h
theorem feN_le {m : Nat} {x : Int32} (h : m ≤ 60) : feN m x ≤ 60 := by
  unfold feN
  split
  · split <;> omega
  · exact h
theorem txN_wn {q n m : Nat} {B : Nat → Bool} {W : Nat → Int32} (h : OKq q n) (hB : Bk (q ^ n) B W m) : txN n m ≤ 1457 := by
  have := txN_le h hB.len
  unfold txN
  omega
theorem Bk.len256 {q n m : Nat} {B : Nat → Bool} {W : Nat → Int32} (hB : Bk (q ^ n) B W m) (h : OKq q n) : m ≤ 256 := Nat.le_trans hB.len h.2.2.2.2
def ItOK (Sz Ce It : Nat → Int32) : Prop := ∀ l, l < 4 → ∀ k, k ≤ 12 → Sz l = nI k → ∀ i, i < k → Ce (l * 12 + i) = It (l * 12 + i)
theorem juF_eq {B : Nat → Bool} {Ce It : Nat → Int32} {l : Nat} : ∀ (f i k : Nat), i + f = k → (∀ j, j < k → Ce (l * 12 + j) = It (l * 12 + j)) → juF B Ce l f i = juF B It l f i
  | 0, _, _, _, _ => rfl
  | f + 1, i, k, h, hh => by
    rw [juF, juF, hh i (by omega), juF_eq f (i + 1) k (by omega) hh]
theorem ju_eq {B : Nat → Bool} {Sz Ce It : Nat → Int32} {x : Int32} (hl : LnOK Sz) (h : ItOK Sz Ce It) : juV B Sz Ce x = juV B Sz It x := by
  unfold juV
  by_cases hx : isW 4 x = true
  · obtain ⟨l, hl4, rfl⟩ := isW_of hx
    rw [if_pos hx, if_pos hx, toNat_nI (by omega)]
    rcases hl l hl4 with e | ⟨k, hk, e⟩
    · rw [e, if_pos (by decide), if_pos (by decide)]
    · rw [e, toNat_nI (by omega), juF_eq k 0 k (by omega) (h l hl4 k hk e)]
  · rw [if_neg hx, if_neg hx]
theorem ge_eq {Sz Ce It : Nat → Int32} {x y : Int32} (hl : LnOK Sz) (h : ItOK Sz Ce It) : geV Sz Ce x y = geV Sz It x y := by
  unfold geV
  by_cases hx : isW 4 x = true
  · obtain ⟨l, hl4, rfl⟩ := isW_of hx
    rw [if_pos hx, if_pos hx, toNat_nI (by omega)]
    rcases hl l hl4 with e | ⟨k, hk, e⟩
    · rw [e, show (-1 : Int32).toInt.toNat = 0 from by decide]
      by_cases hy : isW 0 y = true
      · obtain ⟨j, hj, -⟩ := isW_of hy; omega
      · rw [if_neg hy, if_neg hy]
    · rw [e, toNat_nI (by omega)]
      by_cases hy : isW k y = true
      · obtain ⟨j, hj, rfl⟩ := isW_of hy
        rw [if_pos hy, if_pos hy, toNat_nI (by omega), h l hl4 k hk e j hj]
      · rw [if_neg hy, if_neg hy]
  · rw [if_neg hx, if_neg hx]
theorem liL_ok {Sz : Nat → Int32} {x y : Int32} (hl : LnOK Sz) : LnOK (liL x y Sz) := by
  unfold liL
  split
  · split
    · next hy =>
      obtain ⟨k, hk, rfl⟩ := isW_of hy
      intro l h4
      unfold upd
      split
      · exact Or.inr ⟨k, by omega, rfl⟩
      · exact hl l h4
    · exact hl
  · exact hl
theorem liC_ok {Sz Ce It : Nat → Int32} {x y : Int32} (hl : LnOK Sz) (h : ItOK Sz Ce It) : ItOK (liL x y Sz) (liC x y Ce) (liM x y It) := by
  unfold liL liC liM
  split
  · next hx =>
    split
    · next hy =>
      obtain ⟨l0, hl0, rfl⟩ := isW_of hx
      obtain ⟨k0, hk0, rfl⟩ := isW_of hy
      rw [toNat_nI (by omega), toNat_nI (by omega)]
      intro l h4 k hk hs j hj
      unfold upd at hs
      dsimp only
      by_cases e : l = l0
      · subst e
        rw [if_pos rfl, nI_eq (by omega) (by omega)] at hs
        rw [if_pos (by omega), if_pos (by omega)]
      · rw [if_neg e] at hs
        rw [if_neg (by omega), if_neg (by omega)]
        exact h l h4 k hk hs j hj
    · exact h
  · exact h
theorem puC_ok {Sz Ce It : Nat → Int32} {x y z : Int32} (h : ItOK Sz Ce It) : ItOK Sz (puC Sz x y z Ce) (puC Sz x y z It) := by
  unfold puC
  split
  · split
    · exact h
    · split
      · intro l h4 k hk hs j hj
        unfold upd
        split
        · rfl
        · exact h l h4 k hk hs j hj
      · exact h
  · exact h
set_option maxHeartbeats 300000 in
theorem law_size {tO bs L xr mr i : Nat} {xs : Nat → Int32} {ws : zW} {u : Nat × Nat} (hi : i + 5 ≤ L) (hLL : L ≤ 2560) (hu : u.1 ≤ 600000 ∧ u.2 ≤ 7302250) (hR : RelP xr mr ws) (IH : ∀ ws2, RelP xr mr ws2 → VX tO bs L xs u ws2 1139 [some (.ref bs), some (.ref xr), some (.ref mr), some (.int (nI i))] []) : VX tO bs L xs u ws 196 [some (.ref bs), some (.ref xr), some (.ref mr), some (.int (nI i))] [] := by
  refine hR (fun z => VX tO bs L xs u z 196 [some (.ref bs), some (.ref xr), some (.ref mr), some (.int (nI i))] []) ?_
  clear hR ws
  intro aX A q n m cut rows q2 n2 m2 ms2 mk2 mT gq gn gK gmo gmy gun fd wn kq kn kc kr kt yw cu cv ck rm mo bo ki wa wr fo W Im RX RcX Kp Vp W2 Hd2 Im2 O2 E2 RX2 Rc2 K2 V2 WT ImT OT ET Rg Fg Tb Rs Pb Ce Wb R KR P KP Od Ig Pk Lt Lk Rd Nx Tp Pa Wy Sz It B B2 BT KB Ls L2 T pk pv pk2 pv2 hq hB hc hL hLm hr hP hPm hk hT hG hf hTb hTp hw hwn hp hl hit
  by_cases h0 : szB (xs (i + 1)) (xs (i + 2)) = true
  · obtain ⟨q9, n9, ho, e1, e2⟩ := szB_of h0
    refine X_aload_n dL_law_196 rfl ?_
    refine X_arg 197 1 dL_law_197 dL_law_198 dL_law_199 (by decide) dL_law_200 dL_law_201 rfl rfl (by omega) hLL ?_
    refine X_arg 202 2 dL_law_202 dL_law_203 dL_law_204 (by decide) dL_law_205 dL_law_206 rfl rfl (by omega) hLL ?_
    rw [e1, e2]
    refine X_callV0 (As := [.int (nI q9), .int (nI n9)]) [0, 1, 2, 3, 4, 5, 6, 7, 8, 9, 10, 11, 12, 13, 14, 15] (s_X11_size (d := 60) (by decide) ho hq.2.2.2.2 hB) gL_law_X11_size dL_law_207 oX11_size rfl rfl rfl rfl (Nat.le_of_ble_eq_true rfl) (by decide) hu ?_
    rintro _ _ ⟨rfl, rfl⟩
    simp only [zput_n, zput_c, List.set_cons_zero, List.set_cons_succ, Option.toList, List.nil_append, List.cons_append, xaW, xbW, xpW, xoW, xhW, xkW, dkW, obD]
    refine X_aload_n dL_law_210 rfl ?_
    refine X_arg 211 1 dL_law_211 dL_law_212 dL_law_213 (by decide) dL_law_214 dL_law_215 rfl rfl (by omega) hLL ?_
    refine X_arg 216 2 dL_law_216 dL_law_217 dL_law_218 (by decide) dL_law_219 dL_law_220 rfl rfl (by omega) hLL ?_
    rw [e1, e2]
    refine X_callV0 (As := [.int (nI q9), .int (nI n9)]) [48, 49] (s_X12_size (d := 60) (by decide) ho) gL_law_X12_size dL_law_221 oX12_size rfl rfl rfl rfl (Nat.le_of_ble_eq_true rfl) (by decide) hu ?_
    rintro _ _ ⟨rfl, rfl⟩
    simp only [zput_n, zput_c, List.set_cons_zero, List.set_cons_succ, Option.toList, List.nil_append, List.cons_append, xaW, xbW, xpW, xoW, xhW, xkW, dkW, obD]
    refine X_icmp_eq 1139 dL_law_224 (by decide) (fun _ => ?_) (fun h9 => absurd rfl h9)
    exact IH _ (RelP.mk (Ls := Ls) (T := T) (pk := pk) (pv := pv) ho (Bk.nil _ _) (Nat.zero_le _) (fun j hj => absurd hj (Nat.not_lt_zero j)) (fun j hj => absurd hj (Nat.not_lt_zero j)) (Nat.zero_le _) (fun j hj => absurd hj (Nat.not_lt_zero j)) (fun j hj => absurd hj (Nat.not_lt_zero j)) hk hT hG hf hTb hTp hw hwn hp hl hit)
  · have h0 : szB (xs (i + 1)) (xs (i + 2)) = false := Bool.eq_false_iff.mpr h0
    refine X_aload_n dL_law_196 rfl ?_
    refine X_arg 197 1 dL_law_197 dL_law_198 dL_law_199 (by decide) dL_law_200 dL_law_201 rfl rfl (by omega) hLL ?_
    refine X_arg 202 2 dL_law_202 dL_law_203 dL_law_204 (by decide) dL_law_205 dL_law_206 rfl rfl (by omega) hLL ?_
    refine X_callV0 (As := [.int (xs (i + 1)), .int (xs (i + 2))]) [0, 1, 2, 3, 4, 5, 6, 7, 8, 9, 10, 11, 12, 13, 14, 15] (s_X11_sizeN (d := 60) (by decide) h0) gL_law_X11_size dL_law_207 oX11_size rfl rfl rfl rfl (Nat.le_of_ble_eq_true rfl) (by decide) hu ?_
    rintro _ _ ⟨rfl, rfl⟩
    simp only [zput_n, zput_c, List.set_cons_zero, List.set_cons_succ, Option.toList, List.nil_append, List.cons_append, xaW, xbW, xpW, xoW, xhW, xkW, dkW, obD]
    refine X_aload_n dL_law_210 rfl ?_
    refine X_arg 211 1 dL_law_211 dL_law_212 dL_law_213 (by decide) dL_law_214 dL_law_215 rfl rfl (by omega) hLL ?_
    refine X_arg 216 2 dL_law_216 dL_law_217 dL_law_218 (by decide) dL_law_219 dL_law_220 rfl rfl (by omega) hLL ?_
    refine X_callV0 (As := [.int (xs (i + 1)), .int (xs (i + 2))]) [48, 49] (s_X12_sizeN (d := 60) (by decide) h0) gL_law_X12_size dL_law_221 oX12_size rfl rfl rfl rfl (Nat.le_of_ble_eq_true rfl) (by decide) hu ?_
    rintro _ _ ⟨rfl, rfl⟩
    simp only [zput_n, zput_c, List.set_cons_zero, List.set_cons_succ, Option.toList, List.nil_append, List.cons_append, xaW, xbW, xpW, xoW, xhW, xkW, dkW, obD]
    refine X_icmp_eq 1139 dL_law_224 (by decide) (fun _ => ?_) (fun h9 => absurd rfl h9)
    exact IH _ (RelP.mk (Ls := Ls) (T := T) (pk := pk) (pv := pv) hq hB hc hL hLm hr hP hPm hk hT hG hf hTb hTp hw hwn hp hl hit)
set_option maxHeartbeats 300000 in
theorem law_add {tO bs L xr mr i : Nat} {xs : Nat → Int32} {ws : zW} {u : Nat × Nat} (hi : i + 5 ≤ L) (hLL : L ≤ 2560) (hu : u.1 ≤ 600000 ∧ u.2 ≤ 7302250) (hR : RelP xr mr ws) (IH : ∀ ws2, RelP xr mr ws2 → VX tO bs L xs u ws2 1139 [some (.ref bs), some (.ref xr), some (.ref mr), some (.int (nI i))] []) : VX tO bs L xs u ws 229 [some (.ref bs), some (.ref xr), some (.ref mr), some (.int (nI i))] [] := by
  refine hR (fun z => VX tO bs L xs u z 229 [some (.ref bs), some (.ref xr), some (.ref mr), some (.int (nI i))] []) ?_
  clear hR ws
  intro aX A q n m cut rows q2 n2 m2 ms2 mk2 mT gq gn gK gmo gmy gun fd wn kq kn kc kr kt yw cu cv ck rm mo bo ki wa wr fo W Im RX RcX Kp Vp W2 Hd2 Im2 O2 E2 RX2 Rc2 K2 V2 WT ImT OT ET Rg Fg Tb Rs Pb Ce Wb R KR P KP Od Ig Pk Lt Lk Rd Nx Tp Pa Wy Sz It B B2 BT KB Ls L2 T pk pv pk2 pv2 hq hB hc hL hLm hr hP hPm hk hT hG hf hTb hTp hw hwn hp hl hit
  refine X_aload_n dL_law_229 rfl ?_
  refine X_arg 230 1 dL_law_230 dL_law_231 dL_law_232 (by decide) dL_law_233 dL_law_234 rfl rfl (by omega) hLL ?_
  refine X_callV0 (As := [.int (xs (i + 1))]) [0, 1, 4, 5, 6, 7, 8, 9, 2, 3] (s_X11_add (d := 60) (by decide) hq hB) gL_law_X11_add dL_law_235 oX11_add rfl rfl rfl rfl (Nat.le_of_ble_eq_true rfl) (by decide) hu ?_
  rintro _ _ ⟨W', m', rfl, rfl, hB'⟩
  simp only [zput_n, zput_c, List.set_cons_zero, List.set_cons_succ, Option.toList, List.nil_append, List.cons_append, xaW, xbW, xpW, xoW, xhW, xkW, dkW, obD]
  refine X_aload_n dL_law_238 rfl ?_
  refine X_arg 239 1 dL_law_239 dL_law_240 dL_law_241 (by decide) dL_law_242 dL_law_243 rfl rfl (by omega) hLL ?_
  refine X_callV0 (As := [.int (xs (i + 1))]) [48, 49] (s_X12_add (d := 60) (by decide) hq) gL_law_X12_add dL_law_244 oX12_add rfl rfl rfl rfl (Nat.le_of_ble_eq_true rfl) (by decide) hu ?_
  rintro _ _ ⟨rfl, rfl⟩
  simp only [zput_n, zput_c, List.set_cons_zero, List.set_cons_succ, Option.toList, List.nil_append, List.cons_append, xaW, xbW, xpW, xoW, xhW, xkW, dkW, obD]
  refine X_icmp_eq 1139 dL_law_247 (by decide) (fun _ => ?_) (fun h9 => absurd rfl h9)
  exact IH _ (RelP.mk hq hB' hc hL hLm hr hP hPm hk hT hG hf hTb hTp hw hwn hp hl hit)
set_option maxHeartbeats 300000 in
theorem law_drop {tO bs L xr mr i : Nat} {xs : Nat → Int32} {ws : zW} {u : Nat × Nat} (hi : i + 5 ≤ L) (hLL : L ≤ 2560) (hu : u.1 ≤ 600000 ∧ u.2 ≤ 7302250) (hR : RelP xr mr ws) (IH : ∀ ws2, RelP xr mr ws2 → VX tO bs L xs u ws2 1139 [some (.ref bs), some (.ref xr), some (.ref mr), some (.int (nI i))] []) : VX tO bs L xs u ws 252 [some (.ref bs), some (.ref xr), some (.ref mr), some (.int (nI i))] [] := by
  refine hR (fun z => VX tO bs L xs u z 252 [some (.ref bs), some (.ref xr), some (.ref mr), some (.int (nI i))] []) ?_
  clear hR ws
  intro aX A q n m cut rows q2 n2 m2 ms2 mk2 mT gq gn gK gmo gmy gun fd wn kq kn kc kr kt yw cu cv ck rm mo bo ki wa wr fo W Im RX RcX Kp Vp W2 Hd2 Im2 O2 E2 RX2 Rc2 K2 V2 WT ImT OT ET Rg Fg Tb Rs Pb Ce Wb R KR P KP Od Ig Pk Lt Lk Rd Nx Tp Pa Wy Sz It B B2 BT KB Ls L2 T pk pv pk2 pv2 hq hB hc hL hLm hr hP hPm hk hT hG hf hTb hTp hw hwn hp hl hit
  refine X_aload_n dL_law_252 rfl ?_
  refine X_arg 253 1 dL_law_253 dL_law_254 dL_law_255 (by decide) dL_law_256 dL_law_257 rfl rfl (by omega) hLL ?_
  refine X_callV0 (As := [.int (xs (i + 1))]) [0, 1, 4, 5, 6, 7, 8, 9, 2, 3] (s_X11_drop (d := 60) (by decide) hq hB) gL_law_X11_drop dL_law_258 oX11_drop rfl rfl rfl rfl (Nat.le_of_ble_eq_true rfl) (by decide) hu ?_
  rintro _ _ ⟨W', m', rfl, rfl, hB'⟩
  simp only [zput_n, zput_c, List.set_cons_zero, List.set_cons_succ, Option.toList, List.nil_append, List.cons_append, xaW, xbW, xpW, xoW, xhW, xkW, dkW, obD]
  refine X_aload_n dL_law_261 rfl ?_
  refine X_arg 262 1 dL_law_262 dL_law_263 dL_law_264 (by decide) dL_law_265 dL_law_266 rfl rfl (by omega) hLL ?_
  refine X_callV0 (As := [.int (xs (i + 1))]) [48, 49] (s_X12_drop (d := 60) (by decide) hq) gL_law_X12_drop dL_law_267 oX12_drop rfl rfl rfl rfl (Nat.le_of_ble_eq_true rfl) (by decide) hu ?_
  rintro _ _ ⟨rfl, rfl⟩
  simp only [zput_n, zput_c, List.set_cons_zero, List.set_cons_succ, Option.toList, List.nil_append, List.cons_append, xaW, xbW, xpW, xoW, xhW, xkW, dkW, obD]
  refine X_icmp_eq 1139 dL_law_270 (by decide) (fun _ => ?_) (fun h9 => absurd rfl h9)
  exact IH _ (RelP.mk hq hB' hc hL hLm hr hP hPm hk hT hG hf hTb hTp hw hwn hp hl hit)
set_option maxHeartbeats 300000 in
theorem law_clear {tO bs L xr mr i : Nat} {xs : Nat → Int32} {ws : zW} {u : Nat × Nat} (hi : i + 5 ≤ L) (hLL : L ≤ 2560) (hu : u.1 ≤ 600000 ∧ u.2 ≤ 7302250) (hR : RelP xr mr ws) (IH : ∀ ws2, RelP xr mr ws2 → VX tO bs L xs u ws2 1139 [some (.ref bs), some (.ref xr), some (.ref mr), some (.int (nI i))] []) : VX tO bs L xs u ws 275 [some (.ref bs), some (.ref xr), some (.ref mr), some (.int (nI i))] [] := by
  refine hR (fun z => VX tO bs L xs u z 275 [some (.ref bs), some (.ref xr), some (.ref mr), some (.int (nI i))] []) ?_
  clear hR ws
  intro aX A q n m cut rows q2 n2 m2 ms2 mk2 mT gq gn gK gmo gmy gun fd wn kq kn kc kr kt yw cu cv ck rm mo bo ki wa wr fo W Im RX RcX Kp Vp W2 Hd2 Im2 O2 E2 RX2 Rc2 K2 V2 WT ImT OT ET Rg Fg Tb Rs Pb Ce Wb R KR P KP Od Ig Pk Lt Lk Rd Nx Tp Pa Wy Sz It B B2 BT KB Ls L2 T pk pv pk2 pv2 hq hB hc hL hLm hr hP hPm hk hT hG hf hTb hTp hw hwn hp hl hit
  refine X_aload_n dL_law_275 rfl ?_
  refine X_callV0 (As := []) [0, 1, 4, 5, 6, 7, 8, 9, 2, 3] (s_X11_clear (d := 60) (by decide) hq hB) gL_law_X11_clear dL_law_276 oX11_clear rfl rfl rfl rfl (Nat.le_of_ble_eq_true rfl) (by decide) hu ?_
  rintro _ _ ⟨rfl, rfl⟩
  simp only [zput_n, zput_c, List.set_cons_zero, List.set_cons_succ, Option.toList, List.nil_append, List.cons_append, xaW, xbW, xpW, xoW, xhW, xkW, dkW, obD]
  refine X_aload_n dL_law_279 rfl ?_
  refine X_callV0 (As := []) [48, 49] (s_X12_clear (d := 60) (by decide) ) gL_law_X12_clear dL_law_280 oX12_clear rfl rfl rfl rfl (Nat.le_of_ble_eq_true rfl) (by decide) hu ?_
  rintro _ _ ⟨rfl, rfl⟩
  simp only [zput_n, zput_c, List.set_cons_zero, List.set_cons_succ, Option.toList, List.nil_append, List.cons_append, xaW, xbW, xpW, xoW, xhW, xkW, dkW, obD]
  refine X_icmp_eq 1139 dL_law_283 (by decide) (fun _ => ?_) (fun h9 => absurd rfl h9)
  exact IH _ (RelP.mk hq (Bk.nil _ _) hc hL hLm hr hP hPm hk hT hG hf hTb hTp hw hwn hp hl hit)
set_option maxHeartbeats 300000 in
theorem law_word {tO bs L xr mr i : Nat} {xs : Nat → Int32} {ws : zW} {u : Nat × Nat} (hi : i + 5 ≤ L) (hLL : L ≤ 2560) (hu : u.1 ≤ 600000 ∧ u.2 ≤ 7302250) (hR : RelP xr mr ws) (IH : ∀ ws2, RelP xr mr ws2 → VX tO bs L xs u ws2 1139 [some (.ref bs), some (.ref xr), some (.ref mr), some (.int (nI i))] []) : VX tO bs L xs u ws 288 [some (.ref bs), some (.ref xr), some (.ref mr), some (.int (nI i))] [] := by
  refine hR (fun z => VX tO bs L xs u z 288 [some (.ref bs), some (.ref xr), some (.ref mr), some (.int (nI i))] []) ?_
  clear hR ws
  intro aX A q n m cut rows q2 n2 m2 ms2 mk2 mT gq gn gK gmo gmy gun fd wn kq kn kc kr kt yw cu cv ck rm mo bo ki wa wr fo W Im RX RcX Kp Vp W2 Hd2 Im2 O2 E2 RX2 Rc2 K2 V2 WT ImT OT ET Rg Fg Tb Rs Pb Ce Wb R KR P KP Od Ig Pk Lt Lk Rd Nx Tp Pa Wy Sz It B B2 BT KB Ls L2 T pk pv pk2 pv2 hq hB hc hL hLm hr hP hPm hk hT hG hf hTb hTp hw hwn hp hl hit
  refine X_aload_n dL_law_288 rfl ?_
  refine X_arg 289 1 dL_law_289 dL_law_290 dL_law_291 (by decide) dL_law_292 dL_law_293 rfl rfl (by omega) hLL ?_
  refine X_callV0 (As := [.int (xs (i + 1))]) [0, 1, 4, 5, 6, 7, 8, 9, 2, 3] (s_X11_word (d := 60) (by decide) hq hB) gL_law_X11_word dL_law_294 oX11_word rfl rfl rfl rfl (Nat.le_of_ble_eq_true rfl) (by decide) hu ?_
  rintro _ _ ⟨rfl, rfl⟩
  simp only [zput_n, zput_c, List.set_cons_zero, List.set_cons_succ, Option.toList, List.nil_append, List.cons_append, xaW, xbW, xpW, xoW, xhW, xkW, dkW, obD]
  refine X_aload_n dL_law_297 rfl ?_
  refine X_arg 298 1 dL_law_298 dL_law_299 dL_law_300 (by decide) dL_law_301 dL_law_302 rfl rfl (by omega) hLL ?_
  refine X_callV0 (As := [.int (xs (i + 1))]) [48, 49] (s_X12_word (d := 60) (by decide) ) gL_law_X12_word dL_law_303 oX12_word rfl rfl rfl rfl (Nat.le_of_ble_eq_true rfl) (by decide) hu ?_
  rintro _ _ ⟨rfl, rfl⟩
  simp only [zput_n, zput_c, List.set_cons_zero, List.set_cons_succ, Option.toList, List.nil_append, List.cons_append, xaW, xbW, xpW, xoW, xhW, xkW, dkW, obD]
  refine X_icmp_eq 1139 dL_law_306 (by decide) (fun _ => ?_) (fun h9 => absurd rfl h9)
  exact IH _ (RelP.mk hq hB hc hL hLm hr hP hPm hk hT hG hf hTb hTp hw hwn hp hl hit)
set_option maxHeartbeats 300000 in
theorem law_letter {tO bs L xr mr i : Nat} {xs : Nat → Int32} {ws : zW} {u : Nat × Nat} (hi : i + 5 ≤ L) (hLL : L ≤ 2560) (hu : u.1 ≤ 600000 ∧ u.2 ≤ 7302250) (hR : RelP xr mr ws) (IH : ∀ ws2, RelP xr mr ws2 → VX tO bs L xs u ws2 1139 [some (.ref bs), some (.ref xr), some (.ref mr), some (.int (nI i))] []) : VX tO bs L xs u ws 311 [some (.ref bs), some (.ref xr), some (.ref mr), some (.int (nI i))] [] := by
  refine hR (fun z => VX tO bs L xs u z 311 [some (.ref bs), some (.ref xr), some (.ref mr), some (.int (nI i))] []) ?_
  clear hR ws
  intro aX A q n m cut rows q2 n2 m2 ms2 mk2 mT gq gn gK gmo gmy gun fd wn kq kn kc kr kt yw cu cv ck rm mo bo ki wa wr fo W Im RX RcX Kp Vp W2 Hd2 Im2 O2 E2 RX2 Rc2 K2 V2 WT ImT OT ET Rg Fg Tb Rs Pb Ce Wb R KR P KP Od Ig Pk Lt Lk Rd Nx Tp Pa Wy Sz It B B2 BT KB Ls L2 T pk pv pk2 pv2 hq hB hc hL hLm hr hP hPm hk hT hG hf hTb hTp hw hwn hp hl hit
  refine X_aload_n dL_law_311 rfl ?_
  refine X_arg 312 1 dL_law_312 dL_law_313 dL_law_314 (by decide) dL_law_315 dL_law_316 rfl rfl (by omega) hLL ?_
  refine X_arg 317 2 dL_law_317 dL_law_318 dL_law_319 (by decide) dL_law_320 dL_law_321 rfl rfl (by omega) hLL ?_
  refine X_callV0 (As := [.int (xs (i + 1)), .int (xs (i + 2))]) [0, 1, 2, 3] (s_X11_letter (d := 60) (by decide) hq) gL_law_X11_letter dL_law_322 oX11_letter rfl rfl rfl rfl (Nat.le_of_ble_eq_true rfl) (by decide) hu ?_
  rintro _ _ ⟨rfl, rfl⟩
  simp only [zput_n, zput_c, List.set_cons_zero, List.set_cons_succ, Option.toList, List.nil_append, List.cons_append, xaW, xbW, xpW, xoW, xhW, xkW, dkW, obD]
  refine X_aload_n dL_law_325 rfl ?_
  refine X_arg 326 1 dL_law_326 dL_law_327 dL_law_328 (by decide) dL_law_329 dL_law_330 rfl rfl (by omega) hLL ?_
  refine X_arg 331 2 dL_law_331 dL_law_332 dL_law_333 (by decide) dL_law_334 dL_law_335 rfl rfl (by omega) hLL ?_
  refine X_callV0 (As := [.int (xs (i + 1)), .int (xs (i + 2))]) [48] (s_X12_letter (d := 60) (by decide) hq) gL_law_X12_letter dL_law_336 oX12_letter rfl rfl rfl rfl (Nat.le_of_ble_eq_true rfl) (by decide) hu ?_
  rintro _ _ ⟨rfl, rfl⟩
  simp only [zput_n, zput_c, List.set_cons_zero, List.set_cons_succ, Option.toList, List.nil_append, List.cons_append, xaW, xbW, xpW, xoW, xhW, xkW, dkW, obD]
  refine X_icmp_eq 1139 dL_law_339 (by decide) (fun _ => ?_) (fun h9 => absurd rfl h9)
  exact IH _ (RelP.mk hq hB hc hL hLm hr hP hPm hk hT hG hf hTb hTp hw hwn hp hl hit)
set_option maxHeartbeats 300000 in
theorem law_hides {tO bs L xr mr i : Nat} {xs : Nat → Int32} {ws : zW} {u : Nat × Nat} (hi : i + 5 ≤ L) (hLL : L ≤ 2560) (hu : u.1 ≤ 600000 ∧ u.2 ≤ 7302250) (hR : RelP xr mr ws) (IH : ∀ ws2, RelP xr mr ws2 → VX tO bs L xs u ws2 1139 [some (.ref bs), some (.ref xr), some (.ref mr), some (.int (nI i))] []) : VX tO bs L xs u ws 344 [some (.ref bs), some (.ref xr), some (.ref mr), some (.int (nI i))] [] := by
  refine hR (fun z => VX tO bs L xs u z 344 [some (.ref bs), some (.ref xr), some (.ref mr), some (.int (nI i))] []) ?_
  clear hR ws
  intro aX A q n m cut rows q2 n2 m2 ms2 mk2 mT gq gn gK gmo gmy gun fd wn kq kn kc kr kt yw cu cv ck rm mo bo ki wa wr fo W Im RX RcX Kp Vp W2 Hd2 Im2 O2 E2 RX2 Rc2 K2 V2 WT ImT OT ET Rg Fg Tb Rs Pb Ce Wb R KR P KP Od Ig Pk Lt Lk Rd Nx Tp Pa Wy Sz It B B2 BT KB Ls L2 T pk pv pk2 pv2 hq hB hc hL hLm hr hP hPm hk hT hG hf hTb hTp hw hwn hp hl hit
  refine X_aload_n dL_law_344 rfl ?_
  refine X_arg 345 1 dL_law_345 dL_law_346 dL_law_347 (by decide) dL_law_348 dL_law_349 rfl rfl (by omega) hLL ?_
  refine X_arg 350 2 dL_law_350 dL_law_351 dL_law_352 (by decide) dL_law_353 dL_law_354 rfl rfl (by omega) hLL ?_
  refine X_arg 355 3 dL_law_355 dL_law_356 dL_law_357 (by decide) dL_law_358 dL_law_359 rfl rfl (by omega) hLL ?_
  refine X_callV0 (As := [.int (xs (i + 1)), .int (xs (i + 2)), .int (xs (i + 3))]) [0, 1, 2, 3] (s_X11_hides (d := 60) (by decide) hq) gL_law_X11_hides dL_law_360 oX11_hides rfl rfl rfl rfl (Nat.le_of_ble_eq_true rfl) (by decide) hu ?_
  rintro _ _ ⟨rfl, rfl⟩
  simp only [zput_n, zput_c, List.set_cons_zero, List.set_cons_succ, Option.toList, List.nil_append, List.cons_append, xaW, xbW, xpW, xoW, xhW, xkW, dkW, obD]
  refine X_aload_n dL_law_363 rfl ?_
  refine X_arg 364 1 dL_law_364 dL_law_365 dL_law_366 (by decide) dL_law_367 dL_law_368 rfl rfl (by omega) hLL ?_
  refine X_arg 369 2 dL_law_369 dL_law_370 dL_law_371 (by decide) dL_law_372 dL_law_373 rfl rfl (by omega) hLL ?_
  refine X_arg 374 3 dL_law_374 dL_law_375 dL_law_376 (by decide) dL_law_377 dL_law_378 rfl rfl (by omega) hLL ?_
  refine X_callV0 (As := [.int (xs (i + 1)), .int (xs (i + 2)), .int (xs (i + 3))]) [48] (s_X12_hides (d := 60) (by decide) hq) gL_law_X12_hides dL_law_379 oX12_hides rfl rfl rfl rfl (Nat.le_of_ble_eq_true rfl) (by decide) hu ?_
  rintro _ _ ⟨rfl, rfl⟩
  simp only [zput_n, zput_c, List.set_cons_zero, List.set_cons_succ, Option.toList, List.nil_append, List.cons_append, xaW, xbW, xpW, xoW, xhW, xkW, dkW, obD]
  refine X_icmp_eq 1139 dL_law_382 (by decide) (fun _ => ?_) (fun h9 => absurd rfl h9)
  exact IH _ (RelP.mk hq hB hc hL hLm hr hP hPm hk hT hG hf hTb hTp hw hwn hp hl hit)
set_option maxHeartbeats 300000 in
theorem law_clash {tO bs L xr mr i : Nat} {xs : Nat → Int32} {ws : zW} {u : Nat × Nat} (hi : i + 5 ≤ L) (hLL : L ≤ 2560) (hu : u.1 ≤ 600000 ∧ u.2 ≤ 7302250) (hR : RelP xr mr ws) (IH : ∀ ws2, RelP xr mr ws2 → VX tO bs L xs u ws2 1139 [some (.ref bs), some (.ref xr), some (.ref mr), some (.int (nI i))] []) : VX tO bs L xs u ws 387 [some (.ref bs), some (.ref xr), some (.ref mr), some (.int (nI i))] [] := by
  refine hR (fun z => VX tO bs L xs u z 387 [some (.ref bs), some (.ref xr), some (.ref mr), some (.int (nI i))] []) ?_
  clear hR ws
  intro aX A q n m cut rows q2 n2 m2 ms2 mk2 mT gq gn gK gmo gmy gun fd wn kq kn kc kr kt yw cu cv ck rm mo bo ki wa wr fo W Im RX RcX Kp Vp W2 Hd2 Im2 O2 E2 RX2 Rc2 K2 V2 WT ImT OT ET Rg Fg Tb Rs Pb Ce Wb R KR P KP Od Ig Pk Lt Lk Rd Nx Tp Pa Wy Sz It B B2 BT KB Ls L2 T pk pv pk2 pv2 hq hB hc hL hLm hr hP hPm hk hT hG hf hTb hTp hw hwn hp hl hit
  refine X_aload_n dL_law_387 rfl ?_
  refine X_arg 388 1 dL_law_388 dL_law_389 dL_law_390 (by decide) dL_law_391 dL_law_392 rfl rfl (by omega) hLL ?_
  refine X_callV0 (As := [.int (xs (i + 1))]) [0, 1, 4, 5, 6, 7, 8, 9, 2, 3] (s_X11_clash (d := 60) (by decide) hq hB) gL_law_X11_clash dL_law_393 oX11_clash rfl rfl rfl rfl (Nat.le_of_ble_eq_true rfl) (by decide) hu ?_
  rintro _ _ ⟨rfl, rfl⟩
  simp only [zput_n, zput_c, List.set_cons_zero, List.set_cons_succ, Option.toList, List.nil_append, List.cons_append, xaW, xbW, xpW, xoW, xhW, xkW, dkW, obD]
  refine X_aload_n dL_law_396 rfl ?_
  refine X_arg 397 1 dL_law_397 dL_law_398 dL_law_399 (by decide) dL_law_400 dL_law_401 rfl rfl (by omega) hLL ?_
  refine X_callV0 (As := [.int (xs (i + 1))]) [48, 49] (s_X12_clash (d := 60) (by decide) hq hB.1) gL_law_X12_clash dL_law_402 oX12_clash rfl rfl rfl rfl (Nat.le_of_ble_eq_true rfl) (by decide) hu ?_
  rintro _ _ ⟨cu', cv', ck', rfl, rfl⟩
  simp only [zput_n, zput_c, List.set_cons_zero, List.set_cons_succ, Option.toList, List.nil_append, List.cons_append, xaW, xbW, xpW, xoW, xhW, xkW, dkW, obD]
  refine X_icmp_eq 1139 dL_law_405 (by decide) (fun _ => ?_) (fun h9 => absurd rfl h9)
  exact IH _ (RelP.mk hq hB hc hL hLm hr hP hPm hk hT hG hf hTb hTp hw hwn hp hl hit)
set_option maxHeartbeats 300000 in
theorem law_may {tO bs L xr mr i : Nat} {xs : Nat → Int32} {ws : zW} {u : Nat × Nat} (hi : i + 5 ≤ L) (hLL : L ≤ 2560) (hu : u.1 ≤ 600000 ∧ u.2 ≤ 7302250) (hR : RelP xr mr ws) (IH : ∀ ws2, RelP xr mr ws2 → VX tO bs L xs u ws2 1139 [some (.ref bs), some (.ref xr), some (.ref mr), some (.int (nI i))] []) : VX tO bs L xs u ws 410 [some (.ref bs), some (.ref xr), some (.ref mr), some (.int (nI i))] [] := by
  refine hR (fun z => VX tO bs L xs u z 410 [some (.ref bs), some (.ref xr), some (.ref mr), some (.int (nI i))] []) ?_
  clear hR ws
  intro aX A q n m cut rows q2 n2 m2 ms2 mk2 mT gq gn gK gmo gmy gun fd wn kq kn kc kr kt yw cu cv ck rm mo bo ki wa wr fo W Im RX RcX Kp Vp W2 Hd2 Im2 O2 E2 RX2 Rc2 K2 V2 WT ImT OT ET Rg Fg Tb Rs Pb Ce Wb R KR P KP Od Ig Pk Lt Lk Rd Nx Tp Pa Wy Sz It B B2 BT KB Ls L2 T pk pv pk2 pv2 hq hB hc hL hLm hr hP hPm hk hT hG hf hTb hTp hw hwn hp hl hit
  refine X_aload_n dL_law_410 rfl ?_
  refine X_arg 411 1 dL_law_411 dL_law_412 dL_law_413 (by decide) dL_law_414 dL_law_415 rfl rfl (by omega) hLL ?_
  refine X_callV0 (As := [.int (xs (i + 1))]) [0, 1, 4, 5, 6, 7, 8, 9, 2, 3] (s_X11_may (d := 60) (by decide) hq hB) gL_law_X11_may dL_law_416 oX11_may rfl rfl rfl rfl (Nat.le_of_ble_eq_true rfl) (by decide) hu ?_
  rintro _ _ ⟨rfl, rfl⟩
  simp only [zput_n, zput_c, List.set_cons_zero, List.set_cons_succ, Option.toList, List.nil_append, List.cons_append, xaW, xbW, xpW, xoW, xhW, xkW, dkW, obD]
  refine X_aload_n dL_law_419 rfl ?_
  refine X_arg 420 1 dL_law_420 dL_law_421 dL_law_422 (by decide) dL_law_423 dL_law_424 rfl rfl (by omega) hLL ?_
  refine X_callV0 (As := [.int (xs (i + 1))]) [48, 49] (s_X12_may (d := 60) (by decide) hq hB.1) gL_law_X12_may dL_law_425 oX12_may rfl rfl rfl rfl (Nat.le_of_ble_eq_true rfl) (by decide) hu ?_
  rintro _ _ ⟨cu', cv', ck', rfl, rfl⟩
  simp only [zput_n, zput_c, List.set_cons_zero, List.set_cons_succ, Option.toList, List.nil_append, List.cons_append, xaW, xbW, xpW, xoW, xhW, xkW, dkW, obD]
  refine X_icmp_eq 1139 dL_law_428 (by decide) (fun _ => ?_) (fun h9 => absurd rfl h9)
  exact IH _ (RelP.mk hq hB hc hL hLm hr hP hPm hk hT hG hf hTb hTp hw hwn hp hl hit)
set_option maxHeartbeats 300000 in
theorem law_mays {tO bs L xr mr i : Nat} {xs : Nat → Int32} {ws : zW} {u : Nat × Nat} (hi : i + 5 ≤ L) (hLL : L ≤ 2560) (hu : u.1 ≤ 600000 ∧ u.2 ≤ 7302250) (hR : RelP xr mr ws) (IH : ∀ ws2, RelP xr mr ws2 → VX tO bs L xs u ws2 1139 [some (.ref bs), some (.ref xr), some (.ref mr), some (.int (nI i))] []) : VX tO bs L xs u ws 433 [some (.ref bs), some (.ref xr), some (.ref mr), some (.int (nI i))] [] := by
  refine hR (fun z => VX tO bs L xs u z 433 [some (.ref bs), some (.ref xr), some (.ref mr), some (.int (nI i))] []) ?_
  clear hR ws
  intro aX A q n m cut rows q2 n2 m2 ms2 mk2 mT gq gn gK gmo gmy gun fd wn kq kn kc kr kt yw cu cv ck rm mo bo ki wa wr fo W Im RX RcX Kp Vp W2 Hd2 Im2 O2 E2 RX2 Rc2 K2 V2 WT ImT OT ET Rg Fg Tb Rs Pb Ce Wb R KR P KP Od Ig Pk Lt Lk Rd Nx Tp Pa Wy Sz It B B2 BT KB Ls L2 T pk pv pk2 pv2 hq hB hc hL hLm hr hP hPm hk hT hG hf hTb hTp hw hwn hp hl hit
  refine X_aload_n dL_law_433 rfl ?_
  refine X_arg 434 1 dL_law_434 dL_law_435 dL_law_436 (by decide) dL_law_437 dL_law_438 rfl rfl (by omega) hLL ?_
  refine X_callV0 (As := [.int (xs (i + 1))]) [0, 1, 4, 5, 6, 7, 8, 9, 2, 3] (s_X11_mays (d := 60) (by decide) hq hB) gL_law_X11_mays dL_law_439 oX11_mays rfl rfl rfl rfl (Nat.le_of_ble_eq_true rfl) (by decide) hu ?_
  rintro _ _ ⟨rfl, rfl⟩
  simp only [zput_n, zput_c, List.set_cons_zero, List.set_cons_succ, Option.toList, List.nil_append, List.cons_append, xaW, xbW, xpW, xoW, xhW, xkW, dkW, obD]
  refine X_aload_n dL_law_442 rfl ?_
  refine X_arg 443 1 dL_law_443 dL_law_444 dL_law_445 (by decide) dL_law_446 dL_law_447 rfl rfl (by omega) hLL ?_
  refine X_callV0 (As := [.int (xs (i + 1))]) [48, 49] (s_X12_mays (d := 60) (by decide) hq hB.1) gL_law_X12_mays dL_law_448 oX12_mays rfl rfl rfl rfl (Nat.le_of_ble_eq_true rfl) (by decide) hu ?_
  rintro _ _ ⟨cu', cv', ck', rfl, rfl⟩
  simp only [zput_n, zput_c, List.set_cons_zero, List.set_cons_succ, Option.toList, List.nil_append, List.cons_append, xaW, xbW, xpW, xoW, xhW, xkW, dkW, obD]
  refine X_icmp_eq 1139 dL_law_451 (by decide) (fun _ => ?_) (fun h9 => absurd rfl h9)
  exact IH _ (RelP.mk hq hB hc hL hLm hr hP hPm hk hT hG hf hTb hTp hw hwn hp hl hit)
set_option maxHeartbeats 300000 in
theorem law_ring {tO bs L xr mr i : Nat} {xs : Nat → Int32} {ws : zW} {u : Nat × Nat} (hi : i + 5 ≤ L) (hLL : L ≤ 2560) (hu : u.1 ≤ 600000 ∧ u.2 ≤ 7302250) (hR : RelP xr mr ws) (IH : ∀ ws2, RelP xr mr ws2 → VX tO bs L xs u ws2 1139 [some (.ref bs), some (.ref xr), some (.ref mr), some (.int (nI i))] []) : VX tO bs L xs u ws 456 [some (.ref bs), some (.ref xr), some (.ref mr), some (.int (nI i))] [] := by
  refine hR (fun z => VX tO bs L xs u z 456 [some (.ref bs), some (.ref xr), some (.ref mr), some (.int (nI i))] []) ?_
  clear hR ws
  intro aX A q n m cut rows q2 n2 m2 ms2 mk2 mT gq gn gK gmo gmy gun fd wn kq kn kc kr kt yw cu cv ck rm mo bo ki wa wr fo W Im RX RcX Kp Vp W2 Hd2 Im2 O2 E2 RX2 Rc2 K2 V2 WT ImT OT ET Rg Fg Tb Rs Pb Ce Wb R KR P KP Od Ig Pk Lt Lk Rd Nx Tp Pa Wy Sz It B B2 BT KB Ls L2 T pk pv pk2 pv2 hq hB hc hL hLm hr hP hPm hk hT hG hf hTb hTp hw hwn hp hl hit
  refine X_aload_n dL_law_456 rfl ?_
  refine X_arg 457 1 dL_law_457 dL_law_458 dL_law_459 (by decide) dL_law_460 dL_law_461 rfl rfl (by omega) hLL ?_
  refine X_arg 462 2 dL_law_462 dL_law_463 dL_law_464 (by decide) dL_law_465 dL_law_466 rfl rfl (by omega) hLL ?_
  refine X_callV0 (As := [.int (xs (i + 1)), .int (xs (i + 2))]) [0, 1, 2, 3] (s_X11_ring (d := 60) (by decide) hq) gL_law_X11_ring dL_law_467 oX11_ring rfl rfl rfl rfl (Nat.le_of_ble_eq_true rfl) (by decide) hu ?_
  rintro _ _ ⟨rfl, rfl⟩
  simp only [zput_n, zput_c, List.set_cons_zero, List.set_cons_succ, Option.toList, List.nil_append, List.cons_append, xaW, xbW, xpW, xoW, xhW, xkW, dkW, obD]
  refine X_aload_n dL_law_470 rfl ?_
  refine X_arg 471 1 dL_law_471 dL_law_472 dL_law_473 (by decide) dL_law_474 dL_law_475 rfl rfl (by omega) hLL ?_
  refine X_arg 476 2 dL_law_476 dL_law_477 dL_law_478 (by decide) dL_law_479 dL_law_480 rfl rfl (by omega) hLL ?_
  refine X_callV0 (As := [.int (xs (i + 1)), .int (xs (i + 2))]) [48] (s_X12_ring (d := 60) (by decide) hq) gL_law_X12_ring dL_law_481 oX12_ring rfl rfl rfl rfl (Nat.le_of_ble_eq_true rfl) (by decide) hu ?_
  rintro _ _ ⟨rfl, rfl⟩
  simp only [zput_n, zput_c, List.set_cons_zero, List.set_cons_succ, Option.toList, List.nil_append, List.cons_append, xaW, xbW, xpW, xoW, xhW, xkW, dkW, obD]
  refine X_icmp_eq 1139 dL_law_484 (by decide) (fun _ => ?_) (fun h9 => absurd rfl h9)
  exact IH _ (RelP.mk hq hB hc hL hLm hr hP hPm hk hT hG hf hTb hTp hw hwn hp hl hit)
set_option maxHeartbeats 300000 in
theorem law_bound {tO bs L xr mr i : Nat} {xs : Nat → Int32} {ws : zW} {u : Nat × Nat} (hi : i + 5 ≤ L) (hLL : L ≤ 2560) (hu : u.1 ≤ 600000 ∧ u.2 ≤ 7302250) (hR : RelP xr mr ws) (IH : ∀ ws2, RelP xr mr ws2 → VX tO bs L xs u ws2 1139 [some (.ref bs), some (.ref xr), some (.ref mr), some (.int (nI i))] []) : VX tO bs L xs u ws 489 [some (.ref bs), some (.ref xr), some (.ref mr), some (.int (nI i))] [] := by
  refine hR (fun z => VX tO bs L xs u z 489 [some (.ref bs), some (.ref xr), some (.ref mr), some (.int (nI i))] []) ?_
  clear hR ws
  intro aX A q n m cut rows q2 n2 m2 ms2 mk2 mT gq gn gK gmo gmy gun fd wn kq kn kc kr kt yw cu cv ck rm mo bo ki wa wr fo W Im RX RcX Kp Vp W2 Hd2 Im2 O2 E2 RX2 Rc2 K2 V2 WT ImT OT ET Rg Fg Tb Rs Pb Ce Wb R KR P KP Od Ig Pk Lt Lk Rd Nx Tp Pa Wy Sz It B B2 BT KB Ls L2 T pk pv pk2 pv2 hq hB hc hL hLm hr hP hPm hk hT hG hf hTb hTp hw hwn hp hl hit
  refine X_aload_n dL_law_489 rfl ?_
  refine X_arg 490 1 dL_law_490 dL_law_491 dL_law_492 (by decide) dL_law_493 dL_law_494 rfl rfl (by omega) hLL ?_
  refine X_callV0 (As := [.int (xs (i + 1))]) [0, 1, 2, 3] (s_X11_bound (d := 60) (by decide) hq) gL_law_X11_bound dL_law_495 oX11_bound rfl rfl rfl rfl (Nat.le_of_ble_eq_true rfl) (by decide) hu ?_
  rintro _ _ ⟨rfl, rfl⟩
  simp only [zput_n, zput_c, List.set_cons_zero, List.set_cons_succ, Option.toList, List.nil_append, List.cons_append, xaW, xbW, xpW, xoW, xhW, xkW, dkW, obD]
  refine X_aload_n dL_law_498 rfl ?_
  refine X_arg 499 1 dL_law_499 dL_law_500 dL_law_501 (by decide) dL_law_502 dL_law_503 rfl rfl (by omega) hLL ?_
  refine X_callV0 (As := [.int (xs (i + 1))]) [48] (s_X12_bound (d := 60) (by decide) hq) gL_law_X12_bound dL_law_504 oX12_bound rfl rfl rfl rfl (Nat.le_of_ble_eq_true rfl) (by decide) hu ?_
  rintro _ _ ⟨rfl, rfl⟩
  simp only [zput_n, zput_c, List.set_cons_zero, List.set_cons_succ, Option.toList, List.nil_append, List.cons_append, xaW, xbW, xpW, xoW, xhW, xkW, dkW, obD]
  refine X_icmp_eq 1139 dL_law_507 (by decide) (fun _ => ?_) (fun h9 => absurd rfl h9)
  exact IH _ (RelP.mk hq hB hc hL hLm hr hP hPm hk hT hG hf hTb hTp hw hwn hp hl hit)
set_option maxHeartbeats 300000 in
theorem law_great {tO bs L xr mr i : Nat} {xs : Nat → Int32} {ws : zW} {u : Nat × Nat} (hi : i + 5 ≤ L) (hLL : L ≤ 2560) (hu : u.1 ≤ 600000 ∧ u.2 ≤ 7302250) (hR : RelP xr mr ws) (IH : ∀ ws2, RelP xr mr ws2 → VX tO bs L xs u ws2 1139 [some (.ref bs), some (.ref xr), some (.ref mr), some (.int (nI i))] []) : VX tO bs L xs u ws 512 [some (.ref bs), some (.ref xr), some (.ref mr), some (.int (nI i))] [] := by
  refine hR (fun z => VX tO bs L xs u z 512 [some (.ref bs), some (.ref xr), some (.ref mr), some (.int (nI i))] []) ?_
  clear hR ws
  intro aX A q n m cut rows q2 n2 m2 ms2 mk2 mT gq gn gK gmo gmy gun fd wn kq kn kc kr kt yw cu cv ck rm mo bo ki wa wr fo W Im RX RcX Kp Vp W2 Hd2 Im2 O2 E2 RX2 Rc2 K2 V2 WT ImT OT ET Rg Fg Tb Rs Pb Ce Wb R KR P KP Od Ig Pk Lt Lk Rd Nx Tp Pa Wy Sz It B B2 BT KB Ls L2 T pk pv pk2 pv2 hq hB hc hL hLm hr hP hPm hk hT hG hf hTb hTp hw hwn hp hl hit
  refine X_aload_n dL_law_512 rfl ?_
  refine X_arg 513 1 dL_law_513 dL_law_514 dL_law_515 (by decide) dL_law_516 dL_law_517 rfl rfl (by omega) hLL ?_
  refine X_arg 518 2 dL_law_518 dL_law_519 dL_law_520 (by decide) dL_law_521 dL_law_522 rfl rfl (by omega) hLL ?_
  refine X_callV0 (As := [.int (xs (i + 1)), .int (xs (i + 2))]) [0, 37, 38, 39, 31, 32, 33, 34, 35, 36, 2, 3, 1] (s_X11_great (d := 60) (by decide) hq (Nat.le_refl 256) hT hG) gL_law_X11_great dL_law_523 oX11_great rfl rfl rfl rfl (Nat.le_of_ble_eq_true rfl) (by decide) hu ?_
  rintro _ _ ⟨qo', no', K', mo', my', un', Rg', F', mT', WT', BT', OT', ET', rfl, rfl, hT', hG'⟩
  simp only [zput_n, zput_c, List.set_cons_zero, List.set_cons_succ, Option.toList, List.nil_append, List.cons_append, xaW, xbW, xpW, xoW, xhW, xkW, dkW, obD]
  refine X_aload_n dL_law_526 rfl ?_
  refine X_arg 527 1 dL_law_527 dL_law_528 dL_law_529 (by decide) dL_law_530 dL_law_531 rfl rfl (by omega) hLL ?_
  refine X_arg 532 2 dL_law_532 dL_law_533 dL_law_534 (by decide) dL_law_535 dL_law_536 rfl rfl (by omega) hLL ?_
  refine X_callV0 (As := [.int (xs (i + 1)), .int (xs (i + 2))]) [48, 49, 51, 56, 58, 59] (s_X12_great (d := 60) (by decide) hq) gL_law_X12_great dL_law_537 oX12_great rfl rfl rfl rfl (Nat.le_of_ble_eq_true rfl) (by decide) hu ?_
  rintro _ _ ⟨Wb', Od', Pk', Lt', cu', cv', ck', rm', mo'', bo', ki', wa', wr', fo', rfl, rfl⟩
  simp only [zput_n, zput_c, List.set_cons_zero, List.set_cons_succ, Option.toList, List.nil_append, List.cons_append, xaW, xbW, xpW, xoW, xhW, xkW, dkW, obD]
  refine X_icmp_eq 1139 dL_law_540 (by decide) (fun _ => ?_) (fun h9 => absurd rfl h9)
  exact IH _ (RelP.mk hq hB hc hL hLm hr hP hPm hk hT' hG' hf hTb hTp hw hwn hp hl hit)
set_option maxHeartbeats 300000 in
theorem law_swapped {tO bs L xr mr i : Nat} {xs : Nat → Int32} {ws : zW} {u : Nat × Nat} (hi : i + 5 ≤ L) (hLL : L ≤ 2560) (hu : u.1 ≤ 600000 ∧ u.2 ≤ 7302250) (hR : RelP xr mr ws) (IH : ∀ ws2, RelP xr mr ws2 → VX tO bs L xs u ws2 1139 [some (.ref bs), some (.ref xr), some (.ref mr), some (.int (nI i))] []) : VX tO bs L xs u ws 545 [some (.ref bs), some (.ref xr), some (.ref mr), some (.int (nI i))] [] := by
  refine hR (fun z => VX tO bs L xs u z 545 [some (.ref bs), some (.ref xr), some (.ref mr), some (.int (nI i))] []) ?_
  clear hR ws
  intro aX A q n m cut rows q2 n2 m2 ms2 mk2 mT gq gn gK gmo gmy gun fd wn kq kn kc kr kt yw cu cv ck rm mo bo ki wa wr fo W Im RX RcX Kp Vp W2 Hd2 Im2 O2 E2 RX2 Rc2 K2 V2 WT ImT OT ET Rg Fg Tb Rs Pb Ce Wb R KR P KP Od Ig Pk Lt Lk Rd Nx Tp Pa Wy Sz It B B2 BT KB Ls L2 T pk pv pk2 pv2 hq hB hc hL hLm hr hP hPm hk hT hG hf hTb hTp hw hwn hp hl hit
  refine X_aload_n dL_law_545 rfl ?_
  refine X_arg 546 1 dL_law_546 dL_law_547 dL_law_548 (by decide) dL_law_549 dL_law_550 rfl rfl (by omega) hLL ?_
  refine X_arg 551 2 dL_law_551 dL_law_552 dL_law_553 (by decide) dL_law_554 dL_law_555 rfl rfl (by omega) hLL ?_
  refine X_callV0 (As := [.int (xs (i + 1)), .int (xs (i + 2))]) [0, 1, 2, 3] (s_X11_swapped (d := 60) (by decide) hq) gL_law_X11_swapped dL_law_556 oX11_swapped rfl rfl rfl rfl (Nat.le_of_ble_eq_true rfl) (by decide) hu ?_
  rintro _ _ ⟨rfl, rfl⟩
  simp only [zput_n, zput_c, List.set_cons_zero, List.set_cons_succ, Option.toList, List.nil_append, List.cons_append, xaW, xbW, xpW, xoW, xhW, xkW, dkW, obD]
  refine X_aload_n dL_law_559 rfl ?_
  refine X_arg 560 1 dL_law_560 dL_law_561 dL_law_562 (by decide) dL_law_563 dL_law_564 rfl rfl (by omega) hLL ?_
  refine X_arg 565 2 dL_law_565 dL_law_566 dL_law_567 (by decide) dL_law_568 dL_law_569 rfl rfl (by omega) hLL ?_
  refine X_callV0 (As := [.int (xs (i + 1)), .int (xs (i + 2))]) [48, 56] (s_X12_swapped (d := 60) (by decide) hq) gL_law_X12_swapped dL_law_570 oX12_swapped rfl rfl rfl rfl (Nat.le_of_ble_eq_true rfl) (by decide) hu ?_
  rintro _ _ ⟨Od', rfl, rfl⟩
  simp only [zput_n, zput_c, List.set_cons_zero, List.set_cons_succ, Option.toList, List.nil_append, List.cons_append, xaW, xbW, xpW, xoW, xhW, xkW, dkW, obD]
  refine X_icmp_eq 1139 dL_law_573 (by decide) (fun _ => ?_) (fun h9 => absurd rfl h9)
  exact IH _ (RelP.mk hq hB hc hL hLm hr hP hPm hk hT hG hf hTb hTp hw hwn hp hl hit)
set_option maxHeartbeats 300000 in
theorem law_swap {tO bs L xr mr i : Nat} {xs : Nat → Int32} {ws : zW} {u : Nat × Nat} (hi : i + 5 ≤ L) (hLL : L ≤ 2560) (hu : u.1 ≤ 600000 ∧ u.2 ≤ 7302250) (hR : RelP xr mr ws) (IH : ∀ ws2, RelP xr mr ws2 → VX tO bs L xs u ws2 1139 [some (.ref bs), some (.ref xr), some (.ref mr), some (.int (nI i))] []) : VX tO bs L xs u ws 578 [some (.ref bs), some (.ref xr), some (.ref mr), some (.int (nI i))] [] := by
  refine hR (fun z => VX tO bs L xs u z 578 [some (.ref bs), some (.ref xr), some (.ref mr), some (.int (nI i))] []) ?_
  clear hR ws
  intro aX A q n m cut rows q2 n2 m2 ms2 mk2 mT gq gn gK gmo gmy gun fd wn kq kn kc kr kt yw cu cv ck rm mo bo ki wa wr fo W Im RX RcX Kp Vp W2 Hd2 Im2 O2 E2 RX2 Rc2 K2 V2 WT ImT OT ET Rg Fg Tb Rs Pb Ce Wb R KR P KP Od Ig Pk Lt Lk Rd Nx Tp Pa Wy Sz It B B2 BT KB Ls L2 T pk pv pk2 pv2 hq hB hc hL hLm hr hP hPm hk hT hG hf hTb hTp hw hwn hp hl hit
  refine X_aload_n dL_law_578 rfl ?_
  refine X_arg 579 1 dL_law_579 dL_law_580 dL_law_581 (by decide) dL_law_582 dL_law_583 rfl rfl (by omega) hLL ?_
  refine X_callV0 (As := [.int (xs (i + 1))]) [0, 1, 4, 5, 6, 7, 8, 9, 2, 3] (s_X11_swap (d := 60) (by decide) hq hB) gL_law_X11_swap dL_law_584 oX11_swap rfl rfl rfl rfl (Nat.le_of_ble_eq_true rfl) (by decide) hu ?_
  rintro _ _ ⟨W', m', Im', rfl, rfl, hB'⟩
  simp only [zput_n, zput_c, List.set_cons_zero, List.set_cons_succ, Option.toList, List.nil_append, List.cons_append, xaW, xbW, xpW, xoW, xhW, xkW, dkW, obD]
  refine X_aload_n dL_law_587 rfl ?_
  refine X_arg 588 1 dL_law_588 dL_law_589 dL_law_590 (by decide) dL_law_591 dL_law_592 rfl rfl (by omega) hLL ?_
  refine X_callV0 (As := [.int (xs (i + 1))]) [48, 49, 56, 57] (s_X12_swap (d := 60) (by decide) hq hB.1) gL_law_X12_swap dL_law_593 oX12_swap rfl rfl rfl rfl (Nat.le_of_ble_eq_true rfl) (by decide) hu ?_
  rintro _ _ ⟨Od', Ig', rfl, rfl⟩
  simp only [zput_n, zput_c, List.set_cons_zero, List.set_cons_succ, Option.toList, List.nil_append, List.cons_append, xaW, xbW, xpW, xoW, xhW, xkW, dkW, obD]
  refine X_icmp_eq 1139 dL_law_596 (by decide) (fun _ => ?_) (fun h9 => absurd rfl h9)
  exact IH _ (RelP.mk hq hB' hc hL hLm hr hP hPm hk hT hG hf hTb hTp hw hwn hp hl hit)
set_option maxHeartbeats 300000 in
theorem law_keeps {tO bs L xr mr i : Nat} {xs : Nat → Int32} {ws : zW} {u : Nat × Nat} (hi : i + 5 ≤ L) (hLL : L ≤ 2560) (hu : u.1 ≤ 600000 ∧ u.2 ≤ 7302250) (hR : RelP xr mr ws) (IH : ∀ ws2, RelP xr mr ws2 → VX tO bs L xs u ws2 1139 [some (.ref bs), some (.ref xr), some (.ref mr), some (.int (nI i))] []) : VX tO bs L xs u ws 601 [some (.ref bs), some (.ref xr), some (.ref mr), some (.int (nI i))] [] := by
  refine hR (fun z => VX tO bs L xs u z 601 [some (.ref bs), some (.ref xr), some (.ref mr), some (.int (nI i))] []) ?_
  clear hR ws
  intro aX A q n m cut rows q2 n2 m2 ms2 mk2 mT gq gn gK gmo gmy gun fd wn kq kn kc kr kt yw cu cv ck rm mo bo ki wa wr fo W Im RX RcX Kp Vp W2 Hd2 Im2 O2 E2 RX2 Rc2 K2 V2 WT ImT OT ET Rg Fg Tb Rs Pb Ce Wb R KR P KP Od Ig Pk Lt Lk Rd Nx Tp Pa Wy Sz It B B2 BT KB Ls L2 T pk pv pk2 pv2 hq hB hc hL hLm hr hP hPm hk hT hG hf hTb hTp hw hwn hp hl hit
  refine X_aload_n dL_law_601 rfl ?_
  refine X_arg 602 1 dL_law_602 dL_law_603 dL_law_604 (by decide) dL_law_605 dL_law_606 rfl rfl (by omega) hLL ?_
  refine X_callV0 (As := [.int (xs (i + 1))]) [0, 1, 4, 5, 6, 7, 8, 9, 2, 3] (s_X11_keeps (d := 60) (by decide) hq hB) gL_law_X11_keeps dL_law_607 oX11_keeps rfl rfl rfl rfl (Nat.le_of_ble_eq_true rfl) (by decide) hu ?_
  rintro _ _ ⟨rfl, rfl⟩
  simp only [zput_n, zput_c, List.set_cons_zero, List.set_cons_succ, Option.toList, List.nil_append, List.cons_append, xaW, xbW, xpW, xoW, xhW, xkW, dkW, obD]
  refine X_aload_n dL_law_610 rfl ?_
  refine X_arg 611 1 dL_law_611 dL_law_612 dL_law_613 (by decide) dL_law_614 dL_law_615 rfl rfl (by omega) hLL ?_
  refine X_callV0 (As := [.int (xs (i + 1))]) [48, 49, 56, 57] (s_X12_keeps (d := 60) (by decide) hq hB.1) gL_law_X12_keeps dL_law_616 oX12_keeps rfl rfl rfl rfl (Nat.le_of_ble_eq_true rfl) (by decide) hu ?_
  rintro _ _ ⟨Od', Ig', rfl, rfl⟩
  simp only [zput_n, zput_c, List.set_cons_zero, List.set_cons_succ, Option.toList, List.nil_append, List.cons_append, xaW, xbW, xpW, xoW, xhW, xkW, dkW, obD]
  refine X_icmp_eq 1139 dL_law_619 (by decide) (fun _ => ?_) (fun h9 => absurd rfl h9)
  exact IH _ (RelP.mk hq hB hc hL hLm hr hP hPm hk hT hG hf hTb hTp hw hwn hp hl hit)
set_option maxHeartbeats 300000 in
theorem law_cast {tO bs L xr mr i : Nat} {xs : Nat → Int32} {ws : zW} {u : Nat × Nat} (hi : i + 5 ≤ L) (hLL : L ≤ 2560) (hu : u.1 ≤ 600000 ∧ u.2 ≤ 7302250) (hR : RelP xr mr ws) (IH : ∀ ws2, RelP xr mr ws2 → VX tO bs L xs u ws2 1139 [some (.ref bs), some (.ref xr), some (.ref mr), some (.int (nI i))] []) : VX tO bs L xs u ws 624 [some (.ref bs), some (.ref xr), some (.ref mr), some (.int (nI i))] [] := by
  refine hR (fun z => VX tO bs L xs u z 624 [some (.ref bs), some (.ref xr), some (.ref mr), some (.int (nI i))] []) ?_
  clear hR ws
  intro aX A q n m cut rows q2 n2 m2 ms2 mk2 mT gq gn gK gmo gmy gun fd wn kq kn kc kr kt yw cu cv ck rm mo bo ki wa wr fo W Im RX RcX Kp Vp W2 Hd2 Im2 O2 E2 RX2 Rc2 K2 V2 WT ImT OT ET Rg Fg Tb Rs Pb Ce Wb R KR P KP Od Ig Pk Lt Lk Rd Nx Tp Pa Wy Sz It B B2 BT KB Ls L2 T pk pv pk2 pv2 hq hB hc hL hLm hr hP hPm hk hT hG hf hTb hTp hw hwn hp hl hit
  refine X_aload_n dL_law_624 rfl ?_
  refine X_arg 625 1 dL_law_625 dL_law_626 dL_law_627 (by decide) dL_law_628 dL_law_629 rfl rfl (by omega) hLL ?_
  refine X_callV0 (As := [.int (xs (i + 1))]) [0, 1, 10, 11, 2, 3] (s_X11_cast (d := 60) (by decide) hq hc hL) gL_law_X11_cast dL_law_630 oX11_cast rfl rfl rfl rfl (Nat.le_of_ble_eq_true rfl) (by decide) hu ?_
  rintro _ _ ⟨R', rfl, rfl, hL'⟩
  simp only [zput_n, zput_c, List.set_cons_zero, List.set_cons_succ, Option.toList, List.nil_append, List.cons_append, xaW, xbW, xpW, xoW, xhW, xkW, dkW, obD]
  refine X_aload_n dL_law_633 rfl ?_
  refine X_arg 634 1 dL_law_634 dL_law_635 dL_law_636 (by decide) dL_law_637 dL_law_638 rfl rfl (by omega) hLL ?_
  refine X_callV0 (As := [.int (xs (i + 1))]) [48, 52] (s_X12_cast (d := 60) (by decide) hq hc hLm) gL_law_X12_cast dL_law_639 oX12_cast rfl rfl rfl rfl (Nat.le_of_ble_eq_true rfl) (by decide) hu ?_
  rintro _ _ ⟨R'', rfl, rfl, hLm'⟩
  simp only [zput_n, zput_c, List.set_cons_zero, List.set_cons_succ, Option.toList, List.nil_append, List.cons_append, xaW, xbW, xpW, xoW, xhW, xkW, dkW, obD]
  refine X_icmp_eq 1139 dL_law_642 (by decide) (fun _ => ?_) (fun h9 => absurd rfl h9)
  exact IH _ (RelP.mk hq hB (caN_le hc) hL' hLm' hr hP hPm hk hT hG hf hTb hTp hw hwn hp hl hit)
set_option maxHeartbeats 300000 in
theorem law_spell {tO bs L xr mr i : Nat} {xs : Nat → Int32} {ws : zW} {u : Nat × Nat} (hi : i + 5 ≤ L) (hLL : L ≤ 2560) (hu : u.1 ≤ 600000 ∧ u.2 ≤ 7302250) (hR : RelP xr mr ws) (IH : ∀ ws2, RelP xr mr ws2 → VX tO bs L xs u ws2 1139 [some (.ref bs), some (.ref xr), some (.ref mr), some (.int (nI i))] []) : VX tO bs L xs u ws 647 [some (.ref bs), some (.ref xr), some (.ref mr), some (.int (nI i))] [] := by
  refine hR (fun z => VX tO bs L xs u z 647 [some (.ref bs), some (.ref xr), some (.ref mr), some (.int (nI i))] []) ?_
  clear hR ws
  intro aX A q n m cut rows q2 n2 m2 ms2 mk2 mT gq gn gK gmo gmy gun fd wn kq kn kc kr kt yw cu cv ck rm mo bo ki wa wr fo W Im RX RcX Kp Vp W2 Hd2 Im2 O2 E2 RX2 Rc2 K2 V2 WT ImT OT ET Rg Fg Tb Rs Pb Ce Wb R KR P KP Od Ig Pk Lt Lk Rd Nx Tp Pa Wy Sz It B B2 BT KB Ls L2 T pk pv pk2 pv2 hq hB hc hL hLm hr hP hPm hk hT hG hf hTb hTp hw hwn hp hl hit
  refine X_aload_n dL_law_647 rfl ?_
  refine X_arg 648 1 dL_law_648 dL_law_649 dL_law_650 (by decide) dL_law_651 dL_law_652 rfl rfl (by omega) hLL ?_
  refine X_callV0 (As := [.int (xs (i + 1))]) [0, 1, 10, 11, 2, 3] (s_X11_spell (d := 60) (by decide) hq hc hL) gL_law_X11_spell dL_law_653 oX11_spell rfl rfl rfl rfl (Nat.le_of_ble_eq_true rfl) (by decide) hu ?_
  rintro _ _ ⟨R', rfl, rfl, hL'⟩
  simp only [zput_n, zput_c, List.set_cons_zero, List.set_cons_succ, Option.toList, List.nil_append, List.cons_append, xaW, xbW, xpW, xoW, xhW, xkW, dkW, obD]
  refine X_aload_n dL_law_656 rfl ?_
  refine X_arg 657 1 dL_law_657 dL_law_658 dL_law_659 (by decide) dL_law_660 dL_law_661 rfl rfl (by omega) hLL ?_
  refine X_callV0 (As := [.int (xs (i + 1))]) [48, 52] (s_X12_spell (d := 60) (by decide) hq hc hLm) gL_law_X12_spell dL_law_662 oX12_spell rfl rfl rfl rfl (Nat.le_of_ble_eq_true rfl) (by decide) hu ?_
  rintro _ _ ⟨R'', rfl, rfl, hLm'⟩
  simp only [zput_n, zput_c, List.set_cons_zero, List.set_cons_succ, Option.toList, List.nil_append, List.cons_append, xaW, xbW, xpW, xoW, xhW, xkW, dkW, obD]
  refine X_icmp_eq 1139 dL_law_665 (by decide) (fun _ => ?_) (fun h9 => absurd rfl h9)
  exact IH _ (RelP.mk hq hB (seN_le hc) hL' hLm' hr hP hPm hk hT hG hf hTb hTp hw hwn hp hl hit)
set_option maxHeartbeats 300000 in
theorem law_tear {tO bs L xr mr i : Nat} {xs : Nat → Int32} {ws : zW} {u : Nat × Nat} (hi : i + 5 ≤ L) (hLL : L ≤ 2560) (hu : u.1 ≤ 600000 ∧ u.2 ≤ 7302250) (hR : RelP xr mr ws) (IH : ∀ ws2, RelP xr mr ws2 → VX tO bs L xs u ws2 1139 [some (.ref bs), some (.ref xr), some (.ref mr), some (.int (nI i))] []) : VX tO bs L xs u ws 670 [some (.ref bs), some (.ref xr), some (.ref mr), some (.int (nI i))] [] := by
  refine hR (fun z => VX tO bs L xs u z 670 [some (.ref bs), some (.ref xr), some (.ref mr), some (.int (nI i))] []) ?_
  clear hR ws
  intro aX A q n m cut rows q2 n2 m2 ms2 mk2 mT gq gn gK gmo gmy gun fd wn kq kn kc kr kt yw cu cv ck rm mo bo ki wa wr fo W Im RX RcX Kp Vp W2 Hd2 Im2 O2 E2 RX2 Rc2 K2 V2 WT ImT OT ET Rg Fg Tb Rs Pb Ce Wb R KR P KP Od Ig Pk Lt Lk Rd Nx Tp Pa Wy Sz It B B2 BT KB Ls L2 T pk pv pk2 pv2 hq hB hc hL hLm hr hP hPm hk hT hG hf hTb hTp hw hwn hp hl hit
  refine X_aload_n dL_law_670 rfl ?_
  refine X_arg 671 1 dL_law_671 dL_law_672 dL_law_673 (by decide) dL_law_674 dL_law_675 rfl rfl (by omega) hLL ?_
  refine X_callV0 (As := [.int (xs (i + 1))]) [0, 1, 10, 11] (s_X11_tear (d := 60) (by decide) hc hL) gL_law_X11_tear dL_law_676 oX11_tear rfl rfl rfl rfl (Nat.le_of_ble_eq_true rfl) (by decide) hu ?_
  rintro _ _ ⟨R', rfl, rfl, hL'⟩
  simp only [zput_n, zput_c, List.set_cons_zero, List.set_cons_succ, Option.toList, List.nil_append, List.cons_append, xaW, xbW, xpW, xoW, xhW, xkW, dkW, obD]
  refine X_aload_n dL_law_679 rfl ?_
  refine X_arg 680 1 dL_law_680 dL_law_681 dL_law_682 (by decide) dL_law_683 dL_law_684 rfl rfl (by omega) hLL ?_
  refine X_callV0 (As := [.int (xs (i + 1))]) [48, 52] (s_X12_tear (d := 60) (by decide) hc hLm) gL_law_X12_tear dL_law_685 oX12_tear rfl rfl rfl rfl (Nat.le_of_ble_eq_true rfl) (by decide) hu ?_
  rintro _ _ ⟨R'', rfl, rfl, hLm'⟩
  simp only [zput_n, zput_c, List.set_cons_zero, List.set_cons_succ, Option.toList, List.nil_append, List.cons_append, xaW, xbW, xpW, xoW, xhW, xkW, dkW, obD]
  refine X_icmp_eq 1139 dL_law_688 (by decide) (fun _ => ?_) (fun h9 => absurd rfl h9)
  exact IH _ (RelP.mk hq hB (tnN_le hc) hL' hLm' hr hP hPm hk hT hG hf hTb hTp hw hwn hp hl hit)
set_option maxHeartbeats 300000 in
theorem law_possible {tO bs L xr mr i : Nat} {xs : Nat → Int32} {ws : zW} {u : Nat × Nat} (hi : i + 5 ≤ L) (hLL : L ≤ 2560) (hu : u.1 ≤ 600000 ∧ u.2 ≤ 7302250) (hR : RelP xr mr ws) (IH : ∀ ws2, RelP xr mr ws2 → VX tO bs L xs u ws2 1139 [some (.ref bs), some (.ref xr), some (.ref mr), some (.int (nI i))] []) : VX tO bs L xs u ws 693 [some (.ref bs), some (.ref xr), some (.ref mr), some (.int (nI i))] [] := by
  refine hR (fun z => VX tO bs L xs u z 693 [some (.ref bs), some (.ref xr), some (.ref mr), some (.int (nI i))] []) ?_
  clear hR ws
  intro aX A q n m cut rows q2 n2 m2 ms2 mk2 mT gq gn gK gmo gmy gun fd wn kq kn kc kr kt yw cu cv ck rm mo bo ki wa wr fo W Im RX RcX Kp Vp W2 Hd2 Im2 O2 E2 RX2 Rc2 K2 V2 WT ImT OT ET Rg Fg Tb Rs Pb Ce Wb R KR P KP Od Ig Pk Lt Lk Rd Nx Tp Pa Wy Sz It B B2 BT KB Ls L2 T pk pv pk2 pv2 hq hB hc hL hLm hr hP hPm hk hT hG hf hTb hTp hw hwn hp hl hit
  refine X_aload_n dL_law_693 rfl ?_
  refine X_arg 694 1 dL_law_694 dL_law_695 dL_law_696 (by decide) dL_law_697 dL_law_698 rfl rfl (by omega) hLL ?_
  refine X_callV0 (As := [.int (xs (i + 1))]) [0, 1, 10, 11, 12, 2, 3, 4, 5, 6, 7, 8, 9] (s_X11_possible (d := 60) (by decide) hq hB hc hL) gL_law_X11_possible dL_law_699 oX11_possible rfl rfl rfl rfl (Nat.le_of_ble_eq_true rfl) (by decide) hu ?_
  rintro _ _ ⟨Rc', rfl, rfl⟩
  simp only [zput_n, zput_c, List.set_cons_zero, List.set_cons_succ, Option.toList, List.nil_append, List.cons_append, xaW, xbW, xpW, xoW, xhW, xkW, dkW, obD]
  refine X_aload_n dL_law_702 rfl ?_
  refine X_arg 703 1 dL_law_703 dL_law_704 dL_law_705 (by decide) dL_law_706 dL_law_707 rfl rfl (by omega) hLL ?_
  refine X_callV0 (As := [.int (xs (i + 1))]) [48, 49, 52, 60] (s_X12_possible (d := 60) (by decide) hq hB.1 hc hLm) gL_law_X12_possible dL_law_708 oX12_possible rfl rfl rfl rfl (Nat.le_of_ble_eq_true rfl) (by decide) hu ?_
  rintro _ _ ⟨Lk', rfl, rfl⟩
  simp only [zput_n, zput_c, List.set_cons_zero, List.set_cons_succ, Option.toList, List.nil_append, List.cons_append, xaW, xbW, xpW, xoW, xhW, xkW, dkW, obD]
  refine X_icmp_eq 1139 dL_law_711 (by decide) (fun _ => ?_) (fun h9 => absurd rfl h9)
  exact IH _ (RelP.mk hq hB hc hL hLm hr hP hPm hk hT hG hf hTb hTp hw hwn hp hl hit)
set_option maxHeartbeats 300000 in
theorem law_certain {tO bs L xr mr i : Nat} {xs : Nat → Int32} {ws : zW} {u : Nat × Nat} (hi : i + 5 ≤ L) (hLL : L ≤ 2560) (hu : u.1 ≤ 600000 ∧ u.2 ≤ 7302250) (hR : RelP xr mr ws) (IH : ∀ ws2, RelP xr mr ws2 → VX tO bs L xs u ws2 1139 [some (.ref bs), some (.ref xr), some (.ref mr), some (.int (nI i))] []) : VX tO bs L xs u ws 716 [some (.ref bs), some (.ref xr), some (.ref mr), some (.int (nI i))] [] := by
  refine hR (fun z => VX tO bs L xs u z 716 [some (.ref bs), some (.ref xr), some (.ref mr), some (.int (nI i))] []) ?_
  clear hR ws
  intro aX A q n m cut rows q2 n2 m2 ms2 mk2 mT gq gn gK gmo gmy gun fd wn kq kn kc kr kt yw cu cv ck rm mo bo ki wa wr fo W Im RX RcX Kp Vp W2 Hd2 Im2 O2 E2 RX2 Rc2 K2 V2 WT ImT OT ET Rg Fg Tb Rs Pb Ce Wb R KR P KP Od Ig Pk Lt Lk Rd Nx Tp Pa Wy Sz It B B2 BT KB Ls L2 T pk pv pk2 pv2 hq hB hc hL hLm hr hP hPm hk hT hG hf hTb hTp hw hwn hp hl hit
  refine X_aload_n dL_law_716 rfl ?_
  refine X_arg 717 1 dL_law_717 dL_law_718 dL_law_719 (by decide) dL_law_720 dL_law_721 rfl rfl (by omega) hLL ?_
  refine X_callV0 (As := [.int (xs (i + 1))]) [0, 1, 10, 11, 12, 2, 3, 4, 5, 6, 7, 8, 9] (s_X11_certain (d := 60) (by decide) hq hB hc hL) gL_law_X11_certain dL_law_722 oX11_certain rfl rfl rfl rfl (Nat.le_of_ble_eq_true rfl) (by decide) hu ?_
  rintro _ _ ⟨Rc', rfl, rfl⟩
  simp only [zput_n, zput_c, List.set_cons_zero, List.set_cons_succ, Option.toList, List.nil_append, List.cons_append, xaW, xbW, xpW, xoW, xhW, xkW, dkW, obD]
  refine X_aload_n dL_law_725 rfl ?_
  refine X_arg 726 1 dL_law_726 dL_law_727 dL_law_728 (by decide) dL_law_729 dL_law_730 rfl rfl (by omega) hLL ?_
  refine X_callV0 (As := [.int (xs (i + 1))]) [48, 49, 52, 60] (s_X12_certain (d := 60) (by decide) hq hB.1 hc hLm) gL_law_X12_certain dL_law_731 oX12_certain rfl rfl rfl rfl (Nat.le_of_ble_eq_true rfl) (by decide) hu ?_
  rintro _ _ ⟨Lk', rfl, rfl⟩
  simp only [zput_n, zput_c, List.set_cons_zero, List.set_cons_succ, Option.toList, List.nil_append, List.cons_append, xaW, xbW, xpW, xoW, xhW, xkW, dkW, obD]
  refine X_icmp_eq 1139 dL_law_734 (by decide) (fun _ => ?_) (fun h9 => absurd rfl h9)
  exact IH _ (RelP.mk hq hB hc hL hLm hr hP hPm hk hT hG hf hTb hTp hw hwn hp hl hit)
set_option maxHeartbeats 300000 in
theorem law_delay {tO bs L xr mr i : Nat} {xs : Nat → Int32} {ws : zW} {u : Nat × Nat} (hi : i + 5 ≤ L) (hLL : L ≤ 2560) (hu : u.1 ≤ 600000 ∧ u.2 ≤ 7302250) (hR : RelP xr mr ws) (IH : ∀ ws2, RelP xr mr ws2 → VX tO bs L xs u ws2 1139 [some (.ref bs), some (.ref xr), some (.ref mr), some (.int (nI i))] []) : VX tO bs L xs u ws 739 [some (.ref bs), some (.ref xr), some (.ref mr), some (.int (nI i))] [] := by
  refine hR (fun z => VX tO bs L xs u z 739 [some (.ref bs), some (.ref xr), some (.ref mr), some (.int (nI i))] []) ?_
  clear hR ws
  intro aX A q n m cut rows q2 n2 m2 ms2 mk2 mT gq gn gK gmo gmy gun fd wn kq kn kc kr kt yw cu cv ck rm mo bo ki wa wr fo W Im RX RcX Kp Vp W2 Hd2 Im2 O2 E2 RX2 Rc2 K2 V2 WT ImT OT ET Rg Fg Tb Rs Pb Ce Wb R KR P KP Od Ig Pk Lt Lk Rd Nx Tp Pa Wy Sz It B B2 BT KB Ls L2 T pk pv pk2 pv2 hq hB hc hL hLm hr hP hPm hk hT hG hf hTb hTp hw hwn hp hl hit
  refine X_aload_n dL_law_739 rfl ?_
  refine X_callV0 (As := []) [0, 1, 4, 5, 6, 7, 8, 9, 2, 3] (s_X11_delay (d := 60) (by decide) hq hB) gL_law_X11_delay dL_law_740 oX11_delay rfl rfl rfl rfl (Nat.le_of_ble_eq_true rfl) (by decide) hu ?_
  rintro _ _ ⟨rfl, rfl⟩
  simp only [zput_n, zput_c, List.set_cons_zero, List.set_cons_succ, Option.toList, List.nil_append, List.cons_append, xaW, xbW, xpW, xoW, xhW, xkW, dkW, obD]
  refine X_aload_n dL_law_743 rfl ?_
  refine X_callV0 (As := []) [48, 49, 60, 61, 62] (s_X12_delay (d := 60) (by decide) hq hB.1) gL_law_X12_delay dL_law_744 oX12_delay rfl rfl rfl rfl (Nat.le_of_ble_eq_true rfl) (by decide) hu ?_
  rintro _ _ ⟨Lk', Rd', Nx', rfl, rfl⟩
  simp only [zput_n, zput_c, List.set_cons_zero, List.set_cons_succ, Option.toList, List.nil_append, List.cons_append, xaW, xbW, xpW, xoW, xhW, xkW, dkW, obD]
  refine X_icmp_eq 1139 dL_law_747 (by decide) (fun _ => ?_) (fun h9 => absurd rfl h9)
  exact IH _ (RelP.mk hq hB hc hL hLm hr hP hPm hk hT hG hf hTb hTp hw hwn hp hl hit)
set_option maxHeartbeats 300000 in
theorem law_odds {tO bs L xr mr i : Nat} {xs : Nat → Int32} {ws : zW} {u : Nat × Nat} (hi : i + 5 ≤ L) (hLL : L ≤ 2560) (hu : u.1 ≤ 600000 ∧ u.2 ≤ 7302250) (hR : RelP xr mr ws) (IH : ∀ ws2, RelP xr mr ws2 → VX tO bs L xs u ws2 1139 [some (.ref bs), some (.ref xr), some (.ref mr), some (.int (nI i))] []) : VX tO bs L xs u ws 752 [some (.ref bs), some (.ref xr), some (.ref mr), some (.int (nI i))] [] := by
  refine hR (fun z => VX tO bs L xs u z 752 [some (.ref bs), some (.ref xr), some (.ref mr), some (.int (nI i))] []) ?_
  clear hR ws
  intro aX A q n m cut rows q2 n2 m2 ms2 mk2 mT gq gn gK gmo gmy gun fd wn kq kn kc kr kt yw cu cv ck rm mo bo ki wa wr fo W Im RX RcX Kp Vp W2 Hd2 Im2 O2 E2 RX2 Rc2 K2 V2 WT ImT OT ET Rg Fg Tb Rs Pb Ce Wb R KR P KP Od Ig Pk Lt Lk Rd Nx Tp Pa Wy Sz It B B2 BT KB Ls L2 T pk pv pk2 pv2 hq hB hc hL hLm hr hP hPm hk hT hG hf hTb hTp hw hwn hp hl hit
  refine X_aload_n dL_law_752 rfl ?_
  refine X_arg 753 1 dL_law_753 dL_law_754 dL_law_755 (by decide) dL_law_756 dL_law_757 rfl rfl (by omega) hLL ?_
  refine X_arg 758 2 dL_law_758 dL_law_759 dL_law_760 (by decide) dL_law_761 dL_law_762 rfl rfl (by omega) hLL ?_
  refine X_arg 763 3 dL_law_763 dL_law_764 dL_law_765 (by decide) dL_law_766 dL_law_767 rfl rfl (by omega) hLL ?_
  refine X_arg 768 4 dL_law_768 dL_law_769 dL_law_770 (by decide) dL_law_771 dL_law_772 rfl rfl (by omega) hLL ?_
  refine X_callV0 (As := [.int (xs (i + 1)), .int (xs (i + 2)), .int (xs (i + 3)), .int (xs (i + 4))]) [0, 31, 32, 33, 34, 35, 36, 2, 3] (s_X11_odds (d := 60) (by decide) hq (Nat.le_refl 256) hT) gL_law_X11_odds dL_law_773 oX11_odds rfl rfl rfl rfl (Nat.le_of_ble_eq_true rfl) (by decide) hu ?_
  rintro _ _ ⟨BT', mT', WT', OT', ET', rfl, rfl, hT'⟩
  simp only [zput_n, zput_c, List.set_cons_zero, List.set_cons_succ, Option.toList, List.nil_append, List.cons_append, xaW, xbW, xpW, xoW, xhW, xkW, dkW, obD]
  refine X_aload_n dL_law_776 rfl ?_
  refine X_arg 777 1 dL_law_777 dL_law_778 dL_law_779 (by decide) dL_law_780 dL_law_781 rfl rfl (by omega) hLL ?_
  refine X_arg 782 2 dL_law_782 dL_law_783 dL_law_784 (by decide) dL_law_785 dL_law_786 rfl rfl (by omega) hLL ?_
  refine X_arg 787 3 dL_law_787 dL_law_788 dL_law_789 (by decide) dL_law_790 dL_law_791 rfl rfl (by omega) hLL ?_
  refine X_arg 792 4 dL_law_792 dL_law_793 dL_law_794 (by decide) dL_law_795 dL_law_796 rfl rfl (by omega) hLL ?_
  refine X_callV0 (As := [.int (xs (i + 1)), .int (xs (i + 2)), .int (xs (i + 3)), .int (xs (i + 4))]) [48, 49, 51] (s_X12_odds (d := 60) (by decide) hq) gL_law_X12_odds dL_law_797 oX12_odds rfl rfl rfl rfl (Nat.le_of_ble_eq_true rfl) (by decide) hu ?_
  rintro _ _ ⟨Wb', cu', cv', ck', rfl, rfl⟩
  simp only [zput_n, zput_c, List.set_cons_zero, List.set_cons_succ, Option.toList, List.nil_append, List.cons_append, xaW, xbW, xpW, xoW, xhW, xkW, dkW, obD]
  refine X_lcmp dL_law_800 ?_
  refine X_if_eq 1139 dL_law_801 (by decide) (fun _ => ?_) (fun h9 => absurd ((lg_cmp_eq _ _).mpr rfl) h9)
  exact IH _ (RelP.mk hq hB hc hL hLm hr hP hPm hk hT' hG hf hTb hTp hw hwn hp hl hit)
set_option maxHeartbeats 300000 in
theorem law_plan {tO bs L xr mr i : Nat} {xs : Nat → Int32} {ws : zW} {u : Nat × Nat} (hi : i + 5 ≤ L) (hLL : L ≤ 2560) (hu : u.1 ≤ 600000 ∧ u.2 ≤ 7302250) (hR : RelP xr mr ws) (IH : ∀ ws2, RelP xr mr ws2 → VX tO bs L xs u ws2 1139 [some (.ref bs), some (.ref xr), some (.ref mr), some (.int (nI i))] []) : VX tO bs L xs u ws 806 [some (.ref bs), some (.ref xr), some (.ref mr), some (.int (nI i))] [] := by
  refine hR (fun z => VX tO bs L xs u z 806 [some (.ref bs), some (.ref xr), some (.ref mr), some (.int (nI i))] []) ?_
  clear hR ws
  intro aX A q n m cut rows q2 n2 m2 ms2 mk2 mT gq gn gK gmo gmy gun fd wn kq kn kc kr kt yw cu cv ck rm mo bo ki wa wr fo W Im RX RcX Kp Vp W2 Hd2 Im2 O2 E2 RX2 Rc2 K2 V2 WT ImT OT ET Rg Fg Tb Rs Pb Ce Wb R KR P KP Od Ig Pk Lt Lk Rd Nx Tp Pa Wy Sz It B B2 BT KB Ls L2 T pk pv pk2 pv2 hq hB hc hL hLm hr hP hPm hk hT hG hf hTb hTp hw hwn hp hl hit
  refine X_aload_n dL_law_806 rfl ?_
  refine X_arg 807 1 dL_law_807 dL_law_808 dL_law_809 (by decide) dL_law_810 dL_law_811 rfl rfl (by omega) hLL ?_
  refine X_arg 812 2 dL_law_812 dL_law_813 dL_law_814 (by decide) dL_law_815 dL_law_816 rfl rfl (by omega) hLL ?_
  refine X_callV0 (As := [.int (xs (i + 1)), .int (xs (i + 2))]) [0, 1, 13, 14, 15] (s_X11_plan (d := 60) (by decide) hr hP) gL_law_X11_plan dL_law_817 oX11_plan rfl rfl rfl rfl (Nat.le_of_ble_eq_true rfl) (by decide) hu ?_
  rintro _ _ ⟨K', V', rfl, rfl, hP'⟩
  simp only [zput_n, zput_c, List.set_cons_zero, List.set_cons_succ, Option.toList, List.nil_append, List.cons_append, xaW, xbW, xpW, xoW, xhW, xkW, dkW, obD]
  refine X_aload_n dL_law_820 rfl ?_
  refine X_arg 821 1 dL_law_821 dL_law_822 dL_law_823 (by decide) dL_law_824 dL_law_825 rfl rfl (by omega) hLL ?_
  refine X_arg 826 2 dL_law_826 dL_law_827 dL_law_828 (by decide) dL_law_829 dL_law_830 rfl rfl (by omega) hLL ?_
  refine X_callV0 (As := [.int (xs (i + 1)), .int (xs (i + 2))]) [48, 54] (s_X12_plan (d := 60) (by decide) hr hPm) gL_law_X12_plan dL_law_831 oX12_plan rfl rfl rfl rfl (Nat.le_of_ble_eq_true rfl) (by decide) hu ?_
  rintro _ _ ⟨P', rfl, rfl, hPm'⟩
  simp only [zput_n, zput_c, List.set_cons_zero, List.set_cons_succ, Option.toList, List.nil_append, List.cons_append, xaW, xbW, xpW, xoW, xhW, xkW, dkW, obD]
  refine X_icmp_eq 1139 dL_law_834 (by decide) (fun _ => ?_) (fun h9 => absurd rfl h9)
  exact IH _ (RelP.mk hq hB hc hL hLm (plN_le hr) hP' hPm' hk hT hG hf hTb hTp hw hwn hp hl hit)
set_option maxHeartbeats 300000 in
theorem law_behind {tO bs L xr mr i : Nat} {xs : Nat → Int32} {ws : zW} {u : Nat × Nat} (hi : i + 5 ≤ L) (hLL : L ≤ 2560) (hu : u.1 ≤ 600000 ∧ u.2 ≤ 7302250) (hR : RelP xr mr ws) (IH : ∀ ws2, RelP xr mr ws2 → VX tO bs L xs u ws2 1139 [some (.ref bs), some (.ref xr), some (.ref mr), some (.int (nI i))] []) : VX tO bs L xs u ws 839 [some (.ref bs), some (.ref xr), some (.ref mr), some (.int (nI i))] [] := by
  refine hR (fun z => VX tO bs L xs u z 839 [some (.ref bs), some (.ref xr), some (.ref mr), some (.int (nI i))] []) ?_
  clear hR ws
  intro aX A q n m cut rows q2 n2 m2 ms2 mk2 mT gq gn gK gmo gmy gun fd wn kq kn kc kr kt yw cu cv ck rm mo bo ki wa wr fo W Im RX RcX Kp Vp W2 Hd2 Im2 O2 E2 RX2 Rc2 K2 V2 WT ImT OT ET Rg Fg Tb Rs Pb Ce Wb R KR P KP Od Ig Pk Lt Lk Rd Nx Tp Pa Wy Sz It B B2 BT KB Ls L2 T pk pv pk2 pv2 hq hB hc hL hLm hr hP hPm hk hT hG hf hTb hTp hw hwn hp hl hit
  refine X_aload_n dL_law_839 rfl ?_
  refine X_arg 840 1 dL_law_840 dL_law_841 dL_law_842 (by decide) dL_law_843 dL_law_844 rfl rfl (by omega) hLL ?_
  refine X_callV0 (As := [.int (xs (i + 1))]) [0, 1, 4, 5, 6, 7, 8, 9, 31, 32, 33, 34, 35, 36, 13, 14, 15, 2, 3] (s_X11_behind (d := 60) (by decide) hq hB hr hP hT) gL_law_X11_behind dL_law_845 oX11_behind rfl rfl rfl rfl (Nat.le_of_ble_eq_true rfl) (by decide) hu ?_
  rintro _ _ ⟨BT', mT', WT', ImT', OT', ET', rfl, rfl, hT'⟩
  simp only [zput_n, zput_c, List.set_cons_zero, List.set_cons_succ, Option.toList, List.nil_append, List.cons_append, xaW, xbW, xpW, xoW, xhW, xkW, dkW, obD]
  refine X_aload_n dL_law_848 rfl ?_
  refine X_arg 849 1 dL_law_849 dL_law_850 dL_law_851 (by decide) dL_law_852 dL_law_853 rfl rfl (by omega) hLL ?_
  refine X_callV0 (As := [.int (xs (i + 1))]) [48, 49, 51, 56, 57, 54] (s_X12_behind (d := 60) (by decide) hq hB.1 hr hPm) gL_law_X12_behind dL_law_854 oX12_behind rfl rfl rfl rfl (Nat.le_of_ble_eq_true rfl) (by decide) hu ?_
  rintro _ _ ⟨Wb', cu', cv', ck', Od', Ig', rfl, rfl⟩
  simp only [zput_n, zput_c, List.set_cons_zero, List.set_cons_succ, Option.toList, List.nil_append, List.cons_append, xaW, xbW, xpW, xoW, xhW, xkW, dkW, obD]
  refine X_icmp_eq 1139 dL_law_857 (by decide) (fun _ => ?_) (fun h9 => absurd rfl h9)
  exact IH _ (RelP.mk hq hB hc hL hLm hr hP hPm hk hT' hG hf hTb hTp hw hwn hp hl hit)
set_option maxHeartbeats 300000 in
theorem law_feed {tO bs L xr mr i : Nat} {xs : Nat → Int32} {ws : zW} {u : Nat × Nat} (hi : i + 5 ≤ L) (hLL : L ≤ 2560) (hu : u.1 ≤ 600000 ∧ u.2 ≤ 7302250) (hR : RelP xr mr ws) (IH : ∀ ws2, RelP xr mr ws2 → VX tO bs L xs u ws2 1139 [some (.ref bs), some (.ref xr), some (.ref mr), some (.int (nI i))] []) : VX tO bs L xs u ws 862 [some (.ref bs), some (.ref xr), some (.ref mr), some (.int (nI i))] [] := by
  refine hR (fun z => VX tO bs L xs u z 862 [some (.ref bs), some (.ref xr), some (.ref mr), some (.int (nI i))] []) ?_
  clear hR ws
  intro aX A q n m cut rows q2 n2 m2 ms2 mk2 mT gq gn gK gmo gmy gun fd wn kq kn kc kr kt yw cu cv ck rm mo bo ki wa wr fo W Im RX RcX Kp Vp W2 Hd2 Im2 O2 E2 RX2 Rc2 K2 V2 WT ImT OT ET Rg Fg Tb Rs Pb Ce Wb R KR P KP Od Ig Pk Lt Lk Rd Nx Tp Pa Wy Sz It B B2 BT KB Ls L2 T pk pv pk2 pv2 hq hB hc hL hLm hr hP hPm hk hT hG hf hTb hTp hw hwn hp hl hit
  refine X_aload_n dL_law_862 rfl ?_
  refine X_arg 863 1 dL_law_863 dL_law_864 dL_law_865 (by decide) dL_law_866 dL_law_867 rfl rfl (by omega) hLL ?_
  refine X_callV0 (As := [.int (xs (i + 1))]) [0, 40, 41] (s_X11_feed (d := 60) (by decide) hf hTb) gL_law_X11_feed dL_law_868 oX11_feed rfl rfl rfl rfl (Nat.le_of_ble_eq_true rfl) (by decide) hu ?_
  rintro _ _ ⟨Tb', rfl, rfl, hTb'⟩
  simp only [zput_n, zput_c, List.set_cons_zero, List.set_cons_succ, Option.toList, List.nil_append, List.cons_append, xaW, xbW, xpW, xoW, xhW, xkW, dkW, obD]
  refine X_aload_n dL_law_871 rfl ?_
  refine X_arg 872 1 dL_law_872 dL_law_873 dL_law_874 (by decide) dL_law_875 dL_law_876 rfl rfl (by omega) hLL ?_
  refine X_callV0 (As := [.int (xs (i + 1))]) [48, 63] (s_X12_feed (d := 60) (by decide) hf hTp) gL_law_X12_feed dL_law_877 oX12_feed rfl rfl rfl rfl (Nat.le_of_ble_eq_true rfl) (by decide) hu ?_
  rintro _ _ ⟨Tp', rfl, rfl, hTp'⟩
  simp only [zput_n, zput_c, List.set_cons_zero, List.set_cons_succ, Option.toList, List.nil_append, List.cons_append, xaW, xbW, xpW, xoW, xhW, xkW, dkW, obD]
  refine X_icmp_eq 1139 dL_law_880 (by decide) (fun _ => ?_) (fun h9 => absurd rfl h9)
  exact IH _ (RelP.mk hq hB hc hL hLm hr hP hPm hk hT hG (feN_le hf) hTb' hTp' hw hwn hp hl hit)
set_option maxHeartbeats 300000 in
theorem law_book {tO bs L xr mr i : Nat} {xs : Nat → Int32} {ws : zW} {u : Nat × Nat} (hi : i + 5 ≤ L) (hLL : L ≤ 2560) (hu : u.1 ≤ 600000 ∧ u.2 ≤ 7302250) (hR : RelP xr mr ws) (IH : ∀ ws2, RelP xr mr ws2 → VX tO bs L xs u ws2 1139 [some (.ref bs), some (.ref xr), some (.ref mr), some (.int (nI i))] []) : VX tO bs L xs u ws 885 [some (.ref bs), some (.ref xr), some (.ref mr), some (.int (nI i))] [] := by
  refine hR (fun z => VX tO bs L xs u z 885 [some (.ref bs), some (.ref xr), some (.ref mr), some (.int (nI i))] []) ?_
  clear hR ws
  intro aX A q n m cut rows q2 n2 m2 ms2 mk2 mT gq gn gK gmo gmy gun fd wn kq kn kc kr kt yw cu cv ck rm mo bo ki wa wr fo W Im RX RcX Kp Vp W2 Hd2 Im2 O2 E2 RX2 Rc2 K2 V2 WT ImT OT ET Rg Fg Tb Rs Pb Ce Wb R KR P KP Od Ig Pk Lt Lk Rd Nx Tp Pa Wy Sz It B B2 BT KB Ls L2 T pk pv pk2 pv2 hq hB hc hL hLm hr hP hPm hk hT hG hf hTb hTp hw hwn hp hl hit
  refine X_aload_n dL_law_885 rfl ?_
  refine X_callV0 (As := []) [0, 40, 41, 42, 31, 32, 33, 34, 35, 36, 2, 3, 1, 4, 5, 6, 7, 8, 9] (s_X11_book (d := 60) (by decide) hq hB hf hTb hT) gL_law_X11_book dL_law_886 oX11_book rfl rfl rfl rfl (Nat.le_of_ble_eq_true rfl) (by decide) hu ?_
  rintro _ _ ⟨r9, B', m', W', BT', mT', WT', OT', ET', er, eB, rfl, rfl, hB', hT'⟩
  simp only [zput_n, zput_c, List.set_cons_zero, List.set_cons_succ, Option.toList, List.nil_append, List.cons_append, xaW, xbW, xpW, xoW, xhW, xkW, dkW, obD]
  refine X_aload_n dL_law_889 rfl ?_
  refine X_callV0 (As := []) [48, 49, 57, 63, 65] (s_X12_book (d := 60) (by decide) hq hf hTp) gL_law_X12_book dL_law_890 oX12_book rfl rfl rfl rfl (Nat.le_of_ble_eq_true rfl) (by decide) hu ?_
  rintro _ _ ⟨r8, Ig', Wy', er8, rfl, rfl, hy1, hy2⟩
  simp only [zput_n, zput_c, List.set_cons_zero, List.set_cons_succ, Option.toList, List.nil_append, List.cons_append, xaW, xbW, xpW, xoW, xhW, xkW, dkW, obD]
  obtain rfl : r8 = r9 := er8.trans er.symm
  refine X_icmp_eq 1139 dL_law_893 (by decide) (fun _ => ?_) (fun h9 => absurd rfl h9)
  subst eB
  rw [show (yw || !r8.1) = (if r8.1 = true then yw else true) from by cases r8.1 <;> cases yw <;> rfl]
  have hw9 : (if r8.1 = true then yw else true) = true → ∀ j, j < 3 → (if r8.1 = true then Rs else rsF r8.2.2.1 r8.2.2.2.1 r8.2.1) j = Wy' j := by
    intro hh j hj
    cases h1 : r8.1 with
    | true => rw [hy1 h1]; rw [h1, if_pos rfl] at hh; rw [if_pos rfl]; exact hw hh j hj
    | false => rw [hy2 h1 j hj, if_neg Bool.false_ne_true]
  exact IH _ (RelP.mk (Ls := Ls) (T := T) (pk := pk) (pv := pv) hq hB' hc hL hLm hr hP hPm hk hT' hG (Nat.zero_le _) (fun j hj => absurd hj (Nat.not_lt_zero j)) (fun j hj => absurd hj (Nat.not_lt_zero j)) hw9 hwn hp hl hit)
set_option maxHeartbeats 300000 in
theorem law_why {tO bs L xr mr i : Nat} {xs : Nat → Int32} {ws : zW} {u : Nat × Nat} (hi : i + 5 ≤ L) (hLL : L ≤ 2560) (hu : u.1 ≤ 600000 ∧ u.2 ≤ 7302250) (hR : RelP xr mr ws) (IH : ∀ ws2, RelP xr mr ws2 → VX tO bs L xs u ws2 1139 [some (.ref bs), some (.ref xr), some (.ref mr), some (.int (nI i))] []) : VX tO bs L xs u ws 898 [some (.ref bs), some (.ref xr), some (.ref mr), some (.int (nI i))] [] := by
  refine hR (fun z => VX tO bs L xs u z 898 [some (.ref bs), some (.ref xr), some (.ref mr), some (.int (nI i))] []) ?_
  clear hR ws
  intro aX A q n m cut rows q2 n2 m2 ms2 mk2 mT gq gn gK gmo gmy gun fd wn kq kn kc kr kt yw cu cv ck rm mo bo ki wa wr fo W Im RX RcX Kp Vp W2 Hd2 Im2 O2 E2 RX2 Rc2 K2 V2 WT ImT OT ET Rg Fg Tb Rs Pb Ce Wb R KR P KP Od Ig Pk Lt Lk Rd Nx Tp Pa Wy Sz It B B2 BT KB Ls L2 T pk pv pk2 pv2 hq hB hc hL hLm hr hP hPm hk hT hG hf hTb hTp hw hwn hp hl hit
  have e9 : (if (yw && isW 3 (xs (i + 1))) = true then Rs (xs (i + 1)).toInt.toNat else -1) = (if (yw && isW 3 (xs (i + 1))) = true then Wy (xs (i + 1)).toInt.toNat else -1) := by
    cases hy : yw with
    | false => rfl
    | true =>
      cases h9 : isW 3 (xs (i + 1)) with
      | false => rfl
      | true => obtain ⟨k9, hk9, ek9⟩ := isW_of h9; rw [hw hy _ (by rw [ek9, toNat_nI (by omega)]; exact hk9)]
  refine X_aload_n dL_law_898 rfl ?_
  refine X_arg 899 1 dL_law_899 dL_law_900 dL_law_901 (by decide) dL_law_902 dL_law_903 rfl rfl (by omega) hLL ?_
  refine X_callV0 (As := [.int (xs (i + 1))]) [0, 40, 42] (s_X11_why (d := 60) (by decide) ) gL_law_X11_why dL_law_904 oX11_why rfl rfl rfl rfl (Nat.le_of_ble_eq_true rfl) (by decide) hu ?_
  rintro _ _ ⟨rfl, rfl⟩
  simp only [zput_n, zput_c, List.set_cons_zero, List.set_cons_succ, Option.toList, List.nil_append, List.cons_append, xaW, xbW, xpW, xoW, xhW, xkW, dkW, obD]
  refine X_aload_n dL_law_907 rfl ?_
  refine X_arg 908 1 dL_law_908 dL_law_909 dL_law_910 (by decide) dL_law_911 dL_law_912 rfl rfl (by omega) hLL ?_
  refine X_callV0 (As := [.int (xs (i + 1))]) [48, 65] (s_X12_why (d := 60) (by decide) ) gL_law_X12_why dL_law_913 oX12_why rfl rfl rfl rfl (Nat.le_of_ble_eq_true rfl) (by decide) hu ?_
  rintro _ _ ⟨rfl, rfl⟩
  simp only [zput_n, zput_c, List.set_cons_zero, List.set_cons_succ, Option.toList, List.nil_append, List.cons_append, xaW, xbW, xpW, xoW, xhW, xkW, dkW, obD]
  refine X_icmp_eq 1139 dL_law_916 (by decide) (fun _ => ?_) (fun h9 => absurd e9 h9)
  exact IH _ (RelP.mk hq hB hc hL hLm hr hP hPm hk hT hG hf hTb hTp hw hwn hp hl hit)
set_option maxHeartbeats 300000 in
theorem law_write {tO bs L xr mr i : Nat} {xs : Nat → Int32} {ws : zW} {u : Nat × Nat} (hi : i + 5 ≤ L) (hLL : L ≤ 2560) (hu : u.1 ≤ 600000 ∧ u.2 ≤ 7302250) (hR : RelP xr mr ws) (IH : ∀ ws2, RelP xr mr ws2 → VX tO bs L xs u ws2 1139 [some (.ref bs), some (.ref xr), some (.ref mr), some (.int (nI i))] []) : VX tO bs L xs u ws 921 [some (.ref bs), some (.ref xr), some (.ref mr), some (.int (nI i))] [] := by
  refine hR (fun z => VX tO bs L xs u z 921 [some (.ref bs), some (.ref xr), some (.ref mr), some (.int (nI i))] []) ?_
  clear hR ws
  intro aX A q n m cut rows q2 n2 m2 ms2 mk2 mT gq gn gK gmo gmy gun fd wn kq kn kc kr kt yw cu cv ck rm mo bo ki wa wr fo W Im RX RcX Kp Vp W2 Hd2 Im2 O2 E2 RX2 Rc2 K2 V2 WT ImT OT ET Rg Fg Tb Rs Pb Ce Wb R KR P KP Od Ig Pk Lt Lk Rd Nx Tp Pa Wy Sz It B B2 BT KB Ls L2 T pk pv pk2 pv2 hq hB hc hL hLm hr hP hPm hk hT hG hf hTb hTp hw hwn hp hl hit
  refine X_aload_n dL_law_921 rfl ?_
  refine X_callV0 (As := []) [0, 43, 44, 1, 4, 5, 6, 7, 8, 9, 2, 3] (s_X11_write (d := 60) (by decide) hq hB) gL_law_X11_write dL_law_922 oX11_write rfl rfl rfl rfl (Nat.le_of_ble_eq_true rfl) (by decide) hu ?_
  rintro _ _ ⟨Pb', rfl, rfl, hPb'⟩
  simp only [zput_n, zput_c, List.set_cons_zero, List.set_cons_succ, Option.toList, List.nil_append, List.cons_append, xaW, xbW, xpW, xoW, xhW, xkW, dkW, obD]
  refine X_aload_n dL_law_925 rfl ?_
  refine X_callV0 (As := []) [48, 49, 64] (s_X12_write (d := 60) (by decide) hq hB.1) gL_law_X12_write dL_law_926 oX12_write rfl rfl rfl rfl (Nat.le_of_ble_eq_true rfl) (by decide) hu ?_
  rintro _ _ ⟨Pa', rfl, rfl, hPa'⟩
  simp only [zput_n, zput_c, List.set_cons_zero, List.set_cons_succ, Option.toList, List.nil_append, List.cons_append, xaW, xbW, xpW, xoW, xhW, xkW, dkW, obD]
  rw [hB.m hq.2.2.2.2] at hPa' ⊢
  refine X_icmp_eq 1139 dL_law_929 (by decide) (fun _ => ?_) (fun h9 => absurd rfl h9)
  exact IH _ (RelP.mk hq hB hc hL hLm hr hP hPm hk hT hG hf hTb hTp hw (txN_wn hq hB) (fun j hj => by rw [hPb' j hj, hPa' j hj]) hl hit)
set_option maxHeartbeats 300000 in
theorem law_paper {tO bs L xr mr i : Nat} {xs : Nat → Int32} {ws : zW} {u : Nat × Nat} (hi : i + 5 ≤ L) (hLL : L ≤ 2560) (hu : u.1 ≤ 600000 ∧ u.2 ≤ 7302250) (hR : RelP xr mr ws) (IH : ∀ ws2, RelP xr mr ws2 → VX tO bs L xs u ws2 1139 [some (.ref bs), some (.ref xr), some (.ref mr), some (.int (nI i))] []) : VX tO bs L xs u ws 934 [some (.ref bs), some (.ref xr), some (.ref mr), some (.int (nI i))] [] := by
  refine hR (fun z => VX tO bs L xs u z 934 [some (.ref bs), some (.ref xr), some (.ref mr), some (.int (nI i))] []) ?_
  clear hR ws
  intro aX A q n m cut rows q2 n2 m2 ms2 mk2 mT gq gn gK gmo gmy gun fd wn kq kn kc kr kt yw cu cv ck rm mo bo ki wa wr fo W Im RX RcX Kp Vp W2 Hd2 Im2 O2 E2 RX2 Rc2 K2 V2 WT ImT OT ET Rg Fg Tb Rs Pb Ce Wb R KR P KP Od Ig Pk Lt Lk Rd Nx Tp Pa Wy Sz It B B2 BT KB Ls L2 T pk pv pk2 pv2 hq hB hc hL hLm hr hP hPm hk hT hG hf hTb hTp hw hwn hp hl hit
  have e9 : (if isW wn (xs (i + 1)) then Pb (xs (i + 1)).toInt.toNat else -1) = (if isW wn (xs (i + 1)) then Pa (xs (i + 1)).toInt.toNat else -1) := by
    cases h9 : isW wn (xs (i + 1)) with
    | false => rfl
    | true => obtain ⟨k9, hk9, ek9⟩ := isW_of h9; rw [if_pos rfl, if_pos rfl, hp _ (by rw [ek9, toNat_nI (by omega)]; exact hk9)]
  refine X_aload_n dL_law_934 rfl ?_
  refine X_arg 935 1 dL_law_935 dL_law_936 dL_law_937 (by decide) dL_law_938 dL_law_939 rfl rfl (by omega) hLL ?_
  refine X_callV0 (As := [.int (xs (i + 1))]) [0, 43, 44] (s_X11_paper (d := 60) (by decide) hwn) gL_law_X11_paper dL_law_940 oX11_paper rfl rfl rfl rfl (Nat.le_of_ble_eq_true rfl) (by decide) hu ?_
  rintro _ _ ⟨rfl, rfl⟩
  simp only [zput_n, zput_c, List.set_cons_zero, List.set_cons_succ, Option.toList, List.nil_append, List.cons_append, xaW, xbW, xpW, xoW, xhW, xkW, dkW, obD]
  refine X_aload_n dL_law_943 rfl ?_
  refine X_arg 944 1 dL_law_944 dL_law_945 dL_law_946 (by decide) dL_law_947 dL_law_948 rfl rfl (by omega) hLL ?_
  refine X_callV0 (As := [.int (xs (i + 1))]) [48, 64] (s_X12_paper (d := 60) (by decide) hwn) gL_law_X12_paper dL_law_949 oX12_paper rfl rfl rfl rfl (Nat.le_of_ble_eq_true rfl) (by decide) hu ?_
  rintro _ _ ⟨rfl, rfl⟩
  simp only [zput_n, zput_c, List.set_cons_zero, List.set_cons_succ, Option.toList, List.nil_append, List.cons_append, xaW, xbW, xpW, xoW, xhW, xkW, dkW, obD]
  refine X_icmp_eq 1139 dL_law_952 (by decide) (fun _ => ?_) (fun h9 => absurd e9 h9)
  exact IH _ (RelP.mk hq hB hc hL hLm hr hP hPm hk hT hG hf hTb hTp hw hwn hp hl hit)
set_option maxHeartbeats 300000 in
theorem law_judge {tO bs L xr mr i : Nat} {xs : Nat → Int32} {ws : zW} {u : Nat × Nat} (hi : i + 5 ≤ L) (hLL : L ≤ 2560) (hu : u.1 ≤ 600000 ∧ u.2 ≤ 7302250) (hR : RelP xr mr ws) (IH : ∀ ws2, RelP xr mr ws2 → VX tO bs L xs u ws2 1139 [some (.ref bs), some (.ref xr), some (.ref mr), some (.int (nI i))] []) : VX tO bs L xs u ws 957 [some (.ref bs), some (.ref xr), some (.ref mr), some (.int (nI i))] [] := by
  refine hR (fun z => VX tO bs L xs u z 957 [some (.ref bs), some (.ref xr), some (.ref mr), some (.int (nI i))] []) ?_
  clear hR ws
  intro aX A q n m cut rows q2 n2 m2 ms2 mk2 mT gq gn gK gmo gmy gun fd wn kq kn kc kr kt yw cu cv ck rm mo bo ki wa wr fo W Im RX RcX Kp Vp W2 Hd2 Im2 O2 E2 RX2 Rc2 K2 V2 WT ImT OT ET Rg Fg Tb Rs Pb Ce Wb R KR P KP Od Ig Pk Lt Lk Rd Nx Tp Pa Wy Sz It B B2 BT KB Ls L2 T pk pv pk2 pv2 hq hB hc hL hLm hr hP hPm hk hT hG hf hTb hTp hw hwn hp hl hit
  refine X_aload_n dL_law_957 rfl ?_
  refine X_arg 958 1 dL_law_958 dL_law_959 dL_law_960 (by decide) dL_law_961 dL_law_962 rfl rfl (by omega) hLL ?_
  refine X_callV0 (As := [.int (xs (i + 1))]) [0, 45, 46, 47, 1, 4, 5] (s_X11_judge (d := 60) (by decide) (hB.len256 hq) (hB.m hq.2.2.2.2) (fun k hk => hB.w hq.2.2.2.2 hk) hl) gL_law_X11_judge dL_law_963 oX11_judge rfl rfl rfl rfl (Nat.le_of_ble_eq_true rfl) (by decide) hu ?_
  rintro _ _ ⟨rfl, rfl⟩
  simp only [zput_n, zput_c, List.set_cons_zero, List.set_cons_succ, Option.toList, List.nil_append, List.cons_append, xaW, xbW, xpW, xoW, xhW, xkW, dkW, obD]
  refine X_aload_n dL_law_966 rfl ?_
  refine X_arg 967 1 dL_law_967 dL_law_968 dL_law_969 (by decide) dL_law_970 dL_law_971 rfl rfl (by omega) hLL ?_
  refine X_callV0 (As := [.int (xs (i + 1))]) [48, 49, 66, 67] (s_X12_judge (d := 60) (by decide) hl) gL_law_X12_judge dL_law_972 oX12_judge rfl rfl rfl rfl (Nat.le_of_ble_eq_true rfl) (by decide) hu ?_
  rintro _ _ ⟨rfl, rfl⟩
  simp only [zput_n, zput_c, List.set_cons_zero, List.set_cons_succ, Option.toList, List.nil_append, List.cons_append, xaW, xbW, xpW, xoW, xhW, xkW, dkW, obD]
  refine X_icmp_eq 1139 dL_law_975 (by decide) (fun _ => ?_) (fun h9 => absurd (ju_eq hl hit) h9)
  exact IH _ (RelP.mk hq hB hc hL hLm hr hP hPm hk hT hG hf hTb hTp hw hwn hp hl hit)
set_option maxHeartbeats 300000 in
theorem law_list {tO bs L xr mr i : Nat} {xs : Nat → Int32} {ws : zW} {u : Nat × Nat} (hi : i + 5 ≤ L) (hLL : L ≤ 2560) (hu : u.1 ≤ 600000 ∧ u.2 ≤ 7302250) (hR : RelP xr mr ws) (IH : ∀ ws2, RelP xr mr ws2 → VX tO bs L xs u ws2 1139 [some (.ref bs), some (.ref xr), some (.ref mr), some (.int (nI i))] []) : VX tO bs L xs u ws 980 [some (.ref bs), some (.ref xr), some (.ref mr), some (.int (nI i))] [] := by
  refine hR (fun z => VX tO bs L xs u z 980 [some (.ref bs), some (.ref xr), some (.ref mr), some (.int (nI i))] []) ?_
  clear hR ws
  intro aX A q n m cut rows q2 n2 m2 ms2 mk2 mT gq gn gK gmo gmy gun fd wn kq kn kc kr kt yw cu cv ck rm mo bo ki wa wr fo W Im RX RcX Kp Vp W2 Hd2 Im2 O2 E2 RX2 Rc2 K2 V2 WT ImT OT ET Rg Fg Tb Rs Pb Ce Wb R KR P KP Od Ig Pk Lt Lk Rd Nx Tp Pa Wy Sz It B B2 BT KB Ls L2 T pk pv pk2 pv2 hq hB hc hL hLm hr hP hPm hk hT hG hf hTb hTp hw hwn hp hl hit
  refine X_aload_n dL_law_980 rfl ?_
  refine X_arg 981 1 dL_law_981 dL_law_982 dL_law_983 (by decide) dL_law_984 dL_law_985 rfl rfl (by omega) hLL ?_
  refine X_arg 986 2 dL_law_986 dL_law_987 dL_law_988 (by decide) dL_law_989 dL_law_990 rfl rfl (by omega) hLL ?_
  refine X_callV0 (As := [.int (xs (i + 1)), .int (xs (i + 2))]) [0, 45, 46, 47] (s_X11_list (d := 60) (by decide) ) gL_law_X11_list dL_law_991 oX11_list rfl rfl rfl rfl (Nat.le_of_ble_eq_true rfl) (by decide) hu ?_
  rintro _ _ ⟨rfl, rfl⟩
  simp only [zput_n, zput_c, List.set_cons_zero, List.set_cons_succ, Option.toList, List.nil_append, List.cons_append, xaW, xbW, xpW, xoW, xhW, xkW, dkW, obD]
  refine X_aload_n dL_law_994 rfl ?_
  refine X_arg 995 1 dL_law_995 dL_law_996 dL_law_997 (by decide) dL_law_998 dL_law_999 rfl rfl (by omega) hLL ?_
  refine X_arg 1000 2 dL_law_1000 dL_law_1001 dL_law_1002 (by decide) dL_law_1003 dL_law_1004 rfl rfl (by omega) hLL ?_
  refine X_callV0 (As := [.int (xs (i + 1)), .int (xs (i + 2))]) [48, 66, 67] (s_X12_list (d := 60) (by decide) ) gL_law_X12_list dL_law_1005 oX12_list rfl rfl rfl rfl (Nat.le_of_ble_eq_true rfl) (by decide) hu ?_
  rintro _ _ ⟨rfl, rfl⟩
  simp only [zput_n, zput_c, List.set_cons_zero, List.set_cons_succ, Option.toList, List.nil_append, List.cons_append, xaW, xbW, xpW, xoW, xhW, xkW, dkW, obD]
  refine X_icmp_eq 1139 dL_law_1008 (by decide) (fun _ => ?_) (fun h9 => absurd rfl h9)
  exact IH _ (RelP.mk hq hB hc hL hLm hr hP hPm hk hT hG hf hTb hTp hw hwn hp (liL_ok hl) (liC_ok hl hit))
set_option maxHeartbeats 300000 in
theorem law_put {tO bs L xr mr i : Nat} {xs : Nat → Int32} {ws : zW} {u : Nat × Nat} (hi : i + 5 ≤ L) (hLL : L ≤ 2560) (hu : u.1 ≤ 600000 ∧ u.2 ≤ 7302250) (hR : RelP xr mr ws) (IH : ∀ ws2, RelP xr mr ws2 → VX tO bs L xs u ws2 1139 [some (.ref bs), some (.ref xr), some (.ref mr), some (.int (nI i))] []) : VX tO bs L xs u ws 1013 [some (.ref bs), some (.ref xr), some (.ref mr), some (.int (nI i))] [] := by
  refine hR (fun z => VX tO bs L xs u z 1013 [some (.ref bs), some (.ref xr), some (.ref mr), some (.int (nI i))] []) ?_
  clear hR ws
  intro aX A q n m cut rows q2 n2 m2 ms2 mk2 mT gq gn gK gmo gmy gun fd wn kq kn kc kr kt yw cu cv ck rm mo bo ki wa wr fo W Im RX RcX Kp Vp W2 Hd2 Im2 O2 E2 RX2 Rc2 K2 V2 WT ImT OT ET Rg Fg Tb Rs Pb Ce Wb R KR P KP Od Ig Pk Lt Lk Rd Nx Tp Pa Wy Sz It B B2 BT KB Ls L2 T pk pv pk2 pv2 hq hB hc hL hLm hr hP hPm hk hT hG hf hTb hTp hw hwn hp hl hit
  refine X_aload_n dL_law_1013 rfl ?_
  refine X_arg 1014 1 dL_law_1014 dL_law_1015 dL_law_1016 (by decide) dL_law_1017 dL_law_1018 rfl rfl (by omega) hLL ?_
  refine X_arg 1019 2 dL_law_1019 dL_law_1020 dL_law_1021 (by decide) dL_law_1022 dL_law_1023 rfl rfl (by omega) hLL ?_
  refine X_arg 1024 3 dL_law_1024 dL_law_1025 dL_law_1026 (by decide) dL_law_1027 dL_law_1028 rfl rfl (by omega) hLL ?_
  refine X_callV0 (As := [.int (xs (i + 1)), .int (xs (i + 2)), .int (xs (i + 3))]) [0, 45, 46, 47] (s_X11_put (d := 60) (by decide) hl) gL_law_X11_put dL_law_1029 oX11_put rfl rfl rfl rfl (Nat.le_of_ble_eq_true rfl) (by decide) hu ?_
  rintro _ _ ⟨rfl, rfl⟩
  simp only [zput_n, zput_c, List.set_cons_zero, List.set_cons_succ, Option.toList, List.nil_append, List.cons_append, xaW, xbW, xpW, xoW, xhW, xkW, dkW, obD]
  refine X_aload_n dL_law_1032 rfl ?_
  refine X_arg 1033 1 dL_law_1033 dL_law_1034 dL_law_1035 (by decide) dL_law_1036 dL_law_1037 rfl rfl (by omega) hLL ?_
  refine X_arg 1038 2 dL_law_1038 dL_law_1039 dL_law_1040 (by decide) dL_law_1041 dL_law_1042 rfl rfl (by omega) hLL ?_
  refine X_arg 1043 3 dL_law_1043 dL_law_1044 dL_law_1045 (by decide) dL_law_1046 dL_law_1047 rfl rfl (by omega) hLL ?_
  refine X_callV0 (As := [.int (xs (i + 1)), .int (xs (i + 2)), .int (xs (i + 3))]) [48, 66, 67] (s_X12_put (d := 60) (by decide) hl) gL_law_X12_put dL_law_1048 oX12_put rfl rfl rfl rfl (Nat.le_of_ble_eq_true rfl) (by decide) hu ?_
  rintro _ _ ⟨rfl, rfl⟩
  simp only [zput_n, zput_c, List.set_cons_zero, List.set_cons_succ, Option.toList, List.nil_append, List.cons_append, xaW, xbW, xpW, xoW, xhW, xkW, dkW, obD]
  refine X_icmp_eq 1139 dL_law_1051 (by decide) (fun _ => ?_) (fun h9 => absurd rfl h9)
  exact IH _ (RelP.mk hq hB hc hL hLm hr hP hPm hk hT hG hf hTb hTp hw hwn hp hl (puC_ok hit))
set_option maxHeartbeats 300000 in
theorem law_get {tO bs L xr mr i : Nat} {xs : Nat → Int32} {ws : zW} {u : Nat × Nat} (hi : i + 5 ≤ L) (hLL : L ≤ 2560) (hu : u.1 ≤ 600000 ∧ u.2 ≤ 7302250) (hR : RelP xr mr ws) (IH : ∀ ws2, RelP xr mr ws2 → VX tO bs L xs u ws2 1139 [some (.ref bs), some (.ref xr), some (.ref mr), some (.int (nI i))] []) : VX tO bs L xs u ws 1056 [some (.ref bs), some (.ref xr), some (.ref mr), some (.int (nI i))] [] := by
  refine hR (fun z => VX tO bs L xs u z 1056 [some (.ref bs), some (.ref xr), some (.ref mr), some (.int (nI i))] []) ?_
  clear hR ws
  intro aX A q n m cut rows q2 n2 m2 ms2 mk2 mT gq gn gK gmo gmy gun fd wn kq kn kc kr kt yw cu cv ck rm mo bo ki wa wr fo W Im RX RcX Kp Vp W2 Hd2 Im2 O2 E2 RX2 Rc2 K2 V2 WT ImT OT ET Rg Fg Tb Rs Pb Ce Wb R KR P KP Od Ig Pk Lt Lk Rd Nx Tp Pa Wy Sz It B B2 BT KB Ls L2 T pk pv pk2 pv2 hq hB hc hL hLm hr hP hPm hk hT hG hf hTb hTp hw hwn hp hl hit
  refine X_aload_n dL_law_1056 rfl ?_
  refine X_arg 1057 1 dL_law_1057 dL_law_1058 dL_law_1059 (by decide) dL_law_1060 dL_law_1061 rfl rfl (by omega) hLL ?_
  refine X_arg 1062 2 dL_law_1062 dL_law_1063 dL_law_1064 (by decide) dL_law_1065 dL_law_1066 rfl rfl (by omega) hLL ?_
  refine X_callV0 (As := [.int (xs (i + 1)), .int (xs (i + 2))]) [0, 45, 46, 47] (s_X11_get (d := 60) (by decide) hl) gL_law_X11_get dL_law_1067 oX11_get rfl rfl rfl rfl (Nat.le_of_ble_eq_true rfl) (by decide) hu ?_
  rintro _ _ ⟨rfl, rfl⟩
  simp only [zput_n, zput_c, List.set_cons_zero, List.set_cons_succ, Option.toList, List.nil_append, List.cons_append, xaW, xbW, xpW, xoW, xhW, xkW, dkW, obD]
  refine X_aload_n dL_law_1070 rfl ?_
  refine X_arg 1071 1 dL_law_1071 dL_law_1072 dL_law_1073 (by decide) dL_law_1074 dL_law_1075 rfl rfl (by omega) hLL ?_
  refine X_arg 1076 2 dL_law_1076 dL_law_1077 dL_law_1078 (by decide) dL_law_1079 dL_law_1080 rfl rfl (by omega) hLL ?_
  refine X_callV0 (As := [.int (xs (i + 1)), .int (xs (i + 2))]) [48, 66, 67] (s_X12_get (d := 60) (by decide) hl) gL_law_X12_get dL_law_1081 oX12_get rfl rfl rfl rfl (Nat.le_of_ble_eq_true rfl) (by decide) hu ?_
  rintro _ _ ⟨rfl, rfl⟩
  simp only [zput_n, zput_c, List.set_cons_zero, List.set_cons_succ, Option.toList, List.nil_append, List.cons_append, xaW, xbW, xpW, xoW, xhW, xkW, dkW, obD]
  refine X_lcmp dL_law_1084 ?_
  refine X_if_eq 1139 dL_law_1085 (by decide) (fun _ => ?_) (fun h9 => absurd ((lg_cmp_eq _ _).mpr (ge_eq hl hit)) h9)
  exact IH _ (RelP.mk hq hB hc hL hLm hr hP hPm hk hT hG hf hTb hTp hw hwn hp hl hit)
set_option maxHeartbeats 300000 in
theorem law_image {tO bs L xr mr i : Nat} {xs : Nat → Int32} {ws : zW} {u : Nat × Nat} (hi : i + 5 ≤ L) (hLL : L ≤ 2560) (hu : u.1 ≤ 600000 ∧ u.2 ≤ 7302250) (hR : RelP xr mr ws) (IH : ∀ ws2, RelP xr mr ws2 → VX tO bs L xs u ws2 1139 [some (.ref bs), some (.ref xr), some (.ref mr), some (.int (nI i))] []) : VX tO bs L xs u ws 1090 [some (.ref bs), some (.ref xr), some (.ref mr), some (.int (nI i))] [] := by
  refine hR (fun z => VX tO bs L xs u z 1090 [some (.ref bs), some (.ref xr), some (.ref mr), some (.int (nI i))] []) ?_
  clear hR ws
  intro aX A q n m cut rows q2 n2 m2 ms2 mk2 mT gq gn gK gmo gmy gun fd wn kq kn kc kr kt yw cu cv ck rm mo bo ki wa wr fo W Im RX RcX Kp Vp W2 Hd2 Im2 O2 E2 RX2 Rc2 K2 V2 WT ImT OT ET Rg Fg Tb Rs Pb Ce Wb R KR P KP Od Ig Pk Lt Lk Rd Nx Tp Pa Wy Sz It B B2 BT KB Ls L2 T pk pv pk2 pv2 hq hB hc hL hLm hr hP hPm hk hT hG hf hTb hTp hw hwn hp hl hit
  refine X_aload_n dL_law_1090 rfl ?_
  refine X_callV0 (As := []) [0, 1, 2, 3, 4, 5, 6, 7, 8, 9, 10, 11, 12, 13, 14, 15, 16, 17, 18, 19, 20, 21, 22, 23, 24, 25, 26, 27, 28, 29, 30] (s_X11_image (d := 60) (by decide) hq) gL_law_X11_image dL_law_1091 oX11_image rfl rfl rfl rfl (Nat.le_of_ble_eq_true rfl) (by decide) hu ?_
  rintro _ _ ⟨rfl, rfl⟩
  simp only [zput_n, zput_c, List.set_cons_zero, List.set_cons_succ, Option.toList, List.nil_append, List.cons_append, xaW, xbW, xpW, xoW, xhW, xkW, dkW, obD]
  refine X_aload_n dL_law_1094 rfl ?_
  refine X_callV0 (As := []) [48, 49, 50, 52, 53, 54, 55] (s_X12_image (d := 60) (by decide) ) gL_law_X12_image dL_law_1095 oX12_image rfl rfl rfl rfl (Nat.le_of_ble_eq_true rfl) (by decide) hu ?_
  rintro _ _ ⟨rfl, rfl⟩
  simp only [zput_n, zput_c, List.set_cons_zero, List.set_cons_succ, Option.toList, List.nil_append, List.cons_append, xaW, xbW, xpW, xoW, xhW, xkW, dkW, obD]
  refine X_icmp_eq 1139 dL_law_1098 (by decide) (fun _ => ?_) (fun h9 => absurd (congrArg nI (hB.m hq.2.2.2.2).symm) h9)
  exact IH _ (RelP.mk hq hB hc hL hLm hr hP hPm (fun _ => ⟨⟨rfl, rfl, rfl, rfl, rfl⟩, ⟨hq, hB⟩, ⟨rfl, rfl, rfl⟩, ⟨hc, hL, hLm⟩, hr, hP, hPm⟩) hT hG hf hTb hTp hw hwn hp hl hit)
set_option maxHeartbeats 300000 in
theorem law_undo {tO bs L xr mr i : Nat} {xs : Nat → Int32} {ws : zW} {u : Nat × Nat} (hi : i + 5 ≤ L) (hLL : L ≤ 2560) (hu : u.1 ≤ 600000 ∧ u.2 ≤ 7302250) (hR : RelP xr mr ws) (IH : ∀ ws2, RelP xr mr ws2 → VX tO bs L xs u ws2 1139 [some (.ref bs), some (.ref xr), some (.ref mr), some (.int (nI i))] []) : VX tO bs L xs u ws 1103 [some (.ref bs), some (.ref xr), some (.ref mr), some (.int (nI i))] [] := by
  refine hR (fun z => VX tO bs L xs u z 1103 [some (.ref bs), some (.ref xr), some (.ref mr), some (.int (nI i))] []) ?_
  clear hR ws
  intro aX A q n m cut rows q2 n2 m2 ms2 mk2 mT gq gn gK gmo gmy gun fd wn kq kn kc kr kt yw cu cv ck rm mo bo ki wa wr fo W Im RX RcX Kp Vp W2 Hd2 Im2 O2 E2 RX2 Rc2 K2 V2 WT ImT OT ET Rg Fg Tb Rs Pb Ce Wb R KR P KP Od Ig Pk Lt Lk Rd Nx Tp Pa Wy Sz It B B2 BT KB Ls L2 T pk pv pk2 pv2 hq hB hc hL hLm hr hP hPm hk hT hG hf hTb hTp hw hwn hp hl hit
  cases kt with
  | false =>
    refine X_aload_n dL_law_1103 rfl ?_
    refine X_callV0 (As := []) [0] (s_X11_undoN (d := 60) (by decide)) gL_law_X11_undo dL_law_1104 oX11_undo rfl rfl rfl rfl (Nat.le_of_ble_eq_true rfl) (by decide) hu ?_
    rintro _ _ ⟨rfl, rfl⟩
    simp only [zput_n, zput_c, List.set_cons_zero, List.set_cons_succ, Option.toList, List.nil_append, List.cons_append, xaW, xbW, xpW, xoW, xhW, xkW, dkW, obD]
    refine X_aload_n dL_law_1107 rfl ?_
    refine X_callV0 (As := []) [48, 49, 50, 52, 53, 54, 55] (s_X12_undoN (d := 60) (by decide)) gL_law_X12_undo dL_law_1108 oX12_undo rfl rfl rfl rfl (Nat.le_of_ble_eq_true rfl) (by decide) hu ?_
    rintro _ _ ⟨rfl, rfl⟩
    simp only [zput_n, zput_c, List.set_cons_zero, List.set_cons_succ, Option.toList, List.nil_append, List.cons_append, xaW, xbW, xpW, xoW, xhW, xkW, dkW, obD]
    refine X_icmp_eq 1139 dL_law_1111 (by decide) (fun _ => ?_) (fun h9 => absurd rfl h9)
    exact IH _ (RelP.mk (Ls := Ls) (T := T) (pk := pk) (pv := pv) hq hB hc hL hLm hr hP hPm hk hT hG hf hTb hTp hw hwn hp hl hit)
  | true =>
    obtain ⟨⟨rfl, rfl, rfl, rfl, rfl⟩, ⟨ho, hb⟩, ⟨rfl, rfl, rfl⟩, ⟨h4, h5, h6⟩, h7, h8, h9⟩ := hk rfl
    refine X_aload_n dL_law_1103 rfl ?_
    refine X_callV0 (As := []) [0, 1, 2, 3, 4, 5, 6, 7, 8, 9, 10, 11, 12, 13, 14, 15, 16, 17, 18, 19, 20, 21, 22, 23, 24, 25, 26, 27, 28, 29, 30] (s_X11_undo (d := 60) (by decide) ho) gL_law_X11_undo dL_law_1104 oX11_undo rfl rfl rfl rfl (Nat.le_of_ble_eq_true rfl) (by decide) hu ?_
    rintro _ _ ⟨rfl, rfl⟩
    simp only [zput_n, zput_c, List.set_cons_zero, List.set_cons_succ, Option.toList, List.nil_append, List.cons_append, xaW, xbW, xpW, xoW, xhW, xkW, dkW, obD]
    refine X_aload_n dL_law_1107 rfl ?_
    refine X_callV0 (As := []) [48, 49, 50, 52, 53, 54, 55] (s_X12_undo (d := 60) (by decide)) gL_law_X12_undo dL_law_1108 oX12_undo rfl rfl rfl rfl (Nat.le_of_ble_eq_true rfl) (by decide) hu ?_
    rintro _ _ ⟨rfl, rfl⟩
    simp only [zput_n, zput_c, List.set_cons_zero, List.set_cons_succ, Option.toList, List.nil_append, List.cons_append, xaW, xbW, xpW, xoW, xhW, xkW, dkW, obD]
    refine X_icmp_eq 1139 dL_law_1111 (by decide) (fun _ => ?_) (fun h9 => absurd (congrArg nI (hb.m ho.2.2.2.2).symm) h9)
    exact IH _ (RelP.mk ho hb h4 h5 h6 h7 h8 h9 (fun _ => ⟨⟨rfl, rfl, rfl, rfl, rfl⟩, ⟨ho, hb⟩, ⟨rfl, rfl, rfl⟩, ⟨h4, h5, h6⟩, h7, h8, h9⟩) hT hG hf hTb hTp hw hwn hp hl hit)
set_option maxHeartbeats 300000 in
theorem law_count {tO bs L xr mr i : Nat} {xs : Nat → Int32} {ws : zW} {u : Nat × Nat} (hi : i + 5 ≤ L) (hLL : L ≤ 2560) (hu : u.1 ≤ 600000 ∧ u.2 ≤ 7302250) (hR : RelP xr mr ws) (IH : ∀ ws2, RelP xr mr ws2 → VX tO bs L xs u ws2 1139 [some (.ref bs), some (.ref xr), some (.ref mr), some (.int (nI i))] []) : VX tO bs L xs u ws 1116 [some (.ref bs), some (.ref xr), some (.ref mr), some (.int (nI i))] [] := by
  refine hR (fun z => VX tO bs L xs u z 1116 [some (.ref bs), some (.ref xr), some (.ref mr), some (.int (nI i))] []) ?_
  clear hR ws
  intro aX A q n m cut rows q2 n2 m2 ms2 mk2 mT gq gn gK gmo gmy gun fd wn kq kn kc kr kt yw cu cv ck rm mo bo ki wa wr fo W Im RX RcX Kp Vp W2 Hd2 Im2 O2 E2 RX2 Rc2 K2 V2 WT ImT OT ET Rg Fg Tb Rs Pb Ce Wb R KR P KP Od Ig Pk Lt Lk Rd Nx Tp Pa Wy Sz It B B2 BT KB Ls L2 T pk pv pk2 pv2 hq hB hc hL hLm hr hP hPm hk hT hG hf hTb hTp hw hwn hp hl hit
  refine X_aload_n dL_law_1116 rfl ?_
  refine X_arg 1117 1 dL_law_1117 dL_law_1118 dL_law_1119 (by decide) dL_law_1120 dL_law_1121 rfl rfl (by omega) hLL ?_
  refine X_callV0 (As := [.int (xs (i + 1))]) [0, 1, 2, 3, 4, 10, 13, 40, 43] (s_X11_count (d := 60) (by decide) hq) gL_law_X11_count dL_law_1122 oX11_count rfl rfl rfl rfl (Nat.le_of_ble_eq_true rfl) (by decide) hu ?_
  rintro _ _ ⟨rfl, rfl⟩
  simp only [zput_n, zput_c, List.set_cons_zero, List.set_cons_succ, Option.toList, List.nil_append, List.cons_append, xaW, xbW, xpW, xoW, xhW, xkW, dkW, obD]
  refine X_aload_n dL_law_1125 rfl ?_
  refine X_arg 1126 1 dL_law_1126 dL_law_1127 dL_law_1128 (by decide) dL_law_1129 dL_law_1130 rfl rfl (by omega) hLL ?_
  refine X_callV0 (As := [.int (xs (i + 1))]) [48, 49] (s_X12_count (d := 60) (by decide) hq) gL_law_X12_count dL_law_1131 oX12_count rfl rfl rfl rfl (Nat.le_of_ble_eq_true rfl) (by decide) hu ?_
  rintro _ _ ⟨rfl, rfl⟩
  simp only [zput_n, zput_c, List.set_cons_zero, List.set_cons_succ, Option.toList, List.nil_append, List.cons_append, xaW, xbW, xpW, xoW, xhW, xkW, dkW, obD]
  refine X_icmp_eq 1139 dL_law_1134 (by decide) (fun _ => ?_) (fun h9 => absurd (by rw [hB.m hq.2.2.2.2]) h9)
  exact IH _ (RelP.mk hq hB hc hL hLm hr hP hPm hk hT hG hf hTb hTp hw hwn hp hl hit)
