/-! the law: the calls, one by one -/
theorem caN_le {q m : Nat} {x : Int32} (h : m ≤ 40) : caN q m x ≤ 40 := by
  unfold caN
  split
  · split <;> omega
  · exact h
theorem seN_le {q n m : Nat} {x : Int32} (h : m ≤ 40) : seN q n m x ≤ 40 := by
  unfold seN
  split
  · split <;> omega
  · exact h
theorem tnN_le {m : Nat} {x : Int32} (h : m ≤ 40) : tnN m x ≤ 40 := by
  unfold tnN
  split <;> omega
theorem plN_le {m : Nat} {x y : Int32} (h : m ≤ 8) : plN m x y ≤ 8 := by
  unfold plN
  split
  · omega
  · split
    · split
      · split <;> omega
      · exact h
    · exact h
theorem feN_le {m : Nat} {x : Int32} (h : m ≤ 60) : feN m x ≤ 60 := by
  unfold feN
  split
  · split <;> omega
  · exact h
theorem txN_wn {q n m : Nat} {B : Nat → Bool} {W : Nat → Int32} (h : OKq q n) (hB : Bk (q ^ n) B W m) : txN n m ≤ 1457 := by
  have := txN_le h hB.len
  unfold txN
  omega
theorem Bk.len256 {q n m : Nat} {B : Nat → Bool} {W : Nat → Int32} (hB : Bk (q ^ n) B W m) (h : OKq q n) : m ≤ 256 := Nat.le_trans hB.len h.2.2.2.2
def ItOK (Sz Ce It : Nat → Int32) : Prop := ∀ l, l < 4 → ∀ k, k ≤ 12 → Sz l = nI k → ∀ i, i < k → Ce (l * 12 + i) = It (l * 12 + i)
theorem juF_eq {B : Nat → Bool} {Ce It : Nat → Int32} {l : Nat} : ∀ (f i k : Nat), i + f = k → (∀ j, j < k → Ce (l * 12 + j) = It (l * 12 + j)) → juF B Ce l f i = juF B It l f i
  | 0, _, _, _, _ => rfl
  | f + 1, i, k, h, hh => by
    rw [juF, juF, hh i (by omega), juF_eq f (i + 1) k (by omega) hh]
theorem ju_eq {B : Nat → Bool} {Sz Ce It : Nat → Int32} {x : Int32} (hl : LnOK Sz) (h : ItOK Sz Ce It) : juV B Sz Ce x = juV B Sz It x := by
  unfold juV
  by_cases hx : isW 4 x = true
  · obtain ⟨l, hl4, rfl⟩ := isW_of hx
    rw [if_pos hx, if_pos hx, toNat_nI (by omega)]
    rcases hl l hl4 with e | ⟨k, hk, e⟩
    · rw [e, if_pos (by decide), if_pos (by decide)]
    · rw [e, toNat_nI (by omega), juF_eq k 0 k (by omega) (h l hl4 k hk e)]
  · rw [if_neg hx, if_neg hx]
theorem ge_eq {Sz Ce It : Nat → Int32} {x y : Int32} (hl : LnOK Sz) (h : ItOK Sz Ce It) : geV Sz Ce x y = geV Sz It x y := by
  unfold geV
  by_cases hx : isW 4 x = true
  · obtain ⟨l, hl4, rfl⟩ := isW_of hx
    rw [if_pos hx, if_pos hx, toNat_nI (by omega)]
    rcases hl l hl4 with e | ⟨k, hk, e⟩
    · rw [e, show (-1 : Int32).toInt.toNat = 0 from by decide]
      by_cases hy : isW 0 y = true
      · obtain ⟨j, hj, -⟩ := isW_of hy; omega
      · rw [if_neg hy, if_neg hy]
    · rw [e, toNat_nI (by omega)]
      by_cases hy : isW k y = true
      · obtain ⟨j, hj, rfl⟩ := isW_of hy
        rw [if_pos hy, if_pos hy, toNat_nI (by omega), h l hl4 k hk e j hj]
      · rw [if_neg hy, if_neg hy]
  · rw [if_neg hx, if_neg hx]
theorem liL_ok {Sz : Nat → Int32} {x y : Int32} (hl : LnOK Sz) : LnOK (liL x y Sz) := by
  unfold liL
  split
  · split
    · next hy =>
      obtain ⟨k, hk, rfl⟩ := isW_of hy
      intro l h4
      unfold upd
      split
      · exact Or.inr ⟨k, by omega, rfl⟩
      · exact hl l h4
    · exact hl
  · exact hl
theorem liC_ok {Sz Ce It : Nat → Int32} {x y : Int32} (hl : LnOK Sz) (h : ItOK Sz Ce It) : ItOK (liL x y Sz) (liC x y Ce) (liM x y It) := by
  unfold liL liC liM
  split
  · next hx =>
    split
    · next hy =>
      obtain ⟨l0, hl0, rfl⟩ := isW_of hx
      obtain ⟨k0, hk0, rfl⟩ := isW_of hy
      rw [toNat_nI (by omega), toNat_nI (by omega)]
      intro l h4 k hk hs j hj
      unfold upd at hs
      dsimp only
      by_cases e : l = l0
      · subst e
        rw [if_pos rfl, nI_eq (by omega) (by omega)] at hs
        rw [if_pos (by omega), if_pos (by omega)]
      · rw [if_neg e] at hs
        rw [if_neg (by omega), if_neg (by omega)]
        exact h l h4 k hk hs j hj
    · exact h
  · exact h
theorem puC_ok {Sz Ce It : Nat → Int32} {x y z : Int32} (h : ItOK Sz Ce It) : ItOK Sz (puC Sz x y z Ce) (puC Sz x y z It) := by
  unfold puC
  split
  · split
    · exact h
    · split
      · intro l h4 k hk hs j hj
        unfold upd
        split
        · rfl
        · exact h l h4 k hk hs j hj
      · exact h
  · exact h
set_option maxHeartbeats 300000 in
theorem law_word {tO bs L xr mr i : Nat} {xs : Nat → Int32} {ws : zW} {u : Nat × Nat} (hi : i + 5 ≤ L) (hLL : L ≤ 2560) (hu : u.1 ≤ 600000 ∧ u.2 ≤ 7302250) (hR : RelP xr mr ws) (IH : ∀ ws2, RelP xr mr ws2 → VX tO bs L xs u ws2 1139 [some (.ref bs), some (.ref xr), some (.ref mr), some (.int (nI i))] []) : VX tO bs L xs u ws 288 [some (.ref bs), some (.ref xr), some (.ref mr), some (.int (nI i))] [] := by
  obtain ⟨aX, A, q, n, m, cut, rows, q2, n2, m2, ms2, mk2, mT, gq, gn, gK, gmo, gmy, gun, fd, wn, kq, kn, kc, kr, kt, yw, cu, cv, ck, rm, mo, bo, ki, wa, wr, fo, W, Im, RX, RcX, Kp, Vp, W2, Hd2, Im2, O2, E2, RX2, Rc2, K2, V2, WT, ImT, OT, ET, Rg, Fg, Tb, Rs, Pb, Ce, Wb, R, KR, P, KP, Od, Ig, Pk, Lt, Lk, Rd, Nx, Tp, Pa, Wy, Sz, It, B, B2, BT, KB, Ls, L2, T, pk, pv, pk2, pv2, rfl, hq, hB, hc, hL, hLm, hr, hP, hPm, hk, hT, hG, hf, hTb, hTp, hw, hwn, hp, hl, hit⟩ := hR
  refine X_aload_n dL_law_288 rfl ?_
  refine X_arg 289 1 dL_law_289 dL_law_290 dL_law_291 (by decide) dL_law_292 dL_law_293 rfl rfl (by omega) hLL ?_
  refine X_callV0 (As := [.int (xs (i + 1))]) [0, 1, 4, 5, 6, 7, 8, 9, 2, 3] (s_X11_word (d := 60) (by decide) hq hB) gL_law_X11_word dL_law_294 oX11_word rfl rfl rfl rfl (Nat.le_of_ble_eq_true rfl) (by decide) hu ?_
  rintro _ _ ⟨rfl, rfl⟩
  simp only [zput_n, zput_c, List.set_cons_zero, List.set_cons_succ, Option.toList, List.nil_append, List.cons_append, xaW, xbW, xpW, xoW, xhW, xkW, dkW, obD]
  refine X_aload_n dL_law_297 rfl ?_
  refine X_arg 298 1 dL_law_298 dL_law_299 dL_law_300 (by decide) dL_law_301 dL_law_302 rfl rfl (by omega) hLL ?_
  refine X_callV0 (As := [.int (xs (i + 1))]) [48, 49] (s_X12_word (d := 60) (by decide) ) gL_law_X12_word dL_law_303 oX12_word rfl rfl rfl rfl (Nat.le_of_ble_eq_true rfl) (by decide) hu ?_
  rintro _ _ ⟨rfl, rfl⟩
  simp only [zput_n, zput_c, List.set_cons_zero, List.set_cons_succ, Option.toList, List.nil_append, List.cons_append, xaW, xbW, xpW, xoW, xhW, xkW, dkW, obD]
  refine X_icmp_eq 1139 dL_law_306 (by decide) (fun _ => ?_) (fun h9 => absurd rfl h9)
  exact IH _ ⟨_, _, _, _, _, _, _, _, _, _, _, _, _, _, _, _, _, _, _, _, _, _, _, _, _, _, _, _, _, _, _, _, _, _, _, _, _, _, _, _, _, _, _, _, _, _, _, _, _, _, _, _, _, _, _, _, _, _, _, _, _, _, _, _, _, _, _, _, _, _, _, _, _, _, _, _, _, _, _, _, _, _, _, _, _, _, _, _, _, _, rfl, hq, hB, hc, hL, hLm, hr, hP, hPm, hk, hT, hG, hf, hTb, hTp, hw, hwn, hp, hl, hit⟩
