/-! the law's loop, its start -/
theorem and63 (x : Int32) : ∃ k, k < 64 ∧ x &&& nI 63 = nI k := by
  refine ⟨(x.toBitVec &&& 63#32).toNat, ?_, ?_⟩
  · rw [BitVec.toNat_and]
    exact Nat.lt_of_le_of_lt Nat.and_le_right (by decide)
  · apply Int32.toBitVec_inj.mp
    show x.toBitVec &&& 63#32 = BitVec.ofNat 32 (x.toBitVec &&& 63#32).toNat
    rw [BitVec.ofNat_toNat, BitVec.setWidth_eq]
theorem ltL_of {i L : Nat} (hi : i ≤ L) (hL : L ≤ 2560) (h : ¬ nI L - nI 5 < nI i) : i + 5 ≤ L := by
  have e : (nI L - nI 5).toInt = (L : Int) - 5 := by
    rw [Int32.toInt_sub, nI_toInt (by omega), nI_toInt (by omega)]
    rw [Int.bmod_eq_of_le] <;> omega
  rw [Int32.lt_iff_toInt_lt, e, nI_toInt (by omega)] at h
  omega
set_option maxHeartbeats 4000000 in
theorem law_step {tO bs L xr mr i : Nat} {xs : Nat → Int32} {ws : zW} {u : Nat × Nat} (hi : i + 5 ≤ L) (hLL : L ≤ 2560) (hu : u.1 ≤ 600000 ∧ u.2 ≤ 7302250) (hR : RelP xr mr ws) (IH : ∀ ws2, RelP xr mr ws2 → VX tO bs L xs u ws2 1139 [some (.ref bs), some (.ref xr), some (.ref mr), some (.int (nI i))] []) : VX tO bs L xs u ws 26 [some (.ref bs), some (.ref xr), some (.ref mr), some (.int (nI i))] [] := by
  refine X_aload_n dL_law_26 rfl ?_
  refine X_iload_n dL_law_27 rfl ?_
  refine X_sld dL_law_28 (vp_in_nI (by omega) (by omega)) ?_
  refine X_bipush (v := nI 63) dL_law_29 (by decide) ?_
  refine X_iand dL_law_31 ?_
  obtain ⟨k, hk, e⟩ := and63 (xs (nI i).toNatClampNeg)
  rw [e]
  by_cases h : k < 37
  · match k, h with
    | 0, _ => exact X_tableIn 196 dL_law_32 (by decide) (by decide) rfl (by decide) (law_size hi hLL hu hR IH)
    | 1, _ => exact X_tableIn 229 dL_law_32 (by decide) (by decide) rfl (by decide) (law_add hi hLL hu hR IH)
    | 2, _ => exact X_tableIn 252 dL_law_32 (by decide) (by decide) rfl (by decide) (law_drop hi hLL hu hR IH)
    | 3, _ => exact X_tableIn 275 dL_law_32 (by decide) (by decide) rfl (by decide) (law_clear hi hLL hu hR IH)
    | 4, _ => exact X_tableIn 288 dL_law_32 (by decide) (by decide) rfl (by decide) (law_word hi hLL hu hR IH)
    | 5, _ => exact X_tableIn 311 dL_law_32 (by decide) (by decide) rfl (by decide) (law_letter hi hLL hu hR IH)
    | 6, _ => exact X_tableIn 344 dL_law_32 (by decide) (by decide) rfl (by decide) (law_hides hi hLL hu hR IH)
    | 7, _ => exact X_tableIn 387 dL_law_32 (by decide) (by decide) rfl (by decide) (law_clash hi hLL hu hR IH)
    | 8, _ => exact X_tableIn 410 dL_law_32 (by decide) (by decide) rfl (by decide) (law_may hi hLL hu hR IH)
    | 9, _ => exact X_tableIn 433 dL_law_32 (by decide) (by decide) rfl (by decide) (law_mays hi hLL hu hR IH)
    | 10, _ => exact X_tableIn 456 dL_law_32 (by decide) (by decide) rfl (by decide) (law_ring hi hLL hu hR IH)
    | 11, _ => exact X_tableIn 489 dL_law_32 (by decide) (by decide) rfl (by decide) (law_bound hi hLL hu hR IH)
    | 12, _ => exact X_tableIn 512 dL_law_32 (by decide) (by decide) rfl (by decide) (law_great hi hLL hu hR IH)
    | 13, _ => exact X_tableIn 545 dL_law_32 (by decide) (by decide) rfl (by decide) (law_swapped hi hLL hu hR IH)
    | 14, _ => exact X_tableIn 578 dL_law_32 (by decide) (by decide) rfl (by decide) (law_swap hi hLL hu hR IH)
    | 15, _ => exact X_tableIn 601 dL_law_32 (by decide) (by decide) rfl (by decide) (law_keeps hi hLL hu hR IH)
    | 16, _ => exact X_tableIn 624 dL_law_32 (by decide) (by decide) rfl (by decide) (law_cast hi hLL hu hR IH)
    | 17, _ => exact X_tableIn 647 dL_law_32 (by decide) (by decide) rfl (by decide) (law_spell hi hLL hu hR IH)
    | 18, _ => exact X_tableIn 670 dL_law_32 (by decide) (by decide) rfl (by decide) (law_tear hi hLL hu hR IH)
    | 19, _ => exact X_tableIn 693 dL_law_32 (by decide) (by decide) rfl (by decide) (law_possible hi hLL hu hR IH)
    | 20, _ => exact X_tableIn 716 dL_law_32 (by decide) (by decide) rfl (by decide) (law_certain hi hLL hu hR IH)
    | 21, _ => exact X_tableIn 739 dL_law_32 (by decide) (by decide) rfl (by decide) (law_delay hi hLL hu hR IH)
    | 22, _ => exact X_tableIn 752 dL_law_32 (by decide) (by decide) rfl (by decide) (law_odds hi hLL hu hR IH)
    | 23, _ => exact X_tableIn 806 dL_law_32 (by decide) (by decide) rfl (by decide) (law_plan hi hLL hu hR IH)
    | 24, _ => exact X_tableIn 839 dL_law_32 (by decide) (by decide) rfl (by decide) (law_behind hi hLL hu hR IH)
    | 25, _ => exact X_tableIn 862 dL_law_32 (by decide) (by decide) rfl (by decide) (law_feed hi hLL hu hR IH)
    | 26, _ => exact X_tableIn 885 dL_law_32 (by decide) (by decide) rfl (by decide) (law_book hi hLL hu hR IH)
    | 27, _ => exact X_tableIn 898 dL_law_32 (by decide) (by decide) rfl (by decide) (law_why hi hLL hu hR IH)
    | 28, _ => exact X_tableIn 921 dL_law_32 (by decide) (by decide) rfl (by decide) (law_write hi hLL hu hR IH)
    | 29, _ => exact X_tableIn 934 dL_law_32 (by decide) (by decide) rfl (by decide) (law_paper hi hLL hu hR IH)
    | 30, _ => exact X_tableIn 957 dL_law_32 (by decide) (by decide) rfl (by decide) (law_judge hi hLL hu hR IH)
    | 31, _ => exact X_tableIn 980 dL_law_32 (by decide) (by decide) rfl (by decide) (law_list hi hLL hu hR IH)
    | 32, _ => exact X_tableIn 1013 dL_law_32 (by decide) (by decide) rfl (by decide) (law_put hi hLL hu hR IH)
    | 33, _ => exact X_tableIn 1056 dL_law_32 (by decide) (by decide) rfl (by decide) (law_get hi hLL hu hR IH)
    | 34, _ => exact X_tableIn 1090 dL_law_32 (by decide) (by decide) rfl (by decide) (law_image hi hLL hu hR IH)
    | 35, _ => exact X_tableIn 1103 dL_law_32 (by decide) (by decide) rfl (by decide) (law_undo hi hLL hu hR IH)
    | 36, _ => exact X_tableIn 1116 dL_law_32 (by decide) (by decide) rfl (by decide) (law_count hi hLL hu hR IH)
    | k + 37, h => exact absurd h (by omega)
  · exact X_tableOut 1139 dL_law_32 (Or.inr (by rw [nI_toInt (by omega)]; omega)) (by decide) (IH ws hR)
theorem law_loop {tO bs L xr mr : Nat} {xs : Nat → Int32} {u : Nat × Nat} (hLL : L ≤ 2560) (hu : u.1 ≤ 600000 ∧ u.2 ≤ 7302250) : ∀ (f i : Nat), i ≤ L → L < i + f → ∀ ws, RelP xr mr ws → VX tO bs L xs u ws 18 [some (.ref bs), some (.ref xr), some (.ref mr), some (.int (nI i))] []
  | 0, i, h1, h2, _, _ => absurd h2 (by omega)
  | f + 1, i, h1, h2, ws, hR => by
    refine X_iload_n dL_law_18 rfl ?_
    refine X_aload_n dL_law_19 rfl ?_
    refine X_slen dL_law_20 ?_
    refine X_iconst (v := nI 5) dL_law_21 (by decide) ?_
    refine X_isub dL_law_22 ?_
    refine X_icmp_gt 1145 dL_law_23 (by decide) (fun _ => ?_) (fun h => ?_)
    · refine X_iconst (v := 1) dL_law_1145 (by decide) ?_
      exact X_ret dL_law_1146 hu
    · have h5 := ltL_of h1 hLL h
      refine law_step h5 hLL hu hR (fun ws2 hR2 => ?_)
      refine X_iinc (v := nI (i + 5)) dL_law_1139 rfl (by rw [show Int32.ofInt 5 = nI 5 from by decide, nI_add]) (by decide) rfl ?_
      refine X_goto 18 dL_law_1142 (by decide) ?_
      exact law_loop hLL hu f (i + 5) h5 (by omega) ws2 hR2
theorem nLaw_7 : zNewX 7 9 [.null, .null, .int 0, .null, .null, .null, .null, .null] := ⟨(RX11, TX11, 8), rfl, inlX11, by decide +kernel, by decide +kernel, by decide +kernel, rfl⟩
theorem nLaw_10 : zNewX 10 10 [.int 0, .int 0, .int 0, .int 0, .int 0, .int 0, .int 0, .int 0, .null, .null, .null, .null, .null, .null, .null, .int 0, .int 0, .int 0, .int 0, .null, .null, .null, .null, .int 0, .int 0, .int 0, .int 0, .int 0, .int 0, .int 0, .null, .null, .null, .null, .null, .null, .int 0, .int 0, .int 0, .null, .null] := ⟨(RX12, TX12, 41), rfl, inlX12, by decide +kernel, by decide +kernel, by decide +kernel, rfl⟩
theorem iLaw_9 : zInX MX11_init 9 := ⟨rfl, rfl, by decide +kernel⟩
theorem iLaw_12 : zInX MX12_init 12 := ⟨rfl, rfl, by decide +kernel⟩
theorem it_start : ∀ l, l < 4 → ∀ k, k ≤ 12 → (fun _ => -1 : Nat → Int32) l = nI k → ∀ i, i < k → fZ (l * 12 + i) = fZ (l * 12 + i) := fun _ _ _ _ _ _ _ => rfl
set_option maxHeartbeats 4000000 in
theorem rel_start (xr mr d0 a0 a1 b0 b1 b2 b3 b4 b5 s0 s1 s2 k0 k1 k2 e0 f0 f1 c0 c1 c2 c3 c4 c5 y0 y1 y2 z0 z1 z2 t0 t1 t2 t3 t4 t5 g0 g1 g2 p0 p1 p2 r0 r1 l0 l1 l2 : Nat) (A : Nat → Nat) : RelP xr mr ((obX xr d0 e0 false t0 g0 p0 r0 l0 :: (dkW d0 a0 a1 b0 b1 b2 b3 b4 b5 s0 s1 s2 k0 k1 k2 2 3 0 fZ fZ fZ fZ fZ 0 fZ fZ 0 fZ fZ ++ (dkW e0 f0 f1 c0 c1 c2 c3 c4 c5 y0 y1 y2 z0 z1 z2 2 3 0 fZ fZ fZ fZ fZ 0 fZ fZ 0 fZ fZ ++ (bz6 t0 t1 t2 t3 t4 t5 a0 ++ [obG g0 g1 g2 a0 t0 0 0 0 0 0 0, (g1, aI 32 fZ), (g2, aI 128 fZ), obT p0 p1 p2 false 0, (p1, aI 60 fZ), (p2, aI 3 fZ), obP r0 r1 0, (r1, aI 1457 fZ), obL l0 l1 l2, (l1, aI 4 (fun _ => -1)), (l2, aI 48 fZ)])))) ++ [obM mr A 2 3 0 0 0 0 0 0 false 0 0 0 0 0 0 0 0 0 0 0 0 false, (A 0, aZ 256 fZ), (A 1, aZ 256 fZ), (A 2, aZ 256 fZ), (A 3, aI 40 fZ), (A 4, aI 40 fZ), (A 5, aI 16 fZ), (A 6, aI 16 fZ), (A 7, aI 4 fZ), (A 8, aZ 256 fZ), (A 9, aI 32 fZ), (A 10, aI 32 fZ), (A 11, aI 5 fZ), (A 12, aZ 256 fZ), (A 13, aZ 256 fZ), (A 14, aI 60 fZ), (A 15, aI 1600 fZ), (A 16, aI 3 fZ), (A 17, aI 4 (fun _ => -1)), (A 18, aI 48 fZ)]) := by
  have h := RelP.mk (xr := xr) (mr := mr) (aX := (fun i => [0, d0, a0, a1, b0, b1, b2, b3, b4, b5, s0, s1, s2, k0, k1, k2, e0, f0, f1, c0, c1, c2, c3, c4, c5, y0, y1, y2, z0, z1, z2, t0, t1, t2, t3, t4, t5, g0, g1, g2, p0, p1, p2, r0, r1, l0, l1, l2].getD i 0)) (A := A) (q := 2) (n := 3) (m := 0) (cut := 0) (rows := 0) (q2 := 2) (n2 := 3) (m2 := 0) (ms2 := 0) (mk2 := 0) (mT := 0) (gq := 0) (gn := 0) (gK := 0) (gmo := 0) (gmy := 0) (gun := 0) (fd := 0) (wn := 0) (kq := 0) (kn := 0) (kc := 0) (kr := 0) (kt := false) (yw := false) (cu := 0) (cv := 0) (ck := 0) (rm := 0) (mo := 0) (bo := 0) (ki := 0) (wa := 0) (wr := 0) (fo := 0) (W := fZ) (Im := fZ) (RX := fZ) (RcX := fZ) (Kp := fZ) (Vp := fZ) (W2 := fZ) (Hd2 := fZ) (Im2 := fZ) (O2 := fZ) (E2 := fZ) (RX2 := fZ) (Rc2 := fZ) (K2 := fZ) (V2 := fZ) (WT := fZ) (ImT := fZ) (OT := fZ) (ET := fZ) (Rg := fZ) (Fg := fZ) (Tb := fZ) (Rs := fZ) (Pb := fZ) (Ce := fZ) (Wb := fZ) (R := fZ) (KR := fZ) (P := fZ) (KP := fZ) (Od := fZ) (Ig := fZ) (Pk := fZ) (Lt := fZ) (Lk := fZ) (Rd := fZ) (Nx := fZ) (Tp := fZ) (Pa := fZ) (Wy := fZ) (Sz := (fun _ => -1)) (It := fZ) (B := (fun _ => false)) (B2 := (fun _ => false)) (BT := (fun _ => false)) (KB := (fun _ => false)) (Ls := (fun _ => 0)) (L2 := (fun _ => 0)) (T := (fun _ => 0)) (pk := (fun _ => 0)) (pv := (fun _ => 0)) (pk2 := (fun _ => 0)) (pv2 := (fun _ => 0)) (by unfold OKq; decide) (Bk.nil _ _) (Nat.zero_le _) (fun j hj => absurd hj (Nat.not_lt_zero j)) (fun j hj => absurd hj (Nat.not_lt_zero j)) (Nat.zero_le _) (fun j hj => absurd hj (Nat.not_lt_zero j)) (fun j hj => absurd hj (Nat.not_lt_zero j)) (fun h => absurd h Bool.false_ne_true) (Bk.nil _ _) (⟨Nat.zero_le _, Nat.zero_le _, fun h => absurd h.1 (by decide)⟩) (Nat.zero_le _) (fun j hj => absurd hj (Nat.not_lt_zero j)) (fun j hj => absurd hj (Nat.not_lt_zero j)) (fun h => absurd h Bool.false_ne_true) (Nat.zero_le _) (fun j hj => absurd hj (Nat.not_lt_zero j)) (fun l _ => Or.inl rfl) (it_start)
  rw [hdF_nil, opF_nil, enF_nil] at h
  exact h
set_option maxHeartbeats 4000000 in
theorem law_all {tO bs L : Nat} {xs : Nat → Int32} (hLL : L ≤ 2560) : VX tO bs L xs (0, 0) [] 0 [some (.ref bs), none, none, none] [] := by
  refine X_new dL_law_0 nLaw_7 ⟨by decide, by decide⟩ (fun xr => ?_)
  refine X_dup dL_law_3 rfl ?_
  refine X_callI (As := []) [0] (s_X11_init (d := 100) (by decide)) gL_law_X11_init iLaw_9 dL_law_4 oX11_init rfl rfl (Nat.le_of_ble_eq_true rfl) (by decide) ⟨by decide, by decide⟩ ?_
  rintro _ _ ⟨d0, a0, a1, b0, b1, b2, b3, b4, b5, s0, s1, s2, k0, k1, k2, e0, f0, f1, c0, c1, c2, c3, c4, c5, y0, y1, y2, z0, z1, z2, t0, t1, t2, t3, t4, t5, g0, g1, g2, p0, p1, p2, r0, r1, l0, l1, l2, rfl, rfl⟩
  refine X_astore_n dL_law_7 (by decide) rfl ?_
  refine X_new dL_law_8 nLaw_10 ⟨by decide, by decide⟩ (fun mr => ?_)
  refine X_dup dL_law_11 rfl ?_
  refine X_callI (As := []) [48] (s_X12_init (d := 100) (by decide)) gL_law_X12_init iLaw_12 dL_law_12 oX12_init rfl rfl (Nat.le_of_ble_eq_true rfl) (by decide) ⟨by decide, by decide⟩ ?_
  rintro _ _ ⟨A, rfl, rfl⟩
  refine X_astore_n dL_law_15 (by decide) rfl ?_
  refine X_iconst (v := nI 0) dL_law_16 (by decide) ?_
  refine X_istore_n dL_law_17 (by decide) rfl ?_
  exact law_loop hLL ⟨by decide, by decide⟩ (L + 1) 0 (Nat.zero_le _) (by omega) _ (rel_start xr mr d0 a0 a1 b0 b1 b2 b3 b4 b5 s0 s1 s2 k0 k1 k2 e0 f0 f1 c0 c1 c2 c3 c4 c5 y0 y1 y2 z0 z1 z2 t0 t1 t2 t3 t4 t5 g0 g1 g2 p0 p1 p2 r0 r1 l0 l1 l2 A)
