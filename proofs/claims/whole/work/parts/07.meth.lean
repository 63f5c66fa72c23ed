/-! each method: its words, what a caller needs of it, its fields by pool index -/
abbrev MX0_init : zM := (yX0_init, cX0_init, 1, none, wsX0_init, RX0)
theorem oX0_init : zOk MX0_init 0 := ⟨⟨_, rfl⟩, by decide +kernel, by decide +kernel, by decide +kernel, by decide⟩
theorem eX0_init {tO : Nat} {r : Nat × Nat × Nat} {args : List Value} {ws : zW} {Po : zPo} (lc : List (Option Value)) (hz : zLoc args 1 = lc) (hlen : (lg_sl args).length ≤ 1) (k : V tO MX0_init r ws Po (0, 0) ws 0 lc []) : Sp tO MX0_init r args ws Po := Sp.of (by decide +kernel) rfl rfl hlen (hz ▸ k)
abbrev MX0_canBe : zM := (yX0_canBe, cX0_canBe, 4, (some .boolean), wsX0_canBe, RX0)
theorem oX0_canBe : zOk MX0_canBe 2 := ⟨⟨_, rfl⟩, by decide +kernel, by decide +kernel, by decide +kernel, by decide⟩
theorem eX0_canBe {tO : Nat} {r : Nat × Nat × Nat} {args : List Value} {ws : zW} {Po : zPo} (lc : List (Option Value)) (hz : zLoc args 4 = lc) (hlen : (lg_sl args).length ≤ 4) (k : V tO MX0_canBe r ws Po (0, 0) ws 0 lc []) : Sp tO MX0_canBe r args ws Po := Sp.of (by decide +kernel) rfl rfl hlen (hz ▸ k)
abbrev MX0_become : zM := (yX0_become, cX0_become, 5, none, wsX0_become, RX0)
theorem oX0_become : zOk MX0_become 2 := ⟨⟨_, rfl⟩, by decide +kernel, by decide +kernel, by decide +kernel, by decide⟩
theorem eX0_become {tO : Nat} {r : Nat × Nat × Nat} {args : List Value} {ws : zW} {Po : zPo} (lc : List (Option Value)) (hz : zLoc args 5 = lc) (hlen : (lg_sl args).length ≤ 5) (k : V tO MX0_become r ws Po (0, 0) ws 0 lc []) : Sp tO MX0_become r args ws Po := Sp.of (by decide +kernel) rfl rfl hlen (hz ▸ k)
abbrev MX0_power : zM := (yX0_power, cX0_power, 2, (some .int), wsX0_power, RX0)
theorem oX0_power : zOk MX0_power 1 := ⟨⟨_, rfl⟩, by decide +kernel, by decide +kernel, by decide +kernel, by decide⟩
theorem eX0_power {tO : Nat} {r : Nat × Nat × Nat} {args : List Value} {ws : zW} {Po : zPo} (lc : List (Option Value)) (hz : zLoc args 2 = lc) (hlen : (lg_sl args).length ≤ 2) (k : V tO MX0_power r ws Po (0, 0) ws 0 lc []) : Sp tO MX0_power r args ws Po := Sp.of (by decide +kernel) rfl rfl hlen (hz ▸ k)
abbrev MX0_isWord : zM := (yX0_isWord, cX0_isWord, 2, (some .boolean), wsX0_isWord, RX0)
theorem oX0_isWord : zOk MX0_isWord 1 := ⟨⟨_, rfl⟩, by decide +kernel, by decide +kernel, by decide +kernel, by decide⟩
theorem eX0_isWord {tO : Nat} {r : Nat × Nat × Nat} {args : List Value} {ws : zW} {Po : zPo} (lc : List (Option Value)) (hz : zLoc args 2 = lc) (hlen : (lg_sl args).length ≤ 2) (k : V tO MX0_isWord r ws Po (0, 0) ws 0 lc []) : Sp tO MX0_isWord r args ws Po := Sp.of (by decide +kernel) rfl rfl hlen (hz ▸ k)
abbrev MX0_opening : zM := (yX0_opening, cX0_opening, 3, (some .int), wsX0_opening, RX0)
theorem oX0_opening : zOk MX0_opening 2 := ⟨⟨_, rfl⟩, by decide +kernel, by decide +kernel, by decide +kernel, by decide⟩
theorem eX0_opening {tO : Nat} {r : Nat × Nat × Nat} {args : List Value} {ws : zW} {Po : zPo} (lc : List (Option Value)) (hz : zLoc args 3 = lc) (hlen : (lg_sl args).length ≤ 3) (k : V tO MX0_opening r ws Po (0, 0) ws 0 lc []) : Sp tO MX0_opening r args ws Po := Sp.of (by decide +kernel) rfl rfl hlen (hz ▸ k)
abbrev MX0_ending : zM := (yX0_ending, cX0_ending, 3, (some .int), wsX0_ending, RX0)
theorem oX0_ending : zOk MX0_ending 2 := ⟨⟨_, rfl⟩, by decide +kernel, by decide +kernel, by decide +kernel, by decide⟩
theorem eX0_ending {tO : Nat} {r : Nat × Nat × Nat} {args : List Value} {ws : zW} {Po : zPo} (lc : List (Option Value)) (hz : zLoc args 3 = lc) (hlen : (lg_sl args).length ≤ 3) (k : V tO MX0_ending r ws Po (0, 0) ws 0 lc []) : Sp tO MX0_ending r args ws Po := Sp.of (by decide +kernel) rfl rfl hlen (hz ▸ k)
abbrev MX0_part : zM := (yX0_part, cX0_part, 4, (some .int), wsX0_part, RX0)
theorem oX0_part : zOk MX0_part 3 := ⟨⟨_, rfl⟩, by decide +kernel, by decide +kernel, by decide +kernel, by decide⟩
theorem eX0_part {tO : Nat} {r : Nat × Nat × Nat} {args : List Value} {ws : zW} {Po : zPo} (lc : List (Option Value)) (hz : zLoc args 4 = lc) (hlen : (lg_sl args).length ≤ 4) (k : V tO MX0_part r ws Po (0, 0) ws 0 lc []) : Sp tO MX0_part r args ws Po := Sp.of (by decide +kernel) rfl rfl hlen (hz ▸ k)
abbrev MX0_across : zM := (yX0_across, cX0_across, 4, (some .int), wsX0_across, RX0)
theorem oX0_across : zOk MX0_across 3 := ⟨⟨_, rfl⟩, by decide +kernel, by decide +kernel, by decide +kernel, by decide⟩
theorem eX0_across {tO : Nat} {r : Nat × Nat × Nat} {args : List Value} {ws : zW} {Po : zPo} (lc : List (Option Value)) (hz : zLoc args 4 = lc) (hlen : (lg_sl args).length ≤ 4) (k : V tO MX0_across r ws Po (0, 0) ws 0 lc []) : Sp tO MX0_across r args ws Po := Sp.of (by decide +kernel) rfl rfl hlen (hz ▸ k)
abbrev MX0_turned : zM := (yX0_turned, cX0_turned, 3, (some .int), wsX0_turned, RX0)
theorem oX0_turned : zOk MX0_turned 1 := ⟨⟨_, rfl⟩, by decide +kernel, by decide +kernel, by decide +kernel, by decide⟩
theorem eX0_turned {tO : Nat} {r : Nat × Nat × Nat} {args : List Value} {ws : zW} {Po : zPo} (lc : List (Option Value)) (hz : zLoc args 3 = lc) (hlen : (lg_sl args).length ≤ 3) (k : V tO MX0_turned r ws Po (0, 0) ws 0 lc []) : Sp tO MX0_turned r args ws Po := Sp.of (by decide +kernel) rfl rfl hlen (hz ▸ k)
abbrev MX0_ringSize : zM := (yX0_ringSize, cX0_ringSize, 4, (some .int), wsX0_ringSize, RX0)
theorem oX0_ringSize : zOk MX0_ringSize 1 := ⟨⟨_, rfl⟩, by decide +kernel, by decide +kernel, by decide +kernel, by decide⟩
theorem eX0_ringSize {tO : Nat} {r : Nat × Nat × Nat} {args : List Value} {ws : zW} {Po : zPo} (lc : List (Option Value)) (hz : zLoc args 4 = lc) (hlen : (lg_sl args).length ≤ 4) (k : V tO MX0_ringSize r ws Po (0, 0) ws 0 lc []) : Sp tO MX0_ringSize r args ws Po := Sp.of (by decide +kernel) rfl rfl hlen (hz ▸ k)
abbrev MX0_ringLeast : zM := (yX0_ringLeast, cX0_ringLeast, 5, (some .int), wsX0_ringLeast, RX0)
theorem oX0_ringLeast : zOk MX0_ringLeast 1 := ⟨⟨_, rfl⟩, by decide +kernel, by decide +kernel, by decide +kernel, by decide⟩
theorem eX0_ringLeast {tO : Nat} {r : Nat × Nat × Nat} {args : List Value} {ws : zW} {Po : zPo} (lc : List (Option Value)) (hz : zLoc args 5 = lc) (hlen : (lg_sl args).length ≤ 5) (k : V tO MX0_ringLeast r ws Po (0, 0) ws 0 lc []) : Sp tO MX0_ringLeast r args ws Po := Sp.of (by decide +kernel) rfl rfl hlen (hz ▸ k)
abbrev MX0_isWhole : zM := (yX0_isWhole, cX0_isWhole, 2, (some .boolean), wsX0_isWhole, RX0)
theorem oX0_isWhole : zOk MX0_isWhole 1 := ⟨⟨_, rfl⟩, by decide +kernel, by decide +kernel, by decide +kernel, by decide⟩
theorem eX0_isWhole {tO : Nat} {r : Nat × Nat × Nat} {args : List Value} {ws : zW} {Po : zPo} (lc : List (Option Value)) (hz : zLoc args 2 = lc) (hlen : (lg_sl args).length ≤ 2) (k : V tO MX0_isWhole r ws Po (0, 0) ws 0 lc []) : Sp tO MX0_isWhole r args ws Po := Sp.of (by decide +kernel) rfl rfl hlen (hz ▸ k)
abbrev MX0_wholeRingsBelow : zM := (yX0_wholeRingsBelow, cX0_wholeRingsBelow, 4, (some .int), wsX0_wholeRingsBelow, RX0)
theorem oX0_wholeRingsBelow : zOk MX0_wholeRingsBelow 1 := ⟨⟨_, rfl⟩, by decide +kernel, by decide +kernel, by decide +kernel, by decide⟩
theorem eX0_wholeRingsBelow {tO : Nat} {r : Nat × Nat × Nat} {args : List Value} {ws : zW} {Po : zPo} (lc : List (Option Value)) (hz : zLoc args 4 = lc) (hlen : (lg_sl args).length ≤ 4) (k : V tO MX0_wholeRingsBelow r ws Po (0, 0) ws 0 lc []) : Sp tO MX0_wholeRingsBelow r args ws Po := Sp.of (by decide +kernel) rfl rfl hlen (hz ▸ k)
abbrev MX0_wholeRing : zM := (yX0_wholeRing, cX0_wholeRing, 4, (some .int), wsX0_wholeRing, RX0)
theorem oX0_wholeRing : zOk MX0_wholeRing 1 := ⟨⟨_, rfl⟩, by decide +kernel, by decide +kernel, by decide +kernel, by decide⟩
theorem eX0_wholeRing {tO : Nat} {r : Nat × Nat × Nat} {args : List Value} {ws : zW} {Po : zPo} (lc : List (Option Value)) (hz : zLoc args 4 = lc) (hlen : (lg_sl args).length ≤ 4) (k : V tO MX0_wholeRing r ws Po (0, 0) ws 0 lc []) : Sp tO MX0_wholeRing r args ws Po := Sp.of (by decide +kernel) rfl rfl hlen (hz ▸ k)
abbrev MX0_swaps : zM := (yX0_swaps, cX0_swaps, 3, (some .int), wsX0_swaps, RX0)
theorem oX0_swaps : zOk MX0_swaps 0 := ⟨⟨_, rfl⟩, by decide +kernel, by decide +kernel, by decide +kernel, by decide⟩
theorem eX0_swaps {tO : Nat} {r : Nat × Nat × Nat} {args : List Value} {ws : zW} {Po : zPo} (lc : List (Option Value)) (hz : zLoc args 3 = lc) (hlen : (lg_sl args).length ≤ 3) (k : V tO MX0_swaps r ws Po (0, 0) ws 0 lc []) : Sp tO MX0_swaps r args ws Po := Sp.of (by decide +kernel) rfl rfl hlen (hz ▸ k)
abbrev MX0_isSwap : zM := (yX0_isSwap, cX0_isSwap, 2, (some .boolean), wsX0_isSwap, RX0)
theorem oX0_isSwap : zOk MX0_isSwap 1 := ⟨⟨_, rfl⟩, by decide +kernel, by decide +kernel, by decide +kernel, by decide⟩
theorem eX0_isSwap {tO : Nat} {r : Nat × Nat × Nat} {args : List Value} {ws : zW} {Po : zPo} (lc : List (Option Value)) (hz : zLoc args 2 = lc) (hlen : (lg_sl args).length ≤ 2) (k : V tO MX0_isSwap r ws Po (0, 0) ws 0 lc []) : Sp tO MX0_isSwap r args ws Po := Sp.of (by decide +kernel) rfl rfl hlen (hz ▸ k)
abbrev MX0_exchanged : zM := (yX0_exchanged, cX0_exchanged, 9, (some .int), wsX0_exchanged, RX0)
theorem oX0_exchanged : zOk MX0_exchanged 2 := ⟨⟨_, rfl⟩, by decide +kernel, by decide +kernel, by decide +kernel, by decide⟩
theorem eX0_exchanged {tO : Nat} {r : Nat × Nat × Nat} {args : List Value} {ws : zW} {Po : zPo} (lc : List (Option Value)) (hz : zLoc args 9 = lc) (hlen : (lg_sl args).length ≤ 9) (k : V tO MX0_exchanged r ws Po (0, 0) ws 0 lc []) : Sp tO MX0_exchanged r args ws Po := Sp.of (by decide +kernel) rfl rfl hlen (hz ▸ k)
abbrev MX1_init : zM := (yX1_init, cX1_init, 2, none, wsX1_init, RX1)
theorem oX1_init : zOk MX1_init 1 := ⟨⟨_, rfl⟩, by decide +kernel, by decide +kernel, by decide +kernel, by decide⟩
theorem eX1_init {tO : Nat} {r : Nat × Nat × Nat} {args : List Value} {ws : zW} {Po : zPo} (lc : List (Option Value)) (hz : zLoc args 2 = lc) (hlen : (lg_sl args).length ≤ 2) (k : V tO MX1_init r ws Po (0, 0) ws 0 lc []) : Sp tO MX1_init r args ws Po := Sp.of (by decide +kernel) rfl rfl hlen (hz ▸ k)
abbrev MX1_total : zM := (yX1_total, cX1_total, 1, (some .int), wsX1_total, RX1)
theorem oX1_total : zOk MX1_total 0 := ⟨⟨_, rfl⟩, by decide +kernel, by decide +kernel, by decide +kernel, by decide⟩
theorem eX1_total {tO : Nat} {r : Nat × Nat × Nat} {args : List Value} {ws : zW} {Po : zPo} (lc : List (Option Value)) (hz : zLoc args 1 = lc) (hlen : (lg_sl args).length ≤ 1) (k : V tO MX1_total r ws Po (0, 0) ws 0 lc []) : Sp tO MX1_total r args ws Po := Sp.of (by decide +kernel) rfl rfl hlen (hz ▸ k)
abbrev MX1_has : zM := (yX1_has, cX1_has, 2, (some .boolean), wsX1_has, RX1)
theorem oX1_has : zOk MX1_has 1 := ⟨⟨_, rfl⟩, by decide +kernel, by decide +kernel, by decide +kernel, by decide⟩
theorem eX1_has {tO : Nat} {r : Nat × Nat × Nat} {args : List Value} {ws : zW} {Po : zPo} (lc : List (Option Value)) (hz : zLoc args 2 = lc) (hlen : (lg_sl args).length ≤ 2) (k : V tO MX1_has r ws Po (0, 0) ws 0 lc []) : Sp tO MX1_has r args ws Po := Sp.of (by decide +kernel) rfl rfl hlen (hz ▸ k)
abbrev MX1_nth : zM := (yX1_nth, cX1_nth, 2, (some .int), wsX1_nth, RX1)
theorem oX1_nth : zOk MX1_nth 1 := ⟨⟨_, rfl⟩, by decide +kernel, by decide +kernel, by decide +kernel, by decide⟩
theorem eX1_nth {tO : Nat} {r : Nat × Nat × Nat} {args : List Value} {ws : zW} {Po : zPo} (lc : List (Option Value)) (hz : zLoc args 2 = lc) (hlen : (lg_sl args).length ≤ 2) (k : V tO MX1_nth r ws Po (0, 0) ws 0 lc []) : Sp tO MX1_nth r args ws Po := Sp.of (by decide +kernel) rfl rfl hlen (hz ▸ k)
abbrev MX1_holds : zM := (yX1_holds, cX1_holds, 2, (some .boolean), wsX1_holds, RX1)
theorem oX1_holds : zOk MX1_holds 1 := ⟨⟨_, rfl⟩, by decide +kernel, by decide +kernel, by decide +kernel, by decide⟩
theorem eX1_holds {tO : Nat} {r : Nat × Nat × Nat} {args : List Value} {ws : zW} {Po : zPo} (lc : List (Option Value)) (hz : zLoc args 2 = lc) (hlen : (lg_sl args).length ≤ 2) (k : V tO MX1_holds r ws Po (0, 0) ws 0 lc []) : Sp tO MX1_holds r args ws Po := Sp.of (by decide +kernel) rfl rfl hlen (hz ▸ k)
abbrev MX1_hold : zM := (yX1_hold, cX1_hold, 3, none, wsX1_hold, RX1)
theorem oX1_hold : zOk MX1_hold 2 := ⟨⟨_, rfl⟩, by decide +kernel, by decide +kernel, by decide +kernel, by decide⟩
theorem eX1_hold {tO : Nat} {r : Nat × Nat × Nat} {args : List Value} {ws : zW} {Po : zPo} (lc : List (Option Value)) (hz : zLoc args 3 = lc) (hlen : (lg_sl args).length ≤ 3) (k : V tO MX1_hold r ws Po (0, 0) ws 0 lc []) : Sp tO MX1_hold r args ws Po := Sp.of (by decide +kernel) rfl rfl hlen (hz ▸ k)
abbrev MX1_empty : zM := (yX1_empty, cX1_empty, 2, none, wsX1_empty, RX1)
theorem oX1_empty : zOk MX1_empty 0 := ⟨⟨_, rfl⟩, by decide +kernel, by decide +kernel, by decide +kernel, by decide⟩
theorem eX1_empty {tO : Nat} {r : Nat × Nat × Nat} {args : List Value} {ws : zW} {Po : zPo} (lc : List (Option Value)) (hz : zLoc args 2 = lc) (hlen : (lg_sl args).length ≤ 2) (k : V tO MX1_empty r ws Po (0, 0) ws 0 lc []) : Sp tO MX1_empty r args ws Po := Sp.of (by decide +kernel) rfl rfl hlen (hz ▸ k)
abbrev MX1_copyFrom : zM := (yX1_copyFrom, cX1_copyFrom, 3, none, wsX1_copyFrom, RX1)
theorem oX1_copyFrom : zOk MX1_copyFrom 1 := ⟨⟨_, rfl⟩, by decide +kernel, by decide +kernel, by decide +kernel, by decide⟩
theorem eX1_copyFrom {tO : Nat} {r : Nat × Nat × Nat} {args : List Value} {ws : zW} {Po : zPo} (lc : List (Option Value)) (hz : zLoc args 3 = lc) (hlen : (lg_sl args).length ≤ 3) (k : V tO MX1_copyFrom r ws Po (0, 0) ws 0 lc []) : Sp tO MX1_copyFrom r args ws Po := Sp.of (by decide +kernel) rfl rfl hlen (hz ▸ k)
abbrev MX1_include : zM := (yX1_include, cX1_include, 3, (some .boolean), wsX1_include, RX1)
theorem oX1_include : zOk MX1_include 1 := ⟨⟨_, rfl⟩, by decide +kernel, by decide +kernel, by decide +kernel, by decide⟩
theorem eX1_include {tO : Nat} {r : Nat × Nat × Nat} {args : List Value} {ws : zW} {Po : zPo} (lc : List (Option Value)) (hz : zLoc args 3 = lc) (hlen : (lg_sl args).length ≤ 3) (k : V tO MX1_include r ws Po (0, 0) ws 0 lc []) : Sp tO MX1_include r args ws Po := Sp.of (by decide +kernel) rfl rfl hlen (hz ▸ k)
abbrev MX1_exclude : zM := (yX1_exclude, cX1_exclude, 4, (some .boolean), wsX1_exclude, RX1)
theorem oX1_exclude : zOk MX1_exclude 1 := ⟨⟨_, rfl⟩, by decide +kernel, by decide +kernel, by decide +kernel, by decide⟩
theorem eX1_exclude {tO : Nat} {r : Nat × Nat × Nat} {args : List Value} {ws : zW} {Po : zPo} (lc : List (Option Value)) (hz : zLoc args 4 = lc) (hlen : (lg_sl args).length ≤ 4) (k : V tO MX1_exclude r ws Po (0, 0) ws 0 lc []) : Sp tO MX1_exclude r args ws Po := Sp.of (by decide +kernel) rfl rfl hlen (hz ▸ k)
abbrev MX1_mark : zM := (yX1_mark, cX1_mark, 7, none, wsX1_mark, RX1)
theorem oX1_mark : zOk MX1_mark 2 := ⟨⟨_, rfl⟩, by decide +kernel, by decide +kernel, by decide +kernel, by decide⟩
theorem eX1_mark {tO : Nat} {r : Nat × Nat × Nat} {args : List Value} {ws : zW} {Po : zPo} (lc : List (Option Value)) (hz : zLoc args 7 = lc) (hlen : (lg_sl args).length ≤ 7) (k : V tO MX1_mark r ws Po (0, 0) ws 0 lc []) : Sp tO MX1_mark r args ws Po := Sp.of (by decide +kernel) rfl rfl hlen (hz ▸ k)
abbrev MX1_isHidden : zM := (yX1_isHidden, cX1_isHidden, 6, (some .boolean), wsX1_isHidden, RX1)
theorem oX1_isHidden : zOk MX1_isHidden 1 := ⟨⟨_, rfl⟩, by decide +kernel, by decide +kernel, by decide +kernel, by decide⟩
theorem eX1_isHidden {tO : Nat} {r : Nat × Nat × Nat} {args : List Value} {ws : zW} {Po : zPo} (lc : List (Option Value)) (hz : zLoc args 6 = lc) (hlen : (lg_sl args).length ≤ 6) (k : V tO MX1_isHidden r ws Po (0, 0) ws 0 lc []) : Sp tO MX1_isHidden r args ws Po := Sp.of (by decide +kernel) rfl rfl hlen (hz ▸ k)
abbrev MX1_isFree : zM := (yX1_isFree, cX1_isFree, 2, (some .boolean), wsX1_isFree, RX1)
theorem oX1_isFree : zOk MX1_isFree 0 := ⟨⟨_, rfl⟩, by decide +kernel, by decide +kernel, by decide +kernel, by decide⟩
theorem eX1_isFree {tO : Nat} {r : Nat × Nat × Nat} {args : List Value} {ws : zW} {Po : zPo} (lc : List (Option Value)) (hz : zLoc args 2 = lc) (hlen : (lg_sl args).length ≤ 2) (k : V tO MX1_isFree r ws Po (0, 0) ws 0 lc []) : Sp tO MX1_isFree r args ws Po := Sp.of (by decide +kernel) rfl rfl hlen (hz ▸ k)
abbrev MX1_allows : zM := (yX1_allows, cX1_allows, 3, (some .boolean), wsX1_allows, RX1)
theorem oX1_allows : zOk MX1_allows 1 := ⟨⟨_, rfl⟩, by decide +kernel, by decide +kernel, by decide +kernel, by decide⟩
theorem eX1_allows {tO : Nat} {r : Nat × Nat × Nat} {args : List Value} {ws : zW} {Po : zPo} (lc : List (Option Value)) (hz : zLoc args 3 = lc) (hlen : (lg_sl args).length ≤ 3) (k : V tO MX1_allows r ws Po (0, 0) ws 0 lc []) : Sp tO MX1_allows r args ws Po := Sp.of (by decide +kernel) rfl rfl hlen (hz ▸ k)
abbrev MX1_firstClash : zM := (yX1_firstClash, cX1_firstClash, 5, (some .int), wsX1_firstClash, RX1)
theorem oX1_firstClash : zOk MX1_firstClash 1 := ⟨⟨_, rfl⟩, by decide +kernel, by decide +kernel, by decide +kernel, by decide⟩
theorem eX1_firstClash {tO : Nat} {r : Nat × Nat × Nat} {args : List Value} {ws : zW} {Po : zPo} (lc : List (Option Value)) (hz : zLoc args 5 = lc) (hlen : (lg_sl args).length ≤ 5) (k : V tO MX1_firstClash r ws Po (0, 0) ws 0 lc []) : Sp tO MX1_firstClash r args ws Po := Sp.of (by decide +kernel) rfl rfl hlen (hz ▸ k)
abbrev MX1_firstHiding : zM := (yX1_firstHiding, cX1_firstHiding, 4, (some .int), wsX1_firstHiding, RX1)
theorem oX1_firstHiding : zOk MX1_firstHiding 2 := ⟨⟨_, rfl⟩, by decide +kernel, by decide +kernel, by decide +kernel, by decide⟩
theorem eX1_firstHiding {tO : Nat} {r : Nat × Nat × Nat} {args : List Value} {ws : zW} {Po : zPo} (lc : List (Option Value)) (hz : zLoc args 4 = lc) (hlen : (lg_sl args).length ≤ 4) (k : V tO MX1_firstHiding r ws Po (0, 0) ws 0 lc []) : Sp tO MX1_firstHiding r args ws Po := Sp.of (by decide +kernel) rfl rfl hlen (hz ▸ k)
abbrev MX1_exchange : zM := (yX1_exchange, cX1_exchange, 4, none, wsX1_exchange, RX1)
theorem oX1_exchange : zOk MX1_exchange 1 := ⟨⟨_, rfl⟩, by decide +kernel, by decide +kernel, by decide +kernel, by decide⟩
theorem eX1_exchange {tO : Nat} {r : Nat × Nat × Nat} {args : List Value} {ws : zW} {Po : zPo} (lc : List (Option Value)) (hz : zLoc args 4 = lc) (hlen : (lg_sl args).length ≤ 4) (k : V tO MX1_exchange r ws Po (0, 0) ws 0 lc []) : Sp tO MX1_exchange r args ws Po := Sp.of (by decide +kernel) rfl rfl hlen (hz ▸ k)
abbrev MX1_isKeptBy : zM := (yX1_isKeptBy, cX1_isKeptBy, 3, (some .boolean), wsX1_isKeptBy, RX1)
theorem oX1_isKeptBy : zOk MX1_isKeptBy 1 := ⟨⟨_, rfl⟩, by decide +kernel, by decide +kernel, by decide +kernel, by decide⟩
theorem eX1_isKeptBy {tO : Nat} {r : Nat × Nat × Nat} {args : List Value} {ws : zW} {Po : zPo} (lc : List (Option Value)) (hz : zLoc args 3 = lc) (hlen : (lg_sl args).length ≤ 3) (k : V tO MX1_isKeptBy r ws Po (0, 0) ws 0 lc []) : Sp tO MX1_isKeptBy r args ws Po := Sp.of (by decide +kernel) rfl rfl hlen (hz ▸ k)
abbrev MX1_fits : zM := (yX1_fits, cX1_fits, 7, (some .boolean), wsX1_fits, RX1)
theorem oX1_fits : zOk MX1_fits 3 := ⟨⟨_, rfl⟩, by decide +kernel, by decide +kernel, by decide +kernel, by decide⟩
theorem eX1_fits {tO : Nat} {r : Nat × Nat × Nat} {args : List Value} {ws : zW} {Po : zPo} (lc : List (Option Value)) (hz : zLoc args 7 = lc) (hlen : (lg_sl args).length ≤ 7) (k : V tO MX1_fits r ws Po (0, 0) ws 0 lc []) : Sp tO MX1_fits r args ws Po := Sp.of (by decide +kernel) rfl rfl hlen (hz ▸ k)
abbrev MX1_draw : zM := (yX1_draw, cX1_draw, 5, none, wsX1_draw, RX1)
theorem oX1_draw : zOk MX1_draw 2 := ⟨⟨_, rfl⟩, by decide +kernel, by decide +kernel, by decide +kernel, by decide⟩
theorem eX1_draw {tO : Nat} {r : Nat × Nat × Nat} {args : List Value} {ws : zW} {Po : zPo} (lc : List (Option Value)) (hz : zLoc args 5 = lc) (hlen : (lg_sl args).length ≤ 5) (k : V tO MX1_draw r ws Po (0, 0) ws 0 lc []) : Sp tO MX1_draw r args ws Po := Sp.of (by decide +kernel) rfl rfl hlen (hz ▸ k)
abbrev MX2_init : zM := (yX2_init, cX2_init, 1, none, wsX2_init, RX2)
theorem oX2_init : zOk MX2_init 0 := ⟨⟨_, rfl⟩, by decide +kernel, by decide +kernel, by decide +kernel, by decide⟩
theorem eX2_init {tO : Nat} {r : Nat × Nat × Nat} {args : List Value} {ws : zW} {Po : zPo} (lc : List (Option Value)) (hz : zLoc args 1 = lc) (hlen : (lg_sl args).length ≤ 1) (k : V tO MX2_init r ws Po (0, 0) ws 0 lc []) : Sp tO MX2_init r args ws Po := Sp.of (by decide +kernel) rfl rfl hlen (hz ▸ k)
abbrev MX2_beginAnew : zM := (yX2_beginAnew, cX2_beginAnew, 3, none, wsX2_beginAnew, RX2)
theorem oX2_beginAnew : zOk MX2_beginAnew 2 := ⟨⟨_, rfl⟩, by decide +kernel, by decide +kernel, by decide +kernel, by decide⟩
theorem eX2_beginAnew {tO : Nat} {r : Nat × Nat × Nat} {args : List Value} {ws : zW} {Po : zPo} (lc : List (Option Value)) (hz : zLoc args 3 = lc) (hlen : (lg_sl args).length ≤ 3) (k : V tO MX2_beginAnew r ws Po (0, 0) ws 0 lc []) : Sp tO MX2_beginAnew r args ws Po := Sp.of (by decide +kernel) rfl rfl hlen (hz ▸ k)
abbrev MX2_copyFrom : zM := (yX2_copyFrom, cX2_copyFrom, 2, none, wsX2_copyFrom, RX2)
theorem oX2_copyFrom : zOk MX2_copyFrom 1 := ⟨⟨_, rfl⟩, by decide +kernel, by decide +kernel, by decide +kernel, by decide⟩
theorem eX2_copyFrom {tO : Nat} {r : Nat × Nat × Nat} {args : List Value} {ws : zW} {Po : zPo} (lc : List (Option Value)) (hz : zLoc args 2 = lc) (hlen : (lg_sl args).length ≤ 2) (k : V tO MX2_copyFrom r ws Po (0, 0) ws 0 lc []) : Sp tO MX2_copyFrom r args ws Po := Sp.of (by decide +kernel) rfl rfl hlen (hz ▸ k)
abbrev MX3_ends : zM := (yX3_ends, cX3_ends, 4, (some .int), wsX3_ends, RX3)
theorem oX3_ends : zOk MX3_ends 1 := ⟨⟨_, rfl⟩, by decide +kernel, by decide +kernel, by decide +kernel, by decide⟩
theorem eX3_ends {tO : Nat} {r : Nat × Nat × Nat} {args : List Value} {ws : zW} {Po : zPo} (lc : List (Option Value)) (hz : zLoc args 4 = lc) (hlen : (lg_sl args).length ≤ 4) (k : V tO MX3_ends r ws Po (0, 0) ws 0 lc []) : Sp tO MX3_ends r args ws Po := Sp.of (by decide +kernel) rfl rfl hlen (hz ▸ k)
abbrev MX3_endsFor : zM := (yX3_endsFor, cX3_endsFor, 5, (some .int), wsX3_endsFor, RX3)
theorem oX3_endsFor : zOk MX3_endsFor 3 := ⟨⟨_, rfl⟩, by decide +kernel, by decide +kernel, by decide +kernel, by decide⟩
theorem eX3_endsFor {tO : Nat} {r : Nat × Nat × Nat} {args : List Value} {ws : zW} {Po : zPo} (lc : List (Option Value)) (hz : zLoc args 5 = lc) (hlen : (lg_sl args).length ≤ 5) (k : V tO MX3_endsFor r ws Po (0, 0) ws 0 lc []) : Sp tO MX3_endsFor r args ws Po := Sp.of (by decide +kernel) rfl rfl hlen (hz ▸ k)
abbrev MX3_tailsBehind : zM := (yX3_tailsBehind, cX3_tailsBehind, 13, (some .int), wsX3_tailsBehind, RX3)
theorem oX3_tailsBehind : zOk MX3_tailsBehind 5 := ⟨⟨_, rfl⟩, by decide +kernel, by decide +kernel, by decide +kernel, by decide⟩
theorem eX3_tailsBehind {tO : Nat} {r : Nat × Nat × Nat} {args : List Value} {ws : zW} {Po : zPo} (lc : List (Option Value)) (hz : zLoc args 13 = lc) (hlen : (lg_sl args).length ≤ 13) (k : V tO MX3_tailsBehind r ws Po (0, 0) ws 0 lc []) : Sp tO MX3_tailsBehind r args ws Po := Sp.of (by decide +kernel) rfl rfl hlen (hz ▸ k)
abbrev MX3_stands : zM := (yX3_stands, cX3_stands, 7, (some .boolean), wsX3_stands, RX3)
theorem oX3_stands : zOk MX3_stands 4 := ⟨⟨_, rfl⟩, by decide +kernel, by decide +kernel, by decide +kernel, by decide⟩
theorem eX3_stands {tO : Nat} {r : Nat × Nat × Nat} {args : List Value} {ws : zW} {Po : zPo} (lc : List (Option Value)) (hz : zLoc args 7 = lc) (hlen : (lg_sl args).length ≤ 7) (k : V tO MX3_stands r ws Po (0, 0) ws 0 lc []) : Sp tO MX3_stands r args ws Po := Sp.of (by decide +kernel) rfl rfl hlen (hz ▸ k)
abbrev MX4_init : zM := (yX4_init, cX4_init, 3, none, wsX4_init, RX4)
theorem oX4_init : zOk MX4_init 2 := ⟨⟨_, rfl⟩, by decide +kernel, by decide +kernel, by decide +kernel, by decide⟩
theorem eX4_init {tO : Nat} {r : Nat × Nat × Nat} {args : List Value} {ws : zW} {Po : zPo} (lc : List (Option Value)) (hz : zLoc args 3 = lc) (hlen : (lg_sl args).length ≤ 3) (k : V tO MX4_init r ws Po (0, 0) ws 0 lc []) : Sp tO MX4_init r args ws Po := Sp.of (by decide +kernel) rfl rfl hlen (hz ▸ k)
abbrev MX4_books : zM := (yX4_books, cX4_books, 1, (some .int), wsX4_books, RX4)
theorem oX4_books : zOk MX4_books 0 := ⟨⟨_, rfl⟩, by decide +kernel, by decide +kernel, by decide +kernel, by decide⟩
theorem eX4_books {tO : Nat} {r : Nat × Nat × Nat} {args : List Value} {ws : zW} {Po : zPo} (lc : List (Option Value)) (hz : zLoc args 1 = lc) (hlen : (lg_sl args).length ≤ 1) (k : V tO MX4_books r ws Po (0, 0) ws 0 lc []) : Sp tO MX4_books r args ws Po := Sp.of (by decide +kernel) rfl rfl hlen (hz ▸ k)
abbrev MX4_wordsEach : zM := (yX4_wordsEach, cX4_wordsEach, 1, (some .int), wsX4_wordsEach, RX4)
theorem oX4_wordsEach : zOk MX4_wordsEach 0 := ⟨⟨_, rfl⟩, by decide +kernel, by decide +kernel, by decide +kernel, by decide⟩
theorem eX4_wordsEach {tO : Nat} {r : Nat × Nat × Nat} {args : List Value} {ws : zW} {Po : zPo} (lc : List (Option Value)) (hz : zLoc args 1 = lc) (hlen : (lg_sl args).length ≤ 1) (k : V tO MX4_wordsEach r ws Po (0, 0) ws 0 lc []) : Sp tO MX4_wordsEach r args ws Po := Sp.of (by decide +kernel) rfl rfl hlen (hz ▸ k)
abbrev MX4_kinds : zM := (yX4_kinds, cX4_kinds, 1, (some .int), wsX4_kinds, RX4)
theorem oX4_kinds : zOk MX4_kinds 0 := ⟨⟨_, rfl⟩, by decide +kernel, by decide +kernel, by decide +kernel, by decide⟩
theorem eX4_kinds {tO : Nat} {r : Nat × Nat × Nat} {args : List Value} {ws : zW} {Po : zPo} (lc : List (Option Value)) (hz : zLoc args 1 = lc) (hlen : (lg_sl args).length ≤ 1) (k : V tO MX4_kinds r ws Po (0, 0) ws 0 lc []) : Sp tO MX4_kinds r args ws Po := Sp.of (by decide +kernel) rfl rfl hlen (hz ▸ k)
abbrev MX4_wordOf : zM := (yX4_wordOf, cX4_wordOf, 5, (some .int), wsX4_wordOf, RX4)
theorem oX4_wordOf : zOk MX4_wordOf 2 := ⟨⟨_, rfl⟩, by decide +kernel, by decide +kernel, by decide +kernel, by decide⟩
theorem eX4_wordOf {tO : Nat} {r : Nat × Nat × Nat} {args : List Value} {ws : zW} {Po : zPo} (lc : List (Option Value)) (hz : zLoc args 5 = lc) (hlen : (lg_sl args).length ≤ 5) (k : V tO MX4_wordOf r ws Po (0, 0) ws 0 lc []) : Sp tO MX4_wordOf r args ws Po := Sp.of (by decide +kernel) rfl rfl hlen (hz ▸ k)
abbrev MX4_find : zM := (yX4_find, cX4_find, 2, none, wsX4_find, RX4)
theorem oX4_find : zOk MX4_find 0 := ⟨⟨_, rfl⟩, by decide +kernel, by decide +kernel, by decide +kernel, by decide⟩
theorem eX4_find {tO : Nat} {r : Nat × Nat × Nat} {args : List Value} {ws : zW} {Po : zPo} (lc : List (Option Value)) (hz : zLoc args 2 = lc) (hlen : (lg_sl args).length ≤ 2) (k : V tO MX4_find r ws Po (0, 0) ws 0 lc []) : Sp tO MX4_find r args ws Po := Sp.of (by decide +kernel) rfl rfl hlen (hz ▸ k)
abbrev MX4_numberRings : zM := (yX4_numberRings, cX4_numberRings, 3, none, wsX4_numberRings, RX4)
theorem oX4_numberRings : zOk MX4_numberRings 0 := ⟨⟨_, rfl⟩, by decide +kernel, by decide +kernel, by decide +kernel, by decide⟩
theorem eX4_numberRings {tO : Nat} {r : Nat × Nat × Nat} {args : List Value} {ws : zW} {Po : zPo} (lc : List (Option Value)) (hz : zLoc args 3 = lc) (hlen : (lg_sl args).length ≤ 3) (k : V tO MX4_numberRings r ws Po (0, 0) ws 0 lc []) : Sp tO MX4_numberRings r args ws Po := Sp.of (by decide +kernel) rfl rfl hlen (hz ▸ k)
abbrev MX4_seek : zM := (yX4_seek, cX4_seek, 4, none, wsX4_seek, RX4)
theorem oX4_seek : zOk MX4_seek 3 := ⟨⟨_, rfl⟩, by decide +kernel, by decide +kernel, by decide +kernel, by decide⟩
theorem eX4_seek {tO : Nat} {r : Nat × Nat × Nat} {args : List Value} {ws : zW} {Po : zPo} (lc : List (Option Value)) (hz : zLoc args 4 = lc) (hlen : (lg_sl args).length ≤ 4) (k : V tO MX4_seek r ws Po (0, 0) ws 0 lc []) : Sp tO MX4_seek r args ws Po := Sp.of (by decide +kernel) rfl rfl hlen (hz ▸ k)
abbrev MX4_note : zM := (yX4_note, cX4_note, 2, none, wsX4_note, RX4)
theorem oX4_note : zOk MX4_note 1 := ⟨⟨_, rfl⟩, by decide +kernel, by decide +kernel, by decide +kernel, by decide⟩
theorem eX4_note {tO : Nat} {r : Nat × Nat × Nat} {args : List Value} {ws : zW} {Po : zPo} (lc : List (Option Value)) (hz : zLoc args 2 = lc) (hlen : (lg_sl args).length ≤ 2) (k : V tO MX4_note r ws Po (0, 0) ws 0 lc []) : Sp tO MX4_note r args ws Po := Sp.of (by decide +kernel) rfl rfl hlen (hz ▸ k)
abbrev MX4_isLeastOfItsKind : zM := (yX4_isLeastOfItsKind, cX4_isLeastOfItsKind, 4, (some .boolean), wsX4_isLeastOfItsKind, RX4)
theorem oX4_isLeastOfItsKind : zOk MX4_isLeastOfItsKind 1 := ⟨⟨_, rfl⟩, by decide +kernel, by decide +kernel, by decide +kernel, by decide⟩
theorem eX4_isLeastOfItsKind {tO : Nat} {r : Nat × Nat × Nat} {args : List Value} {ws : zW} {Po : zPo} (lc : List (Option Value)) (hz : zLoc args 4 = lc) (hlen : (lg_sl args).length ≤ 4) (k : V tO MX4_isLeastOfItsKind r ws Po (0, 0) ws 0 lc []) : Sp tO MX4_isLeastOfItsKind r args ws Po := Sp.of (by decide +kernel) rfl rfl hlen (hz ▸ k)
abbrev MX4_exchangedBits : zM := (yX4_exchangedBits, cX4_exchangedBits, 5, (some .int), wsX4_exchangedBits, RX4)
theorem oX4_exchangedBits : zOk MX4_exchangedBits 2 := ⟨⟨_, rfl⟩, by decide +kernel, by decide +kernel, by decide +kernel, by decide⟩
theorem eX4_exchangedBits {tO : Nat} {r : Nat × Nat × Nat} {args : List Value} {ws : zW} {Po : zPo} (lc : List (Option Value)) (hz : zLoc args 5 = lc) (hlen : (lg_sl args).length ≤ 5) (k : V tO MX4_exchangedBits r ws Po (0, 0) ws 0 lc []) : Sp tO MX4_exchangedBits r args ws Po := Sp.of (by decide +kernel) rfl rfl hlen (hz ▸ k)
abbrev MX5_init : zM := (yX5_init, cX5_init, 1, none, wsX5_init, RX5)
theorem oX5_init : zOk MX5_init 0 := ⟨⟨_, rfl⟩, by decide +kernel, by decide +kernel, by decide +kernel, by decide⟩
theorem eX5_init {tO : Nat} {r : Nat × Nat × Nat} {args : List Value} {ws : zW} {Po : zPo} (lc : List (Option Value)) (hz : zLoc args 1 = lc) (hlen : (lg_sl args).length ≤ 1) (k : V tO MX5_init r ws Po (0, 0) ws 0 lc []) : Sp tO MX5_init r args ws Po := Sp.of (by decide +kernel) rfl rfl hlen (hz ▸ k)
abbrev MX5_isList : zM := (yX5_isList, cX5_isList, 1, (some .boolean), wsX5_isList, RX5)
theorem oX5_isList : zOk MX5_isList 1 := ⟨⟨_, rfl⟩, by decide +kernel, by decide +kernel, by decide +kernel, by decide⟩
theorem eX5_isList {tO : Nat} {r : Nat × Nat × Nat} {args : List Value} {ws : zW} {Po : zPo} (lc : List (Option Value)) (hz : zLoc args 1 = lc) (hlen : (lg_sl args).length ≤ 1) (k : V tO MX5_isList r ws Po (0, 0) ws 0 lc []) : Sp tO MX5_isList r args ws Po := Sp.of (by decide +kernel) rfl rfl hlen (hz ▸ k)
abbrev MX5_length : zM := (yX5_length, cX5_length, 2, (some .int), wsX5_length, RX5)
theorem oX5_length : zOk MX5_length 1 := ⟨⟨_, rfl⟩, by decide +kernel, by decide +kernel, by decide +kernel, by decide⟩
theorem eX5_length {tO : Nat} {r : Nat × Nat × Nat} {args : List Value} {ws : zW} {Po : zPo} (lc : List (Option Value)) (hz : zLoc args 2 = lc) (hlen : (lg_sl args).length ≤ 2) (k : V tO MX5_length r ws Po (0, 0) ws 0 lc []) : Sp tO MX5_length r args ws Po := Sp.of (by decide +kernel) rfl rfl hlen (hz ▸ k)
abbrev MX5_at : zM := (yX5_at, cX5_at, 3, (some .int), wsX5_at, RX5)
theorem oX5_at : zOk MX5_at 2 := ⟨⟨_, rfl⟩, by decide +kernel, by decide +kernel, by decide +kernel, by decide⟩
theorem eX5_at {tO : Nat} {r : Nat × Nat × Nat} {args : List Value} {ws : zW} {Po : zPo} (lc : List (Option Value)) (hz : zLoc args 3 = lc) (hlen : (lg_sl args).length ≤ 3) (k : V tO MX5_at r ws Po (0, 0) ws 0 lc []) : Sp tO MX5_at r args ws Po := Sp.of (by decide +kernel) rfl rfl hlen (hz ▸ k)
abbrev MX5_set : zM := (yX5_set, cX5_set, 4, none, wsX5_set, RX5)
theorem oX5_set : zOk MX5_set 3 := ⟨⟨_, rfl⟩, by decide +kernel, by decide +kernel, by decide +kernel, by decide⟩
theorem eX5_set {tO : Nat} {r : Nat × Nat × Nat} {args : List Value} {ws : zW} {Po : zPo} (lc : List (Option Value)) (hz : zLoc args 4 = lc) (hlen : (lg_sl args).length ≤ 4) (k : V tO MX5_set r ws Po (0, 0) ws 0 lc []) : Sp tO MX5_set r args ws Po := Sp.of (by decide +kernel) rfl rfl hlen (hz ▸ k)
abbrev MX5_become : zM := (yX5_become, cX5_become, 4, none, wsX5_become, RX5)
theorem oX5_become : zOk MX5_become 2 := ⟨⟨_, rfl⟩, by decide +kernel, by decide +kernel, by decide +kernel, by decide⟩
theorem eX5_become {tO : Nat} {r : Nat × Nat × Nat} {args : List Value} {ws : zW} {Po : zPo} (lc : List (Option Value)) (hz : zLoc args 4 = lc) (hlen : (lg_sl args).length ≤ 4) (k : V tO MX5_become r ws Po (0, 0) ws 0 lc []) : Sp tO MX5_become r args ws Po := Sp.of (by decide +kernel) rfl rfl hlen (hz ▸ k)
abbrev MX6_init : zM := (yX6_init, cX6_init, 1, none, wsX6_init, RX6)
theorem oX6_init : zOk MX6_init 0 := ⟨⟨_, rfl⟩, by decide +kernel, by decide +kernel, by decide +kernel, by decide⟩
theorem eX6_init {tO : Nat} {r : Nat × Nat × Nat} {args : List Value} {ws : zW} {Po : zPo} (lc : List (Option Value)) (hz : zLoc args 1 = lc) (hlen : (lg_sl args).length ≤ 1) (k : V tO MX6_init r ws Po (0, 0) ws 0 lc []) : Sp tO MX6_init r args ws Po := Sp.of (by decide +kernel) rfl rfl hlen (hz ▸ k)
abbrev MX6_total : zM := (yX6_total, cX6_total, 1, (some .int), wsX6_total, RX6)
theorem oX6_total : zOk MX6_total 0 := ⟨⟨_, rfl⟩, by decide +kernel, by decide +kernel, by decide +kernel, by decide⟩
theorem eX6_total {tO : Nat} {r : Nat × Nat × Nat} {args : List Value} {ws : zW} {Po : zPo} (lc : List (Option Value)) (hz : zLoc args 1 = lc) (hlen : (lg_sl args).length ≤ 1) (k : V tO MX6_total r ws Po (0, 0) ws 0 lc []) : Sp tO MX6_total r args ws Po := Sp.of (by decide +kernel) rfl rfl hlen (hz ▸ k)
abbrev MX6_byteAt : zM := (yX6_byteAt, cX6_byteAt, 2, (some .int), wsX6_byteAt, RX6)
theorem oX6_byteAt : zOk MX6_byteAt 1 := ⟨⟨_, rfl⟩, by decide +kernel, by decide +kernel, by decide +kernel, by decide⟩
theorem eX6_byteAt {tO : Nat} {r : Nat × Nat × Nat} {args : List Value} {ws : zW} {Po : zPo} (lc : List (Option Value)) (hz : zLoc args 2 = lc) (hlen : (lg_sl args).length ≤ 2) (k : V tO MX6_byteAt r ws Po (0, 0) ws 0 lc []) : Sp tO MX6_byteAt r args ws Po := Sp.of (by decide +kernel) rfl rfl hlen (hz ▸ k)
abbrev MX6_become : zM := (yX6_become, cX6_become, 4, none, wsX6_become, RX6)
theorem oX6_become : zOk MX6_become 1 := ⟨⟨_, rfl⟩, by decide +kernel, by decide +kernel, by decide +kernel, by decide⟩
theorem eX6_become {tO : Nat} {r : Nat × Nat × Nat} {args : List Value} {ws : zW} {Po : zPo} (lc : List (Option Value)) (hz : zLoc args 4 = lc) (hlen : (lg_sl args).length ≤ 4) (k : V tO MX6_become r ws Po (0, 0) ws 0 lc []) : Sp tO MX6_become r args ws Po := Sp.of (by decide +kernel) rfl rfl hlen (hz ▸ k)
abbrev MX6_append : zM := (yX6_append, cX6_append, 2, none, wsX6_append, RX6)
theorem oX6_append : zOk MX6_append 1 := ⟨⟨_, rfl⟩, by decide +kernel, by decide +kernel, by decide +kernel, by decide⟩
theorem eX6_append {tO : Nat} {r : Nat × Nat × Nat} {args : List Value} {ws : zW} {Po : zPo} (lc : List (Option Value)) (hz : zLoc args 2 = lc) (hlen : (lg_sl args).length ≤ 2) (k : V tO MX6_append r ws Po (0, 0) ws 0 lc []) : Sp tO MX6_append r args ws Po := Sp.of (by decide +kernel) rfl rfl hlen (hz ▸ k)
abbrev MX7_init : zM := (yX7_init, cX7_init, 2, none, wsX7_init, RX7)
theorem oX7_init : zOk MX7_init 1 := ⟨⟨_, rfl⟩, by decide +kernel, by decide +kernel, by decide +kernel, by decide⟩
theorem eX7_init {tO : Nat} {r : Nat × Nat × Nat} {args : List Value} {ws : zW} {Po : zPo} (lc : List (Option Value)) (hz : zLoc args 2 = lc) (hlen : (lg_sl args).length ≤ 2) (k : V tO MX7_init r ws Po (0, 0) ws 0 lc []) : Sp tO MX7_init r args ws Po := Sp.of (by decide +kernel) rfl rfl hlen (hz ▸ k)
abbrev MX7_total : zM := (yX7_total, cX7_total, 1, (some .int), wsX7_total, RX7)
theorem oX7_total : zOk MX7_total 0 := ⟨⟨_, rfl⟩, by decide +kernel, by decide +kernel, by decide +kernel, by decide⟩
theorem eX7_total {tO : Nat} {r : Nat × Nat × Nat} {args : List Value} {ws : zW} {Po : zPo} (lc : List (Option Value)) (hz : zLoc args 1 = lc) (hlen : (lg_sl args).length ≤ 1) (k : V tO MX7_total r ws Po (0, 0) ws 0 lc []) : Sp tO MX7_total r args ws Po := Sp.of (by decide +kernel) rfl rfl hlen (hz ▸ k)
abbrev MX7_empty : zM := (yX7_empty, cX7_empty, 1, none, wsX7_empty, RX7)
theorem oX7_empty : zOk MX7_empty 0 := ⟨⟨_, rfl⟩, by decide +kernel, by decide +kernel, by decide +kernel, by decide⟩
theorem eX7_empty {tO : Nat} {r : Nat × Nat × Nat} {args : List Value} {ws : zW} {Po : zPo} (lc : List (Option Value)) (hz : zLoc args 1 = lc) (hlen : (lg_sl args).length ≤ 1) (k : V tO MX7_empty r ws Po (0, 0) ws 0 lc []) : Sp tO MX7_empty r args ws Po := Sp.of (by decide +kernel) rfl rfl hlen (hz ▸ k)
abbrev MX7_copyFrom : zM := (yX7_copyFrom, cX7_copyFrom, 2, none, wsX7_copyFrom, RX7)
theorem oX7_copyFrom : zOk MX7_copyFrom 1 := ⟨⟨_, rfl⟩, by decide +kernel, by decide +kernel, by decide +kernel, by decide⟩
theorem eX7_copyFrom {tO : Nat} {r : Nat × Nat × Nat} {args : List Value} {ws : zW} {Po : zPo} (lc : List (Option Value)) (hz : zLoc args 2 = lc) (hlen : (lg_sl args).length ≤ 2) (k : V tO MX7_copyFrom r ws Po (0, 0) ws 0 lc []) : Sp tO MX7_copyFrom r args ws Po := Sp.of (by decide +kernel) rfl rfl hlen (hz ▸ k)
abbrev MX7_append : zM := (yX7_append, cX7_append, 3, (some .boolean), wsX7_append, RX7)
theorem oX7_append : zOk MX7_append 2 := ⟨⟨_, rfl⟩, by decide +kernel, by decide +kernel, by decide +kernel, by decide⟩
theorem eX7_append {tO : Nat} {r : Nat × Nat × Nat} {args : List Value} {ws : zW} {Po : zPo} (lc : List (Option Value)) (hz : zLoc args 3 = lc) (hlen : (lg_sl args).length ≤ 3) (k : V tO MX7_append r ws Po (0, 0) ws 0 lc []) : Sp tO MX7_append r args ws Po := Sp.of (by decide +kernel) rfl rfl hlen (hz ▸ k)
abbrev MX7_doneTo : zM := (yX7_doneTo, cX7_doneTo, 3, none, wsX7_doneTo, RX7)
theorem oX7_doneTo : zOk MX7_doneTo 1 := ⟨⟨_, rfl⟩, by decide +kernel, by decide +kernel, by decide +kernel, by decide⟩
theorem eX7_doneTo {tO : Nat} {r : Nat × Nat × Nat} {args : List Value} {ws : zW} {Po : zPo} (lc : List (Option Value)) (hz : zLoc args 3 = lc) (hlen : (lg_sl args).length ≤ 3) (k : V tO MX7_doneTo r ws Po (0, 0) ws 0 lc []) : Sp tO MX7_doneTo r args ws Po := Sp.of (by decide +kernel) rfl rfl hlen (hz ▸ k)
abbrev MX7_doRow : zM := (yX7_doRow, cX7_doRow, 4, none, wsX7_doRow, RX7)
theorem oX7_doRow : zOk MX7_doRow 3 := ⟨⟨_, rfl⟩, by decide +kernel, by decide +kernel, by decide +kernel, by decide⟩
theorem eX7_doRow {tO : Nat} {r : Nat × Nat × Nat} {args : List Value} {ws : zW} {Po : zPo} (lc : List (Option Value)) (hz : zLoc args 4 = lc) (hlen : (lg_sl args).length ≤ 4) (k : V tO MX7_doRow r ws Po (0, 0) ws 0 lc []) : Sp tO MX7_doRow r args ws Po := Sp.of (by decide +kernel) rfl rfl hlen (hz ▸ k)
abbrev MX8_at : zM := (yX8_at, cX8_at, 2, (some .int), wsX8_at, RX8)
theorem oX8_at : zOk MX8_at 2 := ⟨⟨_, rfl⟩, by decide +kernel, by decide +kernel, by decide +kernel, by decide⟩
theorem eX8_at {tO : Nat} {r : Nat × Nat × Nat} {args : List Value} {ws : zW} {Po : zPo} (lc : List (Option Value)) (hz : zLoc args 2 = lc) (hlen : (lg_sl args).length ≤ 2) (k : V tO MX8_at r ws Po (0, 0) ws 0 lc []) : Sp tO MX8_at r args ws Po := Sp.of (by decide +kernel) rfl rfl hlen (hz ▸ k)
abbrev MX8_set : zM := (yX8_set, cX8_set, 3, none, wsX8_set, RX8)
theorem oX8_set : zOk MX8_set 3 := ⟨⟨_, rfl⟩, by decide +kernel, by decide +kernel, by decide +kernel, by decide⟩
theorem eX8_set {tO : Nat} {r : Nat × Nat × Nat} {args : List Value} {ws : zW} {Po : zPo} (lc : List (Option Value)) (hz : zLoc args 3 = lc) (hlen : (lg_sl args).length ≤ 3) (k : V tO MX8_set r ws Po (0, 0) ws 0 lc []) : Sp tO MX8_set r args ws Po := Sp.of (by decide +kernel) rfl rfl hlen (hz ▸ k)
abbrev MX8_fill : zM := (yX8_fill, cX8_fill, 3, none, wsX8_fill, RX8)
theorem oX8_fill : zOk MX8_fill 2 := ⟨⟨_, rfl⟩, by decide +kernel, by decide +kernel, by decide +kernel, by decide⟩
theorem eX8_fill {tO : Nat} {r : Nat × Nat × Nat} {args : List Value} {ws : zW} {Po : zPo} (lc : List (Option Value)) (hz : zLoc args 3 = lc) (hlen : (lg_sl args).length ≤ 3) (k : V tO MX8_fill r ws Po (0, 0) ws 0 lc []) : Sp tO MX8_fill r args ws Po := Sp.of (by decide +kernel) rfl rfl hlen (hz ▸ k)
abbrev MX8_copy : zM := (yX8_copy, cX8_copy, 3, none, wsX8_copy, RX8)
theorem oX8_copy : zOk MX8_copy 2 := ⟨⟨_, rfl⟩, by decide +kernel, by decide +kernel, by decide +kernel, by decide⟩
theorem eX8_copy {tO : Nat} {r : Nat × Nat × Nat} {args : List Value} {ws : zW} {Po : zPo} (lc : List (Option Value)) (hz : zLoc args 3 = lc) (hlen : (lg_sl args).length ≤ 3) (k : V tO MX8_copy r ws Po (0, 0) ws 0 lc []) : Sp tO MX8_copy r args ws Po := Sp.of (by decide +kernel) rfl rfl hlen (hz ▸ k)
abbrev MX8_over : zM := (yX8_over, cX8_over, 2, (some .int), wsX8_over, RX8)
theorem oX8_over : zOk MX8_over 2 := ⟨⟨_, rfl⟩, by decide +kernel, by decide +kernel, by decide +kernel, by decide⟩
theorem eX8_over {tO : Nat} {r : Nat × Nat × Nat} {args : List Value} {ws : zW} {Po : zPo} (lc : List (Option Value)) (hz : zLoc args 2 = lc) (hlen : (lg_sl args).length ≤ 2) (k : V tO MX8_over r ws Po (0, 0) ws 0 lc []) : Sp tO MX8_over r args ws Po := Sp.of (by decide +kernel) rfl rfl hlen (hz ▸ k)
abbrev MX8_rest : zM := (yX8_rest, cX8_rest, 2, (some .int), wsX8_rest, RX8)
theorem oX8_rest : zOk MX8_rest 2 := ⟨⟨_, rfl⟩, by decide +kernel, by decide +kernel, by decide +kernel, by decide⟩
theorem eX8_rest {tO : Nat} {r : Nat × Nat × Nat} {args : List Value} {ws : zW} {Po : zPo} (lc : List (Option Value)) (hz : zLoc args 2 = lc) (hlen : (lg_sl args).length ≤ 2) (k : V tO MX8_rest r ws Po (0, 0) ws 0 lc []) : Sp tO MX8_rest r args ws Po := Sp.of (by decide +kernel) rfl rfl hlen (hz ▸ k)
abbrev MX8_commonDivisor : zM := (yX8_commonDivisor, cX8_commonDivisor, 3, (some .int), wsX8_commonDivisor, RX8)
theorem oX8_commonDivisor : zOk MX8_commonDivisor 2 := ⟨⟨_, rfl⟩, by decide +kernel, by decide +kernel, by decide +kernel, by decide⟩
theorem eX8_commonDivisor {tO : Nat} {r : Nat × Nat × Nat} {args : List Value} {ws : zW} {Po : zPo} (lc : List (Option Value)) (hz : zLoc args 3 = lc) (hlen : (lg_sl args).length ≤ 3) (k : V tO MX8_commonDivisor r ws Po (0, 0) ws 0 lc []) : Sp tO MX8_commonDivisor r args ws Po := Sp.of (by decide +kernel) rfl rfl hlen (hz ▸ k)
abbrev MX9_init : zM := (yX9_init, cX9_init, 2, none, wsX9_init, RX9)
theorem oX9_init : zOk MX9_init 1 := ⟨⟨_, rfl⟩, by decide +kernel, by decide +kernel, by decide +kernel, by decide⟩
theorem eX9_init {tO : Nat} {r : Nat × Nat × Nat} {args : List Value} {ws : zW} {Po : zPo} (lc : List (Option Value)) (hz : zLoc args 2 = lc) (hlen : (lg_sl args).length ≤ 2) (k : V tO MX9_init r ws Po (0, 0) ws 0 lc []) : Sp tO MX9_init r args ws Po := Sp.of (by decide +kernel) rfl rfl hlen (hz ▸ k)
abbrev MX9_total : zM := (yX9_total, cX9_total, 1, (some .int), wsX9_total, RX9)
theorem oX9_total : zOk MX9_total 0 := ⟨⟨_, rfl⟩, by decide +kernel, by decide +kernel, by decide +kernel, by decide⟩
theorem eX9_total {tO : Nat} {r : Nat × Nat × Nat} {args : List Value} {ws : zW} {Po : zPo} (lc : List (Option Value)) (hz : zLoc args 1 = lc) (hlen : (lg_sl args).length ≤ 1) (k : V tO MX9_total r ws Po (0, 0) ws 0 lc []) : Sp tO MX9_total r args ws Po := Sp.of (by decide +kernel) rfl rfl hlen (hz ▸ k)
abbrev MX9_room : zM := (yX9_room, cX9_room, 1, (some .int), wsX9_room, RX9)
theorem oX9_room : zOk MX9_room 0 := ⟨⟨_, rfl⟩, by decide +kernel, by decide +kernel, by decide +kernel, by decide⟩
theorem eX9_room {tO : Nat} {r : Nat × Nat × Nat} {args : List Value} {ws : zW} {Po : zPo} (lc : List (Option Value)) (hz : zLoc args 1 = lc) (hlen : (lg_sl args).length ≤ 1) (k : V tO MX9_room r ws Po (0, 0) ws 0 lc []) : Sp tO MX9_room r args ws Po := Sp.of (by decide +kernel) rfl rfl hlen (hz ▸ k)
abbrev MX9_empty : zM := (yX9_empty, cX9_empty, 1, none, wsX9_empty, RX9)
theorem oX9_empty : zOk MX9_empty 0 := ⟨⟨_, rfl⟩, by decide +kernel, by decide +kernel, by decide +kernel, by decide⟩
theorem eX9_empty {tO : Nat} {r : Nat × Nat × Nat} {args : List Value} {ws : zW} {Po : zPo} (lc : List (Option Value)) (hz : zLoc args 1 = lc) (hlen : (lg_sl args).length ≤ 1) (k : V tO MX9_empty r ws Po (0, 0) ws 0 lc []) : Sp tO MX9_empty r args ws Po := Sp.of (by decide +kernel) rfl rfl hlen (hz ▸ k)
abbrev MX9_copyFrom : zM := (yX9_copyFrom, cX9_copyFrom, 2, none, wsX9_copyFrom, RX9)
theorem oX9_copyFrom : zOk MX9_copyFrom 1 := ⟨⟨_, rfl⟩, by decide +kernel, by decide +kernel, by decide +kernel, by decide⟩
theorem eX9_copyFrom {tO : Nat} {r : Nat × Nat × Nat} {args : List Value} {ws : zW} {Po : zPo} (lc : List (Option Value)) (hz : zLoc args 2 = lc) (hlen : (lg_sl args).length ≤ 2) (k : V tO MX9_copyFrom r ws Po (0, 0) ws 0 lc []) : Sp tO MX9_copyFrom r args ws Po := Sp.of (by decide +kernel) rfl rfl hlen (hz ▸ k)
abbrev MX9_append : zM := (yX9_append, cX9_append, 2, none, wsX9_append, RX9)
theorem oX9_append : zOk MX9_append 1 := ⟨⟨_, rfl⟩, by decide +kernel, by decide +kernel, by decide +kernel, by decide⟩
theorem eX9_append {tO : Nat} {r : Nat × Nat × Nat} {args : List Value} {ws : zW} {Po : zPo} (lc : List (Option Value)) (hz : zLoc args 2 = lc) (hlen : (lg_sl args).length ≤ 2) (k : V tO MX9_append r ws Po (0, 0) ws 0 lc []) : Sp tO MX9_append r args ws Po := Sp.of (by decide +kernel) rfl rfl hlen (hz ▸ k)
abbrev MX9_cutAhead : zM := (yX9_cutAhead, cX9_cutAhead, 4, none, wsX9_cutAhead, RX9)
theorem oX9_cutAhead : zOk MX9_cutAhead 1 := ⟨⟨_, rfl⟩, by decide +kernel, by decide +kernel, by decide +kernel, by decide⟩
theorem eX9_cutAhead {tO : Nat} {r : Nat × Nat × Nat} {args : List Value} {ws : zW} {Po : zPo} (lc : List (Option Value)) (hz : zLoc args 4 = lc) (hlen : (lg_sl args).length ≤ 4) (k : V tO MX9_cutAhead r ws Po (0, 0) ws 0 lc []) : Sp tO MX9_cutAhead r args ws Po := Sp.of (by decide +kernel) rfl rfl hlen (hz ▸ k)
abbrev MX9_measure : zM := (yX9_measure, cX9_measure, 3, none, wsX9_measure, RX9)
theorem oX9_measure : zOk MX9_measure 1 := ⟨⟨_, rfl⟩, by decide +kernel, by decide +kernel, by decide +kernel, by decide⟩
theorem eX9_measure {tO : Nat} {r : Nat × Nat × Nat} {args : List Value} {ws : zW} {Po : zPo} (lc : List (Option Value)) (hz : zLoc args 3 = lc) (hlen : (lg_sl args).length ≤ 3) (k : V tO MX9_measure r ws Po (0, 0) ws 0 lc []) : Sp tO MX9_measure r args ws Po := Sp.of (by decide +kernel) rfl rfl hlen (hz ▸ k)
abbrev MX9_reach : zM := (yX9_reach, cX9_reach, 7, (some .int), wsX9_reach, RX9)
theorem oX9_reach : zOk MX9_reach 2 := ⟨⟨_, rfl⟩, by decide +kernel, by decide +kernel, by decide +kernel, by decide⟩
theorem eX9_reach {tO : Nat} {r : Nat × Nat × Nat} {args : List Value} {ws : zW} {Po : zPo} (lc : List (Option Value)) (hz : zLoc args 7 = lc) (hlen : (lg_sl args).length ≤ 7) (k : V tO MX9_reach r ws Po (0, 0) ws 0 lc []) : Sp tO MX9_reach r args ws Po := Sp.of (by decide +kernel) rfl rfl hlen (hz ▸ k)
abbrev MX9_offsets : zM := (yX9_offsets, cX9_offsets, 4, (some .int), wsX9_offsets, RX9)
theorem oX9_offsets : zOk MX9_offsets 1 := ⟨⟨_, rfl⟩, by decide +kernel, by decide +kernel, by decide +kernel, by decide⟩
theorem eX9_offsets {tO : Nat} {r : Nat × Nat × Nat} {args : List Value} {ws : zW} {Po : zPo} (lc : List (Option Value)) (hz : zLoc args 4 = lc) (hlen : (lg_sl args).length ≤ 4) (k : V tO MX9_offsets r ws Po (0, 0) ws 0 lc []) : Sp tO MX9_offsets r args ws Po := Sp.of (by decide +kernel) rfl rfl hlen (hz ▸ k)
abbrev MX9_firstCertain : zM := (yX9_firstCertain, cX9_firstCertain, 5, (some .int), wsX9_firstCertain, RX9)
theorem oX9_firstCertain : zOk MX9_firstCertain 1 := ⟨⟨_, rfl⟩, by decide +kernel, by decide +kernel, by decide +kernel, by decide⟩
theorem eX9_firstCertain {tO : Nat} {r : Nat × Nat × Nat} {args : List Value} {ws : zW} {Po : zPo} (lc : List (Option Value)) (hz : zLoc args 5 = lc) (hlen : (lg_sl args).length ≤ 5) (k : V tO MX9_firstCertain r ws Po (0, 0) ws 0 lc []) : Sp tO MX9_firstCertain r args ws Po := Sp.of (by decide +kernel) rfl rfl hlen (hz ▸ k)
abbrev MX10_init : zM := (yX10_init, cX10_init, 1, none, wsX10_init, RX10)
theorem oX10_init : zOk MX10_init 0 := ⟨⟨_, rfl⟩, by decide +kernel, by decide +kernel, by decide +kernel, by decide⟩
theorem eX10_init {tO : Nat} {r : Nat × Nat × Nat} {args : List Value} {ws : zW} {Po : zPo} (lc : List (Option Value)) (hz : zLoc args 1 = lc) (hlen : (lg_sl args).length ≤ 1) (k : V tO MX10_init r ws Po (0, 0) ws 0 lc []) : Sp tO MX10_init r args ws Po := Sp.of (by decide +kernel) rfl rfl hlen (hz ▸ k)
abbrev MX10_total : zM := (yX10_total, cX10_total, 1, (some .int), wsX10_total, RX10)
theorem oX10_total : zOk MX10_total 0 := ⟨⟨_, rfl⟩, by decide +kernel, by decide +kernel, by decide +kernel, by decide⟩
theorem eX10_total {tO : Nat} {r : Nat × Nat × Nat} {args : List Value} {ws : zW} {Po : zPo} (lc : List (Option Value)) (hz : zLoc args 1 = lc) (hlen : (lg_sl args).length ≤ 1) (k : V tO MX10_total r ws Po (0, 0) ws 0 lc []) : Sp tO MX10_total r args ws Po := Sp.of (by decide +kernel) rfl rfl hlen (hz ▸ k)
abbrev MX10_append : zM := (yX10_append, cX10_append, 2, (some .boolean), wsX10_append, RX10)
theorem oX10_append : zOk MX10_append 1 := ⟨⟨_, rfl⟩, by decide +kernel, by decide +kernel, by decide +kernel, by decide⟩
theorem eX10_append {tO : Nat} {r : Nat × Nat × Nat} {args : List Value} {ws : zW} {Po : zPo} (lc : List (Option Value)) (hz : zLoc args 2 = lc) (hlen : (lg_sl args).length ≤ 2) (k : V tO MX10_append r ws Po (0, 0) ws 0 lc []) : Sp tO MX10_append r args ws Po := Sp.of (by decide +kernel) rfl rfl hlen (hz ▸ k)
abbrev MX10_reason : zM := (yX10_reason, cX10_reason, 2, (some .int), wsX10_reason, RX10)
theorem oX10_reason : zOk MX10_reason 1 := ⟨⟨_, rfl⟩, by decide +kernel, by decide +kernel, by decide +kernel, by decide⟩
theorem eX10_reason {tO : Nat} {r : Nat × Nat × Nat} {args : List Value} {ws : zW} {Po : zPo} (lc : List (Option Value)) (hz : zLoc args 2 = lc) (hlen : (lg_sl args).length ≤ 2) (k : V tO MX10_reason r ws Po (0, 0) ws 0 lc []) : Sp tO MX10_reason r args ws Po := Sp.of (by decide +kernel) rfl rfl hlen (hz ▸ k)
abbrev MX10_readInto : zM := (yX10_readInto, cX10_readInto, 8, (some .int), wsX10_readInto, RX10)
theorem oX10_readInto : zOk MX10_readInto 1 := ⟨⟨_, rfl⟩, by decide +kernel, by decide +kernel, by decide +kernel, by decide⟩
theorem eX10_readInto {tO : Nat} {r : Nat × Nat × Nat} {args : List Value} {ws : zW} {Po : zPo} (lc : List (Option Value)) (hz : zLoc args 8 = lc) (hlen : (lg_sl args).length ≤ 8) (k : V tO MX10_readInto r ws Po (0, 0) ws 0 lc []) : Sp tO MX10_readInto r args ws Po := Sp.of (by decide +kernel) rfl rfl hlen (hz ▸ k)
abbrev MX10_fault : zM := (yX10_fault, cX10_fault, 4, (some .int), wsX10_fault, RX10)
theorem oX10_fault : zOk MX10_fault 3 := ⟨⟨_, rfl⟩, by decide +kernel, by decide +kernel, by decide +kernel, by decide⟩
theorem eX10_fault {tO : Nat} {r : Nat × Nat × Nat} {args : List Value} {ws : zW} {Po : zPo} (lc : List (Option Value)) (hz : zLoc args 4 = lc) (hlen : (lg_sl args).length ≤ 4) (k : V tO MX10_fault r ws Po (0, 0) ws 0 lc []) : Sp tO MX10_fault r args ws Po := Sp.of (by decide +kernel) rfl rfl hlen (hz ▸ k)
abbrev MX11_init : zM := (yX11_init, cX11_init, 1, none, wsX11_init, RX11)
theorem oX11_init : zOk MX11_init 0 := ⟨⟨_, rfl⟩, by decide +kernel, by decide +kernel, by decide +kernel, by decide⟩
theorem eX11_init {tO : Nat} {r : Nat × Nat × Nat} {args : List Value} {ws : zW} {Po : zPo} (lc : List (Option Value)) (hz : zLoc args 1 = lc) (hlen : (lg_sl args).length ≤ 1) (k : V tO MX11_init r ws Po (0, 0) ws 0 lc []) : Sp tO MX11_init r args ws Po := Sp.of (by decide +kernel) rfl rfl hlen (hz ▸ k)
abbrev MX11_size : zM := (yX11_size, cX11_size, 3, (some .int), wsX11_size, RX11)
theorem oX11_size : zOk MX11_size 2 := ⟨⟨_, rfl⟩, by decide +kernel, by decide +kernel, by decide +kernel, by decide⟩
theorem eX11_size {tO : Nat} {r : Nat × Nat × Nat} {args : List Value} {ws : zW} {Po : zPo} (lc : List (Option Value)) (hz : zLoc args 3 = lc) (hlen : (lg_sl args).length ≤ 3) (k : V tO MX11_size r ws Po (0, 0) ws 0 lc []) : Sp tO MX11_size r args ws Po := Sp.of (by decide +kernel) rfl rfl hlen (hz ▸ k)
abbrev MX11_add : zM := (yX11_add, cX11_add, 2, (some .int), wsX11_add, RX11)
theorem oX11_add : zOk MX11_add 1 := ⟨⟨_, rfl⟩, by decide +kernel, by decide +kernel, by decide +kernel, by decide⟩
theorem eX11_add {tO : Nat} {r : Nat × Nat × Nat} {args : List Value} {ws : zW} {Po : zPo} (lc : List (Option Value)) (hz : zLoc args 2 = lc) (hlen : (lg_sl args).length ≤ 2) (k : V tO MX11_add r ws Po (0, 0) ws 0 lc []) : Sp tO MX11_add r args ws Po := Sp.of (by decide +kernel) rfl rfl hlen (hz ▸ k)
abbrev MX11_drop : zM := (yX11_drop, cX11_drop, 2, (some .int), wsX11_drop, RX11)
theorem oX11_drop : zOk MX11_drop 1 := ⟨⟨_, rfl⟩, by decide +kernel, by decide +kernel, by decide +kernel, by decide⟩
theorem eX11_drop {tO : Nat} {r : Nat × Nat × Nat} {args : List Value} {ws : zW} {Po : zPo} (lc : List (Option Value)) (hz : zLoc args 2 = lc) (hlen : (lg_sl args).length ≤ 2) (k : V tO MX11_drop r ws Po (0, 0) ws 0 lc []) : Sp tO MX11_drop r args ws Po := Sp.of (by decide +kernel) rfl rfl hlen (hz ▸ k)
abbrev MX11_clear : zM := (yX11_clear, cX11_clear, 2, (some .int), wsX11_clear, RX11)
theorem oX11_clear : zOk MX11_clear 0 := ⟨⟨_, rfl⟩, by decide +kernel, by decide +kernel, by decide +kernel, by decide⟩
theorem eX11_clear {tO : Nat} {r : Nat × Nat × Nat} {args : List Value} {ws : zW} {Po : zPo} (lc : List (Option Value)) (hz : zLoc args 2 = lc) (hlen : (lg_sl args).length ≤ 2) (k : V tO MX11_clear r ws Po (0, 0) ws 0 lc []) : Sp tO MX11_clear r args ws Po := Sp.of (by decide +kernel) rfl rfl hlen (hz ▸ k)
abbrev MX11_word : zM := (yX11_word, cX11_word, 2, (some .int), wsX11_word, RX11)
theorem oX11_word : zOk MX11_word 1 := ⟨⟨_, rfl⟩, by decide +kernel, by decide +kernel, by decide +kernel, by decide⟩
theorem eX11_word {tO : Nat} {r : Nat × Nat × Nat} {args : List Value} {ws : zW} {Po : zPo} (lc : List (Option Value)) (hz : zLoc args 2 = lc) (hlen : (lg_sl args).length ≤ 2) (k : V tO MX11_word r ws Po (0, 0) ws 0 lc []) : Sp tO MX11_word r args ws Po := Sp.of (by decide +kernel) rfl rfl hlen (hz ▸ k)
abbrev MX11_letter : zM := (yX11_letter, cX11_letter, 4, (some .int), wsX11_letter, RX11)
theorem oX11_letter : zOk MX11_letter 2 := ⟨⟨_, rfl⟩, by decide +kernel, by decide +kernel, by decide +kernel, by decide⟩
theorem eX11_letter {tO : Nat} {r : Nat × Nat × Nat} {args : List Value} {ws : zW} {Po : zPo} (lc : List (Option Value)) (hz : zLoc args 4 = lc) (hlen : (lg_sl args).length ≤ 4) (k : V tO MX11_letter r ws Po (0, 0) ws 0 lc []) : Sp tO MX11_letter r args ws Po := Sp.of (by decide +kernel) rfl rfl hlen (hz ▸ k)
abbrev MX11_hides : zM := (yX11_hides, cX11_hides, 7, (some .int), wsX11_hides, RX11)
theorem oX11_hides : zOk MX11_hides 3 := ⟨⟨_, rfl⟩, by decide +kernel, by decide +kernel, by decide +kernel, by decide⟩
theorem eX11_hides {tO : Nat} {r : Nat × Nat × Nat} {args : List Value} {ws : zW} {Po : zPo} (lc : List (Option Value)) (hz : zLoc args 7 = lc) (hlen : (lg_sl args).length ≤ 7) (k : V tO MX11_hides r ws Po (0, 0) ws 0 lc []) : Sp tO MX11_hides r args ws Po := Sp.of (by decide +kernel) rfl rfl hlen (hz ▸ k)
abbrev MX11_clash : zM := (yX11_clash, cX11_clash, 2, (some .int), wsX11_clash, RX11)
theorem oX11_clash : zOk MX11_clash 1 := ⟨⟨_, rfl⟩, by decide +kernel, by decide +kernel, by decide +kernel, by decide⟩
theorem eX11_clash {tO : Nat} {r : Nat × Nat × Nat} {args : List Value} {ws : zW} {Po : zPo} (lc : List (Option Value)) (hz : zLoc args 2 = lc) (hlen : (lg_sl args).length ≤ 2) (k : V tO MX11_clash r ws Po (0, 0) ws 0 lc []) : Sp tO MX11_clash r args ws Po := Sp.of (by decide +kernel) rfl rfl hlen (hz ▸ k)
abbrev MX11_may : zM := (yX11_may, cX11_may, 2, (some .int), wsX11_may, RX11)
theorem oX11_may : zOk MX11_may 1 := ⟨⟨_, rfl⟩, by decide +kernel, by decide +kernel, by decide +kernel, by decide⟩
theorem eX11_may {tO : Nat} {r : Nat × Nat × Nat} {args : List Value} {ws : zW} {Po : zPo} (lc : List (Option Value)) (hz : zLoc args 2 = lc) (hlen : (lg_sl args).length ≤ 2) (k : V tO MX11_may r ws Po (0, 0) ws 0 lc []) : Sp tO MX11_may r args ws Po := Sp.of (by decide +kernel) rfl rfl hlen (hz ▸ k)
abbrev MX11_mays : zM := (yX11_mays, cX11_mays, 5, (some .int), wsX11_mays, RX11)
theorem oX11_mays : zOk MX11_mays 1 := ⟨⟨_, rfl⟩, by decide +kernel, by decide +kernel, by decide +kernel, by decide⟩
theorem eX11_mays {tO : Nat} {r : Nat × Nat × Nat} {args : List Value} {ws : zW} {Po : zPo} (lc : List (Option Value)) (hz : zLoc args 5 = lc) (hlen : (lg_sl args).length ≤ 5) (k : V tO MX11_mays r ws Po (0, 0) ws 0 lc []) : Sp tO MX11_mays r args ws Po := Sp.of (by decide +kernel) rfl rfl hlen (hz ▸ k)
abbrev MX11_ring : zM := (yX11_ring, cX11_ring, 4, (some .int), wsX11_ring, RX11)
theorem oX11_ring : zOk MX11_ring 2 := ⟨⟨_, rfl⟩, by decide +kernel, by decide +kernel, by decide +kernel, by decide⟩
theorem eX11_ring {tO : Nat} {r : Nat × Nat × Nat} {args : List Value} {ws : zW} {Po : zPo} (lc : List (Option Value)) (hz : zLoc args 4 = lc) (hlen : (lg_sl args).length ≤ 4) (k : V tO MX11_ring r ws Po (0, 0) ws 0 lc []) : Sp tO MX11_ring r args ws Po := Sp.of (by decide +kernel) rfl rfl hlen (hz ▸ k)
abbrev MX11_bound : zM := (yX11_bound, cX11_bound, 2, (some .int), wsX11_bound, RX11)
theorem oX11_bound : zOk MX11_bound 1 := ⟨⟨_, rfl⟩, by decide +kernel, by decide +kernel, by decide +kernel, by decide⟩
theorem eX11_bound {tO : Nat} {r : Nat × Nat × Nat} {args : List Value} {ws : zW} {Po : zPo} (lc : List (Option Value)) (hz : zLoc args 2 = lc) (hlen : (lg_sl args).length ≤ 2) (k : V tO MX11_bound r ws Po (0, 0) ws 0 lc []) : Sp tO MX11_bound r args ws Po := Sp.of (by decide +kernel) rfl rfl hlen (hz ▸ k)
abbrev MX11_great : zM := (yX11_great, cX11_great, 3, (some .int), wsX11_great, RX11)
theorem oX11_great : zOk MX11_great 2 := ⟨⟨_, rfl⟩, by decide +kernel, by decide +kernel, by decide +kernel, by decide⟩
theorem eX11_great {tO : Nat} {r : Nat × Nat × Nat} {args : List Value} {ws : zW} {Po : zPo} (lc : List (Option Value)) (hz : zLoc args 3 = lc) (hlen : (lg_sl args).length ≤ 3) (k : V tO MX11_great r ws Po (0, 0) ws 0 lc []) : Sp tO MX11_great r args ws Po := Sp.of (by decide +kernel) rfl rfl hlen (hz ▸ k)
abbrev MX11_swapped : zM := (yX11_swapped, cX11_swapped, 4, (some .int), wsX11_swapped, RX11)
theorem oX11_swapped : zOk MX11_swapped 2 := ⟨⟨_, rfl⟩, by decide +kernel, by decide +kernel, by decide +kernel, by decide⟩
theorem eX11_swapped {tO : Nat} {r : Nat × Nat × Nat} {args : List Value} {ws : zW} {Po : zPo} (lc : List (Option Value)) (hz : zLoc args 4 = lc) (hlen : (lg_sl args).length ≤ 4) (k : V tO MX11_swapped r ws Po (0, 0) ws 0 lc []) : Sp tO MX11_swapped r args ws Po := Sp.of (by decide +kernel) rfl rfl hlen (hz ▸ k)
abbrev MX11_swap : zM := (yX11_swap, cX11_swap, 2, (some .int), wsX11_swap, RX11)
theorem oX11_swap : zOk MX11_swap 1 := ⟨⟨_, rfl⟩, by decide +kernel, by decide +kernel, by decide +kernel, by decide⟩
theorem eX11_swap {tO : Nat} {r : Nat × Nat × Nat} {args : List Value} {ws : zW} {Po : zPo} (lc : List (Option Value)) (hz : zLoc args 2 = lc) (hlen : (lg_sl args).length ≤ 2) (k : V tO MX11_swap r ws Po (0, 0) ws 0 lc []) : Sp tO MX11_swap r args ws Po := Sp.of (by decide +kernel) rfl rfl hlen (hz ▸ k)
abbrev MX11_keeps : zM := (yX11_keeps, cX11_keeps, 5, (some .int), wsX11_keeps, RX11)
theorem oX11_keeps : zOk MX11_keeps 1 := ⟨⟨_, rfl⟩, by decide +kernel, by decide +kernel, by decide +kernel, by decide⟩
theorem eX11_keeps {tO : Nat} {r : Nat × Nat × Nat} {args : List Value} {ws : zW} {Po : zPo} (lc : List (Option Value)) (hz : zLoc args 5 = lc) (hlen : (lg_sl args).length ≤ 5) (k : V tO MX11_keeps r ws Po (0, 0) ws 0 lc []) : Sp tO MX11_keeps r args ws Po := Sp.of (by decide +kernel) rfl rfl hlen (hz ▸ k)
abbrev MX11_cast : zM := (yX11_cast, cX11_cast, 2, (some .int), wsX11_cast, RX11)
theorem oX11_cast : zOk MX11_cast 1 := ⟨⟨_, rfl⟩, by decide +kernel, by decide +kernel, by decide +kernel, by decide⟩
theorem eX11_cast {tO : Nat} {r : Nat × Nat × Nat} {args : List Value} {ws : zW} {Po : zPo} (lc : List (Option Value)) (hz : zLoc args 2 = lc) (hlen : (lg_sl args).length ≤ 2) (k : V tO MX11_cast r ws Po (0, 0) ws 0 lc []) : Sp tO MX11_cast r args ws Po := Sp.of (by decide +kernel) rfl rfl hlen (hz ▸ k)
abbrev MX11_spell : zM := (yX11_spell, cX11_spell, 4, (some .int), wsX11_spell, RX11)
theorem oX11_spell : zOk MX11_spell 1 := ⟨⟨_, rfl⟩, by decide +kernel, by decide +kernel, by decide +kernel, by decide⟩
theorem eX11_spell {tO : Nat} {r : Nat × Nat × Nat} {args : List Value} {ws : zW} {Po : zPo} (lc : List (Option Value)) (hz : zLoc args 4 = lc) (hlen : (lg_sl args).length ≤ 4) (k : V tO MX11_spell r ws Po (0, 0) ws 0 lc []) : Sp tO MX11_spell r args ws Po := Sp.of (by decide +kernel) rfl rfl hlen (hz ▸ k)
abbrev MX11_tear : zM := (yX11_tear, cX11_tear, 2, (some .int), wsX11_tear, RX11)
theorem oX11_tear : zOk MX11_tear 1 := ⟨⟨_, rfl⟩, by decide +kernel, by decide +kernel, by decide +kernel, by decide⟩
theorem eX11_tear {tO : Nat} {r : Nat × Nat × Nat} {args : List Value} {ws : zW} {Po : zPo} (lc : List (Option Value)) (hz : zLoc args 2 = lc) (hlen : (lg_sl args).length ≤ 2) (k : V tO MX11_tear r ws Po (0, 0) ws 0 lc []) : Sp tO MX11_tear r args ws Po := Sp.of (by decide +kernel) rfl rfl hlen (hz ▸ k)
abbrev MX11_possible : zM := (yX11_possible, cX11_possible, 2, (some .int), wsX11_possible, RX11)
theorem oX11_possible : zOk MX11_possible 1 := ⟨⟨_, rfl⟩, by decide +kernel, by decide +kernel, by decide +kernel, by decide⟩
theorem eX11_possible {tO : Nat} {r : Nat × Nat × Nat} {args : List Value} {ws : zW} {Po : zPo} (lc : List (Option Value)) (hz : zLoc args 2 = lc) (hlen : (lg_sl args).length ≤ 2) (k : V tO MX11_possible r ws Po (0, 0) ws 0 lc []) : Sp tO MX11_possible r args ws Po := Sp.of (by decide +kernel) rfl rfl hlen (hz ▸ k)
abbrev MX11_certain : zM := (yX11_certain, cX11_certain, 2, (some .int), wsX11_certain, RX11)
theorem oX11_certain : zOk MX11_certain 1 := ⟨⟨_, rfl⟩, by decide +kernel, by decide +kernel, by decide +kernel, by decide⟩
theorem eX11_certain {tO : Nat} {r : Nat × Nat × Nat} {args : List Value} {ws : zW} {Po : zPo} (lc : List (Option Value)) (hz : zLoc args 2 = lc) (hlen : (lg_sl args).length ≤ 2) (k : V tO MX11_certain r ws Po (0, 0) ws 0 lc []) : Sp tO MX11_certain r args ws Po := Sp.of (by decide +kernel) rfl rfl hlen (hz ▸ k)
abbrev MX11_delay : zM := (yX11_delay, cX11_delay, 1, (some .int), wsX11_delay, RX11)
theorem oX11_delay : zOk MX11_delay 0 := ⟨⟨_, rfl⟩, by decide +kernel, by decide +kernel, by decide +kernel, by decide⟩
theorem eX11_delay {tO : Nat} {r : Nat × Nat × Nat} {args : List Value} {ws : zW} {Po : zPo} (lc : List (Option Value)) (hz : zLoc args 1 = lc) (hlen : (lg_sl args).length ≤ 1) (k : V tO MX11_delay r ws Po (0, 0) ws 0 lc []) : Sp tO MX11_delay r args ws Po := Sp.of (by decide +kernel) rfl rfl hlen (hz ▸ k)
abbrev MX11_odds : zM := (yX11_odds, cX11_odds, 7, (some .long), wsX11_odds, RX11)
theorem oX11_odds : zOk MX11_odds 4 := ⟨⟨_, rfl⟩, by decide +kernel, by decide +kernel, by decide +kernel, by decide⟩
theorem eX11_odds {tO : Nat} {r : Nat × Nat × Nat} {args : List Value} {ws : zW} {Po : zPo} (lc : List (Option Value)) (hz : zLoc args 7 = lc) (hlen : (lg_sl args).length ≤ 7) (k : V tO MX11_odds r ws Po (0, 0) ws 0 lc []) : Sp tO MX11_odds r args ws Po := Sp.of (by decide +kernel) rfl rfl hlen (hz ▸ k)
abbrev MX11_plan : zM := (yX11_plan, cX11_plan, 4, (some .int), wsX11_plan, RX11)
theorem oX11_plan : zOk MX11_plan 2 := ⟨⟨_, rfl⟩, by decide +kernel, by decide +kernel, by decide +kernel, by decide⟩
theorem eX11_plan {tO : Nat} {r : Nat × Nat × Nat} {args : List Value} {ws : zW} {Po : zPo} (lc : List (Option Value)) (hz : zLoc args 4 = lc) (hlen : (lg_sl args).length ≤ 4) (k : V tO MX11_plan r ws Po (0, 0) ws 0 lc []) : Sp tO MX11_plan r args ws Po := Sp.of (by decide +kernel) rfl rfl hlen (hz ▸ k)
abbrev MX11_behind : zM := (yX11_behind, cX11_behind, 2, (some .int), wsX11_behind, RX11)
theorem oX11_behind : zOk MX11_behind 1 := ⟨⟨_, rfl⟩, by decide +kernel, by decide +kernel, by decide +kernel, by decide⟩
theorem eX11_behind {tO : Nat} {r : Nat × Nat × Nat} {args : List Value} {ws : zW} {Po : zPo} (lc : List (Option Value)) (hz : zLoc args 2 = lc) (hlen : (lg_sl args).length ≤ 2) (k : V tO MX11_behind r ws Po (0, 0) ws 0 lc []) : Sp tO MX11_behind r args ws Po := Sp.of (by decide +kernel) rfl rfl hlen (hz ▸ k)
abbrev MX11_feed : zM := (yX11_feed, cX11_feed, 2, (some .int), wsX11_feed, RX11)
theorem oX11_feed : zOk MX11_feed 1 := ⟨⟨_, rfl⟩, by decide +kernel, by decide +kernel, by decide +kernel, by decide⟩
theorem eX11_feed {tO : Nat} {r : Nat × Nat × Nat} {args : List Value} {ws : zW} {Po : zPo} (lc : List (Option Value)) (hz : zLoc args 2 = lc) (hlen : (lg_sl args).length ≤ 2) (k : V tO MX11_feed r ws Po (0, 0) ws 0 lc []) : Sp tO MX11_feed r args ws Po := Sp.of (by decide +kernel) rfl rfl hlen (hz ▸ k)
abbrev MX11_book : zM := (yX11_book, cX11_book, 2, (some .int), wsX11_book, RX11)
theorem oX11_book : zOk MX11_book 0 := ⟨⟨_, rfl⟩, by decide +kernel, by decide +kernel, by decide +kernel, by decide⟩
theorem eX11_book {tO : Nat} {r : Nat × Nat × Nat} {args : List Value} {ws : zW} {Po : zPo} (lc : List (Option Value)) (hz : zLoc args 2 = lc) (hlen : (lg_sl args).length ≤ 2) (k : V tO MX11_book r ws Po (0, 0) ws 0 lc []) : Sp tO MX11_book r args ws Po := Sp.of (by decide +kernel) rfl rfl hlen (hz ▸ k)
abbrev MX11_why : zM := (yX11_why, cX11_why, 2, (some .int), wsX11_why, RX11)
theorem oX11_why : zOk MX11_why 1 := ⟨⟨_, rfl⟩, by decide +kernel, by decide +kernel, by decide +kernel, by decide⟩
theorem eX11_why {tO : Nat} {r : Nat × Nat × Nat} {args : List Value} {ws : zW} {Po : zPo} (lc : List (Option Value)) (hz : zLoc args 2 = lc) (hlen : (lg_sl args).length ≤ 2) (k : V tO MX11_why r ws Po (0, 0) ws 0 lc []) : Sp tO MX11_why r args ws Po := Sp.of (by decide +kernel) rfl rfl hlen (hz ▸ k)
abbrev MX11_write : zM := (yX11_write, cX11_write, 1, (some .int), wsX11_write, RX11)
theorem oX11_write : zOk MX11_write 0 := ⟨⟨_, rfl⟩, by decide +kernel, by decide +kernel, by decide +kernel, by decide⟩
theorem eX11_write {tO : Nat} {r : Nat × Nat × Nat} {args : List Value} {ws : zW} {Po : zPo} (lc : List (Option Value)) (hz : zLoc args 1 = lc) (hlen : (lg_sl args).length ≤ 1) (k : V tO MX11_write r ws Po (0, 0) ws 0 lc []) : Sp tO MX11_write r args ws Po := Sp.of (by decide +kernel) rfl rfl hlen (hz ▸ k)
abbrev MX11_paper : zM := (yX11_paper, cX11_paper, 2, (some .int), wsX11_paper, RX11)
theorem oX11_paper : zOk MX11_paper 1 := ⟨⟨_, rfl⟩, by decide +kernel, by decide +kernel, by decide +kernel, by decide⟩
theorem eX11_paper {tO : Nat} {r : Nat × Nat × Nat} {args : List Value} {ws : zW} {Po : zPo} (lc : List (Option Value)) (hz : zLoc args 2 = lc) (hlen : (lg_sl args).length ≤ 2) (k : V tO MX11_paper r ws Po (0, 0) ws 0 lc []) : Sp tO MX11_paper r args ws Po := Sp.of (by decide +kernel) rfl rfl hlen (hz ▸ k)
abbrev MX11_judge : zM := (yX11_judge, cX11_judge, 5, (some .int), wsX11_judge, RX11)
theorem oX11_judge : zOk MX11_judge 1 := ⟨⟨_, rfl⟩, by decide +kernel, by decide +kernel, by decide +kernel, by decide⟩
theorem eX11_judge {tO : Nat} {r : Nat × Nat × Nat} {args : List Value} {ws : zW} {Po : zPo} (lc : List (Option Value)) (hz : zLoc args 5 = lc) (hlen : (lg_sl args).length ≤ 5) (k : V tO MX11_judge r ws Po (0, 0) ws 0 lc []) : Sp tO MX11_judge r args ws Po := Sp.of (by decide +kernel) rfl rfl hlen (hz ▸ k)
abbrev MX11_list : zM := (yX11_list, cX11_list, 3, (some .int), wsX11_list, RX11)
theorem oX11_list : zOk MX11_list 2 := ⟨⟨_, rfl⟩, by decide +kernel, by decide +kernel, by decide +kernel, by decide⟩
theorem eX11_list {tO : Nat} {r : Nat × Nat × Nat} {args : List Value} {ws : zW} {Po : zPo} (lc : List (Option Value)) (hz : zLoc args 3 = lc) (hlen : (lg_sl args).length ≤ 3) (k : V tO MX11_list r ws Po (0, 0) ws 0 lc []) : Sp tO MX11_list r args ws Po := Sp.of (by decide +kernel) rfl rfl hlen (hz ▸ k)
abbrev MX11_put : zM := (yX11_put, cX11_put, 5, (some .int), wsX11_put, RX11)
theorem oX11_put : zOk MX11_put 3 := ⟨⟨_, rfl⟩, by decide +kernel, by decide +kernel, by decide +kernel, by decide⟩
theorem eX11_put {tO : Nat} {r : Nat × Nat × Nat} {args : List Value} {ws : zW} {Po : zPo} (lc : List (Option Value)) (hz : zLoc args 5 = lc) (hlen : (lg_sl args).length ≤ 5) (k : V tO MX11_put r ws Po (0, 0) ws 0 lc []) : Sp tO MX11_put r args ws Po := Sp.of (by decide +kernel) rfl rfl hlen (hz ▸ k)
abbrev MX11_get : zM := (yX11_get, cX11_get, 3, (some .long), wsX11_get, RX11)
theorem oX11_get : zOk MX11_get 2 := ⟨⟨_, rfl⟩, by decide +kernel, by decide +kernel, by decide +kernel, by decide⟩
theorem eX11_get {tO : Nat} {r : Nat × Nat × Nat} {args : List Value} {ws : zW} {Po : zPo} (lc : List (Option Value)) (hz : zLoc args 3 = lc) (hlen : (lg_sl args).length ≤ 3) (k : V tO MX11_get r ws Po (0, 0) ws 0 lc []) : Sp tO MX11_get r args ws Po := Sp.of (by decide +kernel) rfl rfl hlen (hz ▸ k)
abbrev MX11_image : zM := (yX11_image, cX11_image, 1, (some .int), wsX11_image, RX11)
theorem oX11_image : zOk MX11_image 0 := ⟨⟨_, rfl⟩, by decide +kernel, by decide +kernel, by decide +kernel, by decide⟩
theorem eX11_image {tO : Nat} {r : Nat × Nat × Nat} {args : List Value} {ws : zW} {Po : zPo} (lc : List (Option Value)) (hz : zLoc args 1 = lc) (hlen : (lg_sl args).length ≤ 1) (k : V tO MX11_image r ws Po (0, 0) ws 0 lc []) : Sp tO MX11_image r args ws Po := Sp.of (by decide +kernel) rfl rfl hlen (hz ▸ k)
abbrev MX11_undo : zM := (yX11_undo, cX11_undo, 1, (some .int), wsX11_undo, RX11)
theorem oX11_undo : zOk MX11_undo 0 := ⟨⟨_, rfl⟩, by decide +kernel, by decide +kernel, by decide +kernel, by decide⟩
theorem eX11_undo {tO : Nat} {r : Nat × Nat × Nat} {args : List Value} {ws : zW} {Po : zPo} (lc : List (Option Value)) (hz : zLoc args 1 = lc) (hlen : (lg_sl args).length ≤ 1) (k : V tO MX11_undo r ws Po (0, 0) ws 0 lc []) : Sp tO MX11_undo r args ws Po := Sp.of (by decide +kernel) rfl rfl hlen (hz ▸ k)
abbrev MX11_count : zM := (yX11_count, cX11_count, 2, (some .int), wsX11_count, RX11)
theorem oX11_count : zOk MX11_count 1 := ⟨⟨_, rfl⟩, by decide +kernel, by decide +kernel, by decide +kernel, by decide⟩
theorem eX11_count {tO : Nat} {r : Nat × Nat × Nat} {args : List Value} {ws : zW} {Po : zPo} (lc : List (Option Value)) (hz : zLoc args 2 = lc) (hlen : (lg_sl args).length ≤ 2) (k : V tO MX11_count r ws Po (0, 0) ws 0 lc []) : Sp tO MX11_count r args ws Po := Sp.of (by decide +kernel) rfl rfl hlen (hz ▸ k)
abbrev MX12_init : zM := (yX12_init, cX12_init, 2, none, wsX12_init, RX12)
theorem oX12_init : zOk MX12_init 0 := ⟨⟨_, rfl⟩, by decide +kernel, by decide +kernel, by decide +kernel, by decide⟩
theorem eX12_init {tO : Nat} {r : Nat × Nat × Nat} {args : List Value} {ws : zW} {Po : zPo} (lc : List (Option Value)) (hz : zLoc args 2 = lc) (hlen : (lg_sl args).length ≤ 2) (k : V tO MX12_init r ws Po (0, 0) ws 0 lc []) : Sp tO MX12_init r args ws Po := Sp.of (by decide +kernel) rfl rfl hlen (hz ▸ k)
abbrev MX12_isIn : zM := (yX12_isIn, cX12_isIn, 6, (some .boolean), wsX12_isIn, RX12)
theorem oX12_isIn : zOk MX12_isIn 3 := ⟨⟨_, rfl⟩, by decide +kernel, by decide +kernel, by decide +kernel, by decide⟩
theorem eX12_isIn {tO : Nat} {r : Nat × Nat × Nat} {args : List Value} {ws : zW} {Po : zPo} (lc : List (Option Value)) (hz : zLoc args 6 = lc) (hlen : (lg_sl args).length ≤ 6) (k : V tO MX12_isIn r ws Po (0, 0) ws 0 lc []) : Sp tO MX12_isIn r args ws Po := Sp.of (by decide +kernel) rfl rfl hlen (hz ▸ k)
abbrev MX12_power : zM := (yX12_power, cX12_power, 4, (some .int), wsX12_power, RX12)
theorem oX12_power : zOk MX12_power 2 := ⟨⟨_, rfl⟩, by decide +kernel, by decide +kernel, by decide +kernel, by decide⟩
theorem eX12_power {tO : Nat} {r : Nat × Nat × Nat} {args : List Value} {ws : zW} {Po : zPo} (lc : List (Option Value)) (hz : zLoc args 4 = lc) (hlen : (lg_sl args).length ≤ 4) (k : V tO MX12_power r ws Po (0, 0) ws 0 lc []) : Sp tO MX12_power r args ws Po := Sp.of (by decide +kernel) rfl rfl hlen (hz ▸ k)
abbrev MX12_words : zM := (yX12_words, cX12_words, 1, (some .int), wsX12_words, RX12)
theorem oX12_words : zOk MX12_words 0 := ⟨⟨_, rfl⟩, by decide +kernel, by decide +kernel, by decide +kernel, by decide⟩
theorem eX12_words {tO : Nat} {r : Nat × Nat × Nat} {args : List Value} {ws : zW} {Po : zPo} (lc : List (Option Value)) (hz : zLoc args 1 = lc) (hlen : (lg_sl args).length ≤ 1) (k : V tO MX12_words r ws Po (0, 0) ws 0 lc []) : Sp tO MX12_words r args ws Po := Sp.of (by decide +kernel) rfl rfl hlen (hz ▸ k)
abbrev MX12_isWord : zM := (yX12_isWord, cX12_isWord, 2, (some .boolean), wsX12_isWord, RX12)
theorem oX12_isWord : zOk MX12_isWord 1 := ⟨⟨_, rfl⟩, by decide +kernel, by decide +kernel, by decide +kernel, by decide⟩
theorem eX12_isWord {tO : Nat} {r : Nat × Nat × Nat} {args : List Value} {ws : zW} {Po : zPo} (lc : List (Option Value)) (hz : zLoc args 2 = lc) (hlen : (lg_sl args).length ≤ 2) (k : V tO MX12_isWord r ws Po (0, 0) ws 0 lc []) : Sp tO MX12_isWord r args ws Po := Sp.of (by decide +kernel) rfl rfl hlen (hz ▸ k)
abbrev MX12_letterOf : zM := (yX12_letterOf, cX12_letterOf, 3, (some .int), wsX12_letterOf, RX12)
theorem oX12_letterOf : zOk MX12_letterOf 2 := ⟨⟨_, rfl⟩, by decide +kernel, by decide +kernel, by decide +kernel, by decide⟩
theorem eX12_letterOf {tO : Nat} {r : Nat × Nat × Nat} {args : List Value} {ws : zW} {Po : zPo} (lc : List (Option Value)) (hz : zLoc args 3 = lc) (hlen : (lg_sl args).length ≤ 3) (k : V tO MX12_letterOf r ws Po (0, 0) ws 0 lc []) : Sp tO MX12_letterOf r args ws Po := Sp.of (by decide +kernel) rfl rfl hlen (hz ▸ k)
abbrev MX12_many : zM := (yX12_many, cX12_many, 3, (some .int), wsX12_many, RX12)
theorem oX12_many : zOk MX12_many 0 := ⟨⟨_, rfl⟩, by decide +kernel, by decide +kernel, by decide +kernel, by decide⟩
theorem eX12_many {tO : Nat} {r : Nat × Nat × Nat} {args : List Value} {ws : zW} {Po : zPo} (lc : List (Option Value)) (hz : zLoc args 3 = lc) (hlen : (lg_sl args).length ≤ 3) (k : V tO MX12_many r ws Po (0, 0) ws 0 lc []) : Sp tO MX12_many r args ws Po := Sp.of (by decide +kernel) rfl rfl hlen (hz ▸ k)
abbrev MX12_size : zM := (yX12_size, cX12_size, 4, (some .int), wsX12_size, RX12)
theorem oX12_size : zOk MX12_size 2 := ⟨⟨_, rfl⟩, by decide +kernel, by decide +kernel, by decide +kernel, by decide⟩
theorem eX12_size {tO : Nat} {r : Nat × Nat × Nat} {args : List Value} {ws : zW} {Po : zPo} (lc : List (Option Value)) (hz : zLoc args 4 = lc) (hlen : (lg_sl args).length ≤ 4) (k : V tO MX12_size r ws Po (0, 0) ws 0 lc []) : Sp tO MX12_size r args ws Po := Sp.of (by decide +kernel) rfl rfl hlen (hz ▸ k)
abbrev MX12_add : zM := (yX12_add, cX12_add, 2, (some .int), wsX12_add, RX12)
theorem oX12_add : zOk MX12_add 1 := ⟨⟨_, rfl⟩, by decide +kernel, by decide +kernel, by decide +kernel, by decide⟩
theorem eX12_add {tO : Nat} {r : Nat × Nat × Nat} {args : List Value} {ws : zW} {Po : zPo} (lc : List (Option Value)) (hz : zLoc args 2 = lc) (hlen : (lg_sl args).length ≤ 2) (k : V tO MX12_add r ws Po (0, 0) ws 0 lc []) : Sp tO MX12_add r args ws Po := Sp.of (by decide +kernel) rfl rfl hlen (hz ▸ k)
abbrev MX12_drop : zM := (yX12_drop, cX12_drop, 2, (some .int), wsX12_drop, RX12)
theorem oX12_drop : zOk MX12_drop 1 := ⟨⟨_, rfl⟩, by decide +kernel, by decide +kernel, by decide +kernel, by decide⟩
theorem eX12_drop {tO : Nat} {r : Nat × Nat × Nat} {args : List Value} {ws : zW} {Po : zPo} (lc : List (Option Value)) (hz : zLoc args 2 = lc) (hlen : (lg_sl args).length ≤ 2) (k : V tO MX12_drop r ws Po (0, 0) ws 0 lc []) : Sp tO MX12_drop r args ws Po := Sp.of (by decide +kernel) rfl rfl hlen (hz ▸ k)
abbrev MX12_clear : zM := (yX12_clear, cX12_clear, 3, (some .int), wsX12_clear, RX12)
theorem oX12_clear : zOk MX12_clear 0 := ⟨⟨_, rfl⟩, by decide +kernel, by decide +kernel, by decide +kernel, by decide⟩
theorem eX12_clear {tO : Nat} {r : Nat × Nat × Nat} {args : List Value} {ws : zW} {Po : zPo} (lc : List (Option Value)) (hz : zLoc args 3 = lc) (hlen : (lg_sl args).length ≤ 3) (k : V tO MX12_clear r ws Po (0, 0) ws 0 lc []) : Sp tO MX12_clear r args ws Po := Sp.of (by decide +kernel) rfl rfl hlen (hz ▸ k)
abbrev MX12_wordOf : zM := (yX12_wordOf, cX12_wordOf, 4, (some .int), wsX12_wordOf, RX12)
theorem oX12_wordOf : zOk MX12_wordOf 1 := ⟨⟨_, rfl⟩, by decide +kernel, by decide +kernel, by decide +kernel, by decide⟩
theorem eX12_wordOf {tO : Nat} {r : Nat × Nat × Nat} {args : List Value} {ws : zW} {Po : zPo} (lc : List (Option Value)) (hz : zLoc args 4 = lc) (hlen : (lg_sl args).length ≤ 4) (k : V tO MX12_wordOf r ws Po (0, 0) ws 0 lc []) : Sp tO MX12_wordOf r args ws Po := Sp.of (by decide +kernel) rfl rfl hlen (hz ▸ k)
abbrev MX12_word : zM := (yX12_word, cX12_word, 2, (some .int), wsX12_word, RX12)
theorem oX12_word : zOk MX12_word 1 := ⟨⟨_, rfl⟩, by decide +kernel, by decide +kernel, by decide +kernel, by decide⟩
theorem eX12_word {tO : Nat} {r : Nat × Nat × Nat} {args : List Value} {ws : zW} {Po : zPo} (lc : List (Option Value)) (hz : zLoc args 2 = lc) (hlen : (lg_sl args).length ≤ 2) (k : V tO MX12_word r ws Po (0, 0) ws 0 lc []) : Sp tO MX12_word r args ws Po := Sp.of (by decide +kernel) rfl rfl hlen (hz ▸ k)
abbrev MX12_letter : zM := (yX12_letter, cX12_letter, 3, (some .int), wsX12_letter, RX12)
theorem oX12_letter : zOk MX12_letter 2 := ⟨⟨_, rfl⟩, by decide +kernel, by decide +kernel, by decide +kernel, by decide⟩
theorem eX12_letter {tO : Nat} {r : Nat × Nat × Nat} {args : List Value} {ws : zW} {Po : zPo} (lc : List (Option Value)) (hz : zLoc args 3 = lc) (hlen : (lg_sl args).length ≤ 3) (k : V tO MX12_letter r ws Po (0, 0) ws 0 lc []) : Sp tO MX12_letter r args ws Po := Sp.of (by decide +kernel) rfl rfl hlen (hz ▸ k)
abbrev MX12_across : zM := (yX12_across, cX12_across, 5, (some .int), wsX12_across, RX12)
theorem oX12_across : zOk MX12_across 3 := ⟨⟨_, rfl⟩, by decide +kernel, by decide +kernel, by decide +kernel, by decide⟩
theorem eX12_across {tO : Nat} {r : Nat × Nat × Nat} {args : List Value} {ws : zW} {Po : zPo} (lc : List (Option Value)) (hz : zLoc args 5 = lc) (hlen : (lg_sl args).length ≤ 5) (k : V tO MX12_across r ws Po (0, 0) ws 0 lc []) : Sp tO MX12_across r args ws Po := Sp.of (by decide +kernel) rfl rfl hlen (hz ▸ k)
abbrev MX12_hides : zM := (yX12_hides, cX12_hides, 6, (some .int), wsX12_hides, RX12)
theorem oX12_hides : zOk MX12_hides 3 := ⟨⟨_, rfl⟩, by decide +kernel, by decide +kernel, by decide +kernel, by decide⟩
theorem eX12_hides {tO : Nat} {r : Nat × Nat × Nat} {args : List Value} {ws : zW} {Po : zPo} (lc : List (Option Value)) (hz : zLoc args 6 = lc) (hlen : (lg_sl args).length ≤ 6) (k : V tO MX12_hides r ws Po (0, 0) ws 0 lc []) : Sp tO MX12_hides r args ws Po := Sp.of (by decide +kernel) rfl rfl hlen (hz ▸ k)
abbrev MX12_isFree : zM := (yX12_isFree, cX12_isFree, 4, (some .boolean), wsX12_isFree, RX12)
theorem oX12_isFree : zOk MX12_isFree 0 := ⟨⟨_, rfl⟩, by decide +kernel, by decide +kernel, by decide +kernel, by decide⟩
theorem eX12_isFree {tO : Nat} {r : Nat × Nat × Nat} {args : List Value} {ws : zW} {Po : zPo} (lc : List (Option Value)) (hz : zLoc args 4 = lc) (hlen : (lg_sl args).length ≤ 4) (k : V tO MX12_isFree r ws Po (0, 0) ws 0 lc []) : Sp tO MX12_isFree r args ws Po := Sp.of (by decide +kernel) rfl rfl hlen (hz ▸ k)
abbrev MX12_clash : zM := (yX12_clash, cX12_clash, 2, (some .int), wsX12_clash, RX12)
theorem oX12_clash : zOk MX12_clash 1 := ⟨⟨_, rfl⟩, by decide +kernel, by decide +kernel, by decide +kernel, by decide⟩
theorem eX12_clash {tO : Nat} {r : Nat × Nat × Nat} {args : List Value} {ws : zW} {Po : zPo} (lc : List (Option Value)) (hz : zLoc args 2 = lc) (hlen : (lg_sl args).length ≤ 2) (k : V tO MX12_clash r ws Po (0, 0) ws 0 lc []) : Sp tO MX12_clash r args ws Po := Sp.of (by decide +kernel) rfl rfl hlen (hz ▸ k)
abbrev MX12_mayCome : zM := (yX12_mayCome, cX12_mayCome, 3, (some .boolean), wsX12_mayCome, RX12)
theorem oX12_mayCome : zOk MX12_mayCome 1 := ⟨⟨_, rfl⟩, by decide +kernel, by decide +kernel, by decide +kernel, by decide⟩
theorem eX12_mayCome {tO : Nat} {r : Nat × Nat × Nat} {args : List Value} {ws : zW} {Po : zPo} (lc : List (Option Value)) (hz : zLoc args 3 = lc) (hlen : (lg_sl args).length ≤ 3) (k : V tO MX12_mayCome r ws Po (0, 0) ws 0 lc []) : Sp tO MX12_mayCome r args ws Po := Sp.of (by decide +kernel) rfl rfl hlen (hz ▸ k)
abbrev MX12_may : zM := (yX12_may, cX12_may, 2, (some .int), wsX12_may, RX12)
theorem oX12_may : zOk MX12_may 1 := ⟨⟨_, rfl⟩, by decide +kernel, by decide +kernel, by decide +kernel, by decide⟩
theorem eX12_may {tO : Nat} {r : Nat × Nat × Nat} {args : List Value} {ws : zW} {Po : zPo} (lc : List (Option Value)) (hz : zLoc args 2 = lc) (hlen : (lg_sl args).length ≤ 2) (k : V tO MX12_may r ws Po (0, 0) ws 0 lc []) : Sp tO MX12_may r args ws Po := Sp.of (by decide +kernel) rfl rfl hlen (hz ▸ k)
abbrev MX12_mays : zM := (yX12_mays, cX12_mays, 5, (some .int), wsX12_mays, RX12)
theorem oX12_mays : zOk MX12_mays 1 := ⟨⟨_, rfl⟩, by decide +kernel, by decide +kernel, by decide +kernel, by decide⟩
theorem eX12_mays {tO : Nat} {r : Nat × Nat × Nat} {args : List Value} {ws : zW} {Po : zPo} (lc : List (Option Value)) (hz : zLoc args 5 = lc) (hlen : (lg_sl args).length ≤ 5) (k : V tO MX12_mays r ws Po (0, 0) ws 0 lc []) : Sp tO MX12_mays r args ws Po := Sp.of (by decide +kernel) rfl rfl hlen (hz ▸ k)
abbrev MX12_turned : zM := (yX12_turned, cX12_turned, 2, (some .int), wsX12_turned, RX12)
theorem oX12_turned : zOk MX12_turned 1 := ⟨⟨_, rfl⟩, by decide +kernel, by decide +kernel, by decide +kernel, by decide⟩
theorem eX12_turned {tO : Nat} {r : Nat × Nat × Nat} {args : List Value} {ws : zW} {Po : zPo} (lc : List (Option Value)) (hz : zLoc args 2 = lc) (hlen : (lg_sl args).length ≤ 2) (k : V tO MX12_turned r ws Po (0, 0) ws 0 lc []) : Sp tO MX12_turned r args ws Po := Sp.of (by decide +kernel) rfl rfl hlen (hz ▸ k)
abbrev MX12_ringSize : zM := (yX12_ringSize, cX12_ringSize, 4, (some .int), wsX12_ringSize, RX12)
theorem oX12_ringSize : zOk MX12_ringSize 1 := ⟨⟨_, rfl⟩, by decide +kernel, by decide +kernel, by decide +kernel, by decide⟩
theorem eX12_ringSize {tO : Nat} {r : Nat × Nat × Nat} {args : List Value} {ws : zW} {Po : zPo} (lc : List (Option Value)) (hz : zLoc args 4 = lc) (hlen : (lg_sl args).length ≤ 4) (k : V tO MX12_ringSize r ws Po (0, 0) ws 0 lc []) : Sp tO MX12_ringSize r args ws Po := Sp.of (by decide +kernel) rfl rfl hlen (hz ▸ k)
abbrev MX12_leastOf : zM := (yX12_leastOf, cX12_leastOf, 4, (some .int), wsX12_leastOf, RX12)
theorem oX12_leastOf : zOk MX12_leastOf 1 := ⟨⟨_, rfl⟩, by decide +kernel, by decide +kernel, by decide +kernel, by decide⟩
theorem eX12_leastOf {tO : Nat} {r : Nat × Nat × Nat} {args : List Value} {ws : zW} {Po : zPo} (lc : List (Option Value)) (hz : zLoc args 4 = lc) (hlen : (lg_sl args).length ≤ 4) (k : V tO MX12_leastOf r ws Po (0, 0) ws 0 lc []) : Sp tO MX12_leastOf r args ws Po := Sp.of (by decide +kernel) rfl rfl hlen (hz ▸ k)
abbrev MX12_isRing : zM := (yX12_isRing, cX12_isRing, 2, (some .boolean), wsX12_isRing, RX12)
theorem oX12_isRing : zOk MX12_isRing 1 := ⟨⟨_, rfl⟩, by decide +kernel, by decide +kernel, by decide +kernel, by decide⟩
theorem eX12_isRing {tO : Nat} {r : Nat × Nat × Nat} {args : List Value} {ws : zW} {Po : zPo} (lc : List (Option Value)) (hz : zLoc args 2 = lc) (hlen : (lg_sl args).length ≤ 2) (k : V tO MX12_isRing r ws Po (0, 0) ws 0 lc []) : Sp tO MX12_isRing r args ws Po := Sp.of (by decide +kernel) rfl rfl hlen (hz ▸ k)
abbrev MX12_ringAt : zM := (yX12_ringAt, cX12_ringAt, 4, (some .int), wsX12_ringAt, RX12)
theorem oX12_ringAt : zOk MX12_ringAt 1 := ⟨⟨_, rfl⟩, by decide +kernel, by decide +kernel, by decide +kernel, by decide⟩
theorem eX12_ringAt {tO : Nat} {r : Nat × Nat × Nat} {args : List Value} {ws : zW} {Po : zPo} (lc : List (Option Value)) (hz : zLoc args 4 = lc) (hlen : (lg_sl args).length ≤ 4) (k : V tO MX12_ringAt r ws Po (0, 0) ws 0 lc []) : Sp tO MX12_ringAt r args ws Po := Sp.of (by decide +kernel) rfl rfl hlen (hz ▸ k)
abbrev MX12_rings : zM := (yX12_rings, cX12_rings, 3, (some .int), wsX12_rings, RX12)
theorem oX12_rings : zOk MX12_rings 0 := ⟨⟨_, rfl⟩, by decide +kernel, by decide +kernel, by decide +kernel, by decide⟩
theorem eX12_rings {tO : Nat} {r : Nat × Nat × Nat} {args : List Value} {ws : zW} {Po : zPo} (lc : List (Option Value)) (hz : zLoc args 3 = lc) (hlen : (lg_sl args).length ≤ 3) (k : V tO MX12_rings r ws Po (0, 0) ws 0 lc []) : Sp tO MX12_rings r args ws Po := Sp.of (by decide +kernel) rfl rfl hlen (hz ▸ k)
abbrev MX12_ring : zM := (yX12_ring, cX12_ring, 5, (some .int), wsX12_ring, RX12)
theorem oX12_ring : zOk MX12_ring 2 := ⟨⟨_, rfl⟩, by decide +kernel, by decide +kernel, by decide +kernel, by decide⟩
theorem eX12_ring {tO : Nat} {r : Nat × Nat × Nat} {args : List Value} {ws : zW} {Po : zPo} (lc : List (Option Value)) (hz : zLoc args 5 = lc) (hlen : (lg_sl args).length ≤ 5) (k : V tO MX12_ring r ws Po (0, 0) ws 0 lc []) : Sp tO MX12_ring r args ws Po := Sp.of (by decide +kernel) rfl rfl hlen (hz ▸ k)
abbrev MX12_bound : zM := (yX12_bound, cX12_bound, 2, (some .int), wsX12_bound, RX12)
theorem oX12_bound : zOk MX12_bound 1 := ⟨⟨_, rfl⟩, by decide +kernel, by decide +kernel, by decide +kernel, by decide⟩
theorem eX12_bound {tO : Nat} {r : Nat × Nat × Nat} {args : List Value} {ws : zW} {Po : zPo} (lc : List (Option Value)) (hz : zLoc args 2 = lc) (hlen : (lg_sl args).length ≤ 2) (k : V tO MX12_bound r ws Po (0, 0) ws 0 lc []) : Sp tO MX12_bound r args ws Po := Sp.of (by decide +kernel) rfl rfl hlen (hz ▸ k)
abbrev MX12_orders : zM := (yX12_orders, cX12_orders, 1, (some .int), wsX12_orders, RX12)
theorem oX12_orders : zOk MX12_orders 0 := ⟨⟨_, rfl⟩, by decide +kernel, by decide +kernel, by decide +kernel, by decide⟩
theorem eX12_orders {tO : Nat} {r : Nat × Nat × Nat} {args : List Value} {ws : zW} {Po : zPo} (lc : List (Option Value)) (hz : zLoc args 1 = lc) (hlen : (lg_sl args).length ≤ 1) (k : V tO MX12_orders r ws Po (0, 0) ws 0 lc []) : Sp tO MX12_orders r args ws Po := Sp.of (by decide +kernel) rfl rfl hlen (hz ▸ k)
abbrev MX12_orders_ : zM := (yX12_orders_, cX12_orders_, 8, none, wsX12_orders_, RX12)
theorem oX12_orders_ : zOk MX12_orders_ 1 := ⟨⟨_, rfl⟩, by decide +kernel, by decide +kernel, by decide +kernel, by decide⟩
theorem eX12_orders_ {tO : Nat} {r : Nat × Nat × Nat} {args : List Value} {ws : zW} {Po : zPo} (lc : List (Option Value)) (hz : zLoc args 8 = lc) (hlen : (lg_sl args).length ≤ 8) (k : V tO MX12_orders_ r ws Po (0, 0) ws 0 lc []) : Sp tO MX12_orders_ r args ws Po := Sp.of (by decide +kernel) rfl rfl hlen (hz ▸ k)
abbrev MX12_swappedBy : zM := (yX12_swappedBy, cX12_swappedBy, 5, (some .int), wsX12_swappedBy, RX12)
theorem oX12_swappedBy : zOk MX12_swappedBy 2 := ⟨⟨_, rfl⟩, by decide +kernel, by decide +kernel, by decide +kernel, by decide⟩
theorem eX12_swappedBy {tO : Nat} {r : Nat × Nat × Nat} {args : List Value} {ws : zW} {Po : zPo} (lc : List (Option Value)) (hz : zLoc args 5 = lc) (hlen : (lg_sl args).length ≤ 5) (k : V tO MX12_swappedBy r ws Po (0, 0) ws 0 lc []) : Sp tO MX12_swappedBy r args ws Po := Sp.of (by decide +kernel) rfl rfl hlen (hz ▸ k)
abbrev MX12_isSwap : zM := (yX12_isSwap, cX12_isSwap, 2, (some .boolean), wsX12_isSwap, RX12)
theorem oX12_isSwap : zOk MX12_isSwap 1 := ⟨⟨_, rfl⟩, by decide +kernel, by decide +kernel, by decide +kernel, by decide⟩
theorem eX12_isSwap {tO : Nat} {r : Nat × Nat × Nat} {args : List Value} {ws : zW} {Po : zPo} (lc : List (Option Value)) (hz : zLoc args 2 = lc) (hlen : (lg_sl args).length ≤ 2) (k : V tO MX12_isSwap r ws Po (0, 0) ws 0 lc []) : Sp tO MX12_isSwap r args ws Po := Sp.of (by decide +kernel) rfl rfl hlen (hz ▸ k)
abbrev MX12_swapped : zM := (yX12_swapped, cX12_swapped, 3, (some .int), wsX12_swapped, RX12)
theorem oX12_swapped : zOk MX12_swapped 2 := ⟨⟨_, rfl⟩, by decide +kernel, by decide +kernel, by decide +kernel, by decide⟩
theorem eX12_swapped {tO : Nat} {r : Nat × Nat × Nat} {args : List Value} {ws : zW} {Po : zPo} (lc : List (Option Value)) (hz : zLoc args 3 = lc) (hlen : (lg_sl args).length ≤ 3) (k : V tO MX12_swapped r ws Po (0, 0) ws 0 lc []) : Sp tO MX12_swapped r args ws Po := Sp.of (by decide +kernel) rfl rfl hlen (hz ▸ k)
abbrev MX12_swaps : zM := (yX12_swaps, cX12_swaps, 3, none, wsX12_swaps, RX12)
theorem oX12_swaps : zOk MX12_swaps 1 := ⟨⟨_, rfl⟩, by decide +kernel, by decide +kernel, by decide +kernel, by decide⟩
theorem eX12_swaps {tO : Nat} {r : Nat × Nat × Nat} {args : List Value} {ws : zW} {Po : zPo} (lc : List (Option Value)) (hz : zLoc args 3 = lc) (hlen : (lg_sl args).length ≤ 3) (k : V tO MX12_swaps r ws Po (0, 0) ws 0 lc []) : Sp tO MX12_swaps r args ws Po := Sp.of (by decide +kernel) rfl rfl hlen (hz ▸ k)
abbrev MX12_becomesImage : zM := (yX12_becomesImage, cX12_becomesImage, 2, none, wsX12_becomesImage, RX12)
theorem oX12_becomesImage : zOk MX12_becomesImage 0 := ⟨⟨_, rfl⟩, by decide +kernel, by decide +kernel, by decide +kernel, by decide⟩
theorem eX12_becomesImage {tO : Nat} {r : Nat × Nat × Nat} {args : List Value} {ws : zW} {Po : zPo} (lc : List (Option Value)) (hz : zLoc args 2 = lc) (hlen : (lg_sl args).length ≤ 2) (k : V tO MX12_becomesImage r ws Po (0, 0) ws 0 lc []) : Sp tO MX12_becomesImage r args ws Po := Sp.of (by decide +kernel) rfl rfl hlen (hz ▸ k)
abbrev MX12_swap : zM := (yX12_swap, cX12_swap, 2, (some .int), wsX12_swap, RX12)
theorem oX12_swap : zOk MX12_swap 1 := ⟨⟨_, rfl⟩, by decide +kernel, by decide +kernel, by decide +kernel, by decide⟩
theorem eX12_swap {tO : Nat} {r : Nat × Nat × Nat} {args : List Value} {ws : zW} {Po : zPo} (lc : List (Option Value)) (hz : zLoc args 2 = lc) (hlen : (lg_sl args).length ≤ 2) (k : V tO MX12_swap r ws Po (0, 0) ws 0 lc []) : Sp tO MX12_swap r args ws Po := Sp.of (by decide +kernel) rfl rfl hlen (hz ▸ k)
abbrev MX12_keeps : zM := (yX12_keeps, cX12_keeps, 6, (some .int), wsX12_keeps, RX12)
theorem oX12_keeps : zOk MX12_keeps 1 := ⟨⟨_, rfl⟩, by decide +kernel, by decide +kernel, by decide +kernel, by decide⟩
theorem eX12_keeps {tO : Nat} {r : Nat × Nat × Nat} {args : List Value} {ws : zW} {Po : zPo} (lc : List (Option Value)) (hz : zLoc args 6 = lc) (hlen : (lg_sl args).length ≤ 6) (k : V tO MX12_keeps r ws Po (0, 0) ws 0 lc []) : Sp tO MX12_keeps r args ws Po := Sp.of (by decide +kernel) rfl rfl hlen (hz ▸ k)
abbrev MX12_keepsBook : zM := (yX12_keepsBook, cX12_keepsBook, 3, none, wsX12_keepsBook, RX12)
theorem oX12_keepsBook : zOk MX12_keepsBook 1 := ⟨⟨_, rfl⟩, by decide +kernel, by decide +kernel, by decide +kernel, by decide⟩
theorem eX12_keepsBook {tO : Nat} {r : Nat × Nat × Nat} {args : List Value} {ws : zW} {Po : zPo} (lc : List (Option Value)) (hz : zLoc args 3 = lc) (hlen : (lg_sl args).length ≤ 3) (k : V tO MX12_keepsBook r ws Po (0, 0) ws 0 lc []) : Sp tO MX12_keepsBook r args ws Po := Sp.of (by decide +kernel) rfl rfl hlen (hz ▸ k)
abbrev MX12_isAhead : zM := (yX12_isAhead, cX12_isAhead, 4, (some .boolean), wsX12_isAhead, RX12)
theorem oX12_isAhead : zOk MX12_isAhead 1 := ⟨⟨_, rfl⟩, by decide +kernel, by decide +kernel, by decide +kernel, by decide⟩
theorem eX12_isAhead {tO : Nat} {r : Nat × Nat × Nat} {args : List Value} {ws : zW} {Po : zPo} (lc : List (Option Value)) (hz : zLoc args 4 = lc) (hlen : (lg_sl args).length ≤ 4) (k : V tO MX12_isAhead r ws Po (0, 0) ws 0 lc []) : Sp tO MX12_isAhead r args ws Po := Sp.of (by decide +kernel) rfl rfl hlen (hz ▸ k)
abbrev MX12_isFirst : zM := (yX12_isFirst, cX12_isFirst, 3, (some .boolean), wsX12_isFirst, RX12)
theorem oX12_isFirst : zOk MX12_isFirst 0 := ⟨⟨_, rfl⟩, by decide +kernel, by decide +kernel, by decide +kernel, by decide⟩
theorem eX12_isFirst {tO : Nat} {r : Nat × Nat × Nat} {args : List Value} {ws : zW} {Po : zPo} (lc : List (Option Value)) (hz : zLoc args 3 = lc) (hlen : (lg_sl args).length ≤ 3) (k : V tO MX12_isFirst r ws Po (0, 0) ws 0 lc []) : Sp tO MX12_isFirst r args ws Po := Sp.of (by decide +kernel) rfl rfl hlen (hz ▸ k)
abbrev MX12_searches : zM := (yX12_searches, cX12_searches, 6, none, wsX12_searches, RX12)
theorem oX12_searches : zOk MX12_searches 3 := ⟨⟨_, rfl⟩, by decide +kernel, by decide +kernel, by decide +kernel, by decide⟩
theorem eX12_searches {tO : Nat} {r : Nat × Nat × Nat} {args : List Value} {ws : zW} {Po : zPo} (lc : List (Option Value)) (hz : zLoc args 6 = lc) (hlen : (lg_sl args).length ≤ 6) (k : V tO MX12_searches r ws Po (0, 0) ws 0 lc []) : Sp tO MX12_searches r args ws Po := Sp.of (by decide +kernel) rfl rfl hlen (hz ▸ k)
abbrev MX12_great : zM := (yX12_great, cX12_great, 4, (some .int), wsX12_great, RX12)
theorem oX12_great : zOk MX12_great 2 := ⟨⟨_, rfl⟩, by decide +kernel, by decide +kernel, by decide +kernel, by decide⟩
theorem eX12_great {tO : Nat} {r : Nat × Nat × Nat} {args : List Value} {ws : zW} {Po : zPo} (lc : List (Option Value)) (hz : zLoc args 4 = lc) (hlen : (lg_sl args).length ≤ 4) (k : V tO MX12_great r ws Po (0, 0) ws 0 lc []) : Sp tO MX12_great r args ws Po := Sp.of (by decide +kernel) rfl rfl hlen (hz ▸ k)
abbrev MX12_cast : zM := (yX12_cast, cX12_cast, 2, (some .int), wsX12_cast, RX12)
theorem oX12_cast : zOk MX12_cast 1 := ⟨⟨_, rfl⟩, by decide +kernel, by decide +kernel, by decide +kernel, by decide⟩
theorem eX12_cast {tO : Nat} {r : Nat × Nat × Nat} {args : List Value} {ws : zW} {Po : zPo} (lc : List (Option Value)) (hz : zLoc args 2 = lc) (hlen : (lg_sl args).length ≤ 2) (k : V tO MX12_cast r ws Po (0, 0) ws 0 lc []) : Sp tO MX12_cast r args ws Po := Sp.of (by decide +kernel) rfl rfl hlen (hz ▸ k)
abbrev MX12_spell : zM := (yX12_spell, cX12_spell, 3, (some .int), wsX12_spell, RX12)
theorem oX12_spell : zOk MX12_spell 1 := ⟨⟨_, rfl⟩, by decide +kernel, by decide +kernel, by decide +kernel, by decide⟩
theorem eX12_spell {tO : Nat} {r : Nat × Nat × Nat} {args : List Value} {ws : zW} {Po : zPo} (lc : List (Option Value)) (hz : zLoc args 3 = lc) (hlen : (lg_sl args).length ≤ 3) (k : V tO MX12_spell r ws Po (0, 0) ws 0 lc []) : Sp tO MX12_spell r args ws Po := Sp.of (by decide +kernel) rfl rfl hlen (hz ▸ k)
abbrev MX12_tear : zM := (yX12_tear, cX12_tear, 3, (some .int), wsX12_tear, RX12)
theorem oX12_tear : zOk MX12_tear 1 := ⟨⟨_, rfl⟩, by decide +kernel, by decide +kernel, by decide +kernel, by decide⟩
theorem eX12_tear {tO : Nat} {r : Nat × Nat × Nat} {args : List Value} {ws : zW} {Po : zPo} (lc : List (Option Value)) (hz : zLoc args 3 = lc) (hlen : (lg_sl args).length ≤ 3) (k : V tO MX12_tear r ws Po (0, 0) ws 0 lc []) : Sp tO MX12_tear r args ws Po := Sp.of (by decide +kernel) rfl rfl hlen (hz ▸ k)
abbrev MX12_isThere : zM := (yX12_isThere, cX12_isThere, 6, (some .boolean), wsX12_isThere, RX12)
theorem oX12_isThere : zOk MX12_isThere 2 := ⟨⟨_, rfl⟩, by decide +kernel, by decide +kernel, by decide +kernel, by decide⟩
theorem eX12_isThere {tO : Nat} {r : Nat × Nat × Nat} {args : List Value} {ws : zW} {Po : zPo} (lc : List (Option Value)) (hz : zLoc args 6 = lc) (hlen : (lg_sl args).length ≤ 6) (k : V tO MX12_isThere r ws Po (0, 0) ws 0 lc []) : Sp tO MX12_isThere r args ws Po := Sp.of (by decide +kernel) rfl rfl hlen (hz ▸ k)
abbrev MX12_isPossible : zM := (yX12_isPossible, cX12_isPossible, 8, (some .boolean), wsX12_isPossible, RX12)
theorem oX12_isPossible : zOk MX12_isPossible 2 := ⟨⟨_, rfl⟩, by decide +kernel, by decide +kernel, by decide +kernel, by decide⟩
theorem eX12_isPossible {tO : Nat} {r : Nat × Nat × Nat} {args : List Value} {ws : zW} {Po : zPo} (lc : List (Option Value)) (hz : zLoc args 8 = lc) (hlen : (lg_sl args).length ≤ 8) (k : V tO MX12_isPossible r ws Po (0, 0) ws 0 lc []) : Sp tO MX12_isPossible r args ws Po := Sp.of (by decide +kernel) rfl rfl hlen (hz ▸ k)
abbrev MX12_possibleOf : zM := (yX12_possibleOf, cX12_possibleOf, 4, (some .int), wsX12_possibleOf, RX12)
theorem oX12_possibleOf : zOk MX12_possibleOf 1 := ⟨⟨_, rfl⟩, by decide +kernel, by decide +kernel, by decide +kernel, by decide⟩
theorem eX12_possibleOf {tO : Nat} {r : Nat × Nat × Nat} {args : List Value} {ws : zW} {Po : zPo} (lc : List (Option Value)) (hz : zLoc args 4 = lc) (hlen : (lg_sl args).length ≤ 4) (k : V tO MX12_possibleOf r ws Po (0, 0) ws 0 lc []) : Sp tO MX12_possibleOf r args ws Po := Sp.of (by decide +kernel) rfl rfl hlen (hz ▸ k)
abbrev MX12_possible : zM := (yX12_possible, cX12_possible, 2, (some .int), wsX12_possible, RX12)
theorem oX12_possible : zOk MX12_possible 1 := ⟨⟨_, rfl⟩, by decide +kernel, by decide +kernel, by decide +kernel, by decide⟩
theorem eX12_possible {tO : Nat} {r : Nat × Nat × Nat} {args : List Value} {ws : zW} {Po : zPo} (lc : List (Option Value)) (hz : zLoc args 2 = lc) (hlen : (lg_sl args).length ≤ 2) (k : V tO MX12_possible r ws Po (0, 0) ws 0 lc []) : Sp tO MX12_possible r args ws Po := Sp.of (by decide +kernel) rfl rfl hlen (hz ▸ k)
abbrev MX12_certain : zM := (yX12_certain, cX12_certain, 5, (some .int), wsX12_certain, RX12)
theorem oX12_certain : zOk MX12_certain 1 := ⟨⟨_, rfl⟩, by decide +kernel, by decide +kernel, by decide +kernel, by decide⟩
theorem eX12_certain {tO : Nat} {r : Nat × Nat × Nat} {args : List Value} {ws : zW} {Po : zPo} (lc : List (Option Value)) (hz : zLoc args 5 = lc) (hlen : (lg_sl args).length ≤ 5) (k : V tO MX12_certain r ws Po (0, 0) ws 0 lc []) : Sp tO MX12_certain r args ws Po := Sp.of (by decide +kernel) rfl rfl hlen (hz ▸ k)
abbrev MX12_goesOn : zM := (yX12_goesOn, cX12_goesOn, 8, (some .boolean), wsX12_goesOn, RX12)
theorem oX12_goesOn : zOk MX12_goesOn 3 := ⟨⟨_, rfl⟩, by decide +kernel, by decide +kernel, by decide +kernel, by decide⟩
theorem eX12_goesOn {tO : Nat} {r : Nat × Nat × Nat} {args : List Value} {ws : zW} {Po : zPo} (lc : List (Option Value)) (hz : zLoc args 8 = lc) (hlen : (lg_sl args).length ≤ 8) (k : V tO MX12_goesOn r ws Po (0, 0) ws 0 lc []) : Sp tO MX12_goesOn r args ws Po := Sp.of (by decide +kernel) rfl rfl hlen (hz ▸ k)
abbrev MX12_longest : zM := (yX12_longest, cX12_longest, 9, (some .int), wsX12_longest, RX12)
theorem oX12_longest : zOk MX12_longest 2 := ⟨⟨_, rfl⟩, by decide +kernel, by decide +kernel, by decide +kernel, by decide⟩
theorem eX12_longest {tO : Nat} {r : Nat × Nat × Nat} {args : List Value} {ws : zW} {Po : zPo} (lc : List (Option Value)) (hz : zLoc args 9 = lc) (hlen : (lg_sl args).length ≤ 9) (k : V tO MX12_longest r ws Po (0, 0) ws 0 lc []) : Sp tO MX12_longest r args ws Po := Sp.of (by decide +kernel) rfl rfl hlen (hz ▸ k)
abbrev MX12_delay : zM := (yX12_delay, cX12_delay, 4, (some .int), wsX12_delay, RX12)
theorem oX12_delay : zOk MX12_delay 0 := ⟨⟨_, rfl⟩, by decide +kernel, by decide +kernel, by decide +kernel, by decide⟩
theorem eX12_delay {tO : Nat} {r : Nat × Nat × Nat} {args : List Value} {ws : zW} {Po : zPo} (lc : List (Option Value)) (hz : zLoc args 4 = lc) (hlen : (lg_sl args).length ≤ 4) (k : V tO MX12_delay r ws Po (0, 0) ws 0 lc []) : Sp tO MX12_delay r args ws Po := Sp.of (by decide +kernel) rfl rfl hlen (hz ▸ k)
abbrev MX12_common : zM := (yX12_common, cX12_common, 2, (some .int), wsX12_common, RX12)
theorem oX12_common : zOk MX12_common 2 := ⟨⟨_, rfl⟩, by decide +kernel, by decide +kernel, by decide +kernel, by decide⟩
theorem eX12_common {tO : Nat} {r : Nat × Nat × Nat} {args : List Value} {ws : zW} {Po : zPo} (lc : List (Option Value)) (hz : zLoc args 2 = lc) (hlen : (lg_sl args).length ≤ 2) (k : V tO MX12_common r ws Po (0, 0) ws 0 lc []) : Sp tO MX12_common r args ws Po := Sp.of (by decide +kernel) rfl rfl hlen (hz ▸ k)
abbrev MX12_odds : zM := (yX12_odds, cX12_odds, 9, (some .long), wsX12_odds, RX12)
theorem oX12_odds : zOk MX12_odds 4 := ⟨⟨_, rfl⟩, by decide +kernel, by decide +kernel, by decide +kernel, by decide⟩
theorem eX12_odds {tO : Nat} {r : Nat × Nat × Nat} {args : List Value} {ws : zW} {Po : zPo} (lc : List (Option Value)) (hz : zLoc args 9 = lc) (hlen : (lg_sl args).length ≤ 9) (k : V tO MX12_odds r ws Po (0, 0) ws 0 lc []) : Sp tO MX12_odds r args ws Po := Sp.of (by decide +kernel) rfl rfl hlen (hz ▸ k)
abbrev MX12_plan : zM := (yX12_plan, cX12_plan, 3, (some .int), wsX12_plan, RX12)
theorem oX12_plan : zOk MX12_plan 2 := ⟨⟨_, rfl⟩, by decide +kernel, by decide +kernel, by decide +kernel, by decide⟩
theorem eX12_plan {tO : Nat} {r : Nat × Nat × Nat} {args : List Value} {ws : zW} {Po : zPo} (lc : List (Option Value)) (hz : zLoc args 3 = lc) (hlen : (lg_sl args).length ≤ 3) (k : V tO MX12_plan r ws Po (0, 0) ws 0 lc []) : Sp tO MX12_plan r args ws Po := Sp.of (by decide +kernel) rfl rfl hlen (hz ▸ k)
abbrev MX12_does : zM := (yX12_does, cX12_does, 3, none, wsX12_does, RX12)
theorem oX12_does : zOk MX12_does 2 := ⟨⟨_, rfl⟩, by decide +kernel, by decide +kernel, by decide +kernel, by decide⟩
theorem eX12_does {tO : Nat} {r : Nat × Nat × Nat} {args : List Value} {ws : zW} {Po : zPo} (lc : List (Option Value)) (hz : zLoc args 3 = lc) (hlen : (lg_sl args).length ≤ 3) (k : V tO MX12_does r ws Po (0, 0) ws 0 lc []) : Sp tO MX12_does r args ws Po := Sp.of (by decide +kernel) rfl rfl hlen (hz ▸ k)
abbrev MX12_behind : zM := (yX12_behind, cX12_behind, 4, (some .int), wsX12_behind, RX12)
theorem oX12_behind : zOk MX12_behind 1 := ⟨⟨_, rfl⟩, by decide +kernel, by decide +kernel, by decide +kernel, by decide⟩
theorem eX12_behind {tO : Nat} {r : Nat × Nat × Nat} {args : List Value} {ws : zW} {Po : zPo} (lc : List (Option Value)) (hz : zLoc args 4 = lc) (hlen : (lg_sl args).length ≤ 4) (k : V tO MX12_behind r ws Po (0, 0) ws 0 lc []) : Sp tO MX12_behind r args ws Po := Sp.of (by decide +kernel) rfl rfl hlen (hz ▸ k)
abbrev MX12_feed : zM := (yX12_feed, cX12_feed, 2, (some .int), wsX12_feed, RX12)
theorem oX12_feed : zOk MX12_feed 1 := ⟨⟨_, rfl⟩, by decide +kernel, by decide +kernel, by decide +kernel, by decide⟩
theorem eX12_feed {tO : Nat} {r : Nat × Nat × Nat} {args : List Value} {ws : zW} {Po : zPo} (lc : List (Option Value)) (hz : zLoc args 2 = lc) (hlen : (lg_sl args).length ≤ 2) (k : V tO MX12_feed r ws Po (0, 0) ws 0 lc []) : Sp tO MX12_feed r args ws Po := Sp.of (by decide +kernel) rfl rfl hlen (hz ▸ k)
abbrev MX12_book : zM := (yX12_book, cX12_book, 7, (some .int), wsX12_book, RX12)
theorem oX12_book : zOk MX12_book 0 := ⟨⟨_, rfl⟩, by decide +kernel, by decide +kernel, by decide +kernel, by decide⟩
theorem eX12_book {tO : Nat} {r : Nat × Nat × Nat} {args : List Value} {ws : zW} {Po : zPo} (lc : List (Option Value)) (hz : zLoc args 7 = lc) (hlen : (lg_sl args).length ≤ 7) (k : V tO MX12_book r ws Po (0, 0) ws 0 lc []) : Sp tO MX12_book r args ws Po := Sp.of (by decide +kernel) rfl rfl hlen (hz ▸ k)
abbrev MX12_why : zM := (yX12_why, cX12_why, 2, (some .int), wsX12_why, RX12)
theorem oX12_why : zOk MX12_why 1 := ⟨⟨_, rfl⟩, by decide +kernel, by decide +kernel, by decide +kernel, by decide⟩
theorem eX12_why {tO : Nat} {r : Nat × Nat × Nat} {args : List Value} {ws : zW} {Po : zPo} (lc : List (Option Value)) (hz : zLoc args 2 = lc) (hlen : (lg_sl args).length ≤ 2) (k : V tO MX12_why r ws Po (0, 0) ws 0 lc []) : Sp tO MX12_why r args ws Po := Sp.of (by decide +kernel) rfl rfl hlen (hz ▸ k)
abbrev MX12_write : zM := (yX12_write, cX12_write, 3, (some .int), wsX12_write, RX12)
theorem oX12_write : zOk MX12_write 0 := ⟨⟨_, rfl⟩, by decide +kernel, by decide +kernel, by decide +kernel, by decide⟩
theorem eX12_write {tO : Nat} {r : Nat × Nat × Nat} {args : List Value} {ws : zW} {Po : zPo} (lc : List (Option Value)) (hz : zLoc args 3 = lc) (hlen : (lg_sl args).length ≤ 3) (k : V tO MX12_write r ws Po (0, 0) ws 0 lc []) : Sp tO MX12_write r args ws Po := Sp.of (by decide +kernel) rfl rfl hlen (hz ▸ k)
abbrev MX12_paper : zM := (yX12_paper, cX12_paper, 2, (some .int), wsX12_paper, RX12)
theorem oX12_paper : zOk MX12_paper 1 := ⟨⟨_, rfl⟩, by decide +kernel, by decide +kernel, by decide +kernel, by decide⟩
theorem eX12_paper {tO : Nat} {r : Nat × Nat × Nat} {args : List Value} {ws : zW} {Po : zPo} (lc : List (Option Value)) (hz : zLoc args 2 = lc) (hlen : (lg_sl args).length ≤ 2) (k : V tO MX12_paper r ws Po (0, 0) ws 0 lc []) : Sp tO MX12_paper r args ws Po := Sp.of (by decide +kernel) rfl rfl hlen (hz ▸ k)
abbrev MX12_isList : zM := (yX12_isList, cX12_isList, 1, (some .boolean), wsX12_isList, RX12)
theorem oX12_isList : zOk MX12_isList 1 := ⟨⟨_, rfl⟩, by decide +kernel, by decide +kernel, by decide +kernel, by decide⟩
theorem eX12_isList {tO : Nat} {r : Nat × Nat × Nat} {args : List Value} {ws : zW} {Po : zPo} (lc : List (Option Value)) (hz : zLoc args 1 = lc) (hlen : (lg_sl args).length ≤ 1) (k : V tO MX12_isList r ws Po (0, 0) ws 0 lc []) : Sp tO MX12_isList r args ws Po := Sp.of (by decide +kernel) rfl rfl hlen (hz ▸ k)
abbrev MX12_judge : zM := (yX12_judge, cX12_judge, 4, (some .int), wsX12_judge, RX12)
theorem oX12_judge : zOk MX12_judge 1 := ⟨⟨_, rfl⟩, by decide +kernel, by decide +kernel, by decide +kernel, by decide⟩
theorem eX12_judge {tO : Nat} {r : Nat × Nat × Nat} {args : List Value} {ws : zW} {Po : zPo} (lc : List (Option Value)) (hz : zLoc args 4 = lc) (hlen : (lg_sl args).length ≤ 4) (k : V tO MX12_judge r ws Po (0, 0) ws 0 lc []) : Sp tO MX12_judge r args ws Po := Sp.of (by decide +kernel) rfl rfl hlen (hz ▸ k)
abbrev MX12_list : zM := (yX12_list, cX12_list, 4, (some .int), wsX12_list, RX12)
theorem oX12_list : zOk MX12_list 2 := ⟨⟨_, rfl⟩, by decide +kernel, by decide +kernel, by decide +kernel, by decide⟩
theorem eX12_list {tO : Nat} {r : Nat × Nat × Nat} {args : List Value} {ws : zW} {Po : zPo} (lc : List (Option Value)) (hz : zLoc args 4 = lc) (hlen : (lg_sl args).length ≤ 4) (k : V tO MX12_list r ws Po (0, 0) ws 0 lc []) : Sp tO MX12_list r args ws Po := Sp.of (by decide +kernel) rfl rfl hlen (hz ▸ k)
abbrev MX12_put : zM := (yX12_put, cX12_put, 4, (some .int), wsX12_put, RX12)
theorem oX12_put : zOk MX12_put 3 := ⟨⟨_, rfl⟩, by decide +kernel, by decide +kernel, by decide +kernel, by decide⟩
theorem eX12_put {tO : Nat} {r : Nat × Nat × Nat} {args : List Value} {ws : zW} {Po : zPo} (lc : List (Option Value)) (hz : zLoc args 4 = lc) (hlen : (lg_sl args).length ≤ 4) (k : V tO MX12_put r ws Po (0, 0) ws 0 lc []) : Sp tO MX12_put r args ws Po := Sp.of (by decide +kernel) rfl rfl hlen (hz ▸ k)
abbrev MX12_get : zM := (yX12_get, cX12_get, 3, (some .long), wsX12_get, RX12)
theorem oX12_get : zOk MX12_get 2 := ⟨⟨_, rfl⟩, by decide +kernel, by decide +kernel, by decide +kernel, by decide⟩
theorem eX12_get {tO : Nat} {r : Nat × Nat × Nat} {args : List Value} {ws : zW} {Po : zPo} (lc : List (Option Value)) (hz : zLoc args 3 = lc) (hlen : (lg_sl args).length ≤ 3) (k : V tO MX12_get r ws Po (0, 0) ws 0 lc []) : Sp tO MX12_get r args ws Po := Sp.of (by decide +kernel) rfl rfl hlen (hz ▸ k)
abbrev MX12_image : zM := (yX12_image, cX12_image, 2, (some .int), wsX12_image, RX12)
theorem oX12_image : zOk MX12_image 0 := ⟨⟨_, rfl⟩, by decide +kernel, by decide +kernel, by decide +kernel, by decide⟩
theorem eX12_image {tO : Nat} {r : Nat × Nat × Nat} {args : List Value} {ws : zW} {Po : zPo} (lc : List (Option Value)) (hz : zLoc args 2 = lc) (hlen : (lg_sl args).length ≤ 2) (k : V tO MX12_image r ws Po (0, 0) ws 0 lc []) : Sp tO MX12_image r args ws Po := Sp.of (by decide +kernel) rfl rfl hlen (hz ▸ k)
abbrev MX12_undo : zM := (yX12_undo, cX12_undo, 2, (some .int), wsX12_undo, RX12)
theorem oX12_undo : zOk MX12_undo 0 := ⟨⟨_, rfl⟩, by decide +kernel, by decide +kernel, by decide +kernel, by decide⟩
theorem eX12_undo {tO : Nat} {r : Nat × Nat × Nat} {args : List Value} {ws : zW} {Po : zPo} (lc : List (Option Value)) (hz : zLoc args 2 = lc) (hlen : (lg_sl args).length ≤ 2) (k : V tO MX12_undo r ws Po (0, 0) ws 0 lc []) : Sp tO MX12_undo r args ws Po := Sp.of (by decide +kernel) rfl rfl hlen (hz ▸ k)
abbrev MX12_count : zM := (yX12_count, cX12_count, 2, (some .int), wsX12_count, RX12)
theorem oX12_count : zOk MX12_count 1 := ⟨⟨_, rfl⟩, by decide +kernel, by decide +kernel, by decide +kernel, by decide⟩
theorem eX12_count {tO : Nat} {r : Nat × Nat × Nat} {args : List Value} {ws : zW} {Po : zPo} (lc : List (Option Value)) (hz : zLoc args 2 = lc) (hlen : (lg_sl args).length ≤ 2) (k : V tO MX12_count r ws Po (0, 0) ws 0 lc []) : Sp tO MX12_count r args ws Po := Sp.of (by decide +kernel) rfl rfl hlen (hz ▸ k)
set_option maxRecDepth 20000 in
theorem iX0_init_X0 : ∀ w ∈ u_ws RX0 TX0 4, w ∈ wsX0_init := by decide +kernel
set_option maxRecDepth 20000 in
theorem fX0_init_9 : zF MX0_init 9 0 0 := ⟨(RX0, TX0, 4), rfl, by decide, iX0_init_X0, Or.inl (by decide +kernel)⟩
theorem ft_0_0 : zFt 0 0 true (.array .int) := ⟨(RX0, TX0, 4), rfl, rfl, by decide +kernel⟩
set_option maxRecDepth 20000 in
theorem iX0_become_X0 : ∀ w ∈ u_ws RX0 TX0 4, w ∈ wsX0_become := by decide +kernel
set_option maxRecDepth 20000 in
theorem fX0_become_19 : zF MX0_become 19 0 1 := ⟨(RX0, TX0, 4), rfl, by decide, iX0_become_X0, Or.inl (by decide +kernel)⟩
theorem ft_0_1 : zFt 0 1 false (.int) := ⟨(RX0, TX0, 4), rfl, rfl, by decide +kernel⟩
set_option maxRecDepth 20000 in
theorem fX0_become_23 : zF MX0_become 23 0 2 := ⟨(RX0, TX0, 4), rfl, by decide, iX0_become_X0, Or.inl (by decide +kernel)⟩
theorem ft_0_2 : zFt 0 2 false (.int) := ⟨(RX0, TX0, 4), rfl, rfl, by decide +kernel⟩
set_option maxRecDepth 20000 in
theorem fX0_become_9 : zF MX0_become 9 0 0 := ⟨(RX0, TX0, 4), rfl, by decide, iX0_become_X0, Or.inl (by decide +kernel)⟩
set_option maxRecDepth 20000 in
theorem fX0_become_30 : zF MX0_become 30 0 3 := ⟨(RX0, TX0, 4), rfl, by decide, iX0_become_X0, Or.inl (by decide +kernel)⟩
theorem ft_0_3 : zFt 0 3 false (.int) := ⟨(RX0, TX0, 4), rfl, rfl, by decide +kernel⟩
set_option maxRecDepth 20000 in
theorem iX0_power_X0 : ∀ w ∈ u_ws RX0 TX0 4, w ∈ wsX0_power := by decide +kernel
set_option maxRecDepth 20000 in
theorem fX0_power_9 : zF MX0_power 9 0 0 := ⟨(RX0, TX0, 4), rfl, by decide, iX0_power_X0, Or.inl (by decide +kernel)⟩
set_option maxRecDepth 20000 in
theorem iX0_isWord_X0 : ∀ w ∈ u_ws RX0 TX0 4, w ∈ wsX0_isWord := by decide +kernel
set_option maxRecDepth 20000 in
theorem fX0_isWord_30 : zF MX0_isWord 30 0 3 := ⟨(RX0, TX0, 4), rfl, by decide, iX0_isWord_X0, Or.inl (by decide +kernel)⟩
set_option maxRecDepth 20000 in
theorem iX0_opening_X0 : ∀ w ∈ u_ws RX0 TX0 4, w ∈ wsX0_opening := by decide +kernel
set_option maxRecDepth 20000 in
theorem fX0_opening_23 : zF MX0_opening 23 0 2 := ⟨(RX0, TX0, 4), rfl, by decide, iX0_opening_X0, Or.inl (by decide +kernel)⟩
set_option maxRecDepth 20000 in
theorem iX0_part_X0 : ∀ w ∈ u_ws RX0 TX0 4, w ∈ wsX0_part := by decide +kernel
set_option maxRecDepth 20000 in
theorem fX0_part_23 : zF MX0_part 23 0 2 := ⟨(RX0, TX0, 4), rfl, by decide, iX0_part_X0, Or.inl (by decide +kernel)⟩
set_option maxRecDepth 20000 in
theorem iX0_across_X0 : ∀ w ∈ u_ws RX0 TX0 4, w ∈ wsX0_across := by decide +kernel
set_option maxRecDepth 20000 in
theorem fX0_across_23 : zF MX0_across 23 0 2 := ⟨(RX0, TX0, 4), rfl, by decide, iX0_across_X0, Or.inl (by decide +kernel)⟩
set_option maxRecDepth 20000 in
theorem iX0_turned_X0 : ∀ w ∈ u_ws RX0 TX0 4, w ∈ wsX0_turned := by decide +kernel
set_option maxRecDepth 20000 in
theorem fX0_turned_23 : zF MX0_turned 23 0 2 := ⟨(RX0, TX0, 4), rfl, by decide, iX0_turned_X0, Or.inl (by decide +kernel)⟩
set_option maxRecDepth 20000 in
theorem fX0_turned_19 : zF MX0_turned 19 0 1 := ⟨(RX0, TX0, 4), rfl, by decide, iX0_turned_X0, Or.inl (by decide +kernel)⟩
set_option maxRecDepth 20000 in
theorem iX0_ringSize_X0 : ∀ w ∈ u_ws RX0 TX0 4, w ∈ wsX0_ringSize := by decide +kernel
set_option maxRecDepth 20000 in
theorem fX0_ringSize_23 : zF MX0_ringSize 23 0 2 := ⟨(RX0, TX0, 4), rfl, by decide, iX0_ringSize_X0, Or.inl (by decide +kernel)⟩
set_option maxRecDepth 20000 in
theorem iX0_ringLeast_X0 : ∀ w ∈ u_ws RX0 TX0 4, w ∈ wsX0_ringLeast := by decide +kernel
set_option maxRecDepth 20000 in
theorem fX0_ringLeast_23 : zF MX0_ringLeast 23 0 2 := ⟨(RX0, TX0, 4), rfl, by decide, iX0_ringLeast_X0, Or.inl (by decide +kernel)⟩
set_option maxRecDepth 20000 in
theorem mmX0_ringLeast_51 : zMmin MX0_ringLeast 51 := by unfold zMmin; decide +kernel
set_option maxRecDepth 20000 in
theorem iX0_isWhole_X0 : ∀ w ∈ u_ws RX0 TX0 4, w ∈ wsX0_isWhole := by decide +kernel
set_option maxRecDepth 20000 in
theorem fX0_isWhole_23 : zF MX0_isWhole 23 0 2 := ⟨(RX0, TX0, 4), rfl, by decide, iX0_isWhole_X0, Or.inl (by decide +kernel)⟩
set_option maxRecDepth 20000 in
theorem iX0_wholeRingsBelow_X0 : ∀ w ∈ u_ws RX0 TX0 4, w ∈ wsX0_wholeRingsBelow := by decide +kernel
set_option maxRecDepth 20000 in
theorem fX0_wholeRingsBelow_30 : zF MX0_wholeRingsBelow 30 0 3 := ⟨(RX0, TX0, 4), rfl, by decide, iX0_wholeRingsBelow_X0, Or.inl (by decide +kernel)⟩
set_option maxRecDepth 20000 in
theorem iX0_wholeRing_X0 : ∀ w ∈ u_ws RX0 TX0 4, w ∈ wsX0_wholeRing := by decide +kernel
set_option maxRecDepth 20000 in
theorem fX0_wholeRing_30 : zF MX0_wholeRing 30 0 3 := ⟨(RX0, TX0, 4), rfl, by decide, iX0_wholeRing_X0, Or.inl (by decide +kernel)⟩
set_option maxRecDepth 20000 in
theorem iX0_swaps_X0 : ∀ w ∈ u_ws RX0 TX0 4, w ∈ wsX0_swaps := by decide +kernel
set_option maxRecDepth 20000 in
theorem fX0_swaps_19 : zF MX0_swaps 19 0 1 := ⟨(RX0, TX0, 4), rfl, by decide, iX0_swaps_X0, Or.inl (by decide +kernel)⟩
set_option maxRecDepth 20000 in
theorem iX0_exchanged_X0 : ∀ w ∈ u_ws RX0 TX0 4, w ∈ wsX0_exchanged := by decide +kernel
set_option maxRecDepth 20000 in
theorem fX0_exchanged_19 : zF MX0_exchanged 19 0 1 := ⟨(RX0, TX0, 4), rfl, by decide, iX0_exchanged_X0, Or.inl (by decide +kernel)⟩
set_option maxRecDepth 20000 in
theorem fX0_exchanged_23 : zF MX0_exchanged 23 0 2 := ⟨(RX0, TX0, 4), rfl, by decide, iX0_exchanged_X0, Or.inl (by decide +kernel)⟩
set_option maxRecDepth 20000 in
theorem iX1_init_X1 : ∀ w ∈ u_ws RX1 TX1 7, w ∈ wsX1_init := by decide +kernel
set_option maxRecDepth 20000 in
theorem fX1_init_9 : zF MX1_init 9 1 0 := ⟨(RX1, TX1, 7), rfl, by decide, iX1_init_X1, Or.inl (by decide +kernel)⟩
theorem ft_1_0 : zFt 1 0 true (.object "CommaFreeBooks$Alphabet") := ⟨(RX1, TX1, 7), rfl, rfl, by decide +kernel⟩
set_option maxRecDepth 20000 in
theorem fX1_init_15 : zF MX1_init 15 1 1 := ⟨(RX1, TX1, 7), rfl, by decide, iX1_init_X1, Or.inl (by decide +kernel)⟩
theorem ft_1_1 : zFt 1 1 true (.array .int) := ⟨(RX1, TX1, 7), rfl, rfl, by decide +kernel⟩
set_option maxRecDepth 20000 in
theorem fX1_init_19 : zF MX1_init 19 1 2 := ⟨(RX1, TX1, 7), rfl, by decide, iX1_init_X1, Or.inl (by decide +kernel)⟩
theorem ft_1_2 : zFt 1 2 true (.array .boolean) := ⟨(RX1, TX1, 7), rfl, rfl, by decide +kernel⟩
set_option maxRecDepth 20000 in
theorem fX1_init_23 : zF MX1_init 23 1 3 := ⟨(RX1, TX1, 7), rfl, by decide, iX1_init_X1, Or.inl (by decide +kernel)⟩
theorem ft_1_3 : zFt 1 3 true (.array .int) := ⟨(RX1, TX1, 7), rfl, rfl, by decide +kernel⟩
set_option maxRecDepth 20000 in
theorem fX1_init_26 : zF MX1_init 26 1 4 := ⟨(RX1, TX1, 7), rfl, by decide, iX1_init_X1, Or.inl (by decide +kernel)⟩
theorem ft_1_4 : zFt 1 4 true (.array .int) := ⟨(RX1, TX1, 7), rfl, rfl, by decide +kernel⟩
set_option maxRecDepth 20000 in
theorem fX1_init_29 : zF MX1_init 29 1 5 := ⟨(RX1, TX1, 7), rfl, by decide, iX1_init_X1, Or.inl (by decide +kernel)⟩
theorem ft_1_5 : zFt 1 5 true (.array .int) := ⟨(RX1, TX1, 7), rfl, rfl, by decide +kernel⟩
set_option maxRecDepth 20000 in
theorem fX1_init_32 : zF MX1_init 32 1 6 := ⟨(RX1, TX1, 7), rfl, by decide, iX1_init_X1, Or.inl (by decide +kernel)⟩
theorem ft_1_6 : zFt 1 6 false (.int) := ⟨(RX1, TX1, 7), rfl, rfl, by decide +kernel⟩
set_option maxRecDepth 20000 in
theorem iX1_total_X1 : ∀ w ∈ u_ws RX1 TX1 7, w ∈ wsX1_total := by decide +kernel
set_option maxRecDepth 20000 in
theorem fX1_total_32 : zF MX1_total 32 1 6 := ⟨(RX1, TX1, 7), rfl, by decide, iX1_total_X1, Or.inl (by decide +kernel)⟩
set_option maxRecDepth 20000 in
theorem iX1_has_X1 : ∀ w ∈ u_ws RX1 TX1 7, w ∈ wsX1_has := by decide +kernel
set_option maxRecDepth 20000 in
theorem fX1_has_32 : zF MX1_has 32 1 6 := ⟨(RX1, TX1, 7), rfl, by decide, iX1_has_X1, Or.inl (by decide +kernel)⟩
set_option maxRecDepth 20000 in
theorem iX1_nth_X1 : ∀ w ∈ u_ws RX1 TX1 7, w ∈ wsX1_nth := by decide +kernel
set_option maxRecDepth 20000 in
theorem fX1_nth_15 : zF MX1_nth 15 1 1 := ⟨(RX1, TX1, 7), rfl, by decide, iX1_nth_X1, Or.inl (by decide +kernel)⟩
set_option maxRecDepth 20000 in
theorem iX1_holds_X1 : ∀ w ∈ u_ws RX1 TX1 7, w ∈ wsX1_holds := by decide +kernel
set_option maxRecDepth 20000 in
theorem fX1_holds_19 : zF MX1_holds 19 1 2 := ⟨(RX1, TX1, 7), rfl, by decide, iX1_holds_X1, Or.inl (by decide +kernel)⟩
set_option maxRecDepth 20000 in
theorem iX1_hold_X1 : ∀ w ∈ u_ws RX1 TX1 7, w ∈ wsX1_hold := by decide +kernel
set_option maxRecDepth 20000 in
theorem fX1_hold_19 : zF MX1_hold 19 1 2 := ⟨(RX1, TX1, 7), rfl, by decide, iX1_hold_X1, Or.inl (by decide +kernel)⟩
set_option maxRecDepth 20000 in
theorem iX1_empty_X1 : ∀ w ∈ u_ws RX1 TX1 7, w ∈ wsX1_empty := by decide +kernel
set_option maxRecDepth 20000 in
theorem fX1_empty_32 : zF MX1_empty 32 1 6 := ⟨(RX1, TX1, 7), rfl, by decide, iX1_empty_X1, Or.inl (by decide +kernel)⟩
set_option maxRecDepth 20000 in
theorem fX1_empty_26 : zF MX1_empty 26 1 4 := ⟨(RX1, TX1, 7), rfl, by decide, iX1_empty_X1, Or.inl (by decide +kernel)⟩
set_option maxRecDepth 20000 in
theorem fX1_empty_29 : zF MX1_empty 29 1 5 := ⟨(RX1, TX1, 7), rfl, by decide, iX1_empty_X1, Or.inl (by decide +kernel)⟩
set_option maxRecDepth 20000 in
theorem iX1_copyFrom_X1 : ∀ w ∈ u_ws RX1 TX1 7, w ∈ wsX1_copyFrom := by decide +kernel
set_option maxRecDepth 20000 in
theorem fX1_copyFrom_32 : zF MX1_copyFrom 32 1 6 := ⟨(RX1, TX1, 7), rfl, by decide, iX1_copyFrom_X1, Or.inl (by decide +kernel)⟩
set_option maxRecDepth 20000 in
theorem fX1_copyFrom_15 : zF MX1_copyFrom 15 1 1 := ⟨(RX1, TX1, 7), rfl, by decide, iX1_copyFrom_X1, Or.inl (by decide +kernel)⟩
set_option maxRecDepth 20000 in
theorem fX1_copyFrom_26 : zF MX1_copyFrom 26 1 4 := ⟨(RX1, TX1, 7), rfl, by decide, iX1_copyFrom_X1, Or.inl (by decide +kernel)⟩
set_option maxRecDepth 20000 in
theorem fX1_copyFrom_29 : zF MX1_copyFrom 29 1 5 := ⟨(RX1, TX1, 7), rfl, by decide, iX1_copyFrom_X1, Or.inl (by decide +kernel)⟩
set_option maxRecDepth 20000 in
theorem fX1_copyFrom_19 : zF MX1_copyFrom 19 1 2 := ⟨(RX1, TX1, 7), rfl, by decide, iX1_copyFrom_X1, Or.inl (by decide +kernel)⟩
set_option maxRecDepth 20000 in
theorem iX1_include_X1 : ∀ w ∈ u_ws RX1 TX1 7, w ∈ wsX1_include := by decide +kernel
set_option maxRecDepth 20000 in
theorem fX1_include_9 : zF MX1_include 9 1 0 := ⟨(RX1, TX1, 7), rfl, by decide, iX1_include_X1, Or.inl (by decide +kernel)⟩
set_option maxRecDepth 20000 in
theorem fX1_include_32 : zF MX1_include 32 1 6 := ⟨(RX1, TX1, 7), rfl, by decide, iX1_include_X1, Or.inl (by decide +kernel)⟩
set_option maxRecDepth 20000 in
theorem fX1_include_15 : zF MX1_include 15 1 1 := ⟨(RX1, TX1, 7), rfl, by decide, iX1_include_X1, Or.inl (by decide +kernel)⟩
set_option maxRecDepth 20000 in
theorem iX1_exclude_X1 : ∀ w ∈ u_ws RX1 TX1 7, w ∈ wsX1_exclude := by decide +kernel
set_option maxRecDepth 20000 in
theorem fX1_exclude_32 : zF MX1_exclude 32 1 6 := ⟨(RX1, TX1, 7), rfl, by decide, iX1_exclude_X1, Or.inl (by decide +kernel)⟩
set_option maxRecDepth 20000 in
theorem fX1_exclude_15 : zF MX1_exclude 15 1 1 := ⟨(RX1, TX1, 7), rfl, by decide, iX1_exclude_X1, Or.inl (by decide +kernel)⟩
set_option maxRecDepth 20000 in
theorem iX1_mark_X1 : ∀ w ∈ u_ws RX1 TX1 7, w ∈ wsX1_mark := by decide +kernel
set_option maxRecDepth 20000 in
theorem fX1_mark_9 : zF MX1_mark 9 1 0 := ⟨(RX1, TX1, 7), rfl, by decide, iX1_mark_X1, Or.inl (by decide +kernel)⟩
set_option maxRecDepth 20000 in
theorem iX1_mark_X0 : ∀ w ∈ u_ws RX0 TX0 4, w ∈ wsX1_mark := by decide +kernel
set_option maxRecDepth 20000 in
theorem fX1_mark_75 : zF MX1_mark 75 0 2 := ⟨(RX0, TX0, 4), rfl, by decide, iX1_mark_X0, Or.inr (by decide +kernel)⟩
set_option maxRecDepth 20000 in
theorem fX1_mark_26 : zF MX1_mark 26 1 4 := ⟨(RX1, TX1, 7), rfl, by decide, iX1_mark_X1, Or.inl (by decide +kernel)⟩
set_option maxRecDepth 20000 in
theorem fX1_mark_29 : zF MX1_mark 29 1 5 := ⟨(RX1, TX1, 7), rfl, by decide, iX1_mark_X1, Or.inl (by decide +kernel)⟩
set_option maxRecDepth 20000 in
theorem iX1_isHidden_X1 : ∀ w ∈ u_ws RX1 TX1 7, w ∈ wsX1_isHidden := by decide +kernel
set_option maxRecDepth 20000 in
theorem fX1_isHidden_9 : zF MX1_isHidden 9 1 0 := ⟨(RX1, TX1, 7), rfl, by decide, iX1_isHidden_X1, Or.inl (by decide +kernel)⟩
set_option maxRecDepth 20000 in
theorem iX1_isHidden_X0 : ∀ w ∈ u_ws RX0 TX0 4, w ∈ wsX1_isHidden := by decide +kernel
set_option maxRecDepth 20000 in
theorem fX1_isHidden_75 : zF MX1_isHidden 75 0 2 := ⟨(RX0, TX0, 4), rfl, by decide, iX1_isHidden_X0, Or.inr (by decide +kernel)⟩
set_option maxRecDepth 20000 in
theorem fX1_isHidden_29 : zF MX1_isHidden 29 1 5 := ⟨(RX1, TX1, 7), rfl, by decide, iX1_isHidden_X1, Or.inl (by decide +kernel)⟩
set_option maxRecDepth 20000 in
theorem fX1_isHidden_26 : zF MX1_isHidden 26 1 4 := ⟨(RX1, TX1, 7), rfl, by decide, iX1_isHidden_X1, Or.inl (by decide +kernel)⟩
set_option maxRecDepth 20000 in
theorem iX1_isFree_X1 : ∀ w ∈ u_ws RX1 TX1 7, w ∈ wsX1_isFree := by decide +kernel
set_option maxRecDepth 20000 in
theorem fX1_isFree_32 : zF MX1_isFree 32 1 6 := ⟨(RX1, TX1, 7), rfl, by decide, iX1_isFree_X1, Or.inl (by decide +kernel)⟩
set_option maxRecDepth 20000 in
theorem iX1_allows_X1 : ∀ w ∈ u_ws RX1 TX1 7, w ∈ wsX1_allows := by decide +kernel
set_option maxRecDepth 20000 in
theorem fX1_allows_9 : zF MX1_allows 9 1 0 := ⟨(RX1, TX1, 7), rfl, by decide, iX1_allows_X1, Or.inl (by decide +kernel)⟩
set_option maxRecDepth 20000 in
theorem iX1_firstClash_X1 : ∀ w ∈ u_ws RX1 TX1 7, w ∈ wsX1_firstClash := by decide +kernel
set_option maxRecDepth 20000 in
theorem fX1_firstClash_32 : zF MX1_firstClash 32 1 6 := ⟨(RX1, TX1, 7), rfl, by decide, iX1_firstClash_X1, Or.inl (by decide +kernel)⟩
set_option maxRecDepth 20000 in
theorem fX1_firstClash_9 : zF MX1_firstClash 9 1 0 := ⟨(RX1, TX1, 7), rfl, by decide, iX1_firstClash_X1, Or.inl (by decide +kernel)⟩
set_option maxRecDepth 20000 in
theorem iX1_firstHiding_X1 : ∀ w ∈ u_ws RX1 TX1 7, w ∈ wsX1_firstHiding := by decide +kernel
set_option maxRecDepth 20000 in
theorem fX1_firstHiding_9 : zF MX1_firstHiding 9 1 0 := ⟨(RX1, TX1, 7), rfl, by decide, iX1_firstHiding_X1, Or.inl (by decide +kernel)⟩
set_option maxRecDepth 20000 in
theorem iX1_firstHiding_X0 : ∀ w ∈ u_ws RX0 TX0 4, w ∈ wsX1_firstHiding := by decide +kernel
set_option maxRecDepth 20000 in
theorem fX1_firstHiding_75 : zF MX1_firstHiding 75 0 2 := ⟨(RX0, TX0, 4), rfl, by decide, iX1_firstHiding_X0, Or.inr (by decide +kernel)⟩
set_option maxRecDepth 20000 in
theorem iX1_exchange_X1 : ∀ w ∈ u_ws RX1 TX1 7, w ∈ wsX1_exchange := by decide +kernel
set_option maxRecDepth 20000 in
theorem fX1_exchange_32 : zF MX1_exchange 32 1 6 := ⟨(RX1, TX1, 7), rfl, by decide, iX1_exchange_X1, Or.inl (by decide +kernel)⟩
set_option maxRecDepth 20000 in
theorem fX1_exchange_23 : zF MX1_exchange 23 1 3 := ⟨(RX1, TX1, 7), rfl, by decide, iX1_exchange_X1, Or.inl (by decide +kernel)⟩
set_option maxRecDepth 20000 in
theorem fX1_exchange_9 : zF MX1_exchange 9 1 0 := ⟨(RX1, TX1, 7), rfl, by decide, iX1_exchange_X1, Or.inl (by decide +kernel)⟩
set_option maxRecDepth 20000 in
theorem iX1_isKeptBy_X1 : ∀ w ∈ u_ws RX1 TX1 7, w ∈ wsX1_isKeptBy := by decide +kernel
set_option maxRecDepth 20000 in
theorem fX1_isKeptBy_32 : zF MX1_isKeptBy 32 1 6 := ⟨(RX1, TX1, 7), rfl, by decide, iX1_isKeptBy_X1, Or.inl (by decide +kernel)⟩
set_option maxRecDepth 20000 in
theorem fX1_isKeptBy_9 : zF MX1_isKeptBy 9 1 0 := ⟨(RX1, TX1, 7), rfl, by decide, iX1_isKeptBy_X1, Or.inl (by decide +kernel)⟩
set_option maxRecDepth 20000 in
theorem iX1_fits_X1 : ∀ w ∈ u_ws RX1 TX1 7, w ∈ wsX1_fits := by decide +kernel
set_option maxRecDepth 20000 in
theorem fX1_fits_9 : zF MX1_fits 9 1 0 := ⟨(RX1, TX1, 7), rfl, by decide, iX1_fits_X1, Or.inl (by decide +kernel)⟩
set_option maxRecDepth 20000 in
theorem iX1_fits_X0 : ∀ w ∈ u_ws RX0 TX0 4, w ∈ wsX1_fits := by decide +kernel
set_option maxRecDepth 20000 in
theorem fX1_fits_75 : zF MX1_fits 75 0 2 := ⟨(RX0, TX0, 4), rfl, by decide, iX1_fits_X0, Or.inr (by decide +kernel)⟩
set_option maxRecDepth 20000 in
theorem fX1_fits_32 : zF MX1_fits 32 1 6 := ⟨(RX1, TX1, 7), rfl, by decide, iX1_fits_X1, Or.inl (by decide +kernel)⟩
set_option maxRecDepth 20000 in
theorem iX1_draw_X1 : ∀ w ∈ u_ws RX1 TX1 7, w ∈ wsX1_draw := by decide +kernel
set_option maxRecDepth 20000 in
theorem fX1_draw_9 : zF MX1_draw 9 1 0 := ⟨(RX1, TX1, 7), rfl, by decide, iX1_draw_X1, Or.inl (by decide +kernel)⟩
set_option maxRecDepth 20000 in
theorem iX1_draw_X0 : ∀ w ∈ u_ws RX0 TX0 4, w ∈ wsX1_draw := by decide +kernel
set_option maxRecDepth 20000 in
theorem fX1_draw_118 : zF MX1_draw 118 0 3 := ⟨(RX0, TX0, 4), rfl, by decide, iX1_draw_X0, Or.inr (by decide +kernel)⟩
set_option maxRecDepth 20000 in
theorem iX2_init_X2 : ∀ w ∈ u_ws RX2 TX2 4, w ∈ wsX2_init := by decide +kernel
set_option maxRecDepth 20000 in
theorem fX2_init_10 : zF MX2_init 10 2 0 := ⟨(RX2, TX2, 4), rfl, by decide, iX2_init_X2, Or.inl (by decide +kernel)⟩
theorem ft_2_0 : zFt 2 0 true (.object "CommaFreeBooks$Alphabet") := ⟨(RX2, TX2, 4), rfl, rfl, by decide +kernel⟩
set_option maxRecDepth 20000 in
theorem fX2_init_21 : zF MX2_init 21 2 1 := ⟨(RX2, TX2, 4), rfl, by decide, iX2_init_X2, Or.inl (by decide +kernel)⟩
theorem ft_2_1 : zFt 2 1 true (.object "CommaFreeBooks$Book") := ⟨(RX2, TX2, 4), rfl, rfl, by decide +kernel⟩
set_option maxRecDepth 20000 in
theorem fX2_init_28 : zF MX2_init 28 2 2 := ⟨(RX2, TX2, 4), rfl, by decide, iX2_init_X2, Or.inl (by decide +kernel)⟩
theorem ft_2_2 : zFt 2 2 true (.object "CommaFreeBooks$Strip") := ⟨(RX2, TX2, 4), rfl, rfl, by decide +kernel⟩
set_option maxRecDepth 20000 in
theorem fX2_init_35 : zF MX2_init 35 2 3 := ⟨(RX2, TX2, 4), rfl, by decide, iX2_init_X2, Or.inl (by decide +kernel)⟩
theorem ft_2_3 : zFt 2 3 true (.object "CommaFreeBooks$Plan") := ⟨(RX2, TX2, 4), rfl, rfl, by decide +kernel⟩
set_option maxRecDepth 20000 in
theorem iX2_beginAnew_X2 : ∀ w ∈ u_ws RX2 TX2 4, w ∈ wsX2_beginAnew := by decide +kernel
set_option maxRecDepth 20000 in
theorem fX2_beginAnew_10 : zF MX2_beginAnew 10 2 0 := ⟨(RX2, TX2, 4), rfl, by decide, iX2_beginAnew_X2, Or.inl (by decide +kernel)⟩
set_option maxRecDepth 20000 in
theorem fX2_beginAnew_21 : zF MX2_beginAnew 21 2 1 := ⟨(RX2, TX2, 4), rfl, by decide, iX2_beginAnew_X2, Or.inl (by decide +kernel)⟩
set_option maxRecDepth 20000 in
theorem fX2_beginAnew_28 : zF MX2_beginAnew 28 2 2 := ⟨(RX2, TX2, 4), rfl, by decide, iX2_beginAnew_X2, Or.inl (by decide +kernel)⟩
set_option maxRecDepth 20000 in
theorem fX2_beginAnew_35 : zF MX2_beginAnew 35 2 3 := ⟨(RX2, TX2, 4), rfl, by decide, iX2_beginAnew_X2, Or.inl (by decide +kernel)⟩
set_option maxRecDepth 20000 in
theorem iX2_copyFrom_X2 : ∀ w ∈ u_ws RX2 TX2 4, w ∈ wsX2_copyFrom := by decide +kernel
set_option maxRecDepth 20000 in
theorem fX2_copyFrom_10 : zF MX2_copyFrom 10 2 0 := ⟨(RX2, TX2, 4), rfl, by decide, iX2_copyFrom_X2, Or.inl (by decide +kernel)⟩
set_option maxRecDepth 20000 in
theorem iX2_copyFrom_X0 : ∀ w ∈ u_ws RX0 TX0 4, w ∈ wsX2_copyFrom := by decide +kernel
set_option maxRecDepth 20000 in
theorem fX2_copyFrom_48 : zF MX2_copyFrom 48 0 1 := ⟨(RX0, TX0, 4), rfl, by decide, iX2_copyFrom_X0, Or.inr (by decide +kernel)⟩
set_option maxRecDepth 20000 in
theorem fX2_copyFrom_52 : zF MX2_copyFrom 52 0 2 := ⟨(RX0, TX0, 4), rfl, by decide, iX2_copyFrom_X0, Or.inr (by decide +kernel)⟩
set_option maxRecDepth 20000 in
theorem fX2_copyFrom_21 : zF MX2_copyFrom 21 2 1 := ⟨(RX2, TX2, 4), rfl, by decide, iX2_copyFrom_X2, Or.inl (by decide +kernel)⟩
set_option maxRecDepth 20000 in
theorem fX2_copyFrom_28 : zF MX2_copyFrom 28 2 2 := ⟨(RX2, TX2, 4), rfl, by decide, iX2_copyFrom_X2, Or.inl (by decide +kernel)⟩
set_option maxRecDepth 20000 in
theorem fX2_copyFrom_35 : zF MX2_copyFrom 35 2 3 := ⟨(RX2, TX2, 4), rfl, by decide, iX2_copyFrom_X2, Or.inl (by decide +kernel)⟩
set_option maxRecDepth 20000 in
theorem iX3_ends_X1 : ∀ w ∈ u_ws RX1 TX1 7, w ∈ wsX3_ends := by decide +kernel
set_option maxRecDepth 20000 in
theorem fX3_ends_9 : zF MX3_ends 9 1 0 := ⟨(RX1, TX1, 7), rfl, by decide, iX3_ends_X1, Or.inr (by decide +kernel)⟩
set_option maxRecDepth 20000 in
theorem iX3_ends_X0 : ∀ w ∈ u_ws RX0 TX0 4, w ∈ wsX3_ends := by decide +kernel
set_option maxRecDepth 20000 in
theorem fX3_ends_15 : zF MX3_ends 15 0 2 := ⟨(RX0, TX0, 4), rfl, by decide, iX3_ends_X0, Or.inr (by decide +kernel)⟩
set_option maxRecDepth 20000 in
theorem mmX3_ends_27 : zMmax MX3_ends 27 := by unfold zMmax; decide +kernel
set_option maxRecDepth 20000 in
theorem iX3_tailsBehind_X1 : ∀ w ∈ u_ws RX1 TX1 7, w ∈ wsX3_tailsBehind := by decide +kernel
set_option maxRecDepth 20000 in
theorem fX3_tailsBehind_9 : zF MX3_tailsBehind 9 1 0 := ⟨(RX1, TX1, 7), rfl, by decide, iX3_tailsBehind_X1, Or.inr (by decide +kernel)⟩
set_option maxRecDepth 20000 in
theorem iX3_tailsBehind_X0 : ∀ w ∈ u_ws RX0 TX0 4, w ∈ wsX3_tailsBehind := by decide +kernel
set_option maxRecDepth 20000 in
theorem fX3_tailsBehind_15 : zF MX3_tailsBehind 15 0 2 := ⟨(RX0, TX0, 4), rfl, by decide, iX3_tailsBehind_X0, Or.inr (by decide +kernel)⟩
set_option maxRecDepth 20000 in
theorem mmX3_tailsBehind_37 : zMmin MX3_tailsBehind 37 := by unfold zMmin; decide +kernel
set_option maxRecDepth 20000 in
theorem fX3_tailsBehind_44 : zF MX3_tailsBehind 44 0 1 := ⟨(RX0, TX0, 4), rfl, by decide, iX3_tailsBehind_X0, Or.inr (by decide +kernel)⟩
set_option maxRecDepth 20000 in
theorem iX3_stands_X1 : ∀ w ∈ u_ws RX1 TX1 7, w ∈ wsX3_stands := by decide +kernel
set_option maxRecDepth 20000 in
theorem fX3_stands_9 : zF MX3_stands 9 1 0 := ⟨(RX1, TX1, 7), rfl, by decide, iX3_stands_X1, Or.inr (by decide +kernel)⟩
set_option maxRecDepth 20000 in
theorem iX3_stands_X0 : ∀ w ∈ u_ws RX0 TX0 4, w ∈ wsX3_stands := by decide +kernel
set_option maxRecDepth 20000 in
theorem fX3_stands_15 : zF MX3_stands 15 0 2 := ⟨(RX0, TX0, 4), rfl, by decide, iX3_stands_X0, Or.inr (by decide +kernel)⟩
set_option maxRecDepth 20000 in
theorem mmX3_stands_37 : zMmin MX3_stands 37 := by unfold zMmin; decide +kernel
set_option maxRecDepth 20000 in
theorem iX4_init_X4 : ∀ w ∈ u_ws RX4 TX4 10, w ∈ wsX4_init := by decide +kernel
set_option maxRecDepth 20000 in
theorem fX4_init_9 : zF MX4_init 9 3 0 := ⟨(RX4, TX4, 10), rfl, by decide, iX4_init_X4, Or.inl (by decide +kernel)⟩
theorem ft_3_0 : zFt 3 0 true (.object "CommaFreeBooks$Alphabet") := ⟨(RX4, TX4, 10), rfl, rfl, by decide +kernel⟩
set_option maxRecDepth 20000 in
theorem fX4_init_15 : zF MX4_init 15 3 1 := ⟨(RX4, TX4, 10), rfl, by decide, iX4_init_X4, Or.inl (by decide +kernel)⟩
theorem ft_3_1 : zFt 3 1 true (.object "CommaFreeBooks$Book") := ⟨(RX4, TX4, 10), rfl, rfl, by decide +kernel⟩
set_option maxRecDepth 20000 in
theorem fX4_init_19 : zF MX4_init 19 3 2 := ⟨(RX4, TX4, 10), rfl, by decide, iX4_init_X4, Or.inl (by decide +kernel)⟩
theorem ft_3_2 : zFt 3 2 true (.array .int) := ⟨(RX4, TX4, 10), rfl, rfl, by decide +kernel⟩
set_option maxRecDepth 20000 in
theorem fX4_init_23 : zF MX4_init 23 3 3 := ⟨(RX4, TX4, 10), rfl, by decide, iX4_init_X4, Or.inl (by decide +kernel)⟩
theorem ft_3_3 : zFt 3 3 true (.array .int) := ⟨(RX4, TX4, 10), rfl, rfl, by decide +kernel⟩
set_option maxRecDepth 20000 in
theorem fX4_init_26 : zF MX4_init 26 3 4 := ⟨(RX4, TX4, 10), rfl, by decide, iX4_init_X4, Or.inl (by decide +kernel)⟩
theorem ft_3_4 : zFt 3 4 false (.int) := ⟨(RX4, TX4, 10), rfl, rfl, by decide +kernel⟩
set_option maxRecDepth 20000 in
theorem fX4_init_30 : zF MX4_init 30 3 5 := ⟨(RX4, TX4, 10), rfl, by decide, iX4_init_X4, Or.inl (by decide +kernel)⟩
theorem ft_3_5 : zFt 3 5 false (.int) := ⟨(RX4, TX4, 10), rfl, rfl, by decide +kernel⟩
set_option maxRecDepth 20000 in
theorem iX4_books_X4 : ∀ w ∈ u_ws RX4 TX4 10, w ∈ wsX4_books := by decide +kernel
set_option maxRecDepth 20000 in
theorem fX4_books_33 : zF MX4_books 33 3 8 := ⟨(RX4, TX4, 10), rfl, by decide, iX4_books_X4, Or.inl (by decide +kernel)⟩
set_option maxRecDepth 20000 in
theorem iX4_wordsEach_X4 : ∀ w ∈ u_ws RX4 TX4 10, w ∈ wsX4_wordsEach := by decide +kernel
set_option maxRecDepth 20000 in
theorem fX4_wordsEach_36 : zF MX4_wordsEach 36 3 7 := ⟨(RX4, TX4, 10), rfl, by decide, iX4_wordsEach_X4, Or.inl (by decide +kernel)⟩
set_option maxRecDepth 20000 in
theorem iX4_kinds_X4 : ∀ w ∈ u_ws RX4 TX4 10, w ∈ wsX4_kinds := by decide +kernel
set_option maxRecDepth 20000 in
theorem fX4_kinds_39 : zF MX4_kinds 39 3 9 := ⟨(RX4, TX4, 10), rfl, by decide, iX4_kinds_X4, Or.inl (by decide +kernel)⟩
set_option maxRecDepth 20000 in
theorem iX4_wordOf_X4 : ∀ w ∈ u_ws RX4 TX4 10, w ∈ wsX4_wordOf := by decide +kernel
set_option maxRecDepth 20000 in
theorem fX4_wordOf_33 : zF MX4_wordOf 33 3 8 := ⟨(RX4, TX4, 10), rfl, by decide, iX4_wordOf_X4, Or.inl (by decide +kernel)⟩
set_option maxRecDepth 20000 in
theorem fX4_wordOf_42 : zF MX4_wordOf 42 3 6 := ⟨(RX4, TX4, 10), rfl, by decide, iX4_wordOf_X4, Or.inl (by decide +kernel)⟩
set_option maxRecDepth 20000 in
theorem fX4_wordOf_23 : zF MX4_wordOf 23 3 3 := ⟨(RX4, TX4, 10), rfl, by decide, iX4_wordOf_X4, Or.inl (by decide +kernel)⟩
set_option maxRecDepth 20000 in
theorem fX4_wordOf_19 : zF MX4_wordOf 19 3 2 := ⟨(RX4, TX4, 10), rfl, by decide, iX4_wordOf_X4, Or.inl (by decide +kernel)⟩
set_option maxRecDepth 20000 in
theorem iX4_find_X4 : ∀ w ∈ u_ws RX4 TX4 10, w ∈ wsX4_find := by decide +kernel
set_option maxRecDepth 20000 in
theorem fX4_find_26 : zF MX4_find 26 3 4 := ⟨(RX4, TX4, 10), rfl, by decide, iX4_find_X4, Or.inl (by decide +kernel)⟩
set_option maxRecDepth 20000 in
theorem fX4_find_9 : zF MX4_find 9 3 0 := ⟨(RX4, TX4, 10), rfl, by decide, iX4_find_X4, Or.inl (by decide +kernel)⟩
set_option maxRecDepth 20000 in
theorem iX4_find_X0 : ∀ w ∈ u_ws RX0 TX0 4, w ∈ wsX4_find := by decide +kernel
set_option maxRecDepth 20000 in
theorem fX4_find_51 : zF MX4_find 51 0 1 := ⟨(RX0, TX0, 4), rfl, by decide, iX4_find_X0, Or.inr (by decide +kernel)⟩
set_option maxRecDepth 20000 in
theorem fX4_find_30 : zF MX4_find 30 3 5 := ⟨(RX4, TX4, 10), rfl, by decide, iX4_find_X4, Or.inl (by decide +kernel)⟩
set_option maxRecDepth 20000 in
theorem fX4_find_56 : zF MX4_find 56 0 2 := ⟨(RX0, TX0, 4), rfl, by decide, iX4_find_X0, Or.inr (by decide +kernel)⟩
set_option maxRecDepth 20000 in
theorem fX4_find_36 : zF MX4_find 36 3 7 := ⟨(RX4, TX4, 10), rfl, by decide, iX4_find_X4, Or.inl (by decide +kernel)⟩
theorem ft_3_7 : zFt 3 7 false (.int) := ⟨(RX4, TX4, 10), rfl, rfl, by decide +kernel⟩
set_option maxRecDepth 20000 in
theorem fX4_find_33 : zF MX4_find 33 3 8 := ⟨(RX4, TX4, 10), rfl, by decide, iX4_find_X4, Or.inl (by decide +kernel)⟩
theorem ft_3_8 : zFt 3 8 false (.int) := ⟨(RX4, TX4, 10), rfl, rfl, by decide +kernel⟩
set_option maxRecDepth 20000 in
theorem fX4_find_15 : zF MX4_find 15 3 1 := ⟨(RX4, TX4, 10), rfl, by decide, iX4_find_X4, Or.inl (by decide +kernel)⟩
set_option maxRecDepth 20000 in
theorem fX4_find_39 : zF MX4_find 39 3 9 := ⟨(RX4, TX4, 10), rfl, by decide, iX4_find_X4, Or.inl (by decide +kernel)⟩
theorem ft_3_9 : zFt 3 9 false (.int) := ⟨(RX4, TX4, 10), rfl, rfl, by decide +kernel⟩
set_option maxRecDepth 20000 in
theorem fX4_find_23 : zF MX4_find 23 3 3 := ⟨(RX4, TX4, 10), rfl, by decide, iX4_find_X4, Or.inl (by decide +kernel)⟩
set_option maxRecDepth 20000 in
theorem iX4_numberRings_X4 : ∀ w ∈ u_ws RX4 TX4 10, w ∈ wsX4_numberRings := by decide +kernel
set_option maxRecDepth 20000 in
theorem fX4_numberRings_9 : zF MX4_numberRings 9 3 0 := ⟨(RX4, TX4, 10), rfl, by decide, iX4_numberRings_X4, Or.inl (by decide +kernel)⟩
set_option maxRecDepth 20000 in
theorem iX4_numberRings_X0 : ∀ w ∈ u_ws RX0 TX0 4, w ∈ wsX4_numberRings := by decide +kernel
set_option maxRecDepth 20000 in
theorem fX4_numberRings_75 : zF MX4_numberRings 75 0 3 := ⟨(RX0, TX0, 4), rfl, by decide, iX4_numberRings_X0, Or.inr (by decide +kernel)⟩
set_option maxRecDepth 20000 in
theorem fX4_numberRings_42 : zF MX4_numberRings 42 3 6 := ⟨(RX4, TX4, 10), rfl, by decide, iX4_numberRings_X4, Or.inl (by decide +kernel)⟩
theorem ft_3_6 : zFt 3 6 false (.int) := ⟨(RX4, TX4, 10), rfl, rfl, by decide +kernel⟩
set_option maxRecDepth 20000 in
theorem fX4_numberRings_19 : zF MX4_numberRings 19 3 2 := ⟨(RX4, TX4, 10), rfl, by decide, iX4_numberRings_X4, Or.inl (by decide +kernel)⟩
set_option maxRecDepth 20000 in
theorem iX4_seek_X4 : ∀ w ∈ u_ws RX4 TX4 10, w ∈ wsX4_seek := by decide +kernel
set_option maxRecDepth 20000 in
theorem fX4_seek_15 : zF MX4_seek 15 3 1 := ⟨(RX4, TX4, 10), rfl, by decide, iX4_seek_X4, Or.inl (by decide +kernel)⟩
set_option maxRecDepth 20000 in
theorem fX4_seek_42 : zF MX4_seek 42 3 6 := ⟨(RX4, TX4, 10), rfl, by decide, iX4_seek_X4, Or.inl (by decide +kernel)⟩
set_option maxRecDepth 20000 in
theorem fX4_seek_36 : zF MX4_seek 36 3 7 := ⟨(RX4, TX4, 10), rfl, by decide, iX4_seek_X4, Or.inl (by decide +kernel)⟩
set_option maxRecDepth 20000 in
theorem fX4_seek_19 : zF MX4_seek 19 3 2 := ⟨(RX4, TX4, 10), rfl, by decide, iX4_seek_X4, Or.inl (by decide +kernel)⟩
set_option maxRecDepth 20000 in
theorem iX4_note_X4 : ∀ w ∈ u_ws RX4 TX4 10, w ∈ wsX4_note := by decide +kernel
set_option maxRecDepth 20000 in
theorem fX4_note_15 : zF MX4_note 15 3 1 := ⟨(RX4, TX4, 10), rfl, by decide, iX4_note_X4, Or.inl (by decide +kernel)⟩
set_option maxRecDepth 20000 in
theorem fX4_note_36 : zF MX4_note 36 3 7 := ⟨(RX4, TX4, 10), rfl, by decide, iX4_note_X4, Or.inl (by decide +kernel)⟩
set_option maxRecDepth 20000 in
theorem fX4_note_33 : zF MX4_note 33 3 8 := ⟨(RX4, TX4, 10), rfl, by decide, iX4_note_X4, Or.inl (by decide +kernel)⟩
set_option maxRecDepth 20000 in
theorem fX4_note_23 : zF MX4_note 23 3 3 := ⟨(RX4, TX4, 10), rfl, by decide, iX4_note_X4, Or.inl (by decide +kernel)⟩
set_option maxRecDepth 20000 in
theorem iX4_isLeastOfItsKind_X4 : ∀ w ∈ u_ws RX4 TX4 10, w ∈ wsX4_isLeastOfItsKind := by decide +kernel
set_option maxRecDepth 20000 in
theorem fX4_isLeastOfItsKind_9 : zF MX4_isLeastOfItsKind 9 3 0 := ⟨(RX4, TX4, 10), rfl, by decide, iX4_isLeastOfItsKind_X4, Or.inl (by decide +kernel)⟩
set_option maxRecDepth 20000 in
theorem iX4_exchangedBits_X4 : ∀ w ∈ u_ws RX4 TX4 10, w ∈ wsX4_exchangedBits := by decide +kernel
set_option maxRecDepth 20000 in
theorem fX4_exchangedBits_9 : zF MX4_exchangedBits 9 3 0 := ⟨(RX4, TX4, 10), rfl, by decide, iX4_exchangedBits_X4, Or.inl (by decide +kernel)⟩
set_option maxRecDepth 20000 in
theorem iX5_init_X5 : ∀ w ∈ u_ws RX5 TX5 2, w ∈ wsX5_init := by decide +kernel
set_option maxRecDepth 20000 in
theorem fX5_init_9 : zF MX5_init 9 4 0 := ⟨(RX5, TX5, 2), rfl, by decide, iX5_init_X5, Or.inl (by decide +kernel)⟩
theorem ft_4_0 : zFt 4 0 true (.array .int) := ⟨(RX5, TX5, 2), rfl, rfl, by decide +kernel⟩
set_option maxRecDepth 20000 in
theorem fX5_init_13 : zF MX5_init 13 4 1 := ⟨(RX5, TX5, 2), rfl, by decide, iX5_init_X5, Or.inl (by decide +kernel)⟩
theorem ft_4_1 : zFt 4 1 true (.array .int) := ⟨(RX5, TX5, 2), rfl, rfl, by decide +kernel⟩
set_option maxRecDepth 20000 in
theorem iX5_length_X5 : ∀ w ∈ u_ws RX5 TX5 2, w ∈ wsX5_length := by decide +kernel
set_option maxRecDepth 20000 in
theorem fX5_length_9 : zF MX5_length 9 4 0 := ⟨(RX5, TX5, 2), rfl, by decide, iX5_length_X5, Or.inl (by decide +kernel)⟩
set_option maxRecDepth 20000 in
theorem iX5_at_X5 : ∀ w ∈ u_ws RX5 TX5 2, w ∈ wsX5_at := by decide +kernel
set_option maxRecDepth 20000 in
theorem fX5_at_13 : zF MX5_at 13 4 1 := ⟨(RX5, TX5, 2), rfl, by decide, iX5_at_X5, Or.inl (by decide +kernel)⟩
set_option maxRecDepth 20000 in
theorem iX5_set_X5 : ∀ w ∈ u_ws RX5 TX5 2, w ∈ wsX5_set := by decide +kernel
set_option maxRecDepth 20000 in
theorem fX5_set_13 : zF MX5_set 13 4 1 := ⟨(RX5, TX5, 2), rfl, by decide, iX5_set_X5, Or.inl (by decide +kernel)⟩
set_option maxRecDepth 20000 in
theorem iX5_become_X5 : ∀ w ∈ u_ws RX5 TX5 2, w ∈ wsX5_become := by decide +kernel
set_option maxRecDepth 20000 in
theorem fX5_become_9 : zF MX5_become 9 4 0 := ⟨(RX5, TX5, 2), rfl, by decide, iX5_become_X5, Or.inl (by decide +kernel)⟩
set_option maxRecDepth 20000 in
theorem iX6_init_X6 : ∀ w ∈ u_ws RX6 TX6 2, w ∈ wsX6_init := by decide +kernel
set_option maxRecDepth 20000 in
theorem fX6_init_11 : zF MX6_init 11 5 0 := ⟨(RX6, TX6, 2), rfl, by decide, iX6_init_X6, Or.inl (by decide +kernel)⟩
theorem ft_5_0 : zFt 5 0 true (.array .int) := ⟨(RX6, TX6, 2), rfl, rfl, by decide +kernel⟩
set_option maxRecDepth 20000 in
theorem fX6_init_15 : zF MX6_init 15 5 1 := ⟨(RX6, TX6, 2), rfl, by decide, iX6_init_X6, Or.inl (by decide +kernel)⟩
theorem ft_5_1 : zFt 5 1 false (.int) := ⟨(RX6, TX6, 2), rfl, rfl, by decide +kernel⟩
set_option maxRecDepth 20000 in
theorem iX6_total_X6 : ∀ w ∈ u_ws RX6 TX6 2, w ∈ wsX6_total := by decide +kernel
set_option maxRecDepth 20000 in
theorem fX6_total_15 : zF MX6_total 15 5 1 := ⟨(RX6, TX6, 2), rfl, by decide, iX6_total_X6, Or.inl (by decide +kernel)⟩
set_option maxRecDepth 20000 in
theorem iX6_byteAt_X6 : ∀ w ∈ u_ws RX6 TX6 2, w ∈ wsX6_byteAt := by decide +kernel
set_option maxRecDepth 20000 in
theorem fX6_byteAt_15 : zF MX6_byteAt 15 5 1 := ⟨(RX6, TX6, 2), rfl, by decide, iX6_byteAt_X6, Or.inl (by decide +kernel)⟩
set_option maxRecDepth 20000 in
theorem fX6_byteAt_11 : zF MX6_byteAt 11 5 0 := ⟨(RX6, TX6, 2), rfl, by decide, iX6_byteAt_X6, Or.inl (by decide +kernel)⟩
set_option maxRecDepth 20000 in
theorem iX6_become_X6 : ∀ w ∈ u_ws RX6 TX6 2, w ∈ wsX6_become := by decide +kernel
set_option maxRecDepth 20000 in
theorem fX6_become_15 : zF MX6_become 15 5 1 := ⟨(RX6, TX6, 2), rfl, by decide, iX6_become_X6, Or.inl (by decide +kernel)⟩
set_option maxRecDepth 20000 in
theorem iX6_become_X1 : ∀ w ∈ u_ws RX1 TX1 7, w ∈ wsX6_become := by decide +kernel
set_option maxRecDepth 20000 in
theorem fX6_become_35 : zF MX6_become 35 1 0 := ⟨(RX1, TX1, 7), rfl, by decide, iX6_become_X1, Or.inr (by decide +kernel)⟩
set_option maxRecDepth 20000 in
theorem iX6_become_X0 : ∀ w ∈ u_ws RX0 TX0 4, w ∈ wsX6_become := by decide +kernel
set_option maxRecDepth 20000 in
theorem fX6_become_39 : zF MX6_become 39 0 2 := ⟨(RX0, TX0, 4), rfl, by decide, iX6_become_X0, Or.inr (by decide +kernel)⟩
set_option maxRecDepth 20000 in
theorem iX6_append_X6 : ∀ w ∈ u_ws RX6 TX6 2, w ∈ wsX6_append := by decide +kernel
set_option maxRecDepth 20000 in
theorem fX6_append_15 : zF MX6_append 15 5 1 := ⟨(RX6, TX6, 2), rfl, by decide, iX6_append_X6, Or.inl (by decide +kernel)⟩
set_option maxRecDepth 20000 in
theorem fX6_append_11 : zF MX6_append 11 5 0 := ⟨(RX6, TX6, 2), rfl, by decide, iX6_append_X6, Or.inl (by decide +kernel)⟩
set_option maxRecDepth 20000 in
theorem iX7_init_X7 : ∀ w ∈ u_ws RX7 TX7 4, w ∈ wsX7_init := by decide +kernel
set_option maxRecDepth 20000 in
theorem fX7_init_7 : zF MX7_init 7 6 0 := ⟨(RX7, TX7, 4), rfl, by decide, iX7_init_X7, Or.inl (by decide +kernel)⟩
theorem ft_6_0 : zFt 6 0 true (.object "CommaFreeBooks$Alphabet") := ⟨(RX7, TX7, 4), rfl, rfl, by decide +kernel⟩
set_option maxRecDepth 20000 in
theorem fX7_init_13 : zF MX7_init 13 6 1 := ⟨(RX7, TX7, 4), rfl, by decide, iX7_init_X7, Or.inl (by decide +kernel)⟩
theorem ft_6_1 : zFt 6 1 true (.array .int) := ⟨(RX7, TX7, 4), rfl, rfl, by decide +kernel⟩
set_option maxRecDepth 20000 in
theorem fX7_init_17 : zF MX7_init 17 6 2 := ⟨(RX7, TX7, 4), rfl, by decide, iX7_init_X7, Or.inl (by decide +kernel)⟩
theorem ft_6_2 : zFt 6 2 true (.array .int) := ⟨(RX7, TX7, 4), rfl, rfl, by decide +kernel⟩
set_option maxRecDepth 20000 in
theorem fX7_init_20 : zF MX7_init 20 6 3 := ⟨(RX7, TX7, 4), rfl, by decide, iX7_init_X7, Or.inl (by decide +kernel)⟩
theorem ft_6_3 : zFt 6 3 false (.int) := ⟨(RX7, TX7, 4), rfl, rfl, by decide +kernel⟩
set_option maxRecDepth 20000 in
theorem iX7_total_X7 : ∀ w ∈ u_ws RX7 TX7 4, w ∈ wsX7_total := by decide +kernel
set_option maxRecDepth 20000 in
theorem fX7_total_20 : zF MX7_total 20 6 3 := ⟨(RX7, TX7, 4), rfl, by decide, iX7_total_X7, Or.inl (by decide +kernel)⟩
set_option maxRecDepth 20000 in
theorem iX7_empty_X7 : ∀ w ∈ u_ws RX7 TX7 4, w ∈ wsX7_empty := by decide +kernel
set_option maxRecDepth 20000 in
theorem fX7_empty_20 : zF MX7_empty 20 6 3 := ⟨(RX7, TX7, 4), rfl, by decide, iX7_empty_X7, Or.inl (by decide +kernel)⟩
set_option maxRecDepth 20000 in
theorem iX7_copyFrom_X7 : ∀ w ∈ u_ws RX7 TX7 4, w ∈ wsX7_copyFrom := by decide +kernel
set_option maxRecDepth 20000 in
theorem fX7_copyFrom_20 : zF MX7_copyFrom 20 6 3 := ⟨(RX7, TX7, 4), rfl, by decide, iX7_copyFrom_X7, Or.inl (by decide +kernel)⟩
set_option maxRecDepth 20000 in
theorem fX7_copyFrom_13 : zF MX7_copyFrom 13 6 1 := ⟨(RX7, TX7, 4), rfl, by decide, iX7_copyFrom_X7, Or.inl (by decide +kernel)⟩
set_option maxRecDepth 20000 in
theorem fX7_copyFrom_17 : zF MX7_copyFrom 17 6 2 := ⟨(RX7, TX7, 4), rfl, by decide, iX7_copyFrom_X7, Or.inl (by decide +kernel)⟩
set_option maxRecDepth 20000 in
theorem iX7_append_X7 : ∀ w ∈ u_ws RX7 TX7 4, w ∈ wsX7_append := by decide +kernel
set_option maxRecDepth 20000 in
theorem fX7_append_20 : zF MX7_append 20 6 3 := ⟨(RX7, TX7, 4), rfl, by decide, iX7_append_X7, Or.inl (by decide +kernel)⟩
set_option maxRecDepth 20000 in
theorem fX7_append_13 : zF MX7_append 13 6 1 := ⟨(RX7, TX7, 4), rfl, by decide, iX7_append_X7, Or.inl (by decide +kernel)⟩
set_option maxRecDepth 20000 in
theorem fX7_append_17 : zF MX7_append 17 6 2 := ⟨(RX7, TX7, 4), rfl, by decide, iX7_append_X7, Or.inl (by decide +kernel)⟩
set_option maxRecDepth 20000 in
theorem iX7_doneTo_X7 : ∀ w ∈ u_ws RX7 TX7 4, w ∈ wsX7_doneTo := by decide +kernel
set_option maxRecDepth 20000 in
theorem fX7_doneTo_20 : zF MX7_doneTo 20 6 3 := ⟨(RX7, TX7, 4), rfl, by decide, iX7_doneTo_X7, Or.inl (by decide +kernel)⟩
set_option maxRecDepth 20000 in
theorem fX7_doneTo_13 : zF MX7_doneTo 13 6 1 := ⟨(RX7, TX7, 4), rfl, by decide, iX7_doneTo_X7, Or.inl (by decide +kernel)⟩
set_option maxRecDepth 20000 in
theorem fX7_doneTo_17 : zF MX7_doneTo 17 6 2 := ⟨(RX7, TX7, 4), rfl, by decide, iX7_doneTo_X7, Or.inl (by decide +kernel)⟩
set_option maxRecDepth 20000 in
theorem iX7_doRow_X7 : ∀ w ∈ u_ws RX7 TX7 4, w ∈ wsX7_doRow := by decide +kernel
set_option maxRecDepth 20000 in
theorem fX7_doRow_7 : zF MX7_doRow 7 6 0 := ⟨(RX7, TX7, 4), rfl, by decide, iX7_doRow_X7, Or.inl (by decide +kernel)⟩
set_option maxRecDepth 20000 in
theorem mmX8_commonDivisor_7 : zMmax MX8_commonDivisor 7 := by unfold zMmax; decide +kernel
set_option maxRecDepth 20000 in
theorem iX9_init_X9 : ∀ w ∈ u_ws RX9 TX9 4, w ∈ wsX9_init := by decide +kernel
set_option maxRecDepth 20000 in
theorem fX9_init_9 : zF MX9_init 9 7 0 := ⟨(RX9, TX9, 4), rfl, by decide, iX9_init_X9, Or.inl (by decide +kernel)⟩
theorem ft_7_0 : zFt 7 0 true (.object "CommaFreeBooks$Alphabet") := ⟨(RX9, TX9, 4), rfl, rfl, by decide +kernel⟩
set_option maxRecDepth 20000 in
theorem fX9_init_15 : zF MX9_init 15 7 1 := ⟨(RX9, TX9, 4), rfl, by decide, iX9_init_X9, Or.inl (by decide +kernel)⟩
theorem ft_7_1 : zFt 7 1 true (.array .int) := ⟨(RX9, TX9, 4), rfl, rfl, by decide +kernel⟩
set_option maxRecDepth 20000 in
theorem fX9_init_19 : zF MX9_init 19 7 2 := ⟨(RX9, TX9, 4), rfl, by decide, iX9_init_X9, Or.inl (by decide +kernel)⟩
theorem ft_7_2 : zFt 7 2 true (.array .int) := ⟨(RX9, TX9, 4), rfl, rfl, by decide +kernel⟩
set_option maxRecDepth 20000 in
theorem fX9_init_22 : zF MX9_init 22 7 3 := ⟨(RX9, TX9, 4), rfl, by decide, iX9_init_X9, Or.inl (by decide +kernel)⟩
theorem ft_7_3 : zFt 7 3 false (.int) := ⟨(RX9, TX9, 4), rfl, rfl, by decide +kernel⟩
set_option maxRecDepth 20000 in
theorem iX9_total_X9 : ∀ w ∈ u_ws RX9 TX9 4, w ∈ wsX9_total := by decide +kernel
set_option maxRecDepth 20000 in
theorem fX9_total_22 : zF MX9_total 22 7 3 := ⟨(RX9, TX9, 4), rfl, by decide, iX9_total_X9, Or.inl (by decide +kernel)⟩
set_option maxRecDepth 20000 in
theorem iX9_room_X9 : ∀ w ∈ u_ws RX9 TX9 4, w ∈ wsX9_room := by decide +kernel
set_option maxRecDepth 20000 in
theorem fX9_room_22 : zF MX9_room 22 7 3 := ⟨(RX9, TX9, 4), rfl, by decide, iX9_room_X9, Or.inl (by decide +kernel)⟩
set_option maxRecDepth 20000 in
theorem iX9_empty_X9 : ∀ w ∈ u_ws RX9 TX9 4, w ∈ wsX9_empty := by decide +kernel
set_option maxRecDepth 20000 in
theorem fX9_empty_22 : zF MX9_empty 22 7 3 := ⟨(RX9, TX9, 4), rfl, by decide, iX9_empty_X9, Or.inl (by decide +kernel)⟩
set_option maxRecDepth 20000 in
theorem iX9_copyFrom_X9 : ∀ w ∈ u_ws RX9 TX9 4, w ∈ wsX9_copyFrom := by decide +kernel
set_option maxRecDepth 20000 in
theorem fX9_copyFrom_22 : zF MX9_copyFrom 22 7 3 := ⟨(RX9, TX9, 4), rfl, by decide, iX9_copyFrom_X9, Or.inl (by decide +kernel)⟩
set_option maxRecDepth 20000 in
theorem fX9_copyFrom_15 : zF MX9_copyFrom 15 7 1 := ⟨(RX9, TX9, 4), rfl, by decide, iX9_copyFrom_X9, Or.inl (by decide +kernel)⟩
set_option maxRecDepth 20000 in
theorem iX9_append_X9 : ∀ w ∈ u_ws RX9 TX9 4, w ∈ wsX9_append := by decide +kernel
set_option maxRecDepth 20000 in
theorem fX9_append_15 : zF MX9_append 15 7 1 := ⟨(RX9, TX9, 4), rfl, by decide, iX9_append_X9, Or.inl (by decide +kernel)⟩
set_option maxRecDepth 20000 in
theorem fX9_append_22 : zF MX9_append 22 7 3 := ⟨(RX9, TX9, 4), rfl, by decide, iX9_append_X9, Or.inl (by decide +kernel)⟩
set_option maxRecDepth 20000 in
theorem iX9_cutAhead_X9 : ∀ w ∈ u_ws RX9 TX9 4, w ∈ wsX9_cutAhead := by decide +kernel
set_option maxRecDepth 20000 in
theorem fX9_cutAhead_22 : zF MX9_cutAhead 22 7 3 := ⟨(RX9, TX9, 4), rfl, by decide, iX9_cutAhead_X9, Or.inl (by decide +kernel)⟩
set_option maxRecDepth 20000 in
theorem fX9_cutAhead_15 : zF MX9_cutAhead 15 7 1 := ⟨(RX9, TX9, 4), rfl, by decide, iX9_cutAhead_X9, Or.inl (by decide +kernel)⟩
set_option maxRecDepth 20000 in
theorem iX9_measure_X9 : ∀ w ∈ u_ws RX9 TX9 4, w ∈ wsX9_measure := by decide +kernel
set_option maxRecDepth 20000 in
theorem fX9_measure_9 : zF MX9_measure 9 7 0 := ⟨(RX9, TX9, 4), rfl, by decide, iX9_measure_X9, Or.inl (by decide +kernel)⟩
set_option maxRecDepth 20000 in
theorem iX9_measure_X0 : ∀ w ∈ u_ws RX0 TX0 4, w ∈ wsX9_measure := by decide +kernel
set_option maxRecDepth 20000 in
theorem fX9_measure_44 : zF MX9_measure 44 0 2 := ⟨(RX0, TX0, 4), rfl, by decide, iX9_measure_X0, Or.inr (by decide +kernel)⟩
set_option maxRecDepth 20000 in
theorem fX9_measure_19 : zF MX9_measure 19 7 2 := ⟨(RX9, TX9, 4), rfl, by decide, iX9_measure_X9, Or.inl (by decide +kernel)⟩
set_option maxRecDepth 20000 in
theorem iX9_reach_X9 : ∀ w ∈ u_ws RX9 TX9 4, w ∈ wsX9_reach := by decide +kernel
set_option maxRecDepth 20000 in
theorem fX9_reach_9 : zF MX9_reach 9 7 0 := ⟨(RX9, TX9, 4), rfl, by decide, iX9_reach_X9, Or.inl (by decide +kernel)⟩
set_option maxRecDepth 20000 in
theorem iX9_reach_X0 : ∀ w ∈ u_ws RX0 TX0 4, w ∈ wsX9_reach := by decide +kernel
set_option maxRecDepth 20000 in
theorem fX9_reach_44 : zF MX9_reach 44 0 2 := ⟨(RX0, TX0, 4), rfl, by decide, iX9_reach_X0, Or.inr (by decide +kernel)⟩
set_option maxRecDepth 20000 in
theorem fX9_reach_22 : zF MX9_reach 22 7 3 := ⟨(RX9, TX9, 4), rfl, by decide, iX9_reach_X9, Or.inl (by decide +kernel)⟩
set_option maxRecDepth 20000 in
theorem fX9_reach_53 : zF MX9_reach 53 0 1 := ⟨(RX0, TX0, 4), rfl, by decide, iX9_reach_X0, Or.inr (by decide +kernel)⟩
set_option maxRecDepth 20000 in
theorem fX9_reach_15 : zF MX9_reach 15 7 1 := ⟨(RX9, TX9, 4), rfl, by decide, iX9_reach_X9, Or.inl (by decide +kernel)⟩
set_option maxRecDepth 20000 in
theorem iX9_offsets_X9 : ∀ w ∈ u_ws RX9 TX9 4, w ∈ wsX9_offsets := by decide +kernel
set_option maxRecDepth 20000 in
theorem fX9_offsets_9 : zF MX9_offsets 9 7 0 := ⟨(RX9, TX9, 4), rfl, by decide, iX9_offsets_X9, Or.inl (by decide +kernel)⟩
set_option maxRecDepth 20000 in
theorem iX9_offsets_X0 : ∀ w ∈ u_ws RX0 TX0 4, w ∈ wsX9_offsets := by decide +kernel
set_option maxRecDepth 20000 in
theorem fX9_offsets_44 : zF MX9_offsets 44 0 2 := ⟨(RX0, TX0, 4), rfl, by decide, iX9_offsets_X0, Or.inr (by decide +kernel)⟩
set_option maxRecDepth 20000 in
theorem fX9_offsets_19 : zF MX9_offsets 19 7 2 := ⟨(RX9, TX9, 4), rfl, by decide, iX9_offsets_X9, Or.inl (by decide +kernel)⟩
set_option maxRecDepth 20000 in
theorem iX9_firstCertain_X9 : ∀ w ∈ u_ws RX9 TX9 4, w ∈ wsX9_firstCertain := by decide +kernel
set_option maxRecDepth 20000 in
theorem fX9_firstCertain_22 : zF MX9_firstCertain 22 7 3 := ⟨(RX9, TX9, 4), rfl, by decide, iX9_firstCertain_X9, Or.inl (by decide +kernel)⟩
set_option maxRecDepth 20000 in
theorem fX9_firstCertain_9 : zF MX9_firstCertain 9 7 0 := ⟨(RX9, TX9, 4), rfl, by decide, iX9_firstCertain_X9, Or.inl (by decide +kernel)⟩
set_option maxRecDepth 20000 in
theorem iX9_firstCertain_X0 : ∀ w ∈ u_ws RX0 TX0 4, w ∈ wsX9_firstCertain := by decide +kernel
set_option maxRecDepth 20000 in
theorem fX9_firstCertain_44 : zF MX9_firstCertain 44 0 2 := ⟨(RX0, TX0, 4), rfl, by decide, iX9_firstCertain_X0, Or.inr (by decide +kernel)⟩
set_option maxRecDepth 20000 in
theorem iX10_init_X10 : ∀ w ∈ u_ws RX10 TX10 4, w ∈ wsX10_init := by decide +kernel
set_option maxRecDepth 20000 in
theorem fX10_init_11 : zF MX10_init 11 8 0 := ⟨(RX10, TX10, 4), rfl, by decide, iX10_init_X10, Or.inl (by decide +kernel)⟩
theorem ft_8_0 : zFt 8 0 true (.array .int) := ⟨(RX10, TX10, 4), rfl, rfl, by decide +kernel⟩
set_option maxRecDepth 20000 in
theorem fX10_init_15 : zF MX10_init 15 8 1 := ⟨(RX10, TX10, 4), rfl, by decide, iX10_init_X10, Or.inl (by decide +kernel)⟩
theorem ft_8_1 : zFt 8 1 true (.array .int) := ⟨(RX10, TX10, 4), rfl, rfl, by decide +kernel⟩
set_option maxRecDepth 20000 in
theorem fX10_init_18 : zF MX10_init 18 8 2 := ⟨(RX10, TX10, 4), rfl, by decide, iX10_init_X10, Or.inl (by decide +kernel)⟩
theorem ft_8_2 : zFt 8 2 false (.boolean) := ⟨(RX10, TX10, 4), rfl, rfl, by decide +kernel⟩
set_option maxRecDepth 20000 in
theorem fX10_init_22 : zF MX10_init 22 8 3 := ⟨(RX10, TX10, 4), rfl, by decide, iX10_init_X10, Or.inl (by decide +kernel)⟩
theorem ft_8_3 : zFt 8 3 false (.int) := ⟨(RX10, TX10, 4), rfl, rfl, by decide +kernel⟩
set_option maxRecDepth 20000 in
theorem iX10_total_X10 : ∀ w ∈ u_ws RX10 TX10 4, w ∈ wsX10_total := by decide +kernel
set_option maxRecDepth 20000 in
theorem fX10_total_22 : zF MX10_total 22 8 3 := ⟨(RX10, TX10, 4), rfl, by decide, iX10_total_X10, Or.inl (by decide +kernel)⟩
set_option maxRecDepth 20000 in
theorem iX10_append_X10 : ∀ w ∈ u_ws RX10 TX10 4, w ∈ wsX10_append := by decide +kernel
set_option maxRecDepth 20000 in
theorem fX10_append_22 : zF MX10_append 22 8 3 := ⟨(RX10, TX10, 4), rfl, by decide, iX10_append_X10, Or.inl (by decide +kernel)⟩
set_option maxRecDepth 20000 in
theorem fX10_append_11 : zF MX10_append 11 8 0 := ⟨(RX10, TX10, 4), rfl, by decide, iX10_append_X10, Or.inl (by decide +kernel)⟩
set_option maxRecDepth 20000 in
theorem iX10_reason_X10 : ∀ w ∈ u_ws RX10 TX10 4, w ∈ wsX10_reason := by decide +kernel
set_option maxRecDepth 20000 in
theorem fX10_reason_18 : zF MX10_reason 18 8 2 := ⟨(RX10, TX10, 4), rfl, by decide, iX10_reason_X10, Or.inl (by decide +kernel)⟩
set_option maxRecDepth 20000 in
theorem fX10_reason_15 : zF MX10_reason 15 8 1 := ⟨(RX10, TX10, 4), rfl, by decide, iX10_reason_X10, Or.inl (by decide +kernel)⟩
set_option maxRecDepth 20000 in
theorem iX10_readInto_X1 : ∀ w ∈ u_ws RX1 TX1 7, w ∈ wsX10_readInto := by decide +kernel
set_option maxRecDepth 20000 in
theorem fX10_readInto_36 : zF MX10_readInto 36 1 0 := ⟨(RX1, TX1, 7), rfl, by decide, iX10_readInto_X1, Or.inr (by decide +kernel)⟩
set_option maxRecDepth 20000 in
theorem iX10_readInto_X10 : ∀ w ∈ u_ws RX10 TX10 4, w ∈ wsX10_readInto := by decide +kernel
set_option maxRecDepth 20000 in
theorem fX10_readInto_22 : zF MX10_readInto 22 8 3 := ⟨(RX10, TX10, 4), rfl, by decide, iX10_readInto_X10, Or.inl (by decide +kernel)⟩
set_option maxRecDepth 20000 in
theorem fX10_readInto_11 : zF MX10_readInto 11 8 0 := ⟨(RX10, TX10, 4), rfl, by decide, iX10_readInto_X10, Or.inl (by decide +kernel)⟩
set_option maxRecDepth 20000 in
theorem iX10_readInto_X0 : ∀ w ∈ u_ws RX0 TX0 4, w ∈ wsX10_readInto := by decide +kernel
set_option maxRecDepth 20000 in
theorem fX10_readInto_45 : zF MX10_readInto 45 0 2 := ⟨(RX0, TX0, 4), rfl, by decide, iX10_readInto_X0, Or.inr (by decide +kernel)⟩
set_option maxRecDepth 20000 in
theorem fX10_readInto_58 : zF MX10_readInto 58 0 1 := ⟨(RX0, TX0, 4), rfl, by decide, iX10_readInto_X0, Or.inr (by decide +kernel)⟩
set_option maxRecDepth 20000 in
theorem iX10_fault_X10 : ∀ w ∈ u_ws RX10 TX10 4, w ∈ wsX10_fault := by decide +kernel
set_option maxRecDepth 20000 in
theorem fX10_fault_18 : zF MX10_fault 18 8 2 := ⟨(RX10, TX10, 4), rfl, by decide, iX10_fault_X10, Or.inl (by decide +kernel)⟩
set_option maxRecDepth 20000 in
theorem fX10_fault_15 : zF MX10_fault 15 8 1 := ⟨(RX10, TX10, 4), rfl, by decide, iX10_fault_X10, Or.inl (by decide +kernel)⟩
set_option maxRecDepth 20000 in
theorem iX11_init_X11 : ∀ w ∈ u_ws RX11 TX11 8, w ∈ wsX11_init := by decide +kernel
set_option maxRecDepth 20000 in
theorem fX11_init_12 : zF MX11_init 12 9 0 := ⟨(RX11, TX11, 8), rfl, by decide, iX11_init_X11, Or.inl (by decide +kernel)⟩
theorem ft_9_0 : zFt 9 0 true (.object "CommaFreeBooks$Desk") := ⟨(RX11, TX11, 8), rfl, rfl, by decide +kernel⟩
set_option maxRecDepth 20000 in
theorem fX11_init_18 : zF MX11_init 18 9 1 := ⟨(RX11, TX11, 8), rfl, by decide, iX11_init_X11, Or.inl (by decide +kernel)⟩
theorem ft_9_1 : zFt 9 1 true (.object "CommaFreeBooks$Desk") := ⟨(RX11, TX11, 8), rfl, rfl, by decide +kernel⟩
set_option maxRecDepth 20000 in
theorem fX11_init_21 : zF MX11_init 21 9 2 := ⟨(RX11, TX11, 8), rfl, by decide, iX11_init_X11, Or.inl (by decide +kernel)⟩
theorem ft_9_2 : zFt 9 2 false (.boolean) := ⟨(RX11, TX11, 8), rfl, rfl, by decide +kernel⟩
set_option maxRecDepth 20000 in
theorem iX11_init_X2 : ∀ w ∈ u_ws RX2 TX2 4, w ∈ wsX11_init := by decide +kernel
set_option maxRecDepth 20000 in
theorem fX11_init_27 : zF MX11_init 27 2 0 := ⟨(RX2, TX2, 4), rfl, by decide, iX11_init_X2, Or.inr (by decide +kernel)⟩
set_option maxRecDepth 20000 in
theorem fX11_init_34 : zF MX11_init 34 9 3 := ⟨(RX11, TX11, 8), rfl, by decide, iX11_init_X11, Or.inl (by decide +kernel)⟩
theorem ft_9_3 : zFt 9 3 true (.object "CommaFreeBooks$Book") := ⟨(RX11, TX11, 8), rfl, rfl, by decide +kernel⟩
set_option maxRecDepth 20000 in
theorem fX11_init_43 : zF MX11_init 43 9 4 := ⟨(RX11, TX11, 8), rfl, by decide, iX11_init_X11, Or.inl (by decide +kernel)⟩
theorem ft_9_4 : zFt 9 4 true (.object "CommaFreeBooks$Greatest") := ⟨(RX11, TX11, 8), rfl, rfl, by decide +kernel⟩
set_option maxRecDepth 20000 in
theorem fX11_init_50 : zF MX11_init 50 9 5 := ⟨(RX11, TX11, 8), rfl, by decide, iX11_init_X11, Or.inl (by decide +kernel)⟩
theorem ft_9_5 : zFt 9 5 true (.object "CommaFreeBooks$Tape") := ⟨(RX11, TX11, 8), rfl, rfl, by decide +kernel⟩
set_option maxRecDepth 20000 in
theorem fX11_init_57 : zF MX11_init 57 9 6 := ⟨(RX11, TX11, 8), rfl, by decide, iX11_init_X11, Or.inl (by decide +kernel)⟩
theorem ft_9_6 : zFt 9 6 true (.object "CommaFreeBooks$Paper") := ⟨(RX11, TX11, 8), rfl, rfl, by decide +kernel⟩
set_option maxRecDepth 20000 in
theorem fX11_init_64 : zF MX11_init 64 9 7 := ⟨(RX11, TX11, 8), rfl, by decide, iX11_init_X11, Or.inl (by decide +kernel)⟩
theorem ft_9_7 : zFt 9 7 true (.object "CommaFreeBooks$Lists") := ⟨(RX11, TX11, 8), rfl, rfl, by decide +kernel⟩
set_option maxRecDepth 20000 in
theorem iX11_size_X11 : ∀ w ∈ u_ws RX11 TX11 8, w ∈ wsX11_size := by decide +kernel
set_option maxRecDepth 20000 in
theorem fX11_size_12 : zF MX11_size 12 9 0 := ⟨(RX11, TX11, 8), rfl, by decide, iX11_size_X11, Or.inl (by decide +kernel)⟩
set_option maxRecDepth 20000 in
theorem iX11_size_X2 : ∀ w ∈ u_ws RX2 TX2 4, w ∈ wsX11_size := by decide +kernel
set_option maxRecDepth 20000 in
theorem fX11_size_27 : zF MX11_size 27 2 0 := ⟨(RX2, TX2, 4), rfl, by decide, iX11_size_X2, Or.inr (by decide +kernel)⟩
set_option maxRecDepth 20000 in
theorem iX11_size_X0 : ∀ w ∈ u_ws RX0 TX0 4, w ∈ wsX11_size := by decide +kernel
set_option maxRecDepth 20000 in
theorem fX11_size_78 : zF MX11_size 78 0 3 := ⟨(RX0, TX0, 4), rfl, by decide, iX11_size_X0, Or.inr (by decide +kernel)⟩
set_option maxRecDepth 20000 in
theorem iX11_add_X11 : ∀ w ∈ u_ws RX11 TX11 8, w ∈ wsX11_add := by decide +kernel
set_option maxRecDepth 20000 in
theorem fX11_add_12 : zF MX11_add 12 9 0 := ⟨(RX11, TX11, 8), rfl, by decide, iX11_add_X11, Or.inl (by decide +kernel)⟩
set_option maxRecDepth 20000 in
theorem iX11_add_X2 : ∀ w ∈ u_ws RX2 TX2 4, w ∈ wsX11_add := by decide +kernel
set_option maxRecDepth 20000 in
theorem fX11_add_27 : zF MX11_add 27 2 0 := ⟨(RX2, TX2, 4), rfl, by decide, iX11_add_X2, Or.inr (by decide +kernel)⟩
set_option maxRecDepth 20000 in
theorem fX11_add_86 : zF MX11_add 86 2 1 := ⟨(RX2, TX2, 4), rfl, by decide, iX11_add_X2, Or.inr (by decide +kernel)⟩
set_option maxRecDepth 20000 in
theorem iX11_drop_X11 : ∀ w ∈ u_ws RX11 TX11 8, w ∈ wsX11_drop := by decide +kernel
set_option maxRecDepth 20000 in
theorem fX11_drop_12 : zF MX11_drop 12 9 0 := ⟨(RX11, TX11, 8), rfl, by decide, iX11_drop_X11, Or.inl (by decide +kernel)⟩
set_option maxRecDepth 20000 in
theorem iX11_drop_X2 : ∀ w ∈ u_ws RX2 TX2 4, w ∈ wsX11_drop := by decide +kernel
set_option maxRecDepth 20000 in
theorem fX11_drop_27 : zF MX11_drop 27 2 0 := ⟨(RX2, TX2, 4), rfl, by decide, iX11_drop_X2, Or.inr (by decide +kernel)⟩
set_option maxRecDepth 20000 in
theorem fX11_drop_86 : zF MX11_drop 86 2 1 := ⟨(RX2, TX2, 4), rfl, by decide, iX11_drop_X2, Or.inr (by decide +kernel)⟩
set_option maxRecDepth 20000 in
theorem iX11_clear_X11 : ∀ w ∈ u_ws RX11 TX11 8, w ∈ wsX11_clear := by decide +kernel
set_option maxRecDepth 20000 in
theorem fX11_clear_12 : zF MX11_clear 12 9 0 := ⟨(RX11, TX11, 8), rfl, by decide, iX11_clear_X11, Or.inl (by decide +kernel)⟩
set_option maxRecDepth 20000 in
theorem iX11_clear_X2 : ∀ w ∈ u_ws RX2 TX2 4, w ∈ wsX11_clear := by decide +kernel
set_option maxRecDepth 20000 in
theorem fX11_clear_86 : zF MX11_clear 86 2 1 := ⟨(RX2, TX2, 4), rfl, by decide, iX11_clear_X2, Or.inr (by decide +kernel)⟩
set_option maxRecDepth 20000 in
theorem iX11_word_X11 : ∀ w ∈ u_ws RX11 TX11 8, w ∈ wsX11_word := by decide +kernel
set_option maxRecDepth 20000 in
theorem fX11_word_12 : zF MX11_word 12 9 0 := ⟨(RX11, TX11, 8), rfl, by decide, iX11_word_X11, Or.inl (by decide +kernel)⟩
set_option maxRecDepth 20000 in
theorem iX11_word_X2 : ∀ w ∈ u_ws RX2 TX2 4, w ∈ wsX11_word := by decide +kernel
set_option maxRecDepth 20000 in
theorem fX11_word_86 : zF MX11_word 86 2 1 := ⟨(RX2, TX2, 4), rfl, by decide, iX11_word_X2, Or.inr (by decide +kernel)⟩
set_option maxRecDepth 20000 in
theorem iX11_letter_X11 : ∀ w ∈ u_ws RX11 TX11 8, w ∈ wsX11_letter := by decide +kernel
set_option maxRecDepth 20000 in
theorem fX11_letter_12 : zF MX11_letter 12 9 0 := ⟨(RX11, TX11, 8), rfl, by decide, iX11_letter_X11, Or.inl (by decide +kernel)⟩
set_option maxRecDepth 20000 in
theorem iX11_letter_X2 : ∀ w ∈ u_ws RX2 TX2 4, w ∈ wsX11_letter := by decide +kernel
set_option maxRecDepth 20000 in
theorem fX11_letter_27 : zF MX11_letter 27 2 0 := ⟨(RX2, TX2, 4), rfl, by decide, iX11_letter_X2, Or.inr (by decide +kernel)⟩
set_option maxRecDepth 20000 in
theorem iX11_letter_X0 : ∀ w ∈ u_ws RX0 TX0 4, w ∈ wsX11_letter := by decide +kernel
set_option maxRecDepth 20000 in
theorem fX11_letter_109 : zF MX11_letter 109 0 2 := ⟨(RX0, TX0, 4), rfl, by decide, iX11_letter_X0, Or.inr (by decide +kernel)⟩
set_option maxRecDepth 20000 in
theorem iX11_hides_X11 : ∀ w ∈ u_ws RX11 TX11 8, w ∈ wsX11_hides := by decide +kernel
set_option maxRecDepth 20000 in
theorem fX11_hides_12 : zF MX11_hides 12 9 0 := ⟨(RX11, TX11, 8), rfl, by decide, iX11_hides_X11, Or.inl (by decide +kernel)⟩
set_option maxRecDepth 20000 in
theorem iX11_hides_X2 : ∀ w ∈ u_ws RX2 TX2 4, w ∈ wsX11_hides := by decide +kernel
set_option maxRecDepth 20000 in
theorem fX11_hides_27 : zF MX11_hides 27 2 0 := ⟨(RX2, TX2, 4), rfl, by decide, iX11_hides_X2, Or.inr (by decide +kernel)⟩
set_option maxRecDepth 20000 in
theorem iX11_hides_X0 : ∀ w ∈ u_ws RX0 TX0 4, w ∈ wsX11_hides := by decide +kernel
set_option maxRecDepth 20000 in
theorem fX11_hides_109 : zF MX11_hides 109 0 2 := ⟨(RX0, TX0, 4), rfl, by decide, iX11_hides_X0, Or.inr (by decide +kernel)⟩
set_option maxRecDepth 20000 in
theorem iX11_clash_X11 : ∀ w ∈ u_ws RX11 TX11 8, w ∈ wsX11_clash := by decide +kernel
set_option maxRecDepth 20000 in
theorem fX11_clash_12 : zF MX11_clash 12 9 0 := ⟨(RX11, TX11, 8), rfl, by decide, iX11_clash_X11, Or.inl (by decide +kernel)⟩
set_option maxRecDepth 20000 in
theorem iX11_clash_X2 : ∀ w ∈ u_ws RX2 TX2 4, w ∈ wsX11_clash := by decide +kernel
set_option maxRecDepth 20000 in
theorem fX11_clash_86 : zF MX11_clash 86 2 1 := ⟨(RX2, TX2, 4), rfl, by decide, iX11_clash_X2, Or.inr (by decide +kernel)⟩
set_option maxRecDepth 20000 in
theorem iX11_may_X11 : ∀ w ∈ u_ws RX11 TX11 8, w ∈ wsX11_may := by decide +kernel
set_option maxRecDepth 20000 in
theorem fX11_may_12 : zF MX11_may 12 9 0 := ⟨(RX11, TX11, 8), rfl, by decide, iX11_may_X11, Or.inl (by decide +kernel)⟩
set_option maxRecDepth 20000 in
theorem iX11_may_X2 : ∀ w ∈ u_ws RX2 TX2 4, w ∈ wsX11_may := by decide +kernel
set_option maxRecDepth 20000 in
theorem fX11_may_27 : zF MX11_may 27 2 0 := ⟨(RX2, TX2, 4), rfl, by decide, iX11_may_X2, Or.inr (by decide +kernel)⟩
set_option maxRecDepth 20000 in
theorem fX11_may_86 : zF MX11_may 86 2 1 := ⟨(RX2, TX2, 4), rfl, by decide, iX11_may_X2, Or.inr (by decide +kernel)⟩
set_option maxRecDepth 20000 in
theorem iX11_mays_X11 : ∀ w ∈ u_ws RX11 TX11 8, w ∈ wsX11_mays := by decide +kernel
set_option maxRecDepth 20000 in
theorem fX11_mays_12 : zF MX11_mays 12 9 0 := ⟨(RX11, TX11, 8), rfl, by decide, iX11_mays_X11, Or.inl (by decide +kernel)⟩
set_option maxRecDepth 20000 in
theorem iX11_mays_X2 : ∀ w ∈ u_ws RX2 TX2 4, w ∈ wsX11_mays := by decide +kernel
set_option maxRecDepth 20000 in
theorem fX11_mays_86 : zF MX11_mays 86 2 1 := ⟨(RX2, TX2, 4), rfl, by decide, iX11_mays_X2, Or.inr (by decide +kernel)⟩
set_option maxRecDepth 20000 in
theorem fX11_mays_27 : zF MX11_mays 27 2 0 := ⟨(RX2, TX2, 4), rfl, by decide, iX11_mays_X2, Or.inr (by decide +kernel)⟩
set_option maxRecDepth 20000 in
theorem iX11_mays_X0 : ∀ w ∈ u_ws RX0 TX0 4, w ∈ wsX11_mays := by decide +kernel
set_option maxRecDepth 20000 in
theorem fX11_mays_78 : zF MX11_mays 78 0 3 := ⟨(RX0, TX0, 4), rfl, by decide, iX11_mays_X0, Or.inr (by decide +kernel)⟩
set_option maxRecDepth 20000 in
theorem iX11_ring_X11 : ∀ w ∈ u_ws RX11 TX11 8, w ∈ wsX11_ring := by decide +kernel
set_option maxRecDepth 20000 in
theorem fX11_ring_12 : zF MX11_ring 12 9 0 := ⟨(RX11, TX11, 8), rfl, by decide, iX11_ring_X11, Or.inl (by decide +kernel)⟩
set_option maxRecDepth 20000 in
theorem iX11_ring_X2 : ∀ w ∈ u_ws RX2 TX2 4, w ∈ wsX11_ring := by decide +kernel
set_option maxRecDepth 20000 in
theorem fX11_ring_27 : zF MX11_ring 27 2 0 := ⟨(RX2, TX2, 4), rfl, by decide, iX11_ring_X2, Or.inr (by decide +kernel)⟩
set_option maxRecDepth 20000 in
theorem iX11_bound_X11 : ∀ w ∈ u_ws RX11 TX11 8, w ∈ wsX11_bound := by decide +kernel
set_option maxRecDepth 20000 in
theorem fX11_bound_12 : zF MX11_bound 12 9 0 := ⟨(RX11, TX11, 8), rfl, by decide, iX11_bound_X11, Or.inl (by decide +kernel)⟩
set_option maxRecDepth 20000 in
theorem iX11_bound_X2 : ∀ w ∈ u_ws RX2 TX2 4, w ∈ wsX11_bound := by decide +kernel
set_option maxRecDepth 20000 in
theorem fX11_bound_27 : zF MX11_bound 27 2 0 := ⟨(RX2, TX2, 4), rfl, by decide, iX11_bound_X2, Or.inr (by decide +kernel)⟩
set_option maxRecDepth 20000 in
theorem iX11_bound_X0 : ∀ w ∈ u_ws RX0 TX0 4, w ∈ wsX11_bound := by decide +kernel
set_option maxRecDepth 20000 in
theorem fX11_bound_78 : zF MX11_bound 78 0 3 := ⟨(RX0, TX0, 4), rfl, by decide, iX11_bound_X0, Or.inr (by decide +kernel)⟩
set_option maxRecDepth 20000 in
theorem iX11_great_X11 : ∀ w ∈ u_ws RX11 TX11 8, w ∈ wsX11_great := by decide +kernel
set_option maxRecDepth 20000 in
theorem fX11_great_12 : zF MX11_great 12 9 0 := ⟨(RX11, TX11, 8), rfl, by decide, iX11_great_X11, Or.inl (by decide +kernel)⟩
set_option maxRecDepth 20000 in
theorem iX11_great_X2 : ∀ w ∈ u_ws RX2 TX2 4, w ∈ wsX11_great := by decide +kernel
set_option maxRecDepth 20000 in
theorem fX11_great_27 : zF MX11_great 27 2 0 := ⟨(RX2, TX2, 4), rfl, by decide, iX11_great_X2, Or.inr (by decide +kernel)⟩
set_option maxRecDepth 20000 in
theorem iX11_great_X0 : ∀ w ∈ u_ws RX0 TX0 4, w ∈ wsX11_great := by decide +kernel
set_option maxRecDepth 20000 in
theorem fX11_great_78 : zF MX11_great 78 0 3 := ⟨(RX0, TX0, 4), rfl, by decide, iX11_great_X0, Or.inr (by decide +kernel)⟩
set_option maxRecDepth 20000 in
theorem fX11_great_43 : zF MX11_great 43 9 4 := ⟨(RX11, TX11, 8), rfl, by decide, iX11_great_X11, Or.inl (by decide +kernel)⟩
set_option maxRecDepth 20000 in
theorem iX11_swapped_X11 : ∀ w ∈ u_ws RX11 TX11 8, w ∈ wsX11_swapped := by decide +kernel
set_option maxRecDepth 20000 in
theorem fX11_swapped_12 : zF MX11_swapped 12 9 0 := ⟨(RX11, TX11, 8), rfl, by decide, iX11_swapped_X11, Or.inl (by decide +kernel)⟩
set_option maxRecDepth 20000 in
theorem iX11_swapped_X2 : ∀ w ∈ u_ws RX2 TX2 4, w ∈ wsX11_swapped := by decide +kernel
set_option maxRecDepth 20000 in
theorem fX11_swapped_27 : zF MX11_swapped 27 2 0 := ⟨(RX2, TX2, 4), rfl, by decide, iX11_swapped_X2, Or.inr (by decide +kernel)⟩
set_option maxRecDepth 20000 in
theorem iX11_swap_X11 : ∀ w ∈ u_ws RX11 TX11 8, w ∈ wsX11_swap := by decide +kernel
set_option maxRecDepth 20000 in
theorem fX11_swap_12 : zF MX11_swap 12 9 0 := ⟨(RX11, TX11, 8), rfl, by decide, iX11_swap_X11, Or.inl (by decide +kernel)⟩
set_option maxRecDepth 20000 in
theorem iX11_swap_X2 : ∀ w ∈ u_ws RX2 TX2 4, w ∈ wsX11_swap := by decide +kernel
set_option maxRecDepth 20000 in
theorem fX11_swap_27 : zF MX11_swap 27 2 0 := ⟨(RX2, TX2, 4), rfl, by decide, iX11_swap_X2, Or.inr (by decide +kernel)⟩
set_option maxRecDepth 20000 in
theorem fX11_swap_86 : zF MX11_swap 86 2 1 := ⟨(RX2, TX2, 4), rfl, by decide, iX11_swap_X2, Or.inr (by decide +kernel)⟩
set_option maxRecDepth 20000 in
theorem iX11_keeps_X11 : ∀ w ∈ u_ws RX11 TX11 8, w ∈ wsX11_keeps := by decide +kernel
set_option maxRecDepth 20000 in
theorem fX11_keeps_12 : zF MX11_keeps 12 9 0 := ⟨(RX11, TX11, 8), rfl, by decide, iX11_keeps_X11, Or.inl (by decide +kernel)⟩
set_option maxRecDepth 20000 in
theorem iX11_keeps_X2 : ∀ w ∈ u_ws RX2 TX2 4, w ∈ wsX11_keeps := by decide +kernel
set_option maxRecDepth 20000 in
theorem fX11_keeps_27 : zF MX11_keeps 27 2 0 := ⟨(RX2, TX2, 4), rfl, by decide, iX11_keeps_X2, Or.inr (by decide +kernel)⟩
set_option maxRecDepth 20000 in
theorem fX11_keeps_86 : zF MX11_keeps 86 2 1 := ⟨(RX2, TX2, 4), rfl, by decide, iX11_keeps_X2, Or.inr (by decide +kernel)⟩
set_option maxRecDepth 20000 in
theorem iX11_cast_X11 : ∀ w ∈ u_ws RX11 TX11 8, w ∈ wsX11_cast := by decide +kernel
set_option maxRecDepth 20000 in
theorem fX11_cast_12 : zF MX11_cast 12 9 0 := ⟨(RX11, TX11, 8), rfl, by decide, iX11_cast_X11, Or.inl (by decide +kernel)⟩
set_option maxRecDepth 20000 in
theorem iX11_cast_X2 : ∀ w ∈ u_ws RX2 TX2 4, w ∈ wsX11_cast := by decide +kernel
set_option maxRecDepth 20000 in
theorem fX11_cast_27 : zF MX11_cast 27 2 0 := ⟨(RX2, TX2, 4), rfl, by decide, iX11_cast_X2, Or.inr (by decide +kernel)⟩
set_option maxRecDepth 20000 in
theorem iX11_cast_X0 : ∀ w ∈ u_ws RX0 TX0 4, w ∈ wsX11_cast := by decide +kernel
set_option maxRecDepth 20000 in
theorem fX11_cast_179 : zF MX11_cast 179 0 1 := ⟨(RX0, TX0, 4), rfl, by decide, iX11_cast_X0, Or.inr (by decide +kernel)⟩
set_option maxRecDepth 20000 in
theorem fX11_cast_182 : zF MX11_cast 182 2 2 := ⟨(RX2, TX2, 4), rfl, by decide, iX11_cast_X2, Or.inr (by decide +kernel)⟩
set_option maxRecDepth 20000 in
theorem iX11_spell_X11 : ∀ w ∈ u_ws RX11 TX11 8, w ∈ wsX11_spell := by decide +kernel
set_option maxRecDepth 20000 in
theorem fX11_spell_12 : zF MX11_spell 12 9 0 := ⟨(RX11, TX11, 8), rfl, by decide, iX11_spell_X11, Or.inl (by decide +kernel)⟩
set_option maxRecDepth 20000 in
theorem iX11_spell_X2 : ∀ w ∈ u_ws RX2 TX2 4, w ∈ wsX11_spell := by decide +kernel
set_option maxRecDepth 20000 in
theorem fX11_spell_27 : zF MX11_spell 27 2 0 := ⟨(RX2, TX2, 4), rfl, by decide, iX11_spell_X2, Or.inr (by decide +kernel)⟩
set_option maxRecDepth 20000 in
theorem fX11_spell_182 : zF MX11_spell 182 2 2 := ⟨(RX2, TX2, 4), rfl, by decide, iX11_spell_X2, Or.inr (by decide +kernel)⟩
set_option maxRecDepth 20000 in
theorem iX11_spell_X0 : ∀ w ∈ u_ws RX0 TX0 4, w ∈ wsX11_spell := by decide +kernel
set_option maxRecDepth 20000 in
theorem fX11_spell_109 : zF MX11_spell 109 0 2 := ⟨(RX0, TX0, 4), rfl, by decide, iX11_spell_X0, Or.inr (by decide +kernel)⟩
set_option maxRecDepth 20000 in
theorem iX11_tear_X11 : ∀ w ∈ u_ws RX11 TX11 8, w ∈ wsX11_tear := by decide +kernel
set_option maxRecDepth 20000 in
theorem fX11_tear_12 : zF MX11_tear 12 9 0 := ⟨(RX11, TX11, 8), rfl, by decide, iX11_tear_X11, Or.inl (by decide +kernel)⟩
set_option maxRecDepth 20000 in
theorem iX11_tear_X2 : ∀ w ∈ u_ws RX2 TX2 4, w ∈ wsX11_tear := by decide +kernel
set_option maxRecDepth 20000 in
theorem fX11_tear_182 : zF MX11_tear 182 2 2 := ⟨(RX2, TX2, 4), rfl, by decide, iX11_tear_X2, Or.inr (by decide +kernel)⟩
set_option maxRecDepth 20000 in
theorem iX11_possible_X11 : ∀ w ∈ u_ws RX11 TX11 8, w ∈ wsX11_possible := by decide +kernel
set_option maxRecDepth 20000 in
theorem fX11_possible_12 : zF MX11_possible 12 9 0 := ⟨(RX11, TX11, 8), rfl, by decide, iX11_possible_X11, Or.inl (by decide +kernel)⟩
set_option maxRecDepth 20000 in
theorem iX11_possible_X2 : ∀ w ∈ u_ws RX2 TX2 4, w ∈ wsX11_possible := by decide +kernel
set_option maxRecDepth 20000 in
theorem fX11_possible_182 : zF MX11_possible 182 2 2 := ⟨(RX2, TX2, 4), rfl, by decide, iX11_possible_X2, Or.inr (by decide +kernel)⟩
set_option maxRecDepth 20000 in
theorem fX11_possible_86 : zF MX11_possible 86 2 1 := ⟨(RX2, TX2, 4), rfl, by decide, iX11_possible_X2, Or.inr (by decide +kernel)⟩
set_option maxRecDepth 20000 in
theorem iX11_certain_X11 : ∀ w ∈ u_ws RX11 TX11 8, w ∈ wsX11_certain := by decide +kernel
set_option maxRecDepth 20000 in
theorem fX11_certain_12 : zF MX11_certain 12 9 0 := ⟨(RX11, TX11, 8), rfl, by decide, iX11_certain_X11, Or.inl (by decide +kernel)⟩
set_option maxRecDepth 20000 in
theorem iX11_certain_X2 : ∀ w ∈ u_ws RX2 TX2 4, w ∈ wsX11_certain := by decide +kernel
set_option maxRecDepth 20000 in
theorem fX11_certain_182 : zF MX11_certain 182 2 2 := ⟨(RX2, TX2, 4), rfl, by decide, iX11_certain_X2, Or.inr (by decide +kernel)⟩
set_option maxRecDepth 20000 in
theorem fX11_certain_86 : zF MX11_certain 86 2 1 := ⟨(RX2, TX2, 4), rfl, by decide, iX11_certain_X2, Or.inr (by decide +kernel)⟩
set_option maxRecDepth 20000 in
theorem iX11_delay_X11 : ∀ w ∈ u_ws RX11 TX11 8, w ∈ wsX11_delay := by decide +kernel
set_option maxRecDepth 20000 in
theorem fX11_delay_12 : zF MX11_delay 12 9 0 := ⟨(RX11, TX11, 8), rfl, by decide, iX11_delay_X11, Or.inl (by decide +kernel)⟩
set_option maxRecDepth 20000 in
theorem iX11_delay_X2 : ∀ w ∈ u_ws RX2 TX2 4, w ∈ wsX11_delay := by decide +kernel
set_option maxRecDepth 20000 in
theorem fX11_delay_27 : zF MX11_delay 27 2 0 := ⟨(RX2, TX2, 4), rfl, by decide, iX11_delay_X2, Or.inr (by decide +kernel)⟩
set_option maxRecDepth 20000 in
theorem iX11_delay_X0 : ∀ w ∈ u_ws RX0 TX0 4, w ∈ wsX11_delay := by decide +kernel
set_option maxRecDepth 20000 in
theorem fX11_delay_78 : zF MX11_delay 78 0 3 := ⟨(RX0, TX0, 4), rfl, by decide, iX11_delay_X0, Or.inr (by decide +kernel)⟩
set_option maxRecDepth 20000 in
theorem fX11_delay_86 : zF MX11_delay 86 2 1 := ⟨(RX2, TX2, 4), rfl, by decide, iX11_delay_X2, Or.inr (by decide +kernel)⟩
set_option maxRecDepth 20000 in
theorem iX11_odds_X11 : ∀ w ∈ u_ws RX11 TX11 8, w ∈ wsX11_odds := by decide +kernel
set_option maxRecDepth 20000 in
theorem fX11_odds_34 : zF MX11_odds 34 9 3 := ⟨(RX11, TX11, 8), rfl, by decide, iX11_odds_X11, Or.inl (by decide +kernel)⟩
set_option maxRecDepth 20000 in
theorem iX11_plan_X11 : ∀ w ∈ u_ws RX11 TX11 8, w ∈ wsX11_plan := by decide +kernel
set_option maxRecDepth 20000 in
theorem fX11_plan_12 : zF MX11_plan 12 9 0 := ⟨(RX11, TX11, 8), rfl, by decide, iX11_plan_X11, Or.inl (by decide +kernel)⟩
set_option maxRecDepth 20000 in
theorem iX11_plan_X2 : ∀ w ∈ u_ws RX2 TX2 4, w ∈ wsX11_plan := by decide +kernel
set_option maxRecDepth 20000 in
theorem fX11_plan_227 : zF MX11_plan 227 2 3 := ⟨(RX2, TX2, 4), rfl, by decide, iX11_plan_X2, Or.inr (by decide +kernel)⟩
set_option maxRecDepth 20000 in
theorem iX11_behind_X11 : ∀ w ∈ u_ws RX11 TX11 8, w ∈ wsX11_behind := by decide +kernel
set_option maxRecDepth 20000 in
theorem fX11_behind_34 : zF MX11_behind 34 9 3 := ⟨(RX11, TX11, 8), rfl, by decide, iX11_behind_X11, Or.inl (by decide +kernel)⟩
set_option maxRecDepth 20000 in
theorem fX11_behind_12 : zF MX11_behind 12 9 0 := ⟨(RX11, TX11, 8), rfl, by decide, iX11_behind_X11, Or.inl (by decide +kernel)⟩
set_option maxRecDepth 20000 in
theorem iX11_behind_X2 : ∀ w ∈ u_ws RX2 TX2 4, w ∈ wsX11_behind := by decide +kernel
set_option maxRecDepth 20000 in
theorem fX11_behind_86 : zF MX11_behind 86 2 1 := ⟨(RX2, TX2, 4), rfl, by decide, iX11_behind_X2, Or.inr (by decide +kernel)⟩
set_option maxRecDepth 20000 in
theorem fX11_behind_227 : zF MX11_behind 227 2 3 := ⟨(RX2, TX2, 4), rfl, by decide, iX11_behind_X2, Or.inr (by decide +kernel)⟩
set_option maxRecDepth 20000 in
theorem iX11_feed_X11 : ∀ w ∈ u_ws RX11 TX11 8, w ∈ wsX11_feed := by decide +kernel
set_option maxRecDepth 20000 in
theorem fX11_feed_50 : zF MX11_feed 50 9 5 := ⟨(RX11, TX11, 8), rfl, by decide, iX11_feed_X11, Or.inl (by decide +kernel)⟩
set_option maxRecDepth 20000 in
theorem iX11_book_X11 : ∀ w ∈ u_ws RX11 TX11 8, w ∈ wsX11_book := by decide +kernel
set_option maxRecDepth 20000 in
theorem fX11_book_50 : zF MX11_book 50 9 5 := ⟨(RX11, TX11, 8), rfl, by decide, iX11_book_X11, Or.inl (by decide +kernel)⟩
set_option maxRecDepth 20000 in
theorem fX11_book_34 : zF MX11_book 34 9 3 := ⟨(RX11, TX11, 8), rfl, by decide, iX11_book_X11, Or.inl (by decide +kernel)⟩
set_option maxRecDepth 20000 in
theorem fX11_book_12 : zF MX11_book 12 9 0 := ⟨(RX11, TX11, 8), rfl, by decide, iX11_book_X11, Or.inl (by decide +kernel)⟩
set_option maxRecDepth 20000 in
theorem iX11_book_X2 : ∀ w ∈ u_ws RX2 TX2 4, w ∈ wsX11_book := by decide +kernel
set_option maxRecDepth 20000 in
theorem fX11_book_86 : zF MX11_book 86 2 1 := ⟨(RX2, TX2, 4), rfl, by decide, iX11_book_X2, Or.inr (by decide +kernel)⟩
set_option maxRecDepth 20000 in
theorem iX11_why_X11 : ∀ w ∈ u_ws RX11 TX11 8, w ∈ wsX11_why := by decide +kernel
set_option maxRecDepth 20000 in
theorem fX11_why_50 : zF MX11_why 50 9 5 := ⟨(RX11, TX11, 8), rfl, by decide, iX11_why_X11, Or.inl (by decide +kernel)⟩
set_option maxRecDepth 20000 in
theorem iX11_write_X11 : ∀ w ∈ u_ws RX11 TX11 8, w ∈ wsX11_write := by decide +kernel
set_option maxRecDepth 20000 in
theorem fX11_write_57 : zF MX11_write 57 9 6 := ⟨(RX11, TX11, 8), rfl, by decide, iX11_write_X11, Or.inl (by decide +kernel)⟩
set_option maxRecDepth 20000 in
theorem fX11_write_12 : zF MX11_write 12 9 0 := ⟨(RX11, TX11, 8), rfl, by decide, iX11_write_X11, Or.inl (by decide +kernel)⟩
set_option maxRecDepth 20000 in
theorem iX11_write_X2 : ∀ w ∈ u_ws RX2 TX2 4, w ∈ wsX11_write := by decide +kernel
set_option maxRecDepth 20000 in
theorem fX11_write_86 : zF MX11_write 86 2 1 := ⟨(RX2, TX2, 4), rfl, by decide, iX11_write_X2, Or.inr (by decide +kernel)⟩
set_option maxRecDepth 20000 in
theorem iX11_paper_X11 : ∀ w ∈ u_ws RX11 TX11 8, w ∈ wsX11_paper := by decide +kernel
set_option maxRecDepth 20000 in
theorem fX11_paper_57 : zF MX11_paper 57 9 6 := ⟨(RX11, TX11, 8), rfl, by decide, iX11_paper_X11, Or.inl (by decide +kernel)⟩
set_option maxRecDepth 20000 in
theorem iX11_judge_X11 : ∀ w ∈ u_ws RX11 TX11 8, w ∈ wsX11_judge := by decide +kernel
set_option maxRecDepth 20000 in
theorem fX11_judge_64 : zF MX11_judge 64 9 7 := ⟨(RX11, TX11, 8), rfl, by decide, iX11_judge_X11, Or.inl (by decide +kernel)⟩
set_option maxRecDepth 20000 in
theorem fX11_judge_12 : zF MX11_judge 12 9 0 := ⟨(RX11, TX11, 8), rfl, by decide, iX11_judge_X11, Or.inl (by decide +kernel)⟩
set_option maxRecDepth 20000 in
theorem iX11_judge_X2 : ∀ w ∈ u_ws RX2 TX2 4, w ∈ wsX11_judge := by decide +kernel
set_option maxRecDepth 20000 in
theorem fX11_judge_86 : zF MX11_judge 86 2 1 := ⟨(RX2, TX2, 4), rfl, by decide, iX11_judge_X2, Or.inr (by decide +kernel)⟩
set_option maxRecDepth 20000 in
theorem iX11_list_X11 : ∀ w ∈ u_ws RX11 TX11 8, w ∈ wsX11_list := by decide +kernel
set_option maxRecDepth 20000 in
theorem fX11_list_64 : zF MX11_list 64 9 7 := ⟨(RX11, TX11, 8), rfl, by decide, iX11_list_X11, Or.inl (by decide +kernel)⟩
set_option maxRecDepth 20000 in
theorem iX11_put_X11 : ∀ w ∈ u_ws RX11 TX11 8, w ∈ wsX11_put := by decide +kernel
set_option maxRecDepth 20000 in
theorem fX11_put_64 : zF MX11_put 64 9 7 := ⟨(RX11, TX11, 8), rfl, by decide, iX11_put_X11, Or.inl (by decide +kernel)⟩
set_option maxRecDepth 20000 in
theorem iX11_get_X11 : ∀ w ∈ u_ws RX11 TX11 8, w ∈ wsX11_get := by decide +kernel
set_option maxRecDepth 20000 in
theorem fX11_get_64 : zF MX11_get 64 9 7 := ⟨(RX11, TX11, 8), rfl, by decide, iX11_get_X11, Or.inl (by decide +kernel)⟩
set_option maxRecDepth 20000 in
theorem iX11_image_X11 : ∀ w ∈ u_ws RX11 TX11 8, w ∈ wsX11_image := by decide +kernel
set_option maxRecDepth 20000 in
theorem fX11_image_18 : zF MX11_image 18 9 1 := ⟨(RX11, TX11, 8), rfl, by decide, iX11_image_X11, Or.inl (by decide +kernel)⟩
set_option maxRecDepth 20000 in
theorem fX11_image_12 : zF MX11_image 12 9 0 := ⟨(RX11, TX11, 8), rfl, by decide, iX11_image_X11, Or.inl (by decide +kernel)⟩
set_option maxRecDepth 20000 in
theorem fX11_image_21 : zF MX11_image 21 9 2 := ⟨(RX11, TX11, 8), rfl, by decide, iX11_image_X11, Or.inl (by decide +kernel)⟩
set_option maxRecDepth 20000 in
theorem iX11_image_X2 : ∀ w ∈ u_ws RX2 TX2 4, w ∈ wsX11_image := by decide +kernel
set_option maxRecDepth 20000 in
theorem fX11_image_86 : zF MX11_image 86 2 1 := ⟨(RX2, TX2, 4), rfl, by decide, iX11_image_X2, Or.inr (by decide +kernel)⟩
set_option maxRecDepth 20000 in
theorem iX11_undo_X11 : ∀ w ∈ u_ws RX11 TX11 8, w ∈ wsX11_undo := by decide +kernel
set_option maxRecDepth 20000 in
theorem fX11_undo_21 : zF MX11_undo 21 9 2 := ⟨(RX11, TX11, 8), rfl, by decide, iX11_undo_X11, Or.inl (by decide +kernel)⟩
set_option maxRecDepth 20000 in
theorem fX11_undo_12 : zF MX11_undo 12 9 0 := ⟨(RX11, TX11, 8), rfl, by decide, iX11_undo_X11, Or.inl (by decide +kernel)⟩
set_option maxRecDepth 20000 in
theorem fX11_undo_18 : zF MX11_undo 18 9 1 := ⟨(RX11, TX11, 8), rfl, by decide, iX11_undo_X11, Or.inl (by decide +kernel)⟩
set_option maxRecDepth 20000 in
theorem iX11_undo_X2 : ∀ w ∈ u_ws RX2 TX2 4, w ∈ wsX11_undo := by decide +kernel
set_option maxRecDepth 20000 in
theorem fX11_undo_86 : zF MX11_undo 86 2 1 := ⟨(RX2, TX2, 4), rfl, by decide, iX11_undo_X2, Or.inr (by decide +kernel)⟩
set_option maxRecDepth 20000 in
theorem iX11_count_X11 : ∀ w ∈ u_ws RX11 TX11 8, w ∈ wsX11_count := by decide +kernel
set_option maxRecDepth 20000 in
theorem fX11_count_12 : zF MX11_count 12 9 0 := ⟨(RX11, TX11, 8), rfl, by decide, iX11_count_X11, Or.inl (by decide +kernel)⟩
set_option maxRecDepth 20000 in
theorem iX11_count_X2 : ∀ w ∈ u_ws RX2 TX2 4, w ∈ wsX11_count := by decide +kernel
set_option maxRecDepth 20000 in
theorem fX11_count_27 : zF MX11_count 27 2 0 := ⟨(RX2, TX2, 4), rfl, by decide, iX11_count_X2, Or.inr (by decide +kernel)⟩
set_option maxRecDepth 20000 in
theorem iX11_count_X0 : ∀ w ∈ u_ws RX0 TX0 4, w ∈ wsX11_count := by decide +kernel
set_option maxRecDepth 20000 in
theorem fX11_count_179 : zF MX11_count 179 0 1 := ⟨(RX0, TX0, 4), rfl, by decide, iX11_count_X0, Or.inr (by decide +kernel)⟩
set_option maxRecDepth 20000 in
theorem fX11_count_109 : zF MX11_count 109 0 2 := ⟨(RX0, TX0, 4), rfl, by decide, iX11_count_X0, Or.inr (by decide +kernel)⟩
set_option maxRecDepth 20000 in
theorem fX11_count_78 : zF MX11_count 78 0 3 := ⟨(RX0, TX0, 4), rfl, by decide, iX11_count_X0, Or.inr (by decide +kernel)⟩
set_option maxRecDepth 20000 in
theorem fX11_count_86 : zF MX11_count 86 2 1 := ⟨(RX2, TX2, 4), rfl, by decide, iX11_count_X2, Or.inr (by decide +kernel)⟩
set_option maxRecDepth 20000 in
theorem fX11_count_182 : zF MX11_count 182 2 2 := ⟨(RX2, TX2, 4), rfl, by decide, iX11_count_X2, Or.inr (by decide +kernel)⟩
set_option maxRecDepth 20000 in
theorem fX11_count_50 : zF MX11_count 50 9 5 := ⟨(RX11, TX11, 8), rfl, by decide, iX11_count_X11, Or.inl (by decide +kernel)⟩
set_option maxRecDepth 20000 in
theorem fX11_count_57 : zF MX11_count 57 9 6 := ⟨(RX11, TX11, 8), rfl, by decide, iX11_count_X11, Or.inl (by decide +kernel)⟩
set_option maxRecDepth 20000 in
theorem fX11_count_227 : zF MX11_count 227 2 3 := ⟨(RX2, TX2, 4), rfl, by decide, iX11_count_X2, Or.inr (by decide +kernel)⟩
set_option maxRecDepth 20000 in
theorem iX12_init_X12 : ∀ w ∈ u_ws RX12 TX12 41, w ∈ wsX12_init := by decide +kernel
set_option maxRecDepth 20000 in
theorem fX12_init_9 : zF MX12_init 9 10 0 := ⟨(RX12, TX12, 41), rfl, by decide, iX12_init_X12, Or.inl (by decide +kernel)⟩
theorem ft_10_0 : zFt 10 0 false (.int) := ⟨(RX12, TX12, 41), rfl, rfl, by decide +kernel⟩
set_option maxRecDepth 20000 in
theorem fX12_init_15 : zF MX12_init 15 10 1 := ⟨(RX12, TX12, 41), rfl, by decide, iX12_init_X12, Or.inl (by decide +kernel)⟩
theorem ft_10_1 : zFt 10 1 false (.int) := ⟨(RX12, TX12, 41), rfl, rfl, by decide +kernel⟩
set_option maxRecDepth 20000 in
theorem fX12_init_18 : zF MX12_init 18 10 8 := ⟨(RX12, TX12, 41), rfl, by decide, iX12_init_X12, Or.inl (by decide +kernel)⟩
theorem ft_10_8 : zFt 10 8 true (.array .boolean) := ⟨(RX12, TX12, 41), rfl, rfl, by decide +kernel⟩
set_option maxRecDepth 20000 in
theorem fX12_init_22 : zF MX12_init 22 10 9 := ⟨(RX12, TX12, 41), rfl, by decide, iX12_init_X12, Or.inl (by decide +kernel)⟩
theorem ft_10_9 : zFt 10 9 true (.array .boolean) := ⟨(RX12, TX12, 41), rfl, rfl, by decide +kernel⟩
set_option maxRecDepth 20000 in
theorem fX12_init_25 : zF MX12_init 25 10 10 := ⟨(RX12, TX12, 41), rfl, by decide, iX12_init_X12, Or.inl (by decide +kernel)⟩
theorem ft_10_10 : zFt 10 10 true (.array .boolean) := ⟨(RX12, TX12, 41), rfl, rfl, by decide +kernel⟩
set_option maxRecDepth 20000 in
theorem fX12_init_28 : zF MX12_init 28 10 11 := ⟨(RX12, TX12, 41), rfl, by decide, iX12_init_X12, Or.inl (by decide +kernel)⟩
theorem ft_10_11 : zFt 10 11 true (.array .int) := ⟨(RX12, TX12, 41), rfl, rfl, by decide +kernel⟩
set_option maxRecDepth 20000 in
theorem fX12_init_32 : zF MX12_init 32 10 12 := ⟨(RX12, TX12, 41), rfl, by decide, iX12_init_X12, Or.inl (by decide +kernel)⟩
theorem ft_10_12 : zFt 10 12 true (.array .int) := ⟨(RX12, TX12, 41), rfl, rfl, by decide +kernel⟩
set_option maxRecDepth 20000 in
theorem fX12_init_35 : zF MX12_init 35 10 13 := ⟨(RX12, TX12, 41), rfl, by decide, iX12_init_X12, Or.inl (by decide +kernel)⟩
theorem ft_10_13 : zFt 10 13 true (.array .int) := ⟨(RX12, TX12, 41), rfl, rfl, by decide +kernel⟩
set_option maxRecDepth 20000 in
theorem fX12_init_38 : zF MX12_init 38 10 14 := ⟨(RX12, TX12, 41), rfl, by decide, iX12_init_X12, Or.inl (by decide +kernel)⟩
theorem ft_10_14 : zFt 10 14 true (.array .int) := ⟨(RX12, TX12, 41), rfl, rfl, by decide +kernel⟩
set_option maxRecDepth 20000 in
theorem fX12_init_41 : zF MX12_init 41 10 19 := ⟨(RX12, TX12, 41), rfl, by decide, iX12_init_X12, Or.inl (by decide +kernel)⟩
theorem ft_10_19 : zFt 10 19 true (.array .int) := ⟨(RX12, TX12, 41), rfl, rfl, by decide +kernel⟩
set_option maxRecDepth 20000 in
theorem fX12_init_44 : zF MX12_init 44 10 20 := ⟨(RX12, TX12, 41), rfl, by decide, iX12_init_X12, Or.inl (by decide +kernel)⟩
theorem ft_10_20 : zFt 10 20 true (.array .boolean) := ⟨(RX12, TX12, 41), rfl, rfl, by decide +kernel⟩
set_option maxRecDepth 20000 in
theorem fX12_init_47 : zF MX12_init 47 10 21 := ⟨(RX12, TX12, 41), rfl, by decide, iX12_init_X12, Or.inl (by decide +kernel)⟩
theorem ft_10_21 : zFt 10 21 true (.array .int) := ⟨(RX12, TX12, 41), rfl, rfl, by decide +kernel⟩
set_option maxRecDepth 20000 in
theorem fX12_init_50 : zF MX12_init 50 10 22 := ⟨(RX12, TX12, 41), rfl, by decide, iX12_init_X12, Or.inl (by decide +kernel)⟩
theorem ft_10_22 : zFt 10 22 true (.array .int) := ⟨(RX12, TX12, 41), rfl, rfl, by decide +kernel⟩
set_option maxRecDepth 20000 in
theorem fX12_init_53 : zF MX12_init 53 10 30 := ⟨(RX12, TX12, 41), rfl, by decide, iX12_init_X12, Or.inl (by decide +kernel)⟩
theorem ft_10_30 : zFt 10 30 true (.array .int) := ⟨(RX12, TX12, 41), rfl, rfl, by decide +kernel⟩
set_option maxRecDepth 20000 in
theorem fX12_init_56 : zF MX12_init 56 10 31 := ⟨(RX12, TX12, 41), rfl, by decide, iX12_init_X12, Or.inl (by decide +kernel)⟩
theorem ft_10_31 : zFt 10 31 true (.array .boolean) := ⟨(RX12, TX12, 41), rfl, rfl, by decide +kernel⟩
set_option maxRecDepth 20000 in
theorem fX12_init_59 : zF MX12_init 59 10 32 := ⟨(RX12, TX12, 41), rfl, by decide, iX12_init_X12, Or.inl (by decide +kernel)⟩
theorem ft_10_32 : zFt 10 32 true (.array .boolean) := ⟨(RX12, TX12, 41), rfl, rfl, by decide +kernel⟩
set_option maxRecDepth 20000 in
theorem fX12_init_62 : zF MX12_init 62 10 33 := ⟨(RX12, TX12, 41), rfl, by decide, iX12_init_X12, Or.inl (by decide +kernel)⟩
theorem ft_10_33 : zFt 10 33 true (.array .int) := ⟨(RX12, TX12, 41), rfl, rfl, by decide +kernel⟩
set_option maxRecDepth 20000 in
theorem fX12_init_65 : zF MX12_init 65 10 34 := ⟨(RX12, TX12, 41), rfl, by decide, iX12_init_X12, Or.inl (by decide +kernel)⟩
theorem ft_10_34 : zFt 10 34 true (.array .int) := ⟨(RX12, TX12, 41), rfl, rfl, by decide +kernel⟩
set_option maxRecDepth 20000 in
theorem fX12_init_68 : zF MX12_init 68 10 35 := ⟨(RX12, TX12, 41), rfl, by decide, iX12_init_X12, Or.inl (by decide +kernel)⟩
theorem ft_10_35 : zFt 10 35 true (.array .int) := ⟨(RX12, TX12, 41), rfl, rfl, by decide +kernel⟩
set_option maxRecDepth 20000 in
theorem fX12_init_71 : zF MX12_init 71 10 39 := ⟨(RX12, TX12, 41), rfl, by decide, iX12_init_X12, Or.inl (by decide +kernel)⟩
theorem ft_10_39 : zFt 10 39 true (.array .int) := ⟨(RX12, TX12, 41), rfl, rfl, by decide +kernel⟩
set_option maxRecDepth 20000 in
theorem fX12_init_74 : zF MX12_init 74 10 40 := ⟨(RX12, TX12, 41), rfl, by decide, iX12_init_X12, Or.inl (by decide +kernel)⟩
theorem ft_10_40 : zFt 10 40 true (.array .int) := ⟨(RX12, TX12, 41), rfl, rfl, by decide +kernel⟩
set_option maxRecDepth 20000 in
theorem iX12_words_X12 : ∀ w ∈ u_ws RX12 TX12 41, w ∈ wsX12_words := by decide +kernel
set_option maxRecDepth 20000 in
theorem fX12_words_9 : zF MX12_words 9 10 0 := ⟨(RX12, TX12, 41), rfl, by decide, iX12_words_X12, Or.inl (by decide +kernel)⟩
set_option maxRecDepth 20000 in
theorem fX12_words_15 : zF MX12_words 15 10 1 := ⟨(RX12, TX12, 41), rfl, by decide, iX12_words_X12, Or.inl (by decide +kernel)⟩
set_option maxRecDepth 20000 in
theorem iX12_letterOf_X12 : ∀ w ∈ u_ws RX12 TX12 41, w ∈ wsX12_letterOf := by decide +kernel
set_option maxRecDepth 20000 in
theorem fX12_letterOf_9 : zF MX12_letterOf 9 10 0 := ⟨(RX12, TX12, 41), rfl, by decide, iX12_letterOf_X12, Or.inl (by decide +kernel)⟩
set_option maxRecDepth 20000 in
theorem fX12_letterOf_15 : zF MX12_letterOf 15 10 1 := ⟨(RX12, TX12, 41), rfl, by decide, iX12_letterOf_X12, Or.inl (by decide +kernel)⟩
set_option maxRecDepth 20000 in
theorem iX12_many_X12 : ∀ w ∈ u_ws RX12 TX12 41, w ∈ wsX12_many := by decide +kernel
set_option maxRecDepth 20000 in
theorem fX12_many_18 : zF MX12_many 18 10 8 := ⟨(RX12, TX12, 41), rfl, by decide, iX12_many_X12, Or.inl (by decide +kernel)⟩
set_option maxRecDepth 20000 in
theorem iX12_size_X12 : ∀ w ∈ u_ws RX12 TX12 41, w ∈ wsX12_size := by decide +kernel
set_option maxRecDepth 20000 in
theorem fX12_size_9 : zF MX12_size 9 10 0 := ⟨(RX12, TX12, 41), rfl, by decide, iX12_size_X12, Or.inl (by decide +kernel)⟩
set_option maxRecDepth 20000 in
theorem fX12_size_15 : zF MX12_size 15 10 1 := ⟨(RX12, TX12, 41), rfl, by decide, iX12_size_X12, Or.inl (by decide +kernel)⟩
set_option maxRecDepth 20000 in
theorem fX12_size_18 : zF MX12_size 18 10 8 := ⟨(RX12, TX12, 41), rfl, by decide, iX12_size_X12, Or.inl (by decide +kernel)⟩
set_option maxRecDepth 20000 in
theorem fX12_size_95 : zF MX12_size 95 10 2 := ⟨(RX12, TX12, 41), rfl, by decide, iX12_size_X12, Or.inl (by decide +kernel)⟩
theorem ft_10_2 : zFt 10 2 false (.int) := ⟨(RX12, TX12, 41), rfl, rfl, by decide +kernel⟩
set_option maxRecDepth 20000 in
theorem fX12_size_98 : zF MX12_size 98 10 3 := ⟨(RX12, TX12, 41), rfl, by decide, iX12_size_X12, Or.inl (by decide +kernel)⟩
theorem ft_10_3 : zFt 10 3 false (.int) := ⟨(RX12, TX12, 41), rfl, rfl, by decide +kernel⟩
set_option maxRecDepth 20000 in
theorem iX12_add_X12 : ∀ w ∈ u_ws RX12 TX12 41, w ∈ wsX12_add := by decide +kernel
set_option maxRecDepth 20000 in
theorem fX12_add_18 : zF MX12_add 18 10 8 := ⟨(RX12, TX12, 41), rfl, by decide, iX12_add_X12, Or.inl (by decide +kernel)⟩
set_option maxRecDepth 20000 in
theorem iX12_drop_X12 : ∀ w ∈ u_ws RX12 TX12 41, w ∈ wsX12_drop := by decide +kernel
set_option maxRecDepth 20000 in
theorem fX12_drop_18 : zF MX12_drop 18 10 8 := ⟨(RX12, TX12, 41), rfl, by decide, iX12_drop_X12, Or.inl (by decide +kernel)⟩
set_option maxRecDepth 20000 in
theorem iX12_clear_X12 : ∀ w ∈ u_ws RX12 TX12 41, w ∈ wsX12_clear := by decide +kernel
set_option maxRecDepth 20000 in
theorem fX12_clear_18 : zF MX12_clear 18 10 8 := ⟨(RX12, TX12, 41), rfl, by decide, iX12_clear_X12, Or.inl (by decide +kernel)⟩
set_option maxRecDepth 20000 in
theorem iX12_wordOf_X12 : ∀ w ∈ u_ws RX12 TX12 41, w ∈ wsX12_wordOf := by decide +kernel
set_option maxRecDepth 20000 in
theorem fX12_wordOf_18 : zF MX12_wordOf 18 10 8 := ⟨(RX12, TX12, 41), rfl, by decide, iX12_wordOf_X12, Or.inl (by decide +kernel)⟩
set_option maxRecDepth 20000 in
theorem iX12_letter_X12 : ∀ w ∈ u_ws RX12 TX12 41, w ∈ wsX12_letter := by decide +kernel
set_option maxRecDepth 20000 in
theorem fX12_letter_15 : zF MX12_letter 15 10 1 := ⟨(RX12, TX12, 41), rfl, by decide, iX12_letter_X12, Or.inl (by decide +kernel)⟩
set_option maxRecDepth 20000 in
theorem iX12_across_X12 : ∀ w ∈ u_ws RX12 TX12 41, w ∈ wsX12_across := by decide +kernel
set_option maxRecDepth 20000 in
theorem fX12_across_9 : zF MX12_across 9 10 0 := ⟨(RX12, TX12, 41), rfl, by decide, iX12_across_X12, Or.inl (by decide +kernel)⟩
set_option maxRecDepth 20000 in
theorem iX12_hides_X12 : ∀ w ∈ u_ws RX12 TX12 41, w ∈ wsX12_hides := by decide +kernel
set_option maxRecDepth 20000 in
theorem fX12_hides_15 : zF MX12_hides 15 10 1 := ⟨(RX12, TX12, 41), rfl, by decide, iX12_hides_X12, Or.inl (by decide +kernel)⟩
set_option maxRecDepth 20000 in
theorem iX12_isFree_X12 : ∀ w ∈ u_ws RX12 TX12 41, w ∈ wsX12_isFree := by decide +kernel
set_option maxRecDepth 20000 in
theorem fX12_isFree_18 : zF MX12_isFree 18 10 8 := ⟨(RX12, TX12, 41), rfl, by decide, iX12_isFree_X12, Or.inl (by decide +kernel)⟩
set_option maxRecDepth 20000 in
theorem fX12_isFree_15 : zF MX12_isFree 15 10 1 := ⟨(RX12, TX12, 41), rfl, by decide, iX12_isFree_X12, Or.inl (by decide +kernel)⟩
set_option maxRecDepth 20000 in
theorem fX12_isFree_119 : zF MX12_isFree 119 10 16 := ⟨(RX12, TX12, 41), rfl, by decide, iX12_isFree_X12, Or.inl (by decide +kernel)⟩
theorem ft_10_16 : zFt 10 16 false (.int) := ⟨(RX12, TX12, 41), rfl, rfl, by decide +kernel⟩
set_option maxRecDepth 20000 in
theorem fX12_isFree_122 : zF MX12_isFree 122 10 17 := ⟨(RX12, TX12, 41), rfl, by decide, iX12_isFree_X12, Or.inl (by decide +kernel)⟩
theorem ft_10_17 : zFt 10 17 false (.int) := ⟨(RX12, TX12, 41), rfl, rfl, by decide +kernel⟩
set_option maxRecDepth 20000 in
theorem fX12_isFree_125 : zF MX12_isFree 125 10 18 := ⟨(RX12, TX12, 41), rfl, by decide, iX12_isFree_X12, Or.inl (by decide +kernel)⟩
theorem ft_10_18 : zFt 10 18 false (.int) := ⟨(RX12, TX12, 41), rfl, rfl, by decide +kernel⟩
set_option maxRecDepth 20000 in
theorem iX12_clash_X12 : ∀ w ∈ u_ws RX12 TX12 41, w ∈ wsX12_clash := by decide +kernel
set_option maxRecDepth 20000 in
theorem fX12_clash_119 : zF MX12_clash 119 10 16 := ⟨(RX12, TX12, 41), rfl, by decide, iX12_clash_X12, Or.inl (by decide +kernel)⟩
set_option maxRecDepth 20000 in
theorem fX12_clash_122 : zF MX12_clash 122 10 17 := ⟨(RX12, TX12, 41), rfl, by decide, iX12_clash_X12, Or.inl (by decide +kernel)⟩
set_option maxRecDepth 20000 in
theorem fX12_clash_125 : zF MX12_clash 125 10 18 := ⟨(RX12, TX12, 41), rfl, by decide, iX12_clash_X12, Or.inl (by decide +kernel)⟩
set_option maxRecDepth 20000 in
theorem iX12_mayCome_X12 : ∀ w ∈ u_ws RX12 TX12 41, w ∈ wsX12_mayCome := by decide +kernel
set_option maxRecDepth 20000 in
theorem fX12_mayCome_18 : zF MX12_mayCome 18 10 8 := ⟨(RX12, TX12, 41), rfl, by decide, iX12_mayCome_X12, Or.inl (by decide +kernel)⟩
set_option maxRecDepth 20000 in
theorem iX12_turned_X12 : ∀ w ∈ u_ws RX12 TX12 41, w ∈ wsX12_turned := by decide +kernel
set_option maxRecDepth 20000 in
theorem fX12_turned_9 : zF MX12_turned 9 10 0 := ⟨(RX12, TX12, 41), rfl, by decide, iX12_turned_X12, Or.inl (by decide +kernel)⟩
set_option maxRecDepth 20000 in
theorem mmX12_leastOf_140 : zMmin MX12_leastOf 140 := by unfold zMmin; decide +kernel
set_option maxRecDepth 20000 in
theorem iX12_isRing_X12 : ∀ w ∈ u_ws RX12 TX12 41, w ∈ wsX12_isRing := by decide +kernel
set_option maxRecDepth 20000 in
theorem fX12_isRing_15 : zF MX12_isRing 15 10 1 := ⟨(RX12, TX12, 41), rfl, by decide, iX12_isRing_X12, Or.inl (by decide +kernel)⟩
set_option maxRecDepth 20000 in
theorem iX12_ring_X12 : ∀ w ∈ u_ws RX12 TX12 41, w ∈ wsX12_ring := by decide +kernel
set_option maxRecDepth 20000 in
theorem fX12_ring_15 : zF MX12_ring 15 10 1 := ⟨(RX12, TX12, 41), rfl, by decide, iX12_ring_X12, Or.inl (by decide +kernel)⟩
set_option maxRecDepth 20000 in
theorem iX12_orders_X12 : ∀ w ∈ u_ws RX12 TX12 41, w ∈ wsX12_orders := by decide +kernel
set_option maxRecDepth 20000 in
theorem fX12_orders_9 : zF MX12_orders 9 10 0 := ⟨(RX12, TX12, 41), rfl, by decide, iX12_orders_X12, Or.inl (by decide +kernel)⟩
set_option maxRecDepth 20000 in
theorem iX12_orders__X12 : ∀ w ∈ u_ws RX12 TX12 41, w ∈ wsX12_orders_ := by decide +kernel
set_option maxRecDepth 20000 in
theorem fX12_orders__9 : zF MX12_orders_ 9 10 0 := ⟨(RX12, TX12, 41), rfl, by decide, iX12_orders__X12, Or.inl (by decide +kernel)⟩
set_option maxRecDepth 20000 in
theorem fX12_orders__41 : zF MX12_orders_ 41 10 19 := ⟨(RX12, TX12, 41), rfl, by decide, iX12_orders__X12, Or.inl (by decide +kernel)⟩
set_option maxRecDepth 20000 in
theorem iX12_swappedBy_X12 : ∀ w ∈ u_ws RX12 TX12 41, w ∈ wsX12_swappedBy := by decide +kernel
set_option maxRecDepth 20000 in
theorem fX12_swappedBy_15 : zF MX12_swappedBy 15 10 1 := ⟨(RX12, TX12, 41), rfl, by decide, iX12_swappedBy_X12, Or.inl (by decide +kernel)⟩
set_option maxRecDepth 20000 in
theorem fX12_swappedBy_9 : zF MX12_swappedBy 9 10 0 := ⟨(RX12, TX12, 41), rfl, by decide, iX12_swappedBy_X12, Or.inl (by decide +kernel)⟩
set_option maxRecDepth 20000 in
theorem fX12_swappedBy_41 : zF MX12_swappedBy 41 10 19 := ⟨(RX12, TX12, 41), rfl, by decide, iX12_swappedBy_X12, Or.inl (by decide +kernel)⟩
set_option maxRecDepth 20000 in
theorem iX12_swaps_X12 : ∀ w ∈ u_ws RX12 TX12 41, w ∈ wsX12_swaps := by decide +kernel
set_option maxRecDepth 20000 in
theorem fX12_swaps_44 : zF MX12_swaps 44 10 20 := ⟨(RX12, TX12, 41), rfl, by decide, iX12_swaps_X12, Or.inl (by decide +kernel)⟩
set_option maxRecDepth 20000 in
theorem fX12_swaps_18 : zF MX12_swaps 18 10 8 := ⟨(RX12, TX12, 41), rfl, by decide, iX12_swaps_X12, Or.inl (by decide +kernel)⟩
set_option maxRecDepth 20000 in
theorem iX12_becomesImage_X12 : ∀ w ∈ u_ws RX12 TX12 41, w ∈ wsX12_becomesImage := by decide +kernel
set_option maxRecDepth 20000 in
theorem fX12_becomesImage_18 : zF MX12_becomesImage 18 10 8 := ⟨(RX12, TX12, 41), rfl, by decide, iX12_becomesImage_X12, Or.inl (by decide +kernel)⟩
set_option maxRecDepth 20000 in
theorem fX12_becomesImage_44 : zF MX12_becomesImage 44 10 20 := ⟨(RX12, TX12, 41), rfl, by decide, iX12_becomesImage_X12, Or.inl (by decide +kernel)⟩
set_option maxRecDepth 20000 in
theorem iX12_keeps_X12 : ∀ w ∈ u_ws RX12 TX12 41, w ∈ wsX12_keeps := by decide +kernel
set_option maxRecDepth 20000 in
theorem fX12_keeps_44 : zF MX12_keeps 44 10 20 := ⟨(RX12, TX12, 41), rfl, by decide, iX12_keeps_X12, Or.inl (by decide +kernel)⟩
set_option maxRecDepth 20000 in
theorem fX12_keeps_18 : zF MX12_keeps 18 10 8 := ⟨(RX12, TX12, 41), rfl, by decide, iX12_keeps_X12, Or.inl (by decide +kernel)⟩
set_option maxRecDepth 20000 in
theorem iX12_keepsBook_X12 : ∀ w ∈ u_ws RX12 TX12 41, w ∈ wsX12_keepsBook := by decide +kernel
set_option maxRecDepth 20000 in
theorem fX12_keepsBook_18 : zF MX12_keepsBook 18 10 8 := ⟨(RX12, TX12, 41), rfl, by decide, iX12_keepsBook_X12, Or.inl (by decide +kernel)⟩
set_option maxRecDepth 20000 in
theorem iX12_isAhead_X12 : ∀ w ∈ u_ws RX12 TX12 41, w ∈ wsX12_isAhead := by decide +kernel
set_option maxRecDepth 20000 in
theorem fX12_isAhead_178 : zF MX12_isAhead 178 10 23 := ⟨(RX12, TX12, 41), rfl, by decide, iX12_isAhead_X12, Or.inl (by decide +kernel)⟩
set_option maxRecDepth 20000 in
theorem fX12_isAhead_50 : zF MX12_isAhead 50 10 22 := ⟨(RX12, TX12, 41), rfl, by decide, iX12_isAhead_X12, Or.inl (by decide +kernel)⟩
set_option maxRecDepth 20000 in
theorem fX12_isAhead_47 : zF MX12_isAhead 47 10 21 := ⟨(RX12, TX12, 41), rfl, by decide, iX12_isAhead_X12, Or.inl (by decide +kernel)⟩
set_option maxRecDepth 20000 in
theorem iX12_searches_X12 : ∀ w ∈ u_ws RX12 TX12 41, w ∈ wsX12_searches := by decide +kernel
set_option maxRecDepth 20000 in
theorem fX12_searches_178 : zF MX12_searches 178 10 23 := ⟨(RX12, TX12, 41), rfl, by decide, iX12_searches_X12, Or.inl (by decide +kernel)⟩
set_option maxRecDepth 20000 in
theorem fX12_searches_187 : zF MX12_searches 187 10 24 := ⟨(RX12, TX12, 41), rfl, by decide, iX12_searches_X12, Or.inl (by decide +kernel)⟩
theorem ft_10_24 : zFt 10 24 false (.int) := ⟨(RX12, TX12, 41), rfl, rfl, by decide +kernel⟩
set_option maxRecDepth 20000 in
theorem fX12_searches_190 : zF MX12_searches 190 10 25 := ⟨(RX12, TX12, 41), rfl, by decide, iX12_searches_X12, Or.inl (by decide +kernel)⟩
set_option maxRecDepth 20000 in
theorem fX12_searches_193 : zF MX12_searches 193 10 27 := ⟨(RX12, TX12, 41), rfl, by decide, iX12_searches_X12, Or.inl (by decide +kernel)⟩
set_option maxRecDepth 20000 in
theorem fX12_searches_196 : zF MX12_searches 196 10 28 := ⟨(RX12, TX12, 41), rfl, by decide, iX12_searches_X12, Or.inl (by decide +kernel)⟩
set_option maxRecDepth 20000 in
theorem fX12_searches_47 : zF MX12_searches 47 10 21 := ⟨(RX12, TX12, 41), rfl, by decide, iX12_searches_X12, Or.inl (by decide +kernel)⟩
set_option maxRecDepth 20000 in
theorem fX12_searches_199 : zF MX12_searches 199 10 29 := ⟨(RX12, TX12, 41), rfl, by decide, iX12_searches_X12, Or.inl (by decide +kernel)⟩
theorem ft_10_29 : zFt 10 29 false (.int) := ⟨(RX12, TX12, 41), rfl, rfl, by decide +kernel⟩
set_option maxRecDepth 20000 in
theorem fX12_searches_202 : zF MX12_searches 202 10 26 := ⟨(RX12, TX12, 41), rfl, by decide, iX12_searches_X12, Or.inl (by decide +kernel)⟩
theorem ft_10_26 : zFt 10 26 false (.int) := ⟨(RX12, TX12, 41), rfl, rfl, by decide +kernel⟩
theorem ft_10_25 : zFt 10 25 false (.int) := ⟨(RX12, TX12, 41), rfl, rfl, by decide +kernel⟩
set_option maxRecDepth 20000 in
theorem fX12_searches_18 : zF MX12_searches 18 10 8 := ⟨(RX12, TX12, 41), rfl, by decide, iX12_searches_X12, Or.inl (by decide +kernel)⟩
set_option maxRecDepth 20000 in
theorem iX12_great_X12 : ∀ w ∈ u_ws RX12 TX12 41, w ∈ wsX12_great := by decide +kernel
set_option maxRecDepth 20000 in
theorem fX12_great_178 : zF MX12_great 178 10 23 := ⟨(RX12, TX12, 41), rfl, by decide, iX12_great_X12, Or.inl (by decide +kernel)⟩
theorem ft_10_23 : zFt 10 23 false (.int) := ⟨(RX12, TX12, 41), rfl, rfl, by decide +kernel⟩
set_option maxRecDepth 20000 in
theorem fX12_great_25 : zF MX12_great 25 10 10 := ⟨(RX12, TX12, 41), rfl, by decide, iX12_great_X12, Or.inl (by decide +kernel)⟩
set_option maxRecDepth 20000 in
theorem fX12_great_18 : zF MX12_great 18 10 8 := ⟨(RX12, TX12, 41), rfl, by decide, iX12_great_X12, Or.inl (by decide +kernel)⟩
set_option maxRecDepth 20000 in
theorem fX12_great_187 : zF MX12_great 187 10 24 := ⟨(RX12, TX12, 41), rfl, by decide, iX12_great_X12, Or.inl (by decide +kernel)⟩
set_option maxRecDepth 20000 in
theorem fX12_great_190 : zF MX12_great 190 10 25 := ⟨(RX12, TX12, 41), rfl, by decide, iX12_great_X12, Or.inl (by decide +kernel)⟩
set_option maxRecDepth 20000 in
theorem fX12_great_202 : zF MX12_great 202 10 26 := ⟨(RX12, TX12, 41), rfl, by decide, iX12_great_X12, Or.inl (by decide +kernel)⟩
set_option maxRecDepth 20000 in
theorem fX12_great_193 : zF MX12_great 193 10 27 := ⟨(RX12, TX12, 41), rfl, by decide, iX12_great_X12, Or.inl (by decide +kernel)⟩
theorem ft_10_27 : zFt 10 27 false (.int) := ⟨(RX12, TX12, 41), rfl, rfl, by decide +kernel⟩
set_option maxRecDepth 20000 in
theorem fX12_great_196 : zF MX12_great 196 10 28 := ⟨(RX12, TX12, 41), rfl, by decide, iX12_great_X12, Or.inl (by decide +kernel)⟩
theorem ft_10_28 : zFt 10 28 false (.int) := ⟨(RX12, TX12, 41), rfl, rfl, by decide +kernel⟩
set_option maxRecDepth 20000 in
theorem fX12_great_199 : zF MX12_great 199 10 29 := ⟨(RX12, TX12, 41), rfl, by decide, iX12_great_X12, Or.inl (by decide +kernel)⟩
set_option maxRecDepth 20000 in
theorem iX12_cast_X12 : ∀ w ∈ u_ws RX12 TX12 41, w ∈ wsX12_cast := by decide +kernel
set_option maxRecDepth 20000 in
theorem fX12_cast_9 : zF MX12_cast 9 10 0 := ⟨(RX12, TX12, 41), rfl, by decide, iX12_cast_X12, Or.inl (by decide +kernel)⟩
set_option maxRecDepth 20000 in
theorem fX12_cast_95 : zF MX12_cast 95 10 2 := ⟨(RX12, TX12, 41), rfl, by decide, iX12_cast_X12, Or.inl (by decide +kernel)⟩
set_option maxRecDepth 20000 in
theorem fX12_cast_28 : zF MX12_cast 28 10 11 := ⟨(RX12, TX12, 41), rfl, by decide, iX12_cast_X12, Or.inl (by decide +kernel)⟩
set_option maxRecDepth 20000 in
theorem iX12_spell_X12 : ∀ w ∈ u_ws RX12 TX12 41, w ∈ wsX12_spell := by decide +kernel
set_option maxRecDepth 20000 in
theorem fX12_spell_95 : zF MX12_spell 95 10 2 := ⟨(RX12, TX12, 41), rfl, by decide, iX12_spell_X12, Or.inl (by decide +kernel)⟩
set_option maxRecDepth 20000 in
theorem fX12_spell_15 : zF MX12_spell 15 10 1 := ⟨(RX12, TX12, 41), rfl, by decide, iX12_spell_X12, Or.inl (by decide +kernel)⟩
set_option maxRecDepth 20000 in
theorem fX12_spell_28 : zF MX12_spell 28 10 11 := ⟨(RX12, TX12, 41), rfl, by decide, iX12_spell_X12, Or.inl (by decide +kernel)⟩
set_option maxRecDepth 20000 in
theorem iX12_tear_X12 : ∀ w ∈ u_ws RX12 TX12 41, w ∈ wsX12_tear := by decide +kernel
set_option maxRecDepth 20000 in
theorem fX12_tear_95 : zF MX12_tear 95 10 2 := ⟨(RX12, TX12, 41), rfl, by decide, iX12_tear_X12, Or.inl (by decide +kernel)⟩
set_option maxRecDepth 20000 in
theorem fX12_tear_28 : zF MX12_tear 28 10 11 := ⟨(RX12, TX12, 41), rfl, by decide, iX12_tear_X12, Or.inl (by decide +kernel)⟩
set_option maxRecDepth 20000 in
theorem iX12_isThere_X12 : ∀ w ∈ u_ws RX12 TX12 41, w ∈ wsX12_isThere := by decide +kernel
set_option maxRecDepth 20000 in
theorem fX12_isThere_18 : zF MX12_isThere 18 10 8 := ⟨(RX12, TX12, 41), rfl, by decide, iX12_isThere_X12, Or.inl (by decide +kernel)⟩
set_option maxRecDepth 20000 in
theorem fX12_isThere_53 : zF MX12_isThere 53 10 30 := ⟨(RX12, TX12, 41), rfl, by decide, iX12_isThere_X12, Or.inl (by decide +kernel)⟩
set_option maxRecDepth 20000 in
theorem iX12_isPossible_X12 : ∀ w ∈ u_ws RX12 TX12 41, w ∈ wsX12_isPossible := by decide +kernel
set_option maxRecDepth 20000 in
theorem fX12_isPossible_15 : zF MX12_isPossible 15 10 1 := ⟨(RX12, TX12, 41), rfl, by decide, iX12_isPossible_X12, Or.inl (by decide +kernel)⟩
set_option maxRecDepth 20000 in
theorem mmX12_isPossible_216 : zMmax MX12_isPossible 216 := by unfold zMmax; decide +kernel
set_option maxRecDepth 20000 in
theorem mmX12_isPossible_140 : zMmin MX12_isPossible 140 := by unfold zMmin; decide +kernel
set_option maxRecDepth 20000 in
theorem fX12_isPossible_53 : zF MX12_isPossible 53 10 30 := ⟨(RX12, TX12, 41), rfl, by decide, iX12_isPossible_X12, Or.inl (by decide +kernel)⟩
set_option maxRecDepth 20000 in
theorem fX12_isPossible_28 : zF MX12_isPossible 28 10 11 := ⟨(RX12, TX12, 41), rfl, by decide, iX12_isPossible_X12, Or.inl (by decide +kernel)⟩
set_option maxRecDepth 20000 in
theorem iX12_possibleOf_X12 : ∀ w ∈ u_ws RX12 TX12 41, w ∈ wsX12_possibleOf := by decide +kernel
set_option maxRecDepth 20000 in
theorem fX12_possibleOf_15 : zF MX12_possibleOf 15 10 1 := ⟨(RX12, TX12, 41), rfl, by decide, iX12_possibleOf_X12, Or.inl (by decide +kernel)⟩
set_option maxRecDepth 20000 in
theorem iX12_possible_X12 : ∀ w ∈ u_ws RX12 TX12 41, w ∈ wsX12_possible := by decide +kernel
set_option maxRecDepth 20000 in
theorem fX12_possible_95 : zF MX12_possible 95 10 2 := ⟨(RX12, TX12, 41), rfl, by decide, iX12_possible_X12, Or.inl (by decide +kernel)⟩
set_option maxRecDepth 20000 in
theorem iX12_certain_X12 : ∀ w ∈ u_ws RX12 TX12 41, w ∈ wsX12_certain := by decide +kernel
set_option maxRecDepth 20000 in
theorem fX12_certain_95 : zF MX12_certain 95 10 2 := ⟨(RX12, TX12, 41), rfl, by decide, iX12_certain_X12, Or.inl (by decide +kernel)⟩
set_option maxRecDepth 20000 in
theorem iX12_goesOn_X12 : ∀ w ∈ u_ws RX12 TX12 41, w ∈ wsX12_goesOn := by decide +kernel
set_option maxRecDepth 20000 in
theorem fX12_goesOn_15 : zF MX12_goesOn 15 10 1 := ⟨(RX12, TX12, 41), rfl, by decide, iX12_goesOn_X12, Or.inl (by decide +kernel)⟩
set_option maxRecDepth 20000 in
theorem mmX12_goesOn_140 : zMmin MX12_goesOn 140 := by unfold zMmin; decide +kernel
set_option maxRecDepth 20000 in
theorem fX12_goesOn_53 : zF MX12_goesOn 53 10 30 := ⟨(RX12, TX12, 41), rfl, by decide, iX12_goesOn_X12, Or.inl (by decide +kernel)⟩
set_option maxRecDepth 20000 in
theorem fX12_goesOn_9 : zF MX12_goesOn 9 10 0 := ⟨(RX12, TX12, 41), rfl, by decide, iX12_goesOn_X12, Or.inl (by decide +kernel)⟩
set_option maxRecDepth 20000 in
theorem iX12_longest_X12 : ∀ w ∈ u_ws RX12 TX12 41, w ∈ wsX12_longest := by decide +kernel
set_option maxRecDepth 20000 in
theorem fX12_longest_9 : zF MX12_longest 9 10 0 := ⟨(RX12, TX12, 41), rfl, by decide, iX12_longest_X12, Or.inl (by decide +kernel)⟩
set_option maxRecDepth 20000 in
theorem fX12_longest_15 : zF MX12_longest 15 10 1 := ⟨(RX12, TX12, 41), rfl, by decide, iX12_longest_X12, Or.inl (by decide +kernel)⟩
set_option maxRecDepth 20000 in
theorem fX12_longest_56 : zF MX12_longest 56 10 31 := ⟨(RX12, TX12, 41), rfl, by decide, iX12_longest_X12, Or.inl (by decide +kernel)⟩
set_option maxRecDepth 20000 in
theorem fX12_longest_59 : zF MX12_longest 59 10 32 := ⟨(RX12, TX12, 41), rfl, by decide, iX12_longest_X12, Or.inl (by decide +kernel)⟩
set_option maxRecDepth 20000 in
theorem iX12_delay_X12 : ∀ w ∈ u_ws RX12 TX12 41, w ∈ wsX12_delay := by decide +kernel
set_option maxRecDepth 20000 in
theorem fX12_delay_15 : zF MX12_delay 15 10 1 := ⟨(RX12, TX12, 41), rfl, by decide, iX12_delay_X12, Or.inl (by decide +kernel)⟩
set_option maxRecDepth 20000 in
theorem mmX12_delay_216 : zMmax MX12_delay 216 := by unfold zMmax; decide +kernel
set_option maxRecDepth 20000 in
theorem iX12_odds_X12 : ∀ w ∈ u_ws RX12 TX12 41, w ∈ wsX12_odds := by decide +kernel
set_option maxRecDepth 20000 in
theorem fX12_odds_25 : zF MX12_odds 25 10 10 := ⟨(RX12, TX12, 41), rfl, by decide, iX12_odds_X12, Or.inl (by decide +kernel)⟩
set_option maxRecDepth 20000 in
theorem fX12_odds_18 : zF MX12_odds 18 10 8 := ⟨(RX12, TX12, 41), rfl, by decide, iX12_odds_X12, Or.inl (by decide +kernel)⟩
set_option maxRecDepth 20000 in
theorem iX12_plan_X12 : ∀ w ∈ u_ws RX12 TX12 41, w ∈ wsX12_plan := by decide +kernel
set_option maxRecDepth 20000 in
theorem fX12_plan_98 : zF MX12_plan 98 10 3 := ⟨(RX12, TX12, 41), rfl, by decide, iX12_plan_X12, Or.inl (by decide +kernel)⟩
set_option maxRecDepth 20000 in
theorem fX12_plan_35 : zF MX12_plan 35 10 13 := ⟨(RX12, TX12, 41), rfl, by decide, iX12_plan_X12, Or.inl (by decide +kernel)⟩
set_option maxRecDepth 20000 in
theorem iX12_does_X12 : ∀ w ∈ u_ws RX12 TX12 41, w ∈ wsX12_does := by decide +kernel
set_option maxRecDepth 20000 in
theorem fX12_does_18 : zF MX12_does 18 10 8 := ⟨(RX12, TX12, 41), rfl, by decide, iX12_does_X12, Or.inl (by decide +kernel)⟩
set_option maxRecDepth 20000 in
theorem iX12_behind_X12 : ∀ w ∈ u_ws RX12 TX12 41, w ∈ wsX12_behind := by decide +kernel
set_option maxRecDepth 20000 in
theorem fX12_behind_25 : zF MX12_behind 25 10 10 := ⟨(RX12, TX12, 41), rfl, by decide, iX12_behind_X12, Or.inl (by decide +kernel)⟩
set_option maxRecDepth 20000 in
theorem fX12_behind_98 : zF MX12_behind 98 10 3 := ⟨(RX12, TX12, 41), rfl, by decide, iX12_behind_X12, Or.inl (by decide +kernel)⟩
set_option maxRecDepth 20000 in
theorem fX12_behind_35 : zF MX12_behind 35 10 13 := ⟨(RX12, TX12, 41), rfl, by decide, iX12_behind_X12, Or.inl (by decide +kernel)⟩
set_option maxRecDepth 20000 in
theorem fX12_behind_18 : zF MX12_behind 18 10 8 := ⟨(RX12, TX12, 41), rfl, by decide, iX12_behind_X12, Or.inl (by decide +kernel)⟩
set_option maxRecDepth 20000 in
theorem iX12_feed_X12 : ∀ w ∈ u_ws RX12 TX12 41, w ∈ wsX12_feed := by decide +kernel
set_option maxRecDepth 20000 in
theorem fX12_feed_256 : zF MX12_feed 256 10 36 := ⟨(RX12, TX12, 41), rfl, by decide, iX12_feed_X12, Or.inl (by decide +kernel)⟩
set_option maxRecDepth 20000 in
theorem fX12_feed_62 : zF MX12_feed 62 10 33 := ⟨(RX12, TX12, 41), rfl, by decide, iX12_feed_X12, Or.inl (by decide +kernel)⟩
theorem ft_10_36 : zFt 10 36 false (.int) := ⟨(RX12, TX12, 41), rfl, rfl, by decide +kernel⟩
set_option maxRecDepth 20000 in
theorem iX12_book_X12 : ∀ w ∈ u_ws RX12 TX12 41, w ∈ wsX12_book := by decide +kernel
set_option maxRecDepth 20000 in
theorem fX12_book_44 : zF MX12_book 44 10 20 := ⟨(RX12, TX12, 41), rfl, by decide, iX12_book_X12, Or.inl (by decide +kernel)⟩
set_option maxRecDepth 20000 in
theorem fX12_book_256 : zF MX12_book 256 10 36 := ⟨(RX12, TX12, 41), rfl, by decide, iX12_book_X12, Or.inl (by decide +kernel)⟩
set_option maxRecDepth 20000 in
theorem fX12_book_62 : zF MX12_book 62 10 33 := ⟨(RX12, TX12, 41), rfl, by decide, iX12_book_X12, Or.inl (by decide +kernel)⟩
set_option maxRecDepth 20000 in
theorem fX12_book_15 : zF MX12_book 15 10 1 := ⟨(RX12, TX12, 41), rfl, by decide, iX12_book_X12, Or.inl (by decide +kernel)⟩
set_option maxRecDepth 20000 in
theorem fX12_book_9 : zF MX12_book 9 10 0 := ⟨(RX12, TX12, 41), rfl, by decide, iX12_book_X12, Or.inl (by decide +kernel)⟩
set_option maxRecDepth 20000 in
theorem fX12_book_261 : zF MX12_book 261 10 38 := ⟨(RX12, TX12, 41), rfl, by decide, iX12_book_X12, Or.inl (by decide +kernel)⟩
theorem ft_10_38 : zFt 10 38 false (.boolean) := ⟨(RX12, TX12, 41), rfl, rfl, by decide +kernel⟩
set_option maxRecDepth 20000 in
theorem fX12_book_68 : zF MX12_book 68 10 35 := ⟨(RX12, TX12, 41), rfl, by decide, iX12_book_X12, Or.inl (by decide +kernel)⟩
set_option maxRecDepth 20000 in
theorem iX12_why_X12 : ∀ w ∈ u_ws RX12 TX12 41, w ∈ wsX12_why := by decide +kernel
set_option maxRecDepth 20000 in
theorem fX12_why_261 : zF MX12_why 261 10 38 := ⟨(RX12, TX12, 41), rfl, by decide, iX12_why_X12, Or.inl (by decide +kernel)⟩
set_option maxRecDepth 20000 in
theorem fX12_why_68 : zF MX12_why 68 10 35 := ⟨(RX12, TX12, 41), rfl, by decide, iX12_why_X12, Or.inl (by decide +kernel)⟩
set_option maxRecDepth 20000 in
theorem iX12_write_X12 : ∀ w ∈ u_ws RX12 TX12 41, w ∈ wsX12_write := by decide +kernel
set_option maxRecDepth 20000 in
theorem fX12_write_265 : zF MX12_write 265 10 37 := ⟨(RX12, TX12, 41), rfl, by decide, iX12_write_X12, Or.inl (by decide +kernel)⟩
theorem ft_10_37 : zFt 10 37 false (.int) := ⟨(RX12, TX12, 41), rfl, rfl, by decide +kernel⟩
set_option maxRecDepth 20000 in
theorem fX12_write_18 : zF MX12_write 18 10 8 := ⟨(RX12, TX12, 41), rfl, by decide, iX12_write_X12, Or.inl (by decide +kernel)⟩
set_option maxRecDepth 20000 in
theorem fX12_write_65 : zF MX12_write 65 10 34 := ⟨(RX12, TX12, 41), rfl, by decide, iX12_write_X12, Or.inl (by decide +kernel)⟩
set_option maxRecDepth 20000 in
theorem fX12_write_15 : zF MX12_write 15 10 1 := ⟨(RX12, TX12, 41), rfl, by decide, iX12_write_X12, Or.inl (by decide +kernel)⟩
set_option maxRecDepth 20000 in
theorem iX12_paper_X12 : ∀ w ∈ u_ws RX12 TX12 41, w ∈ wsX12_paper := by decide +kernel
set_option maxRecDepth 20000 in
theorem fX12_paper_265 : zF MX12_paper 265 10 37 := ⟨(RX12, TX12, 41), rfl, by decide, iX12_paper_X12, Or.inl (by decide +kernel)⟩
set_option maxRecDepth 20000 in
theorem fX12_paper_65 : zF MX12_paper 65 10 34 := ⟨(RX12, TX12, 41), rfl, by decide, iX12_paper_X12, Or.inl (by decide +kernel)⟩
set_option maxRecDepth 20000 in
theorem iX12_judge_X12 : ∀ w ∈ u_ws RX12 TX12 41, w ∈ wsX12_judge := by decide +kernel
set_option maxRecDepth 20000 in
theorem fX12_judge_71 : zF MX12_judge 71 10 39 := ⟨(RX12, TX12, 41), rfl, by decide, iX12_judge_X12, Or.inl (by decide +kernel)⟩
set_option maxRecDepth 20000 in
theorem fX12_judge_74 : zF MX12_judge 74 10 40 := ⟨(RX12, TX12, 41), rfl, by decide, iX12_judge_X12, Or.inl (by decide +kernel)⟩
set_option maxRecDepth 20000 in
theorem iX12_list_X12 : ∀ w ∈ u_ws RX12 TX12 41, w ∈ wsX12_list := by decide +kernel
set_option maxRecDepth 20000 in
theorem fX12_list_71 : zF MX12_list 71 10 39 := ⟨(RX12, TX12, 41), rfl, by decide, iX12_list_X12, Or.inl (by decide +kernel)⟩
set_option maxRecDepth 20000 in
theorem fX12_list_74 : zF MX12_list 74 10 40 := ⟨(RX12, TX12, 41), rfl, by decide, iX12_list_X12, Or.inl (by decide +kernel)⟩
set_option maxRecDepth 20000 in
theorem iX12_put_X12 : ∀ w ∈ u_ws RX12 TX12 41, w ∈ wsX12_put := by decide +kernel
set_option maxRecDepth 20000 in
theorem fX12_put_71 : zF MX12_put 71 10 39 := ⟨(RX12, TX12, 41), rfl, by decide, iX12_put_X12, Or.inl (by decide +kernel)⟩
set_option maxRecDepth 20000 in
theorem fX12_put_74 : zF MX12_put 74 10 40 := ⟨(RX12, TX12, 41), rfl, by decide, iX12_put_X12, Or.inl (by decide +kernel)⟩
set_option maxRecDepth 20000 in
theorem iX12_get_X12 : ∀ w ∈ u_ws RX12 TX12 41, w ∈ wsX12_get := by decide +kernel
set_option maxRecDepth 20000 in
theorem fX12_get_71 : zF MX12_get 71 10 39 := ⟨(RX12, TX12, 41), rfl, by decide, iX12_get_X12, Or.inl (by decide +kernel)⟩
set_option maxRecDepth 20000 in
theorem fX12_get_74 : zF MX12_get 74 10 40 := ⟨(RX12, TX12, 41), rfl, by decide, iX12_get_X12, Or.inl (by decide +kernel)⟩
set_option maxRecDepth 20000 in
theorem iX12_image_X12 : ∀ w ∈ u_ws RX12 TX12 41, w ∈ wsX12_image := by decide +kernel
set_option maxRecDepth 20000 in
theorem fX12_image_9 : zF MX12_image 9 10 0 := ⟨(RX12, TX12, 41), rfl, by decide, iX12_image_X12, Or.inl (by decide +kernel)⟩
set_option maxRecDepth 20000 in
theorem fX12_image_271 : zF MX12_image 271 10 4 := ⟨(RX12, TX12, 41), rfl, by decide, iX12_image_X12, Or.inl (by decide +kernel)⟩
theorem ft_10_4 : zFt 10 4 false (.int) := ⟨(RX12, TX12, 41), rfl, rfl, by decide +kernel⟩
set_option maxRecDepth 20000 in
theorem fX12_image_15 : zF MX12_image 15 10 1 := ⟨(RX12, TX12, 41), rfl, by decide, iX12_image_X12, Or.inl (by decide +kernel)⟩
set_option maxRecDepth 20000 in
theorem fX12_image_274 : zF MX12_image 274 10 5 := ⟨(RX12, TX12, 41), rfl, by decide, iX12_image_X12, Or.inl (by decide +kernel)⟩
theorem ft_10_5 : zFt 10 5 false (.int) := ⟨(RX12, TX12, 41), rfl, rfl, by decide +kernel⟩
set_option maxRecDepth 20000 in
theorem fX12_image_22 : zF MX12_image 22 10 9 := ⟨(RX12, TX12, 41), rfl, by decide, iX12_image_X12, Or.inl (by decide +kernel)⟩
set_option maxRecDepth 20000 in
theorem fX12_image_95 : zF MX12_image 95 10 2 := ⟨(RX12, TX12, 41), rfl, by decide, iX12_image_X12, Or.inl (by decide +kernel)⟩
set_option maxRecDepth 20000 in
theorem fX12_image_277 : zF MX12_image 277 10 6 := ⟨(RX12, TX12, 41), rfl, by decide, iX12_image_X12, Or.inl (by decide +kernel)⟩
theorem ft_10_6 : zFt 10 6 false (.int) := ⟨(RX12, TX12, 41), rfl, rfl, by decide +kernel⟩
set_option maxRecDepth 20000 in
theorem fX12_image_98 : zF MX12_image 98 10 3 := ⟨(RX12, TX12, 41), rfl, by decide, iX12_image_X12, Or.inl (by decide +kernel)⟩
set_option maxRecDepth 20000 in
theorem fX12_image_280 : zF MX12_image 280 10 7 := ⟨(RX12, TX12, 41), rfl, by decide, iX12_image_X12, Or.inl (by decide +kernel)⟩
theorem ft_10_7 : zFt 10 7 false (.int) := ⟨(RX12, TX12, 41), rfl, rfl, by decide +kernel⟩
set_option maxRecDepth 20000 in
theorem fX12_image_32 : zF MX12_image 32 10 12 := ⟨(RX12, TX12, 41), rfl, by decide, iX12_image_X12, Or.inl (by decide +kernel)⟩
set_option maxRecDepth 20000 in
theorem fX12_image_28 : zF MX12_image 28 10 11 := ⟨(RX12, TX12, 41), rfl, by decide, iX12_image_X12, Or.inl (by decide +kernel)⟩
set_option maxRecDepth 20000 in
theorem fX12_image_38 : zF MX12_image 38 10 14 := ⟨(RX12, TX12, 41), rfl, by decide, iX12_image_X12, Or.inl (by decide +kernel)⟩
set_option maxRecDepth 20000 in
theorem fX12_image_35 : zF MX12_image 35 10 13 := ⟨(RX12, TX12, 41), rfl, by decide, iX12_image_X12, Or.inl (by decide +kernel)⟩
set_option maxRecDepth 20000 in
theorem fX12_image_283 : zF MX12_image 283 10 15 := ⟨(RX12, TX12, 41), rfl, by decide, iX12_image_X12, Or.inl (by decide +kernel)⟩
theorem ft_10_15 : zFt 10 15 false (.boolean) := ⟨(RX12, TX12, 41), rfl, rfl, by decide +kernel⟩
set_option maxRecDepth 20000 in
theorem iX12_undo_X12 : ∀ w ∈ u_ws RX12 TX12 41, w ∈ wsX12_undo := by decide +kernel
set_option maxRecDepth 20000 in
theorem fX12_undo_283 : zF MX12_undo 283 10 15 := ⟨(RX12, TX12, 41), rfl, by decide, iX12_undo_X12, Or.inl (by decide +kernel)⟩
set_option maxRecDepth 20000 in
theorem fX12_undo_271 : zF MX12_undo 271 10 4 := ⟨(RX12, TX12, 41), rfl, by decide, iX12_undo_X12, Or.inl (by decide +kernel)⟩
set_option maxRecDepth 20000 in
theorem fX12_undo_9 : zF MX12_undo 9 10 0 := ⟨(RX12, TX12, 41), rfl, by decide, iX12_undo_X12, Or.inl (by decide +kernel)⟩
set_option maxRecDepth 20000 in
theorem fX12_undo_274 : zF MX12_undo 274 10 5 := ⟨(RX12, TX12, 41), rfl, by decide, iX12_undo_X12, Or.inl (by decide +kernel)⟩
set_option maxRecDepth 20000 in
theorem fX12_undo_15 : zF MX12_undo 15 10 1 := ⟨(RX12, TX12, 41), rfl, by decide, iX12_undo_X12, Or.inl (by decide +kernel)⟩
set_option maxRecDepth 20000 in
theorem fX12_undo_18 : zF MX12_undo 18 10 8 := ⟨(RX12, TX12, 41), rfl, by decide, iX12_undo_X12, Or.inl (by decide +kernel)⟩
set_option maxRecDepth 20000 in
theorem fX12_undo_22 : zF MX12_undo 22 10 9 := ⟨(RX12, TX12, 41), rfl, by decide, iX12_undo_X12, Or.inl (by decide +kernel)⟩
set_option maxRecDepth 20000 in
theorem fX12_undo_277 : zF MX12_undo 277 10 6 := ⟨(RX12, TX12, 41), rfl, by decide, iX12_undo_X12, Or.inl (by decide +kernel)⟩
set_option maxRecDepth 20000 in
theorem fX12_undo_95 : zF MX12_undo 95 10 2 := ⟨(RX12, TX12, 41), rfl, by decide, iX12_undo_X12, Or.inl (by decide +kernel)⟩
set_option maxRecDepth 20000 in
theorem fX12_undo_280 : zF MX12_undo 280 10 7 := ⟨(RX12, TX12, 41), rfl, by decide, iX12_undo_X12, Or.inl (by decide +kernel)⟩
set_option maxRecDepth 20000 in
theorem fX12_undo_98 : zF MX12_undo 98 10 3 := ⟨(RX12, TX12, 41), rfl, by decide, iX12_undo_X12, Or.inl (by decide +kernel)⟩
set_option maxRecDepth 20000 in
theorem fX12_undo_28 : zF MX12_undo 28 10 11 := ⟨(RX12, TX12, 41), rfl, by decide, iX12_undo_X12, Or.inl (by decide +kernel)⟩
set_option maxRecDepth 20000 in
theorem fX12_undo_32 : zF MX12_undo 32 10 12 := ⟨(RX12, TX12, 41), rfl, by decide, iX12_undo_X12, Or.inl (by decide +kernel)⟩
set_option maxRecDepth 20000 in
theorem fX12_undo_35 : zF MX12_undo 35 10 13 := ⟨(RX12, TX12, 41), rfl, by decide, iX12_undo_X12, Or.inl (by decide +kernel)⟩
set_option maxRecDepth 20000 in
theorem fX12_undo_38 : zF MX12_undo 38 10 14 := ⟨(RX12, TX12, 41), rfl, by decide, iX12_undo_X12, Or.inl (by decide +kernel)⟩
set_option maxRecDepth 20000 in
theorem iX12_count_X12 : ∀ w ∈ u_ws RX12 TX12 41, w ∈ wsX12_count := by decide +kernel
set_option maxRecDepth 20000 in
theorem fX12_count_9 : zF MX12_count 9 10 0 := ⟨(RX12, TX12, 41), rfl, by decide, iX12_count_X12, Or.inl (by decide +kernel)⟩
set_option maxRecDepth 20000 in
theorem fX12_count_15 : zF MX12_count 15 10 1 := ⟨(RX12, TX12, 41), rfl, by decide, iX12_count_X12, Or.inl (by decide +kernel)⟩
set_option maxRecDepth 20000 in
theorem fX12_count_95 : zF MX12_count 95 10 2 := ⟨(RX12, TX12, 41), rfl, by decide, iX12_count_X12, Or.inl (by decide +kernel)⟩
set_option maxRecDepth 20000 in
theorem fX12_count_256 : zF MX12_count 256 10 36 := ⟨(RX12, TX12, 41), rfl, by decide, iX12_count_X12, Or.inl (by decide +kernel)⟩
set_option maxRecDepth 20000 in
theorem fX12_count_265 : zF MX12_count 265 10 37 := ⟨(RX12, TX12, 41), rfl, by decide, iX12_count_X12, Or.inl (by decide +kernel)⟩
set_option maxRecDepth 20000 in
theorem fX12_count_98 : zF MX12_count 98 10 3 := ⟨(RX12, TX12, 41), rfl, by decide, iX12_count_X12, Or.inl (by decide +kernel)⟩
