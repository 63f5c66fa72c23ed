/-! the model: texts -/
/-- the h letters ahead of place i are no blanks, what is ahead of them is one (or nothing) -/
def TH (T : Nat → Nat) (i h : Nat) : Prop := h ≤ i ∧ (∀ j, i - h ≤ j → j < i → T j ≠ 32) ∧ (h < i → T (i - h - 1) = 32)
abbrev bkM (q n fd : Nat) (B : Nat → Bool) (yw : Bool) (Wy : Nat → Int32) (r : Bool × Nat × Nat × Nat × (Nat → Bool)) : (Nat → Bool) × Bool := (if r.1 then r.2.2.2.2 else B, if r.1 then yw else true)
section MDL8
variable {tO d m0 : Nat} {A : Nat → Nat} {q n cut rows kq kn kc kr fd wn : Nat} {kt yw : Bool} {cu cv ck rm mo bo ki wa wr fo : Int32} {B KB : Nat → Bool} {Wb R KR P KP Od Ig Pk Lt Lk Rd Nx Tp Pa Wy Sz It : Nat → Int32}
theorem s_X12_feed (hd : 2 ≤ d) (hm : fd ≤ 60) {T : Nat → Nat} (hT : TpOK fd Tp T) {x : Int32} : Sp tO MX12_feed (d, 0, 0) [.ref m0, .int x] [obM m0 A q n cut rows kq kn kc kr kt cu cv ck rm mo bo ki wa wr fo fd wn yw, (A 14, aI 60 Tp)] (fun v' w' => ∃ Tp', v' = some (.int (feV fd x)) ∧ w' = [obM m0 A q n cut rows kq kn kc kr kt cu cv ck rm mo bo ki wa wr fo (feN fd x) wn yw, (A 14, aI 60 Tp')] ∧ TpOK (feN fd x) Tp' (feT fd x T)) := by
  refine eX12_feed [some (.ref m0), some (.int x)] rfl (Nat.le_of_ble_eq_true rfl) ?_
  unfold feV feN feT
  refine V_iload_n dX12_feed_0 rfl ?_
  refine V_i2l dX12_feed_1 ?_
  refine V_lconst (v := 1) dX12_feed_2 (by decide) ?_
  refine V_ldc2 (v := 127) dX12_feed_3 (by decide +kernel) ?_
  refine V_callSpi3 [] (s_X12_isInL (d := d - 1) (by omega) (lo := 1) (hi := 127) (by decide) (by decide)) gX12_feed_X12_isIn dX12_feed_6 oX12_isIn rfl rfl (Nat.le_of_ble_eq_true rfl) (by omega) ⟨Nat.le_refl _, Nat.le_refl _⟩ ?_
  first | refine V_if_ne_B 15 dX12_feed_9 (by decide) (fun c_9 => ?_) (fun c_9 => ?_) | refine V_if_ne_N 15 dX12_feed_9 (by decide) (by omega) (fun c_9 => ?_) (fun c_9 => ?_) | refine V_if_ne 15 dX12_feed_9 (by decide) (fun c_9 => ?_) (fun c_9 => ?_)
  ·
    rw [show feOK x = true from c_9, if_pos rfl, if_pos rfl, if_pos rfl]
    have h9 := of_decide_eq_true c_9
    refine V_aload_n dX12_feed_15 rfl ?_
    refine V_get 0 dX12_feed_16 fX12_feed_256 rfl rfl ?_
    refine V_bipush (v := nI 60) dX12_feed_19 (by decide) ?_
    refine V_icmp_ne_N 27 dX12_feed_21 (by decide) (by omega) (by decide) (fun c_21 => ?_) (fun c_21 => ?_)
    ·
      rw [if_pos (by omega), if_pos (by omega), if_pos (by omega)]
      refine V_aload_n dX12_feed_27 rfl ?_
      refine V_get 0 dX12_feed_28 fX12_feed_62 rfl rfl ?_
      refine V_aload_n dX12_feed_31 rfl ?_
      refine V_get 0 dX12_feed_32 fX12_feed_256 rfl rfl ?_
      refine V_iload_n dX12_feed_35 rfl ?_
      refine V_iast_N 1 dX12_feed_36 rfl (by omega) (by first | decide | omega) ?_
      refine V_aload_n dX12_feed_37 rfl ?_
      refine V_dup dX12_feed_38 rfl ?_
      refine V_get 0 dX12_feed_39 fX12_feed_256 rfl rfl ?_
      refine V_iconst (v := nI 1) dX12_feed_42 (by decide) ?_
      first | refine V_iadd_N dX12_feed_43 ?_ | refine V_iadd dX12_feed_43 ?_
      refine V_put 0 dX12_feed_44 fX12_feed_256 ft_10_36 rfl rfl rfl (Nat.le_of_ble_eq_true rfl) ?_
      refine V_aload_n dX12_feed_47 rfl ?_
      refine V_get 0 dX12_feed_48 fX12_feed_256 rfl rfl ?_
      refine V_iret dX12_feed_51 rfl (Nat.le_of_ble_eq_true rfl) (Nat.le_refl _) (Nat.le_refl _) ?_
      refine ⟨_, rfl, rfl, fun j hj => ?_⟩
      unfold upd updN
      by_cases e : j = fd
      · rw [if_pos e, if_pos e]; exact ⟨toInt_nI (by omega), by omega⟩
      · rw [if_neg e, if_neg e]; exact hT j (by omega)
    ·
      rw [if_neg (by omega), if_neg (by omega), if_neg (by omega)]
      refine V_bipush (v := (-4)) dX12_feed_24 (by decide) ?_
      refine V_iret dX12_feed_26 rfl (Nat.le_of_ble_eq_true rfl) (Nat.le_refl _) (Nat.le_refl _) ?_
      exact ⟨Tp, rfl, rfl, hT⟩
  ·
    rw [show feOK x = false from c_9]
    refine V_bipush (v := (-2)) dX12_feed_12 (by decide) ?_
    refine V_iret dX12_feed_14 rfl (Nat.le_of_ble_eq_true rfl) (Nat.le_refl _) (Nat.le_refl _) ?_
    exact ⟨Tp, rfl, rfl, hT⟩
theorem l_X12_book_fail (hm : fd ≤ 60) {T : Nat → Nat} (hT : TpOK fd Tp T) {i h2 cnt : Nat} (hi : i ≤ fd) (hth : TH T i h2) {w0 : zW} {Q : zPo} (hw0 : w0.length = 5) {x3 x4 x5 : Int32} (hQ : Q (some (.int (-100 - nI i))) [obM m0 A q n cut rows kq kn kc kr kt cu cv ck rm mo bo ki wa wr fo 0 wn true, (A 0, aZ 256 (hdF B)), (A 8, aZ 256 Ig), (A 14, aI 60 Tp), (A 16, aI 3 (upd (upd (upd Wy 0 (nI cnt)) 1 (nI h2)) 2 (nI i)))]) : ∀ (f b : Nat), i - h2 + f = b → b ≤ i → V tO MX12_book (d, 0, 0) w0 Q (0, 0) [obM m0 A q n cut rows kq kn kc kr kt cu cv ck rm mo bo ki wa wr fo fd wn true, (A 0, aZ 256 (hdF B)), (A 8, aZ 256 Ig), (A 14, aI 60 Tp), (A 16, aI 3 Wy)] 232 [some (.ref m0), some (.int (nI i)), some (.int (nI cnt)), some (.int x3), some (.int x4), some (.int x5), some (.int (nI b))] [] := by
  obtain ⟨h1, h3, h4⟩ := hth
  have fin : V tO MX12_book (d, 0, 0) w0 Q (0, 0) [obM m0 A q n cut rows kq kn kc kr kt cu cv ck rm mo bo ki wa wr fo fd wn true, (A 0, aZ 256 (hdF B)), (A 8, aZ 256 Ig), (A 14, aI 60 Tp), (A 16, aI 3 Wy)] 257 [some (.ref m0), some (.int (nI i)), some (.int (nI cnt)), some (.int x3), some (.int x4), some (.int x5), some (.int (nI (i - h2)))] [] := by
    have e : i - (i - h2) = h2 := by omega
    refine V_aload_n dX12_book_257 rfl ?_
    refine V_get 0 dX12_book_258 fX12_book_68 rfl rfl ?_
    refine V_iconst (v := nI 0) dX12_book_261 (by decide) ?_
    refine V_iload_n dX12_book_262 rfl ?_
    refine V_iast_N 4 dX12_book_263 rfl (by omega) (by first | decide | omega) ?_
    refine V_aload_n dX12_book_264 rfl ?_
    refine V_get 0 dX12_book_265 fX12_book_68 rfl rfl ?_
    refine V_iconst (v := nI 1) dX12_book_268 (by decide) ?_
    refine V_iload_n dX12_book_269 rfl ?_
    refine V_iload dX12_book_270 rfl ?_
    first | refine V_isub_N dX12_book_272 (by omega) ?_ | refine V_isub dX12_book_272 ?_
    rw [e]
    refine V_iast_N 4 dX12_book_273 rfl (by omega) (by first | decide | omega) ?_
    refine V_aload_n dX12_book_274 rfl ?_
    refine V_get 0 dX12_book_275 fX12_book_68 rfl rfl ?_
    refine V_iconst (v := nI 2) dX12_book_278 (by decide) ?_
    refine V_iload_n dX12_book_279 rfl ?_
    refine V_iast_N 4 dX12_book_280 rfl (by omega) (by first | decide | omega) ?_
    refine V_aload_n dX12_book_281 rfl ?_
    refine V_iconst (v := nI 0) dX12_book_282 (by decide) ?_
    refine V_put 0 dX12_book_283 fX12_book_256 ft_10_36 rfl rfl rfl (Nat.le_of_ble_eq_true rfl) ?_
    refine V_bipush (v := (-100)) dX12_book_286 (by decide) ?_
    refine V_iload_n dX12_book_288 rfl ?_
    refine V_isub dX12_book_289 ?_
    refine V_iret dX12_book_290 rfl (by rw [hw0]; exact Nat.le_of_ble_eq_true rfl) (Nat.le_refl _) (Nat.le_refl _) ?_
    exact hQ
  intro f
  induction f with
  | zero =>
    intro b hb hbi
    have e : b = i - h2 := by omega
    subst e
    refine V_iload dX12_book_232 rfl ?_
    refine V_if_le_N 257 dX12_book_234 (by decide) (by omega) (fun c_234 => ?_) (fun c_234 => ?_)
    ·
      exact fin
    ·
      refine V_aload_n dX12_book_237 rfl ?_
      refine V_get 0 dX12_book_238 fX12_book_62 rfl rfl ?_
      refine V_iload dX12_book_241 rfl ?_
      refine V_iconst (v := nI 1) dX12_book_243 (by decide) ?_
      first | refine V_isub_N dX12_book_244 (by omega) ?_ | refine V_isub dX12_book_244 ?_
      have e2 := (hT (i - h2 - 1) (by omega)).1
      refine V_iald_N 3 dX12_book_245 rfl (by omega) (by first | decide | omega) ?_
      rw [e2, h4 (by omega)]
      refine V_bipush (v := nI 32) dX12_book_246 (by decide) ?_
      refine V_icmp_eq_N 257 dX12_book_248 (by decide) (by decide) (by decide) (fun c_248 => ?_) (fun c_248 => absurd rfl c_248)
      exact fin
  | succ f ih =>
    intro b hb hbi
    have e2 := hT (b - 1) (by omega)
    have e3 := h3 (b - 1) (by omega) (by omega)
    have i1 := ih (b - 1) (by omega) (by omega)
    refine V_iload dX12_book_232 rfl ?_
    refine V_if_le_N 257 dX12_book_234 (by decide) (by omega) (fun c_234 => absurd c_234 (by omega)) (fun c_234 => ?_)
    refine V_aload_n dX12_book_237 rfl ?_
    refine V_get 0 dX12_book_238 fX12_book_62 rfl rfl ?_
    refine V_iload dX12_book_241 rfl ?_
    refine V_iconst (v := nI 1) dX12_book_243 (by decide) ?_
    first | refine V_isub_N dX12_book_244 (by omega) ?_ | refine V_isub dX12_book_244 ?_
    refine V_iald_N 3 dX12_book_245 rfl (by omega) (by first | decide | omega) ?_
    rw [e2.1]
    refine V_bipush (v := nI 32) dX12_book_246 (by decide) ?_
    refine V_icmp_eq_N 257 dX12_book_248 (by decide) (by omega) (by decide) (fun c_248 => absurd c_248 e3) (fun c_248 => ?_)
    refine V_iinc (v := nI (b - 1)) dX12_book_251 rfl (by rw [show Int32.ofInt (-1) = -1 from by decide, show b = (b - 1) + 1 by omega]; exact pk_m1 _) (by decide) rfl ?_
    refine V_goto 232 dX12_book_254 (by decide) ?_
    exact i1
theorem l_X12_book_224 (hm : fd ≤ 60) {T : Nat → Nat} (hT : TpOK fd Tp T) {i h2 cnt : Nat} (hi : i ≤ fd) (hth : TH T i h2) {w0 : zW} {Q : zPo} (hw0 : w0.length = 5) {x3 x4 x5 : Int32} {o6 : Option Value} (hQ : Q (some (.int (-100 - nI i))) [obM m0 A q n cut rows kq kn kc kr kt cu cv ck rm mo bo ki wa wr fo 0 wn true, (A 0, aZ 256 (hdF B)), (A 8, aZ 256 Ig), (A 14, aI 60 Tp), (A 16, aI 3 (upd (upd (upd Wy 0 (nI cnt)) 1 (nI h2)) 2 (nI i)))]) : V tO MX12_book (d, 0, 0) w0 Q (0, 0) [obM m0 A q n cut rows kq kn kc kr kt cu cv ck rm mo bo ki wa wr fo fd wn yw, (A 0, aZ 256 (hdF B)), (A 8, aZ 256 Ig), (A 14, aI 60 Tp), (A 16, aI 3 Wy)] 224 [some (.ref m0), some (.int (nI i)), some (.int (nI cnt)), some (.int x3), some (.int x4), some (.int x5), o6] [] := by
  refine V_wk [some (.ref m0), some (.int (nI i)), some (.int (nI cnt)), some (.int x3), some (.int x4), some (.int x5), none] (by exact ⟨rfl, rfl, rfl, rfl, rfl, rfl, trivial, trivial⟩) ?_
  have h1 := hth.1
  refine V_aload_n dX12_book_224 rfl ?_
  refine V_iconst (v := nI 1) dX12_book_225 (by decide) ?_
  refine V_put 0 dX12_book_226 fX12_book_261 ft_10_38 rfl (by decide) (by decide) (Nat.le_of_ble_eq_true rfl) ?_
  refine V_iload_n dX12_book_229 rfl ?_
  refine V_istore dX12_book_230 (by decide) rfl ?_
  exact l_X12_book_fail hm hT hi hth hw0 hQ h2 i (by omega) (Nat.le_refl _)
theorem l_X12_book_bad (hm : fd ≤ 60) {T : Nat → Nat} (hT : TpOK fd Tp T) {i h2 cnt h9 : Nat} (hi : i ≤ fd) (hn : n ≤ 5) (h9n : h9 ≤ 6) (hth : TH T i h2) {w0 : zW} {Q : zPo} (hw0 : w0.length = 5) {x4 x6 : Int32} (hQ : Q (some (.int (-100 - nI i))) [obM m0 A q n cut rows kq kn kc kr kt cu cv ck rm mo bo ki wa wr fo 0 wn true, (A 0, aZ 256 (hdF B)), (A 8, aZ 256 Ig), (A 14, aI 60 Tp), (A 16, aI 3 (upd (upd (upd Wy 0 (nI cnt)) 1 (nI h2)) 2 (nI i)))]) : V tO MX12_book (d, 0, 0) w0 Q (0, 0) [obM m0 A q n cut rows kq kn kc kr kt cu cv ck rm mo bo ki wa wr fo fd wn yw, (A 0, aZ 256 (hdF B)), (A 8, aZ 256 Ig), (A 14, aI 60 Tp), (A 16, aI 3 Wy)] 185 [some (.ref m0), some (.int (nI i)), some (.int (nI cnt)), some (.int (nI h9)), some (.int x4), some (.int (bI false)), some (.int x6)] [] := by
  refine V_iload_n dX12_book_185 rfl ?_
  refine V_iload dX12_book_186 rfl ?_
  first | refine V_if_eq_B 195 dX12_book_188 (by decide) (fun c_188 => ?_) (fun c_188 => ?_) | refine V_if_eq_N 195 dX12_book_188 (by decide) (by omega) (fun c_188 => ?_) (fun c_188 => ?_) | refine V_if_eq 195 dX12_book_188 (by decide) (fun c_188 => ?_) (fun c_188 => ?_)
  ·
    refine V_iconst (v := nI 0) dX12_book_195 (by decide) ?_
    first | refine V_iadd_N dX12_book_196 ?_ | refine V_iadd dX12_book_196 ?_
    refine V_istore_n dX12_book_197 (by decide) rfl ?_
    refine V_goto 34 dX12_book_198 (by decide) ?_
    refine V_iload dX12_book_34 rfl ?_
    first | refine V_if_eq_B 201 dX12_book_36 (by decide) (fun c_36 => ?_) (fun c_36 => ?_) | refine V_if_eq_N 201 dX12_book_36 (by decide) (by omega) (fun c_36 => ?_) (fun c_36 => ?_) | refine V_if_eq 201 dX12_book_36 (by decide) (fun c_36 => ?_) (fun c_36 => ?_)
    ·
      refine V_iload dX12_book_201 rfl ?_
      refine V_iload_n dX12_book_203 rfl ?_
      refine V_aload_n dX12_book_204 rfl ?_
      refine V_get 0 dX12_book_205 fX12_book_15 rfl rfl ?_
      first | refine V_icmp_ne_N 215 dX12_book_208 (by decide) (by omega) (by omega) (fun c_208 => ?_) (fun c_208 => ?_) | refine V_icmp_ne 215 dX12_book_208 (by decide) (fun c_208 => ?_) (fun c_208 => ?_)
      ·
        refine V_iconst (v := bI false) dX12_book_215 (show Int32.ofInt 0 = bI false by decide) ?_
        refine V_iand dX12_book_216 ?_
        refine V_to (bI_and _ _) ?_
        rw [Bool.false_and]
        refine V_istore dX12_book_217 (by decide) rfl ?_
        refine V_iload dX12_book_219 rfl ?_
        first | refine V_if_ne_B 291 dX12_book_221 (by decide) (fun c_221 => ?_) (fun c_221 => ?_) | refine V_if_ne_N 291 dX12_book_221 (by decide) (by omega) (fun c_221 => ?_) (fun c_221 => ?_) | refine V_if_ne 291 dX12_book_221 (by decide) (fun c_221 => ?_) (fun c_221 => ?_)
        ·
          cases c_221
        ·
          exact l_X12_book_224 hm hT hi hth hw0 hQ
      ·
        refine V_iconst (v := bI true) dX12_book_211 (show Int32.ofInt 1 = bI true by decide) ?_
        refine V_goto 216 dX12_book_212 (by decide) ?_
        refine V_iand dX12_book_216 ?_
        refine V_to (bI_and _ _) ?_
        rw [Bool.false_and]
        refine V_istore dX12_book_217 (by decide) rfl ?_
        refine V_iload dX12_book_219 rfl ?_
        first | refine V_if_ne_B 291 dX12_book_221 (by decide) (fun c_221 => ?_) (fun c_221 => ?_) | refine V_if_ne_N 291 dX12_book_221 (by decide) (by omega) (fun c_221 => ?_) (fun c_221 => ?_) | refine V_if_ne 291 dX12_book_221 (by decide) (fun c_221 => ?_) (fun c_221 => ?_)
        ·
          cases c_221
        ·
          exact l_X12_book_224 hm hT hi hth hw0 hQ
    ·
      cases c_36
  ·
    cases c_188
theorem TH_blank {T : Nat → Nat} {i h : Nat} (hb : T i = 32) (hth : TH T i h) : TH T (i + 1) 0 := ⟨Nat.zero_le _, fun j h1 h2 => absurd h2 (by omega), fun _ => by rw [show i + 1 - 0 - 1 = i by omega]; exact hb⟩
theorem TH_letter {T : Nat → Nat} {i h : Nat} (hb : T i ≠ 32) (hth : TH T i h) : TH T (i + 1) (h + 1) := by
  obtain ⟨h1, h2, h3⟩ := hth
  refine ⟨by omega, fun j a b => ?_, fun a => ?_⟩
  · rcases Nat.lt_or_ge j i with q1 | q1
    · exact h2 j (by omega) q1
    · rw [show j = i by omega]; exact hb
  · rw [show i + 1 - (h + 1) - 1 = i - h - 1 by omega]; exact h3 (by omega)
theorem l_X12_book (hd : 5 ≤ d) (h : OKq q n) (hm : fd ≤ 60) {T : Nat → Nat} (hT : TpOK fd Tp T) {w0 : zW} (hw0 : w0.length = 5) {r : Bool × Nat × Nat × Nat × (Nat → Bool)} : ∀ (f i h2 w : Nat) (C : Nat → Bool) (o6 : Option Value), i + f = fd → h2 ≤ n → w < q ^ h2 → (∀ w, C w = true → w < q ^ n) → TH T i h2 → pR q n T f i h2 w C = r → V tO MX12_book (d, 0, 0) w0 (fun v' w' => ∃ Ig' Wy', v' = some (.int (bkV r)) ∧ w' = [obM m0 A q n cut rows kq kn kc kr kt cu cv ck rm mo bo ki wa wr fo 0 wn (if r.1 then yw else true), (A 0, aZ 256 (hdF (if r.1 then r.2.2.2.2 else B))), (A 8, aZ 256 Ig'), (A 14, aI 60 Tp), (A 16, aI 3 Wy')] ∧ (r.1 = true → Wy' = Wy) ∧ (r.1 = false → ∀ j, j < 3 → Wy' j = rsF r.2.2.1 r.2.2.2.1 r.2.1 j)) (0, 0) [obM m0 A q n cut rows kq kn kc kr kt cu cv ck rm mo bo ki wa wr fo fd wn yw, (A 0, aZ 256 (hdF B)), (A 8, aZ 256 (hdF C)), (A 14, aI 60 Tp), (A 16, aI 3 Wy)] 34 [some (.ref m0), some (.int (nI i)), some (.int (nI (ct C 256))), some (.int (nI h2)), some (.int (nI w)), some (.int (bI true)), none] [] := by
  have hN := h.2.2.2.2
  have hn := h.2.2.2.1
  have hn1 := h.2.2.1
  have hq := h.1
  have hq4 := h.2.1
  have rs : ∀ (a b c : Nat) (j : Nat), j < 3 → upd (upd (upd Wy 0 (nI a)) 1 (nI b)) 2 (nI c) j = rsF a b c j := by
    intro a b c j hj
    unfold upd rsF
    by_cases e2 : j = 2
    · subst e2; rfl
    · by_cases e1 : j = 1
      · subst e1; rfl
      · have e0 : j = 0 := by omega
        subst e0; rfl
  intro f
  induction f with
  | zero =>
    intro i h2 w C o6 hi hh hw hC hth hr
    have ei : i = fd := by omega
    rw [pR] at hr
    refine V_iload dX12_book_34 rfl ?_
    first | refine V_if_eq_B 201 dX12_book_36 (by decide) (fun c_36 => ?_) (fun c_36 => ?_) | refine V_if_eq_N 201 dX12_book_36 (by decide) (by omega) (fun c_36 => ?_) (fun c_36 => ?_) | refine V_if_eq 201 dX12_book_36 (by decide) (fun c_36 => ?_) (fun c_36 => ?_)
    ·
      cases c_36
    ·
      refine V_iload_n dX12_book_39 rfl ?_
      refine V_aload_n dX12_book_40 rfl ?_
      refine V_get 0 dX12_book_41 fX12_book_256 rfl rfl ?_
      refine V_icmp_ge_N 201 dX12_book_44 (by decide) (by omega) (by omega) (fun c_44 => ?_) (fun c_44 => absurd c_44 (by omega))
      refine V_iload dX12_book_201 rfl ?_
      refine V_iload_n dX12_book_203 rfl ?_
      refine V_aload_n dX12_book_204 rfl ?_
      refine V_get 0 dX12_book_205 fX12_book_15 rfl rfl ?_
      refine V_icmp_ne_N 215 dX12_book_208 (by decide) (by omega) (by omega) (fun c_208 => ?_) (fun c_208 => ?_)
      ·
        rw [if_neg c_208] at hr
        subst hr
        refine V_iconst (v := bI false) dX12_book_215 (show Int32.ofInt 0 = bI false by decide) ?_
        refine V_iand dX12_book_216 ?_
        refine V_to (bI_and _ _) ?_
        refine V_istore dX12_book_217 (by decide) rfl ?_
        refine V_iload dX12_book_219 rfl ?_
        refine V_if_ne_B 291 dX12_book_221 (by decide) (fun c_221 => ?_) (fun c_221 => ?_)
        ·
          first
          | exact absurd c_221 (by decide)
          | (refine V_aload_n dX12_book_291 rfl ?_
             refine V_iconst (v := nI 0) dX12_book_292 (by decide) ?_
             refine V_put 0 dX12_book_293 fX12_book_256 ft_10_36 rfl rfl rfl (Nat.le_of_ble_eq_true rfl) ?_
             refine V_aload_n dX12_book_296 rfl ?_
             refine V_callVfv0 [0, 1, 2] (s_X12_becomesImage (d := d - 1) (by omega)) gX12_book_X12_becomesImage dX12_book_297 oX12_becomesImage rfl rfl rfl rfl (Nat.le_of_ble_eq_true rfl) (by omega) ⟨Nat.le_refl _, Nat.le_refl _⟩ ?_
             simp only [zput_n, zput_c, zset_0, zset_1, zset_2]
             refine V_iload_n dX12_book_300 rfl ?_
             refine V_iret dX12_book_301 rfl (by rw [hw0]; exact Nat.le_of_ble_eq_true rfl) (Nat.le_refl _) (Nat.le_refl _) ?_
             exact ⟨_, _, rfl, rfl, fun _ => rfl, fun hh => (by cases hh)⟩)
        ·
          first
          | exact absurd c_221 (by decide)
          | exact l_X12_book_224 hm hT (by omega) hth hw0 ⟨_, _, rfl, rfl, fun hh => (by cases hh), fun _ => rs _ _ _⟩
      ·
        rw [if_pos c_208] at hr
        subst hr
        refine V_iconst (v := bI true) dX12_book_211 (show Int32.ofInt 1 = bI true by decide) ?_
        refine V_goto 216 dX12_book_212 (by decide) ?_
        refine V_iand dX12_book_216 ?_
        refine V_to (bI_and _ _) ?_
        refine V_istore dX12_book_217 (by decide) rfl ?_
        refine V_iload dX12_book_219 rfl ?_
        refine V_if_ne_B 291 dX12_book_221 (by decide) (fun c_221 => ?_) (fun c_221 => ?_)
        ·
          first
          | exact absurd c_221 (by decide)
          | (refine V_aload_n dX12_book_291 rfl ?_
             refine V_iconst (v := nI 0) dX12_book_292 (by decide) ?_
             refine V_put 0 dX12_book_293 fX12_book_256 ft_10_36 rfl rfl rfl (Nat.le_of_ble_eq_true rfl) ?_
             refine V_aload_n dX12_book_296 rfl ?_
             refine V_callVfv0 [0, 1, 2] (s_X12_becomesImage (d := d - 1) (by omega)) gX12_book_X12_becomesImage dX12_book_297 oX12_becomesImage rfl rfl rfl rfl (Nat.le_of_ble_eq_true rfl) (by omega) ⟨Nat.le_refl _, Nat.le_refl _⟩ ?_
             simp only [zput_n, zput_c, zset_0, zset_1, zset_2]
             refine V_iload_n dX12_book_300 rfl ?_
             refine V_iret dX12_book_301 rfl (by rw [hw0]; exact Nat.le_of_ble_eq_true rfl) (Nat.le_refl _) (Nat.le_refl _) ?_
             exact ⟨_, _, rfl, rfl, fun _ => rfl, fun hh => (by cases hh)⟩)
        ·
          first
          | exact absurd c_221 (by decide)
          | exact l_X12_book_224 hm hT (by omega) hth hw0 ⟨_, _, rfl, rfl, fun hh => (by cases hh), fun _ => rs _ _ _⟩
  | succ f ih =>
    intro i h2 w C o6 hi hh hw hC hth hr
    have hTi := hT i (by omega)
    have g85 : h2 ≠ n → (if 97 ≤ T i ∧ T i < 97 + q then (if h2 + 1 = n then (if C (w * q + (T i - 97)) then (false, i, ct C 256, h2, C) else pR q n T f (i + 1) (h2 + 1) (w * q + (T i - 97)) (insB C (w * q + (T i - 97)))) else pR q n T f (i + 1) (h2 + 1) (w * q + (T i - 97)) C) else (false, i, ct C 256, h2, C)) = r → V tO MX12_book (d, 0, 0) w0 (fun v' w' => ∃ Ig' Wy', v' = some (.int (bkV r)) ∧ w' = [obM m0 A q n cut rows kq kn kc kr kt cu cv ck rm mo bo ki wa wr fo 0 wn (if r.1 then yw else true), (A 0, aZ 256 (hdF (if r.1 then r.2.2.2.2 else B))), (A 8, aZ 256 Ig'), (A 14, aI 60 Tp), (A 16, aI 3 Wy')] ∧ (r.1 = true → Wy' = Wy) ∧ (r.1 = false → ∀ j, j < 3 → Wy' j = rsF r.2.2.1 r.2.2.2.1 r.2.1 j)) (0, 0) [obM m0 A q n cut rows kq kn kc kr kt cu cv ck rm mo bo ki wa wr fo fd wn yw, (A 0, aZ 256 (hdF B)), (A 8, aZ 256 (hdF C)), (A 14, aI 60 Tp), (A 16, aI 3 Wy)] 85 [some (.ref m0), some (.int (nI i)), some (.int (nI (ct C 256))), some (.int (nI h2)), some (.int (nI w)), some (.int (bI true)), some (.int (nI (T i)))] [] := by
      intro c60 hr
      by_cases hlet : 97 ≤ T i ∧ T i < 97 + q
      · rw [if_pos hlet] at hr
        have e6 : q * w + T i - 97 = w * q + (T i - 97) := by rw [Nat.mul_comm]; omega
        have hw2 : w * q + (T i - 97) < q ^ (h2 + 1) := by
          rw [Nat.pow_succ]
          calc w * q + (T i - 97) < w * q + q := by omega
            _ = (w + 1) * q := by rw [Nat.succ_mul]
            _ ≤ q ^ h2 * q := Nat.mul_le_mul_right _ hw
        have hth2 := TH_letter (show T i ≠ 32 by omega) hth
        generalize w * q + (T i - 97) = w3 at hr hw2 e6
        have hle : q ^ (h2 + 1) ≤ q ^ n := Nat.pow_le_pow_right (by omega) (by omega)
        have hw3 : isW (q ^ n) (nI w3) = true := by rw [isW_nI (by omega)]; exact decide_eq_true (by omega)
        refine V_iload dX12_book_85 rfl ?_
        refine V_i2l dX12_book_87 ?_
        refine V_ldc2 (v := 97) dX12_book_88 (by decide +kernel) ?_
        refine V_bipush (v := nI 97) dX12_book_91 (by decide) ?_
        refine V_aload_n dX12_book_93 rfl ?_
        refine V_get 0 dX12_book_94 fX12_book_9 rfl rfl ?_
        first | refine V_iadd_N dX12_book_97 ?_ | refine V_iadd dX12_book_97 ?_
        refine V_iconst (v := nI 1) dX12_book_98 (by decide) ?_
        refine V_isub_N dX12_book_99 (by omega) ?_
        refine V_i2l dX12_book_100 ?_
        refine V_callSpi3 [] (s_X12_isInL (d := d - 1) (by omega) (lo := 97) (hi := (97 + q - 1 : Nat)) (by decide) (by rw [Int32.toInt_toInt64, nI_toInt (by omega)])) gX12_book_X12_isIn dX12_book_101 oX12_isIn rfl rfl (Nat.le_of_ble_eq_true rfl) (by omega) ⟨Nat.le_refl _, Nat.le_refl _⟩ ?_
        rw [nI_toInt (by omega), show decide ((97 : Int) ≤ (T i : Int) ∧ (T i : Int) ≤ ((97 + q - 1 : Nat) : Int)) = true from decide_eq_true (by omega)]
        refine V_istore dX12_book_104 (by decide) rfl ?_
        refine V_aload_n dX12_book_106 rfl ?_
        refine V_get 0 dX12_book_107 fX12_book_9 rfl rfl ?_
        refine V_iload dX12_book_110 rfl ?_
        first | refine V_imul_N dX12_book_112 ?_ | refine V_imul dX12_book_112 ?_
        refine V_iload dX12_book_113 rfl ?_
        first | refine V_iadd_N dX12_book_115 ?_ | refine V_iadd dX12_book_115 ?_
        refine V_bipush (v := nI 97) dX12_book_116 (by decide) ?_
        refine V_isub_N dX12_book_118 (by omega) ?_
        refine V_to (show nI (q * w + T i - 97) = nI w3 by rw [e6]) ?_
        refine V_istore dX12_book_119 (by decide) rfl ?_
        first | refine V_iinc_N (i := 1) dX12_book_121 rfl (by decide) rfl ?_ | refine V_iinc dX12_book_121 rfl rfl (by decide) rfl ?_
        refine V_iload dX12_book_124 rfl ?_
        refine V_iload_n dX12_book_126 rfl ?_
        refine V_aload_n dX12_book_127 rfl ?_
        refine V_get 0 dX12_book_128 fX12_book_15 rfl rfl ?_
        refine V_icmp_lt_N 153 dX12_book_131 (by decide) (by omega) (by omega) (fun c_131 => ?_) (fun c_131 => ?_)
        ·
          rw [if_neg (show ¬ h2 + 1 = n by omega)] at hr
          have i1 := ih (i + 1) (h2 + 1) w3 C none (by omega) (by omega) hw2 hC hth2 hr
          refine V_iconst (v := bI true) dX12_book_153 (show Int32.ofInt 1 = bI true by decide) ?_
          refine V_goto 158 dX12_book_154 (by decide) ?_
          refine V_iand dX12_book_158 ?_
          refine V_to (bI_and _ _) ?_
          rw [Bool.true_and]
          refine V_istore dX12_book_159 (by decide) rfl ?_
          refine V_iload dX12_book_161 rfl ?_
          refine V_if_eq_B 185 dX12_book_163 (by decide) (fun c_163 => ?_) (fun c_163 => ?_)
          ·
            first
            | exact absurd c_163 (by decide)
            | exact l_X12_book_bad (h9 := h2 + 1) hm hT (by omega) hn (by omega) hth hw0 ⟨_, _, rfl, rfl, fun hh => (by cases hh), fun _ => rs _ _ _⟩
            | (refine V_iload_n dX12_book_185 rfl ?_
               refine V_iload dX12_book_186 rfl ?_
               refine V_if_eq_B 195 dX12_book_188 (by decide) (fun c => absurd c (by decide)) (fun _ => ?_)
               refine V_iconst (v := nI 1) dX12_book_191 (by decide) ?_
               refine V_goto 196 dX12_book_192 (by decide) ?_
               refine V_iadd_N dX12_book_196 ?_
               refine V_istore_n dX12_book_197 (by decide) rfl ?_
               refine V_goto 34 dX12_book_198 (by decide) ?_
               exact V_wk _ (by exact ⟨rfl, rfl, rfl, rfl, rfl, rfl, trivial, trivial⟩) i1)
            | (exfalso; omega)
          ·
            refine V_iload_n dX12_book_166 rfl ?_
            refine V_aload_n dX12_book_167 rfl ?_
            refine V_get 0 dX12_book_168 fX12_book_15 rfl rfl ?_
            refine V_icmp_ne_N 185 dX12_book_171 (by decide) (by omega) (by omega) (fun c_171 => ?_) (fun c_171 => ?_)
            ·
              first
              | exact absurd c_163 (by decide)
              | exact l_X12_book_bad (h9 := h2 + 1) hm hT (by omega) hn (by omega) hth hw0 ⟨_, _, rfl, rfl, fun hh => (by cases hh), fun _ => rs _ _ _⟩
              | (refine V_iload_n dX12_book_185 rfl ?_
                 refine V_iload dX12_book_186 rfl ?_
                 refine V_if_eq_B 195 dX12_book_188 (by decide) (fun c => absurd c (by decide)) (fun _ => ?_)
                 refine V_iconst (v := nI 1) dX12_book_191 (by decide) ?_
                 refine V_goto 196 dX12_book_192 (by decide) ?_
                 refine V_iadd_N dX12_book_196 ?_
                 refine V_istore_n dX12_book_197 (by decide) rfl ?_
                 refine V_goto 34 dX12_book_198 (by decide) ?_
                 exact V_wk _ (by exact ⟨rfl, rfl, rfl, rfl, rfl, rfl, trivial, trivial⟩) i1)
              | (exfalso; omega)
            ·
              refine V_aload_n dX12_book_174 rfl ?_
              refine V_get 0 dX12_book_175 fX12_book_44 rfl rfl ?_
              refine V_iload dX12_book_178 rfl ?_
              refine V_iconst (v := nI 1) dX12_book_180 (by decide) ?_
              refine V_zast_N 2 dX12_book_181 rfl (by omega) (by first | decide | omega) (by first | exact Or.inl rfl | exact Or.inr rfl | exact bI_or _) ?_
              first | refine V_iinc_N (i := 1) dX12_book_182 rfl (by decide) rfl ?_ | refine V_iinc dX12_book_182 rfl rfl (by decide) rfl ?_
              first
              | exact absurd c_163 (by decide)
              | exact l_X12_book_bad (h9 := h2 + 1) hm hT (by omega) hn (by omega) hth hw0 ⟨_, _, rfl, rfl, fun hh => (by cases hh), fun _ => rs _ _ _⟩
              | (refine V_iload_n dX12_book_185 rfl ?_
                 refine V_iload dX12_book_186 rfl ?_
                 refine V_if_eq_B 195 dX12_book_188 (by decide) (fun c => absurd c (by decide)) (fun _ => ?_)
                 refine V_iconst (v := nI 1) dX12_book_191 (by decide) ?_
                 refine V_goto 196 dX12_book_192 (by decide) ?_
                 refine V_iadd_N dX12_book_196 ?_
                 refine V_istore_n dX12_book_197 (by decide) rfl ?_
                 refine V_goto 34 dX12_book_198 (by decide) ?_
                 exact V_wk _ (by exact ⟨rfl, rfl, rfl, rfl, rfl, rfl, trivial, trivial⟩) i1)
              | (exfalso; omega)
        ·
          rw [if_pos (show h2 + 1 = n by omega)] at hr
          refine V_aload_n dX12_book_134 rfl ?_
          refine V_iload dX12_book_135 rfl ?_
          refine V_callVpi1 [0] (s_X12_isWord (d := d - 1) (by omega) h) gX12_book_X12_isWord dX12_book_137 oX12_isWord rfl rfl rfl rfl (Nat.le_of_ble_eq_true rfl) (by omega) ⟨Nat.le_refl _, Nat.le_refl _⟩ ?_
          rw [hw3]
          first | refine V_if_eq_B 153 dX12_book_140 (by decide) (fun c_140 => ?_) (fun c_140 => ?_) | refine V_if_eq_N 153 dX12_book_140 (by decide) (by omega) (fun c_140 => ?_) (fun c_140 => ?_) | refine V_if_eq 153 dX12_book_140 (by decide) (fun c_140 => ?_) (fun c_140 => ?_)
          ·
            cases c_140
          ·
            refine V_aload_n dX12_book_143 rfl ?_
            refine V_get 0 dX12_book_144 fX12_book_44 rfl rfl ?_
            refine V_iload dX12_book_147 rfl ?_
            refine V_zald_N 2 dX12_book_149 rfl (by omega) (by first | decide | omega) ?_
            first | refine V_if_ne_B 157 dX12_book_150 (by decide) (fun c_150 => ?_) (fun c_150 => ?_) | refine V_if_ne_N 157 dX12_book_150 (by decide) (by omega) (fun c_150 => ?_) (fun c_150 => ?_) | refine V_if_ne 157 dX12_book_150 (by decide) (fun c_150 => ?_) (fun c_150 => ?_)
            ·
              rw [if_pos c_150] at hr
              subst hr
              refine V_iconst (v := bI false) dX12_book_157 (show Int32.ofInt 0 = bI false by decide) ?_
              refine V_iand dX12_book_158 ?_
              refine V_to (bI_and _ _) ?_
              rw [Bool.true_and]
              refine V_istore dX12_book_159 (by decide) rfl ?_
              refine V_iload dX12_book_161 rfl ?_
              refine V_if_eq_B 185 dX12_book_163 (by decide) (fun c_163 => ?_) (fun c_163 => ?_)
              ·
                first
                | exact absurd c_163 (by decide)
                | exact l_X12_book_bad (h9 := h2 + 1) hm hT (by omega) hn (by omega) hth hw0 ⟨_, _, rfl, rfl, fun hh => (by cases hh), fun _ => rs _ _ _⟩
                | (refine V_iload_n dX12_book_185 rfl ?_
                   refine V_iload dX12_book_186 rfl ?_
                   refine V_if_eq_B 195 dX12_book_188 (by decide) (fun c => absurd c (by decide)) (fun _ => ?_)
                   refine V_iconst (v := nI 1) dX12_book_191 (by decide) ?_
                   refine V_goto 196 dX12_book_192 (by decide) ?_
                   refine V_iadd_N dX12_book_196 ?_
                   refine V_istore_n dX12_book_197 (by decide) rfl ?_
                   refine V_goto 34 dX12_book_198 (by decide) ?_
                   exact V_wk _ (by exact ⟨rfl, rfl, rfl, rfl, rfl, rfl, trivial, trivial⟩) i1)
                | (exfalso; omega)
              ·
                refine V_iload_n dX12_book_166 rfl ?_
                refine V_aload_n dX12_book_167 rfl ?_
                refine V_get 0 dX12_book_168 fX12_book_15 rfl rfl ?_
                refine V_icmp_ne_N 185 dX12_book_171 (by decide) (by omega) (by omega) (fun c_171 => ?_) (fun c_171 => ?_)
                ·
                  first
                  | exact absurd c_163 (by decide)
                  | exact l_X12_book_bad (h9 := h2 + 1) hm hT (by omega) hn (by omega) hth hw0 ⟨_, _, rfl, rfl, fun hh => (by cases hh), fun _ => rs _ _ _⟩
                  | (refine V_iload_n dX12_book_185 rfl ?_
                     refine V_iload dX12_book_186 rfl ?_
                     refine V_if_eq_B 195 dX12_book_188 (by decide) (fun c => absurd c (by decide)) (fun _ => ?_)
                     refine V_iconst (v := nI 1) dX12_book_191 (by decide) ?_
                     refine V_goto 196 dX12_book_192 (by decide) ?_
                     refine V_iadd_N dX12_book_196 ?_
                     refine V_istore_n dX12_book_197 (by decide) rfl ?_
                     refine V_goto 34 dX12_book_198 (by decide) ?_
                     exact V_wk _ (by exact ⟨rfl, rfl, rfl, rfl, rfl, rfl, trivial, trivial⟩) i1)
                  | (exfalso; omega)
                ·
                  refine V_aload_n dX12_book_174 rfl ?_
                  refine V_get 0 dX12_book_175 fX12_book_44 rfl rfl ?_
                  refine V_iload dX12_book_178 rfl ?_
                  refine V_iconst (v := nI 1) dX12_book_180 (by decide) ?_
                  refine V_zast_N 2 dX12_book_181 rfl (by omega) (by first | decide | omega) (by first | exact Or.inl rfl | exact Or.inr rfl | exact bI_or _) ?_
                  first | refine V_iinc_N (i := 1) dX12_book_182 rfl (by decide) rfl ?_ | refine V_iinc dX12_book_182 rfl rfl (by decide) rfl ?_
                  first
                  | exact absurd c_163 (by decide)
                  | exact l_X12_book_bad (h9 := h2 + 1) hm hT (by omega) hn (by omega) hth hw0 ⟨_, _, rfl, rfl, fun hh => (by cases hh), fun _ => rs _ _ _⟩
                  | (refine V_iload_n dX12_book_185 rfl ?_
                     refine V_iload dX12_book_186 rfl ?_
                     refine V_if_eq_B 195 dX12_book_188 (by decide) (fun c => absurd c (by decide)) (fun _ => ?_)
                     refine V_iconst (v := nI 1) dX12_book_191 (by decide) ?_
                     refine V_goto 196 dX12_book_192 (by decide) ?_
                     refine V_iadd_N dX12_book_196 ?_
                     refine V_istore_n dX12_book_197 (by decide) rfl ?_
                     refine V_goto 34 dX12_book_198 (by decide) ?_
                     exact V_wk _ (by exact ⟨rfl, rfl, rfl, rfl, rfl, rfl, trivial, trivial⟩) i1)
                  | (exfalso; omega)
            ·
              have c_150 : C w3 = false := c_150
              rw [c_150, if_neg Bool.false_ne_true] at hr
              have i1 := ih (i + 1) (h2 + 1) w3 (insB C w3) none (by omega) (by omega) hw2 (fun x hx => by rcases insB_iff.mp hx with q1 | q1; exact hC x q1; rw [q1]; omega) hth2 hr
              rw [← hdF_ins, ct_ins c_150 (show w3 < 256 by omega)] at i1
              refine V_iconst (v := bI true) dX12_book_153 (show Int32.ofInt 1 = bI true by decide) ?_
              refine V_goto 158 dX12_book_154 (by decide) ?_
              refine V_iand dX12_book_158 ?_
              refine V_to (bI_and _ _) ?_
              rw [Bool.true_and]
              refine V_istore dX12_book_159 (by decide) rfl ?_
              refine V_iload dX12_book_161 rfl ?_
              refine V_if_eq_B 185 dX12_book_163 (by decide) (fun c_163 => ?_) (fun c_163 => ?_)
              ·
                first
                | exact absurd c_163 (by decide)
                | exact l_X12_book_bad (h9 := h2 + 1) hm hT (by omega) hn (by omega) hth hw0 ⟨_, _, rfl, rfl, fun hh => (by cases hh), fun _ => rs _ _ _⟩
                | (refine V_iload_n dX12_book_185 rfl ?_
                   refine V_iload dX12_book_186 rfl ?_
                   refine V_if_eq_B 195 dX12_book_188 (by decide) (fun c => absurd c (by decide)) (fun _ => ?_)
                   refine V_iconst (v := nI 1) dX12_book_191 (by decide) ?_
                   refine V_goto 196 dX12_book_192 (by decide) ?_
                   refine V_iadd_N dX12_book_196 ?_
                   refine V_istore_n dX12_book_197 (by decide) rfl ?_
                   refine V_goto 34 dX12_book_198 (by decide) ?_
                   exact V_wk _ (by exact ⟨rfl, rfl, rfl, rfl, rfl, rfl, trivial, trivial⟩) i1)
                | (exfalso; omega)
              ·
                refine V_iload_n dX12_book_166 rfl ?_
                refine V_aload_n dX12_book_167 rfl ?_
                refine V_get 0 dX12_book_168 fX12_book_15 rfl rfl ?_
                refine V_icmp_ne_N 185 dX12_book_171 (by decide) (by omega) (by omega) (fun c_171 => ?_) (fun c_171 => ?_)
                ·
                  first
                  | exact absurd c_163 (by decide)
                  | exact l_X12_book_bad (h9 := h2 + 1) hm hT (by omega) hn (by omega) hth hw0 ⟨_, _, rfl, rfl, fun hh => (by cases hh), fun _ => rs _ _ _⟩
                  | (refine V_iload_n dX12_book_185 rfl ?_
                     refine V_iload dX12_book_186 rfl ?_
                     refine V_if_eq_B 195 dX12_book_188 (by decide) (fun c => absurd c (by decide)) (fun _ => ?_)
                     refine V_iconst (v := nI 1) dX12_book_191 (by decide) ?_
                     refine V_goto 196 dX12_book_192 (by decide) ?_
                     refine V_iadd_N dX12_book_196 ?_
                     refine V_istore_n dX12_book_197 (by decide) rfl ?_
                     refine V_goto 34 dX12_book_198 (by decide) ?_
                     exact V_wk _ (by exact ⟨rfl, rfl, rfl, rfl, rfl, rfl, trivial, trivial⟩) i1)
                  | (exfalso; omega)
                ·
                  refine V_aload_n dX12_book_174 rfl ?_
                  refine V_get 0 dX12_book_175 fX12_book_44 rfl rfl ?_
                  refine V_iload dX12_book_178 rfl ?_
                  refine V_iconst (v := nI 1) dX12_book_180 (by decide) ?_
                  refine V_zast_N 2 dX12_book_181 rfl (by omega) (by first | decide | omega) (by first | exact Or.inl rfl | exact Or.inr rfl | exact bI_or _) ?_
                  first | refine V_iinc_N (i := 1) dX12_book_182 rfl (by decide) rfl ?_ | refine V_iinc dX12_book_182 rfl rfl (by decide) rfl ?_
                  first
                  | exact absurd c_163 (by decide)
                  | exact l_X12_book_bad (h9 := h2 + 1) hm hT (by omega) hn (by omega) hth hw0 ⟨_, _, rfl, rfl, fun hh => (by cases hh), fun _ => rs _ _ _⟩
                  | (refine V_iload_n dX12_book_185 rfl ?_
                     refine V_iload dX12_book_186 rfl ?_
                     refine V_if_eq_B 195 dX12_book_188 (by decide) (fun c => absurd c (by decide)) (fun _ => ?_)
                     refine V_iconst (v := nI 1) dX12_book_191 (by decide) ?_
                     refine V_goto 196 dX12_book_192 (by decide) ?_
                     refine V_iadd_N dX12_book_196 ?_
                     refine V_istore_n dX12_book_197 (by decide) rfl ?_
                     refine V_goto 34 dX12_book_198 (by decide) ?_
                     exact V_wk _ (by exact ⟨rfl, rfl, rfl, rfl, rfl, rfl, trivial, trivial⟩) i1)
                  | (exfalso; omega)
      · rw [if_neg hlet] at hr
        subst hr
        refine V_iload dX12_book_85 rfl ?_
        refine V_i2l dX12_book_87 ?_
        refine V_ldc2 (v := 97) dX12_book_88 (by decide +kernel) ?_
        refine V_bipush (v := nI 97) dX12_book_91 (by decide) ?_
        refine V_aload_n dX12_book_93 rfl ?_
        refine V_get 0 dX12_book_94 fX12_book_9 rfl rfl ?_
        first | refine V_iadd_N dX12_book_97 ?_ | refine V_iadd dX12_book_97 ?_
        refine V_iconst (v := nI 1) dX12_book_98 (by decide) ?_
        refine V_isub_N dX12_book_99 (by omega) ?_
        refine V_i2l dX12_book_100 ?_
        refine V_callSpi3 [] (s_X12_isInL (d := d - 1) (by omega) (lo := 97) (hi := (97 + q - 1 : Nat)) (by decide) (by rw [Int32.toInt_toInt64, nI_toInt (by omega)])) gX12_book_X12_isIn dX12_book_101 oX12_isIn rfl rfl (Nat.le_of_ble_eq_true rfl) (by omega) ⟨Nat.le_refl _, Nat.le_refl _⟩ ?_
        rw [nI_toInt (by omega), show decide ((97 : Int) ≤ (T i : Int) ∧ (T i : Int) ≤ ((97 + q - 1 : Nat) : Int)) = false from decide_eq_false (by omega)]
        refine V_istore dX12_book_104 (by decide) rfl ?_
        refine V_aload_n dX12_book_106 rfl ?_
        refine V_get 0 dX12_book_107 fX12_book_9 rfl rfl ?_
        refine V_iload dX12_book_110 rfl ?_
        first | refine V_imul_N dX12_book_112 ?_ | refine V_imul dX12_book_112 ?_
        refine V_iload dX12_book_113 rfl ?_
        first | refine V_iadd_N dX12_book_115 ?_ | refine V_iadd dX12_book_115 ?_
        refine V_bipush (v := nI 97) dX12_book_116 (by decide) ?_
        refine V_isub dX12_book_118 ?_
        generalize nI (q * w + T i) - nI 97 = y
        refine V_istore dX12_book_119 (by decide) rfl ?_
        first | refine V_iinc_N (i := 1) dX12_book_121 rfl (by decide) rfl ?_ | refine V_iinc dX12_book_121 rfl rfl (by decide) rfl ?_
        refine V_iload dX12_book_124 rfl ?_
        refine V_iload_n dX12_book_126 rfl ?_
        refine V_aload_n dX12_book_127 rfl ?_
        refine V_get 0 dX12_book_128 fX12_book_15 rfl rfl ?_
        refine V_icmp_lt_N 153 dX12_book_131 (by decide) (by omega) (by omega) (fun c_131 => ?_) (fun c_131 => ?_)
        ·
          refine V_iconst (v := bI true) dX12_book_153 (show Int32.ofInt 1 = bI true by decide) ?_
          refine V_goto 158 dX12_book_154 (by decide) ?_
          refine V_iand dX12_book_158 ?_
          refine V_to (bI_and _ _) ?_
          rw [Bool.false_and]
          refine V_istore dX12_book_159 (by decide) rfl ?_
          refine V_iload dX12_book_161 rfl ?_
          refine V_if_eq_B 185 dX12_book_163 (by decide) (fun c_163 => ?_) (fun c_163 => absurd c_163 (by decide))
          exact l_X12_book_bad (h9 := h2 + 1) hm hT (by omega) hn (by omega) hth hw0 ⟨_, _, rfl, rfl, fun hh => (by cases hh), fun _ => rs _ _ _⟩
        ·
          refine V_aload_n dX12_book_134 rfl ?_
          refine V_iload dX12_book_135 rfl ?_
          refine V_callVpi1 [0] (s_X12_isWord (d := d - 1) (by omega) h) gX12_book_X12_isWord dX12_book_137 oX12_isWord rfl rfl rfl rfl (Nat.le_of_ble_eq_true rfl) (by omega) ⟨Nat.le_refl _, Nat.le_refl _⟩ ?_
          first | refine V_if_eq_B 153 dX12_book_140 (by decide) (fun c_140 => ?_) (fun c_140 => ?_) | refine V_if_eq_N 153 dX12_book_140 (by decide) (by omega) (fun c_140 => ?_) (fun c_140 => ?_) | refine V_if_eq 153 dX12_book_140 (by decide) (fun c_140 => ?_) (fun c_140 => ?_)
          ·
            refine V_iconst (v := bI true) dX12_book_153 (show Int32.ofInt 1 = bI true by decide) ?_
            refine V_goto 158 dX12_book_154 (by decide) ?_
            refine V_iand dX12_book_158 ?_
            refine V_to (bI_and _ _) ?_
            rw [Bool.false_and]
            refine V_istore dX12_book_159 (by decide) rfl ?_
            refine V_iload dX12_book_161 rfl ?_
            refine V_if_eq_B 185 dX12_book_163 (by decide) (fun c_163 => ?_) (fun c_163 => absurd c_163 (by decide))
            exact l_X12_book_bad (h9 := h2 + 1) hm hT (by omega) hn (by omega) hth hw0 ⟨_, _, rfl, rfl, fun hh => (by cases hh), fun _ => rs _ _ _⟩
          ·
            obtain ⟨w2, hw2, rfl⟩ := isW_of c_140
            refine V_aload_n dX12_book_143 rfl ?_
            refine V_get 0 dX12_book_144 fX12_book_44 rfl rfl ?_
            refine V_iload dX12_book_147 rfl ?_
            refine V_zald_N 2 dX12_book_149 rfl (by omega) (by first | decide | omega) ?_
            first | refine V_if_ne_B 157 dX12_book_150 (by decide) (fun c_150 => ?_) (fun c_150 => ?_) | refine V_if_ne_N 157 dX12_book_150 (by decide) (by omega) (fun c_150 => ?_) (fun c_150 => ?_) | refine V_if_ne 157 dX12_book_150 (by decide) (fun c_150 => ?_) (fun c_150 => ?_)
            ·
              refine V_iconst (v := bI false) dX12_book_157 (show Int32.ofInt 0 = bI false by decide) ?_
              refine V_iand dX12_book_158 ?_
              refine V_to (bI_and _ _) ?_
              rw [Bool.false_and]
              refine V_istore dX12_book_159 (by decide) rfl ?_
              refine V_iload dX12_book_161 rfl ?_
              refine V_if_eq_B 185 dX12_book_163 (by decide) (fun c_163 => ?_) (fun c_163 => absurd c_163 (by decide))
              exact l_X12_book_bad (h9 := h2 + 1) hm hT (by omega) hn (by omega) hth hw0 ⟨_, _, rfl, rfl, fun hh => (by cases hh), fun _ => rs _ _ _⟩
            ·
              refine V_iconst (v := bI true) dX12_book_153 (show Int32.ofInt 1 = bI true by decide) ?_
              refine V_goto 158 dX12_book_154 (by decide) ?_
              refine V_iand dX12_book_158 ?_
              refine V_to (bI_and _ _) ?_
              rw [Bool.false_and]
              refine V_istore dX12_book_159 (by decide) rfl ?_
              refine V_iload dX12_book_161 rfl ?_
              refine V_if_eq_B 185 dX12_book_163 (by decide) (fun c_163 => ?_) (fun c_163 => absurd c_163 (by decide))
              exact l_X12_book_bad (h9 := h2 + 1) hm hT (by omega) hn (by omega) hth hw0 ⟨_, _, rfl, rfl, fun hh => (by cases hh), fun _ => rs _ _ _⟩
    rw [pR] at hr
    refine V_iload dX12_book_34 rfl ?_
    first | refine V_if_eq_B 201 dX12_book_36 (by decide) (fun c_36 => ?_) (fun c_36 => ?_) | refine V_if_eq_N 201 dX12_book_36 (by decide) (by omega) (fun c_36 => ?_) (fun c_36 => ?_) | refine V_if_eq 201 dX12_book_36 (by decide) (fun c_36 => ?_) (fun c_36 => ?_)
    ·
      cases c_36
    ·
      refine V_iload_n dX12_book_39 rfl ?_
      refine V_aload_n dX12_book_40 rfl ?_
      refine V_get 0 dX12_book_41 fX12_book_256 rfl rfl ?_
      refine V_icmp_ge_N 201 dX12_book_44 (by decide) (by omega) (by omega) (fun c_44 => absurd c_44 (by omega)) (fun c_44 => ?_)
      refine V_aload_n dX12_book_47 rfl ?_
      refine V_get 0 dX12_book_48 fX12_book_62 rfl rfl ?_
      refine V_iload_n dX12_book_51 rfl ?_
      refine V_iald_N 3 dX12_book_52 rfl (by omega) (by first | decide | omega) ?_
      refine V_to hTi.1 ?_
      refine V_istore dX12_book_53 (by decide) rfl ?_
      refine V_iload_n dX12_book_55 rfl ?_
      refine V_aload_n dX12_book_56 rfl ?_
      refine V_get 0 dX12_book_57 fX12_book_15 rfl rfl ?_
      refine V_icmp_ne_N 85 dX12_book_60 (by decide) (by omega) (by omega) (fun c_60 => ?_) (fun c_60 => ?_)
      ·
        rw [if_neg c_60] at hr
        exact g85 c_60 hr
      ·
        rw [if_pos c_60] at hr
        refine V_iload dX12_book_63 rfl ?_
        refine V_bipush (v := nI 32) dX12_book_65 (by decide) ?_
        refine V_icmp_ne_N 74 dX12_book_67 (by decide) (by omega) (by decide) (fun c_67 => ?_) (fun c_67 => ?_)
        ·
          rw [if_neg c_67] at hr
          subst hr
          refine V_iconst (v := bI false) dX12_book_74 (show Int32.ofInt 0 = bI false by decide) ?_
          refine V_istore dX12_book_75 (by decide) rfl ?_
          refine V_iconst (v := nI 0) dX12_book_77 (by decide) ?_
          refine V_istore_n dX12_book_78 (by decide) rfl ?_
          refine V_iconst (v := nI 0) dX12_book_79 (by decide) ?_
          refine V_istore dX12_book_80 (by decide) rfl ?_
          refine V_goto 185 dX12_book_82 (by decide) ?_
          first
          | exact l_X12_book_bad (h9 := 0) hm hT (by omega) hn (by omega) hth hw0 ⟨_, _, rfl, rfl, fun hh => (by cases hh), fun _ => rs _ _ _⟩
          | (refine V_iload_n dX12_book_185 rfl ?_
             refine V_iload dX12_book_186 rfl ?_
             refine V_if_eq_B 195 dX12_book_188 (by decide) (fun c => absurd c (by decide)) (fun _ => ?_)
             refine V_iconst (v := nI 1) dX12_book_191 (by decide) ?_
             refine V_goto 196 dX12_book_192 (by decide) ?_
             refine V_iadd_N dX12_book_196 ?_
             refine V_istore_n dX12_book_197 (by decide) rfl ?_
             refine V_goto 34 dX12_book_198 (by decide) ?_
             exact V_wk _ (by exact ⟨rfl, rfl, rfl, rfl, rfl, rfl, trivial, trivial⟩) i1)
        ·
          rw [if_pos c_67] at hr
          have i1 := ih (i + 1) 0 0 C none (by omega) (by omega) (by simp) hC (TH_blank c_67 hth) hr
          refine V_iconst (v := bI true) dX12_book_70 (show Int32.ofInt 1 = bI true by decide) ?_
          refine V_goto 75 dX12_book_71 (by decide) ?_
          refine V_istore dX12_book_75 (by decide) rfl ?_
          refine V_iconst (v := nI 0) dX12_book_77 (by decide) ?_
          refine V_istore_n dX12_book_78 (by decide) rfl ?_
          refine V_iconst (v := nI 0) dX12_book_79 (by decide) ?_
          refine V_istore dX12_book_80 (by decide) rfl ?_
          refine V_goto 185 dX12_book_82 (by decide) ?_
          first
          | exact l_X12_book_bad (h9 := 0) hm hT (by omega) hn (by omega) hth hw0 ⟨_, _, rfl, rfl, fun hh => (by cases hh), fun _ => rs _ _ _⟩
          | (refine V_iload_n dX12_book_185 rfl ?_
             refine V_iload dX12_book_186 rfl ?_
             refine V_if_eq_B 195 dX12_book_188 (by decide) (fun c => absurd c (by decide)) (fun _ => ?_)
             refine V_iconst (v := nI 1) dX12_book_191 (by decide) ?_
             refine V_goto 196 dX12_book_192 (by decide) ?_
             refine V_iadd_N dX12_book_196 ?_
             refine V_istore_n dX12_book_197 (by decide) rfl ?_
             refine V_goto 34 dX12_book_198 (by decide) ?_
             exact V_wk _ (by exact ⟨rfl, rfl, rfl, rfl, rfl, rfl, trivial, trivial⟩) i1)
end MDL8

