/-! the model's constructor -/
section CTORM
variable {tO d m0 : Nat} {A : Nat → Nat}
theorem l_X12_init {w0 : zW} (hw0 : w0.length = 1) : ∀ (f i : Nat) (Lc : Nat → Int32), i + f = 4 → (∀ j, j < i → Lc j = -1) → V tO MX12_init (d, 19, 3436) w0 (fun v w' => v = none ∧ w' = [obM m0 A 2 3 0 0 0 0 0 0 false 0 0 0 0 0 0 0 0 0 0 0 0 false, (A 0, aZ 256 fZ), (A 1, aZ 256 fZ), (A 2, aZ 256 fZ), (A 3, aI 40 fZ), (A 4, aI 40 fZ), (A 5, aI 16 fZ), (A 6, aI 16 fZ), (A 7, aI 4 fZ), (A 8, aZ 256 fZ), (A 9, aI 32 fZ), (A 10, aI 32 fZ), (A 11, aI 5 fZ), (A 12, aZ 256 fZ), (A 13, aZ 256 fZ), (A 14, aI 60 fZ), (A 15, aI 1600 fZ), (A 16, aI 3 fZ), (A 17, aI 4 (fun _ => -1)), (A 18, aI 48 fZ)]) (19, 3436) [obM m0 A 2 3 0 0 0 0 0 0 false 0 0 0 0 0 0 0 0 0 0 0 0 false, (A 0, aZ 256 fZ), (A 1, aZ 256 fZ), (A 2, aZ 256 fZ), (A 3, aI 40 fZ), (A 4, aI 40 fZ), (A 5, aI 16 fZ), (A 6, aI 16 fZ), (A 7, aI 4 fZ), (A 8, aZ 256 fZ), (A 9, aI 32 fZ), (A 10, aI 32 fZ), (A 11, aI 5 fZ), (A 12, aZ 256 fZ), (A 13, aZ 256 fZ), (A 14, aI 60 fZ), (A 15, aI 1600 fZ), (A 16, aI 3 fZ), (A 17, aI 4 Lc), (A 18, aI 48 fZ)] 171 [some (.ref m0), some (.int (nI i))] [] := by
  intro f
  induction f with
  | zero =>
    intro i Lc hi hL
    refine V_iload_n dX12_init_171 rfl ?_
    refine V_iconst (v := nI 4) dX12_init_172 (by decide) ?_
    refine V_icmp_ge_N 189 dX12_init_173 (by decide) (by omega) (by omega) (fun c_173 => ?_) (fun c_173 => absurd c_173 (by omega))
    refine V_agp 18 (fun _ => -1) rfl (fun j hj => hL j (by omega)) ?_
    exact V_vret dX12_init_189 rfl (by rw [hw0]; exact Nat.le_of_ble_eq_true rfl) (Nat.le_refl _) (Nat.le_refl _) ⟨rfl, rfl⟩
  | succ f ih =>
    intro i Lc hi hL
    refine V_iload_n dX12_init_171 rfl ?_
    refine V_iconst (v := nI 4) dX12_init_172 (by decide) ?_
    refine V_icmp_ge_N 189 dX12_init_173 (by decide) (by omega) (by omega) (fun c_173 => absurd c_173 (by omega)) (fun c_173 => ?_)
    refine V_aload_n dX12_init_176 rfl ?_
    refine V_get 0 dX12_init_177 fX12_init_71 rfl rfl ?_
    refine V_iload_n dX12_init_180 rfl ?_
    refine V_iconst (v := -1) dX12_init_181 (by decide) ?_
    refine V_iast_N 18 dX12_init_182 rfl (show i < 4 by omega) (by decide) ?_
    first | refine V_iinc_N (i := 1) dX12_init_183 rfl (by decide) rfl ?_ | refine V_iinc dX12_init_183 rfl rfl (by decide) rfl ?_
    refine V_goto 171 dX12_init_186 (by decide) ?_
    exact ih (i + 1) _ (by omega) (fun j hj => upd_fill hL hj)
theorem s_X12_init (hd : 6 ≤ d) : Sp tO MX12_init (d, 19, 3436) [.ref m0] [(m0, oB 10 [.int 0, .int 0, .int 0, .int 0, .int 0, .int 0, .int 0, .int 0, .null, .null, .null, .null, .null, .null, .null, .int 0, .int 0, .int 0, .int 0, .null, .null, .null, .null, .int 0, .int 0, .int 0, .int 0, .int 0, .int 0, .int 0, .null, .null, .null, .null, .null, .null, .int 0, .int 0, .int 0, .null, .null])] (fun v w' => ∃ A : Nat → Nat, v = none ∧ w' = [obM m0 A 2 3 0 0 0 0 0 0 false 0 0 0 0 0 0 0 0 0 0 0 0 false, (A 0, aZ 256 fZ), (A 1, aZ 256 fZ), (A 2, aZ 256 fZ), (A 3, aI 40 fZ), (A 4, aI 40 fZ), (A 5, aI 16 fZ), (A 6, aI 16 fZ), (A 7, aI 4 fZ), (A 8, aZ 256 fZ), (A 9, aI 32 fZ), (A 10, aI 32 fZ), (A 11, aI 5 fZ), (A 12, aZ 256 fZ), (A 13, aZ 256 fZ), (A 14, aI 60 fZ), (A 15, aI 1600 fZ), (A 16, aI 3 fZ), (A 17, aI 4 (fun _ => -1)), (A 18, aI 48 fZ)]) := by
  refine eX12_init [some (.ref m0), none] rfl (Nat.le_of_ble_eq_true rfl) ?_
  refine V_aload_n dX12_init_0 rfl ?_
  refine V_objInit dX12_init_1 (by unfold zOb; decide +kernel) (Nat.le_of_ble_eq_true rfl) (by omega) ?_
  refine V_aload_n dX12_init_4 rfl ?_
  refine V_iconst (v := nI 2) dX12_init_5 (by decide) ?_
  refine V_put 0 dX12_init_6 fX12_init_9 ft_10_0 rfl rfl rfl (Nat.le_of_ble_eq_true rfl) ?_
  refine V_aload_n dX12_init_9 rfl ?_
  refine V_iconst (v := nI 3) dX12_init_10 (by decide) ?_
  refine V_put 0 dX12_init_11 fX12_init_15 ft_10_1 rfl rfl rfl (Nat.le_of_ble_eq_true rfl) ?_
  refine V_aload_n dX12_init_14 rfl ?_
  refine V_sipush (v := nI 256) dX12_init_15 (by decide) ?_
  refine V_newaZ dX12_init_18 (by decide +kernel) (by decide) ⟨Nat.le_of_ble_eq_true rfl, Nat.le_of_ble_eq_true rfl⟩ (fun n_18 => ?_)
  simp only [List.cons_append, List.nil_append]
  refine V_equ (1, 256) rfl ?_
  refine V_putF 0 dX12_init_20 kX12_init_18 rfl rfl rfl rfl (Nat.le_of_ble_eq_true rfl) ?_
  simp only [zset_0, List.set_cons_zero, List.set_cons_succ]
  refine V_aload_n dX12_init_23 rfl ?_
  refine V_sipush (v := nI 256) dX12_init_24 (by decide) ?_
  refine V_newaZ dX12_init_27 (by decide +kernel) (by decide) ⟨Nat.le_of_ble_eq_true rfl, Nat.le_of_ble_eq_true rfl⟩ (fun n_27 => ?_)
  simp only [List.cons_append, List.nil_append]
  refine V_equ (2, 512) rfl ?_
  refine V_putF 0 dX12_init_29 kX12_init_22 rfl rfl rfl rfl (Nat.le_of_ble_eq_true rfl) ?_
  simp only [zset_0, List.set_cons_zero, List.set_cons_succ]
  refine V_aload_n dX12_init_32 rfl ?_
  refine V_sipush (v := nI 256) dX12_init_33 (by decide) ?_
  refine V_newaZ dX12_init_36 (by decide +kernel) (by decide) ⟨Nat.le_of_ble_eq_true rfl, Nat.le_of_ble_eq_true rfl⟩ (fun n_36 => ?_)
  simp only [List.cons_append, List.nil_append]
  refine V_equ (3, 768) rfl ?_
  refine V_putF 0 dX12_init_38 kX12_init_25 rfl rfl rfl rfl (Nat.le_of_ble_eq_true rfl) ?_
  simp only [zset_0, List.set_cons_zero, List.set_cons_succ]
  refine V_aload_n dX12_init_41 rfl ?_
  refine V_bipush (v := nI 40) dX12_init_42 (by decide) ?_
  refine V_newaI dX12_init_44 (by decide +kernel) (by decide) ⟨Nat.le_of_ble_eq_true rfl, Nat.le_of_ble_eq_true rfl⟩ (fun n_44 => ?_)
  simp only [List.cons_append, List.nil_append]
  refine V_equ (4, 808) rfl ?_
  refine V_putF 0 dX12_init_46 kX12_init_28 rfl rfl rfl rfl (Nat.le_of_ble_eq_true rfl) ?_
  simp only [zset_0, List.set_cons_zero, List.set_cons_succ]
  refine V_aload_n dX12_init_49 rfl ?_
  refine V_bipush (v := nI 40) dX12_init_50 (by decide) ?_
  refine V_newaI dX12_init_52 (by decide +kernel) (by decide) ⟨Nat.le_of_ble_eq_true rfl, Nat.le_of_ble_eq_true rfl⟩ (fun n_52 => ?_)
  simp only [List.cons_append, List.nil_append]
  refine V_equ (5, 848) rfl ?_
  refine V_putF 0 dX12_init_54 kX12_init_32 rfl rfl rfl rfl (Nat.le_of_ble_eq_true rfl) ?_
  simp only [zset_0, List.set_cons_zero, List.set_cons_succ]
  refine V_aload_n dX12_init_57 rfl ?_
  refine V_bipush (v := nI 16) dX12_init_58 (by decide) ?_
  refine V_newaI dX12_init_60 (by decide +kernel) (by decide) ⟨Nat.le_of_ble_eq_true rfl, Nat.le_of_ble_eq_true rfl⟩ (fun n_60 => ?_)
  simp only [List.cons_append, List.nil_append]
  refine V_equ (6, 864) rfl ?_
  refine V_putF 0 dX12_init_62 kX12_init_35 rfl rfl rfl rfl (Nat.le_of_ble_eq_true rfl) ?_
  simp only [zset_0, List.set_cons_zero, List.set_cons_succ]
  refine V_aload_n dX12_init_65 rfl ?_
  refine V_bipush (v := nI 16) dX12_init_66 (by decide) ?_
  refine V_newaI dX12_init_68 (by decide +kernel) (by decide) ⟨Nat.le_of_ble_eq_true rfl, Nat.le_of_ble_eq_true rfl⟩ (fun n_68 => ?_)
  simp only [List.cons_append, List.nil_append]
  refine V_equ (7, 880) rfl ?_
  refine V_putF 0 dX12_init_70 kX12_init_38 rfl rfl rfl rfl (Nat.le_of_ble_eq_true rfl) ?_
  simp only [zset_0, List.set_cons_zero, List.set_cons_succ]
  refine V_aload_n dX12_init_73 rfl ?_
  refine V_iconst (v := nI 4) dX12_init_74 (by decide) ?_
  refine V_newaI dX12_init_75 (by decide +kernel) (by decide) ⟨Nat.le_of_ble_eq_true rfl, Nat.le_of_ble_eq_true rfl⟩ (fun n_75 => ?_)
  simp only [List.cons_append, List.nil_append]
  refine V_equ (8, 884) rfl ?_
  refine V_putF 0 dX12_init_77 kX12_init_41 rfl rfl rfl rfl (Nat.le_of_ble_eq_true rfl) ?_
  simp only [zset_0, List.set_cons_zero, List.set_cons_succ]
  refine V_aload_n dX12_init_80 rfl ?_
  refine V_sipush (v := nI 256) dX12_init_81 (by decide) ?_
  refine V_newaZ dX12_init_84 (by decide +kernel) (by decide) ⟨Nat.le_of_ble_eq_true rfl, Nat.le_of_ble_eq_true rfl⟩ (fun n_84 => ?_)
  simp only [List.cons_append, List.nil_append]
  refine V_equ (9, 1140) rfl ?_
  refine V_putF 0 dX12_init_86 kX12_init_44 rfl rfl rfl rfl (Nat.le_of_ble_eq_true rfl) ?_
  simp only [zset_0, List.set_cons_zero, List.set_cons_succ]
  refine V_aload_n dX12_init_89 rfl ?_
  refine V_bipush (v := nI 32) dX12_init_90 (by decide) ?_
  refine V_newaI dX12_init_92 (by decide +kernel) (by decide) ⟨Nat.le_of_ble_eq_true rfl, Nat.le_of_ble_eq_true rfl⟩ (fun n_92 => ?_)
  simp only [List.cons_append, List.nil_append]
  refine V_equ (10, 1172) rfl ?_
  refine V_putF 0 dX12_init_94 kX12_init_47 rfl rfl rfl rfl (Nat.le_of_ble_eq_true rfl) ?_
  simp only [zset_0, List.set_cons_zero, List.set_cons_succ]
  refine V_aload_n dX12_init_97 rfl ?_
  refine V_bipush (v := nI 32) dX12_init_98 (by decide) ?_
  refine V_newaI dX12_init_100 (by decide +kernel) (by decide) ⟨Nat.le_of_ble_eq_true rfl, Nat.le_of_ble_eq_true rfl⟩ (fun n_100 => ?_)
  simp only [List.cons_append, List.nil_append]
  refine V_equ (11, 1204) rfl ?_
  refine V_putF 0 dX12_init_102 kX12_init_50 rfl rfl rfl rfl (Nat.le_of_ble_eq_true rfl) ?_
  simp only [zset_0, List.set_cons_zero, List.set_cons_succ]
  refine V_aload_n dX12_init_105 rfl ?_
  refine V_iconst (v := nI 5) dX12_init_106 (by decide) ?_
  refine V_newaI dX12_init_107 (by decide +kernel) (by decide) ⟨Nat.le_of_ble_eq_true rfl, Nat.le_of_ble_eq_true rfl⟩ (fun n_107 => ?_)
  simp only [List.cons_append, List.nil_append]
  refine V_equ (12, 1209) rfl ?_
  refine V_putF 0 dX12_init_109 kX12_init_53 rfl rfl rfl rfl (Nat.le_of_ble_eq_true rfl) ?_
  simp only [zset_0, List.set_cons_zero, List.set_cons_succ]
  refine V_aload_n dX12_init_112 rfl ?_
  refine V_sipush (v := nI 256) dX12_init_113 (by decide) ?_
  refine V_newaZ dX12_init_116 (by decide +kernel) (by decide) ⟨Nat.le_of_ble_eq_true rfl, Nat.le_of_ble_eq_true rfl⟩ (fun n_116 => ?_)
  simp only [List.cons_append, List.nil_append]
  refine V_equ (13, 1465) rfl ?_
  refine V_putF 0 dX12_init_118 kX12_init_56 rfl rfl rfl rfl (Nat.le_of_ble_eq_true rfl) ?_
  simp only [zset_0, List.set_cons_zero, List.set_cons_succ]
  refine V_aload_n dX12_init_121 rfl ?_
  refine V_sipush (v := nI 256) dX12_init_122 (by decide) ?_
  refine V_newaZ dX12_init_125 (by decide +kernel) (by decide) ⟨Nat.le_of_ble_eq_true rfl, Nat.le_of_ble_eq_true rfl⟩ (fun n_125 => ?_)
  simp only [List.cons_append, List.nil_append]
  refine V_equ (14, 1721) rfl ?_
  refine V_putF 0 dX12_init_127 kX12_init_59 rfl rfl rfl rfl (Nat.le_of_ble_eq_true rfl) ?_
  simp only [zset_0, List.set_cons_zero, List.set_cons_succ]
  refine V_aload_n dX12_init_130 rfl ?_
  refine V_bipush (v := nI 60) dX12_init_131 (by decide) ?_
  refine V_newaI dX12_init_133 (by decide +kernel) (by decide) ⟨Nat.le_of_ble_eq_true rfl, Nat.le_of_ble_eq_true rfl⟩ (fun n_133 => ?_)
  simp only [List.cons_append, List.nil_append]
  refine V_equ (15, 1781) rfl ?_
  refine V_putF 0 dX12_init_135 kX12_init_62 rfl rfl rfl rfl (Nat.le_of_ble_eq_true rfl) ?_
  simp only [zset_0, List.set_cons_zero, List.set_cons_succ]
  refine V_aload_n dX12_init_138 rfl ?_
  refine V_sipush (v := nI 1600) dX12_init_139 (by decide) ?_
  refine V_newaI dX12_init_142 (by decide +kernel) (by decide) ⟨Nat.le_of_ble_eq_true rfl, Nat.le_of_ble_eq_true rfl⟩ (fun n_142 => ?_)
  simp only [List.cons_append, List.nil_append]
  refine V_equ (16, 3381) rfl ?_
  refine V_putF 0 dX12_init_144 kX12_init_65 rfl rfl rfl rfl (Nat.le_of_ble_eq_true rfl) ?_
  simp only [zset_0, List.set_cons_zero, List.set_cons_succ]
  refine V_aload_n dX12_init_147 rfl ?_
  refine V_iconst (v := nI 3) dX12_init_148 (by decide) ?_
  refine V_newaI dX12_init_149 (by decide +kernel) (by decide) ⟨Nat.le_of_ble_eq_true rfl, Nat.le_of_ble_eq_true rfl⟩ (fun n_149 => ?_)
  simp only [List.cons_append, List.nil_append]
  refine V_equ (17, 3384) rfl ?_
  refine V_putF 0 dX12_init_151 kX12_init_68 rfl rfl rfl rfl (Nat.le_of_ble_eq_true rfl) ?_
  simp only [zset_0, List.set_cons_zero, List.set_cons_succ]
  refine V_aload_n dX12_init_154 rfl ?_
  refine V_iconst (v := nI 4) dX12_init_155 (by decide) ?_
  refine V_newaI dX12_init_156 (by decide +kernel) (by decide) ⟨Nat.le_of_ble_eq_true rfl, Nat.le_of_ble_eq_true rfl⟩ (fun n_156 => ?_)
  simp only [List.cons_append, List.nil_append]
  refine V_equ (18, 3388) rfl ?_
  refine V_putF 0 dX12_init_158 kX12_init_71 rfl rfl rfl rfl (Nat.le_of_ble_eq_true rfl) ?_
  simp only [zset_0, List.set_cons_zero, List.set_cons_succ]
  refine V_aload_n dX12_init_161 rfl ?_
  refine V_bipush (v := nI 48) dX12_init_162 (by decide) ?_
  refine V_newaI dX12_init_164 (by decide +kernel) (by decide) ⟨Nat.le_of_ble_eq_true rfl, Nat.le_of_ble_eq_true rfl⟩ (fun n_164 => ?_)
  simp only [List.cons_append, List.nil_append]
  refine V_equ (19, 3436) rfl ?_
  refine V_putF 0 dX12_init_166 kX12_init_74 rfl rfl rfl rfl (Nat.le_of_ble_eq_true rfl) ?_
  simp only [zset_0, List.set_cons_zero, List.set_cons_succ]
  refine V_iconst (v := nI 0) dX12_init_169 (by decide) ?_
  refine V_istore_n dX12_init_170 (by decide) rfl ?_
  refine V_post (l_X12_init (A := fun i => [n_18, n_27, n_36, n_44, n_52, n_60, n_68, n_75, n_84, n_92, n_100, n_107, n_116, n_125, n_133, n_142, n_149, n_156, n_164].getD i 0) rfl 4 0 fZ (by omega) (fun j hj => absurd hj (by omega))) ?_
  rintro _ _ ⟨rfl, rfl⟩
  exact ⟨_, rfl, rfl⟩
end CTORM

