set_option maxRecDepth 20000 in
theorem ggX0_init_X0_become : GoodIn wsX0_init wsX0_become := goodIn_r _ [10, 11, 12, 5, 13, 14, 15, 16, 9, 17, 18, 19, 20, 21] (by decide +kernel) (by decide +kernel)
set_option maxRecDepth 20000 in
theorem gX0_init_X0_become : GoodIn wsX0_init (wsV RX0 15 RX0 yX0_become wsX0_become) := goodIn_app (goodIn_of _ (by decide +kernel)) ggX0_init_X0_become
theorem dX0_init_0 : decode cX0_init 0 = .ok (.aload_n 0, 1) := by decide +kernel
theorem dX0_init_1 : decode cX0_init 1 = .ok (.invokespecial 3, 3) := by decide +kernel
theorem dX0_init_4 : decode cX0_init 4 = .ok (.aload_n 0, 1) := by decide +kernel
theorem dX0_init_5 : decode cX0_init 5 = .ok (.bipush 6, 2) := by decide +kernel
theorem dX0_init_7 : decode cX0_init 7 = .ok (.newarray .int, 2) := by decide +kernel
theorem dX0_init_9 : decode cX0_init 9 = .ok (.putfield 9, 3) := by decide +kernel
theorem dX0_init_12 : decode cX0_init 12 = .ok (.aload_n 0, 1) := by decide +kernel
theorem dX0_init_13 : decode cX0_init 13 = .ok (.iconst 2, 1) := by decide +kernel
theorem dX0_init_14 : decode cX0_init 14 = .ok (.iconst 3, 1) := by decide +kernel
theorem dX0_init_15 : decode cX0_init 15 = .ok (.invokevirtual 15, 3) := by decide +kernel
theorem dX0_init_18 : decode cX0_init 18 = .ok (.return_, 1) := by decide +kernel
theorem dX0_canBe_0 : decode cX0_canBe 0 = .ok (.iload_n 0, 1) := by decide +kernel
theorem dX0_canBe_1 : decode cX0_canBe 1 = .ok (.iconst 2, 1) := by decide +kernel
theorem dX0_canBe_2 : decode cX0_canBe 2 = .ok (.if_icmp .lt 18, 3) := by decide +kernel
theorem dX0_canBe_5 : decode cX0_canBe 5 = .ok (.iload_n 0, 1) := by decide +kernel
theorem dX0_canBe_6 : decode cX0_canBe 6 = .ok (.iconst 4, 1) := by decide +kernel
theorem dX0_canBe_7 : decode cX0_canBe 7 = .ok (.if_icmp .gt 13, 3) := by decide +kernel
theorem dX0_canBe_10 : decode cX0_canBe 10 = .ok (.iload_n 1, 1) := by decide +kernel
theorem dX0_canBe_11 : decode cX0_canBe 11 = .ok (.iconst 1, 1) := by decide +kernel
theorem dX0_canBe_12 : decode cX0_canBe 12 = .ok (.if_icmp .lt 8, 3) := by decide +kernel
theorem dX0_canBe_15 : decode cX0_canBe 15 = .ok (.iload_n 1, 1) := by decide +kernel
theorem dX0_canBe_16 : decode cX0_canBe 16 = .ok (.iconst 5, 1) := by decide +kernel
theorem dX0_canBe_17 : decode cX0_canBe 17 = .ok (.if_icmp .le 5, 3) := by decide +kernel
theorem dX0_canBe_20 : decode cX0_canBe 20 = .ok (.iconst 0, 1) := by decide +kernel
theorem dX0_canBe_21 : decode cX0_canBe 21 = .ok (.ireturn, 1) := by decide +kernel
theorem dX0_canBe_22 : decode cX0_canBe 22 = .ok (.iconst 1, 1) := by decide +kernel
theorem dX0_canBe_23 : decode cX0_canBe 23 = .ok (.istore_n 2, 1) := by decide +kernel
theorem dX0_canBe_24 : decode cX0_canBe 24 = .ok (.iconst 0, 1) := by decide +kernel
theorem dX0_canBe_25 : decode cX0_canBe 25 = .ok (.istore_n 3, 1) := by decide +kernel
theorem dX0_canBe_26 : decode cX0_canBe 26 = .ok (.iload_n 3, 1) := by decide +kernel
theorem dX0_canBe_27 : decode cX0_canBe 27 = .ok (.iload_n 1, 1) := by decide +kernel
theorem dX0_canBe_28 : decode cX0_canBe 28 = .ok (.if_icmp .ge 13, 3) := by decide +kernel
theorem dX0_canBe_31 : decode cX0_canBe 31 = .ok (.iload_n 2, 1) := by decide +kernel
theorem dX0_canBe_32 : decode cX0_canBe 32 = .ok (.iload_n 0, 1) := by decide +kernel
theorem dX0_canBe_33 : decode cX0_canBe 33 = .ok (.imul, 1) := by decide +kernel
theorem dX0_canBe_34 : decode cX0_canBe 34 = .ok (.istore_n 2, 1) := by decide +kernel
theorem dX0_canBe_35 : decode cX0_canBe 35 = .ok (.iinc 3 1, 3) := by decide +kernel
theorem dX0_canBe_38 : decode cX0_canBe 38 = .ok (.goto (-12), 3) := by decide +kernel
theorem dX0_canBe_41 : decode cX0_canBe 41 = .ok (.iload_n 2, 1) := by decide +kernel
theorem dX0_canBe_42 : decode cX0_canBe 42 = .ok (.sipush 256, 3) := by decide +kernel
theorem dX0_canBe_45 : decode cX0_canBe 45 = .ok (.if_icmp .gt 7, 3) := by decide +kernel
theorem dX0_canBe_48 : decode cX0_canBe 48 = .ok (.iconst 1, 1) := by decide +kernel
theorem dX0_canBe_49 : decode cX0_canBe 49 = .ok (.goto 4, 3) := by decide +kernel
theorem dX0_canBe_52 : decode cX0_canBe 52 = .ok (.iconst 0, 1) := by decide +kernel
theorem dX0_canBe_53 : decode cX0_canBe 53 = .ok (.ireturn, 1) := by decide +kernel
set_option maxRecDepth 20000 in
theorem ggX0_become_X0_power : GoodIn wsX0_become wsX0_power := goodIn_r _ [9, 3, 10, 11, 12, 13] (by decide +kernel) (by decide +kernel)
set_option maxRecDepth 20000 in
theorem gX0_become_X0_power : GoodIn wsX0_become (wsV RX0 26 RX0 yX0_power wsX0_power) := goodIn_app (goodIn_of _ (by decide +kernel)) ggX0_become_X0_power
theorem dX0_become_0 : decode cX0_become 0 = .ok (.aload_n 0, 1) := by decide +kernel
theorem dX0_become_1 : decode cX0_become 1 = .ok (.iload_n 1, 1) := by decide +kernel
theorem dX0_become_2 : decode cX0_become 2 = .ok (.putfield 19, 3) := by decide +kernel
theorem dX0_become_5 : decode cX0_become 5 = .ok (.aload_n 0, 1) := by decide +kernel
theorem dX0_become_6 : decode cX0_become 6 = .ok (.iload_n 2, 1) := by decide +kernel
theorem dX0_become_7 : decode cX0_become 7 = .ok (.putfield 23, 3) := by decide +kernel
theorem dX0_become_10 : decode cX0_become 10 = .ok (.iconst 1, 1) := by decide +kernel
theorem dX0_become_11 : decode cX0_become 11 = .ok (.istore_n 3, 1) := by decide +kernel
theorem dX0_become_12 : decode cX0_become 12 = .ok (.iconst 0, 1) := by decide +kernel
theorem dX0_become_13 : decode cX0_become 13 = .ok (.istore 4, 2) := by decide +kernel
theorem dX0_become_15 : decode cX0_become 15 = .ok (.iload 4, 2) := by decide +kernel
theorem dX0_become_17 : decode cX0_become 17 = .ok (.aload_n 0, 1) := by decide +kernel
theorem dX0_become_18 : decode cX0_become 18 = .ok (.getfield 9, 3) := by decide +kernel
theorem dX0_become_21 : decode cX0_become 21 = .ok (.arraylength, 1) := by decide +kernel
theorem dX0_become_22 : decode cX0_become 22 = .ok (.if_icmp .ge 21, 3) := by decide +kernel
theorem dX0_become_25 : decode cX0_become 25 = .ok (.aload_n 0, 1) := by decide +kernel
theorem dX0_become_26 : decode cX0_become 26 = .ok (.getfield 9, 3) := by decide +kernel
theorem dX0_become_29 : decode cX0_become 29 = .ok (.iload 4, 2) := by decide +kernel
theorem dX0_become_31 : decode cX0_become 31 = .ok (.iload_n 3, 1) := by decide +kernel
theorem dX0_become_32 : decode cX0_become 32 = .ok (.iastore, 1) := by decide +kernel
theorem dX0_become_33 : decode cX0_become 33 = .ok (.iload_n 3, 1) := by decide +kernel
theorem dX0_become_34 : decode cX0_become 34 = .ok (.iload_n 1, 1) := by decide +kernel
theorem dX0_become_35 : decode cX0_become 35 = .ok (.imul, 1) := by decide +kernel
theorem dX0_become_36 : decode cX0_become 36 = .ok (.istore_n 3, 1) := by decide +kernel
theorem dX0_become_37 : decode cX0_become 37 = .ok (.iinc 4 1, 3) := by decide +kernel
theorem dX0_become_40 : decode cX0_become 40 = .ok (.goto (-25), 3) := by decide +kernel
theorem dX0_become_43 : decode cX0_become 43 = .ok (.aload_n 0, 1) := by decide +kernel
theorem dX0_become_44 : decode cX0_become 44 = .ok (.aload_n 0, 1) := by decide +kernel
theorem dX0_become_45 : decode cX0_become 45 = .ok (.iload_n 2, 1) := by decide +kernel
theorem dX0_become_46 : decode cX0_become 46 = .ok (.invokevirtual 26, 3) := by decide +kernel
theorem dX0_become_49 : decode cX0_become 49 = .ok (.putfield 30, 3) := by decide +kernel
theorem dX0_become_52 : decode cX0_become 52 = .ok (.return_, 1) := by decide +kernel
theorem dX0_power_0 : decode cX0_power 0 = .ok (.iload_n 1, 1) := by decide +kernel
theorem dX0_power_1 : decode cX0_power 1 = .ok (.ifCond .lt 21, 3) := by decide +kernel
theorem dX0_power_4 : decode cX0_power 4 = .ok (.iload_n 1, 1) := by decide +kernel
theorem dX0_power_5 : decode cX0_power 5 = .ok (.aload_n 0, 1) := by decide +kernel
theorem dX0_power_6 : decode cX0_power 6 = .ok (.getfield 9, 3) := by decide +kernel
theorem dX0_power_9 : decode cX0_power 9 = .ok (.arraylength, 1) := by decide +kernel
theorem dX0_power_10 : decode cX0_power 10 = .ok (.if_icmp .ge 12, 3) := by decide +kernel
theorem dX0_power_13 : decode cX0_power 13 = .ok (.aload_n 0, 1) := by decide +kernel
theorem dX0_power_14 : decode cX0_power 14 = .ok (.getfield 9, 3) := by decide +kernel
theorem dX0_power_17 : decode cX0_power 17 = .ok (.iload_n 1, 1) := by decide +kernel
theorem dX0_power_18 : decode cX0_power 18 = .ok (.iaload, 1) := by decide +kernel
theorem dX0_power_19 : decode cX0_power 19 = .ok (.goto 4, 3) := by decide +kernel
theorem dX0_power_22 : decode cX0_power 22 = .ok (.iconst 1, 1) := by decide +kernel
theorem dX0_power_23 : decode cX0_power 23 = .ok (.ireturn, 1) := by decide +kernel
theorem dX0_isWord_0 : decode cX0_isWord 0 = .ok (.iload_n 1, 1) := by decide +kernel
theorem dX0_isWord_1 : decode cX0_isWord 1 = .ok (.ifCond .lt 15, 3) := by decide +kernel
theorem dX0_isWord_4 : decode cX0_isWord 4 = .ok (.iload_n 1, 1) := by decide +kernel
theorem dX0_isWord_5 : decode cX0_isWord 5 = .ok (.aload_n 0, 1) := by decide +kernel
theorem dX0_isWord_6 : decode cX0_isWord 6 = .ok (.getfield 30, 3) := by decide +kernel
theorem dX0_isWord_9 : decode cX0_isWord 9 = .ok (.if_icmp .ge 7, 3) := by decide +kernel
theorem dX0_isWord_12 : decode cX0_isWord 12 = .ok (.iconst 1, 1) := by decide +kernel
theorem dX0_isWord_13 : decode cX0_isWord 13 = .ok (.goto 4, 3) := by decide +kernel
theorem dX0_isWord_16 : decode cX0_isWord 16 = .ok (.iconst 0, 1) := by decide +kernel
theorem dX0_isWord_17 : decode cX0_isWord 17 = .ok (.ireturn, 1) := by decide +kernel
set_option maxRecDepth 20000 in
theorem ggX0_opening_X0_power : GoodIn wsX0_opening wsX0_power := goodIn_r _ [6, 7, 12, 13, 14, 15] (by decide +kernel) (by decide +kernel)
set_option maxRecDepth 20000 in
theorem gX0_opening_X0_power : GoodIn wsX0_opening (wsV RX0 26 RX0 yX0_power wsX0_power) := goodIn_app (goodIn_of _ (by decide +kernel)) ggX0_opening_X0_power
set_option maxRecDepth 20000 in
theorem ggX0_opening_X8_over : GoodIn wsX0_opening wsX8_over := goodIn_r _ [11] (by decide +kernel) (by decide +kernel)
set_option maxRecDepth 20000 in
theorem gX0_opening_X8_over : GoodIn wsX0_opening (va_wsS RX0 33 yX8_over wsX8_over) := goodIn_app (goodIn_of _ (by decide +kernel)) ggX0_opening_X8_over
theorem dX0_opening_0 : decode cX0_opening 0 = .ok (.iload_n 1, 1) := by decide +kernel
theorem dX0_opening_1 : decode cX0_opening 1 = .ok (.aload_n 0, 1) := by decide +kernel
theorem dX0_opening_2 : decode cX0_opening 2 = .ok (.aload_n 0, 1) := by decide +kernel
theorem dX0_opening_3 : decode cX0_opening 3 = .ok (.getfield 23, 3) := by decide +kernel
theorem dX0_opening_6 : decode cX0_opening 6 = .ok (.iload_n 2, 1) := by decide +kernel
theorem dX0_opening_7 : decode cX0_opening 7 = .ok (.isub, 1) := by decide +kernel
theorem dX0_opening_8 : decode cX0_opening 8 = .ok (.invokevirtual 26, 3) := by decide +kernel
theorem dX0_opening_11 : decode cX0_opening 11 = .ok (.invokestatic 33, 3) := by decide +kernel
theorem dX0_opening_14 : decode cX0_opening 14 = .ok (.ireturn, 1) := by decide +kernel
set_option maxRecDepth 20000 in
theorem ggX0_ending_X0_power : GoodIn wsX0_ending wsX0_power := goodIn_r _ [5, 6, 11, 12, 13, 14] (by decide +kernel) (by decide +kernel)
set_option maxRecDepth 20000 in
theorem gX0_ending_X0_power : GoodIn wsX0_ending (wsV RX0 26 RX0 yX0_power wsX0_power) := goodIn_app (goodIn_of _ (by decide +kernel)) ggX0_ending_X0_power
set_option maxRecDepth 20000 in
theorem ggX0_ending_X8_rest : GoodIn wsX0_ending wsX8_rest := goodIn_r _ [10] (by decide +kernel) (by decide +kernel)
set_option maxRecDepth 20000 in
theorem gX0_ending_X8_rest : GoodIn wsX0_ending (va_wsS RX0 39 yX8_rest wsX8_rest) := goodIn_app (goodIn_of _ (by decide +kernel)) ggX0_ending_X8_rest
theorem dX0_ending_0 : decode cX0_ending 0 = .ok (.iload_n 1, 1) := by decide +kernel
theorem dX0_ending_1 : decode cX0_ending 1 = .ok (.aload_n 0, 1) := by decide +kernel
theorem dX0_ending_2 : decode cX0_ending 2 = .ok (.iload_n 2, 1) := by decide +kernel
theorem dX0_ending_3 : decode cX0_ending 3 = .ok (.invokevirtual 26, 3) := by decide +kernel
theorem dX0_ending_6 : decode cX0_ending 6 = .ok (.invokestatic 39, 3) := by decide +kernel
theorem dX0_ending_9 : decode cX0_ending 9 = .ok (.ireturn, 1) := by decide +kernel
set_option maxRecDepth 20000 in
theorem ggX0_part_X0_power : GoodIn wsX0_part wsX0_power := goodIn_r _ [6, 7, 15, 16, 17, 18] (by decide +kernel) (by decide +kernel)
set_option maxRecDepth 20000 in
theorem gX0_part_X0_power : GoodIn wsX0_part (wsV RX0 26 RX0 yX0_power wsX0_power) := goodIn_app (goodIn_of _ (by decide +kernel)) ggX0_part_X0_power
set_option maxRecDepth 20000 in
theorem ggX0_part_X8_over : GoodIn wsX0_part wsX8_over := goodIn_r _ [11] (by decide +kernel) (by decide +kernel)
set_option maxRecDepth 20000 in
theorem gX0_part_X8_over : GoodIn wsX0_part (va_wsS RX0 33 yX8_over wsX8_over) := goodIn_app (goodIn_of _ (by decide +kernel)) ggX0_part_X8_over
set_option maxRecDepth 20000 in
theorem ggX0_part_X8_rest : GoodIn wsX0_part wsX8_rest := goodIn_r _ [14] (by decide +kernel) (by decide +kernel)
set_option maxRecDepth 20000 in
theorem gX0_part_X8_rest : GoodIn wsX0_part (va_wsS RX0 39 yX8_rest wsX8_rest) := goodIn_app (goodIn_of _ (by decide +kernel)) ggX0_part_X8_rest
theorem dX0_part_0 : decode cX0_part 0 = .ok (.iload_n 1, 1) := by decide +kernel
theorem dX0_part_1 : decode cX0_part 1 = .ok (.aload_n 0, 1) := by decide +kernel
theorem dX0_part_2 : decode cX0_part 2 = .ok (.aload_n 0, 1) := by decide +kernel
theorem dX0_part_3 : decode cX0_part 3 = .ok (.getfield 23, 3) := by decide +kernel
theorem dX0_part_6 : decode cX0_part 6 = .ok (.iconst 1, 1) := by decide +kernel
theorem dX0_part_7 : decode cX0_part 7 = .ok (.isub, 1) := by decide +kernel
theorem dX0_part_8 : decode cX0_part 8 = .ok (.iload_n 2, 1) := by decide +kernel
theorem dX0_part_9 : decode cX0_part 9 = .ok (.isub, 1) := by decide +kernel
theorem dX0_part_10 : decode cX0_part 10 = .ok (.invokevirtual 26, 3) := by decide +kernel
theorem dX0_part_13 : decode cX0_part 13 = .ok (.invokestatic 33, 3) := by decide +kernel
theorem dX0_part_16 : decode cX0_part 16 = .ok (.aload_n 0, 1) := by decide +kernel
theorem dX0_part_17 : decode cX0_part 17 = .ok (.iload_n 3, 1) := by decide +kernel
theorem dX0_part_18 : decode cX0_part 18 = .ok (.invokevirtual 26, 3) := by decide +kernel
theorem dX0_part_21 : decode cX0_part 21 = .ok (.invokestatic 39, 3) := by decide +kernel
theorem dX0_part_24 : decode cX0_part 24 = .ok (.ireturn, 1) := by decide +kernel
set_option maxRecDepth 20000 in
theorem ggX0_across_X0_ending : GoodIn wsX0_across wsX0_ending := goodIn_r _ [6, 7, 8, 9, 5, 10, 11, 12, 13, 14, 15, 23, 24, 25, 26] (by decide +kernel) (by decide +kernel)
set_option maxRecDepth 20000 in
theorem gX0_across_X0_ending : GoodIn wsX0_across (wsV RX0 42 RX0 yX0_ending wsX0_ending) := goodIn_app (goodIn_of _ (by decide +kernel)) ggX0_across_X0_ending
set_option maxRecDepth 20000 in
theorem ggX0_across_X0_power : GoodIn wsX0_across wsX0_power := goodIn_r _ [10, 11, 23, 24, 25, 26] (by decide +kernel) (by decide +kernel)
set_option maxRecDepth 20000 in
theorem gX0_across_X0_power : GoodIn wsX0_across (wsV RX0 26 RX0 yX0_power wsX0_power) := goodIn_app (goodIn_of _ (by decide +kernel)) ggX0_across_X0_power
set_option maxRecDepth 20000 in
theorem ggX0_across_X0_opening : GoodIn wsX0_across wsX0_opening := goodIn_r _ [19, 1, 7, 8, 9, 5, 10, 11, 20, 21, 14, 22, 23, 24, 25, 26] (by decide +kernel) (by decide +kernel)
set_option maxRecDepth 20000 in
theorem gX0_across_X0_opening : GoodIn wsX0_across (wsV RX0 45 RX0 yX0_opening wsX0_opening) := goodIn_app (goodIn_of _ (by decide +kernel)) ggX0_across_X0_opening
theorem dX0_across_0 : decode cX0_across 0 = .ok (.aload_n 0, 1) := by decide +kernel
theorem dX0_across_1 : decode cX0_across 1 = .ok (.iload_n 1, 1) := by decide +kernel
theorem dX0_across_2 : decode cX0_across 2 = .ok (.aload_n 0, 1) := by decide +kernel
theorem dX0_across_3 : decode cX0_across 3 = .ok (.getfield 23, 3) := by decide +kernel
theorem dX0_across_6 : decode cX0_across 6 = .ok (.iload_n 3, 1) := by decide +kernel
theorem dX0_across_7 : decode cX0_across 7 = .ok (.isub, 1) := by decide +kernel
theorem dX0_across_8 : decode cX0_across 8 = .ok (.invokevirtual 42, 3) := by decide +kernel
theorem dX0_across_11 : decode cX0_across 11 = .ok (.aload_n 0, 1) := by decide +kernel
theorem dX0_across_12 : decode cX0_across 12 = .ok (.iload_n 3, 1) := by decide +kernel
theorem dX0_across_13 : decode cX0_across 13 = .ok (.invokevirtual 26, 3) := by decide +kernel
theorem dX0_across_16 : decode cX0_across 16 = .ok (.imul, 1) := by decide +kernel
theorem dX0_across_17 : decode cX0_across 17 = .ok (.aload_n 0, 1) := by decide +kernel
theorem dX0_across_18 : decode cX0_across 18 = .ok (.iload_n 2, 1) := by decide +kernel
theorem dX0_across_19 : decode cX0_across 19 = .ok (.iload_n 3, 1) := by decide +kernel
theorem dX0_across_20 : decode cX0_across 20 = .ok (.invokevirtual 45, 3) := by decide +kernel
theorem dX0_across_23 : decode cX0_across 23 = .ok (.iadd, 1) := by decide +kernel
theorem dX0_across_24 : decode cX0_across 24 = .ok (.ireturn, 1) := by decide +kernel
set_option maxRecDepth 20000 in
theorem ggX0_turned_X0_power : GoodIn wsX0_turned wsX0_power := goodIn_r _ [7, 8, 16, 17, 18, 19] (by decide +kernel) (by decide +kernel)
set_option maxRecDepth 20000 in
theorem gX0_turned_X0_power : GoodIn wsX0_turned (wsV RX0 26 RX0 yX0_power wsX0_power) := goodIn_app (goodIn_of _ (by decide +kernel)) ggX0_turned_X0_power
set_option maxRecDepth 20000 in
theorem ggX0_turned_X8_rest : GoodIn wsX0_turned wsX8_rest := goodIn_r _ [12] (by decide +kernel) (by decide +kernel)
set_option maxRecDepth 20000 in
theorem gX0_turned_X8_rest : GoodIn wsX0_turned (va_wsS RX0 39 yX8_rest wsX8_rest) := goodIn_app (goodIn_of _ (by decide +kernel)) ggX0_turned_X8_rest
set_option maxRecDepth 20000 in
theorem ggX0_turned_X8_over : GoodIn wsX0_turned wsX8_over := goodIn_r _ [15] (by decide +kernel) (by decide +kernel)
set_option maxRecDepth 20000 in
theorem gX0_turned_X8_over : GoodIn wsX0_turned (va_wsS RX0 33 yX8_over wsX8_over) := goodIn_app (goodIn_of _ (by decide +kernel)) ggX0_turned_X8_over
theorem dX0_turned_0 : decode cX0_turned 0 = .ok (.aload_n 0, 1) := by decide +kernel
theorem dX0_turned_1 : decode cX0_turned 1 = .ok (.aload_n 0, 1) := by decide +kernel
theorem dX0_turned_2 : decode cX0_turned 2 = .ok (.getfield 23, 3) := by decide +kernel
theorem dX0_turned_5 : decode cX0_turned 5 = .ok (.iconst 1, 1) := by decide +kernel
theorem dX0_turned_6 : decode cX0_turned 6 = .ok (.isub, 1) := by decide +kernel
theorem dX0_turned_7 : decode cX0_turned 7 = .ok (.invokevirtual 26, 3) := by decide +kernel
theorem dX0_turned_10 : decode cX0_turned 10 = .ok (.istore_n 2, 1) := by decide +kernel
theorem dX0_turned_11 : decode cX0_turned 11 = .ok (.iload_n 1, 1) := by decide +kernel
theorem dX0_turned_12 : decode cX0_turned 12 = .ok (.iload_n 2, 1) := by decide +kernel
theorem dX0_turned_13 : decode cX0_turned 13 = .ok (.invokestatic 39, 3) := by decide +kernel
theorem dX0_turned_16 : decode cX0_turned 16 = .ok (.aload_n 0, 1) := by decide +kernel
theorem dX0_turned_17 : decode cX0_turned 17 = .ok (.getfield 19, 3) := by decide +kernel
theorem dX0_turned_20 : decode cX0_turned 20 = .ok (.imul, 1) := by decide +kernel
theorem dX0_turned_21 : decode cX0_turned 21 = .ok (.iload_n 1, 1) := by decide +kernel
theorem dX0_turned_22 : decode cX0_turned 22 = .ok (.iload_n 2, 1) := by decide +kernel
theorem dX0_turned_23 : decode cX0_turned 23 = .ok (.invokestatic 33, 3) := by decide +kernel
theorem dX0_turned_26 : decode cX0_turned 26 = .ok (.iadd, 1) := by decide +kernel
theorem dX0_turned_27 : decode cX0_turned 27 = .ok (.ireturn, 1) := by decide +kernel
set_option maxRecDepth 20000 in
theorem ggX0_ringSize_X0_turned : GoodIn wsX0_ringSize wsX0_turned := goodIn_r _ [6, 1, 7, 8, 9, 10, 5, 11, 12, 13, 14, 15, 16, 17, 18, 19, 20, 21, 22, 23] (by decide +kernel) (by decide +kernel)
set_option maxRecDepth 20000 in
theorem gX0_ringSize_X0_turned : GoodIn wsX0_ringSize (wsV RX0 48 RX0 yX0_turned wsX0_turned) := goodIn_app (goodIn_of _ (by decide +kernel)) ggX0_ringSize_X0_turned
theorem dX0_ringSize_0 : decode cX0_ringSize 0 = .ok (.aload_n 0, 1) := by decide +kernel
theorem dX0_ringSize_1 : decode cX0_ringSize 1 = .ok (.iload_n 1, 1) := by decide +kernel
theorem dX0_ringSize_2 : decode cX0_ringSize 2 = .ok (.invokevirtual 48, 3) := by decide +kernel
theorem dX0_ringSize_5 : decode cX0_ringSize 5 = .ok (.istore_n 2, 1) := by decide +kernel
theorem dX0_ringSize_6 : decode cX0_ringSize 6 = .ok (.iconst 1, 1) := by decide +kernel
theorem dX0_ringSize_7 : decode cX0_ringSize 7 = .ok (.istore_n 3, 1) := by decide +kernel
theorem dX0_ringSize_8 : decode cX0_ringSize 8 = .ok (.iload_n 2, 1) := by decide +kernel
theorem dX0_ringSize_9 : decode cX0_ringSize 9 = .ok (.iload_n 1, 1) := by decide +kernel
theorem dX0_ringSize_10 : decode cX0_ringSize 10 = .ok (.if_icmp .eq 23, 3) := by decide +kernel
theorem dX0_ringSize_13 : decode cX0_ringSize 13 = .ok (.iload_n 3, 1) := by decide +kernel
theorem dX0_ringSize_14 : decode cX0_ringSize 14 = .ok (.aload_n 0, 1) := by decide +kernel
theorem dX0_ringSize_15 : decode cX0_ringSize 15 = .ok (.getfield 23, 3) := by decide +kernel
theorem dX0_ringSize_18 : decode cX0_ringSize 18 = .ok (.if_icmp .ge 15, 3) := by decide +kernel
theorem dX0_ringSize_21 : decode cX0_ringSize 21 = .ok (.aload_n 0, 1) := by decide +kernel
theorem dX0_ringSize_22 : decode cX0_ringSize 22 = .ok (.iload_n 2, 1) := by decide +kernel
theorem dX0_ringSize_23 : decode cX0_ringSize 23 = .ok (.invokevirtual 48, 3) := by decide +kernel
theorem dX0_ringSize_26 : decode cX0_ringSize 26 = .ok (.istore_n 2, 1) := by decide +kernel
theorem dX0_ringSize_27 : decode cX0_ringSize 27 = .ok (.iinc 3 1, 3) := by decide +kernel
theorem dX0_ringSize_30 : decode cX0_ringSize 30 = .ok (.goto (-22), 3) := by decide +kernel
theorem dX0_ringSize_33 : decode cX0_ringSize 33 = .ok (.iload_n 3, 1) := by decide +kernel
theorem dX0_ringSize_34 : decode cX0_ringSize 34 = .ok (.ireturn, 1) := by decide +kernel
set_option maxRecDepth 20000 in
theorem ggX0_ringLeast_X0_turned : GoodIn wsX0_ringLeast wsX0_turned := goodIn_r _ [10, 1, 11, 12, 13, 14, 9, 15, 16, 17, 18, 19, 20, 21, 22, 23, 24, 25, 26, 27] (by decide +kernel) (by decide +kernel)
set_option maxRecDepth 20000 in
theorem gX0_ringLeast_X0_turned : GoodIn wsX0_ringLeast (wsV RX0 48 RX0 yX0_turned wsX0_turned) := goodIn_app (goodIn_of _ (by decide +kernel)) ggX0_ringLeast_X0_turned
theorem dX0_ringLeast_0 : decode cX0_ringLeast 0 = .ok (.iload_n 1, 1) := by decide +kernel
theorem dX0_ringLeast_1 : decode cX0_ringLeast 1 = .ok (.istore_n 2, 1) := by decide +kernel
theorem dX0_ringLeast_2 : decode cX0_ringLeast 2 = .ok (.iload_n 1, 1) := by decide +kernel
theorem dX0_ringLeast_3 : decode cX0_ringLeast 3 = .ok (.istore_n 3, 1) := by decide +kernel
theorem dX0_ringLeast_4 : decode cX0_ringLeast 4 = .ok (.iconst 1, 1) := by decide +kernel
theorem dX0_ringLeast_5 : decode cX0_ringLeast 5 = .ok (.istore 4, 2) := by decide +kernel
theorem dX0_ringLeast_7 : decode cX0_ringLeast 7 = .ok (.iload 4, 2) := by decide +kernel
theorem dX0_ringLeast_9 : decode cX0_ringLeast 9 = .ok (.aload_n 0, 1) := by decide +kernel
theorem dX0_ringLeast_10 : decode cX0_ringLeast 10 = .ok (.getfield 23, 3) := by decide +kernel
theorem dX0_ringLeast_13 : decode cX0_ringLeast 13 = .ok (.if_icmp .ge 21, 3) := by decide +kernel
theorem dX0_ringLeast_16 : decode cX0_ringLeast 16 = .ok (.aload_n 0, 1) := by decide +kernel
theorem dX0_ringLeast_17 : decode cX0_ringLeast 17 = .ok (.iload_n 3, 1) := by decide +kernel
theorem dX0_ringLeast_18 : decode cX0_ringLeast 18 = .ok (.invokevirtual 48, 3) := by decide +kernel
theorem dX0_ringLeast_21 : decode cX0_ringLeast 21 = .ok (.istore_n 3, 1) := by decide +kernel
theorem dX0_ringLeast_22 : decode cX0_ringLeast 22 = .ok (.iload_n 2, 1) := by decide +kernel
theorem dX0_ringLeast_23 : decode cX0_ringLeast 23 = .ok (.iload_n 3, 1) := by decide +kernel
theorem dX0_ringLeast_24 : decode cX0_ringLeast 24 = .ok (.invokestatic 51, 3) := by decide +kernel
theorem dX0_ringLeast_27 : decode cX0_ringLeast 27 = .ok (.istore_n 2, 1) := by decide +kernel
theorem dX0_ringLeast_28 : decode cX0_ringLeast 28 = .ok (.iinc 4 1, 3) := by decide +kernel
theorem dX0_ringLeast_31 : decode cX0_ringLeast 31 = .ok (.goto (-24), 3) := by decide +kernel
theorem dX0_ringLeast_34 : decode cX0_ringLeast 34 = .ok (.iload_n 2, 1) := by decide +kernel
theorem dX0_ringLeast_35 : decode cX0_ringLeast 35 = .ok (.ireturn, 1) := by decide +kernel
set_option maxRecDepth 20000 in
theorem ggX0_isWhole_X0_ringSize : GoodIn wsX0_isWhole wsX0_ringSize := goodIn_r _ [6, 1, 7, 8, 9, 5, 10, 11, 12, 13, 14, 15, 16, 17, 18, 19, 20, 21, 22, 23, 24, 25, 26, 27] (by decide +kernel) (by decide +kernel)
set_option maxRecDepth 20000 in
theorem gX0_isWhole_X0_ringSize : GoodIn wsX0_isWhole (wsV RX0 56 RX0 yX0_ringSize wsX0_ringSize) := goodIn_app (goodIn_of _ (by decide +kernel)) ggX0_isWhole_X0_ringSize
theorem dX0_isWhole_0 : decode cX0_isWhole 0 = .ok (.aload_n 0, 1) := by decide +kernel
theorem dX0_isWhole_1 : decode cX0_isWhole 1 = .ok (.iload_n 1, 1) := by decide +kernel
theorem dX0_isWhole_2 : decode cX0_isWhole 2 = .ok (.invokevirtual 56, 3) := by decide +kernel
theorem dX0_isWhole_5 : decode cX0_isWhole 5 = .ok (.aload_n 0, 1) := by decide +kernel
theorem dX0_isWhole_6 : decode cX0_isWhole 6 = .ok (.getfield 23, 3) := by decide +kernel
theorem dX0_isWhole_9 : decode cX0_isWhole 9 = .ok (.if_icmp .ne 7, 3) := by decide +kernel
theorem dX0_isWhole_12 : decode cX0_isWhole 12 = .ok (.iconst 1, 1) := by decide +kernel
theorem dX0_isWhole_13 : decode cX0_isWhole 13 = .ok (.goto 4, 3) := by decide +kernel
theorem dX0_isWhole_16 : decode cX0_isWhole 16 = .ok (.iconst 0, 1) := by decide +kernel
theorem dX0_isWhole_17 : decode cX0_isWhole 17 = .ok (.ireturn, 1) := by decide +kernel
set_option maxRecDepth 20000 in
theorem ggX0_wholeRingsBelow_X0_ringLeast : GoodIn wsX0_wholeRingsBelow wsX0_ringLeast := goodIn_r _ [6, 7, 8, 9, 10, 11, 12, 13, 14, 5, 15, 16, 17, 18, 19, 20, 21, 22, 23, 24, 25, 26, 27, 28, 37, 38, 39, 40] (by decide +kernel) (by decide +kernel)
set_option maxRecDepth 20000 in
theorem gX0_wholeRingsBelow_X0_ringLeast : GoodIn wsX0_wholeRingsBelow (wsV RX0 59 RX0 yX0_ringLeast wsX0_ringLeast) := goodIn_app (goodIn_of _ (by decide +kernel)) ggX0_wholeRingsBelow_X0_ringLeast
set_option maxRecDepth 20000 in
theorem ggX0_wholeRingsBelow_X0_isWhole : GoodIn wsX0_wholeRingsBelow wsX0_isWhole := goodIn_r _ [32, 7, 33, 34, 35, 5, 36, 12, 13, 14, 15, 16, 17, 18, 19, 20, 21, 22, 23, 24, 25, 26, 27, 28, 37, 38, 39, 40] (by decide +kernel) (by decide +kernel)
set_option maxRecDepth 20000 in
theorem gX0_wholeRingsBelow_X0_isWhole : GoodIn wsX0_wholeRingsBelow (wsV RX0 62 RX0 yX0_isWhole wsX0_isWhole) := goodIn_app (goodIn_of _ (by decide +kernel)) ggX0_wholeRingsBelow_X0_isWhole
theorem dX0_wholeRingsBelow_0 : decode cX0_wholeRingsBelow 0 = .ok (.iconst 0, 1) := by decide +kernel
theorem dX0_wholeRingsBelow_1 : decode cX0_wholeRingsBelow 1 = .ok (.istore_n 2, 1) := by decide +kernel
theorem dX0_wholeRingsBelow_2 : decode cX0_wholeRingsBelow 2 = .ok (.iconst 0, 1) := by decide +kernel
theorem dX0_wholeRingsBelow_3 : decode cX0_wholeRingsBelow 3 = .ok (.istore_n 3, 1) := by decide +kernel
theorem dX0_wholeRingsBelow_4 : decode cX0_wholeRingsBelow 4 = .ok (.iload_n 3, 1) := by decide +kernel
theorem dX0_wholeRingsBelow_5 : decode cX0_wholeRingsBelow 5 = .ok (.iload_n 1, 1) := by decide +kernel
theorem dX0_wholeRingsBelow_6 : decode cX0_wholeRingsBelow 6 = .ok (.if_icmp .ge 37, 3) := by decide +kernel
theorem dX0_wholeRingsBelow_9 : decode cX0_wholeRingsBelow 9 = .ok (.iload_n 3, 1) := by decide +kernel
theorem dX0_wholeRingsBelow_10 : decode cX0_wholeRingsBelow 10 = .ok (.aload_n 0, 1) := by decide +kernel
theorem dX0_wholeRingsBelow_11 : decode cX0_wholeRingsBelow 11 = .ok (.getfield 30, 3) := by decide +kernel
theorem dX0_wholeRingsBelow_14 : decode cX0_wholeRingsBelow 14 = .ok (.if_icmp .ge 29, 3) := by decide +kernel
theorem dX0_wholeRingsBelow_17 : decode cX0_wholeRingsBelow 17 = .ok (.aload_n 0, 1) := by decide +kernel
theorem dX0_wholeRingsBelow_18 : decode cX0_wholeRingsBelow 18 = .ok (.iload_n 3, 1) := by decide +kernel
theorem dX0_wholeRingsBelow_19 : decode cX0_wholeRingsBelow 19 = .ok (.invokevirtual 59, 3) := by decide +kernel
theorem dX0_wholeRingsBelow_22 : decode cX0_wholeRingsBelow 22 = .ok (.iload_n 3, 1) := by decide +kernel
theorem dX0_wholeRingsBelow_23 : decode cX0_wholeRingsBelow 23 = .ok (.if_icmp .ne 14, 3) := by decide +kernel
theorem dX0_wholeRingsBelow_26 : decode cX0_wholeRingsBelow 26 = .ok (.aload_n 0, 1) := by decide +kernel
theorem dX0_wholeRingsBelow_27 : decode cX0_wholeRingsBelow 27 = .ok (.iload_n 3, 1) := by decide +kernel
theorem dX0_wholeRingsBelow_28 : decode cX0_wholeRingsBelow 28 = .ok (.invokevirtual 62, 3) := by decide +kernel
theorem dX0_wholeRingsBelow_31 : decode cX0_wholeRingsBelow 31 = .ok (.ifCond .eq 6, 3) := by decide +kernel
theorem dX0_wholeRingsBelow_34 : decode cX0_wholeRingsBelow 34 = .ok (.iinc 2 1, 3) := by decide +kernel
theorem dX0_wholeRingsBelow_37 : decode cX0_wholeRingsBelow 37 = .ok (.iinc 3 1, 3) := by decide +kernel
theorem dX0_wholeRingsBelow_40 : decode cX0_wholeRingsBelow 40 = .ok (.goto (-36), 3) := by decide +kernel
theorem dX0_wholeRingsBelow_43 : decode cX0_wholeRingsBelow 43 = .ok (.iload_n 2, 1) := by decide +kernel
theorem dX0_wholeRingsBelow_44 : decode cX0_wholeRingsBelow 44 = .ok (.ireturn, 1) := by decide +kernel
set_option maxRecDepth 20000 in
theorem ggX0_wholeRing_X0_ringLeast : GoodIn wsX0_wholeRing wsX0_ringLeast := goodIn_r _ [6, 7, 8, 9, 10, 11, 12, 13, 14, 5, 15, 16, 17, 18, 19, 20, 21, 22, 23, 24, 25, 26, 27, 28, 37, 38, 39, 40] (by decide +kernel) (by decide +kernel)
set_option maxRecDepth 20000 in
theorem gX0_wholeRing_X0_ringLeast : GoodIn wsX0_wholeRing (wsV RX0 59 RX0 yX0_ringLeast wsX0_ringLeast) := goodIn_app (goodIn_of _ (by decide +kernel)) ggX0_wholeRing_X0_ringLeast
set_option maxRecDepth 20000 in
theorem ggX0_wholeRing_X0_isWhole : GoodIn wsX0_wholeRing wsX0_isWhole := goodIn_r _ [32, 7, 33, 34, 35, 5, 36, 12, 13, 14, 15, 16, 17, 18, 19, 20, 21, 22, 23, 24, 25, 26, 27, 28, 37, 38, 39, 40] (by decide +kernel) (by decide +kernel)
set_option maxRecDepth 20000 in
theorem gX0_wholeRing_X0_isWhole : GoodIn wsX0_wholeRing (wsV RX0 62 RX0 yX0_isWhole wsX0_isWhole) := goodIn_app (goodIn_of _ (by decide +kernel)) ggX0_wholeRing_X0_isWhole
theorem dX0_wholeRing_0 : decode cX0_wholeRing 0 = .ok (.iconst 0, 1) := by decide +kernel
theorem dX0_wholeRing_1 : decode cX0_wholeRing 1 = .ok (.istore_n 2, 1) := by decide +kernel
theorem dX0_wholeRing_2 : decode cX0_wholeRing 2 = .ok (.iconst 0, 1) := by decide +kernel
theorem dX0_wholeRing_3 : decode cX0_wholeRing 3 = .ok (.istore_n 3, 1) := by decide +kernel
theorem dX0_wholeRing_4 : decode cX0_wholeRing 4 = .ok (.iload_n 3, 1) := by decide +kernel
theorem dX0_wholeRing_5 : decode cX0_wholeRing 5 = .ok (.aload_n 0, 1) := by decide +kernel
theorem dX0_wholeRing_6 : decode cX0_wholeRing 6 = .ok (.getfield 30, 3) := by decide +kernel
theorem dX0_wholeRing_9 : decode cX0_wholeRing 9 = .ok (.if_icmp .ge 36, 3) := by decide +kernel
theorem dX0_wholeRing_12 : decode cX0_wholeRing 12 = .ok (.aload_n 0, 1) := by decide +kernel
theorem dX0_wholeRing_13 : decode cX0_wholeRing 13 = .ok (.iload_n 3, 1) := by decide +kernel
theorem dX0_wholeRing_14 : decode cX0_wholeRing 14 = .ok (.invokevirtual 59, 3) := by decide +kernel
theorem dX0_wholeRing_17 : decode cX0_wholeRing 17 = .ok (.iload_n 3, 1) := by decide +kernel
theorem dX0_wholeRing_18 : decode cX0_wholeRing 18 = .ok (.if_icmp .ne 21, 3) := by decide +kernel
theorem dX0_wholeRing_21 : decode cX0_wholeRing 21 = .ok (.aload_n 0, 1) := by decide +kernel
theorem dX0_wholeRing_22 : decode cX0_wholeRing 22 = .ok (.iload_n 3, 1) := by decide +kernel
theorem dX0_wholeRing_23 : decode cX0_wholeRing 23 = .ok (.invokevirtual 62, 3) := by decide +kernel
theorem dX0_wholeRing_26 : decode cX0_wholeRing 26 = .ok (.ifCond .eq 13, 3) := by decide +kernel
theorem dX0_wholeRing_29 : decode cX0_wholeRing 29 = .ok (.iload_n 2, 1) := by decide +kernel
theorem dX0_wholeRing_30 : decode cX0_wholeRing 30 = .ok (.iload_n 1, 1) := by decide +kernel
theorem dX0_wholeRing_31 : decode cX0_wholeRing 31 = .ok (.if_icmp .ne 5, 3) := by decide +kernel
theorem dX0_wholeRing_34 : decode cX0_wholeRing 34 = .ok (.iload_n 3, 1) := by decide +kernel
theorem dX0_wholeRing_35 : decode cX0_wholeRing 35 = .ok (.ireturn, 1) := by decide +kernel
theorem dX0_wholeRing_36 : decode cX0_wholeRing 36 = .ok (.iinc 2 1, 3) := by decide +kernel
theorem dX0_wholeRing_39 : decode cX0_wholeRing 39 = .ok (.iinc 3 1, 3) := by decide +kernel
theorem dX0_wholeRing_42 : decode cX0_wholeRing 42 = .ok (.goto (-38), 3) := by decide +kernel
theorem dX0_wholeRing_45 : decode cX0_wholeRing 45 = .ok (.bipush (-5), 2) := by decide +kernel
theorem dX0_wholeRing_47 : decode cX0_wholeRing 47 = .ok (.ireturn, 1) := by decide +kernel
theorem dX0_swaps_0 : decode cX0_swaps 0 = .ok (.iconst 2, 1) := by decide +kernel
theorem dX0_swaps_1 : decode cX0_swaps 1 = .ok (.istore_n 1, 1) := by decide +kernel
theorem dX0_swaps_2 : decode cX0_swaps 2 = .ok (.iconst 2, 1) := by decide +kernel
theorem dX0_swaps_3 : decode cX0_swaps 3 = .ok (.istore_n 2, 1) := by decide +kernel
theorem dX0_swaps_4 : decode cX0_swaps 4 = .ok (.iload_n 2, 1) := by decide +kernel
theorem dX0_swaps_5 : decode cX0_swaps 5 = .ok (.aload_n 0, 1) := by decide +kernel
theorem dX0_swaps_6 : decode cX0_swaps 6 = .ok (.getfield 19, 3) := by decide +kernel
theorem dX0_swaps_9 : decode cX0_swaps 9 = .ok (.if_icmp .gt 13, 3) := by decide +kernel
theorem dX0_swaps_12 : decode cX0_swaps 12 = .ok (.iload_n 1, 1) := by decide +kernel
theorem dX0_swaps_13 : decode cX0_swaps 13 = .ok (.iload_n 2, 1) := by decide +kernel
theorem dX0_swaps_14 : decode cX0_swaps 14 = .ok (.imul, 1) := by decide +kernel
theorem dX0_swaps_15 : decode cX0_swaps 15 = .ok (.istore_n 1, 1) := by decide +kernel
theorem dX0_swaps_16 : decode cX0_swaps 16 = .ok (.iinc 2 1, 3) := by decide +kernel
theorem dX0_swaps_19 : decode cX0_swaps 19 = .ok (.goto (-15), 3) := by decide +kernel
theorem dX0_swaps_22 : decode cX0_swaps 22 = .ok (.iload_n 1, 1) := by decide +kernel
theorem dX0_swaps_23 : decode cX0_swaps 23 = .ok (.ireturn, 1) := by decide +kernel
set_option maxRecDepth 20000 in
theorem ggX0_isSwap_X0_swaps : GoodIn wsX0_isSwap wsX0_swaps := goodIn_r _ [5, 6, 7, 8, 9, 10] (by decide +kernel) (by decide +kernel)
set_option maxRecDepth 20000 in
theorem gX0_isSwap_X0_swaps : GoodIn wsX0_isSwap (wsV RX0 66 RX0 yX0_swaps wsX0_swaps) := goodIn_app (goodIn_of _ (by decide +kernel)) ggX0_isSwap_X0_swaps
theorem dX0_isSwap_0 : decode cX0_isSwap 0 = .ok (.iload_n 1, 1) := by decide +kernel
theorem dX0_isSwap_1 : decode cX0_isSwap 1 = .ok (.ifCond .lt 15, 3) := by decide +kernel
theorem dX0_isSwap_4 : decode cX0_isSwap 4 = .ok (.iload_n 1, 1) := by decide +kernel
theorem dX0_isSwap_5 : decode cX0_isSwap 5 = .ok (.aload_n 0, 1) := by decide +kernel
theorem dX0_isSwap_6 : decode cX0_isSwap 6 = .ok (.invokevirtual 66, 3) := by decide +kernel
theorem dX0_isSwap_9 : decode cX0_isSwap 9 = .ok (.if_icmp .ge 7, 3) := by decide +kernel
theorem dX0_isSwap_12 : decode cX0_isSwap 12 = .ok (.iconst 1, 1) := by decide +kernel
theorem dX0_isSwap_13 : decode cX0_isSwap 13 = .ok (.goto 4, 3) := by decide +kernel
theorem dX0_isSwap_16 : decode cX0_isSwap 16 = .ok (.iconst 0, 1) := by decide +kernel
theorem dX0_isSwap_17 : decode cX0_isSwap 17 = .ok (.ireturn, 1) := by decide +kernel
set_option maxRecDepth 20000 in
theorem ggX0_exchanged_X0_part : GoodIn wsX0_exchanged wsX0_part := goodIn_r _ [8, 2, 9, 10, 11, 7, 12, 13, 14, 15, 16, 17, 18, 19, 20, 24, 25, 26, 27] (by decide +kernel) (by decide +kernel)
set_option maxRecDepth 20000 in
theorem gX0_exchanged_X0_part : GoodIn wsX0_exchanged (wsV RX0 70 RX0 yX0_part wsX0_part) := goodIn_app (goodIn_of _ (by decide +kernel)) ggX0_exchanged_X0_part
set_option maxRecDepth 20000 in
theorem ggX0_exchanged_X8_at : GoodIn wsX0_exchanged wsX8_at := goodIn_r _ [23] (by decide +kernel) (by decide +kernel)
set_option maxRecDepth 20000 in
theorem gX0_exchanged_X8_at : GoodIn wsX0_exchanged (va_wsS RX0 77 yX8_at wsX8_at) := goodIn_app (goodIn_of _ (by decide +kernel)) ggX0_exchanged_X8_at
theorem dX0_exchanged_0 : decode cX0_exchanged 0 = .ok (.iconst 4, 1) := by decide +kernel
theorem dX0_exchanged_1 : decode cX0_exchanged 1 = .ok (.aload_n 0, 1) := by decide +kernel
theorem dX0_exchanged_2 : decode cX0_exchanged 2 = .ok (.getfield 19, 3) := by decide +kernel
theorem dX0_exchanged_5 : decode cX0_exchanged 5 = .ok (.isub, 1) := by decide +kernel
theorem dX0_exchanged_6 : decode cX0_exchanged 6 = .ok (.istore_n 3, 1) := by decide +kernel
theorem dX0_exchanged_7 : decode cX0_exchanged 7 = .ok (.iconst 4, 1) := by decide +kernel
theorem dX0_exchanged_8 : decode cX0_exchanged 8 = .ok (.iload_n 1, 1) := by decide +kernel
theorem dX0_exchanged_9 : decode cX0_exchanged 9 = .ok (.iconst 1, 1) := by decide +kernel
theorem dX0_exchanged_10 : decode cX0_exchanged 10 = .ok (.ishr, 1) := by decide +kernel
theorem dX0_exchanged_11 : decode cX0_exchanged 11 = .ok (.imul, 1) := by decide +kernel
theorem dX0_exchanged_12 : decode cX0_exchanged 12 = .ok (.iload_n 3, 1) := by decide +kernel
theorem dX0_exchanged_13 : decode cX0_exchanged 13 = .ok (.iadd, 1) := by decide +kernel
theorem dX0_exchanged_14 : decode cX0_exchanged 14 = .ok (.istore 4, 2) := by decide +kernel
theorem dX0_exchanged_16 : decode cX0_exchanged 16 = .ok (.iload_n 1, 1) := by decide +kernel
theorem dX0_exchanged_17 : decode cX0_exchanged 17 = .ok (.iconst 1, 1) := by decide +kernel
theorem dX0_exchanged_18 : decode cX0_exchanged 18 = .ok (.iand, 1) := by decide +kernel
theorem dX0_exchanged_19 : decode cX0_exchanged 19 = .ok (.iconst 1, 1) := by decide +kernel
theorem dX0_exchanged_20 : decode cX0_exchanged 20 = .ok (.if_icmp .ne 7, 3) := by decide +kernel
theorem dX0_exchanged_23 : decode cX0_exchanged 23 = .ok (.iconst 1, 1) := by decide +kernel
theorem dX0_exchanged_24 : decode cX0_exchanged 24 = .ok (.goto 4, 3) := by decide +kernel
theorem dX0_exchanged_27 : decode cX0_exchanged 27 = .ok (.iconst 0, 1) := by decide +kernel
theorem dX0_exchanged_28 : decode cX0_exchanged 28 = .ok (.istore 5, 2) := by decide +kernel
theorem dX0_exchanged_30 : decode cX0_exchanged 30 = .ok (.iconst 0, 1) := by decide +kernel
theorem dX0_exchanged_31 : decode cX0_exchanged 31 = .ok (.istore 6, 2) := by decide +kernel
theorem dX0_exchanged_33 : decode cX0_exchanged 33 = .ok (.iconst 0, 1) := by decide +kernel
theorem dX0_exchanged_34 : decode cX0_exchanged 34 = .ok (.istore 7, 2) := by decide +kernel
theorem dX0_exchanged_36 : decode cX0_exchanged 36 = .ok (.iload 7, 2) := by decide +kernel
theorem dX0_exchanged_38 : decode cX0_exchanged 38 = .ok (.aload_n 0, 1) := by decide +kernel
theorem dX0_exchanged_39 : decode cX0_exchanged 39 = .ok (.getfield 23, 3) := by decide +kernel
theorem dX0_exchanged_42 : decode cX0_exchanged 42 = .ok (.if_icmp .ge 59, 3) := by decide +kernel
theorem dX0_exchanged_45 : decode cX0_exchanged 45 = .ok (.aload_n 0, 1) := by decide +kernel
theorem dX0_exchanged_46 : decode cX0_exchanged 46 = .ok (.iload_n 2, 1) := by decide +kernel
theorem dX0_exchanged_47 : decode cX0_exchanged 47 = .ok (.iload 5, 2) := by decide +kernel
theorem dX0_exchanged_49 : decode cX0_exchanged 49 = .ok (.ifCond .eq 15, 3) := by decide +kernel
theorem dX0_exchanged_52 : decode cX0_exchanged 52 = .ok (.aload_n 0, 1) := by decide +kernel
theorem dX0_exchanged_53 : decode cX0_exchanged 53 = .ok (.getfield 23, 3) := by decide +kernel
theorem dX0_exchanged_56 : decode cX0_exchanged 56 = .ok (.iconst 1, 1) := by decide +kernel
theorem dX0_exchanged_57 : decode cX0_exchanged 57 = .ok (.isub, 1) := by decide +kernel
theorem dX0_exchanged_58 : decode cX0_exchanged 58 = .ok (.iload 7, 2) := by decide +kernel
theorem dX0_exchanged_60 : decode cX0_exchanged 60 = .ok (.isub, 1) := by decide +kernel
theorem dX0_exchanged_61 : decode cX0_exchanged 61 = .ok (.goto 5, 3) := by decide +kernel
theorem dX0_exchanged_64 : decode cX0_exchanged 64 = .ok (.iload 7, 2) := by decide +kernel
theorem dX0_exchanged_66 : decode cX0_exchanged 66 = .ok (.iconst 1, 1) := by decide +kernel
theorem dX0_exchanged_67 : decode cX0_exchanged 67 = .ok (.invokevirtual 70, 3) := by decide +kernel
theorem dX0_exchanged_70 : decode cX0_exchanged 70 = .ok (.istore 8, 2) := by decide +kernel
theorem dX0_exchanged_72 : decode cX0_exchanged 72 = .ok (.iload 6, 2) := by decide +kernel
theorem dX0_exchanged_74 : decode cX0_exchanged 74 = .ok (.aload_n 0, 1) := by decide +kernel
theorem dX0_exchanged_75 : decode cX0_exchanged 75 = .ok (.getfield 19, 3) := by decide +kernel
theorem dX0_exchanged_78 : decode cX0_exchanged 78 = .ok (.imul, 1) := by decide +kernel
theorem dX0_exchanged_79 : decode cX0_exchanged 79 = .ok (.getstatic 74, 3) := by decide +kernel
theorem dX0_exchanged_82 : decode cX0_exchanged 82 = .ok (.iload 4, 2) := by decide +kernel
theorem dX0_exchanged_84 : decode cX0_exchanged 84 = .ok (.iload 8, 2) := by decide +kernel
theorem dX0_exchanged_86 : decode cX0_exchanged 86 = .ok (.iadd, 1) := by decide +kernel
theorem dX0_exchanged_87 : decode cX0_exchanged 87 = .ok (.invokestatic 77, 3) := by decide +kernel
theorem dX0_exchanged_90 : decode cX0_exchanged 90 = .ok (.iadd, 1) := by decide +kernel
theorem dX0_exchanged_91 : decode cX0_exchanged 91 = .ok (.iload_n 3, 1) := by decide +kernel
theorem dX0_exchanged_92 : decode cX0_exchanged 92 = .ok (.isub, 1) := by decide +kernel
theorem dX0_exchanged_93 : decode cX0_exchanged 93 = .ok (.istore 6, 2) := by decide +kernel
theorem dX0_exchanged_95 : decode cX0_exchanged 95 = .ok (.iinc 7 1, 3) := by decide +kernel
theorem dX0_exchanged_98 : decode cX0_exchanged 98 = .ok (.goto (-62), 3) := by decide +kernel
theorem dX0_exchanged_101 : decode cX0_exchanged 101 = .ok (.iload 6, 2) := by decide +kernel
theorem dX0_exchanged_103 : decode cX0_exchanged 103 = .ok (.ireturn, 1) := by decide +kernel
theorem dX1_init_0 : decode cX1_init 0 = .ok (.aload_n 0, 1) := by decide +kernel
theorem dX1_init_1 : decode cX1_init 1 = .ok (.invokespecial 3, 3) := by decide +kernel
theorem dX1_init_4 : decode cX1_init 4 = .ok (.aload_n 0, 1) := by decide +kernel
theorem dX1_init_5 : decode cX1_init 5 = .ok (.aload_n 1, 1) := by decide +kernel
theorem dX1_init_6 : decode cX1_init 6 = .ok (.putfield 9, 3) := by decide +kernel
theorem dX1_init_9 : decode cX1_init 9 = .ok (.aload_n 0, 1) := by decide +kernel
theorem dX1_init_10 : decode cX1_init 10 = .ok (.sipush 256, 3) := by decide +kernel
theorem dX1_init_13 : decode cX1_init 13 = .ok (.newarray .int, 2) := by decide +kernel
theorem dX1_init_15 : decode cX1_init 15 = .ok (.putfield 15, 3) := by decide +kernel
theorem dX1_init_18 : decode cX1_init 18 = .ok (.aload_n 0, 1) := by decide +kernel
theorem dX1_init_19 : decode cX1_init 19 = .ok (.sipush 256, 3) := by decide +kernel
theorem dX1_init_22 : decode cX1_init 22 = .ok (.newarray .boolean, 2) := by decide +kernel
theorem dX1_init_24 : decode cX1_init 24 = .ok (.putfield 19, 3) := by decide +kernel
theorem dX1_init_27 : decode cX1_init 27 = .ok (.aload_n 0, 1) := by decide +kernel
theorem dX1_init_28 : decode cX1_init 28 = .ok (.sipush 256, 3) := by decide +kernel
theorem dX1_init_31 : decode cX1_init 31 = .ok (.newarray .int, 2) := by decide +kernel
theorem dX1_init_33 : decode cX1_init 33 = .ok (.putfield 23, 3) := by decide +kernel
theorem dX1_init_36 : decode cX1_init 36 = .ok (.aload_n 0, 1) := by decide +kernel
theorem dX1_init_37 : decode cX1_init 37 = .ok (.sipush 162, 3) := by decide +kernel
theorem dX1_init_40 : decode cX1_init 40 = .ok (.newarray .int, 2) := by decide +kernel
theorem dX1_init_42 : decode cX1_init 42 = .ok (.putfield 26, 3) := by decide +kernel
theorem dX1_init_45 : decode cX1_init 45 = .ok (.aload_n 0, 1) := by decide +kernel
theorem dX1_init_46 : decode cX1_init 46 = .ok (.sipush 162, 3) := by decide +kernel
theorem dX1_init_49 : decode cX1_init 49 = .ok (.newarray .int, 2) := by decide +kernel
theorem dX1_init_51 : decode cX1_init 51 = .ok (.putfield 29, 3) := by decide +kernel
theorem dX1_init_54 : decode cX1_init 54 = .ok (.aload_n 0, 1) := by decide +kernel
theorem dX1_init_55 : decode cX1_init 55 = .ok (.iconst 0, 1) := by decide +kernel
theorem dX1_init_56 : decode cX1_init 56 = .ok (.putfield 32, 3) := by decide +kernel
theorem dX1_init_59 : decode cX1_init 59 = .ok (.return_, 1) := by decide +kernel
theorem dX1_total_0 : decode cX1_total 0 = .ok (.aload_n 0, 1) := by decide +kernel
theorem dX1_total_1 : decode cX1_total 1 = .ok (.getfield 32, 3) := by decide +kernel
theorem dX1_total_4 : decode cX1_total 4 = .ok (.ireturn, 1) := by decide +kernel
theorem dX1_has_0 : decode cX1_has 0 = .ok (.iload_n 1, 1) := by decide +kernel
theorem dX1_has_1 : decode cX1_has 1 = .ok (.ifCond .lt 15, 3) := by decide +kernel
theorem dX1_has_4 : decode cX1_has 4 = .ok (.iload_n 1, 1) := by decide +kernel
theorem dX1_has_5 : decode cX1_has 5 = .ok (.aload_n 0, 1) := by decide +kernel
theorem dX1_has_6 : decode cX1_has 6 = .ok (.getfield 32, 3) := by decide +kernel
theorem dX1_has_9 : decode cX1_has 9 = .ok (.if_icmp .ge 7, 3) := by decide +kernel
theorem dX1_has_12 : decode cX1_has 12 = .ok (.iconst 1, 1) := by decide +kernel
theorem dX1_has_13 : decode cX1_has 13 = .ok (.goto 4, 3) := by decide +kernel
theorem dX1_has_16 : decode cX1_has 16 = .ok (.iconst 0, 1) := by decide +kernel
theorem dX1_has_17 : decode cX1_has 17 = .ok (.ireturn, 1) := by decide +kernel
set_option maxRecDepth 20000 in
theorem ggX1_nth_X8_at : GoodIn wsX1_nth wsX8_at := goodIn_r _ [5] (by decide +kernel) (by decide +kernel)
set_option maxRecDepth 20000 in
theorem gX1_nth_X8_at : GoodIn wsX1_nth (va_wsS RX1 36 yX8_at wsX8_at) := goodIn_app (goodIn_of _ (by decide +kernel)) ggX1_nth_X8_at
theorem dX1_nth_0 : decode cX1_nth 0 = .ok (.aload_n 0, 1) := by decide +kernel
theorem dX1_nth_1 : decode cX1_nth 1 = .ok (.getfield 15, 3) := by decide +kernel
theorem dX1_nth_4 : decode cX1_nth 4 = .ok (.iload_n 1, 1) := by decide +kernel
theorem dX1_nth_5 : decode cX1_nth 5 = .ok (.invokestatic 36, 3) := by decide +kernel
theorem dX1_nth_8 : decode cX1_nth 8 = .ok (.ireturn, 1) := by decide +kernel
theorem dX1_holds_0 : decode cX1_holds 0 = .ok (.iload_n 1, 1) := by decide +kernel
theorem dX1_holds_1 : decode cX1_holds 1 = .ok (.ifCond .lt 25, 3) := by decide +kernel
theorem dX1_holds_4 : decode cX1_holds 4 = .ok (.iload_n 1, 1) := by decide +kernel
theorem dX1_holds_5 : decode cX1_holds 5 = .ok (.aload_n 0, 1) := by decide +kernel
theorem dX1_holds_6 : decode cX1_holds 6 = .ok (.getfield 19, 3) := by decide +kernel
theorem dX1_holds_9 : decode cX1_holds 9 = .ok (.arraylength, 1) := by decide +kernel
theorem dX1_holds_10 : decode cX1_holds 10 = .ok (.if_icmp .ge 16, 3) := by decide +kernel
theorem dX1_holds_13 : decode cX1_holds 13 = .ok (.aload_n 0, 1) := by decide +kernel
theorem dX1_holds_14 : decode cX1_holds 14 = .ok (.getfield 19, 3) := by decide +kernel
theorem dX1_holds_17 : decode cX1_holds 17 = .ok (.iload_n 1, 1) := by decide +kernel
theorem dX1_holds_18 : decode cX1_holds 18 = .ok (.baload, 1) := by decide +kernel
theorem dX1_holds_19 : decode cX1_holds 19 = .ok (.ifCond .eq 7, 3) := by decide +kernel
theorem dX1_holds_22 : decode cX1_holds 22 = .ok (.iconst 1, 1) := by decide +kernel
theorem dX1_holds_23 : decode cX1_holds 23 = .ok (.goto 4, 3) := by decide +kernel
theorem dX1_holds_26 : decode cX1_holds 26 = .ok (.iconst 0, 1) := by decide +kernel
theorem dX1_holds_27 : decode cX1_holds 27 = .ok (.ireturn, 1) := by decide +kernel
theorem dX1_hold_0 : decode cX1_hold 0 = .ok (.iload_n 1, 1) := by decide +kernel
theorem dX1_hold_1 : decode cX1_hold 1 = .ok (.ifCond .lt 19, 3) := by decide +kernel
theorem dX1_hold_4 : decode cX1_hold 4 = .ok (.iload_n 1, 1) := by decide +kernel
theorem dX1_hold_5 : decode cX1_hold 5 = .ok (.aload_n 0, 1) := by decide +kernel
theorem dX1_hold_6 : decode cX1_hold 6 = .ok (.getfield 19, 3) := by decide +kernel
theorem dX1_hold_9 : decode cX1_hold 9 = .ok (.arraylength, 1) := by decide +kernel
theorem dX1_hold_10 : decode cX1_hold 10 = .ok (.if_icmp .ge 10, 3) := by decide +kernel
theorem dX1_hold_13 : decode cX1_hold 13 = .ok (.aload_n 0, 1) := by decide +kernel
theorem dX1_hold_14 : decode cX1_hold 14 = .ok (.getfield 19, 3) := by decide +kernel
theorem dX1_hold_17 : decode cX1_hold 17 = .ok (.iload_n 1, 1) := by decide +kernel
theorem dX1_hold_18 : decode cX1_hold 18 = .ok (.iload_n 2, 1) := by decide +kernel
theorem dX1_hold_19 : decode cX1_hold 19 = .ok (.bastore, 1) := by decide +kernel
theorem dX1_hold_20 : decode cX1_hold 20 = .ok (.return_, 1) := by decide +kernel
set_option maxRecDepth 20000 in
theorem ggX1_empty_X1_nth : GoodIn wsX1_empty wsX1_nth := goodIn_r _ [8, 9, 10, 11, 12, 13, 22, 23, 24, 25, 26, 27, 28] (by decide +kernel) (by decide +kernel)
set_option maxRecDepth 20000 in
theorem gX1_empty_X1_nth : GoodIn wsX1_empty (wsV RX1 42 RX1 yX1_nth wsX1_nth) := goodIn_app (goodIn_of _ (by decide +kernel)) ggX1_empty_X1_nth
set_option maxRecDepth 20000 in
theorem ggX1_empty_X1_hold : GoodIn wsX1_empty wsX1_hold := goodIn_r _ [17, 18, 22, 23, 24, 25, 26, 27, 28] (by decide +kernel) (by decide +kernel)
set_option maxRecDepth 20000 in
theorem gX1_empty_X1_hold : GoodIn wsX1_empty (wsV RX1 46 RX1 yX1_hold wsX1_hold) := goodIn_app (goodIn_of _ (by decide +kernel)) ggX1_empty_X1_hold
set_option maxRecDepth 20000 in
theorem ggX1_empty_X8_fill : GoodIn wsX1_empty wsX8_fill := goodIn_r _ [21] (by decide +kernel) (by decide +kernel)
set_option maxRecDepth 20000 in
theorem gX1_empty_X8_fill : GoodIn wsX1_empty (va_wsS RX1 50 yX8_fill wsX8_fill) := goodIn_app (goodIn_of _ (by decide +kernel)) ggX1_empty_X8_fill
theorem dX1_empty_0 : decode cX1_empty 0 = .ok (.iconst 0, 1) := by decide +kernel
theorem dX1_empty_1 : decode cX1_empty 1 = .ok (.istore_n 1, 1) := by decide +kernel
theorem dX1_empty_2 : decode cX1_empty 2 = .ok (.iload_n 1, 1) := by decide +kernel
theorem dX1_empty_3 : decode cX1_empty 3 = .ok (.aload_n 0, 1) := by decide +kernel
theorem dX1_empty_4 : decode cX1_empty 4 = .ok (.getfield 32, 3) := by decide +kernel
theorem dX1_empty_7 : decode cX1_empty 7 = .ok (.if_icmp .ge 19, 3) := by decide +kernel
theorem dX1_empty_10 : decode cX1_empty 10 = .ok (.aload_n 0, 1) := by decide +kernel
theorem dX1_empty_11 : decode cX1_empty 11 = .ok (.aload_n 0, 1) := by decide +kernel
theorem dX1_empty_12 : decode cX1_empty 12 = .ok (.iload_n 1, 1) := by decide +kernel
theorem dX1_empty_13 : decode cX1_empty 13 = .ok (.invokevirtual 42, 3) := by decide +kernel
theorem dX1_empty_16 : decode cX1_empty 16 = .ok (.iconst 0, 1) := by decide +kernel
theorem dX1_empty_17 : decode cX1_empty 17 = .ok (.invokevirtual 46, 3) := by decide +kernel
theorem dX1_empty_20 : decode cX1_empty 20 = .ok (.iinc 1 1, 3) := by decide +kernel
theorem dX1_empty_23 : decode cX1_empty 23 = .ok (.goto (-21), 3) := by decide +kernel
theorem dX1_empty_26 : decode cX1_empty 26 = .ok (.aload_n 0, 1) := by decide +kernel
theorem dX1_empty_27 : decode cX1_empty 27 = .ok (.iconst 0, 1) := by decide +kernel
theorem dX1_empty_28 : decode cX1_empty 28 = .ok (.putfield 32, 3) := by decide +kernel
theorem dX1_empty_31 : decode cX1_empty 31 = .ok (.aload_n 0, 1) := by decide +kernel
theorem dX1_empty_32 : decode cX1_empty 32 = .ok (.getfield 26, 3) := by decide +kernel
theorem dX1_empty_35 : decode cX1_empty 35 = .ok (.iconst 0, 1) := by decide +kernel
theorem dX1_empty_36 : decode cX1_empty 36 = .ok (.invokestatic 50, 3) := by decide +kernel
theorem dX1_empty_39 : decode cX1_empty 39 = .ok (.aload_n 0, 1) := by decide +kernel
theorem dX1_empty_40 : decode cX1_empty 40 = .ok (.getfield 29, 3) := by decide +kernel
theorem dX1_empty_43 : decode cX1_empty 43 = .ok (.iconst 0, 1) := by decide +kernel
theorem dX1_empty_44 : decode cX1_empty 44 = .ok (.invokestatic 50, 3) := by decide +kernel
theorem dX1_empty_47 : decode cX1_empty 47 = .ok (.return_, 1) := by decide +kernel
set_option maxRecDepth 20000 in
theorem ggX1_copyFrom_X8_copy : GoodIn wsX1_copyFrom wsX8_copy := goodIn_r _ [9] (by decide +kernel) (by decide +kernel)
set_option maxRecDepth 20000 in
theorem gX1_copyFrom_X8_copy : GoodIn wsX1_copyFrom (va_wsS RX1 54 yX8_copy wsX8_copy) := goodIn_app (goodIn_of _ (by decide +kernel)) ggX1_copyFrom_X8_copy
set_option maxRecDepth 20000 in
theorem ggX1_copyFrom_X1_holds : GoodIn wsX1_copyFrom wsX1_holds := goodIn_r _ [14, 5, 15, 16, 17, 18, 19, 20, 21] (by decide +kernel) (by decide +kernel)
set_option maxRecDepth 20000 in
theorem gX1_copyFrom_X1_holds : GoodIn wsX1_copyFrom (wsV RX1 58 RX1 yX1_holds wsX1_holds) := goodIn_app (goodIn_of _ (by decide +kernel)) ggX1_copyFrom_X1_holds
theorem dX1_copyFrom_0 : decode cX1_copyFrom 0 = .ok (.aload_n 0, 1) := by decide +kernel
theorem dX1_copyFrom_1 : decode cX1_copyFrom 1 = .ok (.aload_n 1, 1) := by decide +kernel
theorem dX1_copyFrom_2 : decode cX1_copyFrom 2 = .ok (.getfield 32, 3) := by decide +kernel
theorem dX1_copyFrom_5 : decode cX1_copyFrom 5 = .ok (.putfield 32, 3) := by decide +kernel
theorem dX1_copyFrom_8 : decode cX1_copyFrom 8 = .ok (.aload_n 1, 1) := by decide +kernel
theorem dX1_copyFrom_9 : decode cX1_copyFrom 9 = .ok (.getfield 15, 3) := by decide +kernel
theorem dX1_copyFrom_12 : decode cX1_copyFrom 12 = .ok (.aload_n 0, 1) := by decide +kernel
theorem dX1_copyFrom_13 : decode cX1_copyFrom 13 = .ok (.getfield 15, 3) := by decide +kernel
theorem dX1_copyFrom_16 : decode cX1_copyFrom 16 = .ok (.invokestatic 54, 3) := by decide +kernel
theorem dX1_copyFrom_19 : decode cX1_copyFrom 19 = .ok (.aload_n 1, 1) := by decide +kernel
theorem dX1_copyFrom_20 : decode cX1_copyFrom 20 = .ok (.getfield 26, 3) := by decide +kernel
theorem dX1_copyFrom_23 : decode cX1_copyFrom 23 = .ok (.aload_n 0, 1) := by decide +kernel
theorem dX1_copyFrom_24 : decode cX1_copyFrom 24 = .ok (.getfield 26, 3) := by decide +kernel
theorem dX1_copyFrom_27 : decode cX1_copyFrom 27 = .ok (.invokestatic 54, 3) := by decide +kernel
theorem dX1_copyFrom_30 : decode cX1_copyFrom 30 = .ok (.aload_n 1, 1) := by decide +kernel
theorem dX1_copyFrom_31 : decode cX1_copyFrom 31 = .ok (.getfield 29, 3) := by decide +kernel
theorem dX1_copyFrom_34 : decode cX1_copyFrom 34 = .ok (.aload_n 0, 1) := by decide +kernel
theorem dX1_copyFrom_35 : decode cX1_copyFrom 35 = .ok (.getfield 29, 3) := by decide +kernel
theorem dX1_copyFrom_38 : decode cX1_copyFrom 38 = .ok (.invokestatic 54, 3) := by decide +kernel
theorem dX1_copyFrom_41 : decode cX1_copyFrom 41 = .ok (.iconst 0, 1) := by decide +kernel
theorem dX1_copyFrom_42 : decode cX1_copyFrom 42 = .ok (.istore_n 2, 1) := by decide +kernel
theorem dX1_copyFrom_43 : decode cX1_copyFrom 43 = .ok (.iload_n 2, 1) := by decide +kernel
theorem dX1_copyFrom_44 : decode cX1_copyFrom 44 = .ok (.aload_n 0, 1) := by decide +kernel
theorem dX1_copyFrom_45 : decode cX1_copyFrom 45 = .ok (.getfield 19, 3) := by decide +kernel
theorem dX1_copyFrom_48 : decode cX1_copyFrom 48 = .ok (.arraylength, 1) := by decide +kernel
theorem dX1_copyFrom_49 : decode cX1_copyFrom 49 = .ok (.if_icmp .ge 20, 3) := by decide +kernel
theorem dX1_copyFrom_52 : decode cX1_copyFrom 52 = .ok (.aload_n 0, 1) := by decide +kernel
theorem dX1_copyFrom_53 : decode cX1_copyFrom 53 = .ok (.getfield 19, 3) := by decide +kernel
theorem dX1_copyFrom_56 : decode cX1_copyFrom 56 = .ok (.iload_n 2, 1) := by decide +kernel
theorem dX1_copyFrom_57 : decode cX1_copyFrom 57 = .ok (.aload_n 1, 1) := by decide +kernel
theorem dX1_copyFrom_58 : decode cX1_copyFrom 58 = .ok (.iload_n 2, 1) := by decide +kernel
theorem dX1_copyFrom_59 : decode cX1_copyFrom 59 = .ok (.invokevirtual 58, 3) := by decide +kernel
theorem dX1_copyFrom_62 : decode cX1_copyFrom 62 = .ok (.bastore, 1) := by decide +kernel
theorem dX1_copyFrom_63 : decode cX1_copyFrom 63 = .ok (.iinc 2 1, 3) := by decide +kernel
theorem dX1_copyFrom_66 : decode cX1_copyFrom 66 = .ok (.goto (-23), 3) := by decide +kernel
theorem dX1_copyFrom_69 : decode cX1_copyFrom 69 = .ok (.return_, 1) := by decide +kernel
set_option maxRecDepth 20000 in
theorem ggX1_include_X0_isWord : GoodIn wsX1_include wsX0_isWord := goodIn_r _ [8, 9, 65, 66, 67, 68] (by decide +kernel) (by decide +kernel)
set_option maxRecDepth 20000 in
theorem gX1_include_X0_isWord : GoodIn wsX1_include (wsV RX1 62 RX0 yX0_isWord wsX0_isWord) := goodIn_app (goodIn_of _ (by decide +kernel)) ggX1_include_X0_isWord
set_option maxRecDepth 20000 in
theorem ggX1_include_X1_holds : GoodIn wsX1_include wsX1_holds := goodIn_r _ [14, 15, 58, 59, 60, 61, 62, 63, 64] (by decide +kernel) (by decide +kernel)
set_option maxRecDepth 20000 in
theorem gX1_include_X1_holds : GoodIn wsX1_include (wsV RX1 58 RX1 yX1_holds wsX1_holds) := goodIn_app (goodIn_of _ (by decide +kernel)) ggX1_include_X1_holds
set_option maxRecDepth 20000 in
theorem ggX1_include_X1_nth : GoodIn wsX1_include wsX1_nth := goodIn_r _ [19, 3, 20, 21, 22, 23, 58, 59, 60, 61, 62, 63, 64] (by decide +kernel) (by decide +kernel)
set_option maxRecDepth 20000 in
theorem gX1_include_X1_nth : GoodIn wsX1_include (wsV RX1 42 RX1 yX1_nth wsX1_nth) := goodIn_app (goodIn_of _ (by decide +kernel)) ggX1_include_X1_nth
set_option maxRecDepth 20000 in
theorem ggX1_include_X8_set : GoodIn wsX1_include wsX8_set := goodIn_r _ [26] (by decide +kernel) (by decide +kernel)
set_option maxRecDepth 20000 in
theorem gX1_include_X8_set : GoodIn wsX1_include (va_wsS RX1 67 yX8_set wsX8_set) := goodIn_app (goodIn_of _ (by decide +kernel)) ggX1_include_X8_set
set_option maxRecDepth 20000 in
theorem ggX1_include_X1_hold : GoodIn wsX1_include wsX1_hold := goodIn_r _ [30, 15, 58, 59, 60, 61, 62, 63, 64] (by decide +kernel) (by decide +kernel)
set_option maxRecDepth 20000 in
theorem gX1_include_X1_hold : GoodIn wsX1_include (wsV RX1 46 RX1 yX1_hold wsX1_hold) := goodIn_app (goodIn_of _ (by decide +kernel)) ggX1_include_X1_hold
set_option maxRecDepth 20000 in
theorem ggX1_include_X1_mark : GoodIn wsX1_include wsX1_mark := goodIn_r _ [34, 1, 35, 36, 37, 38, 39, 7, 40, 41, 42, 43, 44, 45, 46, 47, 48, 49, 22, 50, 51, 52, 53, 54, 55, 56, 57, 20, 21, 23, 24, 25, 26, 58, 59, 60, 61, 62, 63, 64, 65, 66, 67, 68] (by decide +kernel) (by decide +kernel)
set_option maxRecDepth 20000 in
theorem gX1_include_X1_mark : GoodIn wsX1_include (wsV RX1 71 RX1 yX1_mark wsX1_mark) := goodIn_app (goodIn_of _ (by decide +kernel)) ggX1_include_X1_mark
theorem dX1_include_0 : decode cX1_include 0 = .ok (.aload_n 0, 1) := by decide +kernel
theorem dX1_include_1 : decode cX1_include 1 = .ok (.getfield 9, 3) := by decide +kernel
theorem dX1_include_4 : decode cX1_include 4 = .ok (.iload_n 1, 1) := by decide +kernel
theorem dX1_include_5 : decode cX1_include 5 = .ok (.invokevirtual 62, 3) := by decide +kernel
theorem dX1_include_8 : decode cX1_include 8 = .ok (.ifCond .eq 23, 3) := by decide +kernel
theorem dX1_include_11 : decode cX1_include 11 = .ok (.aload_n 0, 1) := by decide +kernel
theorem dX1_include_12 : decode cX1_include 12 = .ok (.iload_n 1, 1) := by decide +kernel
theorem dX1_include_13 : decode cX1_include 13 = .ok (.invokevirtual 58, 3) := by decide +kernel
theorem dX1_include_16 : decode cX1_include 16 = .ok (.ifCond .ne 15, 3) := by decide +kernel
theorem dX1_include_19 : decode cX1_include 19 = .ok (.aload_n 0, 1) := by decide +kernel
theorem dX1_include_20 : decode cX1_include 20 = .ok (.getfield 32, 3) := by decide +kernel
theorem dX1_include_23 : decode cX1_include 23 = .ok (.aload_n 0, 1) := by decide +kernel
theorem dX1_include_24 : decode cX1_include 24 = .ok (.getfield 15, 3) := by decide +kernel
theorem dX1_include_27 : decode cX1_include 27 = .ok (.arraylength, 1) := by decide +kernel
theorem dX1_include_28 : decode cX1_include 28 = .ok (.if_icmp .lt 5, 3) := by decide +kernel
theorem dX1_include_31 : decode cX1_include 31 = .ok (.iconst 0, 1) := by decide +kernel
theorem dX1_include_32 : decode cX1_include 32 = .ok (.ireturn, 1) := by decide +kernel
theorem dX1_include_33 : decode cX1_include 33 = .ok (.aload_n 0, 1) := by decide +kernel
theorem dX1_include_34 : decode cX1_include 34 = .ok (.getfield 32, 3) := by decide +kernel
theorem dX1_include_37 : decode cX1_include 37 = .ok (.istore_n 2, 1) := by decide +kernel
theorem dX1_include_38 : decode cX1_include 38 = .ok (.iload_n 2, 1) := by decide +kernel
theorem dX1_include_39 : decode cX1_include 39 = .ok (.ifCond .le 35, 3) := by decide +kernel
theorem dX1_include_42 : decode cX1_include 42 = .ok (.aload_n 0, 1) := by decide +kernel
theorem dX1_include_43 : decode cX1_include 43 = .ok (.iload_n 2, 1) := by decide +kernel
theorem dX1_include_44 : decode cX1_include 44 = .ok (.iconst 1, 1) := by decide +kernel
theorem dX1_include_45 : decode cX1_include 45 = .ok (.isub, 1) := by decide +kernel
theorem dX1_include_46 : decode cX1_include 46 = .ok (.invokevirtual 42, 3) := by decide +kernel
theorem dX1_include_49 : decode cX1_include 49 = .ok (.iload_n 1, 1) := by decide +kernel
theorem dX1_include_50 : decode cX1_include 50 = .ok (.if_icmp .le 24, 3) := by decide +kernel
theorem dX1_include_53 : decode cX1_include 53 = .ok (.aload_n 0, 1) := by decide +kernel
theorem dX1_include_54 : decode cX1_include 54 = .ok (.getfield 15, 3) := by decide +kernel
theorem dX1_include_57 : decode cX1_include 57 = .ok (.iload_n 2, 1) := by decide +kernel
theorem dX1_include_58 : decode cX1_include 58 = .ok (.aload_n 0, 1) := by decide +kernel
theorem dX1_include_59 : decode cX1_include 59 = .ok (.iload_n 2, 1) := by decide +kernel
theorem dX1_include_60 : decode cX1_include 60 = .ok (.iconst 1, 1) := by decide +kernel
theorem dX1_include_61 : decode cX1_include 61 = .ok (.isub, 1) := by decide +kernel
theorem dX1_include_62 : decode cX1_include 62 = .ok (.invokevirtual 42, 3) := by decide +kernel
theorem dX1_include_65 : decode cX1_include 65 = .ok (.invokestatic 67, 3) := by decide +kernel
theorem dX1_include_68 : decode cX1_include 68 = .ok (.iinc 2 (-1), 3) := by decide +kernel
theorem dX1_include_71 : decode cX1_include 71 = .ok (.goto (-33), 3) := by decide +kernel
theorem dX1_include_74 : decode cX1_include 74 = .ok (.aload_n 0, 1) := by decide +kernel
theorem dX1_include_75 : decode cX1_include 75 = .ok (.getfield 15, 3) := by decide +kernel
theorem dX1_include_78 : decode cX1_include 78 = .ok (.iload_n 2, 1) := by decide +kernel
theorem dX1_include_79 : decode cX1_include 79 = .ok (.iload_n 1, 1) := by decide +kernel
theorem dX1_include_80 : decode cX1_include 80 = .ok (.invokestatic 67, 3) := by decide +kernel
theorem dX1_include_83 : decode cX1_include 83 = .ok (.aload_n 0, 1) := by decide +kernel
theorem dX1_include_84 : decode cX1_include 84 = .ok (.dup, 1) := by decide +kernel
theorem dX1_include_85 : decode cX1_include 85 = .ok (.getfield 32, 3) := by decide +kernel
theorem dX1_include_88 : decode cX1_include 88 = .ok (.iconst 1, 1) := by decide +kernel
theorem dX1_include_89 : decode cX1_include 89 = .ok (.iadd, 1) := by decide +kernel
theorem dX1_include_90 : decode cX1_include 90 = .ok (.putfield 32, 3) := by decide +kernel
theorem dX1_include_93 : decode cX1_include 93 = .ok (.aload_n 0, 1) := by decide +kernel
theorem dX1_include_94 : decode cX1_include 94 = .ok (.iload_n 1, 1) := by decide +kernel
theorem dX1_include_95 : decode cX1_include 95 = .ok (.iconst 1, 1) := by decide +kernel
theorem dX1_include_96 : decode cX1_include 96 = .ok (.invokevirtual 46, 3) := by decide +kernel
theorem dX1_include_99 : decode cX1_include 99 = .ok (.aload_n 0, 1) := by decide +kernel
theorem dX1_include_100 : decode cX1_include 100 = .ok (.iload_n 1, 1) := by decide +kernel
theorem dX1_include_101 : decode cX1_include 101 = .ok (.iconst 1, 1) := by decide +kernel
theorem dX1_include_102 : decode cX1_include 102 = .ok (.invokevirtual 71, 3) := by decide +kernel
theorem dX1_include_105 : decode cX1_include 105 = .ok (.iconst 1, 1) := by decide +kernel
theorem dX1_include_106 : decode cX1_include 106 = .ok (.ireturn, 1) := by decide +kernel
set_option maxRecDepth 20000 in
theorem ggX1_exclude_X1_holds : GoodIn wsX1_exclude wsX1_holds := goodIn_r _ [7, 8, 53, 54, 55, 56, 57, 58, 59] (by decide +kernel) (by decide +kernel)
set_option maxRecDepth 20000 in
theorem gX1_exclude_X1_holds : GoodIn wsX1_exclude (wsV RX1 58 RX1 yX1_holds wsX1_holds) := goodIn_app (goodIn_of _ (by decide +kernel)) ggX1_exclude_X1_holds
set_option maxRecDepth 20000 in
theorem ggX1_exclude_X1_nth : GoodIn wsX1_exclude wsX1_nth := goodIn_r _ [12, 2, 13, 14, 15, 16, 53, 54, 55, 56, 57, 58, 59] (by decide +kernel) (by decide +kernel)
set_option maxRecDepth 20000 in
theorem gX1_exclude_X1_nth : GoodIn wsX1_exclude (wsV RX1 42 RX1 yX1_nth wsX1_nth) := goodIn_app (goodIn_of _ (by decide +kernel)) ggX1_exclude_X1_nth
set_option maxRecDepth 20000 in
theorem ggX1_exclude_X8_set : GoodIn wsX1_exclude wsX8_set := goodIn_r _ [19] (by decide +kernel) (by decide +kernel)
set_option maxRecDepth 20000 in
theorem gX1_exclude_X8_set : GoodIn wsX1_exclude (va_wsS RX1 67 yX8_set wsX8_set) := goodIn_app (goodIn_of _ (by decide +kernel)) ggX1_exclude_X8_set
set_option maxRecDepth 20000 in
theorem ggX1_exclude_X1_hold : GoodIn wsX1_exclude wsX1_hold := goodIn_r _ [23, 8, 53, 54, 55, 56, 57, 58, 59] (by decide +kernel) (by decide +kernel)
set_option maxRecDepth 20000 in
theorem gX1_exclude_X1_hold : GoodIn wsX1_exclude (wsV RX1 46 RX1 yX1_hold wsX1_hold) := goodIn_app (goodIn_of _ (by decide +kernel)) ggX1_exclude_X1_hold
set_option maxRecDepth 20000 in
theorem ggX1_exclude_X1_mark : GoodIn wsX1_exclude wsX1_mark := goodIn_r _ [27, 28, 29, 30, 31, 32, 33, 34, 35, 36, 37, 38, 39, 40, 41, 42, 43, 44, 15, 45, 46, 47, 48, 49, 50, 51, 52, 13, 14, 16, 17, 18, 19, 53, 54, 55, 56, 57, 58, 59, 60, 61, 62, 63] (by decide +kernel) (by decide +kernel)
set_option maxRecDepth 20000 in
theorem gX1_exclude_X1_mark : GoodIn wsX1_exclude (wsV RX1 71 RX1 yX1_mark wsX1_mark) := goodIn_app (goodIn_of _ (by decide +kernel)) ggX1_exclude_X1_mark
theorem dX1_exclude_0 : decode cX1_exclude 0 = .ok (.aload_n 0, 1) := by decide +kernel
theorem dX1_exclude_1 : decode cX1_exclude 1 = .ok (.iload_n 1, 1) := by decide +kernel
theorem dX1_exclude_2 : decode cX1_exclude 2 = .ok (.invokevirtual 58, 3) := by decide +kernel
theorem dX1_exclude_5 : decode cX1_exclude 5 = .ok (.ifCond .ne 5, 3) := by decide +kernel
theorem dX1_exclude_8 : decode cX1_exclude 8 = .ok (.iconst 0, 1) := by decide +kernel
theorem dX1_exclude_9 : decode cX1_exclude 9 = .ok (.ireturn, 1) := by decide +kernel
theorem dX1_exclude_10 : decode cX1_exclude 10 = .ok (.iconst 0, 1) := by decide +kernel
theorem dX1_exclude_11 : decode cX1_exclude 11 = .ok (.istore_n 2, 1) := by decide +kernel
theorem dX1_exclude_12 : decode cX1_exclude 12 = .ok (.iconst 0, 1) := by decide +kernel
theorem dX1_exclude_13 : decode cX1_exclude 13 = .ok (.istore_n 3, 1) := by decide +kernel
theorem dX1_exclude_14 : decode cX1_exclude 14 = .ok (.iload_n 3, 1) := by decide +kernel
theorem dX1_exclude_15 : decode cX1_exclude 15 = .ok (.aload_n 0, 1) := by decide +kernel
theorem dX1_exclude_16 : decode cX1_exclude 16 = .ok (.getfield 32, 3) := by decide +kernel
theorem dX1_exclude_19 : decode cX1_exclude 19 = .ok (.if_icmp .ge 34, 3) := by decide +kernel
theorem dX1_exclude_22 : decode cX1_exclude 22 = .ok (.aload_n 0, 1) := by decide +kernel
theorem dX1_exclude_23 : decode cX1_exclude 23 = .ok (.iload_n 3, 1) := by decide +kernel
theorem dX1_exclude_24 : decode cX1_exclude 24 = .ok (.invokevirtual 42, 3) := by decide +kernel
theorem dX1_exclude_27 : decode cX1_exclude 27 = .ok (.iload_n 1, 1) := by decide +kernel
theorem dX1_exclude_28 : decode cX1_exclude 28 = .ok (.if_icmp .eq 19, 3) := by decide +kernel
theorem dX1_exclude_31 : decode cX1_exclude 31 = .ok (.aload_n 0, 1) := by decide +kernel
theorem dX1_exclude_32 : decode cX1_exclude 32 = .ok (.getfield 15, 3) := by decide +kernel
theorem dX1_exclude_35 : decode cX1_exclude 35 = .ok (.iload_n 2, 1) := by decide +kernel
theorem dX1_exclude_36 : decode cX1_exclude 36 = .ok (.aload_n 0, 1) := by decide +kernel
theorem dX1_exclude_37 : decode cX1_exclude 37 = .ok (.iload_n 3, 1) := by decide +kernel
theorem dX1_exclude_38 : decode cX1_exclude 38 = .ok (.invokevirtual 42, 3) := by decide +kernel
theorem dX1_exclude_41 : decode cX1_exclude 41 = .ok (.invokestatic 67, 3) := by decide +kernel
theorem dX1_exclude_44 : decode cX1_exclude 44 = .ok (.iinc 2 1, 3) := by decide +kernel
theorem dX1_exclude_47 : decode cX1_exclude 47 = .ok (.iinc 3 1, 3) := by decide +kernel
theorem dX1_exclude_50 : decode cX1_exclude 50 = .ok (.goto (-36), 3) := by decide +kernel
theorem dX1_exclude_53 : decode cX1_exclude 53 = .ok (.aload_n 0, 1) := by decide +kernel
theorem dX1_exclude_54 : decode cX1_exclude 54 = .ok (.iload_n 2, 1) := by decide +kernel
theorem dX1_exclude_55 : decode cX1_exclude 55 = .ok (.putfield 32, 3) := by decide +kernel
theorem dX1_exclude_58 : decode cX1_exclude 58 = .ok (.aload_n 0, 1) := by decide +kernel
theorem dX1_exclude_59 : decode cX1_exclude 59 = .ok (.iload_n 1, 1) := by decide +kernel
theorem dX1_exclude_60 : decode cX1_exclude 60 = .ok (.iconst 0, 1) := by decide +kernel
theorem dX1_exclude_61 : decode cX1_exclude 61 = .ok (.invokevirtual 46, 3) := by decide +kernel
theorem dX1_exclude_64 : decode cX1_exclude 64 = .ok (.aload_n 0, 1) := by decide +kernel
theorem dX1_exclude_65 : decode cX1_exclude 65 = .ok (.iload_n 1, 1) := by decide +kernel
theorem dX1_exclude_66 : decode cX1_exclude 66 = .ok (.iconst (-1), 1) := by decide +kernel
theorem dX1_exclude_67 : decode cX1_exclude 67 = .ok (.invokevirtual 71, 3) := by decide +kernel
theorem dX1_exclude_70 : decode cX1_exclude 70 = .ok (.iconst 1, 1) := by decide +kernel
theorem dX1_exclude_71 : decode cX1_exclude 71 = .ok (.ireturn, 1) := by decide +kernel
set_option maxRecDepth 20000 in
theorem ggX1_mark_X0_power : GoodIn wsX1_mark wsX0_power := goodIn_r _ [8, 9, 40, 41, 42, 43] (by decide +kernel) (by decide +kernel)
set_option maxRecDepth 20000 in
theorem gX1_mark_X0_power : GoodIn wsX1_mark (wsV RX1 78 RX0 yX0_power wsX0_power) := goodIn_app (goodIn_of _ (by decide +kernel)) ggX1_mark_X0_power
set_option maxRecDepth 20000 in
theorem ggX1_mark_X0_opening : GoodIn wsX1_mark wsX0_opening := goodIn_r _ [13, 14, 15, 5, 6, 7, 8, 9, 16, 17, 18, 19, 40, 41, 42, 43] (by decide +kernel) (by decide +kernel)
set_option maxRecDepth 20000 in
theorem gX1_mark_X0_opening : GoodIn wsX1_mark (wsV RX1 81 RX0 yX0_opening wsX0_opening) := goodIn_app (goodIn_of _ (by decide +kernel)) ggX1_mark_X0_opening
set_option maxRecDepth 20000 in
theorem ggX1_mark_X0_ending : GoodIn wsX1_mark wsX0_ending := goodIn_r _ [23, 15, 5, 6, 7, 8, 9, 24, 25, 18, 26, 40, 41, 42, 43] (by decide +kernel) (by decide +kernel)
set_option maxRecDepth 20000 in
theorem gX1_mark_X0_ending : GoodIn wsX1_mark (wsV RX1 85 RX0 yX0_ending wsX0_ending) := goodIn_app (goodIn_of _ (by decide +kernel)) ggX1_mark_X0_ending
set_option maxRecDepth 20000 in
theorem ggX1_mark_X8_at : GoodIn wsX1_mark wsX8_at := goodIn_r _ [29] (by decide +kernel) (by decide +kernel)
set_option maxRecDepth 20000 in
theorem gX1_mark_X8_at : GoodIn wsX1_mark (va_wsS RX1 36 yX8_at wsX8_at) := goodIn_app (goodIn_of _ (by decide +kernel)) ggX1_mark_X8_at
set_option maxRecDepth 20000 in
theorem ggX1_mark_X8_set : GoodIn wsX1_mark wsX8_set := goodIn_r _ [32] (by decide +kernel) (by decide +kernel)
set_option maxRecDepth 20000 in
theorem gX1_mark_X8_set : GoodIn wsX1_mark (va_wsS RX1 67 yX8_set wsX8_set) := goodIn_app (goodIn_of _ (by decide +kernel)) ggX1_mark_X8_set
theorem dX1_mark_0 : decode cX1_mark 0 = .ok (.iconst 1, 1) := by decide +kernel
theorem dX1_mark_1 : decode cX1_mark 1 = .ok (.istore_n 3, 1) := by decide +kernel
theorem dX1_mark_2 : decode cX1_mark 2 = .ok (.iload_n 3, 1) := by decide +kernel
theorem dX1_mark_3 : decode cX1_mark 3 = .ok (.aload_n 0, 1) := by decide +kernel
theorem dX1_mark_4 : decode cX1_mark 4 = .ok (.getfield 9, 3) := by decide +kernel
theorem dX1_mark_7 : decode cX1_mark 7 = .ok (.getfield 75, 3) := by decide +kernel
theorem dX1_mark_10 : decode cX1_mark 10 = .ok (.if_icmp .ge 87, 3) := by decide +kernel
theorem dX1_mark_13 : decode cX1_mark 13 = .ok (.aload_n 0, 1) := by decide +kernel
theorem dX1_mark_14 : decode cX1_mark 14 = .ok (.getfield 9, 3) := by decide +kernel
theorem dX1_mark_17 : decode cX1_mark 17 = .ok (.iload_n 3, 1) := by decide +kernel
theorem dX1_mark_18 : decode cX1_mark 18 = .ok (.invokevirtual 78, 3) := by decide +kernel
theorem dX1_mark_21 : decode cX1_mark 21 = .ok (.istore 4, 2) := by decide +kernel
theorem dX1_mark_23 : decode cX1_mark 23 = .ok (.iload 4, 2) := by decide +kernel
theorem dX1_mark_25 : decode cX1_mark 25 = .ok (.aload_n 0, 1) := by decide +kernel
theorem dX1_mark_26 : decode cX1_mark 26 = .ok (.getfield 9, 3) := by decide +kernel
theorem dX1_mark_29 : decode cX1_mark 29 = .ok (.iload_n 1, 1) := by decide +kernel
theorem dX1_mark_30 : decode cX1_mark 30 = .ok (.iload_n 3, 1) := by decide +kernel
theorem dX1_mark_31 : decode cX1_mark 31 = .ok (.invokevirtual 81, 3) := by decide +kernel
theorem dX1_mark_34 : decode cX1_mark 34 = .ok (.iadd, 1) := by decide +kernel
theorem dX1_mark_35 : decode cX1_mark 35 = .ok (.istore 5, 2) := by decide +kernel
theorem dX1_mark_37 : decode cX1_mark 37 = .ok (.iload 4, 2) := by decide +kernel
theorem dX1_mark_39 : decode cX1_mark 39 = .ok (.aload_n 0, 1) := by decide +kernel
theorem dX1_mark_40 : decode cX1_mark 40 = .ok (.getfield 9, 3) := by decide +kernel
theorem dX1_mark_43 : decode cX1_mark 43 = .ok (.iload_n 1, 1) := by decide +kernel
theorem dX1_mark_44 : decode cX1_mark 44 = .ok (.iload_n 3, 1) := by decide +kernel
theorem dX1_mark_45 : decode cX1_mark 45 = .ok (.invokevirtual 85, 3) := by decide +kernel
theorem dX1_mark_48 : decode cX1_mark 48 = .ok (.iadd, 1) := by decide +kernel
theorem dX1_mark_49 : decode cX1_mark 49 = .ok (.istore 6, 2) := by decide +kernel
theorem dX1_mark_51 : decode cX1_mark 51 = .ok (.aload_n 0, 1) := by decide +kernel
theorem dX1_mark_52 : decode cX1_mark 52 = .ok (.getfield 26, 3) := by decide +kernel
theorem dX1_mark_55 : decode cX1_mark 55 = .ok (.iload 5, 2) := by decide +kernel
theorem dX1_mark_57 : decode cX1_mark 57 = .ok (.aload_n 0, 1) := by decide +kernel
theorem dX1_mark_58 : decode cX1_mark 58 = .ok (.getfield 26, 3) := by decide +kernel
theorem dX1_mark_61 : decode cX1_mark 61 = .ok (.iload 5, 2) := by decide +kernel
theorem dX1_mark_63 : decode cX1_mark 63 = .ok (.invokestatic 36, 3) := by decide +kernel
theorem dX1_mark_66 : decode cX1_mark 66 = .ok (.iload_n 2, 1) := by decide +kernel
theorem dX1_mark_67 : decode cX1_mark 67 = .ok (.iadd, 1) := by decide +kernel
theorem dX1_mark_68 : decode cX1_mark 68 = .ok (.invokestatic 67, 3) := by decide +kernel
theorem dX1_mark_71 : decode cX1_mark 71 = .ok (.aload_n 0, 1) := by decide +kernel
theorem dX1_mark_72 : decode cX1_mark 72 = .ok (.getfield 29, 3) := by decide +kernel
theorem dX1_mark_75 : decode cX1_mark 75 = .ok (.iload 6, 2) := by decide +kernel
theorem dX1_mark_77 : decode cX1_mark 77 = .ok (.aload_n 0, 1) := by decide +kernel
theorem dX1_mark_78 : decode cX1_mark 78 = .ok (.getfield 29, 3) := by decide +kernel
theorem dX1_mark_81 : decode cX1_mark 81 = .ok (.iload 6, 2) := by decide +kernel
theorem dX1_mark_83 : decode cX1_mark 83 = .ok (.invokestatic 36, 3) := by decide +kernel
theorem dX1_mark_86 : decode cX1_mark 86 = .ok (.iload_n 2, 1) := by decide +kernel
theorem dX1_mark_87 : decode cX1_mark 87 = .ok (.iadd, 1) := by decide +kernel
theorem dX1_mark_88 : decode cX1_mark 88 = .ok (.invokestatic 67, 3) := by decide +kernel
theorem dX1_mark_91 : decode cX1_mark 91 = .ok (.iinc 3 1, 3) := by decide +kernel
theorem dX1_mark_94 : decode cX1_mark 94 = .ok (.goto (-92), 3) := by decide +kernel
theorem dX1_mark_97 : decode cX1_mark 97 = .ok (.return_, 1) := by decide +kernel
set_option maxRecDepth 20000 in
theorem ggX1_isHidden_X0_power : GoodIn wsX1_isHidden wsX0_power := goodIn_r _ [8, 9, 37, 38, 39, 40] (by decide +kernel) (by decide +kernel)
set_option maxRecDepth 20000 in
theorem gX1_isHidden_X0_power : GoodIn wsX1_isHidden (wsV RX1 78 RX0 yX0_power wsX0_power) := goodIn_app (goodIn_of _ (by decide +kernel)) ggX1_isHidden_X0_power
set_option maxRecDepth 20000 in
theorem ggX1_isHidden_X0_opening : GoodIn wsX1_isHidden wsX0_opening := goodIn_r _ [13, 14, 15, 5, 6, 7, 8, 9, 16, 17, 18, 19, 37, 38, 39, 40] (by decide +kernel) (by decide +kernel)
set_option maxRecDepth 20000 in
theorem gX1_isHidden_X0_opening : GoodIn wsX1_isHidden (wsV RX1 81 RX0 yX0_opening wsX0_opening) := goodIn_app (goodIn_of _ (by decide +kernel)) ggX1_isHidden_X0_opening
set_option maxRecDepth 20000 in
theorem ggX1_isHidden_X0_ending : GoodIn wsX1_isHidden wsX0_ending := goodIn_r _ [23, 15, 5, 6, 7, 8, 9, 24, 25, 18, 26, 37, 38, 39, 40] (by decide +kernel) (by decide +kernel)
set_option maxRecDepth 20000 in
theorem gX1_isHidden_X0_ending : GoodIn wsX1_isHidden (wsV RX1 85 RX0 yX0_ending wsX0_ending) := goodIn_app (goodIn_of _ (by decide +kernel)) ggX1_isHidden_X0_ending
set_option maxRecDepth 20000 in
theorem ggX1_isHidden_X8_at : GoodIn wsX1_isHidden wsX8_at := goodIn_r _ [29] (by decide +kernel) (by decide +kernel)
set_option maxRecDepth 20000 in
theorem gX1_isHidden_X8_at : GoodIn wsX1_isHidden (va_wsS RX1 36 yX8_at wsX8_at) := goodIn_app (goodIn_of _ (by decide +kernel)) ggX1_isHidden_X8_at
theorem dX1_isHidden_0 : decode cX1_isHidden 0 = .ok (.iconst 1, 1) := by decide +kernel
theorem dX1_isHidden_1 : decode cX1_isHidden 1 = .ok (.istore_n 2, 1) := by decide +kernel
theorem dX1_isHidden_2 : decode cX1_isHidden 2 = .ok (.iload_n 2, 1) := by decide +kernel
theorem dX1_isHidden_3 : decode cX1_isHidden 3 = .ok (.aload_n 0, 1) := by decide +kernel
theorem dX1_isHidden_4 : decode cX1_isHidden 4 = .ok (.getfield 9, 3) := by decide +kernel
theorem dX1_isHidden_7 : decode cX1_isHidden 7 = .ok (.getfield 75, 3) := by decide +kernel
theorem dX1_isHidden_10 : decode cX1_isHidden 10 = .ok (.if_icmp .ge 85, 3) := by decide +kernel
theorem dX1_isHidden_13 : decode cX1_isHidden 13 = .ok (.aload_n 0, 1) := by decide +kernel
theorem dX1_isHidden_14 : decode cX1_isHidden 14 = .ok (.getfield 9, 3) := by decide +kernel
theorem dX1_isHidden_17 : decode cX1_isHidden 17 = .ok (.getfield 75, 3) := by decide +kernel
theorem dX1_isHidden_20 : decode cX1_isHidden 20 = .ok (.iload_n 2, 1) := by decide +kernel
theorem dX1_isHidden_21 : decode cX1_isHidden 21 = .ok (.isub, 1) := by decide +kernel
theorem dX1_isHidden_22 : decode cX1_isHidden 22 = .ok (.istore_n 3, 1) := by decide +kernel
theorem dX1_isHidden_23 : decode cX1_isHidden 23 = .ok (.aload_n 0, 1) := by decide +kernel
theorem dX1_isHidden_24 : decode cX1_isHidden 24 = .ok (.getfield 9, 3) := by decide +kernel
theorem dX1_isHidden_27 : decode cX1_isHidden 27 = .ok (.iload_n 3, 1) := by decide +kernel
theorem dX1_isHidden_28 : decode cX1_isHidden 28 = .ok (.invokevirtual 78, 3) := by decide +kernel
theorem dX1_isHidden_31 : decode cX1_isHidden 31 = .ok (.aload_n 0, 1) := by decide +kernel
theorem dX1_isHidden_32 : decode cX1_isHidden 32 = .ok (.getfield 9, 3) := by decide +kernel
theorem dX1_isHidden_35 : decode cX1_isHidden 35 = .ok (.iload_n 1, 1) := by decide +kernel
theorem dX1_isHidden_36 : decode cX1_isHidden 36 = .ok (.iload_n 3, 1) := by decide +kernel
theorem dX1_isHidden_37 : decode cX1_isHidden 37 = .ok (.invokevirtual 81, 3) := by decide +kernel
theorem dX1_isHidden_40 : decode cX1_isHidden 40 = .ok (.iadd, 1) := by decide +kernel
theorem dX1_isHidden_41 : decode cX1_isHidden 41 = .ok (.istore 4, 2) := by decide +kernel
theorem dX1_isHidden_43 : decode cX1_isHidden 43 = .ok (.aload_n 0, 1) := by decide +kernel
theorem dX1_isHidden_44 : decode cX1_isHidden 44 = .ok (.getfield 9, 3) := by decide +kernel
theorem dX1_isHidden_47 : decode cX1_isHidden 47 = .ok (.iload_n 2, 1) := by decide +kernel
theorem dX1_isHidden_48 : decode cX1_isHidden 48 = .ok (.invokevirtual 78, 3) := by decide +kernel
theorem dX1_isHidden_51 : decode cX1_isHidden 51 = .ok (.aload_n 0, 1) := by decide +kernel
theorem dX1_isHidden_52 : decode cX1_isHidden 52 = .ok (.getfield 9, 3) := by decide +kernel
theorem dX1_isHidden_55 : decode cX1_isHidden 55 = .ok (.iload_n 1, 1) := by decide +kernel
theorem dX1_isHidden_56 : decode cX1_isHidden 56 = .ok (.iload_n 2, 1) := by decide +kernel
theorem dX1_isHidden_57 : decode cX1_isHidden 57 = .ok (.invokevirtual 85, 3) := by decide +kernel
theorem dX1_isHidden_60 : decode cX1_isHidden 60 = .ok (.iadd, 1) := by decide +kernel
theorem dX1_isHidden_61 : decode cX1_isHidden 61 = .ok (.istore 5, 2) := by decide +kernel
theorem dX1_isHidden_63 : decode cX1_isHidden 63 = .ok (.aload_n 0, 1) := by decide +kernel
theorem dX1_isHidden_64 : decode cX1_isHidden 64 = .ok (.getfield 29, 3) := by decide +kernel
theorem dX1_isHidden_67 : decode cX1_isHidden 67 = .ok (.iload 4, 2) := by decide +kernel
theorem dX1_isHidden_69 : decode cX1_isHidden 69 = .ok (.invokestatic 36, 3) := by decide +kernel
theorem dX1_isHidden_72 : decode cX1_isHidden 72 = .ok (.ifCond .le 17, 3) := by decide +kernel
theorem dX1_isHidden_75 : decode cX1_isHidden 75 = .ok (.aload_n 0, 1) := by decide +kernel
theorem dX1_isHidden_76 : decode cX1_isHidden 76 = .ok (.getfield 26, 3) := by decide +kernel
theorem dX1_isHidden_79 : decode cX1_isHidden 79 = .ok (.iload 5, 2) := by decide +kernel
theorem dX1_isHidden_81 : decode cX1_isHidden 81 = .ok (.invokestatic 36, 3) := by decide +kernel
theorem dX1_isHidden_84 : decode cX1_isHidden 84 = .ok (.ifCond .le 5, 3) := by decide +kernel
theorem dX1_isHidden_87 : decode cX1_isHidden 87 = .ok (.iconst 1, 1) := by decide +kernel
theorem dX1_isHidden_88 : decode cX1_isHidden 88 = .ok (.ireturn, 1) := by decide +kernel
theorem dX1_isHidden_89 : decode cX1_isHidden 89 = .ok (.iinc 2 1, 3) := by decide +kernel
theorem dX1_isHidden_92 : decode cX1_isHidden 92 = .ok (.goto (-90), 3) := by decide +kernel
theorem dX1_isHidden_95 : decode cX1_isHidden 95 = .ok (.iconst 0, 1) := by decide +kernel
theorem dX1_isHidden_96 : decode cX1_isHidden 96 = .ok (.ireturn, 1) := by decide +kernel
set_option maxRecDepth 20000 in
theorem ggX1_isFree_X1_nth : GoodIn wsX1_isFree wsX1_nth := goodIn_r _ [6, 7, 8, 9, 10, 11, 41, 42, 43, 44, 45, 46, 47] (by decide +kernel) (by decide +kernel)
set_option maxRecDepth 20000 in
theorem gX1_isFree_X1_nth : GoodIn wsX1_isFree (wsV RX1 42 RX1 yX1_nth wsX1_nth) := goodIn_app (goodIn_of _ (by decide +kernel)) ggX1_isFree_X1_nth
set_option maxRecDepth 20000 in
theorem ggX1_isFree_X1_isHidden : GoodIn wsX1_isFree wsX1_isHidden := goodIn_r _ [15, 16, 17, 18, 19, 20, 21, 22, 23, 24, 25, 26, 27, 28, 29, 30, 31, 32, 10, 33, 34, 35, 36, 37, 38, 39, 40, 8, 9, 11, 41, 42, 43, 44, 45, 46, 47, 48, 49, 50, 51] (by decide +kernel) (by decide +kernel)
set_option maxRecDepth 20000 in
theorem gX1_isFree_X1_isHidden : GoodIn wsX1_isFree (wsV RX1 88 RX1 yX1_isHidden wsX1_isHidden) := goodIn_app (goodIn_of _ (by decide +kernel)) ggX1_isFree_X1_isHidden
theorem dX1_isFree_0 : decode cX1_isFree 0 = .ok (.iconst 0, 1) := by decide +kernel
theorem dX1_isFree_1 : decode cX1_isFree 1 = .ok (.istore_n 1, 1) := by decide +kernel
theorem dX1_isFree_2 : decode cX1_isFree 2 = .ok (.iload_n 1, 1) := by decide +kernel
theorem dX1_isFree_3 : decode cX1_isFree 3 = .ok (.aload_n 0, 1) := by decide +kernel
theorem dX1_isFree_4 : decode cX1_isFree 4 = .ok (.getfield 32, 3) := by decide +kernel
theorem dX1_isFree_7 : decode cX1_isFree 7 = .ok (.if_icmp .ge 23, 3) := by decide +kernel
theorem dX1_isFree_10 : decode cX1_isFree 10 = .ok (.aload_n 0, 1) := by decide +kernel
theorem dX1_isFree_11 : decode cX1_isFree 11 = .ok (.aload_n 0, 1) := by decide +kernel
theorem dX1_isFree_12 : decode cX1_isFree 12 = .ok (.iload_n 1, 1) := by decide +kernel
theorem dX1_isFree_13 : decode cX1_isFree 13 = .ok (.invokevirtual 42, 3) := by decide +kernel
theorem dX1_isFree_16 : decode cX1_isFree 16 = .ok (.invokevirtual 88, 3) := by decide +kernel
theorem dX1_isFree_19 : decode cX1_isFree 19 = .ok (.ifCond .eq 5, 3) := by decide +kernel
theorem dX1_isFree_22 : decode cX1_isFree 22 = .ok (.iconst 0, 1) := by decide +kernel
theorem dX1_isFree_23 : decode cX1_isFree 23 = .ok (.ireturn, 1) := by decide +kernel
theorem dX1_isFree_24 : decode cX1_isFree 24 = .ok (.iinc 1 1, 3) := by decide +kernel
theorem dX1_isFree_27 : decode cX1_isFree 27 = .ok (.goto (-25), 3) := by decide +kernel
theorem dX1_isFree_30 : decode cX1_isFree 30 = .ok (.iconst 1, 1) := by decide +kernel
theorem dX1_isFree_31 : decode cX1_isFree 31 = .ok (.ireturn, 1) := by decide +kernel
set_option maxRecDepth 20000 in
theorem ggX1_allows_X0_isWord : GoodIn wsX1_allows wsX0_isWord := goodIn_r _ [6, 7, 69, 70, 71, 72] (by decide +kernel) (by decide +kernel)
set_option maxRecDepth 20000 in
theorem gX1_allows_X0_isWord : GoodIn wsX1_allows (wsV RX1 62 RX0 yX0_isWord wsX0_isWord) := goodIn_app (goodIn_of _ (by decide +kernel)) ggX1_allows_X0_isWord
set_option maxRecDepth 20000 in
theorem ggX1_allows_X1_holds : GoodIn wsX1_allows wsX1_holds := goodIn_r _ [12, 13, 62, 63, 64, 65, 66, 67, 68] (by decide +kernel) (by decide +kernel)
set_option maxRecDepth 20000 in
theorem gX1_allows_X1_holds : GoodIn wsX1_allows (wsV RX1 58 RX1 yX1_holds wsX1_holds) := goodIn_app (goodIn_of _ (by decide +kernel)) ggX1_allows_X1_holds
set_option maxRecDepth 20000 in
theorem ggX1_allows_X1_mark : GoodIn wsX1_allows wsX1_mark := goodIn_r _ [17, 1, 18, 19, 20, 21, 22, 5, 23, 24, 25, 26, 27, 28, 29, 30, 31, 32, 33, 34, 35, 36, 37, 38, 39, 40, 41, 42, 43, 44, 45, 46, 47, 62, 63, 64, 65, 66, 67, 68, 69, 70, 71, 72] (by decide +kernel) (by decide +kernel)
set_option maxRecDepth 20000 in
theorem gX1_allows_X1_mark : GoodIn wsX1_allows (wsV RX1 71 RX1 yX1_mark wsX1_mark) := goodIn_app (goodIn_of _ (by decide +kernel)) ggX1_allows_X1_mark
set_option maxRecDepth 20000 in
theorem ggX1_allows_X1_isHidden : GoodIn wsX1_allows wsX1_isHidden := goodIn_r _ [51, 1, 19, 18, 20, 21, 22, 5, 23, 24, 25, 26, 27, 28, 29, 30, 31, 32, 33, 34, 35, 36, 37, 38, 39, 40, 41, 42, 43, 44, 62, 63, 64, 65, 66, 67, 68, 69, 70, 71, 72] (by decide +kernel) (by decide +kernel)
set_option maxRecDepth 20000 in
theorem gX1_allows_X1_isHidden : GoodIn wsX1_allows (wsV RX1 88 RX1 yX1_isHidden wsX1_isHidden) := goodIn_app (goodIn_of _ (by decide +kernel)) ggX1_allows_X1_isHidden
set_option maxRecDepth 20000 in
theorem ggX1_allows_X1_isFree : GoodIn wsX1_allows wsX1_isFree := goodIn_r _ [55, 56, 57, 58, 59, 11, 60, 61, 42, 43, 33, 44, 48, 49, 50, 51, 1, 19, 18, 20, 21, 22, 5, 23, 24, 25, 26, 27, 28, 29, 30, 31, 32, 34, 35, 36, 37, 38, 39, 40, 41, 62, 63, 64, 65, 66, 67, 68, 69, 70, 71, 72] (by decide +kernel) (by decide +kernel)
set_option maxRecDepth 20000 in
theorem gX1_allows_X1_isFree : GoodIn wsX1_allows (wsV RX1 91 RX1 yX1_isFree wsX1_isFree) := goodIn_app (goodIn_of _ (by decide +kernel)) ggX1_allows_X1_isFree
theorem dX1_allows_0 : decode cX1_allows 0 = .ok (.aload_n 0, 1) := by decide +kernel
theorem dX1_allows_1 : decode cX1_allows 1 = .ok (.getfield 9, 3) := by decide +kernel
theorem dX1_allows_4 : decode cX1_allows 4 = .ok (.iload_n 1, 1) := by decide +kernel
theorem dX1_allows_5 : decode cX1_allows 5 = .ok (.invokevirtual 62, 3) := by decide +kernel
theorem dX1_allows_8 : decode cX1_allows 8 = .ok (.ifCond .eq 11, 3) := by decide +kernel
theorem dX1_allows_11 : decode cX1_allows 11 = .ok (.aload_n 0, 1) := by decide +kernel
theorem dX1_allows_12 : decode cX1_allows 12 = .ok (.iload_n 1, 1) := by decide +kernel
theorem dX1_allows_13 : decode cX1_allows 13 = .ok (.invokevirtual 58, 3) := by decide +kernel
theorem dX1_allows_16 : decode cX1_allows 16 = .ok (.ifCond .eq 5, 3) := by decide +kernel
theorem dX1_allows_19 : decode cX1_allows 19 = .ok (.iconst 0, 1) := by decide +kernel
theorem dX1_allows_20 : decode cX1_allows 20 = .ok (.ireturn, 1) := by decide +kernel
theorem dX1_allows_21 : decode cX1_allows 21 = .ok (.aload_n 0, 1) := by decide +kernel
theorem dX1_allows_22 : decode cX1_allows 22 = .ok (.iload_n 1, 1) := by decide +kernel
theorem dX1_allows_23 : decode cX1_allows 23 = .ok (.iconst 1, 1) := by decide +kernel
theorem dX1_allows_24 : decode cX1_allows 24 = .ok (.invokevirtual 71, 3) := by decide +kernel
theorem dX1_allows_27 : decode cX1_allows 27 = .ok (.aload_n 0, 1) := by decide +kernel
theorem dX1_allows_28 : decode cX1_allows 28 = .ok (.iload_n 1, 1) := by decide +kernel
theorem dX1_allows_29 : decode cX1_allows 29 = .ok (.invokevirtual 88, 3) := by decide +kernel
theorem dX1_allows_32 : decode cX1_allows 32 = .ok (.ifCond .ne 14, 3) := by decide +kernel
theorem dX1_allows_35 : decode cX1_allows 35 = .ok (.aload_n 0, 1) := by decide +kernel
theorem dX1_allows_36 : decode cX1_allows 36 = .ok (.invokevirtual 91, 3) := by decide +kernel
theorem dX1_allows_39 : decode cX1_allows 39 = .ok (.ifCond .eq 7, 3) := by decide +kernel
theorem dX1_allows_42 : decode cX1_allows 42 = .ok (.iconst 1, 1) := by decide +kernel
theorem dX1_allows_43 : decode cX1_allows 43 = .ok (.goto 4, 3) := by decide +kernel
theorem dX1_allows_46 : decode cX1_allows 46 = .ok (.iconst 0, 1) := by decide +kernel
theorem dX1_allows_47 : decode cX1_allows 47 = .ok (.istore_n 2, 1) := by decide +kernel
theorem dX1_allows_48 : decode cX1_allows 48 = .ok (.aload_n 0, 1) := by decide +kernel
theorem dX1_allows_49 : decode cX1_allows 49 = .ok (.iload_n 1, 1) := by decide +kernel
theorem dX1_allows_50 : decode cX1_allows 50 = .ok (.iconst (-1), 1) := by decide +kernel
theorem dX1_allows_51 : decode cX1_allows 51 = .ok (.invokevirtual 71, 3) := by decide +kernel
theorem dX1_allows_54 : decode cX1_allows 54 = .ok (.iload_n 2, 1) := by decide +kernel
theorem dX1_allows_55 : decode cX1_allows 55 = .ok (.ireturn, 1) := by decide +kernel
set_option maxRecDepth 20000 in
theorem ggX1_firstClash_X1_nth : GoodIn wsX1_firstClash wsX1_nth := goodIn_r _ [7, 8, 9, 10, 11, 12, 47, 48, 49, 50, 51, 52, 53] (by decide +kernel) (by decide +kernel)
set_option maxRecDepth 20000 in
theorem gX1_firstClash_X1_nth : GoodIn wsX1_firstClash (wsV RX1 42 RX1 yX1_nth wsX1_nth) := goodIn_app (goodIn_of _ (by decide +kernel)) ggX1_firstClash_X1_nth
set_option maxRecDepth 20000 in
theorem ggX1_firstClash_X1_firstHiding : GoodIn wsX1_firstClash wsX1_firstHiding := goodIn_r _ [16, 2, 17, 18, 19, 20, 21, 22, 23, 24, 25, 26, 27, 28, 29, 30, 31, 32, 33, 11, 34, 35, 36, 37, 38, 39, 40, 41, 42, 43, 44, 6, 45, 46, 47, 48, 49, 50, 51, 52, 53, 54, 55, 56, 57] (by decide +kernel) (by decide +kernel)
set_option maxRecDepth 20000 in
theorem gX1_firstClash_X1_firstHiding : GoodIn wsX1_firstClash (wsV RX1 95 RX1 yX1_firstHiding wsX1_firstHiding) := goodIn_app (goodIn_of _ (by decide +kernel)) ggX1_firstClash_X1_firstHiding
set_option maxRecDepth 20000 in
theorem ggX1_firstClash_X0_across : GoodIn wsX1_firstClash wsX0_across := goodIn_r _ [21, 22, 23, 24, 25, 20, 26, 27, 28, 29, 30, 31, 32, 33, 11, 34, 35, 36, 37, 38, 39, 40, 41, 54, 55, 56, 57] (by decide +kernel) (by decide +kernel)
set_option maxRecDepth 20000 in
theorem gX1_firstClash_X0_across : GoodIn wsX1_firstClash (wsV RX1 98 RX0 yX0_across wsX0_across) := goodIn_app (goodIn_of _ (by decide +kernel)) ggX1_firstClash_X0_across
theorem dX1_firstClash_0 : decode cX1_firstClash 0 = .ok (.iconst 0, 1) := by decide +kernel
theorem dX1_firstClash_1 : decode cX1_firstClash 1 = .ok (.istore_n 2, 1) := by decide +kernel
theorem dX1_firstClash_2 : decode cX1_firstClash 2 = .ok (.iload_n 2, 1) := by decide +kernel
theorem dX1_firstClash_3 : decode cX1_firstClash 3 = .ok (.aload_n 0, 1) := by decide +kernel
theorem dX1_firstClash_4 : decode cX1_firstClash 4 = .ok (.getfield 32, 3) := by decide +kernel
theorem dX1_firstClash_7 : decode cX1_firstClash 7 = .ok (.if_icmp .ge 108, 3) := by decide +kernel
theorem dX1_firstClash_10 : decode cX1_firstClash 10 = .ok (.iconst 0, 1) := by decide +kernel
theorem dX1_firstClash_11 : decode cX1_firstClash 11 = .ok (.istore_n 3, 1) := by decide +kernel
theorem dX1_firstClash_12 : decode cX1_firstClash 12 = .ok (.iload_n 3, 1) := by decide +kernel
theorem dX1_firstClash_13 : decode cX1_firstClash 13 = .ok (.aload_n 0, 1) := by decide +kernel
theorem dX1_firstClash_14 : decode cX1_firstClash 14 = .ok (.getfield 32, 3) := by decide +kernel
theorem dX1_firstClash_17 : decode cX1_firstClash 17 = .ok (.if_icmp .ge 92, 3) := by decide +kernel
theorem dX1_firstClash_20 : decode cX1_firstClash 20 = .ok (.aload_n 0, 1) := by decide +kernel
theorem dX1_firstClash_21 : decode cX1_firstClash 21 = .ok (.aload_n 0, 1) := by decide +kernel
theorem dX1_firstClash_22 : decode cX1_firstClash 22 = .ok (.iload_n 2, 1) := by decide +kernel
theorem dX1_firstClash_23 : decode cX1_firstClash 23 = .ok (.invokevirtual 42, 3) := by decide +kernel
theorem dX1_firstClash_26 : decode cX1_firstClash 26 = .ok (.aload_n 0, 1) := by decide +kernel
theorem dX1_firstClash_27 : decode cX1_firstClash 27 = .ok (.iload_n 3, 1) := by decide +kernel
theorem dX1_firstClash_28 : decode cX1_firstClash 28 = .ok (.invokevirtual 42, 3) := by decide +kernel
theorem dX1_firstClash_31 : decode cX1_firstClash 31 = .ok (.invokevirtual 95, 3) := by decide +kernel
theorem dX1_firstClash_34 : decode cX1_firstClash 34 = .ok (.istore 4, 2) := by decide +kernel
theorem dX1_firstClash_36 : decode cX1_firstClash 36 = .ok (.iload 4, 2) := by decide +kernel
theorem dX1_firstClash_38 : decode cX1_firstClash 38 = .ok (.ifCond .le 65, 3) := by decide +kernel
theorem dX1_firstClash_41 : decode cX1_firstClash 41 = .ok (.iload_n 1, 1) := by decide +kernel
theorem dX1_firstClash_42 : decode cX1_firstClash 42 = .ok (.tableswitch 41 0 2 #[26, 32, 38], 26) := by decide +kernel
theorem dX1_firstClash_68 : decode cX1_firstClash 68 = .ok (.aload_n 0, 1) := by decide +kernel
theorem dX1_firstClash_69 : decode cX1_firstClash 69 = .ok (.iload_n 2, 1) := by decide +kernel
theorem dX1_firstClash_70 : decode cX1_firstClash 70 = .ok (.invokevirtual 42, 3) := by decide +kernel
theorem dX1_firstClash_73 : decode cX1_firstClash 73 = .ok (.ireturn, 1) := by decide +kernel
theorem dX1_firstClash_74 : decode cX1_firstClash 74 = .ok (.aload_n 0, 1) := by decide +kernel
theorem dX1_firstClash_75 : decode cX1_firstClash 75 = .ok (.iload_n 3, 1) := by decide +kernel
theorem dX1_firstClash_76 : decode cX1_firstClash 76 = .ok (.invokevirtual 42, 3) := by decide +kernel
theorem dX1_firstClash_79 : decode cX1_firstClash 79 = .ok (.ireturn, 1) := by decide +kernel
theorem dX1_firstClash_80 : decode cX1_firstClash 80 = .ok (.iload 4, 2) := by decide +kernel
theorem dX1_firstClash_82 : decode cX1_firstClash 82 = .ok (.ireturn, 1) := by decide +kernel
theorem dX1_firstClash_83 : decode cX1_firstClash 83 = .ok (.aload_n 0, 1) := by decide +kernel
theorem dX1_firstClash_84 : decode cX1_firstClash 84 = .ok (.getfield 9, 3) := by decide +kernel
theorem dX1_firstClash_87 : decode cX1_firstClash 87 = .ok (.aload_n 0, 1) := by decide +kernel
theorem dX1_firstClash_88 : decode cX1_firstClash 88 = .ok (.iload_n 2, 1) := by decide +kernel
theorem dX1_firstClash_89 : decode cX1_firstClash 89 = .ok (.invokevirtual 42, 3) := by decide +kernel
theorem dX1_firstClash_92 : decode cX1_firstClash 92 = .ok (.aload_n 0, 1) := by decide +kernel
theorem dX1_firstClash_93 : decode cX1_firstClash 93 = .ok (.iload_n 3, 1) := by decide +kernel
theorem dX1_firstClash_94 : decode cX1_firstClash 94 = .ok (.invokevirtual 42, 3) := by decide +kernel
theorem dX1_firstClash_97 : decode cX1_firstClash 97 = .ok (.iload 4, 2) := by decide +kernel
theorem dX1_firstClash_99 : decode cX1_firstClash 99 = .ok (.invokevirtual 98, 3) := by decide +kernel
theorem dX1_firstClash_102 : decode cX1_firstClash 102 = .ok (.ireturn, 1) := by decide +kernel
theorem dX1_firstClash_103 : decode cX1_firstClash 103 = .ok (.iinc 3 1, 3) := by decide +kernel
theorem dX1_firstClash_106 : decode cX1_firstClash 106 = .ok (.goto (-94), 3) := by decide +kernel
theorem dX1_firstClash_109 : decode cX1_firstClash 109 = .ok (.iinc 2 1, 3) := by decide +kernel
theorem dX1_firstClash_112 : decode cX1_firstClash 112 = .ok (.goto (-110), 3) := by decide +kernel
theorem dX1_firstClash_115 : decode cX1_firstClash 115 = .ok (.bipush (-5), 2) := by decide +kernel
theorem dX1_firstClash_117 : decode cX1_firstClash 117 = .ok (.ireturn, 1) := by decide +kernel
set_option maxRecDepth 20000 in
theorem ggX1_firstHiding_X0_across : GoodIn wsX1_firstHiding wsX0_across := goodIn_r _ [6, 7, 8, 9, 10, 5, 11, 12, 13, 14, 15, 16, 17, 18, 19, 20, 21, 22, 23, 24, 25, 26, 27, 41, 42, 43, 44] (by decide +kernel) (by decide +kernel)
set_option maxRecDepth 20000 in
theorem gX1_firstHiding_X0_across : GoodIn wsX1_firstHiding (wsV RX1 98 RX0 yX0_across wsX0_across) := goodIn_app (goodIn_of _ (by decide +kernel)) ggX1_firstHiding_X0_across
set_option maxRecDepth 20000 in
theorem ggX1_firstHiding_X1_holds : GoodIn wsX1_firstHiding wsX1_holds := goodIn_r _ [32, 33, 34, 35, 36, 37, 38, 39, 40] (by decide +kernel) (by decide +kernel)
set_option maxRecDepth 20000 in
theorem gX1_firstHiding_X1_holds : GoodIn wsX1_firstHiding (wsV RX1 58 RX1 yX1_holds wsX1_holds) := goodIn_app (goodIn_of _ (by decide +kernel)) ggX1_firstHiding_X1_holds
theorem dX1_firstHiding_0 : decode cX1_firstHiding 0 = .ok (.iconst 1, 1) := by decide +kernel
theorem dX1_firstHiding_1 : decode cX1_firstHiding 1 = .ok (.istore_n 3, 1) := by decide +kernel
theorem dX1_firstHiding_2 : decode cX1_firstHiding 2 = .ok (.iload_n 3, 1) := by decide +kernel
theorem dX1_firstHiding_3 : decode cX1_firstHiding 3 = .ok (.aload_n 0, 1) := by decide +kernel
theorem dX1_firstHiding_4 : decode cX1_firstHiding 4 = .ok (.getfield 9, 3) := by decide +kernel
theorem dX1_firstHiding_7 : decode cX1_firstHiding 7 = .ok (.getfield 75, 3) := by decide +kernel
theorem dX1_firstHiding_10 : decode cX1_firstHiding 10 = .ok (.if_icmp .ge 28, 3) := by decide +kernel
theorem dX1_firstHiding_13 : decode cX1_firstHiding 13 = .ok (.aload_n 0, 1) := by decide +kernel
theorem dX1_firstHiding_14 : decode cX1_firstHiding 14 = .ok (.aload_n 0, 1) := by decide +kernel
theorem dX1_firstHiding_15 : decode cX1_firstHiding 15 = .ok (.getfield 9, 3) := by decide +kernel
theorem dX1_firstHiding_18 : decode cX1_firstHiding 18 = .ok (.iload_n 1, 1) := by decide +kernel
theorem dX1_firstHiding_19 : decode cX1_firstHiding 19 = .ok (.iload_n 2, 1) := by decide +kernel
theorem dX1_firstHiding_20 : decode cX1_firstHiding 20 = .ok (.iload_n 3, 1) := by decide +kernel
theorem dX1_firstHiding_21 : decode cX1_firstHiding 21 = .ok (.invokevirtual 98, 3) := by decide +kernel
theorem dX1_firstHiding_24 : decode cX1_firstHiding 24 = .ok (.invokevirtual 58, 3) := by decide +kernel
theorem dX1_firstHiding_27 : decode cX1_firstHiding 27 = .ok (.ifCond .eq 5, 3) := by decide +kernel
theorem dX1_firstHiding_30 : decode cX1_firstHiding 30 = .ok (.iload_n 3, 1) := by decide +kernel
theorem dX1_firstHiding_31 : decode cX1_firstHiding 31 = .ok (.ireturn, 1) := by decide +kernel
theorem dX1_firstHiding_32 : decode cX1_firstHiding 32 = .ok (.iinc 3 1, 3) := by decide +kernel
theorem dX1_firstHiding_35 : decode cX1_firstHiding 35 = .ok (.goto (-33), 3) := by decide +kernel
theorem dX1_firstHiding_38 : decode cX1_firstHiding 38 = .ok (.iconst 0, 1) := by decide +kernel
theorem dX1_firstHiding_39 : decode cX1_firstHiding 39 = .ok (.ireturn, 1) := by decide +kernel
set_option maxRecDepth 20000 in
theorem ggX1_exchange_X1_nth : GoodIn wsX1_exchange wsX1_nth := goodIn_r _ [8, 9, 10, 11, 12, 13, 81, 82, 83, 84, 85, 86, 87] (by decide +kernel) (by decide +kernel)
set_option maxRecDepth 20000 in
theorem gX1_exchange_X1_nth : GoodIn wsX1_exchange (wsV RX1 42 RX1 yX1_nth wsX1_nth) := goodIn_app (goodIn_of _ (by decide +kernel)) ggX1_exchange_X1_nth
set_option maxRecDepth 20000 in
theorem ggX1_exchange_X0_exchanged : GoodIn wsX1_exchange wsX0_exchanged := goodIn_r _ [18, 19, 20, 21, 22, 23, 24, 17, 25, 26, 27, 28, 29, 30, 31, 32, 12, 33, 34, 35, 36, 37, 11, 13, 88, 89, 90, 91] (by decide +kernel) (by decide +kernel)
set_option maxRecDepth 20000 in
theorem gX1_exchange_X0_exchanged : GoodIn wsX1_exchange (wsV RX1 102 RX0 yX0_exchanged wsX0_exchanged) := goodIn_app (goodIn_of _ (by decide +kernel)) ggX1_exchange_X0_exchanged
set_option maxRecDepth 20000 in
theorem ggX1_exchange_X1_empty : GoodIn wsX1_exchange wsX1_empty := goodIn_r _ [41, 1, 42, 43, 4, 5, 6, 7, 8, 9, 10, 11, 12, 13, 44, 45, 46, 47, 48, 49, 50, 51, 81, 82, 83, 84, 85, 86, 87] (by decide +kernel) (by decide +kernel)
set_option maxRecDepth 20000 in
theorem gX1_exchange_X1_empty : GoodIn wsX1_exchange (wsV RX1 105 RX1 yX1_empty wsX1_empty) := goodIn_app (goodIn_of _ (by decide +kernel)) ggX1_exchange_X1_empty
set_option maxRecDepth 20000 in
theorem ggX1_exchange_X1_include : GoodIn wsX1_exchange wsX1_include := goodIn_r _ [55, 3, 1, 9, 56, 57, 58, 17, 59, 60, 61, 62, 63, 7, 64, 48, 4, 5, 6, 8, 10, 11, 12, 13, 65, 66, 67, 44, 45, 46, 47, 68, 69, 70, 71, 42, 43, 72, 27, 28, 29, 30, 73, 74, 75, 76, 20, 26, 31, 32, 33, 77, 78, 79, 80, 34, 35, 36, 81, 82, 83, 84, 85, 86, 87, 88, 89, 90, 91] (by decide +kernel) (by decide +kernel)
set_option maxRecDepth 20000 in
theorem gX1_exchange_X1_include : GoodIn wsX1_exchange (wsV RX1 108 RX1 yX1_include wsX1_include) := goodIn_app (goodIn_of _ (by decide +kernel)) ggX1_exchange_X1_include
theorem dX1_exchange_0 : decode cX1_exchange 0 = .ok (.aload_n 0, 1) := by decide +kernel
theorem dX1_exchange_1 : decode cX1_exchange 1 = .ok (.getfield 32, 3) := by decide +kernel
theorem dX1_exchange_4 : decode cX1_exchange 4 = .ok (.istore_n 2, 1) := by decide +kernel
theorem dX1_exchange_5 : decode cX1_exchange 5 = .ok (.iconst 0, 1) := by decide +kernel
theorem dX1_exchange_6 : decode cX1_exchange 6 = .ok (.istore_n 3, 1) := by decide +kernel
theorem dX1_exchange_7 : decode cX1_exchange 7 = .ok (.iload_n 3, 1) := by decide +kernel
theorem dX1_exchange_8 : decode cX1_exchange 8 = .ok (.iload_n 2, 1) := by decide +kernel
theorem dX1_exchange_9 : decode cX1_exchange 9 = .ok (.if_icmp .ge 37, 3) := by decide +kernel
theorem dX1_exchange_12 : decode cX1_exchange 12 = .ok (.iload_n 3, 1) := by decide +kernel
theorem dX1_exchange_13 : decode cX1_exchange 13 = .ok (.aload_n 0, 1) := by decide +kernel
theorem dX1_exchange_14 : decode cX1_exchange 14 = .ok (.getfield 23, 3) := by decide +kernel
theorem dX1_exchange_17 : decode cX1_exchange 17 = .ok (.arraylength, 1) := by decide +kernel
theorem dX1_exchange_18 : decode cX1_exchange 18 = .ok (.if_icmp .ge 28, 3) := by decide +kernel
theorem dX1_exchange_21 : decode cX1_exchange 21 = .ok (.aload_n 0, 1) := by decide +kernel
theorem dX1_exchange_22 : decode cX1_exchange 22 = .ok (.getfield 23, 3) := by decide +kernel
theorem dX1_exchange_25 : decode cX1_exchange 25 = .ok (.iload_n 3, 1) := by decide +kernel
theorem dX1_exchange_26 : decode cX1_exchange 26 = .ok (.aload_n 0, 1) := by decide +kernel
theorem dX1_exchange_27 : decode cX1_exchange 27 = .ok (.getfield 9, 3) := by decide +kernel
theorem dX1_exchange_30 : decode cX1_exchange 30 = .ok (.iload_n 1, 1) := by decide +kernel
theorem dX1_exchange_31 : decode cX1_exchange 31 = .ok (.aload_n 0, 1) := by decide +kernel
theorem dX1_exchange_32 : decode cX1_exchange 32 = .ok (.iload_n 3, 1) := by decide +kernel
theorem dX1_exchange_33 : decode cX1_exchange 33 = .ok (.invokevirtual 42, 3) := by decide +kernel
theorem dX1_exchange_36 : decode cX1_exchange 36 = .ok (.invokevirtual 102, 3) := by decide +kernel
theorem dX1_exchange_39 : decode cX1_exchange 39 = .ok (.iastore, 1) := by decide +kernel
theorem dX1_exchange_40 : decode cX1_exchange 40 = .ok (.iinc 3 1, 3) := by decide +kernel
theorem dX1_exchange_43 : decode cX1_exchange 43 = .ok (.goto (-36), 3) := by decide +kernel
theorem dX1_exchange_46 : decode cX1_exchange 46 = .ok (.aload_n 0, 1) := by decide +kernel
theorem dX1_exchange_47 : decode cX1_exchange 47 = .ok (.invokevirtual 105, 3) := by decide +kernel
theorem dX1_exchange_50 : decode cX1_exchange 50 = .ok (.iconst 0, 1) := by decide +kernel
theorem dX1_exchange_51 : decode cX1_exchange 51 = .ok (.istore_n 3, 1) := by decide +kernel
theorem dX1_exchange_52 : decode cX1_exchange 52 = .ok (.iload_n 3, 1) := by decide +kernel
theorem dX1_exchange_53 : decode cX1_exchange 53 = .ok (.iload_n 2, 1) := by decide +kernel
theorem dX1_exchange_54 : decode cX1_exchange 54 = .ok (.if_icmp .ge 29, 3) := by decide +kernel
theorem dX1_exchange_57 : decode cX1_exchange 57 = .ok (.iload_n 3, 1) := by decide +kernel
theorem dX1_exchange_58 : decode cX1_exchange 58 = .ok (.aload_n 0, 1) := by decide +kernel
theorem dX1_exchange_59 : decode cX1_exchange 59 = .ok (.getfield 23, 3) := by decide +kernel
theorem dX1_exchange_62 : decode cX1_exchange 62 = .ok (.arraylength, 1) := by decide +kernel
theorem dX1_exchange_63 : decode cX1_exchange 63 = .ok (.if_icmp .ge 20, 3) := by decide +kernel
theorem dX1_exchange_66 : decode cX1_exchange 66 = .ok (.aload_n 0, 1) := by decide +kernel
theorem dX1_exchange_67 : decode cX1_exchange 67 = .ok (.aload_n 0, 1) := by decide +kernel
theorem dX1_exchange_68 : decode cX1_exchange 68 = .ok (.getfield 23, 3) := by decide +kernel
theorem dX1_exchange_71 : decode cX1_exchange 71 = .ok (.iload_n 3, 1) := by decide +kernel
theorem dX1_exchange_72 : decode cX1_exchange 72 = .ok (.iaload, 1) := by decide +kernel
theorem dX1_exchange_73 : decode cX1_exchange 73 = .ok (.invokevirtual 108, 3) := by decide +kernel
theorem dX1_exchange_76 : decode cX1_exchange 76 = .ok (.pop, 1) := by decide +kernel
theorem dX1_exchange_77 : decode cX1_exchange 77 = .ok (.iinc 3 1, 3) := by decide +kernel
theorem dX1_exchange_80 : decode cX1_exchange 80 = .ok (.goto (-28), 3) := by decide +kernel
theorem dX1_exchange_83 : decode cX1_exchange 83 = .ok (.return_, 1) := by decide +kernel
set_option maxRecDepth 20000 in
theorem ggX1_isKeptBy_X1_nth : GoodIn wsX1_isKeptBy wsX1_nth := goodIn_r _ [7, 8, 9, 10, 11, 12, 42, 43, 44, 45, 46, 47, 48] (by decide +kernel) (by decide +kernel)
set_option maxRecDepth 20000 in
theorem gX1_isKeptBy_X1_nth : GoodIn wsX1_isKeptBy (wsV RX1 42 RX1 yX1_nth wsX1_nth) := goodIn_app (goodIn_of _ (by decide +kernel)) ggX1_isKeptBy_X1_nth
set_option maxRecDepth 20000 in
theorem ggX1_isKeptBy_X0_exchanged : GoodIn wsX1_isKeptBy wsX0_exchanged := goodIn_r _ [17, 18, 19, 20, 21, 22, 23, 16, 24, 25, 26, 27, 28, 29, 30, 31, 11, 32, 33, 34, 35, 36, 10, 12, 49, 50, 51, 52] (by decide +kernel) (by decide +kernel)
set_option maxRecDepth 20000 in
theorem gX1_isKeptBy_X0_exchanged : GoodIn wsX1_isKeptBy (wsV RX1 102 RX0 yX0_exchanged wsX0_exchanged) := goodIn_app (goodIn_of _ (by decide +kernel)) ggX1_isKeptBy_X0_exchanged
set_option maxRecDepth 20000 in
theorem ggX1_isKeptBy_X1_holds : GoodIn wsX1_isKeptBy wsX1_holds := goodIn_r _ [40, 41, 42, 43, 44, 45, 46, 47, 48] (by decide +kernel) (by decide +kernel)
set_option maxRecDepth 20000 in
theorem gX1_isKeptBy_X1_holds : GoodIn wsX1_isKeptBy (wsV RX1 58 RX1 yX1_holds wsX1_holds) := goodIn_app (goodIn_of _ (by decide +kernel)) ggX1_isKeptBy_X1_holds
theorem dX1_isKeptBy_0 : decode cX1_isKeptBy 0 = .ok (.iconst 0, 1) := by decide +kernel
theorem dX1_isKeptBy_1 : decode cX1_isKeptBy 1 = .ok (.istore_n 2, 1) := by decide +kernel
theorem dX1_isKeptBy_2 : decode cX1_isKeptBy 2 = .ok (.iload_n 2, 1) := by decide +kernel
theorem dX1_isKeptBy_3 : decode cX1_isKeptBy 3 = .ok (.aload_n 0, 1) := by decide +kernel
theorem dX1_isKeptBy_4 : decode cX1_isKeptBy 4 = .ok (.getfield 32, 3) := by decide +kernel
theorem dX1_isKeptBy_7 : decode cX1_isKeptBy 7 = .ok (.if_icmp .ge 31, 3) := by decide +kernel
theorem dX1_isKeptBy_10 : decode cX1_isKeptBy 10 = .ok (.aload_n 0, 1) := by decide +kernel
theorem dX1_isKeptBy_11 : decode cX1_isKeptBy 11 = .ok (.aload_n 0, 1) := by decide +kernel
theorem dX1_isKeptBy_12 : decode cX1_isKeptBy 12 = .ok (.getfield 9, 3) := by decide +kernel
theorem dX1_isKeptBy_15 : decode cX1_isKeptBy 15 = .ok (.iload_n 1, 1) := by decide +kernel
theorem dX1_isKeptBy_16 : decode cX1_isKeptBy 16 = .ok (.aload_n 0, 1) := by decide +kernel
theorem dX1_isKeptBy_17 : decode cX1_isKeptBy 17 = .ok (.iload_n 2, 1) := by decide +kernel
theorem dX1_isKeptBy_18 : decode cX1_isKeptBy 18 = .ok (.invokevirtual 42, 3) := by decide +kernel
theorem dX1_isKeptBy_21 : decode cX1_isKeptBy 21 = .ok (.invokevirtual 102, 3) := by decide +kernel
theorem dX1_isKeptBy_24 : decode cX1_isKeptBy 24 = .ok (.invokevirtual 58, 3) := by decide +kernel
theorem dX1_isKeptBy_27 : decode cX1_isKeptBy 27 = .ok (.ifCond .ne 5, 3) := by decide +kernel
theorem dX1_isKeptBy_30 : decode cX1_isKeptBy 30 = .ok (.iconst 0, 1) := by decide +kernel
theorem dX1_isKeptBy_31 : decode cX1_isKeptBy 31 = .ok (.ireturn, 1) := by decide +kernel
theorem dX1_isKeptBy_32 : decode cX1_isKeptBy 32 = .ok (.iinc 2 1, 3) := by decide +kernel
theorem dX1_isKeptBy_35 : decode cX1_isKeptBy 35 = .ok (.goto (-33), 3) := by decide +kernel
theorem dX1_isKeptBy_38 : decode cX1_isKeptBy 38 = .ok (.iconst 1, 1) := by decide +kernel
theorem dX1_isKeptBy_39 : decode cX1_isKeptBy 39 = .ok (.ireturn, 1) := by decide +kernel
set_option maxRecDepth 20000 in
theorem ggX1_fits_X0_power : GoodIn wsX1_fits wsX0_power := goodIn_r _ [7, 8, 32, 33, 34, 35] (by decide +kernel) (by decide +kernel)
set_option maxRecDepth 20000 in
theorem gX1_fits_X0_power : GoodIn wsX1_fits (wsV RX1 78 RX0 yX0_power wsX0_power) := goodIn_app (goodIn_of _ (by decide +kernel)) ggX1_fits_X0_power
set_option maxRecDepth 20000 in
theorem ggX1_fits_X1_nth : GoodIn wsX1_fits wsX1_nth := goodIn_r _ [13, 14, 15, 16, 17, 18, 25, 26, 27, 28, 29, 30, 31] (by decide +kernel) (by decide +kernel)
set_option maxRecDepth 20000 in
theorem gX1_fits_X1_nth : GoodIn wsX1_fits (wsV RX1 42 RX1 yX1_nth wsX1_nth) := goodIn_app (goodIn_of _ (by decide +kernel)) ggX1_fits_X1_nth
set_option maxRecDepth 20000 in
theorem ggX1_fits_X8_over : GoodIn wsX1_fits wsX8_over := goodIn_r _ [21] (by decide +kernel) (by decide +kernel)
set_option maxRecDepth 20000 in
theorem gX1_fits_X8_over : GoodIn wsX1_fits (va_wsS RX1 111 yX8_over wsX8_over) := goodIn_app (goodIn_of _ (by decide +kernel)) ggX1_fits_X8_over
set_option maxRecDepth 20000 in
theorem ggX1_fits_X8_rest : GoodIn wsX1_fits wsX8_rest := goodIn_r _ [24] (by decide +kernel) (by decide +kernel)
set_option maxRecDepth 20000 in
theorem gX1_fits_X8_rest : GoodIn wsX1_fits (va_wsS RX1 114 yX8_rest wsX8_rest) := goodIn_app (goodIn_of _ (by decide +kernel)) ggX1_fits_X8_rest
theorem dX1_fits_0 : decode cX1_fits 0 = .ok (.aload_n 0, 1) := by decide +kernel
theorem dX1_fits_1 : decode cX1_fits 1 = .ok (.getfield 9, 3) := by decide +kernel
theorem dX1_fits_4 : decode cX1_fits 4 = .ok (.aload_n 0, 1) := by decide +kernel
theorem dX1_fits_5 : decode cX1_fits 5 = .ok (.getfield 9, 3) := by decide +kernel
theorem dX1_fits_8 : decode cX1_fits 8 = .ok (.getfield 75, 3) := by decide +kernel
theorem dX1_fits_11 : decode cX1_fits 11 = .ok (.iconst 1, 1) := by decide +kernel
theorem dX1_fits_12 : decode cX1_fits 12 = .ok (.isub, 1) := by decide +kernel
theorem dX1_fits_13 : decode cX1_fits 13 = .ok (.iload_n 3, 1) := by decide +kernel
theorem dX1_fits_14 : decode cX1_fits 14 = .ok (.isub, 1) := by decide +kernel
theorem dX1_fits_15 : decode cX1_fits 15 = .ok (.invokevirtual 78, 3) := by decide +kernel
theorem dX1_fits_18 : decode cX1_fits 18 = .ok (.istore 4, 2) := by decide +kernel
theorem dX1_fits_20 : decode cX1_fits 20 = .ok (.aload_n 0, 1) := by decide +kernel
theorem dX1_fits_21 : decode cX1_fits 21 = .ok (.getfield 9, 3) := by decide +kernel
theorem dX1_fits_24 : decode cX1_fits 24 = .ok (.iload_n 2, 1) := by decide +kernel
theorem dX1_fits_25 : decode cX1_fits 25 = .ok (.invokevirtual 78, 3) := by decide +kernel
theorem dX1_fits_28 : decode cX1_fits 28 = .ok (.istore 5, 2) := by decide +kernel
theorem dX1_fits_30 : decode cX1_fits 30 = .ok (.iconst 0, 1) := by decide +kernel
theorem dX1_fits_31 : decode cX1_fits 31 = .ok (.istore 6, 2) := by decide +kernel
theorem dX1_fits_33 : decode cX1_fits 33 = .ok (.iload 6, 2) := by decide +kernel
theorem dX1_fits_35 : decode cX1_fits 35 = .ok (.aload_n 0, 1) := by decide +kernel
theorem dX1_fits_36 : decode cX1_fits 36 = .ok (.getfield 32, 3) := by decide +kernel
theorem dX1_fits_39 : decode cX1_fits 39 = .ok (.if_icmp .ge 31, 3) := by decide +kernel
theorem dX1_fits_42 : decode cX1_fits 42 = .ok (.aload_n 0, 1) := by decide +kernel
theorem dX1_fits_43 : decode cX1_fits 43 = .ok (.iload 6, 2) := by decide +kernel
theorem dX1_fits_45 : decode cX1_fits 45 = .ok (.invokevirtual 42, 3) := by decide +kernel
theorem dX1_fits_48 : decode cX1_fits 48 = .ok (.iload 4, 2) := by decide +kernel
theorem dX1_fits_50 : decode cX1_fits 50 = .ok (.invokestatic 111, 3) := by decide +kernel
theorem dX1_fits_53 : decode cX1_fits 53 = .ok (.iload 5, 2) := by decide +kernel
theorem dX1_fits_55 : decode cX1_fits 55 = .ok (.invokestatic 114, 3) := by decide +kernel
theorem dX1_fits_58 : decode cX1_fits 58 = .ok (.iload_n 1, 1) := by decide +kernel
theorem dX1_fits_59 : decode cX1_fits 59 = .ok (.if_icmp .ne 5, 3) := by decide +kernel
theorem dX1_fits_62 : decode cX1_fits 62 = .ok (.iconst 1, 1) := by decide +kernel
theorem dX1_fits_63 : decode cX1_fits 63 = .ok (.ireturn, 1) := by decide +kernel
theorem dX1_fits_64 : decode cX1_fits 64 = .ok (.iinc 6 1, 3) := by decide +kernel
theorem dX1_fits_67 : decode cX1_fits 67 = .ok (.goto (-34), 3) := by decide +kernel
theorem dX1_fits_70 : decode cX1_fits 70 = .ok (.iconst 0, 1) := by decide +kernel
theorem dX1_fits_71 : decode cX1_fits 71 = .ok (.ireturn, 1) := by decide +kernel
set_option maxRecDepth 20000 in
theorem ggX1_draw_X1_empty : GoodIn wsX1_draw wsX1_empty := goodIn_r _ [7, 8, 9, 10, 11, 12, 13, 6, 14, 15, 16, 17, 18, 19, 20, 21, 22, 23, 24, 25, 26, 27, 71, 72, 73, 74, 75, 76, 77] (by decide +kernel) (by decide +kernel)
set_option maxRecDepth 20000 in
theorem gX1_draw_X1_empty : GoodIn wsX1_draw (wsV RX1 105 RX1 yX1_empty wsX1_empty) := goodIn_app (goodIn_of _ (by decide +kernel)) ggX1_draw_X1_empty
set_option maxRecDepth 20000 in
theorem ggX1_draw_X8_rest : GoodIn wsX1_draw wsX8_rest := goodIn_r _ [30] (by decide +kernel) (by decide +kernel)
set_option maxRecDepth 20000 in
theorem gX1_draw_X8_rest : GoodIn wsX1_draw (va_wsS RX1 114 yX8_rest wsX8_rest) := goodIn_app (goodIn_of _ (by decide +kernel)) ggX1_draw_X8_rest
set_option maxRecDepth 20000 in
theorem ggX1_draw_X1_include : GoodIn wsX1_draw wsX1_include := goodIn_r _ [34, 2, 8, 15, 35, 36, 37, 38, 39, 40, 41, 42, 43, 6, 44, 24, 11, 12, 13, 14, 16, 17, 18, 19, 45, 46, 47, 20, 21, 22, 23, 48, 49, 50, 51, 9, 10, 52, 53, 54, 55, 56, 57, 58, 59, 60, 61, 62, 63, 64, 65, 66, 67, 68, 69, 70, 29, 30, 71, 72, 73, 74, 75, 76, 77, 78, 79, 80, 81] (by decide +kernel) (by decide +kernel)
set_option maxRecDepth 20000 in
theorem gX1_draw_X1_include : GoodIn wsX1_draw (wsV RX1 108 RX1 yX1_include wsX1_include) := goodIn_app (goodIn_of _ (by decide +kernel)) ggX1_draw_X1_include
theorem dX1_draw_0 : decode cX1_draw 0 = .ok (.aload_n 0, 1) := by decide +kernel
theorem dX1_draw_1 : decode cX1_draw 1 = .ok (.invokevirtual 105, 3) := by decide +kernel
theorem dX1_draw_4 : decode cX1_draw 4 = .ok (.iload_n 2, 1) := by decide +kernel
theorem dX1_draw_5 : decode cX1_draw 5 = .ok (.istore_n 3, 1) := by decide +kernel
theorem dX1_draw_6 : decode cX1_draw 6 = .ok (.iconst 0, 1) := by decide +kernel
theorem dX1_draw_7 : decode cX1_draw 7 = .ok (.istore 4, 2) := by decide +kernel
theorem dX1_draw_9 : decode cX1_draw 9 = .ok (.iload 4, 2) := by decide +kernel
theorem dX1_draw_11 : decode cX1_draw 11 = .ok (.iload_n 1, 1) := by decide +kernel
theorem dX1_draw_12 : decode cX1_draw 12 = .ok (.if_icmp .ge 37, 3) := by decide +kernel
theorem dX1_draw_15 : decode cX1_draw 15 = .ok (.iload_n 3, 1) := by decide +kernel
theorem dX1_draw_16 : decode cX1_draw 16 = .ok (.ldc 117, 2) := by decide +kernel
theorem dX1_draw_18 : decode cX1_draw 18 = .ok (.imul, 1) := by decide +kernel
theorem dX1_draw_19 : decode cX1_draw 19 = .ok (.sipush 12345, 3) := by decide +kernel
theorem dX1_draw_22 : decode cX1_draw 22 = .ok (.iadd, 1) := by decide +kernel
theorem dX1_draw_23 : decode cX1_draw 23 = .ok (.istore_n 3, 1) := by decide +kernel
theorem dX1_draw_24 : decode cX1_draw 24 = .ok (.aload_n 0, 1) := by decide +kernel
theorem dX1_draw_25 : decode cX1_draw 25 = .ok (.iload_n 3, 1) := by decide +kernel
theorem dX1_draw_26 : decode cX1_draw 26 = .ok (.bipush 16, 2) := by decide +kernel
theorem dX1_draw_28 : decode cX1_draw 28 = .ok (.iushr, 1) := by decide +kernel
theorem dX1_draw_29 : decode cX1_draw 29 = .ok (.aload_n 0, 1) := by decide +kernel
theorem dX1_draw_30 : decode cX1_draw 30 = .ok (.getfield 9, 3) := by decide +kernel
theorem dX1_draw_33 : decode cX1_draw 33 = .ok (.getfield 118, 3) := by decide +kernel
theorem dX1_draw_36 : decode cX1_draw 36 = .ok (.invokestatic 114, 3) := by decide +kernel
theorem dX1_draw_39 : decode cX1_draw 39 = .ok (.invokevirtual 108, 3) := by decide +kernel
theorem dX1_draw_42 : decode cX1_draw 42 = .ok (.pop, 1) := by decide +kernel
theorem dX1_draw_43 : decode cX1_draw 43 = .ok (.iinc 4 1, 3) := by decide +kernel
theorem dX1_draw_46 : decode cX1_draw 46 = .ok (.goto (-37), 3) := by decide +kernel
theorem dX1_draw_49 : decode cX1_draw 49 = .ok (.return_, 1) := by decide +kernel
set_option maxRecDepth 20000 in
theorem ggX2_init_X0_init : GoodIn wsX2_init wsX0_init := goodIn_r _ [22, 23, 2, 3, 24, 25, 26, 27, 28, 6, 29, 30, 31, 32, 33, 34, 35, 36, 65, 66, 67, 68] (by decide +kernel) (by decide +kernel)
set_option maxRecDepth 20000 in
theorem gX2_init_X0_init : GoodIn wsX2_init (wsX0_init) := ggX2_init_X0_init
set_option maxRecDepth 20000 in
theorem ggX2_init_X1_init : GoodIn wsX2_init wsX1_init := goodIn_r _ [39, 40, 2, 3, 41, 24, 42, 43, 44, 45, 46, 47, 48, 73, 74, 75, 76, 77, 78, 79] (by decide +kernel) (by decide +kernel)
set_option maxRecDepth 20000 in
theorem gX2_init_X1_init : GoodIn wsX2_init (wsX1_init) := ggX2_init_X1_init
set_option maxRecDepth 20000 in
theorem ggX2_init_X9_init : GoodIn wsX2_init wsX9_init := goodIn_r _ [51, 52, 2, 3, 53, 24, 54, 55, 56, 80, 81, 82, 83] (by decide +kernel) (by decide +kernel)
set_option maxRecDepth 20000 in
theorem gX2_init_X9_init : GoodIn wsX2_init (wsX9_init) := ggX2_init_X9_init
set_option maxRecDepth 20000 in
theorem ggX2_init_X7_init : GoodIn wsX2_init wsX7_init := goodIn_r _ [59, 60, 2, 3, 61, 24, 62, 63, 64, 84, 85, 86, 87] (by decide +kernel) (by decide +kernel)
set_option maxRecDepth 20000 in
theorem gX2_init_X7_init : GoodIn wsX2_init (wsX7_init) := ggX2_init_X7_init
theorem dX2_init_0 : decode cX2_init 0 = .ok (.aload_n 0, 1) := by decide +kernel
theorem dX2_init_1 : decode cX2_init 1 = .ok (.invokespecial 1, 3) := by decide +kernel
theorem dX2_init_4 : decode cX2_init 4 = .ok (.aload_n 0, 1) := by decide +kernel
theorem dX2_init_5 : decode cX2_init 5 = .ok (.new 7, 3) := by decide +kernel
theorem dX2_init_8 : decode cX2_init 8 = .ok (.dup, 1) := by decide +kernel
theorem dX2_init_9 : decode cX2_init 9 = .ok (.invokespecial 9, 3) := by decide +kernel
theorem dX2_init_12 : decode cX2_init 12 = .ok (.putfield 10, 3) := by decide +kernel
theorem dX2_init_15 : decode cX2_init 15 = .ok (.aload_n 0, 1) := by decide +kernel
theorem dX2_init_16 : decode cX2_init 16 = .ok (.new 16, 3) := by decide +kernel
theorem dX2_init_19 : decode cX2_init 19 = .ok (.dup, 1) := by decide +kernel
theorem dX2_init_20 : decode cX2_init 20 = .ok (.aload_n 0, 1) := by decide +kernel
theorem dX2_init_21 : decode cX2_init 21 = .ok (.getfield 10, 3) := by decide +kernel
theorem dX2_init_24 : decode cX2_init 24 = .ok (.invokespecial 18, 3) := by decide +kernel
theorem dX2_init_27 : decode cX2_init 27 = .ok (.putfield 21, 3) := by decide +kernel
theorem dX2_init_30 : decode cX2_init 30 = .ok (.aload_n 0, 1) := by decide +kernel
theorem dX2_init_31 : decode cX2_init 31 = .ok (.new 25, 3) := by decide +kernel
theorem dX2_init_34 : decode cX2_init 34 = .ok (.dup, 1) := by decide +kernel
theorem dX2_init_35 : decode cX2_init 35 = .ok (.aload_n 0, 1) := by decide +kernel
theorem dX2_init_36 : decode cX2_init 36 = .ok (.getfield 10, 3) := by decide +kernel
theorem dX2_init_39 : decode cX2_init 39 = .ok (.invokespecial 27, 3) := by decide +kernel
theorem dX2_init_42 : decode cX2_init 42 = .ok (.putfield 28, 3) := by decide +kernel
theorem dX2_init_45 : decode cX2_init 45 = .ok (.aload_n 0, 1) := by decide +kernel
theorem dX2_init_46 : decode cX2_init 46 = .ok (.new 32, 3) := by decide +kernel
theorem dX2_init_49 : decode cX2_init 49 = .ok (.dup, 1) := by decide +kernel
theorem dX2_init_50 : decode cX2_init 50 = .ok (.aload_n 0, 1) := by decide +kernel
theorem dX2_init_51 : decode cX2_init 51 = .ok (.getfield 10, 3) := by decide +kernel
theorem dX2_init_54 : decode cX2_init 54 = .ok (.invokespecial 34, 3) := by decide +kernel
theorem dX2_init_57 : decode cX2_init 57 = .ok (.putfield 35, 3) := by decide +kernel
theorem dX2_init_60 : decode cX2_init 60 = .ok (.return_, 1) := by decide +kernel
set_option maxRecDepth 20000 in
theorem ggX2_beginAnew_X0_become : GoodIn wsX2_beginAnew wsX0_become := goodIn_r _ [9, 10, 11, 12, 13, 14, 15, 16, 8, 17, 59, 60, 61, 62] (by decide +kernel) (by decide +kernel)
set_option maxRecDepth 20000 in
theorem gX2_beginAnew_X0_become : GoodIn wsX2_beginAnew (wsV RX2 39 RX0 yX0_become wsX0_become) := goodIn_app (goodIn_of _ (by decide +kernel)) ggX2_beginAnew_X0_become
set_option maxRecDepth 20000 in
theorem ggX2_beginAnew_X1_empty : GoodIn wsX2_beginAnew wsX1_empty := goodIn_r _ [22, 23, 24, 25, 26, 27, 28, 21, 29, 30, 31, 32, 33, 34, 35, 36, 37, 38, 39, 40, 41, 42, 63, 64, 65, 66, 67, 68, 69] (by decide +kernel) (by decide +kernel)
set_option maxRecDepth 20000 in
theorem gX2_beginAnew_X1_empty : GoodIn wsX2_beginAnew (wsV RX2 43 RX1 yX1_empty wsX1_empty) := goodIn_app (goodIn_of _ (by decide +kernel)) ggX2_beginAnew_X1_empty
set_option maxRecDepth 20000 in
theorem ggX2_beginAnew_X9_empty : GoodIn wsX2_beginAnew wsX9_empty := goodIn_r _ [47, 48, 70, 71, 72, 73] (by decide +kernel) (by decide +kernel)
set_option maxRecDepth 20000 in
theorem gX2_beginAnew_X9_empty : GoodIn wsX2_beginAnew (wsV RX2 46 RX9 yX9_empty wsX9_empty) := goodIn_app (goodIn_of _ (by decide +kernel)) ggX2_beginAnew_X9_empty
set_option maxRecDepth 20000 in
theorem ggX2_beginAnew_X7_empty : GoodIn wsX2_beginAnew wsX7_empty := goodIn_r _ [53, 54, 74, 75, 76, 77] (by decide +kernel) (by decide +kernel)
set_option maxRecDepth 20000 in
theorem gX2_beginAnew_X7_empty : GoodIn wsX2_beginAnew (wsV RX2 47 RX7 yX7_empty wsX7_empty) := goodIn_app (goodIn_of _ (by decide +kernel)) ggX2_beginAnew_X7_empty
theorem dX2_beginAnew_0 : decode cX2_beginAnew 0 = .ok (.aload_n 0, 1) := by decide +kernel
theorem dX2_beginAnew_1 : decode cX2_beginAnew 1 = .ok (.getfield 10, 3) := by decide +kernel
theorem dX2_beginAnew_4 : decode cX2_beginAnew 4 = .ok (.iload_n 1, 1) := by decide +kernel
theorem dX2_beginAnew_5 : decode cX2_beginAnew 5 = .ok (.iload_n 2, 1) := by decide +kernel
theorem dX2_beginAnew_6 : decode cX2_beginAnew 6 = .ok (.invokevirtual 39, 3) := by decide +kernel
theorem dX2_beginAnew_9 : decode cX2_beginAnew 9 = .ok (.aload_n 0, 1) := by decide +kernel
theorem dX2_beginAnew_10 : decode cX2_beginAnew 10 = .ok (.getfield 21, 3) := by decide +kernel
theorem dX2_beginAnew_13 : decode cX2_beginAnew 13 = .ok (.invokevirtual 43, 3) := by decide +kernel
theorem dX2_beginAnew_16 : decode cX2_beginAnew 16 = .ok (.aload_n 0, 1) := by decide +kernel
theorem dX2_beginAnew_17 : decode cX2_beginAnew 17 = .ok (.getfield 28, 3) := by decide +kernel
theorem dX2_beginAnew_20 : decode cX2_beginAnew 20 = .ok (.invokevirtual 46, 3) := by decide +kernel
theorem dX2_beginAnew_23 : decode cX2_beginAnew 23 = .ok (.aload_n 0, 1) := by decide +kernel
theorem dX2_beginAnew_24 : decode cX2_beginAnew 24 = .ok (.getfield 35, 3) := by decide +kernel
theorem dX2_beginAnew_27 : decode cX2_beginAnew 27 = .ok (.invokevirtual 47, 3) := by decide +kernel
theorem dX2_beginAnew_30 : decode cX2_beginAnew 30 = .ok (.return_, 1) := by decide +kernel
set_option maxRecDepth 20000 in
theorem ggX2_copyFrom_X0_become : GoodIn wsX2_copyFrom wsX0_become := goodIn_r _ [9, 10, 11, 12, 13, 14, 15, 16, 8, 17, 57, 58, 59, 60] (by decide +kernel) (by decide +kernel)
set_option maxRecDepth 20000 in
theorem gX2_copyFrom_X0_become : GoodIn wsX2_copyFrom (wsV RX2 39 RX0 yX0_become wsX0_become) := goodIn_app (goodIn_of _ (by decide +kernel)) ggX2_copyFrom_X0_become
set_option maxRecDepth 20000 in
theorem ggX2_copyFrom_X1_copyFrom : GoodIn wsX2_copyFrom wsX1_copyFrom := goodIn_r _ [22, 23, 24, 25, 26, 27, 28, 29, 30, 31, 32, 33, 34, 21, 35, 61, 62, 63, 64, 65, 66, 67] (by decide +kernel) (by decide +kernel)
set_option maxRecDepth 20000 in
theorem gX2_copyFrom_X1_copyFrom : GoodIn wsX2_copyFrom (wsV RX2 55 RX1 yX1_copyFrom wsX1_copyFrom) := goodIn_app (goodIn_of _ (by decide +kernel)) ggX2_copyFrom_X1_copyFrom
set_option maxRecDepth 20000 in
theorem ggX2_copyFrom_X9_copyFrom : GoodIn wsX2_copyFrom wsX9_copyFrom := goodIn_r _ [40, 41, 42, 43, 29, 30, 31, 68, 69, 70, 71] (by decide +kernel) (by decide +kernel)
set_option maxRecDepth 20000 in
theorem gX2_copyFrom_X9_copyFrom : GoodIn wsX2_copyFrom (wsV RX2 59 RX9 yX9_copyFrom wsX9_copyFrom) := goodIn_app (goodIn_of _ (by decide +kernel)) ggX2_copyFrom_X9_copyFrom
set_option maxRecDepth 20000 in
theorem ggX2_copyFrom_X7_copyFrom : GoodIn wsX2_copyFrom wsX7_copyFrom := goodIn_r _ [48, 49, 50, 51, 52, 29, 30, 31, 72, 73, 74, 75] (by decide +kernel) (by decide +kernel)
set_option maxRecDepth 20000 in
theorem gX2_copyFrom_X7_copyFrom : GoodIn wsX2_copyFrom (wsV RX2 62 RX7 yX7_copyFrom wsX7_copyFrom) := goodIn_app (goodIn_of _ (by decide +kernel)) ggX2_copyFrom_X7_copyFrom
theorem dX2_copyFrom_0 : decode cX2_copyFrom 0 = .ok (.aload_n 0, 1) := by decide +kernel
theorem dX2_copyFrom_1 : decode cX2_copyFrom 1 = .ok (.getfield 10, 3) := by decide +kernel
theorem dX2_copyFrom_4 : decode cX2_copyFrom 4 = .ok (.aload_n 1, 1) := by decide +kernel
theorem dX2_copyFrom_5 : decode cX2_copyFrom 5 = .ok (.getfield 10, 3) := by decide +kernel
theorem dX2_copyFrom_8 : decode cX2_copyFrom 8 = .ok (.getfield 48, 3) := by decide +kernel
theorem dX2_copyFrom_11 : decode cX2_copyFrom 11 = .ok (.aload_n 1, 1) := by decide +kernel
theorem dX2_copyFrom_12 : decode cX2_copyFrom 12 = .ok (.getfield 10, 3) := by decide +kernel
theorem dX2_copyFrom_15 : decode cX2_copyFrom 15 = .ok (.getfield 52, 3) := by decide +kernel
theorem dX2_copyFrom_18 : decode cX2_copyFrom 18 = .ok (.invokevirtual 39, 3) := by decide +kernel
theorem dX2_copyFrom_21 : decode cX2_copyFrom 21 = .ok (.aload_n 0, 1) := by decide +kernel
theorem dX2_copyFrom_22 : decode cX2_copyFrom 22 = .ok (.getfield 21, 3) := by decide +kernel
theorem dX2_copyFrom_25 : decode cX2_copyFrom 25 = .ok (.aload_n 1, 1) := by decide +kernel
theorem dX2_copyFrom_26 : decode cX2_copyFrom 26 = .ok (.getfield 21, 3) := by decide +kernel
theorem dX2_copyFrom_29 : decode cX2_copyFrom 29 = .ok (.invokevirtual 55, 3) := by decide +kernel
theorem dX2_copyFrom_32 : decode cX2_copyFrom 32 = .ok (.aload_n 0, 1) := by decide +kernel
theorem dX2_copyFrom_33 : decode cX2_copyFrom 33 = .ok (.getfield 28, 3) := by decide +kernel
theorem dX2_copyFrom_36 : decode cX2_copyFrom 36 = .ok (.aload_n 1, 1) := by decide +kernel
theorem dX2_copyFrom_37 : decode cX2_copyFrom 37 = .ok (.getfield 28, 3) := by decide +kernel
theorem dX2_copyFrom_40 : decode cX2_copyFrom 40 = .ok (.invokevirtual 59, 3) := by decide +kernel
theorem dX2_copyFrom_43 : decode cX2_copyFrom 43 = .ok (.aload_n 0, 1) := by decide +kernel
theorem dX2_copyFrom_44 : decode cX2_copyFrom 44 = .ok (.getfield 35, 3) := by decide +kernel
theorem dX2_copyFrom_47 : decode cX2_copyFrom 47 = .ok (.aload_n 1, 1) := by decide +kernel
theorem dX2_copyFrom_48 : decode cX2_copyFrom 48 = .ok (.getfield 35, 3) := by decide +kernel
theorem dX2_copyFrom_51 : decode cX2_copyFrom 51 = .ok (.invokevirtual 62, 3) := by decide +kernel
theorem dX2_copyFrom_54 : decode cX2_copyFrom 54 = .ok (.return_, 1) := by decide +kernel
set_option maxRecDepth 20000 in
theorem ggX3_ends_X3_endsFor : GoodIn wsX3_ends wsX3_endsFor := goodIn_r _ [8, 9, 10, 7, 11, 12, 13, 3, 14, 15, 16, 17, 18, 19, 20, 21, 22, 23, 24, 25, 26, 27, 28, 29, 30, 31, 32, 33, 34, 35, 36, 37, 38, 39, 40, 41, 42, 43, 44, 45, 46, 47, 48, 49, 50, 51, 52, 53, 54, 55, 56, 57, 58] (by decide +kernel) (by decide +kernel)
set_option maxRecDepth 20000 in
theorem gX3_ends_X3_endsFor : GoodIn wsX3_ends (va_wsS RX3 23 yX3_endsFor wsX3_endsFor) := goodIn_app (goodIn_of _ (by decide +kernel)) ggX3_ends_X3_endsFor
theorem dX3_ends_0 : decode cX3_ends 0 = .ok (.iconst 1, 1) := by decide +kernel
theorem dX3_ends_1 : decode cX3_ends 1 = .ok (.istore_n 1, 1) := by decide +kernel
theorem dX3_ends_2 : decode cX3_ends 2 = .ok (.iconst 0, 1) := by decide +kernel
theorem dX3_ends_3 : decode cX3_ends 3 = .ok (.istore_n 2, 1) := by decide +kernel
theorem dX3_ends_4 : decode cX3_ends 4 = .ok (.iload_n 2, 1) := by decide +kernel
theorem dX3_ends_5 : decode cX3_ends 5 = .ok (.aload_n 0, 1) := by decide +kernel
theorem dX3_ends_6 : decode cX3_ends 6 = .ok (.getfield 9, 3) := by decide +kernel
theorem dX3_ends_9 : decode cX3_ends 9 = .ok (.getfield 15, 3) := by decide +kernel
theorem dX3_ends_12 : decode cX3_ends 12 = .ok (.if_icmp .ge 47, 3) := by decide +kernel
theorem dX3_ends_15 : decode cX3_ends 15 = .ok (.iload_n 2, 1) := by decide +kernel
theorem dX3_ends_16 : decode cX3_ends 16 = .ok (.iconst 1, 1) := by decide +kernel
theorem dX3_ends_17 : decode cX3_ends 17 = .ok (.iadd, 1) := by decide +kernel
theorem dX3_ends_18 : decode cX3_ends 18 = .ok (.istore_n 3, 1) := by decide +kernel
theorem dX3_ends_19 : decode cX3_ends 19 = .ok (.iload_n 3, 1) := by decide +kernel
theorem dX3_ends_20 : decode cX3_ends 20 = .ok (.aload_n 0, 1) := by decide +kernel
theorem dX3_ends_21 : decode cX3_ends 21 = .ok (.getfield 9, 3) := by decide +kernel
theorem dX3_ends_24 : decode cX3_ends 24 = .ok (.getfield 15, 3) := by decide +kernel
theorem dX3_ends_27 : decode cX3_ends 27 = .ok (.if_icmp .ge 26, 3) := by decide +kernel
theorem dX3_ends_30 : decode cX3_ends 30 = .ok (.iload_n 1, 1) := by decide +kernel
theorem dX3_ends_31 : decode cX3_ends 31 = .ok (.bipush 12, 2) := by decide +kernel
theorem dX3_ends_33 : decode cX3_ends 33 = .ok (.if_icmp .gt 20, 3) := by decide +kernel
theorem dX3_ends_36 : decode cX3_ends 36 = .ok (.iload_n 1, 1) := by decide +kernel
theorem dX3_ends_37 : decode cX3_ends 37 = .ok (.aload_n 0, 1) := by decide +kernel
theorem dX3_ends_38 : decode cX3_ends 38 = .ok (.iload_n 2, 1) := by decide +kernel
theorem dX3_ends_39 : decode cX3_ends 39 = .ok (.iload_n 3, 1) := by decide +kernel
theorem dX3_ends_40 : decode cX3_ends 40 = .ok (.invokestatic 23, 3) := by decide +kernel
theorem dX3_ends_43 : decode cX3_ends 43 = .ok (.invokestatic 27, 3) := by decide +kernel
theorem dX3_ends_46 : decode cX3_ends 46 = .ok (.istore_n 1, 1) := by decide +kernel
theorem dX3_ends_47 : decode cX3_ends 47 = .ok (.iinc 3 1, 3) := by decide +kernel
theorem dX3_ends_50 : decode cX3_ends 50 = .ok (.goto (-31), 3) := by decide +kernel
theorem dX3_ends_53 : decode cX3_ends 53 = .ok (.iinc 2 1, 3) := by decide +kernel
theorem dX3_ends_56 : decode cX3_ends 56 = .ok (.goto (-52), 3) := by decide +kernel
theorem dX3_ends_59 : decode cX3_ends 59 = .ok (.iload_n 1, 1) := by decide +kernel
theorem dX3_ends_60 : decode cX3_ends 60 = .ok (.bipush 12, 2) := by decide +kernel
theorem dX3_ends_62 : decode cX3_ends 62 = .ok (.if_icmp .le 8, 3) := by decide +kernel
theorem dX3_ends_65 : decode cX3_ends 65 = .ok (.bipush (-5), 2) := by decide +kernel
theorem dX3_ends_67 : decode cX3_ends 67 = .ok (.goto 4, 3) := by decide +kernel
theorem dX3_ends_70 : decode cX3_ends 70 = .ok (.iload_n 1, 1) := by decide +kernel
theorem dX3_ends_71 : decode cX3_ends 71 = .ok (.ireturn, 1) := by decide +kernel
set_option maxRecDepth 20000 in
theorem ggX3_endsFor_X3_tailsBehind : GoodIn wsX3_endsFor wsX3_tailsBehind := goodIn_r _ [4, 5, 6, 7, 8, 9, 10, 11, 12, 13, 14, 15, 16, 3, 17, 18, 19, 20, 21, 22, 23, 24, 25, 26, 27, 28, 29, 30, 31, 32, 33, 34, 35, 36, 37, 38, 39, 40, 41, 42, 43, 44, 45, 46, 47, 48, 49, 50, 51, 52] (by decide +kernel) (by decide +kernel)
set_option maxRecDepth 20000 in
theorem gX3_endsFor_X3_tailsBehind : GoodIn wsX3_endsFor (va_wsS RX3 33 yX3_tailsBehind wsX3_tailsBehind) := goodIn_app (goodIn_of _ (by decide +kernel)) ggX3_endsFor_X3_tailsBehind
theorem dX3_endsFor_0 : decode cX3_endsFor 0 = .ok (.iconst 1, 1) := by decide +kernel
theorem dX3_endsFor_1 : decode cX3_endsFor 1 = .ok (.istore_n 3, 1) := by decide +kernel
theorem dX3_endsFor_2 : decode cX3_endsFor 2 = .ok (.iconst 0, 1) := by decide +kernel
theorem dX3_endsFor_3 : decode cX3_endsFor 3 = .ok (.istore 4, 2) := by decide +kernel
theorem dX3_endsFor_5 : decode cX3_endsFor 5 = .ok (.iload 4, 2) := by decide +kernel
theorem dX3_endsFor_7 : decode cX3_endsFor 7 = .ok (.bipush 12, 2) := by decide +kernel
theorem dX3_endsFor_9 : decode cX3_endsFor 9 = .ok (.if_icmp .ge 28, 3) := by decide +kernel
theorem dX3_endsFor_12 : decode cX3_endsFor 12 = .ok (.aload_n 0, 1) := by decide +kernel
theorem dX3_endsFor_13 : decode cX3_endsFor 13 = .ok (.iload_n 3, 1) := by decide +kernel
theorem dX3_endsFor_14 : decode cX3_endsFor 14 = .ok (.iload 4, 2) := by decide +kernel
theorem dX3_endsFor_16 : decode cX3_endsFor 16 = .ok (.iload_n 1, 1) := by decide +kernel
theorem dX3_endsFor_17 : decode cX3_endsFor 17 = .ok (.iload_n 2, 1) := by decide +kernel
theorem dX3_endsFor_18 : decode cX3_endsFor 18 = .ok (.invokestatic 33, 3) := by decide +kernel
theorem dX3_endsFor_21 : decode cX3_endsFor 21 = .ok (.istore_n 3, 1) := by decide +kernel
theorem dX3_endsFor_22 : decode cX3_endsFor 22 = .ok (.iload_n 3, 1) := by decide +kernel
theorem dX3_endsFor_23 : decode cX3_endsFor 23 = .ok (.ifCond .ne 8, 3) := by decide +kernel
theorem dX3_endsFor_26 : decode cX3_endsFor 26 = .ok (.iload 4, 2) := by decide +kernel
theorem dX3_endsFor_28 : decode cX3_endsFor 28 = .ok (.iconst 1, 1) := by decide +kernel
theorem dX3_endsFor_29 : decode cX3_endsFor 29 = .ok (.iadd, 1) := by decide +kernel
theorem dX3_endsFor_30 : decode cX3_endsFor 30 = .ok (.ireturn, 1) := by decide +kernel
theorem dX3_endsFor_31 : decode cX3_endsFor 31 = .ok (.iinc 4 1, 3) := by decide +kernel
theorem dX3_endsFor_34 : decode cX3_endsFor 34 = .ok (.goto (-29), 3) := by decide +kernel
theorem dX3_endsFor_37 : decode cX3_endsFor 37 = .ok (.bipush 13, 2) := by decide +kernel
theorem dX3_endsFor_39 : decode cX3_endsFor 39 = .ok (.ireturn, 1) := by decide +kernel
set_option maxRecDepth 20000 in
theorem ggX3_tailsBehind_X0_power : GoodIn wsX3_tailsBehind wsX0_power := goodIn_r _ [9, 10, 46, 47, 48, 49] (by decide +kernel) (by decide +kernel)
set_option maxRecDepth 20000 in
theorem gX3_tailsBehind_X0_power : GoodIn wsX3_tailsBehind (wsV RX3 40 RX0 yX0_power wsX0_power) := goodIn_app (goodIn_of _ (by decide +kernel)) ggX3_tailsBehind_X0_power
set_option maxRecDepth 20000 in
theorem ggX3_tailsBehind_X3_stands : GoodIn wsX3_tailsBehind wsX3_stands := goodIn_r _ [14, 1, 2, 3, 4, 15, 16, 17, 18, 5, 6, 7, 8, 9, 10, 19, 20, 21, 22, 23, 24, 25, 26, 27, 28, 29, 30, 31, 32, 33, 34, 35, 36, 37, 38, 39, 40, 41, 42, 43, 44, 45, 46, 47, 48, 49] (by decide +kernel) (by decide +kernel)
set_option maxRecDepth 20000 in
theorem gX3_tailsBehind_X3_stands : GoodIn wsX3_tailsBehind (va_wsS RX3 47 yX3_stands wsX3_stands) := goodIn_app (goodIn_of _ (by decide +kernel)) ggX3_tailsBehind_X3_stands
set_option maxRecDepth 20000 in
theorem ggX3_tailsBehind_X8_rest : GoodIn wsX3_tailsBehind wsX8_rest := goodIn_r _ [18] (by decide +kernel) (by decide +kernel)
set_option maxRecDepth 20000 in
theorem gX3_tailsBehind_X8_rest : GoodIn wsX3_tailsBehind (va_wsS RX3 51 yX8_rest wsX8_rest) := goodIn_app (goodIn_of _ (by decide +kernel)) ggX3_tailsBehind_X8_rest
theorem dX3_tailsBehind_0 : decode cX3_tailsBehind 0 = .ok (.aload_n 0, 1) := by decide +kernel
theorem dX3_tailsBehind_1 : decode cX3_tailsBehind 1 = .ok (.getfield 9, 3) := by decide +kernel
theorem dX3_tailsBehind_4 : decode cX3_tailsBehind 4 = .ok (.astore 5, 2) := by decide +kernel
theorem dX3_tailsBehind_6 : decode cX3_tailsBehind 6 = .ok (.aload 5, 2) := by decide +kernel
theorem dX3_tailsBehind_8 : decode cX3_tailsBehind 8 = .ok (.getfield 15, 3) := by decide +kernel
theorem dX3_tailsBehind_11 : decode cX3_tailsBehind 11 = .ok (.iconst 1, 1) := by decide +kernel
theorem dX3_tailsBehind_12 : decode cX3_tailsBehind 12 = .ok (.isub, 1) := by decide +kernel
theorem dX3_tailsBehind_13 : decode cX3_tailsBehind 13 = .ok (.istore 6, 2) := by decide +kernel
theorem dX3_tailsBehind_15 : decode cX3_tailsBehind 15 = .ok (.aload 5, 2) := by decide +kernel
theorem dX3_tailsBehind_17 : decode cX3_tailsBehind 17 = .ok (.iload_n 2, 1) := by decide +kernel
theorem dX3_tailsBehind_18 : decode cX3_tailsBehind 18 = .ok (.iload 6, 2) := by decide +kernel
theorem dX3_tailsBehind_20 : decode cX3_tailsBehind 20 = .ok (.invokestatic 37, 3) := by decide +kernel
theorem dX3_tailsBehind_23 : decode cX3_tailsBehind 23 = .ok (.invokevirtual 40, 3) := by decide +kernel
theorem dX3_tailsBehind_26 : decode cX3_tailsBehind 26 = .ok (.istore 7, 2) := by decide +kernel
theorem dX3_tailsBehind_28 : decode cX3_tailsBehind 28 = .ok (.aload 5, 2) := by decide +kernel
theorem dX3_tailsBehind_30 : decode cX3_tailsBehind 30 = .ok (.iload_n 2, 1) := by decide +kernel
theorem dX3_tailsBehind_31 : decode cX3_tailsBehind 31 = .ok (.iconst 1, 1) := by decide +kernel
theorem dX3_tailsBehind_32 : decode cX3_tailsBehind 32 = .ok (.iadd, 1) := by decide +kernel
theorem dX3_tailsBehind_33 : decode cX3_tailsBehind 33 = .ok (.iload 6, 2) := by decide +kernel
theorem dX3_tailsBehind_35 : decode cX3_tailsBehind 35 = .ok (.invokestatic 37, 3) := by decide +kernel
theorem dX3_tailsBehind_38 : decode cX3_tailsBehind 38 = .ok (.invokevirtual 40, 3) := by decide +kernel
theorem dX3_tailsBehind_41 : decode cX3_tailsBehind 41 = .ok (.istore 8, 2) := by decide +kernel
theorem dX3_tailsBehind_43 : decode cX3_tailsBehind 43 = .ok (.iconst 0, 1) := by decide +kernel
theorem dX3_tailsBehind_44 : decode cX3_tailsBehind 44 = .ok (.istore 9, 2) := by decide +kernel
theorem dX3_tailsBehind_46 : decode cX3_tailsBehind 46 = .ok (.iconst 0, 1) := by decide +kernel
theorem dX3_tailsBehind_47 : decode cX3_tailsBehind 47 = .ok (.istore 10, 2) := by decide +kernel
theorem dX3_tailsBehind_49 : decode cX3_tailsBehind 49 = .ok (.iload 10, 2) := by decide +kernel
theorem dX3_tailsBehind_51 : decode cX3_tailsBehind 51 = .ok (.iload 7, 2) := by decide +kernel
theorem dX3_tailsBehind_53 : decode cX3_tailsBehind 53 = .ok (.if_icmp .ge 90, 3) := by decide +kernel
theorem dX3_tailsBehind_56 : decode cX3_tailsBehind 56 = .ok (.iload_n 1, 1) := by decide +kernel
theorem dX3_tailsBehind_57 : decode cX3_tailsBehind 57 = .ok (.iload 10, 2) := by decide +kernel
theorem dX3_tailsBehind_59 : decode cX3_tailsBehind 59 = .ok (.iushr, 1) := by decide +kernel
theorem dX3_tailsBehind_60 : decode cX3_tailsBehind 60 = .ok (.iconst 1, 1) := by decide +kernel
theorem dX3_tailsBehind_61 : decode cX3_tailsBehind 61 = .ok (.iand, 1) := by decide +kernel
theorem dX3_tailsBehind_62 : decode cX3_tailsBehind 62 = .ok (.ifCond .ne 6, 3) := by decide +kernel
theorem dX3_tailsBehind_65 : decode cX3_tailsBehind 65 = .ok (.goto 72, 3) := by decide +kernel
theorem dX3_tailsBehind_68 : decode cX3_tailsBehind 68 = .ok (.iconst 0, 1) := by decide +kernel
theorem dX3_tailsBehind_69 : decode cX3_tailsBehind 69 = .ok (.istore 11, 2) := by decide +kernel
theorem dX3_tailsBehind_71 : decode cX3_tailsBehind 71 = .ok (.iload 11, 2) := by decide +kernel
theorem dX3_tailsBehind_73 : decode cX3_tailsBehind 73 = .ok (.aload 5, 2) := by decide +kernel
theorem dX3_tailsBehind_75 : decode cX3_tailsBehind 75 = .ok (.getfield 44, 3) := by decide +kernel
theorem dX3_tailsBehind_78 : decode cX3_tailsBehind 78 = .ok (.if_icmp .ge 59, 3) := by decide +kernel
theorem dX3_tailsBehind_81 : decode cX3_tailsBehind 81 = .ok (.iload 10, 2) := by decide +kernel
theorem dX3_tailsBehind_83 : decode cX3_tailsBehind 83 = .ok (.aload 5, 2) := by decide +kernel
theorem dX3_tailsBehind_85 : decode cX3_tailsBehind 85 = .ok (.getfield 44, 3) := by decide +kernel
theorem dX3_tailsBehind_88 : decode cX3_tailsBehind 88 = .ok (.imul, 1) := by decide +kernel
theorem dX3_tailsBehind_89 : decode cX3_tailsBehind 89 = .ok (.iload 11, 2) := by decide +kernel
theorem dX3_tailsBehind_91 : decode cX3_tailsBehind 91 = .ok (.iadd, 1) := by decide +kernel
theorem dX3_tailsBehind_92 : decode cX3_tailsBehind 92 = .ok (.istore 12, 2) := by decide +kernel
theorem dX3_tailsBehind_94 : decode cX3_tailsBehind 94 = .ok (.aload_n 0, 1) := by decide +kernel
theorem dX3_tailsBehind_95 : decode cX3_tailsBehind 95 = .ok (.iload 12, 2) := by decide +kernel
theorem dX3_tailsBehind_97 : decode cX3_tailsBehind 97 = .ok (.iload_n 2, 1) := by decide +kernel
theorem dX3_tailsBehind_98 : decode cX3_tailsBehind 98 = .ok (.iload_n 3, 1) := by decide +kernel
theorem dX3_tailsBehind_99 : decode cX3_tailsBehind 99 = .ok (.invokestatic 47, 3) := by decide +kernel
theorem dX3_tailsBehind_102 : decode cX3_tailsBehind 102 = .ok (.ifCond .eq 29, 3) := by decide +kernel
theorem dX3_tailsBehind_105 : decode cX3_tailsBehind 105 = .ok (.aload_n 0, 1) := by decide +kernel
theorem dX3_tailsBehind_106 : decode cX3_tailsBehind 106 = .ok (.iload 12, 2) := by decide +kernel
theorem dX3_tailsBehind_108 : decode cX3_tailsBehind 108 = .ok (.iload_n 2, 1) := by decide +kernel
theorem dX3_tailsBehind_109 : decode cX3_tailsBehind 109 = .ok (.iload 4, 2) := by decide +kernel
theorem dX3_tailsBehind_111 : decode cX3_tailsBehind 111 = .ok (.invokestatic 47, 3) := by decide +kernel
theorem dX3_tailsBehind_114 : decode cX3_tailsBehind 114 = .ok (.ifCond .eq 17, 3) := by decide +kernel
theorem dX3_tailsBehind_117 : decode cX3_tailsBehind 117 = .ok (.iload 9, 2) := by decide +kernel
theorem dX3_tailsBehind_119 : decode cX3_tailsBehind 119 = .ok (.iconst 1, 1) := by decide +kernel
theorem dX3_tailsBehind_120 : decode cX3_tailsBehind 120 = .ok (.iload 12, 2) := by decide +kernel
theorem dX3_tailsBehind_122 : decode cX3_tailsBehind 122 = .ok (.iload 8, 2) := by decide +kernel
theorem dX3_tailsBehind_124 : decode cX3_tailsBehind 124 = .ok (.invokestatic 51, 3) := by decide +kernel
theorem dX3_tailsBehind_127 : decode cX3_tailsBehind 127 = .ok (.ishl, 1) := by decide +kernel
theorem dX3_tailsBehind_128 : decode cX3_tailsBehind 128 = .ok (.ior, 1) := by decide +kernel
theorem dX3_tailsBehind_129 : decode cX3_tailsBehind 129 = .ok (.istore 9, 2) := by decide +kernel
theorem dX3_tailsBehind_131 : decode cX3_tailsBehind 131 = .ok (.iinc 11 1, 3) := by decide +kernel
theorem dX3_tailsBehind_134 : decode cX3_tailsBehind 134 = .ok (.goto (-63), 3) := by decide +kernel
theorem dX3_tailsBehind_137 : decode cX3_tailsBehind 137 = .ok (.iinc 10 1, 3) := by decide +kernel
theorem dX3_tailsBehind_140 : decode cX3_tailsBehind 140 = .ok (.goto (-91), 3) := by decide +kernel
theorem dX3_tailsBehind_143 : decode cX3_tailsBehind 143 = .ok (.iload 9, 2) := by decide +kernel
theorem dX3_tailsBehind_145 : decode cX3_tailsBehind 145 = .ok (.ireturn, 1) := by decide +kernel
set_option maxRecDepth 20000 in
theorem ggX3_stands_X8_rest : GoodIn wsX3_stands wsX8_rest := goodIn_r _ [8] (by decide +kernel) (by decide +kernel)
set_option maxRecDepth 20000 in
theorem gX3_stands_X8_rest : GoodIn wsX3_stands (va_wsS RX3 51 yX8_rest wsX8_rest) := goodIn_app (goodIn_of _ (by decide +kernel)) ggX3_stands_X8_rest
set_option maxRecDepth 20000 in
theorem ggX3_stands_X0_power : GoodIn wsX3_stands wsX0_power := goodIn_r _ [13, 14, 42, 43, 44, 45] (by decide +kernel) (by decide +kernel)
set_option maxRecDepth 20000 in
theorem gX3_stands_X0_power : GoodIn wsX3_stands (wsV RX3 40 RX0 yX0_power wsX0_power) := goodIn_app (goodIn_of _ (by decide +kernel)) ggX3_stands_X0_power
set_option maxRecDepth 20000 in
theorem ggX3_stands_X1_fits : GoodIn wsX3_stands wsX1_fits := goodIn_r _ [19, 20, 21, 22, 10, 11, 12, 13, 14, 23, 24, 25, 18, 26, 27, 28, 29, 7, 30, 31, 32, 33, 34, 6, 8, 35, 36, 37, 38, 39, 40, 41, 42, 43, 44, 45] (by decide +kernel) (by decide +kernel)
set_option maxRecDepth 20000 in
theorem gX3_stands_X1_fits : GoodIn wsX3_stands (wsV RX3 56 RX1 yX1_fits wsX1_fits) := goodIn_app (goodIn_of _ (by decide +kernel)) ggX3_stands_X1_fits
theorem dX3_stands_0 : decode cX3_stands 0 = .ok (.aload_n 0, 1) := by decide +kernel
theorem dX3_stands_1 : decode cX3_stands 1 = .ok (.getfield 9, 3) := by decide +kernel
theorem dX3_stands_4 : decode cX3_stands 4 = .ok (.astore 4, 2) := by decide +kernel
theorem dX3_stands_6 : decode cX3_stands 6 = .ok (.iload_n 2, 1) := by decide +kernel
theorem dX3_stands_7 : decode cX3_stands 7 = .ok (.iload_n 3, 1) := by decide +kernel
theorem dX3_stands_8 : decode cX3_stands 8 = .ok (.isub, 1) := by decide +kernel
theorem dX3_stands_9 : decode cX3_stands 9 = .ok (.aload 4, 2) := by decide +kernel
theorem dX3_stands_11 : decode cX3_stands 11 = .ok (.getfield 15, 3) := by decide +kernel
theorem dX3_stands_14 : decode cX3_stands 14 = .ok (.iadd, 1) := by decide +kernel
theorem dX3_stands_15 : decode cX3_stands 15 = .ok (.aload 4, 2) := by decide +kernel
theorem dX3_stands_17 : decode cX3_stands 17 = .ok (.getfield 15, 3) := by decide +kernel
theorem dX3_stands_20 : decode cX3_stands 20 = .ok (.invokestatic 51, 3) := by decide +kernel
theorem dX3_stands_23 : decode cX3_stands 23 = .ok (.istore 5, 2) := by decide +kernel
theorem dX3_stands_25 : decode cX3_stands 25 = .ok (.iload 5, 2) := by decide +kernel
theorem dX3_stands_27 : decode cX3_stands 27 = .ok (.iload_n 2, 1) := by decide +kernel
theorem dX3_stands_28 : decode cX3_stands 28 = .ok (.invokestatic 37, 3) := by decide +kernel
theorem dX3_stands_31 : decode cX3_stands 31 = .ok (.iconst 1, 1) := by decide +kernel
theorem dX3_stands_32 : decode cX3_stands 32 = .ok (.iadd, 1) := by decide +kernel
theorem dX3_stands_33 : decode cX3_stands 33 = .ok (.istore 6, 2) := by decide +kernel
theorem dX3_stands_35 : decode cX3_stands 35 = .ok (.aload_n 0, 1) := by decide +kernel
theorem dX3_stands_36 : decode cX3_stands 36 = .ok (.iload_n 1, 1) := by decide +kernel
theorem dX3_stands_37 : decode cX3_stands 37 = .ok (.aload 4, 2) := by decide +kernel
theorem dX3_stands_39 : decode cX3_stands 39 = .ok (.iload 6, 2) := by decide +kernel
theorem dX3_stands_41 : decode cX3_stands 41 = .ok (.invokevirtual 40, 3) := by decide +kernel
theorem dX3_stands_44 : decode cX3_stands 44 = .ok (.invokestatic 51, 3) := by decide +kernel
theorem dX3_stands_47 : decode cX3_stands 47 = .ok (.iload 6, 2) := by decide +kernel
theorem dX3_stands_49 : decode cX3_stands 49 = .ok (.iload 5, 2) := by decide +kernel
theorem dX3_stands_51 : decode cX3_stands 51 = .ok (.invokevirtual 56, 3) := by decide +kernel
theorem dX3_stands_54 : decode cX3_stands 54 = .ok (.ireturn, 1) := by decide +kernel
theorem dX4_init_0 : decode cX4_init 0 = .ok (.aload_n 0, 1) := by decide +kernel
theorem dX4_init_1 : decode cX4_init 1 = .ok (.invokespecial 3, 3) := by decide +kernel
theorem dX4_init_4 : decode cX4_init 4 = .ok (.aload_n 0, 1) := by decide +kernel
theorem dX4_init_5 : decode cX4_init 5 = .ok (.aload_n 1, 1) := by decide +kernel
theorem dX4_init_6 : decode cX4_init 6 = .ok (.putfield 9, 3) := by decide +kernel
theorem dX4_init_9 : decode cX4_init 9 = .ok (.aload_n 0, 1) := by decide +kernel
theorem dX4_init_10 : decode cX4_init 10 = .ok (.aload_n 2, 1) := by decide +kernel
theorem dX4_init_11 : decode cX4_init 11 = .ok (.putfield 15, 3) := by decide +kernel
theorem dX4_init_14 : decode cX4_init 14 = .ok (.aload_n 0, 1) := by decide +kernel
theorem dX4_init_15 : decode cX4_init 15 = .ok (.bipush 32, 2) := by decide +kernel
theorem dX4_init_17 : decode cX4_init 17 = .ok (.newarray .int, 2) := by decide +kernel
theorem dX4_init_19 : decode cX4_init 19 = .ok (.putfield 19, 3) := by decide +kernel
theorem dX4_init_22 : decode cX4_init 22 = .ok (.aload_n 0, 1) := by decide +kernel
theorem dX4_init_23 : decode cX4_init 23 = .ok (.sipush 128, 3) := by decide +kernel
theorem dX4_init_26 : decode cX4_init 26 = .ok (.newarray .int, 2) := by decide +kernel
theorem dX4_init_28 : decode cX4_init 28 = .ok (.putfield 23, 3) := by decide +kernel
theorem dX4_init_31 : decode cX4_init 31 = .ok (.aload_n 0, 1) := by decide +kernel
theorem dX4_init_32 : decode cX4_init 32 = .ok (.iconst 0, 1) := by decide +kernel
theorem dX4_init_33 : decode cX4_init 33 = .ok (.putfield 26, 3) := by decide +kernel
theorem dX4_init_36 : decode cX4_init 36 = .ok (.aload_n 0, 1) := by decide +kernel
theorem dX4_init_37 : decode cX4_init 37 = .ok (.iconst 0, 1) := by decide +kernel
theorem dX4_init_38 : decode cX4_init 38 = .ok (.putfield 30, 3) := by decide +kernel
theorem dX4_init_41 : decode cX4_init 41 = .ok (.return_, 1) := by decide +kernel
theorem dX4_books_0 : decode cX4_books 0 = .ok (.aload_n 0, 1) := by decide +kernel
theorem dX4_books_1 : decode cX4_books 1 = .ok (.getfield 33, 3) := by decide +kernel
theorem dX4_books_4 : decode cX4_books 4 = .ok (.ireturn, 1) := by decide +kernel
theorem dX4_wordsEach_0 : decode cX4_wordsEach 0 = .ok (.aload_n 0, 1) := by decide +kernel
theorem dX4_wordsEach_1 : decode cX4_wordsEach 1 = .ok (.getfield 36, 3) := by decide +kernel
theorem dX4_wordsEach_4 : decode cX4_wordsEach 4 = .ok (.ireturn, 1) := by decide +kernel
theorem dX4_kinds_0 : decode cX4_kinds 0 = .ok (.aload_n 0, 1) := by decide +kernel
theorem dX4_kinds_1 : decode cX4_kinds 1 = .ok (.getfield 39, 3) := by decide +kernel
theorem dX4_kinds_4 : decode cX4_kinds 4 = .ok (.ireturn, 1) := by decide +kernel
set_option maxRecDepth 20000 in
theorem ggX4_wordOf_X8_at : GoodIn wsX4_wordOf wsX8_at := goodIn_r _ [8] (by decide +kernel) (by decide +kernel)
set_option maxRecDepth 20000 in
theorem gX4_wordOf_X8_at : GoodIn wsX4_wordOf (va_wsS RX4 45 yX8_at wsX8_at) := goodIn_app (goodIn_of _ (by decide +kernel)) ggX4_wordOf_X8_at
theorem dX4_wordOf_0 : decode cX4_wordOf 0 = .ok (.iload_n 1, 1) := by decide +kernel
theorem dX4_wordOf_1 : decode cX4_wordOf 1 = .ok (.ifCond .lt 23, 3) := by decide +kernel
theorem dX4_wordOf_4 : decode cX4_wordOf 4 = .ok (.iload_n 1, 1) := by decide +kernel
theorem dX4_wordOf_5 : decode cX4_wordOf 5 = .ok (.aload_n 0, 1) := by decide +kernel
theorem dX4_wordOf_6 : decode cX4_wordOf 6 = .ok (.getfield 33, 3) := by decide +kernel
theorem dX4_wordOf_9 : decode cX4_wordOf 9 = .ok (.if_icmp .ge 15, 3) := by decide +kernel
theorem dX4_wordOf_12 : decode cX4_wordOf 12 = .ok (.iload_n 2, 1) := by decide +kernel
theorem dX4_wordOf_13 : decode cX4_wordOf 13 = .ok (.ifCond .lt 11, 3) := by decide +kernel
theorem dX4_wordOf_16 : decode cX4_wordOf 16 = .ok (.iload_n 2, 1) := by decide +kernel
theorem dX4_wordOf_17 : decode cX4_wordOf 17 = .ok (.aload_n 0, 1) := by decide +kernel
theorem dX4_wordOf_18 : decode cX4_wordOf 18 = .ok (.getfield 42, 3) := by decide +kernel
theorem dX4_wordOf_21 : decode cX4_wordOf 21 = .ok (.if_icmp .lt 6, 3) := by decide +kernel
theorem dX4_wordOf_24 : decode cX4_wordOf 24 = .ok (.bipush (-5), 2) := by decide +kernel
theorem dX4_wordOf_26 : decode cX4_wordOf 26 = .ok (.ireturn, 1) := by decide +kernel
theorem dX4_wordOf_27 : decode cX4_wordOf 27 = .ok (.aload_n 0, 1) := by decide +kernel
theorem dX4_wordOf_28 : decode cX4_wordOf 28 = .ok (.getfield 23, 3) := by decide +kernel
theorem dX4_wordOf_31 : decode cX4_wordOf 31 = .ok (.iload_n 1, 1) := by decide +kernel
theorem dX4_wordOf_32 : decode cX4_wordOf 32 = .ok (.invokestatic 45, 3) := by decide +kernel
theorem dX4_wordOf_35 : decode cX4_wordOf 35 = .ok (.istore_n 3, 1) := by decide +kernel
theorem dX4_wordOf_36 : decode cX4_wordOf 36 = .ok (.iconst 0, 1) := by decide +kernel
theorem dX4_wordOf_37 : decode cX4_wordOf 37 = .ok (.istore 4, 2) := by decide +kernel
theorem dX4_wordOf_39 : decode cX4_wordOf 39 = .ok (.iload 4, 2) := by decide +kernel
theorem dX4_wordOf_41 : decode cX4_wordOf 41 = .ok (.aload_n 0, 1) := by decide +kernel
theorem dX4_wordOf_42 : decode cX4_wordOf 42 = .ok (.getfield 19, 3) := by decide +kernel
theorem dX4_wordOf_45 : decode cX4_wordOf 45 = .ok (.arraylength, 1) := by decide +kernel
theorem dX4_wordOf_46 : decode cX4_wordOf 46 = .ok (.if_icmp .ge 33, 3) := by decide +kernel
theorem dX4_wordOf_49 : decode cX4_wordOf 49 = .ok (.iload_n 3, 1) := by decide +kernel
theorem dX4_wordOf_50 : decode cX4_wordOf 50 = .ok (.iload 4, 2) := by decide +kernel
theorem dX4_wordOf_52 : decode cX4_wordOf 52 = .ok (.iushr, 1) := by decide +kernel
theorem dX4_wordOf_53 : decode cX4_wordOf 53 = .ok (.iconst 1, 1) := by decide +kernel
theorem dX4_wordOf_54 : decode cX4_wordOf 54 = .ok (.iand, 1) := by decide +kernel
theorem dX4_wordOf_55 : decode cX4_wordOf 55 = .ok (.iconst 1, 1) := by decide +kernel
theorem dX4_wordOf_56 : decode cX4_wordOf 56 = .ok (.if_icmp .ne 17, 3) := by decide +kernel
theorem dX4_wordOf_59 : decode cX4_wordOf 59 = .ok (.aload_n 0, 1) := by decide +kernel
theorem dX4_wordOf_60 : decode cX4_wordOf 60 = .ok (.getfield 19, 3) := by decide +kernel
theorem dX4_wordOf_63 : decode cX4_wordOf 63 = .ok (.iload 4, 2) := by decide +kernel
theorem dX4_wordOf_65 : decode cX4_wordOf 65 = .ok (.iaload, 1) := by decide +kernel
theorem dX4_wordOf_66 : decode cX4_wordOf 66 = .ok (.iload_n 2, 1) := by decide +kernel
theorem dX4_wordOf_67 : decode cX4_wordOf 67 = .ok (.if_icmp .ne 6, 3) := by decide +kernel
theorem dX4_wordOf_70 : decode cX4_wordOf 70 = .ok (.iload 4, 2) := by decide +kernel
theorem dX4_wordOf_72 : decode cX4_wordOf 72 = .ok (.ireturn, 1) := by decide +kernel
theorem dX4_wordOf_73 : decode cX4_wordOf 73 = .ok (.iinc 4 1, 3) := by decide +kernel
theorem dX4_wordOf_76 : decode cX4_wordOf 76 = .ok (.goto (-37), 3) := by decide +kernel
theorem dX4_wordOf_79 : decode cX4_wordOf 79 = .ok (.iconst (-1), 1) := by decide +kernel
theorem dX4_wordOf_80 : decode cX4_wordOf 80 = .ok (.ireturn, 1) := by decide +kernel
set_option maxRecDepth 20000 in
theorem ggX4_find_X4_numberRings : GoodIn wsX4_find wsX4_numberRings := goodIn_r _ [13, 2, 14, 15, 16, 17, 18, 19, 20, 21, 22, 23, 24, 25, 26, 27, 28, 29, 30, 31, 32, 33, 34, 35, 36, 37, 38, 39, 40, 41, 42, 43, 44, 45, 46, 47, 48, 49, 50, 51, 52, 53, 54, 55, 56, 57, 58, 59, 60, 61, 163, 164, 165, 166, 167, 168, 169, 170, 171, 172, 173, 174, 175, 176] (by decide +kernel) (by decide +kernel)
set_option maxRecDepth 20000 in
theorem gX4_find_X4_numberRings : GoodIn wsX4_find (wsV RX4 59 RX4 yX4_numberRings wsX4_numberRings) := goodIn_app (goodIn_of _ (by decide +kernel)) ggX4_find_X4_numberRings
set_option maxRecDepth 20000 in
theorem ggX4_find_X1_empty : GoodIn wsX4_find wsX1_empty := goodIn_r _ [66, 67, 68, 69, 70, 71, 72, 65, 73, 74, 75, 76, 43, 77, 78, 79, 80, 81, 82, 83, 84, 85, 177, 178, 179, 180, 181, 182, 183] (by decide +kernel) (by decide +kernel)
set_option maxRecDepth 20000 in
theorem gX4_find_X1_empty : GoodIn wsX4_find (wsV RX4 62 RX1 yX1_empty wsX1_empty) := goodIn_app (goodIn_of _ (by decide +kernel)) ggX4_find_X1_empty
set_option maxRecDepth 20000 in
theorem ggX4_find_X4_seek : GoodIn wsX4_find wsX4_seek := goodIn_r _ [88, 6, 14, 4, 15, 89, 90, 91, 65, 92, 67, 93, 94, 95, 12, 96, 5, 8, 97, 98, 43, 99, 100, 101, 102, 103, 104, 105, 57, 58, 19, 59, 21, 106, 107, 108, 109, 82, 110, 111, 112, 113, 68, 69, 114, 37, 38, 39, 40, 115, 116, 117, 118, 26, 36, 45, 46, 47, 119, 120, 121, 122, 41, 42, 44, 75, 76, 77, 123, 124, 125, 126, 127, 128, 129, 130, 131, 70, 71, 72, 73, 74, 132, 133, 134, 135, 78, 79, 80, 81, 86, 87, 136, 137, 138, 139, 163, 164, 165, 166, 167, 168, 169, 170, 171, 172, 177, 178, 179, 180, 181, 182, 183, 173, 174, 175, 176] (by decide +kernel) (by decide +kernel)
set_option maxRecDepth 20000 in
theorem gX4_find_X4_seek : GoodIn wsX4_find (va_wsS RX4 67 yX4_seek wsX4_seek) := goodIn_app (goodIn_of _ (by decide +kernel)) ggX4_find_X4_seek
set_option maxRecDepth 20000 in
theorem ggX4_find_X8_at : GoodIn wsX4_find wsX8_at := goodIn_r _ [77] (by decide +kernel) (by decide +kernel)
set_option maxRecDepth 20000 in
theorem gX4_find_X8_at : GoodIn wsX4_find (va_wsS RX4 45 yX8_at wsX8_at) := goodIn_app (goodIn_of _ (by decide +kernel)) ggX4_find_X8_at
set_option maxRecDepth 20000 in
theorem ggX4_find_X4_isLeastOfItsKind : GoodIn wsX4_find wsX4_isLeastOfItsKind := goodIn_r _ [144, 2, 145, 146, 147, 19, 148, 35, 149, 150, 151, 12, 152, 153, 154, 155, 156, 26, 157, 158, 159, 160, 161, 36, 37, 38, 39, 40, 45, 46, 43, 47, 41, 42, 44, 162, 76, 77, 163, 164, 165, 166, 167, 168, 169, 170, 171, 172, 173, 174, 175, 176] (by decide +kernel) (by decide +kernel)
set_option maxRecDepth 20000 in
theorem gX4_find_X4_isLeastOfItsKind : GoodIn wsX4_find (wsV RX4 71 RX4 yX4_isLeastOfItsKind wsX4_isLeastOfItsKind) := goodIn_app (goodIn_of _ (by decide +kernel)) ggX4_find_X4_isLeastOfItsKind
theorem dX4_find_0 : decode cX4_find 0 = .ok (.aload_n 0, 1) := by decide +kernel
theorem dX4_find_1 : decode cX4_find 1 = .ok (.getfield 26, 3) := by decide +kernel
theorem dX4_find_4 : decode cX4_find 4 = .ok (.aload_n 0, 1) := by decide +kernel
theorem dX4_find_5 : decode cX4_find 5 = .ok (.getfield 9, 3) := by decide +kernel
theorem dX4_find_8 : decode cX4_find 8 = .ok (.getfield 51, 3) := by decide +kernel
theorem dX4_find_11 : decode cX4_find 11 = .ok (.if_icmp .ne 18, 3) := by decide +kernel
theorem dX4_find_14 : decode cX4_find 14 = .ok (.aload_n 0, 1) := by decide +kernel
theorem dX4_find_15 : decode cX4_find 15 = .ok (.getfield 30, 3) := by decide +kernel
theorem dX4_find_18 : decode cX4_find 18 = .ok (.aload_n 0, 1) := by decide +kernel
theorem dX4_find_19 : decode cX4_find 19 = .ok (.getfield 9, 3) := by decide +kernel
theorem dX4_find_22 : decode cX4_find 22 = .ok (.getfield 56, 3) := by decide +kernel
theorem dX4_find_25 : decode cX4_find 25 = .ok (.if_icmp .ne 4, 3) := by decide +kernel
theorem dX4_find_28 : decode cX4_find 28 = .ok (.return_, 1) := by decide +kernel
theorem dX4_find_29 : decode cX4_find 29 = .ok (.aload_n 0, 1) := by decide +kernel
theorem dX4_find_30 : decode cX4_find 30 = .ok (.aload_n 0, 1) := by decide +kernel
theorem dX4_find_31 : decode cX4_find 31 = .ok (.getfield 9, 3) := by decide +kernel
theorem dX4_find_34 : decode cX4_find 34 = .ok (.getfield 51, 3) := by decide +kernel
theorem dX4_find_37 : decode cX4_find 37 = .ok (.putfield 26, 3) := by decide +kernel
theorem dX4_find_40 : decode cX4_find 40 = .ok (.aload_n 0, 1) := by decide +kernel
theorem dX4_find_41 : decode cX4_find 41 = .ok (.aload_n 0, 1) := by decide +kernel
theorem dX4_find_42 : decode cX4_find 42 = .ok (.getfield 9, 3) := by decide +kernel
theorem dX4_find_45 : decode cX4_find 45 = .ok (.getfield 56, 3) := by decide +kernel
theorem dX4_find_48 : decode cX4_find 48 = .ok (.putfield 30, 3) := by decide +kernel
theorem dX4_find_51 : decode cX4_find 51 = .ok (.aload_n 0, 1) := by decide +kernel
theorem dX4_find_52 : decode cX4_find 52 = .ok (.invokevirtual 59, 3) := by decide +kernel
theorem dX4_find_55 : decode cX4_find 55 = .ok (.aload_n 0, 1) := by decide +kernel
theorem dX4_find_56 : decode cX4_find 56 = .ok (.iconst 0, 1) := by decide +kernel
theorem dX4_find_57 : decode cX4_find 57 = .ok (.putfield 36, 3) := by decide +kernel
theorem dX4_find_60 : decode cX4_find 60 = .ok (.aload_n 0, 1) := by decide +kernel
theorem dX4_find_61 : decode cX4_find 61 = .ok (.iconst 0, 1) := by decide +kernel
theorem dX4_find_62 : decode cX4_find 62 = .ok (.putfield 33, 3) := by decide +kernel
theorem dX4_find_65 : decode cX4_find 65 = .ok (.aload_n 0, 1) := by decide +kernel
theorem dX4_find_66 : decode cX4_find 66 = .ok (.getfield 15, 3) := by decide +kernel
theorem dX4_find_69 : decode cX4_find 69 = .ok (.invokevirtual 62, 3) := by decide +kernel
theorem dX4_find_72 : decode cX4_find 72 = .ok (.aload_n 0, 1) := by decide +kernel
theorem dX4_find_73 : decode cX4_find 73 = .ok (.iconst 0, 1) := by decide +kernel
theorem dX4_find_74 : decode cX4_find 74 = .ok (.iconst 0, 1) := by decide +kernel
theorem dX4_find_75 : decode cX4_find 75 = .ok (.invokestatic 67, 3) := by decide +kernel
theorem dX4_find_78 : decode cX4_find 78 = .ok (.aload_n 0, 1) := by decide +kernel
theorem dX4_find_79 : decode cX4_find 79 = .ok (.iconst 0, 1) := by decide +kernel
theorem dX4_find_80 : decode cX4_find 80 = .ok (.putfield 39, 3) := by decide +kernel
theorem dX4_find_83 : decode cX4_find 83 = .ok (.iconst 0, 1) := by decide +kernel
theorem dX4_find_84 : decode cX4_find 84 = .ok (.istore_n 1, 1) := by decide +kernel
theorem dX4_find_85 : decode cX4_find 85 = .ok (.iload_n 1, 1) := by decide +kernel
theorem dX4_find_86 : decode cX4_find 86 = .ok (.aload_n 0, 1) := by decide +kernel
theorem dX4_find_87 : decode cX4_find 87 = .ok (.getfield 33, 3) := by decide +kernel
theorem dX4_find_90 : decode cX4_find 90 = .ok (.if_icmp .ge 34, 3) := by decide +kernel
theorem dX4_find_93 : decode cX4_find 93 = .ok (.aload_n 0, 1) := by decide +kernel
theorem dX4_find_94 : decode cX4_find 94 = .ok (.aload_n 0, 1) := by decide +kernel
theorem dX4_find_95 : decode cX4_find 95 = .ok (.getfield 23, 3) := by decide +kernel
theorem dX4_find_98 : decode cX4_find 98 = .ok (.iload_n 1, 1) := by decide +kernel
theorem dX4_find_99 : decode cX4_find 99 = .ok (.invokestatic 45, 3) := by decide +kernel
theorem dX4_find_102 : decode cX4_find 102 = .ok (.invokevirtual 71, 3) := by decide +kernel
theorem dX4_find_105 : decode cX4_find 105 = .ok (.ifCond .eq 13, 3) := by decide +kernel
theorem dX4_find_108 : decode cX4_find 108 = .ok (.aload_n 0, 1) := by decide +kernel
theorem dX4_find_109 : decode cX4_find 109 = .ok (.dup, 1) := by decide +kernel
theorem dX4_find_110 : decode cX4_find 110 = .ok (.getfield 39, 3) := by decide +kernel
theorem dX4_find_113 : decode cX4_find 113 = .ok (.iconst 1, 1) := by decide +kernel
theorem dX4_find_114 : decode cX4_find 114 = .ok (.iadd, 1) := by decide +kernel
theorem dX4_find_115 : decode cX4_find 115 = .ok (.putfield 39, 3) := by decide +kernel
theorem dX4_find_118 : decode cX4_find 118 = .ok (.iinc 1 1, 3) := by decide +kernel
theorem dX4_find_121 : decode cX4_find 121 = .ok (.goto (-36), 3) := by decide +kernel
theorem dX4_find_124 : decode cX4_find 124 = .ok (.return_, 1) := by decide +kernel
set_option maxRecDepth 20000 in
theorem ggX4_numberRings_X0_wholeRingsBelow : GoodIn wsX4_numberRings wsX0_wholeRingsBelow := goodIn_r _ [8, 9, 10, 11, 12, 7, 13, 14, 15, 16, 17, 18, 19, 20, 21, 22, 23, 24, 25, 26, 27, 28, 29, 30, 31, 32, 33, 34, 35, 36, 37, 38, 39, 40, 41, 42, 43, 60, 61, 62, 63] (by decide +kernel) (by decide +kernel)
set_option maxRecDepth 20000 in
theorem gX4_numberRings_X0_wholeRingsBelow : GoodIn wsX4_numberRings (wsV RX4 78 RX0 yX0_wholeRingsBelow wsX0_wholeRingsBelow) := goodIn_app (goodIn_of _ (by decide +kernel)) ggX4_numberRings_X0_wholeRingsBelow
set_option maxRecDepth 20000 in
theorem ggX4_numberRings_X0_isWord : GoodIn wsX4_numberRings wsX0_isWord := goodIn_r _ [47, 9, 60, 61, 62, 63] (by decide +kernel) (by decide +kernel)
set_option maxRecDepth 20000 in
theorem gX4_numberRings_X0_isWord : GoodIn wsX4_numberRings (wsV RX4 82 RX0 yX0_isWord wsX0_isWord) := goodIn_app (goodIn_of _ (by decide +kernel)) ggX4_numberRings_X0_isWord
set_option maxRecDepth 20000 in
theorem ggX4_numberRings_X0_isWhole : GoodIn wsX4_numberRings wsX0_isWhole := goodIn_r _ [39, 14, 40, 41, 42, 7, 43, 19, 20, 21, 22, 23, 24, 25, 26, 27, 28, 29, 30, 31, 32, 33, 34, 35, 60, 61, 62, 63] (by decide +kernel) (by decide +kernel)
set_option maxRecDepth 20000 in
theorem gX4_numberRings_X0_isWhole : GoodIn wsX4_numberRings (wsV RX4 85 RX0 yX0_isWhole wsX0_isWhole) := goodIn_app (goodIn_of _ (by decide +kernel)) ggX4_numberRings_X0_isWhole
set_option maxRecDepth 20000 in
theorem ggX4_numberRings_X0_ringLeast : GoodIn wsX4_numberRings wsX0_ringLeast := goodIn_r _ [13, 14, 15, 16, 17, 18, 19, 20, 21, 7, 22, 23, 24, 25, 26, 27, 28, 29, 30, 31, 32, 33, 34, 35, 60, 61, 62, 63] (by decide +kernel) (by decide +kernel)
set_option maxRecDepth 20000 in
theorem gX4_numberRings_X0_ringLeast : GoodIn wsX4_numberRings (wsV RX4 88 RX0 yX0_ringLeast wsX0_ringLeast) := goodIn_app (goodIn_of _ (by decide +kernel)) ggX4_numberRings_X0_ringLeast
theorem dX4_numberRings_0 : decode cX4_numberRings 0 = .ok (.aload_n 0, 1) := by decide +kernel
theorem dX4_numberRings_1 : decode cX4_numberRings 1 = .ok (.aload_n 0, 1) := by decide +kernel
theorem dX4_numberRings_2 : decode cX4_numberRings 2 = .ok (.getfield 9, 3) := by decide +kernel
theorem dX4_numberRings_5 : decode cX4_numberRings 5 = .ok (.aload_n 0, 1) := by decide +kernel
theorem dX4_numberRings_6 : decode cX4_numberRings 6 = .ok (.getfield 9, 3) := by decide +kernel
theorem dX4_numberRings_9 : decode cX4_numberRings 9 = .ok (.getfield 75, 3) := by decide +kernel
theorem dX4_numberRings_12 : decode cX4_numberRings 12 = .ok (.invokevirtual 78, 3) := by decide +kernel
theorem dX4_numberRings_15 : decode cX4_numberRings 15 = .ok (.putfield 42, 3) := by decide +kernel
theorem dX4_numberRings_18 : decode cX4_numberRings 18 = .ok (.iconst 0, 1) := by decide +kernel
theorem dX4_numberRings_19 : decode cX4_numberRings 19 = .ok (.istore_n 1, 1) := by decide +kernel
theorem dX4_numberRings_20 : decode cX4_numberRings 20 = .ok (.iload_n 1, 1) := by decide +kernel
theorem dX4_numberRings_21 : decode cX4_numberRings 21 = .ok (.aload_n 0, 1) := by decide +kernel
theorem dX4_numberRings_22 : decode cX4_numberRings 22 = .ok (.getfield 19, 3) := by decide +kernel
theorem dX4_numberRings_25 : decode cX4_numberRings 25 = .ok (.arraylength, 1) := by decide +kernel
theorem dX4_numberRings_26 : decode cX4_numberRings 26 = .ok (.if_icmp .ge 66, 3) := by decide +kernel
theorem dX4_numberRings_29 : decode cX4_numberRings 29 = .ok (.aload_n 0, 1) := by decide +kernel
theorem dX4_numberRings_30 : decode cX4_numberRings 30 = .ok (.getfield 9, 3) := by decide +kernel
theorem dX4_numberRings_33 : decode cX4_numberRings 33 = .ok (.iload_n 1, 1) := by decide +kernel
theorem dX4_numberRings_34 : decode cX4_numberRings 34 = .ok (.invokevirtual 82, 3) := by decide +kernel
theorem dX4_numberRings_37 : decode cX4_numberRings 37 = .ok (.ifCond .eq 18, 3) := by decide +kernel
theorem dX4_numberRings_40 : decode cX4_numberRings 40 = .ok (.aload_n 0, 1) := by decide +kernel
theorem dX4_numberRings_41 : decode cX4_numberRings 41 = .ok (.getfield 9, 3) := by decide +kernel
theorem dX4_numberRings_44 : decode cX4_numberRings 44 = .ok (.iload_n 1, 1) := by decide +kernel
theorem dX4_numberRings_45 : decode cX4_numberRings 45 = .ok (.invokevirtual 85, 3) := by decide +kernel
theorem dX4_numberRings_48 : decode cX4_numberRings 48 = .ok (.ifCond .eq 7, 3) := by decide +kernel
theorem dX4_numberRings_51 : decode cX4_numberRings 51 = .ok (.iconst 1, 1) := by decide +kernel
theorem dX4_numberRings_52 : decode cX4_numberRings 52 = .ok (.goto 4, 3) := by decide +kernel
theorem dX4_numberRings_55 : decode cX4_numberRings 55 = .ok (.iconst 0, 1) := by decide +kernel
theorem dX4_numberRings_56 : decode cX4_numberRings 56 = .ok (.istore_n 2, 1) := by decide +kernel
theorem dX4_numberRings_57 : decode cX4_numberRings 57 = .ok (.aload_n 0, 1) := by decide +kernel
theorem dX4_numberRings_58 : decode cX4_numberRings 58 = .ok (.getfield 19, 3) := by decide +kernel
theorem dX4_numberRings_61 : decode cX4_numberRings 61 = .ok (.iload_n 1, 1) := by decide +kernel
theorem dX4_numberRings_62 : decode cX4_numberRings 62 = .ok (.iload_n 2, 1) := by decide +kernel
theorem dX4_numberRings_63 : decode cX4_numberRings 63 = .ok (.ifCond .eq 21, 3) := by decide +kernel
theorem dX4_numberRings_66 : decode cX4_numberRings 66 = .ok (.aload_n 0, 1) := by decide +kernel
theorem dX4_numberRings_67 : decode cX4_numberRings 67 = .ok (.getfield 9, 3) := by decide +kernel
theorem dX4_numberRings_70 : decode cX4_numberRings 70 = .ok (.aload_n 0, 1) := by decide +kernel
theorem dX4_numberRings_71 : decode cX4_numberRings 71 = .ok (.getfield 9, 3) := by decide +kernel
theorem dX4_numberRings_74 : decode cX4_numberRings 74 = .ok (.iload_n 1, 1) := by decide +kernel
theorem dX4_numberRings_75 : decode cX4_numberRings 75 = .ok (.invokevirtual 88, 3) := by decide +kernel
theorem dX4_numberRings_78 : decode cX4_numberRings 78 = .ok (.invokevirtual 78, 3) := by decide +kernel
theorem dX4_numberRings_81 : decode cX4_numberRings 81 = .ok (.goto 4, 3) := by decide +kernel
theorem dX4_numberRings_84 : decode cX4_numberRings 84 = .ok (.iconst (-1), 1) := by decide +kernel
theorem dX4_numberRings_85 : decode cX4_numberRings 85 = .ok (.iastore, 1) := by decide +kernel
theorem dX4_numberRings_86 : decode cX4_numberRings 86 = .ok (.iinc 1 1, 3) := by decide +kernel
theorem dX4_numberRings_89 : decode cX4_numberRings 89 = .ok (.goto (-69), 3) := by decide +kernel
theorem dX4_numberRings_92 : decode cX4_numberRings 92 = .ok (.return_, 1) := by decide +kernel
set_option maxRecDepth 20000 in
theorem ggX4_seek_X1_total : GoodIn wsX4_seek wsX1_total := goodIn_r _ [9, 10, 106, 107, 108, 109, 110, 111, 112] (by decide +kernel) (by decide +kernel)
set_option maxRecDepth 20000 in
theorem gX4_seek_X1_total : GoodIn wsX4_seek (wsV RX4 91 RX1 yX1_total wsX1_total) := goodIn_app (goodIn_of _ (by decide +kernel)) ggX4_seek_X1_total
set_option maxRecDepth 20000 in
theorem ggX4_seek_X4_note : GoodIn wsX4_seek wsX4_note := goodIn_r _ [15, 1, 3, 16, 17, 5, 6, 7, 8, 9, 10, 18, 19, 20, 21, 96, 97, 98, 99, 100, 101, 102, 103, 104, 105, 106, 107, 108, 109, 110, 111, 112] (by decide +kernel) (by decide +kernel)
set_option maxRecDepth 20000 in
theorem gX4_seek_X4_note : GoodIn wsX4_seek (wsV RX4 95 RX4 yX4_note wsX4_note) := goodIn_app (goodIn_of _ (by decide +kernel)) ggX4_seek_X4_note
set_option maxRecDepth 20000 in
theorem ggX4_seek_X1_allows : GoodIn wsX4_seek wsX1_allows := goodIn_r _ [25, 26, 27, 28, 29, 30, 31, 32, 33, 34, 35, 8, 36, 37, 38, 39, 40, 41, 42, 43, 44, 45, 46, 47, 48, 49, 50, 51, 52, 53, 54, 55, 56, 20, 57, 58, 59, 60, 61, 62, 63, 64, 65, 66, 67, 68, 19, 21, 69, 70, 71, 72, 73, 74, 75, 76, 10, 77, 78, 79, 80, 81, 106, 107, 108, 109, 110, 111, 112, 113, 114, 115, 116] (by decide +kernel) (by decide +kernel)
set_option maxRecDepth 20000 in
theorem gX4_seek_X1_allows : GoodIn wsX4_seek (wsV RX4 99 RX1 yX1_allows wsX1_allows) := goodIn_app (goodIn_of _ (by decide +kernel)) ggX4_seek_X1_allows
set_option maxRecDepth 20000 in
theorem ggX4_seek_X1_include : GoodIn wsX4_seek wsX1_include := goodIn_r _ [85, 26, 10, 81, 27, 28, 29, 30, 31, 32, 33, 34, 35, 8, 36, 37, 77, 78, 79, 80, 65, 66, 20, 67, 68, 19, 21, 86, 87, 88, 89, 38, 39, 40, 41, 42, 43, 44, 45, 46, 47, 48, 49, 50, 51, 52, 53, 54, 55, 56, 57, 58, 59, 60, 61, 62, 63, 64, 106, 107, 108, 109, 110, 111, 112, 113, 114, 115, 116] (by decide +kernel) (by decide +kernel)
set_option maxRecDepth 20000 in
theorem gX4_seek_X1_include : GoodIn wsX4_seek (wsV RX4 102 RX1 yX1_include wsX1_include) := goodIn_app (goodIn_of _ (by decide +kernel)) ggX4_seek_X1_include
set_option maxRecDepth 20000 in
theorem ggX4_seek_X4_seek : GoodIn wsX4_seek wsX4_seek := goodIn_r _ [0, 1, 2, 3, 4, 5, 6, 7, 8, 9, 10, 11, 12, 13, 14, 15, 16, 17, 18, 19, 20, 21, 22, 23, 24, 25, 26, 27, 28, 29, 30, 31, 32, 33, 34, 35, 36, 37, 38, 39, 40, 41, 42, 43, 44, 45, 46, 47, 48, 49, 50, 51, 52, 53, 54, 55, 56, 57, 58, 59, 60, 61, 62, 63, 64, 65, 66, 67, 68, 69, 70, 71, 72, 73, 74, 75, 76, 77, 78, 79, 80, 81, 82, 83, 84, 85, 86, 87, 88, 89, 90, 91, 92, 93, 94, 95, 96, 97, 98, 99, 100, 101, 102, 103, 104, 105, 106, 107, 108, 109, 110, 111, 112, 113, 114, 115, 116] (by decide +kernel) (by decide +kernel)
set_option maxRecDepth 20000 in
theorem gX4_seek_X4_seek : GoodIn wsX4_seek (va_wsS RX4 67 yX4_seek wsX4_seek) := goodIn_app (goodIn_of _ (by decide +kernel)) ggX4_seek_X4_seek
set_option maxRecDepth 20000 in
theorem ggX4_seek_X1_exclude : GoodIn wsX4_seek wsX1_exclude := goodIn_r _ [95, 10, 81, 33, 34, 35, 8, 36, 37, 77, 78, 79, 80, 65, 66, 20, 67, 68, 19, 21, 86, 87, 88, 89, 38, 39, 40, 41, 26, 42, 43, 44, 45, 46, 30, 47, 48, 49, 50, 51, 52, 53, 54, 55, 56, 57, 58, 59, 60, 61, 62, 63, 64, 106, 107, 108, 109, 110, 111, 112, 113, 114, 115, 116] (by decide +kernel) (by decide +kernel)
set_option maxRecDepth 20000 in
theorem gX4_seek_X1_exclude : GoodIn wsX4_seek (wsV RX4 105 RX1 yX1_exclude wsX1_exclude) := goodIn_app (goodIn_of _ (by decide +kernel)) ggX4_seek_X1_exclude
theorem dX4_seek_0 : decode cX4_seek 0 = .ok (.aload_n 0, 1) := by decide +kernel
theorem dX4_seek_1 : decode cX4_seek 1 = .ok (.getfield 15, 3) := by decide +kernel
theorem dX4_seek_4 : decode cX4_seek 4 = .ok (.invokevirtual 91, 3) := by decide +kernel
theorem dX4_seek_7 : decode cX4_seek 7 = .ok (.aload_n 0, 1) := by decide +kernel
theorem dX4_seek_8 : decode cX4_seek 8 = .ok (.getfield 42, 3) := by decide +kernel
theorem dX4_seek_11 : decode cX4_seek 11 = .ok (.iadd, 1) := by decide +kernel
theorem dX4_seek_12 : decode cX4_seek 12 = .ok (.iload_n 1, 1) := by decide +kernel
theorem dX4_seek_13 : decode cX4_seek 13 = .ok (.isub, 1) := by decide +kernel
theorem dX4_seek_14 : decode cX4_seek 14 = .ok (.aload_n 0, 1) := by decide +kernel
theorem dX4_seek_15 : decode cX4_seek 15 = .ok (.getfield 36, 3) := by decide +kernel
theorem dX4_seek_18 : decode cX4_seek 18 = .ok (.if_icmp .ge 4, 3) := by decide +kernel
theorem dX4_seek_21 : decode cX4_seek 21 = .ok (.return_, 1) := by decide +kernel
theorem dX4_seek_22 : decode cX4_seek 22 = .ok (.iload_n 1, 1) := by decide +kernel
theorem dX4_seek_23 : decode cX4_seek 23 = .ok (.aload_n 0, 1) := by decide +kernel
theorem dX4_seek_24 : decode cX4_seek 24 = .ok (.getfield 42, 3) := by decide +kernel
theorem dX4_seek_27 : decode cX4_seek 27 = .ok (.if_icmp .lt 9, 3) := by decide +kernel
theorem dX4_seek_30 : decode cX4_seek 30 = .ok (.aload_n 0, 1) := by decide +kernel
theorem dX4_seek_31 : decode cX4_seek 31 = .ok (.iload_n 2, 1) := by decide +kernel
theorem dX4_seek_32 : decode cX4_seek 32 = .ok (.invokevirtual 95, 3) := by decide +kernel
theorem dX4_seek_35 : decode cX4_seek 35 = .ok (.return_, 1) := by decide +kernel
theorem dX4_seek_36 : decode cX4_seek 36 = .ok (.iconst 0, 1) := by decide +kernel
theorem dX4_seek_37 : decode cX4_seek 37 = .ok (.istore_n 3, 1) := by decide +kernel
theorem dX4_seek_38 : decode cX4_seek 38 = .ok (.iload_n 3, 1) := by decide +kernel
theorem dX4_seek_39 : decode cX4_seek 39 = .ok (.aload_n 0, 1) := by decide +kernel
theorem dX4_seek_40 : decode cX4_seek 40 = .ok (.getfield 19, 3) := by decide +kernel
theorem dX4_seek_43 : decode cX4_seek 43 = .ok (.arraylength, 1) := by decide +kernel
theorem dX4_seek_44 : decode cX4_seek 44 = .ok (.if_icmp .ge 60, 3) := by decide +kernel
theorem dX4_seek_47 : decode cX4_seek 47 = .ok (.aload_n 0, 1) := by decide +kernel
theorem dX4_seek_48 : decode cX4_seek 48 = .ok (.getfield 19, 3) := by decide +kernel
theorem dX4_seek_51 : decode cX4_seek 51 = .ok (.iload_n 3, 1) := by decide +kernel
theorem dX4_seek_52 : decode cX4_seek 52 = .ok (.iaload, 1) := by decide +kernel
theorem dX4_seek_53 : decode cX4_seek 53 = .ok (.iload_n 1, 1) := by decide +kernel
theorem dX4_seek_54 : decode cX4_seek 54 = .ok (.if_icmp .ne 44, 3) := by decide +kernel
theorem dX4_seek_57 : decode cX4_seek 57 = .ok (.aload_n 0, 1) := by decide +kernel
theorem dX4_seek_58 : decode cX4_seek 58 = .ok (.getfield 15, 3) := by decide +kernel
theorem dX4_seek_61 : decode cX4_seek 61 = .ok (.iload_n 3, 1) := by decide +kernel
theorem dX4_seek_62 : decode cX4_seek 62 = .ok (.invokevirtual 99, 3) := by decide +kernel
theorem dX4_seek_65 : decode cX4_seek 65 = .ok (.ifCond .eq 33, 3) := by decide +kernel
theorem dX4_seek_68 : decode cX4_seek 68 = .ok (.aload_n 0, 1) := by decide +kernel
theorem dX4_seek_69 : decode cX4_seek 69 = .ok (.getfield 15, 3) := by decide +kernel
theorem dX4_seek_72 : decode cX4_seek 72 = .ok (.iload_n 3, 1) := by decide +kernel
theorem dX4_seek_73 : decode cX4_seek 73 = .ok (.invokevirtual 102, 3) := by decide +kernel
theorem dX4_seek_76 : decode cX4_seek 76 = .ok (.pop, 1) := by decide +kernel
theorem dX4_seek_77 : decode cX4_seek 77 = .ok (.aload_n 0, 1) := by decide +kernel
theorem dX4_seek_78 : decode cX4_seek 78 = .ok (.iload_n 1, 1) := by decide +kernel
theorem dX4_seek_79 : decode cX4_seek 79 = .ok (.iconst 1, 1) := by decide +kernel
theorem dX4_seek_80 : decode cX4_seek 80 = .ok (.iadd, 1) := by decide +kernel
theorem dX4_seek_81 : decode cX4_seek 81 = .ok (.iload_n 2, 1) := by decide +kernel
theorem dX4_seek_82 : decode cX4_seek 82 = .ok (.iconst 1, 1) := by decide +kernel
theorem dX4_seek_83 : decode cX4_seek 83 = .ok (.iload_n 3, 1) := by decide +kernel
theorem dX4_seek_84 : decode cX4_seek 84 = .ok (.ishl, 1) := by decide +kernel
theorem dX4_seek_85 : decode cX4_seek 85 = .ok (.ior, 1) := by decide +kernel
theorem dX4_seek_86 : decode cX4_seek 86 = .ok (.invokestatic 67, 3) := by decide +kernel
theorem dX4_seek_89 : decode cX4_seek 89 = .ok (.aload_n 0, 1) := by decide +kernel
theorem dX4_seek_90 : decode cX4_seek 90 = .ok (.getfield 15, 3) := by decide +kernel
theorem dX4_seek_93 : decode cX4_seek 93 = .ok (.iload_n 3, 1) := by decide +kernel
theorem dX4_seek_94 : decode cX4_seek 94 = .ok (.invokevirtual 105, 3) := by decide +kernel
theorem dX4_seek_97 : decode cX4_seek 97 = .ok (.pop, 1) := by decide +kernel
theorem dX4_seek_98 : decode cX4_seek 98 = .ok (.iinc 3 1, 3) := by decide +kernel
theorem dX4_seek_101 : decode cX4_seek 101 = .ok (.goto (-63), 3) := by decide +kernel
theorem dX4_seek_104 : decode cX4_seek 104 = .ok (.aload_n 0, 1) := by decide +kernel
theorem dX4_seek_105 : decode cX4_seek 105 = .ok (.iload_n 1, 1) := by decide +kernel
theorem dX4_seek_106 : decode cX4_seek 106 = .ok (.iconst 1, 1) := by decide +kernel
theorem dX4_seek_107 : decode cX4_seek 107 = .ok (.iadd, 1) := by decide +kernel
theorem dX4_seek_108 : decode cX4_seek 108 = .ok (.iload_n 2, 1) := by decide +kernel
theorem dX4_seek_109 : decode cX4_seek 109 = .ok (.invokestatic 67, 3) := by decide +kernel
theorem dX4_seek_112 : decode cX4_seek 112 = .ok (.return_, 1) := by decide +kernel
set_option maxRecDepth 20000 in
theorem ggX4_note_X1_total : GoodIn wsX4_note wsX1_total := goodIn_r _ [9, 10, 25, 26, 27, 28, 29, 30, 31] (by decide +kernel) (by decide +kernel)
set_option maxRecDepth 20000 in
theorem gX4_note_X1_total : GoodIn wsX4_note (wsV RX4 91 RX1 yX1_total wsX1_total) := goodIn_app (goodIn_of _ (by decide +kernel)) ggX4_note_X1_total
set_option maxRecDepth 20000 in
theorem ggX4_note_X8_set : GoodIn wsX4_note wsX8_set := goodIn_r _ [14] (by decide +kernel) (by decide +kernel)
set_option maxRecDepth 20000 in
theorem gX4_note_X8_set : GoodIn wsX4_note (va_wsS RX4 108 yX8_set wsX8_set) := goodIn_app (goodIn_of _ (by decide +kernel)) ggX4_note_X8_set
theorem dX4_note_0 : decode cX4_note 0 = .ok (.aload_n 0, 1) := by decide +kernel
theorem dX4_note_1 : decode cX4_note 1 = .ok (.getfield 15, 3) := by decide +kernel
theorem dX4_note_4 : decode cX4_note 4 = .ok (.invokevirtual 91, 3) := by decide +kernel
theorem dX4_note_7 : decode cX4_note 7 = .ok (.aload_n 0, 1) := by decide +kernel
theorem dX4_note_8 : decode cX4_note 8 = .ok (.getfield 36, 3) := by decide +kernel
theorem dX4_note_11 : decode cX4_note 11 = .ok (.if_icmp .le 19, 3) := by decide +kernel
theorem dX4_note_14 : decode cX4_note 14 = .ok (.aload_n 0, 1) := by decide +kernel
theorem dX4_note_15 : decode cX4_note 15 = .ok (.aload_n 0, 1) := by decide +kernel
theorem dX4_note_16 : decode cX4_note 16 = .ok (.getfield 15, 3) := by decide +kernel
theorem dX4_note_19 : decode cX4_note 19 = .ok (.invokevirtual 91, 3) := by decide +kernel
theorem dX4_note_22 : decode cX4_note 22 = .ok (.putfield 36, 3) := by decide +kernel
theorem dX4_note_25 : decode cX4_note 25 = .ok (.aload_n 0, 1) := by decide +kernel
theorem dX4_note_26 : decode cX4_note 26 = .ok (.iconst 0, 1) := by decide +kernel
theorem dX4_note_27 : decode cX4_note 27 = .ok (.putfield 33, 3) := by decide +kernel
theorem dX4_note_30 : decode cX4_note 30 = .ok (.aload_n 0, 1) := by decide +kernel
theorem dX4_note_31 : decode cX4_note 31 = .ok (.getfield 33, 3) := by decide +kernel
theorem dX4_note_34 : decode cX4_note 34 = .ok (.aload_n 0, 1) := by decide +kernel
theorem dX4_note_35 : decode cX4_note 35 = .ok (.getfield 23, 3) := by decide +kernel
theorem dX4_note_38 : decode cX4_note 38 = .ok (.arraylength, 1) := by decide +kernel
theorem dX4_note_39 : decode cX4_note 39 = .ok (.if_icmp .ge 25, 3) := by decide +kernel
theorem dX4_note_42 : decode cX4_note 42 = .ok (.aload_n 0, 1) := by decide +kernel
theorem dX4_note_43 : decode cX4_note 43 = .ok (.getfield 23, 3) := by decide +kernel
theorem dX4_note_46 : decode cX4_note 46 = .ok (.aload_n 0, 1) := by decide +kernel
theorem dX4_note_47 : decode cX4_note 47 = .ok (.getfield 33, 3) := by decide +kernel
theorem dX4_note_50 : decode cX4_note 50 = .ok (.iload_n 1, 1) := by decide +kernel
theorem dX4_note_51 : decode cX4_note 51 = .ok (.invokestatic 108, 3) := by decide +kernel
theorem dX4_note_54 : decode cX4_note 54 = .ok (.aload_n 0, 1) := by decide +kernel
theorem dX4_note_55 : decode cX4_note 55 = .ok (.dup, 1) := by decide +kernel
theorem dX4_note_56 : decode cX4_note 56 = .ok (.getfield 33, 3) := by decide +kernel
theorem dX4_note_59 : decode cX4_note 59 = .ok (.iconst 1, 1) := by decide +kernel
theorem dX4_note_60 : decode cX4_note 60 = .ok (.iadd, 1) := by decide +kernel
theorem dX4_note_61 : decode cX4_note 61 = .ok (.putfield 33, 3) := by decide +kernel
theorem dX4_note_64 : decode cX4_note 64 = .ok (.return_, 1) := by decide +kernel
set_option maxRecDepth 20000 in
theorem ggX4_isLeastOfItsKind_X0_swaps : GoodIn wsX4_isLeastOfItsKind wsX0_swaps := goodIn_r _ [6, 7, 48, 49, 50, 51] (by decide +kernel) (by decide +kernel)
set_option maxRecDepth 20000 in
theorem gX4_isLeastOfItsKind_X0_swaps : GoodIn wsX4_isLeastOfItsKind (wsV RX4 112 RX0 yX0_swaps wsX0_swaps) := goodIn_app (goodIn_of _ (by decide +kernel)) ggX4_isLeastOfItsKind_X0_swaps
set_option maxRecDepth 20000 in
theorem ggX4_isLeastOfItsKind_X4_exchangedBits : GoodIn wsX4_isLeastOfItsKind wsX4_exchangedBits := goodIn_r _ [12, 1, 13, 14, 15, 5, 16, 7, 17, 18, 19, 20, 21, 22, 23, 24, 25, 26, 27, 28, 29, 30, 31, 32, 33, 34, 35, 36, 37, 38, 39, 40, 41, 42, 43, 44, 45, 46, 47, 48, 49, 50, 51] (by decide +kernel) (by decide +kernel)
set_option maxRecDepth 20000 in
theorem gX4_isLeastOfItsKind_X4_exchangedBits : GoodIn wsX4_isLeastOfItsKind (wsV RX4 115 RX4 yX4_exchangedBits wsX4_exchangedBits) := goodIn_app (goodIn_of _ (by decide +kernel)) ggX4_isLeastOfItsKind_X4_exchangedBits
theorem dX4_isLeastOfItsKind_0 : decode cX4_isLeastOfItsKind 0 = .ok (.aload_n 0, 1) := by decide +kernel
theorem dX4_isLeastOfItsKind_1 : decode cX4_isLeastOfItsKind 1 = .ok (.getfield 9, 3) := by decide +kernel
theorem dX4_isLeastOfItsKind_4 : decode cX4_isLeastOfItsKind 4 = .ok (.invokevirtual 112, 3) := by decide +kernel
theorem dX4_isLeastOfItsKind_7 : decode cX4_isLeastOfItsKind 7 = .ok (.istore_n 2, 1) := by decide +kernel
theorem dX4_isLeastOfItsKind_8 : decode cX4_isLeastOfItsKind 8 = .ok (.iconst 0, 1) := by decide +kernel
theorem dX4_isLeastOfItsKind_9 : decode cX4_isLeastOfItsKind 9 = .ok (.istore_n 3, 1) := by decide +kernel
theorem dX4_isLeastOfItsKind_10 : decode cX4_isLeastOfItsKind 10 = .ok (.iload_n 3, 1) := by decide +kernel
theorem dX4_isLeastOfItsKind_11 : decode cX4_isLeastOfItsKind 11 = .ok (.iload_n 2, 1) := by decide +kernel
theorem dX4_isLeastOfItsKind_12 : decode cX4_isLeastOfItsKind 12 = .ok (.if_icmp .ge 21, 3) := by decide +kernel
theorem dX4_isLeastOfItsKind_15 : decode cX4_isLeastOfItsKind 15 = .ok (.aload_n 0, 1) := by decide +kernel
theorem dX4_isLeastOfItsKind_16 : decode cX4_isLeastOfItsKind 16 = .ok (.iload_n 3, 1) := by decide +kernel
theorem dX4_isLeastOfItsKind_17 : decode cX4_isLeastOfItsKind 17 = .ok (.iload_n 1, 1) := by decide +kernel
theorem dX4_isLeastOfItsKind_18 : decode cX4_isLeastOfItsKind 18 = .ok (.invokevirtual 115, 3) := by decide +kernel
theorem dX4_isLeastOfItsKind_21 : decode cX4_isLeastOfItsKind 21 = .ok (.iload_n 1, 1) := by decide +kernel
theorem dX4_isLeastOfItsKind_22 : decode cX4_isLeastOfItsKind 22 = .ok (.if_icmp .ge 5, 3) := by decide +kernel
theorem dX4_isLeastOfItsKind_25 : decode cX4_isLeastOfItsKind 25 = .ok (.iconst 0, 1) := by decide +kernel
theorem dX4_isLeastOfItsKind_26 : decode cX4_isLeastOfItsKind 26 = .ok (.ireturn, 1) := by decide +kernel
theorem dX4_isLeastOfItsKind_27 : decode cX4_isLeastOfItsKind 27 = .ok (.iinc 3 1, 3) := by decide +kernel
theorem dX4_isLeastOfItsKind_30 : decode cX4_isLeastOfItsKind 30 = .ok (.goto (-20), 3) := by decide +kernel
theorem dX4_isLeastOfItsKind_33 : decode cX4_isLeastOfItsKind 33 = .ok (.iconst 1, 1) := by decide +kernel
theorem dX4_isLeastOfItsKind_34 : decode cX4_isLeastOfItsKind 34 = .ok (.ireturn, 1) := by decide +kernel
set_option maxRecDepth 20000 in
theorem ggX4_exchangedBits_X0_exchanged : GoodIn wsX4_exchangedBits wsX0_exchanged := goodIn_r _ [6, 7, 8, 9, 10, 11, 12, 5, 13, 14, 15, 16, 17, 18, 19, 20, 21, 22, 23, 24, 25, 26, 27, 28, 39, 40, 41, 42] (by decide +kernel) (by decide +kernel)
set_option maxRecDepth 20000 in
theorem gX4_exchangedBits_X0_exchanged : GoodIn wsX4_exchangedBits (wsV RX4 119 RX0 yX0_exchanged wsX0_exchanged) := goodIn_app (goodIn_of _ (by decide +kernel)) ggX4_exchangedBits_X0_exchanged
theorem dX4_exchangedBits_0 : decode cX4_exchangedBits 0 = .ok (.iconst 0, 1) := by decide +kernel
theorem dX4_exchangedBits_1 : decode cX4_exchangedBits 1 = .ok (.istore_n 3, 1) := by decide +kernel
theorem dX4_exchangedBits_2 : decode cX4_exchangedBits 2 = .ok (.iconst 0, 1) := by decide +kernel
theorem dX4_exchangedBits_3 : decode cX4_exchangedBits 3 = .ok (.istore 4, 2) := by decide +kernel
theorem dX4_exchangedBits_5 : decode cX4_exchangedBits 5 = .ok (.iload 4, 2) := by decide +kernel
theorem dX4_exchangedBits_7 : decode cX4_exchangedBits 7 = .ok (.bipush 32, 2) := by decide +kernel
theorem dX4_exchangedBits_9 : decode cX4_exchangedBits 9 = .ok (.if_icmp .ge 34, 3) := by decide +kernel
theorem dX4_exchangedBits_12 : decode cX4_exchangedBits 12 = .ok (.iload_n 2, 1) := by decide +kernel
theorem dX4_exchangedBits_13 : decode cX4_exchangedBits 13 = .ok (.iload 4, 2) := by decide +kernel
theorem dX4_exchangedBits_15 : decode cX4_exchangedBits 15 = .ok (.iushr, 1) := by decide +kernel
theorem dX4_exchangedBits_16 : decode cX4_exchangedBits 16 = .ok (.iconst 1, 1) := by decide +kernel
theorem dX4_exchangedBits_17 : decode cX4_exchangedBits 17 = .ok (.iand, 1) := by decide +kernel
theorem dX4_exchangedBits_18 : decode cX4_exchangedBits 18 = .ok (.iconst 1, 1) := by decide +kernel
theorem dX4_exchangedBits_19 : decode cX4_exchangedBits 19 = .ok (.if_icmp .ne 18, 3) := by decide +kernel
theorem dX4_exchangedBits_22 : decode cX4_exchangedBits 22 = .ok (.iload_n 3, 1) := by decide +kernel
theorem dX4_exchangedBits_23 : decode cX4_exchangedBits 23 = .ok (.iconst 1, 1) := by decide +kernel
theorem dX4_exchangedBits_24 : decode cX4_exchangedBits 24 = .ok (.aload_n 0, 1) := by decide +kernel
theorem dX4_exchangedBits_25 : decode cX4_exchangedBits 25 = .ok (.getfield 9, 3) := by decide +kernel
theorem dX4_exchangedBits_28 : decode cX4_exchangedBits 28 = .ok (.iload_n 1, 1) := by decide +kernel
theorem dX4_exchangedBits_29 : decode cX4_exchangedBits 29 = .ok (.iload 4, 2) := by decide +kernel
theorem dX4_exchangedBits_31 : decode cX4_exchangedBits 31 = .ok (.invokevirtual 119, 3) := by decide +kernel
theorem dX4_exchangedBits_34 : decode cX4_exchangedBits 34 = .ok (.ishl, 1) := by decide +kernel
theorem dX4_exchangedBits_35 : decode cX4_exchangedBits 35 = .ok (.ior, 1) := by decide +kernel
theorem dX4_exchangedBits_36 : decode cX4_exchangedBits 36 = .ok (.istore_n 3, 1) := by decide +kernel
theorem dX4_exchangedBits_37 : decode cX4_exchangedBits 37 = .ok (.iinc 4 1, 3) := by decide +kernel
theorem dX4_exchangedBits_40 : decode cX4_exchangedBits 40 = .ok (.goto (-35), 3) := by decide +kernel
theorem dX4_exchangedBits_43 : decode cX4_exchangedBits 43 = .ok (.iload_n 3, 1) := by decide +kernel
theorem dX4_exchangedBits_44 : decode cX4_exchangedBits 44 = .ok (.ireturn, 1) := by decide +kernel
set_option maxRecDepth 20000 in
theorem ggX5_init_X8_fill : GoodIn wsX5_init wsX8_fill := goodIn_r _ [10] (by decide +kernel) (by decide +kernel)
set_option maxRecDepth 20000 in
theorem gX5_init_X8_fill : GoodIn wsX5_init (va_wsS RX5 16 yX8_fill wsX8_fill) := goodIn_app (goodIn_of _ (by decide +kernel)) ggX5_init_X8_fill
theorem dX5_init_0 : decode cX5_init 0 = .ok (.aload_n 0, 1) := by decide +kernel
theorem dX5_init_1 : decode cX5_init 1 = .ok (.invokespecial 1, 3) := by decide +kernel
theorem dX5_init_4 : decode cX5_init 4 = .ok (.aload_n 0, 1) := by decide +kernel
theorem dX5_init_5 : decode cX5_init 5 = .ok (.iconst 4, 1) := by decide +kernel
theorem dX5_init_6 : decode cX5_init 6 = .ok (.newarray .int, 2) := by decide +kernel
theorem dX5_init_8 : decode cX5_init 8 = .ok (.putfield 9, 3) := by decide +kernel
theorem dX5_init_11 : decode cX5_init 11 = .ok (.aload_n 0, 1) := by decide +kernel
theorem dX5_init_12 : decode cX5_init 12 = .ok (.bipush 48, 2) := by decide +kernel
theorem dX5_init_14 : decode cX5_init 14 = .ok (.newarray .int, 2) := by decide +kernel
theorem dX5_init_16 : decode cX5_init 16 = .ok (.putfield 13, 3) := by decide +kernel
theorem dX5_init_19 : decode cX5_init 19 = .ok (.aload_n 0, 1) := by decide +kernel
theorem dX5_init_20 : decode cX5_init 20 = .ok (.getfield 9, 3) := by decide +kernel
theorem dX5_init_23 : decode cX5_init 23 = .ok (.iconst (-1), 1) := by decide +kernel
theorem dX5_init_24 : decode cX5_init 24 = .ok (.invokestatic 16, 3) := by decide +kernel
theorem dX5_init_27 : decode cX5_init 27 = .ok (.return_, 1) := by decide +kernel
theorem dX5_isList_0 : decode cX5_isList 0 = .ok (.iload_n 0, 1) := by decide +kernel
theorem dX5_isList_1 : decode cX5_isList 1 = .ok (.ifCond .lt 12, 3) := by decide +kernel
theorem dX5_isList_4 : decode cX5_isList 4 = .ok (.iload_n 0, 1) := by decide +kernel
theorem dX5_isList_5 : decode cX5_isList 5 = .ok (.iconst 4, 1) := by decide +kernel
theorem dX5_isList_6 : decode cX5_isList 6 = .ok (.if_icmp .ge 7, 3) := by decide +kernel
theorem dX5_isList_9 : decode cX5_isList 9 = .ok (.iconst 1, 1) := by decide +kernel
theorem dX5_isList_10 : decode cX5_isList 10 = .ok (.goto 4, 3) := by decide +kernel
theorem dX5_isList_13 : decode cX5_isList 13 = .ok (.iconst 0, 1) := by decide +kernel
theorem dX5_isList_14 : decode cX5_isList 14 = .ok (.ireturn, 1) := by decide +kernel
set_option maxRecDepth 20000 in
theorem ggX5_length_X5_isList : GoodIn wsX5_length wsX5_isList := goodIn_r _ [5] (by decide +kernel) (by decide +kernel)
set_option maxRecDepth 20000 in
theorem gX5_length_X5_isList : GoodIn wsX5_length (va_wsS RX5 22 yX5_isList wsX5_isList) := goodIn_app (goodIn_of _ (by decide +kernel)) ggX5_length_X5_isList
set_option maxRecDepth 20000 in
theorem ggX5_length_X8_at : GoodIn wsX5_length wsX8_at := goodIn_r _ [9] (by decide +kernel) (by decide +kernel)
set_option maxRecDepth 20000 in
theorem gX5_length_X8_at : GoodIn wsX5_length (va_wsS RX5 26 yX8_at wsX8_at) := goodIn_app (goodIn_of _ (by decide +kernel)) ggX5_length_X8_at
theorem dX5_length_0 : decode cX5_length 0 = .ok (.iload_n 1, 1) := by decide +kernel
theorem dX5_length_1 : decode cX5_length 1 = .ok (.invokestatic 22, 3) := by decide +kernel
theorem dX5_length_4 : decode cX5_length 4 = .ok (.ifCond .eq 14, 3) := by decide +kernel
theorem dX5_length_7 : decode cX5_length 7 = .ok (.aload_n 0, 1) := by decide +kernel
theorem dX5_length_8 : decode cX5_length 8 = .ok (.getfield 9, 3) := by decide +kernel
theorem dX5_length_11 : decode cX5_length 11 = .ok (.iload_n 1, 1) := by decide +kernel
theorem dX5_length_12 : decode cX5_length 12 = .ok (.invokestatic 26, 3) := by decide +kernel
theorem dX5_length_15 : decode cX5_length 15 = .ok (.goto 4, 3) := by decide +kernel
theorem dX5_length_18 : decode cX5_length 18 = .ok (.iconst (-1), 1) := by decide +kernel
theorem dX5_length_19 : decode cX5_length 19 = .ok (.ireturn, 1) := by decide +kernel
set_option maxRecDepth 20000 in
theorem ggX5_at_X8_at : GoodIn wsX5_at wsX8_at := goodIn_r _ [5] (by decide +kernel) (by decide +kernel)
set_option maxRecDepth 20000 in
theorem gX5_at_X8_at : GoodIn wsX5_at (va_wsS RX5 26 yX8_at wsX8_at) := goodIn_app (goodIn_of _ (by decide +kernel)) ggX5_at_X8_at
theorem dX5_at_0 : decode cX5_at 0 = .ok (.aload_n 0, 1) := by decide +kernel
theorem dX5_at_1 : decode cX5_at 1 = .ok (.getfield 13, 3) := by decide +kernel
theorem dX5_at_4 : decode cX5_at 4 = .ok (.iload_n 1, 1) := by decide +kernel
theorem dX5_at_5 : decode cX5_at 5 = .ok (.bipush 12, 2) := by decide +kernel
theorem dX5_at_7 : decode cX5_at 7 = .ok (.imul, 1) := by decide +kernel
theorem dX5_at_8 : decode cX5_at 8 = .ok (.iload_n 2, 1) := by decide +kernel
theorem dX5_at_9 : decode cX5_at 9 = .ok (.iadd, 1) := by decide +kernel
theorem dX5_at_10 : decode cX5_at 10 = .ok (.invokestatic 26, 3) := by decide +kernel
theorem dX5_at_13 : decode cX5_at 13 = .ok (.ireturn, 1) := by decide +kernel
set_option maxRecDepth 20000 in
theorem ggX5_set_X8_set : GoodIn wsX5_set wsX8_set := goodIn_r _ [5] (by decide +kernel) (by decide +kernel)
set_option maxRecDepth 20000 in
theorem gX5_set_X8_set : GoodIn wsX5_set (va_wsS RX5 30 yX8_set wsX8_set) := goodIn_app (goodIn_of _ (by decide +kernel)) ggX5_set_X8_set
theorem dX5_set_0 : decode cX5_set 0 = .ok (.aload_n 0, 1) := by decide +kernel
theorem dX5_set_1 : decode cX5_set 1 = .ok (.getfield 13, 3) := by decide +kernel
theorem dX5_set_4 : decode cX5_set 4 = .ok (.iload_n 1, 1) := by decide +kernel
theorem dX5_set_5 : decode cX5_set 5 = .ok (.bipush 12, 2) := by decide +kernel
theorem dX5_set_7 : decode cX5_set 7 = .ok (.imul, 1) := by decide +kernel
theorem dX5_set_8 : decode cX5_set 8 = .ok (.iload_n 2, 1) := by decide +kernel
theorem dX5_set_9 : decode cX5_set 9 = .ok (.iadd, 1) := by decide +kernel
theorem dX5_set_10 : decode cX5_set 10 = .ok (.iload_n 3, 1) := by decide +kernel
theorem dX5_set_11 : decode cX5_set 11 = .ok (.invokestatic 30, 3) := by decide +kernel
theorem dX5_set_14 : decode cX5_set 14 = .ok (.return_, 1) := by decide +kernel
set_option maxRecDepth 20000 in
theorem ggX5_become_X8_set : GoodIn wsX5_become wsX8_set := goodIn_r _ [5] (by decide +kernel) (by decide +kernel)
set_option maxRecDepth 20000 in
theorem gX5_become_X8_set : GoodIn wsX5_become (va_wsS RX5 30 yX8_set wsX8_set) := goodIn_app (goodIn_of _ (by decide +kernel)) ggX5_become_X8_set
set_option maxRecDepth 20000 in
theorem ggX5_become_X5_set : GoodIn wsX5_become wsX5_set := goodIn_r _ [10, 11, 2, 3, 4, 5, 12, 13] (by decide +kernel) (by decide +kernel)
set_option maxRecDepth 20000 in
theorem gX5_become_X5_set : GoodIn wsX5_become (wsV RX5 34 RX5 yX5_set wsX5_set) := goodIn_app (goodIn_of _ (by decide +kernel)) ggX5_become_X5_set
theorem dX5_become_0 : decode cX5_become 0 = .ok (.aload_n 0, 1) := by decide +kernel
theorem dX5_become_1 : decode cX5_become 1 = .ok (.getfield 9, 3) := by decide +kernel
theorem dX5_become_4 : decode cX5_become 4 = .ok (.iload_n 1, 1) := by decide +kernel
theorem dX5_become_5 : decode cX5_become 5 = .ok (.iload_n 2, 1) := by decide +kernel
theorem dX5_become_6 : decode cX5_become 6 = .ok (.invokestatic 30, 3) := by decide +kernel
theorem dX5_become_9 : decode cX5_become 9 = .ok (.iconst 0, 1) := by decide +kernel
theorem dX5_become_10 : decode cX5_become 10 = .ok (.istore_n 3, 1) := by decide +kernel
theorem dX5_become_11 : decode cX5_become 11 = .ok (.iload_n 3, 1) := by decide +kernel
theorem dX5_become_12 : decode cX5_become 12 = .ok (.iload_n 2, 1) := by decide +kernel
theorem dX5_become_13 : decode cX5_become 13 = .ok (.if_icmp .ge 22, 3) := by decide +kernel
theorem dX5_become_16 : decode cX5_become 16 = .ok (.iload_n 3, 1) := by decide +kernel
theorem dX5_become_17 : decode cX5_become 17 = .ok (.bipush 12, 2) := by decide +kernel
theorem dX5_become_19 : decode cX5_become 19 = .ok (.if_icmp .ge 16, 3) := by decide +kernel
theorem dX5_become_22 : decode cX5_become 22 = .ok (.aload_n 0, 1) := by decide +kernel
theorem dX5_become_23 : decode cX5_become 23 = .ok (.iload_n 1, 1) := by decide +kernel
theorem dX5_become_24 : decode cX5_become 24 = .ok (.iload_n 3, 1) := by decide +kernel
theorem dX5_become_25 : decode cX5_become 25 = .ok (.iconst 0, 1) := by decide +kernel
theorem dX5_become_26 : decode cX5_become 26 = .ok (.invokevirtual 34, 3) := by decide +kernel
theorem dX5_become_29 : decode cX5_become 29 = .ok (.iinc 3 1, 3) := by decide +kernel
theorem dX5_become_32 : decode cX5_become 32 = .ok (.goto (-21), 3) := by decide +kernel
theorem dX5_become_35 : decode cX5_become 35 = .ok (.return_, 1) := by decide +kernel
theorem dX6_init_0 : decode cX6_init 0 = .ok (.aload_n 0, 1) := by decide +kernel
theorem dX6_init_1 : decode cX6_init 1 = .ok (.invokespecial 3, 3) := by decide +kernel
theorem dX6_init_4 : decode cX6_init 4 = .ok (.aload_n 0, 1) := by decide +kernel
theorem dX6_init_5 : decode cX6_init 5 = .ok (.sipush 1457, 3) := by decide +kernel
theorem dX6_init_8 : decode cX6_init 8 = .ok (.newarray .int, 2) := by decide +kernel
theorem dX6_init_10 : decode cX6_init 10 = .ok (.putfield 11, 3) := by decide +kernel
theorem dX6_init_13 : decode cX6_init 13 = .ok (.aload_n 0, 1) := by decide +kernel
theorem dX6_init_14 : decode cX6_init 14 = .ok (.iconst 0, 1) := by decide +kernel
theorem dX6_init_15 : decode cX6_init 15 = .ok (.putfield 15, 3) := by decide +kernel
theorem dX6_init_18 : decode cX6_init 18 = .ok (.return_, 1) := by decide +kernel
theorem dX6_total_0 : decode cX6_total 0 = .ok (.aload_n 0, 1) := by decide +kernel
theorem dX6_total_1 : decode cX6_total 1 = .ok (.getfield 15, 3) := by decide +kernel
theorem dX6_total_4 : decode cX6_total 4 = .ok (.ireturn, 1) := by decide +kernel
set_option maxRecDepth 20000 in
theorem ggX6_byteAt_X8_at : GoodIn wsX6_byteAt wsX8_at := goodIn_r _ [6] (by decide +kernel) (by decide +kernel)
set_option maxRecDepth 20000 in
theorem gX6_byteAt_X8_at : GoodIn wsX6_byteAt (va_wsS RX6 19 yX8_at wsX8_at) := goodIn_app (goodIn_of _ (by decide +kernel)) ggX6_byteAt_X8_at
theorem dX6_byteAt_0 : decode cX6_byteAt 0 = .ok (.iload_n 1, 1) := by decide +kernel
theorem dX6_byteAt_1 : decode cX6_byteAt 1 = .ok (.ifCond .lt 22, 3) := by decide +kernel
theorem dX6_byteAt_4 : decode cX6_byteAt 4 = .ok (.iload_n 1, 1) := by decide +kernel
theorem dX6_byteAt_5 : decode cX6_byteAt 5 = .ok (.aload_n 0, 1) := by decide +kernel
theorem dX6_byteAt_6 : decode cX6_byteAt 6 = .ok (.getfield 15, 3) := by decide +kernel
theorem dX6_byteAt_9 : decode cX6_byteAt 9 = .ok (.if_icmp .ge 14, 3) := by decide +kernel
theorem dX6_byteAt_12 : decode cX6_byteAt 12 = .ok (.aload_n 0, 1) := by decide +kernel
theorem dX6_byteAt_13 : decode cX6_byteAt 13 = .ok (.getfield 11, 3) := by decide +kernel
theorem dX6_byteAt_16 : decode cX6_byteAt 16 = .ok (.iload_n 1, 1) := by decide +kernel
theorem dX6_byteAt_17 : decode cX6_byteAt 17 = .ok (.invokestatic 19, 3) := by decide +kernel
theorem dX6_byteAt_20 : decode cX6_byteAt 20 = .ok (.goto 4, 3) := by decide +kernel
theorem dX6_byteAt_23 : decode cX6_byteAt 23 = .ok (.iconst (-1), 1) := by decide +kernel
theorem dX6_byteAt_24 : decode cX6_byteAt 24 = .ok (.ireturn, 1) := by decide +kernel
set_option maxRecDepth 20000 in
theorem ggX6_become_X1_total : GoodIn wsX6_become wsX1_total := goodIn_r _ [6, 7, 45, 46, 47, 48, 49, 50, 51] (by decide +kernel) (by decide +kernel)
set_option maxRecDepth 20000 in
theorem gX6_become_X1_total : GoodIn wsX6_become (wsV RX6 25 RX1 yX1_total wsX1_total) := goodIn_app (goodIn_of _ (by decide +kernel)) ggX6_become_X1_total
set_option maxRecDepth 20000 in
theorem ggX6_become_X6_append : GoodIn wsX6_become wsX6_append := goodIn_r _ [12, 1, 13, 14, 15, 16, 17, 43, 44] (by decide +kernel) (by decide +kernel)
set_option maxRecDepth 20000 in
theorem gX6_become_X6_append : GoodIn wsX6_become (wsV RX6 31 RX6 yX6_append wsX6_append) := goodIn_app (goodIn_of _ (by decide +kernel)) ggX6_become_X6_append
set_option maxRecDepth 20000 in
theorem ggX6_become_X1_nth : GoodIn wsX6_become wsX1_nth := goodIn_r _ [21, 22, 23, 24, 16, 25, 45, 46, 47, 48, 49, 50, 51] (by decide +kernel) (by decide +kernel)
set_option maxRecDepth 20000 in
theorem gX6_become_X1_nth : GoodIn wsX6_become (wsV RX6 44 RX1 yX1_nth wsX1_nth) := goodIn_app (goodIn_of _ (by decide +kernel)) ggX6_become_X1_nth
set_option maxRecDepth 20000 in
theorem ggX6_become_X0_part : GoodIn wsX6_become wsX0_part := goodIn_r _ [30, 31, 32, 33, 34, 29, 35, 36, 37, 38, 16, 39, 40, 41, 42, 52, 53, 54, 55] (by decide +kernel) (by decide +kernel)
set_option maxRecDepth 20000 in
theorem gX6_become_X0_part : GoodIn wsX6_become (wsV RX6 48 RX0 yX0_part wsX0_part) := goodIn_app (goodIn_of _ (by decide +kernel)) ggX6_become_X0_part
theorem dX6_become_0 : decode cX6_become 0 = .ok (.aload_n 0, 1) := by decide +kernel
theorem dX6_become_1 : decode cX6_become 1 = .ok (.iconst 0, 1) := by decide +kernel
theorem dX6_become_2 : decode cX6_become 2 = .ok (.putfield 15, 3) := by decide +kernel
theorem dX6_become_5 : decode cX6_become 5 = .ok (.iconst 0, 1) := by decide +kernel
theorem dX6_become_6 : decode cX6_become 6 = .ok (.istore_n 2, 1) := by decide +kernel
theorem dX6_become_7 : decode cX6_become 7 = .ok (.iload_n 2, 1) := by decide +kernel
theorem dX6_become_8 : decode cX6_become 8 = .ok (.aload_n 1, 1) := by decide +kernel
theorem dX6_become_9 : decode cX6_become 9 = .ok (.invokevirtual 25, 3) := by decide +kernel
theorem dX6_become_12 : decode cX6_become 12 = .ok (.if_icmp .ge 59, 3) := by decide +kernel
theorem dX6_become_15 : decode cX6_become 15 = .ok (.iload_n 2, 1) := by decide +kernel
theorem dX6_become_16 : decode cX6_become 16 = .ok (.ifCond .le 9, 3) := by decide +kernel
theorem dX6_become_19 : decode cX6_become 19 = .ok (.aload_n 0, 1) := by decide +kernel
theorem dX6_become_20 : decode cX6_become 20 = .ok (.bipush 32, 2) := by decide +kernel
theorem dX6_become_22 : decode cX6_become 22 = .ok (.invokevirtual 31, 3) := by decide +kernel
theorem dX6_become_25 : decode cX6_become 25 = .ok (.iconst 0, 1) := by decide +kernel
theorem dX6_become_26 : decode cX6_become 26 = .ok (.istore_n 3, 1) := by decide +kernel
theorem dX6_become_27 : decode cX6_become 27 = .ok (.iload_n 3, 1) := by decide +kernel
theorem dX6_become_28 : decode cX6_become 28 = .ok (.aload_n 1, 1) := by decide +kernel
theorem dX6_become_29 : decode cX6_become 29 = .ok (.getfield 35, 3) := by decide +kernel
theorem dX6_become_32 : decode cX6_become 32 = .ok (.getfield 39, 3) := by decide +kernel
theorem dX6_become_35 : decode cX6_become 35 = .ok (.if_icmp .ge 30, 3) := by decide +kernel
theorem dX6_become_38 : decode cX6_become 38 = .ok (.aload_n 0, 1) := by decide +kernel
theorem dX6_become_39 : decode cX6_become 39 = .ok (.bipush 97, 2) := by decide +kernel
theorem dX6_become_41 : decode cX6_become 41 = .ok (.aload_n 1, 1) := by decide +kernel
theorem dX6_become_42 : decode cX6_become 42 = .ok (.getfield 35, 3) := by decide +kernel
theorem dX6_become_45 : decode cX6_become 45 = .ok (.aload_n 1, 1) := by decide +kernel
theorem dX6_become_46 : decode cX6_become 46 = .ok (.iload_n 2, 1) := by decide +kernel
theorem dX6_become_47 : decode cX6_become 47 = .ok (.invokevirtual 44, 3) := by decide +kernel
theorem dX6_become_50 : decode cX6_become 50 = .ok (.iload_n 3, 1) := by decide +kernel
theorem dX6_become_51 : decode cX6_become 51 = .ok (.iconst 1, 1) := by decide +kernel
theorem dX6_become_52 : decode cX6_become 52 = .ok (.invokevirtual 48, 3) := by decide +kernel
theorem dX6_become_55 : decode cX6_become 55 = .ok (.iadd, 1) := by decide +kernel
theorem dX6_become_56 : decode cX6_become 56 = .ok (.invokevirtual 31, 3) := by decide +kernel
theorem dX6_become_59 : decode cX6_become 59 = .ok (.iinc 3 1, 3) := by decide +kernel
theorem dX6_become_62 : decode cX6_become 62 = .ok (.goto (-35), 3) := by decide +kernel
theorem dX6_become_65 : decode cX6_become 65 = .ok (.iinc 2 1, 3) := by decide +kernel
theorem dX6_become_68 : decode cX6_become 68 = .ok (.goto (-61), 3) := by decide +kernel
theorem dX6_become_71 : decode cX6_become 71 = .ok (.return_, 1) := by decide +kernel
set_option maxRecDepth 20000 in
theorem ggX6_append_X8_set : GoodIn wsX6_append wsX8_set := goodIn_r _ [6] (by decide +kernel) (by decide +kernel)
set_option maxRecDepth 20000 in
theorem gX6_append_X8_set : GoodIn wsX6_append (va_wsS RX6 52 yX8_set wsX8_set) := goodIn_app (goodIn_of _ (by decide +kernel)) ggX6_append_X8_set
theorem dX6_append_0 : decode cX6_append 0 = .ok (.aload_n 0, 1) := by decide +kernel
theorem dX6_append_1 : decode cX6_append 1 = .ok (.getfield 15, 3) := by decide +kernel
theorem dX6_append_4 : decode cX6_append 4 = .ok (.aload_n 0, 1) := by decide +kernel
theorem dX6_append_5 : decode cX6_append 5 = .ok (.getfield 11, 3) := by decide +kernel
theorem dX6_append_8 : decode cX6_append 8 = .ok (.arraylength, 1) := by decide +kernel
theorem dX6_append_9 : decode cX6_append 9 = .ok (.if_icmp .ge 25, 3) := by decide +kernel
theorem dX6_append_12 : decode cX6_append 12 = .ok (.aload_n 0, 1) := by decide +kernel
theorem dX6_append_13 : decode cX6_append 13 = .ok (.getfield 11, 3) := by decide +kernel
theorem dX6_append_16 : decode cX6_append 16 = .ok (.aload_n 0, 1) := by decide +kernel
theorem dX6_append_17 : decode cX6_append 17 = .ok (.getfield 15, 3) := by decide +kernel
theorem dX6_append_20 : decode cX6_append 20 = .ok (.iload_n 1, 1) := by decide +kernel
theorem dX6_append_21 : decode cX6_append 21 = .ok (.invokestatic 52, 3) := by decide +kernel
theorem dX6_append_24 : decode cX6_append 24 = .ok (.aload_n 0, 1) := by decide +kernel
theorem dX6_append_25 : decode cX6_append 25 = .ok (.dup, 1) := by decide +kernel
theorem dX6_append_26 : decode cX6_append 26 = .ok (.getfield 15, 3) := by decide +kernel
theorem dX6_append_29 : decode cX6_append 29 = .ok (.iconst 1, 1) := by decide +kernel
theorem dX6_append_30 : decode cX6_append 30 = .ok (.iadd, 1) := by decide +kernel
theorem dX6_append_31 : decode cX6_append 31 = .ok (.putfield 15, 3) := by decide +kernel
theorem dX6_append_34 : decode cX6_append 34 = .ok (.return_, 1) := by decide +kernel
theorem dX7_init_0 : decode cX7_init 0 = .ok (.aload_n 0, 1) := by decide +kernel
theorem dX7_init_1 : decode cX7_init 1 = .ok (.invokespecial 1, 3) := by decide +kernel
theorem dX7_init_4 : decode cX7_init 4 = .ok (.aload_n 0, 1) := by decide +kernel
theorem dX7_init_5 : decode cX7_init 5 = .ok (.aload_n 1, 1) := by decide +kernel
theorem dX7_init_6 : decode cX7_init 6 = .ok (.putfield 7, 3) := by decide +kernel
theorem dX7_init_9 : decode cX7_init 9 = .ok (.aload_n 0, 1) := by decide +kernel
theorem dX7_init_10 : decode cX7_init 10 = .ok (.bipush 8, 2) := by decide +kernel
theorem dX7_init_12 : decode cX7_init 12 = .ok (.newarray .int, 2) := by decide +kernel
theorem dX7_init_14 : decode cX7_init 14 = .ok (.putfield 13, 3) := by decide +kernel
theorem dX7_init_17 : decode cX7_init 17 = .ok (.aload_n 0, 1) := by decide +kernel
theorem dX7_init_18 : decode cX7_init 18 = .ok (.bipush 8, 2) := by decide +kernel
theorem dX7_init_20 : decode cX7_init 20 = .ok (.newarray .int, 2) := by decide +kernel
theorem dX7_init_22 : decode cX7_init 22 = .ok (.putfield 17, 3) := by decide +kernel
theorem dX7_init_25 : decode cX7_init 25 = .ok (.aload_n 0, 1) := by decide +kernel
theorem dX7_init_26 : decode cX7_init 26 = .ok (.iconst 0, 1) := by decide +kernel
theorem dX7_init_27 : decode cX7_init 27 = .ok (.putfield 20, 3) := by decide +kernel
theorem dX7_init_30 : decode cX7_init 30 = .ok (.return_, 1) := by decide +kernel
theorem dX7_total_0 : decode cX7_total 0 = .ok (.aload_n 0, 1) := by decide +kernel
theorem dX7_total_1 : decode cX7_total 1 = .ok (.getfield 20, 3) := by decide +kernel
theorem dX7_total_4 : decode cX7_total 4 = .ok (.ireturn, 1) := by decide +kernel
theorem dX7_empty_0 : decode cX7_empty 0 = .ok (.aload_n 0, 1) := by decide +kernel
theorem dX7_empty_1 : decode cX7_empty 1 = .ok (.iconst 0, 1) := by decide +kernel
theorem dX7_empty_2 : decode cX7_empty 2 = .ok (.putfield 20, 3) := by decide +kernel
theorem dX7_empty_5 : decode cX7_empty 5 = .ok (.return_, 1) := by decide +kernel
set_option maxRecDepth 20000 in
theorem ggX7_copyFrom_X8_copy : GoodIn wsX7_copyFrom wsX8_copy := goodIn_r _ [7] (by decide +kernel) (by decide +kernel)
set_option maxRecDepth 20000 in
theorem gX7_copyFrom_X8_copy : GoodIn wsX7_copyFrom (va_wsS RX7 24 yX8_copy wsX8_copy) := goodIn_app (goodIn_of _ (by decide +kernel)) ggX7_copyFrom_X8_copy
theorem dX7_copyFrom_0 : decode cX7_copyFrom 0 = .ok (.aload_n 0, 1) := by decide +kernel
theorem dX7_copyFrom_1 : decode cX7_copyFrom 1 = .ok (.aload_n 1, 1) := by decide +kernel
theorem dX7_copyFrom_2 : decode cX7_copyFrom 2 = .ok (.getfield 20, 3) := by decide +kernel
theorem dX7_copyFrom_5 : decode cX7_copyFrom 5 = .ok (.putfield 20, 3) := by decide +kernel
theorem dX7_copyFrom_8 : decode cX7_copyFrom 8 = .ok (.aload_n 1, 1) := by decide +kernel
theorem dX7_copyFrom_9 : decode cX7_copyFrom 9 = .ok (.getfield 13, 3) := by decide +kernel
theorem dX7_copyFrom_12 : decode cX7_copyFrom 12 = .ok (.aload_n 0, 1) := by decide +kernel
theorem dX7_copyFrom_13 : decode cX7_copyFrom 13 = .ok (.getfield 13, 3) := by decide +kernel
theorem dX7_copyFrom_16 : decode cX7_copyFrom 16 = .ok (.invokestatic 24, 3) := by decide +kernel
theorem dX7_copyFrom_19 : decode cX7_copyFrom 19 = .ok (.aload_n 1, 1) := by decide +kernel
theorem dX7_copyFrom_20 : decode cX7_copyFrom 20 = .ok (.getfield 17, 3) := by decide +kernel
theorem dX7_copyFrom_23 : decode cX7_copyFrom 23 = .ok (.aload_n 0, 1) := by decide +kernel
theorem dX7_copyFrom_24 : decode cX7_copyFrom 24 = .ok (.getfield 17, 3) := by decide +kernel
theorem dX7_copyFrom_27 : decode cX7_copyFrom 27 = .ok (.invokestatic 24, 3) := by decide +kernel
theorem dX7_copyFrom_30 : decode cX7_copyFrom 30 = .ok (.return_, 1) := by decide +kernel
set_option maxRecDepth 20000 in
theorem ggX7_append_X8_set : GoodIn wsX7_append wsX8_set := goodIn_r _ [7] (by decide +kernel) (by decide +kernel)
set_option maxRecDepth 20000 in
theorem gX7_append_X8_set : GoodIn wsX7_append (va_wsS RX7 30 yX8_set wsX8_set) := goodIn_app (goodIn_of _ (by decide +kernel)) ggX7_append_X8_set
theorem dX7_append_0 : decode cX7_append 0 = .ok (.aload_n 0, 1) := by decide +kernel
theorem dX7_append_1 : decode cX7_append 1 = .ok (.getfield 20, 3) := by decide +kernel
theorem dX7_append_4 : decode cX7_append 4 = .ok (.bipush 8, 2) := by decide +kernel
theorem dX7_append_6 : decode cX7_append 6 = .ok (.if_icmp .lt 5, 3) := by decide +kernel
theorem dX7_append_9 : decode cX7_append 9 = .ok (.iconst 0, 1) := by decide +kernel
theorem dX7_append_10 : decode cX7_append 10 = .ok (.ireturn, 1) := by decide +kernel
theorem dX7_append_11 : decode cX7_append 11 = .ok (.aload_n 0, 1) := by decide +kernel
theorem dX7_append_12 : decode cX7_append 12 = .ok (.getfield 13, 3) := by decide +kernel
theorem dX7_append_15 : decode cX7_append 15 = .ok (.aload_n 0, 1) := by decide +kernel
theorem dX7_append_16 : decode cX7_append 16 = .ok (.getfield 20, 3) := by decide +kernel
theorem dX7_append_19 : decode cX7_append 19 = .ok (.iload_n 1, 1) := by decide +kernel
theorem dX7_append_20 : decode cX7_append 20 = .ok (.invokestatic 30, 3) := by decide +kernel
theorem dX7_append_23 : decode cX7_append 23 = .ok (.aload_n 0, 1) := by decide +kernel
theorem dX7_append_24 : decode cX7_append 24 = .ok (.getfield 17, 3) := by decide +kernel
theorem dX7_append_27 : decode cX7_append 27 = .ok (.aload_n 0, 1) := by decide +kernel
theorem dX7_append_28 : decode cX7_append 28 = .ok (.getfield 20, 3) := by decide +kernel
theorem dX7_append_31 : decode cX7_append 31 = .ok (.iload_n 2, 1) := by decide +kernel
theorem dX7_append_32 : decode cX7_append 32 = .ok (.invokestatic 30, 3) := by decide +kernel
theorem dX7_append_35 : decode cX7_append 35 = .ok (.aload_n 0, 1) := by decide +kernel
theorem dX7_append_36 : decode cX7_append 36 = .ok (.dup, 1) := by decide +kernel
theorem dX7_append_37 : decode cX7_append 37 = .ok (.getfield 20, 3) := by decide +kernel
theorem dX7_append_40 : decode cX7_append 40 = .ok (.iconst 1, 1) := by decide +kernel
theorem dX7_append_41 : decode cX7_append 41 = .ok (.iadd, 1) := by decide +kernel
theorem dX7_append_42 : decode cX7_append 42 = .ok (.putfield 20, 3) := by decide +kernel
theorem dX7_append_45 : decode cX7_append 45 = .ok (.iconst 1, 1) := by decide +kernel
theorem dX7_append_46 : decode cX7_append 46 = .ok (.ireturn, 1) := by decide +kernel
set_option maxRecDepth 20000 in
theorem ggX7_doneTo_X8_at : GoodIn wsX7_doneTo wsX8_at := goodIn_r _ [7] (by decide +kernel) (by decide +kernel)
set_option maxRecDepth 20000 in
theorem gX7_doneTo_X8_at : GoodIn wsX7_doneTo (va_wsS RX7 34 yX8_at wsX8_at) := goodIn_app (goodIn_of _ (by decide +kernel)) ggX7_doneTo_X8_at
set_option maxRecDepth 20000 in
theorem ggX7_doneTo_X7_doRow : GoodIn wsX7_doneTo wsX7_doRow := goodIn_r _ [12, 13, 14, 15, 16, 17, 18, 19, 20, 21, 22, 23, 24, 25, 26, 27, 28, 29, 30, 31, 32, 33, 34, 35, 36, 37, 5, 6, 7, 38, 39, 40, 41, 42, 43, 44, 45, 46, 47, 48, 49, 50, 51, 52, 53, 54, 55, 56, 57, 58, 59, 60, 61, 62, 63, 64, 65, 66, 67, 68, 69, 70, 71, 72, 73, 74, 75, 76, 77, 78, 79, 80, 81, 82, 83, 84, 85, 86, 87, 88, 89, 90, 91, 92, 93, 94, 95, 96, 97, 98, 99, 100, 101, 102, 103, 104, 105, 106, 107, 108, 109, 110, 111, 112, 113, 114, 115, 116, 117, 118, 119, 120, 121, 122, 123, 124, 125, 126, 127, 128, 129, 130, 131, 132, 133, 134] (by decide +kernel) (by decide +kernel)
set_option maxRecDepth 20000 in
theorem gX7_doneTo_X7_doRow : GoodIn wsX7_doneTo (wsV RX7 38 RX7 yX7_doRow wsX7_doRow) := goodIn_app (goodIn_of _ (by decide +kernel)) ggX7_doneTo_X7_doRow
theorem dX7_doneTo_0 : decode cX7_doneTo 0 = .ok (.iconst 0, 1) := by decide +kernel
theorem dX7_doneTo_1 : decode cX7_doneTo 1 = .ok (.istore_n 2, 1) := by decide +kernel
theorem dX7_doneTo_2 : decode cX7_doneTo 2 = .ok (.iload_n 2, 1) := by decide +kernel
theorem dX7_doneTo_3 : decode cX7_doneTo 3 = .ok (.aload_n 0, 1) := by decide +kernel
theorem dX7_doneTo_4 : decode cX7_doneTo 4 = .ok (.getfield 20, 3) := by decide +kernel
theorem dX7_doneTo_7 : decode cX7_doneTo 7 = .ok (.if_icmp .ge 30, 3) := by decide +kernel
theorem dX7_doneTo_10 : decode cX7_doneTo 10 = .ok (.aload_n 0, 1) := by decide +kernel
theorem dX7_doneTo_11 : decode cX7_doneTo 11 = .ok (.aload_n 1, 1) := by decide +kernel
theorem dX7_doneTo_12 : decode cX7_doneTo 12 = .ok (.aload_n 0, 1) := by decide +kernel
theorem dX7_doneTo_13 : decode cX7_doneTo 13 = .ok (.getfield 13, 3) := by decide +kernel
theorem dX7_doneTo_16 : decode cX7_doneTo 16 = .ok (.iload_n 2, 1) := by decide +kernel
theorem dX7_doneTo_17 : decode cX7_doneTo 17 = .ok (.invokestatic 34, 3) := by decide +kernel
theorem dX7_doneTo_20 : decode cX7_doneTo 20 = .ok (.aload_n 0, 1) := by decide +kernel
theorem dX7_doneTo_21 : decode cX7_doneTo 21 = .ok (.getfield 17, 3) := by decide +kernel
theorem dX7_doneTo_24 : decode cX7_doneTo 24 = .ok (.iload_n 2, 1) := by decide +kernel
theorem dX7_doneTo_25 : decode cX7_doneTo 25 = .ok (.invokestatic 34, 3) := by decide +kernel
theorem dX7_doneTo_28 : decode cX7_doneTo 28 = .ok (.invokevirtual 38, 3) := by decide +kernel
theorem dX7_doneTo_31 : decode cX7_doneTo 31 = .ok (.iinc 2 1, 3) := by decide +kernel
theorem dX7_doneTo_34 : decode cX7_doneTo 34 = .ok (.goto (-32), 3) := by decide +kernel
theorem dX7_doneTo_37 : decode cX7_doneTo 37 = .ok (.return_, 1) := by decide +kernel
set_option maxRecDepth 20000 in
theorem ggX7_doRow_X1_include : GoodIn wsX7_doRow wsX1_include := goodIn_r _ [6, 7, 8, 9, 10, 11, 12, 13, 14, 15, 16, 17, 18, 5, 19, 20, 21, 22, 23, 24, 25, 26, 27, 28, 29, 30, 31, 32, 33, 34, 35, 36, 37, 38, 39, 40, 41, 42, 43, 44, 45, 46, 47, 48, 49, 50, 51, 52, 53, 54, 55, 56, 57, 58, 59, 60, 61, 62, 115, 116, 117, 118, 119, 120, 121, 122, 123, 124, 125] (by decide +kernel) (by decide +kernel)
set_option maxRecDepth 20000 in
theorem gX7_doRow_X1_include : GoodIn wsX7_doRow (wsV RX7 42 RX1 yX1_include wsX1_include) := goodIn_app (goodIn_of _ (by decide +kernel)) ggX7_doRow_X1_include
set_option maxRecDepth 20000 in
theorem ggX7_doRow_X1_exclude : GoodIn wsX7_doRow wsX1_exclude := goodIn_r _ [66, 8, 9, 16, 17, 18, 5, 19, 20, 21, 22, 23, 24, 25, 26, 27, 28, 29, 30, 31, 32, 33, 34, 35, 36, 37, 38, 39, 7, 40, 41, 42, 43, 44, 13, 45, 46, 47, 48, 49, 50, 51, 52, 53, 54, 55, 56, 57, 58, 59, 60, 61, 62, 115, 116, 117, 118, 119, 120, 121, 122, 123, 124, 125] (by decide +kernel) (by decide +kernel)
set_option maxRecDepth 20000 in
theorem gX7_doRow_X1_exclude : GoodIn wsX7_doRow (wsV RX7 48 RX1 yX1_exclude wsX1_exclude) := goodIn_app (goodIn_of _ (by decide +kernel)) ggX7_doRow_X1_exclude
set_option maxRecDepth 20000 in
theorem ggX7_doRow_X0_isSwap : GoodIn wsX7_doRow wsX0_isSwap := goodIn_r _ [70, 71, 72, 73, 13, 74, 75, 122, 123, 124, 125] (by decide +kernel) (by decide +kernel)
set_option maxRecDepth 20000 in
theorem gX7_doRow_X0_isSwap : GoodIn wsX7_doRow (wsV RX7 51 RX0 yX0_isSwap wsX0_isSwap) := goodIn_app (goodIn_of _ (by decide +kernel)) ggX7_doRow_X0_isSwap
set_option maxRecDepth 20000 in
theorem ggX7_doRow_X1_exchange : GoodIn wsX7_doRow wsX1_exchange := goodIn_r _ [79, 8, 80, 7, 21, 22, 23, 5, 24, 9, 25, 26, 27, 28, 81, 82, 83, 13, 84, 75, 51, 85, 86, 87, 88, 89, 52, 43, 44, 45, 46, 53, 54, 55, 60, 61, 62, 90, 91, 92, 93, 94, 40, 41, 32, 33, 34, 35, 20, 95, 96, 97, 98, 3, 4, 6, 10, 11, 12, 14, 15, 16, 17, 18, 19, 29, 30, 31, 36, 37, 38, 39, 42, 47, 48, 49, 50, 56, 57, 58, 59, 115, 116, 117, 118, 119, 120, 121, 122, 123, 124, 125] (by decide +kernel) (by decide +kernel)
set_option maxRecDepth 20000 in
theorem gX7_doRow_X1_exchange : GoodIn wsX7_doRow (wsV RX7 56 RX1 yX1_exchange wsX1_exchange) := goodIn_app (goodIn_of _ (by decide +kernel)) ggX7_doRow_X1_exchange
set_option maxRecDepth 20000 in
theorem ggX7_doRow_X1_allows : GoodIn wsX7_doRow wsX1_allows := goodIn_r _ [102, 7, 10, 11, 12, 13, 14, 15, 16, 17, 18, 5, 19, 20, 36, 37, 38, 39, 40, 41, 42, 43, 44, 45, 46, 47, 48, 49, 50, 51, 52, 53, 54, 27, 55, 56, 57, 58, 59, 60, 61, 62, 25, 26, 28, 29, 30, 31, 103, 104, 105, 106, 107, 108, 109, 110, 8, 21, 22, 23, 24, 9, 115, 116, 117, 118, 119, 120, 121, 122, 123, 124, 125] (by decide +kernel) (by decide +kernel)
set_option maxRecDepth 20000 in
theorem gX7_doRow_X1_allows : GoodIn wsX7_doRow (wsV RX7 60 RX1 yX1_allows wsX1_allows) := goodIn_app (goodIn_of _ (by decide +kernel)) ggX7_doRow_X1_allows
theorem dX7_doRow_0 : decode cX7_doRow 0 = .ok (.iload_n 2, 1) := by decide +kernel
theorem dX7_doRow_1 : decode cX7_doRow 1 = .ok (.ifCond .ne 12, 3) := by decide +kernel
theorem dX7_doRow_4 : decode cX7_doRow 4 = .ok (.aload_n 1, 1) := by decide +kernel
theorem dX7_doRow_5 : decode cX7_doRow 5 = .ok (.iload_n 3, 1) := by decide +kernel
theorem dX7_doRow_6 : decode cX7_doRow 6 = .ok (.invokevirtual 42, 3) := by decide +kernel
theorem dX7_doRow_9 : decode cX7_doRow 9 = .ok (.pop, 1) := by decide +kernel
theorem dX7_doRow_10 : decode cX7_doRow 10 = .ok (.goto 55, 3) := by decide +kernel
theorem dX7_doRow_13 : decode cX7_doRow 13 = .ok (.iload_n 2, 1) := by decide +kernel
theorem dX7_doRow_14 : decode cX7_doRow 14 = .ok (.iconst 1, 1) := by decide +kernel
theorem dX7_doRow_15 : decode cX7_doRow 15 = .ok (.if_icmp .ne 12, 3) := by decide +kernel
theorem dX7_doRow_18 : decode cX7_doRow 18 = .ok (.aload_n 1, 1) := by decide +kernel
theorem dX7_doRow_19 : decode cX7_doRow 19 = .ok (.iload_n 3, 1) := by decide +kernel
theorem dX7_doRow_20 : decode cX7_doRow 20 = .ok (.invokevirtual 48, 3) := by decide +kernel
theorem dX7_doRow_23 : decode cX7_doRow 23 = .ok (.pop, 1) := by decide +kernel
theorem dX7_doRow_24 : decode cX7_doRow 24 = .ok (.goto 41, 3) := by decide +kernel
theorem dX7_doRow_27 : decode cX7_doRow 27 = .ok (.iload_n 2, 1) := by decide +kernel
theorem dX7_doRow_28 : decode cX7_doRow 28 = .ok (.iconst 2, 1) := by decide +kernel
theorem dX7_doRow_29 : decode cX7_doRow 29 = .ok (.if_icmp .ne 22, 3) := by decide +kernel
theorem dX7_doRow_32 : decode cX7_doRow 32 = .ok (.aload_n 0, 1) := by decide +kernel
theorem dX7_doRow_33 : decode cX7_doRow 33 = .ok (.getfield 7, 3) := by decide +kernel
theorem dX7_doRow_36 : decode cX7_doRow 36 = .ok (.iload_n 3, 1) := by decide +kernel
theorem dX7_doRow_37 : decode cX7_doRow 37 = .ok (.invokevirtual 51, 3) := by decide +kernel
theorem dX7_doRow_40 : decode cX7_doRow 40 = .ok (.ifCond .eq 25, 3) := by decide +kernel
theorem dX7_doRow_43 : decode cX7_doRow 43 = .ok (.aload_n 1, 1) := by decide +kernel
theorem dX7_doRow_44 : decode cX7_doRow 44 = .ok (.iload_n 3, 1) := by decide +kernel
theorem dX7_doRow_45 : decode cX7_doRow 45 = .ok (.invokevirtual 56, 3) := by decide +kernel
theorem dX7_doRow_48 : decode cX7_doRow 48 = .ok (.goto 17, 3) := by decide +kernel
theorem dX7_doRow_51 : decode cX7_doRow 51 = .ok (.aload_n 1, 1) := by decide +kernel
theorem dX7_doRow_52 : decode cX7_doRow 52 = .ok (.iload_n 3, 1) := by decide +kernel
theorem dX7_doRow_53 : decode cX7_doRow 53 = .ok (.invokevirtual 60, 3) := by decide +kernel
theorem dX7_doRow_56 : decode cX7_doRow 56 = .ok (.ifCond .eq 9, 3) := by decide +kernel
theorem dX7_doRow_59 : decode cX7_doRow 59 = .ok (.aload_n 1, 1) := by decide +kernel
theorem dX7_doRow_60 : decode cX7_doRow 60 = .ok (.iload_n 3, 1) := by decide +kernel
theorem dX7_doRow_61 : decode cX7_doRow 61 = .ok (.invokevirtual 42, 3) := by decide +kernel
theorem dX7_doRow_64 : decode cX7_doRow 64 = .ok (.pop, 1) := by decide +kernel
theorem dX7_doRow_65 : decode cX7_doRow 65 = .ok (.return_, 1) := by decide +kernel
theorem dX8_at_0 : decode cX8_at 0 = .ok (.iload_n 1, 1) := by decide +kernel
theorem dX8_at_1 : decode cX8_at 1 = .ok (.ifCond .lt 15, 3) := by decide +kernel
theorem dX8_at_4 : decode cX8_at 4 = .ok (.iload_n 1, 1) := by decide +kernel
theorem dX8_at_5 : decode cX8_at 5 = .ok (.aload_n 0, 1) := by decide +kernel
theorem dX8_at_6 : decode cX8_at 6 = .ok (.arraylength, 1) := by decide +kernel
theorem dX8_at_7 : decode cX8_at 7 = .ok (.if_icmp .ge 9, 3) := by decide +kernel
theorem dX8_at_10 : decode cX8_at 10 = .ok (.aload_n 0, 1) := by decide +kernel
theorem dX8_at_11 : decode cX8_at 11 = .ok (.iload_n 1, 1) := by decide +kernel
theorem dX8_at_12 : decode cX8_at 12 = .ok (.iaload, 1) := by decide +kernel
theorem dX8_at_13 : decode cX8_at 13 = .ok (.goto 4, 3) := by decide +kernel
theorem dX8_at_16 : decode cX8_at 16 = .ok (.iconst 0, 1) := by decide +kernel
theorem dX8_at_17 : decode cX8_at 17 = .ok (.ireturn, 1) := by decide +kernel
theorem dX8_set_0 : decode cX8_set 0 = .ok (.iload_n 1, 1) := by decide +kernel
theorem dX8_set_1 : decode cX8_set 1 = .ok (.ifCond .lt 13, 3) := by decide +kernel
theorem dX8_set_4 : decode cX8_set 4 = .ok (.iload_n 1, 1) := by decide +kernel
theorem dX8_set_5 : decode cX8_set 5 = .ok (.aload_n 0, 1) := by decide +kernel
theorem dX8_set_6 : decode cX8_set 6 = .ok (.arraylength, 1) := by decide +kernel
theorem dX8_set_7 : decode cX8_set 7 = .ok (.if_icmp .ge 7, 3) := by decide +kernel
theorem dX8_set_10 : decode cX8_set 10 = .ok (.aload_n 0, 1) := by decide +kernel
theorem dX8_set_11 : decode cX8_set 11 = .ok (.iload_n 1, 1) := by decide +kernel
theorem dX8_set_12 : decode cX8_set 12 = .ok (.iload_n 2, 1) := by decide +kernel
theorem dX8_set_13 : decode cX8_set 13 = .ok (.iastore, 1) := by decide +kernel
theorem dX8_set_14 : decode cX8_set 14 = .ok (.return_, 1) := by decide +kernel
theorem dX8_fill_0 : decode cX8_fill 0 = .ok (.iconst 0, 1) := by decide +kernel
theorem dX8_fill_1 : decode cX8_fill 1 = .ok (.istore_n 2, 1) := by decide +kernel
theorem dX8_fill_2 : decode cX8_fill 2 = .ok (.iload_n 2, 1) := by decide +kernel
theorem dX8_fill_3 : decode cX8_fill 3 = .ok (.aload_n 0, 1) := by decide +kernel
theorem dX8_fill_4 : decode cX8_fill 4 = .ok (.arraylength, 1) := by decide +kernel
theorem dX8_fill_5 : decode cX8_fill 5 = .ok (.if_icmp .ge 13, 3) := by decide +kernel
theorem dX8_fill_8 : decode cX8_fill 8 = .ok (.aload_n 0, 1) := by decide +kernel
theorem dX8_fill_9 : decode cX8_fill 9 = .ok (.iload_n 2, 1) := by decide +kernel
theorem dX8_fill_10 : decode cX8_fill 10 = .ok (.iload_n 1, 1) := by decide +kernel
theorem dX8_fill_11 : decode cX8_fill 11 = .ok (.iastore, 1) := by decide +kernel
theorem dX8_fill_12 : decode cX8_fill 12 = .ok (.iinc 2 1, 3) := by decide +kernel
theorem dX8_fill_15 : decode cX8_fill 15 = .ok (.goto (-13), 3) := by decide +kernel
theorem dX8_fill_18 : decode cX8_fill 18 = .ok (.return_, 1) := by decide +kernel
theorem dX8_copy_0 : decode cX8_copy 0 = .ok (.iconst 0, 1) := by decide +kernel
theorem dX8_copy_1 : decode cX8_copy 1 = .ok (.istore_n 2, 1) := by decide +kernel
theorem dX8_copy_2 : decode cX8_copy 2 = .ok (.iload_n 2, 1) := by decide +kernel
theorem dX8_copy_3 : decode cX8_copy 3 = .ok (.aload_n 0, 1) := by decide +kernel
theorem dX8_copy_4 : decode cX8_copy 4 = .ok (.arraylength, 1) := by decide +kernel
theorem dX8_copy_5 : decode cX8_copy 5 = .ok (.if_icmp .ge 21, 3) := by decide +kernel
theorem dX8_copy_8 : decode cX8_copy 8 = .ok (.iload_n 2, 1) := by decide +kernel
theorem dX8_copy_9 : decode cX8_copy 9 = .ok (.aload_n 1, 1) := by decide +kernel
theorem dX8_copy_10 : decode cX8_copy 10 = .ok (.arraylength, 1) := by decide +kernel
theorem dX8_copy_11 : decode cX8_copy 11 = .ok (.if_icmp .ge 15, 3) := by decide +kernel
theorem dX8_copy_14 : decode cX8_copy 14 = .ok (.aload_n 1, 1) := by decide +kernel
theorem dX8_copy_15 : decode cX8_copy 15 = .ok (.iload_n 2, 1) := by decide +kernel
theorem dX8_copy_16 : decode cX8_copy 16 = .ok (.aload_n 0, 1) := by decide +kernel
theorem dX8_copy_17 : decode cX8_copy 17 = .ok (.iload_n 2, 1) := by decide +kernel
theorem dX8_copy_18 : decode cX8_copy 18 = .ok (.iaload, 1) := by decide +kernel
theorem dX8_copy_19 : decode cX8_copy 19 = .ok (.iastore, 1) := by decide +kernel
theorem dX8_copy_20 : decode cX8_copy 20 = .ok (.iinc 2 1, 3) := by decide +kernel
theorem dX8_copy_23 : decode cX8_copy 23 = .ok (.goto (-21), 3) := by decide +kernel
theorem dX8_copy_26 : decode cX8_copy 26 = .ok (.return_, 1) := by decide +kernel
theorem dX8_over_0 : decode cX8_over 0 = .ok (.iload_n 1, 1) := by decide +kernel
theorem dX8_over_1 : decode cX8_over 1 = .ok (.ifCond .le 9, 3) := by decide +kernel
theorem dX8_over_4 : decode cX8_over 4 = .ok (.iload_n 0, 1) := by decide +kernel
theorem dX8_over_5 : decode cX8_over 5 = .ok (.iload_n 1, 1) := by decide +kernel
theorem dX8_over_6 : decode cX8_over 6 = .ok (.idiv, 1) := by decide +kernel
theorem dX8_over_7 : decode cX8_over 7 = .ok (.goto 4, 3) := by decide +kernel
theorem dX8_over_10 : decode cX8_over 10 = .ok (.iconst 0, 1) := by decide +kernel
theorem dX8_over_11 : decode cX8_over 11 = .ok (.ireturn, 1) := by decide +kernel
theorem dX8_rest_0 : decode cX8_rest 0 = .ok (.iload_n 1, 1) := by decide +kernel
theorem dX8_rest_1 : decode cX8_rest 1 = .ok (.ifCond .le 9, 3) := by decide +kernel
theorem dX8_rest_4 : decode cX8_rest 4 = .ok (.iload_n 0, 1) := by decide +kernel
theorem dX8_rest_5 : decode cX8_rest 5 = .ok (.iload_n 1, 1) := by decide +kernel
theorem dX8_rest_6 : decode cX8_rest 6 = .ok (.irem, 1) := by decide +kernel
theorem dX8_rest_7 : decode cX8_rest 7 = .ok (.goto 4, 3) := by decide +kernel
theorem dX8_rest_10 : decode cX8_rest 10 = .ok (.iconst 0, 1) := by decide +kernel
theorem dX8_rest_11 : decode cX8_rest 11 = .ok (.ireturn, 1) := by decide +kernel
set_option maxRecDepth 20000 in
theorem ggX8_commonDivisor_X8_rest : GoodIn wsX8_commonDivisor wsX8_rest := goodIn_r _ [8] (by decide +kernel) (by decide +kernel)
set_option maxRecDepth 20000 in
theorem gX8_commonDivisor_X8_rest : GoodIn wsX8_commonDivisor (va_wsS RX8 13 yX8_rest wsX8_rest) := goodIn_app (goodIn_of _ (by decide +kernel)) ggX8_commonDivisor_X8_rest
theorem dX8_commonDivisor_0 : decode cX8_commonDivisor 0 = .ok (.iload_n 0, 1) := by decide +kernel
theorem dX8_commonDivisor_1 : decode cX8_commonDivisor 1 = .ok (.iload_n 1, 1) := by decide +kernel
theorem dX8_commonDivisor_2 : decode cX8_commonDivisor 2 = .ok (.invokestatic 7, 3) := by decide +kernel
theorem dX8_commonDivisor_5 : decode cX8_commonDivisor 5 = .ok (.istore_n 2, 1) := by decide +kernel
theorem dX8_commonDivisor_6 : decode cX8_commonDivisor 6 = .ok (.iload_n 2, 1) := by decide +kernel
theorem dX8_commonDivisor_7 : decode cX8_commonDivisor 7 = .ok (.iconst 1, 1) := by decide +kernel
theorem dX8_commonDivisor_8 : decode cX8_commonDivisor 8 = .ok (.if_icmp .le 27, 3) := by decide +kernel
theorem dX8_commonDivisor_11 : decode cX8_commonDivisor 11 = .ok (.iload_n 0, 1) := by decide +kernel
theorem dX8_commonDivisor_12 : decode cX8_commonDivisor 12 = .ok (.iload_n 2, 1) := by decide +kernel
theorem dX8_commonDivisor_13 : decode cX8_commonDivisor 13 = .ok (.invokestatic 13, 3) := by decide +kernel
theorem dX8_commonDivisor_16 : decode cX8_commonDivisor 16 = .ok (.ifCond .ne 13, 3) := by decide +kernel
theorem dX8_commonDivisor_19 : decode cX8_commonDivisor 19 = .ok (.iload_n 1, 1) := by decide +kernel
theorem dX8_commonDivisor_20 : decode cX8_commonDivisor 20 = .ok (.iload_n 2, 1) := by decide +kernel
theorem dX8_commonDivisor_21 : decode cX8_commonDivisor 21 = .ok (.invokestatic 13, 3) := by decide +kernel
theorem dX8_commonDivisor_24 : decode cX8_commonDivisor 24 = .ok (.ifCond .ne 5, 3) := by decide +kernel
theorem dX8_commonDivisor_27 : decode cX8_commonDivisor 27 = .ok (.iload_n 2, 1) := by decide +kernel
theorem dX8_commonDivisor_28 : decode cX8_commonDivisor 28 = .ok (.ireturn, 1) := by decide +kernel
theorem dX8_commonDivisor_29 : decode cX8_commonDivisor 29 = .ok (.iinc 2 (-1), 3) := by decide +kernel
theorem dX8_commonDivisor_32 : decode cX8_commonDivisor 32 = .ok (.goto (-26), 3) := by decide +kernel
theorem dX8_commonDivisor_35 : decode cX8_commonDivisor 35 = .ok (.iconst 1, 1) := by decide +kernel
theorem dX8_commonDivisor_36 : decode cX8_commonDivisor 36 = .ok (.ireturn, 1) := by decide +kernel
theorem dX9_init_0 : decode cX9_init 0 = .ok (.aload_n 0, 1) := by decide +kernel
theorem dX9_init_1 : decode cX9_init 1 = .ok (.invokespecial 3, 3) := by decide +kernel
theorem dX9_init_4 : decode cX9_init 4 = .ok (.aload_n 0, 1) := by decide +kernel
theorem dX9_init_5 : decode cX9_init 5 = .ok (.aload_n 1, 1) := by decide +kernel
theorem dX9_init_6 : decode cX9_init 6 = .ok (.putfield 9, 3) := by decide +kernel
theorem dX9_init_9 : decode cX9_init 9 = .ok (.aload_n 0, 1) := by decide +kernel
theorem dX9_init_10 : decode cX9_init 10 = .ok (.bipush 40, 2) := by decide +kernel
theorem dX9_init_12 : decode cX9_init 12 = .ok (.newarray .int, 2) := by decide +kernel
theorem dX9_init_14 : decode cX9_init 14 = .ok (.putfield 15, 3) := by decide +kernel
theorem dX9_init_17 : decode cX9_init 17 = .ok (.aload_n 0, 1) := by decide +kernel
theorem dX9_init_18 : decode cX9_init 18 = .ok (.iconst 5, 1) := by decide +kernel
theorem dX9_init_19 : decode cX9_init 19 = .ok (.newarray .int, 2) := by decide +kernel
theorem dX9_init_21 : decode cX9_init 21 = .ok (.putfield 19, 3) := by decide +kernel
theorem dX9_init_24 : decode cX9_init 24 = .ok (.aload_n 0, 1) := by decide +kernel
theorem dX9_init_25 : decode cX9_init 25 = .ok (.iconst 0, 1) := by decide +kernel
theorem dX9_init_26 : decode cX9_init 26 = .ok (.putfield 22, 3) := by decide +kernel
theorem dX9_init_29 : decode cX9_init 29 = .ok (.return_, 1) := by decide +kernel
theorem dX9_total_0 : decode cX9_total 0 = .ok (.aload_n 0, 1) := by decide +kernel
theorem dX9_total_1 : decode cX9_total 1 = .ok (.getfield 22, 3) := by decide +kernel
theorem dX9_total_4 : decode cX9_total 4 = .ok (.ireturn, 1) := by decide +kernel
theorem dX9_room_0 : decode cX9_room 0 = .ok (.bipush 40, 2) := by decide +kernel
theorem dX9_room_2 : decode cX9_room 2 = .ok (.aload_n 0, 1) := by decide +kernel
theorem dX9_room_3 : decode cX9_room 3 = .ok (.getfield 22, 3) := by decide +kernel
theorem dX9_room_6 : decode cX9_room 6 = .ok (.isub, 1) := by decide +kernel
theorem dX9_room_7 : decode cX9_room 7 = .ok (.ireturn, 1) := by decide +kernel
theorem dX9_empty_0 : decode cX9_empty 0 = .ok (.aload_n 0, 1) := by decide +kernel
theorem dX9_empty_1 : decode cX9_empty 1 = .ok (.iconst 0, 1) := by decide +kernel
theorem dX9_empty_2 : decode cX9_empty 2 = .ok (.putfield 22, 3) := by decide +kernel
theorem dX9_empty_5 : decode cX9_empty 5 = .ok (.return_, 1) := by decide +kernel
set_option maxRecDepth 20000 in
theorem ggX9_copyFrom_X8_copy : GoodIn wsX9_copyFrom wsX8_copy := goodIn_r _ [6] (by decide +kernel) (by decide +kernel)
set_option maxRecDepth 20000 in
theorem gX9_copyFrom_X8_copy : GoodIn wsX9_copyFrom (va_wsS RX9 26 yX8_copy wsX8_copy) := goodIn_app (goodIn_of _ (by decide +kernel)) ggX9_copyFrom_X8_copy
theorem dX9_copyFrom_0 : decode cX9_copyFrom 0 = .ok (.aload_n 0, 1) := by decide +kernel
theorem dX9_copyFrom_1 : decode cX9_copyFrom 1 = .ok (.aload_n 1, 1) := by decide +kernel
theorem dX9_copyFrom_2 : decode cX9_copyFrom 2 = .ok (.getfield 22, 3) := by decide +kernel
theorem dX9_copyFrom_5 : decode cX9_copyFrom 5 = .ok (.putfield 22, 3) := by decide +kernel
theorem dX9_copyFrom_8 : decode cX9_copyFrom 8 = .ok (.aload_n 1, 1) := by decide +kernel
theorem dX9_copyFrom_9 : decode cX9_copyFrom 9 = .ok (.getfield 15, 3) := by decide +kernel
theorem dX9_copyFrom_12 : decode cX9_copyFrom 12 = .ok (.aload_n 0, 1) := by decide +kernel
theorem dX9_copyFrom_13 : decode cX9_copyFrom 13 = .ok (.getfield 15, 3) := by decide +kernel
theorem dX9_copyFrom_16 : decode cX9_copyFrom 16 = .ok (.invokestatic 26, 3) := by decide +kernel
theorem dX9_copyFrom_19 : decode cX9_copyFrom 19 = .ok (.return_, 1) := by decide +kernel
set_option maxRecDepth 20000 in
theorem ggX9_append_X9_room : GoodIn wsX9_append wsX9_room := goodIn_r _ [7, 2, 12, 13, 14, 15] (by decide +kernel) (by decide +kernel)
set_option maxRecDepth 20000 in
theorem gX9_append_X9_room : GoodIn wsX9_append (wsV RX9 32 RX9 yX9_room wsX9_room) := goodIn_app (goodIn_of _ (by decide +kernel)) ggX9_append_X9_room
set_option maxRecDepth 20000 in
theorem ggX9_append_X8_set : GoodIn wsX9_append wsX8_set := goodIn_r _ [11] (by decide +kernel) (by decide +kernel)
set_option maxRecDepth 20000 in
theorem gX9_append_X8_set : GoodIn wsX9_append (va_wsS RX9 36 yX8_set wsX8_set) := goodIn_app (goodIn_of _ (by decide +kernel)) ggX9_append_X8_set
theorem dX9_append_0 : decode cX9_append 0 = .ok (.aload_n 0, 1) := by decide +kernel
theorem dX9_append_1 : decode cX9_append 1 = .ok (.invokevirtual 32, 3) := by decide +kernel
theorem dX9_append_4 : decode cX9_append 4 = .ok (.ifCond .le 25, 3) := by decide +kernel
theorem dX9_append_7 : decode cX9_append 7 = .ok (.aload_n 0, 1) := by decide +kernel
theorem dX9_append_8 : decode cX9_append 8 = .ok (.getfield 15, 3) := by decide +kernel
theorem dX9_append_11 : decode cX9_append 11 = .ok (.aload_n 0, 1) := by decide +kernel
theorem dX9_append_12 : decode cX9_append 12 = .ok (.getfield 22, 3) := by decide +kernel
theorem dX9_append_15 : decode cX9_append 15 = .ok (.iload_n 1, 1) := by decide +kernel
theorem dX9_append_16 : decode cX9_append 16 = .ok (.invokestatic 36, 3) := by decide +kernel
theorem dX9_append_19 : decode cX9_append 19 = .ok (.aload_n 0, 1) := by decide +kernel
theorem dX9_append_20 : decode cX9_append 20 = .ok (.dup, 1) := by decide +kernel
theorem dX9_append_21 : decode cX9_append 21 = .ok (.getfield 22, 3) := by decide +kernel
theorem dX9_append_24 : decode cX9_append 24 = .ok (.iconst 1, 1) := by decide +kernel
theorem dX9_append_25 : decode cX9_append 25 = .ok (.iadd, 1) := by decide +kernel
theorem dX9_append_26 : decode cX9_append 26 = .ok (.putfield 22, 3) := by decide +kernel
theorem dX9_append_29 : decode cX9_append 29 = .ok (.return_, 1) := by decide +kernel
set_option maxRecDepth 20000 in
theorem ggX9_cutAhead_X8_at : GoodIn wsX9_cutAhead wsX8_at := goodIn_r _ [6] (by decide +kernel) (by decide +kernel)
set_option maxRecDepth 20000 in
theorem gX9_cutAhead_X8_at : GoodIn wsX9_cutAhead (va_wsS RX9 40 yX8_at wsX8_at) := goodIn_app (goodIn_of _ (by decide +kernel)) ggX9_cutAhead_X8_at
set_option maxRecDepth 20000 in
theorem ggX9_cutAhead_X8_set : GoodIn wsX9_cutAhead wsX8_set := goodIn_r _ [9] (by decide +kernel) (by decide +kernel)
set_option maxRecDepth 20000 in
theorem gX9_cutAhead_X8_set : GoodIn wsX9_cutAhead (va_wsS RX9 36 yX8_set wsX8_set) := goodIn_app (goodIn_of _ (by decide +kernel)) ggX9_cutAhead_X8_set
theorem dX9_cutAhead_0 : decode cX9_cutAhead 0 = .ok (.aload_n 0, 1) := by decide +kernel
theorem dX9_cutAhead_1 : decode cX9_cutAhead 1 = .ok (.getfield 22, 3) := by decide +kernel
theorem dX9_cutAhead_4 : decode cX9_cutAhead 4 = .ok (.iload_n 1, 1) := by decide +kernel
theorem dX9_cutAhead_5 : decode cX9_cutAhead 5 = .ok (.isub, 1) := by decide +kernel
theorem dX9_cutAhead_6 : decode cX9_cutAhead 6 = .ok (.istore_n 2, 1) := by decide +kernel
theorem dX9_cutAhead_7 : decode cX9_cutAhead 7 = .ok (.iload_n 1, 1) := by decide +kernel
theorem dX9_cutAhead_8 : decode cX9_cutAhead 8 = .ok (.ifCond .lt 7, 3) := by decide +kernel
theorem dX9_cutAhead_11 : decode cX9_cutAhead 11 = .ok (.iload_n 2, 1) := by decide +kernel
theorem dX9_cutAhead_12 : decode cX9_cutAhead 12 = .ok (.ifCond .ge 4, 3) := by decide +kernel
theorem dX9_cutAhead_15 : decode cX9_cutAhead 15 = .ok (.return_, 1) := by decide +kernel
theorem dX9_cutAhead_16 : decode cX9_cutAhead 16 = .ok (.iconst 0, 1) := by decide +kernel
theorem dX9_cutAhead_17 : decode cX9_cutAhead 17 = .ok (.istore_n 3, 1) := by decide +kernel
theorem dX9_cutAhead_18 : decode cX9_cutAhead 18 = .ok (.iload_n 3, 1) := by decide +kernel
theorem dX9_cutAhead_19 : decode cX9_cutAhead 19 = .ok (.iload_n 2, 1) := by decide +kernel
theorem dX9_cutAhead_20 : decode cX9_cutAhead 20 = .ok (.if_icmp .ge 27, 3) := by decide +kernel
theorem dX9_cutAhead_23 : decode cX9_cutAhead 23 = .ok (.aload_n 0, 1) := by decide +kernel
theorem dX9_cutAhead_24 : decode cX9_cutAhead 24 = .ok (.getfield 15, 3) := by decide +kernel
theorem dX9_cutAhead_27 : decode cX9_cutAhead 27 = .ok (.iload_n 3, 1) := by decide +kernel
theorem dX9_cutAhead_28 : decode cX9_cutAhead 28 = .ok (.aload_n 0, 1) := by decide +kernel
theorem dX9_cutAhead_29 : decode cX9_cutAhead 29 = .ok (.getfield 15, 3) := by decide +kernel
theorem dX9_cutAhead_32 : decode cX9_cutAhead 32 = .ok (.iload_n 1, 1) := by decide +kernel
theorem dX9_cutAhead_33 : decode cX9_cutAhead 33 = .ok (.iload_n 3, 1) := by decide +kernel
theorem dX9_cutAhead_34 : decode cX9_cutAhead 34 = .ok (.iadd, 1) := by decide +kernel
theorem dX9_cutAhead_35 : decode cX9_cutAhead 35 = .ok (.invokestatic 40, 3) := by decide +kernel
theorem dX9_cutAhead_38 : decode cX9_cutAhead 38 = .ok (.invokestatic 36, 3) := by decide +kernel
theorem dX9_cutAhead_41 : decode cX9_cutAhead 41 = .ok (.iinc 3 1, 3) := by decide +kernel
theorem dX9_cutAhead_44 : decode cX9_cutAhead 44 = .ok (.goto (-26), 3) := by decide +kernel
theorem dX9_cutAhead_47 : decode cX9_cutAhead 47 = .ok (.aload_n 0, 1) := by decide +kernel
theorem dX9_cutAhead_48 : decode cX9_cutAhead 48 = .ok (.iload_n 2, 1) := by decide +kernel
theorem dX9_cutAhead_49 : decode cX9_cutAhead 49 = .ok (.putfield 22, 3) := by decide +kernel
theorem dX9_cutAhead_52 : decode cX9_cutAhead 52 = .ok (.return_, 1) := by decide +kernel
set_option maxRecDepth 20000 in
theorem ggX9_measure_X9_reach : GoodIn wsX9_measure wsX9_reach := goodIn_r _ [7, 1, 8, 9, 10, 11, 12, 13, 14, 15, 16, 17, 18, 19, 20, 21, 22, 23, 24, 25, 26, 27, 28, 29, 30, 31, 32, 33, 34, 35, 36, 37, 38, 42, 43, 44, 45, 46, 47, 48, 49, 50, 51, 52, 53, 54, 55, 56] (by decide +kernel) (by decide +kernel)
set_option maxRecDepth 20000 in
theorem gX9_measure_X9_reach : GoodIn wsX9_measure (wsV RX9 49 RX9 yX9_reach wsX9_reach) := goodIn_app (goodIn_of _ (by decide +kernel)) ggX9_measure_X9_reach
set_option maxRecDepth 20000 in
theorem ggX9_measure_X8_set : GoodIn wsX9_measure wsX8_set := goodIn_r _ [41] (by decide +kernel) (by decide +kernel)
set_option maxRecDepth 20000 in
theorem gX9_measure_X8_set : GoodIn wsX9_measure (va_wsS RX9 36 yX8_set wsX8_set) := goodIn_app (goodIn_of _ (by decide +kernel)) ggX9_measure_X8_set
theorem dX9_measure_0 : decode cX9_measure 0 = .ok (.iconst 0, 1) := by decide +kernel
theorem dX9_measure_1 : decode cX9_measure 1 = .ok (.istore_n 2, 1) := by decide +kernel
theorem dX9_measure_2 : decode cX9_measure 2 = .ok (.iload_n 2, 1) := by decide +kernel
theorem dX9_measure_3 : decode cX9_measure 3 = .ok (.aload_n 0, 1) := by decide +kernel
theorem dX9_measure_4 : decode cX9_measure 4 = .ok (.getfield 9, 3) := by decide +kernel
theorem dX9_measure_7 : decode cX9_measure 7 = .ok (.getfield 44, 3) := by decide +kernel
theorem dX9_measure_10 : decode cX9_measure 10 = .ok (.if_icmp .ge 23, 3) := by decide +kernel
theorem dX9_measure_13 : decode cX9_measure 13 = .ok (.aload_n 0, 1) := by decide +kernel
theorem dX9_measure_14 : decode cX9_measure 14 = .ok (.getfield 19, 3) := by decide +kernel
theorem dX9_measure_17 : decode cX9_measure 17 = .ok (.iload_n 2, 1) := by decide +kernel
theorem dX9_measure_18 : decode cX9_measure 18 = .ok (.aload_n 0, 1) := by decide +kernel
theorem dX9_measure_19 : decode cX9_measure 19 = .ok (.aload_n 1, 1) := by decide +kernel
theorem dX9_measure_20 : decode cX9_measure 20 = .ok (.iload_n 2, 1) := by decide +kernel
theorem dX9_measure_21 : decode cX9_measure 21 = .ok (.invokevirtual 49, 3) := by decide +kernel
theorem dX9_measure_24 : decode cX9_measure 24 = .ok (.invokestatic 36, 3) := by decide +kernel
theorem dX9_measure_27 : decode cX9_measure 27 = .ok (.iinc 2 1, 3) := by decide +kernel
theorem dX9_measure_30 : decode cX9_measure 30 = .ok (.goto (-28), 3) := by decide +kernel
theorem dX9_measure_33 : decode cX9_measure 33 = .ok (.return_, 1) := by decide +kernel
set_option maxRecDepth 20000 in
theorem ggX9_reach_X8_at : GoodIn wsX9_reach wsX8_at := goodIn_r _ [7] (by decide +kernel) (by decide +kernel)
set_option maxRecDepth 20000 in
theorem gX9_reach_X8_at : GoodIn wsX9_reach (va_wsS RX9 40 yX8_at wsX8_at) := goodIn_app (goodIn_of _ (by decide +kernel)) ggX9_reach_X8_at
set_option maxRecDepth 20000 in
theorem ggX9_reach_X1_fits : GoodIn wsX9_reach wsX1_fits := goodIn_r _ [12, 13, 14, 15, 16, 17, 18, 19, 20, 21, 22, 23, 11, 24, 25, 26, 5, 6, 7, 27, 28, 29, 30, 31, 32, 41, 42, 43, 44, 45, 46, 47, 37, 38, 39, 40] (by decide +kernel) (by decide +kernel)
set_option maxRecDepth 20000 in
theorem gX9_reach_X1_fits : GoodIn wsX9_reach (wsV RX9 56 RX1 yX1_fits wsX1_fits) := goodIn_app (goodIn_of _ (by decide +kernel)) ggX9_reach_X1_fits
theorem dX9_reach_0 : decode cX9_reach 0 = .ok (.iload_n 2, 1) := by decide +kernel
theorem dX9_reach_1 : decode cX9_reach 1 = .ok (.ifCond .ne 7, 3) := by decide +kernel
theorem dX9_reach_4 : decode cX9_reach 4 = .ok (.iconst 0, 1) := by decide +kernel
theorem dX9_reach_5 : decode cX9_reach 5 = .ok (.goto 12, 3) := by decide +kernel
theorem dX9_reach_8 : decode cX9_reach 8 = .ok (.aload_n 0, 1) := by decide +kernel
theorem dX9_reach_9 : decode cX9_reach 9 = .ok (.getfield 9, 3) := by decide +kernel
theorem dX9_reach_12 : decode cX9_reach 12 = .ok (.getfield 44, 3) := by decide +kernel
theorem dX9_reach_15 : decode cX9_reach 15 = .ok (.iload_n 2, 1) := by decide +kernel
theorem dX9_reach_16 : decode cX9_reach 16 = .ok (.isub, 1) := by decide +kernel
theorem dX9_reach_17 : decode cX9_reach 17 = .ok (.istore_n 3, 1) := by decide +kernel
theorem dX9_reach_18 : decode cX9_reach 18 = .ok (.iconst 0, 1) := by decide +kernel
theorem dX9_reach_19 : decode cX9_reach 19 = .ok (.istore 4, 2) := by decide +kernel
theorem dX9_reach_21 : decode cX9_reach 21 = .ok (.iconst 0, 1) := by decide +kernel
theorem dX9_reach_22 : decode cX9_reach 22 = .ok (.istore 5, 2) := by decide +kernel
theorem dX9_reach_24 : decode cX9_reach 24 = .ok (.iconst 0, 1) := by decide +kernel
theorem dX9_reach_25 : decode cX9_reach 25 = .ok (.istore 6, 2) := by decide +kernel
theorem dX9_reach_27 : decode cX9_reach 27 = .ok (.iload 6, 2) := by decide +kernel
theorem dX9_reach_29 : decode cX9_reach 29 = .ok (.aload_n 0, 1) := by decide +kernel
theorem dX9_reach_30 : decode cX9_reach 30 = .ok (.getfield 22, 3) := by decide +kernel
theorem dX9_reach_33 : decode cX9_reach 33 = .ok (.if_icmp .ge 71, 3) := by decide +kernel
theorem dX9_reach_36 : decode cX9_reach 36 = .ok (.iload 4, 2) := by decide +kernel
theorem dX9_reach_38 : decode cX9_reach 38 = .ok (.aload_n 0, 1) := by decide +kernel
theorem dX9_reach_39 : decode cX9_reach 39 = .ok (.getfield 9, 3) := by decide +kernel
theorem dX9_reach_42 : decode cX9_reach 42 = .ok (.getfield 53, 3) := by decide +kernel
theorem dX9_reach_45 : decode cX9_reach 45 = .ok (.imul, 1) := by decide +kernel
theorem dX9_reach_46 : decode cX9_reach 46 = .ok (.aload_n 0, 1) := by decide +kernel
theorem dX9_reach_47 : decode cX9_reach 47 = .ok (.getfield 15, 3) := by decide +kernel
theorem dX9_reach_50 : decode cX9_reach 50 = .ok (.iload 6, 2) := by decide +kernel
theorem dX9_reach_52 : decode cX9_reach 52 = .ok (.invokestatic 40, 3) := by decide +kernel
theorem dX9_reach_55 : decode cX9_reach 55 = .ok (.iadd, 1) := by decide +kernel
theorem dX9_reach_56 : decode cX9_reach 56 = .ok (.istore 4, 2) := by decide +kernel
theorem dX9_reach_58 : decode cX9_reach 58 = .ok (.iinc 5 1, 3) := by decide +kernel
theorem dX9_reach_61 : decode cX9_reach 61 = .ok (.aload_n 1, 1) := by decide +kernel
theorem dX9_reach_62 : decode cX9_reach 62 = .ok (.iload 4, 2) := by decide +kernel
theorem dX9_reach_64 : decode cX9_reach 64 = .ok (.iload 5, 2) := by decide +kernel
theorem dX9_reach_66 : decode cX9_reach 66 = .ok (.iload_n 3, 1) := by decide +kernel
theorem dX9_reach_67 : decode cX9_reach 67 = .ok (.invokevirtual 56, 3) := by decide +kernel
theorem dX9_reach_70 : decode cX9_reach 70 = .ok (.ifCond .ne 6, 3) := by decide +kernel
theorem dX9_reach_73 : decode cX9_reach 73 = .ok (.iload 6, 2) := by decide +kernel
theorem dX9_reach_75 : decode cX9_reach 75 = .ok (.ireturn, 1) := by decide +kernel
theorem dX9_reach_76 : decode cX9_reach 76 = .ok (.iinc 3 1, 3) := by decide +kernel
theorem dX9_reach_79 : decode cX9_reach 79 = .ok (.iload_n 3, 1) := by decide +kernel
theorem dX9_reach_80 : decode cX9_reach 80 = .ok (.aload_n 0, 1) := by decide +kernel
theorem dX9_reach_81 : decode cX9_reach 81 = .ok (.getfield 9, 3) := by decide +kernel
theorem dX9_reach_84 : decode cX9_reach 84 = .ok (.getfield 44, 3) := by decide +kernel
theorem dX9_reach_87 : decode cX9_reach 87 = .ok (.if_icmp .ne 11, 3) := by decide +kernel
theorem dX9_reach_90 : decode cX9_reach 90 = .ok (.iconst 0, 1) := by decide +kernel
theorem dX9_reach_91 : decode cX9_reach 91 = .ok (.istore_n 3, 1) := by decide +kernel
theorem dX9_reach_92 : decode cX9_reach 92 = .ok (.iconst 0, 1) := by decide +kernel
theorem dX9_reach_93 : decode cX9_reach 93 = .ok (.istore 4, 2) := by decide +kernel
theorem dX9_reach_95 : decode cX9_reach 95 = .ok (.iconst 0, 1) := by decide +kernel
theorem dX9_reach_96 : decode cX9_reach 96 = .ok (.istore 5, 2) := by decide +kernel
theorem dX9_reach_98 : decode cX9_reach 98 = .ok (.iinc 6 1, 3) := by decide +kernel
theorem dX9_reach_101 : decode cX9_reach 101 = .ok (.goto (-74), 3) := by decide +kernel
theorem dX9_reach_104 : decode cX9_reach 104 = .ok (.aload_n 0, 1) := by decide +kernel
theorem dX9_reach_105 : decode cX9_reach 105 = .ok (.getfield 22, 3) := by decide +kernel
theorem dX9_reach_108 : decode cX9_reach 108 = .ok (.ireturn, 1) := by decide +kernel
set_option maxRecDepth 20000 in
theorem ggX9_offsets_X8_at : GoodIn wsX9_offsets wsX8_at := goodIn_r _ [6] (by decide +kernel) (by decide +kernel)
set_option maxRecDepth 20000 in
theorem gX9_offsets_X8_at : GoodIn wsX9_offsets (va_wsS RX9 40 yX8_at wsX8_at) := goodIn_app (goodIn_of _ (by decide +kernel)) ggX9_offsets_X8_at
theorem dX9_offsets_0 : decode cX9_offsets 0 = .ok (.iconst 0, 1) := by decide +kernel
theorem dX9_offsets_1 : decode cX9_offsets 1 = .ok (.istore_n 2, 1) := by decide +kernel
theorem dX9_offsets_2 : decode cX9_offsets 2 = .ok (.iconst 0, 1) := by decide +kernel
theorem dX9_offsets_3 : decode cX9_offsets 3 = .ok (.istore_n 3, 1) := by decide +kernel
theorem dX9_offsets_4 : decode cX9_offsets 4 = .ok (.iload_n 3, 1) := by decide +kernel
theorem dX9_offsets_5 : decode cX9_offsets 5 = .ok (.aload_n 0, 1) := by decide +kernel
theorem dX9_offsets_6 : decode cX9_offsets 6 = .ok (.getfield 9, 3) := by decide +kernel
theorem dX9_offsets_9 : decode cX9_offsets 9 = .ok (.getfield 44, 3) := by decide +kernel
theorem dX9_offsets_12 : decode cX9_offsets 12 = .ok (.if_icmp .ge 27, 3) := by decide +kernel
theorem dX9_offsets_15 : decode cX9_offsets 15 = .ok (.aload_n 0, 1) := by decide +kernel
theorem dX9_offsets_16 : decode cX9_offsets 16 = .ok (.getfield 19, 3) := by decide +kernel
theorem dX9_offsets_19 : decode cX9_offsets 19 = .ok (.iload_n 3, 1) := by decide +kernel
theorem dX9_offsets_20 : decode cX9_offsets 20 = .ok (.invokestatic 40, 3) := by decide +kernel
theorem dX9_offsets_23 : decode cX9_offsets 23 = .ok (.iload_n 1, 1) := by decide +kernel
theorem dX9_offsets_24 : decode cX9_offsets 24 = .ok (.if_icmp .lt 9, 3) := by decide +kernel
theorem dX9_offsets_27 : decode cX9_offsets 27 = .ok (.iload_n 2, 1) := by decide +kernel
theorem dX9_offsets_28 : decode cX9_offsets 28 = .ok (.iconst 1, 1) := by decide +kernel
theorem dX9_offsets_29 : decode cX9_offsets 29 = .ok (.iload_n 3, 1) := by decide +kernel
theorem dX9_offsets_30 : decode cX9_offsets 30 = .ok (.ishl, 1) := by decide +kernel
theorem dX9_offsets_31 : decode cX9_offsets 31 = .ok (.ior, 1) := by decide +kernel
theorem dX9_offsets_32 : decode cX9_offsets 32 = .ok (.istore_n 2, 1) := by decide +kernel
theorem dX9_offsets_33 : decode cX9_offsets 33 = .ok (.iinc 3 1, 3) := by decide +kernel
theorem dX9_offsets_36 : decode cX9_offsets 36 = .ok (.goto (-32), 3) := by decide +kernel
theorem dX9_offsets_39 : decode cX9_offsets 39 = .ok (.iload_n 2, 1) := by decide +kernel
theorem dX9_offsets_40 : decode cX9_offsets 40 = .ok (.ireturn, 1) := by decide +kernel
set_option maxRecDepth 20000 in
theorem ggX9_firstCertain_X9_offsets : GoodIn wsX9_firstCertain wsX9_offsets := goodIn_r _ [7, 2, 8, 9, 10, 11, 12, 13, 14, 15, 16, 17, 18, 19, 20] (by decide +kernel) (by decide +kernel)
set_option maxRecDepth 20000 in
theorem gX9_firstCertain_X9_offsets : GoodIn wsX9_firstCertain (wsV RX9 62 RX9 yX9_offsets wsX9_offsets) := goodIn_app (goodIn_of _ (by decide +kernel)) ggX9_firstCertain_X9_offsets
theorem dX9_firstCertain_0 : decode cX9_firstCertain 0 = .ok (.iconst 1, 1) := by decide +kernel
theorem dX9_firstCertain_1 : decode cX9_firstCertain 1 = .ok (.istore_n 2, 1) := by decide +kernel
theorem dX9_firstCertain_2 : decode cX9_firstCertain 2 = .ok (.iload_n 2, 1) := by decide +kernel
theorem dX9_firstCertain_3 : decode cX9_firstCertain 3 = .ok (.aload_n 0, 1) := by decide +kernel
theorem dX9_firstCertain_4 : decode cX9_firstCertain 4 = .ok (.getfield 22, 3) := by decide +kernel
theorem dX9_firstCertain_7 : decode cX9_firstCertain 7 = .ok (.if_icmp .gt 55, 3) := by decide +kernel
theorem dX9_firstCertain_10 : decode cX9_firstCertain 10 = .ok (.aload_n 0, 1) := by decide +kernel
theorem dX9_firstCertain_11 : decode cX9_firstCertain 11 = .ok (.iload_n 2, 1) := by decide +kernel
theorem dX9_firstCertain_12 : decode cX9_firstCertain 12 = .ok (.invokevirtual 62, 3) := by decide +kernel
theorem dX9_firstCertain_15 : decode cX9_firstCertain 15 = .ok (.istore_n 3, 1) := by decide +kernel
theorem dX9_firstCertain_16 : decode cX9_firstCertain 16 = .ok (.iconst 0, 1) := by decide +kernel
theorem dX9_firstCertain_17 : decode cX9_firstCertain 17 = .ok (.istore 4, 2) := by decide +kernel
theorem dX9_firstCertain_19 : decode cX9_firstCertain 19 = .ok (.iload 4, 2) := by decide +kernel
theorem dX9_firstCertain_21 : decode cX9_firstCertain 21 = .ok (.aload_n 0, 1) := by decide +kernel
theorem dX9_firstCertain_22 : decode cX9_firstCertain 22 = .ok (.getfield 9, 3) := by decide +kernel
theorem dX9_firstCertain_25 : decode cX9_firstCertain 25 = .ok (.getfield 44, 3) := by decide +kernel
theorem dX9_firstCertain_28 : decode cX9_firstCertain 28 = .ok (.if_icmp .ge 28, 3) := by decide +kernel
theorem dX9_firstCertain_31 : decode cX9_firstCertain 31 = .ok (.iload_n 3, 1) := by decide +kernel
theorem dX9_firstCertain_32 : decode cX9_firstCertain 32 = .ok (.iconst 1, 1) := by decide +kernel
theorem dX9_firstCertain_33 : decode cX9_firstCertain 33 = .ok (.iload 4, 2) := by decide +kernel
theorem dX9_firstCertain_35 : decode cX9_firstCertain 35 = .ok (.ishl, 1) := by decide +kernel
theorem dX9_firstCertain_36 : decode cX9_firstCertain 36 = .ok (.if_icmp .ne 14, 3) := by decide +kernel
theorem dX9_firstCertain_39 : decode cX9_firstCertain 39 = .ok (.iload_n 1, 1) := by decide +kernel
theorem dX9_firstCertain_40 : decode cX9_firstCertain 40 = .ok (.ifCond .ne 7, 3) := by decide +kernel
theorem dX9_firstCertain_43 : decode cX9_firstCertain 43 = .ok (.iload_n 2, 1) := by decide +kernel
theorem dX9_firstCertain_44 : decode cX9_firstCertain 44 = .ok (.goto 5, 3) := by decide +kernel
theorem dX9_firstCertain_47 : decode cX9_firstCertain 47 = .ok (.iload 4, 2) := by decide +kernel
theorem dX9_firstCertain_49 : decode cX9_firstCertain 49 = .ok (.ireturn, 1) := by decide +kernel
theorem dX9_firstCertain_50 : decode cX9_firstCertain 50 = .ok (.iinc 4 1, 3) := by decide +kernel
theorem dX9_firstCertain_53 : decode cX9_firstCertain 53 = .ok (.goto (-34), 3) := by decide +kernel
theorem dX9_firstCertain_56 : decode cX9_firstCertain 56 = .ok (.iinc 2 1, 3) := by decide +kernel
theorem dX9_firstCertain_59 : decode cX9_firstCertain 59 = .ok (.goto (-57), 3) := by decide +kernel
theorem dX9_firstCertain_62 : decode cX9_firstCertain 62 = .ok (.bipush (-5), 2) := by decide +kernel
theorem dX9_firstCertain_64 : decode cX9_firstCertain 64 = .ok (.ireturn, 1) := by decide +kernel
theorem dX10_init_0 : decode cX10_init 0 = .ok (.aload_n 0, 1) := by decide +kernel
theorem dX10_init_1 : decode cX10_init 1 = .ok (.invokespecial 3, 3) := by decide +kernel
theorem dX10_init_4 : decode cX10_init 4 = .ok (.aload_n 0, 1) := by decide +kernel
theorem dX10_init_5 : decode cX10_init 5 = .ok (.bipush 60, 2) := by decide +kernel
theorem dX10_init_7 : decode cX10_init 7 = .ok (.newarray .int, 2) := by decide +kernel
theorem dX10_init_9 : decode cX10_init 9 = .ok (.putfield 11, 3) := by decide +kernel
theorem dX10_init_12 : decode cX10_init 12 = .ok (.aload_n 0, 1) := by decide +kernel
theorem dX10_init_13 : decode cX10_init 13 = .ok (.iconst 3, 1) := by decide +kernel
theorem dX10_init_14 : decode cX10_init 14 = .ok (.newarray .int, 2) := by decide +kernel
theorem dX10_init_16 : decode cX10_init 16 = .ok (.putfield 15, 3) := by decide +kernel
theorem dX10_init_19 : decode cX10_init 19 = .ok (.aload_n 0, 1) := by decide +kernel
theorem dX10_init_20 : decode cX10_init 20 = .ok (.iconst 0, 1) := by decide +kernel
theorem dX10_init_21 : decode cX10_init 21 = .ok (.putfield 18, 3) := by decide +kernel
theorem dX10_init_24 : decode cX10_init 24 = .ok (.aload_n 0, 1) := by decide +kernel
theorem dX10_init_25 : decode cX10_init 25 = .ok (.iconst 0, 1) := by decide +kernel
theorem dX10_init_26 : decode cX10_init 26 = .ok (.putfield 22, 3) := by decide +kernel
theorem dX10_init_29 : decode cX10_init 29 = .ok (.return_, 1) := by decide +kernel
theorem dX10_total_0 : decode cX10_total 0 = .ok (.aload_n 0, 1) := by decide +kernel
theorem dX10_total_1 : decode cX10_total 1 = .ok (.getfield 22, 3) := by decide +kernel
theorem dX10_total_4 : decode cX10_total 4 = .ok (.ireturn, 1) := by decide +kernel
set_option maxRecDepth 20000 in
theorem ggX10_append_X8_set : GoodIn wsX10_append wsX8_set := goodIn_r _ [6] (by decide +kernel) (by decide +kernel)
set_option maxRecDepth 20000 in
theorem gX10_append_X8_set : GoodIn wsX10_append (va_wsS RX10 26 yX8_set wsX8_set) := goodIn_app (goodIn_of _ (by decide +kernel)) ggX10_append_X8_set
theorem dX10_append_0 : decode cX10_append 0 = .ok (.aload_n 0, 1) := by decide +kernel
theorem dX10_append_1 : decode cX10_append 1 = .ok (.getfield 22, 3) := by decide +kernel
theorem dX10_append_4 : decode cX10_append 4 = .ok (.bipush 60, 2) := by decide +kernel
theorem dX10_append_6 : decode cX10_append 6 = .ok (.if_icmp .lt 5, 3) := by decide +kernel
theorem dX10_append_9 : decode cX10_append 9 = .ok (.iconst 0, 1) := by decide +kernel
theorem dX10_append_10 : decode cX10_append 10 = .ok (.ireturn, 1) := by decide +kernel
theorem dX10_append_11 : decode cX10_append 11 = .ok (.aload_n 0, 1) := by decide +kernel
theorem dX10_append_12 : decode cX10_append 12 = .ok (.getfield 11, 3) := by decide +kernel
theorem dX10_append_15 : decode cX10_append 15 = .ok (.aload_n 0, 1) := by decide +kernel
theorem dX10_append_16 : decode cX10_append 16 = .ok (.getfield 22, 3) := by decide +kernel
theorem dX10_append_19 : decode cX10_append 19 = .ok (.iload_n 1, 1) := by decide +kernel
theorem dX10_append_20 : decode cX10_append 20 = .ok (.invokestatic 26, 3) := by decide +kernel
theorem dX10_append_23 : decode cX10_append 23 = .ok (.aload_n 0, 1) := by decide +kernel
theorem dX10_append_24 : decode cX10_append 24 = .ok (.dup, 1) := by decide +kernel
theorem dX10_append_25 : decode cX10_append 25 = .ok (.getfield 22, 3) := by decide +kernel
theorem dX10_append_28 : decode cX10_append 28 = .ok (.iconst 1, 1) := by decide +kernel
theorem dX10_append_29 : decode cX10_append 29 = .ok (.iadd, 1) := by decide +kernel
theorem dX10_append_30 : decode cX10_append 30 = .ok (.putfield 22, 3) := by decide +kernel
theorem dX10_append_33 : decode cX10_append 33 = .ok (.iconst 1, 1) := by decide +kernel
theorem dX10_append_34 : decode cX10_append 34 = .ok (.ireturn, 1) := by decide +kernel
set_option maxRecDepth 20000 in
theorem ggX10_reason_X8_at : GoodIn wsX10_reason wsX8_at := goodIn_r _ [6] (by decide +kernel) (by decide +kernel)
set_option maxRecDepth 20000 in
theorem gX10_reason_X8_at : GoodIn wsX10_reason (va_wsS RX10 32 yX8_at wsX8_at) := goodIn_app (goodIn_of _ (by decide +kernel)) ggX10_reason_X8_at
theorem dX10_reason_0 : decode cX10_reason 0 = .ok (.aload_n 0, 1) := by decide +kernel
theorem dX10_reason_1 : decode cX10_reason 1 = .ok (.getfield 18, 3) := by decide +kernel
theorem dX10_reason_4 : decode cX10_reason 4 = .ok (.ifCond .eq 23, 3) := by decide +kernel
theorem dX10_reason_7 : decode cX10_reason 7 = .ok (.iload_n 1, 1) := by decide +kernel
theorem dX10_reason_8 : decode cX10_reason 8 = .ok (.ifCond .lt 19, 3) := by decide +kernel
theorem dX10_reason_11 : decode cX10_reason 11 = .ok (.iload_n 1, 1) := by decide +kernel
theorem dX10_reason_12 : decode cX10_reason 12 = .ok (.iconst 3, 1) := by decide +kernel
theorem dX10_reason_13 : decode cX10_reason 13 = .ok (.if_icmp .ge 14, 3) := by decide +kernel
theorem dX10_reason_16 : decode cX10_reason 16 = .ok (.aload_n 0, 1) := by decide +kernel
theorem dX10_reason_17 : decode cX10_reason 17 = .ok (.getfield 15, 3) := by decide +kernel
theorem dX10_reason_20 : decode cX10_reason 20 = .ok (.iload_n 1, 1) := by decide +kernel
theorem dX10_reason_21 : decode cX10_reason 21 = .ok (.invokestatic 32, 3) := by decide +kernel
theorem dX10_reason_24 : decode cX10_reason 24 = .ok (.goto 4, 3) := by decide +kernel
theorem dX10_reason_27 : decode cX10_reason 27 = .ok (.iconst (-1), 1) := by decide +kernel
theorem dX10_reason_28 : decode cX10_reason 28 = .ok (.ireturn, 1) := by decide +kernel
set_option maxRecDepth 20000 in
theorem ggX10_readInto_X1_empty : GoodIn wsX10_readInto wsX1_empty := goodIn_r _ [7, 8, 9, 10, 11, 12, 13, 6, 14, 15, 16, 17, 18, 19, 20, 21, 22, 23, 24, 25, 26, 27, 84, 85, 86, 87, 88, 89, 90] (by decide +kernel) (by decide +kernel)
set_option maxRecDepth 20000 in
theorem gX10_readInto_X1_empty : GoodIn wsX10_readInto (wsV RX10 42 RX1 yX1_empty wsX1_empty) := goodIn_app (goodIn_of _ (by decide +kernel)) ggX10_readInto_X1_empty
set_option maxRecDepth 20000 in
theorem ggX10_readInto_X8_at : GoodIn wsX10_readInto wsX8_at := goodIn_r _ [19] (by decide +kernel) (by decide +kernel)
set_option maxRecDepth 20000 in
theorem gX10_readInto_X8_at : GoodIn wsX10_readInto (va_wsS RX10 32 yX8_at wsX8_at) := goodIn_app (goodIn_of _ (by decide +kernel)) ggX10_readInto_X8_at
set_option maxRecDepth 20000 in
theorem ggX10_readInto_X1_total : GoodIn wsX10_readInto wsX1_total := goodIn_r _ [32, 8, 84, 85, 86, 87, 88, 89, 90] (by decide +kernel) (by decide +kernel)
set_option maxRecDepth 20000 in
theorem gX10_readInto_X1_total : GoodIn wsX10_readInto (wsV RX10 50 RX1 yX1_total wsX1_total) := goodIn_app (goodIn_of _ (by decide +kernel)) ggX10_readInto_X1_total
set_option maxRecDepth 20000 in
theorem ggX10_readInto_X10_fault : GoodIn wsX10_readInto wsX10_fault := goodIn_r _ [37, 38, 39, 40, 41, 18, 42, 91, 92, 93, 94] (by decide +kernel) (by decide +kernel)
set_option maxRecDepth 20000 in
theorem gX10_readInto_X10_fault : GoodIn wsX10_readInto (wsV RX10 54 RX10 yX10_fault wsX10_fault) := goodIn_app (goodIn_of _ (by decide +kernel)) ggX10_readInto_X10_fault
set_option maxRecDepth 20000 in
theorem ggX10_readInto_X1_include : GoodIn wsX10_readInto wsX1_include := goodIn_r _ [46, 47, 8, 15, 48, 49, 50, 51, 52, 53, 54, 55, 56, 6, 57, 24, 11, 12, 13, 14, 16, 17, 18, 19, 58, 41, 42, 20, 21, 22, 23, 59, 60, 61, 62, 9, 10, 63, 64, 65, 66, 67, 68, 69, 70, 71, 72, 73, 74, 75, 76, 77, 78, 79, 80, 81, 82, 83, 84, 85, 86, 87, 88, 89, 90, 95, 96, 97, 98] (by decide +kernel) (by decide +kernel)
set_option maxRecDepth 20000 in
theorem gX10_readInto_X1_include : GoodIn wsX10_readInto (wsV RX10 61 RX1 yX1_include wsX1_include) := goodIn_app (goodIn_of _ (by decide +kernel)) ggX10_readInto_X1_include
theorem dX10_readInto_0 : decode cX10_readInto 0 = .ok (.aload_n 1, 1) := by decide +kernel
theorem dX10_readInto_1 : decode cX10_readInto 1 = .ok (.getfield 36, 3) := by decide +kernel
theorem dX10_readInto_4 : decode cX10_readInto 4 = .ok (.astore_n 2, 1) := by decide +kernel
theorem dX10_readInto_5 : decode cX10_readInto 5 = .ok (.aload_n 0, 1) := by decide +kernel
theorem dX10_readInto_6 : decode cX10_readInto 6 = .ok (.getfield 22, 3) := by decide +kernel
theorem dX10_readInto_9 : decode cX10_readInto 9 = .ok (.istore_n 3, 1) := by decide +kernel
theorem dX10_readInto_10 : decode cX10_readInto 10 = .ok (.iconst 0, 1) := by decide +kernel
theorem dX10_readInto_11 : decode cX10_readInto 11 = .ok (.istore 4, 2) := by decide +kernel
theorem dX10_readInto_13 : decode cX10_readInto 13 = .ok (.iconst 0, 1) := by decide +kernel
theorem dX10_readInto_14 : decode cX10_readInto 14 = .ok (.istore 5, 2) := by decide +kernel
theorem dX10_readInto_16 : decode cX10_readInto 16 = .ok (.aload_n 0, 1) := by decide +kernel
theorem dX10_readInto_17 : decode cX10_readInto 17 = .ok (.iconst 0, 1) := by decide +kernel
theorem dX10_readInto_18 : decode cX10_readInto 18 = .ok (.putfield 22, 3) := by decide +kernel
theorem dX10_readInto_21 : decode cX10_readInto 21 = .ok (.aload_n 1, 1) := by decide +kernel
theorem dX10_readInto_22 : decode cX10_readInto 22 = .ok (.invokevirtual 42, 3) := by decide +kernel
theorem dX10_readInto_25 : decode cX10_readInto 25 = .ok (.iconst 0, 1) := by decide +kernel
theorem dX10_readInto_26 : decode cX10_readInto 26 = .ok (.istore 6, 2) := by decide +kernel
theorem dX10_readInto_28 : decode cX10_readInto 28 = .ok (.iload 6, 2) := by decide +kernel
theorem dX10_readInto_30 : decode cX10_readInto 30 = .ok (.iload_n 3, 1) := by decide +kernel
theorem dX10_readInto_31 : decode cX10_readInto 31 = .ok (.if_icmp .ge 136, 3) := by decide +kernel
theorem dX10_readInto_34 : decode cX10_readInto 34 = .ok (.aload_n 0, 1) := by decide +kernel
theorem dX10_readInto_35 : decode cX10_readInto 35 = .ok (.getfield 11, 3) := by decide +kernel
theorem dX10_readInto_38 : decode cX10_readInto 38 = .ok (.iload 6, 2) := by decide +kernel
theorem dX10_readInto_40 : decode cX10_readInto 40 = .ok (.invokestatic 32, 3) := by decide +kernel
theorem dX10_readInto_43 : decode cX10_readInto 43 = .ok (.bipush 97, 2) := by decide +kernel
theorem dX10_readInto_45 : decode cX10_readInto 45 = .ok (.isub, 1) := by decide +kernel
theorem dX10_readInto_46 : decode cX10_readInto 46 = .ok (.istore 7, 2) := by decide +kernel
theorem dX10_readInto_48 : decode cX10_readInto 48 = .ok (.iload 4, 2) := by decide +kernel
theorem dX10_readInto_50 : decode cX10_readInto 50 = .ok (.aload_n 2, 1) := by decide +kernel
theorem dX10_readInto_51 : decode cX10_readInto 51 = .ok (.getfield 45, 3) := by decide +kernel
theorem dX10_readInto_54 : decode cX10_readInto 54 = .ok (.if_icmp .ne 32, 3) := by decide +kernel
theorem dX10_readInto_57 : decode cX10_readInto 57 = .ok (.iload 7, 2) := by decide +kernel
theorem dX10_readInto_59 : decode cX10_readInto 59 = .ok (.bipush (-65), 2) := by decide +kernel
theorem dX10_readInto_61 : decode cX10_readInto 61 = .ok (.if_icmp .eq 16, 3) := by decide +kernel
theorem dX10_readInto_64 : decode cX10_readInto 64 = .ok (.aload_n 0, 1) := by decide +kernel
theorem dX10_readInto_65 : decode cX10_readInto 65 = .ok (.iload 6, 2) := by decide +kernel
theorem dX10_readInto_67 : decode cX10_readInto 67 = .ok (.aload_n 1, 1) := by decide +kernel
theorem dX10_readInto_68 : decode cX10_readInto 68 = .ok (.invokevirtual 50, 3) := by decide +kernel
theorem dX10_readInto_71 : decode cX10_readInto 71 = .ok (.iload 4, 2) := by decide +kernel
theorem dX10_readInto_73 : decode cX10_readInto 73 = .ok (.invokevirtual 54, 3) := by decide +kernel
theorem dX10_readInto_76 : decode cX10_readInto 76 = .ok (.ireturn, 1) := by decide +kernel
theorem dX10_readInto_77 : decode cX10_readInto 77 = .ok (.iconst 0, 1) := by decide +kernel
theorem dX10_readInto_78 : decode cX10_readInto 78 = .ok (.istore 4, 2) := by decide +kernel
theorem dX10_readInto_80 : decode cX10_readInto 80 = .ok (.iconst 0, 1) := by decide +kernel
theorem dX10_readInto_81 : decode cX10_readInto 81 = .ok (.istore 5, 2) := by decide +kernel
theorem dX10_readInto_83 : decode cX10_readInto 83 = .ok (.goto 78, 3) := by decide +kernel
theorem dX10_readInto_86 : decode cX10_readInto 86 = .ok (.iload 7, 2) := by decide +kernel
theorem dX10_readInto_88 : decode cX10_readInto 88 = .ok (.ifCond .lt 12, 3) := by decide +kernel
theorem dX10_readInto_91 : decode cX10_readInto 91 = .ok (.iload 7, 2) := by decide +kernel
theorem dX10_readInto_93 : decode cX10_readInto 93 = .ok (.aload_n 2, 1) := by decide +kernel
theorem dX10_readInto_94 : decode cX10_readInto 94 = .ok (.getfield 58, 3) := by decide +kernel
theorem dX10_readInto_97 : decode cX10_readInto 97 = .ok (.if_icmp .lt 16, 3) := by decide +kernel
theorem dX10_readInto_100 : decode cX10_readInto 100 = .ok (.aload_n 0, 1) := by decide +kernel
theorem dX10_readInto_101 : decode cX10_readInto 101 = .ok (.iload 6, 2) := by decide +kernel
theorem dX10_readInto_103 : decode cX10_readInto 103 = .ok (.aload_n 1, 1) := by decide +kernel
theorem dX10_readInto_104 : decode cX10_readInto 104 = .ok (.invokevirtual 50, 3) := by decide +kernel
theorem dX10_readInto_107 : decode cX10_readInto 107 = .ok (.iload 4, 2) := by decide +kernel
theorem dX10_readInto_109 : decode cX10_readInto 109 = .ok (.invokevirtual 54, 3) := by decide +kernel
theorem dX10_readInto_112 : decode cX10_readInto 112 = .ok (.ireturn, 1) := by decide +kernel
theorem dX10_readInto_113 : decode cX10_readInto 113 = .ok (.iload 5, 2) := by decide +kernel
theorem dX10_readInto_115 : decode cX10_readInto 115 = .ok (.aload_n 2, 1) := by decide +kernel
theorem dX10_readInto_116 : decode cX10_readInto 116 = .ok (.getfield 58, 3) := by decide +kernel
theorem dX10_readInto_119 : decode cX10_readInto 119 = .ok (.imul, 1) := by decide +kernel
theorem dX10_readInto_120 : decode cX10_readInto 120 = .ok (.iload 7, 2) := by decide +kernel
theorem dX10_readInto_122 : decode cX10_readInto 122 = .ok (.iadd, 1) := by decide +kernel
theorem dX10_readInto_123 : decode cX10_readInto 123 = .ok (.istore 5, 2) := by decide +kernel
theorem dX10_readInto_125 : decode cX10_readInto 125 = .ok (.iload 4, 2) := by decide +kernel
theorem dX10_readInto_127 : decode cX10_readInto 127 = .ok (.iconst 1, 1) := by decide +kernel
theorem dX10_readInto_128 : decode cX10_readInto 128 = .ok (.iadd, 1) := by decide +kernel
theorem dX10_readInto_129 : decode cX10_readInto 129 = .ok (.aload_n 2, 1) := by decide +kernel
theorem dX10_readInto_130 : decode cX10_readInto 130 = .ok (.getfield 45, 3) := by decide +kernel
theorem dX10_readInto_133 : decode cX10_readInto 133 = .ok (.if_icmp .ne 25, 3) := by decide +kernel
theorem dX10_readInto_136 : decode cX10_readInto 136 = .ok (.aload_n 1, 1) := by decide +kernel
theorem dX10_readInto_137 : decode cX10_readInto 137 = .ok (.iload 5, 2) := by decide +kernel
theorem dX10_readInto_139 : decode cX10_readInto 139 = .ok (.invokevirtual 61, 3) := by decide +kernel
theorem dX10_readInto_142 : decode cX10_readInto 142 = .ok (.ifCond .ne 16, 3) := by decide +kernel
theorem dX10_readInto_145 : decode cX10_readInto 145 = .ok (.aload_n 0, 1) := by decide +kernel
theorem dX10_readInto_146 : decode cX10_readInto 146 = .ok (.iload 6, 2) := by decide +kernel
theorem dX10_readInto_148 : decode cX10_readInto 148 = .ok (.aload_n 1, 1) := by decide +kernel
theorem dX10_readInto_149 : decode cX10_readInto 149 = .ok (.invokevirtual 50, 3) := by decide +kernel
theorem dX10_readInto_152 : decode cX10_readInto 152 = .ok (.iload 4, 2) := by decide +kernel
theorem dX10_readInto_154 : decode cX10_readInto 154 = .ok (.invokevirtual 54, 3) := by decide +kernel
theorem dX10_readInto_157 : decode cX10_readInto 157 = .ok (.ireturn, 1) := by decide +kernel
theorem dX10_readInto_158 : decode cX10_readInto 158 = .ok (.iinc 4 1, 3) := by decide +kernel
theorem dX10_readInto_161 : decode cX10_readInto 161 = .ok (.iinc 6 1, 3) := by decide +kernel
theorem dX10_readInto_164 : decode cX10_readInto 164 = .ok (.goto (-136), 3) := by decide +kernel
theorem dX10_readInto_167 : decode cX10_readInto 167 = .ok (.iload 4, 2) := by decide +kernel
theorem dX10_readInto_169 : decode cX10_readInto 169 = .ok (.aload_n 2, 1) := by decide +kernel
theorem dX10_readInto_170 : decode cX10_readInto 170 = .ok (.getfield 45, 3) := by decide +kernel
theorem dX10_readInto_173 : decode cX10_readInto 173 = .ok (.if_icmp .ne 7, 3) := by decide +kernel
theorem dX10_readInto_176 : decode cX10_readInto 176 = .ok (.iconst (-1), 1) := by decide +kernel
theorem dX10_readInto_177 : decode cX10_readInto 177 = .ok (.goto 14, 3) := by decide +kernel
theorem dX10_readInto_180 : decode cX10_readInto 180 = .ok (.aload_n 0, 1) := by decide +kernel
theorem dX10_readInto_181 : decode cX10_readInto 181 = .ok (.iload_n 3, 1) := by decide +kernel
theorem dX10_readInto_182 : decode cX10_readInto 182 = .ok (.aload_n 1, 1) := by decide +kernel
theorem dX10_readInto_183 : decode cX10_readInto 183 = .ok (.invokevirtual 50, 3) := by decide +kernel
theorem dX10_readInto_186 : decode cX10_readInto 186 = .ok (.iload 4, 2) := by decide +kernel
theorem dX10_readInto_188 : decode cX10_readInto 188 = .ok (.invokevirtual 54, 3) := by decide +kernel
theorem dX10_readInto_191 : decode cX10_readInto 191 = .ok (.ireturn, 1) := by decide +kernel
set_option maxRecDepth 20000 in
theorem ggX10_fault_X8_set : GoodIn wsX10_fault wsX8_set := goodIn_r _ [6] (by decide +kernel) (by decide +kernel)
set_option maxRecDepth 20000 in
theorem gX10_fault_X8_set : GoodIn wsX10_fault (va_wsS RX10 26 yX8_set wsX8_set) := goodIn_app (goodIn_of _ (by decide +kernel)) ggX10_fault_X8_set
theorem dX10_fault_0 : decode cX10_fault 0 = .ok (.aload_n 0, 1) := by decide +kernel
theorem dX10_fault_1 : decode cX10_fault 1 = .ok (.iconst 1, 1) := by decide +kernel
theorem dX10_fault_2 : decode cX10_fault 2 = .ok (.putfield 18, 3) := by decide +kernel
theorem dX10_fault_5 : decode cX10_fault 5 = .ok (.aload_n 0, 1) := by decide +kernel
theorem dX10_fault_6 : decode cX10_fault 6 = .ok (.getfield 15, 3) := by decide +kernel
theorem dX10_fault_9 : decode cX10_fault 9 = .ok (.iconst 0, 1) := by decide +kernel
theorem dX10_fault_10 : decode cX10_fault 10 = .ok (.iload_n 2, 1) := by decide +kernel
theorem dX10_fault_11 : decode cX10_fault 11 = .ok (.invokestatic 26, 3) := by decide +kernel
theorem dX10_fault_14 : decode cX10_fault 14 = .ok (.aload_n 0, 1) := by decide +kernel
theorem dX10_fault_15 : decode cX10_fault 15 = .ok (.getfield 15, 3) := by decide +kernel
theorem dX10_fault_18 : decode cX10_fault 18 = .ok (.iconst 1, 1) := by decide +kernel
theorem dX10_fault_19 : decode cX10_fault 19 = .ok (.iload_n 3, 1) := by decide +kernel
theorem dX10_fault_20 : decode cX10_fault 20 = .ok (.invokestatic 26, 3) := by decide +kernel
theorem dX10_fault_23 : decode cX10_fault 23 = .ok (.aload_n 0, 1) := by decide +kernel
theorem dX10_fault_24 : decode cX10_fault 24 = .ok (.getfield 15, 3) := by decide +kernel
theorem dX10_fault_27 : decode cX10_fault 27 = .ok (.iconst 2, 1) := by decide +kernel
theorem dX10_fault_28 : decode cX10_fault 28 = .ok (.iload_n 1, 1) := by decide +kernel
theorem dX10_fault_29 : decode cX10_fault 29 = .ok (.invokestatic 26, 3) := by decide +kernel
theorem dX10_fault_32 : decode cX10_fault 32 = .ok (.iload_n 1, 1) := by decide +kernel
theorem dX10_fault_33 : decode cX10_fault 33 = .ok (.ireturn, 1) := by decide +kernel
