set_option maxRecDepth 20000 in
theorem ggX11_init_X2_init : GoodIn wsX11_init wsX2_init := goodIn_r _ [32, 33, 2, 3, 34, 35, 36, 37, 38, 11, 12, 39, 40, 41, 42, 43, 44, 45, 46, 47, 48, 49, 50, 51, 52, 53, 54, 55, 56, 57, 58, 59, 60, 61, 62, 63, 64, 65, 66, 67, 68, 69, 70, 71, 72, 73, 74, 75, 76, 77, 78, 79, 80, 81, 82, 83, 84, 85, 86, 87, 88, 89, 90, 91, 92, 165, 166, 167, 168, 128, 129, 130, 131, 140, 141, 142, 143, 144, 145, 146, 169, 170, 171, 172, 173, 174, 175, 176] (by decide +kernel) (by decide +kernel)
set_option maxRecDepth 20000 in
theorem gX11_init_X2_init : GoodIn wsX11_init (wsX2_init) := ggX11_init_X2_init
set_option maxRecDepth 20000 in
theorem ggX11_init_X1_init : GoodIn wsX11_init wsX1_init := goodIn_r _ [67, 68, 2, 3, 69, 52, 70, 71, 72, 73, 74, 75, 76, 140, 141, 142, 143, 144, 145, 146] (by decide +kernel) (by decide +kernel)
set_option maxRecDepth 20000 in
theorem gX11_init_X1_init : GoodIn wsX11_init (wsX1_init) := ggX11_init_X1_init
set_option maxRecDepth 20000 in
theorem ggX11_init_X4_init : GoodIn wsX11_init wsX4_init := goodIn_r _ [96, 97, 2, 3, 98, 99, 52, 100, 101, 102, 103, 147, 148, 149, 150, 151, 152, 153, 154, 155, 156] (by decide +kernel) (by decide +kernel)
set_option maxRecDepth 20000 in
theorem gX11_init_X4_init : GoodIn wsX11_init (wsX4_init) := ggX11_init_X4_init
set_option maxRecDepth 20000 in
theorem ggX11_init_X10_init : GoodIn wsX11_init wsX10_init := goodIn_r _ [106, 107, 2, 3, 52, 108, 109, 110, 111, 157, 158, 159, 160] (by decide +kernel) (by decide +kernel)
set_option maxRecDepth 20000 in
theorem gX11_init_X10_init : GoodIn wsX11_init (wsX10_init) := ggX11_init_X10_init
set_option maxRecDepth 20000 in
theorem ggX11_init_X6_init : GoodIn wsX11_init wsX6_init := goodIn_r _ [114, 115, 2, 3, 52, 116, 117, 161, 162] (by decide +kernel) (by decide +kernel)
set_option maxRecDepth 20000 in
theorem gX11_init_X6_init : GoodIn wsX11_init (wsX6_init) := ggX11_init_X6_init
set_option maxRecDepth 20000 in
theorem ggX11_init_X5_init : GoodIn wsX11_init wsX5_init := goodIn_r _ [120, 121, 2, 3, 52, 122, 123, 124, 125, 126, 127, 163, 164] (by decide +kernel) (by decide +kernel)
set_option maxRecDepth 20000 in
theorem gX11_init_X5_init : GoodIn wsX11_init (wsX5_init) := ggX11_init_X5_init
theorem dX11_init_0 : decode cX11_init 0 = .ok (.aload_n 0, 1) := by decide +kernel
theorem dX11_init_1 : decode cX11_init 1 = .ok (.invokespecial 3, 3) := by decide +kernel
theorem dX11_init_4 : decode cX11_init 4 = .ok (.aload_n 0, 1) := by decide +kernel
theorem dX11_init_5 : decode cX11_init 5 = .ok (.new 9, 3) := by decide +kernel
theorem dX11_init_8 : decode cX11_init 8 = .ok (.dup, 1) := by decide +kernel
theorem dX11_init_9 : decode cX11_init 9 = .ok (.invokespecial 11, 3) := by decide +kernel
theorem dX11_init_12 : decode cX11_init 12 = .ok (.putfield 12, 3) := by decide +kernel
theorem dX11_init_15 : decode cX11_init 15 = .ok (.aload_n 0, 1) := by decide +kernel
theorem dX11_init_16 : decode cX11_init 16 = .ok (.new 9, 3) := by decide +kernel
theorem dX11_init_19 : decode cX11_init 19 = .ok (.dup, 1) := by decide +kernel
theorem dX11_init_20 : decode cX11_init 20 = .ok (.invokespecial 11, 3) := by decide +kernel
theorem dX11_init_23 : decode cX11_init 23 = .ok (.putfield 18, 3) := by decide +kernel
theorem dX11_init_26 : decode cX11_init 26 = .ok (.aload_n 0, 1) := by decide +kernel
theorem dX11_init_27 : decode cX11_init 27 = .ok (.iconst 0, 1) := by decide +kernel
theorem dX11_init_28 : decode cX11_init 28 = .ok (.putfield 21, 3) := by decide +kernel
theorem dX11_init_31 : decode cX11_init 31 = .ok (.aload_n 0, 1) := by decide +kernel
theorem dX11_init_32 : decode cX11_init 32 = .ok (.new 25, 3) := by decide +kernel
theorem dX11_init_35 : decode cX11_init 35 = .ok (.dup, 1) := by decide +kernel
theorem dX11_init_36 : decode cX11_init 36 = .ok (.aload_n 0, 1) := by decide +kernel
theorem dX11_init_37 : decode cX11_init 37 = .ok (.getfield 12, 3) := by decide +kernel
theorem dX11_init_40 : decode cX11_init 40 = .ok (.getfield 27, 3) := by decide +kernel
theorem dX11_init_43 : decode cX11_init 43 = .ok (.invokespecial 31, 3) := by decide +kernel
theorem dX11_init_46 : decode cX11_init 46 = .ok (.putfield 34, 3) := by decide +kernel
theorem dX11_init_49 : decode cX11_init 49 = .ok (.aload_n 0, 1) := by decide +kernel
theorem dX11_init_50 : decode cX11_init 50 = .ok (.new 38, 3) := by decide +kernel
theorem dX11_init_53 : decode cX11_init 53 = .ok (.dup, 1) := by decide +kernel
theorem dX11_init_54 : decode cX11_init 54 = .ok (.aload_n 0, 1) := by decide +kernel
theorem dX11_init_55 : decode cX11_init 55 = .ok (.getfield 12, 3) := by decide +kernel
theorem dX11_init_58 : decode cX11_init 58 = .ok (.getfield 27, 3) := by decide +kernel
theorem dX11_init_61 : decode cX11_init 61 = .ok (.aload_n 0, 1) := by decide +kernel
theorem dX11_init_62 : decode cX11_init 62 = .ok (.getfield 34, 3) := by decide +kernel
theorem dX11_init_65 : decode cX11_init 65 = .ok (.invokespecial 40, 3) := by decide +kernel
theorem dX11_init_68 : decode cX11_init 68 = .ok (.putfield 43, 3) := by decide +kernel
theorem dX11_init_71 : decode cX11_init 71 = .ok (.aload_n 0, 1) := by decide +kernel
theorem dX11_init_72 : decode cX11_init 72 = .ok (.new 47, 3) := by decide +kernel
theorem dX11_init_75 : decode cX11_init 75 = .ok (.dup, 1) := by decide +kernel
theorem dX11_init_76 : decode cX11_init 76 = .ok (.invokespecial 49, 3) := by decide +kernel
theorem dX11_init_79 : decode cX11_init 79 = .ok (.putfield 50, 3) := by decide +kernel
theorem dX11_init_82 : decode cX11_init 82 = .ok (.aload_n 0, 1) := by decide +kernel
theorem dX11_init_83 : decode cX11_init 83 = .ok (.new 54, 3) := by decide +kernel
theorem dX11_init_86 : decode cX11_init 86 = .ok (.dup, 1) := by decide +kernel
theorem dX11_init_87 : decode cX11_init 87 = .ok (.invokespecial 56, 3) := by decide +kernel
theorem dX11_init_90 : decode cX11_init 90 = .ok (.putfield 57, 3) := by decide +kernel
theorem dX11_init_93 : decode cX11_init 93 = .ok (.aload_n 0, 1) := by decide +kernel
theorem dX11_init_94 : decode cX11_init 94 = .ok (.new 61, 3) := by decide +kernel
theorem dX11_init_97 : decode cX11_init 97 = .ok (.dup, 1) := by decide +kernel
theorem dX11_init_98 : decode cX11_init 98 = .ok (.invokespecial 63, 3) := by decide +kernel
theorem dX11_init_101 : decode cX11_init 101 = .ok (.putfield 64, 3) := by decide +kernel
theorem dX11_init_104 : decode cX11_init 104 = .ok (.return_, 1) := by decide +kernel
set_option maxRecDepth 20000 in
theorem ggX11_size_X0_canBe : GoodIn wsX11_size wsX0_canBe := goodIn_r _ [5] (by decide +kernel) (by decide +kernel)
set_option maxRecDepth 20000 in
theorem gX11_size_X0_canBe : GoodIn wsX11_size (va_wsS RX11 68 yX0_canBe wsX0_canBe) := goodIn_app (goodIn_of _ (by decide +kernel)) ggX11_size_X0_canBe
set_option maxRecDepth 20000 in
theorem ggX11_size_X2_beginAnew : GoodIn wsX11_size wsX2_beginAnew := goodIn_r _ [10, 11, 12, 13, 14, 15, 16, 17, 4, 18, 19, 20, 21, 22, 23, 24, 25, 26, 27, 28, 29, 30, 31, 32, 33, 34, 35, 36, 37, 38, 39, 40, 41, 42, 43, 44, 45, 46, 47, 48, 49, 50, 51, 52, 53, 54, 55, 56, 57, 58, 59, 60, 61, 62, 63, 72, 73, 74, 75, 76, 77, 78, 79, 80, 81, 82, 83, 84, 85, 86, 87, 88, 89, 90, 91, 92, 93, 94] (by decide +kernel) (by decide +kernel)
set_option maxRecDepth 20000 in
theorem gX11_size_X2_beginAnew : GoodIn wsX11_size (wsV RX11 74 RX2 yX2_beginAnew wsX2_beginAnew) := goodIn_app (goodIn_of _ (by decide +kernel)) ggX11_size_X2_beginAnew
theorem dX11_size_0 : decode cX11_size 0 = .ok (.iload_n 1, 1) := by decide +kernel
theorem dX11_size_1 : decode cX11_size 1 = .ok (.iload_n 2, 1) := by decide +kernel
theorem dX11_size_2 : decode cX11_size 2 = .ok (.invokestatic 68, 3) := by decide +kernel
theorem dX11_size_5 : decode cX11_size 5 = .ok (.ifCond .ne 6, 3) := by decide +kernel
theorem dX11_size_8 : decode cX11_size 8 = .ok (.bipush (-2), 2) := by decide +kernel
theorem dX11_size_10 : decode cX11_size 10 = .ok (.ireturn, 1) := by decide +kernel
theorem dX11_size_11 : decode cX11_size 11 = .ok (.aload_n 0, 1) := by decide +kernel
theorem dX11_size_12 : decode cX11_size 12 = .ok (.getfield 12, 3) := by decide +kernel
theorem dX11_size_15 : decode cX11_size 15 = .ok (.iload_n 1, 1) := by decide +kernel
theorem dX11_size_16 : decode cX11_size 16 = .ok (.iload_n 2, 1) := by decide +kernel
theorem dX11_size_17 : decode cX11_size 17 = .ok (.invokevirtual 74, 3) := by decide +kernel
theorem dX11_size_20 : decode cX11_size 20 = .ok (.aload_n 0, 1) := by decide +kernel
theorem dX11_size_21 : decode cX11_size 21 = .ok (.getfield 12, 3) := by decide +kernel
theorem dX11_size_24 : decode cX11_size 24 = .ok (.getfield 27, 3) := by decide +kernel
theorem dX11_size_27 : decode cX11_size 27 = .ok (.getfield 78, 3) := by decide +kernel
theorem dX11_size_30 : decode cX11_size 30 = .ok (.ireturn, 1) := by decide +kernel
set_option maxRecDepth 20000 in
theorem ggX11_add_X0_isWord : GoodIn wsX11_add wsX0_isWord := goodIn_r _ [6, 7, 80, 81, 82, 83] (by decide +kernel) (by decide +kernel)
set_option maxRecDepth 20000 in
theorem gX11_add_X0_isWord : GoodIn wsX11_add (wsV RX11 82 RX0 yX0_isWord wsX0_isWord) := goodIn_app (goodIn_of _ (by decide +kernel)) ggX11_add_X0_isWord
set_option maxRecDepth 20000 in
theorem ggX11_add_X1_include : GoodIn wsX11_add wsX1_include := goodIn_r _ [12, 13, 14, 15, 16, 3, 4, 5, 6, 7, 17, 18, 19, 11, 20, 21, 22, 23, 24, 25, 26, 27, 28, 29, 30, 31, 32, 33, 34, 35, 36, 37, 38, 39, 40, 41, 42, 43, 44, 45, 46, 47, 48, 49, 50, 51, 52, 53, 54, 55, 56, 57, 58, 59, 60, 61, 62, 63, 84, 85, 86, 87, 88, 89, 90, 80, 81, 82, 83] (by decide +kernel) (by decide +kernel)
set_option maxRecDepth 20000 in
theorem gX11_add_X1_include : GoodIn wsX11_add (wsV RX11 89 RX1 yX1_include wsX1_include) := goodIn_app (goodIn_of _ (by decide +kernel)) ggX11_add_X1_include
set_option maxRecDepth 20000 in
theorem ggX11_add_X1_total : GoodIn wsX11_add wsX1_total := goodIn_r _ [67, 14, 84, 85, 86, 87, 88, 89, 90] (by decide +kernel) (by decide +kernel)
set_option maxRecDepth 20000 in
theorem gX11_add_X1_total : GoodIn wsX11_add (wsV RX11 92 RX1 yX1_total wsX1_total) := goodIn_app (goodIn_of _ (by decide +kernel)) ggX11_add_X1_total
theorem dX11_add_0 : decode cX11_add 0 = .ok (.aload_n 0, 1) := by decide +kernel
theorem dX11_add_1 : decode cX11_add 1 = .ok (.getfield 12, 3) := by decide +kernel
theorem dX11_add_4 : decode cX11_add 4 = .ok (.getfield 27, 3) := by decide +kernel
theorem dX11_add_7 : decode cX11_add 7 = .ok (.iload_n 1, 1) := by decide +kernel
theorem dX11_add_8 : decode cX11_add 8 = .ok (.invokevirtual 82, 3) := by decide +kernel
theorem dX11_add_11 : decode cX11_add 11 = .ok (.ifCond .ne 5, 3) := by decide +kernel
theorem dX11_add_14 : decode cX11_add 14 = .ok (.iconst (-1), 1) := by decide +kernel
theorem dX11_add_15 : decode cX11_add 15 = .ok (.ireturn, 1) := by decide +kernel
theorem dX11_add_16 : decode cX11_add 16 = .ok (.aload_n 0, 1) := by decide +kernel
theorem dX11_add_17 : decode cX11_add 17 = .ok (.getfield 12, 3) := by decide +kernel
theorem dX11_add_20 : decode cX11_add 20 = .ok (.getfield 86, 3) := by decide +kernel
theorem dX11_add_23 : decode cX11_add 23 = .ok (.iload_n 1, 1) := by decide +kernel
theorem dX11_add_24 : decode cX11_add 24 = .ok (.invokevirtual 89, 3) := by decide +kernel
theorem dX11_add_27 : decode cX11_add 27 = .ok (.ifCond .eq 16, 3) := by decide +kernel
theorem dX11_add_30 : decode cX11_add 30 = .ok (.aload_n 0, 1) := by decide +kernel
theorem dX11_add_31 : decode cX11_add 31 = .ok (.getfield 12, 3) := by decide +kernel
theorem dX11_add_34 : decode cX11_add 34 = .ok (.getfield 86, 3) := by decide +kernel
theorem dX11_add_37 : decode cX11_add 37 = .ok (.invokevirtual 92, 3) := by decide +kernel
theorem dX11_add_40 : decode cX11_add 40 = .ok (.goto 5, 3) := by decide +kernel
theorem dX11_add_43 : decode cX11_add 43 = .ok (.bipush (-3), 2) := by decide +kernel
theorem dX11_add_45 : decode cX11_add 45 = .ok (.ireturn, 1) := by decide +kernel
set_option maxRecDepth 20000 in
theorem ggX11_drop_X0_isWord : GoodIn wsX11_drop wsX0_isWord := goodIn_r _ [6, 7, 79, 80, 81, 82] (by decide +kernel) (by decide +kernel)
set_option maxRecDepth 20000 in
theorem gX11_drop_X0_isWord : GoodIn wsX11_drop (wsV RX11 82 RX0 yX0_isWord wsX0_isWord) := goodIn_app (goodIn_of _ (by decide +kernel)) ggX11_drop_X0_isWord
set_option maxRecDepth 20000 in
theorem ggX11_drop_X1_exclude : GoodIn wsX11_drop wsX1_exclude := goodIn_r _ [12, 13, 14, 15, 16, 17, 11, 18, 19, 20, 21, 22, 23, 24, 25, 26, 27, 28, 29, 30, 31, 32, 33, 34, 35, 36, 37, 38, 39, 40, 41, 42, 43, 44, 5, 45, 46, 47, 48, 49, 50, 51, 52, 53, 54, 55, 56, 57, 58, 59, 60, 61, 62, 83, 84, 85, 86, 87, 88, 89, 79, 80, 81, 82] (by decide +kernel) (by decide +kernel)
set_option maxRecDepth 20000 in
theorem gX11_drop_X1_exclude : GoodIn wsX11_drop (wsV RX11 96 RX1 yX1_exclude wsX1_exclude) := goodIn_app (goodIn_of _ (by decide +kernel)) ggX11_drop_X1_exclude
set_option maxRecDepth 20000 in
theorem ggX11_drop_X1_total : GoodIn wsX11_drop wsX1_total := goodIn_r _ [66, 13, 83, 84, 85, 86, 87, 88, 89] (by decide +kernel) (by decide +kernel)
set_option maxRecDepth 20000 in
theorem gX11_drop_X1_total : GoodIn wsX11_drop (wsV RX11 92 RX1 yX1_total wsX1_total) := goodIn_app (goodIn_of _ (by decide +kernel)) ggX11_drop_X1_total
theorem dX11_drop_0 : decode cX11_drop 0 = .ok (.aload_n 0, 1) := by decide +kernel
theorem dX11_drop_1 : decode cX11_drop 1 = .ok (.getfield 12, 3) := by decide +kernel
theorem dX11_drop_4 : decode cX11_drop 4 = .ok (.getfield 27, 3) := by decide +kernel
theorem dX11_drop_7 : decode cX11_drop 7 = .ok (.iload_n 1, 1) := by decide +kernel
theorem dX11_drop_8 : decode cX11_drop 8 = .ok (.invokevirtual 82, 3) := by decide +kernel
theorem dX11_drop_11 : decode cX11_drop 11 = .ok (.ifCond .ne 5, 3) := by decide +kernel
theorem dX11_drop_14 : decode cX11_drop 14 = .ok (.iconst (-1), 1) := by decide +kernel
theorem dX11_drop_15 : decode cX11_drop 15 = .ok (.ireturn, 1) := by decide +kernel
theorem dX11_drop_16 : decode cX11_drop 16 = .ok (.aload_n 0, 1) := by decide +kernel
theorem dX11_drop_17 : decode cX11_drop 17 = .ok (.getfield 12, 3) := by decide +kernel
theorem dX11_drop_20 : decode cX11_drop 20 = .ok (.getfield 86, 3) := by decide +kernel
theorem dX11_drop_23 : decode cX11_drop 23 = .ok (.iload_n 1, 1) := by decide +kernel
theorem dX11_drop_24 : decode cX11_drop 24 = .ok (.invokevirtual 96, 3) := by decide +kernel
theorem dX11_drop_27 : decode cX11_drop 27 = .ok (.ifCond .eq 16, 3) := by decide +kernel
theorem dX11_drop_30 : decode cX11_drop 30 = .ok (.aload_n 0, 1) := by decide +kernel
theorem dX11_drop_31 : decode cX11_drop 31 = .ok (.getfield 12, 3) := by decide +kernel
theorem dX11_drop_34 : decode cX11_drop 34 = .ok (.getfield 86, 3) := by decide +kernel
theorem dX11_drop_37 : decode cX11_drop 37 = .ok (.invokevirtual 92, 3) := by decide +kernel
theorem dX11_drop_40 : decode cX11_drop 40 = .ok (.goto 5, 3) := by decide +kernel
theorem dX11_drop_43 : decode cX11_drop 43 = .ok (.bipush (-3), 2) := by decide +kernel
theorem dX11_drop_45 : decode cX11_drop 45 = .ok (.ireturn, 1) := by decide +kernel
set_option maxRecDepth 20000 in
theorem ggX11_clear_X1_total : GoodIn wsX11_clear wsX1_total := goodIn_r _ [6, 7, 43, 44, 45, 46, 47, 48, 49] (by decide +kernel) (by decide +kernel)
set_option maxRecDepth 20000 in
theorem gX11_clear_X1_total : GoodIn wsX11_clear (wsV RX11 92 RX1 yX1_total wsX1_total) := goodIn_app (goodIn_of _ (by decide +kernel)) ggX11_clear_X1_total
set_option maxRecDepth 20000 in
theorem ggX11_clear_X1_empty : GoodIn wsX11_clear wsX1_empty := goodIn_r _ [11, 7, 12, 13, 14, 15, 16, 5, 17, 18, 19, 20, 21, 22, 23, 24, 25, 26, 27, 28, 29, 30, 43, 44, 45, 46, 47, 48, 49] (by decide +kernel) (by decide +kernel)
set_option maxRecDepth 20000 in
theorem gX11_clear_X1_empty : GoodIn wsX11_clear (wsV RX11 99 RX1 yX1_empty wsX1_empty) := goodIn_app (goodIn_of _ (by decide +kernel)) ggX11_clear_X1_empty
theorem dX11_clear_0 : decode cX11_clear 0 = .ok (.aload_n 0, 1) := by decide +kernel
theorem dX11_clear_1 : decode cX11_clear 1 = .ok (.getfield 12, 3) := by decide +kernel
theorem dX11_clear_4 : decode cX11_clear 4 = .ok (.getfield 86, 3) := by decide +kernel
theorem dX11_clear_7 : decode cX11_clear 7 = .ok (.invokevirtual 92, 3) := by decide +kernel
theorem dX11_clear_10 : decode cX11_clear 10 = .ok (.istore_n 1, 1) := by decide +kernel
theorem dX11_clear_11 : decode cX11_clear 11 = .ok (.aload_n 0, 1) := by decide +kernel
theorem dX11_clear_12 : decode cX11_clear 12 = .ok (.getfield 12, 3) := by decide +kernel
theorem dX11_clear_15 : decode cX11_clear 15 = .ok (.getfield 86, 3) := by decide +kernel
theorem dX11_clear_18 : decode cX11_clear 18 = .ok (.invokevirtual 99, 3) := by decide +kernel
theorem dX11_clear_21 : decode cX11_clear 21 = .ok (.iload_n 1, 1) := by decide +kernel
theorem dX11_clear_22 : decode cX11_clear 22 = .ok (.ireturn, 1) := by decide +kernel
set_option maxRecDepth 20000 in
theorem ggX11_word_X1_has : GoodIn wsX11_word wsX1_has := goodIn_r _ [6, 7, 29, 30, 31, 32, 33, 34, 35] (by decide +kernel) (by decide +kernel)
set_option maxRecDepth 20000 in
theorem gX11_word_X1_has : GoodIn wsX11_word (wsV RX11 102 RX1 yX1_has wsX1_has) := goodIn_app (goodIn_of _ (by decide +kernel)) ggX11_word_X1_has
set_option maxRecDepth 20000 in
theorem ggX11_word_X1_nth : GoodIn wsX11_word wsX1_nth := goodIn_r _ [11, 12, 13, 14, 15, 16, 29, 30, 31, 32, 33, 34, 35] (by decide +kernel) (by decide +kernel)
set_option maxRecDepth 20000 in
theorem gX11_word_X1_nth : GoodIn wsX11_word (wsV RX11 105 RX1 yX1_nth wsX1_nth) := goodIn_app (goodIn_of _ (by decide +kernel)) ggX11_word_X1_nth
theorem dX11_word_0 : decode cX11_word 0 = .ok (.aload_n 0, 1) := by decide +kernel
theorem dX11_word_1 : decode cX11_word 1 = .ok (.getfield 12, 3) := by decide +kernel
theorem dX11_word_4 : decode cX11_word 4 = .ok (.getfield 86, 3) := by decide +kernel
theorem dX11_word_7 : decode cX11_word 7 = .ok (.iload_n 1, 1) := by decide +kernel
theorem dX11_word_8 : decode cX11_word 8 = .ok (.invokevirtual 102, 3) := by decide +kernel
theorem dX11_word_11 : decode cX11_word 11 = .ok (.ifCond .eq 17, 3) := by decide +kernel
theorem dX11_word_14 : decode cX11_word 14 = .ok (.aload_n 0, 1) := by decide +kernel
theorem dX11_word_15 : decode cX11_word 15 = .ok (.getfield 12, 3) := by decide +kernel
theorem dX11_word_18 : decode cX11_word 18 = .ok (.getfield 86, 3) := by decide +kernel
theorem dX11_word_21 : decode cX11_word 21 = .ok (.iload_n 1, 1) := by decide +kernel
theorem dX11_word_22 : decode cX11_word 22 = .ok (.invokevirtual 105, 3) := by decide +kernel
theorem dX11_word_25 : decode cX11_word 25 = .ok (.goto 5, 3) := by decide +kernel
theorem dX11_word_28 : decode cX11_word 28 = .ok (.bipush (-5), 2) := by decide +kernel
theorem dX11_word_30 : decode cX11_word 30 = .ok (.ireturn, 1) := by decide +kernel
set_option maxRecDepth 20000 in
theorem ggX11_letter_X0_isWord : GoodIn wsX11_letter wsX0_isWord := goodIn_r _ [6, 7, 37, 38, 39, 40] (by decide +kernel) (by decide +kernel)
set_option maxRecDepth 20000 in
theorem gX11_letter_X0_isWord : GoodIn wsX11_letter (wsV RX11 82 RX0 yX0_isWord wsX0_isWord) := goodIn_app (goodIn_of _ (by decide +kernel)) ggX11_letter_X0_isWord
set_option maxRecDepth 20000 in
theorem ggX11_letter_X0_part : GoodIn wsX11_letter wsX0_part := goodIn_r _ [11, 12, 13, 14, 15, 5, 16, 17, 18, 19, 20, 21, 22, 23, 24, 37, 38, 39, 40] (by decide +kernel) (by decide +kernel)
set_option maxRecDepth 20000 in
theorem gX11_letter_X0_part : GoodIn wsX11_letter (wsV RX11 112 RX0 yX0_part wsX0_part) := goodIn_app (goodIn_of _ (by decide +kernel)) ggX11_letter_X0_part
theorem dX11_letter_0 : decode cX11_letter 0 = .ok (.aload_n 0, 1) := by decide +kernel
theorem dX11_letter_1 : decode cX11_letter 1 = .ok (.getfield 12, 3) := by decide +kernel
theorem dX11_letter_4 : decode cX11_letter 4 = .ok (.getfield 27, 3) := by decide +kernel
theorem dX11_letter_7 : decode cX11_letter 7 = .ok (.astore_n 3, 1) := by decide +kernel
theorem dX11_letter_8 : decode cX11_letter 8 = .ok (.aload_n 3, 1) := by decide +kernel
theorem dX11_letter_9 : decode cX11_letter 9 = .ok (.iload_n 1, 1) := by decide +kernel
theorem dX11_letter_10 : decode cX11_letter 10 = .ok (.invokevirtual 82, 3) := by decide +kernel
theorem dX11_letter_13 : decode cX11_letter 13 = .ok (.ifCond .eq 15, 3) := by decide +kernel
theorem dX11_letter_16 : decode cX11_letter 16 = .ok (.iload_n 2, 1) := by decide +kernel
theorem dX11_letter_17 : decode cX11_letter 17 = .ok (.ifCond .lt 11, 3) := by decide +kernel
theorem dX11_letter_20 : decode cX11_letter 20 = .ok (.iload_n 2, 1) := by decide +kernel
theorem dX11_letter_21 : decode cX11_letter 21 = .ok (.aload_n 3, 1) := by decide +kernel
theorem dX11_letter_22 : decode cX11_letter 22 = .ok (.getfield 109, 3) := by decide +kernel
theorem dX11_letter_25 : decode cX11_letter 25 = .ok (.if_icmp .lt 5, 3) := by decide +kernel
theorem dX11_letter_28 : decode cX11_letter 28 = .ok (.iconst (-1), 1) := by decide +kernel
theorem dX11_letter_29 : decode cX11_letter 29 = .ok (.ireturn, 1) := by decide +kernel
theorem dX11_letter_30 : decode cX11_letter 30 = .ok (.aload_n 3, 1) := by decide +kernel
theorem dX11_letter_31 : decode cX11_letter 31 = .ok (.iload_n 1, 1) := by decide +kernel
theorem dX11_letter_32 : decode cX11_letter 32 = .ok (.iload_n 2, 1) := by decide +kernel
theorem dX11_letter_33 : decode cX11_letter 33 = .ok (.iconst 1, 1) := by decide +kernel
theorem dX11_letter_34 : decode cX11_letter 34 = .ok (.invokevirtual 112, 3) := by decide +kernel
theorem dX11_letter_37 : decode cX11_letter 37 = .ok (.ireturn, 1) := by decide +kernel
set_option maxRecDepth 20000 in
theorem ggX11_hides_X0_isWord : GoodIn wsX11_hides wsX0_isWord := goodIn_r _ [6, 7, 45, 46, 47, 48] (by decide +kernel) (by decide +kernel)
set_option maxRecDepth 20000 in
theorem gX11_hides_X0_isWord : GoodIn wsX11_hides (wsV RX11 82 RX0 yX0_isWord wsX0_isWord) := goodIn_app (goodIn_of _ (by decide +kernel)) ggX11_hides_X0_isWord
set_option maxRecDepth 20000 in
theorem ggX11_hides_X0_across : GoodIn wsX11_hides wsX0_across := goodIn_r _ [11, 12, 13, 14, 15, 5, 16, 17, 18, 19, 20, 21, 22, 23, 24, 25, 26, 27, 28, 29, 30, 31, 32, 45, 46, 47, 48] (by decide +kernel) (by decide +kernel)
set_option maxRecDepth 20000 in
theorem gX11_hides_X0_across : GoodIn wsX11_hides (wsV RX11 116 RX0 yX0_across wsX0_across) := goodIn_app (goodIn_of _ (by decide +kernel)) ggX11_hides_X0_across
theorem dX11_hides_0 : decode cX11_hides 0 = .ok (.aload_n 0, 1) := by decide +kernel
theorem dX11_hides_1 : decode cX11_hides 1 = .ok (.getfield 12, 3) := by decide +kernel
theorem dX11_hides_4 : decode cX11_hides 4 = .ok (.getfield 27, 3) := by decide +kernel
theorem dX11_hides_7 : decode cX11_hides 7 = .ok (.astore 4, 2) := by decide +kernel
theorem dX11_hides_9 : decode cX11_hides 9 = .ok (.aload 4, 2) := by decide +kernel
theorem dX11_hides_11 : decode cX11_hides 11 = .ok (.iload_n 1, 1) := by decide +kernel
theorem dX11_hides_12 : decode cX11_hides 12 = .ok (.invokevirtual 82, 3) := by decide +kernel
theorem dX11_hides_15 : decode cX11_hides 15 = .ok (.ifCond .eq 21, 3) := by decide +kernel
theorem dX11_hides_18 : decode cX11_hides 18 = .ok (.aload 4, 2) := by decide +kernel
theorem dX11_hides_20 : decode cX11_hides 20 = .ok (.iload_n 2, 1) := by decide +kernel
theorem dX11_hides_21 : decode cX11_hides 21 = .ok (.invokevirtual 82, 3) := by decide +kernel
theorem dX11_hides_24 : decode cX11_hides 24 = .ok (.ifCond .eq 12, 3) := by decide +kernel
theorem dX11_hides_27 : decode cX11_hides 27 = .ok (.aload 4, 2) := by decide +kernel
theorem dX11_hides_29 : decode cX11_hides 29 = .ok (.iload_n 3, 1) := by decide +kernel
theorem dX11_hides_30 : decode cX11_hides 30 = .ok (.invokevirtual 82, 3) := by decide +kernel
theorem dX11_hides_33 : decode cX11_hides 33 = .ok (.ifCond .ne 5, 3) := by decide +kernel
theorem dX11_hides_36 : decode cX11_hides 36 = .ok (.iconst (-1), 1) := by decide +kernel
theorem dX11_hides_37 : decode cX11_hides 37 = .ok (.ireturn, 1) := by decide +kernel
theorem dX11_hides_38 : decode cX11_hides 38 = .ok (.iconst 0, 1) := by decide +kernel
theorem dX11_hides_39 : decode cX11_hides 39 = .ok (.istore 5, 2) := by decide +kernel
theorem dX11_hides_41 : decode cX11_hides 41 = .ok (.iconst 1, 1) := by decide +kernel
theorem dX11_hides_42 : decode cX11_hides 42 = .ok (.istore 6, 2) := by decide +kernel
theorem dX11_hides_44 : decode cX11_hides 44 = .ok (.iload 6, 2) := by decide +kernel
theorem dX11_hides_46 : decode cX11_hides 46 = .ok (.aload 4, 2) := by decide +kernel
theorem dX11_hides_48 : decode cX11_hides 48 = .ok (.getfield 109, 3) := by decide +kernel
theorem dX11_hides_51 : decode cX11_hides 51 = .ok (.if_icmp .ge 31, 3) := by decide +kernel
theorem dX11_hides_54 : decode cX11_hides 54 = .ok (.aload 4, 2) := by decide +kernel
theorem dX11_hides_56 : decode cX11_hides 56 = .ok (.iload_n 1, 1) := by decide +kernel
theorem dX11_hides_57 : decode cX11_hides 57 = .ok (.iload_n 2, 1) := by decide +kernel
theorem dX11_hides_58 : decode cX11_hides 58 = .ok (.iload 6, 2) := by decide +kernel
theorem dX11_hides_60 : decode cX11_hides 60 = .ok (.invokevirtual 116, 3) := by decide +kernel
theorem dX11_hides_63 : decode cX11_hides 63 = .ok (.iload_n 3, 1) := by decide +kernel
theorem dX11_hides_64 : decode cX11_hides 64 = .ok (.if_icmp .ne 12, 3) := by decide +kernel
theorem dX11_hides_67 : decode cX11_hides 67 = .ok (.iload 5, 2) := by decide +kernel
theorem dX11_hides_69 : decode cX11_hides 69 = .ok (.iconst 1, 1) := by decide +kernel
theorem dX11_hides_70 : decode cX11_hides 70 = .ok (.iload 6, 2) := by decide +kernel
theorem dX11_hides_72 : decode cX11_hides 72 = .ok (.ishl, 1) := by decide +kernel
theorem dX11_hides_73 : decode cX11_hides 73 = .ok (.ior, 1) := by decide +kernel
theorem dX11_hides_74 : decode cX11_hides 74 = .ok (.istore 5, 2) := by decide +kernel
theorem dX11_hides_76 : decode cX11_hides 76 = .ok (.iinc 6 1, 3) := by decide +kernel
theorem dX11_hides_79 : decode cX11_hides 79 = .ok (.goto (-35), 3) := by decide +kernel
theorem dX11_hides_82 : decode cX11_hides 82 = .ok (.iload 5, 2) := by decide +kernel
theorem dX11_hides_84 : decode cX11_hides 84 = .ok (.ireturn, 1) := by decide +kernel
set_option maxRecDepth 20000 in
theorem ggX11_clash_X1_isFree : GoodIn wsX11_clash wsX1_isFree := goodIn_r _ [6, 7, 8, 9, 10, 5, 11, 12, 13, 14, 15, 16, 17, 18, 19, 20, 21, 22, 23, 24, 25, 26, 27, 28, 29, 30, 31, 32, 33, 34, 35, 36, 37, 38, 39, 40, 41, 42, 43, 44, 45, 77, 78, 79, 80, 81, 82, 83, 84, 85, 86, 87] (by decide +kernel) (by decide +kernel)
set_option maxRecDepth 20000 in
theorem gX11_clash_X1_isFree : GoodIn wsX11_clash (wsV RX11 119 RX1 yX1_isFree wsX1_isFree) := goodIn_app (goodIn_of _ (by decide +kernel)) ggX11_clash_X1_isFree
set_option maxRecDepth 20000 in
theorem ggX11_clash_X1_firstClash : GoodIn wsX11_clash wsX1_firstClash := goodIn_r _ [49, 7, 21, 8, 9, 10, 5, 11, 12, 13, 14, 15, 16, 50, 51, 52, 53, 54, 55, 56, 27, 57, 34, 58, 40, 41, 42, 35, 25, 26, 28, 29, 43, 44, 45, 59, 31, 32, 33, 36, 37, 38, 60, 61, 62, 63, 64, 77, 78, 79, 80, 81, 82, 83, 84, 85, 86, 87] (by decide +kernel) (by decide +kernel)
set_option maxRecDepth 20000 in
theorem gX11_clash_X1_firstClash : GoodIn wsX11_clash (wsV RX11 123 RX1 yX1_firstClash wsX1_firstClash) := goodIn_app (goodIn_of _ (by decide +kernel)) ggX11_clash_X1_firstClash
theorem dX11_clash_0 : decode cX11_clash 0 = .ok (.iload_n 1, 1) := by decide +kernel
theorem dX11_clash_1 : decode cX11_clash 1 = .ok (.ifCond .lt 8, 3) := by decide +kernel
theorem dX11_clash_4 : decode cX11_clash 4 = .ok (.iload_n 1, 1) := by decide +kernel
theorem dX11_clash_5 : decode cX11_clash 5 = .ok (.iconst 3, 1) := by decide +kernel
theorem dX11_clash_6 : decode cX11_clash 6 = .ok (.if_icmp .le 5, 3) := by decide +kernel
theorem dX11_clash_9 : decode cX11_clash 9 = .ok (.iconst (-1), 1) := by decide +kernel
theorem dX11_clash_10 : decode cX11_clash 10 = .ok (.ireturn, 1) := by decide +kernel
theorem dX11_clash_11 : decode cX11_clash 11 = .ok (.aload_n 0, 1) := by decide +kernel
theorem dX11_clash_12 : decode cX11_clash 12 = .ok (.getfield 12, 3) := by decide +kernel
theorem dX11_clash_15 : decode cX11_clash 15 = .ok (.getfield 86, 3) := by decide +kernel
theorem dX11_clash_18 : decode cX11_clash 18 = .ok (.invokevirtual 119, 3) := by decide +kernel
theorem dX11_clash_21 : decode cX11_clash 21 = .ok (.ifCond .eq 8, 3) := by decide +kernel
theorem dX11_clash_24 : decode cX11_clash 24 = .ok (.bipush (-5), 2) := by decide +kernel
theorem dX11_clash_26 : decode cX11_clash 26 = .ok (.goto 14, 3) := by decide +kernel
theorem dX11_clash_29 : decode cX11_clash 29 = .ok (.aload_n 0, 1) := by decide +kernel
theorem dX11_clash_30 : decode cX11_clash 30 = .ok (.getfield 12, 3) := by decide +kernel
theorem dX11_clash_33 : decode cX11_clash 33 = .ok (.getfield 86, 3) := by decide +kernel
theorem dX11_clash_36 : decode cX11_clash 36 = .ok (.iload_n 1, 1) := by decide +kernel
theorem dX11_clash_37 : decode cX11_clash 37 = .ok (.invokevirtual 123, 3) := by decide +kernel
theorem dX11_clash_40 : decode cX11_clash 40 = .ok (.ireturn, 1) := by decide +kernel
set_option maxRecDepth 20000 in
theorem ggX11_may_X0_isWord : GoodIn wsX11_may wsX0_isWord := goodIn_r _ [6, 7, 80, 81, 82, 83] (by decide +kernel) (by decide +kernel)
set_option maxRecDepth 20000 in
theorem gX11_may_X0_isWord : GoodIn wsX11_may (wsV RX11 82 RX0 yX0_isWord wsX0_isWord) := goodIn_app (goodIn_of _ (by decide +kernel)) ggX11_may_X0_isWord
set_option maxRecDepth 20000 in
theorem ggX11_may_X1_allows : GoodIn wsX11_may wsX1_allows := goodIn_r _ [12, 13, 14, 3, 4, 5, 6, 7, 15, 16, 17, 11, 18, 19, 20, 21, 22, 23, 24, 25, 26, 27, 28, 29, 30, 31, 32, 33, 34, 35, 36, 37, 38, 39, 40, 41, 42, 43, 44, 45, 46, 47, 48, 49, 50, 51, 52, 53, 54, 55, 56, 57, 58, 59, 60, 61, 62, 63, 64, 65, 66, 67, 84, 85, 86, 87, 88, 89, 90, 80, 81, 82, 83] (by decide +kernel) (by decide +kernel)
set_option maxRecDepth 20000 in
theorem gX11_may_X1_allows : GoodIn wsX11_may (wsV RX11 126 RX1 yX1_allows wsX1_allows) := goodIn_app (goodIn_of _ (by decide +kernel)) ggX11_may_X1_allows
theorem dX11_may_0 : decode cX11_may 0 = .ok (.aload_n 0, 1) := by decide +kernel
theorem dX11_may_1 : decode cX11_may 1 = .ok (.getfield 12, 3) := by decide +kernel
theorem dX11_may_4 : decode cX11_may 4 = .ok (.getfield 27, 3) := by decide +kernel
theorem dX11_may_7 : decode cX11_may 7 = .ok (.iload_n 1, 1) := by decide +kernel
theorem dX11_may_8 : decode cX11_may 8 = .ok (.invokevirtual 82, 3) := by decide +kernel
theorem dX11_may_11 : decode cX11_may 11 = .ok (.ifCond .ne 5, 3) := by decide +kernel
theorem dX11_may_14 : decode cX11_may 14 = .ok (.iconst (-1), 1) := by decide +kernel
theorem dX11_may_15 : decode cX11_may 15 = .ok (.ireturn, 1) := by decide +kernel
theorem dX11_may_16 : decode cX11_may 16 = .ok (.aload_n 0, 1) := by decide +kernel
theorem dX11_may_17 : decode cX11_may 17 = .ok (.getfield 12, 3) := by decide +kernel
theorem dX11_may_20 : decode cX11_may 20 = .ok (.getfield 86, 3) := by decide +kernel
theorem dX11_may_23 : decode cX11_may 23 = .ok (.iload_n 1, 1) := by decide +kernel
theorem dX11_may_24 : decode cX11_may 24 = .ok (.invokevirtual 126, 3) := by decide +kernel
theorem dX11_may_27 : decode cX11_may 27 = .ok (.ifCond .eq 7, 3) := by decide +kernel
theorem dX11_may_30 : decode cX11_may 30 = .ok (.iconst 1, 1) := by decide +kernel
theorem dX11_may_31 : decode cX11_may 31 = .ok (.goto 4, 3) := by decide +kernel
theorem dX11_may_34 : decode cX11_may 34 = .ok (.iconst 0, 1) := by decide +kernel
theorem dX11_may_35 : decode cX11_may 35 = .ok (.ireturn, 1) := by decide +kernel
set_option maxRecDepth 20000 in
theorem ggX11_mays_X1_isFree : GoodIn wsX11_mays wsX1_isFree := goodIn_r _ [6, 7, 8, 9, 10, 5, 11, 12, 13, 14, 15, 16, 17, 18, 19, 20, 21, 22, 23, 24, 25, 26, 27, 28, 29, 30, 31, 32, 33, 34, 35, 36, 37, 38, 39, 40, 41, 42, 43, 44, 45, 84, 85, 86, 87, 88, 89, 90, 80, 81, 82, 83] (by decide +kernel) (by decide +kernel)
set_option maxRecDepth 20000 in
theorem gX11_mays_X1_isFree : GoodIn wsX11_mays (wsV RX11 119 RX1 yX1_isFree wsX1_isFree) := goodIn_app (goodIn_of _ (by decide +kernel)) ggX11_mays_X1_isFree
set_option maxRecDepth 20000 in
theorem ggX11_mays_X1_allows : GoodIn wsX11_mays wsX1_allows := goodIn_r _ [49, 21, 50, 51, 52, 27, 53, 54, 55, 56, 57, 5, 58, 59, 60, 61, 62, 63, 23, 22, 24, 25, 26, 28, 29, 30, 31, 32, 33, 34, 35, 36, 37, 15, 38, 39, 40, 41, 42, 43, 44, 45, 13, 14, 16, 64, 65, 66, 17, 18, 19, 20, 67, 3, 4, 6, 7, 8, 9, 10, 11, 12, 84, 85, 86, 87, 88, 89, 90, 80, 81, 82, 83] (by decide +kernel) (by decide +kernel)
set_option maxRecDepth 20000 in
theorem gX11_mays_X1_allows : GoodIn wsX11_mays (wsV RX11 126 RX1 yX1_allows wsX1_allows) := goodIn_app (goodIn_of _ (by decide +kernel)) ggX11_mays_X1_allows
theorem dX11_mays_0 : decode cX11_mays 0 = .ok (.iconst 0, 1) := by decide +kernel
theorem dX11_mays_1 : decode cX11_mays 1 = .ok (.istore_n 2, 1) := by decide +kernel
theorem dX11_mays_2 : decode cX11_mays 2 = .ok (.aload_n 0, 1) := by decide +kernel
theorem dX11_mays_3 : decode cX11_mays 3 = .ok (.getfield 12, 3) := by decide +kernel
theorem dX11_mays_6 : decode cX11_mays 6 = .ok (.getfield 86, 3) := by decide +kernel
theorem dX11_mays_9 : decode cX11_mays 9 = .ok (.invokevirtual 119, 3) := by decide +kernel
theorem dX11_mays_12 : decode cX11_mays 12 = .ok (.ifCond .eq 16, 3) := by decide +kernel
theorem dX11_mays_15 : decode cX11_mays 15 = .ok (.aload_n 0, 1) := by decide +kernel
theorem dX11_mays_16 : decode cX11_mays 16 = .ok (.getfield 12, 3) := by decide +kernel
theorem dX11_mays_19 : decode cX11_mays 19 = .ok (.getfield 27, 3) := by decide +kernel
theorem dX11_mays_22 : decode cX11_mays 22 = .ok (.getfield 78, 3) := by decide +kernel
theorem dX11_mays_25 : decode cX11_mays 25 = .ok (.goto 4, 3) := by decide +kernel
theorem dX11_mays_28 : decode cX11_mays 28 = .ok (.iconst 0, 1) := by decide +kernel
theorem dX11_mays_29 : decode cX11_mays 29 = .ok (.istore_n 3, 1) := by decide +kernel
theorem dX11_mays_30 : decode cX11_mays 30 = .ok (.iconst 0, 1) := by decide +kernel
theorem dX11_mays_31 : decode cX11_mays 31 = .ok (.istore 4, 2) := by decide +kernel
theorem dX11_mays_33 : decode cX11_mays 33 = .ok (.iload 4, 2) := by decide +kernel
theorem dX11_mays_35 : decode cX11_mays 35 = .ok (.iload_n 3, 1) := by decide +kernel
theorem dX11_mays_36 : decode cX11_mays 36 = .ok (.if_icmp .ge 35, 3) := by decide +kernel
theorem dX11_mays_39 : decode cX11_mays 39 = .ok (.aload_n 0, 1) := by decide +kernel
theorem dX11_mays_40 : decode cX11_mays 40 = .ok (.getfield 12, 3) := by decide +kernel
theorem dX11_mays_43 : decode cX11_mays 43 = .ok (.getfield 86, 3) := by decide +kernel
theorem dX11_mays_46 : decode cX11_mays 46 = .ok (.iload 4, 2) := by decide +kernel
theorem dX11_mays_48 : decode cX11_mays 48 = .ok (.invokevirtual 126, 3) := by decide +kernel
theorem dX11_mays_51 : decode cX11_mays 51 = .ok (.ifCond .eq 14, 3) := by decide +kernel
theorem dX11_mays_54 : decode cX11_mays 54 = .ok (.iload_n 2, 1) := by decide +kernel
theorem dX11_mays_55 : decode cX11_mays 55 = .ok (.iload_n 1, 1) := by decide +kernel
theorem dX11_mays_56 : decode cX11_mays 56 = .ok (.if_icmp .ne 6, 3) := by decide +kernel
theorem dX11_mays_59 : decode cX11_mays 59 = .ok (.iload 4, 2) := by decide +kernel
theorem dX11_mays_61 : decode cX11_mays 61 = .ok (.ireturn, 1) := by decide +kernel
theorem dX11_mays_62 : decode cX11_mays 62 = .ok (.iinc 2 1, 3) := by decide +kernel
theorem dX11_mays_65 : decode cX11_mays 65 = .ok (.iinc 4 1, 3) := by decide +kernel
theorem dX11_mays_68 : decode cX11_mays 68 = .ok (.goto (-35), 3) := by decide +kernel
theorem dX11_mays_71 : decode cX11_mays 71 = .ok (.iload_n 1, 1) := by decide +kernel
theorem dX11_mays_72 : decode cX11_mays 72 = .ok (.iconst (-1), 1) := by decide +kernel
theorem dX11_mays_73 : decode cX11_mays 73 = .ok (.if_icmp .ne 7, 3) := by decide +kernel
theorem dX11_mays_76 : decode cX11_mays 76 = .ok (.iload_n 2, 1) := by decide +kernel
theorem dX11_mays_77 : decode cX11_mays 77 = .ok (.goto 5, 3) := by decide +kernel
theorem dX11_mays_80 : decode cX11_mays 80 = .ok (.bipush (-5), 2) := by decide +kernel
theorem dX11_mays_82 : decode cX11_mays 82 = .ok (.ireturn, 1) := by decide +kernel
set_option maxRecDepth 20000 in
theorem ggX11_ring_X0_isWord : GoodIn wsX11_ring wsX0_isWord := goodIn_r _ [6, 7, 62, 63, 64, 65] (by decide +kernel) (by decide +kernel)
set_option maxRecDepth 20000 in
theorem gX11_ring_X0_isWord : GoodIn wsX11_ring (wsV RX11 82 RX0 yX0_isWord wsX0_isWord) := goodIn_app (goodIn_of _ (by decide +kernel)) ggX11_ring_X0_isWord
set_option maxRecDepth 20000 in
theorem ggX11_ring_X0_ringSize : GoodIn wsX11_ring wsX0_ringSize := goodIn_r _ [11, 12, 13, 14, 15, 5, 16, 17, 18, 19, 20, 21, 22, 23, 24, 25, 26, 27, 28, 29, 62, 63, 64, 65] (by decide +kernel) (by decide +kernel)
set_option maxRecDepth 20000 in
theorem gX11_ring_X0_ringSize : GoodIn wsX11_ring (wsV RX11 129 RX0 yX0_ringSize wsX0_ringSize) := goodIn_app (goodIn_of _ (by decide +kernel)) ggX11_ring_X0_ringSize
set_option maxRecDepth 20000 in
theorem ggX11_ring_X0_ringLeast : GoodIn wsX11_ring wsX0_ringLeast := goodIn_r _ [33, 12, 34, 35, 36, 37, 13, 14, 15, 5, 16, 17, 18, 19, 20, 21, 22, 23, 24, 25, 26, 27, 28, 29, 62, 63, 64, 65] (by decide +kernel) (by decide +kernel)
set_option maxRecDepth 20000 in
theorem gX11_ring_X0_ringLeast : GoodIn wsX11_ring (wsV RX11 132 RX0 yX0_ringLeast wsX0_ringLeast) := goodIn_app (goodIn_of _ (by decide +kernel)) ggX11_ring_X0_ringLeast
set_option maxRecDepth 20000 in
theorem ggX11_ring_X0_isWhole : GoodIn wsX11_ring wsX0_isWhole := goodIn_r _ [41, 12, 42, 9, 10, 5, 11, 13, 14, 15, 16, 17, 18, 19, 20, 21, 22, 23, 24, 25, 26, 27, 28, 29, 62, 63, 64, 65] (by decide +kernel) (by decide +kernel)
set_option maxRecDepth 20000 in
theorem gX11_ring_X0_isWhole : GoodIn wsX11_ring (wsV RX11 135 RX0 yX0_isWhole wsX0_isWhole) := goodIn_app (goodIn_of _ (by decide +kernel)) ggX11_ring_X0_isWhole
set_option maxRecDepth 20000 in
theorem ggX11_ring_X0_wholeRingsBelow : GoodIn wsX11_ring wsX0_wholeRingsBelow := goodIn_r _ [46, 7, 47, 31, 32, 5, 33, 12, 34, 35, 36, 37, 13, 14, 15, 16, 17, 18, 19, 20, 21, 22, 23, 24, 25, 26, 27, 28, 29, 48, 39, 40, 41, 42, 9, 10, 11, 62, 63, 64, 65] (by decide +kernel) (by decide +kernel)
set_option maxRecDepth 20000 in
theorem gX11_ring_X0_wholeRingsBelow : GoodIn wsX11_ring (wsV RX11 138 RX0 yX0_wholeRingsBelow wsX0_wholeRingsBelow) := goodIn_app (goodIn_of _ (by decide +kernel)) ggX11_ring_X0_wholeRingsBelow
set_option maxRecDepth 20000 in
theorem ggX11_ring_X0_turned : GoodIn wsX11_ring wsX0_turned := goodIn_r _ [16, 12, 17, 18, 19, 20, 5, 21, 22, 23, 24, 25, 26, 27, 28, 29, 62, 63, 64, 65] (by decide +kernel) (by decide +kernel)
set_option maxRecDepth 20000 in
theorem gX11_ring_X0_turned : GoodIn wsX11_ring (wsV RX11 141 RX0 yX0_turned wsX0_turned) := goodIn_app (goodIn_of _ (by decide +kernel)) ggX11_ring_X0_turned
theorem dX11_ring_0 : decode cX11_ring 0 = .ok (.aload_n 0, 1) := by decide +kernel
theorem dX11_ring_1 : decode cX11_ring 1 = .ok (.getfield 12, 3) := by decide +kernel
theorem dX11_ring_4 : decode cX11_ring 4 = .ok (.getfield 27, 3) := by decide +kernel
theorem dX11_ring_7 : decode cX11_ring 7 = .ok (.astore_n 3, 1) := by decide +kernel
theorem dX11_ring_8 : decode cX11_ring 8 = .ok (.aload_n 3, 1) := by decide +kernel
theorem dX11_ring_9 : decode cX11_ring 9 = .ok (.iload_n 1, 1) := by decide +kernel
theorem dX11_ring_10 : decode cX11_ring 10 = .ok (.invokevirtual 82, 3) := by decide +kernel
theorem dX11_ring_13 : decode cX11_ring 13 = .ok (.ifCond .ne 5, 3) := by decide +kernel
theorem dX11_ring_16 : decode cX11_ring 16 = .ok (.iconst (-1), 1) := by decide +kernel
theorem dX11_ring_17 : decode cX11_ring 17 = .ok (.ireturn, 1) := by decide +kernel
theorem dX11_ring_18 : decode cX11_ring 18 = .ok (.iload_n 2, 1) := by decide +kernel
theorem dX11_ring_19 : decode cX11_ring 19 = .ok (.tableswitch 70 0 3 #[29, 35, 41, 64], 29) := by decide +kernel
theorem dX11_ring_48 : decode cX11_ring 48 = .ok (.aload_n 3, 1) := by decide +kernel
theorem dX11_ring_49 : decode cX11_ring 49 = .ok (.iload_n 1, 1) := by decide +kernel
theorem dX11_ring_50 : decode cX11_ring 50 = .ok (.invokevirtual 129, 3) := by decide +kernel
theorem dX11_ring_53 : decode cX11_ring 53 = .ok (.ireturn, 1) := by decide +kernel
theorem dX11_ring_54 : decode cX11_ring 54 = .ok (.aload_n 3, 1) := by decide +kernel
theorem dX11_ring_55 : decode cX11_ring 55 = .ok (.iload_n 1, 1) := by decide +kernel
theorem dX11_ring_56 : decode cX11_ring 56 = .ok (.invokevirtual 132, 3) := by decide +kernel
theorem dX11_ring_59 : decode cX11_ring 59 = .ok (.ireturn, 1) := by decide +kernel
theorem dX11_ring_60 : decode cX11_ring 60 = .ok (.aload_n 3, 1) := by decide +kernel
theorem dX11_ring_61 : decode cX11_ring 61 = .ok (.iload_n 1, 1) := by decide +kernel
theorem dX11_ring_62 : decode cX11_ring 62 = .ok (.invokevirtual 135, 3) := by decide +kernel
theorem dX11_ring_65 : decode cX11_ring 65 = .ok (.ifCond .eq 15, 3) := by decide +kernel
theorem dX11_ring_68 : decode cX11_ring 68 = .ok (.aload_n 3, 1) := by decide +kernel
theorem dX11_ring_69 : decode cX11_ring 69 = .ok (.aload_n 3, 1) := by decide +kernel
theorem dX11_ring_70 : decode cX11_ring 70 = .ok (.iload_n 1, 1) := by decide +kernel
theorem dX11_ring_71 : decode cX11_ring 71 = .ok (.invokevirtual 132, 3) := by decide +kernel
theorem dX11_ring_74 : decode cX11_ring 74 = .ok (.invokevirtual 138, 3) := by decide +kernel
theorem dX11_ring_77 : decode cX11_ring 77 = .ok (.goto 5, 3) := by decide +kernel
theorem dX11_ring_80 : decode cX11_ring 80 = .ok (.bipush (-5), 2) := by decide +kernel
theorem dX11_ring_82 : decode cX11_ring 82 = .ok (.ireturn, 1) := by decide +kernel
theorem dX11_ring_83 : decode cX11_ring 83 = .ok (.aload_n 3, 1) := by decide +kernel
theorem dX11_ring_84 : decode cX11_ring 84 = .ok (.iload_n 1, 1) := by decide +kernel
theorem dX11_ring_85 : decode cX11_ring 85 = .ok (.invokevirtual 141, 3) := by decide +kernel
theorem dX11_ring_88 : decode cX11_ring 88 = .ok (.ireturn, 1) := by decide +kernel
theorem dX11_ring_89 : decode cX11_ring 89 = .ok (.iconst (-1), 1) := by decide +kernel
theorem dX11_ring_90 : decode cX11_ring 90 = .ok (.ireturn, 1) := by decide +kernel
set_option maxRecDepth 20000 in
theorem ggX11_bound_X0_wholeRingsBelow : GoodIn wsX11_bound wsX0_wholeRingsBelow := goodIn_r _ [6, 7, 8, 9, 10, 5, 11, 12, 13, 14, 15, 16, 17, 18, 19, 20, 21, 22, 23, 24, 25, 26, 27, 28, 29, 30, 31, 32, 33, 34, 35, 36, 37, 38, 39, 40, 41, 58, 59, 60, 61] (by decide +kernel) (by decide +kernel)
set_option maxRecDepth 20000 in
theorem gX11_bound_X0_wholeRingsBelow : GoodIn wsX11_bound (wsV RX11 138 RX0 yX0_wholeRingsBelow wsX0_wholeRingsBelow) := goodIn_app (goodIn_of _ (by decide +kernel)) ggX11_bound_X0_wholeRingsBelow
set_option maxRecDepth 20000 in
theorem ggX11_bound_X0_wholeRing : GoodIn wsX11_bound wsX0_wholeRing := goodIn_r _ [45, 7, 8, 9, 10, 5, 11, 12, 13, 14, 15, 16, 17, 18, 19, 20, 21, 22, 23, 24, 25, 26, 27, 28, 29, 30, 31, 32, 33, 34, 35, 36, 37, 38, 39, 40, 41, 58, 59, 60, 61] (by decide +kernel) (by decide +kernel)
set_option maxRecDepth 20000 in
theorem gX11_bound_X0_wholeRing : GoodIn wsX11_bound (wsV RX11 144 RX0 yX0_wholeRing wsX0_wholeRing) := goodIn_app (goodIn_of _ (by decide +kernel)) ggX11_bound_X0_wholeRing
theorem dX11_bound_0 : decode cX11_bound 0 = .ok (.iload_n 1, 1) := by decide +kernel
theorem dX11_bound_1 : decode cX11_bound 1 = .ok (.iconst (-1), 1) := by decide +kernel
theorem dX11_bound_2 : decode cX11_bound 2 = .ok (.if_icmp .ne 24, 3) := by decide +kernel
theorem dX11_bound_5 : decode cX11_bound 5 = .ok (.aload_n 0, 1) := by decide +kernel
theorem dX11_bound_6 : decode cX11_bound 6 = .ok (.getfield 12, 3) := by decide +kernel
theorem dX11_bound_9 : decode cX11_bound 9 = .ok (.getfield 27, 3) := by decide +kernel
theorem dX11_bound_12 : decode cX11_bound 12 = .ok (.aload_n 0, 1) := by decide +kernel
theorem dX11_bound_13 : decode cX11_bound 13 = .ok (.getfield 12, 3) := by decide +kernel
theorem dX11_bound_16 : decode cX11_bound 16 = .ok (.getfield 27, 3) := by decide +kernel
theorem dX11_bound_19 : decode cX11_bound 19 = .ok (.getfield 78, 3) := by decide +kernel
theorem dX11_bound_22 : decode cX11_bound 22 = .ok (.invokevirtual 138, 3) := by decide +kernel
theorem dX11_bound_25 : decode cX11_bound 25 = .ok (.ireturn, 1) := by decide +kernel
theorem dX11_bound_26 : decode cX11_bound 26 = .ok (.aload_n 0, 1) := by decide +kernel
theorem dX11_bound_27 : decode cX11_bound 27 = .ok (.getfield 12, 3) := by decide +kernel
theorem dX11_bound_30 : decode cX11_bound 30 = .ok (.getfield 27, 3) := by decide +kernel
theorem dX11_bound_33 : decode cX11_bound 33 = .ok (.iload_n 1, 1) := by decide +kernel
theorem dX11_bound_34 : decode cX11_bound 34 = .ok (.invokevirtual 144, 3) := by decide +kernel
theorem dX11_bound_37 : decode cX11_bound 37 = .ok (.ireturn, 1) := by decide +kernel
set_option maxRecDepth 20000 in
theorem ggX11_great_X4_find : GoodIn wsX11_great wsX4_find := goodIn_r _ [7, 8, 9, 10, 11, 12, 13, 14, 15, 16, 17, 18, 6, 19, 20, 21, 22, 23, 24, 25, 26, 27, 28, 29, 30, 31, 32, 33, 34, 35, 36, 37, 38, 39, 40, 41, 42, 43, 44, 45, 46, 47, 48, 49, 50, 51, 52, 53, 54, 55, 56, 57, 58, 59, 60, 61, 62, 63, 64, 65, 66, 67, 68, 69, 70, 71, 72, 73, 74, 75, 76, 77, 78, 79, 80, 81, 82, 83, 84, 85, 86, 87, 88, 89, 90, 91, 92, 93, 94, 95, 96, 97, 98, 99, 100, 101, 102, 103, 104, 105, 106, 107, 108, 109, 110, 111, 112, 113, 114, 115, 116, 117, 118, 119, 120, 121, 122, 123, 124, 125, 126, 127, 128, 129, 130, 131, 132, 133, 134, 135, 136, 137, 138, 139, 140, 141, 142, 143, 144, 145, 146, 147, 148, 149, 150, 151, 152, 153, 154, 155, 156, 157, 158, 159, 160, 161, 162, 163, 164, 165, 166, 167, 168, 201, 202, 203, 204, 205, 206, 207, 208, 209, 210, 197, 198, 199, 200, 211, 212, 213, 214, 215, 216, 217] (by decide +kernel) (by decide +kernel)
set_option maxRecDepth 20000 in
theorem gX11_great_X4_find : GoodIn wsX11_great (wsV RX11 147 RX4 yX4_find wsX4_find) := goodIn_app (goodIn_of _ (by decide +kernel)) ggX11_great_X4_find
set_option maxRecDepth 20000 in
theorem ggX11_great_X4_books : GoodIn wsX11_great wsX4_books := goodIn_r _ [172, 12, 201, 202, 203, 204, 205, 206, 207, 208, 209, 210] (by decide +kernel) (by decide +kernel)
set_option maxRecDepth 20000 in
theorem gX11_great_X4_books : GoodIn wsX11_great (wsV RX11 150 RX4 yX4_books wsX4_books) := goodIn_app (goodIn_of _ (by decide +kernel)) ggX11_great_X4_books
set_option maxRecDepth 20000 in
theorem ggX11_great_X4_wordsEach : GoodIn wsX11_great wsX4_wordsEach := goodIn_r _ [176, 11, 201, 202, 203, 204, 205, 206, 207, 208, 209, 210] (by decide +kernel) (by decide +kernel)
set_option maxRecDepth 20000 in
theorem gX11_great_X4_wordsEach : GoodIn wsX11_great (wsV RX11 153 RX4 yX4_wordsEach wsX4_wordsEach) := goodIn_app (goodIn_of _ (by decide +kernel)) ggX11_great_X4_wordsEach
set_option maxRecDepth 20000 in
theorem ggX11_great_X4_kinds : GoodIn wsX11_great wsX4_kinds := goodIn_r _ [180, 14, 201, 202, 203, 204, 205, 206, 207, 208, 209, 210] (by decide +kernel) (by decide +kernel)
set_option maxRecDepth 20000 in
theorem gX11_great_X4_kinds : GoodIn wsX11_great (wsV RX11 156 RX4 yX4_kinds wsX4_kinds) := goodIn_app (goodIn_of _ (by decide +kernel)) ggX11_great_X4_kinds
set_option maxRecDepth 20000 in
theorem ggX11_great_X4_wordOf : GoodIn wsX11_great wsX4_wordOf := goodIn_r _ [184, 12, 20, 15, 21, 146, 82, 49, 83, 201, 202, 203, 204, 205, 206, 207, 208, 209, 210] (by decide +kernel) (by decide +kernel)
set_option maxRecDepth 20000 in
theorem gX11_great_X4_wordOf : GoodIn wsX11_great (wsV RX11 159 RX4 yX4_wordOf wsX4_wordOf) := goodIn_app (goodIn_of _ (by decide +kernel)) ggX11_great_X4_wordOf
theorem dX11_great_0 : decode cX11_great 0 = .ok (.aload_n 0, 1) := by decide +kernel
theorem dX11_great_1 : decode cX11_great 1 = .ok (.getfield 12, 3) := by decide +kernel
theorem dX11_great_4 : decode cX11_great 4 = .ok (.getfield 27, 3) := by decide +kernel
theorem dX11_great_7 : decode cX11_great 7 = .ok (.getfield 78, 3) := by decide +kernel
theorem dX11_great_10 : decode cX11_great 10 = .ok (.bipush 32, 2) := by decide +kernel
theorem dX11_great_12 : decode cX11_great 12 = .ok (.if_icmp .le 6, 3) := by decide +kernel
theorem dX11_great_15 : decode cX11_great 15 = .ok (.bipush (-3), 2) := by decide +kernel
theorem dX11_great_17 : decode cX11_great 17 = .ok (.ireturn, 1) := by decide +kernel
theorem dX11_great_18 : decode cX11_great 18 = .ok (.aload_n 0, 1) := by decide +kernel
theorem dX11_great_19 : decode cX11_great 19 = .ok (.getfield 43, 3) := by decide +kernel
theorem dX11_great_22 : decode cX11_great 22 = .ok (.invokevirtual 147, 3) := by decide +kernel
theorem dX11_great_25 : decode cX11_great 25 = .ok (.iload_n 1, 1) := by decide +kernel
theorem dX11_great_26 : decode cX11_great 26 = .ok (.tableswitch 50 (-3) (-1) #[42, 34, 26], 26) := by decide +kernel
theorem dX11_great_52 : decode cX11_great 52 = .ok (.aload_n 0, 1) := by decide +kernel
theorem dX11_great_53 : decode cX11_great 53 = .ok (.getfield 43, 3) := by decide +kernel
theorem dX11_great_56 : decode cX11_great 56 = .ok (.invokevirtual 150, 3) := by decide +kernel
theorem dX11_great_59 : decode cX11_great 59 = .ok (.ireturn, 1) := by decide +kernel
theorem dX11_great_60 : decode cX11_great 60 = .ok (.aload_n 0, 1) := by decide +kernel
theorem dX11_great_61 : decode cX11_great 61 = .ok (.getfield 43, 3) := by decide +kernel
theorem dX11_great_64 : decode cX11_great 64 = .ok (.invokevirtual 153, 3) := by decide +kernel
theorem dX11_great_67 : decode cX11_great 67 = .ok (.ireturn, 1) := by decide +kernel
theorem dX11_great_68 : decode cX11_great 68 = .ok (.aload_n 0, 1) := by decide +kernel
theorem dX11_great_69 : decode cX11_great 69 = .ok (.getfield 43, 3) := by decide +kernel
theorem dX11_great_72 : decode cX11_great 72 = .ok (.invokevirtual 156, 3) := by decide +kernel
theorem dX11_great_75 : decode cX11_great 75 = .ok (.ireturn, 1) := by decide +kernel
theorem dX11_great_76 : decode cX11_great 76 = .ok (.aload_n 0, 1) := by decide +kernel
theorem dX11_great_77 : decode cX11_great 77 = .ok (.getfield 43, 3) := by decide +kernel
theorem dX11_great_80 : decode cX11_great 80 = .ok (.iload_n 1, 1) := by decide +kernel
theorem dX11_great_81 : decode cX11_great 81 = .ok (.iload_n 2, 1) := by decide +kernel
theorem dX11_great_82 : decode cX11_great 82 = .ok (.invokevirtual 159, 3) := by decide +kernel
theorem dX11_great_85 : decode cX11_great 85 = .ok (.ireturn, 1) := by decide +kernel
set_option maxRecDepth 20000 in
theorem ggX11_swapped_X0_isSwap : GoodIn wsX11_swapped wsX0_isSwap := goodIn_r _ [6, 7, 8, 9, 5, 10, 11, 54, 55, 56, 57] (by decide +kernel) (by decide +kernel)
set_option maxRecDepth 20000 in
theorem gX11_swapped_X0_isSwap : GoodIn wsX11_swapped (wsV RX11 163 RX0 yX0_isSwap wsX0_isSwap) := goodIn_app (goodIn_of _ (by decide +kernel)) ggX11_swapped_X0_isSwap
set_option maxRecDepth 20000 in
theorem ggX11_swapped_X0_isWord : GoodIn wsX11_swapped wsX0_isWord := goodIn_r _ [15, 16, 54, 55, 56, 57] (by decide +kernel) (by decide +kernel)
set_option maxRecDepth 20000 in
theorem gX11_swapped_X0_isWord : GoodIn wsX11_swapped (wsV RX11 82 RX0 yX0_isWord wsX0_isWord) := goodIn_app (goodIn_of _ (by decide +kernel)) ggX11_swapped_X0_isWord
set_option maxRecDepth 20000 in
theorem ggX11_swapped_X0_exchanged : GoodIn wsX11_swapped wsX0_exchanged := goodIn_r _ [20, 11, 21, 22, 23, 24, 25, 5, 26, 27, 28, 29, 30, 31, 32, 33, 34, 35, 36, 37, 38, 39, 40, 41, 54, 55, 56, 57] (by decide +kernel) (by decide +kernel)
set_option maxRecDepth 20000 in
theorem gX11_swapped_X0_exchanged : GoodIn wsX11_swapped (wsV RX11 166 RX0 yX0_exchanged wsX0_exchanged) := goodIn_app (goodIn_of _ (by decide +kernel)) ggX11_swapped_X0_exchanged
theorem dX11_swapped_0 : decode cX11_swapped 0 = .ok (.aload_n 0, 1) := by decide +kernel
theorem dX11_swapped_1 : decode cX11_swapped 1 = .ok (.getfield 12, 3) := by decide +kernel
theorem dX11_swapped_4 : decode cX11_swapped 4 = .ok (.getfield 27, 3) := by decide +kernel
theorem dX11_swapped_7 : decode cX11_swapped 7 = .ok (.astore_n 3, 1) := by decide +kernel
theorem dX11_swapped_8 : decode cX11_swapped 8 = .ok (.aload_n 3, 1) := by decide +kernel
theorem dX11_swapped_9 : decode cX11_swapped 9 = .ok (.iload_n 1, 1) := by decide +kernel
theorem dX11_swapped_10 : decode cX11_swapped 10 = .ok (.invokevirtual 163, 3) := by decide +kernel
theorem dX11_swapped_13 : decode cX11_swapped 13 = .ok (.ifCond .eq 11, 3) := by decide +kernel
theorem dX11_swapped_16 : decode cX11_swapped 16 = .ok (.aload_n 3, 1) := by decide +kernel
theorem dX11_swapped_17 : decode cX11_swapped 17 = .ok (.iload_n 2, 1) := by decide +kernel
theorem dX11_swapped_18 : decode cX11_swapped 18 = .ok (.invokevirtual 82, 3) := by decide +kernel
theorem dX11_swapped_21 : decode cX11_swapped 21 = .ok (.ifCond .ne 5, 3) := by decide +kernel
theorem dX11_swapped_24 : decode cX11_swapped 24 = .ok (.iconst (-1), 1) := by decide +kernel
theorem dX11_swapped_25 : decode cX11_swapped 25 = .ok (.ireturn, 1) := by decide +kernel
theorem dX11_swapped_26 : decode cX11_swapped 26 = .ok (.aload_n 3, 1) := by decide +kernel
theorem dX11_swapped_27 : decode cX11_swapped 27 = .ok (.iload_n 1, 1) := by decide +kernel
theorem dX11_swapped_28 : decode cX11_swapped 28 = .ok (.iload_n 2, 1) := by decide +kernel
theorem dX11_swapped_29 : decode cX11_swapped 29 = .ok (.invokevirtual 166, 3) := by decide +kernel
theorem dX11_swapped_32 : decode cX11_swapped 32 = .ok (.ireturn, 1) := by decide +kernel
set_option maxRecDepth 20000 in
theorem ggX11_swap_X0_isSwap : GoodIn wsX11_swap wsX0_isSwap := goodIn_r _ [6, 7, 8, 9, 5, 10, 11, 110, 111, 112, 113] (by decide +kernel) (by decide +kernel)
set_option maxRecDepth 20000 in
theorem gX11_swap_X0_isSwap : GoodIn wsX11_swap (wsV RX11 163 RX0 yX0_isSwap wsX0_isSwap) := goodIn_app (goodIn_of _ (by decide +kernel)) ggX11_swap_X0_isSwap
set_option maxRecDepth 20000 in
theorem ggX11_swap_X1_exchange : GoodIn wsX11_swap wsX1_exchange := goodIn_r _ [16, 17, 18, 19, 20, 21, 22, 15, 23, 24, 25, 26, 27, 28, 29, 30, 31, 5, 32, 11, 33, 34, 35, 36, 37, 38, 39, 40, 41, 42, 43, 44, 45, 46, 47, 48, 49, 50, 51, 52, 53, 54, 55, 56, 57, 58, 59, 60, 61, 62, 63, 64, 65, 66, 67, 68, 69, 70, 71, 72, 73, 74, 75, 76, 77, 78, 79, 80, 81, 82, 83, 84, 85, 86, 87, 88, 89, 90, 91, 92, 93, 114, 115, 116, 117, 118, 119, 120, 110, 111, 112, 113] (by decide +kernel) (by decide +kernel)
set_option maxRecDepth 20000 in
theorem gX11_swap_X1_exchange : GoodIn wsX11_swap (wsV RX11 169 RX1 yX1_exchange wsX1_exchange) := goodIn_app (goodIn_of _ (by decide +kernel)) ggX11_swap_X1_exchange
set_option maxRecDepth 20000 in
theorem ggX11_swap_X1_total : GoodIn wsX11_swap wsX1_total := goodIn_r _ [97, 17, 114, 115, 116, 117, 118, 119, 120] (by decide +kernel) (by decide +kernel)
set_option maxRecDepth 20000 in
theorem gX11_swap_X1_total : GoodIn wsX11_swap (wsV RX11 92 RX1 yX1_total wsX1_total) := goodIn_app (goodIn_of _ (by decide +kernel)) ggX11_swap_X1_total
theorem dX11_swap_0 : decode cX11_swap 0 = .ok (.aload_n 0, 1) := by decide +kernel
theorem dX11_swap_1 : decode cX11_swap 1 = .ok (.getfield 12, 3) := by decide +kernel
theorem dX11_swap_4 : decode cX11_swap 4 = .ok (.getfield 27, 3) := by decide +kernel
theorem dX11_swap_7 : decode cX11_swap 7 = .ok (.iload_n 1, 1) := by decide +kernel
theorem dX11_swap_8 : decode cX11_swap 8 = .ok (.invokevirtual 163, 3) := by decide +kernel
theorem dX11_swap_11 : decode cX11_swap 11 = .ok (.ifCond .ne 5, 3) := by decide +kernel
theorem dX11_swap_14 : decode cX11_swap 14 = .ok (.iconst (-1), 1) := by decide +kernel
theorem dX11_swap_15 : decode cX11_swap 15 = .ok (.ireturn, 1) := by decide +kernel
theorem dX11_swap_16 : decode cX11_swap 16 = .ok (.aload_n 0, 1) := by decide +kernel
theorem dX11_swap_17 : decode cX11_swap 17 = .ok (.getfield 12, 3) := by decide +kernel
theorem dX11_swap_20 : decode cX11_swap 20 = .ok (.getfield 86, 3) := by decide +kernel
theorem dX11_swap_23 : decode cX11_swap 23 = .ok (.iload_n 1, 1) := by decide +kernel
theorem dX11_swap_24 : decode cX11_swap 24 = .ok (.invokevirtual 169, 3) := by decide +kernel
theorem dX11_swap_27 : decode cX11_swap 27 = .ok (.aload_n 0, 1) := by decide +kernel
theorem dX11_swap_28 : decode cX11_swap 28 = .ok (.getfield 12, 3) := by decide +kernel
theorem dX11_swap_31 : decode cX11_swap 31 = .ok (.getfield 86, 3) := by decide +kernel
theorem dX11_swap_34 : decode cX11_swap 34 = .ok (.invokevirtual 92, 3) := by decide +kernel
theorem dX11_swap_37 : decode cX11_swap 37 = .ok (.ireturn, 1) := by decide +kernel
set_option maxRecDepth 20000 in
theorem ggX11_keeps_X0_swaps : GoodIn wsX11_keeps wsX0_swaps := goodIn_r _ [6, 7, 63, 64, 65, 66] (by decide +kernel) (by decide +kernel)
set_option maxRecDepth 20000 in
theorem gX11_keeps_X0_swaps : GoodIn wsX11_keeps (wsV RX11 173 RX0 yX0_swaps wsX0_swaps) := goodIn_app (goodIn_of _ (by decide +kernel)) ggX11_keeps_X0_swaps
set_option maxRecDepth 20000 in
theorem ggX11_keeps_X1_isKeptBy : GoodIn wsX11_keeps wsX1_isKeptBy := goodIn_r _ [12, 13, 14, 15, 16, 17, 11, 18, 19, 20, 21, 22, 23, 24, 25, 26, 5, 27, 7, 28, 29, 30, 31, 32, 33, 34, 35, 36, 37, 38, 39, 40, 41, 42, 43, 44, 45, 46, 47, 48, 49, 50, 67, 68, 69, 70, 71, 72, 73, 63, 64, 65, 66] (by decide +kernel) (by decide +kernel)
set_option maxRecDepth 20000 in
theorem gX11_keeps_X1_isKeptBy : GoodIn wsX11_keeps (wsV RX11 176 RX1 yX1_isKeptBy wsX1_isKeptBy) := goodIn_app (goodIn_of _ (by decide +kernel)) ggX11_keeps_X1_isKeptBy
theorem dX11_keeps_0 : decode cX11_keeps 0 = .ok (.iconst 0, 1) := by decide +kernel
theorem dX11_keeps_1 : decode cX11_keeps 1 = .ok (.istore_n 2, 1) := by decide +kernel
theorem dX11_keeps_2 : decode cX11_keeps 2 = .ok (.aload_n 0, 1) := by decide +kernel
theorem dX11_keeps_3 : decode cX11_keeps 3 = .ok (.getfield 12, 3) := by decide +kernel
theorem dX11_keeps_6 : decode cX11_keeps 6 = .ok (.getfield 27, 3) := by decide +kernel
theorem dX11_keeps_9 : decode cX11_keeps 9 = .ok (.invokevirtual 173, 3) := by decide +kernel
theorem dX11_keeps_12 : decode cX11_keeps 12 = .ok (.istore_n 3, 1) := by decide +kernel
theorem dX11_keeps_13 : decode cX11_keeps 13 = .ok (.iconst 0, 1) := by decide +kernel
theorem dX11_keeps_14 : decode cX11_keeps 14 = .ok (.istore 4, 2) := by decide +kernel
theorem dX11_keeps_16 : decode cX11_keeps 16 = .ok (.iload 4, 2) := by decide +kernel
theorem dX11_keeps_18 : decode cX11_keeps 18 = .ok (.iload_n 3, 1) := by decide +kernel
theorem dX11_keeps_19 : decode cX11_keeps 19 = .ok (.if_icmp .ge 35, 3) := by decide +kernel
theorem dX11_keeps_22 : decode cX11_keeps 22 = .ok (.aload_n 0, 1) := by decide +kernel
theorem dX11_keeps_23 : decode cX11_keeps 23 = .ok (.getfield 12, 3) := by decide +kernel
theorem dX11_keeps_26 : decode cX11_keeps 26 = .ok (.getfield 86, 3) := by decide +kernel
theorem dX11_keeps_29 : decode cX11_keeps 29 = .ok (.iload 4, 2) := by decide +kernel
theorem dX11_keeps_31 : decode cX11_keeps 31 = .ok (.invokevirtual 176, 3) := by decide +kernel
theorem dX11_keeps_34 : decode cX11_keeps 34 = .ok (.ifCond .eq 14, 3) := by decide +kernel
theorem dX11_keeps_37 : decode cX11_keeps 37 = .ok (.iload_n 2, 1) := by decide +kernel
theorem dX11_keeps_38 : decode cX11_keeps 38 = .ok (.iload_n 1, 1) := by decide +kernel
theorem dX11_keeps_39 : decode cX11_keeps 39 = .ok (.if_icmp .ne 6, 3) := by decide +kernel
theorem dX11_keeps_42 : decode cX11_keeps 42 = .ok (.iload 4, 2) := by decide +kernel
theorem dX11_keeps_44 : decode cX11_keeps 44 = .ok (.ireturn, 1) := by decide +kernel
theorem dX11_keeps_45 : decode cX11_keeps 45 = .ok (.iinc 2 1, 3) := by decide +kernel
theorem dX11_keeps_48 : decode cX11_keeps 48 = .ok (.iinc 4 1, 3) := by decide +kernel
theorem dX11_keeps_51 : decode cX11_keeps 51 = .ok (.goto (-35), 3) := by decide +kernel
theorem dX11_keeps_54 : decode cX11_keeps 54 = .ok (.iload_n 1, 1) := by decide +kernel
theorem dX11_keeps_55 : decode cX11_keeps 55 = .ok (.iconst (-1), 1) := by decide +kernel
theorem dX11_keeps_56 : decode cX11_keeps 56 = .ok (.if_icmp .ne 7, 3) := by decide +kernel
theorem dX11_keeps_59 : decode cX11_keeps 59 = .ok (.iload_n 2, 1) := by decide +kernel
theorem dX11_keeps_60 : decode cX11_keeps 60 = .ok (.goto 5, 3) := by decide +kernel
theorem dX11_keeps_63 : decode cX11_keeps 63 = .ok (.bipush (-5), 2) := by decide +kernel
theorem dX11_keeps_65 : decode cX11_keeps 65 = .ok (.ireturn, 1) := by decide +kernel
set_option maxRecDepth 20000 in
theorem ggX11_cast_X9_room : GoodIn wsX11_cast wsX9_room := goodIn_r _ [6, 7, 38, 39, 40, 41] (by decide +kernel) (by decide +kernel)
set_option maxRecDepth 20000 in
theorem gX11_cast_X9_room : GoodIn wsX11_cast (wsV RX11 186 RX9 yX9_room wsX9_room) := goodIn_app (goodIn_of _ (by decide +kernel)) ggX11_cast_X9_room
set_option maxRecDepth 20000 in
theorem ggX11_cast_X9_append : GoodIn wsX11_cast wsX9_append := goodIn_r _ [11, 12, 7, 13, 3, 4, 5, 6, 14, 15, 16, 17, 38, 39, 40, 41] (by decide +kernel) (by decide +kernel)
set_option maxRecDepth 20000 in
theorem gX11_cast_X9_append : GoodIn wsX11_cast (wsV RX11 191 RX9 yX9_append wsX9_append) := goodIn_app (goodIn_of _ (by decide +kernel)) ggX11_cast_X9_append
set_option maxRecDepth 20000 in
theorem ggX11_cast_X9_total : GoodIn wsX11_cast wsX9_total := goodIn_r _ [21, 7, 38, 39, 40, 41] (by decide +kernel) (by decide +kernel)
set_option maxRecDepth 20000 in
theorem gX11_cast_X9_total : GoodIn wsX11_cast (wsV RX11 194 RX9 yX9_total wsX9_total) := goodIn_app (goodIn_of _ (by decide +kernel)) ggX11_cast_X9_total
theorem dX11_cast_0 : decode cX11_cast 0 = .ok (.iload_n 1, 1) := by decide +kernel
theorem dX11_cast_1 : decode cX11_cast 1 = .ok (.ifCond .lt 17, 3) := by decide +kernel
theorem dX11_cast_4 : decode cX11_cast 4 = .ok (.iload_n 1, 1) := by decide +kernel
theorem dX11_cast_5 : decode cX11_cast 5 = .ok (.aload_n 0, 1) := by decide +kernel
theorem dX11_cast_6 : decode cX11_cast 6 = .ok (.getfield 12, 3) := by decide +kernel
theorem dX11_cast_9 : decode cX11_cast 9 = .ok (.getfield 27, 3) := by decide +kernel
theorem dX11_cast_12 : decode cX11_cast 12 = .ok (.getfield 179, 3) := by decide +kernel
theorem dX11_cast_15 : decode cX11_cast 15 = .ok (.if_icmp .lt 6, 3) := by decide +kernel
theorem dX11_cast_18 : decode cX11_cast 18 = .ok (.bipush (-2), 2) := by decide +kernel
theorem dX11_cast_20 : decode cX11_cast 20 = .ok (.ireturn, 1) := by decide +kernel
theorem dX11_cast_21 : decode cX11_cast 21 = .ok (.aload_n 0, 1) := by decide +kernel
theorem dX11_cast_22 : decode cX11_cast 22 = .ok (.getfield 12, 3) := by decide +kernel
theorem dX11_cast_25 : decode cX11_cast 25 = .ok (.getfield 182, 3) := by decide +kernel
theorem dX11_cast_28 : decode cX11_cast 28 = .ok (.invokevirtual 186, 3) := by decide +kernel
theorem dX11_cast_31 : decode cX11_cast 31 = .ok (.iconst 1, 1) := by decide +kernel
theorem dX11_cast_32 : decode cX11_cast 32 = .ok (.if_icmp .ge 6, 3) := by decide +kernel
theorem dX11_cast_35 : decode cX11_cast 35 = .ok (.bipush (-4), 2) := by decide +kernel
theorem dX11_cast_37 : decode cX11_cast 37 = .ok (.ireturn, 1) := by decide +kernel
theorem dX11_cast_38 : decode cX11_cast 38 = .ok (.aload_n 0, 1) := by decide +kernel
theorem dX11_cast_39 : decode cX11_cast 39 = .ok (.getfield 12, 3) := by decide +kernel
theorem dX11_cast_42 : decode cX11_cast 42 = .ok (.getfield 182, 3) := by decide +kernel
theorem dX11_cast_45 : decode cX11_cast 45 = .ok (.iload_n 1, 1) := by decide +kernel
theorem dX11_cast_46 : decode cX11_cast 46 = .ok (.invokevirtual 191, 3) := by decide +kernel
theorem dX11_cast_49 : decode cX11_cast 49 = .ok (.aload_n 0, 1) := by decide +kernel
theorem dX11_cast_50 : decode cX11_cast 50 = .ok (.getfield 12, 3) := by decide +kernel
theorem dX11_cast_53 : decode cX11_cast 53 = .ok (.getfield 182, 3) := by decide +kernel
theorem dX11_cast_56 : decode cX11_cast 56 = .ok (.invokevirtual 194, 3) := by decide +kernel
theorem dX11_cast_59 : decode cX11_cast 59 = .ok (.ireturn, 1) := by decide +kernel
set_option maxRecDepth 20000 in
theorem ggX11_spell_X0_isWord : GoodIn wsX11_spell wsX0_isWord := goodIn_r _ [6, 7, 56, 57, 58, 59] (by decide +kernel) (by decide +kernel)
set_option maxRecDepth 20000 in
theorem gX11_spell_X0_isWord : GoodIn wsX11_spell (wsV RX11 82 RX0 yX0_isWord wsX0_isWord) := goodIn_app (goodIn_of _ (by decide +kernel)) ggX11_spell_X0_isWord
set_option maxRecDepth 20000 in
theorem ggX11_spell_X9_room : GoodIn wsX11_spell wsX9_room := goodIn_r _ [12, 13, 60, 61, 62, 63] (by decide +kernel) (by decide +kernel)
set_option maxRecDepth 20000 in
theorem gX11_spell_X9_room : GoodIn wsX11_spell (wsV RX11 186 RX9 yX9_room wsX9_room) := goodIn_app (goodIn_of _ (by decide +kernel)) ggX11_spell_X9_room
set_option maxRecDepth 20000 in
theorem ggX11_spell_X0_part : GoodIn wsX11_spell wsX0_part := goodIn_r _ [17, 18, 19, 20, 21, 5, 22, 23, 24, 25, 26, 27, 28, 29, 30, 56, 57, 58, 59] (by decide +kernel) (by decide +kernel)
set_option maxRecDepth 20000 in
theorem gX11_spell_X0_part : GoodIn wsX11_spell (wsV RX11 112 RX0 yX0_part wsX0_part) := goodIn_app (goodIn_of _ (by decide +kernel)) ggX11_spell_X0_part
set_option maxRecDepth 20000 in
theorem ggX11_spell_X9_append : GoodIn wsX11_spell wsX9_append := goodIn_r _ [34, 35, 13, 36, 9, 10, 11, 12, 37, 38, 26, 39, 60, 61, 62, 63] (by decide +kernel) (by decide +kernel)
set_option maxRecDepth 20000 in
theorem gX11_spell_X9_append : GoodIn wsX11_spell (wsV RX11 191 RX9 yX9_append wsX9_append) := goodIn_app (goodIn_of _ (by decide +kernel)) ggX11_spell_X9_append
set_option maxRecDepth 20000 in
theorem ggX11_spell_X9_total : GoodIn wsX11_spell wsX9_total := goodIn_r _ [43, 13, 60, 61, 62, 63] (by decide +kernel) (by decide +kernel)
set_option maxRecDepth 20000 in
theorem gX11_spell_X9_total : GoodIn wsX11_spell (wsV RX11 194 RX9 yX9_total wsX9_total) := goodIn_app (goodIn_of _ (by decide +kernel)) ggX11_spell_X9_total
theorem dX11_spell_0 : decode cX11_spell 0 = .ok (.aload_n 0, 1) := by decide +kernel
theorem dX11_spell_1 : decode cX11_spell 1 = .ok (.getfield 12, 3) := by decide +kernel
theorem dX11_spell_4 : decode cX11_spell 4 = .ok (.getfield 27, 3) := by decide +kernel
theorem dX11_spell_7 : decode cX11_spell 7 = .ok (.astore_n 2, 1) := by decide +kernel
theorem dX11_spell_8 : decode cX11_spell 8 = .ok (.aload_n 2, 1) := by decide +kernel
theorem dX11_spell_9 : decode cX11_spell 9 = .ok (.iload_n 1, 1) := by decide +kernel
theorem dX11_spell_10 : decode cX11_spell 10 = .ok (.invokevirtual 82, 3) := by decide +kernel
theorem dX11_spell_13 : decode cX11_spell 13 = .ok (.ifCond .ne 5, 3) := by decide +kernel
theorem dX11_spell_16 : decode cX11_spell 16 = .ok (.iconst (-1), 1) := by decide +kernel
theorem dX11_spell_17 : decode cX11_spell 17 = .ok (.ireturn, 1) := by decide +kernel
theorem dX11_spell_18 : decode cX11_spell 18 = .ok (.aload_n 0, 1) := by decide +kernel
theorem dX11_spell_19 : decode cX11_spell 19 = .ok (.getfield 12, 3) := by decide +kernel
theorem dX11_spell_22 : decode cX11_spell 22 = .ok (.getfield 182, 3) := by decide +kernel
theorem dX11_spell_25 : decode cX11_spell 25 = .ok (.invokevirtual 186, 3) := by decide +kernel
theorem dX11_spell_28 : decode cX11_spell 28 = .ok (.aload_n 2, 1) := by decide +kernel
theorem dX11_spell_29 : decode cX11_spell 29 = .ok (.getfield 109, 3) := by decide +kernel
theorem dX11_spell_32 : decode cX11_spell 32 = .ok (.if_icmp .ge 6, 3) := by decide +kernel
theorem dX11_spell_35 : decode cX11_spell 35 = .ok (.bipush (-4), 2) := by decide +kernel
theorem dX11_spell_37 : decode cX11_spell 37 = .ok (.ireturn, 1) := by decide +kernel
theorem dX11_spell_38 : decode cX11_spell 38 = .ok (.iconst 0, 1) := by decide +kernel
theorem dX11_spell_39 : decode cX11_spell 39 = .ok (.istore_n 3, 1) := by decide +kernel
theorem dX11_spell_40 : decode cX11_spell 40 = .ok (.iload_n 3, 1) := by decide +kernel
theorem dX11_spell_41 : decode cX11_spell 41 = .ok (.aload_n 2, 1) := by decide +kernel
theorem dX11_spell_42 : decode cX11_spell 42 = .ok (.getfield 109, 3) := by decide +kernel
theorem dX11_spell_45 : decode cX11_spell 45 = .ok (.if_icmp .ge 26, 3) := by decide +kernel
theorem dX11_spell_48 : decode cX11_spell 48 = .ok (.aload_n 0, 1) := by decide +kernel
theorem dX11_spell_49 : decode cX11_spell 49 = .ok (.getfield 12, 3) := by decide +kernel
theorem dX11_spell_52 : decode cX11_spell 52 = .ok (.getfield 182, 3) := by decide +kernel
theorem dX11_spell_55 : decode cX11_spell 55 = .ok (.aload_n 2, 1) := by decide +kernel
theorem dX11_spell_56 : decode cX11_spell 56 = .ok (.iload_n 1, 1) := by decide +kernel
theorem dX11_spell_57 : decode cX11_spell 57 = .ok (.iload_n 3, 1) := by decide +kernel
theorem dX11_spell_58 : decode cX11_spell 58 = .ok (.iconst 1, 1) := by decide +kernel
theorem dX11_spell_59 : decode cX11_spell 59 = .ok (.invokevirtual 112, 3) := by decide +kernel
theorem dX11_spell_62 : decode cX11_spell 62 = .ok (.invokevirtual 191, 3) := by decide +kernel
theorem dX11_spell_65 : decode cX11_spell 65 = .ok (.iinc 3 1, 3) := by decide +kernel
theorem dX11_spell_68 : decode cX11_spell 68 = .ok (.goto (-28), 3) := by decide +kernel
theorem dX11_spell_71 : decode cX11_spell 71 = .ok (.aload_n 0, 1) := by decide +kernel
theorem dX11_spell_72 : decode cX11_spell 72 = .ok (.getfield 12, 3) := by decide +kernel
theorem dX11_spell_75 : decode cX11_spell 75 = .ok (.getfield 182, 3) := by decide +kernel
theorem dX11_spell_78 : decode cX11_spell 78 = .ok (.invokevirtual 194, 3) := by decide +kernel
theorem dX11_spell_81 : decode cX11_spell 81 = .ok (.ireturn, 1) := by decide +kernel
set_option maxRecDepth 20000 in
theorem ggX11_tear_X9_total : GoodIn wsX11_tear wsX9_total := goodIn_r _ [6, 7, 32, 33, 34, 35] (by decide +kernel) (by decide +kernel)
set_option maxRecDepth 20000 in
theorem gX11_tear_X9_total : GoodIn wsX11_tear (wsV RX11 194 RX9 yX9_total wsX9_total) := goodIn_app (goodIn_of _ (by decide +kernel)) ggX11_tear_X9_total
set_option maxRecDepth 20000 in
theorem ggX11_tear_X9_cutAhead : GoodIn wsX11_tear wsX9_cutAhead := goodIn_r _ [11, 7, 12, 13, 14, 15, 16, 17, 18, 19, 32, 33, 34, 35] (by decide +kernel) (by decide +kernel)
set_option maxRecDepth 20000 in
theorem gX11_tear_X9_cutAhead : GoodIn wsX11_tear (wsV RX11 195 RX9 yX9_cutAhead wsX9_cutAhead) := goodIn_app (goodIn_of _ (by decide +kernel)) ggX11_tear_X9_cutAhead
theorem dX11_tear_0 : decode cX11_tear 0 = .ok (.iload_n 1, 1) := by decide +kernel
theorem dX11_tear_1 : decode cX11_tear 1 = .ok (.ifCond .lt 17, 3) := by decide +kernel
theorem dX11_tear_4 : decode cX11_tear 4 = .ok (.iload_n 1, 1) := by decide +kernel
theorem dX11_tear_5 : decode cX11_tear 5 = .ok (.aload_n 0, 1) := by decide +kernel
theorem dX11_tear_6 : decode cX11_tear 6 = .ok (.getfield 12, 3) := by decide +kernel
theorem dX11_tear_9 : decode cX11_tear 9 = .ok (.getfield 182, 3) := by decide +kernel
theorem dX11_tear_12 : decode cX11_tear 12 = .ok (.invokevirtual 194, 3) := by decide +kernel
theorem dX11_tear_15 : decode cX11_tear 15 = .ok (.if_icmp .le 6, 3) := by decide +kernel
theorem dX11_tear_18 : decode cX11_tear 18 = .ok (.bipush (-2), 2) := by decide +kernel
theorem dX11_tear_20 : decode cX11_tear 20 = .ok (.ireturn, 1) := by decide +kernel
theorem dX11_tear_21 : decode cX11_tear 21 = .ok (.aload_n 0, 1) := by decide +kernel
theorem dX11_tear_22 : decode cX11_tear 22 = .ok (.getfield 12, 3) := by decide +kernel
theorem dX11_tear_25 : decode cX11_tear 25 = .ok (.getfield 182, 3) := by decide +kernel
theorem dX11_tear_28 : decode cX11_tear 28 = .ok (.iload_n 1, 1) := by decide +kernel
theorem dX11_tear_29 : decode cX11_tear 29 = .ok (.invokevirtual 195, 3) := by decide +kernel
theorem dX11_tear_32 : decode cX11_tear 32 = .ok (.aload_n 0, 1) := by decide +kernel
theorem dX11_tear_33 : decode cX11_tear 33 = .ok (.getfield 12, 3) := by decide +kernel
theorem dX11_tear_36 : decode cX11_tear 36 = .ok (.getfield 182, 3) := by decide +kernel
theorem dX11_tear_39 : decode cX11_tear 39 = .ok (.invokevirtual 194, 3) := by decide +kernel
theorem dX11_tear_42 : decode cX11_tear 42 = .ok (.ireturn, 1) := by decide +kernel
set_option maxRecDepth 20000 in
theorem ggX11_possible_X9_total : GoodIn wsX11_possible wsX9_total := goodIn_r _ [6, 7, 67, 68, 69, 70] (by decide +kernel) (by decide +kernel)
set_option maxRecDepth 20000 in
theorem gX11_possible_X9_total : GoodIn wsX11_possible (wsV RX11 194 RX9 yX9_total wsX9_total) := goodIn_app (goodIn_of _ (by decide +kernel)) ggX11_possible_X9_total
set_option maxRecDepth 20000 in
theorem ggX11_possible_X9_measure : GoodIn wsX11_possible wsX9_measure := goodIn_r _ [11, 12, 13, 14, 15, 16, 5, 17, 7, 18, 19, 20, 21, 22, 23, 24, 25, 26, 27, 28, 29, 30, 31, 32, 33, 34, 35, 36, 37, 38, 39, 40, 41, 42, 43, 44, 45, 46, 47, 48, 49, 50, 67, 68, 69, 70, 71, 72, 73, 74, 75, 76, 77, 78, 79, 80, 81] (by decide +kernel) (by decide +kernel)
set_option maxRecDepth 20000 in
theorem gX11_possible_X9_measure : GoodIn wsX11_possible (wsV RX11 198 RX9 yX9_measure wsX9_measure) := goodIn_app (goodIn_of _ (by decide +kernel)) ggX11_possible_X9_measure
set_option maxRecDepth 20000 in
theorem ggX11_possible_X9_offsets : GoodIn wsX11_possible wsX9_offsets := goodIn_r _ [54, 12, 13, 19, 20, 21, 22, 67, 68, 69, 70, 71, 72, 73, 74] (by decide +kernel) (by decide +kernel)
set_option maxRecDepth 20000 in
theorem gX11_possible_X9_offsets : GoodIn wsX11_possible (wsV RX11 202 RX9 yX9_offsets wsX9_offsets) := goodIn_app (goodIn_of _ (by decide +kernel)) ggX11_possible_X9_offsets
theorem dX11_possible_0 : decode cX11_possible 0 = .ok (.iload_n 1, 1) := by decide +kernel
theorem dX11_possible_1 : decode cX11_possible 1 = .ok (.ifCond .lt 17, 3) := by decide +kernel
theorem dX11_possible_4 : decode cX11_possible 4 = .ok (.iload_n 1, 1) := by decide +kernel
theorem dX11_possible_5 : decode cX11_possible 5 = .ok (.aload_n 0, 1) := by decide +kernel
theorem dX11_possible_6 : decode cX11_possible 6 = .ok (.getfield 12, 3) := by decide +kernel
theorem dX11_possible_9 : decode cX11_possible 9 = .ok (.getfield 182, 3) := by decide +kernel
theorem dX11_possible_12 : decode cX11_possible 12 = .ok (.invokevirtual 194, 3) := by decide +kernel
theorem dX11_possible_15 : decode cX11_possible 15 = .ok (.if_icmp .le 6, 3) := by decide +kernel
theorem dX11_possible_18 : decode cX11_possible 18 = .ok (.bipush (-2), 2) := by decide +kernel
theorem dX11_possible_20 : decode cX11_possible 20 = .ok (.ireturn, 1) := by decide +kernel
theorem dX11_possible_21 : decode cX11_possible 21 = .ok (.aload_n 0, 1) := by decide +kernel
theorem dX11_possible_22 : decode cX11_possible 22 = .ok (.getfield 12, 3) := by decide +kernel
theorem dX11_possible_25 : decode cX11_possible 25 = .ok (.getfield 182, 3) := by decide +kernel
theorem dX11_possible_28 : decode cX11_possible 28 = .ok (.aload_n 0, 1) := by decide +kernel
theorem dX11_possible_29 : decode cX11_possible 29 = .ok (.getfield 12, 3) := by decide +kernel
theorem dX11_possible_32 : decode cX11_possible 32 = .ok (.getfield 86, 3) := by decide +kernel
theorem dX11_possible_35 : decode cX11_possible 35 = .ok (.invokevirtual 198, 3) := by decide +kernel
theorem dX11_possible_38 : decode cX11_possible 38 = .ok (.aload_n 0, 1) := by decide +kernel
theorem dX11_possible_39 : decode cX11_possible 39 = .ok (.getfield 12, 3) := by decide +kernel
theorem dX11_possible_42 : decode cX11_possible 42 = .ok (.getfield 182, 3) := by decide +kernel
theorem dX11_possible_45 : decode cX11_possible 45 = .ok (.iload_n 1, 1) := by decide +kernel
theorem dX11_possible_46 : decode cX11_possible 46 = .ok (.invokevirtual 202, 3) := by decide +kernel
theorem dX11_possible_49 : decode cX11_possible 49 = .ok (.ireturn, 1) := by decide +kernel
set_option maxRecDepth 20000 in
theorem ggX11_certain_X9_measure : GoodIn wsX11_certain wsX9_measure := goodIn_r _ [6, 7, 8, 9, 10, 11, 5, 12, 13, 14, 15, 16, 17, 18, 19, 20, 21, 22, 23, 24, 25, 26, 27, 28, 29, 30, 31, 32, 33, 34, 35, 36, 37, 38, 39, 40, 41, 42, 43, 44, 45, 46, 67, 68, 69, 70, 71, 72, 73, 74, 75, 76, 77, 78, 79, 80, 81] (by decide +kernel) (by decide +kernel)
set_option maxRecDepth 20000 in
theorem gX11_certain_X9_measure : GoodIn wsX11_certain (wsV RX11 198 RX9 yX9_measure wsX9_measure) := goodIn_app (goodIn_of _ (by decide +kernel)) ggX11_certain_X9_measure
set_option maxRecDepth 20000 in
theorem ggX11_certain_X9_firstCertain : GoodIn wsX11_certain wsX9_firstCertain := goodIn_r _ [50, 13, 7, 51, 52, 53, 5, 54, 8, 15, 16, 17, 18, 67, 68, 69, 70, 71, 72, 73, 74] (by decide +kernel) (by decide +kernel)
set_option maxRecDepth 20000 in
theorem gX11_certain_X9_firstCertain : GoodIn wsX11_certain (wsV RX11 205 RX9 yX9_firstCertain wsX9_firstCertain) := goodIn_app (goodIn_of _ (by decide +kernel)) ggX11_certain_X9_firstCertain
theorem dX11_certain_0 : decode cX11_certain 0 = .ok (.iload_n 1, 1) := by decide +kernel
theorem dX11_certain_1 : decode cX11_certain 1 = .ok (.ifCond .lt 8, 3) := by decide +kernel
theorem dX11_certain_4 : decode cX11_certain 4 = .ok (.iload_n 1, 1) := by decide +kernel
theorem dX11_certain_5 : decode cX11_certain 5 = .ok (.iconst 1, 1) := by decide +kernel
theorem dX11_certain_6 : decode cX11_certain 6 = .ok (.if_icmp .le 5, 3) := by decide +kernel
theorem dX11_certain_9 : decode cX11_certain 9 = .ok (.iconst (-1), 1) := by decide +kernel
theorem dX11_certain_10 : decode cX11_certain 10 = .ok (.ireturn, 1) := by decide +kernel
theorem dX11_certain_11 : decode cX11_certain 11 = .ok (.aload_n 0, 1) := by decide +kernel
theorem dX11_certain_12 : decode cX11_certain 12 = .ok (.getfield 12, 3) := by decide +kernel
theorem dX11_certain_15 : decode cX11_certain 15 = .ok (.getfield 182, 3) := by decide +kernel
theorem dX11_certain_18 : decode cX11_certain 18 = .ok (.aload_n 0, 1) := by decide +kernel
theorem dX11_certain_19 : decode cX11_certain 19 = .ok (.getfield 12, 3) := by decide +kernel
theorem dX11_certain_22 : decode cX11_certain 22 = .ok (.getfield 86, 3) := by decide +kernel
theorem dX11_certain_25 : decode cX11_certain 25 = .ok (.invokevirtual 198, 3) := by decide +kernel
theorem dX11_certain_28 : decode cX11_certain 28 = .ok (.aload_n 0, 1) := by decide +kernel
theorem dX11_certain_29 : decode cX11_certain 29 = .ok (.getfield 12, 3) := by decide +kernel
theorem dX11_certain_32 : decode cX11_certain 32 = .ok (.getfield 182, 3) := by decide +kernel
theorem dX11_certain_35 : decode cX11_certain 35 = .ok (.iload_n 1, 1) := by decide +kernel
theorem dX11_certain_36 : decode cX11_certain 36 = .ok (.invokevirtual 205, 3) := by decide +kernel
theorem dX11_certain_39 : decode cX11_certain 39 = .ok (.ireturn, 1) := by decide +kernel
set_option maxRecDepth 20000 in
theorem ggX11_delay_X3_ends : GoodIn wsX11_delay wsX3_ends := goodIn_r _ [5, 6, 7, 8, 9, 10, 11, 4, 12, 13, 14, 15, 16, 17, 18, 19, 20, 21, 22, 23, 24, 25, 26, 27, 28, 29, 30, 31, 32, 33, 34, 35, 36, 37, 38, 39, 40, 41, 42, 43, 44, 45, 46, 47, 48, 49, 50, 51, 68, 69, 70, 71, 72, 73, 74, 64, 65, 66, 67] (by decide +kernel) (by decide +kernel)
set_option maxRecDepth 20000 in
theorem gX11_delay_X3_ends : GoodIn wsX11_delay (va_wsS RX11 208 yX3_ends wsX3_ends) := goodIn_app (goodIn_of _ (by decide +kernel)) ggX11_delay_X3_ends
theorem dX11_delay_0 : decode cX11_delay 0 = .ok (.aload_n 0, 1) := by decide +kernel
theorem dX11_delay_1 : decode cX11_delay 1 = .ok (.getfield 12, 3) := by decide +kernel
theorem dX11_delay_4 : decode cX11_delay 4 = .ok (.getfield 27, 3) := by decide +kernel
theorem dX11_delay_7 : decode cX11_delay 7 = .ok (.getfield 78, 3) := by decide +kernel
theorem dX11_delay_10 : decode cX11_delay 10 = .ok (.bipush 32, 2) := by decide +kernel
theorem dX11_delay_12 : decode cX11_delay 12 = .ok (.if_icmp .le 8, 3) := by decide +kernel
theorem dX11_delay_15 : decode cX11_delay 15 = .ok (.bipush (-3), 2) := by decide +kernel
theorem dX11_delay_17 : decode cX11_delay 17 = .ok (.goto 13, 3) := by decide +kernel
theorem dX11_delay_20 : decode cX11_delay 20 = .ok (.aload_n 0, 1) := by decide +kernel
theorem dX11_delay_21 : decode cX11_delay 21 = .ok (.getfield 12, 3) := by decide +kernel
theorem dX11_delay_24 : decode cX11_delay 24 = .ok (.getfield 86, 3) := by decide +kernel
theorem dX11_delay_27 : decode cX11_delay 27 = .ok (.invokestatic 208, 3) := by decide +kernel
theorem dX11_delay_30 : decode cX11_delay 30 = .ok (.ireturn, 1) := by decide +kernel
set_option maxRecDepth 20000 in
theorem ggX11_odds_X1_draw : GoodIn wsX11_odds wsX1_draw := goodIn_r _ [7, 8, 9, 10, 11, 12, 6, 13, 14, 15, 16, 17, 18, 19, 20, 21, 22, 23, 24, 25, 26, 27, 28, 29, 30, 31, 32, 33, 34, 35, 36, 37, 38, 39, 40, 41, 42, 43, 44, 45, 46, 47, 48, 49, 50, 51, 52, 53, 54, 55, 56, 57, 58, 59, 60, 61, 62, 63, 64, 65, 66, 67, 68, 69, 70, 71, 72, 73, 74, 75, 76, 102, 103, 104, 105, 106, 107, 108, 109, 110, 111, 112] (by decide +kernel) (by decide +kernel)
set_option maxRecDepth 20000 in
theorem gX11_odds_X1_draw : GoodIn wsX11_odds (wsV RX11 216 RX1 yX1_draw wsX1_draw) := goodIn_app (goodIn_of _ (by decide +kernel)) ggX11_odds_X1_draw
set_option maxRecDepth 20000 in
theorem ggX11_odds_X1_isFree : GoodIn wsX11_odds wsX1_isFree := goodIn_r _ [80, 14, 17, 18, 19, 6, 20, 21, 22, 23, 24, 25, 81, 82, 83, 84, 9, 16, 15, 58, 59, 60, 44, 61, 62, 63, 64, 65, 66, 67, 68, 69, 70, 71, 72, 73, 74, 75, 76, 35, 36, 102, 103, 104, 105, 106, 107, 108, 109, 110, 111, 112] (by decide +kernel) (by decide +kernel)
set_option maxRecDepth 20000 in
theorem gX11_odds_X1_isFree : GoodIn wsX11_odds (wsV RX11 119 RX1 yX1_isFree wsX1_isFree) := goodIn_app (goodIn_of _ (by decide +kernel)) ggX11_odds_X1_isFree
set_option maxRecDepth 20000 in
theorem ggX11_odds_X8_commonDivisor : GoodIn wsX11_odds wsX8_commonDivisor := goodIn_r _ [87, 88, 89, 90, 91, 92, 35, 24, 36] (by decide +kernel) (by decide +kernel)
set_option maxRecDepth 20000 in
theorem gX11_odds_X8_commonDivisor : GoodIn wsX11_odds (va_wsS RX11 219 yX8_commonDivisor wsX8_commonDivisor) := goodIn_app (goodIn_of _ (by decide +kernel)) ggX11_odds_X8_commonDivisor
set_option maxRecDepth 20000 in
theorem ggX11_odds_X8_over : GoodIn wsX11_odds wsX8_over := goodIn_r _ [71] (by decide +kernel) (by decide +kernel)
set_option maxRecDepth 20000 in
theorem gX11_odds_X8_over : GoodIn wsX11_odds (va_wsS RX11 224 yX8_over wsX8_over) := goodIn_app (goodIn_of _ (by decide +kernel)) ggX11_odds_X8_over
theorem dX11_odds_0 : decode cX11_odds 0 = .ok (.iload_n 1, 1) := by decide +kernel
theorem dX11_odds_1 : decode cX11_odds 1 = .ok (.iconst 1, 1) := by decide +kernel
theorem dX11_odds_2 : decode cX11_odds 2 = .ok (.if_icmp .lt 31, 3) := by decide +kernel
theorem dX11_odds_5 : decode cX11_odds 5 = .ok (.iload_n 1, 1) := by decide +kernel
theorem dX11_odds_6 : decode cX11_odds 6 = .ok (.bipush 12, 2) := by decide +kernel
theorem dX11_odds_8 : decode cX11_odds 8 = .ok (.if_icmp .gt 25, 3) := by decide +kernel
theorem dX11_odds_11 : decode cX11_odds 11 = .ok (.iload_n 3, 1) := by decide +kernel
theorem dX11_odds_12 : decode cX11_odds 12 = .ok (.iconst 1, 1) := by decide +kernel
theorem dX11_odds_13 : decode cX11_odds 13 = .ok (.if_icmp .lt 20, 3) := by decide +kernel
theorem dX11_odds_16 : decode cX11_odds 16 = .ok (.iload_n 3, 1) := by decide +kernel
theorem dX11_odds_17 : decode cX11_odds 17 = .ok (.bipush 30, 2) := by decide +kernel
theorem dX11_odds_19 : decode cX11_odds 19 = .ok (.if_icmp .gt 14, 3) := by decide +kernel
theorem dX11_odds_22 : decode cX11_odds 22 = .ok (.iload 4, 2) := by decide +kernel
theorem dX11_odds_24 : decode cX11_odds 24 = .ok (.ifCond .lt 9, 3) := by decide +kernel
theorem dX11_odds_27 : decode cX11_odds 27 = .ok (.iload 4, 2) := by decide +kernel
theorem dX11_odds_29 : decode cX11_odds 29 = .ok (.iconst 1, 1) := by decide +kernel
theorem dX11_odds_30 : decode cX11_odds 30 = .ok (.if_icmp .le 7, 3) := by decide +kernel
theorem dX11_odds_33 : decode cX11_odds 33 = .ok (.ldc2_w 214, 3) := by decide +kernel
theorem dX11_odds_36 : decode cX11_odds 36 = .ok (.lreturn, 1) := by decide +kernel
theorem dX11_odds_37 : decode cX11_odds 37 = .ok (.iconst 0, 1) := by decide +kernel
theorem dX11_odds_38 : decode cX11_odds 38 = .ok (.istore 5, 2) := by decide +kernel
theorem dX11_odds_40 : decode cX11_odds 40 = .ok (.iconst 0, 1) := by decide +kernel
theorem dX11_odds_41 : decode cX11_odds 41 = .ok (.istore 6, 2) := by decide +kernel
theorem dX11_odds_43 : decode cX11_odds 43 = .ok (.iload 6, 2) := by decide +kernel
theorem dX11_odds_45 : decode cX11_odds 45 = .ok (.iload_n 3, 1) := by decide +kernel
theorem dX11_odds_46 : decode cX11_odds 46 = .ok (.if_icmp .ge 34, 3) := by decide +kernel
theorem dX11_odds_49 : decode cX11_odds 49 = .ok (.aload_n 0, 1) := by decide +kernel
theorem dX11_odds_50 : decode cX11_odds 50 = .ok (.getfield 34, 3) := by decide +kernel
theorem dX11_odds_53 : decode cX11_odds 53 = .ok (.iload_n 1, 1) := by decide +kernel
theorem dX11_odds_54 : decode cX11_odds 54 = .ok (.iload_n 2, 1) := by decide +kernel
theorem dX11_odds_55 : decode cX11_odds 55 = .ok (.iload 6, 2) := by decide +kernel
theorem dX11_odds_57 : decode cX11_odds 57 = .ok (.iadd, 1) := by decide +kernel
theorem dX11_odds_58 : decode cX11_odds 58 = .ok (.invokevirtual 216, 3) := by decide +kernel
theorem dX11_odds_61 : decode cX11_odds 61 = .ok (.aload_n 0, 1) := by decide +kernel
theorem dX11_odds_62 : decode cX11_odds 62 = .ok (.getfield 34, 3) := by decide +kernel
theorem dX11_odds_65 : decode cX11_odds 65 = .ok (.invokevirtual 119, 3) := by decide +kernel
theorem dX11_odds_68 : decode cX11_odds 68 = .ok (.ifCond .eq 6, 3) := by decide +kernel
theorem dX11_odds_71 : decode cX11_odds 71 = .ok (.iinc 5 1, 3) := by decide +kernel
theorem dX11_odds_74 : decode cX11_odds 74 = .ok (.iinc 6 1, 3) := by decide +kernel
theorem dX11_odds_77 : decode cX11_odds 77 = .ok (.goto (-34), 3) := by decide +kernel
theorem dX11_odds_80 : decode cX11_odds 80 = .ok (.iload 5, 2) := by decide +kernel
theorem dX11_odds_82 : decode cX11_odds 82 = .ok (.iload_n 3, 1) := by decide +kernel
theorem dX11_odds_83 : decode cX11_odds 83 = .ok (.invokestatic 219, 3) := by decide +kernel
theorem dX11_odds_86 : decode cX11_odds 86 = .ok (.istore 6, 2) := by decide +kernel
theorem dX11_odds_88 : decode cX11_odds 88 = .ok (.iload 4, 2) := by decide +kernel
theorem dX11_odds_90 : decode cX11_odds 90 = .ok (.ifCond .ne 8, 3) := by decide +kernel
theorem dX11_odds_93 : decode cX11_odds 93 = .ok (.iload 5, 2) := by decide +kernel
theorem dX11_odds_95 : decode cX11_odds 95 = .ok (.goto 4, 3) := by decide +kernel
theorem dX11_odds_98 : decode cX11_odds 98 = .ok (.iload_n 3, 1) := by decide +kernel
theorem dX11_odds_99 : decode cX11_odds 99 = .ok (.iload 6, 2) := by decide +kernel
theorem dX11_odds_101 : decode cX11_odds 101 = .ok (.invokestatic 224, 3) := by decide +kernel
theorem dX11_odds_104 : decode cX11_odds 104 = .ok (.i2l, 1) := by decide +kernel
theorem dX11_odds_105 : decode cX11_odds 105 = .ok (.lreturn, 1) := by decide +kernel
set_option maxRecDepth 20000 in
theorem ggX11_plan_X7_empty : GoodIn wsX11_plan wsX7_empty := goodIn_r _ [6, 7, 34, 35, 36, 37] (by decide +kernel) (by decide +kernel)
set_option maxRecDepth 20000 in
theorem gX11_plan_X7_empty : GoodIn wsX11_plan (wsV RX11 231 RX7 yX7_empty wsX7_empty) := goodIn_app (goodIn_of _ (by decide +kernel)) ggX11_plan_X7_empty
set_option maxRecDepth 20000 in
theorem ggX11_plan_X7_append : GoodIn wsX11_plan wsX7_append := goodIn_r _ [11, 7, 12, 13, 14, 15, 16, 17, 34, 35, 36, 37] (by decide +kernel) (by decide +kernel)
set_option maxRecDepth 20000 in
theorem gX11_plan_X7_append : GoodIn wsX11_plan (wsV RX11 234 RX7 yX7_append wsX7_append) := goodIn_app (goodIn_of _ (by decide +kernel)) ggX11_plan_X7_append
set_option maxRecDepth 20000 in
theorem ggX11_plan_X7_total : GoodIn wsX11_plan wsX7_total := goodIn_r _ [21, 7, 34, 35, 36, 37] (by decide +kernel) (by decide +kernel)
set_option maxRecDepth 20000 in
theorem gX11_plan_X7_total : GoodIn wsX11_plan (wsV RX11 236 RX7 yX7_total wsX7_total) := goodIn_app (goodIn_of _ (by decide +kernel)) ggX11_plan_X7_total
theorem dX11_plan_0 : decode cX11_plan 0 = .ok (.iload_n 1, 1) := by decide +kernel
theorem dX11_plan_1 : decode cX11_plan 1 = .ok (.iconst (-1), 1) := by decide +kernel
theorem dX11_plan_2 : decode cX11_plan 2 = .ok (.if_icmp .ne 15, 3) := by decide +kernel
theorem dX11_plan_5 : decode cX11_plan 5 = .ok (.aload_n 0, 1) := by decide +kernel
theorem dX11_plan_6 : decode cX11_plan 6 = .ok (.getfield 12, 3) := by decide +kernel
theorem dX11_plan_9 : decode cX11_plan 9 = .ok (.getfield 227, 3) := by decide +kernel
theorem dX11_plan_12 : decode cX11_plan 12 = .ok (.invokevirtual 231, 3) := by decide +kernel
theorem dX11_plan_15 : decode cX11_plan 15 = .ok (.iconst 0, 1) := by decide +kernel
theorem dX11_plan_16 : decode cX11_plan 16 = .ok (.ireturn, 1) := by decide +kernel
theorem dX11_plan_17 : decode cX11_plan 17 = .ok (.iload_n 1, 1) := by decide +kernel
theorem dX11_plan_18 : decode cX11_plan 18 = .ok (.ifCond .lt 8, 3) := by decide +kernel
theorem dX11_plan_21 : decode cX11_plan 21 = .ok (.iload_n 1, 1) := by decide +kernel
theorem dX11_plan_22 : decode cX11_plan 22 = .ok (.iconst 3, 1) := by decide +kernel
theorem dX11_plan_23 : decode cX11_plan 23 = .ok (.if_icmp .le 5, 3) := by decide +kernel
theorem dX11_plan_26 : decode cX11_plan 26 = .ok (.iconst (-1), 1) := by decide +kernel
theorem dX11_plan_27 : decode cX11_plan 27 = .ok (.ireturn, 1) := by decide +kernel
theorem dX11_plan_28 : decode cX11_plan 28 = .ok (.iload_n 1, 1) := by decide +kernel
theorem dX11_plan_29 : decode cX11_plan 29 = .ok (.iconst 2, 1) := by decide +kernel
theorem dX11_plan_30 : decode cX11_plan 30 = .ok (.if_icmp .ne 8, 3) := by decide +kernel
theorem dX11_plan_33 : decode cX11_plan 33 = .ok (.bipush 48, 2) := by decide +kernel
theorem dX11_plan_35 : decode cX11_plan 35 = .ok (.goto 6, 3) := by decide +kernel
theorem dX11_plan_38 : decode cX11_plan 38 = .ok (.sipush 256, 3) := by decide +kernel
theorem dX11_plan_41 : decode cX11_plan 41 = .ok (.istore_n 3, 1) := by decide +kernel
theorem dX11_plan_42 : decode cX11_plan 42 = .ok (.iload_n 2, 1) := by decide +kernel
theorem dX11_plan_43 : decode cX11_plan 43 = .ok (.ifCond .lt 8, 3) := by decide +kernel
theorem dX11_plan_46 : decode cX11_plan 46 = .ok (.iload_n 2, 1) := by decide +kernel
theorem dX11_plan_47 : decode cX11_plan 47 = .ok (.iload_n 3, 1) := by decide +kernel
theorem dX11_plan_48 : decode cX11_plan 48 = .ok (.if_icmp .lt 6, 3) := by decide +kernel
theorem dX11_plan_51 : decode cX11_plan 51 = .ok (.bipush (-2), 2) := by decide +kernel
theorem dX11_plan_53 : decode cX11_plan 53 = .ok (.ireturn, 1) := by decide +kernel
theorem dX11_plan_54 : decode cX11_plan 54 = .ok (.aload_n 0, 1) := by decide +kernel
theorem dX11_plan_55 : decode cX11_plan 55 = .ok (.getfield 12, 3) := by decide +kernel
theorem dX11_plan_58 : decode cX11_plan 58 = .ok (.getfield 227, 3) := by decide +kernel
theorem dX11_plan_61 : decode cX11_plan 61 = .ok (.iload_n 1, 1) := by decide +kernel
theorem dX11_plan_62 : decode cX11_plan 62 = .ok (.iload_n 2, 1) := by decide +kernel
theorem dX11_plan_63 : decode cX11_plan 63 = .ok (.invokevirtual 234, 3) := by decide +kernel
theorem dX11_plan_66 : decode cX11_plan 66 = .ok (.ifCond .eq 16, 3) := by decide +kernel
theorem dX11_plan_69 : decode cX11_plan 69 = .ok (.aload_n 0, 1) := by decide +kernel
theorem dX11_plan_70 : decode cX11_plan 70 = .ok (.getfield 12, 3) := by decide +kernel
theorem dX11_plan_73 : decode cX11_plan 73 = .ok (.getfield 227, 3) := by decide +kernel
theorem dX11_plan_76 : decode cX11_plan 76 = .ok (.invokevirtual 236, 3) := by decide +kernel
theorem dX11_plan_79 : decode cX11_plan 79 = .ok (.goto 5, 3) := by decide +kernel
theorem dX11_plan_82 : decode cX11_plan 82 = .ok (.bipush (-4), 2) := by decide +kernel
theorem dX11_plan_84 : decode cX11_plan 84 = .ok (.ireturn, 1) := by decide +kernel
set_option maxRecDepth 20000 in
theorem ggX11_behind_X1_copyFrom : GoodIn wsX11_behind wsX1_copyFrom := goodIn_r _ [7, 8, 9, 10, 11, 12, 13, 14, 15, 16, 17, 18, 19, 6, 20, 155, 156, 157, 158, 159, 160, 161] (by decide +kernel) (by decide +kernel)
set_option maxRecDepth 20000 in
theorem gX11_behind_X1_copyFrom : GoodIn wsX11_behind (wsV RX11 237 RX1 yX1_copyFrom wsX1_copyFrom) := goodIn_app (goodIn_of _ (by decide +kernel)) ggX11_behind_X1_copyFrom
set_option maxRecDepth 20000 in
theorem ggX11_behind_X7_doneTo : GoodIn wsX11_behind wsX7_doneTo := goodIn_r _ [25, 26, 27, 28, 29, 30, 15, 31, 32, 33, 34, 24, 35, 36, 37, 38, 39, 6, 40, 41, 8, 9, 42, 43, 44, 45, 46, 47, 17, 18, 19, 20, 12, 48, 49, 50, 51, 52, 53, 54, 55, 56, 57, 58, 59, 60, 61, 62, 63, 10, 11, 64, 65, 66, 67, 68, 69, 70, 71, 72, 73, 74, 75, 76, 77, 78, 79, 80, 81, 82, 83, 84, 85, 86, 87, 88, 89, 90, 91, 92, 93, 94, 95, 96, 97, 98, 99, 100, 101, 102, 103, 104, 105, 106, 107, 108, 109, 110, 111, 112, 113, 114, 115, 116, 117, 118, 119, 120, 121, 122, 123, 124, 125, 126, 127, 128, 129, 130, 131, 132, 162, 163, 164, 165, 155, 156, 157, 158, 159, 160, 161, 166, 167, 168, 169] (by decide +kernel) (by decide +kernel)
set_option maxRecDepth 20000 in
theorem gX11_behind_X7_doneTo : GoodIn wsX11_behind (wsV RX11 240 RX7 yX7_doneTo wsX7_doneTo) := goodIn_app (goodIn_of _ (by decide +kernel)) ggX11_behind_X7_doneTo
set_option maxRecDepth 20000 in
theorem ggX11_behind_X1_total : GoodIn wsX11_behind wsX1_total := goodIn_r _ [136, 8, 155, 156, 157, 158, 159, 160, 161] (by decide +kernel) (by decide +kernel)
set_option maxRecDepth 20000 in
theorem gX11_behind_X1_total : GoodIn wsX11_behind (wsV RX11 92 RX1 yX1_total wsX1_total) := goodIn_app (goodIn_of _ (by decide +kernel)) ggX11_behind_X1_total
set_option maxRecDepth 20000 in
theorem ggX11_behind_X1_isFree : GoodIn wsX11_behind wsX1_isFree := goodIn_r _ [132, 8, 48, 49, 50, 6, 51, 9, 52, 30, 15, 31, 125, 126, 127, 128, 41, 11, 10, 64, 65, 66, 45, 67, 68, 69, 70, 71, 72, 73, 74, 75, 76, 77, 78, 79, 80, 81, 82, 83, 84, 155, 156, 157, 158, 159, 160, 161, 166, 167, 168, 169] (by decide +kernel) (by decide +kernel)
set_option maxRecDepth 20000 in
theorem gX11_behind_X1_isFree : GoodIn wsX11_behind (wsV RX11 119 RX1 yX1_isFree wsX1_isFree) := goodIn_app (goodIn_of _ (by decide +kernel)) ggX11_behind_X1_isFree
set_option maxRecDepth 20000 in
theorem ggX11_behind_X1_has : GoodIn wsX11_behind wsX1_has := goodIn_r _ [141, 8, 155, 156, 157, 158, 159, 160, 161] (by decide +kernel) (by decide +kernel)
set_option maxRecDepth 20000 in
theorem gX11_behind_X1_has : GoodIn wsX11_behind (wsV RX11 102 RX1 yX1_has wsX1_has) := goodIn_app (goodIn_of _ (by decide +kernel)) ggX11_behind_X1_has
set_option maxRecDepth 20000 in
theorem ggX11_behind_X1_nth : GoodIn wsX11_behind wsX1_nth := goodIn_r _ [51, 9, 52, 30, 15, 31, 155, 156, 157, 158, 159, 160, 161] (by decide +kernel) (by decide +kernel)
set_option maxRecDepth 20000 in
theorem gX11_behind_X1_nth : GoodIn wsX11_behind (wsV RX11 105 RX1 yX1_nth wsX1_nth) := goodIn_app (goodIn_of _ (by decide +kernel)) ggX11_behind_X1_nth
theorem dX11_behind_0 : decode cX11_behind 0 = .ok (.iload_n 1, 1) := by decide +kernel
theorem dX11_behind_1 : decode cX11_behind 1 = .ok (.ifCond .lt 8, 3) := by decide +kernel
theorem dX11_behind_4 : decode cX11_behind 4 = .ok (.iload_n 1, 1) := by decide +kernel
theorem dX11_behind_5 : decode cX11_behind 5 = .ok (.iconst 2, 1) := by decide +kernel
theorem dX11_behind_6 : decode cX11_behind 6 = .ok (.if_icmp .le 5, 3) := by decide +kernel
theorem dX11_behind_9 : decode cX11_behind 9 = .ok (.iconst (-1), 1) := by decide +kernel
theorem dX11_behind_10 : decode cX11_behind 10 = .ok (.ireturn, 1) := by decide +kernel
theorem dX11_behind_11 : decode cX11_behind 11 = .ok (.aload_n 0, 1) := by decide +kernel
theorem dX11_behind_12 : decode cX11_behind 12 = .ok (.getfield 34, 3) := by decide +kernel
theorem dX11_behind_15 : decode cX11_behind 15 = .ok (.aload_n 0, 1) := by decide +kernel
theorem dX11_behind_16 : decode cX11_behind 16 = .ok (.getfield 12, 3) := by decide +kernel
theorem dX11_behind_19 : decode cX11_behind 19 = .ok (.getfield 86, 3) := by decide +kernel
theorem dX11_behind_22 : decode cX11_behind 22 = .ok (.invokevirtual 237, 3) := by decide +kernel
theorem dX11_behind_25 : decode cX11_behind 25 = .ok (.aload_n 0, 1) := by decide +kernel
theorem dX11_behind_26 : decode cX11_behind 26 = .ok (.getfield 12, 3) := by decide +kernel
theorem dX11_behind_29 : decode cX11_behind 29 = .ok (.getfield 227, 3) := by decide +kernel
theorem dX11_behind_32 : decode cX11_behind 32 = .ok (.aload_n 0, 1) := by decide +kernel
theorem dX11_behind_33 : decode cX11_behind 33 = .ok (.getfield 34, 3) := by decide +kernel
theorem dX11_behind_36 : decode cX11_behind 36 = .ok (.invokevirtual 240, 3) := by decide +kernel
theorem dX11_behind_39 : decode cX11_behind 39 = .ok (.iload_n 1, 1) := by decide +kernel
theorem dX11_behind_40 : decode cX11_behind 40 = .ok (.ifCond .ne 11, 3) := by decide +kernel
theorem dX11_behind_43 : decode cX11_behind 43 = .ok (.aload_n 0, 1) := by decide +kernel
theorem dX11_behind_44 : decode cX11_behind 44 = .ok (.getfield 34, 3) := by decide +kernel
theorem dX11_behind_47 : decode cX11_behind 47 = .ok (.invokevirtual 92, 3) := by decide +kernel
theorem dX11_behind_50 : decode cX11_behind 50 = .ok (.ireturn, 1) := by decide +kernel
theorem dX11_behind_51 : decode cX11_behind 51 = .ok (.iload_n 1, 1) := by decide +kernel
theorem dX11_behind_52 : decode cX11_behind 52 = .ok (.iconst 1, 1) := by decide +kernel
theorem dX11_behind_53 : decode cX11_behind 53 = .ok (.if_icmp .ne 19, 3) := by decide +kernel
theorem dX11_behind_56 : decode cX11_behind 56 = .ok (.aload_n 0, 1) := by decide +kernel
theorem dX11_behind_57 : decode cX11_behind 57 = .ok (.getfield 34, 3) := by decide +kernel
theorem dX11_behind_60 : decode cX11_behind 60 = .ok (.invokevirtual 119, 3) := by decide +kernel
theorem dX11_behind_63 : decode cX11_behind 63 = .ok (.ifCond .eq 7, 3) := by decide +kernel
theorem dX11_behind_66 : decode cX11_behind 66 = .ok (.iconst 1, 1) := by decide +kernel
theorem dX11_behind_67 : decode cX11_behind 67 = .ok (.goto 4, 3) := by decide +kernel
theorem dX11_behind_70 : decode cX11_behind 70 = .ok (.iconst 0, 1) := by decide +kernel
theorem dX11_behind_71 : decode cX11_behind 71 = .ok (.ireturn, 1) := by decide +kernel
theorem dX11_behind_72 : decode cX11_behind 72 = .ok (.aload_n 0, 1) := by decide +kernel
theorem dX11_behind_73 : decode cX11_behind 73 = .ok (.getfield 34, 3) := by decide +kernel
theorem dX11_behind_76 : decode cX11_behind 76 = .ok (.iconst 0, 1) := by decide +kernel
theorem dX11_behind_77 : decode cX11_behind 77 = .ok (.invokevirtual 102, 3) := by decide +kernel
theorem dX11_behind_80 : decode cX11_behind 80 = .ok (.ifCond .eq 14, 3) := by decide +kernel
theorem dX11_behind_83 : decode cX11_behind 83 = .ok (.aload_n 0, 1) := by decide +kernel
theorem dX11_behind_84 : decode cX11_behind 84 = .ok (.getfield 34, 3) := by decide +kernel
theorem dX11_behind_87 : decode cX11_behind 87 = .ok (.iconst 0, 1) := by decide +kernel
theorem dX11_behind_88 : decode cX11_behind 88 = .ok (.invokevirtual 105, 3) := by decide +kernel
theorem dX11_behind_91 : decode cX11_behind 91 = .ok (.goto 5, 3) := by decide +kernel
theorem dX11_behind_94 : decode cX11_behind 94 = .ok (.bipush (-5), 2) := by decide +kernel
theorem dX11_behind_96 : decode cX11_behind 96 = .ok (.ireturn, 1) := by decide +kernel
set_option maxRecDepth 20000 in
theorem ggX11_feed_X10_append : GoodIn wsX11_feed wsX10_append := goodIn_r _ [6, 7, 8, 9, 10, 11, 12, 25, 26, 27, 28] (by decide +kernel) (by decide +kernel)
set_option maxRecDepth 20000 in
theorem gX11_feed_X10_append : GoodIn wsX11_feed (wsV RX11 243 RX10 yX10_append wsX10_append) := goodIn_app (goodIn_of _ (by decide +kernel)) ggX11_feed_X10_append
set_option maxRecDepth 20000 in
theorem ggX11_feed_X10_total : GoodIn wsX11_feed wsX10_total := goodIn_r _ [16, 7, 25, 26, 27, 28] (by decide +kernel) (by decide +kernel)
set_option maxRecDepth 20000 in
theorem gX11_feed_X10_total : GoodIn wsX11_feed (wsV RX11 245 RX10 yX10_total wsX10_total) := goodIn_app (goodIn_of _ (by decide +kernel)) ggX11_feed_X10_total
theorem dX11_feed_0 : decode cX11_feed 0 = .ok (.iload_n 1, 1) := by decide +kernel
theorem dX11_feed_1 : decode cX11_feed 1 = .ok (.iconst 1, 1) := by decide +kernel
theorem dX11_feed_2 : decode cX11_feed 2 = .ok (.if_icmp .lt 9, 3) := by decide +kernel
theorem dX11_feed_5 : decode cX11_feed 5 = .ok (.iload_n 1, 1) := by decide +kernel
theorem dX11_feed_6 : decode cX11_feed 6 = .ok (.bipush 127, 2) := by decide +kernel
theorem dX11_feed_8 : decode cX11_feed 8 = .ok (.if_icmp .le 6, 3) := by decide +kernel
theorem dX11_feed_11 : decode cX11_feed 11 = .ok (.bipush (-2), 2) := by decide +kernel
theorem dX11_feed_13 : decode cX11_feed 13 = .ok (.ireturn, 1) := by decide +kernel
theorem dX11_feed_14 : decode cX11_feed 14 = .ok (.aload_n 0, 1) := by decide +kernel
theorem dX11_feed_15 : decode cX11_feed 15 = .ok (.getfield 50, 3) := by decide +kernel
theorem dX11_feed_18 : decode cX11_feed 18 = .ok (.iload_n 1, 1) := by decide +kernel
theorem dX11_feed_19 : decode cX11_feed 19 = .ok (.invokevirtual 243, 3) := by decide +kernel
theorem dX11_feed_22 : decode cX11_feed 22 = .ok (.ifCond .eq 13, 3) := by decide +kernel
theorem dX11_feed_25 : decode cX11_feed 25 = .ok (.aload_n 0, 1) := by decide +kernel
theorem dX11_feed_26 : decode cX11_feed 26 = .ok (.getfield 50, 3) := by decide +kernel
theorem dX11_feed_29 : decode cX11_feed 29 = .ok (.invokevirtual 245, 3) := by decide +kernel
theorem dX11_feed_32 : decode cX11_feed 32 = .ok (.goto 5, 3) := by decide +kernel
theorem dX11_feed_35 : decode cX11_feed 35 = .ok (.bipush (-4), 2) := by decide +kernel
theorem dX11_feed_37 : decode cX11_feed 37 = .ok (.ireturn, 1) := by decide +kernel
set_option maxRecDepth 20000 in
theorem ggX11_book_X10_readInto : GoodIn wsX11_book wsX10_readInto := goodIn_r _ [8, 9, 10, 11, 12, 13, 14, 15, 16, 17, 18, 19, 20, 21, 22, 23, 24, 25, 26, 27, 28, 29, 30, 31, 32, 33, 34, 35, 36, 37, 38, 39, 40, 41, 42, 43, 7, 44, 45, 46, 47, 48, 49, 50, 51, 52, 53, 54, 55, 56, 57, 58, 59, 60, 61, 62, 63, 64, 65, 66, 67, 68, 69, 70, 71, 72, 73, 74, 75, 76, 77, 78, 79, 80, 81, 82, 83, 84, 85, 86, 87, 88, 89, 90, 111, 112, 113, 114, 115, 116, 117, 118, 119, 120, 121, 122, 123, 124, 125] (by decide +kernel) (by decide +kernel)
set_option maxRecDepth 20000 in
theorem gX11_book_X10_readInto : GoodIn wsX11_book (wsV RX11 246 RX10 yX10_readInto wsX10_readInto) := goodIn_app (goodIn_of _ (by decide +kernel)) ggX11_book_X10_readInto
set_option maxRecDepth 20000 in
theorem ggX11_book_X1_copyFrom : GoodIn wsX11_book wsX1_copyFrom := goodIn_r _ [94, 16, 23, 17, 18, 32, 95, 96, 26, 97, 61, 62, 63, 14, 64, 111, 112, 113, 114, 115, 116, 117] (by decide +kernel) (by decide +kernel)
set_option maxRecDepth 20000 in
theorem gX11_book_X1_copyFrom : GoodIn wsX11_book (wsV RX11 237 RX1 yX1_copyFrom wsX1_copyFrom) := goodIn_app (goodIn_of _ (by decide +kernel)) ggX11_book_X1_copyFrom
set_option maxRecDepth 20000 in
theorem ggX11_book_X1_total : GoodIn wsX11_book wsX1_total := goodIn_r _ [40, 16, 111, 112, 113, 114, 115, 116, 117] (by decide +kernel) (by decide +kernel)
set_option maxRecDepth 20000 in
theorem gX11_book_X1_total : GoodIn wsX11_book (wsV RX11 92 RX1 yX1_total wsX1_total) := goodIn_app (goodIn_of _ (by decide +kernel)) ggX11_book_X1_total
theorem dX11_book_0 : decode cX11_book 0 = .ok (.aload_n 0, 1) := by decide +kernel
theorem dX11_book_1 : decode cX11_book 1 = .ok (.getfield 50, 3) := by decide +kernel
theorem dX11_book_4 : decode cX11_book 4 = .ok (.aload_n 0, 1) := by decide +kernel
theorem dX11_book_5 : decode cX11_book 5 = .ok (.getfield 34, 3) := by decide +kernel
theorem dX11_book_8 : decode cX11_book 8 = .ok (.invokevirtual 246, 3) := by decide +kernel
theorem dX11_book_11 : decode cX11_book 11 = .ok (.istore_n 1, 1) := by decide +kernel
theorem dX11_book_12 : decode cX11_book 12 = .ok (.iload_n 1, 1) := by decide +kernel
theorem dX11_book_13 : decode cX11_book 13 = .ok (.ifCond .lt 8, 3) := by decide +kernel
theorem dX11_book_16 : decode cX11_book 16 = .ok (.bipush (-100), 2) := by decide +kernel
theorem dX11_book_18 : decode cX11_book 18 = .ok (.iload_n 1, 1) := by decide +kernel
theorem dX11_book_19 : decode cX11_book 19 = .ok (.isub, 1) := by decide +kernel
theorem dX11_book_20 : decode cX11_book 20 = .ok (.ireturn, 1) := by decide +kernel
theorem dX11_book_21 : decode cX11_book 21 = .ok (.aload_n 0, 1) := by decide +kernel
theorem dX11_book_22 : decode cX11_book 22 = .ok (.getfield 12, 3) := by decide +kernel
theorem dX11_book_25 : decode cX11_book 25 = .ok (.getfield 86, 3) := by decide +kernel
theorem dX11_book_28 : decode cX11_book 28 = .ok (.aload_n 0, 1) := by decide +kernel
theorem dX11_book_29 : decode cX11_book 29 = .ok (.getfield 34, 3) := by decide +kernel
theorem dX11_book_32 : decode cX11_book 32 = .ok (.invokevirtual 237, 3) := by decide +kernel
theorem dX11_book_35 : decode cX11_book 35 = .ok (.aload_n 0, 1) := by decide +kernel
theorem dX11_book_36 : decode cX11_book 36 = .ok (.getfield 12, 3) := by decide +kernel
theorem dX11_book_39 : decode cX11_book 39 = .ok (.getfield 86, 3) := by decide +kernel
theorem dX11_book_42 : decode cX11_book 42 = .ok (.invokevirtual 92, 3) := by decide +kernel
theorem dX11_book_45 : decode cX11_book 45 = .ok (.ireturn, 1) := by decide +kernel
set_option maxRecDepth 20000 in
theorem ggX11_why_X10_reason : GoodIn wsX11_why wsX10_reason := goodIn_r _ [6, 7, 8, 9, 10, 11, 12, 21, 22, 23, 24] (by decide +kernel) (by decide +kernel)
set_option maxRecDepth 20000 in
theorem gX11_why_X10_reason : GoodIn wsX11_why (wsV RX11 249 RX10 yX10_reason wsX10_reason) := goodIn_app (goodIn_of _ (by decide +kernel)) ggX11_why_X10_reason
theorem dX11_why_0 : decode cX11_why 0 = .ok (.aload_n 0, 1) := by decide +kernel
theorem dX11_why_1 : decode cX11_why 1 = .ok (.getfield 50, 3) := by decide +kernel
theorem dX11_why_4 : decode cX11_why 4 = .ok (.iload_n 1, 1) := by decide +kernel
theorem dX11_why_5 : decode cX11_why 5 = .ok (.invokevirtual 249, 3) := by decide +kernel
theorem dX11_why_8 : decode cX11_why 8 = .ok (.ireturn, 1) := by decide +kernel
set_option maxRecDepth 20000 in
theorem ggX11_write_X6_become : GoodIn wsX11_write wsX6_become := goodIn_r _ [7, 8, 9, 10, 11, 12, 13, 14, 15, 16, 17, 6, 18, 19, 20, 21, 22, 23, 24, 25, 26, 27, 28, 29, 30, 31, 32, 33, 34, 35, 36, 37, 38, 39, 40, 41, 42, 43, 44, 45, 46, 47, 48, 65, 66, 67, 68, 69, 70, 71, 72, 73, 74, 75, 76, 77] (by decide +kernel) (by decide +kernel)
set_option maxRecDepth 20000 in
theorem gX11_write_X6_become : GoodIn wsX11_write (wsV RX11 252 RX6 yX6_become wsX6_become) := goodIn_app (goodIn_of _ (by decide +kernel)) ggX11_write_X6_become
set_option maxRecDepth 20000 in
theorem ggX11_write_X6_total : GoodIn wsX11_write wsX6_total := goodIn_r _ [52, 8, 65, 66] (by decide +kernel) (by decide +kernel)
set_option maxRecDepth 20000 in
theorem gX11_write_X6_total : GoodIn wsX11_write (wsV RX11 255 RX6 yX6_total wsX6_total) := goodIn_app (goodIn_of _ (by decide +kernel)) ggX11_write_X6_total
theorem dX11_write_0 : decode cX11_write 0 = .ok (.aload_n 0, 1) := by decide +kernel
theorem dX11_write_1 : decode cX11_write 1 = .ok (.getfield 57, 3) := by decide +kernel
theorem dX11_write_4 : decode cX11_write 4 = .ok (.aload_n 0, 1) := by decide +kernel
theorem dX11_write_5 : decode cX11_write 5 = .ok (.getfield 12, 3) := by decide +kernel
theorem dX11_write_8 : decode cX11_write 8 = .ok (.getfield 86, 3) := by decide +kernel
theorem dX11_write_11 : decode cX11_write 11 = .ok (.invokevirtual 252, 3) := by decide +kernel
theorem dX11_write_14 : decode cX11_write 14 = .ok (.aload_n 0, 1) := by decide +kernel
theorem dX11_write_15 : decode cX11_write 15 = .ok (.getfield 57, 3) := by decide +kernel
theorem dX11_write_18 : decode cX11_write 18 = .ok (.invokevirtual 255, 3) := by decide +kernel
theorem dX11_write_21 : decode cX11_write 21 = .ok (.ireturn, 1) := by decide +kernel
set_option maxRecDepth 20000 in
theorem ggX11_paper_X6_byteAt : GoodIn wsX11_paper wsX6_byteAt := goodIn_r _ [6, 7, 8, 9, 10, 11, 12, 21, 22] (by decide +kernel) (by decide +kernel)
set_option maxRecDepth 20000 in
theorem gX11_paper_X6_byteAt : GoodIn wsX11_paper (wsV RX11 256 RX6 yX6_byteAt wsX6_byteAt) := goodIn_app (goodIn_of _ (by decide +kernel)) ggX11_paper_X6_byteAt
theorem dX11_paper_0 : decode cX11_paper 0 = .ok (.aload_n 0, 1) := by decide +kernel
theorem dX11_paper_1 : decode cX11_paper 1 = .ok (.getfield 57, 3) := by decide +kernel
theorem dX11_paper_4 : decode cX11_paper 4 = .ok (.iload_n 1, 1) := by decide +kernel
theorem dX11_paper_5 : decode cX11_paper 5 = .ok (.invokevirtual 256, 3) := by decide +kernel
theorem dX11_paper_8 : decode cX11_paper 8 = .ok (.ireturn, 1) := by decide +kernel
set_option maxRecDepth 20000 in
theorem ggX11_judge_X5_isList : GoodIn wsX11_judge wsX5_isList := goodIn_r _ [6] (by decide +kernel) (by decide +kernel)
set_option maxRecDepth 20000 in
theorem gX11_judge_X5_isList : GoodIn wsX11_judge (va_wsS RX11 259 yX5_isList wsX5_isList) := goodIn_app (goodIn_of _ (by decide +kernel)) ggX11_judge_X5_isList
set_option maxRecDepth 20000 in
theorem ggX11_judge_X5_length : GoodIn wsX11_judge wsX5_length := goodIn_r _ [10, 11, 12, 4, 5, 6, 13, 14, 15, 16, 46, 47] (by decide +kernel) (by decide +kernel)
set_option maxRecDepth 20000 in
theorem gX11_judge_X5_length : GoodIn wsX11_judge (wsV RX11 262 RX5 yX5_length wsX5_length) := goodIn_app (goodIn_of _ (by decide +kernel)) ggX11_judge_X5_length
set_option maxRecDepth 20000 in
theorem ggX11_judge_X1_has : GoodIn wsX11_judge wsX1_has := goodIn_r _ [21, 22, 48, 49, 50, 51, 52, 53, 54] (by decide +kernel) (by decide +kernel)
set_option maxRecDepth 20000 in
theorem gX11_judge_X1_has : GoodIn wsX11_judge (wsV RX11 102 RX1 yX1_has wsX1_has) := goodIn_app (goodIn_of _ (by decide +kernel)) ggX11_judge_X1_has
set_option maxRecDepth 20000 in
theorem ggX11_judge_X1_nth : GoodIn wsX11_judge wsX1_nth := goodIn_r _ [26, 27, 28, 14, 15, 16, 48, 49, 50, 51, 52, 53, 54] (by decide +kernel) (by decide +kernel)
set_option maxRecDepth 20000 in
theorem gX11_judge_X1_nth : GoodIn wsX11_judge (wsV RX11 105 RX1 yX1_nth wsX1_nth) := goodIn_app (goodIn_of _ (by decide +kernel)) ggX11_judge_X1_nth
set_option maxRecDepth 20000 in
theorem ggX11_judge_X5_at : GoodIn wsX11_judge wsX5_at := goodIn_r _ [32, 33, 13, 14, 15, 16, 46, 47] (by decide +kernel) (by decide +kernel)
set_option maxRecDepth 20000 in
theorem gX11_judge_X5_at : GoodIn wsX11_judge (wsV RX11 264 RX5 yX5_at wsX5_at) := goodIn_app (goodIn_of _ (by decide +kernel)) ggX11_judge_X5_at
theorem dX11_judge_0 : decode cX11_judge 0 = .ok (.iload_n 1, 1) := by decide +kernel
theorem dX11_judge_1 : decode cX11_judge 1 = .ok (.invokestatic 259, 3) := by decide +kernel
theorem dX11_judge_4 : decode cX11_judge 4 = .ok (.ifCond .ne 5, 3) := by decide +kernel
theorem dX11_judge_7 : decode cX11_judge 7 = .ok (.iconst (-1), 1) := by decide +kernel
theorem dX11_judge_8 : decode cX11_judge 8 = .ok (.ireturn, 1) := by decide +kernel
theorem dX11_judge_9 : decode cX11_judge 9 = .ok (.aload_n 0, 1) := by decide +kernel
theorem dX11_judge_10 : decode cX11_judge 10 = .ok (.getfield 64, 3) := by decide +kernel
theorem dX11_judge_13 : decode cX11_judge 13 = .ok (.iload_n 1, 1) := by decide +kernel
theorem dX11_judge_14 : decode cX11_judge 14 = .ok (.invokevirtual 262, 3) := by decide +kernel
theorem dX11_judge_17 : decode cX11_judge 17 = .ok (.istore_n 2, 1) := by decide +kernel
theorem dX11_judge_18 : decode cX11_judge 18 = .ok (.iload_n 2, 1) := by decide +kernel
theorem dX11_judge_19 : decode cX11_judge 19 = .ok (.ifCond .ge 6, 3) := by decide +kernel
theorem dX11_judge_22 : decode cX11_judge 22 = .ok (.bipush (-11), 2) := by decide +kernel
theorem dX11_judge_24 : decode cX11_judge 24 = .ok (.ireturn, 1) := by decide +kernel
theorem dX11_judge_25 : decode cX11_judge 25 = .ok (.iconst 0, 1) := by decide +kernel
theorem dX11_judge_26 : decode cX11_judge 26 = .ok (.istore_n 3, 1) := by decide +kernel
theorem dX11_judge_27 : decode cX11_judge 27 = .ok (.iload_n 3, 1) := by decide +kernel
theorem dX11_judge_28 : decode cX11_judge 28 = .ok (.iload_n 2, 1) := by decide +kernel
theorem dX11_judge_29 : decode cX11_judge 29 = .ok (.if_icmp .ge 56, 3) := by decide +kernel
theorem dX11_judge_32 : decode cX11_judge 32 = .ok (.aload_n 0, 1) := by decide +kernel
theorem dX11_judge_33 : decode cX11_judge 33 = .ok (.getfield 12, 3) := by decide +kernel
theorem dX11_judge_36 : decode cX11_judge 36 = .ok (.getfield 86, 3) := by decide +kernel
theorem dX11_judge_39 : decode cX11_judge 39 = .ok (.iload_n 3, 1) := by decide +kernel
theorem dX11_judge_40 : decode cX11_judge 40 = .ok (.invokevirtual 102, 3) := by decide +kernel
theorem dX11_judge_43 : decode cX11_judge 43 = .ok (.ifCond .eq 17, 3) := by decide +kernel
theorem dX11_judge_46 : decode cX11_judge 46 = .ok (.aload_n 0, 1) := by decide +kernel
theorem dX11_judge_47 : decode cX11_judge 47 = .ok (.getfield 12, 3) := by decide +kernel
theorem dX11_judge_50 : decode cX11_judge 50 = .ok (.getfield 86, 3) := by decide +kernel
theorem dX11_judge_53 : decode cX11_judge 53 = .ok (.iload_n 3, 1) := by decide +kernel
theorem dX11_judge_54 : decode cX11_judge 54 = .ok (.invokevirtual 105, 3) := by decide +kernel
theorem dX11_judge_57 : decode cX11_judge 57 = .ok (.goto 4, 3) := by decide +kernel
theorem dX11_judge_60 : decode cX11_judge 60 = .ok (.iconst (-1), 1) := by decide +kernel
theorem dX11_judge_61 : decode cX11_judge 61 = .ok (.istore 4, 2) := by decide +kernel
theorem dX11_judge_63 : decode cX11_judge 63 = .ok (.aload_n 0, 1) := by decide +kernel
theorem dX11_judge_64 : decode cX11_judge 64 = .ok (.getfield 64, 3) := by decide +kernel
theorem dX11_judge_67 : decode cX11_judge 67 = .ok (.iload_n 1, 1) := by decide +kernel
theorem dX11_judge_68 : decode cX11_judge 68 = .ok (.iload_n 3, 1) := by decide +kernel
theorem dX11_judge_69 : decode cX11_judge 69 = .ok (.invokevirtual 264, 3) := by decide +kernel
theorem dX11_judge_72 : decode cX11_judge 72 = .ok (.iload 4, 2) := by decide +kernel
theorem dX11_judge_74 : decode cX11_judge 74 = .ok (.if_icmp .eq 5, 3) := by decide +kernel
theorem dX11_judge_77 : decode cX11_judge 77 = .ok (.iload_n 3, 1) := by decide +kernel
theorem dX11_judge_78 : decode cX11_judge 78 = .ok (.ireturn, 1) := by decide +kernel
theorem dX11_judge_79 : decode cX11_judge 79 = .ok (.iinc 3 1, 3) := by decide +kernel
theorem dX11_judge_82 : decode cX11_judge 82 = .ok (.goto (-55), 3) := by decide +kernel
theorem dX11_judge_85 : decode cX11_judge 85 = .ok (.bipush (-5), 2) := by decide +kernel
theorem dX11_judge_87 : decode cX11_judge 87 = .ok (.ireturn, 1) := by decide +kernel
set_option maxRecDepth 20000 in
theorem ggX11_list_X5_isList : GoodIn wsX11_list wsX5_isList := goodIn_r _ [5] (by decide +kernel) (by decide +kernel)
set_option maxRecDepth 20000 in
theorem gX11_list_X5_isList : GoodIn wsX11_list (va_wsS RX11 259 yX5_isList wsX5_isList) := goodIn_app (goodIn_of _ (by decide +kernel)) ggX11_list_X5_isList
set_option maxRecDepth 20000 in
theorem ggX11_list_X5_become : GoodIn wsX11_list wsX5_become := goodIn_r _ [9, 10, 11, 12, 13, 14, 15, 16, 17, 4, 18, 19, 28, 29] (by decide +kernel) (by decide +kernel)
set_option maxRecDepth 20000 in
theorem gX11_list_X5_become : GoodIn wsX11_list (wsV RX11 267 RX5 yX5_become wsX5_become) := goodIn_app (goodIn_of _ (by decide +kernel)) ggX11_list_X5_become
theorem dX11_list_0 : decode cX11_list 0 = .ok (.iload_n 1, 1) := by decide +kernel
theorem dX11_list_1 : decode cX11_list 1 = .ok (.invokestatic 259, 3) := by decide +kernel
theorem dX11_list_4 : decode cX11_list 4 = .ok (.ifCond .ne 5, 3) := by decide +kernel
theorem dX11_list_7 : decode cX11_list 7 = .ok (.iconst (-1), 1) := by decide +kernel
theorem dX11_list_8 : decode cX11_list 8 = .ok (.ireturn, 1) := by decide +kernel
theorem dX11_list_9 : decode cX11_list 9 = .ok (.iload_n 2, 1) := by decide +kernel
theorem dX11_list_10 : decode cX11_list 10 = .ok (.bipush 12, 2) := by decide +kernel
theorem dX11_list_12 : decode cX11_list 12 = .ok (.if_icmp .le 6, 3) := by decide +kernel
theorem dX11_list_15 : decode cX11_list 15 = .ok (.bipush (-2), 2) := by decide +kernel
theorem dX11_list_17 : decode cX11_list 17 = .ok (.ireturn, 1) := by decide +kernel
theorem dX11_list_18 : decode cX11_list 18 = .ok (.iload_n 2, 1) := by decide +kernel
theorem dX11_list_19 : decode cX11_list 19 = .ok (.ifCond .ge 6, 3) := by decide +kernel
theorem dX11_list_22 : decode cX11_list 22 = .ok (.bipush (-14), 2) := by decide +kernel
theorem dX11_list_24 : decode cX11_list 24 = .ok (.ireturn, 1) := by decide +kernel
theorem dX11_list_25 : decode cX11_list 25 = .ok (.aload_n 0, 1) := by decide +kernel
theorem dX11_list_26 : decode cX11_list 26 = .ok (.getfield 64, 3) := by decide +kernel
theorem dX11_list_29 : decode cX11_list 29 = .ok (.iload_n 1, 1) := by decide +kernel
theorem dX11_list_30 : decode cX11_list 30 = .ok (.iload_n 2, 1) := by decide +kernel
theorem dX11_list_31 : decode cX11_list 31 = .ok (.invokevirtual 267, 3) := by decide +kernel
theorem dX11_list_34 : decode cX11_list 34 = .ok (.iconst 1, 1) := by decide +kernel
theorem dX11_list_35 : decode cX11_list 35 = .ok (.ireturn, 1) := by decide +kernel
set_option maxRecDepth 20000 in
theorem ggX11_put_X5_isList : GoodIn wsX11_put wsX5_isList := goodIn_r _ [5] (by decide +kernel) (by decide +kernel)
set_option maxRecDepth 20000 in
theorem gX11_put_X5_isList : GoodIn wsX11_put (va_wsS RX11 259 yX5_isList wsX5_isList) := goodIn_app (goodIn_of _ (by decide +kernel)) ggX11_put_X5_isList
set_option maxRecDepth 20000 in
theorem ggX11_put_X5_length : GoodIn wsX11_put wsX5_length := goodIn_r _ [9, 10, 11, 3, 4, 5, 12, 13, 14, 15, 32, 33] (by decide +kernel) (by decide +kernel)
set_option maxRecDepth 20000 in
theorem gX11_put_X5_length : GoodIn wsX11_put (wsV RX11 262 RX5 yX5_length wsX5_length) := goodIn_app (goodIn_of _ (by decide +kernel)) ggX11_put_X5_length
set_option maxRecDepth 20000 in
theorem ggX11_put_X5_set : GoodIn wsX11_put wsX5_set := goodIn_r _ [19, 20, 21, 22, 14, 23, 32, 33] (by decide +kernel) (by decide +kernel)
set_option maxRecDepth 20000 in
theorem gX11_put_X5_set : GoodIn wsX11_put (wsV RX11 269 RX5 yX5_set wsX5_set) := goodIn_app (goodIn_of _ (by decide +kernel)) ggX11_put_X5_set
theorem dX11_put_0 : decode cX11_put 0 = .ok (.iload_n 1, 1) := by decide +kernel
theorem dX11_put_1 : decode cX11_put 1 = .ok (.invokestatic 259, 3) := by decide +kernel
theorem dX11_put_4 : decode cX11_put 4 = .ok (.ifCond .ne 5, 3) := by decide +kernel
theorem dX11_put_7 : decode cX11_put 7 = .ok (.iconst (-1), 1) := by decide +kernel
theorem dX11_put_8 : decode cX11_put 8 = .ok (.ireturn, 1) := by decide +kernel
theorem dX11_put_9 : decode cX11_put 9 = .ok (.aload_n 0, 1) := by decide +kernel
theorem dX11_put_10 : decode cX11_put 10 = .ok (.getfield 64, 3) := by decide +kernel
theorem dX11_put_13 : decode cX11_put 13 = .ok (.iload_n 1, 1) := by decide +kernel
theorem dX11_put_14 : decode cX11_put 14 = .ok (.invokevirtual 262, 3) := by decide +kernel
theorem dX11_put_17 : decode cX11_put 17 = .ok (.istore 4, 2) := by decide +kernel
theorem dX11_put_19 : decode cX11_put 19 = .ok (.iload 4, 2) := by decide +kernel
theorem dX11_put_21 : decode cX11_put 21 = .ok (.ifCond .ge 6, 3) := by decide +kernel
theorem dX11_put_24 : decode cX11_put 24 = .ok (.bipush (-11), 2) := by decide +kernel
theorem dX11_put_26 : decode cX11_put 26 = .ok (.ireturn, 1) := by decide +kernel
theorem dX11_put_27 : decode cX11_put 27 = .ok (.iload_n 2, 1) := by decide +kernel
theorem dX11_put_28 : decode cX11_put 28 = .ok (.ifCond .lt 9, 3) := by decide +kernel
theorem dX11_put_31 : decode cX11_put 31 = .ok (.iload_n 2, 1) := by decide +kernel
theorem dX11_put_32 : decode cX11_put 32 = .ok (.iload 4, 2) := by decide +kernel
theorem dX11_put_34 : decode cX11_put 34 = .ok (.if_icmp .lt 6, 3) := by decide +kernel
theorem dX11_put_37 : decode cX11_put 37 = .ok (.bipush (-13), 2) := by decide +kernel
theorem dX11_put_39 : decode cX11_put 39 = .ok (.ireturn, 1) := by decide +kernel
theorem dX11_put_40 : decode cX11_put 40 = .ok (.aload_n 0, 1) := by decide +kernel
theorem dX11_put_41 : decode cX11_put 41 = .ok (.getfield 64, 3) := by decide +kernel
theorem dX11_put_44 : decode cX11_put 44 = .ok (.iload_n 1, 1) := by decide +kernel
theorem dX11_put_45 : decode cX11_put 45 = .ok (.iload_n 2, 1) := by decide +kernel
theorem dX11_put_46 : decode cX11_put 46 = .ok (.iload_n 3, 1) := by decide +kernel
theorem dX11_put_47 : decode cX11_put 47 = .ok (.invokevirtual 269, 3) := by decide +kernel
theorem dX11_put_50 : decode cX11_put 50 = .ok (.iconst 1, 1) := by decide +kernel
theorem dX11_put_51 : decode cX11_put 51 = .ok (.ireturn, 1) := by decide +kernel
set_option maxRecDepth 20000 in
theorem ggX11_get_X5_isList : GoodIn wsX11_get wsX5_isList := goodIn_r _ [6] (by decide +kernel) (by decide +kernel)
set_option maxRecDepth 20000 in
theorem gX11_get_X5_isList : GoodIn wsX11_get (va_wsS RX11 259 yX5_isList wsX5_isList) := goodIn_app (goodIn_of _ (by decide +kernel)) ggX11_get_X5_isList
set_option maxRecDepth 20000 in
theorem ggX11_get_X5_length : GoodIn wsX11_get wsX5_length := goodIn_r _ [10, 11, 12, 4, 5, 6, 13, 14, 15, 16, 30, 31] (by decide +kernel) (by decide +kernel)
set_option maxRecDepth 20000 in
theorem gX11_get_X5_length : GoodIn wsX11_get (wsV RX11 262 RX5 yX5_length wsX5_length) := goodIn_app (goodIn_of _ (by decide +kernel)) ggX11_get_X5_length
set_option maxRecDepth 20000 in
theorem ggX11_get_X5_at : GoodIn wsX11_get wsX5_at := goodIn_r _ [20, 21, 13, 14, 15, 16, 30, 31] (by decide +kernel) (by decide +kernel)
set_option maxRecDepth 20000 in
theorem gX11_get_X5_at : GoodIn wsX11_get (wsV RX11 264 RX5 yX5_at wsX5_at) := goodIn_app (goodIn_of _ (by decide +kernel)) ggX11_get_X5_at
theorem dX11_get_0 : decode cX11_get 0 = .ok (.iload_n 1, 1) := by decide +kernel
theorem dX11_get_1 : decode cX11_get 1 = .ok (.invokestatic 259, 3) := by decide +kernel
theorem dX11_get_4 : decode cX11_get 4 = .ok (.ifCond .eq 19, 3) := by decide +kernel
theorem dX11_get_7 : decode cX11_get 7 = .ok (.iload_n 2, 1) := by decide +kernel
theorem dX11_get_8 : decode cX11_get 8 = .ok (.ifCond .lt 15, 3) := by decide +kernel
theorem dX11_get_11 : decode cX11_get 11 = .ok (.iload_n 2, 1) := by decide +kernel
theorem dX11_get_12 : decode cX11_get 12 = .ok (.aload_n 0, 1) := by decide +kernel
theorem dX11_get_13 : decode cX11_get 13 = .ok (.getfield 64, 3) := by decide +kernel
theorem dX11_get_16 : decode cX11_get 16 = .ok (.iload_n 1, 1) := by decide +kernel
theorem dX11_get_17 : decode cX11_get 17 = .ok (.invokevirtual 262, 3) := by decide +kernel
theorem dX11_get_20 : decode cX11_get 20 = .ok (.if_icmp .lt 7, 3) := by decide +kernel
theorem dX11_get_23 : decode cX11_get 23 = .ok (.ldc2_w 214, 3) := by decide +kernel
theorem dX11_get_26 : decode cX11_get 26 = .ok (.lreturn, 1) := by decide +kernel
theorem dX11_get_27 : decode cX11_get 27 = .ok (.aload_n 0, 1) := by decide +kernel
theorem dX11_get_28 : decode cX11_get 28 = .ok (.getfield 64, 3) := by decide +kernel
theorem dX11_get_31 : decode cX11_get 31 = .ok (.iload_n 1, 1) := by decide +kernel
theorem dX11_get_32 : decode cX11_get 32 = .ok (.iload_n 2, 1) := by decide +kernel
theorem dX11_get_33 : decode cX11_get 33 = .ok (.invokevirtual 264, 3) := by decide +kernel
theorem dX11_get_36 : decode cX11_get 36 = .ok (.i2l, 1) := by decide +kernel
theorem dX11_get_37 : decode cX11_get 37 = .ok (.lreturn, 1) := by decide +kernel
set_option maxRecDepth 20000 in
theorem ggX11_image_X2_copyFrom : GoodIn wsX11_image wsX2_copyFrom := goodIn_r _ [8, 9, 10, 11, 12, 13, 14, 15, 16, 17, 18, 19, 20, 21, 22, 23, 24, 25, 26, 27, 28, 29, 30, 31, 32, 33, 34, 35, 36, 37, 38, 39, 40, 41, 42, 43, 44, 45, 46, 47, 48, 49, 50, 51, 52, 53, 54, 55, 56, 57, 58, 59, 60, 73, 74, 75, 76, 77, 78, 79, 80, 81, 82, 83, 84, 85, 86, 87, 88, 89, 90, 91, 92, 93, 94, 95] (by decide +kernel) (by decide +kernel)
set_option maxRecDepth 20000 in
theorem gX11_image_X2_copyFrom : GoodIn wsX11_image (wsV RX11 273 RX2 yX2_copyFrom wsX2_copyFrom) := goodIn_app (goodIn_of _ (by decide +kernel)) ggX11_image_X2_copyFrom
set_option maxRecDepth 20000 in
theorem ggX11_image_X1_total : GoodIn wsX11_image wsX1_total := goodIn_r _ [64, 31, 81, 82, 83, 84, 85, 86, 87] (by decide +kernel) (by decide +kernel)
set_option maxRecDepth 20000 in
theorem gX11_image_X1_total : GoodIn wsX11_image (wsV RX11 92 RX1 yX1_total wsX1_total) := goodIn_app (goodIn_of _ (by decide +kernel)) ggX11_image_X1_total
theorem dX11_image_0 : decode cX11_image 0 = .ok (.aload_n 0, 1) := by decide +kernel
theorem dX11_image_1 : decode cX11_image 1 = .ok (.getfield 18, 3) := by decide +kernel
theorem dX11_image_4 : decode cX11_image 4 = .ok (.aload_n 0, 1) := by decide +kernel
theorem dX11_image_5 : decode cX11_image 5 = .ok (.getfield 12, 3) := by decide +kernel
theorem dX11_image_8 : decode cX11_image 8 = .ok (.invokevirtual 273, 3) := by decide +kernel
theorem dX11_image_11 : decode cX11_image 11 = .ok (.aload_n 0, 1) := by decide +kernel
theorem dX11_image_12 : decode cX11_image 12 = .ok (.iconst 1, 1) := by decide +kernel
theorem dX11_image_13 : decode cX11_image 13 = .ok (.putfield 21, 3) := by decide +kernel
theorem dX11_image_16 : decode cX11_image 16 = .ok (.aload_n 0, 1) := by decide +kernel
theorem dX11_image_17 : decode cX11_image 17 = .ok (.getfield 12, 3) := by decide +kernel
theorem dX11_image_20 : decode cX11_image 20 = .ok (.getfield 86, 3) := by decide +kernel
theorem dX11_image_23 : decode cX11_image 23 = .ok (.invokevirtual 92, 3) := by decide +kernel
theorem dX11_image_26 : decode cX11_image 26 = .ok (.ireturn, 1) := by decide +kernel
set_option maxRecDepth 20000 in
theorem ggX11_undo_X2_copyFrom : GoodIn wsX11_undo wsX2_copyFrom := goodIn_r _ [8, 9, 10, 11, 12, 13, 14, 15, 16, 17, 18, 19, 20, 21, 22, 23, 24, 25, 26, 27, 28, 29, 30, 31, 32, 33, 34, 35, 36, 37, 38, 39, 40, 41, 42, 43, 44, 45, 46, 47, 48, 49, 50, 51, 52, 53, 54, 55, 56, 57, 58, 59, 60, 73, 74, 75, 76, 77, 78, 79, 80, 81, 82, 83, 84, 85, 86, 87, 88, 89, 90, 91, 92, 93, 94, 95] (by decide +kernel) (by decide +kernel)
set_option maxRecDepth 20000 in
theorem gX11_undo_X2_copyFrom : GoodIn wsX11_undo (wsV RX11 273 RX2 yX2_copyFrom wsX2_copyFrom) := goodIn_app (goodIn_of _ (by decide +kernel)) ggX11_undo_X2_copyFrom
set_option maxRecDepth 20000 in
theorem ggX11_undo_X1_total : GoodIn wsX11_undo wsX1_total := goodIn_r _ [64, 31, 81, 82, 83, 84, 85, 86, 87] (by decide +kernel) (by decide +kernel)
set_option maxRecDepth 20000 in
theorem gX11_undo_X1_total : GoodIn wsX11_undo (wsV RX11 92 RX1 yX1_total wsX1_total) := goodIn_app (goodIn_of _ (by decide +kernel)) ggX11_undo_X1_total
theorem dX11_undo_0 : decode cX11_undo 0 = .ok (.aload_n 0, 1) := by decide +kernel
theorem dX11_undo_1 : decode cX11_undo 1 = .ok (.getfield 21, 3) := by decide +kernel
theorem dX11_undo_4 : decode cX11_undo 4 = .ok (.ifCond .ne 6, 3) := by decide +kernel
theorem dX11_undo_7 : decode cX11_undo 7 = .ok (.bipush (-3), 2) := by decide +kernel
theorem dX11_undo_9 : decode cX11_undo 9 = .ok (.ireturn, 1) := by decide +kernel
theorem dX11_undo_10 : decode cX11_undo 10 = .ok (.aload_n 0, 1) := by decide +kernel
theorem dX11_undo_11 : decode cX11_undo 11 = .ok (.getfield 12, 3) := by decide +kernel
theorem dX11_undo_14 : decode cX11_undo 14 = .ok (.aload_n 0, 1) := by decide +kernel
theorem dX11_undo_15 : decode cX11_undo 15 = .ok (.getfield 18, 3) := by decide +kernel
theorem dX11_undo_18 : decode cX11_undo 18 = .ok (.invokevirtual 273, 3) := by decide +kernel
theorem dX11_undo_21 : decode cX11_undo 21 = .ok (.aload_n 0, 1) := by decide +kernel
theorem dX11_undo_22 : decode cX11_undo 22 = .ok (.getfield 12, 3) := by decide +kernel
theorem dX11_undo_25 : decode cX11_undo 25 = .ok (.getfield 86, 3) := by decide +kernel
theorem dX11_undo_28 : decode cX11_undo 28 = .ok (.invokevirtual 92, 3) := by decide +kernel
theorem dX11_undo_31 : decode cX11_undo 31 = .ok (.ireturn, 1) := by decide +kernel
set_option maxRecDepth 20000 in
theorem ggX11_count_X1_total : GoodIn wsX11_count wsX1_total := goodIn_r _ [8, 9, 56, 57, 58, 59, 60, 61, 62] (by decide +kernel) (by decide +kernel)
set_option maxRecDepth 20000 in
theorem gX11_count_X1_total : GoodIn wsX11_count (wsV RX11 92 RX1 yX1_total wsX1_total) := goodIn_app (goodIn_of _ (by decide +kernel)) ggX11_count_X1_total
set_option maxRecDepth 20000 in
theorem ggX11_count_X9_total : GoodIn wsX11_count wsX9_total := goodIn_r _ [14, 15, 63, 64, 65, 66] (by decide +kernel) (by decide +kernel)
set_option maxRecDepth 20000 in
theorem gX11_count_X9_total : GoodIn wsX11_count (wsV RX11 194 RX9 yX9_total wsX9_total) := goodIn_app (goodIn_of _ (by decide +kernel)) ggX11_count_X9_total
set_option maxRecDepth 20000 in
theorem ggX11_count_X10_total : GoodIn wsX11_count wsX10_total := goodIn_r _ [20, 21, 67, 68, 69, 70] (by decide +kernel) (by decide +kernel)
set_option maxRecDepth 20000 in
theorem gX11_count_X10_total : GoodIn wsX11_count (wsV RX11 245 RX10 yX10_total wsX10_total) := goodIn_app (goodIn_of _ (by decide +kernel)) ggX11_count_X10_total
set_option maxRecDepth 20000 in
theorem ggX11_count_X6_total : GoodIn wsX11_count wsX6_total := goodIn_r _ [26, 27, 71, 72] (by decide +kernel) (by decide +kernel)
set_option maxRecDepth 20000 in
theorem gX11_count_X6_total : GoodIn wsX11_count (wsV RX11 255 RX6 yX6_total wsX6_total) := goodIn_app (goodIn_of _ (by decide +kernel)) ggX11_count_X6_total
set_option maxRecDepth 20000 in
theorem ggX11_count_X7_total : GoodIn wsX11_count wsX7_total := goodIn_r _ [32, 33, 73, 74, 75, 76] (by decide +kernel) (by decide +kernel)
set_option maxRecDepth 20000 in
theorem gX11_count_X7_total : GoodIn wsX11_count (wsV RX11 236 RX7 yX7_total wsX7_total) := goodIn_app (goodIn_of _ (by decide +kernel)) ggX11_count_X7_total
set_option maxRecDepth 20000 in
theorem ggX11_count_X0_swaps : GoodIn wsX11_count wsX0_swaps := goodIn_r _ [38, 39, 52, 53, 54, 55] (by decide +kernel) (by decide +kernel)
set_option maxRecDepth 20000 in
theorem gX11_count_X0_swaps : GoodIn wsX11_count (wsV RX11 173 RX0 yX0_swaps wsX0_swaps) := goodIn_app (goodIn_of _ (by decide +kernel)) ggX11_count_X0_swaps
theorem dX11_count_0 : decode cX11_count 0 = .ok (.iload_n 1, 1) := by decide +kernel
theorem dX11_count_1 : decode cX11_count 1 = .ok (.tableswitch 144 0 8 #[51, 62, 73, 84, 95, 106, 114, 122, 133], 51) := by decide +kernel
theorem dX11_count_52 : decode cX11_count 52 = .ok (.aload_n 0, 1) := by decide +kernel
theorem dX11_count_53 : decode cX11_count 53 = .ok (.getfield 12, 3) := by decide +kernel
theorem dX11_count_56 : decode cX11_count 56 = .ok (.getfield 27, 3) := by decide +kernel
theorem dX11_count_59 : decode cX11_count 59 = .ok (.getfield 179, 3) := by decide +kernel
theorem dX11_count_62 : decode cX11_count 62 = .ok (.ireturn, 1) := by decide +kernel
theorem dX11_count_63 : decode cX11_count 63 = .ok (.aload_n 0, 1) := by decide +kernel
theorem dX11_count_64 : decode cX11_count 64 = .ok (.getfield 12, 3) := by decide +kernel
theorem dX11_count_67 : decode cX11_count 67 = .ok (.getfield 27, 3) := by decide +kernel
theorem dX11_count_70 : decode cX11_count 70 = .ok (.getfield 109, 3) := by decide +kernel
theorem dX11_count_73 : decode cX11_count 73 = .ok (.ireturn, 1) := by decide +kernel
theorem dX11_count_74 : decode cX11_count 74 = .ok (.aload_n 0, 1) := by decide +kernel
theorem dX11_count_75 : decode cX11_count 75 = .ok (.getfield 12, 3) := by decide +kernel
theorem dX11_count_78 : decode cX11_count 78 = .ok (.getfield 27, 3) := by decide +kernel
theorem dX11_count_81 : decode cX11_count 81 = .ok (.getfield 78, 3) := by decide +kernel
theorem dX11_count_84 : decode cX11_count 84 = .ok (.ireturn, 1) := by decide +kernel
theorem dX11_count_85 : decode cX11_count 85 = .ok (.aload_n 0, 1) := by decide +kernel
theorem dX11_count_86 : decode cX11_count 86 = .ok (.getfield 12, 3) := by decide +kernel
theorem dX11_count_89 : decode cX11_count 89 = .ok (.getfield 86, 3) := by decide +kernel
theorem dX11_count_92 : decode cX11_count 92 = .ok (.invokevirtual 92, 3) := by decide +kernel
theorem dX11_count_95 : decode cX11_count 95 = .ok (.ireturn, 1) := by decide +kernel
theorem dX11_count_96 : decode cX11_count 96 = .ok (.aload_n 0, 1) := by decide +kernel
theorem dX11_count_97 : decode cX11_count 97 = .ok (.getfield 12, 3) := by decide +kernel
theorem dX11_count_100 : decode cX11_count 100 = .ok (.getfield 182, 3) := by decide +kernel
theorem dX11_count_103 : decode cX11_count 103 = .ok (.invokevirtual 194, 3) := by decide +kernel
theorem dX11_count_106 : decode cX11_count 106 = .ok (.ireturn, 1) := by decide +kernel
theorem dX11_count_107 : decode cX11_count 107 = .ok (.aload_n 0, 1) := by decide +kernel
theorem dX11_count_108 : decode cX11_count 108 = .ok (.getfield 50, 3) := by decide +kernel
theorem dX11_count_111 : decode cX11_count 111 = .ok (.invokevirtual 245, 3) := by decide +kernel
theorem dX11_count_114 : decode cX11_count 114 = .ok (.ireturn, 1) := by decide +kernel
theorem dX11_count_115 : decode cX11_count 115 = .ok (.aload_n 0, 1) := by decide +kernel
theorem dX11_count_116 : decode cX11_count 116 = .ok (.getfield 57, 3) := by decide +kernel
theorem dX11_count_119 : decode cX11_count 119 = .ok (.invokevirtual 255, 3) := by decide +kernel
theorem dX11_count_122 : decode cX11_count 122 = .ok (.ireturn, 1) := by decide +kernel
theorem dX11_count_123 : decode cX11_count 123 = .ok (.aload_n 0, 1) := by decide +kernel
theorem dX11_count_124 : decode cX11_count 124 = .ok (.getfield 12, 3) := by decide +kernel
theorem dX11_count_127 : decode cX11_count 127 = .ok (.getfield 227, 3) := by decide +kernel
theorem dX11_count_130 : decode cX11_count 130 = .ok (.invokevirtual 236, 3) := by decide +kernel
theorem dX11_count_133 : decode cX11_count 133 = .ok (.ireturn, 1) := by decide +kernel
theorem dX11_count_134 : decode cX11_count 134 = .ok (.aload_n 0, 1) := by decide +kernel
theorem dX11_count_135 : decode cX11_count 135 = .ok (.getfield 12, 3) := by decide +kernel
theorem dX11_count_138 : decode cX11_count 138 = .ok (.getfield 27, 3) := by decide +kernel
theorem dX11_count_141 : decode cX11_count 141 = .ok (.invokevirtual 173, 3) := by decide +kernel
theorem dX11_count_144 : decode cX11_count 144 = .ok (.ireturn, 1) := by decide +kernel
theorem dX11_count_145 : decode cX11_count 145 = .ok (.bipush (-2), 2) := by decide +kernel
theorem dX11_count_147 : decode cX11_count 147 = .ok (.ireturn, 1) := by decide +kernel
theorem dX12_init_0 : decode cX12_init 0 = .ok (.aload_n 0, 1) := by decide +kernel
theorem dX12_init_1 : decode cX12_init 1 = .ok (.invokespecial 3, 3) := by decide +kernel
theorem dX12_init_4 : decode cX12_init 4 = .ok (.aload_n 0, 1) := by decide +kernel
theorem dX12_init_5 : decode cX12_init 5 = .ok (.iconst 2, 1) := by decide +kernel
theorem dX12_init_6 : decode cX12_init 6 = .ok (.putfield 9, 3) := by decide +kernel
theorem dX12_init_9 : decode cX12_init 9 = .ok (.aload_n 0, 1) := by decide +kernel
theorem dX12_init_10 : decode cX12_init 10 = .ok (.iconst 3, 1) := by decide +kernel
theorem dX12_init_11 : decode cX12_init 11 = .ok (.putfield 15, 3) := by decide +kernel
theorem dX12_init_14 : decode cX12_init 14 = .ok (.aload_n 0, 1) := by decide +kernel
theorem dX12_init_15 : decode cX12_init 15 = .ok (.sipush 256, 3) := by decide +kernel
theorem dX12_init_18 : decode cX12_init 18 = .ok (.newarray .boolean, 2) := by decide +kernel
theorem dX12_init_20 : decode cX12_init 20 = .ok (.putfield 18, 3) := by decide +kernel
theorem dX12_init_23 : decode cX12_init 23 = .ok (.aload_n 0, 1) := by decide +kernel
theorem dX12_init_24 : decode cX12_init 24 = .ok (.sipush 256, 3) := by decide +kernel
theorem dX12_init_27 : decode cX12_init 27 = .ok (.newarray .boolean, 2) := by decide +kernel
theorem dX12_init_29 : decode cX12_init 29 = .ok (.putfield 22, 3) := by decide +kernel
theorem dX12_init_32 : decode cX12_init 32 = .ok (.aload_n 0, 1) := by decide +kernel
theorem dX12_init_33 : decode cX12_init 33 = .ok (.sipush 256, 3) := by decide +kernel
theorem dX12_init_36 : decode cX12_init 36 = .ok (.newarray .boolean, 2) := by decide +kernel
theorem dX12_init_38 : decode cX12_init 38 = .ok (.putfield 25, 3) := by decide +kernel
theorem dX12_init_41 : decode cX12_init 41 = .ok (.aload_n 0, 1) := by decide +kernel
theorem dX12_init_42 : decode cX12_init 42 = .ok (.bipush 40, 2) := by decide +kernel
theorem dX12_init_44 : decode cX12_init 44 = .ok (.newarray .int, 2) := by decide +kernel
theorem dX12_init_46 : decode cX12_init 46 = .ok (.putfield 28, 3) := by decide +kernel
theorem dX12_init_49 : decode cX12_init 49 = .ok (.aload_n 0, 1) := by decide +kernel
theorem dX12_init_50 : decode cX12_init 50 = .ok (.bipush 40, 2) := by decide +kernel
theorem dX12_init_52 : decode cX12_init 52 = .ok (.newarray .int, 2) := by decide +kernel
theorem dX12_init_54 : decode cX12_init 54 = .ok (.putfield 32, 3) := by decide +kernel
theorem dX12_init_57 : decode cX12_init 57 = .ok (.aload_n 0, 1) := by decide +kernel
theorem dX12_init_58 : decode cX12_init 58 = .ok (.bipush 16, 2) := by decide +kernel
theorem dX12_init_60 : decode cX12_init 60 = .ok (.newarray .int, 2) := by decide +kernel
theorem dX12_init_62 : decode cX12_init 62 = .ok (.putfield 35, 3) := by decide +kernel
theorem dX12_init_65 : decode cX12_init 65 = .ok (.aload_n 0, 1) := by decide +kernel
theorem dX12_init_66 : decode cX12_init 66 = .ok (.bipush 16, 2) := by decide +kernel
theorem dX12_init_68 : decode cX12_init 68 = .ok (.newarray .int, 2) := by decide +kernel
theorem dX12_init_70 : decode cX12_init 70 = .ok (.putfield 38, 3) := by decide +kernel
theorem dX12_init_73 : decode cX12_init 73 = .ok (.aload_n 0, 1) := by decide +kernel
theorem dX12_init_74 : decode cX12_init 74 = .ok (.iconst 4, 1) := by decide +kernel
theorem dX12_init_75 : decode cX12_init 75 = .ok (.newarray .int, 2) := by decide +kernel
theorem dX12_init_77 : decode cX12_init 77 = .ok (.putfield 41, 3) := by decide +kernel
theorem dX12_init_80 : decode cX12_init 80 = .ok (.aload_n 0, 1) := by decide +kernel
theorem dX12_init_81 : decode cX12_init 81 = .ok (.sipush 256, 3) := by decide +kernel
theorem dX12_init_84 : decode cX12_init 84 = .ok (.newarray .boolean, 2) := by decide +kernel
theorem dX12_init_86 : decode cX12_init 86 = .ok (.putfield 44, 3) := by decide +kernel
theorem dX12_init_89 : decode cX12_init 89 = .ok (.aload_n 0, 1) := by decide +kernel
theorem dX12_init_90 : decode cX12_init 90 = .ok (.bipush 32, 2) := by decide +kernel
theorem dX12_init_92 : decode cX12_init 92 = .ok (.newarray .int, 2) := by decide +kernel
theorem dX12_init_94 : decode cX12_init 94 = .ok (.putfield 47, 3) := by decide +kernel
theorem dX12_init_97 : decode cX12_init 97 = .ok (.aload_n 0, 1) := by decide +kernel
theorem dX12_init_98 : decode cX12_init 98 = .ok (.bipush 32, 2) := by decide +kernel
theorem dX12_init_100 : decode cX12_init 100 = .ok (.newarray .int, 2) := by decide +kernel
theorem dX12_init_102 : decode cX12_init 102 = .ok (.putfield 50, 3) := by decide +kernel
theorem dX12_init_105 : decode cX12_init 105 = .ok (.aload_n 0, 1) := by decide +kernel
theorem dX12_init_106 : decode cX12_init 106 = .ok (.iconst 5, 1) := by decide +kernel
theorem dX12_init_107 : decode cX12_init 107 = .ok (.newarray .int, 2) := by decide +kernel
theorem dX12_init_109 : decode cX12_init 109 = .ok (.putfield 53, 3) := by decide +kernel
theorem dX12_init_112 : decode cX12_init 112 = .ok (.aload_n 0, 1) := by decide +kernel
theorem dX12_init_113 : decode cX12_init 113 = .ok (.sipush 256, 3) := by decide +kernel
theorem dX12_init_116 : decode cX12_init 116 = .ok (.newarray .boolean, 2) := by decide +kernel
theorem dX12_init_118 : decode cX12_init 118 = .ok (.putfield 56, 3) := by decide +kernel
theorem dX12_init_121 : decode cX12_init 121 = .ok (.aload_n 0, 1) := by decide +kernel
theorem dX12_init_122 : decode cX12_init 122 = .ok (.sipush 256, 3) := by decide +kernel
theorem dX12_init_125 : decode cX12_init 125 = .ok (.newarray .boolean, 2) := by decide +kernel
theorem dX12_init_127 : decode cX12_init 127 = .ok (.putfield 59, 3) := by decide +kernel
theorem dX12_init_130 : decode cX12_init 130 = .ok (.aload_n 0, 1) := by decide +kernel
theorem dX12_init_131 : decode cX12_init 131 = .ok (.bipush 60, 2) := by decide +kernel
theorem dX12_init_133 : decode cX12_init 133 = .ok (.newarray .int, 2) := by decide +kernel
theorem dX12_init_135 : decode cX12_init 135 = .ok (.putfield 62, 3) := by decide +kernel
theorem dX12_init_138 : decode cX12_init 138 = .ok (.aload_n 0, 1) := by decide +kernel
theorem dX12_init_139 : decode cX12_init 139 = .ok (.sipush 1600, 3) := by decide +kernel
theorem dX12_init_142 : decode cX12_init 142 = .ok (.newarray .int, 2) := by decide +kernel
theorem dX12_init_144 : decode cX12_init 144 = .ok (.putfield 65, 3) := by decide +kernel
theorem dX12_init_147 : decode cX12_init 147 = .ok (.aload_n 0, 1) := by decide +kernel
theorem dX12_init_148 : decode cX12_init 148 = .ok (.iconst 3, 1) := by decide +kernel
theorem dX12_init_149 : decode cX12_init 149 = .ok (.newarray .int, 2) := by decide +kernel
theorem dX12_init_151 : decode cX12_init 151 = .ok (.putfield 68, 3) := by decide +kernel
theorem dX12_init_154 : decode cX12_init 154 = .ok (.aload_n 0, 1) := by decide +kernel
theorem dX12_init_155 : decode cX12_init 155 = .ok (.iconst 4, 1) := by decide +kernel
theorem dX12_init_156 : decode cX12_init 156 = .ok (.newarray .int, 2) := by decide +kernel
theorem dX12_init_158 : decode cX12_init 158 = .ok (.putfield 71, 3) := by decide +kernel
theorem dX12_init_161 : decode cX12_init 161 = .ok (.aload_n 0, 1) := by decide +kernel
theorem dX12_init_162 : decode cX12_init 162 = .ok (.bipush 48, 2) := by decide +kernel
theorem dX12_init_164 : decode cX12_init 164 = .ok (.newarray .int, 2) := by decide +kernel
theorem dX12_init_166 : decode cX12_init 166 = .ok (.putfield 74, 3) := by decide +kernel
theorem dX12_init_169 : decode cX12_init 169 = .ok (.iconst 0, 1) := by decide +kernel
theorem dX12_init_170 : decode cX12_init 170 = .ok (.istore_n 1, 1) := by decide +kernel
theorem dX12_init_171 : decode cX12_init 171 = .ok (.iload_n 1, 1) := by decide +kernel
theorem dX12_init_172 : decode cX12_init 172 = .ok (.iconst 4, 1) := by decide +kernel
theorem dX12_init_173 : decode cX12_init 173 = .ok (.if_icmp .ge 16, 3) := by decide +kernel
theorem dX12_init_176 : decode cX12_init 176 = .ok (.aload_n 0, 1) := by decide +kernel
theorem dX12_init_177 : decode cX12_init 177 = .ok (.getfield 71, 3) := by decide +kernel
theorem dX12_init_180 : decode cX12_init 180 = .ok (.iload_n 1, 1) := by decide +kernel
theorem dX12_init_181 : decode cX12_init 181 = .ok (.iconst (-1), 1) := by decide +kernel
theorem dX12_init_182 : decode cX12_init 182 = .ok (.iastore, 1) := by decide +kernel
theorem dX12_init_183 : decode cX12_init 183 = .ok (.iinc 1 1, 3) := by decide +kernel
theorem dX12_init_186 : decode cX12_init 186 = .ok (.goto (-15), 3) := by decide +kernel
theorem dX12_init_189 : decode cX12_init 189 = .ok (.return_, 1) := by decide +kernel
theorem dX12_isIn_0 : decode cX12_isIn 0 = .ok (.lload_n 0, 1) := by decide +kernel
theorem dX12_isIn_1 : decode cX12_isIn 1 = .ok (.lload_n 2, 1) := by decide +kernel
theorem dX12_isIn_2 : decode cX12_isIn 2 = .ok (.lcmp, 1) := by decide +kernel
theorem dX12_isIn_3 : decode cX12_isIn 3 = .ok (.ifCond .lt 14, 3) := by decide +kernel
theorem dX12_isIn_6 : decode cX12_isIn 6 = .ok (.lload_n 0, 1) := by decide +kernel
theorem dX12_isIn_7 : decode cX12_isIn 7 = .ok (.lload 4, 2) := by decide +kernel
theorem dX12_isIn_9 : decode cX12_isIn 9 = .ok (.lcmp, 1) := by decide +kernel
theorem dX12_isIn_10 : decode cX12_isIn 10 = .ok (.ifCond .gt 7, 3) := by decide +kernel
theorem dX12_isIn_13 : decode cX12_isIn 13 = .ok (.iconst 1, 1) := by decide +kernel
theorem dX12_isIn_14 : decode cX12_isIn 14 = .ok (.goto 4, 3) := by decide +kernel
theorem dX12_isIn_17 : decode cX12_isIn 17 = .ok (.iconst 0, 1) := by decide +kernel
theorem dX12_isIn_18 : decode cX12_isIn 18 = .ok (.ireturn, 1) := by decide +kernel
theorem dX12_power_0 : decode cX12_power 0 = .ok (.iconst 1, 1) := by decide +kernel
theorem dX12_power_1 : decode cX12_power 1 = .ok (.istore_n 2, 1) := by decide +kernel
theorem dX12_power_2 : decode cX12_power 2 = .ok (.iconst 0, 1) := by decide +kernel
theorem dX12_power_3 : decode cX12_power 3 = .ok (.istore_n 3, 1) := by decide +kernel
theorem dX12_power_4 : decode cX12_power 4 = .ok (.iload_n 3, 1) := by decide +kernel
theorem dX12_power_5 : decode cX12_power 5 = .ok (.iload_n 1, 1) := by decide +kernel
theorem dX12_power_6 : decode cX12_power 6 = .ok (.if_icmp .ge 13, 3) := by decide +kernel
theorem dX12_power_9 : decode cX12_power 9 = .ok (.iload_n 2, 1) := by decide +kernel
theorem dX12_power_10 : decode cX12_power 10 = .ok (.iload_n 0, 1) := by decide +kernel
theorem dX12_power_11 : decode cX12_power 11 = .ok (.imul, 1) := by decide +kernel
theorem dX12_power_12 : decode cX12_power 12 = .ok (.istore_n 2, 1) := by decide +kernel
theorem dX12_power_13 : decode cX12_power 13 = .ok (.iinc 3 1, 3) := by decide +kernel
theorem dX12_power_16 : decode cX12_power 16 = .ok (.goto (-12), 3) := by decide +kernel
theorem dX12_power_19 : decode cX12_power 19 = .ok (.iload_n 2, 1) := by decide +kernel
theorem dX12_power_20 : decode cX12_power 20 = .ok (.ireturn, 1) := by decide +kernel
