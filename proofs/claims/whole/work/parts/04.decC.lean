set_option maxRecDepth 20000 in
theorem ggX12_words_X12_power : GoodIn wsX12_words wsX12_power := goodIn_r _ [6] (by decide +kernel) (by decide +kernel)
set_option maxRecDepth 20000 in
theorem gX12_words_X12_power : GoodIn wsX12_words (va_wsS RX12 77 yX12_power wsX12_power) := goodIn_app (goodIn_of _ (by decide +kernel)) ggX12_words_X12_power
theorem dX12_words_0 : decode cX12_words 0 = .ok (.aload_n 0, 1) := by decide +kernel
theorem dX12_words_1 : decode cX12_words 1 = .ok (.getfield 9, 3) := by decide +kernel
theorem dX12_words_4 : decode cX12_words 4 = .ok (.aload_n 0, 1) := by decide +kernel
theorem dX12_words_5 : decode cX12_words 5 = .ok (.getfield 15, 3) := by decide +kernel
theorem dX12_words_8 : decode cX12_words 8 = .ok (.invokestatic 77, 3) := by decide +kernel
theorem dX12_words_11 : decode cX12_words 11 = .ok (.ireturn, 1) := by decide +kernel
set_option maxRecDepth 20000 in
theorem ggX12_isWord_X12_words : GoodIn wsX12_isWord wsX12_words := goodIn_r _ [5, 6, 7, 8, 9, 4, 10, 14, 15, 16, 17, 18, 19, 20, 21, 22, 23, 24, 25, 26, 27, 28, 29, 30, 31, 32, 33, 34, 35, 36, 37, 38, 39, 40, 41, 42, 43, 44, 45, 46, 47, 48, 49, 50, 51, 52, 53, 54] (by decide +kernel) (by decide +kernel)
set_option maxRecDepth 20000 in
theorem gX12_isWord_X12_words : GoodIn wsX12_isWord (wsV RX12 81 RX12 yX12_words wsX12_words) := goodIn_app (goodIn_of _ (by decide +kernel)) ggX12_isWord_X12_words
set_option maxRecDepth 20000 in
theorem ggX12_isWord_X12_isIn : GoodIn wsX12_isWord wsX12_isIn := goodIn_r _ [13] (by decide +kernel) (by decide +kernel)
set_option maxRecDepth 20000 in
theorem gX12_isWord_X12_isIn : GoodIn wsX12_isWord (va_wsS RX12 85 yX12_isIn wsX12_isIn) := goodIn_app (goodIn_of _ (by decide +kernel)) ggX12_isWord_X12_isIn
theorem dX12_isWord_0 : decode cX12_isWord 0 = .ok (.iload_n 1, 1) := by decide +kernel
theorem dX12_isWord_1 : decode cX12_isWord 1 = .ok (.i2l, 1) := by decide +kernel
theorem dX12_isWord_2 : decode cX12_isWord 2 = .ok (.lconst 0, 1) := by decide +kernel
theorem dX12_isWord_3 : decode cX12_isWord 3 = .ok (.aload_n 0, 1) := by decide +kernel
theorem dX12_isWord_4 : decode cX12_isWord 4 = .ok (.invokevirtual 81, 3) := by decide +kernel
theorem dX12_isWord_7 : decode cX12_isWord 7 = .ok (.iconst 1, 1) := by decide +kernel
theorem dX12_isWord_8 : decode cX12_isWord 8 = .ok (.isub, 1) := by decide +kernel
theorem dX12_isWord_9 : decode cX12_isWord 9 = .ok (.i2l, 1) := by decide +kernel
theorem dX12_isWord_10 : decode cX12_isWord 10 = .ok (.invokestatic 85, 3) := by decide +kernel
theorem dX12_isWord_13 : decode cX12_isWord 13 = .ok (.ireturn, 1) := by decide +kernel
set_option maxRecDepth 20000 in
theorem ggX12_letterOf_X12_power : GoodIn wsX12_letterOf wsX12_power := goodIn_r _ [6] (by decide +kernel) (by decide +kernel)
set_option maxRecDepth 20000 in
theorem gX12_letterOf_X12_power : GoodIn wsX12_letterOf (va_wsS RX12 77 yX12_power wsX12_power) := goodIn_app (goodIn_of _ (by decide +kernel)) ggX12_letterOf_X12_power
theorem dX12_letterOf_0 : decode cX12_letterOf 0 = .ok (.iload_n 1, 1) := by decide +kernel
theorem dX12_letterOf_1 : decode cX12_letterOf 1 = .ok (.aload_n 0, 1) := by decide +kernel
theorem dX12_letterOf_2 : decode cX12_letterOf 2 = .ok (.getfield 9, 3) := by decide +kernel
theorem dX12_letterOf_5 : decode cX12_letterOf 5 = .ok (.aload_n 0, 1) := by decide +kernel
theorem dX12_letterOf_6 : decode cX12_letterOf 6 = .ok (.getfield 15, 3) := by decide +kernel
theorem dX12_letterOf_9 : decode cX12_letterOf 9 = .ok (.iconst 1, 1) := by decide +kernel
theorem dX12_letterOf_10 : decode cX12_letterOf 10 = .ok (.isub, 1) := by decide +kernel
theorem dX12_letterOf_11 : decode cX12_letterOf 11 = .ok (.iload_n 2, 1) := by decide +kernel
theorem dX12_letterOf_12 : decode cX12_letterOf 12 = .ok (.isub, 1) := by decide +kernel
theorem dX12_letterOf_13 : decode cX12_letterOf 13 = .ok (.invokestatic 77, 3) := by decide +kernel
theorem dX12_letterOf_16 : decode cX12_letterOf 16 = .ok (.idiv, 1) := by decide +kernel
theorem dX12_letterOf_17 : decode cX12_letterOf 17 = .ok (.aload_n 0, 1) := by decide +kernel
theorem dX12_letterOf_18 : decode cX12_letterOf 18 = .ok (.getfield 9, 3) := by decide +kernel
theorem dX12_letterOf_21 : decode cX12_letterOf 21 = .ok (.irem, 1) := by decide +kernel
theorem dX12_letterOf_22 : decode cX12_letterOf 22 = .ok (.ireturn, 1) := by decide +kernel
theorem dX12_many_0 : decode cX12_many 0 = .ok (.iconst 0, 1) := by decide +kernel
theorem dX12_many_1 : decode cX12_many 1 = .ok (.istore_n 1, 1) := by decide +kernel
theorem dX12_many_2 : decode cX12_many 2 = .ok (.iconst 0, 1) := by decide +kernel
theorem dX12_many_3 : decode cX12_many 3 = .ok (.istore_n 2, 1) := by decide +kernel
theorem dX12_many_4 : decode cX12_many 4 = .ok (.iload_n 2, 1) := by decide +kernel
theorem dX12_many_5 : decode cX12_many 5 = .ok (.sipush 256, 3) := by decide +kernel
theorem dX12_many_8 : decode cX12_many 8 = .ok (.if_icmp .ge 26, 3) := by decide +kernel
theorem dX12_many_11 : decode cX12_many 11 = .ok (.iload_n 1, 1) := by decide +kernel
theorem dX12_many_12 : decode cX12_many 12 = .ok (.aload_n 0, 1) := by decide +kernel
theorem dX12_many_13 : decode cX12_many 13 = .ok (.getfield 18, 3) := by decide +kernel
theorem dX12_many_16 : decode cX12_many 16 = .ok (.iload_n 2, 1) := by decide +kernel
theorem dX12_many_17 : decode cX12_many 17 = .ok (.baload, 1) := by decide +kernel
theorem dX12_many_18 : decode cX12_many 18 = .ok (.ifCond .eq 7, 3) := by decide +kernel
theorem dX12_many_21 : decode cX12_many 21 = .ok (.iconst 1, 1) := by decide +kernel
theorem dX12_many_22 : decode cX12_many 22 = .ok (.goto 4, 3) := by decide +kernel
theorem dX12_many_25 : decode cX12_many 25 = .ok (.iconst 0, 1) := by decide +kernel
theorem dX12_many_26 : decode cX12_many 26 = .ok (.iadd, 1) := by decide +kernel
theorem dX12_many_27 : decode cX12_many 27 = .ok (.istore_n 1, 1) := by decide +kernel
theorem dX12_many_28 : decode cX12_many 28 = .ok (.iinc 2 1, 3) := by decide +kernel
theorem dX12_many_31 : decode cX12_many 31 = .ok (.goto (-27), 3) := by decide +kernel
theorem dX12_many_34 : decode cX12_many 34 = .ok (.iload_n 1, 1) := by decide +kernel
theorem dX12_many_35 : decode cX12_many 35 = .ok (.ireturn, 1) := by decide +kernel
set_option maxRecDepth 20000 in
theorem ggX12_size_X12_isIn : GoodIn wsX12_size wsX12_isIn := goodIn_r _ [12] (by decide +kernel) (by decide +kernel)
set_option maxRecDepth 20000 in
theorem gX12_size_X12_isIn : GoodIn wsX12_size (va_wsS RX12 85 yX12_isIn wsX12_isIn) := goodIn_app (goodIn_of _ (by decide +kernel)) ggX12_size_X12_isIn
set_option maxRecDepth 20000 in
theorem ggX12_size_X12_power : GoodIn wsX12_size wsX12_power := goodIn_r _ [15] (by decide +kernel) (by decide +kernel)
set_option maxRecDepth 20000 in
theorem gX12_size_X12_power : GoodIn wsX12_size (va_wsS RX12 77 yX12_power wsX12_power) := goodIn_app (goodIn_of _ (by decide +kernel)) ggX12_size_X12_power
set_option maxRecDepth 20000 in
theorem ggX12_size_X12_words : GoodIn wsX12_size wsX12_words := goodIn_r _ [19, 4, 5, 13, 14, 11, 15, 20, 21, 22, 23, 24, 25, 26, 27, 28, 29, 30, 31, 32, 33, 34, 35, 36, 37, 38, 39, 40, 41, 42, 43, 44, 45, 46, 47, 48, 49, 50, 51, 52, 53, 54, 55, 56, 57, 58, 59, 60] (by decide +kernel) (by decide +kernel)
set_option maxRecDepth 20000 in
theorem gX12_size_X12_words : GoodIn wsX12_size (wsV RX12 81 RX12 yX12_words wsX12_words) := goodIn_app (goodIn_of _ (by decide +kernel)) ggX12_size_X12_words
theorem dX12_size_0 : decode cX12_size 0 = .ok (.iload_n 1, 1) := by decide +kernel
theorem dX12_size_1 : decode cX12_size 1 = .ok (.i2l, 1) := by decide +kernel
theorem dX12_size_2 : decode cX12_size 2 = .ok (.ldc2_w 89, 3) := by decide +kernel
theorem dX12_size_5 : decode cX12_size 5 = .ok (.ldc2_w 91, 3) := by decide +kernel
theorem dX12_size_8 : decode cX12_size 8 = .ok (.invokestatic 85, 3) := by decide +kernel
theorem dX12_size_11 : decode cX12_size 11 = .ok (.ifCond .eq 26, 3) := by decide +kernel
theorem dX12_size_14 : decode cX12_size 14 = .ok (.iload_n 2, 1) := by decide +kernel
theorem dX12_size_15 : decode cX12_size 15 = .ok (.i2l, 1) := by decide +kernel
theorem dX12_size_16 : decode cX12_size 16 = .ok (.lconst 1, 1) := by decide +kernel
theorem dX12_size_17 : decode cX12_size 17 = .ok (.ldc2_w 93, 3) := by decide +kernel
theorem dX12_size_20 : decode cX12_size 20 = .ok (.invokestatic 85, 3) := by decide +kernel
theorem dX12_size_23 : decode cX12_size 23 = .ok (.ifCond .eq 14, 3) := by decide +kernel
theorem dX12_size_26 : decode cX12_size 26 = .ok (.iload_n 1, 1) := by decide +kernel
theorem dX12_size_27 : decode cX12_size 27 = .ok (.iload_n 2, 1) := by decide +kernel
theorem dX12_size_28 : decode cX12_size 28 = .ok (.invokestatic 77, 3) := by decide +kernel
theorem dX12_size_31 : decode cX12_size 31 = .ok (.sipush 256, 3) := by decide +kernel
theorem dX12_size_34 : decode cX12_size 34 = .ok (.if_icmp .le 6, 3) := by decide +kernel
theorem dX12_size_37 : decode cX12_size 37 = .ok (.bipush (-2), 2) := by decide +kernel
theorem dX12_size_39 : decode cX12_size 39 = .ok (.ireturn, 1) := by decide +kernel
theorem dX12_size_40 : decode cX12_size 40 = .ok (.aload_n 0, 1) := by decide +kernel
theorem dX12_size_41 : decode cX12_size 41 = .ok (.iload_n 1, 1) := by decide +kernel
theorem dX12_size_42 : decode cX12_size 42 = .ok (.putfield 9, 3) := by decide +kernel
theorem dX12_size_45 : decode cX12_size 45 = .ok (.aload_n 0, 1) := by decide +kernel
theorem dX12_size_46 : decode cX12_size 46 = .ok (.iload_n 2, 1) := by decide +kernel
theorem dX12_size_47 : decode cX12_size 47 = .ok (.putfield 15, 3) := by decide +kernel
theorem dX12_size_50 : decode cX12_size 50 = .ok (.iconst 0, 1) := by decide +kernel
theorem dX12_size_51 : decode cX12_size 51 = .ok (.istore_n 3, 1) := by decide +kernel
theorem dX12_size_52 : decode cX12_size 52 = .ok (.iload_n 3, 1) := by decide +kernel
theorem dX12_size_53 : decode cX12_size 53 = .ok (.sipush 256, 3) := by decide +kernel
theorem dX12_size_56 : decode cX12_size 56 = .ok (.if_icmp .ge 16, 3) := by decide +kernel
theorem dX12_size_59 : decode cX12_size 59 = .ok (.aload_n 0, 1) := by decide +kernel
theorem dX12_size_60 : decode cX12_size 60 = .ok (.getfield 18, 3) := by decide +kernel
theorem dX12_size_63 : decode cX12_size 63 = .ok (.iload_n 3, 1) := by decide +kernel
theorem dX12_size_64 : decode cX12_size 64 = .ok (.iconst 0, 1) := by decide +kernel
theorem dX12_size_65 : decode cX12_size 65 = .ok (.bastore, 1) := by decide +kernel
theorem dX12_size_66 : decode cX12_size 66 = .ok (.iinc 3 1, 3) := by decide +kernel
theorem dX12_size_69 : decode cX12_size 69 = .ok (.goto (-17), 3) := by decide +kernel
theorem dX12_size_72 : decode cX12_size 72 = .ok (.aload_n 0, 1) := by decide +kernel
theorem dX12_size_73 : decode cX12_size 73 = .ok (.iconst 0, 1) := by decide +kernel
theorem dX12_size_74 : decode cX12_size 74 = .ok (.putfield 95, 3) := by decide +kernel
theorem dX12_size_77 : decode cX12_size 77 = .ok (.aload_n 0, 1) := by decide +kernel
theorem dX12_size_78 : decode cX12_size 78 = .ok (.iconst 0, 1) := by decide +kernel
theorem dX12_size_79 : decode cX12_size 79 = .ok (.putfield 98, 3) := by decide +kernel
theorem dX12_size_82 : decode cX12_size 82 = .ok (.aload_n 0, 1) := by decide +kernel
theorem dX12_size_83 : decode cX12_size 83 = .ok (.invokevirtual 81, 3) := by decide +kernel
theorem dX12_size_86 : decode cX12_size 86 = .ok (.ireturn, 1) := by decide +kernel
set_option maxRecDepth 20000 in
theorem ggX12_add_X12_isWord : GoodIn wsX12_add wsX12_isWord := goodIn_r _ [6, 7, 8, 9, 5, 10, 11, 12, 13, 14, 15, 16, 17, 18, 23, 24, 25, 26, 27, 28, 29, 30, 31, 32, 33, 34, 35, 36, 37, 38, 39, 40, 41, 42, 43, 44, 45, 46, 47, 48, 49, 50, 51, 52, 53, 54, 55, 56, 57, 58, 59, 60, 61, 62, 63] (by decide +kernel) (by decide +kernel)
set_option maxRecDepth 20000 in
theorem gX12_add_X12_isWord : GoodIn wsX12_add (wsV RX12 101 RX12 yX12_isWord wsX12_isWord) := goodIn_app (goodIn_of _ (by decide +kernel)) ggX12_add_X12_isWord
set_option maxRecDepth 20000 in
theorem ggX12_add_X12_many : GoodIn wsX12_add wsX12_many := goodIn_r _ [22, 1, 23, 24, 25, 26, 27, 28, 29, 30, 31, 32, 33, 34, 35, 36, 37, 38, 39, 40, 41, 42, 43, 44, 45, 46, 47, 48, 49, 50, 51, 52, 53, 54, 55, 56, 57, 58, 59, 60, 61, 62, 63] (by decide +kernel) (by decide +kernel)
set_option maxRecDepth 20000 in
theorem gX12_add_X12_many : GoodIn wsX12_add (wsV RX12 105 RX12 yX12_many wsX12_many) := goodIn_app (goodIn_of _ (by decide +kernel)) ggX12_add_X12_many
theorem dX12_add_0 : decode cX12_add 0 = .ok (.aload_n 0, 1) := by decide +kernel
theorem dX12_add_1 : decode cX12_add 1 = .ok (.iload_n 1, 1) := by decide +kernel
theorem dX12_add_2 : decode cX12_add 2 = .ok (.invokevirtual 101, 3) := by decide +kernel
theorem dX12_add_5 : decode cX12_add 5 = .ok (.ifCond .ne 5, 3) := by decide +kernel
theorem dX12_add_8 : decode cX12_add 8 = .ok (.iconst (-1), 1) := by decide +kernel
theorem dX12_add_9 : decode cX12_add 9 = .ok (.ireturn, 1) := by decide +kernel
theorem dX12_add_10 : decode cX12_add 10 = .ok (.aload_n 0, 1) := by decide +kernel
theorem dX12_add_11 : decode cX12_add 11 = .ok (.getfield 18, 3) := by decide +kernel
theorem dX12_add_14 : decode cX12_add 14 = .ok (.iload_n 1, 1) := by decide +kernel
theorem dX12_add_15 : decode cX12_add 15 = .ok (.baload, 1) := by decide +kernel
theorem dX12_add_16 : decode cX12_add 16 = .ok (.ifCond .eq 6, 3) := by decide +kernel
theorem dX12_add_19 : decode cX12_add 19 = .ok (.bipush (-3), 2) := by decide +kernel
theorem dX12_add_21 : decode cX12_add 21 = .ok (.ireturn, 1) := by decide +kernel
theorem dX12_add_22 : decode cX12_add 22 = .ok (.aload_n 0, 1) := by decide +kernel
theorem dX12_add_23 : decode cX12_add 23 = .ok (.getfield 18, 3) := by decide +kernel
theorem dX12_add_26 : decode cX12_add 26 = .ok (.iload_n 1, 1) := by decide +kernel
theorem dX12_add_27 : decode cX12_add 27 = .ok (.iconst 1, 1) := by decide +kernel
theorem dX12_add_28 : decode cX12_add 28 = .ok (.bastore, 1) := by decide +kernel
theorem dX12_add_29 : decode cX12_add 29 = .ok (.aload_n 0, 1) := by decide +kernel
theorem dX12_add_30 : decode cX12_add 30 = .ok (.invokevirtual 105, 3) := by decide +kernel
theorem dX12_add_33 : decode cX12_add 33 = .ok (.ireturn, 1) := by decide +kernel
set_option maxRecDepth 20000 in
theorem ggX12_drop_X12_isWord : GoodIn wsX12_drop wsX12_isWord := goodIn_r _ [6, 7, 8, 9, 5, 10, 11, 12, 13, 14, 15, 16, 17, 18, 23, 24, 25, 26, 27, 28, 29, 30, 31, 32, 33, 34, 35, 36, 37, 38, 39, 40, 41, 42, 43, 44, 45, 46, 47, 48, 49, 50, 51, 52, 53, 54, 55, 56, 57, 58, 59, 60, 61, 62, 63] (by decide +kernel) (by decide +kernel)
set_option maxRecDepth 20000 in
theorem gX12_drop_X12_isWord : GoodIn wsX12_drop (wsV RX12 101 RX12 yX12_isWord wsX12_isWord) := goodIn_app (goodIn_of _ (by decide +kernel)) ggX12_drop_X12_isWord
set_option maxRecDepth 20000 in
theorem ggX12_drop_X12_many : GoodIn wsX12_drop wsX12_many := goodIn_r _ [22, 1, 23, 24, 25, 26, 27, 28, 29, 30, 31, 32, 33, 34, 35, 36, 37, 38, 39, 40, 41, 42, 43, 44, 45, 46, 47, 48, 49, 50, 51, 52, 53, 54, 55, 56, 57, 58, 59, 60, 61, 62, 63] (by decide +kernel) (by decide +kernel)
set_option maxRecDepth 20000 in
theorem gX12_drop_X12_many : GoodIn wsX12_drop (wsV RX12 105 RX12 yX12_many wsX12_many) := goodIn_app (goodIn_of _ (by decide +kernel)) ggX12_drop_X12_many
theorem dX12_drop_0 : decode cX12_drop 0 = .ok (.aload_n 0, 1) := by decide +kernel
theorem dX12_drop_1 : decode cX12_drop 1 = .ok (.iload_n 1, 1) := by decide +kernel
theorem dX12_drop_2 : decode cX12_drop 2 = .ok (.invokevirtual 101, 3) := by decide +kernel
theorem dX12_drop_5 : decode cX12_drop 5 = .ok (.ifCond .ne 5, 3) := by decide +kernel
theorem dX12_drop_8 : decode cX12_drop 8 = .ok (.iconst (-1), 1) := by decide +kernel
theorem dX12_drop_9 : decode cX12_drop 9 = .ok (.ireturn, 1) := by decide +kernel
theorem dX12_drop_10 : decode cX12_drop 10 = .ok (.aload_n 0, 1) := by decide +kernel
theorem dX12_drop_11 : decode cX12_drop 11 = .ok (.getfield 18, 3) := by decide +kernel
theorem dX12_drop_14 : decode cX12_drop 14 = .ok (.iload_n 1, 1) := by decide +kernel
theorem dX12_drop_15 : decode cX12_drop 15 = .ok (.baload, 1) := by decide +kernel
theorem dX12_drop_16 : decode cX12_drop 16 = .ok (.ifCond .ne 6, 3) := by decide +kernel
theorem dX12_drop_19 : decode cX12_drop 19 = .ok (.bipush (-3), 2) := by decide +kernel
theorem dX12_drop_21 : decode cX12_drop 21 = .ok (.ireturn, 1) := by decide +kernel
theorem dX12_drop_22 : decode cX12_drop 22 = .ok (.aload_n 0, 1) := by decide +kernel
theorem dX12_drop_23 : decode cX12_drop 23 = .ok (.getfield 18, 3) := by decide +kernel
theorem dX12_drop_26 : decode cX12_drop 26 = .ok (.iload_n 1, 1) := by decide +kernel
theorem dX12_drop_27 : decode cX12_drop 27 = .ok (.iconst 0, 1) := by decide +kernel
theorem dX12_drop_28 : decode cX12_drop 28 = .ok (.bastore, 1) := by decide +kernel
theorem dX12_drop_29 : decode cX12_drop 29 = .ok (.aload_n 0, 1) := by decide +kernel
theorem dX12_drop_30 : decode cX12_drop 30 = .ok (.invokevirtual 105, 3) := by decide +kernel
theorem dX12_drop_33 : decode cX12_drop 33 = .ok (.ireturn, 1) := by decide +kernel
set_option maxRecDepth 20000 in
theorem ggX12_clear_X12_many : GoodIn wsX12_clear wsX12_many := goodIn_r _ [6, 1, 7, 8, 9, 10, 11, 12, 13, 14, 15, 16, 17, 18, 19, 20, 21, 22, 23, 24, 25, 26, 27, 28, 29, 30, 31, 32, 33, 34, 35, 36, 37, 38, 39, 40, 41, 42, 43, 44, 45, 46, 47] (by decide +kernel) (by decide +kernel)
set_option maxRecDepth 20000 in
theorem gX12_clear_X12_many : GoodIn wsX12_clear (wsV RX12 105 RX12 yX12_many wsX12_many) := goodIn_app (goodIn_of _ (by decide +kernel)) ggX12_clear_X12_many
theorem dX12_clear_0 : decode cX12_clear 0 = .ok (.aload_n 0, 1) := by decide +kernel
theorem dX12_clear_1 : decode cX12_clear 1 = .ok (.invokevirtual 105, 3) := by decide +kernel
theorem dX12_clear_4 : decode cX12_clear 4 = .ok (.istore_n 1, 1) := by decide +kernel
theorem dX12_clear_5 : decode cX12_clear 5 = .ok (.iconst 0, 1) := by decide +kernel
theorem dX12_clear_6 : decode cX12_clear 6 = .ok (.istore_n 2, 1) := by decide +kernel
theorem dX12_clear_7 : decode cX12_clear 7 = .ok (.iload_n 2, 1) := by decide +kernel
theorem dX12_clear_8 : decode cX12_clear 8 = .ok (.sipush 256, 3) := by decide +kernel
theorem dX12_clear_11 : decode cX12_clear 11 = .ok (.if_icmp .ge 16, 3) := by decide +kernel
theorem dX12_clear_14 : decode cX12_clear 14 = .ok (.aload_n 0, 1) := by decide +kernel
theorem dX12_clear_15 : decode cX12_clear 15 = .ok (.getfield 18, 3) := by decide +kernel
theorem dX12_clear_18 : decode cX12_clear 18 = .ok (.iload_n 2, 1) := by decide +kernel
theorem dX12_clear_19 : decode cX12_clear 19 = .ok (.iconst 0, 1) := by decide +kernel
theorem dX12_clear_20 : decode cX12_clear 20 = .ok (.bastore, 1) := by decide +kernel
theorem dX12_clear_21 : decode cX12_clear 21 = .ok (.iinc 2 1, 3) := by decide +kernel
theorem dX12_clear_24 : decode cX12_clear 24 = .ok (.goto (-17), 3) := by decide +kernel
theorem dX12_clear_27 : decode cX12_clear 27 = .ok (.iload_n 1, 1) := by decide +kernel
theorem dX12_clear_28 : decode cX12_clear 28 = .ok (.ireturn, 1) := by decide +kernel
theorem dX12_wordOf_0 : decode cX12_wordOf 0 = .ok (.iload_n 1, 1) := by decide +kernel
theorem dX12_wordOf_1 : decode cX12_wordOf 1 = .ok (.istore_n 2, 1) := by decide +kernel
theorem dX12_wordOf_2 : decode cX12_wordOf 2 = .ok (.iconst 0, 1) := by decide +kernel
theorem dX12_wordOf_3 : decode cX12_wordOf 3 = .ok (.istore_n 3, 1) := by decide +kernel
theorem dX12_wordOf_4 : decode cX12_wordOf 4 = .ok (.iload_n 3, 1) := by decide +kernel
theorem dX12_wordOf_5 : decode cX12_wordOf 5 = .ok (.sipush 256, 3) := by decide +kernel
theorem dX12_wordOf_8 : decode cX12_wordOf 8 = .ok (.if_icmp .ge 31, 3) := by decide +kernel
theorem dX12_wordOf_11 : decode cX12_wordOf 11 = .ok (.iload_n 1, 1) := by decide +kernel
theorem dX12_wordOf_12 : decode cX12_wordOf 12 = .ok (.ifCond .lt 27, 3) := by decide +kernel
theorem dX12_wordOf_15 : decode cX12_wordOf 15 = .ok (.aload_n 0, 1) := by decide +kernel
theorem dX12_wordOf_16 : decode cX12_wordOf 16 = .ok (.getfield 18, 3) := by decide +kernel
theorem dX12_wordOf_19 : decode cX12_wordOf 19 = .ok (.iload_n 3, 1) := by decide +kernel
theorem dX12_wordOf_20 : decode cX12_wordOf 20 = .ok (.baload, 1) := by decide +kernel
theorem dX12_wordOf_21 : decode cX12_wordOf 21 = .ok (.ifCond .eq 12, 3) := by decide +kernel
theorem dX12_wordOf_24 : decode cX12_wordOf 24 = .ok (.iload_n 2, 1) := by decide +kernel
theorem dX12_wordOf_25 : decode cX12_wordOf 25 = .ok (.ifCond .ne 5, 3) := by decide +kernel
theorem dX12_wordOf_28 : decode cX12_wordOf 28 = .ok (.iload_n 3, 1) := by decide +kernel
theorem dX12_wordOf_29 : decode cX12_wordOf 29 = .ok (.ireturn, 1) := by decide +kernel
theorem dX12_wordOf_30 : decode cX12_wordOf 30 = .ok (.iinc 2 (-1), 3) := by decide +kernel
theorem dX12_wordOf_33 : decode cX12_wordOf 33 = .ok (.iinc 3 1, 3) := by decide +kernel
theorem dX12_wordOf_36 : decode cX12_wordOf 36 = .ok (.goto (-32), 3) := by decide +kernel
theorem dX12_wordOf_39 : decode cX12_wordOf 39 = .ok (.bipush (-5), 2) := by decide +kernel
theorem dX12_wordOf_41 : decode cX12_wordOf 41 = .ok (.ireturn, 1) := by decide +kernel
set_option maxRecDepth 20000 in
theorem ggX12_word_X12_wordOf : GoodIn wsX12_word wsX12_wordOf := goodIn_r _ [5, 6, 7, 8, 9, 10, 11, 12, 13, 14, 15, 16, 17, 18, 19, 20, 21, 22, 23, 24, 25, 26, 27, 28, 29, 30, 31, 32, 33, 34, 35, 36, 37, 38, 39, 40, 41, 42, 43, 44, 45, 46, 47] (by decide +kernel) (by decide +kernel)
set_option maxRecDepth 20000 in
theorem gX12_word_X12_wordOf : GoodIn wsX12_word (wsV RX12 108 RX12 yX12_wordOf wsX12_wordOf) := goodIn_app (goodIn_of _ (by decide +kernel)) ggX12_word_X12_wordOf
theorem dX12_word_0 : decode cX12_word 0 = .ok (.aload_n 0, 1) := by decide +kernel
theorem dX12_word_1 : decode cX12_word 1 = .ok (.iload_n 1, 1) := by decide +kernel
theorem dX12_word_2 : decode cX12_word 2 = .ok (.invokevirtual 108, 3) := by decide +kernel
theorem dX12_word_5 : decode cX12_word 5 = .ok (.ireturn, 1) := by decide +kernel
set_option maxRecDepth 20000 in
theorem ggX12_letter_X12_isWord : GoodIn wsX12_letter wsX12_isWord := goodIn_r _ [6, 7, 8, 9, 5, 10, 11, 1, 12, 13, 14, 15, 16, 17, 22, 23, 24, 25, 26, 27, 28, 29, 30, 31, 32, 33, 34, 35, 36, 37, 38, 39, 40, 41, 42, 43, 44, 45, 46, 47, 48, 49, 50, 51, 52, 53, 54, 55, 56, 57, 58, 59, 60, 61, 62] (by decide +kernel) (by decide +kernel)
set_option maxRecDepth 20000 in
theorem gX12_letter_X12_isWord : GoodIn wsX12_letter (wsV RX12 101 RX12 yX12_isWord wsX12_isWord) := goodIn_app (goodIn_of _ (by decide +kernel)) ggX12_letter_X12_isWord
set_option maxRecDepth 20000 in
theorem ggX12_letter_X12_isIn : GoodIn wsX12_letter wsX12_isIn := goodIn_r _ [17] (by decide +kernel) (by decide +kernel)
set_option maxRecDepth 20000 in
theorem gX12_letter_X12_isIn : GoodIn wsX12_letter (va_wsS RX12 85 yX12_isIn wsX12_isIn) := goodIn_app (goodIn_of _ (by decide +kernel)) ggX12_letter_X12_isIn
set_option maxRecDepth 20000 in
theorem ggX12_letter_X12_letterOf : GoodIn wsX12_letter wsX12_letterOf := goodIn_r _ [21, 11, 1, 12, 13, 5, 14, 22, 23, 24, 25, 26, 27, 28, 29, 30, 31, 32, 33, 34, 35, 36, 37, 38, 39, 40, 41, 42, 43, 44, 45, 46, 47, 48, 49, 50, 51, 52, 53, 54, 55, 56, 57, 58, 59, 60, 61, 62] (by decide +kernel) (by decide +kernel)
set_option maxRecDepth 20000 in
theorem gX12_letter_X12_letterOf : GoodIn wsX12_letter (wsV RX12 112 RX12 yX12_letterOf wsX12_letterOf) := goodIn_app (goodIn_of _ (by decide +kernel)) ggX12_letter_X12_letterOf
theorem dX12_letter_0 : decode cX12_letter 0 = .ok (.aload_n 0, 1) := by decide +kernel
theorem dX12_letter_1 : decode cX12_letter 1 = .ok (.iload_n 1, 1) := by decide +kernel
theorem dX12_letter_2 : decode cX12_letter 2 = .ok (.invokevirtual 101, 3) := by decide +kernel
theorem dX12_letter_5 : decode cX12_letter 5 = .ok (.ifCond .eq 28, 3) := by decide +kernel
theorem dX12_letter_8 : decode cX12_letter 8 = .ok (.iload_n 2, 1) := by decide +kernel
theorem dX12_letter_9 : decode cX12_letter 9 = .ok (.i2l, 1) := by decide +kernel
theorem dX12_letter_10 : decode cX12_letter 10 = .ok (.lconst 0, 1) := by decide +kernel
theorem dX12_letter_11 : decode cX12_letter 11 = .ok (.aload_n 0, 1) := by decide +kernel
theorem dX12_letter_12 : decode cX12_letter 12 = .ok (.getfield 15, 3) := by decide +kernel
theorem dX12_letter_15 : decode cX12_letter 15 = .ok (.iconst 1, 1) := by decide +kernel
theorem dX12_letter_16 : decode cX12_letter 16 = .ok (.isub, 1) := by decide +kernel
theorem dX12_letter_17 : decode cX12_letter 17 = .ok (.i2l, 1) := by decide +kernel
theorem dX12_letter_18 : decode cX12_letter 18 = .ok (.invokestatic 85, 3) := by decide +kernel
theorem dX12_letter_21 : decode cX12_letter 21 = .ok (.ifCond .eq 12, 3) := by decide +kernel
theorem dX12_letter_24 : decode cX12_letter 24 = .ok (.aload_n 0, 1) := by decide +kernel
theorem dX12_letter_25 : decode cX12_letter 25 = .ok (.iload_n 1, 1) := by decide +kernel
theorem dX12_letter_26 : decode cX12_letter 26 = .ok (.iload_n 2, 1) := by decide +kernel
theorem dX12_letter_27 : decode cX12_letter 27 = .ok (.invokevirtual 112, 3) := by decide +kernel
theorem dX12_letter_30 : decode cX12_letter 30 = .ok (.goto 4, 3) := by decide +kernel
theorem dX12_letter_33 : decode cX12_letter 33 = .ok (.iconst (-1), 1) := by decide +kernel
theorem dX12_letter_34 : decode cX12_letter 34 = .ok (.ireturn, 1) := by decide +kernel
set_option maxRecDepth 20000 in
theorem ggX12_across_X12_power : GoodIn wsX12_across wsX12_power := goodIn_r _ [5] (by decide +kernel) (by decide +kernel)
set_option maxRecDepth 20000 in
theorem gX12_across_X12_power : GoodIn wsX12_across (va_wsS RX12 77 yX12_power wsX12_power) := goodIn_app (goodIn_of _ (by decide +kernel)) ggX12_across_X12_power
set_option maxRecDepth 20000 in
theorem ggX12_across_X12_words : GoodIn wsX12_across wsX12_words := goodIn_r _ [9, 1, 10, 2, 3, 4, 5, 11, 12, 13, 14, 15, 16, 17, 18, 19, 20, 21, 22, 23, 24, 25, 26, 27, 28, 29, 30, 31, 32, 33, 34, 35, 36, 37, 38, 39, 40, 41, 42, 43, 44, 45, 46, 47, 48, 49, 50, 51] (by decide +kernel) (by decide +kernel)
set_option maxRecDepth 20000 in
theorem gX12_across_X12_words : GoodIn wsX12_across (wsV RX12 81 RX12 yX12_words wsX12_words) := goodIn_app (goodIn_of _ (by decide +kernel)) ggX12_across_X12_words
theorem dX12_across_0 : decode cX12_across 0 = .ok (.aload_n 0, 1) := by decide +kernel
theorem dX12_across_1 : decode cX12_across 1 = .ok (.getfield 9, 3) := by decide +kernel
theorem dX12_across_4 : decode cX12_across 4 = .ok (.iload_n 3, 1) := by decide +kernel
theorem dX12_across_5 : decode cX12_across 5 = .ok (.invokestatic 77, 3) := by decide +kernel
theorem dX12_across_8 : decode cX12_across 8 = .ok (.istore 4, 2) := by decide +kernel
theorem dX12_across_10 : decode cX12_across 10 = .ok (.iload_n 1, 1) := by decide +kernel
theorem dX12_across_11 : decode cX12_across 11 = .ok (.aload_n 0, 1) := by decide +kernel
theorem dX12_across_12 : decode cX12_across 12 = .ok (.invokevirtual 81, 3) := by decide +kernel
theorem dX12_across_15 : decode cX12_across 15 = .ok (.iload 4, 2) := by decide +kernel
theorem dX12_across_17 : decode cX12_across 17 = .ok (.idiv, 1) := by decide +kernel
theorem dX12_across_18 : decode cX12_across 18 = .ok (.irem, 1) := by decide +kernel
theorem dX12_across_19 : decode cX12_across 19 = .ok (.iload 4, 2) := by decide +kernel
theorem dX12_across_21 : decode cX12_across 21 = .ok (.imul, 1) := by decide +kernel
theorem dX12_across_22 : decode cX12_across 22 = .ok (.iload_n 2, 1) := by decide +kernel
theorem dX12_across_23 : decode cX12_across 23 = .ok (.aload_n 0, 1) := by decide +kernel
theorem dX12_across_24 : decode cX12_across 24 = .ok (.invokevirtual 81, 3) := by decide +kernel
theorem dX12_across_27 : decode cX12_across 27 = .ok (.iload 4, 2) := by decide +kernel
theorem dX12_across_29 : decode cX12_across 29 = .ok (.idiv, 1) := by decide +kernel
theorem dX12_across_30 : decode cX12_across 30 = .ok (.idiv, 1) := by decide +kernel
theorem dX12_across_31 : decode cX12_across 31 = .ok (.iadd, 1) := by decide +kernel
theorem dX12_across_32 : decode cX12_across 32 = .ok (.ireturn, 1) := by decide +kernel
set_option maxRecDepth 20000 in
theorem ggX12_hides_X12_isWord : GoodIn wsX12_hides wsX12_isWord := goodIn_r _ [6, 7, 8, 9, 5, 10, 11, 1, 12, 13, 14, 15, 16, 17, 22, 23, 24, 25, 26, 27, 28, 29, 30, 31, 32, 33, 34, 35, 36, 37, 38, 39, 40, 41, 42, 43, 44, 45, 46, 47, 48, 49, 50, 51, 52, 53, 54, 55, 56, 57, 58, 59, 60, 61, 62] (by decide +kernel) (by decide +kernel)
set_option maxRecDepth 20000 in
theorem gX12_hides_X12_isWord : GoodIn wsX12_hides (wsV RX12 101 RX12 yX12_isWord wsX12_isWord) := goodIn_app (goodIn_of _ (by decide +kernel)) ggX12_hides_X12_isWord
set_option maxRecDepth 20000 in
theorem ggX12_hides_X12_across : GoodIn wsX12_hides wsX12_across := goodIn_r _ [21, 11, 12, 13, 5, 14, 7, 8, 9, 10, 1, 22, 23, 24, 25, 26, 27, 28, 29, 30, 31, 32, 33, 34, 35, 36, 37, 38, 39, 40, 41, 42, 43, 44, 45, 46, 47, 48, 49, 50, 51, 52, 53, 54, 55, 56, 57, 58, 59, 60, 61, 62] (by decide +kernel) (by decide +kernel)
set_option maxRecDepth 20000 in
theorem gX12_hides_X12_across : GoodIn wsX12_hides (wsV RX12 115 RX12 yX12_across wsX12_across) := goodIn_app (goodIn_of _ (by decide +kernel)) ggX12_hides_X12_across
theorem dX12_hides_0 : decode cX12_hides 0 = .ok (.aload_n 0, 1) := by decide +kernel
theorem dX12_hides_1 : decode cX12_hides 1 = .ok (.iload_n 1, 1) := by decide +kernel
theorem dX12_hides_2 : decode cX12_hides 2 = .ok (.invokevirtual 101, 3) := by decide +kernel
theorem dX12_hides_5 : decode cX12_hides 5 = .ok (.ifCond .eq 19, 3) := by decide +kernel
theorem dX12_hides_8 : decode cX12_hides 8 = .ok (.aload_n 0, 1) := by decide +kernel
theorem dX12_hides_9 : decode cX12_hides 9 = .ok (.iload_n 2, 1) := by decide +kernel
theorem dX12_hides_10 : decode cX12_hides 10 = .ok (.invokevirtual 101, 3) := by decide +kernel
theorem dX12_hides_13 : decode cX12_hides 13 = .ok (.ifCond .eq 11, 3) := by decide +kernel
theorem dX12_hides_16 : decode cX12_hides 16 = .ok (.aload_n 0, 1) := by decide +kernel
theorem dX12_hides_17 : decode cX12_hides 17 = .ok (.iload_n 3, 1) := by decide +kernel
theorem dX12_hides_18 : decode cX12_hides 18 = .ok (.invokevirtual 101, 3) := by decide +kernel
theorem dX12_hides_21 : decode cX12_hides 21 = .ok (.ifCond .ne 5, 3) := by decide +kernel
theorem dX12_hides_24 : decode cX12_hides 24 = .ok (.iconst (-1), 1) := by decide +kernel
theorem dX12_hides_25 : decode cX12_hides 25 = .ok (.ireturn, 1) := by decide +kernel
theorem dX12_hides_26 : decode cX12_hides 26 = .ok (.iconst 0, 1) := by decide +kernel
theorem dX12_hides_27 : decode cX12_hides 27 = .ok (.istore 4, 2) := by decide +kernel
theorem dX12_hides_29 : decode cX12_hides 29 = .ok (.iconst 1, 1) := by decide +kernel
theorem dX12_hides_30 : decode cX12_hides 30 = .ok (.istore 5, 2) := by decide +kernel
theorem dX12_hides_32 : decode cX12_hides 32 = .ok (.iload 5, 2) := by decide +kernel
theorem dX12_hides_34 : decode cX12_hides 34 = .ok (.aload_n 0, 1) := by decide +kernel
theorem dX12_hides_35 : decode cX12_hides 35 = .ok (.getfield 15, 3) := by decide +kernel
theorem dX12_hides_38 : decode cX12_hides 38 = .ok (.if_icmp .ge 34, 3) := by decide +kernel
theorem dX12_hides_41 : decode cX12_hides 41 = .ok (.iload 4, 2) := by decide +kernel
theorem dX12_hides_43 : decode cX12_hides 43 = .ok (.aload_n 0, 1) := by decide +kernel
theorem dX12_hides_44 : decode cX12_hides 44 = .ok (.iload_n 1, 1) := by decide +kernel
theorem dX12_hides_45 : decode cX12_hides 45 = .ok (.iload_n 2, 1) := by decide +kernel
theorem dX12_hides_46 : decode cX12_hides 46 = .ok (.iload 5, 2) := by decide +kernel
theorem dX12_hides_48 : decode cX12_hides 48 = .ok (.invokevirtual 115, 3) := by decide +kernel
theorem dX12_hides_51 : decode cX12_hides 51 = .ok (.iload_n 3, 1) := by decide +kernel
theorem dX12_hides_52 : decode cX12_hides 52 = .ok (.if_icmp .ne 10, 3) := by decide +kernel
theorem dX12_hides_55 : decode cX12_hides 55 = .ok (.iconst 1, 1) := by decide +kernel
theorem dX12_hides_56 : decode cX12_hides 56 = .ok (.iload 5, 2) := by decide +kernel
theorem dX12_hides_58 : decode cX12_hides 58 = .ok (.ishl, 1) := by decide +kernel
theorem dX12_hides_59 : decode cX12_hides 59 = .ok (.goto 4, 3) := by decide +kernel
theorem dX12_hides_62 : decode cX12_hides 62 = .ok (.iconst 0, 1) := by decide +kernel
theorem dX12_hides_63 : decode cX12_hides 63 = .ok (.ior, 1) := by decide +kernel
theorem dX12_hides_64 : decode cX12_hides 64 = .ok (.istore 4, 2) := by decide +kernel
theorem dX12_hides_66 : decode cX12_hides 66 = .ok (.iinc 5 1, 3) := by decide +kernel
theorem dX12_hides_69 : decode cX12_hides 69 = .ok (.goto (-37), 3) := by decide +kernel
theorem dX12_hides_72 : decode cX12_hides 72 = .ok (.iload 4, 2) := by decide +kernel
theorem dX12_hides_74 : decode cX12_hides 74 = .ok (.ireturn, 1) := by decide +kernel
set_option maxRecDepth 20000 in
theorem ggX12_isFree_X12_words : GoodIn wsX12_isFree wsX12_words := goodIn_r _ [10, 11, 2, 12, 13, 9, 14, 19, 20, 21, 22, 23, 24, 25, 26, 27, 28, 29, 30, 31, 32, 33, 34, 35, 36, 37, 38, 39, 40, 41, 42, 43, 44, 45, 46, 47, 48, 49, 50, 51, 52, 53, 54, 55, 56, 57, 58, 59] (by decide +kernel) (by decide +kernel)
set_option maxRecDepth 20000 in
theorem gX12_isFree_X12_words : GoodIn wsX12_isFree (wsV RX12 81 RX12 yX12_words wsX12_words) := goodIn_app (goodIn_of _ (by decide +kernel)) ggX12_isFree_X12_words
set_option maxRecDepth 20000 in
theorem ggX12_isFree_X12_across : GoodIn wsX12_isFree wsX12_across := goodIn_r _ [18, 11, 12, 13, 9, 14, 6, 7, 8, 10, 2, 19, 20, 21, 22, 23, 24, 25, 26, 27, 28, 29, 30, 31, 32, 33, 34, 35, 36, 37, 38, 39, 40, 41, 42, 43, 44, 45, 46, 47, 48, 49, 50, 51, 52, 53, 54, 55, 56, 57, 58, 59] (by decide +kernel) (by decide +kernel)
set_option maxRecDepth 20000 in
theorem gX12_isFree_X12_across : GoodIn wsX12_isFree (wsV RX12 115 RX12 yX12_across wsX12_across) := goodIn_app (goodIn_of _ (by decide +kernel)) ggX12_isFree_X12_across
theorem dX12_isFree_0 : decode cX12_isFree 0 = .ok (.iconst 0, 1) := by decide +kernel
theorem dX12_isFree_1 : decode cX12_isFree 1 = .ok (.istore_n 1, 1) := by decide +kernel
theorem dX12_isFree_2 : decode cX12_isFree 2 = .ok (.iload_n 1, 1) := by decide +kernel
theorem dX12_isFree_3 : decode cX12_isFree 3 = .ok (.aload_n 0, 1) := by decide +kernel
theorem dX12_isFree_4 : decode cX12_isFree 4 = .ok (.invokevirtual 81, 3) := by decide +kernel
theorem dX12_isFree_7 : decode cX12_isFree 7 = .ok (.if_icmp .ge 91, 3) := by decide +kernel
theorem dX12_isFree_10 : decode cX12_isFree 10 = .ok (.iconst 0, 1) := by decide +kernel
theorem dX12_isFree_11 : decode cX12_isFree 11 = .ok (.istore_n 2, 1) := by decide +kernel
theorem dX12_isFree_12 : decode cX12_isFree 12 = .ok (.iload_n 2, 1) := by decide +kernel
theorem dX12_isFree_13 : decode cX12_isFree 13 = .ok (.aload_n 0, 1) := by decide +kernel
theorem dX12_isFree_14 : decode cX12_isFree 14 = .ok (.invokevirtual 81, 3) := by decide +kernel
theorem dX12_isFree_17 : decode cX12_isFree 17 = .ok (.if_icmp .ge 75, 3) := by decide +kernel
theorem dX12_isFree_20 : decode cX12_isFree 20 = .ok (.aload_n 0, 1) := by decide +kernel
theorem dX12_isFree_21 : decode cX12_isFree 21 = .ok (.getfield 18, 3) := by decide +kernel
theorem dX12_isFree_24 : decode cX12_isFree 24 = .ok (.iload_n 1, 1) := by decide +kernel
theorem dX12_isFree_25 : decode cX12_isFree 25 = .ok (.baload, 1) := by decide +kernel
theorem dX12_isFree_26 : decode cX12_isFree 26 = .ok (.ifCond .eq 66, 3) := by decide +kernel
theorem dX12_isFree_29 : decode cX12_isFree 29 = .ok (.iconst 1, 1) := by decide +kernel
theorem dX12_isFree_30 : decode cX12_isFree 30 = .ok (.istore_n 3, 1) := by decide +kernel
theorem dX12_isFree_31 : decode cX12_isFree 31 = .ok (.iload_n 3, 1) := by decide +kernel
theorem dX12_isFree_32 : decode cX12_isFree 32 = .ok (.aload_n 0, 1) := by decide +kernel
theorem dX12_isFree_33 : decode cX12_isFree 33 = .ok (.getfield 15, 3) := by decide +kernel
theorem dX12_isFree_36 : decode cX12_isFree 36 = .ok (.if_icmp .ge 50, 3) := by decide +kernel
theorem dX12_isFree_39 : decode cX12_isFree 39 = .ok (.aload_n 0, 1) := by decide +kernel
theorem dX12_isFree_40 : decode cX12_isFree 40 = .ok (.getfield 18, 3) := by decide +kernel
theorem dX12_isFree_43 : decode cX12_isFree 43 = .ok (.iload_n 2, 1) := by decide +kernel
theorem dX12_isFree_44 : decode cX12_isFree 44 = .ok (.baload, 1) := by decide +kernel
theorem dX12_isFree_45 : decode cX12_isFree 45 = .ok (.ifCond .eq 41, 3) := by decide +kernel
theorem dX12_isFree_48 : decode cX12_isFree 48 = .ok (.aload_n 0, 1) := by decide +kernel
theorem dX12_isFree_49 : decode cX12_isFree 49 = .ok (.getfield 18, 3) := by decide +kernel
theorem dX12_isFree_52 : decode cX12_isFree 52 = .ok (.aload_n 0, 1) := by decide +kernel
theorem dX12_isFree_53 : decode cX12_isFree 53 = .ok (.iload_n 1, 1) := by decide +kernel
theorem dX12_isFree_54 : decode cX12_isFree 54 = .ok (.iload_n 2, 1) := by decide +kernel
theorem dX12_isFree_55 : decode cX12_isFree 55 = .ok (.iload_n 3, 1) := by decide +kernel
theorem dX12_isFree_56 : decode cX12_isFree 56 = .ok (.invokevirtual 115, 3) := by decide +kernel
theorem dX12_isFree_59 : decode cX12_isFree 59 = .ok (.baload, 1) := by decide +kernel
theorem dX12_isFree_60 : decode cX12_isFree 60 = .ok (.ifCond .eq 20, 3) := by decide +kernel
theorem dX12_isFree_63 : decode cX12_isFree 63 = .ok (.aload_n 0, 1) := by decide +kernel
theorem dX12_isFree_64 : decode cX12_isFree 64 = .ok (.iload_n 1, 1) := by decide +kernel
theorem dX12_isFree_65 : decode cX12_isFree 65 = .ok (.putfield 119, 3) := by decide +kernel
theorem dX12_isFree_68 : decode cX12_isFree 68 = .ok (.aload_n 0, 1) := by decide +kernel
theorem dX12_isFree_69 : decode cX12_isFree 69 = .ok (.iload_n 2, 1) := by decide +kernel
theorem dX12_isFree_70 : decode cX12_isFree 70 = .ok (.putfield 122, 3) := by decide +kernel
theorem dX12_isFree_73 : decode cX12_isFree 73 = .ok (.aload_n 0, 1) := by decide +kernel
theorem dX12_isFree_74 : decode cX12_isFree 74 = .ok (.iload_n 3, 1) := by decide +kernel
theorem dX12_isFree_75 : decode cX12_isFree 75 = .ok (.putfield 125, 3) := by decide +kernel
theorem dX12_isFree_78 : decode cX12_isFree 78 = .ok (.iconst 0, 1) := by decide +kernel
theorem dX12_isFree_79 : decode cX12_isFree 79 = .ok (.ireturn, 1) := by decide +kernel
theorem dX12_isFree_80 : decode cX12_isFree 80 = .ok (.iinc 3 1, 3) := by decide +kernel
theorem dX12_isFree_83 : decode cX12_isFree 83 = .ok (.goto (-52), 3) := by decide +kernel
theorem dX12_isFree_86 : decode cX12_isFree 86 = .ok (.iinc 2 1, 3) := by decide +kernel
theorem dX12_isFree_89 : decode cX12_isFree 89 = .ok (.goto (-77), 3) := by decide +kernel
theorem dX12_isFree_92 : decode cX12_isFree 92 = .ok (.iinc 1 1, 3) := by decide +kernel
theorem dX12_isFree_95 : decode cX12_isFree 95 = .ok (.goto (-93), 3) := by decide +kernel
theorem dX12_isFree_98 : decode cX12_isFree 98 = .ok (.iconst 1, 1) := by decide +kernel
theorem dX12_isFree_99 : decode cX12_isFree 99 = .ok (.ireturn, 1) := by decide +kernel
set_option maxRecDepth 20000 in
theorem ggX12_clash_X12_isIn : GoodIn wsX12_clash wsX12_isIn := goodIn_r _ [8] (by decide +kernel) (by decide +kernel)
set_option maxRecDepth 20000 in
theorem gX12_clash_X12_isIn : GoodIn wsX12_clash (va_wsS RX12 85 yX12_isIn wsX12_isIn) := goodIn_app (goodIn_of _ (by decide +kernel)) ggX12_clash_X12_isIn
set_option maxRecDepth 20000 in
theorem ggX12_clash_X12_isFree : GoodIn wsX12_clash wsX12_isFree := goodIn_r _ [12, 13, 14, 2, 3, 4, 15, 16, 17, 7, 18, 19, 20, 21, 22, 23, 24, 25, 26, 27, 28, 29, 30, 31, 32, 33, 34, 35, 36, 37, 38, 39, 40, 41, 42, 43, 44, 45, 46, 47, 48, 49, 50, 51, 52, 53, 54, 55, 56, 57, 58, 59, 60, 61, 62, 63, 64, 65, 66, 67] (by decide +kernel) (by decide +kernel)
set_option maxRecDepth 20000 in
theorem gX12_clash_X12_isFree : GoodIn wsX12_clash (wsV RX12 130 RX12 yX12_isFree wsX12_isFree) := goodIn_app (goodIn_of _ (by decide +kernel)) ggX12_clash_X12_isFree
set_option maxRecDepth 20000 in
theorem ggX12_clash_X12_across : GoodIn wsX12_clash wsX12_across := goodIn_r _ [26, 19, 20, 21, 7, 22, 15, 16, 17, 18, 14, 27, 28, 29, 30, 31, 32, 33, 34, 35, 36, 37, 38, 39, 40, 41, 42, 43, 44, 45, 46, 47, 48, 49, 50, 51, 52, 53, 54, 55, 56, 57, 58, 59, 60, 61, 62, 63, 64, 65, 66, 67] (by decide +kernel) (by decide +kernel)
set_option maxRecDepth 20000 in
theorem gX12_clash_X12_across : GoodIn wsX12_clash (wsV RX12 115 RX12 yX12_across wsX12_across) := goodIn_app (goodIn_of _ (by decide +kernel)) ggX12_clash_X12_across
theorem dX12_clash_0 : decode cX12_clash 0 = .ok (.iload_n 1, 1) := by decide +kernel
theorem dX12_clash_1 : decode cX12_clash 1 = .ok (.i2l, 1) := by decide +kernel
theorem dX12_clash_2 : decode cX12_clash 2 = .ok (.lconst 0, 1) := by decide +kernel
theorem dX12_clash_3 : decode cX12_clash 3 = .ok (.ldc2_w 128, 3) := by decide +kernel
theorem dX12_clash_6 : decode cX12_clash 6 = .ok (.invokestatic 85, 3) := by decide +kernel
theorem dX12_clash_9 : decode cX12_clash 9 = .ok (.ifCond .ne 5, 3) := by decide +kernel
theorem dX12_clash_12 : decode cX12_clash 12 = .ok (.iconst (-1), 1) := by decide +kernel
theorem dX12_clash_13 : decode cX12_clash 13 = .ok (.ireturn, 1) := by decide +kernel
theorem dX12_clash_14 : decode cX12_clash 14 = .ok (.aload_n 0, 1) := by decide +kernel
theorem dX12_clash_15 : decode cX12_clash 15 = .ok (.invokevirtual 130, 3) := by decide +kernel
theorem dX12_clash_18 : decode cX12_clash 18 = .ok (.ifCond .eq 6, 3) := by decide +kernel
theorem dX12_clash_21 : decode cX12_clash 21 = .ok (.bipush (-5), 2) := by decide +kernel
theorem dX12_clash_23 : decode cX12_clash 23 = .ok (.ireturn, 1) := by decide +kernel
theorem dX12_clash_24 : decode cX12_clash 24 = .ok (.iload_n 1, 1) := by decide +kernel
theorem dX12_clash_25 : decode cX12_clash 25 = .ok (.ifCond .ne 10, 3) := by decide +kernel
theorem dX12_clash_28 : decode cX12_clash 28 = .ok (.aload_n 0, 1) := by decide +kernel
theorem dX12_clash_29 : decode cX12_clash 29 = .ok (.getfield 119, 3) := by decide +kernel
theorem dX12_clash_32 : decode cX12_clash 32 = .ok (.goto 43, 3) := by decide +kernel
theorem dX12_clash_35 : decode cX12_clash 35 = .ok (.iload_n 1, 1) := by decide +kernel
theorem dX12_clash_36 : decode cX12_clash 36 = .ok (.iconst 1, 1) := by decide +kernel
theorem dX12_clash_37 : decode cX12_clash 37 = .ok (.if_icmp .ne 10, 3) := by decide +kernel
theorem dX12_clash_40 : decode cX12_clash 40 = .ok (.aload_n 0, 1) := by decide +kernel
theorem dX12_clash_41 : decode cX12_clash 41 = .ok (.getfield 122, 3) := by decide +kernel
theorem dX12_clash_44 : decode cX12_clash 44 = .ok (.goto 31, 3) := by decide +kernel
theorem dX12_clash_47 : decode cX12_clash 47 = .ok (.iload_n 1, 1) := by decide +kernel
theorem dX12_clash_48 : decode cX12_clash 48 = .ok (.iconst 2, 1) := by decide +kernel
theorem dX12_clash_49 : decode cX12_clash 49 = .ok (.if_icmp .ne 10, 3) := by decide +kernel
theorem dX12_clash_52 : decode cX12_clash 52 = .ok (.aload_n 0, 1) := by decide +kernel
theorem dX12_clash_53 : decode cX12_clash 53 = .ok (.getfield 125, 3) := by decide +kernel
theorem dX12_clash_56 : decode cX12_clash 56 = .ok (.goto 19, 3) := by decide +kernel
theorem dX12_clash_59 : decode cX12_clash 59 = .ok (.aload_n 0, 1) := by decide +kernel
theorem dX12_clash_60 : decode cX12_clash 60 = .ok (.aload_n 0, 1) := by decide +kernel
theorem dX12_clash_61 : decode cX12_clash 61 = .ok (.getfield 119, 3) := by decide +kernel
theorem dX12_clash_64 : decode cX12_clash 64 = .ok (.aload_n 0, 1) := by decide +kernel
theorem dX12_clash_65 : decode cX12_clash 65 = .ok (.getfield 122, 3) := by decide +kernel
theorem dX12_clash_68 : decode cX12_clash 68 = .ok (.aload_n 0, 1) := by decide +kernel
theorem dX12_clash_69 : decode cX12_clash 69 = .ok (.getfield 125, 3) := by decide +kernel
theorem dX12_clash_72 : decode cX12_clash 72 = .ok (.invokevirtual 115, 3) := by decide +kernel
theorem dX12_clash_75 : decode cX12_clash 75 = .ok (.ireturn, 1) := by decide +kernel
set_option maxRecDepth 20000 in
theorem ggX12_mayCome_X12_isFree : GoodIn wsX12_mayCome wsX12_isFree := goodIn_r _ [6, 1, 7, 8, 9, 10, 11, 12, 13, 5, 14, 15, 16, 17, 18, 19, 20, 21, 22, 23, 24, 25, 26, 27, 28, 29, 30, 31, 32, 33, 34, 35, 36, 37, 38, 39, 40, 41, 42, 43, 44, 45, 46, 47, 48, 49, 50, 51, 52, 53, 54, 55, 56, 57, 58, 59, 60, 61, 62, 63] (by decide +kernel) (by decide +kernel)
set_option maxRecDepth 20000 in
theorem gX12_mayCome_X12_isFree : GoodIn wsX12_mayCome (wsV RX12 130 RX12 yX12_isFree wsX12_isFree) := goodIn_app (goodIn_of _ (by decide +kernel)) ggX12_mayCome_X12_isFree
theorem dX12_mayCome_0 : decode cX12_mayCome 0 = .ok (.aload_n 0, 1) := by decide +kernel
theorem dX12_mayCome_1 : decode cX12_mayCome 1 = .ok (.getfield 18, 3) := by decide +kernel
theorem dX12_mayCome_4 : decode cX12_mayCome 4 = .ok (.iload_n 1, 1) := by decide +kernel
theorem dX12_mayCome_5 : decode cX12_mayCome 5 = .ok (.baload, 1) := by decide +kernel
theorem dX12_mayCome_6 : decode cX12_mayCome 6 = .ok (.ifCond .eq 5, 3) := by decide +kernel
theorem dX12_mayCome_9 : decode cX12_mayCome 9 = .ok (.iconst 0, 1) := by decide +kernel
theorem dX12_mayCome_10 : decode cX12_mayCome 10 = .ok (.ireturn, 1) := by decide +kernel
theorem dX12_mayCome_11 : decode cX12_mayCome 11 = .ok (.aload_n 0, 1) := by decide +kernel
theorem dX12_mayCome_12 : decode cX12_mayCome 12 = .ok (.getfield 18, 3) := by decide +kernel
theorem dX12_mayCome_15 : decode cX12_mayCome 15 = .ok (.iload_n 1, 1) := by decide +kernel
theorem dX12_mayCome_16 : decode cX12_mayCome 16 = .ok (.iconst 1, 1) := by decide +kernel
theorem dX12_mayCome_17 : decode cX12_mayCome 17 = .ok (.bastore, 1) := by decide +kernel
theorem dX12_mayCome_18 : decode cX12_mayCome 18 = .ok (.aload_n 0, 1) := by decide +kernel
theorem dX12_mayCome_19 : decode cX12_mayCome 19 = .ok (.invokevirtual 130, 3) := by decide +kernel
theorem dX12_mayCome_22 : decode cX12_mayCome 22 = .ok (.istore_n 2, 1) := by decide +kernel
theorem dX12_mayCome_23 : decode cX12_mayCome 23 = .ok (.aload_n 0, 1) := by decide +kernel
theorem dX12_mayCome_24 : decode cX12_mayCome 24 = .ok (.getfield 18, 3) := by decide +kernel
theorem dX12_mayCome_27 : decode cX12_mayCome 27 = .ok (.iload_n 1, 1) := by decide +kernel
theorem dX12_mayCome_28 : decode cX12_mayCome 28 = .ok (.iconst 0, 1) := by decide +kernel
theorem dX12_mayCome_29 : decode cX12_mayCome 29 = .ok (.bastore, 1) := by decide +kernel
theorem dX12_mayCome_30 : decode cX12_mayCome 30 = .ok (.iload_n 2, 1) := by decide +kernel
theorem dX12_mayCome_31 : decode cX12_mayCome 31 = .ok (.ireturn, 1) := by decide +kernel
set_option maxRecDepth 20000 in
theorem ggX12_may_X12_isWord : GoodIn wsX12_may wsX12_isWord := goodIn_r _ [5, 6, 7, 8, 4, 9, 10, 11, 12, 13, 14, 15, 16, 17, 34, 35, 36, 37, 38, 39, 40, 41, 42, 43, 44, 45, 46, 47, 48, 49, 50, 51, 52, 53, 54, 55, 56, 57, 58, 59, 60, 61, 62, 63, 64, 65, 66, 67, 68, 69, 70, 71, 72, 73, 74] (by decide +kernel) (by decide +kernel)
set_option maxRecDepth 20000 in
theorem gX12_may_X12_isWord : GoodIn wsX12_may (wsV RX12 101 RX12 yX12_isWord wsX12_isWord) := goodIn_app (goodIn_of _ (by decide +kernel)) ggX12_may_X12_isWord
set_option maxRecDepth 20000 in
theorem ggX12_may_X12_mayCome : GoodIn wsX12_may wsX12_mayCome := goodIn_r _ [21, 22, 23, 24, 25, 4, 26, 11, 27, 28, 29, 6, 7, 8, 9, 10, 12, 13, 14, 30, 31, 32, 33, 34, 35, 36, 37, 38, 39, 40, 41, 42, 43, 44, 45, 46, 47, 48, 49, 50, 51, 52, 53, 54, 55, 56, 57, 58, 59, 60, 61, 62, 63, 64, 65, 66, 67, 68, 69, 70, 71, 72, 73, 74] (by decide +kernel) (by decide +kernel)
set_option maxRecDepth 20000 in
theorem gX12_may_X12_mayCome : GoodIn wsX12_may (wsV RX12 134 RX12 yX12_mayCome wsX12_mayCome) := goodIn_app (goodIn_of _ (by decide +kernel)) ggX12_may_X12_mayCome
theorem dX12_may_0 : decode cX12_may 0 = .ok (.aload_n 0, 1) := by decide +kernel
theorem dX12_may_1 : decode cX12_may 1 = .ok (.iload_n 1, 1) := by decide +kernel
theorem dX12_may_2 : decode cX12_may 2 = .ok (.invokevirtual 101, 3) := by decide +kernel
theorem dX12_may_5 : decode cX12_may 5 = .ok (.ifCond .eq 19, 3) := by decide +kernel
theorem dX12_may_8 : decode cX12_may 8 = .ok (.aload_n 0, 1) := by decide +kernel
theorem dX12_may_9 : decode cX12_may 9 = .ok (.iload_n 1, 1) := by decide +kernel
theorem dX12_may_10 : decode cX12_may 10 = .ok (.invokevirtual 134, 3) := by decide +kernel
theorem dX12_may_13 : decode cX12_may 13 = .ok (.ifCond .eq 7, 3) := by decide +kernel
theorem dX12_may_16 : decode cX12_may 16 = .ok (.iconst 1, 1) := by decide +kernel
theorem dX12_may_17 : decode cX12_may 17 = .ok (.goto 8, 3) := by decide +kernel
theorem dX12_may_20 : decode cX12_may 20 = .ok (.iconst 0, 1) := by decide +kernel
theorem dX12_may_21 : decode cX12_may 21 = .ok (.goto 4, 3) := by decide +kernel
theorem dX12_may_24 : decode cX12_may 24 = .ok (.iconst (-1), 1) := by decide +kernel
theorem dX12_may_25 : decode cX12_may 25 = .ok (.ireturn, 1) := by decide +kernel
set_option maxRecDepth 20000 in
theorem ggX12_mays_X12_isFree : GoodIn wsX12_mays wsX12_isFree := goodIn_r _ [5, 6, 7, 8, 9, 10, 11, 12, 13, 4, 14, 15, 16, 17, 18, 19, 20, 21, 22, 27, 28, 29, 30, 31, 32, 33, 34, 35, 36, 37, 38, 39, 40, 41, 42, 43, 44, 45, 46, 47, 48, 49, 50, 51, 52, 53, 54, 55, 56, 57, 58, 59, 60, 61, 62, 63, 64, 65, 66, 67] (by decide +kernel) (by decide +kernel)
set_option maxRecDepth 20000 in
theorem gX12_mays_X12_isFree : GoodIn wsX12_mays (wsV RX12 130 RX12 yX12_isFree wsX12_isFree) := goodIn_app (goodIn_of _ (by decide +kernel)) ggX12_mays_X12_isFree
set_option maxRecDepth 20000 in
theorem ggX12_mays_X12_words : GoodIn wsX12_mays wsX12_words := goodIn_r _ [14, 15, 7, 16, 17, 4, 18, 27, 28, 29, 30, 31, 32, 33, 34, 35, 36, 37, 38, 39, 40, 41, 42, 43, 44, 45, 46, 47, 48, 49, 50, 51, 52, 53, 54, 55, 56, 57, 58, 59, 60, 61, 62, 63, 64, 65, 66, 67] (by decide +kernel) (by decide +kernel)
set_option maxRecDepth 20000 in
theorem gX12_mays_X12_words : GoodIn wsX12_mays (wsV RX12 81 RX12 yX12_words wsX12_words) := goodIn_app (goodIn_of _ (by decide +kernel)) ggX12_mays_X12_words
set_option maxRecDepth 20000 in
theorem ggX12_mays_X12_mayCome : GoodIn wsX12_mays wsX12_mayCome := goodIn_r _ [26, 6, 1, 2, 3, 4, 5, 7, 8, 9, 10, 11, 12, 13, 14, 15, 16, 17, 18, 19, 20, 21, 22, 27, 28, 29, 30, 31, 32, 33, 34, 35, 36, 37, 38, 39, 40, 41, 42, 43, 44, 45, 46, 47, 48, 49, 50, 51, 52, 53, 54, 55, 56, 57, 58, 59, 60, 61, 62, 63, 64, 65, 66, 67] (by decide +kernel) (by decide +kernel)
set_option maxRecDepth 20000 in
theorem gX12_mays_X12_mayCome : GoodIn wsX12_mays (wsV RX12 134 RX12 yX12_mayCome wsX12_mayCome) := goodIn_app (goodIn_of _ (by decide +kernel)) ggX12_mays_X12_mayCome
theorem dX12_mays_0 : decode cX12_mays 0 = .ok (.iconst 0, 1) := by decide +kernel
theorem dX12_mays_1 : decode cX12_mays 1 = .ok (.istore_n 2, 1) := by decide +kernel
theorem dX12_mays_2 : decode cX12_mays 2 = .ok (.aload_n 0, 1) := by decide +kernel
theorem dX12_mays_3 : decode cX12_mays 3 = .ok (.invokevirtual 130, 3) := by decide +kernel
theorem dX12_mays_6 : decode cX12_mays 6 = .ok (.istore_n 3, 1) := by decide +kernel
theorem dX12_mays_7 : decode cX12_mays 7 = .ok (.iconst 0, 1) := by decide +kernel
theorem dX12_mays_8 : decode cX12_mays 8 = .ok (.istore 4, 2) := by decide +kernel
theorem dX12_mays_10 : decode cX12_mays 10 = .ok (.iload 4, 2) := by decide +kernel
theorem dX12_mays_12 : decode cX12_mays 12 = .ok (.aload_n 0, 1) := by decide +kernel
theorem dX12_mays_13 : decode cX12_mays 13 = .ok (.invokevirtual 81, 3) := by decide +kernel
theorem dX12_mays_16 : decode cX12_mays 16 = .ok (.if_icmp .ge 38, 3) := by decide +kernel
theorem dX12_mays_19 : decode cX12_mays 19 = .ok (.iload_n 1, 1) := by decide +kernel
theorem dX12_mays_20 : decode cX12_mays 20 = .ok (.iconst (-1), 1) := by decide +kernel
theorem dX12_mays_21 : decode cX12_mays 21 = .ok (.if_icmp .lt 33, 3) := by decide +kernel
theorem dX12_mays_24 : decode cX12_mays 24 = .ok (.iload_n 3, 1) := by decide +kernel
theorem dX12_mays_25 : decode cX12_mays 25 = .ok (.ifCond .eq 29, 3) := by decide +kernel
theorem dX12_mays_28 : decode cX12_mays 28 = .ok (.aload_n 0, 1) := by decide +kernel
theorem dX12_mays_29 : decode cX12_mays 29 = .ok (.iload 4, 2) := by decide +kernel
theorem dX12_mays_31 : decode cX12_mays 31 = .ok (.invokevirtual 134, 3) := by decide +kernel
theorem dX12_mays_34 : decode cX12_mays 34 = .ok (.ifCond .eq 14, 3) := by decide +kernel
theorem dX12_mays_37 : decode cX12_mays 37 = .ok (.iload_n 2, 1) := by decide +kernel
theorem dX12_mays_38 : decode cX12_mays 38 = .ok (.iload_n 1, 1) := by decide +kernel
theorem dX12_mays_39 : decode cX12_mays 39 = .ok (.if_icmp .ne 6, 3) := by decide +kernel
theorem dX12_mays_42 : decode cX12_mays 42 = .ok (.iload 4, 2) := by decide +kernel
theorem dX12_mays_44 : decode cX12_mays 44 = .ok (.ireturn, 1) := by decide +kernel
theorem dX12_mays_45 : decode cX12_mays 45 = .ok (.iinc 2 1, 3) := by decide +kernel
theorem dX12_mays_48 : decode cX12_mays 48 = .ok (.iinc 4 1, 3) := by decide +kernel
theorem dX12_mays_51 : decode cX12_mays 51 = .ok (.goto (-41), 3) := by decide +kernel
theorem dX12_mays_54 : decode cX12_mays 54 = .ok (.iload_n 1, 1) := by decide +kernel
theorem dX12_mays_55 : decode cX12_mays 55 = .ok (.iconst (-1), 1) := by decide +kernel
theorem dX12_mays_56 : decode cX12_mays 56 = .ok (.if_icmp .ne 7, 3) := by decide +kernel
theorem dX12_mays_59 : decode cX12_mays 59 = .ok (.iload_n 2, 1) := by decide +kernel
theorem dX12_mays_60 : decode cX12_mays 60 = .ok (.goto 5, 3) := by decide +kernel
theorem dX12_mays_63 : decode cX12_mays 63 = .ok (.bipush (-5), 2) := by decide +kernel
theorem dX12_mays_65 : decode cX12_mays 65 = .ok (.ireturn, 1) := by decide +kernel
set_option maxRecDepth 20000 in
theorem ggX12_turned_X12_words : GoodIn wsX12_turned wsX12_words := goodIn_r _ [6, 1, 7, 8, 9, 5, 10, 11, 12, 13, 14, 15, 16, 17, 18, 19, 20, 21, 22, 23, 24, 25, 26, 27, 28, 29, 30, 31, 32, 33, 34, 35, 36, 37, 38, 39, 40, 41, 42, 43, 44, 45, 46, 47, 48, 49, 50, 51] (by decide +kernel) (by decide +kernel)
set_option maxRecDepth 20000 in
theorem gX12_turned_X12_words : GoodIn wsX12_turned (wsV RX12 81 RX12 yX12_words wsX12_words) := goodIn_app (goodIn_of _ (by decide +kernel)) ggX12_turned_X12_words
theorem dX12_turned_0 : decode cX12_turned 0 = .ok (.iload_n 1, 1) := by decide +kernel
theorem dX12_turned_1 : decode cX12_turned 1 = .ok (.aload_n 0, 1) := by decide +kernel
theorem dX12_turned_2 : decode cX12_turned 2 = .ok (.invokevirtual 81, 3) := by decide +kernel
theorem dX12_turned_5 : decode cX12_turned 5 = .ok (.aload_n 0, 1) := by decide +kernel
theorem dX12_turned_6 : decode cX12_turned 6 = .ok (.getfield 9, 3) := by decide +kernel
theorem dX12_turned_9 : decode cX12_turned 9 = .ok (.idiv, 1) := by decide +kernel
theorem dX12_turned_10 : decode cX12_turned 10 = .ok (.irem, 1) := by decide +kernel
theorem dX12_turned_11 : decode cX12_turned 11 = .ok (.aload_n 0, 1) := by decide +kernel
theorem dX12_turned_12 : decode cX12_turned 12 = .ok (.getfield 9, 3) := by decide +kernel
theorem dX12_turned_15 : decode cX12_turned 15 = .ok (.imul, 1) := by decide +kernel
theorem dX12_turned_16 : decode cX12_turned 16 = .ok (.iload_n 1, 1) := by decide +kernel
theorem dX12_turned_17 : decode cX12_turned 17 = .ok (.aload_n 0, 1) := by decide +kernel
theorem dX12_turned_18 : decode cX12_turned 18 = .ok (.invokevirtual 81, 3) := by decide +kernel
theorem dX12_turned_21 : decode cX12_turned 21 = .ok (.aload_n 0, 1) := by decide +kernel
theorem dX12_turned_22 : decode cX12_turned 22 = .ok (.getfield 9, 3) := by decide +kernel
theorem dX12_turned_25 : decode cX12_turned 25 = .ok (.idiv, 1) := by decide +kernel
theorem dX12_turned_26 : decode cX12_turned 26 = .ok (.idiv, 1) := by decide +kernel
theorem dX12_turned_27 : decode cX12_turned 27 = .ok (.iadd, 1) := by decide +kernel
theorem dX12_turned_28 : decode cX12_turned 28 = .ok (.ireturn, 1) := by decide +kernel
set_option maxRecDepth 20000 in
theorem ggX12_ringSize_X12_turned : GoodIn wsX12_ringSize wsX12_turned := goodIn_r _ [5, 6, 7, 8, 9, 4, 10, 11, 12, 13, 14, 15, 16, 17, 18, 19, 20, 21, 22, 23, 24, 25, 26, 27, 28, 29, 30, 31, 32, 33, 34, 35, 36, 37, 38, 39, 40, 41, 42, 43, 44, 45, 46, 47, 48, 49, 50, 51, 52, 53, 54, 55] (by decide +kernel) (by decide +kernel)
set_option maxRecDepth 20000 in
theorem gX12_ringSize_X12_turned : GoodIn wsX12_ringSize (wsV RX12 137 RX12 yX12_turned wsX12_turned) := goodIn_app (goodIn_of _ (by decide +kernel)) ggX12_ringSize_X12_turned
theorem dX12_ringSize_0 : decode cX12_ringSize 0 = .ok (.iconst 1, 1) := by decide +kernel
theorem dX12_ringSize_1 : decode cX12_ringSize 1 = .ok (.istore_n 2, 1) := by decide +kernel
theorem dX12_ringSize_2 : decode cX12_ringSize 2 = .ok (.aload_n 0, 1) := by decide +kernel
theorem dX12_ringSize_3 : decode cX12_ringSize 3 = .ok (.iload_n 1, 1) := by decide +kernel
theorem dX12_ringSize_4 : decode cX12_ringSize 4 = .ok (.invokevirtual 137, 3) := by decide +kernel
theorem dX12_ringSize_7 : decode cX12_ringSize 7 = .ok (.istore_n 3, 1) := by decide +kernel
theorem dX12_ringSize_8 : decode cX12_ringSize 8 = .ok (.iload_n 3, 1) := by decide +kernel
theorem dX12_ringSize_9 : decode cX12_ringSize 9 = .ok (.iload_n 1, 1) := by decide +kernel
theorem dX12_ringSize_10 : decode cX12_ringSize 10 = .ok (.if_icmp .eq 15, 3) := by decide +kernel
theorem dX12_ringSize_13 : decode cX12_ringSize 13 = .ok (.iinc 2 1, 3) := by decide +kernel
theorem dX12_ringSize_16 : decode cX12_ringSize 16 = .ok (.aload_n 0, 1) := by decide +kernel
theorem dX12_ringSize_17 : decode cX12_ringSize 17 = .ok (.iload_n 3, 1) := by decide +kernel
theorem dX12_ringSize_18 : decode cX12_ringSize 18 = .ok (.invokevirtual 137, 3) := by decide +kernel
theorem dX12_ringSize_21 : decode cX12_ringSize 21 = .ok (.istore_n 3, 1) := by decide +kernel
theorem dX12_ringSize_22 : decode cX12_ringSize 22 = .ok (.goto (-14), 3) := by decide +kernel
theorem dX12_ringSize_25 : decode cX12_ringSize 25 = .ok (.iload_n 2, 1) := by decide +kernel
theorem dX12_ringSize_26 : decode cX12_ringSize 26 = .ok (.ireturn, 1) := by decide +kernel
set_option maxRecDepth 20000 in
theorem ggX12_leastOf_X12_turned : GoodIn wsX12_leastOf wsX12_turned := goodIn_r _ [9, 10, 11, 12, 13, 8, 14, 15, 16, 17, 18, 19, 20, 21, 22, 23, 24, 25, 26, 27, 28, 29, 30, 31, 32, 33, 34, 35, 36, 37, 38, 39, 40, 41, 42, 43, 44, 45, 46, 47, 48, 49, 50, 51, 52, 53, 54, 55, 56, 57, 58, 59] (by decide +kernel) (by decide +kernel)
set_option maxRecDepth 20000 in
theorem gX12_leastOf_X12_turned : GoodIn wsX12_leastOf (wsV RX12 137 RX12 yX12_turned wsX12_turned) := goodIn_app (goodIn_of _ (by decide +kernel)) ggX12_leastOf_X12_turned
theorem dX12_leastOf_0 : decode cX12_leastOf 0 = .ok (.iload_n 1, 1) := by decide +kernel
theorem dX12_leastOf_1 : decode cX12_leastOf 1 = .ok (.istore_n 2, 1) := by decide +kernel
theorem dX12_leastOf_2 : decode cX12_leastOf 2 = .ok (.aload_n 0, 1) := by decide +kernel
theorem dX12_leastOf_3 : decode cX12_leastOf 3 = .ok (.iload_n 1, 1) := by decide +kernel
theorem dX12_leastOf_4 : decode cX12_leastOf 4 = .ok (.invokevirtual 137, 3) := by decide +kernel
theorem dX12_leastOf_7 : decode cX12_leastOf 7 = .ok (.istore_n 3, 1) := by decide +kernel
theorem dX12_leastOf_8 : decode cX12_leastOf 8 = .ok (.iload_n 3, 1) := by decide +kernel
theorem dX12_leastOf_9 : decode cX12_leastOf 9 = .ok (.iload_n 1, 1) := by decide +kernel
theorem dX12_leastOf_10 : decode cX12_leastOf 10 = .ok (.if_icmp .eq 18, 3) := by decide +kernel
theorem dX12_leastOf_13 : decode cX12_leastOf 13 = .ok (.iload_n 2, 1) := by decide +kernel
theorem dX12_leastOf_14 : decode cX12_leastOf 14 = .ok (.iload_n 3, 1) := by decide +kernel
theorem dX12_leastOf_15 : decode cX12_leastOf 15 = .ok (.invokestatic 140, 3) := by decide +kernel
theorem dX12_leastOf_18 : decode cX12_leastOf 18 = .ok (.istore_n 2, 1) := by decide +kernel
theorem dX12_leastOf_19 : decode cX12_leastOf 19 = .ok (.aload_n 0, 1) := by decide +kernel
theorem dX12_leastOf_20 : decode cX12_leastOf 20 = .ok (.iload_n 3, 1) := by decide +kernel
theorem dX12_leastOf_21 : decode cX12_leastOf 21 = .ok (.invokevirtual 137, 3) := by decide +kernel
theorem dX12_leastOf_24 : decode cX12_leastOf 24 = .ok (.istore_n 3, 1) := by decide +kernel
theorem dX12_leastOf_25 : decode cX12_leastOf 25 = .ok (.goto (-17), 3) := by decide +kernel
theorem dX12_leastOf_28 : decode cX12_leastOf 28 = .ok (.iload_n 2, 1) := by decide +kernel
theorem dX12_leastOf_29 : decode cX12_leastOf 29 = .ok (.ireturn, 1) := by decide +kernel
set_option maxRecDepth 20000 in
theorem ggX12_isRing_X12_leastOf : GoodIn wsX12_isRing wsX12_leastOf := goodIn_r _ [6, 7, 8, 9, 10, 11, 12, 13, 5, 14, 15, 16, 17, 18, 19, 1, 20, 21, 22, 27, 28, 29, 30, 31, 32, 33, 34, 35, 36, 37, 38, 39, 40, 41, 42, 43, 44, 45, 46, 47, 48, 49, 50, 51, 52, 53, 54, 55, 56, 57, 58, 59, 60, 61, 62, 63, 64, 65, 66, 67] (by decide +kernel) (by decide +kernel)
set_option maxRecDepth 20000 in
theorem gX12_isRing_X12_leastOf : GoodIn wsX12_isRing (wsV RX12 145 RX12 yX12_leastOf wsX12_leastOf) := goodIn_app (goodIn_of _ (by decide +kernel)) ggX12_isRing_X12_leastOf
set_option maxRecDepth 20000 in
theorem ggX12_isRing_X12_ringSize : GoodIn wsX12_isRing wsX12_ringSize := goodIn_r _ [26, 11, 12, 13, 5, 14, 15, 16, 17, 18, 19, 1, 20, 21, 22, 27, 28, 29, 30, 31, 32, 33, 34, 35, 36, 37, 38, 39, 40, 41, 42, 43, 44, 45, 46, 47, 48, 49, 50, 51, 52, 53, 54, 55, 56, 57, 58, 59, 60, 61, 62, 63, 64, 65, 66, 67] (by decide +kernel) (by decide +kernel)
set_option maxRecDepth 20000 in
theorem gX12_isRing_X12_ringSize : GoodIn wsX12_isRing (wsV RX12 148 RX12 yX12_ringSize wsX12_ringSize) := goodIn_app (goodIn_of _ (by decide +kernel)) ggX12_isRing_X12_ringSize
theorem dX12_isRing_0 : decode cX12_isRing 0 = .ok (.aload_n 0, 1) := by decide +kernel
theorem dX12_isRing_1 : decode cX12_isRing 1 = .ok (.iload_n 1, 1) := by decide +kernel
theorem dX12_isRing_2 : decode cX12_isRing 2 = .ok (.invokevirtual 145, 3) := by decide +kernel
theorem dX12_isRing_5 : decode cX12_isRing 5 = .ok (.iload_n 1, 1) := by decide +kernel
theorem dX12_isRing_6 : decode cX12_isRing 6 = .ok (.if_icmp .ne 19, 3) := by decide +kernel
theorem dX12_isRing_9 : decode cX12_isRing 9 = .ok (.aload_n 0, 1) := by decide +kernel
theorem dX12_isRing_10 : decode cX12_isRing 10 = .ok (.iload_n 1, 1) := by decide +kernel
theorem dX12_isRing_11 : decode cX12_isRing 11 = .ok (.invokevirtual 148, 3) := by decide +kernel
theorem dX12_isRing_14 : decode cX12_isRing 14 = .ok (.aload_n 0, 1) := by decide +kernel
theorem dX12_isRing_15 : decode cX12_isRing 15 = .ok (.getfield 15, 3) := by decide +kernel
theorem dX12_isRing_18 : decode cX12_isRing 18 = .ok (.if_icmp .ne 7, 3) := by decide +kernel
theorem dX12_isRing_21 : decode cX12_isRing 21 = .ok (.iconst 1, 1) := by decide +kernel
theorem dX12_isRing_22 : decode cX12_isRing 22 = .ok (.goto 4, 3) := by decide +kernel
theorem dX12_isRing_25 : decode cX12_isRing 25 = .ok (.iconst 0, 1) := by decide +kernel
theorem dX12_isRing_26 : decode cX12_isRing 26 = .ok (.ireturn, 1) := by decide +kernel
set_option maxRecDepth 20000 in
theorem ggX12_ringAt_X12_words : GoodIn wsX12_ringAt wsX12_words := goodIn_r _ [5, 6, 7, 8, 9, 4, 10, 31, 32, 33, 34, 35, 36, 37, 38, 39, 40, 41, 42, 43, 44, 45, 46, 47, 48, 49, 50, 51, 52, 53, 54, 55, 56, 57, 58, 59, 60, 61, 62, 63, 64, 65, 66, 67, 68, 69, 70, 71] (by decide +kernel) (by decide +kernel)
set_option maxRecDepth 20000 in
theorem gX12_ringAt_X12_words : GoodIn wsX12_ringAt (wsV RX12 81 RX12 yX12_words wsX12_words) := goodIn_app (goodIn_of _ (by decide +kernel)) ggX12_ringAt_X12_words
set_option maxRecDepth 20000 in
theorem ggX12_ringAt_X12_isRing : GoodIn wsX12_ringAt wsX12_isRing := goodIn_r _ [14, 7, 15, 16, 17, 4, 18, 19, 20, 21, 22, 23, 24, 25, 26, 6, 1, 2, 3, 5, 8, 9, 10, 27, 28, 29, 30, 31, 32, 33, 34, 35, 36, 37, 38, 39, 40, 41, 42, 43, 44, 45, 46, 47, 48, 49, 50, 51, 52, 53, 54, 55, 56, 57, 58, 59, 60, 61, 62, 63, 64, 65, 66, 67, 68, 69, 70, 71] (by decide +kernel) (by decide +kernel)
set_option maxRecDepth 20000 in
theorem gX12_ringAt_X12_isRing : GoodIn wsX12_ringAt (wsV RX12 151 RX12 yX12_isRing wsX12_isRing) := goodIn_app (goodIn_of _ (by decide +kernel)) ggX12_ringAt_X12_isRing
theorem dX12_ringAt_0 : decode cX12_ringAt 0 = .ok (.iload_n 1, 1) := by decide +kernel
theorem dX12_ringAt_1 : decode cX12_ringAt 1 = .ok (.istore_n 2, 1) := by decide +kernel
theorem dX12_ringAt_2 : decode cX12_ringAt 2 = .ok (.iconst 0, 1) := by decide +kernel
theorem dX12_ringAt_3 : decode cX12_ringAt 3 = .ok (.istore_n 3, 1) := by decide +kernel
theorem dX12_ringAt_4 : decode cX12_ringAt 4 = .ok (.iload_n 3, 1) := by decide +kernel
theorem dX12_ringAt_5 : decode cX12_ringAt 5 = .ok (.aload_n 0, 1) := by decide +kernel
theorem dX12_ringAt_6 : decode cX12_ringAt 6 = .ok (.invokevirtual 81, 3) := by decide +kernel
theorem dX12_ringAt_9 : decode cX12_ringAt 9 = .ok (.if_icmp .ge 30, 3) := by decide +kernel
theorem dX12_ringAt_12 : decode cX12_ringAt 12 = .ok (.iload_n 1, 1) := by decide +kernel
theorem dX12_ringAt_13 : decode cX12_ringAt 13 = .ok (.ifCond .lt 26, 3) := by decide +kernel
theorem dX12_ringAt_16 : decode cX12_ringAt 16 = .ok (.aload_n 0, 1) := by decide +kernel
theorem dX12_ringAt_17 : decode cX12_ringAt 17 = .ok (.iload_n 3, 1) := by decide +kernel
theorem dX12_ringAt_18 : decode cX12_ringAt 18 = .ok (.invokevirtual 151, 3) := by decide +kernel
theorem dX12_ringAt_21 : decode cX12_ringAt 21 = .ok (.ifCond .eq 12, 3) := by decide +kernel
theorem dX12_ringAt_24 : decode cX12_ringAt 24 = .ok (.iload_n 2, 1) := by decide +kernel
theorem dX12_ringAt_25 : decode cX12_ringAt 25 = .ok (.ifCond .ne 5, 3) := by decide +kernel
theorem dX12_ringAt_28 : decode cX12_ringAt 28 = .ok (.iload_n 3, 1) := by decide +kernel
theorem dX12_ringAt_29 : decode cX12_ringAt 29 = .ok (.ireturn, 1) := by decide +kernel
theorem dX12_ringAt_30 : decode cX12_ringAt 30 = .ok (.iinc 2 (-1), 3) := by decide +kernel
theorem dX12_ringAt_33 : decode cX12_ringAt 33 = .ok (.iinc 3 1, 3) := by decide +kernel
theorem dX12_ringAt_36 : decode cX12_ringAt 36 = .ok (.goto (-32), 3) := by decide +kernel
theorem dX12_ringAt_39 : decode cX12_ringAt 39 = .ok (.bipush (-5), 2) := by decide +kernel
theorem dX12_ringAt_41 : decode cX12_ringAt 41 = .ok (.ireturn, 1) := by decide +kernel
set_option maxRecDepth 20000 in
theorem ggX12_rings_X12_words : GoodIn wsX12_rings wsX12_words := goodIn_r _ [5, 6, 7, 8, 9, 4, 10, 31, 32, 33, 34, 35, 36, 37, 38, 39, 40, 41, 42, 43, 44, 45, 46, 47, 48, 49, 50, 51, 52, 53, 54, 55, 56, 57, 58, 59, 60, 61, 62, 63, 64, 65, 66, 67, 68, 69, 70, 71] (by decide +kernel) (by decide +kernel)
set_option maxRecDepth 20000 in
theorem gX12_rings_X12_words : GoodIn wsX12_rings (wsV RX12 81 RX12 yX12_words wsX12_words) := goodIn_app (goodIn_of _ (by decide +kernel)) ggX12_rings_X12_words
set_option maxRecDepth 20000 in
theorem ggX12_rings_X12_isRing : GoodIn wsX12_rings wsX12_isRing := goodIn_r _ [14, 7, 15, 16, 17, 4, 18, 19, 20, 21, 22, 23, 24, 25, 26, 6, 1, 2, 3, 5, 8, 9, 10, 27, 28, 29, 30, 31, 32, 33, 34, 35, 36, 37, 38, 39, 40, 41, 42, 43, 44, 45, 46, 47, 48, 49, 50, 51, 52, 53, 54, 55, 56, 57, 58, 59, 60, 61, 62, 63, 64, 65, 66, 67, 68, 69, 70, 71] (by decide +kernel) (by decide +kernel)
set_option maxRecDepth 20000 in
theorem gX12_rings_X12_isRing : GoodIn wsX12_rings (wsV RX12 151 RX12 yX12_isRing wsX12_isRing) := goodIn_app (goodIn_of _ (by decide +kernel)) ggX12_rings_X12_isRing
theorem dX12_rings_0 : decode cX12_rings 0 = .ok (.iconst 0, 1) := by decide +kernel
theorem dX12_rings_1 : decode cX12_rings 1 = .ok (.istore_n 1, 1) := by decide +kernel
theorem dX12_rings_2 : decode cX12_rings 2 = .ok (.iconst 0, 1) := by decide +kernel
theorem dX12_rings_3 : decode cX12_rings 3 = .ok (.istore_n 2, 1) := by decide +kernel
theorem dX12_rings_4 : decode cX12_rings 4 = .ok (.iload_n 2, 1) := by decide +kernel
theorem dX12_rings_5 : decode cX12_rings 5 = .ok (.aload_n 0, 1) := by decide +kernel
theorem dX12_rings_6 : decode cX12_rings 6 = .ok (.invokevirtual 81, 3) := by decide +kernel
theorem dX12_rings_9 : decode cX12_rings 9 = .ok (.if_icmp .ge 25, 3) := by decide +kernel
theorem dX12_rings_12 : decode cX12_rings 12 = .ok (.iload_n 1, 1) := by decide +kernel
theorem dX12_rings_13 : decode cX12_rings 13 = .ok (.aload_n 0, 1) := by decide +kernel
theorem dX12_rings_14 : decode cX12_rings 14 = .ok (.iload_n 2, 1) := by decide +kernel
theorem dX12_rings_15 : decode cX12_rings 15 = .ok (.invokevirtual 151, 3) := by decide +kernel
theorem dX12_rings_18 : decode cX12_rings 18 = .ok (.ifCond .eq 7, 3) := by decide +kernel
theorem dX12_rings_21 : decode cX12_rings 21 = .ok (.iconst 1, 1) := by decide +kernel
theorem dX12_rings_22 : decode cX12_rings 22 = .ok (.goto 4, 3) := by decide +kernel
theorem dX12_rings_25 : decode cX12_rings 25 = .ok (.iconst 0, 1) := by decide +kernel
theorem dX12_rings_26 : decode cX12_rings 26 = .ok (.iadd, 1) := by decide +kernel
theorem dX12_rings_27 : decode cX12_rings 27 = .ok (.istore_n 1, 1) := by decide +kernel
theorem dX12_rings_28 : decode cX12_rings 28 = .ok (.iinc 2 1, 3) := by decide +kernel
theorem dX12_rings_31 : decode cX12_rings 31 = .ok (.goto (-27), 3) := by decide +kernel
theorem dX12_rings_34 : decode cX12_rings 34 = .ok (.iload_n 1, 1) := by decide +kernel
theorem dX12_rings_35 : decode cX12_rings 35 = .ok (.ireturn, 1) := by decide +kernel
set_option maxRecDepth 20000 in
theorem ggX12_ring_X12_isWord : GoodIn wsX12_ring wsX12_isWord := goodIn_r _ [7, 8, 9, 10, 6, 11, 12, 2, 13, 14, 15, 16, 17, 18, 39, 40, 41, 42, 43, 44, 45, 46, 47, 48, 49, 50, 51, 52, 53, 54, 55, 56, 57, 58, 59, 60, 61, 62, 63, 64, 65, 66, 67, 68, 69, 70, 71, 72, 73, 74, 75, 76, 77, 78, 79] (by decide +kernel) (by decide +kernel)
set_option maxRecDepth 20000 in
theorem gX12_ring_X12_isWord : GoodIn wsX12_ring (wsV RX12 101 RX12 yX12_isWord wsX12_isWord) := goodIn_app (goodIn_of _ (by decide +kernel)) ggX12_ring_X12_isWord
set_option maxRecDepth 20000 in
theorem ggX12_ring_X12_isIn : GoodIn wsX12_ring wsX12_isIn := goodIn_r _ [18] (by decide +kernel) (by decide +kernel)
set_option maxRecDepth 20000 in
theorem gX12_ring_X12_isIn : GoodIn wsX12_ring (va_wsS RX12 85 yX12_isIn wsX12_isIn) := goodIn_app (goodIn_of _ (by decide +kernel)) ggX12_ring_X12_isIn
set_option maxRecDepth 20000 in
theorem ggX12_ring_X12_ringSize : GoodIn wsX12_ring wsX12_ringSize := goodIn_r _ [22, 23, 24, 25, 6, 26, 12, 8, 9, 10, 11, 2, 13, 14, 15, 39, 40, 41, 42, 43, 44, 45, 46, 47, 48, 49, 50, 51, 52, 53, 54, 55, 56, 57, 58, 59, 60, 61, 62, 63, 64, 65, 66, 67, 68, 69, 70, 71, 72, 73, 74, 75, 76, 77, 78, 79] (by decide +kernel) (by decide +kernel)
set_option maxRecDepth 20000 in
theorem gX12_ring_X12_ringSize : GoodIn wsX12_ring (wsV RX12 148 RX12 yX12_ringSize wsX12_ringSize) := goodIn_app (goodIn_of _ (by decide +kernel)) ggX12_ring_X12_ringSize
set_option maxRecDepth 20000 in
theorem ggX12_ring_X12_leastOf : GoodIn wsX12_ring wsX12_leastOf := goodIn_r _ [30, 31, 32, 33, 34, 23, 24, 25, 6, 26, 12, 8, 9, 10, 11, 2, 13, 14, 15, 39, 40, 41, 42, 43, 44, 45, 46, 47, 48, 49, 50, 51, 52, 53, 54, 55, 56, 57, 58, 59, 60, 61, 62, 63, 64, 65, 66, 67, 68, 69, 70, 71, 72, 73, 74, 75, 76, 77, 78, 79] (by decide +kernel) (by decide +kernel)
set_option maxRecDepth 20000 in
theorem gX12_ring_X12_leastOf : GoodIn wsX12_ring (wsV RX12 145 RX12 yX12_leastOf wsX12_leastOf) := goodIn_app (goodIn_of _ (by decide +kernel)) ggX12_ring_X12_leastOf
set_option maxRecDepth 20000 in
theorem ggX12_ring_X12_turned : GoodIn wsX12_ring wsX12_turned := goodIn_r _ [26, 12, 8, 9, 10, 6, 11, 2, 13, 14, 15, 39, 40, 41, 42, 43, 44, 45, 46, 47, 48, 49, 50, 51, 52, 53, 54, 55, 56, 57, 58, 59, 60, 61, 62, 63, 64, 65, 66, 67, 68, 69, 70, 71, 72, 73, 74, 75, 76, 77, 78, 79] (by decide +kernel) (by decide +kernel)
set_option maxRecDepth 20000 in
theorem gX12_ring_X12_turned : GoodIn wsX12_ring (wsV RX12 137 RX12 yX12_turned wsX12_turned) := goodIn_app (goodIn_of _ (by decide +kernel)) ggX12_ring_X12_turned
set_option maxRecDepth 20000 in
theorem ggX12_ring_X12_isRing : GoodIn wsX12_ring wsX12_isRing := goodIn_r _ [38, 2, 27, 28, 29, 6, 30, 31, 32, 33, 34, 23, 24, 25, 26, 12, 8, 9, 10, 11, 13, 14, 15, 19, 20, 21, 22, 39, 40, 41, 42, 43, 44, 45, 46, 47, 48, 49, 50, 51, 52, 53, 54, 55, 56, 57, 58, 59, 60, 61, 62, 63, 64, 65, 66, 67, 68, 69, 70, 71, 72, 73, 74, 75, 76, 77, 78, 79] (by decide +kernel) (by decide +kernel)
set_option maxRecDepth 20000 in
theorem gX12_ring_X12_isRing : GoodIn wsX12_ring (wsV RX12 151 RX12 yX12_isRing wsX12_isRing) := goodIn_app (goodIn_of _ (by decide +kernel)) ggX12_ring_X12_isRing
theorem dX12_ring_0 : decode cX12_ring 0 = .ok (.aload_n 0, 1) := by decide +kernel
theorem dX12_ring_1 : decode cX12_ring 1 = .ok (.iload_n 1, 1) := by decide +kernel
theorem dX12_ring_2 : decode cX12_ring 2 = .ok (.invokevirtual 101, 3) := by decide +kernel
theorem dX12_ring_5 : decode cX12_ring 5 = .ok (.ifCond .eq 15, 3) := by decide +kernel
theorem dX12_ring_8 : decode cX12_ring 8 = .ok (.iload_n 2, 1) := by decide +kernel
theorem dX12_ring_9 : decode cX12_ring 9 = .ok (.i2l, 1) := by decide +kernel
theorem dX12_ring_10 : decode cX12_ring 10 = .ok (.lconst 0, 1) := by decide +kernel
theorem dX12_ring_11 : decode cX12_ring 11 = .ok (.ldc2_w 128, 3) := by decide +kernel
theorem dX12_ring_14 : decode cX12_ring 14 = .ok (.invokestatic 85, 3) := by decide +kernel
theorem dX12_ring_17 : decode cX12_ring 17 = .ok (.ifCond .ne 5, 3) := by decide +kernel
theorem dX12_ring_20 : decode cX12_ring 20 = .ok (.iconst (-1), 1) := by decide +kernel
theorem dX12_ring_21 : decode cX12_ring 21 = .ok (.ireturn, 1) := by decide +kernel
theorem dX12_ring_22 : decode cX12_ring 22 = .ok (.iload_n 2, 1) := by decide +kernel
theorem dX12_ring_23 : decode cX12_ring 23 = .ok (.iconst 2, 1) := by decide +kernel
theorem dX12_ring_24 : decode cX12_ring 24 = .ok (.if_icmp .eq 34, 3) := by decide +kernel
theorem dX12_ring_27 : decode cX12_ring 27 = .ok (.iload_n 2, 1) := by decide +kernel
theorem dX12_ring_28 : decode cX12_ring 28 = .ok (.ifCond .ne 11, 3) := by decide +kernel
theorem dX12_ring_31 : decode cX12_ring 31 = .ok (.aload_n 0, 1) := by decide +kernel
theorem dX12_ring_32 : decode cX12_ring 32 = .ok (.iload_n 1, 1) := by decide +kernel
theorem dX12_ring_33 : decode cX12_ring 33 = .ok (.invokevirtual 148, 3) := by decide +kernel
theorem dX12_ring_36 : decode cX12_ring 36 = .ok (.goto 21, 3) := by decide +kernel
theorem dX12_ring_39 : decode cX12_ring 39 = .ok (.iload_n 2, 1) := by decide +kernel
theorem dX12_ring_40 : decode cX12_ring 40 = .ok (.iconst 1, 1) := by decide +kernel
theorem dX12_ring_41 : decode cX12_ring 41 = .ok (.if_icmp .ne 11, 3) := by decide +kernel
theorem dX12_ring_44 : decode cX12_ring 44 = .ok (.aload_n 0, 1) := by decide +kernel
theorem dX12_ring_45 : decode cX12_ring 45 = .ok (.iload_n 1, 1) := by decide +kernel
theorem dX12_ring_46 : decode cX12_ring 46 = .ok (.invokevirtual 145, 3) := by decide +kernel
theorem dX12_ring_49 : decode cX12_ring 49 = .ok (.goto 8, 3) := by decide +kernel
theorem dX12_ring_52 : decode cX12_ring 52 = .ok (.aload_n 0, 1) := by decide +kernel
theorem dX12_ring_53 : decode cX12_ring 53 = .ok (.iload_n 1, 1) := by decide +kernel
theorem dX12_ring_54 : decode cX12_ring 54 = .ok (.invokevirtual 137, 3) := by decide +kernel
theorem dX12_ring_57 : decode cX12_ring 57 = .ok (.ireturn, 1) := by decide +kernel
theorem dX12_ring_58 : decode cX12_ring 58 = .ok (.aload_n 0, 1) := by decide +kernel
theorem dX12_ring_59 : decode cX12_ring 59 = .ok (.iload_n 1, 1) := by decide +kernel
theorem dX12_ring_60 : decode cX12_ring 60 = .ok (.invokevirtual 148, 3) := by decide +kernel
theorem dX12_ring_63 : decode cX12_ring 63 = .ok (.aload_n 0, 1) := by decide +kernel
theorem dX12_ring_64 : decode cX12_ring 64 = .ok (.getfield 15, 3) := by decide +kernel
theorem dX12_ring_67 : decode cX12_ring 67 = .ok (.if_icmp .ge 6, 3) := by decide +kernel
theorem dX12_ring_70 : decode cX12_ring 70 = .ok (.bipush (-5), 2) := by decide +kernel
theorem dX12_ring_72 : decode cX12_ring 72 = .ok (.ireturn, 1) := by decide +kernel
theorem dX12_ring_73 : decode cX12_ring 73 = .ok (.iconst 0, 1) := by decide +kernel
theorem dX12_ring_74 : decode cX12_ring 74 = .ok (.istore_n 3, 1) := by decide +kernel
theorem dX12_ring_75 : decode cX12_ring 75 = .ok (.iconst 0, 1) := by decide +kernel
theorem dX12_ring_76 : decode cX12_ring 76 = .ok (.istore 4, 2) := by decide +kernel
theorem dX12_ring_78 : decode cX12_ring 78 = .ok (.iload 4, 2) := by decide +kernel
theorem dX12_ring_80 : decode cX12_ring 80 = .ok (.aload_n 0, 1) := by decide +kernel
theorem dX12_ring_81 : decode cX12_ring 81 = .ok (.iload_n 1, 1) := by decide +kernel
theorem dX12_ring_82 : decode cX12_ring 82 = .ok (.invokevirtual 145, 3) := by decide +kernel
theorem dX12_ring_85 : decode cX12_ring 85 = .ok (.if_icmp .ge 26, 3) := by decide +kernel
theorem dX12_ring_88 : decode cX12_ring 88 = .ok (.iload_n 3, 1) := by decide +kernel
theorem dX12_ring_89 : decode cX12_ring 89 = .ok (.aload_n 0, 1) := by decide +kernel
theorem dX12_ring_90 : decode cX12_ring 90 = .ok (.iload 4, 2) := by decide +kernel
theorem dX12_ring_92 : decode cX12_ring 92 = .ok (.invokevirtual 151, 3) := by decide +kernel
theorem dX12_ring_95 : decode cX12_ring 95 = .ok (.ifCond .eq 7, 3) := by decide +kernel
theorem dX12_ring_98 : decode cX12_ring 98 = .ok (.iconst 1, 1) := by decide +kernel
theorem dX12_ring_99 : decode cX12_ring 99 = .ok (.goto 4, 3) := by decide +kernel
theorem dX12_ring_102 : decode cX12_ring 102 = .ok (.iconst 0, 1) := by decide +kernel
theorem dX12_ring_103 : decode cX12_ring 103 = .ok (.iadd, 1) := by decide +kernel
theorem dX12_ring_104 : decode cX12_ring 104 = .ok (.istore_n 3, 1) := by decide +kernel
theorem dX12_ring_105 : decode cX12_ring 105 = .ok (.iinc 4 1, 3) := by decide +kernel
theorem dX12_ring_108 : decode cX12_ring 108 = .ok (.goto (-30), 3) := by decide +kernel
theorem dX12_ring_111 : decode cX12_ring 111 = .ok (.iload_n 3, 1) := by decide +kernel
theorem dX12_ring_112 : decode cX12_ring 112 = .ok (.ireturn, 1) := by decide +kernel
set_option maxRecDepth 20000 in
theorem ggX12_bound_X12_rings : GoodIn wsX12_bound wsX12_rings := goodIn_r _ [5, 6, 7, 8, 4, 9, 10, 11, 12, 13, 14, 15, 16, 17, 18, 19, 20, 21, 22, 23, 24, 25, 26, 27, 28, 29, 30, 31, 32, 33, 34, 39, 40, 41, 42, 43, 44, 45, 46, 47, 48, 49, 50, 51, 52, 53, 54, 55, 56, 57, 58, 59, 60, 61, 62, 63, 64, 65, 66, 67, 68, 69, 70, 71, 72, 73, 74, 75, 76, 77, 78, 79] (by decide +kernel) (by decide +kernel)
set_option maxRecDepth 20000 in
theorem gX12_bound_X12_rings : GoodIn wsX12_bound (wsV RX12 154 RX12 yX12_rings wsX12_rings) := goodIn_app (goodIn_of _ (by decide +kernel)) ggX12_bound_X12_rings
set_option maxRecDepth 20000 in
theorem ggX12_bound_X12_ringAt : GoodIn wsX12_bound wsX12_ringAt := goodIn_r _ [38, 6, 7, 8, 4, 9, 10, 11, 12, 13, 14, 15, 16, 17, 18, 19, 20, 21, 22, 23, 24, 25, 26, 27, 28, 29, 30, 31, 32, 33, 34, 39, 40, 41, 42, 43, 44, 45, 46, 47, 48, 49, 50, 51, 52, 53, 54, 55, 56, 57, 58, 59, 60, 61, 62, 63, 64, 65, 66, 67, 68, 69, 70, 71, 72, 73, 74, 75, 76, 77, 78, 79] (by decide +kernel) (by decide +kernel)
set_option maxRecDepth 20000 in
theorem gX12_bound_X12_ringAt : GoodIn wsX12_bound (wsV RX12 157 RX12 yX12_ringAt wsX12_ringAt) := goodIn_app (goodIn_of _ (by decide +kernel)) ggX12_bound_X12_ringAt
theorem dX12_bound_0 : decode cX12_bound 0 = .ok (.iload_n 1, 1) := by decide +kernel
theorem dX12_bound_1 : decode cX12_bound 1 = .ok (.iconst (-1), 1) := by decide +kernel
theorem dX12_bound_2 : decode cX12_bound 2 = .ok (.if_icmp .ne 10, 3) := by decide +kernel
theorem dX12_bound_5 : decode cX12_bound 5 = .ok (.aload_n 0, 1) := by decide +kernel
theorem dX12_bound_6 : decode cX12_bound 6 = .ok (.invokevirtual 154, 3) := by decide +kernel
theorem dX12_bound_9 : decode cX12_bound 9 = .ok (.goto 8, 3) := by decide +kernel
theorem dX12_bound_12 : decode cX12_bound 12 = .ok (.aload_n 0, 1) := by decide +kernel
theorem dX12_bound_13 : decode cX12_bound 13 = .ok (.iload_n 1, 1) := by decide +kernel
theorem dX12_bound_14 : decode cX12_bound 14 = .ok (.invokevirtual 157, 3) := by decide +kernel
theorem dX12_bound_17 : decode cX12_bound 17 = .ok (.ireturn, 1) := by decide +kernel
theorem dX12_orders_0 : decode cX12_orders 0 = .ok (.aload_n 0, 1) := by decide +kernel
theorem dX12_orders_1 : decode cX12_orders 1 = .ok (.getfield 9, 3) := by decide +kernel
theorem dX12_orders_4 : decode cX12_orders 4 = .ok (.iconst 2, 1) := by decide +kernel
theorem dX12_orders_5 : decode cX12_orders 5 = .ok (.if_icmp .ne 7, 3) := by decide +kernel
theorem dX12_orders_8 : decode cX12_orders 8 = .ok (.iconst 2, 1) := by decide +kernel
theorem dX12_orders_9 : decode cX12_orders 9 = .ok (.goto 18, 3) := by decide +kernel
theorem dX12_orders_12 : decode cX12_orders 12 = .ok (.aload_n 0, 1) := by decide +kernel
theorem dX12_orders_13 : decode cX12_orders 13 = .ok (.getfield 9, 3) := by decide +kernel
theorem dX12_orders_16 : decode cX12_orders 16 = .ok (.iconst 3, 1) := by decide +kernel
theorem dX12_orders_17 : decode cX12_orders 17 = .ok (.if_icmp .ne 8, 3) := by decide +kernel
theorem dX12_orders_20 : decode cX12_orders 20 = .ok (.bipush 6, 2) := by decide +kernel
theorem dX12_orders_22 : decode cX12_orders 22 = .ok (.goto 5, 3) := by decide +kernel
theorem dX12_orders_25 : decode cX12_orders 25 = .ok (.bipush 24, 2) := by decide +kernel
theorem dX12_orders_27 : decode cX12_orders 27 = .ok (.ireturn, 1) := by decide +kernel
set_option maxRecDepth 20000 in
theorem ggX12_orders__X12_orders : GoodIn wsX12_orders_ wsX12_orders := goodIn_r _ [7, 1, 8, 9, 10, 11, 12, 13, 14, 15, 16, 17, 18, 19, 20, 21, 22, 23, 24, 25, 26, 27, 28, 29, 30, 31, 32, 33, 34, 35, 36, 37, 38, 39, 40, 41, 42, 43, 44, 45, 46, 47, 48] (by decide +kernel) (by decide +kernel)
set_option maxRecDepth 20000 in
theorem gX12_orders__X12_orders : GoodIn wsX12_orders_ (wsV RX12 160 RX12 yX12_orders wsX12_orders) := goodIn_app (goodIn_of _ (by decide +kernel)) ggX12_orders__X12_orders
theorem dX12_orders__0 : decode cX12_orders_ 0 = .ok (.iload_n 1, 1) := by decide +kernel
theorem dX12_orders__1 : decode cX12_orders_ 1 = .ok (.istore_n 2, 1) := by decide +kernel
theorem dX12_orders__2 : decode cX12_orders_ 2 = .ok (.aload_n 0, 1) := by decide +kernel
theorem dX12_orders__3 : decode cX12_orders_ 3 = .ok (.invokevirtual 160, 3) := by decide +kernel
theorem dX12_orders__6 : decode cX12_orders_ 6 = .ok (.istore_n 3, 1) := by decide +kernel
theorem dX12_orders__7 : decode cX12_orders_ 7 = .ok (.iconst 0, 1) := by decide +kernel
theorem dX12_orders__8 : decode cX12_orders_ 8 = .ok (.istore 4, 2) := by decide +kernel
theorem dX12_orders__10 : decode cX12_orders_ 10 = .ok (.iconst 0, 1) := by decide +kernel
theorem dX12_orders__11 : decode cX12_orders_ 11 = .ok (.istore 5, 2) := by decide +kernel
theorem dX12_orders__13 : decode cX12_orders_ 13 = .ok (.iload 5, 2) := by decide +kernel
theorem dX12_orders__15 : decode cX12_orders_ 15 = .ok (.aload_n 0, 1) := by decide +kernel
theorem dX12_orders__16 : decode cX12_orders_ 16 = .ok (.getfield 9, 3) := by decide +kernel
theorem dX12_orders__19 : decode cX12_orders_ 19 = .ok (.if_icmp .ge 92, 3) := by decide +kernel
theorem dX12_orders__22 : decode cX12_orders_ 22 = .ok (.iload_n 3, 1) := by decide +kernel
theorem dX12_orders__23 : decode cX12_orders_ 23 = .ok (.aload_n 0, 1) := by decide +kernel
theorem dX12_orders__24 : decode cX12_orders_ 24 = .ok (.getfield 9, 3) := by decide +kernel
theorem dX12_orders__27 : decode cX12_orders_ 27 = .ok (.iload 5, 2) := by decide +kernel
theorem dX12_orders__29 : decode cX12_orders_ 29 = .ok (.isub, 1) := by decide +kernel
theorem dX12_orders__30 : decode cX12_orders_ 30 = .ok (.idiv, 1) := by decide +kernel
theorem dX12_orders__31 : decode cX12_orders_ 31 = .ok (.istore_n 3, 1) := by decide +kernel
theorem dX12_orders__32 : decode cX12_orders_ 32 = .ok (.iload_n 2, 1) := by decide +kernel
theorem dX12_orders__33 : decode cX12_orders_ 33 = .ok (.iload_n 3, 1) := by decide +kernel
theorem dX12_orders__34 : decode cX12_orders_ 34 = .ok (.idiv, 1) := by decide +kernel
theorem dX12_orders__35 : decode cX12_orders_ 35 = .ok (.istore 6, 2) := by decide +kernel
theorem dX12_orders__37 : decode cX12_orders_ 37 = .ok (.iload_n 2, 1) := by decide +kernel
theorem dX12_orders__38 : decode cX12_orders_ 38 = .ok (.iload_n 3, 1) := by decide +kernel
theorem dX12_orders__39 : decode cX12_orders_ 39 = .ok (.irem, 1) := by decide +kernel
theorem dX12_orders__40 : decode cX12_orders_ 40 = .ok (.istore_n 2, 1) := by decide +kernel
theorem dX12_orders__41 : decode cX12_orders_ 41 = .ok (.iconst 0, 1) := by decide +kernel
theorem dX12_orders__42 : decode cX12_orders_ 42 = .ok (.istore 7, 2) := by decide +kernel
theorem dX12_orders__44 : decode cX12_orders_ 44 = .ok (.iload 4, 2) := by decide +kernel
theorem dX12_orders__46 : decode cX12_orders_ 46 = .ok (.iload 7, 2) := by decide +kernel
theorem dX12_orders__48 : decode cX12_orders_ 48 = .ok (.ishr, 1) := by decide +kernel
theorem dX12_orders__49 : decode cX12_orders_ 49 = .ok (.iconst 1, 1) := by decide +kernel
theorem dX12_orders__50 : decode cX12_orders_ 50 = .ok (.iand, 1) := by decide +kernel
theorem dX12_orders__51 : decode cX12_orders_ 51 = .ok (.iconst 1, 1) := by decide +kernel
theorem dX12_orders__52 : decode cX12_orders_ 52 = .ok (.if_icmp .eq 8, 3) := by decide +kernel
theorem dX12_orders__55 : decode cX12_orders_ 55 = .ok (.iload 6, 2) := by decide +kernel
theorem dX12_orders__57 : decode cX12_orders_ 57 = .ok (.ifCond .le 30, 3) := by decide +kernel
theorem dX12_orders__60 : decode cX12_orders_ 60 = .ok (.iload 6, 2) := by decide +kernel
theorem dX12_orders__62 : decode cX12_orders_ 62 = .ok (.iload 4, 2) := by decide +kernel
theorem dX12_orders__64 : decode cX12_orders_ 64 = .ok (.iload 7, 2) := by decide +kernel
theorem dX12_orders__66 : decode cX12_orders_ 66 = .ok (.ishr, 1) := by decide +kernel
theorem dX12_orders__67 : decode cX12_orders_ 67 = .ok (.iconst 1, 1) := by decide +kernel
theorem dX12_orders__68 : decode cX12_orders_ 68 = .ok (.iand, 1) := by decide +kernel
theorem dX12_orders__69 : decode cX12_orders_ 69 = .ok (.iconst 1, 1) := by decide +kernel
theorem dX12_orders__70 : decode cX12_orders_ 70 = .ok (.if_icmp .ne 7, 3) := by decide +kernel
theorem dX12_orders__73 : decode cX12_orders_ 73 = .ok (.iconst 0, 1) := by decide +kernel
theorem dX12_orders__74 : decode cX12_orders_ 74 = .ok (.goto 4, 3) := by decide +kernel
theorem dX12_orders__77 : decode cX12_orders_ 77 = .ok (.iconst 1, 1) := by decide +kernel
theorem dX12_orders__78 : decode cX12_orders_ 78 = .ok (.isub, 1) := by decide +kernel
theorem dX12_orders__79 : decode cX12_orders_ 79 = .ok (.istore 6, 2) := by decide +kernel
theorem dX12_orders__81 : decode cX12_orders_ 81 = .ok (.iinc 7 1, 3) := by decide +kernel
theorem dX12_orders__84 : decode cX12_orders_ 84 = .ok (.goto (-40), 3) := by decide +kernel
theorem dX12_orders__87 : decode cX12_orders_ 87 = .ok (.aload_n 0, 1) := by decide +kernel
theorem dX12_orders__88 : decode cX12_orders_ 88 = .ok (.getfield 41, 3) := by decide +kernel
theorem dX12_orders__91 : decode cX12_orders_ 91 = .ok (.iload 5, 2) := by decide +kernel
theorem dX12_orders__93 : decode cX12_orders_ 93 = .ok (.iload 7, 2) := by decide +kernel
theorem dX12_orders__95 : decode cX12_orders_ 95 = .ok (.iastore, 1) := by decide +kernel
theorem dX12_orders__96 : decode cX12_orders_ 96 = .ok (.iload 4, 2) := by decide +kernel
theorem dX12_orders__98 : decode cX12_orders_ 98 = .ok (.iconst 1, 1) := by decide +kernel
theorem dX12_orders__99 : decode cX12_orders_ 99 = .ok (.iload 7, 2) := by decide +kernel
theorem dX12_orders__101 : decode cX12_orders_ 101 = .ok (.ishl, 1) := by decide +kernel
theorem dX12_orders__102 : decode cX12_orders_ 102 = .ok (.ior, 1) := by decide +kernel
theorem dX12_orders__103 : decode cX12_orders_ 103 = .ok (.istore 4, 2) := by decide +kernel
theorem dX12_orders__105 : decode cX12_orders_ 105 = .ok (.iinc 5 1, 3) := by decide +kernel
theorem dX12_orders__108 : decode cX12_orders_ 108 = .ok (.goto (-95), 3) := by decide +kernel
theorem dX12_orders__111 : decode cX12_orders_ 111 = .ok (.return_, 1) := by decide +kernel
set_option maxRecDepth 20000 in
theorem ggX12_swappedBy_X12_orders_ : GoodIn wsX12_swappedBy wsX12_orders_ := goodIn_r _ [8, 2, 3, 9, 10, 11, 7, 12, 20, 21, 22, 23, 24, 25, 26, 27, 28, 29, 30, 31, 32, 33, 34, 35, 36, 37, 38, 39, 40, 41, 42, 43, 44, 45, 46, 47, 48, 49, 50, 51, 52, 53, 54, 55, 56, 57, 58, 59, 60] (by decide +kernel) (by decide +kernel)
set_option maxRecDepth 20000 in
theorem gX12_swappedBy_X12_orders_ : GoodIn wsX12_swappedBy (wsV RX12 163 RX12 yX12_orders_ wsX12_orders_) := goodIn_app (goodIn_of _ (by decide +kernel)) ggX12_swappedBy_X12_orders_
set_option maxRecDepth 20000 in
theorem ggX12_swappedBy_X12_letterOf : GoodIn wsX12_swappedBy wsX12_letterOf := goodIn_r _ [16, 2, 1, 17, 18, 7, 19, 20, 21, 22, 23, 24, 25, 26, 27, 28, 29, 30, 31, 32, 33, 34, 35, 36, 37, 38, 39, 40, 41, 42, 43, 44, 45, 46, 47, 48, 49, 50, 51, 52, 53, 54, 55, 56, 57, 58, 59, 60] (by decide +kernel) (by decide +kernel)
set_option maxRecDepth 20000 in
theorem gX12_swappedBy_X12_letterOf : GoodIn wsX12_swappedBy (wsV RX12 112 RX12 yX12_letterOf wsX12_letterOf) := goodIn_app (goodIn_of _ (by decide +kernel)) ggX12_swappedBy_X12_letterOf
theorem dX12_swappedBy_0 : decode cX12_swappedBy 0 = .ok (.aload_n 0, 1) := by decide +kernel
theorem dX12_swappedBy_1 : decode cX12_swappedBy 1 = .ok (.iload_n 1, 1) := by decide +kernel
theorem dX12_swappedBy_2 : decode cX12_swappedBy 2 = .ok (.iconst 2, 1) := by decide +kernel
theorem dX12_swappedBy_3 : decode cX12_swappedBy 3 = .ok (.idiv, 1) := by decide +kernel
theorem dX12_swappedBy_4 : decode cX12_swappedBy 4 = .ok (.invokevirtual 163, 3) := by decide +kernel
theorem dX12_swappedBy_7 : decode cX12_swappedBy 7 = .ok (.iconst 0, 1) := by decide +kernel
theorem dX12_swappedBy_8 : decode cX12_swappedBy 8 = .ok (.istore_n 3, 1) := by decide +kernel
theorem dX12_swappedBy_9 : decode cX12_swappedBy 9 = .ok (.iconst 0, 1) := by decide +kernel
theorem dX12_swappedBy_10 : decode cX12_swappedBy 10 = .ok (.istore 4, 2) := by decide +kernel
theorem dX12_swappedBy_12 : decode cX12_swappedBy 12 = .ok (.iload 4, 2) := by decide +kernel
theorem dX12_swappedBy_14 : decode cX12_swappedBy 14 = .ok (.aload_n 0, 1) := by decide +kernel
theorem dX12_swappedBy_15 : decode cX12_swappedBy 15 = .ok (.getfield 15, 3) := by decide +kernel
theorem dX12_swappedBy_18 : decode cX12_swappedBy 18 = .ok (.if_icmp .ge 47, 3) := by decide +kernel
theorem dX12_swappedBy_21 : decode cX12_swappedBy 21 = .ok (.aload_n 0, 1) := by decide +kernel
theorem dX12_swappedBy_22 : decode cX12_swappedBy 22 = .ok (.getfield 9, 3) := by decide +kernel
theorem dX12_swappedBy_25 : decode cX12_swappedBy 25 = .ok (.iload_n 3, 1) := by decide +kernel
theorem dX12_swappedBy_26 : decode cX12_swappedBy 26 = .ok (.imul, 1) := by decide +kernel
theorem dX12_swappedBy_27 : decode cX12_swappedBy 27 = .ok (.aload_n 0, 1) := by decide +kernel
theorem dX12_swappedBy_28 : decode cX12_swappedBy 28 = .ok (.getfield 41, 3) := by decide +kernel
theorem dX12_swappedBy_31 : decode cX12_swappedBy 31 = .ok (.aload_n 0, 1) := by decide +kernel
theorem dX12_swappedBy_32 : decode cX12_swappedBy 32 = .ok (.iload_n 2, 1) := by decide +kernel
theorem dX12_swappedBy_33 : decode cX12_swappedBy 33 = .ok (.iload_n 1, 1) := by decide +kernel
theorem dX12_swappedBy_34 : decode cX12_swappedBy 34 = .ok (.iconst 2, 1) := by decide +kernel
theorem dX12_swappedBy_35 : decode cX12_swappedBy 35 = .ok (.irem, 1) := by decide +kernel
theorem dX12_swappedBy_36 : decode cX12_swappedBy 36 = .ok (.ifCond .ne 8, 3) := by decide +kernel
theorem dX12_swappedBy_39 : decode cX12_swappedBy 39 = .ok (.iload 4, 2) := by decide +kernel
theorem dX12_swappedBy_41 : decode cX12_swappedBy 41 = .ok (.goto 12, 3) := by decide +kernel
theorem dX12_swappedBy_44 : decode cX12_swappedBy 44 = .ok (.aload_n 0, 1) := by decide +kernel
theorem dX12_swappedBy_45 : decode cX12_swappedBy 45 = .ok (.getfield 15, 3) := by decide +kernel
theorem dX12_swappedBy_48 : decode cX12_swappedBy 48 = .ok (.iconst 1, 1) := by decide +kernel
theorem dX12_swappedBy_49 : decode cX12_swappedBy 49 = .ok (.isub, 1) := by decide +kernel
theorem dX12_swappedBy_50 : decode cX12_swappedBy 50 = .ok (.iload 4, 2) := by decide +kernel
theorem dX12_swappedBy_52 : decode cX12_swappedBy 52 = .ok (.isub, 1) := by decide +kernel
theorem dX12_swappedBy_53 : decode cX12_swappedBy 53 = .ok (.invokevirtual 112, 3) := by decide +kernel
theorem dX12_swappedBy_56 : decode cX12_swappedBy 56 = .ok (.iaload, 1) := by decide +kernel
theorem dX12_swappedBy_57 : decode cX12_swappedBy 57 = .ok (.iadd, 1) := by decide +kernel
theorem dX12_swappedBy_58 : decode cX12_swappedBy 58 = .ok (.istore_n 3, 1) := by decide +kernel
theorem dX12_swappedBy_59 : decode cX12_swappedBy 59 = .ok (.iinc 4 1, 3) := by decide +kernel
theorem dX12_swappedBy_62 : decode cX12_swappedBy 62 = .ok (.goto (-50), 3) := by decide +kernel
theorem dX12_swappedBy_65 : decode cX12_swappedBy 65 = .ok (.iload_n 3, 1) := by decide +kernel
theorem dX12_swappedBy_66 : decode cX12_swappedBy 66 = .ok (.ireturn, 1) := by decide +kernel
set_option maxRecDepth 20000 in
theorem ggX12_isSwap_X12_orders : GoodIn wsX12_isSwap wsX12_orders := goodIn_r _ [5, 6, 10, 11, 12, 13, 14, 15, 16, 17, 18, 19, 20, 21, 22, 23, 24, 25, 26, 27, 28, 29, 30, 31, 32, 33, 34, 35, 36, 37, 38, 39, 40, 41, 42, 43, 44, 45, 46, 47, 48, 49, 50] (by decide +kernel) (by decide +kernel)
set_option maxRecDepth 20000 in
theorem gX12_isSwap_X12_orders : GoodIn wsX12_isSwap (wsV RX12 160 RX12 yX12_orders wsX12_orders) := goodIn_app (goodIn_of _ (by decide +kernel)) ggX12_isSwap_X12_orders
set_option maxRecDepth 20000 in
theorem ggX12_isSwap_X12_isIn : GoodIn wsX12_isSwap wsX12_isIn := goodIn_r _ [9] (by decide +kernel) (by decide +kernel)
set_option maxRecDepth 20000 in
theorem gX12_isSwap_X12_isIn : GoodIn wsX12_isSwap (va_wsS RX12 85 yX12_isIn wsX12_isIn) := goodIn_app (goodIn_of _ (by decide +kernel)) ggX12_isSwap_X12_isIn
theorem dX12_isSwap_0 : decode cX12_isSwap 0 = .ok (.iload_n 1, 1) := by decide +kernel
theorem dX12_isSwap_1 : decode cX12_isSwap 1 = .ok (.i2l, 1) := by decide +kernel
theorem dX12_isSwap_2 : decode cX12_isSwap 2 = .ok (.lconst 0, 1) := by decide +kernel
theorem dX12_isSwap_3 : decode cX12_isSwap 3 = .ok (.iconst 2, 1) := by decide +kernel
theorem dX12_isSwap_4 : decode cX12_isSwap 4 = .ok (.aload_n 0, 1) := by decide +kernel
theorem dX12_isSwap_5 : decode cX12_isSwap 5 = .ok (.invokevirtual 160, 3) := by decide +kernel
theorem dX12_isSwap_8 : decode cX12_isSwap 8 = .ok (.imul, 1) := by decide +kernel
theorem dX12_isSwap_9 : decode cX12_isSwap 9 = .ok (.iconst 1, 1) := by decide +kernel
theorem dX12_isSwap_10 : decode cX12_isSwap 10 = .ok (.isub, 1) := by decide +kernel
theorem dX12_isSwap_11 : decode cX12_isSwap 11 = .ok (.i2l, 1) := by decide +kernel
theorem dX12_isSwap_12 : decode cX12_isSwap 12 = .ok (.invokestatic 85, 3) := by decide +kernel
theorem dX12_isSwap_15 : decode cX12_isSwap 15 = .ok (.ireturn, 1) := by decide +kernel
set_option maxRecDepth 20000 in
theorem ggX12_swapped_X12_isSwap : GoodIn wsX12_swapped wsX12_isSwap := goodIn_r _ [5, 6, 7, 8, 4, 9, 10, 11, 12, 13, 39, 40, 41, 42, 43, 44, 45, 46, 47, 48, 49, 50, 51, 52, 53, 54, 55, 56, 57, 58, 59, 60, 61, 62, 63, 64, 65, 66, 67, 68, 69, 70, 71, 72, 73, 74, 75, 76, 77, 78, 79] (by decide +kernel) (by decide +kernel)
set_option maxRecDepth 20000 in
theorem gX12_swapped_X12_isSwap : GoodIn wsX12_swapped (wsV RX12 166 RX12 yX12_isSwap wsX12_isSwap) := goodIn_app (goodIn_of _ (by decide +kernel)) ggX12_swapped_X12_isSwap
set_option maxRecDepth 20000 in
theorem ggX12_swapped_X12_isWord : GoodIn wsX12_swapped wsX12_isWord := goodIn_r _ [17, 18, 19, 20, 4, 21, 10, 22, 23, 24, 25, 11, 12, 13, 39, 40, 41, 42, 43, 44, 45, 46, 47, 48, 49, 50, 51, 52, 53, 54, 55, 56, 57, 58, 59, 60, 61, 62, 63, 64, 65, 66, 67, 68, 69, 70, 71, 72, 73, 74, 75, 76, 77, 78, 79] (by decide +kernel) (by decide +kernel)
set_option maxRecDepth 20000 in
theorem gX12_swapped_X12_isWord : GoodIn wsX12_swapped (wsV RX12 101 RX12 yX12_isWord wsX12_isWord) := goodIn_app (goodIn_of _ (by decide +kernel)) ggX12_swapped_X12_isWord
set_option maxRecDepth 20000 in
theorem ggX12_swapped_X12_swappedBy : GoodIn wsX12_swapped wsX12_swappedBy := goodIn_r _ [29, 22, 10, 30, 31, 32, 33, 4, 34, 6, 7, 8, 9, 35, 36, 37, 38, 23, 24, 25, 39, 40, 41, 42, 43, 44, 45, 46, 47, 48, 49, 50, 51, 52, 53, 54, 55, 56, 57, 58, 59, 60, 61, 62, 63, 64, 65, 66, 67, 68, 69, 70, 71, 72, 73, 74, 75, 76, 77, 78, 79] (by decide +kernel) (by decide +kernel)
set_option maxRecDepth 20000 in
theorem gX12_swapped_X12_swappedBy : GoodIn wsX12_swapped (wsV RX12 169 RX12 yX12_swappedBy wsX12_swappedBy) := goodIn_app (goodIn_of _ (by decide +kernel)) ggX12_swapped_X12_swappedBy
theorem dX12_swapped_0 : decode cX12_swapped 0 = .ok (.aload_n 0, 1) := by decide +kernel
theorem dX12_swapped_1 : decode cX12_swapped 1 = .ok (.iload_n 1, 1) := by decide +kernel
theorem dX12_swapped_2 : decode cX12_swapped 2 = .ok (.invokevirtual 166, 3) := by decide +kernel
theorem dX12_swapped_5 : decode cX12_swapped 5 = .ok (.ifCond .eq 20, 3) := by decide +kernel
theorem dX12_swapped_8 : decode cX12_swapped 8 = .ok (.aload_n 0, 1) := by decide +kernel
theorem dX12_swapped_9 : decode cX12_swapped 9 = .ok (.iload_n 2, 1) := by decide +kernel
theorem dX12_swapped_10 : decode cX12_swapped 10 = .ok (.invokevirtual 101, 3) := by decide +kernel
theorem dX12_swapped_13 : decode cX12_swapped 13 = .ok (.ifCond .eq 12, 3) := by decide +kernel
theorem dX12_swapped_16 : decode cX12_swapped 16 = .ok (.aload_n 0, 1) := by decide +kernel
theorem dX12_swapped_17 : decode cX12_swapped 17 = .ok (.iload_n 1, 1) := by decide +kernel
theorem dX12_swapped_18 : decode cX12_swapped 18 = .ok (.iload_n 2, 1) := by decide +kernel
theorem dX12_swapped_19 : decode cX12_swapped 19 = .ok (.invokevirtual 169, 3) := by decide +kernel
theorem dX12_swapped_22 : decode cX12_swapped 22 = .ok (.goto 4, 3) := by decide +kernel
theorem dX12_swapped_25 : decode cX12_swapped 25 = .ok (.iconst (-1), 1) := by decide +kernel
theorem dX12_swapped_26 : decode cX12_swapped 26 = .ok (.ireturn, 1) := by decide +kernel
set_option maxRecDepth 20000 in
theorem ggX12_swaps_X12_words : GoodIn wsX12_swaps wsX12_words := goodIn_r _ [7, 8, 9, 10, 11, 6, 12, 30, 31, 32, 33, 34, 35, 36, 37, 38, 39, 40, 41, 42, 43, 44, 45, 46, 47, 48, 49, 50, 51, 52, 53, 54, 55, 56, 57, 58, 59, 60, 61, 62, 63, 64, 65, 66, 67, 68, 69, 70] (by decide +kernel) (by decide +kernel)
set_option maxRecDepth 20000 in
theorem gX12_swaps_X12_words : GoodIn wsX12_swaps (wsV RX12 81 RX12 yX12_words wsX12_words) := goodIn_app (goodIn_of _ (by decide +kernel)) ggX12_swaps_X12_words
set_option maxRecDepth 20000 in
theorem ggX12_swaps_X12_swappedBy : GoodIn wsX12_swaps wsX12_swappedBy := goodIn_r _ [16, 9, 8, 17, 18, 19, 20, 6, 21, 22, 23, 24, 25, 26, 27, 28, 29, 10, 11, 12, 30, 31, 32, 33, 34, 35, 36, 37, 38, 39, 40, 41, 42, 43, 44, 45, 46, 47, 48, 49, 50, 51, 52, 53, 54, 55, 56, 57, 58, 59, 60, 61, 62, 63, 64, 65, 66, 67, 68, 69, 70] (by decide +kernel) (by decide +kernel)
set_option maxRecDepth 20000 in
theorem gX12_swaps_X12_swappedBy : GoodIn wsX12_swaps (wsV RX12 169 RX12 yX12_swappedBy wsX12_swappedBy) := goodIn_app (goodIn_of _ (by decide +kernel)) ggX12_swaps_X12_swappedBy
theorem dX12_swaps_0 : decode cX12_swaps 0 = .ok (.iconst 0, 1) := by decide +kernel
theorem dX12_swaps_1 : decode cX12_swaps 1 = .ok (.istore_n 2, 1) := by decide +kernel
theorem dX12_swaps_2 : decode cX12_swaps 2 = .ok (.iload_n 2, 1) := by decide +kernel
theorem dX12_swaps_3 : decode cX12_swaps 3 = .ok (.sipush 256, 3) := by decide +kernel
theorem dX12_swaps_6 : decode cX12_swaps 6 = .ok (.if_icmp .ge 16, 3) := by decide +kernel
theorem dX12_swaps_9 : decode cX12_swaps 9 = .ok (.aload_n 0, 1) := by decide +kernel
theorem dX12_swaps_10 : decode cX12_swaps 10 = .ok (.getfield 44, 3) := by decide +kernel
theorem dX12_swaps_13 : decode cX12_swaps 13 = .ok (.iload_n 2, 1) := by decide +kernel
theorem dX12_swaps_14 : decode cX12_swaps 14 = .ok (.iconst 0, 1) := by decide +kernel
theorem dX12_swaps_15 : decode cX12_swaps 15 = .ok (.bastore, 1) := by decide +kernel
theorem dX12_swaps_16 : decode cX12_swaps 16 = .ok (.iinc 2 1, 3) := by decide +kernel
theorem dX12_swaps_19 : decode cX12_swaps 19 = .ok (.goto (-17), 3) := by decide +kernel
theorem dX12_swaps_22 : decode cX12_swaps 22 = .ok (.iconst 0, 1) := by decide +kernel
theorem dX12_swaps_23 : decode cX12_swaps 23 = .ok (.istore_n 2, 1) := by decide +kernel
theorem dX12_swaps_24 : decode cX12_swaps 24 = .ok (.iload_n 2, 1) := by decide +kernel
theorem dX12_swaps_25 : decode cX12_swaps 25 = .ok (.aload_n 0, 1) := by decide +kernel
theorem dX12_swaps_26 : decode cX12_swaps 26 = .ok (.invokevirtual 81, 3) := by decide +kernel
theorem dX12_swaps_29 : decode cX12_swaps 29 = .ok (.if_icmp .ge 30, 3) := by decide +kernel
theorem dX12_swaps_32 : decode cX12_swaps 32 = .ok (.aload_n 0, 1) := by decide +kernel
theorem dX12_swaps_33 : decode cX12_swaps 33 = .ok (.getfield 18, 3) := by decide +kernel
theorem dX12_swaps_36 : decode cX12_swaps 36 = .ok (.iload_n 2, 1) := by decide +kernel
theorem dX12_swaps_37 : decode cX12_swaps 37 = .ok (.baload, 1) := by decide +kernel
theorem dX12_swaps_38 : decode cX12_swaps 38 = .ok (.ifCond .eq 15, 3) := by decide +kernel
theorem dX12_swaps_41 : decode cX12_swaps 41 = .ok (.aload_n 0, 1) := by decide +kernel
theorem dX12_swaps_42 : decode cX12_swaps 42 = .ok (.getfield 44, 3) := by decide +kernel
theorem dX12_swaps_45 : decode cX12_swaps 45 = .ok (.aload_n 0, 1) := by decide +kernel
theorem dX12_swaps_46 : decode cX12_swaps 46 = .ok (.iload_n 1, 1) := by decide +kernel
theorem dX12_swaps_47 : decode cX12_swaps 47 = .ok (.iload_n 2, 1) := by decide +kernel
theorem dX12_swaps_48 : decode cX12_swaps 48 = .ok (.invokevirtual 169, 3) := by decide +kernel
theorem dX12_swaps_51 : decode cX12_swaps 51 = .ok (.iconst 1, 1) := by decide +kernel
theorem dX12_swaps_52 : decode cX12_swaps 52 = .ok (.bastore, 1) := by decide +kernel
theorem dX12_swaps_53 : decode cX12_swaps 53 = .ok (.iinc 2 1, 3) := by decide +kernel
theorem dX12_swaps_56 : decode cX12_swaps 56 = .ok (.goto (-32), 3) := by decide +kernel
theorem dX12_swaps_59 : decode cX12_swaps 59 = .ok (.return_, 1) := by decide +kernel
theorem dX12_becomesImage_0 : decode cX12_becomesImage 0 = .ok (.iconst 0, 1) := by decide +kernel
theorem dX12_becomesImage_1 : decode cX12_becomesImage 1 = .ok (.istore_n 1, 1) := by decide +kernel
theorem dX12_becomesImage_2 : decode cX12_becomesImage 2 = .ok (.iload_n 1, 1) := by decide +kernel
theorem dX12_becomesImage_3 : decode cX12_becomesImage 3 = .ok (.sipush 256, 3) := by decide +kernel
theorem dX12_becomesImage_6 : decode cX12_becomesImage 6 = .ok (.if_icmp .ge 21, 3) := by decide +kernel
theorem dX12_becomesImage_9 : decode cX12_becomesImage 9 = .ok (.aload_n 0, 1) := by decide +kernel
theorem dX12_becomesImage_10 : decode cX12_becomesImage 10 = .ok (.getfield 18, 3) := by decide +kernel
theorem dX12_becomesImage_13 : decode cX12_becomesImage 13 = .ok (.iload_n 1, 1) := by decide +kernel
theorem dX12_becomesImage_14 : decode cX12_becomesImage 14 = .ok (.aload_n 0, 1) := by decide +kernel
theorem dX12_becomesImage_15 : decode cX12_becomesImage 15 = .ok (.getfield 44, 3) := by decide +kernel
theorem dX12_becomesImage_18 : decode cX12_becomesImage 18 = .ok (.iload_n 1, 1) := by decide +kernel
theorem dX12_becomesImage_19 : decode cX12_becomesImage 19 = .ok (.baload, 1) := by decide +kernel
theorem dX12_becomesImage_20 : decode cX12_becomesImage 20 = .ok (.bastore, 1) := by decide +kernel
theorem dX12_becomesImage_21 : decode cX12_becomesImage 21 = .ok (.iinc 1 1, 3) := by decide +kernel
theorem dX12_becomesImage_24 : decode cX12_becomesImage 24 = .ok (.goto (-22), 3) := by decide +kernel
theorem dX12_becomesImage_27 : decode cX12_becomesImage 27 = .ok (.return_, 1) := by decide +kernel
set_option maxRecDepth 20000 in
theorem ggX12_swap_X12_isSwap : GoodIn wsX12_swap wsX12_isSwap := goodIn_r _ [5, 6, 7, 8, 4, 9, 10, 11, 12, 13, 49, 50, 51, 52, 53, 54, 55, 56, 57, 58, 59, 60, 61, 62, 63, 64, 65, 66, 67, 68, 69, 70, 71, 72, 73, 74, 75, 76, 77, 78, 79, 80, 81, 82, 83, 84, 85, 86, 87, 88, 89] (by decide +kernel) (by decide +kernel)
set_option maxRecDepth 20000 in
theorem gX12_swap_X12_isSwap : GoodIn wsX12_swap (wsV RX12 166 RX12 yX12_isSwap wsX12_isSwap) := goodIn_app (goodIn_of _ (by decide +kernel)) ggX12_swap_X12_isSwap
set_option maxRecDepth 20000 in
theorem ggX12_swap_X12_swaps : GoodIn wsX12_swap wsX12_swaps := goodIn_r _ [17, 18, 19, 20, 21, 22, 4, 23, 10, 24, 25, 26, 27, 28, 29, 30, 31, 32, 33, 34, 35, 36, 6, 7, 8, 9, 37, 38, 39, 40, 49, 50, 51, 52, 53, 54, 55, 56, 57, 58, 59, 60, 61, 62, 63, 64, 65, 66, 67, 68, 69, 70, 71, 72, 73, 74, 75, 76, 77, 78, 79, 80, 81, 82, 83, 84, 85, 86, 87, 88, 89] (by decide +kernel) (by decide +kernel)
set_option maxRecDepth 20000 in
theorem gX12_swap_X12_swaps : GoodIn wsX12_swap (wsV RX12 172 RX12 yX12_swaps wsX12_swaps) := goodIn_app (goodIn_of _ (by decide +kernel)) ggX12_swap_X12_swaps
set_option maxRecDepth 20000 in
theorem ggX12_swap_X12_becomesImage : GoodIn wsX12_swap wsX12_becomesImage := goodIn_r _ [44, 19, 18, 49, 50, 51, 52, 53, 54, 55, 56, 57, 58, 59, 60, 61, 62, 63, 64, 65, 66, 67, 68, 69, 70, 71, 72, 73, 74, 75, 76, 77, 78, 79, 80, 81, 82, 83, 84, 85, 86, 87, 88, 89] (by decide +kernel) (by decide +kernel)
set_option maxRecDepth 20000 in
theorem gX12_swap_X12_becomesImage : GoodIn wsX12_swap (wsV RX12 175 RX12 yX12_becomesImage wsX12_becomesImage) := goodIn_app (goodIn_of _ (by decide +kernel)) ggX12_swap_X12_becomesImage
set_option maxRecDepth 20000 in
theorem ggX12_swap_X12_many : GoodIn wsX12_swap wsX12_many := goodIn_r _ [48, 19, 49, 50, 51, 52, 53, 54, 55, 56, 57, 58, 59, 60, 61, 62, 63, 64, 65, 66, 67, 68, 69, 70, 71, 72, 73, 74, 75, 76, 77, 78, 79, 80, 81, 82, 83, 84, 85, 86, 87, 88, 89] (by decide +kernel) (by decide +kernel)
set_option maxRecDepth 20000 in
theorem gX12_swap_X12_many : GoodIn wsX12_swap (wsV RX12 105 RX12 yX12_many wsX12_many) := goodIn_app (goodIn_of _ (by decide +kernel)) ggX12_swap_X12_many
theorem dX12_swap_0 : decode cX12_swap 0 = .ok (.aload_n 0, 1) := by decide +kernel
theorem dX12_swap_1 : decode cX12_swap 1 = .ok (.iload_n 1, 1) := by decide +kernel
theorem dX12_swap_2 : decode cX12_swap 2 = .ok (.invokevirtual 166, 3) := by decide +kernel
theorem dX12_swap_5 : decode cX12_swap 5 = .ok (.ifCond .ne 5, 3) := by decide +kernel
theorem dX12_swap_8 : decode cX12_swap 8 = .ok (.iconst (-1), 1) := by decide +kernel
theorem dX12_swap_9 : decode cX12_swap 9 = .ok (.ireturn, 1) := by decide +kernel
theorem dX12_swap_10 : decode cX12_swap 10 = .ok (.aload_n 0, 1) := by decide +kernel
theorem dX12_swap_11 : decode cX12_swap 11 = .ok (.iload_n 1, 1) := by decide +kernel
theorem dX12_swap_12 : decode cX12_swap 12 = .ok (.invokevirtual 172, 3) := by decide +kernel
theorem dX12_swap_15 : decode cX12_swap 15 = .ok (.aload_n 0, 1) := by decide +kernel
theorem dX12_swap_16 : decode cX12_swap 16 = .ok (.invokevirtual 175, 3) := by decide +kernel
theorem dX12_swap_19 : decode cX12_swap 19 = .ok (.aload_n 0, 1) := by decide +kernel
theorem dX12_swap_20 : decode cX12_swap 20 = .ok (.invokevirtual 105, 3) := by decide +kernel
theorem dX12_swap_23 : decode cX12_swap 23 = .ok (.ireturn, 1) := by decide +kernel
set_option maxRecDepth 20000 in
theorem ggX12_keeps_X12_orders : GoodIn wsX12_keeps wsX12_orders := goodIn_r _ [7, 8, 34, 35, 36, 37, 38, 39, 40, 41, 42, 43, 44, 45, 46, 47, 48, 49, 50, 51, 52, 53, 54, 55, 56, 57, 58, 59, 60, 61, 62, 63, 64, 65, 66, 67, 68, 69, 70, 71, 72, 73, 74] (by decide +kernel) (by decide +kernel)
set_option maxRecDepth 20000 in
theorem gX12_keeps_X12_orders : GoodIn wsX12_keeps (wsV RX12 160 RX12 yX12_orders wsX12_orders) := goodIn_app (goodIn_of _ (by decide +kernel)) ggX12_keeps_X12_orders
set_option maxRecDepth 20000 in
theorem ggX12_keeps_X12_swaps : GoodIn wsX12_keeps wsX12_swaps := goodIn_r _ [12, 1, 2, 13, 14, 15, 6, 16, 8, 17, 18, 19, 20, 21, 22, 23, 24, 25, 26, 27, 28, 29, 3, 4, 5, 7, 30, 31, 32, 33, 34, 35, 36, 37, 38, 39, 40, 41, 42, 43, 44, 45, 46, 47, 48, 49, 50, 51, 52, 53, 54, 55, 56, 57, 58, 59, 60, 61, 62, 63, 64, 65, 66, 67, 68, 69, 70, 71, 72, 73, 74] (by decide +kernel) (by decide +kernel)
set_option maxRecDepth 20000 in
theorem gX12_keeps_X12_swaps : GoodIn wsX12_keeps (wsV RX12 172 RX12 yX12_swaps wsX12_swaps) := goodIn_app (goodIn_of _ (by decide +kernel)) ggX12_keeps_X12_swaps
theorem dX12_keeps_0 : decode cX12_keeps 0 = .ok (.iconst 0, 1) := by decide +kernel
theorem dX12_keeps_1 : decode cX12_keeps 1 = .ok (.istore_n 2, 1) := by decide +kernel
theorem dX12_keeps_2 : decode cX12_keeps 2 = .ok (.iconst 0, 1) := by decide +kernel
theorem dX12_keeps_3 : decode cX12_keeps 3 = .ok (.istore_n 3, 1) := by decide +kernel
theorem dX12_keeps_4 : decode cX12_keeps 4 = .ok (.iload_n 3, 1) := by decide +kernel
theorem dX12_keeps_5 : decode cX12_keeps 5 = .ok (.iconst 2, 1) := by decide +kernel
theorem dX12_keeps_6 : decode cX12_keeps 6 = .ok (.aload_n 0, 1) := by decide +kernel
theorem dX12_keeps_7 : decode cX12_keeps 7 = .ok (.invokevirtual 160, 3) := by decide +kernel
theorem dX12_keeps_10 : decode cX12_keeps 10 = .ok (.imul, 1) := by decide +kernel
theorem dX12_keeps_11 : decode cX12_keeps 11 = .ok (.if_icmp .ge 81, 3) := by decide +kernel
theorem dX12_keeps_14 : decode cX12_keeps 14 = .ok (.iload_n 1, 1) := by decide +kernel
theorem dX12_keeps_15 : decode cX12_keeps 15 = .ok (.iconst (-1), 1) := by decide +kernel
theorem dX12_keeps_16 : decode cX12_keeps 16 = .ok (.if_icmp .lt 76, 3) := by decide +kernel
theorem dX12_keeps_19 : decode cX12_keeps 19 = .ok (.aload_n 0, 1) := by decide +kernel
theorem dX12_keeps_20 : decode cX12_keeps 20 = .ok (.iload_n 3, 1) := by decide +kernel
theorem dX12_keeps_21 : decode cX12_keeps 21 = .ok (.invokevirtual 172, 3) := by decide +kernel
theorem dX12_keeps_24 : decode cX12_keeps 24 = .ok (.iconst 1, 1) := by decide +kernel
theorem dX12_keeps_25 : decode cX12_keeps 25 = .ok (.istore 4, 2) := by decide +kernel
theorem dX12_keeps_27 : decode cX12_keeps 27 = .ok (.iconst 0, 1) := by decide +kernel
theorem dX12_keeps_28 : decode cX12_keeps 28 = .ok (.istore 5, 2) := by decide +kernel
theorem dX12_keeps_30 : decode cX12_keeps 30 = .ok (.iload 5, 2) := by decide +kernel
theorem dX12_keeps_32 : decode cX12_keeps 32 = .ok (.sipush 256, 3) := by decide +kernel
theorem dX12_keeps_35 : decode cX12_keeps 35 = .ok (.if_icmp .ge 36, 3) := by decide +kernel
theorem dX12_keeps_38 : decode cX12_keeps 38 = .ok (.iload 4, 2) := by decide +kernel
theorem dX12_keeps_40 : decode cX12_keeps 40 = .ok (.aload_n 0, 1) := by decide +kernel
theorem dX12_keeps_41 : decode cX12_keeps 41 = .ok (.getfield 44, 3) := by decide +kernel
theorem dX12_keeps_44 : decode cX12_keeps 44 = .ok (.iload 5, 2) := by decide +kernel
theorem dX12_keeps_46 : decode cX12_keeps 46 = .ok (.baload, 1) := by decide +kernel
theorem dX12_keeps_47 : decode cX12_keeps 47 = .ok (.aload_n 0, 1) := by decide +kernel
theorem dX12_keeps_48 : decode cX12_keeps 48 = .ok (.getfield 18, 3) := by decide +kernel
theorem dX12_keeps_51 : decode cX12_keeps 51 = .ok (.iload 5, 2) := by decide +kernel
theorem dX12_keeps_53 : decode cX12_keeps 53 = .ok (.baload, 1) := by decide +kernel
theorem dX12_keeps_54 : decode cX12_keeps 54 = .ok (.if_icmp .ne 7, 3) := by decide +kernel
theorem dX12_keeps_57 : decode cX12_keeps 57 = .ok (.iconst 1, 1) := by decide +kernel
theorem dX12_keeps_58 : decode cX12_keeps 58 = .ok (.goto 4, 3) := by decide +kernel
theorem dX12_keeps_61 : decode cX12_keeps 61 = .ok (.iconst 0, 1) := by decide +kernel
theorem dX12_keeps_62 : decode cX12_keeps 62 = .ok (.iand, 1) := by decide +kernel
theorem dX12_keeps_63 : decode cX12_keeps 63 = .ok (.istore 4, 2) := by decide +kernel
theorem dX12_keeps_65 : decode cX12_keeps 65 = .ok (.iinc 5 1, 3) := by decide +kernel
theorem dX12_keeps_68 : decode cX12_keeps 68 = .ok (.goto (-38), 3) := by decide +kernel
theorem dX12_keeps_71 : decode cX12_keeps 71 = .ok (.iload 4, 2) := by decide +kernel
theorem dX12_keeps_73 : decode cX12_keeps 73 = .ok (.ifCond .eq 13, 3) := by decide +kernel
theorem dX12_keeps_76 : decode cX12_keeps 76 = .ok (.iload_n 2, 1) := by decide +kernel
theorem dX12_keeps_77 : decode cX12_keeps 77 = .ok (.iload_n 1, 1) := by decide +kernel
theorem dX12_keeps_78 : decode cX12_keeps 78 = .ok (.if_icmp .ne 5, 3) := by decide +kernel
theorem dX12_keeps_81 : decode cX12_keeps 81 = .ok (.iload_n 3, 1) := by decide +kernel
theorem dX12_keeps_82 : decode cX12_keeps 82 = .ok (.ireturn, 1) := by decide +kernel
theorem dX12_keeps_83 : decode cX12_keeps 83 = .ok (.iinc 2 1, 3) := by decide +kernel
theorem dX12_keeps_86 : decode cX12_keeps 86 = .ok (.iinc 3 1, 3) := by decide +kernel
theorem dX12_keeps_89 : decode cX12_keeps 89 = .ok (.goto (-85), 3) := by decide +kernel
theorem dX12_keeps_92 : decode cX12_keeps 92 = .ok (.iload_n 1, 1) := by decide +kernel
theorem dX12_keeps_93 : decode cX12_keeps 93 = .ok (.iconst (-1), 1) := by decide +kernel
theorem dX12_keeps_94 : decode cX12_keeps 94 = .ok (.if_icmp .ne 7, 3) := by decide +kernel
theorem dX12_keeps_97 : decode cX12_keeps 97 = .ok (.iload_n 2, 1) := by decide +kernel
theorem dX12_keeps_98 : decode cX12_keeps 98 = .ok (.goto 5, 3) := by decide +kernel
theorem dX12_keeps_101 : decode cX12_keeps 101 = .ok (.bipush (-5), 2) := by decide +kernel
theorem dX12_keeps_103 : decode cX12_keeps 103 = .ok (.ireturn, 1) := by decide +kernel
theorem dX12_keepsBook_0 : decode cX12_keepsBook 0 = .ok (.iconst 0, 1) := by decide +kernel
theorem dX12_keepsBook_1 : decode cX12_keepsBook 1 = .ok (.istore_n 2, 1) := by decide +kernel
theorem dX12_keepsBook_2 : decode cX12_keepsBook 2 = .ok (.iload_n 2, 1) := by decide +kernel
theorem dX12_keepsBook_3 : decode cX12_keepsBook 3 = .ok (.sipush 256, 3) := by decide +kernel
theorem dX12_keepsBook_6 : decode cX12_keepsBook 6 = .ok (.if_icmp .ge 18, 3) := by decide +kernel
theorem dX12_keepsBook_9 : decode cX12_keepsBook 9 = .ok (.aload_n 1, 1) := by decide +kernel
theorem dX12_keepsBook_10 : decode cX12_keepsBook 10 = .ok (.iload_n 2, 1) := by decide +kernel
theorem dX12_keepsBook_11 : decode cX12_keepsBook 11 = .ok (.aload_n 0, 1) := by decide +kernel
theorem dX12_keepsBook_12 : decode cX12_keepsBook 12 = .ok (.getfield 18, 3) := by decide +kernel
theorem dX12_keepsBook_15 : decode cX12_keepsBook 15 = .ok (.iload_n 2, 1) := by decide +kernel
theorem dX12_keepsBook_16 : decode cX12_keepsBook 16 = .ok (.baload, 1) := by decide +kernel
theorem dX12_keepsBook_17 : decode cX12_keepsBook 17 = .ok (.bastore, 1) := by decide +kernel
theorem dX12_keepsBook_18 : decode cX12_keepsBook 18 = .ok (.iinc 2 1, 3) := by decide +kernel
theorem dX12_keepsBook_21 : decode cX12_keepsBook 21 = .ok (.goto (-19), 3) := by decide +kernel
theorem dX12_keepsBook_24 : decode cX12_keepsBook 24 = .ok (.return_, 1) := by decide +kernel
set_option maxRecDepth 20000 in
theorem ggX12_isAhead_X12_swappedBy : GoodIn wsX12_isAhead wsX12_swappedBy := goodIn_r _ [8, 9, 10, 11, 12, 13, 14, 7, 15, 16, 17, 18, 19, 20, 21, 22, 23, 24, 25, 26, 63, 64, 65, 66, 67, 68, 69, 70, 71, 72, 73, 74, 75, 76, 77, 78, 79, 80, 81, 82, 83, 84, 85, 86, 87, 88, 89, 90, 91, 92, 93, 94, 95, 96, 97, 98, 99, 100, 101, 102, 103] (by decide +kernel) (by decide +kernel)
set_option maxRecDepth 20000 in
theorem gX12_isAhead_X12_swappedBy : GoodIn wsX12_isAhead (wsV RX12 169 RX12 yX12_swappedBy wsX12_swappedBy) := goodIn_app (goodIn_of _ (by decide +kernel)) ggX12_isAhead_X12_swappedBy
set_option maxRecDepth 20000 in
theorem ggX12_isAhead_X12_ring : GoodIn wsX12_isAhead wsX12_ring := goodIn_r _ [30, 31, 9, 32, 33, 34, 7, 35, 36, 37, 38, 39, 10, 24, 25, 26, 40, 41, 42, 43, 44, 45, 46, 47, 48, 49, 50, 51, 52, 53, 54, 55, 56, 57, 58, 59, 60, 61, 62, 63, 64, 65, 66, 67, 68, 69, 70, 71, 72, 73, 74, 75, 76, 77, 78, 79, 80, 81, 82, 83, 84, 85, 86, 87, 88, 89, 90, 91, 92, 93, 94, 95, 96, 97, 98, 99, 100, 101, 102, 103] (by decide +kernel) (by decide +kernel)
set_option maxRecDepth 20000 in
theorem gX12_isAhead_X12_ring : GoodIn wsX12_isAhead (wsV RX12 181 RX12 yX12_ring wsX12_ring) := goodIn_app (goodIn_of _ (by decide +kernel)) ggX12_isAhead_X12_ring
theorem dX12_isAhead_0 : decode cX12_isAhead 0 = .ok (.iconst 0, 1) := by decide +kernel
theorem dX12_isAhead_1 : decode cX12_isAhead 1 = .ok (.istore_n 2, 1) := by decide +kernel
theorem dX12_isAhead_2 : decode cX12_isAhead 2 = .ok (.iload_n 2, 1) := by decide +kernel
theorem dX12_isAhead_3 : decode cX12_isAhead 3 = .ok (.aload_n 0, 1) := by decide +kernel
theorem dX12_isAhead_4 : decode cX12_isAhead 4 = .ok (.getfield 178, 3) := by decide +kernel
theorem dX12_isAhead_7 : decode cX12_isAhead 7 = .ok (.if_icmp .ge 18, 3) := by decide +kernel
theorem dX12_isAhead_10 : decode cX12_isAhead 10 = .ok (.aload_n 0, 1) := by decide +kernel
theorem dX12_isAhead_11 : decode cX12_isAhead 11 = .ok (.getfield 50, 3) := by decide +kernel
theorem dX12_isAhead_14 : decode cX12_isAhead 14 = .ok (.iload_n 2, 1) := by decide +kernel
theorem dX12_isAhead_15 : decode cX12_isAhead 15 = .ok (.sipush 256, 3) := by decide +kernel
theorem dX12_isAhead_18 : decode cX12_isAhead 18 = .ok (.iastore, 1) := by decide +kernel
theorem dX12_isAhead_19 : decode cX12_isAhead 19 = .ok (.iinc 2 1, 3) := by decide +kernel
theorem dX12_isAhead_22 : decode cX12_isAhead 22 = .ok (.goto (-20), 3) := by decide +kernel
theorem dX12_isAhead_25 : decode cX12_isAhead 25 = .ok (.iconst 0, 1) := by decide +kernel
theorem dX12_isAhead_26 : decode cX12_isAhead 26 = .ok (.istore_n 2, 1) := by decide +kernel
theorem dX12_isAhead_27 : decode cX12_isAhead 27 = .ok (.iload_n 2, 1) := by decide +kernel
theorem dX12_isAhead_28 : decode cX12_isAhead 28 = .ok (.aload_n 0, 1) := by decide +kernel
theorem dX12_isAhead_29 : decode cX12_isAhead 29 = .ok (.getfield 178, 3) := by decide +kernel
theorem dX12_isAhead_32 : decode cX12_isAhead 32 = .ok (.if_icmp .ge 45, 3) := by decide +kernel
theorem dX12_isAhead_35 : decode cX12_isAhead 35 = .ok (.aload_n 0, 1) := by decide +kernel
theorem dX12_isAhead_36 : decode cX12_isAhead 36 = .ok (.getfield 47, 3) := by decide +kernel
theorem dX12_isAhead_39 : decode cX12_isAhead 39 = .ok (.iload_n 2, 1) := by decide +kernel
theorem dX12_isAhead_40 : decode cX12_isAhead 40 = .ok (.iaload, 1) := by decide +kernel
theorem dX12_isAhead_41 : decode cX12_isAhead 41 = .ok (.sipush 256, 3) := by decide +kernel
theorem dX12_isAhead_44 : decode cX12_isAhead 44 = .ok (.if_icmp .ge 27, 3) := by decide +kernel
theorem dX12_isAhead_47 : decode cX12_isAhead 47 = .ok (.aload_n 0, 1) := by decide +kernel
theorem dX12_isAhead_48 : decode cX12_isAhead 48 = .ok (.iload_n 1, 1) := by decide +kernel
theorem dX12_isAhead_49 : decode cX12_isAhead 49 = .ok (.aload_n 0, 1) := by decide +kernel
theorem dX12_isAhead_50 : decode cX12_isAhead 50 = .ok (.getfield 47, 3) := by decide +kernel
theorem dX12_isAhead_53 : decode cX12_isAhead 53 = .ok (.iload_n 2, 1) := by decide +kernel
theorem dX12_isAhead_54 : decode cX12_isAhead 54 = .ok (.iaload, 1) := by decide +kernel
theorem dX12_isAhead_55 : decode cX12_isAhead 55 = .ok (.invokevirtual 169, 3) := by decide +kernel
theorem dX12_isAhead_58 : decode cX12_isAhead 58 = .ok (.istore_n 3, 1) := by decide +kernel
theorem dX12_isAhead_59 : decode cX12_isAhead 59 = .ok (.aload_n 0, 1) := by decide +kernel
theorem dX12_isAhead_60 : decode cX12_isAhead 60 = .ok (.getfield 50, 3) := by decide +kernel
theorem dX12_isAhead_63 : decode cX12_isAhead 63 = .ok (.aload_n 0, 1) := by decide +kernel
theorem dX12_isAhead_64 : decode cX12_isAhead 64 = .ok (.iload_n 3, 1) := by decide +kernel
theorem dX12_isAhead_65 : decode cX12_isAhead 65 = .ok (.iconst 2, 1) := by decide +kernel
theorem dX12_isAhead_66 : decode cX12_isAhead 66 = .ok (.invokevirtual 181, 3) := by decide +kernel
theorem dX12_isAhead_69 : decode cX12_isAhead 69 = .ok (.iload_n 3, 1) := by decide +kernel
theorem dX12_isAhead_70 : decode cX12_isAhead 70 = .ok (.iastore, 1) := by decide +kernel
theorem dX12_isAhead_71 : decode cX12_isAhead 71 = .ok (.iinc 2 1, 3) := by decide +kernel
theorem dX12_isAhead_74 : decode cX12_isAhead 74 = .ok (.goto (-47), 3) := by decide +kernel
theorem dX12_isAhead_77 : decode cX12_isAhead 77 = .ok (.iconst 0, 1) := by decide +kernel
theorem dX12_isAhead_78 : decode cX12_isAhead 78 = .ok (.istore_n 2, 1) := by decide +kernel
theorem dX12_isAhead_79 : decode cX12_isAhead 79 = .ok (.iload_n 2, 1) := by decide +kernel
theorem dX12_isAhead_80 : decode cX12_isAhead 80 = .ok (.aload_n 0, 1) := by decide +kernel
theorem dX12_isAhead_81 : decode cX12_isAhead 81 = .ok (.getfield 178, 3) := by decide +kernel
theorem dX12_isAhead_84 : decode cX12_isAhead 84 = .ok (.if_icmp .ge 45, 3) := by decide +kernel
theorem dX12_isAhead_87 : decode cX12_isAhead 87 = .ok (.aload_n 0, 1) := by decide +kernel
theorem dX12_isAhead_88 : decode cX12_isAhead 88 = .ok (.getfield 50, 3) := by decide +kernel
theorem dX12_isAhead_91 : decode cX12_isAhead 91 = .ok (.iload_n 2, 1) := by decide +kernel
theorem dX12_isAhead_92 : decode cX12_isAhead 92 = .ok (.iaload, 1) := by decide +kernel
theorem dX12_isAhead_93 : decode cX12_isAhead 93 = .ok (.aload_n 0, 1) := by decide +kernel
theorem dX12_isAhead_94 : decode cX12_isAhead 94 = .ok (.getfield 47, 3) := by decide +kernel
theorem dX12_isAhead_97 : decode cX12_isAhead 97 = .ok (.iload_n 2, 1) := by decide +kernel
theorem dX12_isAhead_98 : decode cX12_isAhead 98 = .ok (.iaload, 1) := by decide +kernel
theorem dX12_isAhead_99 : decode cX12_isAhead 99 = .ok (.if_icmp .eq 24, 3) := by decide +kernel
theorem dX12_isAhead_102 : decode cX12_isAhead 102 = .ok (.aload_n 0, 1) := by decide +kernel
theorem dX12_isAhead_103 : decode cX12_isAhead 103 = .ok (.getfield 50, 3) := by decide +kernel
theorem dX12_isAhead_106 : decode cX12_isAhead 106 = .ok (.iload_n 2, 1) := by decide +kernel
theorem dX12_isAhead_107 : decode cX12_isAhead 107 = .ok (.iaload, 1) := by decide +kernel
theorem dX12_isAhead_108 : decode cX12_isAhead 108 = .ok (.aload_n 0, 1) := by decide +kernel
theorem dX12_isAhead_109 : decode cX12_isAhead 109 = .ok (.getfield 47, 3) := by decide +kernel
theorem dX12_isAhead_112 : decode cX12_isAhead 112 = .ok (.iload_n 2, 1) := by decide +kernel
theorem dX12_isAhead_113 : decode cX12_isAhead 113 = .ok (.iaload, 1) := by decide +kernel
theorem dX12_isAhead_114 : decode cX12_isAhead 114 = .ok (.if_icmp .ge 7, 3) := by decide +kernel
theorem dX12_isAhead_117 : decode cX12_isAhead 117 = .ok (.iconst 1, 1) := by decide +kernel
theorem dX12_isAhead_118 : decode cX12_isAhead 118 = .ok (.goto 4, 3) := by decide +kernel
theorem dX12_isAhead_121 : decode cX12_isAhead 121 = .ok (.iconst 0, 1) := by decide +kernel
theorem dX12_isAhead_122 : decode cX12_isAhead 122 = .ok (.ireturn, 1) := by decide +kernel
theorem dX12_isAhead_123 : decode cX12_isAhead 123 = .ok (.iinc 2 1, 3) := by decide +kernel
theorem dX12_isAhead_126 : decode cX12_isAhead 126 = .ok (.goto (-47), 3) := by decide +kernel
theorem dX12_isAhead_129 : decode cX12_isAhead 129 = .ok (.iconst 0, 1) := by decide +kernel
theorem dX12_isAhead_130 : decode cX12_isAhead 130 = .ok (.ireturn, 1) := by decide +kernel
set_option maxRecDepth 20000 in
theorem ggX12_isFirst_X12_orders : GoodIn wsX12_isFirst wsX12_orders := goodIn_r _ [5, 6, 67, 68, 69, 70, 71, 72, 73, 74, 75, 76, 77, 78, 79, 80, 81, 82, 83, 84, 85, 86, 87, 88, 89, 90, 91, 92, 93, 94, 95, 96, 97, 98, 99, 100, 101, 102, 103, 104, 105, 106, 107] (by decide +kernel) (by decide +kernel)
set_option maxRecDepth 20000 in
theorem gX12_isFirst_X12_orders : GoodIn wsX12_isFirst (wsV RX12 160 RX12 yX12_orders wsX12_orders) := goodIn_app (goodIn_of _ (by decide +kernel)) ggX12_isFirst_X12_orders
set_option maxRecDepth 20000 in
theorem ggX12_isFirst_X12_isAhead : GoodIn wsX12_isFirst wsX12_isAhead := goodIn_r _ [10, 11, 12, 13, 14, 15, 16, 4, 17, 18, 6, 19, 20, 21, 22, 23, 1, 2, 3, 5, 24, 25, 26, 27, 28, 29, 30, 31, 32, 33, 34, 35, 36, 37, 38, 39, 40, 41, 42, 43, 44, 45, 46, 47, 48, 49, 50, 51, 52, 53, 54, 55, 56, 57, 58, 59, 60, 61, 62, 63, 64, 65, 66, 67, 68, 69, 70, 71, 72, 73, 74, 75, 76, 77, 78, 79, 80, 81, 82, 83, 84, 85, 86, 87, 88, 89, 90, 91, 92, 93, 94, 95, 96, 97, 98, 99, 100, 101, 102, 103, 104, 105, 106, 107] (by decide +kernel) (by decide +kernel)
set_option maxRecDepth 20000 in
theorem gX12_isFirst_X12_isAhead : GoodIn wsX12_isFirst (wsV RX12 184 RX12 yX12_isAhead wsX12_isAhead) := goodIn_app (goodIn_of _ (by decide +kernel)) ggX12_isFirst_X12_isAhead
theorem dX12_isFirst_0 : decode cX12_isFirst 0 = .ok (.iconst 1, 1) := by decide +kernel
theorem dX12_isFirst_1 : decode cX12_isFirst 1 = .ok (.istore_n 1, 1) := by decide +kernel
theorem dX12_isFirst_2 : decode cX12_isFirst 2 = .ok (.iconst 0, 1) := by decide +kernel
theorem dX12_isFirst_3 : decode cX12_isFirst 3 = .ok (.istore_n 2, 1) := by decide +kernel
theorem dX12_isFirst_4 : decode cX12_isFirst 4 = .ok (.iload_n 2, 1) := by decide +kernel
theorem dX12_isFirst_5 : decode cX12_isFirst 5 = .ok (.iconst 2, 1) := by decide +kernel
theorem dX12_isFirst_6 : decode cX12_isFirst 6 = .ok (.aload_n 0, 1) := by decide +kernel
theorem dX12_isFirst_7 : decode cX12_isFirst 7 = .ok (.invokevirtual 160, 3) := by decide +kernel
theorem dX12_isFirst_10 : decode cX12_isFirst 10 = .ok (.imul, 1) := by decide +kernel
theorem dX12_isFirst_11 : decode cX12_isFirst 11 = .ok (.if_icmp .ge 27, 3) := by decide +kernel
theorem dX12_isFirst_14 : decode cX12_isFirst 14 = .ok (.iload_n 1, 1) := by decide +kernel
theorem dX12_isFirst_15 : decode cX12_isFirst 15 = .ok (.ifCond .eq 23, 3) := by decide +kernel
theorem dX12_isFirst_18 : decode cX12_isFirst 18 = .ok (.aload_n 0, 1) := by decide +kernel
theorem dX12_isFirst_19 : decode cX12_isFirst 19 = .ok (.iload_n 2, 1) := by decide +kernel
theorem dX12_isFirst_20 : decode cX12_isFirst 20 = .ok (.invokevirtual 184, 3) := by decide +kernel
theorem dX12_isFirst_23 : decode cX12_isFirst 23 = .ok (.ifCond .ne 7, 3) := by decide +kernel
theorem dX12_isFirst_26 : decode cX12_isFirst 26 = .ok (.iconst 1, 1) := by decide +kernel
theorem dX12_isFirst_27 : decode cX12_isFirst 27 = .ok (.goto 4, 3) := by decide +kernel
theorem dX12_isFirst_30 : decode cX12_isFirst 30 = .ok (.iconst 0, 1) := by decide +kernel
theorem dX12_isFirst_31 : decode cX12_isFirst 31 = .ok (.istore_n 1, 1) := by decide +kernel
theorem dX12_isFirst_32 : decode cX12_isFirst 32 = .ok (.iinc 2 1, 3) := by decide +kernel
theorem dX12_isFirst_35 : decode cX12_isFirst 35 = .ok (.goto (-31), 3) := by decide +kernel
theorem dX12_isFirst_38 : decode cX12_isFirst 38 = .ok (.iload_n 1, 1) := by decide +kernel
theorem dX12_isFirst_39 : decode cX12_isFirst 39 = .ok (.ireturn, 1) := by decide +kernel
set_option maxRecDepth 20000 in
theorem ggX12_searches_X12_isFirst : GoodIn wsX12_searches wsX12_isFirst := goodIn_r _ [14, 15, 16, 17, 13, 18, 19, 20, 21, 22, 23, 1, 24, 6, 25, 26, 27, 28, 29, 30, 31, 32, 33, 34, 35, 36, 37, 38, 39, 40, 41, 42, 43, 44, 45, 46, 47, 48, 49, 50, 51, 52, 53, 54, 55, 56, 57, 58, 59, 60, 61, 62, 63, 64, 65, 66, 67, 68, 69, 70, 71, 72, 73, 74, 75, 76, 77, 96, 97, 98, 99, 100, 101, 102, 103, 104, 105, 106, 107, 108, 109, 110, 111, 112, 113, 114, 115, 116, 117, 118, 119, 120, 121, 122, 123, 124, 125, 126, 127, 128, 129, 130, 131, 132, 133, 134, 135, 136] (by decide +kernel) (by decide +kernel)
set_option maxRecDepth 20000 in
theorem gX12_searches_X12_isFirst : GoodIn wsX12_searches (wsV RX12 205 RX12 yX12_isFirst wsX12_isFirst) := goodIn_app (goodIn_of _ (by decide +kernel)) ggX12_searches_X12_isFirst
set_option maxRecDepth 20000 in
theorem ggX12_searches_X12_ringAt : GoodIn wsX12_searches wsX12_ringAt := goodIn_r _ [81, 51, 52, 53, 13, 54, 19, 29, 39, 40, 41, 74, 75, 76, 77, 66, 67, 68, 69, 70, 71, 72, 73, 62, 63, 64, 65, 58, 59, 60, 61, 96, 97, 98, 99, 100, 101, 102, 103, 104, 105, 106, 107, 108, 109, 110, 111, 112, 113, 114, 115, 116, 117, 118, 119, 120, 121, 122, 123, 124, 125, 126, 127, 128, 129, 130, 131, 132, 133, 134, 135, 136] (by decide +kernel) (by decide +kernel)
set_option maxRecDepth 20000 in
theorem gX12_searches_X12_ringAt : GoodIn wsX12_searches (wsV RX12 157 RX12 yX12_ringAt wsX12_ringAt) := goodIn_app (goodIn_of _ (by decide +kernel)) ggX12_searches_X12_ringAt
set_option maxRecDepth 20000 in
theorem ggX12_searches_X12_words : GoodIn wsX12_searches wsX12_words := goodIn_r _ [54, 19, 29, 39, 40, 13, 41, 96, 97, 98, 99, 100, 101, 102, 103, 104, 105, 106, 107, 108, 109, 110, 111, 112, 113, 114, 115, 116, 117, 118, 119, 120, 121, 122, 123, 124, 125, 126, 127, 128, 129, 130, 131, 132, 133, 134, 135, 136] (by decide +kernel) (by decide +kernel)
set_option maxRecDepth 20000 in
theorem gX12_searches_X12_words : GoodIn wsX12_searches (wsV RX12 81 RX12 yX12_words wsX12_words) := goodIn_app (goodIn_of _ (by decide +kernel)) ggX12_searches_X12_words
set_option maxRecDepth 20000 in
theorem ggX12_searches_X12_leastOf : GoodIn wsX12_searches wsX12_leastOf := goodIn_r _ [69, 70, 71, 72, 73, 62, 63, 64, 13, 65, 19, 51, 52, 53, 54, 29, 39, 40, 41, 96, 97, 98, 99, 100, 101, 102, 103, 104, 105, 106, 107, 108, 109, 110, 111, 112, 113, 114, 115, 116, 117, 118, 119, 120, 121, 122, 123, 124, 125, 126, 127, 128, 129, 130, 131, 132, 133, 134, 135, 136] (by decide +kernel) (by decide +kernel)
set_option maxRecDepth 20000 in
theorem gX12_searches_X12_leastOf : GoodIn wsX12_searches (wsV RX12 145 RX12 yX12_leastOf wsX12_leastOf) := goodIn_app (goodIn_of _ (by decide +kernel)) ggX12_searches_X12_leastOf
set_option maxRecDepth 20000 in
theorem ggX12_searches_X12_isFree : GoodIn wsX12_searches wsX12_isFree := goodIn_r _ [85, 9, 29, 86, 87, 88, 51, 52, 53, 13, 54, 19, 39, 40, 41, 89, 90, 91, 92, 96, 97, 98, 99, 100, 101, 102, 103, 104, 105, 106, 107, 108, 109, 110, 111, 112, 113, 114, 115, 116, 117, 118, 119, 120, 121, 122, 123, 124, 125, 126, 127, 128, 129, 130, 131, 132, 133, 134, 135, 136] (by decide +kernel) (by decide +kernel)
set_option maxRecDepth 20000 in
theorem gX12_searches_X12_isFree : GoodIn wsX12_searches (wsV RX12 130 RX12 yX12_isFree wsX12_isFree) := goodIn_app (goodIn_of _ (by decide +kernel)) ggX12_searches_X12_isFree
set_option maxRecDepth 20000 in
theorem ggX12_searches_X12_searches : GoodIn wsX12_searches wsX12_searches := goodIn_r _ [0, 1, 2, 3, 4, 5, 6, 7, 8, 9, 10, 11, 12, 13, 14, 15, 16, 17, 18, 19, 20, 21, 22, 23, 24, 25, 26, 27, 28, 29, 30, 31, 32, 33, 34, 35, 36, 37, 38, 39, 40, 41, 42, 43, 44, 45, 46, 47, 48, 49, 50, 51, 52, 53, 54, 55, 56, 57, 58, 59, 60, 61, 62, 63, 64, 65, 66, 67, 68, 69, 70, 71, 72, 73, 74, 75, 76, 77, 78, 79, 80, 81, 82, 83, 84, 85, 86, 87, 88, 89, 90, 91, 92, 93, 94, 95, 96, 97, 98, 99, 100, 101, 102, 103, 104, 105, 106, 107, 108, 109, 110, 111, 112, 113, 114, 115, 116, 117, 118, 119, 120, 121, 122, 123, 124, 125, 126, 127, 128, 129, 130, 131, 132, 133, 134, 135, 136] (by decide +kernel) (by decide +kernel)
set_option maxRecDepth 20000 in
theorem gX12_searches_X12_searches : GoodIn wsX12_searches (wsV RX12 208 RX12 yX12_searches wsX12_searches) := goodIn_app (goodIn_of _ (by decide +kernel)) ggX12_searches_X12_searches
theorem dX12_searches_0 : decode cX12_searches 0 = .ok (.iload_n 2, 1) := by decide +kernel
theorem dX12_searches_1 : decode cX12_searches 1 = .ok (.aload_n 0, 1) := by decide +kernel
theorem dX12_searches_2 : decode cX12_searches 2 = .ok (.getfield 178, 3) := by decide +kernel
theorem dX12_searches_5 : decode cX12_searches 5 = .ok (.iadd, 1) := by decide +kernel
theorem dX12_searches_6 : decode cX12_searches 6 = .ok (.iload_n 1, 1) := by decide +kernel
theorem dX12_searches_7 : decode cX12_searches 7 = .ok (.isub, 1) := by decide +kernel
theorem dX12_searches_8 : decode cX12_searches 8 = .ok (.aload_n 0, 1) := by decide +kernel
theorem dX12_searches_9 : decode cX12_searches 9 = .ok (.getfield 187, 3) := by decide +kernel
theorem dX12_searches_12 : decode cX12_searches 12 = .ok (.if_icmp .ge 4, 3) := by decide +kernel
theorem dX12_searches_15 : decode cX12_searches 15 = .ok (.return_, 1) := by decide +kernel
theorem dX12_searches_16 : decode cX12_searches 16 = .ok (.iload_n 1, 1) := by decide +kernel
theorem dX12_searches_17 : decode cX12_searches 17 = .ok (.aload_n 0, 1) := by decide +kernel
theorem dX12_searches_18 : decode cX12_searches 18 = .ok (.getfield 178, 3) := by decide +kernel
theorem dX12_searches_21 : decode cX12_searches 21 = .ok (.if_icmp .ne 92, 3) := by decide +kernel
theorem dX12_searches_24 : decode cX12_searches 24 = .ok (.iload_n 3, 1) := by decide +kernel
theorem dX12_searches_25 : decode cX12_searches 25 = .ok (.ifCond .ne 9, 3) := by decide +kernel
theorem dX12_searches_28 : decode cX12_searches 28 = .ok (.aload_n 0, 1) := by decide +kernel
theorem dX12_searches_29 : decode cX12_searches 29 = .ok (.iload_n 2, 1) := by decide +kernel
theorem dX12_searches_30 : decode cX12_searches 30 = .ok (.putfield 187, 3) := by decide +kernel
theorem dX12_searches_33 : decode cX12_searches 33 = .ok (.return_, 1) := by decide +kernel
theorem dX12_searches_34 : decode cX12_searches 34 = .ok (.aload_n 0, 1) := by decide +kernel
theorem dX12_searches_35 : decode cX12_searches 35 = .ok (.aload_n 0, 1) := by decide +kernel
theorem dX12_searches_36 : decode cX12_searches 36 = .ok (.getfield 190, 3) := by decide +kernel
theorem dX12_searches_39 : decode cX12_searches 39 = .ok (.aload_n 0, 1) := by decide +kernel
theorem dX12_searches_40 : decode cX12_searches 40 = .ok (.getfield 193, 3) := by decide +kernel
theorem dX12_searches_43 : decode cX12_searches 43 = .ok (.if_icmp .ne 22, 3) := by decide +kernel
theorem dX12_searches_46 : decode cX12_searches 46 = .ok (.aload_n 0, 1) := by decide +kernel
theorem dX12_searches_47 : decode cX12_searches 47 = .ok (.getfield 196, 3) := by decide +kernel
theorem dX12_searches_50 : decode cX12_searches 50 = .ok (.ifCond .lt 15, 3) := by decide +kernel
theorem dX12_searches_53 : decode cX12_searches 53 = .ok (.aload_n 0, 1) := by decide +kernel
theorem dX12_searches_54 : decode cX12_searches 54 = .ok (.getfield 47, 3) := by decide +kernel
theorem dX12_searches_57 : decode cX12_searches 57 = .ok (.aload_n 0, 1) := by decide +kernel
theorem dX12_searches_58 : decode cX12_searches 58 = .ok (.getfield 196, 3) := by decide +kernel
theorem dX12_searches_61 : decode cX12_searches 61 = .ok (.iaload, 1) := by decide +kernel
theorem dX12_searches_62 : decode cX12_searches 62 = .ok (.goto 7, 3) := by decide +kernel
theorem dX12_searches_65 : decode cX12_searches 65 = .ok (.aload_n 0, 1) := by decide +kernel
theorem dX12_searches_66 : decode cX12_searches 66 = .ok (.getfield 199, 3) := by decide +kernel
theorem dX12_searches_69 : decode cX12_searches 69 = .ok (.putfield 199, 3) := by decide +kernel
theorem dX12_searches_72 : decode cX12_searches 72 = .ok (.aload_n 0, 1) := by decide +kernel
theorem dX12_searches_73 : decode cX12_searches 73 = .ok (.dup, 1) := by decide +kernel
theorem dX12_searches_74 : decode cX12_searches 74 = .ok (.getfield 202, 3) := by decide +kernel
theorem dX12_searches_77 : decode cX12_searches 77 = .ok (.aload_n 0, 1) := by decide +kernel
theorem dX12_searches_78 : decode cX12_searches 78 = .ok (.getfield 193, 3) := by decide +kernel
theorem dX12_searches_81 : decode cX12_searches 81 = .ok (.bipush (-3), 2) := by decide +kernel
theorem dX12_searches_83 : decode cX12_searches 83 = .ok (.if_icmp .ne 14, 3) := by decide +kernel
theorem dX12_searches_86 : decode cX12_searches 86 = .ok (.aload_n 0, 1) := by decide +kernel
theorem dX12_searches_87 : decode cX12_searches 87 = .ok (.invokevirtual 205, 3) := by decide +kernel
theorem dX12_searches_90 : decode cX12_searches 90 = .ok (.ifCond .eq 7, 3) := by decide +kernel
theorem dX12_searches_93 : decode cX12_searches 93 = .ok (.iconst 1, 1) := by decide +kernel
theorem dX12_searches_94 : decode cX12_searches 94 = .ok (.goto 4, 3) := by decide +kernel
theorem dX12_searches_97 : decode cX12_searches 97 = .ok (.iconst 0, 1) := by decide +kernel
theorem dX12_searches_98 : decode cX12_searches 98 = .ok (.iadd, 1) := by decide +kernel
theorem dX12_searches_99 : decode cX12_searches 99 = .ok (.putfield 202, 3) := by decide +kernel
theorem dX12_searches_102 : decode cX12_searches 102 = .ok (.aload_n 0, 1) := by decide +kernel
theorem dX12_searches_103 : decode cX12_searches 103 = .ok (.dup, 1) := by decide +kernel
theorem dX12_searches_104 : decode cX12_searches 104 = .ok (.getfield 190, 3) := by decide +kernel
theorem dX12_searches_107 : decode cX12_searches 107 = .ok (.iconst 1, 1) := by decide +kernel
theorem dX12_searches_108 : decode cX12_searches 108 = .ok (.iadd, 1) := by decide +kernel
theorem dX12_searches_109 : decode cX12_searches 109 = .ok (.putfield 190, 3) := by decide +kernel
theorem dX12_searches_112 : decode cX12_searches 112 = .ok (.return_, 1) := by decide +kernel
theorem dX12_searches_113 : decode cX12_searches 113 = .ok (.aload_n 0, 1) := by decide +kernel
theorem dX12_searches_114 : decode cX12_searches 114 = .ok (.iload_n 1, 1) := by decide +kernel
theorem dX12_searches_115 : decode cX12_searches 115 = .ok (.invokevirtual 157, 3) := by decide +kernel
theorem dX12_searches_118 : decode cX12_searches 118 = .ok (.istore 4, 2) := by decide +kernel
theorem dX12_searches_120 : decode cX12_searches 120 = .ok (.iload 4, 2) := by decide +kernel
theorem dX12_searches_122 : decode cX12_searches 122 = .ok (.istore 5, 2) := by decide +kernel
theorem dX12_searches_124 : decode cX12_searches 124 = .ok (.iload 5, 2) := by decide +kernel
theorem dX12_searches_126 : decode cX12_searches 126 = .ok (.aload_n 0, 1) := by decide +kernel
theorem dX12_searches_127 : decode cX12_searches 127 = .ok (.invokevirtual 81, 3) := by decide +kernel
theorem dX12_searches_130 : decode cX12_searches 130 = .ok (.if_icmp .ge 62, 3) := by decide +kernel
theorem dX12_searches_133 : decode cX12_searches 133 = .ok (.aload_n 0, 1) := by decide +kernel
theorem dX12_searches_134 : decode cX12_searches 134 = .ok (.iload 5, 2) := by decide +kernel
theorem dX12_searches_136 : decode cX12_searches 136 = .ok (.invokevirtual 145, 3) := by decide +kernel
theorem dX12_searches_139 : decode cX12_searches 139 = .ok (.iload 4, 2) := by decide +kernel
theorem dX12_searches_141 : decode cX12_searches 141 = .ok (.if_icmp .ne 45, 3) := by decide +kernel
theorem dX12_searches_144 : decode cX12_searches 144 = .ok (.aload_n 0, 1) := by decide +kernel
theorem dX12_searches_145 : decode cX12_searches 145 = .ok (.getfield 18, 3) := by decide +kernel
theorem dX12_searches_148 : decode cX12_searches 148 = .ok (.iload 5, 2) := by decide +kernel
theorem dX12_searches_150 : decode cX12_searches 150 = .ok (.iconst 1, 1) := by decide +kernel
theorem dX12_searches_151 : decode cX12_searches 151 = .ok (.bastore, 1) := by decide +kernel
theorem dX12_searches_152 : decode cX12_searches 152 = .ok (.aload_n 0, 1) := by decide +kernel
theorem dX12_searches_153 : decode cX12_searches 153 = .ok (.getfield 47, 3) := by decide +kernel
theorem dX12_searches_156 : decode cX12_searches 156 = .ok (.iload_n 1, 1) := by decide +kernel
theorem dX12_searches_157 : decode cX12_searches 157 = .ok (.iload 5, 2) := by decide +kernel
theorem dX12_searches_159 : decode cX12_searches 159 = .ok (.iastore, 1) := by decide +kernel
theorem dX12_searches_160 : decode cX12_searches 160 = .ok (.aload_n 0, 1) := by decide +kernel
theorem dX12_searches_161 : decode cX12_searches 161 = .ok (.invokevirtual 130, 3) := by decide +kernel
theorem dX12_searches_164 : decode cX12_searches 164 = .ok (.ifCond .eq 14, 3) := by decide +kernel
theorem dX12_searches_167 : decode cX12_searches 167 = .ok (.aload_n 0, 1) := by decide +kernel
theorem dX12_searches_168 : decode cX12_searches 168 = .ok (.iload_n 1, 1) := by decide +kernel
theorem dX12_searches_169 : decode cX12_searches 169 = .ok (.iconst 1, 1) := by decide +kernel
theorem dX12_searches_170 : decode cX12_searches 170 = .ok (.iadd, 1) := by decide +kernel
theorem dX12_searches_171 : decode cX12_searches 171 = .ok (.iload_n 2, 1) := by decide +kernel
theorem dX12_searches_172 : decode cX12_searches 172 = .ok (.iconst 1, 1) := by decide +kernel
theorem dX12_searches_173 : decode cX12_searches 173 = .ok (.iadd, 1) := by decide +kernel
theorem dX12_searches_174 : decode cX12_searches 174 = .ok (.iload_n 3, 1) := by decide +kernel
theorem dX12_searches_175 : decode cX12_searches 175 = .ok (.invokevirtual 208, 3) := by decide +kernel
theorem dX12_searches_178 : decode cX12_searches 178 = .ok (.aload_n 0, 1) := by decide +kernel
theorem dX12_searches_179 : decode cX12_searches 179 = .ok (.getfield 18, 3) := by decide +kernel
theorem dX12_searches_182 : decode cX12_searches 182 = .ok (.iload 5, 2) := by decide +kernel
theorem dX12_searches_184 : decode cX12_searches 184 = .ok (.iconst 0, 1) := by decide +kernel
theorem dX12_searches_185 : decode cX12_searches 185 = .ok (.bastore, 1) := by decide +kernel
theorem dX12_searches_186 : decode cX12_searches 186 = .ok (.iinc 5 1, 3) := by decide +kernel
theorem dX12_searches_189 : decode cX12_searches 189 = .ok (.goto (-65), 3) := by decide +kernel
theorem dX12_searches_192 : decode cX12_searches 192 = .ok (.aload_n 0, 1) := by decide +kernel
theorem dX12_searches_193 : decode cX12_searches 193 = .ok (.getfield 47, 3) := by decide +kernel
theorem dX12_searches_196 : decode cX12_searches 196 = .ok (.iload_n 1, 1) := by decide +kernel
theorem dX12_searches_197 : decode cX12_searches 197 = .ok (.sipush 256, 3) := by decide +kernel
theorem dX12_searches_200 : decode cX12_searches 200 = .ok (.iastore, 1) := by decide +kernel
theorem dX12_searches_201 : decode cX12_searches 201 = .ok (.iload_n 3, 1) := by decide +kernel
theorem dX12_searches_202 : decode cX12_searches 202 = .ok (.ifCond .ne 20, 3) := by decide +kernel
theorem dX12_searches_205 : decode cX12_searches 205 = .ok (.iload_n 2, 1) := by decide +kernel
theorem dX12_searches_206 : decode cX12_searches 206 = .ok (.aload_n 0, 1) := by decide +kernel
theorem dX12_searches_207 : decode cX12_searches 207 = .ok (.getfield 178, 3) := by decide +kernel
theorem dX12_searches_210 : decode cX12_searches 210 = .ok (.iadd, 1) := by decide +kernel
theorem dX12_searches_211 : decode cX12_searches 211 = .ok (.iload_n 1, 1) := by decide +kernel
theorem dX12_searches_212 : decode cX12_searches 212 = .ok (.isub, 1) := by decide +kernel
theorem dX12_searches_213 : decode cX12_searches 213 = .ok (.iconst 1, 1) := by decide +kernel
theorem dX12_searches_214 : decode cX12_searches 214 = .ok (.isub, 1) := by decide +kernel
theorem dX12_searches_215 : decode cX12_searches 215 = .ok (.aload_n 0, 1) := by decide +kernel
theorem dX12_searches_216 : decode cX12_searches 216 = .ok (.getfield 187, 3) := by decide +kernel
theorem dX12_searches_219 : decode cX12_searches 219 = .ok (.if_icmp .le 12, 3) := by decide +kernel
theorem dX12_searches_222 : decode cX12_searches 222 = .ok (.aload_n 0, 1) := by decide +kernel
theorem dX12_searches_223 : decode cX12_searches 223 = .ok (.iload_n 1, 1) := by decide +kernel
theorem dX12_searches_224 : decode cX12_searches 224 = .ok (.iconst 1, 1) := by decide +kernel
theorem dX12_searches_225 : decode cX12_searches 225 = .ok (.iadd, 1) := by decide +kernel
theorem dX12_searches_226 : decode cX12_searches 226 = .ok (.iload_n 2, 1) := by decide +kernel
theorem dX12_searches_227 : decode cX12_searches 227 = .ok (.iload_n 3, 1) := by decide +kernel
theorem dX12_searches_228 : decode cX12_searches 228 = .ok (.invokevirtual 208, 3) := by decide +kernel
theorem dX12_searches_231 : decode cX12_searches 231 = .ok (.return_, 1) := by decide +kernel
set_option maxRecDepth 20000 in
theorem ggX12_great_X12_words : GoodIn wsX12_great wsX12_words := goodIn_r _ [14, 15, 16, 17, 18, 13, 19, 106, 107, 108, 109, 110, 111, 112, 113, 114, 115, 116, 117, 118, 119, 120, 121, 122, 123, 124, 125, 126, 127, 128, 129, 130, 131, 132, 133, 134, 135, 136, 137, 138, 139, 140, 141, 142, 143, 144, 145, 146] (by decide +kernel) (by decide +kernel)
set_option maxRecDepth 20000 in
theorem gX12_great_X12_words : GoodIn wsX12_great (wsV RX12 81 RX12 yX12_words wsX12_words) := goodIn_app (goodIn_of _ (by decide +kernel)) ggX12_great_X12_words
set_option maxRecDepth 20000 in
theorem ggX12_great_X12_rings : GoodIn wsX12_great wsX12_rings := goodIn_r _ [23, 10, 11, 12, 13, 14, 15, 16, 17, 18, 19, 24, 25, 26, 27, 28, 29, 30, 31, 32, 33, 34, 35, 36, 37, 38, 39, 40, 41, 42, 43, 106, 107, 108, 109, 110, 111, 112, 113, 114, 115, 116, 117, 118, 119, 120, 121, 122, 123, 124, 125, 126, 127, 128, 129, 130, 131, 132, 133, 134, 135, 136, 137, 138, 139, 140, 141, 142, 143, 144, 145, 146] (by decide +kernel) (by decide +kernel)
set_option maxRecDepth 20000 in
theorem gX12_great_X12_rings : GoodIn wsX12_great (wsV RX12 154 RX12 yX12_rings wsX12_rings) := goodIn_app (goodIn_of _ (by decide +kernel)) ggX12_great_X12_rings
set_option maxRecDepth 20000 in
theorem ggX12_great_X12_isIn : GoodIn wsX12_great wsX12_isIn := goodIn_r _ [46] (by decide +kernel) (by decide +kernel)
set_option maxRecDepth 20000 in
theorem gX12_great_X12_isIn : GoodIn wsX12_great (va_wsS RX12 85 yX12_isIn wsX12_isIn) := goodIn_app (goodIn_of _ (by decide +kernel)) ggX12_great_X12_isIn
set_option maxRecDepth 20000 in
theorem ggX12_great_X12_keepsBook : GoodIn wsX12_great wsX12_keepsBook := goodIn_r _ [50, 3, 106, 107, 108, 109, 110, 111, 112, 113, 114, 115, 116, 117, 118, 119, 120, 121, 122, 123, 124, 125, 126, 127, 128, 129, 130, 131, 132, 133, 134, 135, 136, 137, 138, 139, 140, 141, 142, 143, 144, 145, 146] (by decide +kernel) (by decide +kernel)
set_option maxRecDepth 20000 in
theorem gX12_great_X12_keepsBook : GoodIn wsX12_great (wsV RX12 212 RX12 yX12_keepsBook wsX12_keepsBook) := goodIn_app (goodIn_of _ (by decide +kernel)) ggX12_great_X12_keepsBook
set_option maxRecDepth 20000 in
theorem ggX12_great_X12_searches : GoodIn wsX12_great wsX12_searches := goodIn_r _ [54, 1, 4, 5, 7, 8, 55, 9, 6, 3, 56, 57, 58, 13, 59, 60, 61, 62, 63, 15, 64, 65, 66, 67, 68, 69, 70, 71, 72, 16, 73, 74, 75, 76, 77, 78, 79, 80, 81, 17, 18, 19, 82, 83, 84, 85, 86, 87, 88, 89, 90, 10, 11, 12, 14, 44, 45, 46, 40, 41, 42, 43, 36, 37, 38, 39, 28, 29, 30, 31, 32, 33, 34, 35, 24, 25, 26, 27, 91, 92, 93, 94, 95, 96, 97, 98, 99, 100, 101, 102, 103, 104, 105, 51, 52, 53, 106, 107, 108, 109, 110, 111, 112, 113, 114, 115, 116, 117, 118, 119, 120, 121, 122, 123, 124, 125, 126, 127, 128, 129, 130, 131, 132, 133, 134, 135, 136, 137, 138, 139, 140, 141, 142, 143, 144, 145, 146] (by decide +kernel) (by decide +kernel)
set_option maxRecDepth 20000 in
theorem gX12_great_X12_searches : GoodIn wsX12_great (wsV RX12 208 RX12 yX12_searches wsX12_searches) := goodIn_app (goodIn_of _ (by decide +kernel)) ggX12_great_X12_searches
theorem dX12_great_0 : decode cX12_great 0 = .ok (.aload_n 0, 1) := by decide +kernel
theorem dX12_great_1 : decode cX12_great 1 = .ok (.invokevirtual 81, 3) := by decide +kernel
theorem dX12_great_4 : decode cX12_great 4 = .ok (.bipush 32, 2) := by decide +kernel
theorem dX12_great_6 : decode cX12_great 6 = .ok (.if_icmp .le 6, 3) := by decide +kernel
theorem dX12_great_9 : decode cX12_great 9 = .ok (.bipush (-3), 2) := by decide +kernel
theorem dX12_great_11 : decode cX12_great 11 = .ok (.ireturn, 1) := by decide +kernel
theorem dX12_great_12 : decode cX12_great 12 = .ok (.aload_n 0, 1) := by decide +kernel
theorem dX12_great_13 : decode cX12_great 13 = .ok (.aload_n 0, 1) := by decide +kernel
theorem dX12_great_14 : decode cX12_great 14 = .ok (.invokevirtual 154, 3) := by decide +kernel
theorem dX12_great_17 : decode cX12_great 17 = .ok (.putfield 178, 3) := by decide +kernel
theorem dX12_great_20 : decode cX12_great 20 = .ok (.iload_n 1, 1) := by decide +kernel
theorem dX12_great_21 : decode cX12_great 21 = .ok (.bipush (-3), 2) := by decide +kernel
theorem dX12_great_23 : decode cX12_great 23 = .ok (.if_icmp .lt 23, 3) := by decide +kernel
theorem dX12_great_26 : decode cX12_great 26 = .ok (.iload_n 1, 1) := by decide +kernel
theorem dX12_great_27 : decode cX12_great 27 = .ok (.ifCond .lt 22, 3) := by decide +kernel
theorem dX12_great_30 : decode cX12_great 30 = .ok (.iload_n 2, 1) := by decide +kernel
theorem dX12_great_31 : decode cX12_great 31 = .ok (.i2l, 1) := by decide +kernel
theorem dX12_great_32 : decode cX12_great 32 = .ok (.lconst 0, 1) := by decide +kernel
theorem dX12_great_33 : decode cX12_great 33 = .ok (.aload_n 0, 1) := by decide +kernel
theorem dX12_great_34 : decode cX12_great 34 = .ok (.getfield 178, 3) := by decide +kernel
theorem dX12_great_37 : decode cX12_great 37 = .ok (.iconst 1, 1) := by decide +kernel
theorem dX12_great_38 : decode cX12_great 38 = .ok (.isub, 1) := by decide +kernel
theorem dX12_great_39 : decode cX12_great 39 = .ok (.i2l, 1) := by decide +kernel
theorem dX12_great_40 : decode cX12_great 40 = .ok (.invokestatic 85, 3) := by decide +kernel
theorem dX12_great_43 : decode cX12_great 43 = .ok (.ifCond .ne 6, 3) := by decide +kernel
theorem dX12_great_46 : decode cX12_great 46 = .ok (.bipush (-5), 2) := by decide +kernel
theorem dX12_great_48 : decode cX12_great 48 = .ok (.ireturn, 1) := by decide +kernel
theorem dX12_great_49 : decode cX12_great 49 = .ok (.aload_n 0, 1) := by decide +kernel
theorem dX12_great_50 : decode cX12_great 50 = .ok (.aload_n 0, 1) := by decide +kernel
theorem dX12_great_51 : decode cX12_great 51 = .ok (.getfield 25, 3) := by decide +kernel
theorem dX12_great_54 : decode cX12_great 54 = .ok (.invokevirtual 212, 3) := by decide +kernel
theorem dX12_great_57 : decode cX12_great 57 = .ok (.iconst 0, 1) := by decide +kernel
theorem dX12_great_58 : decode cX12_great 58 = .ok (.istore_n 3, 1) := by decide +kernel
theorem dX12_great_59 : decode cX12_great 59 = .ok (.iload_n 3, 1) := by decide +kernel
theorem dX12_great_60 : decode cX12_great 60 = .ok (.sipush 256, 3) := by decide +kernel
theorem dX12_great_63 : decode cX12_great 63 = .ok (.if_icmp .ge 16, 3) := by decide +kernel
theorem dX12_great_66 : decode cX12_great 66 = .ok (.aload_n 0, 1) := by decide +kernel
theorem dX12_great_67 : decode cX12_great 67 = .ok (.getfield 18, 3) := by decide +kernel
theorem dX12_great_70 : decode cX12_great 70 = .ok (.iload_n 3, 1) := by decide +kernel
theorem dX12_great_71 : decode cX12_great 71 = .ok (.iconst 0, 1) := by decide +kernel
theorem dX12_great_72 : decode cX12_great 72 = .ok (.bastore, 1) := by decide +kernel
theorem dX12_great_73 : decode cX12_great 73 = .ok (.iinc 3 1, 3) := by decide +kernel
theorem dX12_great_76 : decode cX12_great 76 = .ok (.goto (-17), 3) := by decide +kernel
theorem dX12_great_79 : decode cX12_great 79 = .ok (.aload_n 0, 1) := by decide +kernel
theorem dX12_great_80 : decode cX12_great 80 = .ok (.iconst 0, 1) := by decide +kernel
theorem dX12_great_81 : decode cX12_great 81 = .ok (.putfield 187, 3) := by decide +kernel
theorem dX12_great_84 : decode cX12_great 84 = .ok (.aload_n 0, 1) := by decide +kernel
theorem dX12_great_85 : decode cX12_great 85 = .ok (.iconst 0, 1) := by decide +kernel
theorem dX12_great_86 : decode cX12_great 86 = .ok (.putfield 190, 3) := by decide +kernel
theorem dX12_great_89 : decode cX12_great 89 = .ok (.aload_n 0, 1) := by decide +kernel
theorem dX12_great_90 : decode cX12_great 90 = .ok (.iconst 0, 1) := by decide +kernel
theorem dX12_great_91 : decode cX12_great 91 = .ok (.putfield 202, 3) := by decide +kernel
theorem dX12_great_94 : decode cX12_great 94 = .ok (.aload_n 0, 1) := by decide +kernel
theorem dX12_great_95 : decode cX12_great 95 = .ok (.iload_n 1, 1) := by decide +kernel
theorem dX12_great_96 : decode cX12_great 96 = .ok (.putfield 193, 3) := by decide +kernel
theorem dX12_great_99 : decode cX12_great 99 = .ok (.aload_n 0, 1) := by decide +kernel
theorem dX12_great_100 : decode cX12_great 100 = .ok (.iload_n 2, 1) := by decide +kernel
theorem dX12_great_101 : decode cX12_great 101 = .ok (.putfield 196, 3) := by decide +kernel
theorem dX12_great_104 : decode cX12_great 104 = .ok (.aload_n 0, 1) := by decide +kernel
theorem dX12_great_105 : decode cX12_great 105 = .ok (.bipush (-5), 2) := by decide +kernel
theorem dX12_great_107 : decode cX12_great 107 = .ok (.putfield 199, 3) := by decide +kernel
theorem dX12_great_110 : decode cX12_great 110 = .ok (.aload_n 0, 1) := by decide +kernel
theorem dX12_great_111 : decode cX12_great 111 = .ok (.iconst 0, 1) := by decide +kernel
theorem dX12_great_112 : decode cX12_great 112 = .ok (.iconst 0, 1) := by decide +kernel
theorem dX12_great_113 : decode cX12_great 113 = .ok (.iconst 0, 1) := by decide +kernel
theorem dX12_great_114 : decode cX12_great 114 = .ok (.invokevirtual 208, 3) := by decide +kernel
theorem dX12_great_117 : decode cX12_great 117 = .ok (.aload_n 0, 1) := by decide +kernel
theorem dX12_great_118 : decode cX12_great 118 = .ok (.iconst 0, 1) := by decide +kernel
theorem dX12_great_119 : decode cX12_great 119 = .ok (.iconst 0, 1) := by decide +kernel
theorem dX12_great_120 : decode cX12_great 120 = .ok (.iconst 1, 1) := by decide +kernel
theorem dX12_great_121 : decode cX12_great 121 = .ok (.invokevirtual 208, 3) := by decide +kernel
theorem dX12_great_124 : decode cX12_great 124 = .ok (.iconst 0, 1) := by decide +kernel
theorem dX12_great_125 : decode cX12_great 125 = .ok (.istore_n 3, 1) := by decide +kernel
theorem dX12_great_126 : decode cX12_great 126 = .ok (.iload_n 3, 1) := by decide +kernel
theorem dX12_great_127 : decode cX12_great 127 = .ok (.sipush 256, 3) := by decide +kernel
theorem dX12_great_130 : decode cX12_great 130 = .ok (.if_icmp .ge 21, 3) := by decide +kernel
theorem dX12_great_133 : decode cX12_great 133 = .ok (.aload_n 0, 1) := by decide +kernel
theorem dX12_great_134 : decode cX12_great 134 = .ok (.getfield 18, 3) := by decide +kernel
theorem dX12_great_137 : decode cX12_great 137 = .ok (.iload_n 3, 1) := by decide +kernel
theorem dX12_great_138 : decode cX12_great 138 = .ok (.aload_n 0, 1) := by decide +kernel
theorem dX12_great_139 : decode cX12_great 139 = .ok (.getfield 25, 3) := by decide +kernel
theorem dX12_great_142 : decode cX12_great 142 = .ok (.iload_n 3, 1) := by decide +kernel
theorem dX12_great_143 : decode cX12_great 143 = .ok (.baload, 1) := by decide +kernel
theorem dX12_great_144 : decode cX12_great 144 = .ok (.bastore, 1) := by decide +kernel
theorem dX12_great_145 : decode cX12_great 145 = .ok (.iinc 3 1, 3) := by decide +kernel
theorem dX12_great_148 : decode cX12_great 148 = .ok (.goto (-22), 3) := by decide +kernel
theorem dX12_great_151 : decode cX12_great 151 = .ok (.iload_n 1, 1) := by decide +kernel
theorem dX12_great_152 : decode cX12_great 152 = .ok (.iconst (-1), 1) := by decide +kernel
theorem dX12_great_153 : decode cX12_great 153 = .ok (.if_icmp .ne 10, 3) := by decide +kernel
theorem dX12_great_156 : decode cX12_great 156 = .ok (.aload_n 0, 1) := by decide +kernel
theorem dX12_great_157 : decode cX12_great 157 = .ok (.getfield 190, 3) := by decide +kernel
theorem dX12_great_160 : decode cX12_great 160 = .ok (.goto 47, 3) := by decide +kernel
theorem dX12_great_163 : decode cX12_great 163 = .ok (.iload_n 1, 1) := by decide +kernel
theorem dX12_great_164 : decode cX12_great 164 = .ok (.bipush (-2), 2) := by decide +kernel
theorem dX12_great_166 : decode cX12_great 166 = .ok (.if_icmp .ne 10, 3) := by decide +kernel
theorem dX12_great_169 : decode cX12_great 169 = .ok (.aload_n 0, 1) := by decide +kernel
theorem dX12_great_170 : decode cX12_great 170 = .ok (.getfield 187, 3) := by decide +kernel
theorem dX12_great_173 : decode cX12_great 173 = .ok (.goto 34, 3) := by decide +kernel
theorem dX12_great_176 : decode cX12_great 176 = .ok (.iload_n 1, 1) := by decide +kernel
theorem dX12_great_177 : decode cX12_great 177 = .ok (.bipush (-3), 2) := by decide +kernel
theorem dX12_great_179 : decode cX12_great 179 = .ok (.if_icmp .ne 10, 3) := by decide +kernel
theorem dX12_great_182 : decode cX12_great 182 = .ok (.aload_n 0, 1) := by decide +kernel
theorem dX12_great_183 : decode cX12_great 183 = .ok (.getfield 202, 3) := by decide +kernel
theorem dX12_great_186 : decode cX12_great 186 = .ok (.goto 21, 3) := by decide +kernel
theorem dX12_great_189 : decode cX12_great 189 = .ok (.aload_n 0, 1) := by decide +kernel
theorem dX12_great_190 : decode cX12_great 190 = .ok (.getfield 199, 3) := by decide +kernel
theorem dX12_great_193 : decode cX12_great 193 = .ok (.sipush 256, 3) := by decide +kernel
theorem dX12_great_196 : decode cX12_great 196 = .ok (.if_icmp .ne 7, 3) := by decide +kernel
theorem dX12_great_199 : decode cX12_great 199 = .ok (.iconst (-1), 1) := by decide +kernel
theorem dX12_great_200 : decode cX12_great 200 = .ok (.goto 7, 3) := by decide +kernel
theorem dX12_great_203 : decode cX12_great 203 = .ok (.aload_n 0, 1) := by decide +kernel
theorem dX12_great_204 : decode cX12_great 204 = .ok (.getfield 199, 3) := by decide +kernel
theorem dX12_great_207 : decode cX12_great 207 = .ok (.ireturn, 1) := by decide +kernel
set_option maxRecDepth 20000 in
theorem ggX12_cast_X12_isIn : GoodIn wsX12_cast wsX12_isIn := goodIn_r _ [7] (by decide +kernel) (by decide +kernel)
set_option maxRecDepth 20000 in
theorem gX12_cast_X12_isIn : GoodIn wsX12_cast (va_wsS RX12 85 yX12_isIn wsX12_isIn) := goodIn_app (goodIn_of _ (by decide +kernel)) ggX12_cast_X12_isIn
theorem dX12_cast_0 : decode cX12_cast 0 = .ok (.iload_n 1, 1) := by decide +kernel
theorem dX12_cast_1 : decode cX12_cast 1 = .ok (.i2l, 1) := by decide +kernel
theorem dX12_cast_2 : decode cX12_cast 2 = .ok (.lconst 0, 1) := by decide +kernel
theorem dX12_cast_3 : decode cX12_cast 3 = .ok (.aload_n 0, 1) := by decide +kernel
theorem dX12_cast_4 : decode cX12_cast 4 = .ok (.getfield 9, 3) := by decide +kernel
theorem dX12_cast_7 : decode cX12_cast 7 = .ok (.iconst 1, 1) := by decide +kernel
theorem dX12_cast_8 : decode cX12_cast 8 = .ok (.isub, 1) := by decide +kernel
theorem dX12_cast_9 : decode cX12_cast 9 = .ok (.i2l, 1) := by decide +kernel
theorem dX12_cast_10 : decode cX12_cast 10 = .ok (.invokestatic 85, 3) := by decide +kernel
theorem dX12_cast_13 : decode cX12_cast 13 = .ok (.ifCond .ne 6, 3) := by decide +kernel
theorem dX12_cast_16 : decode cX12_cast 16 = .ok (.bipush (-2), 2) := by decide +kernel
theorem dX12_cast_18 : decode cX12_cast 18 = .ok (.ireturn, 1) := by decide +kernel
theorem dX12_cast_19 : decode cX12_cast 19 = .ok (.aload_n 0, 1) := by decide +kernel
theorem dX12_cast_20 : decode cX12_cast 20 = .ok (.getfield 95, 3) := by decide +kernel
theorem dX12_cast_23 : decode cX12_cast 23 = .ok (.bipush 40, 2) := by decide +kernel
theorem dX12_cast_25 : decode cX12_cast 25 = .ok (.if_icmp .ne 6, 3) := by decide +kernel
theorem dX12_cast_28 : decode cX12_cast 28 = .ok (.bipush (-4), 2) := by decide +kernel
theorem dX12_cast_30 : decode cX12_cast 30 = .ok (.ireturn, 1) := by decide +kernel
theorem dX12_cast_31 : decode cX12_cast 31 = .ok (.aload_n 0, 1) := by decide +kernel
theorem dX12_cast_32 : decode cX12_cast 32 = .ok (.getfield 28, 3) := by decide +kernel
theorem dX12_cast_35 : decode cX12_cast 35 = .ok (.aload_n 0, 1) := by decide +kernel
theorem dX12_cast_36 : decode cX12_cast 36 = .ok (.getfield 95, 3) := by decide +kernel
theorem dX12_cast_39 : decode cX12_cast 39 = .ok (.iload_n 1, 1) := by decide +kernel
theorem dX12_cast_40 : decode cX12_cast 40 = .ok (.iastore, 1) := by decide +kernel
theorem dX12_cast_41 : decode cX12_cast 41 = .ok (.aload_n 0, 1) := by decide +kernel
theorem dX12_cast_42 : decode cX12_cast 42 = .ok (.dup, 1) := by decide +kernel
theorem dX12_cast_43 : decode cX12_cast 43 = .ok (.getfield 95, 3) := by decide +kernel
theorem dX12_cast_46 : decode cX12_cast 46 = .ok (.iconst 1, 1) := by decide +kernel
theorem dX12_cast_47 : decode cX12_cast 47 = .ok (.iadd, 1) := by decide +kernel
theorem dX12_cast_48 : decode cX12_cast 48 = .ok (.putfield 95, 3) := by decide +kernel
theorem dX12_cast_51 : decode cX12_cast 51 = .ok (.aload_n 0, 1) := by decide +kernel
theorem dX12_cast_52 : decode cX12_cast 52 = .ok (.getfield 95, 3) := by decide +kernel
theorem dX12_cast_55 : decode cX12_cast 55 = .ok (.ireturn, 1) := by decide +kernel
set_option maxRecDepth 20000 in
theorem ggX12_spell_X12_isWord : GoodIn wsX12_spell wsX12_isWord := goodIn_r _ [8, 9, 10, 11, 7, 12, 13, 2, 14, 15, 16, 17, 18, 19, 24, 25, 26, 27, 28, 29, 30, 31, 32, 33, 34, 35, 36, 37, 38, 39, 40, 41, 42, 43, 44, 45, 46, 47, 48, 49, 50, 51, 52, 53, 54, 55, 56, 57, 58, 59, 60, 61, 62, 63, 64] (by decide +kernel) (by decide +kernel)
set_option maxRecDepth 20000 in
theorem gX12_spell_X12_isWord : GoodIn wsX12_spell (wsV RX12 101 RX12 yX12_isWord wsX12_isWord) := goodIn_app (goodIn_of _ (by decide +kernel)) ggX12_spell_X12_isWord
set_option maxRecDepth 20000 in
theorem ggX12_spell_X12_letterOf : GoodIn wsX12_spell wsX12_letterOf := goodIn_r _ [23, 13, 2, 14, 15, 7, 16, 24, 25, 26, 27, 28, 29, 30, 31, 32, 33, 34, 35, 36, 37, 38, 39, 40, 41, 42, 43, 44, 45, 46, 47, 48, 49, 50, 51, 52, 53, 54, 55, 56, 57, 58, 59, 60, 61, 62, 63, 64] (by decide +kernel) (by decide +kernel)
set_option maxRecDepth 20000 in
theorem gX12_spell_X12_letterOf : GoodIn wsX12_spell (wsV RX12 112 RX12 yX12_letterOf wsX12_letterOf) := goodIn_app (goodIn_of _ (by decide +kernel)) ggX12_spell_X12_letterOf
theorem dX12_spell_0 : decode cX12_spell 0 = .ok (.aload_n 0, 1) := by decide +kernel
theorem dX12_spell_1 : decode cX12_spell 1 = .ok (.iload_n 1, 1) := by decide +kernel
theorem dX12_spell_2 : decode cX12_spell 2 = .ok (.invokevirtual 101, 3) := by decide +kernel
theorem dX12_spell_5 : decode cX12_spell 5 = .ok (.ifCond .ne 5, 3) := by decide +kernel
theorem dX12_spell_8 : decode cX12_spell 8 = .ok (.iconst (-1), 1) := by decide +kernel
theorem dX12_spell_9 : decode cX12_spell 9 = .ok (.ireturn, 1) := by decide +kernel
theorem dX12_spell_10 : decode cX12_spell 10 = .ok (.aload_n 0, 1) := by decide +kernel
theorem dX12_spell_11 : decode cX12_spell 11 = .ok (.getfield 95, 3) := by decide +kernel
theorem dX12_spell_14 : decode cX12_spell 14 = .ok (.aload_n 0, 1) := by decide +kernel
theorem dX12_spell_15 : decode cX12_spell 15 = .ok (.getfield 15, 3) := by decide +kernel
theorem dX12_spell_18 : decode cX12_spell 18 = .ok (.iadd, 1) := by decide +kernel
theorem dX12_spell_19 : decode cX12_spell 19 = .ok (.bipush 40, 2) := by decide +kernel
theorem dX12_spell_21 : decode cX12_spell 21 = .ok (.if_icmp .le 6, 3) := by decide +kernel
theorem dX12_spell_24 : decode cX12_spell 24 = .ok (.bipush (-4), 2) := by decide +kernel
theorem dX12_spell_26 : decode cX12_spell 26 = .ok (.ireturn, 1) := by decide +kernel
theorem dX12_spell_27 : decode cX12_spell 27 = .ok (.iconst 0, 1) := by decide +kernel
theorem dX12_spell_28 : decode cX12_spell 28 = .ok (.istore_n 2, 1) := by decide +kernel
theorem dX12_spell_29 : decode cX12_spell 29 = .ok (.iload_n 2, 1) := by decide +kernel
theorem dX12_spell_30 : decode cX12_spell 30 = .ok (.aload_n 0, 1) := by decide +kernel
theorem dX12_spell_31 : decode cX12_spell 31 = .ok (.getfield 15, 3) := by decide +kernel
theorem dX12_spell_34 : decode cX12_spell 34 = .ok (.if_icmp .ge 34, 3) := by decide +kernel
theorem dX12_spell_37 : decode cX12_spell 37 = .ok (.aload_n 0, 1) := by decide +kernel
theorem dX12_spell_38 : decode cX12_spell 38 = .ok (.getfield 28, 3) := by decide +kernel
theorem dX12_spell_41 : decode cX12_spell 41 = .ok (.aload_n 0, 1) := by decide +kernel
theorem dX12_spell_42 : decode cX12_spell 42 = .ok (.getfield 95, 3) := by decide +kernel
theorem dX12_spell_45 : decode cX12_spell 45 = .ok (.aload_n 0, 1) := by decide +kernel
theorem dX12_spell_46 : decode cX12_spell 46 = .ok (.iload_n 1, 1) := by decide +kernel
theorem dX12_spell_47 : decode cX12_spell 47 = .ok (.iload_n 2, 1) := by decide +kernel
theorem dX12_spell_48 : decode cX12_spell 48 = .ok (.invokevirtual 112, 3) := by decide +kernel
theorem dX12_spell_51 : decode cX12_spell 51 = .ok (.iastore, 1) := by decide +kernel
theorem dX12_spell_52 : decode cX12_spell 52 = .ok (.aload_n 0, 1) := by decide +kernel
theorem dX12_spell_53 : decode cX12_spell 53 = .ok (.dup, 1) := by decide +kernel
theorem dX12_spell_54 : decode cX12_spell 54 = .ok (.getfield 95, 3) := by decide +kernel
theorem dX12_spell_57 : decode cX12_spell 57 = .ok (.iconst 1, 1) := by decide +kernel
theorem dX12_spell_58 : decode cX12_spell 58 = .ok (.iadd, 1) := by decide +kernel
theorem dX12_spell_59 : decode cX12_spell 59 = .ok (.putfield 95, 3) := by decide +kernel
theorem dX12_spell_62 : decode cX12_spell 62 = .ok (.iinc 2 1, 3) := by decide +kernel
theorem dX12_spell_65 : decode cX12_spell 65 = .ok (.goto (-36), 3) := by decide +kernel
theorem dX12_spell_68 : decode cX12_spell 68 = .ok (.aload_n 0, 1) := by decide +kernel
theorem dX12_spell_69 : decode cX12_spell 69 = .ok (.getfield 95, 3) := by decide +kernel
theorem dX12_spell_72 : decode cX12_spell 72 = .ok (.ireturn, 1) := by decide +kernel
set_option maxRecDepth 20000 in
theorem ggX12_tear_X12_isIn : GoodIn wsX12_tear wsX12_isIn := goodIn_r _ [6] (by decide +kernel) (by decide +kernel)
set_option maxRecDepth 20000 in
theorem gX12_tear_X12_isIn : GoodIn wsX12_tear (va_wsS RX12 85 yX12_isIn wsX12_isIn) := goodIn_app (goodIn_of _ (by decide +kernel)) ggX12_tear_X12_isIn
theorem dX12_tear_0 : decode cX12_tear 0 = .ok (.iload_n 1, 1) := by decide +kernel
theorem dX12_tear_1 : decode cX12_tear 1 = .ok (.i2l, 1) := by decide +kernel
theorem dX12_tear_2 : decode cX12_tear 2 = .ok (.lconst 0, 1) := by decide +kernel
theorem dX12_tear_3 : decode cX12_tear 3 = .ok (.aload_n 0, 1) := by decide +kernel
theorem dX12_tear_4 : decode cX12_tear 4 = .ok (.getfield 95, 3) := by decide +kernel
theorem dX12_tear_7 : decode cX12_tear 7 = .ok (.i2l, 1) := by decide +kernel
theorem dX12_tear_8 : decode cX12_tear 8 = .ok (.invokestatic 85, 3) := by decide +kernel
theorem dX12_tear_11 : decode cX12_tear 11 = .ok (.ifCond .ne 6, 3) := by decide +kernel
theorem dX12_tear_14 : decode cX12_tear 14 = .ok (.bipush (-2), 2) := by decide +kernel
theorem dX12_tear_16 : decode cX12_tear 16 = .ok (.ireturn, 1) := by decide +kernel
theorem dX12_tear_17 : decode cX12_tear 17 = .ok (.iload_n 1, 1) := by decide +kernel
theorem dX12_tear_18 : decode cX12_tear 18 = .ok (.istore_n 2, 1) := by decide +kernel
theorem dX12_tear_19 : decode cX12_tear 19 = .ok (.iload_n 2, 1) := by decide +kernel
theorem dX12_tear_20 : decode cX12_tear 20 = .ok (.aload_n 0, 1) := by decide +kernel
theorem dX12_tear_21 : decode cX12_tear 21 = .ok (.getfield 95, 3) := by decide +kernel
theorem dX12_tear_24 : decode cX12_tear 24 = .ok (.if_icmp .ge 23, 3) := by decide +kernel
theorem dX12_tear_27 : decode cX12_tear 27 = .ok (.aload_n 0, 1) := by decide +kernel
theorem dX12_tear_28 : decode cX12_tear 28 = .ok (.getfield 28, 3) := by decide +kernel
theorem dX12_tear_31 : decode cX12_tear 31 = .ok (.iload_n 2, 1) := by decide +kernel
theorem dX12_tear_32 : decode cX12_tear 32 = .ok (.iload_n 1, 1) := by decide +kernel
theorem dX12_tear_33 : decode cX12_tear 33 = .ok (.isub, 1) := by decide +kernel
theorem dX12_tear_34 : decode cX12_tear 34 = .ok (.aload_n 0, 1) := by decide +kernel
theorem dX12_tear_35 : decode cX12_tear 35 = .ok (.getfield 28, 3) := by decide +kernel
theorem dX12_tear_38 : decode cX12_tear 38 = .ok (.iload_n 2, 1) := by decide +kernel
theorem dX12_tear_39 : decode cX12_tear 39 = .ok (.iaload, 1) := by decide +kernel
theorem dX12_tear_40 : decode cX12_tear 40 = .ok (.iastore, 1) := by decide +kernel
theorem dX12_tear_41 : decode cX12_tear 41 = .ok (.iinc 2 1, 3) := by decide +kernel
theorem dX12_tear_44 : decode cX12_tear 44 = .ok (.goto (-25), 3) := by decide +kernel
theorem dX12_tear_47 : decode cX12_tear 47 = .ok (.aload_n 0, 1) := by decide +kernel
theorem dX12_tear_48 : decode cX12_tear 48 = .ok (.dup, 1) := by decide +kernel
theorem dX12_tear_49 : decode cX12_tear 49 = .ok (.getfield 95, 3) := by decide +kernel
theorem dX12_tear_52 : decode cX12_tear 52 = .ok (.iload_n 1, 1) := by decide +kernel
theorem dX12_tear_53 : decode cX12_tear 53 = .ok (.isub, 1) := by decide +kernel
theorem dX12_tear_54 : decode cX12_tear 54 = .ok (.putfield 95, 3) := by decide +kernel
theorem dX12_tear_57 : decode cX12_tear 57 = .ok (.aload_n 0, 1) := by decide +kernel
theorem dX12_tear_58 : decode cX12_tear 58 = .ok (.getfield 95, 3) := by decide +kernel
theorem dX12_tear_61 : decode cX12_tear 61 = .ok (.ireturn, 1) := by decide +kernel
set_option maxRecDepth 20000 in
theorem ggX12_isThere_X12_words : GoodIn wsX12_isThere wsX12_words := goodIn_r _ [7, 8, 9, 10, 11, 6, 12, 17, 18, 19, 20, 21, 22, 23, 24, 25, 26, 27, 28, 29, 30, 31, 32, 33, 34, 35, 36, 37, 38, 39, 40, 41, 42, 43, 44, 45, 46, 47, 48, 49, 50, 51, 52, 53, 54, 55, 56, 57] (by decide +kernel) (by decide +kernel)
set_option maxRecDepth 20000 in
theorem gX12_isThere_X12_words : GoodIn wsX12_isThere (wsV RX12 81 RX12 yX12_words wsX12_words) := goodIn_app (goodIn_of _ (by decide +kernel)) ggX12_isThere_X12_words
set_option maxRecDepth 20000 in
theorem ggX12_isThere_X12_letterOf : GoodIn wsX12_isThere wsX12_letterOf := goodIn_r _ [16, 8, 9, 10, 11, 6, 12, 17, 18, 19, 20, 21, 22, 23, 24, 25, 26, 27, 28, 29, 30, 31, 32, 33, 34, 35, 36, 37, 38, 39, 40, 41, 42, 43, 44, 45, 46, 47, 48, 49, 50, 51, 52, 53, 54, 55, 56, 57] (by decide +kernel) (by decide +kernel)
set_option maxRecDepth 20000 in
theorem gX12_isThere_X12_letterOf : GoodIn wsX12_isThere (wsV RX12 112 RX12 yX12_letterOf wsX12_letterOf) := goodIn_app (goodIn_of _ (by decide +kernel)) ggX12_isThere_X12_letterOf
theorem dX12_isThere_0 : decode cX12_isThere 0 = .ok (.iconst 0, 1) := by decide +kernel
theorem dX12_isThere_1 : decode cX12_isThere 1 = .ok (.istore_n 3, 1) := by decide +kernel
theorem dX12_isThere_2 : decode cX12_isThere 2 = .ok (.iload_n 3, 1) := by decide +kernel
theorem dX12_isThere_3 : decode cX12_isThere 3 = .ok (.aload_n 0, 1) := by decide +kernel
theorem dX12_isThere_4 : decode cX12_isThere 4 = .ok (.invokevirtual 81, 3) := by decide +kernel
theorem dX12_isThere_7 : decode cX12_isThere 7 = .ok (.if_icmp .ge 70, 3) := by decide +kernel
theorem dX12_isThere_10 : decode cX12_isThere 10 = .ok (.aload_n 0, 1) := by decide +kernel
theorem dX12_isThere_11 : decode cX12_isThere 11 = .ok (.getfield 18, 3) := by decide +kernel
theorem dX12_isThere_14 : decode cX12_isThere 14 = .ok (.iload_n 3, 1) := by decide +kernel
theorem dX12_isThere_15 : decode cX12_isThere 15 = .ok (.baload, 1) := by decide +kernel
theorem dX12_isThere_16 : decode cX12_isThere 16 = .ok (.istore 4, 2) := by decide +kernel
theorem dX12_isThere_18 : decode cX12_isThere 18 = .ok (.iconst 0, 1) := by decide +kernel
theorem dX12_isThere_19 : decode cX12_isThere 19 = .ok (.istore 5, 2) := by decide +kernel
theorem dX12_isThere_21 : decode cX12_isThere 21 = .ok (.iload 5, 2) := by decide +kernel
theorem dX12_isThere_23 : decode cX12_isThere 23 = .ok (.iload_n 2, 1) := by decide +kernel
theorem dX12_isThere_24 : decode cX12_isThere 24 = .ok (.if_icmp .ge 40, 3) := by decide +kernel
theorem dX12_isThere_27 : decode cX12_isThere 27 = .ok (.iload 4, 2) := by decide +kernel
theorem dX12_isThere_29 : decode cX12_isThere 29 = .ok (.ifCond .eq 35, 3) := by decide +kernel
theorem dX12_isThere_32 : decode cX12_isThere 32 = .ok (.aload_n 0, 1) := by decide +kernel
theorem dX12_isThere_33 : decode cX12_isThere 33 = .ok (.iload_n 3, 1) := by decide +kernel
theorem dX12_isThere_34 : decode cX12_isThere 34 = .ok (.iload_n 1, 1) := by decide +kernel
theorem dX12_isThere_35 : decode cX12_isThere 35 = .ok (.iload 5, 2) := by decide +kernel
theorem dX12_isThere_37 : decode cX12_isThere 37 = .ok (.iadd, 1) := by decide +kernel
theorem dX12_isThere_38 : decode cX12_isThere 38 = .ok (.invokevirtual 112, 3) := by decide +kernel
theorem dX12_isThere_41 : decode cX12_isThere 41 = .ok (.aload_n 0, 1) := by decide +kernel
theorem dX12_isThere_42 : decode cX12_isThere 42 = .ok (.getfield 53, 3) := by decide +kernel
theorem dX12_isThere_45 : decode cX12_isThere 45 = .ok (.iload 5, 2) := by decide +kernel
theorem dX12_isThere_47 : decode cX12_isThere 47 = .ok (.iaload, 1) := by decide +kernel
theorem dX12_isThere_48 : decode cX12_isThere 48 = .ok (.if_icmp .ne 7, 3) := by decide +kernel
theorem dX12_isThere_51 : decode cX12_isThere 51 = .ok (.iconst 1, 1) := by decide +kernel
theorem dX12_isThere_52 : decode cX12_isThere 52 = .ok (.goto 4, 3) := by decide +kernel
theorem dX12_isThere_55 : decode cX12_isThere 55 = .ok (.iconst 0, 1) := by decide +kernel
theorem dX12_isThere_56 : decode cX12_isThere 56 = .ok (.istore 4, 2) := by decide +kernel
theorem dX12_isThere_58 : decode cX12_isThere 58 = .ok (.iinc 5 1, 3) := by decide +kernel
theorem dX12_isThere_61 : decode cX12_isThere 61 = .ok (.goto (-40), 3) := by decide +kernel
theorem dX12_isThere_64 : decode cX12_isThere 64 = .ok (.iload 4, 2) := by decide +kernel
theorem dX12_isThere_66 : decode cX12_isThere 66 = .ok (.ifCond .eq 5, 3) := by decide +kernel
theorem dX12_isThere_69 : decode cX12_isThere 69 = .ok (.iconst 1, 1) := by decide +kernel
theorem dX12_isThere_70 : decode cX12_isThere 70 = .ok (.ireturn, 1) := by decide +kernel
theorem dX12_isThere_71 : decode cX12_isThere 71 = .ok (.iinc 3 1, 3) := by decide +kernel
theorem dX12_isThere_74 : decode cX12_isThere 74 = .ok (.goto (-72), 3) := by decide +kernel
theorem dX12_isThere_77 : decode cX12_isThere 77 = .ok (.iconst 0, 1) := by decide +kernel
theorem dX12_isThere_78 : decode cX12_isThere 78 = .ok (.ireturn, 1) := by decide +kernel
set_option maxRecDepth 20000 in
theorem ggX12_isPossible_X12_isThere : GoodIn wsX12_isPossible wsX12_isThere := goodIn_r _ [15, 16, 9, 17, 18, 19, 14, 20, 21, 1, 22, 23, 24, 25, 26, 27, 28, 29, 30, 31, 32, 33, 34, 35, 36, 37, 38, 39, 40, 41, 42, 43, 44, 45, 46, 47, 48, 49, 50, 51, 52, 53, 54, 55, 56, 57, 58, 59, 60, 61, 62, 63, 64, 65, 66, 67, 68, 69] (by decide +kernel) (by decide +kernel)
set_option maxRecDepth 20000 in
theorem gX12_isPossible_X12_isThere : GoodIn wsX12_isPossible (wsV RX12 219 RX12 yX12_isThere wsX12_isThere) := goodIn_app (goodIn_of _ (by decide +kernel)) ggX12_isPossible_X12_isThere
theorem dX12_isPossible_0 : decode cX12_isPossible 0 = .ok (.iconst 1, 1) := by decide +kernel
theorem dX12_isPossible_1 : decode cX12_isPossible 1 = .ok (.istore_n 3, 1) := by decide +kernel
theorem dX12_isPossible_2 : decode cX12_isPossible 2 = .ok (.iload_n 1, 1) := by decide +kernel
theorem dX12_isPossible_3 : decode cX12_isPossible 3 = .ok (.ifCond .le 12, 3) := by decide +kernel
theorem dX12_isPossible_6 : decode cX12_isPossible 6 = .ok (.iload_n 1, 1) := by decide +kernel
theorem dX12_isPossible_7 : decode cX12_isPossible 7 = .ok (.aload_n 0, 1) := by decide +kernel
theorem dX12_isPossible_8 : decode cX12_isPossible 8 = .ok (.getfield 15, 3) := by decide +kernel
theorem dX12_isPossible_11 : decode cX12_isPossible 11 = .ok (.isub, 1) := by decide +kernel
theorem dX12_isPossible_12 : decode cX12_isPossible 12 = .ok (.goto 4, 3) := by decide +kernel
theorem dX12_isPossible_15 : decode cX12_isPossible 15 = .ok (.iconst 0, 1) := by decide +kernel
theorem dX12_isPossible_16 : decode cX12_isPossible 16 = .ok (.istore 4, 2) := by decide +kernel
theorem dX12_isPossible_18 : decode cX12_isPossible 18 = .ok (.iload 4, 2) := by decide +kernel
theorem dX12_isPossible_20 : decode cX12_isPossible 20 = .ok (.iload_n 2, 1) := by decide +kernel
theorem dX12_isPossible_21 : decode cX12_isPossible 21 = .ok (.if_icmp .ge 104, 3) := by decide +kernel
theorem dX12_isPossible_24 : decode cX12_isPossible 24 = .ok (.iload_n 3, 1) := by decide +kernel
theorem dX12_isPossible_25 : decode cX12_isPossible 25 = .ok (.ifCond .eq 100, 3) := by decide +kernel
theorem dX12_isPossible_28 : decode cX12_isPossible 28 = .ok (.iconst 0, 1) := by decide +kernel
theorem dX12_isPossible_29 : decode cX12_isPossible 29 = .ok (.iload 4, 2) := by decide +kernel
theorem dX12_isPossible_31 : decode cX12_isPossible 31 = .ok (.invokestatic 216, 3) := by decide +kernel
theorem dX12_isPossible_34 : decode cX12_isPossible 34 = .ok (.istore 5, 2) := by decide +kernel
theorem dX12_isPossible_36 : decode cX12_isPossible 36 = .ok (.iload_n 2, 1) := by decide +kernel
theorem dX12_isPossible_37 : decode cX12_isPossible 37 = .ok (.iload 4, 2) := by decide +kernel
theorem dX12_isPossible_39 : decode cX12_isPossible 39 = .ok (.aload_n 0, 1) := by decide +kernel
theorem dX12_isPossible_40 : decode cX12_isPossible 40 = .ok (.getfield 15, 3) := by decide +kernel
theorem dX12_isPossible_43 : decode cX12_isPossible 43 = .ok (.iadd, 1) := by decide +kernel
theorem dX12_isPossible_44 : decode cX12_isPossible 44 = .ok (.invokestatic 140, 3) := by decide +kernel
theorem dX12_isPossible_47 : decode cX12_isPossible 47 = .ok (.istore 6, 2) := by decide +kernel
theorem dX12_isPossible_49 : decode cX12_isPossible 49 = .ok (.iload 5, 2) := by decide +kernel
theorem dX12_isPossible_51 : decode cX12_isPossible 51 = .ok (.istore 7, 2) := by decide +kernel
theorem dX12_isPossible_53 : decode cX12_isPossible 53 = .ok (.iload 7, 2) := by decide +kernel
theorem dX12_isPossible_55 : decode cX12_isPossible 55 = .ok (.iload 6, 2) := by decide +kernel
theorem dX12_isPossible_57 : decode cX12_isPossible 57 = .ok (.if_icmp .ge 26, 3) := by decide +kernel
theorem dX12_isPossible_60 : decode cX12_isPossible 60 = .ok (.aload_n 0, 1) := by decide +kernel
theorem dX12_isPossible_61 : decode cX12_isPossible 61 = .ok (.getfield 53, 3) := by decide +kernel
theorem dX12_isPossible_64 : decode cX12_isPossible 64 = .ok (.iload 7, 2) := by decide +kernel
theorem dX12_isPossible_66 : decode cX12_isPossible 66 = .ok (.iload 5, 2) := by decide +kernel
theorem dX12_isPossible_68 : decode cX12_isPossible 68 = .ok (.isub, 1) := by decide +kernel
theorem dX12_isPossible_69 : decode cX12_isPossible 69 = .ok (.aload_n 0, 1) := by decide +kernel
theorem dX12_isPossible_70 : decode cX12_isPossible 70 = .ok (.getfield 28, 3) := by decide +kernel
theorem dX12_isPossible_73 : decode cX12_isPossible 73 = .ok (.iload 7, 2) := by decide +kernel
theorem dX12_isPossible_75 : decode cX12_isPossible 75 = .ok (.iaload, 1) := by decide +kernel
theorem dX12_isPossible_76 : decode cX12_isPossible 76 = .ok (.iastore, 1) := by decide +kernel
theorem dX12_isPossible_77 : decode cX12_isPossible 77 = .ok (.iinc 7 1, 3) := by decide +kernel
theorem dX12_isPossible_80 : decode cX12_isPossible 80 = .ok (.goto (-27), 3) := by decide +kernel
theorem dX12_isPossible_83 : decode cX12_isPossible 83 = .ok (.iload 6, 2) := by decide +kernel
theorem dX12_isPossible_85 : decode cX12_isPossible 85 = .ok (.iload 5, 2) := by decide +kernel
theorem dX12_isPossible_87 : decode cX12_isPossible 87 = .ok (.if_icmp .le 20, 3) := by decide +kernel
theorem dX12_isPossible_90 : decode cX12_isPossible 90 = .ok (.aload_n 0, 1) := by decide +kernel
theorem dX12_isPossible_91 : decode cX12_isPossible 91 = .ok (.iload 5, 2) := by decide +kernel
theorem dX12_isPossible_93 : decode cX12_isPossible 93 = .ok (.iload 4, 2) := by decide +kernel
theorem dX12_isPossible_95 : decode cX12_isPossible 95 = .ok (.isub, 1) := by decide +kernel
theorem dX12_isPossible_96 : decode cX12_isPossible 96 = .ok (.iload 6, 2) := by decide +kernel
theorem dX12_isPossible_98 : decode cX12_isPossible 98 = .ok (.iload 5, 2) := by decide +kernel
theorem dX12_isPossible_100 : decode cX12_isPossible 100 = .ok (.isub, 1) := by decide +kernel
theorem dX12_isPossible_101 : decode cX12_isPossible 101 = .ok (.invokevirtual 219, 3) := by decide +kernel
theorem dX12_isPossible_104 : decode cX12_isPossible 104 = .ok (.ifCond .eq 7, 3) := by decide +kernel
theorem dX12_isPossible_107 : decode cX12_isPossible 107 = .ok (.iconst 1, 1) := by decide +kernel
theorem dX12_isPossible_108 : decode cX12_isPossible 108 = .ok (.goto 4, 3) := by decide +kernel
theorem dX12_isPossible_111 : decode cX12_isPossible 111 = .ok (.iconst 0, 1) := by decide +kernel
theorem dX12_isPossible_112 : decode cX12_isPossible 112 = .ok (.istore_n 3, 1) := by decide +kernel
theorem dX12_isPossible_113 : decode cX12_isPossible 113 = .ok (.iload 4, 2) := by decide +kernel
theorem dX12_isPossible_115 : decode cX12_isPossible 115 = .ok (.aload_n 0, 1) := by decide +kernel
theorem dX12_isPossible_116 : decode cX12_isPossible 116 = .ok (.getfield 15, 3) := by decide +kernel
theorem dX12_isPossible_119 : decode cX12_isPossible 119 = .ok (.iadd, 1) := by decide +kernel
theorem dX12_isPossible_120 : decode cX12_isPossible 120 = .ok (.istore 4, 2) := by decide +kernel
theorem dX12_isPossible_122 : decode cX12_isPossible 122 = .ok (.goto (-104), 3) := by decide +kernel
theorem dX12_isPossible_125 : decode cX12_isPossible 125 = .ok (.iload_n 3, 1) := by decide +kernel
theorem dX12_isPossible_126 : decode cX12_isPossible 126 = .ok (.ireturn, 1) := by decide +kernel
set_option maxRecDepth 20000 in
theorem ggX12_possibleOf_X12_isPossible : GoodIn wsX12_possibleOf wsX12_isPossible := goodIn_r _ [6, 1, 7, 8, 9, 10, 11, 12, 13, 14, 15, 16, 17, 18, 5, 19, 20, 21, 22, 23, 24, 25, 26, 27, 28, 29, 30, 31, 32, 33, 34, 35, 36, 37, 38, 39, 40, 41, 42, 43, 44, 45, 46, 47, 48, 49, 50, 51, 52, 53, 54, 55, 56, 57, 58, 59, 60, 61, 62, 63, 64, 65, 66, 67, 68, 69, 70, 71, 72, 73] (by decide +kernel) (by decide +kernel)
set_option maxRecDepth 20000 in
theorem gX12_possibleOf_X12_isPossible : GoodIn wsX12_possibleOf (wsV RX12 223 RX12 yX12_isPossible wsX12_isPossible) := goodIn_app (goodIn_of _ (by decide +kernel)) ggX12_possibleOf_X12_isPossible
theorem dX12_possibleOf_0 : decode cX12_possibleOf 0 = .ok (.iconst 0, 1) := by decide +kernel
theorem dX12_possibleOf_1 : decode cX12_possibleOf 1 = .ok (.istore_n 2, 1) := by decide +kernel
theorem dX12_possibleOf_2 : decode cX12_possibleOf 2 = .ok (.iconst 0, 1) := by decide +kernel
theorem dX12_possibleOf_3 : decode cX12_possibleOf 3 = .ok (.istore_n 3, 1) := by decide +kernel
theorem dX12_possibleOf_4 : decode cX12_possibleOf 4 = .ok (.iload_n 3, 1) := by decide +kernel
theorem dX12_possibleOf_5 : decode cX12_possibleOf 5 = .ok (.aload_n 0, 1) := by decide +kernel
theorem dX12_possibleOf_6 : decode cX12_possibleOf 6 = .ok (.getfield 15, 3) := by decide +kernel
theorem dX12_possibleOf_9 : decode cX12_possibleOf 9 = .ok (.if_icmp .ge 28, 3) := by decide +kernel
theorem dX12_possibleOf_12 : decode cX12_possibleOf 12 = .ok (.iload_n 2, 1) := by decide +kernel
theorem dX12_possibleOf_13 : decode cX12_possibleOf 13 = .ok (.aload_n 0, 1) := by decide +kernel
theorem dX12_possibleOf_14 : decode cX12_possibleOf 14 = .ok (.iload_n 3, 1) := by decide +kernel
theorem dX12_possibleOf_15 : decode cX12_possibleOf 15 = .ok (.iload_n 1, 1) := by decide +kernel
theorem dX12_possibleOf_16 : decode cX12_possibleOf 16 = .ok (.invokevirtual 223, 3) := by decide +kernel
theorem dX12_possibleOf_19 : decode cX12_possibleOf 19 = .ok (.ifCond .eq 9, 3) := by decide +kernel
theorem dX12_possibleOf_22 : decode cX12_possibleOf 22 = .ok (.iconst 1, 1) := by decide +kernel
theorem dX12_possibleOf_23 : decode cX12_possibleOf 23 = .ok (.iload_n 3, 1) := by decide +kernel
theorem dX12_possibleOf_24 : decode cX12_possibleOf 24 = .ok (.ishl, 1) := by decide +kernel
theorem dX12_possibleOf_25 : decode cX12_possibleOf 25 = .ok (.goto 4, 3) := by decide +kernel
theorem dX12_possibleOf_28 : decode cX12_possibleOf 28 = .ok (.iconst 0, 1) := by decide +kernel
theorem dX12_possibleOf_29 : decode cX12_possibleOf 29 = .ok (.ior, 1) := by decide +kernel
theorem dX12_possibleOf_30 : decode cX12_possibleOf 30 = .ok (.istore_n 2, 1) := by decide +kernel
theorem dX12_possibleOf_31 : decode cX12_possibleOf 31 = .ok (.iinc 3 1, 3) := by decide +kernel
theorem dX12_possibleOf_34 : decode cX12_possibleOf 34 = .ok (.goto (-30), 3) := by decide +kernel
theorem dX12_possibleOf_37 : decode cX12_possibleOf 37 = .ok (.iload_n 2, 1) := by decide +kernel
theorem dX12_possibleOf_38 : decode cX12_possibleOf 38 = .ok (.ireturn, 1) := by decide +kernel
set_option maxRecDepth 20000 in
theorem ggX12_possible_X12_isIn : GoodIn wsX12_possible wsX12_isIn := goodIn_r _ [5] (by decide +kernel) (by decide +kernel)
set_option maxRecDepth 20000 in
theorem gX12_possible_X12_isIn : GoodIn wsX12_possible (va_wsS RX12 85 yX12_isIn wsX12_isIn) := goodIn_app (goodIn_of _ (by decide +kernel)) ggX12_possible_X12_isIn
set_option maxRecDepth 20000 in
theorem ggX12_possible_X12_possibleOf : GoodIn wsX12_possible wsX12_possibleOf := goodIn_r _ [9, 10, 11, 12, 13, 4, 14, 15, 16, 17, 18, 19, 20, 21, 22, 23, 24, 25, 26, 27, 28, 29, 30, 31, 32, 33, 34, 35, 36, 37, 38, 39, 40, 41, 42, 43, 44, 45, 46, 47, 48, 49, 50, 51, 52, 53, 54, 55, 56, 57, 58, 59, 60, 61, 62, 63, 64, 65, 66, 67, 68, 69, 70, 71, 72, 73, 74, 75, 76, 77, 78, 79, 80, 81] (by decide +kernel) (by decide +kernel)
set_option maxRecDepth 20000 in
theorem gX12_possible_X12_possibleOf : GoodIn wsX12_possible (wsV RX12 226 RX12 yX12_possibleOf wsX12_possibleOf) := goodIn_app (goodIn_of _ (by decide +kernel)) ggX12_possible_X12_possibleOf
theorem dX12_possible_0 : decode cX12_possible 0 = .ok (.iload_n 1, 1) := by decide +kernel
theorem dX12_possible_1 : decode cX12_possible 1 = .ok (.i2l, 1) := by decide +kernel
theorem dX12_possible_2 : decode cX12_possible 2 = .ok (.lconst 0, 1) := by decide +kernel
theorem dX12_possible_3 : decode cX12_possible 3 = .ok (.aload_n 0, 1) := by decide +kernel
theorem dX12_possible_4 : decode cX12_possible 4 = .ok (.getfield 95, 3) := by decide +kernel
theorem dX12_possible_7 : decode cX12_possible 7 = .ok (.i2l, 1) := by decide +kernel
theorem dX12_possible_8 : decode cX12_possible 8 = .ok (.invokestatic 85, 3) := by decide +kernel
theorem dX12_possible_11 : decode cX12_possible 11 = .ok (.ifCond .eq 11, 3) := by decide +kernel
theorem dX12_possible_14 : decode cX12_possible 14 = .ok (.aload_n 0, 1) := by decide +kernel
theorem dX12_possible_15 : decode cX12_possible 15 = .ok (.iload_n 1, 1) := by decide +kernel
theorem dX12_possible_16 : decode cX12_possible 16 = .ok (.invokevirtual 226, 3) := by decide +kernel
theorem dX12_possible_19 : decode cX12_possible 19 = .ok (.goto 5, 3) := by decide +kernel
theorem dX12_possible_22 : decode cX12_possible 22 = .ok (.bipush (-2), 2) := by decide +kernel
theorem dX12_possible_24 : decode cX12_possible 24 = .ok (.ireturn, 1) := by decide +kernel
set_option maxRecDepth 20000 in
theorem ggX12_certain_X12_isIn : GoodIn wsX12_certain wsX12_isIn := goodIn_r _ [5] (by decide +kernel) (by decide +kernel)
set_option maxRecDepth 20000 in
theorem gX12_certain_X12_isIn : GoodIn wsX12_certain (va_wsS RX12 85 yX12_isIn wsX12_isIn) := goodIn_app (goodIn_of _ (by decide +kernel)) ggX12_certain_X12_isIn
set_option maxRecDepth 20000 in
theorem ggX12_certain_X12_possibleOf : GoodIn wsX12_certain wsX12_possibleOf := goodIn_r _ [9, 10, 11, 12, 13, 4, 14, 15, 16, 17, 18, 19, 20, 21, 22, 23, 24, 25, 26, 27, 28, 29, 30, 31, 32, 33, 34, 35, 36, 37, 38, 39, 40, 41, 42, 43, 44, 45, 46, 47, 48, 49, 50, 51, 52, 53, 54, 55, 56, 57, 58, 59, 60, 61, 62, 63, 64, 65, 66, 67, 68, 69, 70, 71, 72, 73, 74, 75, 76, 77, 78, 79, 80, 81] (by decide +kernel) (by decide +kernel)
set_option maxRecDepth 20000 in
theorem gX12_certain_X12_possibleOf : GoodIn wsX12_certain (wsV RX12 226 RX12 yX12_possibleOf wsX12_possibleOf) := goodIn_app (goodIn_of _ (by decide +kernel)) ggX12_certain_X12_possibleOf
theorem dX12_certain_0 : decode cX12_certain 0 = .ok (.iload_n 1, 1) := by decide +kernel
theorem dX12_certain_1 : decode cX12_certain 1 = .ok (.i2l, 1) := by decide +kernel
theorem dX12_certain_2 : decode cX12_certain 2 = .ok (.lconst 0, 1) := by decide +kernel
theorem dX12_certain_3 : decode cX12_certain 3 = .ok (.lconst 1, 1) := by decide +kernel
theorem dX12_certain_4 : decode cX12_certain 4 = .ok (.invokestatic 85, 3) := by decide +kernel
theorem dX12_certain_7 : decode cX12_certain 7 = .ok (.ifCond .ne 5, 3) := by decide +kernel
theorem dX12_certain_10 : decode cX12_certain 10 = .ok (.iconst (-1), 1) := by decide +kernel
theorem dX12_certain_11 : decode cX12_certain 11 = .ok (.ireturn, 1) := by decide +kernel
theorem dX12_certain_12 : decode cX12_certain 12 = .ok (.iconst 1, 1) := by decide +kernel
theorem dX12_certain_13 : decode cX12_certain 13 = .ok (.istore_n 2, 1) := by decide +kernel
theorem dX12_certain_14 : decode cX12_certain 14 = .ok (.iload_n 2, 1) := by decide +kernel
theorem dX12_certain_15 : decode cX12_certain 15 = .ok (.aload_n 0, 1) := by decide +kernel
theorem dX12_certain_16 : decode cX12_certain 16 = .ok (.getfield 95, 3) := by decide +kernel
theorem dX12_certain_19 : decode cX12_certain 19 = .ok (.if_icmp .gt 55, 3) := by decide +kernel
theorem dX12_certain_22 : decode cX12_certain 22 = .ok (.aload_n 0, 1) := by decide +kernel
theorem dX12_certain_23 : decode cX12_certain 23 = .ok (.iload_n 2, 1) := by decide +kernel
theorem dX12_certain_24 : decode cX12_certain 24 = .ok (.invokevirtual 226, 3) := by decide +kernel
theorem dX12_certain_27 : decode cX12_certain 27 = .ok (.istore_n 3, 1) := by decide +kernel
theorem dX12_certain_28 : decode cX12_certain 28 = .ok (.iload_n 3, 1) := by decide +kernel
theorem dX12_certain_29 : decode cX12_certain 29 = .ok (.ifCond .eq 39, 3) := by decide +kernel
theorem dX12_certain_32 : decode cX12_certain 32 = .ok (.iload_n 3, 1) := by decide +kernel
theorem dX12_certain_33 : decode cX12_certain 33 = .ok (.iload_n 3, 1) := by decide +kernel
theorem dX12_certain_34 : decode cX12_certain 34 = .ok (.iconst 1, 1) := by decide +kernel
theorem dX12_certain_35 : decode cX12_certain 35 = .ok (.isub, 1) := by decide +kernel
theorem dX12_certain_36 : decode cX12_certain 36 = .ok (.iand, 1) := by decide +kernel
theorem dX12_certain_37 : decode cX12_certain 37 = .ok (.ifCond .ne 31, 3) := by decide +kernel
theorem dX12_certain_40 : decode cX12_certain 40 = .ok (.iconst 0, 1) := by decide +kernel
theorem dX12_certain_41 : decode cX12_certain 41 = .ok (.istore 4, 2) := by decide +kernel
theorem dX12_certain_43 : decode cX12_certain 43 = .ok (.iload_n 3, 1) := by decide +kernel
theorem dX12_certain_44 : decode cX12_certain 44 = .ok (.iload 4, 2) := by decide +kernel
theorem dX12_certain_46 : decode cX12_certain 46 = .ok (.ishr, 1) := by decide +kernel
theorem dX12_certain_47 : decode cX12_certain 47 = .ok (.iconst 1, 1) := by decide +kernel
theorem dX12_certain_48 : decode cX12_certain 48 = .ok (.if_icmp .eq 9, 3) := by decide +kernel
theorem dX12_certain_51 : decode cX12_certain 51 = .ok (.iinc 4 1, 3) := by decide +kernel
theorem dX12_certain_54 : decode cX12_certain 54 = .ok (.goto (-11), 3) := by decide +kernel
theorem dX12_certain_57 : decode cX12_certain 57 = .ok (.iload_n 1, 1) := by decide +kernel
theorem dX12_certain_58 : decode cX12_certain 58 = .ok (.ifCond .ne 7, 3) := by decide +kernel
theorem dX12_certain_61 : decode cX12_certain 61 = .ok (.iload_n 2, 1) := by decide +kernel
theorem dX12_certain_62 : decode cX12_certain 62 = .ok (.goto 5, 3) := by decide +kernel
theorem dX12_certain_65 : decode cX12_certain 65 = .ok (.iload 4, 2) := by decide +kernel
theorem dX12_certain_67 : decode cX12_certain 67 = .ok (.ireturn, 1) := by decide +kernel
theorem dX12_certain_68 : decode cX12_certain 68 = .ok (.iinc 2 1, 3) := by decide +kernel
theorem dX12_certain_71 : decode cX12_certain 71 = .ok (.goto (-57), 3) := by decide +kernel
theorem dX12_certain_74 : decode cX12_certain 74 = .ok (.bipush (-5), 2) := by decide +kernel
theorem dX12_certain_76 : decode cX12_certain 76 = .ok (.ireturn, 1) := by decide +kernel
set_option maxRecDepth 20000 in
theorem ggX12_goesOn_X12_isThere : GoodIn wsX12_goesOn wsX12_isThere := goodIn_r _ [12, 13, 6, 14, 15, 16, 11, 17, 7, 1, 18, 19, 20, 21, 22, 23, 24, 25, 26, 27, 28, 29, 30, 31, 32, 33, 34, 35, 36, 37, 38, 39, 40, 41, 42, 43, 44, 45, 46, 47, 48, 49, 50, 51, 52, 53, 54, 55, 56, 57, 58, 59, 60, 61, 62, 63, 64, 65] (by decide +kernel) (by decide +kernel)
set_option maxRecDepth 20000 in
theorem gX12_goesOn_X12_isThere : GoodIn wsX12_goesOn (wsV RX12 219 RX12 yX12_isThere wsX12_isThere) := goodIn_app (goodIn_of _ (by decide +kernel)) ggX12_goesOn_X12_isThere
theorem dX12_goesOn_0 : decode cX12_goesOn 0 = .ok (.iload_n 2, 1) := by decide +kernel
theorem dX12_goesOn_1 : decode cX12_goesOn 1 = .ok (.iconst 1, 1) := by decide +kernel
theorem dX12_goesOn_2 : decode cX12_goesOn 2 = .ok (.isub, 1) := by decide +kernel
theorem dX12_goesOn_3 : decode cX12_goesOn 3 = .ok (.iload_n 1, 1) := by decide +kernel
theorem dX12_goesOn_4 : decode cX12_goesOn 4 = .ok (.aload_n 0, 1) := by decide +kernel
theorem dX12_goesOn_5 : decode cX12_goesOn 5 = .ok (.getfield 15, 3) := by decide +kernel
theorem dX12_goesOn_8 : decode cX12_goesOn 8 = .ok (.irem, 1) := by decide +kernel
theorem dX12_goesOn_9 : decode cX12_goesOn 9 = .ok (.isub, 1) := by decide +kernel
theorem dX12_goesOn_10 : decode cX12_goesOn 10 = .ok (.aload_n 0, 1) := by decide +kernel
theorem dX12_goesOn_11 : decode cX12_goesOn 11 = .ok (.getfield 15, 3) := by decide +kernel
theorem dX12_goesOn_14 : decode cX12_goesOn 14 = .ok (.iadd, 1) := by decide +kernel
theorem dX12_goesOn_15 : decode cX12_goesOn 15 = .ok (.aload_n 0, 1) := by decide +kernel
theorem dX12_goesOn_16 : decode cX12_goesOn 16 = .ok (.getfield 15, 3) := by decide +kernel
theorem dX12_goesOn_19 : decode cX12_goesOn 19 = .ok (.irem, 1) := by decide +kernel
theorem dX12_goesOn_20 : decode cX12_goesOn 20 = .ok (.istore 4, 2) := by decide +kernel
theorem dX12_goesOn_22 : decode cX12_goesOn 22 = .ok (.iload 4, 2) := by decide +kernel
theorem dX12_goesOn_24 : decode cX12_goesOn 24 = .ok (.iconst 1, 1) := by decide +kernel
theorem dX12_goesOn_25 : decode cX12_goesOn 25 = .ok (.iadd, 1) := by decide +kernel
theorem dX12_goesOn_26 : decode cX12_goesOn 26 = .ok (.iload_n 2, 1) := by decide +kernel
theorem dX12_goesOn_27 : decode cX12_goesOn 27 = .ok (.invokestatic 140, 3) := by decide +kernel
theorem dX12_goesOn_30 : decode cX12_goesOn 30 = .ok (.istore 5, 2) := by decide +kernel
theorem dX12_goesOn_32 : decode cX12_goesOn 32 = .ok (.iload_n 3, 1) := by decide +kernel
theorem dX12_goesOn_33 : decode cX12_goesOn 33 = .ok (.istore 6, 2) := by decide +kernel
theorem dX12_goesOn_35 : decode cX12_goesOn 35 = .ok (.iload 5, 2) := by decide +kernel
theorem dX12_goesOn_37 : decode cX12_goesOn 37 = .ok (.iconst 1, 1) := by decide +kernel
theorem dX12_goesOn_38 : decode cX12_goesOn 38 = .ok (.isub, 1) := by decide +kernel
theorem dX12_goesOn_39 : decode cX12_goesOn 39 = .ok (.istore 7, 2) := by decide +kernel
theorem dX12_goesOn_41 : decode cX12_goesOn 41 = .ok (.iload 7, 2) := by decide +kernel
theorem dX12_goesOn_43 : decode cX12_goesOn 43 = .ok (.ifCond .lt 32, 3) := by decide +kernel
theorem dX12_goesOn_46 : decode cX12_goesOn 46 = .ok (.aload_n 0, 1) := by decide +kernel
theorem dX12_goesOn_47 : decode cX12_goesOn 47 = .ok (.getfield 53, 3) := by decide +kernel
theorem dX12_goesOn_50 : decode cX12_goesOn 50 = .ok (.iload 7, 2) := by decide +kernel
theorem dX12_goesOn_52 : decode cX12_goesOn 52 = .ok (.iload 6, 2) := by decide +kernel
theorem dX12_goesOn_54 : decode cX12_goesOn 54 = .ok (.aload_n 0, 1) := by decide +kernel
theorem dX12_goesOn_55 : decode cX12_goesOn 55 = .ok (.getfield 9, 3) := by decide +kernel
theorem dX12_goesOn_58 : decode cX12_goesOn 58 = .ok (.irem, 1) := by decide +kernel
theorem dX12_goesOn_59 : decode cX12_goesOn 59 = .ok (.iastore, 1) := by decide +kernel
theorem dX12_goesOn_60 : decode cX12_goesOn 60 = .ok (.iload 6, 2) := by decide +kernel
theorem dX12_goesOn_62 : decode cX12_goesOn 62 = .ok (.aload_n 0, 1) := by decide +kernel
theorem dX12_goesOn_63 : decode cX12_goesOn 63 = .ok (.getfield 9, 3) := by decide +kernel
theorem dX12_goesOn_66 : decode cX12_goesOn 66 = .ok (.idiv, 1) := by decide +kernel
theorem dX12_goesOn_67 : decode cX12_goesOn 67 = .ok (.istore 6, 2) := by decide +kernel
theorem dX12_goesOn_69 : decode cX12_goesOn 69 = .ok (.iinc 7 (-1), 3) := by decide +kernel
theorem dX12_goesOn_72 : decode cX12_goesOn 72 = .ok (.goto (-31), 3) := by decide +kernel
theorem dX12_goesOn_75 : decode cX12_goesOn 75 = .ok (.aload_n 0, 1) := by decide +kernel
theorem dX12_goesOn_76 : decode cX12_goesOn 76 = .ok (.iload 4, 2) := by decide +kernel
theorem dX12_goesOn_78 : decode cX12_goesOn 78 = .ok (.iconst 1, 1) := by decide +kernel
theorem dX12_goesOn_79 : decode cX12_goesOn 79 = .ok (.iadd, 1) := by decide +kernel
theorem dX12_goesOn_80 : decode cX12_goesOn 80 = .ok (.iload 5, 2) := by decide +kernel
theorem dX12_goesOn_82 : decode cX12_goesOn 82 = .ok (.isub, 1) := by decide +kernel
theorem dX12_goesOn_83 : decode cX12_goesOn 83 = .ok (.iload 5, 2) := by decide +kernel
theorem dX12_goesOn_85 : decode cX12_goesOn 85 = .ok (.invokevirtual 219, 3) := by decide +kernel
theorem dX12_goesOn_88 : decode cX12_goesOn 88 = .ok (.ireturn, 1) := by decide +kernel
set_option maxRecDepth 20000 in
theorem ggX12_longest_X12_power : GoodIn wsX12_longest wsX12_power := goodIn_r _ [8] (by decide +kernel) (by decide +kernel)
set_option maxRecDepth 20000 in
theorem gX12_longest_X12_power : GoodIn wsX12_longest (va_wsS RX12 77 yX12_power wsX12_power) := goodIn_app (goodIn_of _ (by decide +kernel)) ggX12_longest_X12_power
set_option maxRecDepth 20000 in
theorem ggX12_longest_X12_goesOn : GoodIn wsX12_longest wsX12_goesOn := goodIn_r _ [12, 2, 13, 14, 15, 16, 17, 1, 18, 19, 20, 7, 21, 22, 23, 24, 25, 26, 5, 6, 8, 27, 28, 29, 30, 31, 32, 33, 34, 35, 36, 37, 38, 39, 40, 41, 42, 43, 44, 45, 46, 47, 48, 49, 50, 51, 52, 53, 54, 55, 56, 57, 58, 59, 60, 61, 62, 63, 64, 65, 66, 67, 68, 69, 70, 71] (by decide +kernel) (by decide +kernel)
set_option maxRecDepth 20000 in
theorem gX12_longest_X12_goesOn : GoodIn wsX12_longest (wsV RX12 229 RX12 yX12_goesOn wsX12_goesOn) := goodIn_app (goodIn_of _ (by decide +kernel)) ggX12_longest_X12_goesOn
theorem dX12_longest_0 : decode cX12_longest 0 = .ok (.aload_n 0, 1) := by decide +kernel
theorem dX12_longest_1 : decode cX12_longest 1 = .ok (.getfield 9, 3) := by decide +kernel
theorem dX12_longest_4 : decode cX12_longest 4 = .ok (.aload_n 0, 1) := by decide +kernel
theorem dX12_longest_5 : decode cX12_longest 5 = .ok (.getfield 15, 3) := by decide +kernel
theorem dX12_longest_8 : decode cX12_longest 8 = .ok (.iconst 1, 1) := by decide +kernel
theorem dX12_longest_9 : decode cX12_longest 9 = .ok (.isub, 1) := by decide +kernel
theorem dX12_longest_10 : decode cX12_longest 10 = .ok (.invokestatic 77, 3) := by decide +kernel
theorem dX12_longest_13 : decode cX12_longest 13 = .ok (.istore_n 3, 1) := by decide +kernel
theorem dX12_longest_14 : decode cX12_longest 14 = .ok (.iconst 0, 1) := by decide +kernel
theorem dX12_longest_15 : decode cX12_longest 15 = .ok (.istore 4, 2) := by decide +kernel
theorem dX12_longest_17 : decode cX12_longest 17 = .ok (.iload 4, 2) := by decide +kernel
theorem dX12_longest_19 : decode cX12_longest 19 = .ok (.sipush 256, 3) := by decide +kernel
theorem dX12_longest_22 : decode cX12_longest 22 = .ok (.if_icmp .ge 26, 3) := by decide +kernel
theorem dX12_longest_25 : decode cX12_longest 25 = .ok (.aload_n 0, 1) := by decide +kernel
theorem dX12_longest_26 : decode cX12_longest 26 = .ok (.getfield 56, 3) := by decide +kernel
theorem dX12_longest_29 : decode cX12_longest 29 = .ok (.iload 4, 2) := by decide +kernel
theorem dX12_longest_31 : decode cX12_longest 31 = .ok (.iload 4, 2) := by decide +kernel
theorem dX12_longest_33 : decode cX12_longest 33 = .ok (.ifCond .ne 7, 3) := by decide +kernel
theorem dX12_longest_36 : decode cX12_longest 36 = .ok (.iconst 1, 1) := by decide +kernel
theorem dX12_longest_37 : decode cX12_longest 37 = .ok (.goto 4, 3) := by decide +kernel
theorem dX12_longest_40 : decode cX12_longest 40 = .ok (.iconst 0, 1) := by decide +kernel
theorem dX12_longest_41 : decode cX12_longest 41 = .ok (.bastore, 1) := by decide +kernel
theorem dX12_longest_42 : decode cX12_longest 42 = .ok (.iinc 4 1, 3) := by decide +kernel
theorem dX12_longest_45 : decode cX12_longest 45 = .ok (.goto (-28), 3) := by decide +kernel
theorem dX12_longest_48 : decode cX12_longest 48 = .ok (.iconst 1, 1) := by decide +kernel
theorem dX12_longest_49 : decode cX12_longest 49 = .ok (.istore 4, 2) := by decide +kernel
theorem dX12_longest_51 : decode cX12_longest 51 = .ok (.iload 4, 2) := by decide +kernel
theorem dX12_longest_53 : decode cX12_longest 53 = .ok (.bipush 12, 2) := by decide +kernel
theorem dX12_longest_55 : decode cX12_longest 55 = .ok (.if_icmp .gt 170, 3) := by decide +kernel
theorem dX12_longest_58 : decode cX12_longest 58 = .ok (.iconst 0, 1) := by decide +kernel
theorem dX12_longest_59 : decode cX12_longest 59 = .ok (.istore 5, 2) := by decide +kernel
theorem dX12_longest_61 : decode cX12_longest 61 = .ok (.iconst 0, 1) := by decide +kernel
theorem dX12_longest_62 : decode cX12_longest 62 = .ok (.istore 6, 2) := by decide +kernel
theorem dX12_longest_64 : decode cX12_longest 64 = .ok (.iload 6, 2) := by decide +kernel
theorem dX12_longest_66 : decode cX12_longest 66 = .ok (.sipush 256, 3) := by decide +kernel
theorem dX12_longest_69 : decode cX12_longest 69 = .ok (.if_icmp .ge 17, 3) := by decide +kernel
theorem dX12_longest_72 : decode cX12_longest 72 = .ok (.aload_n 0, 1) := by decide +kernel
theorem dX12_longest_73 : decode cX12_longest 73 = .ok (.getfield 59, 3) := by decide +kernel
theorem dX12_longest_76 : decode cX12_longest 76 = .ok (.iload 6, 2) := by decide +kernel
theorem dX12_longest_78 : decode cX12_longest 78 = .ok (.iconst 0, 1) := by decide +kernel
theorem dX12_longest_79 : decode cX12_longest 79 = .ok (.bastore, 1) := by decide +kernel
theorem dX12_longest_80 : decode cX12_longest 80 = .ok (.iinc 6 1, 3) := by decide +kernel
theorem dX12_longest_83 : decode cX12_longest 83 = .ok (.goto (-19), 3) := by decide +kernel
theorem dX12_longest_86 : decode cX12_longest 86 = .ok (.iconst 0, 1) := by decide +kernel
theorem dX12_longest_87 : decode cX12_longest 87 = .ok (.istore 6, 2) := by decide +kernel
theorem dX12_longest_89 : decode cX12_longest 89 = .ok (.iload 6, 2) := by decide +kernel
theorem dX12_longest_91 : decode cX12_longest 91 = .ok (.iload_n 3, 1) := by decide +kernel
theorem dX12_longest_92 : decode cX12_longest 92 = .ok (.if_icmp .ge 86, 3) := by decide +kernel
theorem dX12_longest_95 : decode cX12_longest 95 = .ok (.iconst 0, 1) := by decide +kernel
theorem dX12_longest_96 : decode cX12_longest 96 = .ok (.istore 7, 2) := by decide +kernel
theorem dX12_longest_98 : decode cX12_longest 98 = .ok (.iload 7, 2) := by decide +kernel
theorem dX12_longest_100 : decode cX12_longest 100 = .ok (.aload_n 0, 1) := by decide +kernel
theorem dX12_longest_101 : decode cX12_longest 101 = .ok (.getfield 9, 3) := by decide +kernel
theorem dX12_longest_104 : decode cX12_longest 104 = .ok (.if_icmp .ge 68, 3) := by decide +kernel
theorem dX12_longest_107 : decode cX12_longest 107 = .ok (.aload_n 0, 1) := by decide +kernel
theorem dX12_longest_108 : decode cX12_longest 108 = .ok (.getfield 56, 3) := by decide +kernel
theorem dX12_longest_111 : decode cX12_longest 111 = .ok (.iload 6, 2) := by decide +kernel
theorem dX12_longest_113 : decode cX12_longest 113 = .ok (.baload, 1) := by decide +kernel
theorem dX12_longest_114 : decode cX12_longest 114 = .ok (.ifCond .eq 58, 3) := by decide +kernel
theorem dX12_longest_117 : decode cX12_longest 117 = .ok (.aload_n 0, 1) := by decide +kernel
theorem dX12_longest_118 : decode cX12_longest 118 = .ok (.getfield 9, 3) := by decide +kernel
theorem dX12_longest_121 : decode cX12_longest 121 = .ok (.iload 6, 2) := by decide +kernel
theorem dX12_longest_123 : decode cX12_longest 123 = .ok (.imul, 1) := by decide +kernel
theorem dX12_longest_124 : decode cX12_longest 124 = .ok (.iload 7, 2) := by decide +kernel
theorem dX12_longest_126 : decode cX12_longest 126 = .ok (.iadd, 1) := by decide +kernel
theorem dX12_longest_127 : decode cX12_longest 127 = .ok (.istore 8, 2) := by decide +kernel
theorem dX12_longest_129 : decode cX12_longest 129 = .ok (.aload_n 0, 1) := by decide +kernel
theorem dX12_longest_130 : decode cX12_longest 130 = .ok (.iload_n 1, 1) := by decide +kernel
theorem dX12_longest_131 : decode cX12_longest 131 = .ok (.iload 4, 2) := by decide +kernel
theorem dX12_longest_133 : decode cX12_longest 133 = .ok (.iload 8, 2) := by decide +kernel
theorem dX12_longest_135 : decode cX12_longest 135 = .ok (.invokevirtual 229, 3) := by decide +kernel
theorem dX12_longest_138 : decode cX12_longest 138 = .ok (.ifCond .eq 28, 3) := by decide +kernel
theorem dX12_longest_141 : decode cX12_longest 141 = .ok (.aload_n 0, 1) := by decide +kernel
theorem dX12_longest_142 : decode cX12_longest 142 = .ok (.iload_n 2, 1) := by decide +kernel
theorem dX12_longest_143 : decode cX12_longest 143 = .ok (.iload 4, 2) := by decide +kernel
theorem dX12_longest_145 : decode cX12_longest 145 = .ok (.iload 8, 2) := by decide +kernel
theorem dX12_longest_147 : decode cX12_longest 147 = .ok (.invokevirtual 229, 3) := by decide +kernel
theorem dX12_longest_150 : decode cX12_longest 150 = .ok (.ifCond .eq 16, 3) := by decide +kernel
theorem dX12_longest_153 : decode cX12_longest 153 = .ok (.aload_n 0, 1) := by decide +kernel
theorem dX12_longest_154 : decode cX12_longest 154 = .ok (.getfield 59, 3) := by decide +kernel
theorem dX12_longest_157 : decode cX12_longest 157 = .ok (.iload 8, 2) := by decide +kernel
theorem dX12_longest_159 : decode cX12_longest 159 = .ok (.iload_n 3, 1) := by decide +kernel
theorem dX12_longest_160 : decode cX12_longest 160 = .ok (.irem, 1) := by decide +kernel
theorem dX12_longest_161 : decode cX12_longest 161 = .ok (.iconst 1, 1) := by decide +kernel
theorem dX12_longest_162 : decode cX12_longest 162 = .ok (.bastore, 1) := by decide +kernel
theorem dX12_longest_163 : decode cX12_longest 163 = .ok (.iconst 1, 1) := by decide +kernel
theorem dX12_longest_164 : decode cX12_longest 164 = .ok (.istore 5, 2) := by decide +kernel
theorem dX12_longest_166 : decode cX12_longest 166 = .ok (.iinc 7 1, 3) := by decide +kernel
theorem dX12_longest_169 : decode cX12_longest 169 = .ok (.goto (-71), 3) := by decide +kernel
theorem dX12_longest_172 : decode cX12_longest 172 = .ok (.iinc 6 1, 3) := by decide +kernel
theorem dX12_longest_175 : decode cX12_longest 175 = .ok (.goto (-86), 3) := by decide +kernel
theorem dX12_longest_178 : decode cX12_longest 178 = .ok (.iload 5, 2) := by decide +kernel
theorem dX12_longest_180 : decode cX12_longest 180 = .ok (.ifCond .ne 8, 3) := by decide +kernel
theorem dX12_longest_183 : decode cX12_longest 183 = .ok (.iload 4, 2) := by decide +kernel
theorem dX12_longest_185 : decode cX12_longest 185 = .ok (.iconst 1, 1) := by decide +kernel
theorem dX12_longest_186 : decode cX12_longest 186 = .ok (.isub, 1) := by decide +kernel
theorem dX12_longest_187 : decode cX12_longest 187 = .ok (.ireturn, 1) := by decide +kernel
theorem dX12_longest_188 : decode cX12_longest 188 = .ok (.iconst 0, 1) := by decide +kernel
theorem dX12_longest_189 : decode cX12_longest 189 = .ok (.istore 6, 2) := by decide +kernel
theorem dX12_longest_191 : decode cX12_longest 191 = .ok (.iload 6, 2) := by decide +kernel
theorem dX12_longest_193 : decode cX12_longest 193 = .ok (.sipush 256, 3) := by decide +kernel
theorem dX12_longest_196 : decode cX12_longest 196 = .ok (.if_icmp .ge 23, 3) := by decide +kernel
theorem dX12_longest_199 : decode cX12_longest 199 = .ok (.aload_n 0, 1) := by decide +kernel
theorem dX12_longest_200 : decode cX12_longest 200 = .ok (.getfield 56, 3) := by decide +kernel
theorem dX12_longest_203 : decode cX12_longest 203 = .ok (.iload 6, 2) := by decide +kernel
theorem dX12_longest_205 : decode cX12_longest 205 = .ok (.aload_n 0, 1) := by decide +kernel
theorem dX12_longest_206 : decode cX12_longest 206 = .ok (.getfield 59, 3) := by decide +kernel
theorem dX12_longest_209 : decode cX12_longest 209 = .ok (.iload 6, 2) := by decide +kernel
theorem dX12_longest_211 : decode cX12_longest 211 = .ok (.baload, 1) := by decide +kernel
theorem dX12_longest_212 : decode cX12_longest 212 = .ok (.bastore, 1) := by decide +kernel
theorem dX12_longest_213 : decode cX12_longest 213 = .ok (.iinc 6 1, 3) := by decide +kernel
theorem dX12_longest_216 : decode cX12_longest 216 = .ok (.goto (-25), 3) := by decide +kernel
theorem dX12_longest_219 : decode cX12_longest 219 = .ok (.iinc 4 1, 3) := by decide +kernel
theorem dX12_longest_222 : decode cX12_longest 222 = .ok (.goto (-171), 3) := by decide +kernel
theorem dX12_longest_225 : decode cX12_longest 225 = .ok (.bipush 12, 2) := by decide +kernel
theorem dX12_longest_227 : decode cX12_longest 227 = .ok (.ireturn, 1) := by decide +kernel
set_option maxRecDepth 20000 in
theorem ggX12_delay_X12_words : GoodIn wsX12_delay wsX12_words := goodIn_r _ [10, 11, 1, 12, 13, 9, 14, 38, 39, 40, 41, 42, 43, 44, 45, 46, 47, 48, 49, 50, 51, 52, 53, 54, 55, 56, 57, 58, 59, 60, 61, 62, 63, 64, 65, 66, 67, 68, 69, 70, 71, 72, 73, 74, 75, 76, 77, 78] (by decide +kernel) (by decide +kernel)
set_option maxRecDepth 20000 in
theorem gX12_delay_X12_words : GoodIn wsX12_delay (wsV RX12 81 RX12 yX12_words wsX12_words) := goodIn_app (goodIn_of _ (by decide +kernel)) ggX12_delay_X12_words
set_option maxRecDepth 20000 in
theorem ggX12_delay_X12_longest : GoodIn wsX12_delay wsX12_longest := goodIn_r _ [18, 11, 1, 19, 20, 12, 13, 9, 14, 21, 22, 23, 24, 25, 26, 4, 27, 28, 29, 30, 31, 32, 33, 6, 7, 8, 10, 34, 35, 36, 37, 38, 39, 40, 41, 42, 43, 44, 45, 46, 47, 48, 49, 50, 51, 52, 53, 54, 55, 56, 57, 58, 59, 60, 61, 62, 63, 64, 65, 66, 67, 68, 69, 70, 71, 72, 73, 74, 75, 76, 77, 78] (by decide +kernel) (by decide +kernel)
set_option maxRecDepth 20000 in
theorem gX12_delay_X12_longest : GoodIn wsX12_delay (wsV RX12 233 RX12 yX12_longest wsX12_longest) := goodIn_app (goodIn_of _ (by decide +kernel)) ggX12_delay_X12_longest
theorem dX12_delay_0 : decode cX12_delay 0 = .ok (.aload_n 0, 1) := by decide +kernel
theorem dX12_delay_1 : decode cX12_delay 1 = .ok (.invokevirtual 81, 3) := by decide +kernel
theorem dX12_delay_4 : decode cX12_delay 4 = .ok (.bipush 32, 2) := by decide +kernel
theorem dX12_delay_6 : decode cX12_delay 6 = .ok (.if_icmp .le 6, 3) := by decide +kernel
theorem dX12_delay_9 : decode cX12_delay 9 = .ok (.bipush (-3), 2) := by decide +kernel
theorem dX12_delay_11 : decode cX12_delay 11 = .ok (.ireturn, 1) := by decide +kernel
theorem dX12_delay_12 : decode cX12_delay 12 = .ok (.iconst 0, 1) := by decide +kernel
theorem dX12_delay_13 : decode cX12_delay 13 = .ok (.istore_n 1, 1) := by decide +kernel
theorem dX12_delay_14 : decode cX12_delay 14 = .ok (.iconst 0, 1) := by decide +kernel
theorem dX12_delay_15 : decode cX12_delay 15 = .ok (.istore_n 2, 1) := by decide +kernel
theorem dX12_delay_16 : decode cX12_delay 16 = .ok (.iload_n 2, 1) := by decide +kernel
theorem dX12_delay_17 : decode cX12_delay 17 = .ok (.aload_n 0, 1) := by decide +kernel
theorem dX12_delay_18 : decode cX12_delay 18 = .ok (.getfield 15, 3) := by decide +kernel
theorem dX12_delay_21 : decode cX12_delay 21 = .ok (.if_icmp .ge 33, 3) := by decide +kernel
theorem dX12_delay_24 : decode cX12_delay 24 = .ok (.iconst 0, 1) := by decide +kernel
theorem dX12_delay_25 : decode cX12_delay 25 = .ok (.istore_n 3, 1) := by decide +kernel
theorem dX12_delay_26 : decode cX12_delay 26 = .ok (.iload_n 3, 1) := by decide +kernel
theorem dX12_delay_27 : decode cX12_delay 27 = .ok (.iload_n 2, 1) := by decide +kernel
theorem dX12_delay_28 : decode cX12_delay 28 = .ok (.if_icmp .ge 20, 3) := by decide +kernel
theorem dX12_delay_31 : decode cX12_delay 31 = .ok (.iload_n 1, 1) := by decide +kernel
theorem dX12_delay_32 : decode cX12_delay 32 = .ok (.aload_n 0, 1) := by decide +kernel
theorem dX12_delay_33 : decode cX12_delay 33 = .ok (.iload_n 2, 1) := by decide +kernel
theorem dX12_delay_34 : decode cX12_delay 34 = .ok (.iload_n 3, 1) := by decide +kernel
theorem dX12_delay_35 : decode cX12_delay 35 = .ok (.invokevirtual 233, 3) := by decide +kernel
theorem dX12_delay_38 : decode cX12_delay 38 = .ok (.invokestatic 216, 3) := by decide +kernel
theorem dX12_delay_41 : decode cX12_delay 41 = .ok (.istore_n 1, 1) := by decide +kernel
theorem dX12_delay_42 : decode cX12_delay 42 = .ok (.iinc 3 1, 3) := by decide +kernel
theorem dX12_delay_45 : decode cX12_delay 45 = .ok (.goto (-19), 3) := by decide +kernel
theorem dX12_delay_48 : decode cX12_delay 48 = .ok (.iinc 2 1, 3) := by decide +kernel
theorem dX12_delay_51 : decode cX12_delay 51 = .ok (.goto (-35), 3) := by decide +kernel
theorem dX12_delay_54 : decode cX12_delay 54 = .ok (.iload_n 1, 1) := by decide +kernel
theorem dX12_delay_55 : decode cX12_delay 55 = .ok (.bipush 12, 2) := by decide +kernel
theorem dX12_delay_57 : decode cX12_delay 57 = .ok (.if_icmp .ge 9, 3) := by decide +kernel
theorem dX12_delay_60 : decode cX12_delay 60 = .ok (.iload_n 1, 1) := by decide +kernel
theorem dX12_delay_61 : decode cX12_delay 61 = .ok (.iconst 1, 1) := by decide +kernel
theorem dX12_delay_62 : decode cX12_delay 62 = .ok (.iadd, 1) := by decide +kernel
theorem dX12_delay_63 : decode cX12_delay 63 = .ok (.goto 5, 3) := by decide +kernel
theorem dX12_delay_66 : decode cX12_delay 66 = .ok (.bipush (-5), 2) := by decide +kernel
theorem dX12_delay_68 : decode cX12_delay 68 = .ok (.ireturn, 1) := by decide +kernel
set_option maxRecDepth 20000 in
theorem ggX12_common_X12_common : GoodIn wsX12_common wsX12_common := goodIn_r _ [0, 1, 2, 3] (by decide +kernel) (by decide +kernel)
set_option maxRecDepth 20000 in
theorem gX12_common_X12_common : GoodIn wsX12_common (va_wsS RX12 236 yX12_common wsX12_common) := goodIn_app (goodIn_of _ (by decide +kernel)) ggX12_common_X12_common
theorem dX12_common_0 : decode cX12_common 0 = .ok (.iload_n 1, 1) := by decide +kernel
theorem dX12_common_1 : decode cX12_common 1 = .ok (.ifCond .ne 7, 3) := by decide +kernel
theorem dX12_common_4 : decode cX12_common 4 = .ok (.iload_n 0, 1) := by decide +kernel
theorem dX12_common_5 : decode cX12_common 5 = .ok (.goto 10, 3) := by decide +kernel
theorem dX12_common_8 : decode cX12_common 8 = .ok (.iload_n 1, 1) := by decide +kernel
theorem dX12_common_9 : decode cX12_common 9 = .ok (.iload_n 0, 1) := by decide +kernel
theorem dX12_common_10 : decode cX12_common 10 = .ok (.iload_n 1, 1) := by decide +kernel
theorem dX12_common_11 : decode cX12_common 11 = .ok (.irem, 1) := by decide +kernel
theorem dX12_common_12 : decode cX12_common 12 = .ok (.invokestatic 236, 3) := by decide +kernel
theorem dX12_common_15 : decode cX12_common 15 = .ok (.ireturn, 1) := by decide +kernel
set_option maxRecDepth 20000 in
theorem ggX12_odds_X12_isIn : GoodIn wsX12_odds wsX12_isIn := goodIn_r _ [10] (by decide +kernel) (by decide +kernel)
set_option maxRecDepth 20000 in
theorem gX12_odds_X12_isIn : GoodIn wsX12_odds (va_wsS RX12 85 yX12_isIn wsX12_isIn) := goodIn_app (goodIn_of _ (by decide +kernel)) ggX12_odds_X12_isIn
set_option maxRecDepth 20000 in
theorem ggX12_odds_X12_keepsBook : GoodIn wsX12_odds wsX12_keepsBook := goodIn_r _ [14, 5, 38, 39, 40, 41, 42, 43, 44, 45, 46, 47, 48, 49, 50, 51, 52, 53, 54, 55, 56, 57, 58, 59, 60, 61, 62, 63, 64, 65, 66, 67, 68, 69, 70, 71, 72, 73, 74, 75, 76, 77, 78] (by decide +kernel) (by decide +kernel)
set_option maxRecDepth 20000 in
theorem gX12_odds_X12_keepsBook : GoodIn wsX12_odds (wsV RX12 212 RX12 yX12_keepsBook wsX12_keepsBook) := goodIn_app (goodIn_of _ (by decide +kernel)) ggX12_odds_X12_keepsBook
set_option maxRecDepth 20000 in
theorem ggX12_odds_X12_words : GoodIn wsX12_odds wsX12_words := goodIn_r _ [18, 19, 20, 21, 22, 9, 23, 38, 39, 40, 41, 42, 43, 44, 45, 46, 47, 48, 49, 50, 51, 52, 53, 54, 55, 56, 57, 58, 59, 60, 61, 62, 63, 64, 65, 66, 67, 68, 69, 70, 71, 72, 73, 74, 75, 76, 77, 78] (by decide +kernel) (by decide +kernel)
set_option maxRecDepth 20000 in
theorem gX12_odds_X12_words : GoodIn wsX12_odds (wsV RX12 81 RX12 yX12_words wsX12_words) := goodIn_app (goodIn_of _ (by decide +kernel)) ggX12_odds_X12_words
set_option maxRecDepth 20000 in
theorem ggX12_odds_X12_isFree : GoodIn wsX12_odds wsX12_isFree := goodIn_r _ [27, 5, 20, 28, 29, 30, 15, 16, 17, 9, 18, 19, 21, 22, 23, 31, 32, 33, 34, 38, 39, 40, 41, 42, 43, 44, 45, 46, 47, 48, 49, 50, 51, 52, 53, 54, 55, 56, 57, 58, 59, 60, 61, 62, 63, 64, 65, 66, 67, 68, 69, 70, 71, 72, 73, 74, 75, 76, 77, 78] (by decide +kernel) (by decide +kernel)
set_option maxRecDepth 20000 in
theorem gX12_odds_X12_isFree : GoodIn wsX12_odds (wsV RX12 130 RX12 yX12_isFree wsX12_isFree) := goodIn_app (goodIn_of _ (by decide +kernel)) ggX12_odds_X12_isFree
set_option maxRecDepth 20000 in
theorem ggX12_odds_X12_common : GoodIn wsX12_odds wsX12_common := goodIn_r _ [37, 35, 36, 9] (by decide +kernel) (by decide +kernel)
set_option maxRecDepth 20000 in
theorem gX12_odds_X12_common : GoodIn wsX12_odds (va_wsS RX12 236 yX12_common wsX12_common) := goodIn_app (goodIn_of _ (by decide +kernel)) ggX12_odds_X12_common
theorem dX12_odds_0 : decode cX12_odds 0 = .ok (.iload_n 1, 1) := by decide +kernel
theorem dX12_odds_1 : decode cX12_odds 1 = .ok (.i2l, 1) := by decide +kernel
theorem dX12_odds_2 : decode cX12_odds 2 = .ok (.lconst 1, 1) := by decide +kernel
theorem dX12_odds_3 : decode cX12_odds 3 = .ok (.ldc2_w 239, 3) := by decide +kernel
theorem dX12_odds_6 : decode cX12_odds 6 = .ok (.invokestatic 85, 3) := by decide +kernel
theorem dX12_odds_9 : decode cX12_odds 9 = .ok (.ifCond .eq 26, 3) := by decide +kernel
theorem dX12_odds_12 : decode cX12_odds 12 = .ok (.iload_n 3, 1) := by decide +kernel
theorem dX12_odds_13 : decode cX12_odds 13 = .ok (.i2l, 1) := by decide +kernel
theorem dX12_odds_14 : decode cX12_odds 14 = .ok (.lconst 1, 1) := by decide +kernel
theorem dX12_odds_15 : decode cX12_odds 15 = .ok (.ldc2_w 241, 3) := by decide +kernel
theorem dX12_odds_18 : decode cX12_odds 18 = .ok (.invokestatic 85, 3) := by decide +kernel
theorem dX12_odds_21 : decode cX12_odds 21 = .ok (.ifCond .eq 14, 3) := by decide +kernel
theorem dX12_odds_24 : decode cX12_odds 24 = .ok (.iload 4, 2) := by decide +kernel
theorem dX12_odds_26 : decode cX12_odds 26 = .ok (.i2l, 1) := by decide +kernel
theorem dX12_odds_27 : decode cX12_odds 27 = .ok (.lconst 0, 1) := by decide +kernel
theorem dX12_odds_28 : decode cX12_odds 28 = .ok (.lconst 1, 1) := by decide +kernel
theorem dX12_odds_29 : decode cX12_odds 29 = .ok (.invokestatic 85, 3) := by decide +kernel
theorem dX12_odds_32 : decode cX12_odds 32 = .ok (.ifCond .ne 7, 3) := by decide +kernel
theorem dX12_odds_35 : decode cX12_odds 35 = .ok (.ldc2_w 243, 3) := by decide +kernel
theorem dX12_odds_38 : decode cX12_odds 38 = .ok (.lreturn, 1) := by decide +kernel
theorem dX12_odds_39 : decode cX12_odds 39 = .ok (.aload_n 0, 1) := by decide +kernel
theorem dX12_odds_40 : decode cX12_odds 40 = .ok (.aload_n 0, 1) := by decide +kernel
theorem dX12_odds_41 : decode cX12_odds 41 = .ok (.getfield 25, 3) := by decide +kernel
theorem dX12_odds_44 : decode cX12_odds 44 = .ok (.invokevirtual 212, 3) := by decide +kernel
theorem dX12_odds_47 : decode cX12_odds 47 = .ok (.iconst 0, 1) := by decide +kernel
theorem dX12_odds_48 : decode cX12_odds 48 = .ok (.istore 5, 2) := by decide +kernel
theorem dX12_odds_50 : decode cX12_odds 50 = .ok (.iconst 0, 1) := by decide +kernel
theorem dX12_odds_51 : decode cX12_odds 51 = .ok (.istore 6, 2) := by decide +kernel
theorem dX12_odds_53 : decode cX12_odds 53 = .ok (.iload 6, 2) := by decide +kernel
theorem dX12_odds_55 : decode cX12_odds 55 = .ok (.iload_n 3, 1) := by decide +kernel
theorem dX12_odds_56 : decode cX12_odds 56 = .ok (.if_icmp .ge 99, 3) := by decide +kernel
theorem dX12_odds_59 : decode cX12_odds 59 = .ok (.iconst 0, 1) := by decide +kernel
theorem dX12_odds_60 : decode cX12_odds 60 = .ok (.istore 7, 2) := by decide +kernel
theorem dX12_odds_62 : decode cX12_odds 62 = .ok (.iload 7, 2) := by decide +kernel
theorem dX12_odds_64 : decode cX12_odds 64 = .ok (.sipush 256, 3) := by decide +kernel
theorem dX12_odds_67 : decode cX12_odds 67 = .ok (.if_icmp .ge 17, 3) := by decide +kernel
theorem dX12_odds_70 : decode cX12_odds 70 = .ok (.aload_n 0, 1) := by decide +kernel
theorem dX12_odds_71 : decode cX12_odds 71 = .ok (.getfield 18, 3) := by decide +kernel
theorem dX12_odds_74 : decode cX12_odds 74 = .ok (.iload 7, 2) := by decide +kernel
theorem dX12_odds_76 : decode cX12_odds 76 = .ok (.iconst 0, 1) := by decide +kernel
theorem dX12_odds_77 : decode cX12_odds 77 = .ok (.bastore, 1) := by decide +kernel
theorem dX12_odds_78 : decode cX12_odds 78 = .ok (.iinc 7 1, 3) := by decide +kernel
theorem dX12_odds_81 : decode cX12_odds 81 = .ok (.goto (-19), 3) := by decide +kernel
theorem dX12_odds_84 : decode cX12_odds 84 = .ok (.iload_n 2, 1) := by decide +kernel
theorem dX12_odds_85 : decode cX12_odds 85 = .ok (.iload 6, 2) := by decide +kernel
theorem dX12_odds_87 : decode cX12_odds 87 = .ok (.iadd, 1) := by decide +kernel
theorem dX12_odds_88 : decode cX12_odds 88 = .ok (.istore 7, 2) := by decide +kernel
theorem dX12_odds_90 : decode cX12_odds 90 = .ok (.iconst 0, 1) := by decide +kernel
theorem dX12_odds_91 : decode cX12_odds 91 = .ok (.istore 8, 2) := by decide +kernel
theorem dX12_odds_93 : decode cX12_odds 93 = .ok (.iload 8, 2) := by decide +kernel
theorem dX12_odds_95 : decode cX12_odds 95 = .ok (.iload_n 1, 1) := by decide +kernel
theorem dX12_odds_96 : decode cX12_odds 96 = .ok (.if_icmp .ge 36, 3) := by decide +kernel
theorem dX12_odds_99 : decode cX12_odds 99 = .ok (.iload 7, 2) := by decide +kernel
theorem dX12_odds_101 : decode cX12_odds 101 = .ok (.ldc 245, 2) := by decide +kernel
theorem dX12_odds_103 : decode cX12_odds 103 = .ok (.imul, 1) := by decide +kernel
theorem dX12_odds_104 : decode cX12_odds 104 = .ok (.sipush 12345, 3) := by decide +kernel
theorem dX12_odds_107 : decode cX12_odds 107 = .ok (.iadd, 1) := by decide +kernel
theorem dX12_odds_108 : decode cX12_odds 108 = .ok (.istore 7, 2) := by decide +kernel
theorem dX12_odds_110 : decode cX12_odds 110 = .ok (.aload_n 0, 1) := by decide +kernel
theorem dX12_odds_111 : decode cX12_odds 111 = .ok (.getfield 18, 3) := by decide +kernel
theorem dX12_odds_114 : decode cX12_odds 114 = .ok (.iload 7, 2) := by decide +kernel
theorem dX12_odds_116 : decode cX12_odds 116 = .ok (.bipush 16, 2) := by decide +kernel
theorem dX12_odds_118 : decode cX12_odds 118 = .ok (.iushr, 1) := by decide +kernel
theorem dX12_odds_119 : decode cX12_odds 119 = .ok (.aload_n 0, 1) := by decide +kernel
theorem dX12_odds_120 : decode cX12_odds 120 = .ok (.invokevirtual 81, 3) := by decide +kernel
theorem dX12_odds_123 : decode cX12_odds 123 = .ok (.irem, 1) := by decide +kernel
theorem dX12_odds_124 : decode cX12_odds 124 = .ok (.iconst 1, 1) := by decide +kernel
theorem dX12_odds_125 : decode cX12_odds 125 = .ok (.bastore, 1) := by decide +kernel
theorem dX12_odds_126 : decode cX12_odds 126 = .ok (.iinc 8 1, 3) := by decide +kernel
theorem dX12_odds_129 : decode cX12_odds 129 = .ok (.goto (-36), 3) := by decide +kernel
theorem dX12_odds_132 : decode cX12_odds 132 = .ok (.iload 5, 2) := by decide +kernel
theorem dX12_odds_134 : decode cX12_odds 134 = .ok (.aload_n 0, 1) := by decide +kernel
theorem dX12_odds_135 : decode cX12_odds 135 = .ok (.invokevirtual 130, 3) := by decide +kernel
theorem dX12_odds_138 : decode cX12_odds 138 = .ok (.ifCond .eq 7, 3) := by decide +kernel
theorem dX12_odds_141 : decode cX12_odds 141 = .ok (.iconst 1, 1) := by decide +kernel
theorem dX12_odds_142 : decode cX12_odds 142 = .ok (.goto 4, 3) := by decide +kernel
theorem dX12_odds_145 : decode cX12_odds 145 = .ok (.iconst 0, 1) := by decide +kernel
theorem dX12_odds_146 : decode cX12_odds 146 = .ok (.iadd, 1) := by decide +kernel
theorem dX12_odds_147 : decode cX12_odds 147 = .ok (.istore 5, 2) := by decide +kernel
theorem dX12_odds_149 : decode cX12_odds 149 = .ok (.iinc 6 1, 3) := by decide +kernel
theorem dX12_odds_152 : decode cX12_odds 152 = .ok (.goto (-99), 3) := by decide +kernel
theorem dX12_odds_155 : decode cX12_odds 155 = .ok (.iconst 0, 1) := by decide +kernel
theorem dX12_odds_156 : decode cX12_odds 156 = .ok (.istore 6, 2) := by decide +kernel
theorem dX12_odds_158 : decode cX12_odds 158 = .ok (.iload 6, 2) := by decide +kernel
theorem dX12_odds_160 : decode cX12_odds 160 = .ok (.sipush 256, 3) := by decide +kernel
theorem dX12_odds_163 : decode cX12_odds 163 = .ok (.if_icmp .ge 23, 3) := by decide +kernel
theorem dX12_odds_166 : decode cX12_odds 166 = .ok (.aload_n 0, 1) := by decide +kernel
theorem dX12_odds_167 : decode cX12_odds 167 = .ok (.getfield 18, 3) := by decide +kernel
theorem dX12_odds_170 : decode cX12_odds 170 = .ok (.iload 6, 2) := by decide +kernel
theorem dX12_odds_172 : decode cX12_odds 172 = .ok (.aload_n 0, 1) := by decide +kernel
theorem dX12_odds_173 : decode cX12_odds 173 = .ok (.getfield 25, 3) := by decide +kernel
theorem dX12_odds_176 : decode cX12_odds 176 = .ok (.iload 6, 2) := by decide +kernel
theorem dX12_odds_178 : decode cX12_odds 178 = .ok (.baload, 1) := by decide +kernel
theorem dX12_odds_179 : decode cX12_odds 179 = .ok (.bastore, 1) := by decide +kernel
theorem dX12_odds_180 : decode cX12_odds 180 = .ok (.iinc 6 1, 3) := by decide +kernel
theorem dX12_odds_183 : decode cX12_odds 183 = .ok (.goto (-25), 3) := by decide +kernel
theorem dX12_odds_186 : decode cX12_odds 186 = .ok (.iload 4, 2) := by decide +kernel
theorem dX12_odds_188 : decode cX12_odds 188 = .ok (.ifCond .ne 8, 3) := by decide +kernel
theorem dX12_odds_191 : decode cX12_odds 191 = .ok (.iload 5, 2) := by decide +kernel
theorem dX12_odds_193 : decode cX12_odds 193 = .ok (.goto 4, 3) := by decide +kernel
theorem dX12_odds_196 : decode cX12_odds 196 = .ok (.iload_n 3, 1) := by decide +kernel
theorem dX12_odds_197 : decode cX12_odds 197 = .ok (.iload_n 3, 1) := by decide +kernel
theorem dX12_odds_198 : decode cX12_odds 198 = .ok (.iload 5, 2) := by decide +kernel
theorem dX12_odds_200 : decode cX12_odds 200 = .ok (.invokestatic 236, 3) := by decide +kernel
theorem dX12_odds_203 : decode cX12_odds 203 = .ok (.idiv, 1) := by decide +kernel
theorem dX12_odds_204 : decode cX12_odds 204 = .ok (.i2l, 1) := by decide +kernel
theorem dX12_odds_205 : decode cX12_odds 205 = .ok (.lreturn, 1) := by decide +kernel
set_option maxRecDepth 20000 in
theorem ggX12_plan_X12_isIn : GoodIn wsX12_plan wsX12_isIn := goodIn_r _ [9] (by decide +kernel) (by decide +kernel)
set_option maxRecDepth 20000 in
theorem gX12_plan_X12_isIn : GoodIn wsX12_plan (va_wsS RX12 85 yX12_isIn wsX12_isIn) := goodIn_app (goodIn_of _ (by decide +kernel)) ggX12_plan_X12_isIn
theorem dX12_plan_0 : decode cX12_plan 0 = .ok (.iload_n 1, 1) := by decide +kernel
theorem dX12_plan_1 : decode cX12_plan 1 = .ok (.iconst (-1), 1) := by decide +kernel
theorem dX12_plan_2 : decode cX12_plan 2 = .ok (.if_icmp .ne 10, 3) := by decide +kernel
theorem dX12_plan_5 : decode cX12_plan 5 = .ok (.aload_n 0, 1) := by decide +kernel
theorem dX12_plan_6 : decode cX12_plan 6 = .ok (.iconst 0, 1) := by decide +kernel
theorem dX12_plan_7 : decode cX12_plan 7 = .ok (.putfield 98, 3) := by decide +kernel
theorem dX12_plan_10 : decode cX12_plan 10 = .ok (.iconst 0, 1) := by decide +kernel
theorem dX12_plan_11 : decode cX12_plan 11 = .ok (.ireturn, 1) := by decide +kernel
theorem dX12_plan_12 : decode cX12_plan 12 = .ok (.iload_n 1, 1) := by decide +kernel
theorem dX12_plan_13 : decode cX12_plan 13 = .ok (.i2l, 1) := by decide +kernel
theorem dX12_plan_14 : decode cX12_plan 14 = .ok (.lconst 0, 1) := by decide +kernel
theorem dX12_plan_15 : decode cX12_plan 15 = .ok (.ldc2_w 128, 3) := by decide +kernel
theorem dX12_plan_18 : decode cX12_plan 18 = .ok (.invokestatic 85, 3) := by decide +kernel
theorem dX12_plan_21 : decode cX12_plan 21 = .ok (.ifCond .ne 5, 3) := by decide +kernel
theorem dX12_plan_24 : decode cX12_plan 24 = .ok (.iconst (-1), 1) := by decide +kernel
theorem dX12_plan_25 : decode cX12_plan 25 = .ok (.ireturn, 1) := by decide +kernel
theorem dX12_plan_26 : decode cX12_plan 26 = .ok (.iload_n 2, 1) := by decide +kernel
theorem dX12_plan_27 : decode cX12_plan 27 = .ok (.i2l, 1) := by decide +kernel
theorem dX12_plan_28 : decode cX12_plan 28 = .ok (.lconst 0, 1) := by decide +kernel
theorem dX12_plan_29 : decode cX12_plan 29 = .ok (.iload_n 1, 1) := by decide +kernel
theorem dX12_plan_30 : decode cX12_plan 30 = .ok (.iconst 2, 1) := by decide +kernel
theorem dX12_plan_31 : decode cX12_plan 31 = .ok (.if_icmp .ne 9, 3) := by decide +kernel
theorem dX12_plan_34 : decode cX12_plan 34 = .ok (.ldc2_w 246, 3) := by decide +kernel
theorem dX12_plan_37 : decode cX12_plan 37 = .ok (.goto 6, 3) := by decide +kernel
theorem dX12_plan_40 : decode cX12_plan 40 = .ok (.ldc2_w 248, 3) := by decide +kernel
theorem dX12_plan_43 : decode cX12_plan 43 = .ok (.invokestatic 85, 3) := by decide +kernel
theorem dX12_plan_46 : decode cX12_plan 46 = .ok (.ifCond .ne 6, 3) := by decide +kernel
theorem dX12_plan_49 : decode cX12_plan 49 = .ok (.bipush (-2), 2) := by decide +kernel
theorem dX12_plan_51 : decode cX12_plan 51 = .ok (.ireturn, 1) := by decide +kernel
theorem dX12_plan_52 : decode cX12_plan 52 = .ok (.aload_n 0, 1) := by decide +kernel
theorem dX12_plan_53 : decode cX12_plan 53 = .ok (.getfield 98, 3) := by decide +kernel
theorem dX12_plan_56 : decode cX12_plan 56 = .ok (.bipush 8, 2) := by decide +kernel
theorem dX12_plan_58 : decode cX12_plan 58 = .ok (.if_icmp .ne 6, 3) := by decide +kernel
theorem dX12_plan_61 : decode cX12_plan 61 = .ok (.bipush (-4), 2) := by decide +kernel
theorem dX12_plan_63 : decode cX12_plan 63 = .ok (.ireturn, 1) := by decide +kernel
theorem dX12_plan_64 : decode cX12_plan 64 = .ok (.aload_n 0, 1) := by decide +kernel
theorem dX12_plan_65 : decode cX12_plan 65 = .ok (.getfield 35, 3) := by decide +kernel
theorem dX12_plan_68 : decode cX12_plan 68 = .ok (.iconst 2, 1) := by decide +kernel
theorem dX12_plan_69 : decode cX12_plan 69 = .ok (.aload_n 0, 1) := by decide +kernel
theorem dX12_plan_70 : decode cX12_plan 70 = .ok (.getfield 98, 3) := by decide +kernel
theorem dX12_plan_73 : decode cX12_plan 73 = .ok (.imul, 1) := by decide +kernel
theorem dX12_plan_74 : decode cX12_plan 74 = .ok (.iload_n 1, 1) := by decide +kernel
theorem dX12_plan_75 : decode cX12_plan 75 = .ok (.iastore, 1) := by decide +kernel
theorem dX12_plan_76 : decode cX12_plan 76 = .ok (.aload_n 0, 1) := by decide +kernel
theorem dX12_plan_77 : decode cX12_plan 77 = .ok (.getfield 35, 3) := by decide +kernel
theorem dX12_plan_80 : decode cX12_plan 80 = .ok (.iconst 2, 1) := by decide +kernel
theorem dX12_plan_81 : decode cX12_plan 81 = .ok (.aload_n 0, 1) := by decide +kernel
theorem dX12_plan_82 : decode cX12_plan 82 = .ok (.getfield 98, 3) := by decide +kernel
theorem dX12_plan_85 : decode cX12_plan 85 = .ok (.imul, 1) := by decide +kernel
theorem dX12_plan_86 : decode cX12_plan 86 = .ok (.iconst 1, 1) := by decide +kernel
theorem dX12_plan_87 : decode cX12_plan 87 = .ok (.iadd, 1) := by decide +kernel
theorem dX12_plan_88 : decode cX12_plan 88 = .ok (.iload_n 2, 1) := by decide +kernel
theorem dX12_plan_89 : decode cX12_plan 89 = .ok (.iastore, 1) := by decide +kernel
theorem dX12_plan_90 : decode cX12_plan 90 = .ok (.aload_n 0, 1) := by decide +kernel
theorem dX12_plan_91 : decode cX12_plan 91 = .ok (.dup, 1) := by decide +kernel
theorem dX12_plan_92 : decode cX12_plan 92 = .ok (.getfield 98, 3) := by decide +kernel
theorem dX12_plan_95 : decode cX12_plan 95 = .ok (.iconst 1, 1) := by decide +kernel
theorem dX12_plan_96 : decode cX12_plan 96 = .ok (.iadd, 1) := by decide +kernel
theorem dX12_plan_97 : decode cX12_plan 97 = .ok (.putfield 98, 3) := by decide +kernel
theorem dX12_plan_100 : decode cX12_plan 100 = .ok (.aload_n 0, 1) := by decide +kernel
theorem dX12_plan_101 : decode cX12_plan 101 = .ok (.getfield 98, 3) := by decide +kernel
theorem dX12_plan_104 : decode cX12_plan 104 = .ok (.ireturn, 1) := by decide +kernel
set_option maxRecDepth 20000 in
theorem ggX12_does_X12_isSwap : GoodIn wsX12_does wsX12_isSwap := goodIn_r _ [6, 7, 8, 9, 5, 10, 11, 12, 13, 14, 64, 65, 66, 67, 68, 69, 70, 71, 72, 73, 74, 75, 76, 77, 78, 79, 80, 81, 82, 83, 84, 85, 86, 87, 88, 89, 90, 91, 92, 93, 94, 95, 96, 97, 98, 99, 100, 101, 102, 103, 104] (by decide +kernel) (by decide +kernel)
set_option maxRecDepth 20000 in
theorem gX12_does_X12_isSwap : GoodIn wsX12_does (wsV RX12 166 RX12 yX12_isSwap wsX12_isSwap) := goodIn_app (goodIn_of _ (by decide +kernel)) ggX12_does_X12_isSwap
set_option maxRecDepth 20000 in
theorem ggX12_does_X12_swaps : GoodIn wsX12_does wsX12_swaps := goodIn_r _ [18, 19, 1, 20, 21, 22, 5, 23, 11, 24, 25, 26, 27, 28, 29, 30, 31, 32, 33, 34, 35, 36, 7, 8, 9, 10, 37, 38, 39, 40, 64, 65, 66, 67, 68, 69, 70, 71, 72, 73, 74, 75, 76, 77, 78, 79, 80, 81, 82, 83, 84, 85, 86, 87, 88, 89, 90, 91, 92, 93, 94, 95, 96, 97, 98, 99, 100, 101, 102, 103, 104] (by decide +kernel) (by decide +kernel)
set_option maxRecDepth 20000 in
theorem gX12_does_X12_swaps : GoodIn wsX12_does (wsV RX12 172 RX12 yX12_swaps wsX12_swaps) := goodIn_app (goodIn_of _ (by decide +kernel)) ggX12_does_X12_swaps
set_option maxRecDepth 20000 in
theorem ggX12_does_X12_becomesImage : GoodIn wsX12_does wsX12_becomesImage := goodIn_r _ [44, 1, 19, 64, 65, 66, 67, 68, 69, 70, 71, 72, 73, 74, 75, 76, 77, 78, 79, 80, 81, 82, 83, 84, 85, 86, 87, 88, 89, 90, 91, 92, 93, 94, 95, 96, 97, 98, 99, 100, 101, 102, 103, 104] (by decide +kernel) (by decide +kernel)
set_option maxRecDepth 20000 in
theorem gX12_does_X12_becomesImage : GoodIn wsX12_does (wsV RX12 175 RX12 yX12_becomesImage wsX12_becomesImage) := goodIn_app (goodIn_of _ (by decide +kernel)) ggX12_does_X12_becomesImage
set_option maxRecDepth 20000 in
theorem ggX12_does_X12_isWord : GoodIn wsX12_does wsX12_isWord := goodIn_r _ [48, 20, 21, 22, 5, 23, 11, 24, 25, 26, 27, 12, 13, 14, 64, 65, 66, 67, 68, 69, 70, 71, 72, 73, 74, 75, 76, 77, 78, 79, 80, 81, 82, 83, 84, 85, 86, 87, 88, 89, 90, 91, 92, 93, 94, 95, 96, 97, 98, 99, 100, 101, 102, 103, 104] (by decide +kernel) (by decide +kernel)
set_option maxRecDepth 20000 in
theorem gX12_does_X12_isWord : GoodIn wsX12_does (wsV RX12 101 RX12 yX12_isWord wsX12_isWord) := goodIn_app (goodIn_of _ (by decide +kernel)) ggX12_does_X12_isWord
set_option maxRecDepth 20000 in
theorem ggX12_does_X12_mayCome : GoodIn wsX12_does wsX12_mayCome := goodIn_r _ [52, 1, 53, 54, 55, 5, 56, 24, 57, 58, 59, 20, 21, 22, 23, 11, 25, 26, 27, 60, 61, 62, 63, 64, 65, 66, 67, 68, 69, 70, 71, 72, 73, 74, 75, 76, 77, 78, 79, 80, 81, 82, 83, 84, 85, 86, 87, 88, 89, 90, 91, 92, 93, 94, 95, 96, 97, 98, 99, 100, 101, 102, 103, 104] (by decide +kernel) (by decide +kernel)
set_option maxRecDepth 20000 in
theorem gX12_does_X12_mayCome : GoodIn wsX12_does (wsV RX12 134 RX12 yX12_mayCome wsX12_mayCome) := goodIn_app (goodIn_of _ (by decide +kernel)) ggX12_does_X12_mayCome
theorem dX12_does_0 : decode cX12_does 0 = .ok (.iload_n 1, 1) := by decide +kernel
theorem dX12_does_1 : decode cX12_does 1 = .ok (.iconst 2, 1) := by decide +kernel
theorem dX12_does_2 : decode cX12_does 2 = .ok (.if_icmp .ne 23, 3) := by decide +kernel
theorem dX12_does_5 : decode cX12_does 5 = .ok (.aload_n 0, 1) := by decide +kernel
theorem dX12_does_6 : decode cX12_does 6 = .ok (.iload_n 2, 1) := by decide +kernel
theorem dX12_does_7 : decode cX12_does 7 = .ok (.invokevirtual 166, 3) := by decide +kernel
theorem dX12_does_10 : decode cX12_does 10 = .ok (.ifCond .eq 60, 3) := by decide +kernel
theorem dX12_does_13 : decode cX12_does 13 = .ok (.aload_n 0, 1) := by decide +kernel
theorem dX12_does_14 : decode cX12_does 14 = .ok (.iload_n 2, 1) := by decide +kernel
theorem dX12_does_15 : decode cX12_does 15 = .ok (.invokevirtual 172, 3) := by decide +kernel
theorem dX12_does_18 : decode cX12_does 18 = .ok (.aload_n 0, 1) := by decide +kernel
theorem dX12_does_19 : decode cX12_does 19 = .ok (.invokevirtual 175, 3) := by decide +kernel
theorem dX12_does_22 : decode cX12_does 22 = .ok (.goto 48, 3) := by decide +kernel
theorem dX12_does_25 : decode cX12_does 25 = .ok (.aload_n 0, 1) := by decide +kernel
theorem dX12_does_26 : decode cX12_does 26 = .ok (.iload_n 2, 1) := by decide +kernel
theorem dX12_does_27 : decode cX12_does 27 = .ok (.invokevirtual 101, 3) := by decide +kernel
theorem dX12_does_30 : decode cX12_does 30 = .ok (.ifCond .eq 40, 3) := by decide +kernel
theorem dX12_does_33 : decode cX12_does 33 = .ok (.aload_n 0, 1) := by decide +kernel
theorem dX12_does_34 : decode cX12_does 34 = .ok (.getfield 18, 3) := by decide +kernel
theorem dX12_does_37 : decode cX12_does 37 = .ok (.iload_n 2, 1) := by decide +kernel
theorem dX12_does_38 : decode cX12_does 38 = .ok (.iload_n 1, 1) := by decide +kernel
theorem dX12_does_39 : decode cX12_does 39 = .ok (.ifCond .eq 25, 3) := by decide +kernel
theorem dX12_does_42 : decode cX12_does 42 = .ok (.iload_n 1, 1) := by decide +kernel
theorem dX12_does_43 : decode cX12_does 43 = .ok (.iconst 3, 1) := by decide +kernel
theorem dX12_does_44 : decode cX12_does 44 = .ok (.if_icmp .ne 24, 3) := by decide +kernel
theorem dX12_does_47 : decode cX12_does 47 = .ok (.aload_n 0, 1) := by decide +kernel
theorem dX12_does_48 : decode cX12_does 48 = .ok (.getfield 18, 3) := by decide +kernel
theorem dX12_does_51 : decode cX12_does 51 = .ok (.iload_n 2, 1) := by decide +kernel
theorem dX12_does_52 : decode cX12_does 52 = .ok (.baload, 1) := by decide +kernel
theorem dX12_does_53 : decode cX12_does 53 = .ok (.ifCond .ne 11, 3) := by decide +kernel
theorem dX12_does_56 : decode cX12_does 56 = .ok (.aload_n 0, 1) := by decide +kernel
theorem dX12_does_57 : decode cX12_does 57 = .ok (.iload_n 2, 1) := by decide +kernel
theorem dX12_does_58 : decode cX12_does 58 = .ok (.invokevirtual 134, 3) := by decide +kernel
theorem dX12_does_61 : decode cX12_does 61 = .ok (.ifCond .eq 7, 3) := by decide +kernel
theorem dX12_does_64 : decode cX12_does 64 = .ok (.iconst 1, 1) := by decide +kernel
theorem dX12_does_65 : decode cX12_does 65 = .ok (.goto 4, 3) := by decide +kernel
theorem dX12_does_68 : decode cX12_does 68 = .ok (.iconst 0, 1) := by decide +kernel
theorem dX12_does_69 : decode cX12_does 69 = .ok (.bastore, 1) := by decide +kernel
theorem dX12_does_70 : decode cX12_does 70 = .ok (.return_, 1) := by decide +kernel
set_option maxRecDepth 20000 in
theorem ggX12_behind_X12_isIn : GoodIn wsX12_behind wsX12_isIn := goodIn_r _ [9] (by decide +kernel) (by decide +kernel)
set_option maxRecDepth 20000 in
theorem gX12_behind_X12_isIn : GoodIn wsX12_behind (va_wsS RX12 85 yX12_isIn wsX12_isIn) := goodIn_app (goodIn_of _ (by decide +kernel)) ggX12_behind_X12_isIn
set_option maxRecDepth 20000 in
theorem ggX12_behind_X12_keepsBook : GoodIn wsX12_behind wsX12_keepsBook := goodIn_r _ [13, 5, 84, 85, 86, 87, 88, 89, 90, 91, 92, 93, 94, 95, 96, 97, 98, 99, 100, 101, 102, 103, 104, 105, 106, 107, 108, 109, 110, 111, 112, 113, 114, 115, 116, 117, 118, 119, 120, 121, 122, 123, 124] (by decide +kernel) (by decide +kernel)
set_option maxRecDepth 20000 in
theorem gX12_behind_X12_keepsBook : GoodIn wsX12_behind (wsV RX12 212 RX12 yX12_keepsBook wsX12_keepsBook) := goodIn_app (goodIn_of _ (by decide +kernel)) ggX12_behind_X12_keepsBook
set_option maxRecDepth 20000 in
theorem ggX12_behind_X12_does : GoodIn wsX12_behind wsX12_does := goodIn_r _ [17, 5, 18, 19, 20, 8, 21, 22, 23, 24, 25, 26, 6, 7, 9, 27, 28, 29, 30, 31, 32, 33, 34, 35, 36, 37, 38, 39, 40, 41, 42, 43, 44, 45, 46, 47, 48, 49, 50, 51, 52, 53, 54, 55, 56, 57, 58, 59, 60, 61, 62, 63, 64, 65, 66, 67, 68, 69, 70, 71, 72, 73, 74, 75, 84, 85, 86, 87, 88, 89, 90, 91, 92, 93, 94, 95, 96, 97, 98, 99, 100, 101, 102, 103, 104, 105, 106, 107, 108, 109, 110, 111, 112, 113, 114, 115, 116, 117, 118, 119, 120, 121, 122, 123, 124] (by decide +kernel) (by decide +kernel)
set_option maxRecDepth 20000 in
theorem gX12_behind_X12_does : GoodIn wsX12_behind (wsV RX12 250 RX12 yX12_does wsX12_does) := goodIn_app (goodIn_of _ (by decide +kernel)) ggX12_behind_X12_does
set_option maxRecDepth 20000 in
theorem ggX12_behind_X12_many : GoodIn wsX12_behind wsX12_many := goodIn_r _ [79, 5, 84, 85, 86, 87, 88, 89, 90, 91, 92, 93, 94, 95, 96, 97, 98, 99, 100, 101, 102, 103, 104, 105, 106, 107, 108, 109, 110, 111, 112, 113, 114, 115, 116, 117, 118, 119, 120, 121, 122, 123, 124] (by decide +kernel) (by decide +kernel)
set_option maxRecDepth 20000 in
theorem gX12_behind_X12_many : GoodIn wsX12_behind (wsV RX12 105 RX12 yX12_many wsX12_many) := goodIn_app (goodIn_of _ (by decide +kernel)) ggX12_behind_X12_many
set_option maxRecDepth 20000 in
theorem ggX12_behind_X12_isFree : GoodIn wsX12_behind wsX12_isFree := goodIn_r _ [68, 5, 36, 69, 70, 71, 32, 33, 34, 8, 35, 26, 37, 38, 39, 72, 73, 74, 75, 84, 85, 86, 87, 88, 89, 90, 91, 92, 93, 94, 95, 96, 97, 98, 99, 100, 101, 102, 103, 104, 105, 106, 107, 108, 109, 110, 111, 112, 113, 114, 115, 116, 117, 118, 119, 120, 121, 122, 123, 124] (by decide +kernel) (by decide +kernel)
set_option maxRecDepth 20000 in
theorem gX12_behind_X12_isFree : GoodIn wsX12_behind (wsV RX12 130 RX12 yX12_isFree wsX12_isFree) := goodIn_app (goodIn_of _ (by decide +kernel)) ggX12_behind_X12_isFree
set_option maxRecDepth 20000 in
theorem ggX12_behind_X12_wordOf : GoodIn wsX12_behind wsX12_wordOf := goodIn_r _ [83, 5, 84, 85, 86, 87, 88, 89, 90, 91, 92, 93, 94, 95, 96, 97, 98, 99, 100, 101, 102, 103, 104, 105, 106, 107, 108, 109, 110, 111, 112, 113, 114, 115, 116, 117, 118, 119, 120, 121, 122, 123, 124] (by decide +kernel) (by decide +kernel)
set_option maxRecDepth 20000 in
theorem gX12_behind_X12_wordOf : GoodIn wsX12_behind (wsV RX12 108 RX12 yX12_wordOf wsX12_wordOf) := goodIn_app (goodIn_of _ (by decide +kernel)) ggX12_behind_X12_wordOf
theorem dX12_behind_0 : decode cX12_behind 0 = .ok (.iload_n 1, 1) := by decide +kernel
theorem dX12_behind_1 : decode cX12_behind 1 = .ok (.i2l, 1) := by decide +kernel
theorem dX12_behind_2 : decode cX12_behind 2 = .ok (.lconst 0, 1) := by decide +kernel
theorem dX12_behind_3 : decode cX12_behind 3 = .ok (.ldc2_w 89, 3) := by decide +kernel
theorem dX12_behind_6 : decode cX12_behind 6 = .ok (.invokestatic 85, 3) := by decide +kernel
theorem dX12_behind_9 : decode cX12_behind 9 = .ok (.ifCond .ne 5, 3) := by decide +kernel
theorem dX12_behind_12 : decode cX12_behind 12 = .ok (.iconst (-1), 1) := by decide +kernel
theorem dX12_behind_13 : decode cX12_behind 13 = .ok (.ireturn, 1) := by decide +kernel
theorem dX12_behind_14 : decode cX12_behind 14 = .ok (.aload_n 0, 1) := by decide +kernel
theorem dX12_behind_15 : decode cX12_behind 15 = .ok (.aload_n 0, 1) := by decide +kernel
theorem dX12_behind_16 : decode cX12_behind 16 = .ok (.getfield 25, 3) := by decide +kernel
theorem dX12_behind_19 : decode cX12_behind 19 = .ok (.invokevirtual 212, 3) := by decide +kernel
theorem dX12_behind_22 : decode cX12_behind 22 = .ok (.iconst 0, 1) := by decide +kernel
theorem dX12_behind_23 : decode cX12_behind 23 = .ok (.istore_n 2, 1) := by decide +kernel
theorem dX12_behind_24 : decode cX12_behind 24 = .ok (.iload_n 2, 1) := by decide +kernel
theorem dX12_behind_25 : decode cX12_behind 25 = .ok (.aload_n 0, 1) := by decide +kernel
theorem dX12_behind_26 : decode cX12_behind 26 = .ok (.getfield 98, 3) := by decide +kernel
theorem dX12_behind_29 : decode cX12_behind 29 = .ok (.if_icmp .ge 31, 3) := by decide +kernel
theorem dX12_behind_32 : decode cX12_behind 32 = .ok (.aload_n 0, 1) := by decide +kernel
theorem dX12_behind_33 : decode cX12_behind 33 = .ok (.aload_n 0, 1) := by decide +kernel
theorem dX12_behind_34 : decode cX12_behind 34 = .ok (.getfield 35, 3) := by decide +kernel
theorem dX12_behind_37 : decode cX12_behind 37 = .ok (.iconst 2, 1) := by decide +kernel
theorem dX12_behind_38 : decode cX12_behind 38 = .ok (.iload_n 2, 1) := by decide +kernel
theorem dX12_behind_39 : decode cX12_behind 39 = .ok (.imul, 1) := by decide +kernel
theorem dX12_behind_40 : decode cX12_behind 40 = .ok (.iaload, 1) := by decide +kernel
theorem dX12_behind_41 : decode cX12_behind 41 = .ok (.aload_n 0, 1) := by decide +kernel
theorem dX12_behind_42 : decode cX12_behind 42 = .ok (.getfield 35, 3) := by decide +kernel
theorem dX12_behind_45 : decode cX12_behind 45 = .ok (.iconst 2, 1) := by decide +kernel
theorem dX12_behind_46 : decode cX12_behind 46 = .ok (.iload_n 2, 1) := by decide +kernel
theorem dX12_behind_47 : decode cX12_behind 47 = .ok (.imul, 1) := by decide +kernel
theorem dX12_behind_48 : decode cX12_behind 48 = .ok (.iconst 1, 1) := by decide +kernel
theorem dX12_behind_49 : decode cX12_behind 49 = .ok (.iadd, 1) := by decide +kernel
theorem dX12_behind_50 : decode cX12_behind 50 = .ok (.iaload, 1) := by decide +kernel
theorem dX12_behind_51 : decode cX12_behind 51 = .ok (.invokevirtual 250, 3) := by decide +kernel
theorem dX12_behind_54 : decode cX12_behind 54 = .ok (.iinc 2 1, 3) := by decide +kernel
theorem dX12_behind_57 : decode cX12_behind 57 = .ok (.goto (-33), 3) := by decide +kernel
theorem dX12_behind_60 : decode cX12_behind 60 = .ok (.iload_n 1, 1) := by decide +kernel
theorem dX12_behind_61 : decode cX12_behind 61 = .ok (.ifCond .ne 10, 3) := by decide +kernel
theorem dX12_behind_64 : decode cX12_behind 64 = .ok (.aload_n 0, 1) := by decide +kernel
theorem dX12_behind_65 : decode cX12_behind 65 = .ok (.invokevirtual 105, 3) := by decide +kernel
theorem dX12_behind_68 : decode cX12_behind 68 = .ok (.goto 28, 3) := by decide +kernel
theorem dX12_behind_71 : decode cX12_behind 71 = .ok (.iload_n 1, 1) := by decide +kernel
theorem dX12_behind_72 : decode cX12_behind 72 = .ok (.iconst 1, 1) := by decide +kernel
theorem dX12_behind_73 : decode cX12_behind 73 = .ok (.if_icmp .ne 18, 3) := by decide +kernel
theorem dX12_behind_76 : decode cX12_behind 76 = .ok (.aload_n 0, 1) := by decide +kernel
theorem dX12_behind_77 : decode cX12_behind 77 = .ok (.invokevirtual 130, 3) := by decide +kernel
theorem dX12_behind_80 : decode cX12_behind 80 = .ok (.ifCond .eq 7, 3) := by decide +kernel
theorem dX12_behind_83 : decode cX12_behind 83 = .ok (.iconst 1, 1) := by decide +kernel
theorem dX12_behind_84 : decode cX12_behind 84 = .ok (.goto 12, 3) := by decide +kernel
theorem dX12_behind_87 : decode cX12_behind 87 = .ok (.iconst 0, 1) := by decide +kernel
theorem dX12_behind_88 : decode cX12_behind 88 = .ok (.goto 8, 3) := by decide +kernel
theorem dX12_behind_91 : decode cX12_behind 91 = .ok (.aload_n 0, 1) := by decide +kernel
theorem dX12_behind_92 : decode cX12_behind 92 = .ok (.iconst 0, 1) := by decide +kernel
theorem dX12_behind_93 : decode cX12_behind 93 = .ok (.invokevirtual 108, 3) := by decide +kernel
theorem dX12_behind_96 : decode cX12_behind 96 = .ok (.istore_n 2, 1) := by decide +kernel
theorem dX12_behind_97 : decode cX12_behind 97 = .ok (.iconst 0, 1) := by decide +kernel
theorem dX12_behind_98 : decode cX12_behind 98 = .ok (.istore_n 3, 1) := by decide +kernel
theorem dX12_behind_99 : decode cX12_behind 99 = .ok (.iload_n 3, 1) := by decide +kernel
theorem dX12_behind_100 : decode cX12_behind 100 = .ok (.sipush 256, 3) := by decide +kernel
theorem dX12_behind_103 : decode cX12_behind 103 = .ok (.if_icmp .ge 21, 3) := by decide +kernel
theorem dX12_behind_106 : decode cX12_behind 106 = .ok (.aload_n 0, 1) := by decide +kernel
theorem dX12_behind_107 : decode cX12_behind 107 = .ok (.getfield 18, 3) := by decide +kernel
theorem dX12_behind_110 : decode cX12_behind 110 = .ok (.iload_n 3, 1) := by decide +kernel
theorem dX12_behind_111 : decode cX12_behind 111 = .ok (.aload_n 0, 1) := by decide +kernel
theorem dX12_behind_112 : decode cX12_behind 112 = .ok (.getfield 25, 3) := by decide +kernel
theorem dX12_behind_115 : decode cX12_behind 115 = .ok (.iload_n 3, 1) := by decide +kernel
theorem dX12_behind_116 : decode cX12_behind 116 = .ok (.baload, 1) := by decide +kernel
theorem dX12_behind_117 : decode cX12_behind 117 = .ok (.bastore, 1) := by decide +kernel
theorem dX12_behind_118 : decode cX12_behind 118 = .ok (.iinc 3 1, 3) := by decide +kernel
theorem dX12_behind_121 : decode cX12_behind 121 = .ok (.goto (-22), 3) := by decide +kernel
theorem dX12_behind_124 : decode cX12_behind 124 = .ok (.iload_n 2, 1) := by decide +kernel
theorem dX12_behind_125 : decode cX12_behind 125 = .ok (.ireturn, 1) := by decide +kernel
set_option maxRecDepth 20000 in
theorem ggX12_feed_X12_isIn : GoodIn wsX12_feed wsX12_isIn := goodIn_r _ [7] (by decide +kernel) (by decide +kernel)
set_option maxRecDepth 20000 in
theorem gX12_feed_X12_isIn : GoodIn wsX12_feed (va_wsS RX12 85 yX12_isIn wsX12_isIn) := goodIn_app (goodIn_of _ (by decide +kernel)) ggX12_feed_X12_isIn
theorem dX12_feed_0 : decode cX12_feed 0 = .ok (.iload_n 1, 1) := by decide +kernel
theorem dX12_feed_1 : decode cX12_feed 1 = .ok (.i2l, 1) := by decide +kernel
theorem dX12_feed_2 : decode cX12_feed 2 = .ok (.lconst 1, 1) := by decide +kernel
theorem dX12_feed_3 : decode cX12_feed 3 = .ok (.ldc2_w 254, 3) := by decide +kernel
theorem dX12_feed_6 : decode cX12_feed 6 = .ok (.invokestatic 85, 3) := by decide +kernel
theorem dX12_feed_9 : decode cX12_feed 9 = .ok (.ifCond .ne 6, 3) := by decide +kernel
theorem dX12_feed_12 : decode cX12_feed 12 = .ok (.bipush (-2), 2) := by decide +kernel
theorem dX12_feed_14 : decode cX12_feed 14 = .ok (.ireturn, 1) := by decide +kernel
theorem dX12_feed_15 : decode cX12_feed 15 = .ok (.aload_n 0, 1) := by decide +kernel
theorem dX12_feed_16 : decode cX12_feed 16 = .ok (.getfield 256, 3) := by decide +kernel
theorem dX12_feed_19 : decode cX12_feed 19 = .ok (.bipush 60, 2) := by decide +kernel
theorem dX12_feed_21 : decode cX12_feed 21 = .ok (.if_icmp .ne 6, 3) := by decide +kernel
theorem dX12_feed_24 : decode cX12_feed 24 = .ok (.bipush (-4), 2) := by decide +kernel
theorem dX12_feed_26 : decode cX12_feed 26 = .ok (.ireturn, 1) := by decide +kernel
theorem dX12_feed_27 : decode cX12_feed 27 = .ok (.aload_n 0, 1) := by decide +kernel
theorem dX12_feed_28 : decode cX12_feed 28 = .ok (.getfield 62, 3) := by decide +kernel
theorem dX12_feed_31 : decode cX12_feed 31 = .ok (.aload_n 0, 1) := by decide +kernel
theorem dX12_feed_32 : decode cX12_feed 32 = .ok (.getfield 256, 3) := by decide +kernel
theorem dX12_feed_35 : decode cX12_feed 35 = .ok (.iload_n 1, 1) := by decide +kernel
theorem dX12_feed_36 : decode cX12_feed 36 = .ok (.iastore, 1) := by decide +kernel
theorem dX12_feed_37 : decode cX12_feed 37 = .ok (.aload_n 0, 1) := by decide +kernel
theorem dX12_feed_38 : decode cX12_feed 38 = .ok (.dup, 1) := by decide +kernel
theorem dX12_feed_39 : decode cX12_feed 39 = .ok (.getfield 256, 3) := by decide +kernel
theorem dX12_feed_42 : decode cX12_feed 42 = .ok (.iconst 1, 1) := by decide +kernel
theorem dX12_feed_43 : decode cX12_feed 43 = .ok (.iadd, 1) := by decide +kernel
theorem dX12_feed_44 : decode cX12_feed 44 = .ok (.putfield 256, 3) := by decide +kernel
theorem dX12_feed_47 : decode cX12_feed 47 = .ok (.aload_n 0, 1) := by decide +kernel
theorem dX12_feed_48 : decode cX12_feed 48 = .ok (.getfield 256, 3) := by decide +kernel
theorem dX12_feed_51 : decode cX12_feed 51 = .ok (.ireturn, 1) := by decide +kernel
set_option maxRecDepth 20000 in
theorem ggX12_book_X12_isIn : GoodIn wsX12_book wsX12_isIn := goodIn_r _ [12] (by decide +kernel) (by decide +kernel)
set_option maxRecDepth 20000 in
theorem gX12_book_X12_isIn : GoodIn wsX12_book (va_wsS RX12 85 yX12_isIn wsX12_isIn) := goodIn_app (goodIn_of _ (by decide +kernel)) ggX12_book_X12_isIn
set_option maxRecDepth 20000 in
theorem ggX12_book_X12_isWord : GoodIn wsX12_book wsX12_isWord := goodIn_r _ [16, 17, 18, 19, 11, 20, 6, 4, 21, 22, 23, 9, 10, 12, 29, 30, 31, 32, 33, 34, 35, 36, 37, 38, 39, 40, 41, 42, 43, 44, 45, 46, 47, 48, 49, 50, 51, 52, 53, 54, 55, 56, 57, 58, 59, 60, 61, 62, 63, 64, 65, 66, 67, 68, 69] (by decide +kernel) (by decide +kernel)
set_option maxRecDepth 20000 in
theorem gX12_book_X12_isWord : GoodIn wsX12_book (wsV RX12 101 RX12 yX12_isWord wsX12_isWord) := goodIn_app (goodIn_of _ (by decide +kernel)) ggX12_book_X12_isWord
set_option maxRecDepth 20000 in
theorem ggX12_book_X12_becomesImage : GoodIn wsX12_book wsX12_becomesImage := goodIn_r _ [27, 28, 1, 29, 30, 31, 32, 33, 34, 35, 36, 37, 38, 39, 40, 41, 42, 43, 44, 45, 46, 47, 48, 49, 50, 51, 52, 53, 54, 55, 56, 57, 58, 59, 60, 61, 62, 63, 64, 65, 66, 67, 68, 69] (by decide +kernel) (by decide +kernel)
set_option maxRecDepth 20000 in
theorem gX12_book_X12_becomesImage : GoodIn wsX12_book (wsV RX12 175 RX12 yX12_becomesImage wsX12_becomesImage) := goodIn_app (goodIn_of _ (by decide +kernel)) ggX12_book_X12_becomesImage
theorem dX12_book_0 : decode cX12_book 0 = .ok (.iconst 0, 1) := by decide +kernel
theorem dX12_book_1 : decode cX12_book 1 = .ok (.istore_n 1, 1) := by decide +kernel
theorem dX12_book_2 : decode cX12_book 2 = .ok (.iload_n 1, 1) := by decide +kernel
theorem dX12_book_3 : decode cX12_book 3 = .ok (.sipush 256, 3) := by decide +kernel
theorem dX12_book_6 : decode cX12_book 6 = .ok (.if_icmp .ge 16, 3) := by decide +kernel
theorem dX12_book_9 : decode cX12_book 9 = .ok (.aload_n 0, 1) := by decide +kernel
theorem dX12_book_10 : decode cX12_book 10 = .ok (.getfield 44, 3) := by decide +kernel
theorem dX12_book_13 : decode cX12_book 13 = .ok (.iload_n 1, 1) := by decide +kernel
theorem dX12_book_14 : decode cX12_book 14 = .ok (.iconst 0, 1) := by decide +kernel
theorem dX12_book_15 : decode cX12_book 15 = .ok (.bastore, 1) := by decide +kernel
theorem dX12_book_16 : decode cX12_book 16 = .ok (.iinc 1 1, 3) := by decide +kernel
theorem dX12_book_19 : decode cX12_book 19 = .ok (.goto (-17), 3) := by decide +kernel
theorem dX12_book_22 : decode cX12_book 22 = .ok (.iconst 0, 1) := by decide +kernel
theorem dX12_book_23 : decode cX12_book 23 = .ok (.istore_n 1, 1) := by decide +kernel
theorem dX12_book_24 : decode cX12_book 24 = .ok (.iconst 0, 1) := by decide +kernel
theorem dX12_book_25 : decode cX12_book 25 = .ok (.istore_n 2, 1) := by decide +kernel
theorem dX12_book_26 : decode cX12_book 26 = .ok (.iconst 0, 1) := by decide +kernel
theorem dX12_book_27 : decode cX12_book 27 = .ok (.istore_n 3, 1) := by decide +kernel
theorem dX12_book_28 : decode cX12_book 28 = .ok (.iconst 0, 1) := by decide +kernel
theorem dX12_book_29 : decode cX12_book 29 = .ok (.istore 4, 2) := by decide +kernel
theorem dX12_book_31 : decode cX12_book 31 = .ok (.iconst 1, 1) := by decide +kernel
theorem dX12_book_32 : decode cX12_book 32 = .ok (.istore 5, 2) := by decide +kernel
theorem dX12_book_34 : decode cX12_book 34 = .ok (.iload 5, 2) := by decide +kernel
theorem dX12_book_36 : decode cX12_book 36 = .ok (.ifCond .eq 165, 3) := by decide +kernel
theorem dX12_book_39 : decode cX12_book 39 = .ok (.iload_n 1, 1) := by decide +kernel
theorem dX12_book_40 : decode cX12_book 40 = .ok (.aload_n 0, 1) := by decide +kernel
theorem dX12_book_41 : decode cX12_book 41 = .ok (.getfield 256, 3) := by decide +kernel
theorem dX12_book_44 : decode cX12_book 44 = .ok (.if_icmp .ge 157, 3) := by decide +kernel
theorem dX12_book_47 : decode cX12_book 47 = .ok (.aload_n 0, 1) := by decide +kernel
theorem dX12_book_48 : decode cX12_book 48 = .ok (.getfield 62, 3) := by decide +kernel
theorem dX12_book_51 : decode cX12_book 51 = .ok (.iload_n 1, 1) := by decide +kernel
theorem dX12_book_52 : decode cX12_book 52 = .ok (.iaload, 1) := by decide +kernel
theorem dX12_book_53 : decode cX12_book 53 = .ok (.istore 6, 2) := by decide +kernel
theorem dX12_book_55 : decode cX12_book 55 = .ok (.iload_n 3, 1) := by decide +kernel
theorem dX12_book_56 : decode cX12_book 56 = .ok (.aload_n 0, 1) := by decide +kernel
theorem dX12_book_57 : decode cX12_book 57 = .ok (.getfield 15, 3) := by decide +kernel
theorem dX12_book_60 : decode cX12_book 60 = .ok (.if_icmp .ne 25, 3) := by decide +kernel
theorem dX12_book_63 : decode cX12_book 63 = .ok (.iload 6, 2) := by decide +kernel
theorem dX12_book_65 : decode cX12_book 65 = .ok (.bipush 32, 2) := by decide +kernel
theorem dX12_book_67 : decode cX12_book 67 = .ok (.if_icmp .ne 7, 3) := by decide +kernel
theorem dX12_book_70 : decode cX12_book 70 = .ok (.iconst 1, 1) := by decide +kernel
theorem dX12_book_71 : decode cX12_book 71 = .ok (.goto 4, 3) := by decide +kernel
theorem dX12_book_74 : decode cX12_book 74 = .ok (.iconst 0, 1) := by decide +kernel
theorem dX12_book_75 : decode cX12_book 75 = .ok (.istore 5, 2) := by decide +kernel
theorem dX12_book_77 : decode cX12_book 77 = .ok (.iconst 0, 1) := by decide +kernel
theorem dX12_book_78 : decode cX12_book 78 = .ok (.istore_n 3, 1) := by decide +kernel
theorem dX12_book_79 : decode cX12_book 79 = .ok (.iconst 0, 1) := by decide +kernel
theorem dX12_book_80 : decode cX12_book 80 = .ok (.istore 4, 2) := by decide +kernel
theorem dX12_book_82 : decode cX12_book 82 = .ok (.goto 103, 3) := by decide +kernel
theorem dX12_book_85 : decode cX12_book 85 = .ok (.iload 6, 2) := by decide +kernel
theorem dX12_book_87 : decode cX12_book 87 = .ok (.i2l, 1) := by decide +kernel
theorem dX12_book_88 : decode cX12_book 88 = .ok (.ldc2_w 259, 3) := by decide +kernel
theorem dX12_book_91 : decode cX12_book 91 = .ok (.bipush 97, 2) := by decide +kernel
theorem dX12_book_93 : decode cX12_book 93 = .ok (.aload_n 0, 1) := by decide +kernel
theorem dX12_book_94 : decode cX12_book 94 = .ok (.getfield 9, 3) := by decide +kernel
theorem dX12_book_97 : decode cX12_book 97 = .ok (.iadd, 1) := by decide +kernel
theorem dX12_book_98 : decode cX12_book 98 = .ok (.iconst 1, 1) := by decide +kernel
theorem dX12_book_99 : decode cX12_book 99 = .ok (.isub, 1) := by decide +kernel
theorem dX12_book_100 : decode cX12_book 100 = .ok (.i2l, 1) := by decide +kernel
theorem dX12_book_101 : decode cX12_book 101 = .ok (.invokestatic 85, 3) := by decide +kernel
theorem dX12_book_104 : decode cX12_book 104 = .ok (.istore 5, 2) := by decide +kernel
theorem dX12_book_106 : decode cX12_book 106 = .ok (.aload_n 0, 1) := by decide +kernel
theorem dX12_book_107 : decode cX12_book 107 = .ok (.getfield 9, 3) := by decide +kernel
theorem dX12_book_110 : decode cX12_book 110 = .ok (.iload 4, 2) := by decide +kernel
theorem dX12_book_112 : decode cX12_book 112 = .ok (.imul, 1) := by decide +kernel
theorem dX12_book_113 : decode cX12_book 113 = .ok (.iload 6, 2) := by decide +kernel
theorem dX12_book_115 : decode cX12_book 115 = .ok (.iadd, 1) := by decide +kernel
theorem dX12_book_116 : decode cX12_book 116 = .ok (.bipush 97, 2) := by decide +kernel
theorem dX12_book_118 : decode cX12_book 118 = .ok (.isub, 1) := by decide +kernel
theorem dX12_book_119 : decode cX12_book 119 = .ok (.istore 4, 2) := by decide +kernel
theorem dX12_book_121 : decode cX12_book 121 = .ok (.iinc 3 1, 3) := by decide +kernel
theorem dX12_book_124 : decode cX12_book 124 = .ok (.iload 5, 2) := by decide +kernel
theorem dX12_book_126 : decode cX12_book 126 = .ok (.iload_n 3, 1) := by decide +kernel
theorem dX12_book_127 : decode cX12_book 127 = .ok (.aload_n 0, 1) := by decide +kernel
theorem dX12_book_128 : decode cX12_book 128 = .ok (.getfield 15, 3) := by decide +kernel
theorem dX12_book_131 : decode cX12_book 131 = .ok (.if_icmp .lt 22, 3) := by decide +kernel
theorem dX12_book_134 : decode cX12_book 134 = .ok (.aload_n 0, 1) := by decide +kernel
theorem dX12_book_135 : decode cX12_book 135 = .ok (.iload 4, 2) := by decide +kernel
theorem dX12_book_137 : decode cX12_book 137 = .ok (.invokevirtual 101, 3) := by decide +kernel
theorem dX12_book_140 : decode cX12_book 140 = .ok (.ifCond .eq 13, 3) := by decide +kernel
theorem dX12_book_143 : decode cX12_book 143 = .ok (.aload_n 0, 1) := by decide +kernel
theorem dX12_book_144 : decode cX12_book 144 = .ok (.getfield 44, 3) := by decide +kernel
theorem dX12_book_147 : decode cX12_book 147 = .ok (.iload 4, 2) := by decide +kernel
theorem dX12_book_149 : decode cX12_book 149 = .ok (.baload, 1) := by decide +kernel
theorem dX12_book_150 : decode cX12_book 150 = .ok (.ifCond .ne 7, 3) := by decide +kernel
theorem dX12_book_153 : decode cX12_book 153 = .ok (.iconst 1, 1) := by decide +kernel
theorem dX12_book_154 : decode cX12_book 154 = .ok (.goto 4, 3) := by decide +kernel
theorem dX12_book_157 : decode cX12_book 157 = .ok (.iconst 0, 1) := by decide +kernel
theorem dX12_book_158 : decode cX12_book 158 = .ok (.iand, 1) := by decide +kernel
theorem dX12_book_159 : decode cX12_book 159 = .ok (.istore 5, 2) := by decide +kernel
theorem dX12_book_161 : decode cX12_book 161 = .ok (.iload 5, 2) := by decide +kernel
theorem dX12_book_163 : decode cX12_book 163 = .ok (.ifCond .eq 22, 3) := by decide +kernel
theorem dX12_book_166 : decode cX12_book 166 = .ok (.iload_n 3, 1) := by decide +kernel
theorem dX12_book_167 : decode cX12_book 167 = .ok (.aload_n 0, 1) := by decide +kernel
theorem dX12_book_168 : decode cX12_book 168 = .ok (.getfield 15, 3) := by decide +kernel
theorem dX12_book_171 : decode cX12_book 171 = .ok (.if_icmp .ne 14, 3) := by decide +kernel
theorem dX12_book_174 : decode cX12_book 174 = .ok (.aload_n 0, 1) := by decide +kernel
theorem dX12_book_175 : decode cX12_book 175 = .ok (.getfield 44, 3) := by decide +kernel
theorem dX12_book_178 : decode cX12_book 178 = .ok (.iload 4, 2) := by decide +kernel
theorem dX12_book_180 : decode cX12_book 180 = .ok (.iconst 1, 1) := by decide +kernel
theorem dX12_book_181 : decode cX12_book 181 = .ok (.bastore, 1) := by decide +kernel
theorem dX12_book_182 : decode cX12_book 182 = .ok (.iinc 2 1, 3) := by decide +kernel
theorem dX12_book_185 : decode cX12_book 185 = .ok (.iload_n 1, 1) := by decide +kernel
theorem dX12_book_186 : decode cX12_book 186 = .ok (.iload 5, 2) := by decide +kernel
theorem dX12_book_188 : decode cX12_book 188 = .ok (.ifCond .eq 7, 3) := by decide +kernel
theorem dX12_book_191 : decode cX12_book 191 = .ok (.iconst 1, 1) := by decide +kernel
theorem dX12_book_192 : decode cX12_book 192 = .ok (.goto 4, 3) := by decide +kernel
theorem dX12_book_195 : decode cX12_book 195 = .ok (.iconst 0, 1) := by decide +kernel
theorem dX12_book_196 : decode cX12_book 196 = .ok (.iadd, 1) := by decide +kernel
theorem dX12_book_197 : decode cX12_book 197 = .ok (.istore_n 1, 1) := by decide +kernel
theorem dX12_book_198 : decode cX12_book 198 = .ok (.goto (-164), 3) := by decide +kernel
theorem dX12_book_201 : decode cX12_book 201 = .ok (.iload 5, 2) := by decide +kernel
theorem dX12_book_203 : decode cX12_book 203 = .ok (.iload_n 3, 1) := by decide +kernel
theorem dX12_book_204 : decode cX12_book 204 = .ok (.aload_n 0, 1) := by decide +kernel
theorem dX12_book_205 : decode cX12_book 205 = .ok (.getfield 15, 3) := by decide +kernel
theorem dX12_book_208 : decode cX12_book 208 = .ok (.if_icmp .ne 7, 3) := by decide +kernel
theorem dX12_book_211 : decode cX12_book 211 = .ok (.iconst 1, 1) := by decide +kernel
theorem dX12_book_212 : decode cX12_book 212 = .ok (.goto 4, 3) := by decide +kernel
theorem dX12_book_215 : decode cX12_book 215 = .ok (.iconst 0, 1) := by decide +kernel
theorem dX12_book_216 : decode cX12_book 216 = .ok (.iand, 1) := by decide +kernel
theorem dX12_book_217 : decode cX12_book 217 = .ok (.istore 5, 2) := by decide +kernel
theorem dX12_book_219 : decode cX12_book 219 = .ok (.iload 5, 2) := by decide +kernel
theorem dX12_book_221 : decode cX12_book 221 = .ok (.ifCond .ne 70, 3) := by decide +kernel
theorem dX12_book_224 : decode cX12_book 224 = .ok (.aload_n 0, 1) := by decide +kernel
theorem dX12_book_225 : decode cX12_book 225 = .ok (.iconst 1, 1) := by decide +kernel
theorem dX12_book_226 : decode cX12_book 226 = .ok (.putfield 261, 3) := by decide +kernel
theorem dX12_book_229 : decode cX12_book 229 = .ok (.iload_n 1, 1) := by decide +kernel
theorem dX12_book_230 : decode cX12_book 230 = .ok (.istore 6, 2) := by decide +kernel
theorem dX12_book_232 : decode cX12_book 232 = .ok (.iload 6, 2) := by decide +kernel
theorem dX12_book_234 : decode cX12_book 234 = .ok (.ifCond .le 23, 3) := by decide +kernel
theorem dX12_book_237 : decode cX12_book 237 = .ok (.aload_n 0, 1) := by decide +kernel
theorem dX12_book_238 : decode cX12_book 238 = .ok (.getfield 62, 3) := by decide +kernel
theorem dX12_book_241 : decode cX12_book 241 = .ok (.iload 6, 2) := by decide +kernel
theorem dX12_book_243 : decode cX12_book 243 = .ok (.iconst 1, 1) := by decide +kernel
theorem dX12_book_244 : decode cX12_book 244 = .ok (.isub, 1) := by decide +kernel
theorem dX12_book_245 : decode cX12_book 245 = .ok (.iaload, 1) := by decide +kernel
theorem dX12_book_246 : decode cX12_book 246 = .ok (.bipush 32, 2) := by decide +kernel
theorem dX12_book_248 : decode cX12_book 248 = .ok (.if_icmp .eq 9, 3) := by decide +kernel
theorem dX12_book_251 : decode cX12_book 251 = .ok (.iinc 6 (-1), 3) := by decide +kernel
theorem dX12_book_254 : decode cX12_book 254 = .ok (.goto (-22), 3) := by decide +kernel
theorem dX12_book_257 : decode cX12_book 257 = .ok (.aload_n 0, 1) := by decide +kernel
theorem dX12_book_258 : decode cX12_book 258 = .ok (.getfield 68, 3) := by decide +kernel
theorem dX12_book_261 : decode cX12_book 261 = .ok (.iconst 0, 1) := by decide +kernel
theorem dX12_book_262 : decode cX12_book 262 = .ok (.iload_n 2, 1) := by decide +kernel
theorem dX12_book_263 : decode cX12_book 263 = .ok (.iastore, 1) := by decide +kernel
theorem dX12_book_264 : decode cX12_book 264 = .ok (.aload_n 0, 1) := by decide +kernel
theorem dX12_book_265 : decode cX12_book 265 = .ok (.getfield 68, 3) := by decide +kernel
theorem dX12_book_268 : decode cX12_book 268 = .ok (.iconst 1, 1) := by decide +kernel
theorem dX12_book_269 : decode cX12_book 269 = .ok (.iload_n 1, 1) := by decide +kernel
theorem dX12_book_270 : decode cX12_book 270 = .ok (.iload 6, 2) := by decide +kernel
theorem dX12_book_272 : decode cX12_book 272 = .ok (.isub, 1) := by decide +kernel
theorem dX12_book_273 : decode cX12_book 273 = .ok (.iastore, 1) := by decide +kernel
theorem dX12_book_274 : decode cX12_book 274 = .ok (.aload_n 0, 1) := by decide +kernel
theorem dX12_book_275 : decode cX12_book 275 = .ok (.getfield 68, 3) := by decide +kernel
theorem dX12_book_278 : decode cX12_book 278 = .ok (.iconst 2, 1) := by decide +kernel
theorem dX12_book_279 : decode cX12_book 279 = .ok (.iload_n 1, 1) := by decide +kernel
theorem dX12_book_280 : decode cX12_book 280 = .ok (.iastore, 1) := by decide +kernel
theorem dX12_book_281 : decode cX12_book 281 = .ok (.aload_n 0, 1) := by decide +kernel
theorem dX12_book_282 : decode cX12_book 282 = .ok (.iconst 0, 1) := by decide +kernel
theorem dX12_book_283 : decode cX12_book 283 = .ok (.putfield 256, 3) := by decide +kernel
theorem dX12_book_286 : decode cX12_book 286 = .ok (.bipush (-100), 2) := by decide +kernel
theorem dX12_book_288 : decode cX12_book 288 = .ok (.iload_n 1, 1) := by decide +kernel
theorem dX12_book_289 : decode cX12_book 289 = .ok (.isub, 1) := by decide +kernel
theorem dX12_book_290 : decode cX12_book 290 = .ok (.ireturn, 1) := by decide +kernel
theorem dX12_book_291 : decode cX12_book 291 = .ok (.aload_n 0, 1) := by decide +kernel
theorem dX12_book_292 : decode cX12_book 292 = .ok (.iconst 0, 1) := by decide +kernel
theorem dX12_book_293 : decode cX12_book 293 = .ok (.putfield 256, 3) := by decide +kernel
theorem dX12_book_296 : decode cX12_book 296 = .ok (.aload_n 0, 1) := by decide +kernel
theorem dX12_book_297 : decode cX12_book 297 = .ok (.invokevirtual 175, 3) := by decide +kernel
theorem dX12_book_300 : decode cX12_book 300 = .ok (.iload_n 2, 1) := by decide +kernel
theorem dX12_book_301 : decode cX12_book 301 = .ok (.ireturn, 1) := by decide +kernel
set_option maxRecDepth 20000 in
theorem ggX12_why_X12_isIn : GoodIn wsX12_why wsX12_isIn := goodIn_r _ [7] (by decide +kernel) (by decide +kernel)
set_option maxRecDepth 20000 in
theorem gX12_why_X12_isIn : GoodIn wsX12_why (va_wsS RX12 85 yX12_isIn wsX12_isIn) := goodIn_app (goodIn_of _ (by decide +kernel)) ggX12_why_X12_isIn
theorem dX12_why_0 : decode cX12_why 0 = .ok (.aload_n 0, 1) := by decide +kernel
theorem dX12_why_1 : decode cX12_why 1 = .ok (.getfield 261, 3) := by decide +kernel
theorem dX12_why_4 : decode cX12_why 4 = .ok (.ifCond .eq 24, 3) := by decide +kernel
theorem dX12_why_7 : decode cX12_why 7 = .ok (.iload_n 1, 1) := by decide +kernel
theorem dX12_why_8 : decode cX12_why 8 = .ok (.i2l, 1) := by decide +kernel
theorem dX12_why_9 : decode cX12_why 9 = .ok (.lconst 0, 1) := by decide +kernel
theorem dX12_why_10 : decode cX12_why 10 = .ok (.ldc2_w 89, 3) := by decide +kernel
theorem dX12_why_13 : decode cX12_why 13 = .ok (.invokestatic 85, 3) := by decide +kernel
theorem dX12_why_16 : decode cX12_why 16 = .ok (.ifCond .eq 12, 3) := by decide +kernel
theorem dX12_why_19 : decode cX12_why 19 = .ok (.aload_n 0, 1) := by decide +kernel
theorem dX12_why_20 : decode cX12_why 20 = .ok (.getfield 68, 3) := by decide +kernel
theorem dX12_why_23 : decode cX12_why 23 = .ok (.iload_n 1, 1) := by decide +kernel
theorem dX12_why_24 : decode cX12_why 24 = .ok (.iaload, 1) := by decide +kernel
theorem dX12_why_25 : decode cX12_why 25 = .ok (.goto 4, 3) := by decide +kernel
theorem dX12_why_28 : decode cX12_why 28 = .ok (.iconst (-1), 1) := by decide +kernel
theorem dX12_why_29 : decode cX12_why 29 = .ok (.ireturn, 1) := by decide +kernel
set_option maxRecDepth 20000 in
theorem ggX12_write_X12_words : GoodIn wsX12_write wsX12_words := goodIn_r _ [9, 10, 4, 11, 12, 8, 13, 18, 19, 20, 21, 22, 23, 24, 25, 26, 27, 28, 29, 30, 31, 32, 33, 34, 35, 36, 37, 38, 39, 40, 41, 42, 43, 44, 45, 46, 47, 48, 49, 50, 51, 52, 53, 54, 55, 56, 57, 58] (by decide +kernel) (by decide +kernel)
set_option maxRecDepth 20000 in
theorem gX12_write_X12_words : GoodIn wsX12_write (wsV RX12 81 RX12 yX12_words wsX12_words) := goodIn_app (goodIn_of _ (by decide +kernel)) ggX12_write_X12_words
set_option maxRecDepth 20000 in
theorem ggX12_write_X12_letterOf : GoodIn wsX12_write wsX12_letterOf := goodIn_r _ [17, 10, 4, 11, 12, 8, 13, 18, 19, 20, 21, 22, 23, 24, 25, 26, 27, 28, 29, 30, 31, 32, 33, 34, 35, 36, 37, 38, 39, 40, 41, 42, 43, 44, 45, 46, 47, 48, 49, 50, 51, 52, 53, 54, 55, 56, 57, 58] (by decide +kernel) (by decide +kernel)
set_option maxRecDepth 20000 in
theorem gX12_write_X12_letterOf : GoodIn wsX12_write (wsV RX12 112 RX12 yX12_letterOf wsX12_letterOf) := goodIn_app (goodIn_of _ (by decide +kernel)) ggX12_write_X12_letterOf
theorem dX12_write_0 : decode cX12_write 0 = .ok (.aload_n 0, 1) := by decide +kernel
theorem dX12_write_1 : decode cX12_write 1 = .ok (.iconst 0, 1) := by decide +kernel
theorem dX12_write_2 : decode cX12_write 2 = .ok (.putfield 265, 3) := by decide +kernel
theorem dX12_write_5 : decode cX12_write 5 = .ok (.iconst 0, 1) := by decide +kernel
theorem dX12_write_6 : decode cX12_write 6 = .ok (.istore_n 1, 1) := by decide +kernel
theorem dX12_write_7 : decode cX12_write 7 = .ok (.iload_n 1, 1) := by decide +kernel
theorem dX12_write_8 : decode cX12_write 8 = .ok (.aload_n 0, 1) := by decide +kernel
theorem dX12_write_9 : decode cX12_write 9 = .ok (.invokevirtual 81, 3) := by decide +kernel
theorem dX12_write_12 : decode cX12_write 12 = .ok (.if_icmp .ge 93, 3) := by decide +kernel
theorem dX12_write_15 : decode cX12_write 15 = .ok (.aload_n 0, 1) := by decide +kernel
theorem dX12_write_16 : decode cX12_write 16 = .ok (.getfield 18, 3) := by decide +kernel
theorem dX12_write_19 : decode cX12_write 19 = .ok (.iload_n 1, 1) := by decide +kernel
theorem dX12_write_20 : decode cX12_write 20 = .ok (.baload, 1) := by decide +kernel
theorem dX12_write_21 : decode cX12_write 21 = .ok (.ifCond .ne 6, 3) := by decide +kernel
theorem dX12_write_24 : decode cX12_write 24 = .ok (.goto 75, 3) := by decide +kernel
theorem dX12_write_27 : decode cX12_write 27 = .ok (.aload_n 0, 1) := by decide +kernel
theorem dX12_write_28 : decode cX12_write 28 = .ok (.getfield 265, 3) := by decide +kernel
theorem dX12_write_31 : decode cX12_write 31 = .ok (.ifCond .le 24, 3) := by decide +kernel
theorem dX12_write_34 : decode cX12_write 34 = .ok (.aload_n 0, 1) := by decide +kernel
theorem dX12_write_35 : decode cX12_write 35 = .ok (.getfield 65, 3) := by decide +kernel
theorem dX12_write_38 : decode cX12_write 38 = .ok (.aload_n 0, 1) := by decide +kernel
theorem dX12_write_39 : decode cX12_write 39 = .ok (.getfield 265, 3) := by decide +kernel
theorem dX12_write_42 : decode cX12_write 42 = .ok (.bipush 32, 2) := by decide +kernel
theorem dX12_write_44 : decode cX12_write 44 = .ok (.iastore, 1) := by decide +kernel
theorem dX12_write_45 : decode cX12_write 45 = .ok (.aload_n 0, 1) := by decide +kernel
theorem dX12_write_46 : decode cX12_write 46 = .ok (.dup, 1) := by decide +kernel
theorem dX12_write_47 : decode cX12_write 47 = .ok (.getfield 265, 3) := by decide +kernel
theorem dX12_write_50 : decode cX12_write 50 = .ok (.iconst 1, 1) := by decide +kernel
theorem dX12_write_51 : decode cX12_write 51 = .ok (.iadd, 1) := by decide +kernel
theorem dX12_write_52 : decode cX12_write 52 = .ok (.putfield 265, 3) := by decide +kernel
theorem dX12_write_55 : decode cX12_write 55 = .ok (.iconst 0, 1) := by decide +kernel
theorem dX12_write_56 : decode cX12_write 56 = .ok (.istore_n 2, 1) := by decide +kernel
theorem dX12_write_57 : decode cX12_write 57 = .ok (.iload_n 2, 1) := by decide +kernel
theorem dX12_write_58 : decode cX12_write 58 = .ok (.aload_n 0, 1) := by decide +kernel
theorem dX12_write_59 : decode cX12_write 59 = .ok (.getfield 15, 3) := by decide +kernel
theorem dX12_write_62 : decode cX12_write 62 = .ok (.if_icmp .ge 37, 3) := by decide +kernel
theorem dX12_write_65 : decode cX12_write 65 = .ok (.aload_n 0, 1) := by decide +kernel
theorem dX12_write_66 : decode cX12_write 66 = .ok (.getfield 65, 3) := by decide +kernel
theorem dX12_write_69 : decode cX12_write 69 = .ok (.aload_n 0, 1) := by decide +kernel
theorem dX12_write_70 : decode cX12_write 70 = .ok (.getfield 265, 3) := by decide +kernel
theorem dX12_write_73 : decode cX12_write 73 = .ok (.bipush 97, 2) := by decide +kernel
theorem dX12_write_75 : decode cX12_write 75 = .ok (.aload_n 0, 1) := by decide +kernel
theorem dX12_write_76 : decode cX12_write 76 = .ok (.iload_n 1, 1) := by decide +kernel
theorem dX12_write_77 : decode cX12_write 77 = .ok (.iload_n 2, 1) := by decide +kernel
theorem dX12_write_78 : decode cX12_write 78 = .ok (.invokevirtual 112, 3) := by decide +kernel
theorem dX12_write_81 : decode cX12_write 81 = .ok (.iadd, 1) := by decide +kernel
theorem dX12_write_82 : decode cX12_write 82 = .ok (.iastore, 1) := by decide +kernel
theorem dX12_write_83 : decode cX12_write 83 = .ok (.aload_n 0, 1) := by decide +kernel
theorem dX12_write_84 : decode cX12_write 84 = .ok (.dup, 1) := by decide +kernel
theorem dX12_write_85 : decode cX12_write 85 = .ok (.getfield 265, 3) := by decide +kernel
theorem dX12_write_88 : decode cX12_write 88 = .ok (.iconst 1, 1) := by decide +kernel
theorem dX12_write_89 : decode cX12_write 89 = .ok (.iadd, 1) := by decide +kernel
theorem dX12_write_90 : decode cX12_write 90 = .ok (.putfield 265, 3) := by decide +kernel
theorem dX12_write_93 : decode cX12_write 93 = .ok (.iinc 2 1, 3) := by decide +kernel
theorem dX12_write_96 : decode cX12_write 96 = .ok (.goto (-39), 3) := by decide +kernel
theorem dX12_write_99 : decode cX12_write 99 = .ok (.iinc 1 1, 3) := by decide +kernel
theorem dX12_write_102 : decode cX12_write 102 = .ok (.goto (-95), 3) := by decide +kernel
theorem dX12_write_105 : decode cX12_write 105 = .ok (.aload_n 0, 1) := by decide +kernel
theorem dX12_write_106 : decode cX12_write 106 = .ok (.getfield 265, 3) := by decide +kernel
theorem dX12_write_109 : decode cX12_write 109 = .ok (.ireturn, 1) := by decide +kernel
set_option maxRecDepth 20000 in
theorem ggX12_paper_X12_isIn : GoodIn wsX12_paper wsX12_isIn := goodIn_r _ [6] (by decide +kernel) (by decide +kernel)
set_option maxRecDepth 20000 in
theorem gX12_paper_X12_isIn : GoodIn wsX12_paper (va_wsS RX12 85 yX12_isIn wsX12_isIn) := goodIn_app (goodIn_of _ (by decide +kernel)) ggX12_paper_X12_isIn
theorem dX12_paper_0 : decode cX12_paper 0 = .ok (.iload_n 1, 1) := by decide +kernel
theorem dX12_paper_1 : decode cX12_paper 1 = .ok (.i2l, 1) := by decide +kernel
theorem dX12_paper_2 : decode cX12_paper 2 = .ok (.lconst 0, 1) := by decide +kernel
theorem dX12_paper_3 : decode cX12_paper 3 = .ok (.aload_n 0, 1) := by decide +kernel
theorem dX12_paper_4 : decode cX12_paper 4 = .ok (.getfield 265, 3) := by decide +kernel
theorem dX12_paper_7 : decode cX12_paper 7 = .ok (.iconst 1, 1) := by decide +kernel
theorem dX12_paper_8 : decode cX12_paper 8 = .ok (.isub, 1) := by decide +kernel
theorem dX12_paper_9 : decode cX12_paper 9 = .ok (.i2l, 1) := by decide +kernel
theorem dX12_paper_10 : decode cX12_paper 10 = .ok (.invokestatic 85, 3) := by decide +kernel
theorem dX12_paper_13 : decode cX12_paper 13 = .ok (.ifCond .eq 12, 3) := by decide +kernel
theorem dX12_paper_16 : decode cX12_paper 16 = .ok (.aload_n 0, 1) := by decide +kernel
theorem dX12_paper_17 : decode cX12_paper 17 = .ok (.getfield 65, 3) := by decide +kernel
theorem dX12_paper_20 : decode cX12_paper 20 = .ok (.iload_n 1, 1) := by decide +kernel
theorem dX12_paper_21 : decode cX12_paper 21 = .ok (.iaload, 1) := by decide +kernel
theorem dX12_paper_22 : decode cX12_paper 22 = .ok (.goto 4, 3) := by decide +kernel
theorem dX12_paper_25 : decode cX12_paper 25 = .ok (.iconst (-1), 1) := by decide +kernel
theorem dX12_paper_26 : decode cX12_paper 26 = .ok (.ireturn, 1) := by decide +kernel
set_option maxRecDepth 20000 in
theorem ggX12_isList_X12_isIn : GoodIn wsX12_isList wsX12_isIn := goodIn_r _ [5] (by decide +kernel) (by decide +kernel)
set_option maxRecDepth 20000 in
theorem gX12_isList_X12_isIn : GoodIn wsX12_isList (va_wsS RX12 85 yX12_isIn wsX12_isIn) := goodIn_app (goodIn_of _ (by decide +kernel)) ggX12_isList_X12_isIn
theorem dX12_isList_0 : decode cX12_isList 0 = .ok (.iload_n 0, 1) := by decide +kernel
theorem dX12_isList_1 : decode cX12_isList 1 = .ok (.i2l, 1) := by decide +kernel
theorem dX12_isList_2 : decode cX12_isList 2 = .ok (.lconst 0, 1) := by decide +kernel
theorem dX12_isList_3 : decode cX12_isList 3 = .ok (.ldc2_w 128, 3) := by decide +kernel
theorem dX12_isList_6 : decode cX12_isList 6 = .ok (.invokestatic 85, 3) := by decide +kernel
theorem dX12_isList_9 : decode cX12_isList 9 = .ok (.ireturn, 1) := by decide +kernel
set_option maxRecDepth 20000 in
theorem ggX12_judge_X12_isList : GoodIn wsX12_judge wsX12_isList := goodIn_r _ [6, 7, 8, 9, 5, 10] (by decide +kernel) (by decide +kernel)
set_option maxRecDepth 20000 in
theorem gX12_judge_X12_isList : GoodIn wsX12_judge (va_wsS RX12 268 yX12_isList wsX12_isList) := goodIn_app (goodIn_of _ (by decide +kernel)) ggX12_judge_X12_isList
set_option maxRecDepth 20000 in
theorem ggX12_judge_X12_wordOf : GoodIn wsX12_judge wsX12_wordOf := goodIn_r _ [14, 15, 16, 17, 18, 19, 20, 21, 22, 23, 24, 25, 26, 27, 28, 29, 30, 31, 32, 33, 34, 35, 36, 37, 38, 39, 40, 41, 42, 43, 44, 45, 46, 47, 48, 49, 50, 51, 52, 53, 54, 55, 56] (by decide +kernel) (by decide +kernel)
set_option maxRecDepth 20000 in
theorem gX12_judge_X12_wordOf : GoodIn wsX12_judge (wsV RX12 108 RX12 yX12_wordOf wsX12_wordOf) := goodIn_app (goodIn_of _ (by decide +kernel)) ggX12_judge_X12_wordOf
theorem dX12_judge_0 : decode cX12_judge 0 = .ok (.iload_n 1, 1) := by decide +kernel
theorem dX12_judge_1 : decode cX12_judge 1 = .ok (.invokestatic 268, 3) := by decide +kernel
theorem dX12_judge_4 : decode cX12_judge 4 = .ok (.ifCond .ne 5, 3) := by decide +kernel
theorem dX12_judge_7 : decode cX12_judge 7 = .ok (.iconst (-1), 1) := by decide +kernel
theorem dX12_judge_8 : decode cX12_judge 8 = .ok (.ireturn, 1) := by decide +kernel
theorem dX12_judge_9 : decode cX12_judge 9 = .ok (.aload_n 0, 1) := by decide +kernel
theorem dX12_judge_10 : decode cX12_judge 10 = .ok (.getfield 71, 3) := by decide +kernel
theorem dX12_judge_13 : decode cX12_judge 13 = .ok (.iload_n 1, 1) := by decide +kernel
theorem dX12_judge_14 : decode cX12_judge 14 = .ok (.iaload, 1) := by decide +kernel
theorem dX12_judge_15 : decode cX12_judge 15 = .ok (.ifCond .ge 6, 3) := by decide +kernel
theorem dX12_judge_18 : decode cX12_judge 18 = .ok (.bipush (-11), 2) := by decide +kernel
theorem dX12_judge_20 : decode cX12_judge 20 = .ok (.ireturn, 1) := by decide +kernel
theorem dX12_judge_21 : decode cX12_judge 21 = .ok (.iconst 0, 1) := by decide +kernel
theorem dX12_judge_22 : decode cX12_judge 22 = .ok (.istore_n 2, 1) := by decide +kernel
theorem dX12_judge_23 : decode cX12_judge 23 = .ok (.iload_n 2, 1) := by decide +kernel
theorem dX12_judge_24 : decode cX12_judge 24 = .ok (.aload_n 0, 1) := by decide +kernel
theorem dX12_judge_25 : decode cX12_judge 25 = .ok (.getfield 71, 3) := by decide +kernel
theorem dX12_judge_28 : decode cX12_judge 28 = .ok (.iload_n 1, 1) := by decide +kernel
theorem dX12_judge_29 : decode cX12_judge 29 = .ok (.iaload, 1) := by decide +kernel
theorem dX12_judge_30 : decode cX12_judge 30 = .ok (.if_icmp .ge 40, 3) := by decide +kernel
theorem dX12_judge_33 : decode cX12_judge 33 = .ok (.aload_n 0, 1) := by decide +kernel
theorem dX12_judge_34 : decode cX12_judge 34 = .ok (.iload_n 2, 1) := by decide +kernel
theorem dX12_judge_35 : decode cX12_judge 35 = .ok (.invokevirtual 108, 3) := by decide +kernel
theorem dX12_judge_38 : decode cX12_judge 38 = .ok (.istore_n 3, 1) := by decide +kernel
theorem dX12_judge_39 : decode cX12_judge 39 = .ok (.aload_n 0, 1) := by decide +kernel
theorem dX12_judge_40 : decode cX12_judge 40 = .ok (.getfield 74, 3) := by decide +kernel
theorem dX12_judge_43 : decode cX12_judge 43 = .ok (.bipush 12, 2) := by decide +kernel
theorem dX12_judge_45 : decode cX12_judge 45 = .ok (.iload_n 1, 1) := by decide +kernel
theorem dX12_judge_46 : decode cX12_judge 46 = .ok (.imul, 1) := by decide +kernel
theorem dX12_judge_47 : decode cX12_judge 47 = .ok (.iload_n 2, 1) := by decide +kernel
theorem dX12_judge_48 : decode cX12_judge 48 = .ok (.iadd, 1) := by decide +kernel
theorem dX12_judge_49 : decode cX12_judge 49 = .ok (.iaload, 1) := by decide +kernel
theorem dX12_judge_50 : decode cX12_judge 50 = .ok (.iload_n 3, 1) := by decide +kernel
theorem dX12_judge_51 : decode cX12_judge 51 = .ok (.ifCond .ge 7, 3) := by decide +kernel
theorem dX12_judge_54 : decode cX12_judge 54 = .ok (.iconst (-1), 1) := by decide +kernel
theorem dX12_judge_55 : decode cX12_judge 55 = .ok (.goto 4, 3) := by decide +kernel
theorem dX12_judge_58 : decode cX12_judge 58 = .ok (.iload_n 3, 1) := by decide +kernel
theorem dX12_judge_59 : decode cX12_judge 59 = .ok (.if_icmp .eq 5, 3) := by decide +kernel
theorem dX12_judge_62 : decode cX12_judge 62 = .ok (.iload_n 2, 1) := by decide +kernel
theorem dX12_judge_63 : decode cX12_judge 63 = .ok (.ireturn, 1) := by decide +kernel
theorem dX12_judge_64 : decode cX12_judge 64 = .ok (.iinc 2 1, 3) := by decide +kernel
theorem dX12_judge_67 : decode cX12_judge 67 = .ok (.goto (-44), 3) := by decide +kernel
theorem dX12_judge_70 : decode cX12_judge 70 = .ok (.bipush (-5), 2) := by decide +kernel
theorem dX12_judge_72 : decode cX12_judge 72 = .ok (.ireturn, 1) := by decide +kernel
set_option maxRecDepth 20000 in
theorem ggX12_list_X12_isList : GoodIn wsX12_list wsX12_isList := goodIn_r _ [6, 7, 8, 9, 5, 10] (by decide +kernel) (by decide +kernel)
set_option maxRecDepth 20000 in
theorem gX12_list_X12_isList : GoodIn wsX12_list (va_wsS RX12 268 yX12_isList wsX12_isList) := goodIn_app (goodIn_of _ (by decide +kernel)) ggX12_list_X12_isList
theorem dX12_list_0 : decode cX12_list 0 = .ok (.iload_n 1, 1) := by decide +kernel
theorem dX12_list_1 : decode cX12_list 1 = .ok (.invokestatic 268, 3) := by decide +kernel
theorem dX12_list_4 : decode cX12_list 4 = .ok (.ifCond .ne 5, 3) := by decide +kernel
theorem dX12_list_7 : decode cX12_list 7 = .ok (.iconst (-1), 1) := by decide +kernel
theorem dX12_list_8 : decode cX12_list 8 = .ok (.ireturn, 1) := by decide +kernel
theorem dX12_list_9 : decode cX12_list 9 = .ok (.iload_n 2, 1) := by decide +kernel
theorem dX12_list_10 : decode cX12_list 10 = .ok (.bipush 12, 2) := by decide +kernel
theorem dX12_list_12 : decode cX12_list 12 = .ok (.if_icmp .le 6, 3) := by decide +kernel
theorem dX12_list_15 : decode cX12_list 15 = .ok (.bipush (-2), 2) := by decide +kernel
theorem dX12_list_17 : decode cX12_list 17 = .ok (.ireturn, 1) := by decide +kernel
theorem dX12_list_18 : decode cX12_list 18 = .ok (.iload_n 2, 1) := by decide +kernel
theorem dX12_list_19 : decode cX12_list 19 = .ok (.ifCond .ge 6, 3) := by decide +kernel
theorem dX12_list_22 : decode cX12_list 22 = .ok (.bipush (-14), 2) := by decide +kernel
theorem dX12_list_24 : decode cX12_list 24 = .ok (.ireturn, 1) := by decide +kernel
theorem dX12_list_25 : decode cX12_list 25 = .ok (.aload_n 0, 1) := by decide +kernel
theorem dX12_list_26 : decode cX12_list 26 = .ok (.getfield 71, 3) := by decide +kernel
theorem dX12_list_29 : decode cX12_list 29 = .ok (.iload_n 1, 1) := by decide +kernel
theorem dX12_list_30 : decode cX12_list 30 = .ok (.iload_n 2, 1) := by decide +kernel
theorem dX12_list_31 : decode cX12_list 31 = .ok (.iastore, 1) := by decide +kernel
theorem dX12_list_32 : decode cX12_list 32 = .ok (.iconst 0, 1) := by decide +kernel
theorem dX12_list_33 : decode cX12_list 33 = .ok (.istore_n 3, 1) := by decide +kernel
theorem dX12_list_34 : decode cX12_list 34 = .ok (.iload_n 3, 1) := by decide +kernel
theorem dX12_list_35 : decode cX12_list 35 = .ok (.bipush 12, 2) := by decide +kernel
theorem dX12_list_37 : decode cX12_list 37 = .ok (.if_icmp .ge 21, 3) := by decide +kernel
theorem dX12_list_40 : decode cX12_list 40 = .ok (.aload_n 0, 1) := by decide +kernel
theorem dX12_list_41 : decode cX12_list 41 = .ok (.getfield 74, 3) := by decide +kernel
theorem dX12_list_44 : decode cX12_list 44 = .ok (.bipush 12, 2) := by decide +kernel
theorem dX12_list_46 : decode cX12_list 46 = .ok (.iload_n 1, 1) := by decide +kernel
theorem dX12_list_47 : decode cX12_list 47 = .ok (.imul, 1) := by decide +kernel
theorem dX12_list_48 : decode cX12_list 48 = .ok (.iload_n 3, 1) := by decide +kernel
theorem dX12_list_49 : decode cX12_list 49 = .ok (.iadd, 1) := by decide +kernel
theorem dX12_list_50 : decode cX12_list 50 = .ok (.iconst 0, 1) := by decide +kernel
theorem dX12_list_51 : decode cX12_list 51 = .ok (.iastore, 1) := by decide +kernel
theorem dX12_list_52 : decode cX12_list 52 = .ok (.iinc 3 1, 3) := by decide +kernel
theorem dX12_list_55 : decode cX12_list 55 = .ok (.goto (-21), 3) := by decide +kernel
theorem dX12_list_58 : decode cX12_list 58 = .ok (.iconst 1, 1) := by decide +kernel
theorem dX12_list_59 : decode cX12_list 59 = .ok (.ireturn, 1) := by decide +kernel
set_option maxRecDepth 20000 in
theorem ggX12_put_X12_isList : GoodIn wsX12_put wsX12_isList := goodIn_r _ [6, 7, 8, 9, 5, 10] (by decide +kernel) (by decide +kernel)
set_option maxRecDepth 20000 in
theorem gX12_put_X12_isList : GoodIn wsX12_put (va_wsS RX12 268 yX12_isList wsX12_isList) := goodIn_app (goodIn_of _ (by decide +kernel)) ggX12_put_X12_isList
set_option maxRecDepth 20000 in
theorem ggX12_put_X12_isIn : GoodIn wsX12_put wsX12_isIn := goodIn_r _ [10] (by decide +kernel) (by decide +kernel)
set_option maxRecDepth 20000 in
theorem gX12_put_X12_isIn : GoodIn wsX12_put (va_wsS RX12 85 yX12_isIn wsX12_isIn) := goodIn_app (goodIn_of _ (by decide +kernel)) ggX12_put_X12_isIn
theorem dX12_put_0 : decode cX12_put 0 = .ok (.iload_n 1, 1) := by decide +kernel
theorem dX12_put_1 : decode cX12_put 1 = .ok (.invokestatic 268, 3) := by decide +kernel
theorem dX12_put_4 : decode cX12_put 4 = .ok (.ifCond .ne 5, 3) := by decide +kernel
theorem dX12_put_7 : decode cX12_put 7 = .ok (.iconst (-1), 1) := by decide +kernel
theorem dX12_put_8 : decode cX12_put 8 = .ok (.ireturn, 1) := by decide +kernel
theorem dX12_put_9 : decode cX12_put 9 = .ok (.aload_n 0, 1) := by decide +kernel
theorem dX12_put_10 : decode cX12_put 10 = .ok (.getfield 71, 3) := by decide +kernel
theorem dX12_put_13 : decode cX12_put 13 = .ok (.iload_n 1, 1) := by decide +kernel
theorem dX12_put_14 : decode cX12_put 14 = .ok (.iaload, 1) := by decide +kernel
theorem dX12_put_15 : decode cX12_put 15 = .ok (.ifCond .ge 6, 3) := by decide +kernel
theorem dX12_put_18 : decode cX12_put 18 = .ok (.bipush (-11), 2) := by decide +kernel
theorem dX12_put_20 : decode cX12_put 20 = .ok (.ireturn, 1) := by decide +kernel
theorem dX12_put_21 : decode cX12_put 21 = .ok (.iload_n 2, 1) := by decide +kernel
theorem dX12_put_22 : decode cX12_put 22 = .ok (.i2l, 1) := by decide +kernel
theorem dX12_put_23 : decode cX12_put 23 = .ok (.lconst 0, 1) := by decide +kernel
theorem dX12_put_24 : decode cX12_put 24 = .ok (.aload_n 0, 1) := by decide +kernel
theorem dX12_put_25 : decode cX12_put 25 = .ok (.getfield 71, 3) := by decide +kernel
theorem dX12_put_28 : decode cX12_put 28 = .ok (.iload_n 1, 1) := by decide +kernel
theorem dX12_put_29 : decode cX12_put 29 = .ok (.iaload, 1) := by decide +kernel
theorem dX12_put_30 : decode cX12_put 30 = .ok (.iconst 1, 1) := by decide +kernel
theorem dX12_put_31 : decode cX12_put 31 = .ok (.isub, 1) := by decide +kernel
theorem dX12_put_32 : decode cX12_put 32 = .ok (.i2l, 1) := by decide +kernel
theorem dX12_put_33 : decode cX12_put 33 = .ok (.invokestatic 85, 3) := by decide +kernel
theorem dX12_put_36 : decode cX12_put 36 = .ok (.ifCond .ne 6, 3) := by decide +kernel
theorem dX12_put_39 : decode cX12_put 39 = .ok (.bipush (-13), 2) := by decide +kernel
theorem dX12_put_41 : decode cX12_put 41 = .ok (.ireturn, 1) := by decide +kernel
theorem dX12_put_42 : decode cX12_put 42 = .ok (.aload_n 0, 1) := by decide +kernel
theorem dX12_put_43 : decode cX12_put 43 = .ok (.getfield 74, 3) := by decide +kernel
theorem dX12_put_46 : decode cX12_put 46 = .ok (.bipush 12, 2) := by decide +kernel
theorem dX12_put_48 : decode cX12_put 48 = .ok (.iload_n 1, 1) := by decide +kernel
theorem dX12_put_49 : decode cX12_put 49 = .ok (.imul, 1) := by decide +kernel
theorem dX12_put_50 : decode cX12_put 50 = .ok (.iload_n 2, 1) := by decide +kernel
theorem dX12_put_51 : decode cX12_put 51 = .ok (.iadd, 1) := by decide +kernel
theorem dX12_put_52 : decode cX12_put 52 = .ok (.iload_n 3, 1) := by decide +kernel
theorem dX12_put_53 : decode cX12_put 53 = .ok (.iastore, 1) := by decide +kernel
theorem dX12_put_54 : decode cX12_put 54 = .ok (.iconst 1, 1) := by decide +kernel
theorem dX12_put_55 : decode cX12_put 55 = .ok (.ireturn, 1) := by decide +kernel
set_option maxRecDepth 20000 in
theorem ggX12_get_X12_isList : GoodIn wsX12_get wsX12_isList := goodIn_r _ [7, 8, 9, 10, 6, 11] (by decide +kernel) (by decide +kernel)
set_option maxRecDepth 20000 in
theorem gX12_get_X12_isList : GoodIn wsX12_get (va_wsS RX12 268 yX12_isList wsX12_isList) := goodIn_app (goodIn_of _ (by decide +kernel)) ggX12_get_X12_isList
set_option maxRecDepth 20000 in
theorem ggX12_get_X12_isIn : GoodIn wsX12_get wsX12_isIn := goodIn_r _ [11] (by decide +kernel) (by decide +kernel)
set_option maxRecDepth 20000 in
theorem gX12_get_X12_isIn : GoodIn wsX12_get (va_wsS RX12 85 yX12_isIn wsX12_isIn) := goodIn_app (goodIn_of _ (by decide +kernel)) ggX12_get_X12_isIn
theorem dX12_get_0 : decode cX12_get 0 = .ok (.iload_n 1, 1) := by decide +kernel
theorem dX12_get_1 : decode cX12_get 1 = .ok (.invokestatic 268, 3) := by decide +kernel
theorem dX12_get_4 : decode cX12_get 4 = .ok (.ifCond .eq 36, 3) := by decide +kernel
theorem dX12_get_7 : decode cX12_get 7 = .ok (.iload_n 2, 1) := by decide +kernel
theorem dX12_get_8 : decode cX12_get 8 = .ok (.i2l, 1) := by decide +kernel
theorem dX12_get_9 : decode cX12_get 9 = .ok (.lconst 0, 1) := by decide +kernel
theorem dX12_get_10 : decode cX12_get 10 = .ok (.aload_n 0, 1) := by decide +kernel
theorem dX12_get_11 : decode cX12_get 11 = .ok (.getfield 71, 3) := by decide +kernel
theorem dX12_get_14 : decode cX12_get 14 = .ok (.iload_n 1, 1) := by decide +kernel
theorem dX12_get_15 : decode cX12_get 15 = .ok (.iaload, 1) := by decide +kernel
theorem dX12_get_16 : decode cX12_get 16 = .ok (.iconst 1, 1) := by decide +kernel
theorem dX12_get_17 : decode cX12_get 17 = .ok (.isub, 1) := by decide +kernel
theorem dX12_get_18 : decode cX12_get 18 = .ok (.i2l, 1) := by decide +kernel
theorem dX12_get_19 : decode cX12_get 19 = .ok (.invokestatic 85, 3) := by decide +kernel
theorem dX12_get_22 : decode cX12_get 22 = .ok (.ifCond .eq 18, 3) := by decide +kernel
theorem dX12_get_25 : decode cX12_get 25 = .ok (.aload_n 0, 1) := by decide +kernel
theorem dX12_get_26 : decode cX12_get 26 = .ok (.getfield 74, 3) := by decide +kernel
theorem dX12_get_29 : decode cX12_get 29 = .ok (.bipush 12, 2) := by decide +kernel
theorem dX12_get_31 : decode cX12_get 31 = .ok (.iload_n 1, 1) := by decide +kernel
theorem dX12_get_32 : decode cX12_get 32 = .ok (.imul, 1) := by decide +kernel
theorem dX12_get_33 : decode cX12_get 33 = .ok (.iload_n 2, 1) := by decide +kernel
theorem dX12_get_34 : decode cX12_get 34 = .ok (.iadd, 1) := by decide +kernel
theorem dX12_get_35 : decode cX12_get 35 = .ok (.iaload, 1) := by decide +kernel
theorem dX12_get_36 : decode cX12_get 36 = .ok (.i2l, 1) := by decide +kernel
theorem dX12_get_37 : decode cX12_get 37 = .ok (.goto 6, 3) := by decide +kernel
theorem dX12_get_40 : decode cX12_get 40 = .ok (.ldc2_w 243, 3) := by decide +kernel
theorem dX12_get_43 : decode cX12_get 43 = .ok (.lreturn, 1) := by decide +kernel
set_option maxRecDepth 20000 in
theorem ggX12_image_X12_keepsBook : GoodIn wsX12_image wsX12_keepsBook := goodIn_r _ [19, 20, 25, 26, 27, 28, 29, 30, 31, 32, 33, 34, 35, 36, 37, 38, 39, 40, 41, 42, 43, 44, 45, 46, 47, 48, 49, 50, 51, 52, 53, 54, 55, 56, 57, 58, 59, 60, 61, 62, 63, 64, 65] (by decide +kernel) (by decide +kernel)
set_option maxRecDepth 20000 in
theorem gX12_image_X12_keepsBook : GoodIn wsX12_image (wsV RX12 212 RX12 yX12_keepsBook wsX12_keepsBook) := goodIn_app (goodIn_of _ (by decide +kernel)) ggX12_image_X12_keepsBook
set_option maxRecDepth 20000 in
theorem ggX12_image_X12_many : GoodIn wsX12_image wsX12_many := goodIn_r _ [24, 20, 25, 26, 27, 28, 29, 30, 31, 32, 33, 34, 35, 36, 37, 38, 39, 40, 41, 42, 43, 44, 45, 46, 47, 48, 49, 50, 51, 52, 53, 54, 55, 56, 57, 58, 59, 60, 61, 62, 63, 64, 65] (by decide +kernel) (by decide +kernel)
set_option maxRecDepth 20000 in
theorem gX12_image_X12_many : GoodIn wsX12_image (wsV RX12 105 RX12 yX12_many wsX12_many) := goodIn_app (goodIn_of _ (by decide +kernel)) ggX12_image_X12_many
theorem dX12_image_0 : decode cX12_image 0 = .ok (.aload_n 0, 1) := by decide +kernel
theorem dX12_image_1 : decode cX12_image 1 = .ok (.aload_n 0, 1) := by decide +kernel
theorem dX12_image_2 : decode cX12_image 2 = .ok (.getfield 9, 3) := by decide +kernel
theorem dX12_image_5 : decode cX12_image 5 = .ok (.putfield 271, 3) := by decide +kernel
theorem dX12_image_8 : decode cX12_image 8 = .ok (.aload_n 0, 1) := by decide +kernel
theorem dX12_image_9 : decode cX12_image 9 = .ok (.aload_n 0, 1) := by decide +kernel
theorem dX12_image_10 : decode cX12_image 10 = .ok (.getfield 15, 3) := by decide +kernel
theorem dX12_image_13 : decode cX12_image 13 = .ok (.putfield 274, 3) := by decide +kernel
theorem dX12_image_16 : decode cX12_image 16 = .ok (.aload_n 0, 1) := by decide +kernel
theorem dX12_image_17 : decode cX12_image 17 = .ok (.aload_n 0, 1) := by decide +kernel
theorem dX12_image_18 : decode cX12_image 18 = .ok (.getfield 22, 3) := by decide +kernel
theorem dX12_image_21 : decode cX12_image 21 = .ok (.invokevirtual 212, 3) := by decide +kernel
theorem dX12_image_24 : decode cX12_image 24 = .ok (.aload_n 0, 1) := by decide +kernel
theorem dX12_image_25 : decode cX12_image 25 = .ok (.aload_n 0, 1) := by decide +kernel
theorem dX12_image_26 : decode cX12_image 26 = .ok (.getfield 95, 3) := by decide +kernel
theorem dX12_image_29 : decode cX12_image 29 = .ok (.putfield 277, 3) := by decide +kernel
theorem dX12_image_32 : decode cX12_image 32 = .ok (.aload_n 0, 1) := by decide +kernel
theorem dX12_image_33 : decode cX12_image 33 = .ok (.aload_n 0, 1) := by decide +kernel
theorem dX12_image_34 : decode cX12_image 34 = .ok (.getfield 98, 3) := by decide +kernel
theorem dX12_image_37 : decode cX12_image 37 = .ok (.putfield 280, 3) := by decide +kernel
theorem dX12_image_40 : decode cX12_image 40 = .ok (.iconst 0, 1) := by decide +kernel
theorem dX12_image_41 : decode cX12_image 41 = .ok (.istore_n 1, 1) := by decide +kernel
theorem dX12_image_42 : decode cX12_image 42 = .ok (.iload_n 1, 1) := by decide +kernel
theorem dX12_image_43 : decode cX12_image 43 = .ok (.bipush 40, 2) := by decide +kernel
theorem dX12_image_45 : decode cX12_image 45 = .ok (.if_icmp .ge 21, 3) := by decide +kernel
theorem dX12_image_48 : decode cX12_image 48 = .ok (.aload_n 0, 1) := by decide +kernel
theorem dX12_image_49 : decode cX12_image 49 = .ok (.getfield 32, 3) := by decide +kernel
theorem dX12_image_52 : decode cX12_image 52 = .ok (.iload_n 1, 1) := by decide +kernel
theorem dX12_image_53 : decode cX12_image 53 = .ok (.aload_n 0, 1) := by decide +kernel
theorem dX12_image_54 : decode cX12_image 54 = .ok (.getfield 28, 3) := by decide +kernel
theorem dX12_image_57 : decode cX12_image 57 = .ok (.iload_n 1, 1) := by decide +kernel
theorem dX12_image_58 : decode cX12_image 58 = .ok (.iaload, 1) := by decide +kernel
theorem dX12_image_59 : decode cX12_image 59 = .ok (.iastore, 1) := by decide +kernel
theorem dX12_image_60 : decode cX12_image 60 = .ok (.iinc 1 1, 3) := by decide +kernel
theorem dX12_image_63 : decode cX12_image 63 = .ok (.goto (-21), 3) := by decide +kernel
theorem dX12_image_66 : decode cX12_image 66 = .ok (.iconst 0, 1) := by decide +kernel
theorem dX12_image_67 : decode cX12_image 67 = .ok (.istore_n 1, 1) := by decide +kernel
theorem dX12_image_68 : decode cX12_image 68 = .ok (.iload_n 1, 1) := by decide +kernel
theorem dX12_image_69 : decode cX12_image 69 = .ok (.bipush 16, 2) := by decide +kernel
theorem dX12_image_71 : decode cX12_image 71 = .ok (.if_icmp .ge 21, 3) := by decide +kernel
theorem dX12_image_74 : decode cX12_image 74 = .ok (.aload_n 0, 1) := by decide +kernel
theorem dX12_image_75 : decode cX12_image 75 = .ok (.getfield 38, 3) := by decide +kernel
theorem dX12_image_78 : decode cX12_image 78 = .ok (.iload_n 1, 1) := by decide +kernel
theorem dX12_image_79 : decode cX12_image 79 = .ok (.aload_n 0, 1) := by decide +kernel
theorem dX12_image_80 : decode cX12_image 80 = .ok (.getfield 35, 3) := by decide +kernel
theorem dX12_image_83 : decode cX12_image 83 = .ok (.iload_n 1, 1) := by decide +kernel
theorem dX12_image_84 : decode cX12_image 84 = .ok (.iaload, 1) := by decide +kernel
theorem dX12_image_85 : decode cX12_image 85 = .ok (.iastore, 1) := by decide +kernel
theorem dX12_image_86 : decode cX12_image 86 = .ok (.iinc 1 1, 3) := by decide +kernel
theorem dX12_image_89 : decode cX12_image 89 = .ok (.goto (-21), 3) := by decide +kernel
theorem dX12_image_92 : decode cX12_image 92 = .ok (.aload_n 0, 1) := by decide +kernel
theorem dX12_image_93 : decode cX12_image 93 = .ok (.iconst 1, 1) := by decide +kernel
theorem dX12_image_94 : decode cX12_image 94 = .ok (.putfield 283, 3) := by decide +kernel
theorem dX12_image_97 : decode cX12_image 97 = .ok (.aload_n 0, 1) := by decide +kernel
theorem dX12_image_98 : decode cX12_image 98 = .ok (.invokevirtual 105, 3) := by decide +kernel
theorem dX12_image_101 : decode cX12_image 101 = .ok (.ireturn, 1) := by decide +kernel
set_option maxRecDepth 20000 in
theorem ggX12_undo_X12_many : GoodIn wsX12_undo wsX12_many := goodIn_r _ [20, 6, 21, 22, 23, 24, 25, 26, 27, 28, 29, 30, 31, 32, 33, 34, 35, 36, 37, 38, 39, 40, 41, 42, 43, 44, 45, 46, 47, 48, 49, 50, 51, 52, 53, 54, 55, 56, 57, 58, 59, 60, 61] (by decide +kernel) (by decide +kernel)
set_option maxRecDepth 20000 in
theorem gX12_undo_X12_many : GoodIn wsX12_undo (wsV RX12 105 RX12 yX12_many wsX12_many) := goodIn_app (goodIn_of _ (by decide +kernel)) ggX12_undo_X12_many
theorem dX12_undo_0 : decode cX12_undo 0 = .ok (.aload_n 0, 1) := by decide +kernel
theorem dX12_undo_1 : decode cX12_undo 1 = .ok (.getfield 283, 3) := by decide +kernel
theorem dX12_undo_4 : decode cX12_undo 4 = .ok (.ifCond .ne 6, 3) := by decide +kernel
theorem dX12_undo_7 : decode cX12_undo 7 = .ok (.bipush (-3), 2) := by decide +kernel
theorem dX12_undo_9 : decode cX12_undo 9 = .ok (.ireturn, 1) := by decide +kernel
theorem dX12_undo_10 : decode cX12_undo 10 = .ok (.aload_n 0, 1) := by decide +kernel
theorem dX12_undo_11 : decode cX12_undo 11 = .ok (.aload_n 0, 1) := by decide +kernel
theorem dX12_undo_12 : decode cX12_undo 12 = .ok (.getfield 271, 3) := by decide +kernel
theorem dX12_undo_15 : decode cX12_undo 15 = .ok (.putfield 9, 3) := by decide +kernel
theorem dX12_undo_18 : decode cX12_undo 18 = .ok (.aload_n 0, 1) := by decide +kernel
theorem dX12_undo_19 : decode cX12_undo 19 = .ok (.aload_n 0, 1) := by decide +kernel
theorem dX12_undo_20 : decode cX12_undo 20 = .ok (.getfield 274, 3) := by decide +kernel
theorem dX12_undo_23 : decode cX12_undo 23 = .ok (.putfield 15, 3) := by decide +kernel
theorem dX12_undo_26 : decode cX12_undo 26 = .ok (.iconst 0, 1) := by decide +kernel
theorem dX12_undo_27 : decode cX12_undo 27 = .ok (.istore_n 1, 1) := by decide +kernel
theorem dX12_undo_28 : decode cX12_undo 28 = .ok (.iload_n 1, 1) := by decide +kernel
theorem dX12_undo_29 : decode cX12_undo 29 = .ok (.sipush 256, 3) := by decide +kernel
theorem dX12_undo_32 : decode cX12_undo 32 = .ok (.if_icmp .ge 21, 3) := by decide +kernel
theorem dX12_undo_35 : decode cX12_undo 35 = .ok (.aload_n 0, 1) := by decide +kernel
theorem dX12_undo_36 : decode cX12_undo 36 = .ok (.getfield 18, 3) := by decide +kernel
theorem dX12_undo_39 : decode cX12_undo 39 = .ok (.iload_n 1, 1) := by decide +kernel
theorem dX12_undo_40 : decode cX12_undo 40 = .ok (.aload_n 0, 1) := by decide +kernel
theorem dX12_undo_41 : decode cX12_undo 41 = .ok (.getfield 22, 3) := by decide +kernel
theorem dX12_undo_44 : decode cX12_undo 44 = .ok (.iload_n 1, 1) := by decide +kernel
theorem dX12_undo_45 : decode cX12_undo 45 = .ok (.baload, 1) := by decide +kernel
theorem dX12_undo_46 : decode cX12_undo 46 = .ok (.bastore, 1) := by decide +kernel
theorem dX12_undo_47 : decode cX12_undo 47 = .ok (.iinc 1 1, 3) := by decide +kernel
theorem dX12_undo_50 : decode cX12_undo 50 = .ok (.goto (-22), 3) := by decide +kernel
theorem dX12_undo_53 : decode cX12_undo 53 = .ok (.aload_n 0, 1) := by decide +kernel
theorem dX12_undo_54 : decode cX12_undo 54 = .ok (.aload_n 0, 1) := by decide +kernel
theorem dX12_undo_55 : decode cX12_undo 55 = .ok (.getfield 277, 3) := by decide +kernel
theorem dX12_undo_58 : decode cX12_undo 58 = .ok (.putfield 95, 3) := by decide +kernel
theorem dX12_undo_61 : decode cX12_undo 61 = .ok (.aload_n 0, 1) := by decide +kernel
theorem dX12_undo_62 : decode cX12_undo 62 = .ok (.aload_n 0, 1) := by decide +kernel
theorem dX12_undo_63 : decode cX12_undo 63 = .ok (.getfield 280, 3) := by decide +kernel
theorem dX12_undo_66 : decode cX12_undo 66 = .ok (.putfield 98, 3) := by decide +kernel
theorem dX12_undo_69 : decode cX12_undo 69 = .ok (.iconst 0, 1) := by decide +kernel
theorem dX12_undo_70 : decode cX12_undo 70 = .ok (.istore_n 1, 1) := by decide +kernel
theorem dX12_undo_71 : decode cX12_undo 71 = .ok (.iload_n 1, 1) := by decide +kernel
theorem dX12_undo_72 : decode cX12_undo 72 = .ok (.bipush 40, 2) := by decide +kernel
theorem dX12_undo_74 : decode cX12_undo 74 = .ok (.if_icmp .ge 21, 3) := by decide +kernel
theorem dX12_undo_77 : decode cX12_undo 77 = .ok (.aload_n 0, 1) := by decide +kernel
theorem dX12_undo_78 : decode cX12_undo 78 = .ok (.getfield 28, 3) := by decide +kernel
theorem dX12_undo_81 : decode cX12_undo 81 = .ok (.iload_n 1, 1) := by decide +kernel
theorem dX12_undo_82 : decode cX12_undo 82 = .ok (.aload_n 0, 1) := by decide +kernel
theorem dX12_undo_83 : decode cX12_undo 83 = .ok (.getfield 32, 3) := by decide +kernel
theorem dX12_undo_86 : decode cX12_undo 86 = .ok (.iload_n 1, 1) := by decide +kernel
theorem dX12_undo_87 : decode cX12_undo 87 = .ok (.iaload, 1) := by decide +kernel
theorem dX12_undo_88 : decode cX12_undo 88 = .ok (.iastore, 1) := by decide +kernel
theorem dX12_undo_89 : decode cX12_undo 89 = .ok (.iinc 1 1, 3) := by decide +kernel
theorem dX12_undo_92 : decode cX12_undo 92 = .ok (.goto (-21), 3) := by decide +kernel
theorem dX12_undo_95 : decode cX12_undo 95 = .ok (.iconst 0, 1) := by decide +kernel
theorem dX12_undo_96 : decode cX12_undo 96 = .ok (.istore_n 1, 1) := by decide +kernel
theorem dX12_undo_97 : decode cX12_undo 97 = .ok (.iload_n 1, 1) := by decide +kernel
theorem dX12_undo_98 : decode cX12_undo 98 = .ok (.bipush 16, 2) := by decide +kernel
theorem dX12_undo_100 : decode cX12_undo 100 = .ok (.if_icmp .ge 21, 3) := by decide +kernel
theorem dX12_undo_103 : decode cX12_undo 103 = .ok (.aload_n 0, 1) := by decide +kernel
theorem dX12_undo_104 : decode cX12_undo 104 = .ok (.getfield 35, 3) := by decide +kernel
theorem dX12_undo_107 : decode cX12_undo 107 = .ok (.iload_n 1, 1) := by decide +kernel
theorem dX12_undo_108 : decode cX12_undo 108 = .ok (.aload_n 0, 1) := by decide +kernel
theorem dX12_undo_109 : decode cX12_undo 109 = .ok (.getfield 38, 3) := by decide +kernel
theorem dX12_undo_112 : decode cX12_undo 112 = .ok (.iload_n 1, 1) := by decide +kernel
theorem dX12_undo_113 : decode cX12_undo 113 = .ok (.iaload, 1) := by decide +kernel
theorem dX12_undo_114 : decode cX12_undo 114 = .ok (.iastore, 1) := by decide +kernel
theorem dX12_undo_115 : decode cX12_undo 115 = .ok (.iinc 1 1, 3) := by decide +kernel
theorem dX12_undo_118 : decode cX12_undo 118 = .ok (.goto (-21), 3) := by decide +kernel
theorem dX12_undo_121 : decode cX12_undo 121 = .ok (.aload_n 0, 1) := by decide +kernel
theorem dX12_undo_122 : decode cX12_undo 122 = .ok (.invokevirtual 105, 3) := by decide +kernel
theorem dX12_undo_125 : decode cX12_undo 125 = .ok (.ireturn, 1) := by decide +kernel
set_option maxRecDepth 20000 in
theorem ggX12_count_X12_words : GoodIn wsX12_count wsX12_words := goodIn_r _ [11, 1, 2, 12, 13, 10, 14, 24, 25, 26, 27, 28, 29, 30, 31, 32, 33, 34, 35, 36, 37, 38, 39, 40, 41, 42, 43, 44, 45, 46, 47, 48, 49, 50, 51, 52, 53, 54, 55, 56, 57, 58, 59, 60, 61, 62, 63, 64] (by decide +kernel) (by decide +kernel)
set_option maxRecDepth 20000 in
theorem gX12_count_X12_words : GoodIn wsX12_count (wsV RX12 81 RX12 yX12_words wsX12_words) := goodIn_app (goodIn_of _ (by decide +kernel)) ggX12_count_X12_words
set_option maxRecDepth 20000 in
theorem ggX12_count_X12_many : GoodIn wsX12_count wsX12_many := goodIn_r _ [18, 19, 24, 25, 26, 27, 28, 29, 30, 31, 32, 33, 34, 35, 36, 37, 38, 39, 40, 41, 42, 43, 44, 45, 46, 47, 48, 49, 50, 51, 52, 53, 54, 55, 56, 57, 58, 59, 60, 61, 62, 63, 64] (by decide +kernel) (by decide +kernel)
set_option maxRecDepth 20000 in
theorem gX12_count_X12_many : GoodIn wsX12_count (wsV RX12 105 RX12 yX12_many wsX12_many) := goodIn_app (goodIn_of _ (by decide +kernel)) ggX12_count_X12_many
set_option maxRecDepth 20000 in
theorem ggX12_count_X12_orders : GoodIn wsX12_count wsX12_orders := goodIn_r _ [23, 1, 24, 25, 26, 27, 28, 29, 30, 31, 32, 33, 34, 35, 36, 37, 38, 39, 40, 41, 42, 43, 44, 45, 46, 47, 48, 49, 50, 51, 52, 53, 54, 55, 56, 57, 58, 59, 60, 61, 62, 63, 64] (by decide +kernel) (by decide +kernel)
set_option maxRecDepth 20000 in
theorem gX12_count_X12_orders : GoodIn wsX12_count (wsV RX12 160 RX12 yX12_orders wsX12_orders) := goodIn_app (goodIn_of _ (by decide +kernel)) ggX12_count_X12_orders
theorem dX12_count_0 : decode cX12_count 0 = .ok (.iload_n 1, 1) := by decide +kernel
theorem dX12_count_1 : decode cX12_count 1 = .ok (.tableswitch 98 0 8 #[51, 56, 61, 66, 71, 76, 81, 86, 91], 51) := by decide +kernel
theorem dX12_count_52 : decode cX12_count 52 = .ok (.aload_n 0, 1) := by decide +kernel
theorem dX12_count_53 : decode cX12_count 53 = .ok (.getfield 9, 3) := by decide +kernel
theorem dX12_count_56 : decode cX12_count 56 = .ok (.ireturn, 1) := by decide +kernel
theorem dX12_count_57 : decode cX12_count 57 = .ok (.aload_n 0, 1) := by decide +kernel
theorem dX12_count_58 : decode cX12_count 58 = .ok (.getfield 15, 3) := by decide +kernel
theorem dX12_count_61 : decode cX12_count 61 = .ok (.ireturn, 1) := by decide +kernel
theorem dX12_count_62 : decode cX12_count 62 = .ok (.aload_n 0, 1) := by decide +kernel
theorem dX12_count_63 : decode cX12_count 63 = .ok (.invokevirtual 81, 3) := by decide +kernel
theorem dX12_count_66 : decode cX12_count 66 = .ok (.ireturn, 1) := by decide +kernel
theorem dX12_count_67 : decode cX12_count 67 = .ok (.aload_n 0, 1) := by decide +kernel
theorem dX12_count_68 : decode cX12_count 68 = .ok (.invokevirtual 105, 3) := by decide +kernel
theorem dX12_count_71 : decode cX12_count 71 = .ok (.ireturn, 1) := by decide +kernel
theorem dX12_count_72 : decode cX12_count 72 = .ok (.aload_n 0, 1) := by decide +kernel
theorem dX12_count_73 : decode cX12_count 73 = .ok (.getfield 95, 3) := by decide +kernel
theorem dX12_count_76 : decode cX12_count 76 = .ok (.ireturn, 1) := by decide +kernel
theorem dX12_count_77 : decode cX12_count 77 = .ok (.aload_n 0, 1) := by decide +kernel
theorem dX12_count_78 : decode cX12_count 78 = .ok (.getfield 256, 3) := by decide +kernel
theorem dX12_count_81 : decode cX12_count 81 = .ok (.ireturn, 1) := by decide +kernel
theorem dX12_count_82 : decode cX12_count 82 = .ok (.aload_n 0, 1) := by decide +kernel
theorem dX12_count_83 : decode cX12_count 83 = .ok (.getfield 265, 3) := by decide +kernel
theorem dX12_count_86 : decode cX12_count 86 = .ok (.ireturn, 1) := by decide +kernel
theorem dX12_count_87 : decode cX12_count 87 = .ok (.aload_n 0, 1) := by decide +kernel
theorem dX12_count_88 : decode cX12_count 88 = .ok (.getfield 98, 3) := by decide +kernel
theorem dX12_count_91 : decode cX12_count 91 = .ok (.ireturn, 1) := by decide +kernel
theorem dX12_count_92 : decode cX12_count 92 = .ok (.iconst 2, 1) := by decide +kernel
theorem dX12_count_93 : decode cX12_count 93 = .ok (.aload_n 0, 1) := by decide +kernel
theorem dX12_count_94 : decode cX12_count 94 = .ok (.invokevirtual 160, 3) := by decide +kernel
theorem dX12_count_97 : decode cX12_count 97 = .ok (.imul, 1) := by decide +kernel
theorem dX12_count_98 : decode cX12_count 98 = .ok (.ireturn, 1) := by decide +kernel
theorem dX12_count_99 : decode cX12_count 99 = .ok (.bipush (-2), 2) := by decide +kernel
theorem dX12_count_101 : decode cX12_count 101 = .ok (.ireturn, 1) := by decide +kernel
theorem dJ9_max_7cf53_0 : decode cJ9_max_7cf53 0 = .ok (.iload_n 0, 1) := by decide +kernel
theorem dJ9_max_7cf53_1 : decode cJ9_max_7cf53 1 = .ok (.iload_n 1, 1) := by decide +kernel
theorem dJ9_max_7cf53_2 : decode cJ9_max_7cf53 2 = .ok (.if_icmp .lt 7, 3) := by decide +kernel
theorem dJ9_max_7cf53_5 : decode cJ9_max_7cf53 5 = .ok (.iload_n 0, 1) := by decide +kernel
theorem dJ9_max_7cf53_6 : decode cJ9_max_7cf53 6 = .ok (.goto 4, 3) := by decide +kernel
theorem dJ9_max_7cf53_9 : decode cJ9_max_7cf53 9 = .ok (.iload_n 1, 1) := by decide +kernel
theorem dJ9_max_7cf53_10 : decode cJ9_max_7cf53 10 = .ok (.ireturn, 1) := by decide +kernel
theorem dJ9_min_7cf53_0 : decode cJ9_min_7cf53 0 = .ok (.iload_n 0, 1) := by decide +kernel
theorem dJ9_min_7cf53_1 : decode cJ9_min_7cf53 1 = .ok (.iload_n 1, 1) := by decide +kernel
theorem dJ9_min_7cf53_2 : decode cJ9_min_7cf53 2 = .ok (.if_icmp .gt 7, 3) := by decide +kernel
theorem dJ9_min_7cf53_5 : decode cJ9_min_7cf53 5 = .ok (.iload_n 0, 1) := by decide +kernel
theorem dJ9_min_7cf53_6 : decode cJ9_min_7cf53 6 = .ok (.goto 4, 3) := by decide +kernel
theorem dJ9_min_7cf53_9 : decode cJ9_min_7cf53 9 = .ok (.iload_n 1, 1) := by decide +kernel
theorem dJ9_min_7cf53_10 : decode cJ9_min_7cf53 10 = .ok (.ireturn, 1) := by decide +kernel
