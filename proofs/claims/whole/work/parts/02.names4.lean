theorem dX5_isLine_13 : decode cX5_isLine 13 = .ok (.ireturn, 1) := by decide +kernel
set_option maxRecDepth 20000 in
theorem ggX5_trueOf_X5_l : GoodIn wsX5_trueOf wsX5_l := goodIn_r _ [4] (by decide +kernel) (by decide +kernel)
set_option maxRecDepth 20000 in
theorem gX5_trueOf_X5_l : GoodIn wsX5_trueOf (va_wsS RX5 45 yX5_l wsX5_l) := goodIn_app (goodIn_of _ (by decide +kernel)) ggX5_trueOf_X5_l
theorem dX5_trueOf_0 : decode cX5_trueOf 0 = .ok (.aload_n 0, 1) := by decide +kernel
theorem dX5_trueOf_1 : decode cX5_trueOf 1 = .ok (.iload_n 1, 1) := by decide +kernel
theorem dX5_trueOf_2 : decode cX5_trueOf 2 = .ok (.iconst 1, 1) := by decide +kernel
theorem dX5_trueOf_3 : decode cX5_trueOf 3 = .ok (.invokestatic 45, 3) := by decide +kernel
theorem dX5_trueOf_6 : decode cX5_trueOf 6 = .ok (.iaload, 1) := by decide +kernel
theorem dX5_trueOf_7 : decode cX5_trueOf 7 = .ok (.istore_n 2, 1) := by decide +kernel
theorem dX5_trueOf_8 : decode cX5_trueOf 8 = .ok (.iload_n 2, 1) := by decide +kernel
theorem dX5_trueOf_9 : decode cX5_trueOf 9 = .ok (.aload_n 0, 1) := by decide +kernel
theorem dX5_trueOf_10 : decode cX5_trueOf 10 = .ok (.iconst 4, 1) := by decide +kernel
theorem dX5_trueOf_11 : decode cX5_trueOf 11 = .ok (.iaload, 1) := by decide +kernel
theorem dX5_trueOf_12 : decode cX5_trueOf 12 = .ok (.iadd, 1) := by decide +kernel
theorem dX5_trueOf_13 : decode cX5_trueOf 13 = .ok (.iconst 1, 1) := by decide +kernel
theorem dX5_trueOf_14 : decode cX5_trueOf 14 = .ok (.isub, 1) := by decide +kernel
theorem dX5_trueOf_15 : decode cX5_trueOf 15 = .ok (.aload_n 0, 1) := by decide +kernel
theorem dX5_trueOf_16 : decode cX5_trueOf 16 = .ok (.iconst 4, 1) := by decide +kernel
theorem dX5_trueOf_17 : decode cX5_trueOf 17 = .ok (.iaload, 1) := by decide +kernel
theorem dX5_trueOf_18 : decode cX5_trueOf 18 = .ok (.idiv, 1) := by decide +kernel
theorem dX5_trueOf_19 : decode cX5_trueOf 19 = .ok (.istore_n 3, 1) := by decide +kernel
theorem dX5_trueOf_20 : decode cX5_trueOf 20 = .ok (.iload_n 3, 1) := by decide +kernel
theorem dX5_trueOf_21 : decode cX5_trueOf 21 = .ok (.iconst 1, 1) := by decide +kernel
theorem dX5_trueOf_22 : decode cX5_trueOf 22 = .ok (.if_icmp .ge 7, 3) := by decide +kernel
theorem dX5_trueOf_25 : decode cX5_trueOf 25 = .ok (.iconst 1, 1) := by decide +kernel
theorem dX5_trueOf_26 : decode cX5_trueOf 26 = .ok (.goto 4, 3) := by decide +kernel
theorem dX5_trueOf_29 : decode cX5_trueOf 29 = .ok (.iload_n 3, 1) := by decide +kernel
theorem dX5_trueOf_30 : decode cX5_trueOf 30 = .ok (.istore_n 3, 1) := by decide +kernel
theorem dX5_trueOf_31 : decode cX5_trueOf 31 = .ok (.aload_n 0, 1) := by decide +kernel
theorem dX5_trueOf_32 : decode cX5_trueOf 32 = .ok (.iload_n 1, 1) := by decide +kernel
theorem dX5_trueOf_33 : decode cX5_trueOf 33 = .ok (.iconst 0, 1) := by decide +kernel
theorem dX5_trueOf_34 : decode cX5_trueOf 34 = .ok (.invokestatic 45, 3) := by decide +kernel
theorem dX5_trueOf_37 : decode cX5_trueOf 37 = .ok (.iaload, 1) := by decide +kernel
theorem dX5_trueOf_38 : decode cX5_trueOf 38 = .ok (.istore 4, 2) := by decide +kernel
theorem dX5_trueOf_40 : decode cX5_trueOf 40 = .ok (.iload 4, 2) := by decide +kernel
theorem dX5_trueOf_42 : decode cX5_trueOf 42 = .ok (.ifCond .ne 12, 3) := by decide +kernel
theorem dX5_trueOf_45 : decode cX5_trueOf 45 = .ok (.bipush 12, 2) := by decide +kernel
theorem dX5_trueOf_47 : decode cX5_trueOf 47 = .ok (.iload_n 3, 1) := by decide +kernel
theorem dX5_trueOf_48 : decode cX5_trueOf 48 = .ok (.imul, 1) := by decide +kernel
theorem dX5_trueOf_49 : decode cX5_trueOf 49 = .ok (.iconst 4, 1) := by decide +kernel
theorem dX5_trueOf_50 : decode cX5_trueOf 50 = .ok (.iadd, 1) := by decide +kernel
theorem dX5_trueOf_51 : decode cX5_trueOf 51 = .ok (.goto 23, 3) := by decide +kernel
theorem dX5_trueOf_54 : decode cX5_trueOf 54 = .ok (.iload 4, 2) := by decide +kernel
theorem dX5_trueOf_56 : decode cX5_trueOf 56 = .ok (.iconst 1, 1) := by decide +kernel
theorem dX5_trueOf_57 : decode cX5_trueOf 57 = .ok (.if_icmp .ne 13, 3) := by decide +kernel
theorem dX5_trueOf_60 : decode cX5_trueOf 60 = .ok (.bipush 18, 2) := by decide +kernel
theorem dX5_trueOf_62 : decode cX5_trueOf 62 = .ok (.iload_n 3, 1) := by decide +kernel
theorem dX5_trueOf_63 : decode cX5_trueOf 63 = .ok (.imul, 1) := by decide +kernel
theorem dX5_trueOf_64 : decode cX5_trueOf 64 = .ok (.bipush 10, 2) := by decide +kernel
theorem dX5_trueOf_66 : decode cX5_trueOf 66 = .ok (.iadd, 1) := by decide +kernel
theorem dX5_trueOf_67 : decode cX5_trueOf 67 = .ok (.goto 7, 3) := by decide +kernel
theorem dX5_trueOf_70 : decode cX5_trueOf 70 = .ok (.iload_n 2, 1) := by decide +kernel
theorem dX5_trueOf_71 : decode cX5_trueOf 71 = .ok (.bipush 6, 2) := by decide +kernel
theorem dX5_trueOf_73 : decode cX5_trueOf 73 = .ok (.iadd, 1) := by decide +kernel
theorem dX5_trueOf_74 : decode cX5_trueOf 74 = .ok (.ireturn, 1) := by decide +kernel
set_option maxRecDepth 20000 in
theorem ggX5_laysGuesses_X5_l : GoodIn wsX5_laysGuesses wsX5_l := goodIn_r _ [5] (by decide +kernel) (by decide +kernel)
set_option maxRecDepth 20000 in
theorem gX5_laysGuesses_X5_l : GoodIn wsX5_laysGuesses (va_wsS RX5 45 yX5_l wsX5_l) := goodIn_app (goodIn_of _ (by decide +kernel)) ggX5_laysGuesses_X5_l
set_option maxRecDepth 20000 in
theorem ggX5_laysGuesses_X5_trueOf : GoodIn wsX5_laysGuesses wsX5_trueOf := goodIn_r _ [8, 2, 3, 4, 5] (by decide +kernel) (by decide +kernel)
set_option maxRecDepth 20000 in
theorem gX5_laysGuesses_X5_trueOf : GoodIn wsX5_laysGuesses (va_wsS RX5 49 yX5_trueOf wsX5_trueOf) := goodIn_app (goodIn_of _ (by decide +kernel)) ggX5_laysGuesses_X5_trueOf
theorem dX5_laysGuesses_0 : decode cX5_laysGuesses 0 = .ok (.iconst 0, 1) := by decide +kernel
theorem dX5_laysGuesses_1 : decode cX5_laysGuesses 1 = .ok (.istore_n 2, 1) := by decide +kernel
theorem dX5_laysGuesses_2 : decode cX5_laysGuesses 2 = .ok (.iload_n 2, 1) := by decide +kernel
theorem dX5_laysGuesses_3 : decode cX5_laysGuesses 3 = .ok (.iconst 3, 1) := by decide +kernel
theorem dX5_laysGuesses_4 : decode cX5_laysGuesses 4 = .ok (.if_icmp .ge 115, 3) := by decide +kernel
theorem dX5_laysGuesses_7 : decode cX5_laysGuesses 7 = .ok (.iconst 0, 1) := by decide +kernel
theorem dX5_laysGuesses_8 : decode cX5_laysGuesses 8 = .ok (.istore_n 3, 1) := by decide +kernel
theorem dX5_laysGuesses_9 : decode cX5_laysGuesses 9 = .ok (.iconst 0, 1) := by decide +kernel
theorem dX5_laysGuesses_10 : decode cX5_laysGuesses 10 = .ok (.istore 4, 2) := by decide +kernel
theorem dX5_laysGuesses_12 : decode cX5_laysGuesses 12 = .ok (.iconst 0, 1) := by decide +kernel
theorem dX5_laysGuesses_13 : decode cX5_laysGuesses 13 = .ok (.istore 5, 2) := by decide +kernel
theorem dX5_laysGuesses_15 : decode cX5_laysGuesses 15 = .ok (.iload 5, 2) := by decide +kernel
theorem dX5_laysGuesses_17 : decode cX5_laysGuesses 17 = .ok (.aload_n 1, 1) := by decide +kernel
theorem dX5_laysGuesses_18 : decode cX5_laysGuesses 18 = .ok (.iconst 0, 1) := by decide +kernel
theorem dX5_laysGuesses_19 : decode cX5_laysGuesses 19 = .ok (.iaload, 1) := by decide +kernel
theorem dX5_laysGuesses_20 : decode cX5_laysGuesses 20 = .ok (.if_icmp .ge 73, 3) := by decide +kernel
theorem dX5_laysGuesses_23 : decode cX5_laysGuesses 23 = .ok (.aload_n 1, 1) := by decide +kernel
theorem dX5_laysGuesses_24 : decode cX5_laysGuesses 24 = .ok (.iload 5, 2) := by decide +kernel
theorem dX5_laysGuesses_26 : decode cX5_laysGuesses 26 = .ok (.iconst 0, 1) := by decide +kernel
theorem dX5_laysGuesses_27 : decode cX5_laysGuesses 27 = .ok (.invokestatic 45, 3) := by decide +kernel
theorem dX5_laysGuesses_30 : decode cX5_laysGuesses 30 = .ok (.iaload, 1) := by decide +kernel
theorem dX5_laysGuesses_31 : decode cX5_laysGuesses 31 = .ok (.iload_n 2, 1) := by decide +kernel
theorem dX5_laysGuesses_32 : decode cX5_laysGuesses 32 = .ok (.if_icmp .ne 19, 3) := by decide +kernel
theorem dX5_laysGuesses_35 : decode cX5_laysGuesses 35 = .ok (.aload_n 1, 1) := by decide +kernel
theorem dX5_laysGuesses_36 : decode cX5_laysGuesses 36 = .ok (.iload 5, 2) := by decide +kernel
theorem dX5_laysGuesses_38 : decode cX5_laysGuesses 38 = .ok (.iconst 2, 1) := by decide +kernel
theorem dX5_laysGuesses_39 : decode cX5_laysGuesses 39 = .ok (.invokestatic 45, 3) := by decide +kernel
theorem dX5_laysGuesses_42 : decode cX5_laysGuesses 42 = .ok (.iaload, 1) := by decide +kernel
theorem dX5_laysGuesses_43 : decode cX5_laysGuesses 43 = .ok (.iconst 1, 1) := by decide +kernel
theorem dX5_laysGuesses_44 : decode cX5_laysGuesses 44 = .ok (.if_icmp .ne 7, 3) := by decide +kernel
theorem dX5_laysGuesses_47 : decode cX5_laysGuesses 47 = .ok (.iconst 1, 1) := by decide +kernel
theorem dX5_laysGuesses_48 : decode cX5_laysGuesses 48 = .ok (.goto 4, 3) := by decide +kernel
theorem dX5_laysGuesses_51 : decode cX5_laysGuesses 51 = .ok (.iconst 0, 1) := by decide +kernel
theorem dX5_laysGuesses_52 : decode cX5_laysGuesses 52 = .ok (.istore 6, 2) := by decide +kernel
theorem dX5_laysGuesses_54 : decode cX5_laysGuesses 54 = .ok (.iload_n 3, 1) := by decide +kernel
theorem dX5_laysGuesses_55 : decode cX5_laysGuesses 55 = .ok (.iload 6, 2) := by decide +kernel
theorem dX5_laysGuesses_57 : decode cX5_laysGuesses 57 = .ok (.ifCond .eq 12, 3) := by decide +kernel
theorem dX5_laysGuesses_60 : decode cX5_laysGuesses 60 = .ok (.aload_n 1, 1) := by decide +kernel
theorem dX5_laysGuesses_61 : decode cX5_laysGuesses 61 = .ok (.iload 5, 2) := by decide +kernel
theorem dX5_laysGuesses_63 : decode cX5_laysGuesses 63 = .ok (.invokestatic 49, 3) := by decide +kernel
theorem dX5_laysGuesses_66 : decode cX5_laysGuesses 66 = .ok (.goto 4, 3) := by decide +kernel
theorem dX5_laysGuesses_69 : decode cX5_laysGuesses 69 = .ok (.iconst 0, 1) := by decide +kernel
theorem dX5_laysGuesses_70 : decode cX5_laysGuesses 70 = .ok (.iadd, 1) := by decide +kernel
theorem dX5_laysGuesses_71 : decode cX5_laysGuesses 71 = .ok (.istore_n 3, 1) := by decide +kernel
theorem dX5_laysGuesses_72 : decode cX5_laysGuesses 72 = .ok (.iload 4, 2) := by decide +kernel
theorem dX5_laysGuesses_74 : decode cX5_laysGuesses 74 = .ok (.iload 6, 2) := by decide +kernel
theorem dX5_laysGuesses_76 : decode cX5_laysGuesses 76 = .ok (.ifCond .eq 7, 3) := by decide +kernel
theorem dX5_laysGuesses_79 : decode cX5_laysGuesses 79 = .ok (.iconst 1, 1) := by decide +kernel
theorem dX5_laysGuesses_80 : decode cX5_laysGuesses 80 = .ok (.goto 4, 3) := by decide +kernel
theorem dX5_laysGuesses_83 : decode cX5_laysGuesses 83 = .ok (.iconst 0, 1) := by decide +kernel
theorem dX5_laysGuesses_84 : decode cX5_laysGuesses 84 = .ok (.iadd, 1) := by decide +kernel
theorem dX5_laysGuesses_85 : decode cX5_laysGuesses 85 = .ok (.istore 4, 2) := by decide +kernel
theorem dX5_laysGuesses_87 : decode cX5_laysGuesses 87 = .ok (.iinc 5 1, 3) := by decide +kernel
theorem dX5_laysGuesses_90 : decode cX5_laysGuesses 90 = .ok (.goto (-75), 3) := by decide +kernel
theorem dX5_laysGuesses_93 : decode cX5_laysGuesses 93 = .ok (.aload_n 0, 1) := by decide +kernel
theorem dX5_laysGuesses_94 : decode cX5_laysGuesses 94 = .ok (.getfield 25, 3) := by decide +kernel
theorem dX5_laysGuesses_97 : decode cX5_laysGuesses 97 = .ok (.iload_n 2, 1) := by decide +kernel
theorem dX5_laysGuesses_98 : decode cX5_laysGuesses 98 = .ok (.iload 4, 2) := by decide +kernel
theorem dX5_laysGuesses_100 : decode cX5_laysGuesses 100 = .ok (.ifCond .ne 8, 3) := by decide +kernel
theorem dX5_laysGuesses_103 : decode cX5_laysGuesses 103 = .ok (.bipush 20, 2) := by decide +kernel
theorem dX5_laysGuesses_105 : decode cX5_laysGuesses 105 = .ok (.goto 7, 3) := by decide +kernel
theorem dX5_laysGuesses_108 : decode cX5_laysGuesses 108 = .ok (.iload_n 3, 1) := by decide +kernel
theorem dX5_laysGuesses_109 : decode cX5_laysGuesses 109 = .ok (.iload 4, 2) := by decide +kernel
theorem dX5_laysGuesses_111 : decode cX5_laysGuesses 111 = .ok (.idiv, 1) := by decide +kernel
theorem dX5_laysGuesses_112 : decode cX5_laysGuesses 112 = .ok (.iastore, 1) := by decide +kernel
theorem dX5_laysGuesses_113 : decode cX5_laysGuesses 113 = .ok (.iinc 2 1, 3) := by decide +kernel
theorem dX5_laysGuesses_116 : decode cX5_laysGuesses 116 = .ok (.goto (-114), 3) := by decide +kernel
theorem dX5_laysGuesses_119 : decode cX5_laysGuesses 119 = .ok (.return_, 1) := by decide +kernel
set_option maxRecDepth 20000 in
theorem ggX5_heightOf_X5_l : GoodIn wsX5_heightOf wsX5_l := goodIn_r _ [5] (by decide +kernel) (by decide +kernel)
set_option maxRecDepth 20000 in
theorem gX5_heightOf_X5_l : GoodIn wsX5_heightOf (va_wsS RX5 45 yX5_l wsX5_l) := goodIn_app (goodIn_of _ (by decide +kernel)) ggX5_heightOf_X5_l
set_option maxRecDepth 20000 in
theorem ggX5_heightOf_X5_trueOf : GoodIn wsX5_heightOf wsX5_trueOf := goodIn_r _ [8, 2, 3, 4, 5] (by decide +kernel) (by decide +kernel)
set_option maxRecDepth 20000 in
theorem gX5_heightOf_X5_trueOf : GoodIn wsX5_heightOf (va_wsS RX5 49 yX5_trueOf wsX5_trueOf) := goodIn_app (goodIn_of _ (by decide +kernel)) ggX5_heightOf_X5_trueOf
theorem dX5_heightOf_0 : decode cX5_heightOf 0 = .ok (.aload_n 1, 1) := by decide +kernel
theorem dX5_heightOf_1 : decode cX5_heightOf 1 = .ok (.iload_n 2, 1) := by decide +kernel
theorem dX5_heightOf_2 : decode cX5_heightOf 2 = .ok (.iconst 2, 1) := by decide +kernel
theorem dX5_heightOf_3 : decode cX5_heightOf 3 = .ok (.invokestatic 45, 3) := by decide +kernel
theorem dX5_heightOf_6 : decode cX5_heightOf 6 = .ok (.iaload, 1) := by decide +kernel
theorem dX5_heightOf_7 : decode cX5_heightOf 7 = .ok (.iconst 1, 1) := by decide +kernel
theorem dX5_heightOf_8 : decode cX5_heightOf 8 = .ok (.if_icmp .ne 11, 3) := by decide +kernel
theorem dX5_heightOf_11 : decode cX5_heightOf 11 = .ok (.aload_n 1, 1) := by decide +kernel
theorem dX5_heightOf_12 : decode cX5_heightOf 12 = .ok (.iload_n 2, 1) := by decide +kernel
theorem dX5_heightOf_13 : decode cX5_heightOf 13 = .ok (.invokestatic 49, 3) := by decide +kernel
theorem dX5_heightOf_16 : decode cX5_heightOf 16 = .ok (.goto 15, 3) := by decide +kernel
theorem dX5_heightOf_19 : decode cX5_heightOf 19 = .ok (.aload_n 0, 1) := by decide +kernel
theorem dX5_heightOf_20 : decode cX5_heightOf 20 = .ok (.getfield 25, 3) := by decide +kernel
theorem dX5_heightOf_23 : decode cX5_heightOf 23 = .ok (.aload_n 1, 1) := by decide +kernel
theorem dX5_heightOf_24 : decode cX5_heightOf 24 = .ok (.iload_n 2, 1) := by decide +kernel
theorem dX5_heightOf_25 : decode cX5_heightOf 25 = .ok (.iconst 0, 1) := by decide +kernel
theorem dX5_heightOf_26 : decode cX5_heightOf 26 = .ok (.invokestatic 45, 3) := by decide +kernel
theorem dX5_heightOf_29 : decode cX5_heightOf 29 = .ok (.iaload, 1) := by decide +kernel
theorem dX5_heightOf_30 : decode cX5_heightOf 30 = .ok (.iaload, 1) := by decide +kernel
theorem dX5_heightOf_31 : decode cX5_heightOf 31 = .ok (.ireturn, 1) := by decide +kernel
set_option maxRecDepth 20000 in
theorem ggX5_topOf_X5_laysGuesses : GoodIn wsX5_topOf wsX5_laysGuesses := goodIn_r _ [5, 6, 7, 8, 4, 9, 10, 11, 12, 17, 18, 19, 20, 21, 22, 23, 24, 25, 26, 27, 28] (by decide +kernel) (by decide +kernel)
set_option maxRecDepth 20000 in
theorem gX5_topOf_X5_laysGuesses : GoodIn wsX5_topOf (wsV RX5 53 RX5 yX5_laysGuesses wsX5_laysGuesses) := goodIn_app (goodIn_of _ (by decide +kernel)) ggX5_topOf_X5_laysGuesses
set_option maxRecDepth 20000 in
theorem ggX5_topOf_X5_heightOf : GoodIn wsX5_topOf wsX5_heightOf := goodIn_r _ [16, 6, 7, 8, 4, 9, 10, 11, 12, 17, 18, 19, 20, 21, 22, 23, 24, 25, 26, 27, 28] (by decide +kernel) (by decide +kernel)
set_option maxRecDepth 20000 in
theorem gX5_topOf_X5_heightOf : GoodIn wsX5_topOf (wsV RX5 57 RX5 yX5_heightOf wsX5_heightOf) := goodIn_app (goodIn_of _ (by decide +kernel)) ggX5_topOf_X5_heightOf
theorem dX5_topOf_0 : decode cX5_topOf 0 = .ok (.aload_n 0, 1) := by decide +kernel
theorem dX5_topOf_1 : decode cX5_topOf 1 = .ok (.aload_n 1, 1) := by decide +kernel
theorem dX5_topOf_2 : decode cX5_topOf 2 = .ok (.invokevirtual 53, 3) := by decide +kernel
theorem dX5_topOf_5 : decode cX5_topOf 5 = .ok (.iconst 0, 1) := by decide +kernel
theorem dX5_topOf_6 : decode cX5_topOf 6 = .ok (.istore_n 3, 1) := by decide +kernel
theorem dX5_topOf_7 : decode cX5_topOf 7 = .ok (.iconst 0, 1) := by decide +kernel
theorem dX5_topOf_8 : decode cX5_topOf 8 = .ok (.istore 4, 2) := by decide +kernel
theorem dX5_topOf_10 : decode cX5_topOf 10 = .ok (.iload 4, 2) := by decide +kernel
theorem dX5_topOf_12 : decode cX5_topOf 12 = .ok (.iload_n 2, 1) := by decide +kernel
theorem dX5_topOf_13 : decode cX5_topOf 13 = .ok (.if_icmp .ge 19, 3) := by decide +kernel
theorem dX5_topOf_16 : decode cX5_topOf 16 = .ok (.iload_n 3, 1) := by decide +kernel
theorem dX5_topOf_17 : decode cX5_topOf 17 = .ok (.aload_n 0, 1) := by decide +kernel
theorem dX5_topOf_18 : decode cX5_topOf 18 = .ok (.aload_n 1, 1) := by decide +kernel
theorem dX5_topOf_19 : decode cX5_topOf 19 = .ok (.iload 4, 2) := by decide +kernel
theorem dX5_topOf_21 : decode cX5_topOf 21 = .ok (.invokevirtual 57, 3) := by decide +kernel
theorem dX5_topOf_24 : decode cX5_topOf 24 = .ok (.iadd, 1) := by decide +kernel
theorem dX5_topOf_25 : decode cX5_topOf 25 = .ok (.istore_n 3, 1) := by decide +kernel
theorem dX5_topOf_26 : decode cX5_topOf 26 = .ok (.iinc 4 1, 3) := by decide +kernel
theorem dX5_topOf_29 : decode cX5_topOf 29 = .ok (.goto (-19), 3) := by decide +kernel
theorem dX5_topOf_32 : decode cX5_topOf 32 = .ok (.iload_n 3, 1) := by decide +kernel
theorem dX5_topOf_33 : decode cX5_topOf 33 = .ok (.ireturn, 1) := by decide +kernel
set_option maxRecDepth 20000 in
theorem ggX5_total_X5_topOf : GoodIn wsX5_total wsX5_topOf := goodIn_r _ [5, 6, 7, 8, 4, 9, 10, 11, 12, 13, 14, 15, 16, 17, 18, 19, 20, 21, 22, 23, 24, 25, 26, 27, 28, 29, 30, 31, 32] (by decide +kernel) (by decide +kernel)
set_option maxRecDepth 20000 in
theorem gX5_total_X5_topOf : GoodIn wsX5_total (wsV RX5 60 RX5 yX5_topOf wsX5_topOf) := goodIn_app (goodIn_of _ (by decide +kernel)) ggX5_total_X5_topOf
theorem dX5_total_0 : decode cX5_total 0 = .ok (.aload_n 0, 1) := by decide +kernel
theorem dX5_total_1 : decode cX5_total 1 = .ok (.aload_n 1, 1) := by decide +kernel
theorem dX5_total_2 : decode cX5_total 2 = .ok (.aload_n 1, 1) := by decide +kernel
theorem dX5_total_3 : decode cX5_total 3 = .ok (.iconst 0, 1) := by decide +kernel
theorem dX5_total_4 : decode cX5_total 4 = .ok (.iaload, 1) := by decide +kernel
theorem dX5_total_5 : decode cX5_total 5 = .ok (.invokevirtual 60, 3) := by decide +kernel
theorem dX5_total_8 : decode cX5_total 8 = .ok (.ireturn, 1) := by decide +kernel
set_option maxRecDepth 20000 in
theorem ggX5_windowOf_X5_topOf : GoodIn wsX5_windowOf wsX5_topOf := goodIn_r _ [5, 6, 7, 8, 4, 9, 10, 11, 12, 13, 14, 15, 16, 17, 18, 19, 20, 21, 22, 23, 24, 25, 26, 27, 28, 29, 30, 31, 32] (by decide +kernel) (by decide +kernel)
set_option maxRecDepth 20000 in
theorem gX5_windowOf_X5_topOf : GoodIn wsX5_windowOf (wsV RX5 60 RX5 yX5_topOf wsX5_topOf) := goodIn_app (goodIn_of _ (by decide +kernel)) ggX5_windowOf_X5_topOf
theorem dX5_windowOf_0 : decode cX5_windowOf 0 = .ok (.aload_n 1, 1) := by decide +kernel
theorem dX5_windowOf_1 : decode cX5_windowOf 1 = .ok (.iconst 0, 1) := by decide +kernel
theorem dX5_windowOf_2 : decode cX5_windowOf 2 = .ok (.iaload, 1) := by decide +kernel
theorem dX5_windowOf_3 : decode cX5_windowOf 3 = .ok (.ifCond .ne 7, 3) := by decide +kernel
theorem dX5_windowOf_6 : decode cX5_windowOf 6 = .ok (.iconst 0, 1) := by decide +kernel
theorem dX5_windowOf_7 : decode cX5_windowOf 7 = .ok (.goto 15, 3) := by decide +kernel
theorem dX5_windowOf_10 : decode cX5_windowOf 10 = .ok (.aload_n 0, 1) := by decide +kernel
theorem dX5_windowOf_11 : decode cX5_windowOf 11 = .ok (.aload_n 1, 1) := by decide +kernel
theorem dX5_windowOf_12 : decode cX5_windowOf 12 = .ok (.aload_n 1, 1) := by decide +kernel
theorem dX5_windowOf_13 : decode cX5_windowOf 13 = .ok (.iconst 1, 1) := by decide +kernel
theorem dX5_windowOf_14 : decode cX5_windowOf 14 = .ok (.iaload, 1) := by decide +kernel
theorem dX5_windowOf_15 : decode cX5_windowOf 15 = .ok (.invokevirtual 60, 3) := by decide +kernel
theorem dX5_windowOf_18 : decode cX5_windowOf 18 = .ok (.aload_n 1, 1) := by decide +kernel
theorem dX5_windowOf_19 : decode cX5_windowOf 19 = .ok (.iconst 2, 1) := by decide +kernel
theorem dX5_windowOf_20 : decode cX5_windowOf 20 = .ok (.iaload, 1) := by decide +kernel
theorem dX5_windowOf_21 : decode cX5_windowOf 21 = .ok (.iadd, 1) := by decide +kernel
theorem dX5_windowOf_22 : decode cX5_windowOf 22 = .ok (.ireturn, 1) := by decide +kernel
set_option maxRecDepth 20000 in
theorem ggX5_measured_X5_l : GoodIn wsX5_measured wsX5_l := goodIn_r _ [4] (by decide +kernel) (by decide +kernel)
set_option maxRecDepth 20000 in
theorem gX5_measured_X5_l : GoodIn wsX5_measured (va_wsS RX5 45 yX5_l wsX5_l) := goodIn_app (goodIn_of _ (by decide +kernel)) ggX5_measured_X5_l
theorem dX5_measured_0 : decode cX5_measured 0 = .ok (.iconst 0, 1) := by decide +kernel
theorem dX5_measured_1 : decode cX5_measured 1 = .ok (.istore_n 2, 1) := by decide +kernel
theorem dX5_measured_2 : decode cX5_measured 2 = .ok (.iconst 0, 1) := by decide +kernel
theorem dX5_measured_3 : decode cX5_measured 3 = .ok (.istore_n 3, 1) := by decide +kernel
theorem dX5_measured_4 : decode cX5_measured 4 = .ok (.iload_n 3, 1) := by decide +kernel
theorem dX5_measured_5 : decode cX5_measured 5 = .ok (.aload_n 1, 1) := by decide +kernel
theorem dX5_measured_6 : decode cX5_measured 6 = .ok (.iconst 0, 1) := by decide +kernel
theorem dX5_measured_7 : decode cX5_measured 7 = .ok (.iaload, 1) := by decide +kernel
theorem dX5_measured_8 : decode cX5_measured 8 = .ok (.if_icmp .ge 19, 3) := by decide +kernel
theorem dX5_measured_11 : decode cX5_measured 11 = .ok (.iload_n 2, 1) := by decide +kernel
theorem dX5_measured_12 : decode cX5_measured 12 = .ok (.aload_n 1, 1) := by decide +kernel
theorem dX5_measured_13 : decode cX5_measured 13 = .ok (.iload_n 3, 1) := by decide +kernel
theorem dX5_measured_14 : decode cX5_measured 14 = .ok (.iconst 2, 1) := by decide +kernel
theorem dX5_measured_15 : decode cX5_measured 15 = .ok (.invokestatic 45, 3) := by decide +kernel
theorem dX5_measured_18 : decode cX5_measured 18 = .ok (.iaload, 1) := by decide +kernel
theorem dX5_measured_19 : decode cX5_measured 19 = .ok (.iadd, 1) := by decide +kernel
theorem dX5_measured_20 : decode cX5_measured 20 = .ok (.istore_n 2, 1) := by decide +kernel
theorem dX5_measured_21 : decode cX5_measured 21 = .ok (.iinc 3 1, 3) := by decide +kernel
theorem dX5_measured_24 : decode cX5_measured 24 = .ok (.goto (-20), 3) := by decide +kernel
theorem dX5_measured_27 : decode cX5_measured 27 = .ok (.iload_n 2, 1) := by decide +kernel
theorem dX5_measured_28 : decode cX5_measured 28 = .ok (.ireturn, 1) := by decide +kernel
set_option maxRecDepth 20000 in
theorem ggX5_lineAt_X5_laysGuesses : GoodIn wsX5_lineAt wsX5_laysGuesses := goodIn_r _ [6, 7, 8, 9, 5, 10, 11, 12, 13, 18, 19, 20, 21, 22, 23, 24, 25, 26, 27, 28, 29] (by decide +kernel) (by decide +kernel)
set_option maxRecDepth 20000 in
theorem gX5_lineAt_X5_laysGuesses : GoodIn wsX5_lineAt (wsV RX5 53 RX5 yX5_laysGuesses wsX5_laysGuesses) := goodIn_app (goodIn_of _ (by decide +kernel)) ggX5_lineAt_X5_laysGuesses
set_option maxRecDepth 20000 in
theorem ggX5_lineAt_X5_heightOf : GoodIn wsX5_lineAt wsX5_heightOf := goodIn_r _ [17, 7, 8, 9, 5, 10, 11, 12, 13, 18, 19, 20, 21, 22, 23, 24, 25, 26, 27, 28, 29] (by decide +kernel) (by decide +kernel)
set_option maxRecDepth 20000 in
theorem gX5_lineAt_X5_heightOf : GoodIn wsX5_lineAt (wsV RX5 57 RX5 yX5_heightOf wsX5_heightOf) := goodIn_app (goodIn_of _ (by decide +kernel)) ggX5_lineAt_X5_heightOf
theorem dX5_lineAt_0 : decode cX5_lineAt 0 = .ok (.aload_n 0, 1) := by decide +kernel
theorem dX5_lineAt_1 : decode cX5_lineAt 1 = .ok (.aload_n 1, 1) := by decide +kernel
theorem dX5_lineAt_2 : decode cX5_lineAt 2 = .ok (.invokevirtual 53, 3) := by decide +kernel
theorem dX5_lineAt_5 : decode cX5_lineAt 5 = .ok (.iconst 0, 1) := by decide +kernel
theorem dX5_lineAt_6 : decode cX5_lineAt 6 = .ok (.istore_n 3, 1) := by decide +kernel
theorem dX5_lineAt_7 : decode cX5_lineAt 7 = .ok (.iconst 0, 1) := by decide +kernel
theorem dX5_lineAt_8 : decode cX5_lineAt 8 = .ok (.istore 4, 2) := by decide +kernel
theorem dX5_lineAt_10 : decode cX5_lineAt 10 = .ok (.iload 4, 2) := by decide +kernel
theorem dX5_lineAt_12 : decode cX5_lineAt 12 = .ok (.aload_n 1, 1) := by decide +kernel
theorem dX5_lineAt_13 : decode cX5_lineAt 13 = .ok (.iconst 0, 1) := by decide +kernel
theorem dX5_lineAt_14 : decode cX5_lineAt 14 = .ok (.iaload, 1) := by decide +kernel
theorem dX5_lineAt_15 : decode cX5_lineAt 15 = .ok (.if_icmp .ge 27, 3) := by decide +kernel
theorem dX5_lineAt_18 : decode cX5_lineAt 18 = .ok (.iload_n 3, 1) := by decide +kernel
theorem dX5_lineAt_19 : decode cX5_lineAt 19 = .ok (.aload_n 0, 1) := by decide +kernel
theorem dX5_lineAt_20 : decode cX5_lineAt 20 = .ok (.aload_n 1, 1) := by decide +kernel
theorem dX5_lineAt_21 : decode cX5_lineAt 21 = .ok (.iload 4, 2) := by decide +kernel
theorem dX5_lineAt_23 : decode cX5_lineAt 23 = .ok (.invokevirtual 57, 3) := by decide +kernel
theorem dX5_lineAt_26 : decode cX5_lineAt 26 = .ok (.iadd, 1) := by decide +kernel
theorem dX5_lineAt_27 : decode cX5_lineAt 27 = .ok (.istore_n 3, 1) := by decide +kernel
theorem dX5_lineAt_28 : decode cX5_lineAt 28 = .ok (.iload_n 2, 1) := by decide +kernel
theorem dX5_lineAt_29 : decode cX5_lineAt 29 = .ok (.iload_n 3, 1) := by decide +kernel
theorem dX5_lineAt_30 : decode cX5_lineAt 30 = .ok (.if_icmp .ge 6, 3) := by decide +kernel
theorem dX5_lineAt_33 : decode cX5_lineAt 33 = .ok (.iload 4, 2) := by decide +kernel
theorem dX5_lineAt_35 : decode cX5_lineAt 35 = .ok (.ireturn, 1) := by decide +kernel
theorem dX5_lineAt_36 : decode cX5_lineAt 36 = .ok (.iinc 4 1, 3) := by decide +kernel
theorem dX5_lineAt_39 : decode cX5_lineAt 39 = .ok (.goto (-29), 3) := by decide +kernel
theorem dX5_lineAt_42 : decode cX5_lineAt 42 = .ok (.ldc 63, 2) := by decide +kernel
theorem dX5_lineAt_44 : decode cX5_lineAt 44 = .ok (.ireturn, 1) := by decide +kernel
set_option maxRecDepth 20000 in
theorem ggX5_isSeen_X5_topOf : GoodIn wsX5_isSeen wsX5_topOf := goodIn_r _ [5, 6, 7, 8, 4, 9, 10, 11, 12, 13, 14, 15, 16, 17, 18, 19, 20, 25, 26, 27, 28, 29, 30, 31, 32, 33, 34, 35, 36] (by decide +kernel) (by decide +kernel)
set_option maxRecDepth 20000 in
theorem gX5_isSeen_X5_topOf : GoodIn wsX5_isSeen (wsV RX5 60 RX5 yX5_topOf wsX5_topOf) := goodIn_app (goodIn_of _ (by decide +kernel)) ggX5_isSeen_X5_topOf
set_option maxRecDepth 20000 in
theorem ggX5_isSeen_X5_windowOf : GoodIn wsX5_isSeen wsX5_windowOf := goodIn_r _ [24, 1, 2, 3, 4, 5, 6, 7, 8, 9, 10, 11, 12, 13, 14, 15, 16, 17, 18, 19, 20, 25, 26, 27, 28, 29, 30, 31, 32, 33, 34, 35, 36] (by decide +kernel) (by decide +kernel)
set_option maxRecDepth 20000 in
theorem gX5_isSeen_X5_windowOf : GoodIn wsX5_isSeen (wsV RX5 64 RX5 yX5_windowOf wsX5_windowOf) := goodIn_app (goodIn_of _ (by decide +kernel)) ggX5_isSeen_X5_windowOf
set_option maxRecDepth 20000 in
theorem ggX5_isSeen_X5_heightOf : GoodIn wsX5_isSeen wsX5_heightOf := goodIn_r _ [20, 10, 11, 12, 4, 13, 14, 15, 16, 25, 26, 27, 28, 29, 30, 31, 32, 33, 34, 35, 36] (by decide +kernel) (by decide +kernel)
set_option maxRecDepth 20000 in
theorem gX5_isSeen_X5_heightOf : GoodIn wsX5_isSeen (wsV RX5 57 RX5 yX5_heightOf wsX5_heightOf) := goodIn_app (goodIn_of _ (by decide +kernel)) ggX5_isSeen_X5_heightOf
theorem dX5_isSeen_0 : decode cX5_isSeen 0 = .ok (.aload_n 0, 1) := by decide +kernel
theorem dX5_isSeen_1 : decode cX5_isSeen 1 = .ok (.aload_n 1, 1) := by decide +kernel
theorem dX5_isSeen_2 : decode cX5_isSeen 2 = .ok (.iload_n 2, 1) := by decide +kernel
theorem dX5_isSeen_3 : decode cX5_isSeen 3 = .ok (.invokevirtual 60, 3) := by decide +kernel
theorem dX5_isSeen_6 : decode cX5_isSeen 6 = .ok (.aload_n 0, 1) := by decide +kernel
theorem dX5_isSeen_7 : decode cX5_isSeen 7 = .ok (.aload_n 1, 1) := by decide +kernel
theorem dX5_isSeen_8 : decode cX5_isSeen 8 = .ok (.invokevirtual 64, 3) := by decide +kernel
theorem dX5_isSeen_11 : decode cX5_isSeen 11 = .ok (.isub, 1) := by decide +kernel
theorem dX5_isSeen_12 : decode cX5_isSeen 12 = .ok (.istore_n 3, 1) := by decide +kernel
theorem dX5_isSeen_13 : decode cX5_isSeen 13 = .ok (.iload_n 3, 1) := by decide +kernel
theorem dX5_isSeen_14 : decode cX5_isSeen 14 = .ok (.aload_n 1, 1) := by decide +kernel
theorem dX5_isSeen_15 : decode cX5_isSeen 15 = .ok (.iconst 3, 1) := by decide +kernel
theorem dX5_isSeen_16 : decode cX5_isSeen 16 = .ok (.iaload, 1) := by decide +kernel
theorem dX5_isSeen_17 : decode cX5_isSeen 17 = .ok (.if_icmp .ge 18, 3) := by decide +kernel
theorem dX5_isSeen_20 : decode cX5_isSeen 20 = .ok (.iload_n 3, 1) := by decide +kernel
theorem dX5_isSeen_21 : decode cX5_isSeen 21 = .ok (.aload_n 0, 1) := by decide +kernel
theorem dX5_isSeen_22 : decode cX5_isSeen 22 = .ok (.aload_n 1, 1) := by decide +kernel
theorem dX5_isSeen_23 : decode cX5_isSeen 23 = .ok (.iload_n 2, 1) := by decide +kernel
theorem dX5_isSeen_24 : decode cX5_isSeen 24 = .ok (.invokevirtual 57, 3) := by decide +kernel
theorem dX5_isSeen_27 : decode cX5_isSeen 27 = .ok (.iadd, 1) := by decide +kernel
theorem dX5_isSeen_28 : decode cX5_isSeen 28 = .ok (.ifCond .le 7, 3) := by decide +kernel
theorem dX5_isSeen_31 : decode cX5_isSeen 31 = .ok (.iconst 1, 1) := by decide +kernel
theorem dX5_isSeen_32 : decode cX5_isSeen 32 = .ok (.goto 4, 3) := by decide +kernel
theorem dX5_isSeen_35 : decode cX5_isSeen 35 = .ok (.iconst 0, 1) := by decide +kernel
theorem dX5_isSeen_36 : decode cX5_isSeen 36 = .ok (.ireturn, 1) := by decide +kernel
set_option maxRecDepth 20000 in
theorem ggX5_goesUp_X5_l : GoodIn wsX5_goesUp wsX5_l := goodIn_r _ [4] (by decide +kernel) (by decide +kernel)
set_option maxRecDepth 20000 in
theorem gX5_goesUp_X5_l : GoodIn wsX5_goesUp (va_wsS RX5 45 yX5_l wsX5_l) := goodIn_app (goodIn_of _ (by decide +kernel)) ggX5_goesUp_X5_l
set_option maxRecDepth 20000 in
theorem ggX5_goesUp_X5_trueOf : GoodIn wsX5_goesUp wsX5_trueOf := goodIn_r _ [7, 1, 2, 3, 4] (by decide +kernel) (by decide +kernel)
set_option maxRecDepth 20000 in
theorem gX5_goesUp_X5_trueOf : GoodIn wsX5_goesUp (va_wsS RX5 49 yX5_trueOf wsX5_trueOf) := goodIn_app (goodIn_of _ (by decide +kernel)) ggX5_goesUp_X5_trueOf
theorem dX5_goesUp_0 : decode cX5_goesUp 0 = .ok (.aload_n 0, 1) := by decide +kernel
theorem dX5_goesUp_1 : decode cX5_goesUp 1 = .ok (.iconst 2, 1) := by decide +kernel
theorem dX5_goesUp_2 : decode cX5_goesUp 2 = .ok (.iaload, 1) := by decide +kernel
theorem dX5_goesUp_3 : decode cX5_goesUp 3 = .ok (.ifCond .ge 42, 3) := by decide +kernel
theorem dX5_goesUp_6 : decode cX5_goesUp 6 = .ok (.aload_n 0, 1) := by decide +kernel
theorem dX5_goesUp_7 : decode cX5_goesUp 7 = .ok (.iconst 1, 1) := by decide +kernel
theorem dX5_goesUp_8 : decode cX5_goesUp 8 = .ok (.iaload, 1) := by decide +kernel
theorem dX5_goesUp_9 : decode cX5_goesUp 9 = .ok (.ifCond .le 36, 3) := by decide +kernel
theorem dX5_goesUp_12 : decode cX5_goesUp 12 = .ok (.aload_n 0, 1) := by decide +kernel
theorem dX5_goesUp_13 : decode cX5_goesUp 13 = .ok (.iconst 1, 1) := by decide +kernel
theorem dX5_goesUp_14 : decode cX5_goesUp 14 = .ok (.dup2, 1) := by decide +kernel
theorem dX5_goesUp_15 : decode cX5_goesUp 15 = .ok (.iaload, 1) := by decide +kernel
theorem dX5_goesUp_16 : decode cX5_goesUp 16 = .ok (.iconst 1, 1) := by decide +kernel
theorem dX5_goesUp_17 : decode cX5_goesUp 17 = .ok (.isub, 1) := by decide +kernel
theorem dX5_goesUp_18 : decode cX5_goesUp 18 = .ok (.iastore, 1) := by decide +kernel
theorem dX5_goesUp_19 : decode cX5_goesUp 19 = .ok (.aload_n 0, 1) := by decide +kernel
theorem dX5_goesUp_20 : decode cX5_goesUp 20 = .ok (.aload_n 0, 1) := by decide +kernel
theorem dX5_goesUp_21 : decode cX5_goesUp 21 = .ok (.iconst 1, 1) := by decide +kernel
theorem dX5_goesUp_22 : decode cX5_goesUp 22 = .ok (.iaload, 1) := by decide +kernel
theorem dX5_goesUp_23 : decode cX5_goesUp 23 = .ok (.iconst 2, 1) := by decide +kernel
theorem dX5_goesUp_24 : decode cX5_goesUp 24 = .ok (.invokestatic 45, 3) := by decide +kernel
theorem dX5_goesUp_27 : decode cX5_goesUp 27 = .ok (.iconst 1, 1) := by decide +kernel
theorem dX5_goesUp_28 : decode cX5_goesUp 28 = .ok (.iastore, 1) := by decide +kernel
theorem dX5_goesUp_29 : decode cX5_goesUp 29 = .ok (.aload_n 0, 1) := by decide +kernel
theorem dX5_goesUp_30 : decode cX5_goesUp 30 = .ok (.iconst 2, 1) := by decide +kernel
theorem dX5_goesUp_31 : decode cX5_goesUp 31 = .ok (.dup2, 1) := by decide +kernel
theorem dX5_goesUp_32 : decode cX5_goesUp 32 = .ok (.iaload, 1) := by decide +kernel
theorem dX5_goesUp_33 : decode cX5_goesUp 33 = .ok (.aload_n 0, 1) := by decide +kernel
theorem dX5_goesUp_34 : decode cX5_goesUp 34 = .ok (.aload_n 0, 1) := by decide +kernel
theorem dX5_goesUp_35 : decode cX5_goesUp 35 = .ok (.iconst 1, 1) := by decide +kernel
theorem dX5_goesUp_36 : decode cX5_goesUp 36 = .ok (.iaload, 1) := by decide +kernel
theorem dX5_goesUp_37 : decode cX5_goesUp 37 = .ok (.invokestatic 49, 3) := by decide +kernel
theorem dX5_goesUp_40 : decode cX5_goesUp 40 = .ok (.iadd, 1) := by decide +kernel
theorem dX5_goesUp_41 : decode cX5_goesUp 41 = .ok (.iastore, 1) := by decide +kernel
theorem dX5_goesUp_42 : decode cX5_goesUp 42 = .ok (.goto (-42), 3) := by decide +kernel
theorem dX5_goesUp_45 : decode cX5_goesUp 45 = .ok (.aload_n 0, 1) := by decide +kernel
theorem dX5_goesUp_46 : decode cX5_goesUp 46 = .ok (.iconst 2, 1) := by decide +kernel
theorem dX5_goesUp_47 : decode cX5_goesUp 47 = .ok (.aload_n 0, 1) := by decide +kernel
theorem dX5_goesUp_48 : decode cX5_goesUp 48 = .ok (.iconst 2, 1) := by decide +kernel
theorem dX5_goesUp_49 : decode cX5_goesUp 49 = .ok (.iaload, 1) := by decide +kernel
theorem dX5_goesUp_50 : decode cX5_goesUp 50 = .ok (.ifCond .ge 7, 3) := by decide +kernel
theorem dX5_goesUp_53 : decode cX5_goesUp 53 = .ok (.iconst 0, 1) := by decide +kernel
theorem dX5_goesUp_54 : decode cX5_goesUp 54 = .ok (.goto 6, 3) := by decide +kernel
theorem dX5_goesUp_57 : decode cX5_goesUp 57 = .ok (.aload_n 0, 1) := by decide +kernel
theorem dX5_goesUp_58 : decode cX5_goesUp 58 = .ok (.iconst 2, 1) := by decide +kernel
theorem dX5_goesUp_59 : decode cX5_goesUp 59 = .ok (.iaload, 1) := by decide +kernel
theorem dX5_goesUp_60 : decode cX5_goesUp 60 = .ok (.iastore, 1) := by decide +kernel
theorem dX5_goesUp_61 : decode cX5_goesUp 61 = .ok (.return_, 1) := by decide +kernel
set_option maxRecDepth 20000 in
theorem ggX5_settles_X5_l : GoodIn wsX5_settles wsX5_l := goodIn_r _ [4] (by decide +kernel) (by decide +kernel)
set_option maxRecDepth 20000 in
theorem gX5_settles_X5_l : GoodIn wsX5_settles (va_wsS RX5 45 yX5_l wsX5_l) := goodIn_app (goodIn_of _ (by decide +kernel)) ggX5_settles_X5_l
set_option maxRecDepth 20000 in
theorem ggX5_settles_X5_trueOf : GoodIn wsX5_settles wsX5_trueOf := goodIn_r _ [7, 1, 2, 3, 4] (by decide +kernel) (by decide +kernel)
set_option maxRecDepth 20000 in
theorem gX5_settles_X5_trueOf : GoodIn wsX5_settles (va_wsS RX5 49 yX5_trueOf wsX5_trueOf) := goodIn_app (goodIn_of _ (by decide +kernel)) ggX5_settles_X5_trueOf
set_option maxRecDepth 20000 in
theorem ggX5_settles_X5_goesUp : GoodIn wsX5_settles wsX5_goesUp := goodIn_r _ [10, 1, 2, 3, 4, 5, 6, 7] (by decide +kernel) (by decide +kernel)
set_option maxRecDepth 20000 in
theorem gX5_settles_X5_goesUp : GoodIn wsX5_settles (va_wsS RX5 68 yX5_goesUp wsX5_goesUp) := goodIn_app (goodIn_of _ (by decide +kernel)) ggX5_settles_X5_goesUp
theorem dX5_settles_0 : decode cX5_settles 0 = .ok (.aload_n 0, 1) := by decide +kernel
theorem dX5_settles_1 : decode cX5_settles 1 = .ok (.iconst 0, 1) := by decide +kernel
theorem dX5_settles_2 : decode cX5_settles 2 = .ok (.iaload, 1) := by decide +kernel
theorem dX5_settles_3 : decode cX5_settles 3 = .ok (.ifCond .ne 4, 3) := by decide +kernel
theorem dX5_settles_6 : decode cX5_settles 6 = .ok (.return_, 1) := by decide +kernel
theorem dX5_settles_7 : decode cX5_settles 7 = .ok (.aload_n 0, 1) := by decide +kernel
theorem dX5_settles_8 : decode cX5_settles 8 = .ok (.aload_n 0, 1) := by decide +kernel
theorem dX5_settles_9 : decode cX5_settles 9 = .ok (.iconst 1, 1) := by decide +kernel
theorem dX5_settles_10 : decode cX5_settles 10 = .ok (.iaload, 1) := by decide +kernel
theorem dX5_settles_11 : decode cX5_settles 11 = .ok (.iconst 2, 1) := by decide +kernel
theorem dX5_settles_12 : decode cX5_settles 12 = .ok (.invokestatic 45, 3) := by decide +kernel
theorem dX5_settles_15 : decode cX5_settles 15 = .ok (.iconst 1, 1) := by decide +kernel
theorem dX5_settles_16 : decode cX5_settles 16 = .ok (.iastore, 1) := by decide +kernel
theorem dX5_settles_17 : decode cX5_settles 17 = .ok (.aload_n 0, 1) := by decide +kernel
theorem dX5_settles_18 : decode cX5_settles 18 = .ok (.iconst 1, 1) := by decide +kernel
theorem dX5_settles_19 : decode cX5_settles 19 = .ok (.iaload, 1) := by decide +kernel
theorem dX5_settles_20 : decode cX5_settles 20 = .ok (.iconst 1, 1) := by decide +kernel
theorem dX5_settles_21 : decode cX5_settles 21 = .ok (.iadd, 1) := by decide +kernel
theorem dX5_settles_22 : decode cX5_settles 22 = .ok (.aload_n 0, 1) := by decide +kernel
theorem dX5_settles_23 : decode cX5_settles 23 = .ok (.iconst 0, 1) := by decide +kernel
theorem dX5_settles_24 : decode cX5_settles 24 = .ok (.iaload, 1) := by decide +kernel
theorem dX5_settles_25 : decode cX5_settles 25 = .ok (.if_icmp .ge 49, 3) := by decide +kernel
theorem dX5_settles_28 : decode cX5_settles 28 = .ok (.aload_n 0, 1) := by decide +kernel
theorem dX5_settles_29 : decode cX5_settles 29 = .ok (.iconst 2, 1) := by decide +kernel
theorem dX5_settles_30 : decode cX5_settles 30 = .ok (.iaload, 1) := by decide +kernel
theorem dX5_settles_31 : decode cX5_settles 31 = .ok (.aload_n 0, 1) := by decide +kernel
theorem dX5_settles_32 : decode cX5_settles 32 = .ok (.aload_n 0, 1) := by decide +kernel
theorem dX5_settles_33 : decode cX5_settles 33 = .ok (.iconst 1, 1) := by decide +kernel
theorem dX5_settles_34 : decode cX5_settles 34 = .ok (.iaload, 1) := by decide +kernel
theorem dX5_settles_35 : decode cX5_settles 35 = .ok (.invokestatic 49, 3) := by decide +kernel
theorem dX5_settles_38 : decode cX5_settles 38 = .ok (.if_icmp .lt 36, 3) := by decide +kernel
theorem dX5_settles_41 : decode cX5_settles 41 = .ok (.aload_n 0, 1) := by decide +kernel
theorem dX5_settles_42 : decode cX5_settles 42 = .ok (.iconst 2, 1) := by decide +kernel
theorem dX5_settles_43 : decode cX5_settles 43 = .ok (.dup2, 1) := by decide +kernel
theorem dX5_settles_44 : decode cX5_settles 44 = .ok (.iaload, 1) := by decide +kernel
theorem dX5_settles_45 : decode cX5_settles 45 = .ok (.aload_n 0, 1) := by decide +kernel
theorem dX5_settles_46 : decode cX5_settles 46 = .ok (.aload_n 0, 1) := by decide +kernel
theorem dX5_settles_47 : decode cX5_settles 47 = .ok (.iconst 1, 1) := by decide +kernel
theorem dX5_settles_48 : decode cX5_settles 48 = .ok (.iaload, 1) := by decide +kernel
theorem dX5_settles_49 : decode cX5_settles 49 = .ok (.invokestatic 49, 3) := by decide +kernel
theorem dX5_settles_52 : decode cX5_settles 52 = .ok (.isub, 1) := by decide +kernel
theorem dX5_settles_53 : decode cX5_settles 53 = .ok (.iastore, 1) := by decide +kernel
theorem dX5_settles_54 : decode cX5_settles 54 = .ok (.aload_n 0, 1) := by decide +kernel
theorem dX5_settles_55 : decode cX5_settles 55 = .ok (.iconst 1, 1) := by decide +kernel
theorem dX5_settles_56 : decode cX5_settles 56 = .ok (.dup2, 1) := by decide +kernel
theorem dX5_settles_57 : decode cX5_settles 57 = .ok (.iaload, 1) := by decide +kernel
theorem dX5_settles_58 : decode cX5_settles 58 = .ok (.iconst 1, 1) := by decide +kernel
theorem dX5_settles_59 : decode cX5_settles 59 = .ok (.iadd, 1) := by decide +kernel
theorem dX5_settles_60 : decode cX5_settles 60 = .ok (.iastore, 1) := by decide +kernel
theorem dX5_settles_61 : decode cX5_settles 61 = .ok (.aload_n 0, 1) := by decide +kernel
theorem dX5_settles_62 : decode cX5_settles 62 = .ok (.aload_n 0, 1) := by decide +kernel
theorem dX5_settles_63 : decode cX5_settles 63 = .ok (.iconst 1, 1) := by decide +kernel
theorem dX5_settles_64 : decode cX5_settles 64 = .ok (.iaload, 1) := by decide +kernel
theorem dX5_settles_65 : decode cX5_settles 65 = .ok (.iconst 2, 1) := by decide +kernel
theorem dX5_settles_66 : decode cX5_settles 66 = .ok (.invokestatic 45, 3) := by decide +kernel
theorem dX5_settles_69 : decode cX5_settles 69 = .ok (.iconst 1, 1) := by decide +kernel
theorem dX5_settles_70 : decode cX5_settles 70 = .ok (.iastore, 1) := by decide +kernel
theorem dX5_settles_71 : decode cX5_settles 71 = .ok (.goto (-54), 3) := by decide +kernel
theorem dX5_settles_74 : decode cX5_settles 74 = .ok (.aload_n 0, 1) := by decide +kernel
theorem dX5_settles_75 : decode cX5_settles 75 = .ok (.iconst 1, 1) := by decide +kernel
theorem dX5_settles_76 : decode cX5_settles 76 = .ok (.iaload, 1) := by decide +kernel
theorem dX5_settles_77 : decode cX5_settles 77 = .ok (.istore_n 1, 1) := by decide +kernel
theorem dX5_settles_78 : decode cX5_settles 78 = .ok (.aload_n 0, 1) := by decide +kernel
theorem dX5_settles_79 : decode cX5_settles 79 = .ok (.iload_n 1, 1) := by decide +kernel
theorem dX5_settles_80 : decode cX5_settles 80 = .ok (.invokestatic 49, 3) := by decide +kernel
theorem dX5_settles_83 : decode cX5_settles 83 = .ok (.aload_n 0, 1) := by decide +kernel
theorem dX5_settles_84 : decode cX5_settles 84 = .ok (.iconst 2, 1) := by decide +kernel
theorem dX5_settles_85 : decode cX5_settles 85 = .ok (.iaload, 1) := by decide +kernel
theorem dX5_settles_86 : decode cX5_settles 86 = .ok (.isub, 1) := by decide +kernel
theorem dX5_settles_87 : decode cX5_settles 87 = .ok (.istore_n 2, 1) := by decide +kernel
theorem dX5_settles_88 : decode cX5_settles 88 = .ok (.iload_n 1, 1) := by decide +kernel
theorem dX5_settles_89 : decode cX5_settles 89 = .ok (.iconst 1, 1) := by decide +kernel
theorem dX5_settles_90 : decode cX5_settles 90 = .ok (.iadd, 1) := by decide +kernel
theorem dX5_settles_91 : decode cX5_settles 91 = .ok (.aload_n 0, 1) := by decide +kernel
theorem dX5_settles_92 : decode cX5_settles 92 = .ok (.iconst 0, 1) := by decide +kernel
theorem dX5_settles_93 : decode cX5_settles 93 = .ok (.iaload, 1) := by decide +kernel
theorem dX5_settles_94 : decode cX5_settles 94 = .ok (.if_icmp .ge 32, 3) := by decide +kernel
theorem dX5_settles_97 : decode cX5_settles 97 = .ok (.iload_n 2, 1) := by decide +kernel
theorem dX5_settles_98 : decode cX5_settles 98 = .ok (.aload_n 0, 1) := by decide +kernel
theorem dX5_settles_99 : decode cX5_settles 99 = .ok (.iconst 3, 1) := by decide +kernel
theorem dX5_settles_100 : decode cX5_settles 100 = .ok (.iaload, 1) := by decide +kernel
theorem dX5_settles_101 : decode cX5_settles 101 = .ok (.if_icmp .ge 25, 3) := by decide +kernel
theorem dX5_settles_104 : decode cX5_settles 104 = .ok (.iinc 1 1, 3) := by decide +kernel
theorem dX5_settles_107 : decode cX5_settles 107 = .ok (.aload_n 0, 1) := by decide +kernel
theorem dX5_settles_108 : decode cX5_settles 108 = .ok (.iload_n 1, 1) := by decide +kernel
theorem dX5_settles_109 : decode cX5_settles 109 = .ok (.iconst 2, 1) := by decide +kernel
theorem dX5_settles_110 : decode cX5_settles 110 = .ok (.invokestatic 45, 3) := by decide +kernel
theorem dX5_settles_113 : decode cX5_settles 113 = .ok (.iconst 1, 1) := by decide +kernel
theorem dX5_settles_114 : decode cX5_settles 114 = .ok (.iastore, 1) := by decide +kernel
theorem dX5_settles_115 : decode cX5_settles 115 = .ok (.iload_n 2, 1) := by decide +kernel
theorem dX5_settles_116 : decode cX5_settles 116 = .ok (.aload_n 0, 1) := by decide +kernel
theorem dX5_settles_117 : decode cX5_settles 117 = .ok (.iload_n 1, 1) := by decide +kernel
theorem dX5_settles_118 : decode cX5_settles 118 = .ok (.invokestatic 49, 3) := by decide +kernel
theorem dX5_settles_121 : decode cX5_settles 121 = .ok (.iadd, 1) := by decide +kernel
theorem dX5_settles_122 : decode cX5_settles 122 = .ok (.istore_n 2, 1) := by decide +kernel
theorem dX5_settles_123 : decode cX5_settles 123 = .ok (.goto (-35), 3) := by decide +kernel
theorem dX5_settles_126 : decode cX5_settles 126 = .ok (.iload_n 1, 1) := by decide +kernel
theorem dX5_settles_127 : decode cX5_settles 127 = .ok (.iconst 1, 1) := by decide +kernel
theorem dX5_settles_128 : decode cX5_settles 128 = .ok (.iadd, 1) := by decide +kernel
theorem dX5_settles_129 : decode cX5_settles 129 = .ok (.aload_n 0, 1) := by decide +kernel
theorem dX5_settles_130 : decode cX5_settles 130 = .ok (.iconst 0, 1) := by decide +kernel
theorem dX5_settles_131 : decode cX5_settles 131 = .ok (.iaload, 1) := by decide +kernel
theorem dX5_settles_132 : decode cX5_settles 132 = .ok (.if_icmp .ne 25, 3) := by decide +kernel
theorem dX5_settles_135 : decode cX5_settles 135 = .ok (.iload_n 2, 1) := by decide +kernel
theorem dX5_settles_136 : decode cX5_settles 136 = .ok (.aload_n 0, 1) := by decide +kernel
theorem dX5_settles_137 : decode cX5_settles 137 = .ok (.iconst 3, 1) := by decide +kernel
theorem dX5_settles_138 : decode cX5_settles 138 = .ok (.iaload, 1) := by decide +kernel
theorem dX5_settles_139 : decode cX5_settles 139 = .ok (.if_icmp .ge 18, 3) := by decide +kernel
theorem dX5_settles_142 : decode cX5_settles 142 = .ok (.aload_n 0, 1) := by decide +kernel
theorem dX5_settles_143 : decode cX5_settles 143 = .ok (.iconst 2, 1) := by decide +kernel
theorem dX5_settles_144 : decode cX5_settles 144 = .ok (.dup2, 1) := by decide +kernel
theorem dX5_settles_145 : decode cX5_settles 145 = .ok (.iaload, 1) := by decide +kernel
theorem dX5_settles_146 : decode cX5_settles 146 = .ok (.aload_n 0, 1) := by decide +kernel
theorem dX5_settles_147 : decode cX5_settles 147 = .ok (.iconst 3, 1) := by decide +kernel
theorem dX5_settles_148 : decode cX5_settles 148 = .ok (.iaload, 1) := by decide +kernel
theorem dX5_settles_149 : decode cX5_settles 149 = .ok (.iload_n 2, 1) := by decide +kernel
theorem dX5_settles_150 : decode cX5_settles 150 = .ok (.isub, 1) := by decide +kernel
theorem dX5_settles_151 : decode cX5_settles 151 = .ok (.isub, 1) := by decide +kernel
theorem dX5_settles_152 : decode cX5_settles 152 = .ok (.iastore, 1) := by decide +kernel
theorem dX5_settles_153 : decode cX5_settles 153 = .ok (.aload_n 0, 1) := by decide +kernel
theorem dX5_settles_154 : decode cX5_settles 154 = .ok (.invokestatic 68, 3) := by decide +kernel
theorem dX5_settles_157 : decode cX5_settles 157 = .ok (.return_, 1) := by decide +kernel
set_option maxRecDepth 20000 in
theorem ggX5_puts_X5_in : GoodIn wsX5_puts wsX5_in := goodIn_r _ [7] (by decide +kernel) (by decide +kernel)
set_option maxRecDepth 20000 in
theorem gX5_puts_X5_in : GoodIn wsX5_puts (va_wsS RX5 37 yX5_in wsX5_in) := goodIn_app (goodIn_of _ (by decide +kernel)) ggX5_puts_X5_in
set_option maxRecDepth 20000 in
theorem ggX5_puts_X5_l : GoodIn wsX5_puts wsX5_l := goodIn_r _ [10] (by decide +kernel) (by decide +kernel)
set_option maxRecDepth 20000 in
theorem gX5_puts_X5_l : GoodIn wsX5_puts (va_wsS RX5 45 yX5_l wsX5_l) := goodIn_app (goodIn_of _ (by decide +kernel)) ggX5_puts_X5_l
set_option maxRecDepth 20000 in
theorem ggX5_puts_X5_settles : GoodIn wsX5_puts wsX5_settles := goodIn_r _ [13, 8, 9, 6, 10, 14, 15, 16, 17, 18, 19] (by decide +kernel) (by decide +kernel)
set_option maxRecDepth 20000 in
theorem gX5_puts_X5_settles : GoodIn wsX5_puts (va_wsS RX5 71 yX5_settles wsX5_settles) := goodIn_app (goodIn_of _ (by decide +kernel)) ggX5_puts_X5_settles
set_option maxRecDepth 20000 in
theorem ggX5_puts_X5_total : GoodIn wsX5_puts wsX5_total := goodIn_r _ [23, 24, 25, 26, 6, 27, 28, 29, 30, 31, 32, 8, 9, 10, 14, 15, 16, 33, 34, 35, 36, 37, 38, 39, 40, 41, 42, 43, 44, 45, 46, 47, 48] (by decide +kernel) (by decide +kernel)
set_option maxRecDepth 20000 in
theorem gX5_puts_X5_total : GoodIn wsX5_puts (wsV RX5 74 RX5 yX5_total wsX5_total) := goodIn_app (goodIn_of _ (by decide +kernel)) ggX5_puts_X5_total
theorem dX5_puts_0 : decode cX5_puts 0 = .ok (.iload_n 1, 1) := by decide +kernel
theorem dX5_puts_1 : decode cX5_puts 1 = .ok (.iconst 0, 1) := by decide +kernel
theorem dX5_puts_2 : decode cX5_puts 2 = .ok (.aload_n 0, 1) := by decide +kernel
theorem dX5_puts_3 : decode cX5_puts 3 = .ok (.getfield 7, 3) := by decide +kernel
theorem dX5_puts_6 : decode cX5_puts 6 = .ok (.iconst 0, 1) := by decide +kernel
theorem dX5_puts_7 : decode cX5_puts 7 = .ok (.iaload, 1) := by decide +kernel
theorem dX5_puts_8 : decode cX5_puts 8 = .ok (.invokestatic 37, 3) := by decide +kernel
theorem dX5_puts_11 : decode cX5_puts 11 = .ok (.ifCond .eq 23, 3) := by decide +kernel
theorem dX5_puts_14 : decode cX5_puts 14 = .ok (.iload_n 2, 1) := by decide +kernel
theorem dX5_puts_15 : decode cX5_puts 15 = .ok (.iconst 0, 1) := by decide +kernel
theorem dX5_puts_16 : decode cX5_puts 16 = .ok (.iconst 2, 1) := by decide +kernel
theorem dX5_puts_17 : decode cX5_puts 17 = .ok (.invokestatic 37, 3) := by decide +kernel
theorem dX5_puts_20 : decode cX5_puts 20 = .ok (.ifCond .eq 14, 3) := by decide +kernel
theorem dX5_puts_23 : decode cX5_puts 23 = .ok (.iload_n 3, 1) := by decide +kernel
theorem dX5_puts_24 : decode cX5_puts 24 = .ok (.iconst 0, 1) := by decide +kernel
theorem dX5_puts_25 : decode cX5_puts 25 = .ok (.sipush 400, 3) := by decide +kernel
theorem dX5_puts_28 : decode cX5_puts 28 = .ok (.invokestatic 37, 3) := by decide +kernel
theorem dX5_puts_31 : decode cX5_puts 31 = .ok (.ifCond .ne 6, 3) := by decide +kernel
theorem dX5_puts_34 : decode cX5_puts 34 = .ok (.ldc 36, 2) := by decide +kernel
theorem dX5_puts_36 : decode cX5_puts 36 = .ok (.ireturn, 1) := by decide +kernel
theorem dX5_puts_37 : decode cX5_puts 37 = .ok (.aload_n 0, 1) := by decide +kernel
theorem dX5_puts_38 : decode cX5_puts 38 = .ok (.getfield 7, 3) := by decide +kernel
theorem dX5_puts_41 : decode cX5_puts 41 = .ok (.iconst 0, 1) := by decide +kernel
theorem dX5_puts_42 : decode cX5_puts 42 = .ok (.iaload, 1) := by decide +kernel
theorem dX5_puts_43 : decode cX5_puts 43 = .ok (.bipush 100, 2) := by decide +kernel
theorem dX5_puts_45 : decode cX5_puts 45 = .ok (.if_icmp .ne 6, 3) := by decide +kernel
theorem dX5_puts_48 : decode cX5_puts 48 = .ok (.ldc 35, 2) := by decide +kernel
theorem dX5_puts_50 : decode cX5_puts 50 = .ok (.ireturn, 1) := by decide +kernel
theorem dX5_puts_51 : decode cX5_puts 51 = .ok (.aload_n 0, 1) := by decide +kernel
theorem dX5_puts_52 : decode cX5_puts 52 = .ok (.getfield 7, 3) := by decide +kernel
theorem dX5_puts_55 : decode cX5_puts 55 = .ok (.iconst 0, 1) := by decide +kernel
theorem dX5_puts_56 : decode cX5_puts 56 = .ok (.iaload, 1) := by decide +kernel
theorem dX5_puts_57 : decode cX5_puts 57 = .ok (.iconst 0, 1) := by decide +kernel
theorem dX5_puts_58 : decode cX5_puts 58 = .ok (.invokestatic 45, 3) := by decide +kernel
theorem dX5_puts_61 : decode cX5_puts 61 = .ok (.iconst 1, 1) := by decide +kernel
theorem dX5_puts_62 : decode cX5_puts 62 = .ok (.isub, 1) := by decide +kernel
theorem dX5_puts_63 : decode cX5_puts 63 = .ok (.istore 4, 2) := by decide +kernel
theorem dX5_puts_65 : decode cX5_puts 65 = .ok (.iload 4, 2) := by decide +kernel
theorem dX5_puts_67 : decode cX5_puts 67 = .ok (.iload_n 1, 1) := by decide +kernel
theorem dX5_puts_68 : decode cX5_puts 68 = .ok (.iconst 0, 1) := by decide +kernel
theorem dX5_puts_69 : decode cX5_puts 69 = .ok (.invokestatic 45, 3) := by decide +kernel
theorem dX5_puts_72 : decode cX5_puts 72 = .ok (.if_icmp .lt 25, 3) := by decide +kernel
theorem dX5_puts_75 : decode cX5_puts 75 = .ok (.aload_n 0, 1) := by decide +kernel
theorem dX5_puts_76 : decode cX5_puts 76 = .ok (.getfield 7, 3) := by decide +kernel
theorem dX5_puts_79 : decode cX5_puts 79 = .ok (.iload 4, 2) := by decide +kernel
theorem dX5_puts_81 : decode cX5_puts 81 = .ok (.iconst 3, 1) := by decide +kernel
theorem dX5_puts_82 : decode cX5_puts 82 = .ok (.iadd, 1) := by decide +kernel
theorem dX5_puts_83 : decode cX5_puts 83 = .ok (.aload_n 0, 1) := by decide +kernel
theorem dX5_puts_84 : decode cX5_puts 84 = .ok (.getfield 7, 3) := by decide +kernel
theorem dX5_puts_87 : decode cX5_puts 87 = .ok (.iload 4, 2) := by decide +kernel
theorem dX5_puts_89 : decode cX5_puts 89 = .ok (.iaload, 1) := by decide +kernel
theorem dX5_puts_90 : decode cX5_puts 90 = .ok (.iastore, 1) := by decide +kernel
theorem dX5_puts_91 : decode cX5_puts 91 = .ok (.iinc 4 (-1), 3) := by decide +kernel
theorem dX5_puts_94 : decode cX5_puts 94 = .ok (.goto (-29), 3) := by decide +kernel
theorem dX5_puts_97 : decode cX5_puts 97 = .ok (.aload_n 0, 1) := by decide +kernel
theorem dX5_puts_98 : decode cX5_puts 98 = .ok (.getfield 7, 3) := by decide +kernel
theorem dX5_puts_101 : decode cX5_puts 101 = .ok (.iload_n 1, 1) := by decide +kernel
theorem dX5_puts_102 : decode cX5_puts 102 = .ok (.iconst 0, 1) := by decide +kernel
theorem dX5_puts_103 : decode cX5_puts 103 = .ok (.invokestatic 45, 3) := by decide +kernel
theorem dX5_puts_106 : decode cX5_puts 106 = .ok (.iload_n 2, 1) := by decide +kernel
theorem dX5_puts_107 : decode cX5_puts 107 = .ok (.iastore, 1) := by decide +kernel
theorem dX5_puts_108 : decode cX5_puts 108 = .ok (.aload_n 0, 1) := by decide +kernel
theorem dX5_puts_109 : decode cX5_puts 109 = .ok (.getfield 7, 3) := by decide +kernel
theorem dX5_puts_112 : decode cX5_puts 112 = .ok (.iload_n 1, 1) := by decide +kernel
theorem dX5_puts_113 : decode cX5_puts 113 = .ok (.iconst 1, 1) := by decide +kernel
theorem dX5_puts_114 : decode cX5_puts 114 = .ok (.invokestatic 45, 3) := by decide +kernel
theorem dX5_puts_117 : decode cX5_puts 117 = .ok (.iload_n 3, 1) := by decide +kernel
theorem dX5_puts_118 : decode cX5_puts 118 = .ok (.iastore, 1) := by decide +kernel
theorem dX5_puts_119 : decode cX5_puts 119 = .ok (.aload_n 0, 1) := by decide +kernel
theorem dX5_puts_120 : decode cX5_puts 120 = .ok (.getfield 7, 3) := by decide +kernel
theorem dX5_puts_123 : decode cX5_puts 123 = .ok (.iload_n 1, 1) := by decide +kernel
theorem dX5_puts_124 : decode cX5_puts 124 = .ok (.iconst 2, 1) := by decide +kernel
theorem dX5_puts_125 : decode cX5_puts 125 = .ok (.invokestatic 45, 3) := by decide +kernel
theorem dX5_puts_128 : decode cX5_puts 128 = .ok (.iconst 0, 1) := by decide +kernel
theorem dX5_puts_129 : decode cX5_puts 129 = .ok (.iastore, 1) := by decide +kernel
theorem dX5_puts_130 : decode cX5_puts 130 = .ok (.aload_n 0, 1) := by decide +kernel
theorem dX5_puts_131 : decode cX5_puts 131 = .ok (.getfield 7, 3) := by decide +kernel
theorem dX5_puts_134 : decode cX5_puts 134 = .ok (.iconst 0, 1) := by decide +kernel
theorem dX5_puts_135 : decode cX5_puts 135 = .ok (.iaload, 1) := by decide +kernel
theorem dX5_puts_136 : decode cX5_puts 136 = .ok (.ifCond .ne 20, 3) := by decide +kernel
theorem dX5_puts_139 : decode cX5_puts 139 = .ok (.aload_n 0, 1) := by decide +kernel
theorem dX5_puts_140 : decode cX5_puts 140 = .ok (.getfield 7, 3) := by decide +kernel
theorem dX5_puts_143 : decode cX5_puts 143 = .ok (.iconst 1, 1) := by decide +kernel
theorem dX5_puts_144 : decode cX5_puts 144 = .ok (.iconst 0, 1) := by decide +kernel
theorem dX5_puts_145 : decode cX5_puts 145 = .ok (.iastore, 1) := by decide +kernel
theorem dX5_puts_146 : decode cX5_puts 146 = .ok (.aload_n 0, 1) := by decide +kernel
theorem dX5_puts_147 : decode cX5_puts 147 = .ok (.getfield 7, 3) := by decide +kernel
theorem dX5_puts_150 : decode cX5_puts 150 = .ok (.iconst 2, 1) := by decide +kernel
theorem dX5_puts_151 : decode cX5_puts 151 = .ok (.iconst 0, 1) := by decide +kernel
theorem dX5_puts_152 : decode cX5_puts 152 = .ok (.iastore, 1) := by decide +kernel
theorem dX5_puts_153 : decode cX5_puts 153 = .ok (.goto 23, 3) := by decide +kernel
theorem dX5_puts_156 : decode cX5_puts 156 = .ok (.iload_n 1, 1) := by decide +kernel
theorem dX5_puts_157 : decode cX5_puts 157 = .ok (.aload_n 0, 1) := by decide +kernel
theorem dX5_puts_158 : decode cX5_puts 158 = .ok (.getfield 7, 3) := by decide +kernel
theorem dX5_puts_161 : decode cX5_puts 161 = .ok (.iconst 1, 1) := by decide +kernel
theorem dX5_puts_162 : decode cX5_puts 162 = .ok (.iaload, 1) := by decide +kernel
theorem dX5_puts_163 : decode cX5_puts 163 = .ok (.if_icmp .gt 13, 3) := by decide +kernel
theorem dX5_puts_166 : decode cX5_puts 166 = .ok (.aload_n 0, 1) := by decide +kernel
theorem dX5_puts_167 : decode cX5_puts 167 = .ok (.getfield 7, 3) := by decide +kernel
theorem dX5_puts_170 : decode cX5_puts 170 = .ok (.iconst 1, 1) := by decide +kernel
theorem dX5_puts_171 : decode cX5_puts 171 = .ok (.dup2, 1) := by decide +kernel
theorem dX5_puts_172 : decode cX5_puts 172 = .ok (.iaload, 1) := by decide +kernel
theorem dX5_puts_173 : decode cX5_puts 173 = .ok (.iconst 1, 1) := by decide +kernel
theorem dX5_puts_174 : decode cX5_puts 174 = .ok (.iadd, 1) := by decide +kernel
theorem dX5_puts_175 : decode cX5_puts 175 = .ok (.iastore, 1) := by decide +kernel
theorem dX5_puts_176 : decode cX5_puts 176 = .ok (.aload_n 0, 1) := by decide +kernel
theorem dX5_puts_177 : decode cX5_puts 177 = .ok (.getfield 7, 3) := by decide +kernel
theorem dX5_puts_180 : decode cX5_puts 180 = .ok (.iconst 0, 1) := by decide +kernel
theorem dX5_puts_181 : decode cX5_puts 181 = .ok (.dup2, 1) := by decide +kernel
theorem dX5_puts_182 : decode cX5_puts 182 = .ok (.iaload, 1) := by decide +kernel
theorem dX5_puts_183 : decode cX5_puts 183 = .ok (.iconst 1, 1) := by decide +kernel
theorem dX5_puts_184 : decode cX5_puts 184 = .ok (.iadd, 1) := by decide +kernel
theorem dX5_puts_185 : decode cX5_puts 185 = .ok (.iastore, 1) := by decide +kernel
theorem dX5_puts_186 : decode cX5_puts 186 = .ok (.aload_n 0, 1) := by decide +kernel
theorem dX5_puts_187 : decode cX5_puts 187 = .ok (.getfield 7, 3) := by decide +kernel
theorem dX5_puts_190 : decode cX5_puts 190 = .ok (.invokestatic 71, 3) := by decide +kernel
theorem dX5_puts_193 : decode cX5_puts 193 = .ok (.aload_n 0, 1) := by decide +kernel
theorem dX5_puts_194 : decode cX5_puts 194 = .ok (.aload_n 0, 1) := by decide +kernel
theorem dX5_puts_195 : decode cX5_puts 195 = .ok (.getfield 7, 3) := by decide +kernel
theorem dX5_puts_198 : decode cX5_puts 198 = .ok (.invokevirtual 74, 3) := by decide +kernel
theorem dX5_puts_201 : decode cX5_puts 201 = .ok (.ireturn, 1) := by decide +kernel
set_option maxRecDepth 20000 in
theorem ggX5_cuts_X5_isLine : GoodIn wsX5_cuts wsX5_isLine := goodIn_r _ [7, 2, 8, 9, 6, 10, 23, 24, 25, 26, 27, 28, 29, 30, 31, 32, 33, 34] (by decide +kernel) (by decide +kernel)
set_option maxRecDepth 20000 in
theorem gX5_cuts_X5_isLine : GoodIn wsX5_cuts (wsV RX5 77 RX5 yX5_isLine wsX5_isLine) := goodIn_app (goodIn_of _ (by decide +kernel)) ggX5_cuts_X5_isLine
set_option maxRecDepth 20000 in
theorem ggX5_cuts_X5_l : GoodIn wsX5_cuts wsX5_l := goodIn_r _ [13] (by decide +kernel) (by decide +kernel)
set_option maxRecDepth 20000 in
theorem gX5_cuts_X5_l : GoodIn wsX5_cuts (va_wsS RX5 45 yX5_l wsX5_l) := goodIn_app (goodIn_of _ (by decide +kernel)) ggX5_cuts_X5_l
set_option maxRecDepth 20000 in
theorem ggX5_cuts_X5_settles : GoodIn wsX5_cuts wsX5_settles := goodIn_r _ [16, 11, 12, 6, 13, 17, 18, 19, 20, 21, 22] (by decide +kernel) (by decide +kernel)
set_option maxRecDepth 20000 in
theorem gX5_cuts_X5_settles : GoodIn wsX5_cuts (va_wsS RX5 71 yX5_settles wsX5_settles) := goodIn_app (goodIn_of _ (by decide +kernel)) ggX5_cuts_X5_settles
theorem dX5_cuts_0 : decode cX5_cuts 0 = .ok (.aload_n 0, 1) := by decide +kernel
theorem dX5_cuts_1 : decode cX5_cuts 1 = .ok (.iload_n 1, 1) := by decide +kernel
theorem dX5_cuts_2 : decode cX5_cuts 2 = .ok (.invokevirtual 77, 3) := by decide +kernel
theorem dX5_cuts_5 : decode cX5_cuts 5 = .ok (.ifCond .ne 6, 3) := by decide +kernel
theorem dX5_cuts_8 : decode cX5_cuts 8 = .ok (.ldc 36, 2) := by decide +kernel
theorem dX5_cuts_10 : decode cX5_cuts 10 = .ok (.ireturn, 1) := by decide +kernel
theorem dX5_cuts_11 : decode cX5_cuts 11 = .ok (.aload_n 0, 1) := by decide +kernel
theorem dX5_cuts_12 : decode cX5_cuts 12 = .ok (.getfield 7, 3) := by decide +kernel
theorem dX5_cuts_15 : decode cX5_cuts 15 = .ok (.iconst 0, 1) := by decide +kernel
theorem dX5_cuts_16 : decode cX5_cuts 16 = .ok (.dup2, 1) := by decide +kernel
theorem dX5_cuts_17 : decode cX5_cuts 17 = .ok (.iaload, 1) := by decide +kernel
theorem dX5_cuts_18 : decode cX5_cuts 18 = .ok (.iconst 1, 1) := by decide +kernel
theorem dX5_cuts_19 : decode cX5_cuts 19 = .ok (.isub, 1) := by decide +kernel
theorem dX5_cuts_20 : decode cX5_cuts 20 = .ok (.iastore, 1) := by decide +kernel
theorem dX5_cuts_21 : decode cX5_cuts 21 = .ok (.iload_n 1, 1) := by decide +kernel
theorem dX5_cuts_22 : decode cX5_cuts 22 = .ok (.iconst 0, 1) := by decide +kernel
theorem dX5_cuts_23 : decode cX5_cuts 23 = .ok (.invokestatic 45, 3) := by decide +kernel
theorem dX5_cuts_26 : decode cX5_cuts 26 = .ok (.istore_n 2, 1) := by decide +kernel
theorem dX5_cuts_27 : decode cX5_cuts 27 = .ok (.iload_n 2, 1) := by decide +kernel
theorem dX5_cuts_28 : decode cX5_cuts 28 = .ok (.aload_n 0, 1) := by decide +kernel
theorem dX5_cuts_29 : decode cX5_cuts 29 = .ok (.getfield 7, 3) := by decide +kernel
theorem dX5_cuts_32 : decode cX5_cuts 32 = .ok (.iconst 0, 1) := by decide +kernel
theorem dX5_cuts_33 : decode cX5_cuts 33 = .ok (.iaload, 1) := by decide +kernel
theorem dX5_cuts_34 : decode cX5_cuts 34 = .ok (.iconst 0, 1) := by decide +kernel
theorem dX5_cuts_35 : decode cX5_cuts 35 = .ok (.invokestatic 45, 3) := by decide +kernel
theorem dX5_cuts_38 : decode cX5_cuts 38 = .ok (.if_icmp .ge 23, 3) := by decide +kernel
theorem dX5_cuts_41 : decode cX5_cuts 41 = .ok (.aload_n 0, 1) := by decide +kernel
theorem dX5_cuts_42 : decode cX5_cuts 42 = .ok (.getfield 7, 3) := by decide +kernel
theorem dX5_cuts_45 : decode cX5_cuts 45 = .ok (.iload_n 2, 1) := by decide +kernel
theorem dX5_cuts_46 : decode cX5_cuts 46 = .ok (.aload_n 0, 1) := by decide +kernel
theorem dX5_cuts_47 : decode cX5_cuts 47 = .ok (.getfield 7, 3) := by decide +kernel
theorem dX5_cuts_50 : decode cX5_cuts 50 = .ok (.iload_n 2, 1) := by decide +kernel
theorem dX5_cuts_51 : decode cX5_cuts 51 = .ok (.iconst 3, 1) := by decide +kernel
theorem dX5_cuts_52 : decode cX5_cuts 52 = .ok (.iadd, 1) := by decide +kernel
theorem dX5_cuts_53 : decode cX5_cuts 53 = .ok (.iaload, 1) := by decide +kernel
theorem dX5_cuts_54 : decode cX5_cuts 54 = .ok (.iastore, 1) := by decide +kernel
theorem dX5_cuts_55 : decode cX5_cuts 55 = .ok (.iinc 2 1, 3) := by decide +kernel
theorem dX5_cuts_58 : decode cX5_cuts 58 = .ok (.goto (-31), 3) := by decide +kernel
theorem dX5_cuts_61 : decode cX5_cuts 61 = .ok (.iload_n 1, 1) := by decide +kernel
theorem dX5_cuts_62 : decode cX5_cuts 62 = .ok (.aload_n 0, 1) := by decide +kernel
theorem dX5_cuts_63 : decode cX5_cuts 63 = .ok (.getfield 7, 3) := by decide +kernel
theorem dX5_cuts_66 : decode cX5_cuts 66 = .ok (.iconst 1, 1) := by decide +kernel
theorem dX5_cuts_67 : decode cX5_cuts 67 = .ok (.iaload, 1) := by decide +kernel
theorem dX5_cuts_68 : decode cX5_cuts 68 = .ok (.if_icmp .ne 41, 3) := by decide +kernel
theorem dX5_cuts_71 : decode cX5_cuts 71 = .ok (.aload_n 0, 1) := by decide +kernel
theorem dX5_cuts_72 : decode cX5_cuts 72 = .ok (.getfield 7, 3) := by decide +kernel
theorem dX5_cuts_75 : decode cX5_cuts 75 = .ok (.iconst 2, 1) := by decide +kernel
theorem dX5_cuts_76 : decode cX5_cuts 76 = .ok (.iconst 0, 1) := by decide +kernel
theorem dX5_cuts_77 : decode cX5_cuts 77 = .ok (.iastore, 1) := by decide +kernel
theorem dX5_cuts_78 : decode cX5_cuts 78 = .ok (.aload_n 0, 1) := by decide +kernel
theorem dX5_cuts_79 : decode cX5_cuts 79 = .ok (.getfield 7, 3) := by decide +kernel
theorem dX5_cuts_82 : decode cX5_cuts 82 = .ok (.iconst 1, 1) := by decide +kernel
theorem dX5_cuts_83 : decode cX5_cuts 83 = .ok (.dup2, 1) := by decide +kernel
theorem dX5_cuts_84 : decode cX5_cuts 84 = .ok (.iaload, 1) := by decide +kernel
theorem dX5_cuts_85 : decode cX5_cuts 85 = .ok (.iload_n 1, 1) := by decide +kernel
theorem dX5_cuts_86 : decode cX5_cuts 86 = .ok (.aload_n 0, 1) := by decide +kernel
theorem dX5_cuts_87 : decode cX5_cuts 87 = .ok (.getfield 7, 3) := by decide +kernel
theorem dX5_cuts_90 : decode cX5_cuts 90 = .ok (.iconst 0, 1) := by decide +kernel
theorem dX5_cuts_91 : decode cX5_cuts 91 = .ok (.iaload, 1) := by decide +kernel
theorem dX5_cuts_92 : decode cX5_cuts 92 = .ok (.if_icmp .ne 11, 3) := by decide +kernel
theorem dX5_cuts_95 : decode cX5_cuts 95 = .ok (.iload_n 1, 1) := by decide +kernel
theorem dX5_cuts_96 : decode cX5_cuts 96 = .ok (.ifCond .le 7, 3) := by decide +kernel
theorem dX5_cuts_99 : decode cX5_cuts 99 = .ok (.iconst 1, 1) := by decide +kernel
theorem dX5_cuts_100 : decode cX5_cuts 100 = .ok (.goto 4, 3) := by decide +kernel
theorem dX5_cuts_103 : decode cX5_cuts 103 = .ok (.iconst 0, 1) := by decide +kernel
theorem dX5_cuts_104 : decode cX5_cuts 104 = .ok (.isub, 1) := by decide +kernel
theorem dX5_cuts_105 : decode cX5_cuts 105 = .ok (.iastore, 1) := by decide +kernel
theorem dX5_cuts_106 : decode cX5_cuts 106 = .ok (.goto 23, 3) := by decide +kernel
theorem dX5_cuts_109 : decode cX5_cuts 109 = .ok (.iload_n 1, 1) := by decide +kernel
theorem dX5_cuts_110 : decode cX5_cuts 110 = .ok (.aload_n 0, 1) := by decide +kernel
theorem dX5_cuts_111 : decode cX5_cuts 111 = .ok (.getfield 7, 3) := by decide +kernel
theorem dX5_cuts_114 : decode cX5_cuts 114 = .ok (.iconst 1, 1) := by decide +kernel
theorem dX5_cuts_115 : decode cX5_cuts 115 = .ok (.iaload, 1) := by decide +kernel
theorem dX5_cuts_116 : decode cX5_cuts 116 = .ok (.if_icmp .ge 13, 3) := by decide +kernel
theorem dX5_cuts_119 : decode cX5_cuts 119 = .ok (.aload_n 0, 1) := by decide +kernel
theorem dX5_cuts_120 : decode cX5_cuts 120 = .ok (.getfield 7, 3) := by decide +kernel
theorem dX5_cuts_123 : decode cX5_cuts 123 = .ok (.iconst 1, 1) := by decide +kernel
theorem dX5_cuts_124 : decode cX5_cuts 124 = .ok (.dup2, 1) := by decide +kernel
theorem dX5_cuts_125 : decode cX5_cuts 125 = .ok (.iaload, 1) := by decide +kernel
theorem dX5_cuts_126 : decode cX5_cuts 126 = .ok (.iconst 1, 1) := by decide +kernel
theorem dX5_cuts_127 : decode cX5_cuts 127 = .ok (.isub, 1) := by decide +kernel
theorem dX5_cuts_128 : decode cX5_cuts 128 = .ok (.iastore, 1) := by decide +kernel
theorem dX5_cuts_129 : decode cX5_cuts 129 = .ok (.aload_n 0, 1) := by decide +kernel
theorem dX5_cuts_130 : decode cX5_cuts 130 = .ok (.getfield 7, 3) := by decide +kernel
theorem dX5_cuts_133 : decode cX5_cuts 133 = .ok (.invokestatic 71, 3) := by decide +kernel
theorem dX5_cuts_136 : decode cX5_cuts 136 = .ok (.aload_n 0, 1) := by decide +kernel
theorem dX5_cuts_137 : decode cX5_cuts 137 = .ok (.getfield 7, 3) := by decide +kernel
theorem dX5_cuts_140 : decode cX5_cuts 140 = .ok (.iconst 0, 1) := by decide +kernel
theorem dX5_cuts_141 : decode cX5_cuts 141 = .ok (.iaload, 1) := by decide +kernel
theorem dX5_cuts_142 : decode cX5_cuts 142 = .ok (.ireturn, 1) := by decide +kernel
set_option maxRecDepth 20000 in
theorem ggX5_scrolls_X5_goesUp : GoodIn wsX5_scrolls wsX5_goesUp := goodIn_r _ [4, 5, 6, 3, 7, 8, 9, 10] (by decide +kernel) (by decide +kernel)
set_option maxRecDepth 20000 in
theorem gX5_scrolls_X5_goesUp : GoodIn wsX5_scrolls (va_wsS RX5 68 yX5_goesUp wsX5_goesUp) := goodIn_app (goodIn_of _ (by decide +kernel)) ggX5_scrolls_X5_goesUp
set_option maxRecDepth 20000 in
theorem ggX5_scrolls_X5_settles : GoodIn wsX5_scrolls wsX5_settles := goodIn_r _ [13, 5, 6, 3, 7, 8, 9, 10, 1, 2, 4] (by decide +kernel) (by decide +kernel)
set_option maxRecDepth 20000 in
theorem gX5_scrolls_X5_settles : GoodIn wsX5_scrolls (va_wsS RX5 71 yX5_settles wsX5_settles) := goodIn_app (goodIn_of _ (by decide +kernel)) ggX5_scrolls_X5_settles
theorem dX5_scrolls_0 : decode cX5_scrolls 0 = .ok (.aload_n 0, 1) := by decide +kernel
theorem dX5_scrolls_1 : decode cX5_scrolls 1 = .ok (.iconst 2, 1) := by decide +kernel
theorem dX5_scrolls_2 : decode cX5_scrolls 2 = .ok (.dup2, 1) := by decide +kernel
theorem dX5_scrolls_3 : decode cX5_scrolls 3 = .ok (.iaload, 1) := by decide +kernel
theorem dX5_scrolls_4 : decode cX5_scrolls 4 = .ok (.iload_n 1, 1) := by decide +kernel
theorem dX5_scrolls_5 : decode cX5_scrolls 5 = .ok (.iadd, 1) := by decide +kernel
theorem dX5_scrolls_6 : decode cX5_scrolls 6 = .ok (.iastore, 1) := by decide +kernel
theorem dX5_scrolls_7 : decode cX5_scrolls 7 = .ok (.aload_n 0, 1) := by decide +kernel
theorem dX5_scrolls_8 : decode cX5_scrolls 8 = .ok (.invokestatic 68, 3) := by decide +kernel
theorem dX5_scrolls_11 : decode cX5_scrolls 11 = .ok (.aload_n 0, 1) := by decide +kernel
theorem dX5_scrolls_12 : decode cX5_scrolls 12 = .ok (.invokestatic 71, 3) := by decide +kernel
theorem dX5_scrolls_15 : decode cX5_scrolls 15 = .ok (.return_, 1) := by decide +kernel
set_option maxRecDepth 20000 in
theorem ggX5_scrolled_X5_in : GoodIn wsX5_scrolled wsX5_in := goodIn_r _ [7] (by decide +kernel) (by decide +kernel)
set_option maxRecDepth 20000 in
theorem gX5_scrolled_X5_in : GoodIn wsX5_scrolled (va_wsS RX5 37 yX5_in wsX5_in) := goodIn_app (goodIn_of _ (by decide +kernel)) ggX5_scrolled_X5_in
set_option maxRecDepth 20000 in
theorem ggX5_scrolled_X5_scrolls : GoodIn wsX5_scrolled wsX5_scrolls := goodIn_r _ [10, 11, 12, 6, 13, 14, 15, 16, 17, 18, 19, 20, 21, 22] (by decide +kernel) (by decide +kernel)
set_option maxRecDepth 20000 in
theorem gX5_scrolled_X5_scrolls : GoodIn wsX5_scrolled (va_wsS RX5 82 yX5_scrolls wsX5_scrolls) := goodIn_app (goodIn_of _ (by decide +kernel)) ggX5_scrolled_X5_scrolls
theorem dX5_scrolled_0 : decode cX5_scrolled 0 = .ok (.iload_n 1, 1) := by decide +kernel
theorem dX5_scrolled_1 : decode cX5_scrolled 1 = .ok (.sipush (-9999), 3) := by decide +kernel
theorem dX5_scrolled_4 : decode cX5_scrolled 4 = .ok (.sipush 9999, 3) := by decide +kernel
theorem dX5_scrolled_7 : decode cX5_scrolled 7 = .ok (.invokestatic 37, 3) := by decide +kernel
theorem dX5_scrolled_10 : decode cX5_scrolled 10 = .ok (.ifCond .ne 6, 3) := by decide +kernel
theorem dX5_scrolled_13 : decode cX5_scrolled 13 = .ok (.ldc 36, 2) := by decide +kernel
theorem dX5_scrolled_15 : decode cX5_scrolled 15 = .ok (.ireturn, 1) := by decide +kernel
theorem dX5_scrolled_16 : decode cX5_scrolled 16 = .ok (.aload_n 0, 1) := by decide +kernel
theorem dX5_scrolled_17 : decode cX5_scrolled 17 = .ok (.getfield 7, 3) := by decide +kernel
theorem dX5_scrolled_20 : decode cX5_scrolled 20 = .ok (.iconst 0, 1) := by decide +kernel
theorem dX5_scrolled_21 : decode cX5_scrolled 21 = .ok (.iaload, 1) := by decide +kernel
theorem dX5_scrolled_22 : decode cX5_scrolled 22 = .ok (.ifCond .ne 6, 3) := by decide +kernel
theorem dX5_scrolled_25 : decode cX5_scrolled 25 = .ok (.ldc 81, 2) := by decide +kernel
theorem dX5_scrolled_27 : decode cX5_scrolled 27 = .ok (.ireturn, 1) := by decide +kernel
theorem dX5_scrolled_28 : decode cX5_scrolled 28 = .ok (.aload_n 0, 1) := by decide +kernel
theorem dX5_scrolled_29 : decode cX5_scrolled 29 = .ok (.getfield 7, 3) := by decide +kernel
theorem dX5_scrolled_32 : decode cX5_scrolled 32 = .ok (.iload_n 1, 1) := by decide +kernel
theorem dX5_scrolled_33 : decode cX5_scrolled 33 = .ok (.invokestatic 82, 3) := by decide +kernel
theorem dX5_scrolled_36 : decode cX5_scrolled 36 = .ok (.aload_n 0, 1) := by decide +kernel
theorem dX5_scrolled_37 : decode cX5_scrolled 37 = .ok (.getfield 7, 3) := by decide +kernel
theorem dX5_scrolled_40 : decode cX5_scrolled 40 = .ok (.iconst 1, 1) := by decide +kernel
theorem dX5_scrolled_41 : decode cX5_scrolled 41 = .ok (.iaload, 1) := by decide +kernel
theorem dX5_scrolled_42 : decode cX5_scrolled 42 = .ok (.ireturn, 1) := by decide +kernel
set_option maxRecDepth 20000 in
theorem ggX5_jumps_X5_total : GoodIn wsX5_jumps wsX5_total := goodIn_r _ [5, 6, 7, 8, 4, 9, 10, 11, 12, 13, 14, 15, 16, 17, 18, 19, 20, 21, 22, 23, 24, 36, 37, 38, 39, 40, 41, 42, 43, 44, 45, 46, 47] (by decide +kernel) (by decide +kernel)
set_option maxRecDepth 20000 in
theorem gX5_jumps_X5_total : GoodIn wsX5_jumps (wsV RX5 74 RX5 yX5_total wsX5_total) := goodIn_app (goodIn_of _ (by decide +kernel)) ggX5_jumps_X5_total
set_option maxRecDepth 20000 in
theorem ggX5_jumps_X5_lineAt : GoodIn wsX5_jumps wsX5_lineAt := goodIn_r _ [28, 29, 10, 11, 12, 4, 13, 14, 15, 16, 17, 18, 19, 20, 21, 22, 23, 24, 36, 37, 38, 39, 40, 41, 42, 43, 44, 45, 46, 47] (by decide +kernel) (by decide +kernel)
set_option maxRecDepth 20000 in
theorem gX5_jumps_X5_lineAt : GoodIn wsX5_jumps (wsV RX5 86 RX5 yX5_lineAt wsX5_lineAt) := goodIn_app (goodIn_of _ (by decide +kernel)) ggX5_jumps_X5_lineAt
set_option maxRecDepth 20000 in
theorem ggX5_jumps_X5_topOf : GoodIn wsX5_jumps wsX5_topOf := goodIn_r _ [9, 10, 11, 12, 4, 13, 14, 15, 16, 17, 18, 19, 20, 21, 22, 23, 24, 36, 37, 38, 39, 40, 41, 42, 43, 44, 45, 46, 47] (by decide +kernel) (by decide +kernel)
set_option maxRecDepth 20000 in
theorem gX5_jumps_X5_topOf : GoodIn wsX5_jumps (wsV RX5 60 RX5 yX5_topOf wsX5_topOf) := goodIn_app (goodIn_of _ (by decide +kernel)) ggX5_jumps_X5_topOf
set_option maxRecDepth 20000 in
theorem ggX5_jumps_X5_settles : GoodIn wsX5_jumps wsX5_settles := goodIn_r _ [32, 15, 16, 4, 17, 18, 19, 20, 33, 34, 35] (by decide +kernel) (by decide +kernel)
set_option maxRecDepth 20000 in
theorem gX5_jumps_X5_settles : GoodIn wsX5_jumps (va_wsS RX5 71 yX5_settles wsX5_settles) := goodIn_app (goodIn_of _ (by decide +kernel)) ggX5_jumps_X5_settles
theorem dX5_jumps_0 : decode cX5_jumps 0 = .ok (.aload_n 0, 1) := by decide +kernel
theorem dX5_jumps_1 : decode cX5_jumps 1 = .ok (.aload_n 1, 1) := by decide +kernel
theorem dX5_jumps_2 : decode cX5_jumps 2 = .ok (.invokevirtual 74, 3) := by decide +kernel
theorem dX5_jumps_5 : decode cX5_jumps 5 = .ok (.aload_n 1, 1) := by decide +kernel
theorem dX5_jumps_6 : decode cX5_jumps 6 = .ok (.iconst 3, 1) := by decide +kernel
theorem dX5_jumps_7 : decode cX5_jumps 7 = .ok (.iaload, 1) := by decide +kernel
theorem dX5_jumps_8 : decode cX5_jumps 8 = .ok (.isub, 1) := by decide +kernel
theorem dX5_jumps_9 : decode cX5_jumps 9 = .ok (.istore_n 3, 1) := by decide +kernel
theorem dX5_jumps_10 : decode cX5_jumps 10 = .ok (.iload_n 3, 1) := by decide +kernel
theorem dX5_jumps_11 : decode cX5_jumps 11 = .ok (.ifCond .ge 7, 3) := by decide +kernel
theorem dX5_jumps_14 : decode cX5_jumps 14 = .ok (.iconst 0, 1) := by decide +kernel
theorem dX5_jumps_15 : decode cX5_jumps 15 = .ok (.goto 10, 3) := by decide +kernel
theorem dX5_jumps_18 : decode cX5_jumps 18 = .ok (.iload_n 3, 1) := by decide +kernel
theorem dX5_jumps_19 : decode cX5_jumps 19 = .ok (.iload_n 2, 1) := by decide +kernel
theorem dX5_jumps_20 : decode cX5_jumps 20 = .ok (.imul, 1) := by decide +kernel
theorem dX5_jumps_21 : decode cX5_jumps 21 = .ok (.sipush 1000, 3) := by decide +kernel
theorem dX5_jumps_24 : decode cX5_jumps 24 = .ok (.idiv, 1) := by decide +kernel
theorem dX5_jumps_25 : decode cX5_jumps 25 = .ok (.istore 4, 2) := by decide +kernel
theorem dX5_jumps_27 : decode cX5_jumps 27 = .ok (.aload_n 0, 1) := by decide +kernel
theorem dX5_jumps_28 : decode cX5_jumps 28 = .ok (.aload_n 1, 1) := by decide +kernel
theorem dX5_jumps_29 : decode cX5_jumps 29 = .ok (.iload 4, 2) := by decide +kernel
theorem dX5_jumps_31 : decode cX5_jumps 31 = .ok (.invokevirtual 86, 3) := by decide +kernel
theorem dX5_jumps_34 : decode cX5_jumps 34 = .ok (.istore 5, 2) := by decide +kernel
theorem dX5_jumps_36 : decode cX5_jumps 36 = .ok (.aload_n 1, 1) := by decide +kernel
theorem dX5_jumps_37 : decode cX5_jumps 37 = .ok (.iconst 2, 1) := by decide +kernel
theorem dX5_jumps_38 : decode cX5_jumps 38 = .ok (.iload 4, 2) := by decide +kernel
theorem dX5_jumps_40 : decode cX5_jumps 40 = .ok (.aload_n 0, 1) := by decide +kernel
theorem dX5_jumps_41 : decode cX5_jumps 41 = .ok (.aload_n 1, 1) := by decide +kernel
theorem dX5_jumps_42 : decode cX5_jumps 42 = .ok (.iload 5, 2) := by decide +kernel
theorem dX5_jumps_44 : decode cX5_jumps 44 = .ok (.invokevirtual 60, 3) := by decide +kernel
theorem dX5_jumps_47 : decode cX5_jumps 47 = .ok (.isub, 1) := by decide +kernel
theorem dX5_jumps_48 : decode cX5_jumps 48 = .ok (.iastore, 1) := by decide +kernel
theorem dX5_jumps_49 : decode cX5_jumps 49 = .ok (.aload_n 1, 1) := by decide +kernel
theorem dX5_jumps_50 : decode cX5_jumps 50 = .ok (.iconst 1, 1) := by decide +kernel
theorem dX5_jumps_51 : decode cX5_jumps 51 = .ok (.iload 5, 2) := by decide +kernel
theorem dX5_jumps_53 : decode cX5_jumps 53 = .ok (.iastore, 1) := by decide +kernel
theorem dX5_jumps_54 : decode cX5_jumps 54 = .ok (.aload_n 1, 1) := by decide +kernel
theorem dX5_jumps_55 : decode cX5_jumps 55 = .ok (.invokestatic 71, 3) := by decide +kernel
theorem dX5_jumps_58 : decode cX5_jumps 58 = .ok (.return_, 1) := by decide +kernel
set_option maxRecDepth 20000 in
theorem ggX5_jumped_X5_in : GoodIn wsX5_jumped wsX5_in := goodIn_r _ [7] (by decide +kernel) (by decide +kernel)
set_option maxRecDepth 20000 in
theorem gX5_jumped_X5_in : GoodIn wsX5_jumped (va_wsS RX5 37 yX5_in wsX5_in) := goodIn_app (goodIn_of _ (by decide +kernel)) ggX5_jumped_X5_in
set_option maxRecDepth 20000 in
theorem ggX5_jumped_X5_jumps : GoodIn wsX5_jumped wsX5_jumps := goodIn_r _ [11, 12, 13, 14, 6, 15, 16, 17, 18, 19, 20, 21, 22, 23, 24, 25, 26, 27, 28, 29, 30, 31, 32, 33, 34, 35, 36, 37, 38, 39, 40, 41, 42, 43, 44, 45, 46, 47, 48, 49, 50, 51, 52, 53, 54, 55, 56, 57] (by decide +kernel) (by decide +kernel)
set_option maxRecDepth 20000 in
theorem gX5_jumped_X5_jumps : GoodIn wsX5_jumped (wsV RX5 89 RX5 yX5_jumps wsX5_jumps) := goodIn_app (goodIn_of _ (by decide +kernel)) ggX5_jumped_X5_jumps
theorem dX5_jumped_0 : decode cX5_jumped 0 = .ok (.iload_n 1, 1) := by decide +kernel
theorem dX5_jumped_1 : decode cX5_jumped 1 = .ok (.iconst 0, 1) := by decide +kernel
theorem dX5_jumped_2 : decode cX5_jumped 2 = .ok (.sipush 1000, 3) := by decide +kernel
theorem dX5_jumped_5 : decode cX5_jumped 5 = .ok (.invokestatic 37, 3) := by decide +kernel
theorem dX5_jumped_8 : decode cX5_jumped 8 = .ok (.ifCond .ne 6, 3) := by decide +kernel
theorem dX5_jumped_11 : decode cX5_jumped 11 = .ok (.ldc 36, 2) := by decide +kernel
theorem dX5_jumped_13 : decode cX5_jumped 13 = .ok (.ireturn, 1) := by decide +kernel
theorem dX5_jumped_14 : decode cX5_jumped 14 = .ok (.aload_n 0, 1) := by decide +kernel
theorem dX5_jumped_15 : decode cX5_jumped 15 = .ok (.getfield 7, 3) := by decide +kernel
theorem dX5_jumped_18 : decode cX5_jumped 18 = .ok (.iconst 0, 1) := by decide +kernel
theorem dX5_jumped_19 : decode cX5_jumped 19 = .ok (.iaload, 1) := by decide +kernel
theorem dX5_jumped_20 : decode cX5_jumped 20 = .ok (.ifCond .ne 6, 3) := by decide +kernel
theorem dX5_jumped_23 : decode cX5_jumped 23 = .ok (.ldc 81, 2) := by decide +kernel
theorem dX5_jumped_25 : decode cX5_jumped 25 = .ok (.ireturn, 1) := by decide +kernel
theorem dX5_jumped_26 : decode cX5_jumped 26 = .ok (.aload_n 0, 1) := by decide +kernel
theorem dX5_jumped_27 : decode cX5_jumped 27 = .ok (.aload_n 0, 1) := by decide +kernel
theorem dX5_jumped_28 : decode cX5_jumped 28 = .ok (.getfield 7, 3) := by decide +kernel
theorem dX5_jumped_31 : decode cX5_jumped 31 = .ok (.iload_n 1, 1) := by decide +kernel
theorem dX5_jumped_32 : decode cX5_jumped 32 = .ok (.invokevirtual 89, 3) := by decide +kernel
theorem dX5_jumped_35 : decode cX5_jumped 35 = .ok (.aload_n 0, 1) := by decide +kernel
theorem dX5_jumped_36 : decode cX5_jumped 36 = .ok (.getfield 7, 3) := by decide +kernel
theorem dX5_jumped_39 : decode cX5_jumped 39 = .ok (.iconst 1, 1) := by decide +kernel
theorem dX5_jumped_40 : decode cX5_jumped 40 = .ok (.iaload, 1) := by decide +kernel
theorem dX5_jumped_41 : decode cX5_jumped 41 = .ok (.ireturn, 1) := by decide +kernel
set_option maxRecDepth 20000 in
theorem ggX5_gone_X5_isLine : GoodIn wsX5_gone wsX5_isLine := goodIn_r _ [7, 2, 8, 9, 6, 10, 23, 24, 25, 26, 27, 28, 29, 30, 31, 32, 33, 34] (by decide +kernel) (by decide +kernel)
set_option maxRecDepth 20000 in
theorem gX5_gone_X5_isLine : GoodIn wsX5_gone (wsV RX5 77 RX5 yX5_isLine wsX5_isLine) := goodIn_app (goodIn_of _ (by decide +kernel)) ggX5_gone_X5_isLine
set_option maxRecDepth 20000 in
theorem ggX5_gone_X5_settles : GoodIn wsX5_gone wsX5_settles := goodIn_r _ [13, 14, 15, 6, 16, 17, 18, 19, 20, 21, 22] (by decide +kernel) (by decide +kernel)
set_option maxRecDepth 20000 in
theorem gX5_gone_X5_settles : GoodIn wsX5_gone (va_wsS RX5 71 yX5_settles wsX5_settles) := goodIn_app (goodIn_of _ (by decide +kernel)) ggX5_gone_X5_settles
theorem dX5_gone_0 : decode cX5_gone 0 = .ok (.aload_n 0, 1) := by decide +kernel
theorem dX5_gone_1 : decode cX5_gone 1 = .ok (.iload_n 1, 1) := by decide +kernel
theorem dX5_gone_2 : decode cX5_gone 2 = .ok (.invokevirtual 77, 3) := by decide +kernel
theorem dX5_gone_5 : decode cX5_gone 5 = .ok (.ifCond .ne 6, 3) := by decide +kernel
theorem dX5_gone_8 : decode cX5_gone 8 = .ok (.ldc 36, 2) := by decide +kernel
theorem dX5_gone_10 : decode cX5_gone 10 = .ok (.ireturn, 1) := by decide +kernel
theorem dX5_gone_11 : decode cX5_gone 11 = .ok (.aload_n 0, 1) := by decide +kernel
theorem dX5_gone_12 : decode cX5_gone 12 = .ok (.getfield 7, 3) := by decide +kernel
theorem dX5_gone_15 : decode cX5_gone 15 = .ok (.iconst 1, 1) := by decide +kernel
theorem dX5_gone_16 : decode cX5_gone 16 = .ok (.iload_n 1, 1) := by decide +kernel
theorem dX5_gone_17 : decode cX5_gone 17 = .ok (.iastore, 1) := by decide +kernel
theorem dX5_gone_18 : decode cX5_gone 18 = .ok (.aload_n 0, 1) := by decide +kernel
theorem dX5_gone_19 : decode cX5_gone 19 = .ok (.getfield 7, 3) := by decide +kernel
theorem dX5_gone_22 : decode cX5_gone 22 = .ok (.iconst 2, 1) := by decide +kernel
theorem dX5_gone_23 : decode cX5_gone 23 = .ok (.iconst 0, 1) := by decide +kernel
theorem dX5_gone_24 : decode cX5_gone 24 = .ok (.iastore, 1) := by decide +kernel
theorem dX5_gone_25 : decode cX5_gone 25 = .ok (.aload_n 0, 1) := by decide +kernel
theorem dX5_gone_26 : decode cX5_gone 26 = .ok (.getfield 7, 3) := by decide +kernel
theorem dX5_gone_29 : decode cX5_gone 29 = .ok (.invokestatic 71, 3) := by decide +kernel
theorem dX5_gone_32 : decode cX5_gone 32 = .ok (.aload_n 0, 1) := by decide +kernel
theorem dX5_gone_33 : decode cX5_gone 33 = .ok (.getfield 7, 3) := by decide +kernel
theorem dX5_gone_36 : decode cX5_gone 36 = .ok (.iconst 1, 1) := by decide +kernel
theorem dX5_gone_37 : decode cX5_gone 37 = .ok (.iaload, 1) := by decide +kernel
theorem dX5_gone_38 : decode cX5_gone 38 = .ok (.ireturn, 1) := by decide +kernel
set_option maxRecDepth 20000 in
theorem ggX5_put_X5_keeps : GoodIn wsX5_put wsX5_keeps := goodIn_r _ [5, 6, 7, 8, 9, 4, 10, 55, 56, 57, 58, 59, 60, 61, 62, 63, 64, 65, 66] (by decide +kernel) (by decide +kernel)
set_option maxRecDepth 20000 in
theorem gX5_put_X5_keeps : GoodIn wsX5_put (wsV RX5 92 RX5 yX5_keeps wsX5_keeps) := goodIn_app (goodIn_of _ (by decide +kernel)) ggX5_put_X5_keeps
set_option maxRecDepth 20000 in
theorem ggX5_put_X5_puts : GoodIn wsX5_put wsX5_puts := goodIn_r _ [14, 6, 15, 16, 17, 18, 4, 19, 20, 21, 22, 23, 24, 25, 26, 27, 28, 29, 30, 31, 32, 33, 34, 35, 36, 37, 38, 39, 40, 41, 42, 43, 44, 45, 46, 47, 48, 55, 56, 57, 58, 59, 60, 61, 62, 63, 64, 65, 66] (by decide +kernel) (by decide +kernel)
set_option maxRecDepth 20000 in
theorem gX5_put_X5_puts : GoodIn wsX5_put (wsV RX5 95 RX5 yX5_puts wsX5_puts) := goodIn_app (goodIn_of _ (by decide +kernel)) ggX5_put_X5_puts
set_option maxRecDepth 20000 in
theorem ggX5_put_X5_acted : GoodIn wsX5_put wsX5_acted := goodIn_r _ [52, 16, 15, 53, 54, 7, 17, 18, 4, 19, 8, 9, 10, 55, 56, 57, 58, 59, 60, 61, 62, 63, 64, 65, 66] (by decide +kernel) (by decide +kernel)
set_option maxRecDepth 20000 in
theorem gX5_put_X5_acted : GoodIn wsX5_put (wsV RX5 99 RX5 yX5_acted wsX5_acted) := goodIn_app (goodIn_of _ (by decide +kernel)) ggX5_put_X5_acted
theorem dX5_put_0 : decode cX5_put 0 = .ok (.aload_n 0, 1) := by decide +kernel
theorem dX5_put_1 : decode cX5_put 1 = .ok (.invokevirtual 92, 3) := by decide +kernel
theorem dX5_put_4 : decode cX5_put 4 = .ok (.aload_n 0, 1) := by decide +kernel
theorem dX5_put_5 : decode cX5_put 5 = .ok (.aload_n 0, 1) := by decide +kernel
theorem dX5_put_6 : decode cX5_put 6 = .ok (.iload_n 1, 1) := by decide +kernel
theorem dX5_put_7 : decode cX5_put 7 = .ok (.iload_n 2, 1) := by decide +kernel
theorem dX5_put_8 : decode cX5_put 8 = .ok (.iload_n 3, 1) := by decide +kernel
theorem dX5_put_9 : decode cX5_put 9 = .ok (.invokevirtual 95, 3) := by decide +kernel
theorem dX5_put_12 : decode cX5_put 12 = .ok (.invokevirtual 99, 3) := by decide +kernel
theorem dX5_put_15 : decode cX5_put 15 = .ok (.ireturn, 1) := by decide +kernel
set_option maxRecDepth 20000 in
theorem ggX5_cut_X5_keeps : GoodIn wsX5_cut wsX5_keeps := goodIn_r _ [5, 6, 7, 8, 9, 4, 10, 42, 43, 44, 45, 46, 47, 48, 49, 50, 51, 52, 53] (by decide +kernel) (by decide +kernel)
set_option maxRecDepth 20000 in
theorem gX5_cut_X5_keeps : GoodIn wsX5_cut (wsV RX5 92 RX5 yX5_keeps wsX5_keeps) := goodIn_app (goodIn_of _ (by decide +kernel)) ggX5_cut_X5_keeps
set_option maxRecDepth 20000 in
theorem ggX5_cut_X5_cuts : GoodIn wsX5_cut wsX5_cuts := goodIn_r _ [14, 15, 6, 16, 17, 18, 4, 19, 20, 21, 22, 23, 24, 25, 26, 27, 28, 29, 30, 31, 32, 33, 34, 42, 43, 44, 45, 46, 47, 48, 49, 50, 51, 52, 53] (by decide +kernel) (by decide +kernel)
set_option maxRecDepth 20000 in
theorem gX5_cut_X5_cuts : GoodIn wsX5_cut (wsV RX5 103 RX5 yX5_cuts wsX5_cuts) := goodIn_app (goodIn_of _ (by decide +kernel)) ggX5_cut_X5_cuts
set_option maxRecDepth 20000 in
theorem ggX5_cut_X5_acted : GoodIn wsX5_cut wsX5_acted := goodIn_r _ [38, 39, 15, 40, 41, 7, 20, 21, 4, 22, 8, 9, 10, 42, 43, 44, 45, 46, 47, 48, 49, 50, 51, 52, 53] (by decide +kernel) (by decide +kernel)
