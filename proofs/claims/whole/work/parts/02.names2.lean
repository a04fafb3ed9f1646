theorem dX2_readToken_154 : decode cX2_readToken 154 = .ok (.dup, 1) := by decide +kernel
theorem dX2_readToken_155 : decode cX2_readToken 155 = .ok (.getfield 27, 3) := by decide +kernel
theorem dX2_readToken_158 : decode cX2_readToken 158 = .ok (.iconst 1, 1) := by decide +kernel
theorem dX2_readToken_159 : decode cX2_readToken 159 = .ok (.iadd, 1) := by decide +kernel
theorem dX2_readToken_160 : decode cX2_readToken 160 = .ok (.putfield 27, 3) := by decide +kernel
theorem dX2_readToken_163 : decode cX2_readToken 163 = .ok (.goto (-35), 3) := by decide +kernel
theorem dX2_readToken_166 : decode cX2_readToken 166 = .ok (.return_, 1) := by decide +kernel
set_option maxRecDepth 20000 in
theorem ggX2_commandOfToken_X2_wordOf : GoodIn wsX2_commandOfToken wsX2_wordOf := goodIn_r _ [4] (by decide +kernel) (by decide +kernel)
set_option maxRecDepth 20000 in
theorem gX2_commandOfToken_X2_wordOf : GoodIn wsX2_commandOfToken (va_wsS RX2 60 yX2_wordOf wsX2_wordOf) := goodIn_app (goodIn_of _ (by decide +kernel)) ggX2_commandOfToken_X2_wordOf
set_option maxRecDepth 20000 in
theorem ggX2_commandOfToken_X2_tokenIs : GoodIn wsX2_commandOfToken wsX2_tokenIs := goodIn_r _ [8, 9, 10, 11, 12, 13, 14, 15, 16, 17, 18, 19, 20, 21, 22, 23, 24, 25, 26, 27, 28, 29, 30, 31, 32, 33, 34, 35, 36, 37, 38, 39, 40, 41, 42, 43, 44, 45, 46, 47, 48, 49, 50, 51, 52, 53, 54, 55, 56, 57, 58, 59, 60, 61, 62, 3, 63, 64, 65, 66, 67, 68, 69, 70, 71] (by decide +kernel) (by decide +kernel)
set_option maxRecDepth 20000 in
theorem gX2_commandOfToken_X2_tokenIs : GoodIn wsX2_commandOfToken (wsV RX2 64 RX2 yX2_tokenIs wsX2_tokenIs) := goodIn_app (goodIn_of _ (by decide +kernel)) ggX2_commandOfToken_X2_tokenIs
theorem dX2_commandOfToken_0 : decode cX2_commandOfToken 0 = .ok (.iconst 0, 1) := by decide +kernel
theorem dX2_commandOfToken_1 : decode cX2_commandOfToken 1 = .ok (.istore_n 1, 1) := by decide +kernel
theorem dX2_commandOfToken_2 : decode cX2_commandOfToken 2 = .ok (.iload_n 1, 1) := by decide +kernel
theorem dX2_commandOfToken_3 : decode cX2_commandOfToken 3 = .ok (.bipush 6, 2) := by decide +kernel
theorem dX2_commandOfToken_5 : decode cX2_commandOfToken 5 = .ok (.if_icmp .ge 22, 3) := by decide +kernel
theorem dX2_commandOfToken_8 : decode cX2_commandOfToken 8 = .ok (.aload_n 0, 1) := by decide +kernel
theorem dX2_commandOfToken_9 : decode cX2_commandOfToken 9 = .ok (.iload_n 1, 1) := by decide +kernel
theorem dX2_commandOfToken_10 : decode cX2_commandOfToken 10 = .ok (.invokestatic 60, 3) := by decide +kernel
theorem dX2_commandOfToken_13 : decode cX2_commandOfToken 13 = .ok (.invokevirtual 64, 3) := by decide +kernel
theorem dX2_commandOfToken_16 : decode cX2_commandOfToken 16 = .ok (.ifCond .eq 5, 3) := by decide +kernel
theorem dX2_commandOfToken_19 : decode cX2_commandOfToken 19 = .ok (.iload_n 1, 1) := by decide +kernel
theorem dX2_commandOfToken_20 : decode cX2_commandOfToken 20 = .ok (.ireturn, 1) := by decide +kernel
theorem dX2_commandOfToken_21 : decode cX2_commandOfToken 21 = .ok (.iinc 1 1, 3) := by decide +kernel
theorem dX2_commandOfToken_24 : decode cX2_commandOfToken 24 = .ok (.goto (-22), 3) := by decide +kernel
theorem dX2_commandOfToken_27 : decode cX2_commandOfToken 27 = .ok (.bipush (-2), 2) := by decide +kernel
theorem dX2_commandOfToken_29 : decode cX2_commandOfToken 29 = .ok (.ireturn, 1) := by decide +kernel
set_option maxRecDepth 20000 in
theorem ggX2_tokenIs_J0_length_8abf5 : GoodIn wsX2_tokenIs wsJ0_length_8abf5 := goodIn_r _ [7, 8, 9, 10, 11, 6, 12, 13, 14] (by decide +kernel) (by decide +kernel)
set_option maxRecDepth 20000 in
theorem gX2_tokenIs_J0_length_8abf5 : GoodIn wsX2_tokenIs (wsV RX2 68 RJ0 yJ0_length_8abf5 wsJ0_length_8abf5) := goodIn_app (goodIn_of _ (by decide +kernel)) ggX2_tokenIs_J0_length_8abf5
set_option maxRecDepth 20000 in
theorem ggX2_tokenIs_J0_charAt_5068e : GoodIn wsX2_tokenIs wsJ0_charAt_5068e := goodIn_r _ [18, 8, 19, 20, 21, 6, 22, 13, 14, 23, 24, 25, 26, 27, 28, 29, 30, 31, 32, 33, 34, 35, 36, 37, 38, 39, 40, 41, 42, 43, 44, 45, 46, 47, 48, 49, 50, 51] (by decide +kernel) (by decide +kernel)
set_option maxRecDepth 20000 in
theorem gX2_tokenIs_J0_charAt_5068e : GoodIn wsX2_tokenIs (wsV RX2 72 RJ0 yJ0_charAt_5068e wsJ0_charAt_5068e) := goodIn_app (goodIn_of _ (by decide +kernel)) ggX2_tokenIs_J0_charAt_5068e
set_option maxRecDepth 20000 in
theorem ggX2_tokenIs_X2_signAt : GoodIn wsX2_tokenIs wsX2_signAt := goodIn_r _ [56, 57, 58, 59, 60, 61, 62, 63, 64] (by decide +kernel) (by decide +kernel)
set_option maxRecDepth 20000 in
theorem gX2_tokenIs_X2_signAt : GoodIn wsX2_tokenIs (wsV RX2 43 RX2 yX2_signAt wsX2_signAt) := goodIn_app (goodIn_of _ (by decide +kernel)) ggX2_tokenIs_X2_signAt
theorem dX2_tokenIs_0 : decode cX2_tokenIs 0 = .ok (.aload_n 1, 1) := by decide +kernel
theorem dX2_tokenIs_1 : decode cX2_tokenIs 1 = .ok (.invokevirtual 68, 3) := by decide +kernel
theorem dX2_tokenIs_4 : decode cX2_tokenIs 4 = .ok (.aload_n 0, 1) := by decide +kernel
theorem dX2_tokenIs_5 : decode cX2_tokenIs 5 = .ok (.getfield 27, 3) := by decide +kernel
theorem dX2_tokenIs_8 : decode cX2_tokenIs 8 = .ok (.aload_n 0, 1) := by decide +kernel
theorem dX2_tokenIs_9 : decode cX2_tokenIs 9 = .ok (.getfield 24, 3) := by decide +kernel
theorem dX2_tokenIs_12 : decode cX2_tokenIs 12 = .ok (.isub, 1) := by decide +kernel
theorem dX2_tokenIs_13 : decode cX2_tokenIs 13 = .ok (.if_icmp .eq 5, 3) := by decide +kernel
theorem dX2_tokenIs_16 : decode cX2_tokenIs 16 = .ok (.iconst 0, 1) := by decide +kernel
theorem dX2_tokenIs_17 : decode cX2_tokenIs 17 = .ok (.ireturn, 1) := by decide +kernel
theorem dX2_tokenIs_18 : decode cX2_tokenIs 18 = .ok (.iconst 0, 1) := by decide +kernel
theorem dX2_tokenIs_19 : decode cX2_tokenIs 19 = .ok (.istore_n 2, 1) := by decide +kernel
theorem dX2_tokenIs_20 : decode cX2_tokenIs 20 = .ok (.iload_n 2, 1) := by decide +kernel
theorem dX2_tokenIs_21 : decode cX2_tokenIs 21 = .ok (.aload_n 1, 1) := by decide +kernel
theorem dX2_tokenIs_22 : decode cX2_tokenIs 22 = .ok (.invokevirtual 68, 3) := by decide +kernel
theorem dX2_tokenIs_25 : decode cX2_tokenIs 25 = .ok (.if_icmp .ge 29, 3) := by decide +kernel
theorem dX2_tokenIs_28 : decode cX2_tokenIs 28 = .ok (.aload_n 1, 1) := by decide +kernel
theorem dX2_tokenIs_29 : decode cX2_tokenIs 29 = .ok (.iload_n 2, 1) := by decide +kernel
theorem dX2_tokenIs_30 : decode cX2_tokenIs 30 = .ok (.invokevirtual 72, 3) := by decide +kernel
theorem dX2_tokenIs_33 : decode cX2_tokenIs 33 = .ok (.aload_n 0, 1) := by decide +kernel
theorem dX2_tokenIs_34 : decode cX2_tokenIs 34 = .ok (.aload_n 0, 1) := by decide +kernel
theorem dX2_tokenIs_35 : decode cX2_tokenIs 35 = .ok (.getfield 24, 3) := by decide +kernel
theorem dX2_tokenIs_38 : decode cX2_tokenIs 38 = .ok (.iload_n 2, 1) := by decide +kernel
theorem dX2_tokenIs_39 : decode cX2_tokenIs 39 = .ok (.iadd, 1) := by decide +kernel
theorem dX2_tokenIs_40 : decode cX2_tokenIs 40 = .ok (.invokevirtual 43, 3) := by decide +kernel
theorem dX2_tokenIs_43 : decode cX2_tokenIs 43 = .ok (.if_icmp .eq 5, 3) := by decide +kernel
theorem dX2_tokenIs_46 : decode cX2_tokenIs 46 = .ok (.iconst 0, 1) := by decide +kernel
theorem dX2_tokenIs_47 : decode cX2_tokenIs 47 = .ok (.ireturn, 1) := by decide +kernel
theorem dX2_tokenIs_48 : decode cX2_tokenIs 48 = .ok (.iinc 2 1, 3) := by decide +kernel
theorem dX2_tokenIs_51 : decode cX2_tokenIs 51 = .ok (.goto (-31), 3) := by decide +kernel
theorem dX2_tokenIs_54 : decode cX2_tokenIs 54 = .ok (.iconst 1, 1) := by decide +kernel
theorem dX2_tokenIs_55 : decode cX2_tokenIs 55 = .ok (.ireturn, 1) := by decide +kernel
set_option maxRecDepth 20000 in
theorem ggX2_numberOfToken_X2_signAt : GoodIn wsX2_numberOfToken wsX2_signAt := goodIn_r _ [7, 8, 9, 13, 14, 15, 16, 17, 18] (by decide +kernel) (by decide +kernel)
set_option maxRecDepth 20000 in
theorem gX2_numberOfToken_X2_signAt : GoodIn wsX2_numberOfToken (wsV RX2 43 RX2 yX2_signAt wsX2_signAt) := goodIn_app (goodIn_of _ (by decide +kernel)) ggX2_numberOfToken_X2_signAt
set_option maxRecDepth 20000 in
theorem ggX2_numberOfToken_X2_isDigit : GoodIn wsX2_numberOfToken wsX2_isDigit := goodIn_r _ [12] (by decide +kernel) (by decide +kernel)
set_option maxRecDepth 20000 in
theorem gX2_numberOfToken_X2_isDigit : GoodIn wsX2_numberOfToken (va_wsS RX2 57 yX2_isDigit wsX2_isDigit) := goodIn_app (goodIn_of _ (by decide +kernel)) ggX2_numberOfToken_X2_isDigit
theorem dX2_numberOfToken_0 : decode cX2_numberOfToken 0 = .ok (.aload_n 0, 1) := by decide +kernel
theorem dX2_numberOfToken_1 : decode cX2_numberOfToken 1 = .ok (.getfield 27, 3) := by decide +kernel
theorem dX2_numberOfToken_4 : decode cX2_numberOfToken 4 = .ok (.aload_n 0, 1) := by decide +kernel
theorem dX2_numberOfToken_5 : decode cX2_numberOfToken 5 = .ok (.getfield 24, 3) := by decide +kernel
theorem dX2_numberOfToken_8 : decode cX2_numberOfToken 8 = .ok (.isub, 1) := by decide +kernel
theorem dX2_numberOfToken_9 : decode cX2_numberOfToken 9 = .ok (.istore_n 1, 1) := by decide +kernel
theorem dX2_numberOfToken_10 : decode cX2_numberOfToken 10 = .ok (.iload_n 1, 1) := by decide +kernel
theorem dX2_numberOfToken_11 : decode cX2_numberOfToken 11 = .ok (.iconst 1, 1) := by decide +kernel
theorem dX2_numberOfToken_12 : decode cX2_numberOfToken 12 = .ok (.if_icmp .lt 26, 3) := by decide +kernel
theorem dX2_numberOfToken_15 : decode cX2_numberOfToken 15 = .ok (.iload_n 1, 1) := by decide +kernel
theorem dX2_numberOfToken_16 : decode cX2_numberOfToken 16 = .ok (.iconst 4, 1) := by decide +kernel
theorem dX2_numberOfToken_17 : decode cX2_numberOfToken 17 = .ok (.if_icmp .gt 21, 3) := by decide +kernel
theorem dX2_numberOfToken_20 : decode cX2_numberOfToken 20 = .ok (.iload_n 1, 1) := by decide +kernel
theorem dX2_numberOfToken_21 : decode cX2_numberOfToken 21 = .ok (.iconst 1, 1) := by decide +kernel
theorem dX2_numberOfToken_22 : decode cX2_numberOfToken 22 = .ok (.if_icmp .le 18, 3) := by decide +kernel
theorem dX2_numberOfToken_25 : decode cX2_numberOfToken 25 = .ok (.aload_n 0, 1) := by decide +kernel
theorem dX2_numberOfToken_26 : decode cX2_numberOfToken 26 = .ok (.aload_n 0, 1) := by decide +kernel
theorem dX2_numberOfToken_27 : decode cX2_numberOfToken 27 = .ok (.getfield 24, 3) := by decide +kernel
theorem dX2_numberOfToken_30 : decode cX2_numberOfToken 30 = .ok (.invokevirtual 43, 3) := by decide +kernel
theorem dX2_numberOfToken_33 : decode cX2_numberOfToken 33 = .ok (.bipush 48, 2) := by decide +kernel
theorem dX2_numberOfToken_35 : decode cX2_numberOfToken 35 = .ok (.if_icmp .ne 5, 3) := by decide +kernel
theorem dX2_numberOfToken_38 : decode cX2_numberOfToken 38 = .ok (.iconst (-1), 1) := by decide +kernel
theorem dX2_numberOfToken_39 : decode cX2_numberOfToken 39 = .ok (.ireturn, 1) := by decide +kernel
theorem dX2_numberOfToken_40 : decode cX2_numberOfToken 40 = .ok (.iconst 0, 1) := by decide +kernel
theorem dX2_numberOfToken_41 : decode cX2_numberOfToken 41 = .ok (.istore_n 2, 1) := by decide +kernel
theorem dX2_numberOfToken_42 : decode cX2_numberOfToken 42 = .ok (.aload_n 0, 1) := by decide +kernel
theorem dX2_numberOfToken_43 : decode cX2_numberOfToken 43 = .ok (.getfield 24, 3) := by decide +kernel
theorem dX2_numberOfToken_46 : decode cX2_numberOfToken 46 = .ok (.istore_n 3, 1) := by decide +kernel
theorem dX2_numberOfToken_47 : decode cX2_numberOfToken 47 = .ok (.iload_n 3, 1) := by decide +kernel
theorem dX2_numberOfToken_48 : decode cX2_numberOfToken 48 = .ok (.aload_n 0, 1) := by decide +kernel
theorem dX2_numberOfToken_49 : decode cX2_numberOfToken 49 = .ok (.getfield 27, 3) := by decide +kernel
theorem dX2_numberOfToken_52 : decode cX2_numberOfToken 52 = .ok (.if_icmp .ge 36, 3) := by decide +kernel
theorem dX2_numberOfToken_55 : decode cX2_numberOfToken 55 = .ok (.aload_n 0, 1) := by decide +kernel
theorem dX2_numberOfToken_56 : decode cX2_numberOfToken 56 = .ok (.iload_n 3, 1) := by decide +kernel
theorem dX2_numberOfToken_57 : decode cX2_numberOfToken 57 = .ok (.invokevirtual 43, 3) := by decide +kernel
theorem dX2_numberOfToken_60 : decode cX2_numberOfToken 60 = .ok (.invokestatic 57, 3) := by decide +kernel
theorem dX2_numberOfToken_63 : decode cX2_numberOfToken 63 = .ok (.ifCond .ne 5, 3) := by decide +kernel
theorem dX2_numberOfToken_66 : decode cX2_numberOfToken 66 = .ok (.iconst (-1), 1) := by decide +kernel
theorem dX2_numberOfToken_67 : decode cX2_numberOfToken 67 = .ok (.ireturn, 1) := by decide +kernel
theorem dX2_numberOfToken_68 : decode cX2_numberOfToken 68 = .ok (.bipush 10, 2) := by decide +kernel
theorem dX2_numberOfToken_70 : decode cX2_numberOfToken 70 = .ok (.iload_n 2, 1) := by decide +kernel
theorem dX2_numberOfToken_71 : decode cX2_numberOfToken 71 = .ok (.imul, 1) := by decide +kernel
theorem dX2_numberOfToken_72 : decode cX2_numberOfToken 72 = .ok (.aload_n 0, 1) := by decide +kernel
theorem dX2_numberOfToken_73 : decode cX2_numberOfToken 73 = .ok (.iload_n 3, 1) := by decide +kernel
theorem dX2_numberOfToken_74 : decode cX2_numberOfToken 74 = .ok (.invokevirtual 43, 3) := by decide +kernel
theorem dX2_numberOfToken_77 : decode cX2_numberOfToken 77 = .ok (.iadd, 1) := by decide +kernel
theorem dX2_numberOfToken_78 : decode cX2_numberOfToken 78 = .ok (.bipush 48, 2) := by decide +kernel
theorem dX2_numberOfToken_80 : decode cX2_numberOfToken 80 = .ok (.isub, 1) := by decide +kernel
theorem dX2_numberOfToken_81 : decode cX2_numberOfToken 81 = .ok (.istore_n 2, 1) := by decide +kernel
theorem dX2_numberOfToken_82 : decode cX2_numberOfToken 82 = .ok (.iinc 3 1, 3) := by decide +kernel
theorem dX2_numberOfToken_85 : decode cX2_numberOfToken 85 = .ok (.goto (-38), 3) := by decide +kernel
theorem dX2_numberOfToken_88 : decode cX2_numberOfToken 88 = .ok (.iload_n 2, 1) := by decide +kernel
theorem dX2_numberOfToken_89 : decode cX2_numberOfToken 89 = .ok (.ireturn, 1) := by decide +kernel
theorem dX2_signAt_0 : decode cX2_signAt 0 = .ok (.iload_n 1, 1) := by decide +kernel
theorem dX2_signAt_1 : decode cX2_signAt 1 = .ok (.ifCond .lt 26, 3) := by decide +kernel
theorem dX2_signAt_4 : decode cX2_signAt 4 = .ok (.iload_n 1, 1) := by decide +kernel
theorem dX2_signAt_5 : decode cX2_signAt 5 = .ok (.aload_n 0, 1) := by decide +kernel
theorem dX2_signAt_6 : decode cX2_signAt 6 = .ok (.getfield 19, 3) := by decide +kernel
theorem dX2_signAt_9 : decode cX2_signAt 9 = .ok (.if_icmp .ge 18, 3) := by decide +kernel
theorem dX2_signAt_12 : decode cX2_signAt 12 = .ok (.iload_n 1, 1) := by decide +kernel
theorem dX2_signAt_13 : decode cX2_signAt 13 = .ok (.bipush 100, 2) := by decide +kernel
theorem dX2_signAt_15 : decode cX2_signAt 15 = .ok (.if_icmp .ge 12, 3) := by decide +kernel
theorem dX2_signAt_18 : decode cX2_signAt 18 = .ok (.aload_n 0, 1) := by decide +kernel
theorem dX2_signAt_19 : decode cX2_signAt 19 = .ok (.getfield 9, 3) := by decide +kernel
theorem dX2_signAt_22 : decode cX2_signAt 22 = .ok (.iload_n 1, 1) := by decide +kernel
theorem dX2_signAt_23 : decode cX2_signAt 23 = .ok (.caload, 1) := by decide +kernel
theorem dX2_signAt_24 : decode cX2_signAt 24 = .ok (.goto 4, 3) := by decide +kernel
theorem dX2_signAt_27 : decode cX2_signAt 27 = .ok (.iconst 0, 1) := by decide +kernel
theorem dX2_signAt_28 : decode cX2_signAt 28 = .ok (.ireturn, 1) := by decide +kernel
theorem dX2_isLetter_0 : decode cX2_isLetter 0 = .ok (.iload_n 0, 1) := by decide +kernel
theorem dX2_isLetter_1 : decode cX2_isLetter 1 = .ok (.bipush 97, 2) := by decide +kernel
theorem dX2_isLetter_3 : decode cX2_isLetter 3 = .ok (.if_icmp .lt 13, 3) := by decide +kernel
theorem dX2_isLetter_6 : decode cX2_isLetter 6 = .ok (.iload_n 0, 1) := by decide +kernel
theorem dX2_isLetter_7 : decode cX2_isLetter 7 = .ok (.bipush 122, 2) := by decide +kernel
theorem dX2_isLetter_9 : decode cX2_isLetter 9 = .ok (.if_icmp .gt 7, 3) := by decide +kernel
theorem dX2_isLetter_12 : decode cX2_isLetter 12 = .ok (.iconst 1, 1) := by decide +kernel
theorem dX2_isLetter_13 : decode cX2_isLetter 13 = .ok (.goto 4, 3) := by decide +kernel
theorem dX2_isLetter_16 : decode cX2_isLetter 16 = .ok (.iconst 0, 1) := by decide +kernel
theorem dX2_isLetter_17 : decode cX2_isLetter 17 = .ok (.ireturn, 1) := by decide +kernel
theorem dX2_isDigit_0 : decode cX2_isDigit 0 = .ok (.iload_n 0, 1) := by decide +kernel
theorem dX2_isDigit_1 : decode cX2_isDigit 1 = .ok (.bipush 48, 2) := by decide +kernel
theorem dX2_isDigit_3 : decode cX2_isDigit 3 = .ok (.if_icmp .lt 13, 3) := by decide +kernel
theorem dX2_isDigit_6 : decode cX2_isDigit 6 = .ok (.iload_n 0, 1) := by decide +kernel
theorem dX2_isDigit_7 : decode cX2_isDigit 7 = .ok (.bipush 57, 2) := by decide +kernel
theorem dX2_isDigit_9 : decode cX2_isDigit 9 = .ok (.if_icmp .gt 7, 3) := by decide +kernel
theorem dX2_isDigit_12 : decode cX2_isDigit 12 = .ok (.iconst 1, 1) := by decide +kernel
theorem dX2_isDigit_13 : decode cX2_isDigit 13 = .ok (.goto 4, 3) := by decide +kernel
theorem dX2_isDigit_16 : decode cX2_isDigit 16 = .ok (.iconst 0, 1) := by decide +kernel
theorem dX2_isDigit_17 : decode cX2_isDigit 17 = .ok (.ireturn, 1) := by decide +kernel
theorem dX2_wordOf_0 : decode cX2_wordOf 0 = .ok (.iload_n 0, 1) := by decide +kernel
theorem dX2_wordOf_1 : decode cX2_wordOf 1 = .ok (.tableswitch 50 0 4 #[35, 38, 41, 44, 47], 35) := by decide +kernel
theorem dX2_wordOf_36 : decode cX2_wordOf 36 = .ok (.ldc 75, 2) := by decide +kernel
theorem dX2_wordOf_38 : decode cX2_wordOf 38 = .ok (.areturn, 1) := by decide +kernel
theorem dX2_wordOf_39 : decode cX2_wordOf 39 = .ok (.ldc 77, 2) := by decide +kernel
theorem dX2_wordOf_41 : decode cX2_wordOf 41 = .ok (.areturn, 1) := by decide +kernel
theorem dX2_wordOf_42 : decode cX2_wordOf 42 = .ok (.ldc 79, 2) := by decide +kernel
theorem dX2_wordOf_44 : decode cX2_wordOf 44 = .ok (.areturn, 1) := by decide +kernel
theorem dX2_wordOf_45 : decode cX2_wordOf 45 = .ok (.ldc 81, 2) := by decide +kernel
theorem dX2_wordOf_47 : decode cX2_wordOf 47 = .ok (.areturn, 1) := by decide +kernel
theorem dX2_wordOf_48 : decode cX2_wordOf 48 = .ok (.ldc 83, 2) := by decide +kernel
theorem dX2_wordOf_50 : decode cX2_wordOf 50 = .ok (.areturn, 1) := by decide +kernel
theorem dX2_wordOf_51 : decode cX2_wordOf 51 = .ok (.ldc 85, 2) := by decide +kernel
theorem dX2_wordOf_53 : decode cX2_wordOf 53 = .ok (.areturn, 1) := by decide +kernel
set_option maxRecDepth 20000 in
theorem ggX3_init_X1_init : GoodIn wsX3_init wsX1_init := goodIn_r _ [11, 12, 2, 3, 13, 14, 15, 16, 17, 18, 19, 20, 21, 22, 23, 24, 25, 26, 27] (by decide +kernel) (by decide +kernel)
set_option maxRecDepth 20000 in
theorem gX3_init_X1_init : GoodIn wsX3_init (wsX1_init) := ggX3_init_X1_init
theorem dX3_init_0 : decode cX3_init 0 = .ok (.aload_n 0, 1) := by decide +kernel
theorem dX3_init_1 : decode cX3_init 1 = .ok (.invokespecial 3, 3) := by decide +kernel
theorem dX3_init_4 : decode cX3_init 4 = .ok (.aload_n 0, 1) := by decide +kernel
theorem dX3_init_5 : decode cX3_init 5 = .ok (.new 9, 3) := by decide +kernel
theorem dX3_init_8 : decode cX3_init 8 = .ok (.dup, 1) := by decide +kernel
theorem dX3_init_9 : decode cX3_init 9 = .ok (.invokespecial 11, 3) := by decide +kernel
theorem dX3_init_12 : decode cX3_init 12 = .ok (.putfield 12, 3) := by decide +kernel
theorem dX3_init_15 : decode cX3_init 15 = .ok (.aload_n 0, 1) := by decide +kernel
theorem dX3_init_16 : decode cX3_init 16 = .ok (.bipush 100, 2) := by decide +kernel
theorem dX3_init_18 : decode cX3_init 18 = .ok (.putfield 18, 3) := by decide +kernel
theorem dX3_init_21 : decode cX3_init 21 = .ok (.return_, 1) := by decide +kernel
set_option maxRecDepth 20000 in
theorem ggX3_copyFrom_X1_copyFrom : GoodIn wsX3_copyFrom wsX1_copyFrom := goodIn_r _ [9, 10, 11, 12, 13, 14, 15, 16, 17, 18, 19, 20, 25, 26, 27, 28, 29, 30, 31] (by decide +kernel) (by decide +kernel)
set_option maxRecDepth 20000 in
theorem gX3_copyFrom_X1_copyFrom : GoodIn wsX3_copyFrom (wsV RX3 22 RX1 yX1_copyFrom wsX1_copyFrom) := goodIn_app (goodIn_of _ (by decide +kernel)) ggX3_copyFrom_X1_copyFrom
theorem dX3_copyFrom_0 : decode cX3_copyFrom 0 = .ok (.aload_n 1, 1) := by decide +kernel
theorem dX3_copyFrom_1 : decode cX3_copyFrom 1 = .ok (.ifnonnull 4, 3) := by decide +kernel
theorem dX3_copyFrom_4 : decode cX3_copyFrom 4 = .ok (.return_, 1) := by decide +kernel
theorem dX3_copyFrom_5 : decode cX3_copyFrom 5 = .ok (.aload_n 0, 1) := by decide +kernel
theorem dX3_copyFrom_6 : decode cX3_copyFrom 6 = .ok (.getfield 12, 3) := by decide +kernel
theorem dX3_copyFrom_9 : decode cX3_copyFrom 9 = .ok (.aload_n 1, 1) := by decide +kernel
theorem dX3_copyFrom_10 : decode cX3_copyFrom 10 = .ok (.getfield 12, 3) := by decide +kernel
theorem dX3_copyFrom_13 : decode cX3_copyFrom 13 = .ok (.invokevirtual 22, 3) := by decide +kernel
theorem dX3_copyFrom_16 : decode cX3_copyFrom 16 = .ok (.aload_n 0, 1) := by decide +kernel
theorem dX3_copyFrom_17 : decode cX3_copyFrom 17 = .ok (.aload_n 1, 1) := by decide +kernel
theorem dX3_copyFrom_18 : decode cX3_copyFrom 18 = .ok (.getfield 18, 3) := by decide +kernel
theorem dX3_copyFrom_21 : decode cX3_copyFrom 21 = .ok (.putfield 18, 3) := by decide +kernel
theorem dX3_copyFrom_24 : decode cX3_copyFrom 24 = .ok (.aload_n 0, 1) := by decide +kernel
theorem dX3_copyFrom_25 : decode cX3_copyFrom 25 = .ok (.aload_n 1, 1) := by decide +kernel
theorem dX3_copyFrom_26 : decode cX3_copyFrom 26 = .ok (.getfield 26, 3) := by decide +kernel
theorem dX3_copyFrom_29 : decode cX3_copyFrom 29 = .ok (.putfield 26, 3) := by decide +kernel
theorem dX3_copyFrom_32 : decode cX3_copyFrom 32 = .ok (.aload_n 0, 1) := by decide +kernel
theorem dX3_copyFrom_33 : decode cX3_copyFrom 33 = .ok (.aload_n 1, 1) := by decide +kernel
theorem dX3_copyFrom_34 : decode cX3_copyFrom 34 = .ok (.getfield 29, 3) := by decide +kernel
theorem dX3_copyFrom_37 : decode cX3_copyFrom 37 = .ok (.putfield 29, 3) := by decide +kernel
theorem dX3_copyFrom_40 : decode cX3_copyFrom 40 = .ok (.return_, 1) := by decide +kernel
set_option maxRecDepth 20000 in
theorem ggX3_putIn_X4_isOutside : GoodIn wsX3_putIn wsX4_isOutside := goodIn_r _ [8] (by decide +kernel) (by decide +kernel)
set_option maxRecDepth 20000 in
theorem gX3_putIn_X4_isOutside_n35 : GoodIn wsX3_putIn (wsX4_isOutside) := ggX3_putIn_X4_isOutside
set_option maxRecDepth 20000 in
theorem ggX3_putIn_X1_isKind : GoodIn wsX3_putIn wsX1_isKind := goodIn_r _ [13] (by decide +kernel) (by decide +kernel)
set_option maxRecDepth 20000 in
theorem gX3_putIn_X1_isKind : GoodIn wsX3_putIn (wsV RX3 39 RX1 yX1_isKind wsX1_isKind) := goodIn_app (goodIn_of _ (by decide +kernel)) ggX3_putIn_X1_isKind
set_option maxRecDepth 20000 in
theorem ggX3_putIn_X1_insert : GoodIn wsX3_putIn wsX1_insert := goodIn_r _ [17, 18, 19, 20, 21, 22, 23, 24, 25, 82, 83, 84, 85, 86, 87, 88] (by decide +kernel) (by decide +kernel)
set_option maxRecDepth 20000 in
theorem gX3_putIn_X1_insert : GoodIn wsX3_putIn (wsV RX3 45 RX1 yX1_insert wsX1_insert) := goodIn_app (goodIn_of _ (by decide +kernel)) ggX3_putIn_X1_insert
set_option maxRecDepth 20000 in
theorem ggX3_putIn_X3_settle : GoodIn wsX3_putIn wsX3_settle := goodIn_r _ [30, 1, 2, 31, 32, 5, 33, 34, 35, 29, 36, 37, 38, 39, 12, 40, 25, 19, 41, 24, 42, 43, 44, 45, 46, 18, 47, 10, 11, 13, 48, 49, 50, 51, 52, 53, 54, 55, 56, 57, 58, 59, 60, 61, 62, 63, 64, 65, 66, 67, 68, 78, 79, 80, 81, 82, 83, 84, 85, 86, 87, 88] (by decide +kernel) (by decide +kernel)
set_option maxRecDepth 20000 in
theorem gX3_putIn_X3_settle : GoodIn wsX3_putIn (wsV RX3 49 RX3 yX3_settle wsX3_settle) := goodIn_app (goodIn_of _ (by decide +kernel)) ggX3_putIn_X3_settle
set_option maxRecDepth 20000 in
theorem ggX3_putIn_X1_total : GoodIn wsX3_putIn wsX1_total := goodIn_r _ [72, 18, 73, 74, 75, 12, 76, 77, 54, 55, 56, 25, 19, 24, 43, 44, 45, 46, 48, 49, 50, 51, 52, 57, 58, 59, 60, 42, 41, 82, 83, 84, 85, 86, 87, 88] (by decide +kernel) (by decide +kernel)
set_option maxRecDepth 20000 in
theorem gX3_putIn_X1_total : GoodIn wsX3_putIn (wsV RX3 52 RX1 yX1_total wsX1_total) := goodIn_app (goodIn_of _ (by decide +kernel)) ggX3_putIn_X1_total
theorem dX3_putIn_0 : decode cX3_putIn 0 = .ok (.iload_n 1, 1) := by decide +kernel
theorem dX3_putIn_1 : decode cX3_putIn 1 = .ok (.iconst 0, 1) := by decide +kernel
theorem dX3_putIn_2 : decode cX3_putIn 2 = .ok (.aload_n 0, 1) := by decide +kernel
theorem dX3_putIn_3 : decode cX3_putIn 3 = .ok (.getfield 12, 3) := by decide +kernel
theorem dX3_putIn_6 : decode cX3_putIn 6 = .ok (.getfield 32, 3) := by decide +kernel
theorem dX3_putIn_9 : decode cX3_putIn 9 = .ok (.invokestatic 35, 3) := by decide +kernel
theorem dX3_putIn_12 : decode cX3_putIn 12 = .ok (.ifCond .ne 25, 3) := by decide +kernel
theorem dX3_putIn_15 : decode cX3_putIn 15 = .ok (.aload_n 0, 1) := by decide +kernel
theorem dX3_putIn_16 : decode cX3_putIn 16 = .ok (.getfield 12, 3) := by decide +kernel
theorem dX3_putIn_19 : decode cX3_putIn 19 = .ok (.iload_n 2, 1) := by decide +kernel
theorem dX3_putIn_20 : decode cX3_putIn 20 = .ok (.invokevirtual 39, 3) := by decide +kernel
theorem dX3_putIn_23 : decode cX3_putIn 23 = .ok (.ifCond .eq 14, 3) := by decide +kernel
theorem dX3_putIn_26 : decode cX3_putIn 26 = .ok (.iload_n 3, 1) := by decide +kernel
theorem dX3_putIn_27 : decode cX3_putIn 27 = .ok (.iconst 0, 1) := by decide +kernel
theorem dX3_putIn_28 : decode cX3_putIn 28 = .ok (.sipush 400, 3) := by decide +kernel
theorem dX3_putIn_31 : decode cX3_putIn 31 = .ok (.invokestatic 35, 3) := by decide +kernel
theorem dX3_putIn_34 : decode cX3_putIn 34 = .ok (.ifCond .eq 6, 3) := by decide +kernel
theorem dX3_putIn_37 : decode cX3_putIn 37 = .ok (.ldc 43, 2) := by decide +kernel
theorem dX3_putIn_39 : decode cX3_putIn 39 = .ok (.ireturn, 1) := by decide +kernel
theorem dX3_putIn_40 : decode cX3_putIn 40 = .ok (.aload_n 0, 1) := by decide +kernel
theorem dX3_putIn_41 : decode cX3_putIn 41 = .ok (.getfield 12, 3) := by decide +kernel
theorem dX3_putIn_44 : decode cX3_putIn 44 = .ok (.getfield 32, 3) := by decide +kernel
theorem dX3_putIn_47 : decode cX3_putIn 47 = .ok (.bipush 100, 2) := by decide +kernel
theorem dX3_putIn_49 : decode cX3_putIn 49 = .ok (.if_icmp .lt 6, 3) := by decide +kernel
theorem dX3_putIn_52 : decode cX3_putIn 52 = .ok (.ldc 44, 2) := by decide +kernel
theorem dX3_putIn_54 : decode cX3_putIn 54 = .ok (.ireturn, 1) := by decide +kernel
theorem dX3_putIn_55 : decode cX3_putIn 55 = .ok (.aload_n 0, 1) := by decide +kernel
theorem dX3_putIn_56 : decode cX3_putIn 56 = .ok (.getfield 12, 3) := by decide +kernel
theorem dX3_putIn_59 : decode cX3_putIn 59 = .ok (.getfield 32, 3) := by decide +kernel
theorem dX3_putIn_62 : decode cX3_putIn 62 = .ok (.ifCond .le 21, 3) := by decide +kernel
theorem dX3_putIn_65 : decode cX3_putIn 65 = .ok (.iload_n 1, 1) := by decide +kernel
theorem dX3_putIn_66 : decode cX3_putIn 66 = .ok (.aload_n 0, 1) := by decide +kernel
theorem dX3_putIn_67 : decode cX3_putIn 67 = .ok (.getfield 26, 3) := by decide +kernel
theorem dX3_putIn_70 : decode cX3_putIn 70 = .ok (.if_icmp .gt 13, 3) := by decide +kernel
theorem dX3_putIn_73 : decode cX3_putIn 73 = .ok (.aload_n 0, 1) := by decide +kernel
theorem dX3_putIn_74 : decode cX3_putIn 74 = .ok (.dup, 1) := by decide +kernel
theorem dX3_putIn_75 : decode cX3_putIn 75 = .ok (.getfield 26, 3) := by decide +kernel
theorem dX3_putIn_78 : decode cX3_putIn 78 = .ok (.iconst 1, 1) := by decide +kernel
theorem dX3_putIn_79 : decode cX3_putIn 79 = .ok (.iadd, 1) := by decide +kernel
theorem dX3_putIn_80 : decode cX3_putIn 80 = .ok (.putfield 26, 3) := by decide +kernel
theorem dX3_putIn_83 : decode cX3_putIn 83 = .ok (.aload_n 0, 1) := by decide +kernel
theorem dX3_putIn_84 : decode cX3_putIn 84 = .ok (.getfield 12, 3) := by decide +kernel
theorem dX3_putIn_87 : decode cX3_putIn 87 = .ok (.iload_n 1, 1) := by decide +kernel
theorem dX3_putIn_88 : decode cX3_putIn 88 = .ok (.iload_n 2, 1) := by decide +kernel
theorem dX3_putIn_89 : decode cX3_putIn 89 = .ok (.iload_n 3, 1) := by decide +kernel
theorem dX3_putIn_90 : decode cX3_putIn 90 = .ok (.invokevirtual 45, 3) := by decide +kernel
theorem dX3_putIn_93 : decode cX3_putIn 93 = .ok (.aload_n 0, 1) := by decide +kernel
theorem dX3_putIn_94 : decode cX3_putIn 94 = .ok (.invokevirtual 49, 3) := by decide +kernel
theorem dX3_putIn_97 : decode cX3_putIn 97 = .ok (.aload_n 0, 1) := by decide +kernel
theorem dX3_putIn_98 : decode cX3_putIn 98 = .ok (.getfield 12, 3) := by decide +kernel
theorem dX3_putIn_101 : decode cX3_putIn 101 = .ok (.invokevirtual 52, 3) := by decide +kernel
theorem dX3_putIn_104 : decode cX3_putIn 104 = .ok (.ireturn, 1) := by decide +kernel
set_option maxRecDepth 20000 in
theorem ggX3_takeOut_X1_isLine : GoodIn wsX3_takeOut wsX1_isLine := goodIn_r _ [10, 11, 73, 74, 75, 76, 77, 78, 79] (by decide +kernel) (by decide +kernel)
set_option maxRecDepth 20000 in
theorem gX3_takeOut_X1_isLine : GoodIn wsX3_takeOut (wsV RX3 56 RX1 yX1_isLine wsX1_isLine) := goodIn_app (goodIn_of _ (by decide +kernel)) ggX3_takeOut_X1_isLine
set_option maxRecDepth 20000 in
theorem ggX3_takeOut_X1_remove : GoodIn wsX3_takeOut wsX1_remove := goodIn_r _ [15, 11, 16, 17, 18, 19, 20, 21, 22, 23, 7, 8, 9, 10, 24, 25, 26, 27, 28, 29, 30, 31, 32, 33, 34, 35, 36, 37, 38, 73, 74, 75, 76, 77, 78, 79] (by decide +kernel) (by decide +kernel)
set_option maxRecDepth 20000 in
theorem gX3_takeOut_X1_remove : GoodIn wsX3_takeOut (wsV RX3 59 RX1 yX1_remove wsX1_remove) := goodIn_app (goodIn_of _ (by decide +kernel)) ggX3_takeOut_X1_remove
set_option maxRecDepth 20000 in
theorem ggX3_takeOut_X3_settle : GoodIn wsX3_takeOut wsX3_settle := goodIn_r _ [43, 1, 3, 5, 44, 4, 45, 46, 47, 42, 48, 49, 50, 51, 9, 52, 22, 16, 28, 21, 29, 23, 7, 8, 10, 11, 30, 31, 32, 33, 34, 35, 36, 37, 38, 53, 54, 55, 56, 57, 58, 59, 60, 61, 62, 63, 64, 65, 66, 67, 68, 69, 70, 71, 72, 73, 74, 75, 76, 77, 78, 79] (by decide +kernel) (by decide +kernel)
set_option maxRecDepth 20000 in
theorem gX3_takeOut_X3_settle : GoodIn wsX3_takeOut (wsV RX3 49 RX3 yX3_settle wsX3_settle) := goodIn_app (goodIn_of _ (by decide +kernel)) ggX3_takeOut_X3_settle
theorem dX3_takeOut_0 : decode cX3_takeOut 0 = .ok (.aload_n 0, 1) := by decide +kernel
theorem dX3_takeOut_1 : decode cX3_takeOut 1 = .ok (.getfield 12, 3) := by decide +kernel
theorem dX3_takeOut_4 : decode cX3_takeOut 4 = .ok (.iload_n 1, 1) := by decide +kernel
theorem dX3_takeOut_5 : decode cX3_takeOut 5 = .ok (.invokevirtual 56, 3) := by decide +kernel
theorem dX3_takeOut_8 : decode cX3_takeOut 8 = .ok (.ifCond .ne 6, 3) := by decide +kernel
theorem dX3_takeOut_11 : decode cX3_takeOut 11 = .ok (.ldc 43, 2) := by decide +kernel
theorem dX3_takeOut_13 : decode cX3_takeOut 13 = .ok (.ireturn, 1) := by decide +kernel
theorem dX3_takeOut_14 : decode cX3_takeOut 14 = .ok (.iload_n 1, 1) := by decide +kernel
theorem dX3_takeOut_15 : decode cX3_takeOut 15 = .ok (.aload_n 0, 1) := by decide +kernel
theorem dX3_takeOut_16 : decode cX3_takeOut 16 = .ok (.getfield 12, 3) := by decide +kernel
theorem dX3_takeOut_19 : decode cX3_takeOut 19 = .ok (.getfield 32, 3) := by decide +kernel
theorem dX3_takeOut_22 : decode cX3_takeOut 22 = .ok (.iconst 1, 1) := by decide +kernel
theorem dX3_takeOut_23 : decode cX3_takeOut 23 = .ok (.isub, 1) := by decide +kernel
theorem dX3_takeOut_24 : decode cX3_takeOut 24 = .ok (.if_icmp .ne 7, 3) := by decide +kernel
theorem dX3_takeOut_27 : decode cX3_takeOut 27 = .ok (.iconst 1, 1) := by decide +kernel
theorem dX3_takeOut_28 : decode cX3_takeOut 28 = .ok (.goto 4, 3) := by decide +kernel
theorem dX3_takeOut_31 : decode cX3_takeOut 31 = .ok (.iconst 0, 1) := by decide +kernel
theorem dX3_takeOut_32 : decode cX3_takeOut 32 = .ok (.istore_n 2, 1) := by decide +kernel
theorem dX3_takeOut_33 : decode cX3_takeOut 33 = .ok (.aload_n 0, 1) := by decide +kernel
theorem dX3_takeOut_34 : decode cX3_takeOut 34 = .ok (.getfield 12, 3) := by decide +kernel
theorem dX3_takeOut_37 : decode cX3_takeOut 37 = .ok (.iload_n 1, 1) := by decide +kernel
theorem dX3_takeOut_38 : decode cX3_takeOut 38 = .ok (.invokevirtual 59, 3) := by decide +kernel
theorem dX3_takeOut_41 : decode cX3_takeOut 41 = .ok (.iload_n 1, 1) := by decide +kernel
theorem dX3_takeOut_42 : decode cX3_takeOut 42 = .ok (.aload_n 0, 1) := by decide +kernel
theorem dX3_takeOut_43 : decode cX3_takeOut 43 = .ok (.getfield 26, 3) := by decide +kernel
theorem dX3_takeOut_46 : decode cX3_takeOut 46 = .ok (.if_icmp .ne 8, 3) := by decide +kernel
theorem dX3_takeOut_49 : decode cX3_takeOut 49 = .ok (.aload_n 0, 1) := by decide +kernel
theorem dX3_takeOut_50 : decode cX3_takeOut 50 = .ok (.iconst 0, 1) := by decide +kernel
theorem dX3_takeOut_51 : decode cX3_takeOut 51 = .ok (.putfield 29, 3) := by decide +kernel
theorem dX3_takeOut_54 : decode cX3_takeOut 54 = .ok (.iload_n 1, 1) := by decide +kernel
theorem dX3_takeOut_55 : decode cX3_takeOut 55 = .ok (.aload_n 0, 1) := by decide +kernel
theorem dX3_takeOut_56 : decode cX3_takeOut 56 = .ok (.getfield 26, 3) := by decide +kernel
theorem dX3_takeOut_59 : decode cX3_takeOut 59 = .ok (.if_icmp .lt 22, 3) := by decide +kernel
theorem dX3_takeOut_62 : decode cX3_takeOut 62 = .ok (.iload_n 1, 1) := by decide +kernel
theorem dX3_takeOut_63 : decode cX3_takeOut 63 = .ok (.aload_n 0, 1) := by decide +kernel
theorem dX3_takeOut_64 : decode cX3_takeOut 64 = .ok (.getfield 26, 3) := by decide +kernel
theorem dX3_takeOut_67 : decode cX3_takeOut 67 = .ok (.if_icmp .ne 24, 3) := by decide +kernel
theorem dX3_takeOut_70 : decode cX3_takeOut 70 = .ok (.iload_n 2, 1) := by decide +kernel
theorem dX3_takeOut_71 : decode cX3_takeOut 71 = .ok (.ifCond .eq 20, 3) := by decide +kernel
theorem dX3_takeOut_74 : decode cX3_takeOut 74 = .ok (.aload_n 0, 1) := by decide +kernel
theorem dX3_takeOut_75 : decode cX3_takeOut 75 = .ok (.getfield 26, 3) := by decide +kernel
theorem dX3_takeOut_78 : decode cX3_takeOut 78 = .ok (.ifCond .le 13, 3) := by decide +kernel
theorem dX3_takeOut_81 : decode cX3_takeOut 81 = .ok (.aload_n 0, 1) := by decide +kernel
theorem dX3_takeOut_82 : decode cX3_takeOut 82 = .ok (.dup, 1) := by decide +kernel
theorem dX3_takeOut_83 : decode cX3_takeOut 83 = .ok (.getfield 26, 3) := by decide +kernel
theorem dX3_takeOut_86 : decode cX3_takeOut 86 = .ok (.iconst 1, 1) := by decide +kernel
theorem dX3_takeOut_87 : decode cX3_takeOut 87 = .ok (.isub, 1) := by decide +kernel
theorem dX3_takeOut_88 : decode cX3_takeOut 88 = .ok (.putfield 26, 3) := by decide +kernel
theorem dX3_takeOut_91 : decode cX3_takeOut 91 = .ok (.aload_n 0, 1) := by decide +kernel
theorem dX3_takeOut_92 : decode cX3_takeOut 92 = .ok (.invokevirtual 49, 3) := by decide +kernel
theorem dX3_takeOut_95 : decode cX3_takeOut 95 = .ok (.aload_n 0, 1) := by decide +kernel
theorem dX3_takeOut_96 : decode cX3_takeOut 96 = .ok (.getfield 12, 3) := by decide +kernel
theorem dX3_takeOut_99 : decode cX3_takeOut 99 = .ok (.getfield 32, 3) := by decide +kernel
theorem dX3_takeOut_102 : decode cX3_takeOut 102 = .ok (.ireturn, 1) := by decide +kernel
set_option maxRecDepth 20000 in
theorem ggX3_changeLength_X1_isLine : GoodIn wsX3_changeLength wsX1_isLine := goodIn_r _ [8, 9, 73, 74, 75, 76, 77, 78, 79] (by decide +kernel) (by decide +kernel)
set_option maxRecDepth 20000 in
theorem gX3_changeLength_X1_isLine : GoodIn wsX3_changeLength (wsV RX3 56 RX1 yX1_isLine wsX1_isLine) := goodIn_app (goodIn_of _ (by decide +kernel)) ggX3_changeLength_X1_isLine
set_option maxRecDepth 20000 in
theorem ggX3_changeLength_X4_isOutside : GoodIn wsX3_changeLength wsX4_isOutside := goodIn_r _ [12] (by decide +kernel) (by decide +kernel)
set_option maxRecDepth 20000 in
theorem gX3_changeLength_X4_isOutside_n35 : GoodIn wsX3_changeLength (wsX4_isOutside) := ggX3_changeLength_X4_isOutside
set_option maxRecDepth 20000 in
theorem ggX3_changeLength_X1_setLength : GoodIn wsX3_changeLength wsX1_setLength := goodIn_r _ [16, 17, 18, 5, 6, 7, 8, 9, 19, 20, 21, 22, 23, 24, 25, 26, 27, 28, 29, 30, 31, 32, 33, 34, 35, 73, 74, 75, 76, 77, 78, 79] (by decide +kernel) (by decide +kernel)
set_option maxRecDepth 20000 in
theorem gX3_changeLength_X1_setLength : GoodIn wsX3_changeLength (wsV RX3 67 RX1 yX1_setLength wsX1_setLength) := goodIn_app (goodIn_of _ (by decide +kernel)) ggX3_changeLength_X1_setLength
set_option maxRecDepth 20000 in
theorem ggX3_changeLength_X3_settle : GoodIn wsX3_changeLength wsX3_settle := goodIn_r _ [40, 1, 41, 42, 43, 44, 45, 46, 47, 39, 48, 49, 50, 51, 7, 52, 23, 24, 25, 17, 26, 18, 5, 6, 8, 9, 27, 28, 29, 30, 31, 32, 33, 34, 35, 53, 54, 55, 56, 57, 58, 59, 60, 61, 62, 63, 64, 65, 66, 67, 68, 69, 70, 71, 72, 73, 74, 75, 76, 77, 78, 79] (by decide +kernel) (by decide +kernel)
set_option maxRecDepth 20000 in
theorem gX3_changeLength_X3_settle : GoodIn wsX3_changeLength (wsV RX3 49 RX3 yX3_settle wsX3_settle) := goodIn_app (goodIn_of _ (by decide +kernel)) ggX3_changeLength_X3_settle
theorem dX3_changeLength_0 : decode cX3_changeLength 0 = .ok (.aload_n 0, 1) := by decide +kernel
theorem dX3_changeLength_1 : decode cX3_changeLength 1 = .ok (.getfield 12, 3) := by decide +kernel
theorem dX3_changeLength_4 : decode cX3_changeLength 4 = .ok (.iload_n 1, 1) := by decide +kernel
theorem dX3_changeLength_5 : decode cX3_changeLength 5 = .ok (.invokevirtual 56, 3) := by decide +kernel
theorem dX3_changeLength_8 : decode cX3_changeLength 8 = .ok (.ifCond .eq 14, 3) := by decide +kernel
theorem dX3_changeLength_11 : decode cX3_changeLength 11 = .ok (.iload_n 2, 1) := by decide +kernel
theorem dX3_changeLength_12 : decode cX3_changeLength 12 = .ok (.iconst 0, 1) := by decide +kernel
theorem dX3_changeLength_13 : decode cX3_changeLength 13 = .ok (.sipush 400, 3) := by decide +kernel
theorem dX3_changeLength_16 : decode cX3_changeLength 16 = .ok (.invokestatic 35, 3) := by decide +kernel
theorem dX3_changeLength_19 : decode cX3_changeLength 19 = .ok (.ifCond .eq 6, 3) := by decide +kernel
theorem dX3_changeLength_22 : decode cX3_changeLength 22 = .ok (.ldc 43, 2) := by decide +kernel
theorem dX3_changeLength_24 : decode cX3_changeLength 24 = .ok (.ireturn, 1) := by decide +kernel
theorem dX3_changeLength_25 : decode cX3_changeLength 25 = .ok (.aload_n 0, 1) := by decide +kernel
theorem dX3_changeLength_26 : decode cX3_changeLength 26 = .ok (.getfield 12, 3) := by decide +kernel
theorem dX3_changeLength_29 : decode cX3_changeLength 29 = .ok (.getfield 63, 3) := by decide +kernel
theorem dX3_changeLength_32 : decode cX3_changeLength 32 = .ok (.iload_n 1, 1) := by decide +kernel
theorem dX3_changeLength_33 : decode cX3_changeLength 33 = .ok (.iaload, 1) := by decide +kernel
theorem dX3_changeLength_34 : decode cX3_changeLength 34 = .ok (.istore_n 3, 1) := by decide +kernel
theorem dX3_changeLength_35 : decode cX3_changeLength 35 = .ok (.aload_n 0, 1) := by decide +kernel
theorem dX3_changeLength_36 : decode cX3_changeLength 36 = .ok (.getfield 12, 3) := by decide +kernel
theorem dX3_changeLength_39 : decode cX3_changeLength 39 = .ok (.iload_n 1, 1) := by decide +kernel
theorem dX3_changeLength_40 : decode cX3_changeLength 40 = .ok (.iload_n 2, 1) := by decide +kernel
theorem dX3_changeLength_41 : decode cX3_changeLength 41 = .ok (.invokevirtual 67, 3) := by decide +kernel
theorem dX3_changeLength_44 : decode cX3_changeLength 44 = .ok (.aload_n 0, 1) := by decide +kernel
theorem dX3_changeLength_45 : decode cX3_changeLength 45 = .ok (.invokevirtual 49, 3) := by decide +kernel
theorem dX3_changeLength_48 : decode cX3_changeLength 48 = .ok (.iload_n 3, 1) := by decide +kernel
theorem dX3_changeLength_49 : decode cX3_changeLength 49 = .ok (.ireturn, 1) := by decide +kernel
set_option maxRecDepth 20000 in
theorem ggX3_changeHeight_X4_isOutside : GoodIn wsX3_changeHeight wsX4_isOutside := goodIn_r _ [5] (by decide +kernel) (by decide +kernel)
set_option maxRecDepth 20000 in
theorem gX3_changeHeight_X4_isOutside_n35 : GoodIn wsX3_changeHeight (wsX4_isOutside) := ggX3_changeHeight_X4_isOutside
set_option maxRecDepth 20000 in
theorem ggX3_changeHeight_X3_settle : GoodIn wsX3_changeHeight wsX3_settle := goodIn_r _ [10, 11, 12, 13, 2, 14, 15, 16, 17, 9, 18, 19, 20, 21, 22, 23, 24, 25, 26, 27, 28, 29, 30, 31, 32, 33, 34, 35, 36, 37, 38, 39, 40, 41, 42, 43, 44, 45, 46, 47, 48, 49, 50, 51, 52, 53, 54, 55, 56, 57, 58, 59, 60, 61, 62, 63, 64, 65, 66, 67, 68, 69] (by decide +kernel) (by decide +kernel)
set_option maxRecDepth 20000 in
theorem gX3_changeHeight_X3_settle : GoodIn wsX3_changeHeight (wsV RX3 49 RX3 yX3_settle wsX3_settle) := goodIn_app (goodIn_of _ (by decide +kernel)) ggX3_changeHeight_X3_settle
theorem dX3_changeHeight_0 : decode cX3_changeHeight 0 = .ok (.iload_n 1, 1) := by decide +kernel
theorem dX3_changeHeight_1 : decode cX3_changeHeight 1 = .ok (.bipush 20, 2) := by decide +kernel
theorem dX3_changeHeight_3 : decode cX3_changeHeight 3 = .ok (.sipush 600, 3) := by decide +kernel
theorem dX3_changeHeight_6 : decode cX3_changeHeight 6 = .ok (.invokestatic 35, 3) := by decide +kernel
theorem dX3_changeHeight_9 : decode cX3_changeHeight 9 = .ok (.ifCond .eq 6, 3) := by decide +kernel
theorem dX3_changeHeight_12 : decode cX3_changeHeight 12 = .ok (.ldc 43, 2) := by decide +kernel
theorem dX3_changeHeight_14 : decode cX3_changeHeight 14 = .ok (.ireturn, 1) := by decide +kernel
theorem dX3_changeHeight_15 : decode cX3_changeHeight 15 = .ok (.aload_n 0, 1) := by decide +kernel
theorem dX3_changeHeight_16 : decode cX3_changeHeight 16 = .ok (.getfield 18, 3) := by decide +kernel
theorem dX3_changeHeight_19 : decode cX3_changeHeight 19 = .ok (.istore_n 2, 1) := by decide +kernel
theorem dX3_changeHeight_20 : decode cX3_changeHeight 20 = .ok (.aload_n 0, 1) := by decide +kernel
theorem dX3_changeHeight_21 : decode cX3_changeHeight 21 = .ok (.iload_n 1, 1) := by decide +kernel
theorem dX3_changeHeight_22 : decode cX3_changeHeight 22 = .ok (.putfield 18, 3) := by decide +kernel
theorem dX3_changeHeight_25 : decode cX3_changeHeight 25 = .ok (.aload_n 0, 1) := by decide +kernel
theorem dX3_changeHeight_26 : decode cX3_changeHeight 26 = .ok (.invokevirtual 49, 3) := by decide +kernel
theorem dX3_changeHeight_29 : decode cX3_changeHeight 29 = .ok (.iload_n 2, 1) := by decide +kernel
theorem dX3_changeHeight_30 : decode cX3_changeHeight 30 = .ok (.ireturn, 1) := by decide +kernel
set_option maxRecDepth 20000 in
theorem ggX3_changeWidth_X4_isOutside : GoodIn wsX3_changeWidth wsX4_isOutside := goodIn_r _ [6] (by decide +kernel) (by decide +kernel)
set_option maxRecDepth 20000 in
theorem gX3_changeWidth_X4_isOutside_n35 : GoodIn wsX3_changeWidth (wsX4_isOutside) := ggX3_changeWidth_X4_isOutside
set_option maxRecDepth 20000 in
theorem ggX3_changeWidth_X1_forgetAllFor : GoodIn wsX3_changeWidth wsX1_forgetAllFor := goodIn_r _ [11, 12, 13, 14, 15, 16, 10, 17, 18, 19, 20, 21, 22, 23, 24, 25, 26, 27, 28, 29, 30, 31, 32, 33, 34, 72, 73, 74, 75, 76, 77, 78] (by decide +kernel) (by decide +kernel)
set_option maxRecDepth 20000 in
theorem gX3_changeWidth_X1_forgetAllFor : GoodIn wsX3_changeWidth (wsV RX3 74 RX1 yX1_forgetAllFor wsX1_forgetAllFor) := goodIn_app (goodIn_of _ (by decide +kernel)) ggX3_changeWidth_X1_forgetAllFor
set_option maxRecDepth 20000 in
theorem ggX3_changeWidth_X3_settle : GoodIn wsX3_changeWidth wsX3_settle := goodIn_r _ [39, 2, 40, 41, 42, 43, 44, 45, 46, 38, 47, 48, 49, 50, 10, 51, 18, 19, 20, 21, 22, 23, 24, 25, 26, 12, 27, 28, 29, 30, 31, 32, 33, 34, 13, 52, 53, 54, 55, 56, 57, 58, 59, 60, 61, 62, 63, 64, 65, 66, 67, 68, 69, 70, 71, 72, 73, 74, 75, 76, 77, 78] (by decide +kernel) (by decide +kernel)
set_option maxRecDepth 20000 in
theorem gX3_changeWidth_X3_settle : GoodIn wsX3_changeWidth (wsV RX3 49 RX3 yX3_settle wsX3_settle) := goodIn_app (goodIn_of _ (by decide +kernel)) ggX3_changeWidth_X3_settle
theorem dX3_changeWidth_0 : decode cX3_changeWidth 0 = .ok (.iload_n 1, 1) := by decide +kernel
theorem dX3_changeWidth_1 : decode cX3_changeWidth 1 = .ok (.iconst 5, 1) := by decide +kernel
theorem dX3_changeWidth_2 : decode cX3_changeWidth 2 = .ok (.bipush 80, 2) := by decide +kernel
theorem dX3_changeWidth_4 : decode cX3_changeWidth 4 = .ok (.invokestatic 35, 3) := by decide +kernel
theorem dX3_changeWidth_7 : decode cX3_changeWidth 7 = .ok (.ifCond .eq 6, 3) := by decide +kernel
theorem dX3_changeWidth_10 : decode cX3_changeWidth 10 = .ok (.ldc 43, 2) := by decide +kernel
theorem dX3_changeWidth_12 : decode cX3_changeWidth 12 = .ok (.ireturn, 1) := by decide +kernel
theorem dX3_changeWidth_13 : decode cX3_changeWidth 13 = .ok (.aload_n 0, 1) := by decide +kernel
theorem dX3_changeWidth_14 : decode cX3_changeWidth 14 = .ok (.getfield 12, 3) := by decide +kernel
theorem dX3_changeWidth_17 : decode cX3_changeWidth 17 = .ok (.getfield 71, 3) := by decide +kernel
theorem dX3_changeWidth_20 : decode cX3_changeWidth 20 = .ok (.istore_n 2, 1) := by decide +kernel
theorem dX3_changeWidth_21 : decode cX3_changeWidth 21 = .ok (.aload_n 0, 1) := by decide +kernel
theorem dX3_changeWidth_22 : decode cX3_changeWidth 22 = .ok (.getfield 12, 3) := by decide +kernel
theorem dX3_changeWidth_25 : decode cX3_changeWidth 25 = .ok (.iload_n 1, 1) := by decide +kernel
theorem dX3_changeWidth_26 : decode cX3_changeWidth 26 = .ok (.invokevirtual 74, 3) := by decide +kernel
theorem dX3_changeWidth_29 : decode cX3_changeWidth 29 = .ok (.aload_n 0, 1) := by decide +kernel
theorem dX3_changeWidth_30 : decode cX3_changeWidth 30 = .ok (.invokevirtual 49, 3) := by decide +kernel
theorem dX3_changeWidth_33 : decode cX3_changeWidth 33 = .ok (.iload_n 2, 1) := by decide +kernel
theorem dX3_changeWidth_34 : decode cX3_changeWidth 34 = .ok (.ireturn, 1) := by decide +kernel
set_option maxRecDepth 20000 in
theorem ggX3_moveBy_X4_isOutside : GoodIn wsX3_moveBy wsX4_isOutside := goodIn_r _ [9] (by decide +kernel) (by decide +kernel)
set_option maxRecDepth 20000 in
theorem gX3_moveBy_X4_isOutside_n35 : GoodIn wsX3_moveBy (wsX4_isOutside) := ggX3_moveBy_X4_isOutside
set_option maxRecDepth 20000 in
theorem ggX3_moveBy_X3_climb : GoodIn wsX3_moveBy wsX3_climb := goodIn_r _ [14, 6, 5, 2, 15, 16, 17, 18, 19, 20, 21, 22, 23, 24, 25, 26, 27, 28, 29, 30, 31, 32, 33, 34, 35, 36, 37, 38, 39, 40, 41, 42, 43, 44, 45, 46, 47, 48, 49, 50, 60, 61, 62, 63, 64, 65, 66, 67, 68, 69, 70] (by decide +kernel) (by decide +kernel)
set_option maxRecDepth 20000 in
theorem gX3_moveBy_X3_climb : GoodIn wsX3_moveBy (wsV RX3 78 RX3 yX3_climb wsX3_climb) := goodIn_app (goodIn_of _ (by decide +kernel)) ggX3_moveBy_X3_climb
set_option maxRecDepth 20000 in
theorem ggX3_moveBy_X3_settle : GoodIn wsX3_moveBy wsX3_settle := goodIn_r _ [54, 2, 3, 5, 55, 6, 56, 57, 58, 13, 59, 19, 20, 21, 22, 23, 24, 25, 26, 27, 28, 29, 30, 31, 32, 33, 34, 35, 36, 37, 38, 39, 40, 41, 42, 43, 44, 45, 46, 47, 48, 49, 50, 10, 11, 12, 14, 15, 16, 17, 18, 60, 61, 62, 63, 64, 65, 66, 67, 68, 69, 70] (by decide +kernel) (by decide +kernel)
set_option maxRecDepth 20000 in
theorem gX3_moveBy_X3_settle : GoodIn wsX3_moveBy (wsV RX3 49 RX3 yX3_settle wsX3_settle) := goodIn_app (goodIn_of _ (by decide +kernel)) ggX3_moveBy_X3_settle
theorem dX3_moveBy_0 : decode cX3_moveBy 0 = .ok (.iload_n 1, 1) := by decide +kernel
theorem dX3_moveBy_1 : decode cX3_moveBy 1 = .ok (.sipush (-9999), 3) := by decide +kernel
theorem dX3_moveBy_4 : decode cX3_moveBy 4 = .ok (.sipush 9999, 3) := by decide +kernel
theorem dX3_moveBy_7 : decode cX3_moveBy 7 = .ok (.invokestatic 35, 3) := by decide +kernel
theorem dX3_moveBy_10 : decode cX3_moveBy 10 = .ok (.ifCond .eq 6, 3) := by decide +kernel
theorem dX3_moveBy_13 : decode cX3_moveBy 13 = .ok (.ldc 43, 2) := by decide +kernel
theorem dX3_moveBy_15 : decode cX3_moveBy 15 = .ok (.ireturn, 1) := by decide +kernel
theorem dX3_moveBy_16 : decode cX3_moveBy 16 = .ok (.aload_n 0, 1) := by decide +kernel
theorem dX3_moveBy_17 : decode cX3_moveBy 17 = .ok (.getfield 12, 3) := by decide +kernel
theorem dX3_moveBy_20 : decode cX3_moveBy 20 = .ok (.getfield 32, 3) := by decide +kernel
theorem dX3_moveBy_23 : decode cX3_moveBy 23 = .ok (.ifCond .ne 6, 3) := by decide +kernel
theorem dX3_moveBy_26 : decode cX3_moveBy 26 = .ok (.ldc 77, 2) := by decide +kernel
theorem dX3_moveBy_28 : decode cX3_moveBy 28 = .ok (.ireturn, 1) := by decide +kernel
theorem dX3_moveBy_29 : decode cX3_moveBy 29 = .ok (.aload_n 0, 1) := by decide +kernel
theorem dX3_moveBy_30 : decode cX3_moveBy 30 = .ok (.dup, 1) := by decide +kernel
theorem dX3_moveBy_31 : decode cX3_moveBy 31 = .ok (.getfield 29, 3) := by decide +kernel
theorem dX3_moveBy_34 : decode cX3_moveBy 34 = .ok (.iload_n 1, 1) := by decide +kernel
theorem dX3_moveBy_35 : decode cX3_moveBy 35 = .ok (.iadd, 1) := by decide +kernel
theorem dX3_moveBy_36 : decode cX3_moveBy 36 = .ok (.putfield 29, 3) := by decide +kernel
theorem dX3_moveBy_39 : decode cX3_moveBy 39 = .ok (.aload_n 0, 1) := by decide +kernel
theorem dX3_moveBy_40 : decode cX3_moveBy 40 = .ok (.invokevirtual 78, 3) := by decide +kernel
theorem dX3_moveBy_43 : decode cX3_moveBy 43 = .ok (.aload_n 0, 1) := by decide +kernel
theorem dX3_moveBy_44 : decode cX3_moveBy 44 = .ok (.invokevirtual 49, 3) := by decide +kernel
theorem dX3_moveBy_47 : decode cX3_moveBy 47 = .ok (.aload_n 0, 1) := by decide +kernel
theorem dX3_moveBy_48 : decode cX3_moveBy 48 = .ok (.getfield 26, 3) := by decide +kernel
theorem dX3_moveBy_51 : decode cX3_moveBy 51 = .ok (.ireturn, 1) := by decide +kernel
set_option maxRecDepth 20000 in
theorem ggX3_moveToShare_X4_isOutside : GoodIn wsX3_moveToShare wsX4_isOutside := goodIn_r _ [14] (by decide +kernel) (by decide +kernel)
set_option maxRecDepth 20000 in
theorem gX3_moveToShare_X4_isOutside_n35 : GoodIn wsX3_moveToShare (wsX4_isOutside) := ggX3_moveToShare_X4_isOutside
set_option maxRecDepth 20000 in
theorem ggX3_moveToShare_X1_total : GoodIn wsX3_moveToShare wsX1_total := goodIn_r _ [19, 20, 21, 22, 23, 18, 24, 25, 26, 27, 28, 29, 30, 31, 32, 33, 34, 35, 36, 37, 38, 39, 40, 41, 42, 43, 44, 45, 46, 79, 80, 81, 82, 83, 84, 85] (by decide +kernel) (by decide +kernel)
set_option maxRecDepth 20000 in
theorem gX3_moveToShare_X1_total : GoodIn wsX3_moveToShare (wsV RX3 52 RX1 yX1_total wsX1_total) := goodIn_app (goodIn_of _ (by decide +kernel)) ggX3_moveToShare_X1_total
set_option maxRecDepth 20000 in
theorem ggX3_moveToShare_X1_lineAt : GoodIn wsX3_moveToShare wsX1_lineAt := goodIn_r _ [50, 20, 51, 25, 26, 27, 18, 28, 29, 30, 31, 32, 33, 34, 35, 36, 37, 38, 39, 40, 41, 42, 43, 44, 45, 46, 79, 80, 81, 82, 83, 84, 85] (by decide +kernel) (by decide +kernel)
set_option maxRecDepth 20000 in
theorem gX3_moveToShare_X1_lineAt : GoodIn wsX3_moveToShare (wsV RX3 87 RX1 yX1_lineAt wsX1_lineAt) := goodIn_app (goodIn_of _ (by decide +kernel)) ggX3_moveToShare_X1_lineAt
set_option maxRecDepth 20000 in
theorem ggX3_moveToShare_X1_topOf : GoodIn wsX3_moveToShare wsX1_topOf := goodIn_r _ [24, 20, 25, 26, 27, 18, 28, 29, 30, 31, 32, 33, 34, 35, 36, 37, 38, 39, 40, 41, 42, 43, 44, 45, 46, 79, 80, 81, 82, 83, 84, 85] (by decide +kernel) (by decide +kernel)
set_option maxRecDepth 20000 in
theorem gX3_moveToShare_X1_topOf : GoodIn wsX3_moveToShare (wsV RX3 91 RX1 yX1_topOf wsX1_topOf) := goodIn_app (goodIn_of _ (by decide +kernel)) ggX3_moveToShare_X1_topOf
set_option maxRecDepth 20000 in
theorem ggX3_moveToShare_X3_settle : GoodIn wsX3_moveToShare wsX3_settle := goodIn_r _ [57, 2, 3, 11, 5, 10, 58, 59, 60, 56, 61, 62, 63, 64, 18, 65, 29, 30, 46, 31, 45, 32, 33, 34, 35, 20, 66, 67, 68, 69, 36, 37, 38, 39, 40, 70, 26, 27, 28, 41, 42, 43, 44, 71, 72, 73, 74, 6, 7, 8, 9, 75, 76, 77, 78, 79, 80, 81, 82, 83, 84, 85] (by decide +kernel) (by decide +kernel)
set_option maxRecDepth 20000 in
theorem gX3_moveToShare_X3_settle : GoodIn wsX3_moveToShare (wsV RX3 49 RX3 yX3_settle wsX3_settle) := goodIn_app (goodIn_of _ (by decide +kernel)) ggX3_moveToShare_X3_settle
theorem dX3_moveToShare_0 : decode cX3_moveToShare 0 = .ok (.iload_n 1, 1) := by decide +kernel
theorem dX3_moveToShare_1 : decode cX3_moveToShare 1 = .ok (.iconst 0, 1) := by decide +kernel
theorem dX3_moveToShare_2 : decode cX3_moveToShare 2 = .ok (.sipush 1000, 3) := by decide +kernel
theorem dX3_moveToShare_5 : decode cX3_moveToShare 5 = .ok (.invokestatic 35, 3) := by decide +kernel
theorem dX3_moveToShare_8 : decode cX3_moveToShare 8 = .ok (.ifCond .eq 6, 3) := by decide +kernel
theorem dX3_moveToShare_11 : decode cX3_moveToShare 11 = .ok (.ldc 43, 2) := by decide +kernel
theorem dX3_moveToShare_13 : decode cX3_moveToShare 13 = .ok (.ireturn, 1) := by decide +kernel
theorem dX3_moveToShare_14 : decode cX3_moveToShare 14 = .ok (.aload_n 0, 1) := by decide +kernel
theorem dX3_moveToShare_15 : decode cX3_moveToShare 15 = .ok (.getfield 12, 3) := by decide +kernel
theorem dX3_moveToShare_18 : decode cX3_moveToShare 18 = .ok (.getfield 32, 3) := by decide +kernel
theorem dX3_moveToShare_21 : decode cX3_moveToShare 21 = .ok (.ifCond .ne 6, 3) := by decide +kernel
theorem dX3_moveToShare_24 : decode cX3_moveToShare 24 = .ok (.ldc 77, 2) := by decide +kernel
theorem dX3_moveToShare_26 : decode cX3_moveToShare 26 = .ok (.ireturn, 1) := by decide +kernel
theorem dX3_moveToShare_27 : decode cX3_moveToShare 27 = .ok (.iconst 0, 1) := by decide +kernel
theorem dX3_moveToShare_28 : decode cX3_moveToShare 28 = .ok (.aload_n 0, 1) := by decide +kernel
theorem dX3_moveToShare_29 : decode cX3_moveToShare 29 = .ok (.getfield 12, 3) := by decide +kernel
theorem dX3_moveToShare_32 : decode cX3_moveToShare 32 = .ok (.invokevirtual 52, 3) := by decide +kernel
theorem dX3_moveToShare_35 : decode cX3_moveToShare 35 = .ok (.aload_n 0, 1) := by decide +kernel
theorem dX3_moveToShare_36 : decode cX3_moveToShare 36 = .ok (.getfield 18, 3) := by decide +kernel
theorem dX3_moveToShare_39 : decode cX3_moveToShare 39 = .ok (.isub, 1) := by decide +kernel
theorem dX3_moveToShare_40 : decode cX3_moveToShare 40 = .ok (.invokestatic 81, 3) := by decide +kernel
theorem dX3_moveToShare_43 : decode cX3_moveToShare 43 = .ok (.iload_n 1, 1) := by decide +kernel
theorem dX3_moveToShare_44 : decode cX3_moveToShare 44 = .ok (.imul, 1) := by decide +kernel
theorem dX3_moveToShare_45 : decode cX3_moveToShare 45 = .ok (.sipush 1000, 3) := by decide +kernel
theorem dX3_moveToShare_48 : decode cX3_moveToShare 48 = .ok (.idiv, 1) := by decide +kernel
theorem dX3_moveToShare_49 : decode cX3_moveToShare 49 = .ok (.istore_n 2, 1) := by decide +kernel
theorem dX3_moveToShare_50 : decode cX3_moveToShare 50 = .ok (.aload_n 0, 1) := by decide +kernel
theorem dX3_moveToShare_51 : decode cX3_moveToShare 51 = .ok (.iconst 0, 1) := by decide +kernel
theorem dX3_moveToShare_52 : decode cX3_moveToShare 52 = .ok (.aload_n 0, 1) := by decide +kernel
theorem dX3_moveToShare_53 : decode cX3_moveToShare 53 = .ok (.getfield 12, 3) := by decide +kernel
theorem dX3_moveToShare_56 : decode cX3_moveToShare 56 = .ok (.iload_n 2, 1) := by decide +kernel
theorem dX3_moveToShare_57 : decode cX3_moveToShare 57 = .ok (.invokevirtual 87, 3) := by decide +kernel
theorem dX3_moveToShare_60 : decode cX3_moveToShare 60 = .ok (.invokestatic 81, 3) := by decide +kernel
theorem dX3_moveToShare_63 : decode cX3_moveToShare 63 = .ok (.putfield 26, 3) := by decide +kernel
theorem dX3_moveToShare_66 : decode cX3_moveToShare 66 = .ok (.aload_n 0, 1) := by decide +kernel
theorem dX3_moveToShare_67 : decode cX3_moveToShare 67 = .ok (.iload_n 2, 1) := by decide +kernel
theorem dX3_moveToShare_68 : decode cX3_moveToShare 68 = .ok (.aload_n 0, 1) := by decide +kernel
theorem dX3_moveToShare_69 : decode cX3_moveToShare 69 = .ok (.getfield 12, 3) := by decide +kernel
theorem dX3_moveToShare_72 : decode cX3_moveToShare 72 = .ok (.aload_n 0, 1) := by decide +kernel
theorem dX3_moveToShare_73 : decode cX3_moveToShare 73 = .ok (.getfield 26, 3) := by decide +kernel
theorem dX3_moveToShare_76 : decode cX3_moveToShare 76 = .ok (.invokevirtual 91, 3) := by decide +kernel
theorem dX3_moveToShare_79 : decode cX3_moveToShare 79 = .ok (.isub, 1) := by decide +kernel
theorem dX3_moveToShare_80 : decode cX3_moveToShare 80 = .ok (.putfield 29, 3) := by decide +kernel
theorem dX3_moveToShare_83 : decode cX3_moveToShare 83 = .ok (.aload_n 0, 1) := by decide +kernel
theorem dX3_moveToShare_84 : decode cX3_moveToShare 84 = .ok (.invokevirtual 49, 3) := by decide +kernel
theorem dX3_moveToShare_87 : decode cX3_moveToShare 87 = .ok (.aload_n 0, 1) := by decide +kernel
theorem dX3_moveToShare_88 : decode cX3_moveToShare 88 = .ok (.getfield 26, 3) := by decide +kernel
theorem dX3_moveToShare_91 : decode cX3_moveToShare 91 = .ok (.ireturn, 1) := by decide +kernel
set_option maxRecDepth 20000 in
theorem ggX3_moveToLine_X1_isLine : GoodIn wsX3_moveToLine wsX1_isLine := goodIn_r _ [9, 10, 61, 62, 63, 64, 65, 66, 67] (by decide +kernel) (by decide +kernel)
set_option maxRecDepth 20000 in
theorem gX3_moveToLine_X1_isLine : GoodIn wsX3_moveToLine (wsV RX3 56 RX1 yX1_isLine wsX1_isLine) := goodIn_app (goodIn_of _ (by decide +kernel)) ggX3_moveToLine_X1_isLine
set_option maxRecDepth 20000 in
theorem ggX3_moveToLine_X3_settle : GoodIn wsX3_moveToLine wsX3_settle := goodIn_r _ [15, 1, 16, 4, 17, 3, 18, 19, 20, 14, 21, 22, 23, 24, 8, 25, 26, 27, 28, 29, 30, 31, 6, 7, 9, 10, 32, 33, 34, 35, 36, 37, 38, 39, 40, 41, 42, 43, 44, 45, 46, 47, 48, 49, 50, 51, 52, 53, 54, 55, 56, 57, 58, 59, 60, 61, 62, 63, 64, 65, 66, 67] (by decide +kernel) (by decide +kernel)
set_option maxRecDepth 20000 in
theorem gX3_moveToLine_X3_settle : GoodIn wsX3_moveToLine (wsV RX3 49 RX3 yX3_settle wsX3_settle) := goodIn_app (goodIn_of _ (by decide +kernel)) ggX3_moveToLine_X3_settle
theorem dX3_moveToLine_0 : decode cX3_moveToLine 0 = .ok (.aload_n 0, 1) := by decide +kernel
theorem dX3_moveToLine_1 : decode cX3_moveToLine 1 = .ok (.getfield 12, 3) := by decide +kernel
theorem dX3_moveToLine_4 : decode cX3_moveToLine 4 = .ok (.iload_n 1, 1) := by decide +kernel
theorem dX3_moveToLine_5 : decode cX3_moveToLine 5 = .ok (.invokevirtual 56, 3) := by decide +kernel
theorem dX3_moveToLine_8 : decode cX3_moveToLine 8 = .ok (.ifCond .ne 6, 3) := by decide +kernel
theorem dX3_moveToLine_11 : decode cX3_moveToLine 11 = .ok (.ldc 43, 2) := by decide +kernel
theorem dX3_moveToLine_13 : decode cX3_moveToLine 13 = .ok (.ireturn, 1) := by decide +kernel
theorem dX3_moveToLine_14 : decode cX3_moveToLine 14 = .ok (.aload_n 0, 1) := by decide +kernel
theorem dX3_moveToLine_15 : decode cX3_moveToLine 15 = .ok (.iload_n 1, 1) := by decide +kernel
theorem dX3_moveToLine_16 : decode cX3_moveToLine 16 = .ok (.putfield 26, 3) := by decide +kernel
theorem dX3_moveToLine_19 : decode cX3_moveToLine 19 = .ok (.aload_n 0, 1) := by decide +kernel
theorem dX3_moveToLine_20 : decode cX3_moveToLine 20 = .ok (.iconst 0, 1) := by decide +kernel
theorem dX3_moveToLine_21 : decode cX3_moveToLine 21 = .ok (.putfield 29, 3) := by decide +kernel
theorem dX3_moveToLine_24 : decode cX3_moveToLine 24 = .ok (.aload_n 0, 1) := by decide +kernel
theorem dX3_moveToLine_25 : decode cX3_moveToLine 25 = .ok (.invokevirtual 49, 3) := by decide +kernel
theorem dX3_moveToLine_28 : decode cX3_moveToLine 28 = .ok (.aload_n 0, 1) := by decide +kernel
theorem dX3_moveToLine_29 : decode cX3_moveToLine 29 = .ok (.getfield 26, 3) := by decide +kernel
theorem dX3_moveToLine_32 : decode cX3_moveToLine 32 = .ok (.ireturn, 1) := by decide +kernel
set_option maxRecDepth 20000 in
theorem ggX3_settle_X3_descend : GoodIn wsX3_settle wsX3_descend := goodIn_r _ [10, 1, 5, 2, 3, 11, 12, 13, 14, 15, 16, 17, 18, 19, 20, 21, 22, 23, 24, 25, 26, 27, 28, 29, 30, 31, 32, 33, 34, 35, 36, 37, 38, 39, 40, 41, 42, 51, 52, 53, 54, 55, 56, 57, 58, 59, 60, 61] (by decide +kernel) (by decide +kernel)
set_option maxRecDepth 20000 in
theorem gX3_settle_X3_descend : GoodIn wsX3_settle (wsV RX3 94 RX3 yX3_descend wsX3_descend) := goodIn_app (goodIn_of _ (by decide +kernel)) ggX3_settle_X3_descend
set_option maxRecDepth 20000 in
theorem ggX3_settle_X1_heightOf : GoodIn wsX3_settle wsX1_heightOf := goodIn_r _ [38, 16, 17, 19, 21, 22, 23, 14, 24, 25, 30, 31, 32, 33, 34, 39, 40, 41, 42, 20, 18, 55, 56, 57, 58, 59, 60, 61] (by decide +kernel) (by decide +kernel)
set_option maxRecDepth 20000 in
theorem gX3_settle_X1_heightOf : GoodIn wsX3_settle (wsV RX3 97 RX1 yX1_heightOf wsX1_heightOf) := goodIn_app (goodIn_of _ (by decide +kernel)) ggX3_settle_X1_heightOf
set_option maxRecDepth 20000 in
theorem ggX3_settle_X1_measure : GoodIn wsX3_settle wsX1_measure := goodIn_r _ [15, 16, 17, 18, 19, 20, 21, 22, 23, 14, 24, 25, 26, 27, 28, 29, 30, 31, 32, 33, 34, 55, 56, 57, 58, 59, 60, 61] (by decide +kernel) (by decide +kernel)
set_option maxRecDepth 20000 in
theorem gX3_settle_X1_measure : GoodIn wsX3_settle (wsV RX3 100 RX1 yX1_measure wsX1_measure) := goodIn_app (goodIn_of _ (by decide +kernel)) ggX3_settle_X1_measure
set_option maxRecDepth 20000 in
theorem ggX3_settle_X3_climb : GoodIn wsX3_settle wsX3_climb := goodIn_r _ [46, 5, 3, 1, 47, 48, 49, 50, 11, 12, 13, 14, 15, 16, 17, 18, 19, 20, 21, 22, 23, 24, 25, 26, 27, 28, 29, 30, 31, 32, 33, 34, 35, 36, 37, 38, 39, 40, 41, 42, 51, 52, 53, 54, 55, 56, 57, 58, 59, 60, 61] (by decide +kernel) (by decide +kernel)
set_option maxRecDepth 20000 in
theorem gX3_settle_X3_climb : GoodIn wsX3_settle (wsV RX3 78 RX3 yX3_climb wsX3_climb) := goodIn_app (goodIn_of _ (by decide +kernel)) ggX3_settle_X3_climb
theorem dX3_settle_0 : decode cX3_settle 0 = .ok (.aload_n 0, 1) := by decide +kernel
theorem dX3_settle_1 : decode cX3_settle 1 = .ok (.getfield 12, 3) := by decide +kernel
theorem dX3_settle_4 : decode cX3_settle 4 = .ok (.getfield 32, 3) := by decide +kernel
theorem dX3_settle_7 : decode cX3_settle 7 = .ok (.ifCond .ne 4, 3) := by decide +kernel
theorem dX3_settle_10 : decode cX3_settle 10 = .ok (.return_, 1) := by decide +kernel
theorem dX3_settle_11 : decode cX3_settle 11 = .ok (.aload_n 0, 1) := by decide +kernel
theorem dX3_settle_12 : decode cX3_settle 12 = .ok (.invokevirtual 94, 3) := by decide +kernel
theorem dX3_settle_15 : decode cX3_settle 15 = .ok (.aload_n 0, 1) := by decide +kernel
theorem dX3_settle_16 : decode cX3_settle 16 = .ok (.getfield 29, 3) := by decide +kernel
theorem dX3_settle_19 : decode cX3_settle 19 = .ok (.aload_n 0, 1) := by decide +kernel
theorem dX3_settle_20 : decode cX3_settle 20 = .ok (.getfield 18, 3) := by decide +kernel
theorem dX3_settle_23 : decode cX3_settle 23 = .ok (.iadd, 1) := by decide +kernel
theorem dX3_settle_24 : decode cX3_settle 24 = .ok (.istore_n 1, 1) := by decide +kernel
theorem dX3_settle_25 : decode cX3_settle 25 = .ok (.aload_n 0, 1) := by decide +kernel
theorem dX3_settle_26 : decode cX3_settle 26 = .ok (.getfield 26, 3) := by decide +kernel
theorem dX3_settle_29 : decode cX3_settle 29 = .ok (.iconst 1, 1) := by decide +kernel
theorem dX3_settle_30 : decode cX3_settle 30 = .ok (.iadd, 1) := by decide +kernel
theorem dX3_settle_31 : decode cX3_settle 31 = .ok (.istore_n 2, 1) := by decide +kernel
theorem dX3_settle_32 : decode cX3_settle 32 = .ok (.aload_n 0, 1) := by decide +kernel
theorem dX3_settle_33 : decode cX3_settle 33 = .ok (.getfield 12, 3) := by decide +kernel
theorem dX3_settle_36 : decode cX3_settle 36 = .ok (.aload_n 0, 1) := by decide +kernel
theorem dX3_settle_37 : decode cX3_settle 37 = .ok (.getfield 26, 3) := by decide +kernel
theorem dX3_settle_40 : decode cX3_settle 40 = .ok (.invokevirtual 97, 3) := by decide +kernel
theorem dX3_settle_43 : decode cX3_settle 43 = .ok (.istore_n 3, 1) := by decide +kernel
theorem dX3_settle_44 : decode cX3_settle 44 = .ok (.iload_n 2, 1) := by decide +kernel
theorem dX3_settle_45 : decode cX3_settle 45 = .ok (.aload_n 0, 1) := by decide +kernel
theorem dX3_settle_46 : decode cX3_settle 46 = .ok (.getfield 12, 3) := by decide +kernel
theorem dX3_settle_49 : decode cX3_settle 49 = .ok (.getfield 32, 3) := by decide +kernel
theorem dX3_settle_52 : decode cX3_settle 52 = .ok (.if_icmp .ge 33, 3) := by decide +kernel
theorem dX3_settle_55 : decode cX3_settle 55 = .ok (.iload_n 3, 1) := by decide +kernel
theorem dX3_settle_56 : decode cX3_settle 56 = .ok (.iload_n 1, 1) := by decide +kernel
theorem dX3_settle_57 : decode cX3_settle 57 = .ok (.if_icmp .ge 28, 3) := by decide +kernel
theorem dX3_settle_60 : decode cX3_settle 60 = .ok (.aload_n 0, 1) := by decide +kernel
theorem dX3_settle_61 : decode cX3_settle 61 = .ok (.getfield 12, 3) := by decide +kernel
theorem dX3_settle_64 : decode cX3_settle 64 = .ok (.iload_n 2, 1) := by decide +kernel
theorem dX3_settle_65 : decode cX3_settle 65 = .ok (.invokevirtual 100, 3) := by decide +kernel
theorem dX3_settle_68 : decode cX3_settle 68 = .ok (.iload_n 3, 1) := by decide +kernel
theorem dX3_settle_69 : decode cX3_settle 69 = .ok (.aload_n 0, 1) := by decide +kernel
theorem dX3_settle_70 : decode cX3_settle 70 = .ok (.getfield 12, 3) := by decide +kernel
theorem dX3_settle_73 : decode cX3_settle 73 = .ok (.iload_n 2, 1) := by decide +kernel
theorem dX3_settle_74 : decode cX3_settle 74 = .ok (.invokevirtual 97, 3) := by decide +kernel
theorem dX3_settle_77 : decode cX3_settle 77 = .ok (.iadd, 1) := by decide +kernel
theorem dX3_settle_78 : decode cX3_settle 78 = .ok (.istore_n 3, 1) := by decide +kernel
theorem dX3_settle_79 : decode cX3_settle 79 = .ok (.iinc 2 1, 3) := by decide +kernel
theorem dX3_settle_82 : decode cX3_settle 82 = .ok (.goto (-38), 3) := by decide +kernel
theorem dX3_settle_85 : decode cX3_settle 85 = .ok (.iload_n 2, 1) := by decide +kernel
theorem dX3_settle_86 : decode cX3_settle 86 = .ok (.aload_n 0, 1) := by decide +kernel
theorem dX3_settle_87 : decode cX3_settle 87 = .ok (.getfield 12, 3) := by decide +kernel
theorem dX3_settle_90 : decode cX3_settle 90 = .ok (.getfield 32, 3) := by decide +kernel
theorem dX3_settle_93 : decode cX3_settle 93 = .ok (.if_icmp .lt 24, 3) := by decide +kernel
theorem dX3_settle_96 : decode cX3_settle 96 = .ok (.iload_n 3, 1) := by decide +kernel
theorem dX3_settle_97 : decode cX3_settle 97 = .ok (.iload_n 1, 1) := by decide +kernel
theorem dX3_settle_98 : decode cX3_settle 98 = .ok (.if_icmp .ge 19, 3) := by decide +kernel
theorem dX3_settle_101 : decode cX3_settle 101 = .ok (.aload_n 0, 1) := by decide +kernel
theorem dX3_settle_102 : decode cX3_settle 102 = .ok (.dup, 1) := by decide +kernel
theorem dX3_settle_103 : decode cX3_settle 103 = .ok (.getfield 29, 3) := by decide +kernel
theorem dX3_settle_106 : decode cX3_settle 106 = .ok (.iload_n 1, 1) := by decide +kernel
theorem dX3_settle_107 : decode cX3_settle 107 = .ok (.iload_n 3, 1) := by decide +kernel
theorem dX3_settle_108 : decode cX3_settle 108 = .ok (.isub, 1) := by decide +kernel
theorem dX3_settle_109 : decode cX3_settle 109 = .ok (.isub, 1) := by decide +kernel
theorem dX3_settle_110 : decode cX3_settle 110 = .ok (.putfield 29, 3) := by decide +kernel
theorem dX3_settle_113 : decode cX3_settle 113 = .ok (.aload_n 0, 1) := by decide +kernel
theorem dX3_settle_114 : decode cX3_settle 114 = .ok (.invokevirtual 78, 3) := by decide +kernel
theorem dX3_settle_117 : decode cX3_settle 117 = .ok (.return_, 1) := by decide +kernel
set_option maxRecDepth 20000 in
theorem ggX3_descend_X1_measure : GoodIn wsX3_descend wsX1_measure := goodIn_r _ [9, 10, 11, 12, 13, 14, 15, 16, 17, 8, 18, 19, 20, 21, 22, 23, 24, 25, 26, 27, 28, 41, 42, 43, 44, 45, 46, 47] (by decide +kernel) (by decide +kernel)
set_option maxRecDepth 20000 in
theorem gX3_descend_X1_measure : GoodIn wsX3_descend (wsV RX3 100 RX1 yX1_measure wsX1_measure) := goodIn_app (goodIn_of _ (by decide +kernel)) ggX3_descend_X1_measure
set_option maxRecDepth 20000 in
theorem ggX3_descend_X1_heightOf : GoodIn wsX3_descend wsX1_heightOf := goodIn_r _ [32, 10, 11, 13, 15, 16, 17, 8, 18, 19, 24, 25, 26, 27, 28, 33, 34, 35, 36, 14, 12, 41, 42, 43, 44, 45, 46, 47] (by decide +kernel) (by decide +kernel)
set_option maxRecDepth 20000 in
theorem gX3_descend_X1_heightOf : GoodIn wsX3_descend (wsV RX3 97 RX1 yX1_heightOf wsX1_heightOf) := goodIn_app (goodIn_of _ (by decide +kernel)) ggX3_descend_X1_heightOf
theorem dX3_descend_0 : decode cX3_descend 0 = .ok (.aload_n 0, 1) := by decide +kernel
theorem dX3_descend_1 : decode cX3_descend 1 = .ok (.getfield 12, 3) := by decide +kernel
theorem dX3_descend_4 : decode cX3_descend 4 = .ok (.aload_n 0, 1) := by decide +kernel
theorem dX3_descend_5 : decode cX3_descend 5 = .ok (.getfield 26, 3) := by decide +kernel
theorem dX3_descend_8 : decode cX3_descend 8 = .ok (.invokevirtual 100, 3) := by decide +kernel
theorem dX3_descend_11 : decode cX3_descend 11 = .ok (.aload_n 0, 1) := by decide +kernel
theorem dX3_descend_12 : decode cX3_descend 12 = .ok (.getfield 26, 3) := by decide +kernel
theorem dX3_descend_15 : decode cX3_descend 15 = .ok (.iconst 1, 1) := by decide +kernel
theorem dX3_descend_16 : decode cX3_descend 16 = .ok (.iadd, 1) := by decide +kernel
theorem dX3_descend_17 : decode cX3_descend 17 = .ok (.aload_n 0, 1) := by decide +kernel
theorem dX3_descend_18 : decode cX3_descend 18 = .ok (.getfield 12, 3) := by decide +kernel
theorem dX3_descend_21 : decode cX3_descend 21 = .ok (.getfield 32, 3) := by decide +kernel
theorem dX3_descend_24 : decode cX3_descend 24 = .ok (.if_icmp .ge 65, 3) := by decide +kernel
theorem dX3_descend_27 : decode cX3_descend 27 = .ok (.aload_n 0, 1) := by decide +kernel
theorem dX3_descend_28 : decode cX3_descend 28 = .ok (.getfield 29, 3) := by decide +kernel
theorem dX3_descend_31 : decode cX3_descend 31 = .ok (.aload_n 0, 1) := by decide +kernel
theorem dX3_descend_32 : decode cX3_descend 32 = .ok (.getfield 12, 3) := by decide +kernel
theorem dX3_descend_35 : decode cX3_descend 35 = .ok (.aload_n 0, 1) := by decide +kernel
theorem dX3_descend_36 : decode cX3_descend 36 = .ok (.getfield 26, 3) := by decide +kernel
theorem dX3_descend_39 : decode cX3_descend 39 = .ok (.invokevirtual 97, 3) := by decide +kernel
theorem dX3_descend_42 : decode cX3_descend 42 = .ok (.if_icmp .lt 47, 3) := by decide +kernel
theorem dX3_descend_45 : decode cX3_descend 45 = .ok (.aload_n 0, 1) := by decide +kernel
theorem dX3_descend_46 : decode cX3_descend 46 = .ok (.dup, 1) := by decide +kernel
theorem dX3_descend_47 : decode cX3_descend 47 = .ok (.getfield 29, 3) := by decide +kernel
theorem dX3_descend_50 : decode cX3_descend 50 = .ok (.aload_n 0, 1) := by decide +kernel
theorem dX3_descend_51 : decode cX3_descend 51 = .ok (.getfield 12, 3) := by decide +kernel
theorem dX3_descend_54 : decode cX3_descend 54 = .ok (.aload_n 0, 1) := by decide +kernel
theorem dX3_descend_55 : decode cX3_descend 55 = .ok (.getfield 26, 3) := by decide +kernel
theorem dX3_descend_58 : decode cX3_descend 58 = .ok (.invokevirtual 97, 3) := by decide +kernel
theorem dX3_descend_61 : decode cX3_descend 61 = .ok (.isub, 1) := by decide +kernel
theorem dX3_descend_62 : decode cX3_descend 62 = .ok (.putfield 29, 3) := by decide +kernel
theorem dX3_descend_65 : decode cX3_descend 65 = .ok (.aload_n 0, 1) := by decide +kernel
theorem dX3_descend_66 : decode cX3_descend 66 = .ok (.dup, 1) := by decide +kernel
theorem dX3_descend_67 : decode cX3_descend 67 = .ok (.getfield 26, 3) := by decide +kernel
theorem dX3_descend_70 : decode cX3_descend 70 = .ok (.iconst 1, 1) := by decide +kernel
theorem dX3_descend_71 : decode cX3_descend 71 = .ok (.iadd, 1) := by decide +kernel
theorem dX3_descend_72 : decode cX3_descend 72 = .ok (.putfield 26, 3) := by decide +kernel
theorem dX3_descend_75 : decode cX3_descend 75 = .ok (.aload_n 0, 1) := by decide +kernel
theorem dX3_descend_76 : decode cX3_descend 76 = .ok (.getfield 12, 3) := by decide +kernel
theorem dX3_descend_79 : decode cX3_descend 79 = .ok (.aload_n 0, 1) := by decide +kernel
theorem dX3_descend_80 : decode cX3_descend 80 = .ok (.getfield 26, 3) := by decide +kernel
theorem dX3_descend_83 : decode cX3_descend 83 = .ok (.invokevirtual 100, 3) := by decide +kernel
theorem dX3_descend_86 : decode cX3_descend 86 = .ok (.goto (-75), 3) := by decide +kernel
theorem dX3_descend_89 : decode cX3_descend 89 = .ok (.return_, 1) := by decide +kernel
set_option maxRecDepth 20000 in
theorem ggX3_climb_X1_measure : GoodIn wsX3_climb wsX1_measure := goodIn_r _ [12, 13, 14, 15, 16, 17, 18, 19, 20, 11, 21, 22, 23, 24, 25, 26, 27, 28, 29, 30, 31, 44, 45, 46, 47, 48, 49, 50] (by decide +kernel) (by decide +kernel)
set_option maxRecDepth 20000 in
theorem gX3_climb_X1_measure : GoodIn wsX3_climb (wsV RX3 100 RX1 yX1_measure wsX1_measure) := goodIn_app (goodIn_of _ (by decide +kernel)) ggX3_climb_X1_measure
set_option maxRecDepth 20000 in
theorem ggX3_climb_X1_heightOf : GoodIn wsX3_climb wsX1_heightOf := goodIn_r _ [35, 13, 14, 16, 18, 19, 20, 11, 21, 22, 27, 28, 29, 30, 31, 36, 37, 38, 39, 17, 15, 44, 45, 46, 47, 48, 49, 50] (by decide +kernel) (by decide +kernel)
set_option maxRecDepth 20000 in
theorem gX3_climb_X1_heightOf : GoodIn wsX3_climb (wsV RX3 97 RX1 yX1_heightOf wsX1_heightOf) := goodIn_app (goodIn_of _ (by decide +kernel)) ggX3_climb_X1_heightOf
theorem dX3_climb_0 : decode cX3_climb 0 = .ok (.aload_n 0, 1) := by decide +kernel
theorem dX3_climb_1 : decode cX3_climb 1 = .ok (.getfield 26, 3) := by decide +kernel
theorem dX3_climb_4 : decode cX3_climb 4 = .ok (.ifCond .le 54, 3) := by decide +kernel
theorem dX3_climb_7 : decode cX3_climb 7 = .ok (.aload_n 0, 1) := by decide +kernel
theorem dX3_climb_8 : decode cX3_climb 8 = .ok (.getfield 29, 3) := by decide +kernel
theorem dX3_climb_11 : decode cX3_climb 11 = .ok (.ifCond .ge 47, 3) := by decide +kernel
theorem dX3_climb_14 : decode cX3_climb 14 = .ok (.aload_n 0, 1) := by decide +kernel
theorem dX3_climb_15 : decode cX3_climb 15 = .ok (.dup, 1) := by decide +kernel
theorem dX3_climb_16 : decode cX3_climb 16 = .ok (.getfield 26, 3) := by decide +kernel
theorem dX3_climb_19 : decode cX3_climb 19 = .ok (.iconst 1, 1) := by decide +kernel
theorem dX3_climb_20 : decode cX3_climb 20 = .ok (.isub, 1) := by decide +kernel
theorem dX3_climb_21 : decode cX3_climb 21 = .ok (.putfield 26, 3) := by decide +kernel
theorem dX3_climb_24 : decode cX3_climb 24 = .ok (.aload_n 0, 1) := by decide +kernel
theorem dX3_climb_25 : decode cX3_climb 25 = .ok (.getfield 12, 3) := by decide +kernel
theorem dX3_climb_28 : decode cX3_climb 28 = .ok (.aload_n 0, 1) := by decide +kernel
theorem dX3_climb_29 : decode cX3_climb 29 = .ok (.getfield 26, 3) := by decide +kernel
theorem dX3_climb_32 : decode cX3_climb 32 = .ok (.invokevirtual 100, 3) := by decide +kernel
theorem dX3_climb_35 : decode cX3_climb 35 = .ok (.aload_n 0, 1) := by decide +kernel
theorem dX3_climb_36 : decode cX3_climb 36 = .ok (.dup, 1) := by decide +kernel
theorem dX3_climb_37 : decode cX3_climb 37 = .ok (.getfield 29, 3) := by decide +kernel
theorem dX3_climb_40 : decode cX3_climb 40 = .ok (.aload_n 0, 1) := by decide +kernel
theorem dX3_climb_41 : decode cX3_climb 41 = .ok (.getfield 12, 3) := by decide +kernel
theorem dX3_climb_44 : decode cX3_climb 44 = .ok (.aload_n 0, 1) := by decide +kernel
theorem dX3_climb_45 : decode cX3_climb 45 = .ok (.getfield 26, 3) := by decide +kernel
theorem dX3_climb_48 : decode cX3_climb 48 = .ok (.invokevirtual 97, 3) := by decide +kernel
theorem dX3_climb_51 : decode cX3_climb 51 = .ok (.iadd, 1) := by decide +kernel
theorem dX3_climb_52 : decode cX3_climb 52 = .ok (.putfield 29, 3) := by decide +kernel
theorem dX3_climb_55 : decode cX3_climb 55 = .ok (.goto (-55), 3) := by decide +kernel
theorem dX3_climb_58 : decode cX3_climb 58 = .ok (.aload_n 0, 1) := by decide +kernel
theorem dX3_climb_59 : decode cX3_climb 59 = .ok (.iconst 0, 1) := by decide +kernel
theorem dX3_climb_60 : decode cX3_climb 60 = .ok (.aload_n 0, 1) := by decide +kernel
theorem dX3_climb_61 : decode cX3_climb 61 = .ok (.getfield 29, 3) := by decide +kernel
theorem dX3_climb_64 : decode cX3_climb 64 = .ok (.invokestatic 81, 3) := by decide +kernel
theorem dX3_climb_67 : decode cX3_climb 67 = .ok (.putfield 29, 3) := by decide +kernel
theorem dX3_climb_70 : decode cX3_climb 70 = .ok (.return_, 1) := by decide +kernel
set_option maxRecDepth 20000 in
theorem ggX3_top_X1_topOf : GoodIn wsX3_top wsX1_topOf := goodIn_r _ [8, 9, 10, 11, 12, 7, 13, 14, 15, 16, 17, 18, 19, 20, 21, 22, 23, 24, 25, 26, 27, 28, 29, 30, 31, 36, 37, 38, 39, 40, 41, 42] (by decide +kernel) (by decide +kernel)
set_option maxRecDepth 20000 in
theorem gX3_top_X1_topOf : GoodIn wsX3_top (wsV RX3 91 RX1 yX1_topOf wsX1_topOf) := goodIn_app (goodIn_of _ (by decide +kernel)) ggX3_top_X1_topOf
theorem dX3_top_0 : decode cX3_top 0 = .ok (.aload_n 0, 1) := by decide +kernel
theorem dX3_top_1 : decode cX3_top 1 = .ok (.getfield 12, 3) := by decide +kernel
theorem dX3_top_4 : decode cX3_top 4 = .ok (.aload_n 0, 1) := by decide +kernel
theorem dX3_top_5 : decode cX3_top 5 = .ok (.getfield 26, 3) := by decide +kernel
theorem dX3_top_8 : decode cX3_top 8 = .ok (.invokevirtual 91, 3) := by decide +kernel
theorem dX3_top_11 : decode cX3_top 11 = .ok (.aload_n 0, 1) := by decide +kernel
theorem dX3_top_12 : decode cX3_top 12 = .ok (.getfield 29, 3) := by decide +kernel
theorem dX3_top_15 : decode cX3_top 15 = .ok (.iadd, 1) := by decide +kernel
theorem dX3_top_16 : decode cX3_top 16 = .ok (.ireturn, 1) := by decide +kernel
set_option maxRecDepth 20000 in
theorem ggX3_shows_X1_heightOf : GoodIn wsX3_shows wsX1_heightOf := goodIn_r _ [9, 10, 11, 12, 13, 14, 15, 8, 16, 17, 18, 19, 20, 21, 22, 23, 24, 25, 26, 27, 28, 33, 34, 35, 36, 37, 38, 39] (by decide +kernel) (by decide +kernel)
set_option maxRecDepth 20000 in
theorem gX3_shows_X1_heightOf : GoodIn wsX3_shows (wsV RX3 97 RX1 yX1_heightOf wsX1_heightOf) := goodIn_app (goodIn_of _ (by decide +kernel)) ggX3_shows_X1_heightOf
theorem dX3_shows_0 : decode cX3_shows 0 = .ok (.iload_n 1, 1) := by decide +kernel
theorem dX3_shows_1 : decode cX3_shows 1 = .ok (.aload_n 0, 1) := by decide +kernel
theorem dX3_shows_2 : decode cX3_shows 2 = .ok (.getfield 26, 3) := by decide +kernel
theorem dX3_shows_5 : decode cX3_shows 5 = .ok (.if_icmp .ge 5, 3) := by decide +kernel
theorem dX3_shows_8 : decode cX3_shows 8 = .ok (.iconst 0, 1) := by decide +kernel
theorem dX3_shows_9 : decode cX3_shows 9 = .ok (.ireturn, 1) := by decide +kernel
theorem dX3_shows_10 : decode cX3_shows 10 = .ok (.aload_n 0, 1) := by decide +kernel
theorem dX3_shows_11 : decode cX3_shows 11 = .ok (.getfield 29, 3) := by decide +kernel
theorem dX3_shows_14 : decode cX3_shows 14 = .ok (.ineg, 1) := by decide +kernel
theorem dX3_shows_15 : decode cX3_shows 15 = .ok (.istore_n 2, 1) := by decide +kernel
theorem dX3_shows_16 : decode cX3_shows 16 = .ok (.aload_n 0, 1) := by decide +kernel
theorem dX3_shows_17 : decode cX3_shows 17 = .ok (.getfield 26, 3) := by decide +kernel
theorem dX3_shows_20 : decode cX3_shows 20 = .ok (.istore_n 3, 1) := by decide +kernel
theorem dX3_shows_21 : decode cX3_shows 21 = .ok (.iload_n 3, 1) := by decide +kernel
theorem dX3_shows_22 : decode cX3_shows 22 = .ok (.iload_n 1, 1) := by decide +kernel
theorem dX3_shows_23 : decode cX3_shows 23 = .ok (.if_icmp .ge 28, 3) := by decide +kernel
theorem dX3_shows_26 : decode cX3_shows 26 = .ok (.iload_n 2, 1) := by decide +kernel
theorem dX3_shows_27 : decode cX3_shows 27 = .ok (.aload_n 0, 1) := by decide +kernel
theorem dX3_shows_28 : decode cX3_shows 28 = .ok (.getfield 18, 3) := by decide +kernel
theorem dX3_shows_31 : decode cX3_shows 31 = .ok (.if_icmp .ge 20, 3) := by decide +kernel
theorem dX3_shows_34 : decode cX3_shows 34 = .ok (.iload_n 2, 1) := by decide +kernel
theorem dX3_shows_35 : decode cX3_shows 35 = .ok (.aload_n 0, 1) := by decide +kernel
theorem dX3_shows_36 : decode cX3_shows 36 = .ok (.getfield 12, 3) := by decide +kernel
theorem dX3_shows_39 : decode cX3_shows 39 = .ok (.iload_n 3, 1) := by decide +kernel
theorem dX3_shows_40 : decode cX3_shows 40 = .ok (.invokevirtual 97, 3) := by decide +kernel
theorem dX3_shows_43 : decode cX3_shows 43 = .ok (.iadd, 1) := by decide +kernel
theorem dX3_shows_44 : decode cX3_shows 44 = .ok (.istore_n 2, 1) := by decide +kernel
theorem dX3_shows_45 : decode cX3_shows 45 = .ok (.iinc 3 1, 3) := by decide +kernel
theorem dX3_shows_48 : decode cX3_shows 48 = .ok (.goto (-27), 3) := by decide +kernel
theorem dX3_shows_51 : decode cX3_shows 51 = .ok (.iload_n 2, 1) := by decide +kernel
theorem dX3_shows_52 : decode cX3_shows 52 = .ok (.aload_n 0, 1) := by decide +kernel
theorem dX3_shows_53 : decode cX3_shows 53 = .ok (.getfield 18, 3) := by decide +kernel
theorem dX3_shows_56 : decode cX3_shows 56 = .ok (.if_icmp .ge 20, 3) := by decide +kernel
theorem dX3_shows_59 : decode cX3_shows 59 = .ok (.iload_n 2, 1) := by decide +kernel
theorem dX3_shows_60 : decode cX3_shows 60 = .ok (.aload_n 0, 1) := by decide +kernel
theorem dX3_shows_61 : decode cX3_shows 61 = .ok (.getfield 12, 3) := by decide +kernel
theorem dX3_shows_64 : decode cX3_shows 64 = .ok (.iload_n 1, 1) := by decide +kernel
theorem dX3_shows_65 : decode cX3_shows 65 = .ok (.invokevirtual 97, 3) := by decide +kernel
theorem dX3_shows_68 : decode cX3_shows 68 = .ok (.iadd, 1) := by decide +kernel
theorem dX3_shows_69 : decode cX3_shows 69 = .ok (.ifCond .le 7, 3) := by decide +kernel
theorem dX3_shows_72 : decode cX3_shows 72 = .ok (.iconst 1, 1) := by decide +kernel
theorem dX3_shows_73 : decode cX3_shows 73 = .ok (.goto 4, 3) := by decide +kernel
theorem dX3_shows_76 : decode cX3_shows 76 = .ok (.iconst 0, 1) := by decide +kernel
theorem dX3_shows_77 : decode cX3_shows 77 = .ok (.ireturn, 1) := by decide +kernel
set_option maxRecDepth 20000 in
theorem ggX3_linesShown_X1_heightOf : GoodIn wsX3_linesShown wsX1_heightOf := goodIn_r _ [10, 11, 12, 13, 14, 15, 16, 9, 17, 18, 19, 20, 21, 22, 23, 24, 25, 26, 27, 28, 29, 34, 35, 36, 37, 38, 39, 40] (by decide +kernel) (by decide +kernel)
set_option maxRecDepth 20000 in
theorem gX3_linesShown_X1_heightOf : GoodIn wsX3_linesShown (wsV RX3 97 RX1 yX1_heightOf wsX1_heightOf) := goodIn_app (goodIn_of _ (by decide +kernel)) ggX3_linesShown_X1_heightOf
theorem dX3_linesShown_0 : decode cX3_linesShown 0 = .ok (.iconst 0, 1) := by decide +kernel
theorem dX3_linesShown_1 : decode cX3_linesShown 1 = .ok (.istore_n 1, 1) := by decide +kernel
theorem dX3_linesShown_2 : decode cX3_linesShown 2 = .ok (.aload_n 0, 1) := by decide +kernel
theorem dX3_linesShown_3 : decode cX3_linesShown 3 = .ok (.getfield 29, 3) := by decide +kernel
theorem dX3_linesShown_6 : decode cX3_linesShown 6 = .ok (.ineg, 1) := by decide +kernel
theorem dX3_linesShown_7 : decode cX3_linesShown 7 = .ok (.istore_n 2, 1) := by decide +kernel
theorem dX3_linesShown_8 : decode cX3_linesShown 8 = .ok (.aload_n 0, 1) := by decide +kernel
theorem dX3_linesShown_9 : decode cX3_linesShown 9 = .ok (.getfield 26, 3) := by decide +kernel
theorem dX3_linesShown_12 : decode cX3_linesShown 12 = .ok (.istore_n 3, 1) := by decide +kernel
theorem dX3_linesShown_13 : decode cX3_linesShown 13 = .ok (.iload_n 3, 1) := by decide +kernel
theorem dX3_linesShown_14 : decode cX3_linesShown 14 = .ok (.aload_n 0, 1) := by decide +kernel
theorem dX3_linesShown_15 : decode cX3_linesShown 15 = .ok (.getfield 12, 3) := by decide +kernel
theorem dX3_linesShown_18 : decode cX3_linesShown 18 = .ok (.getfield 32, 3) := by decide +kernel
theorem dX3_linesShown_21 : decode cX3_linesShown 21 = .ok (.if_icmp .ge 35, 3) := by decide +kernel
theorem dX3_linesShown_24 : decode cX3_linesShown 24 = .ok (.iload_n 2, 1) := by decide +kernel
theorem dX3_linesShown_25 : decode cX3_linesShown 25 = .ok (.aload_n 0, 1) := by decide +kernel
theorem dX3_linesShown_26 : decode cX3_linesShown 26 = .ok (.getfield 18, 3) := by decide +kernel
theorem dX3_linesShown_29 : decode cX3_linesShown 29 = .ok (.if_icmp .ge 27, 3) := by decide +kernel
theorem dX3_linesShown_32 : decode cX3_linesShown 32 = .ok (.iload_n 2, 1) := by decide +kernel
theorem dX3_linesShown_33 : decode cX3_linesShown 33 = .ok (.aload_n 0, 1) := by decide +kernel
theorem dX3_linesShown_34 : decode cX3_linesShown 34 = .ok (.getfield 12, 3) := by decide +kernel
theorem dX3_linesShown_37 : decode cX3_linesShown 37 = .ok (.iload_n 3, 1) := by decide +kernel
theorem dX3_linesShown_38 : decode cX3_linesShown 38 = .ok (.invokevirtual 97, 3) := by decide +kernel
theorem dX3_linesShown_41 : decode cX3_linesShown 41 = .ok (.iadd, 1) := by decide +kernel
theorem dX3_linesShown_42 : decode cX3_linesShown 42 = .ok (.istore_n 2, 1) := by decide +kernel
theorem dX3_linesShown_43 : decode cX3_linesShown 43 = .ok (.iload_n 2, 1) := by decide +kernel
theorem dX3_linesShown_44 : decode cX3_linesShown 44 = .ok (.ifCond .le 6, 3) := by decide +kernel
theorem dX3_linesShown_47 : decode cX3_linesShown 47 = .ok (.iinc 1 1, 3) := by decide +kernel
theorem dX3_linesShown_50 : decode cX3_linesShown 50 = .ok (.iinc 3 1, 3) := by decide +kernel
theorem dX3_linesShown_53 : decode cX3_linesShown 53 = .ok (.goto (-40), 3) := by decide +kernel
theorem dX3_linesShown_56 : decode cX3_linesShown 56 = .ok (.iload_n 1, 1) := by decide +kernel
theorem dX3_linesShown_57 : decode cX3_linesShown 57 = .ok (.ireturn, 1) := by decide +kernel
set_option maxRecDepth 20000 in
theorem ggX4_init_X3_init : GoodIn wsX4_init wsX3_init := goodIn_r _ [19, 20, 2, 3, 21, 22, 23, 24, 25, 26, 27, 28, 29, 30, 31, 32, 33, 34, 35, 36, 37, 69, 70, 71, 72, 73, 74, 75, 52, 53, 54, 55] (by decide +kernel) (by decide +kernel)
set_option maxRecDepth 20000 in
theorem gX4_init_X3_init : GoodIn wsX4_init (wsX3_init) := ggX4_init_X3_init
set_option maxRecDepth 20000 in
theorem ggX4_init_X0_init : GoodIn wsX4_init wsX0_init := goodIn_r _ [40, 41, 2, 3, 42, 43, 5, 6, 44, 18, 19, 20, 21, 22, 23, 24, 25, 26, 27, 28, 29, 30, 31, 32, 33, 34, 35, 36, 37, 60, 61, 62, 52, 53, 54, 55, 69, 70, 71, 72, 73, 74, 75] (by decide +kernel) (by decide +kernel)
set_option maxRecDepth 20000 in
theorem gX4_init_X0_init : GoodIn wsX4_init (wsX0_init) := ggX4_init_X0_init
set_option maxRecDepth 20000 in
theorem ggX4_init_X2_init : GoodIn wsX4_init wsX2_init := goodIn_r _ [47, 48, 2, 3, 49, 50, 30, 51, 63, 64, 65, 66, 67, 68] (by decide +kernel) (by decide +kernel)
set_option maxRecDepth 20000 in
theorem gX4_init_X2_init : GoodIn wsX4_init (wsX2_init) := ggX4_init_X2_init
theorem dX4_init_0 : decode cX4_init 0 = .ok (.aload_n 0, 1) := by decide +kernel
theorem dX4_init_1 : decode cX4_init 1 = .ok (.invokespecial 1, 3) := by decide +kernel
theorem dX4_init_4 : decode cX4_init 4 = .ok (.aload_n 0, 1) := by decide +kernel
theorem dX4_init_5 : decode cX4_init 5 = .ok (.new 7, 3) := by decide +kernel
theorem dX4_init_8 : decode cX4_init 8 = .ok (.dup, 1) := by decide +kernel
theorem dX4_init_9 : decode cX4_init 9 = .ok (.invokespecial 9, 3) := by decide +kernel
theorem dX4_init_12 : decode cX4_init 12 = .ok (.putfield 10, 3) := by decide +kernel
theorem dX4_init_15 : decode cX4_init 15 = .ok (.aload_n 0, 1) := by decide +kernel
theorem dX4_init_16 : decode cX4_init 16 = .ok (.new 7, 3) := by decide +kernel
theorem dX4_init_19 : decode cX4_init 19 = .ok (.dup, 1) := by decide +kernel
theorem dX4_init_20 : decode cX4_init 20 = .ok (.invokespecial 9, 3) := by decide +kernel
theorem dX4_init_23 : decode cX4_init 23 = .ok (.putfield 16, 3) := by decide +kernel
theorem dX4_init_26 : decode cX4_init 26 = .ok (.aload_n 0, 1) := by decide +kernel
theorem dX4_init_27 : decode cX4_init 27 = .ok (.new 19, 3) := by decide +kernel
theorem dX4_init_30 : decode cX4_init 30 = .ok (.dup, 1) := by decide +kernel
theorem dX4_init_31 : decode cX4_init 31 = .ok (.invokespecial 21, 3) := by decide +kernel
theorem dX4_init_34 : decode cX4_init 34 = .ok (.putfield 22, 3) := by decide +kernel
theorem dX4_init_37 : decode cX4_init 37 = .ok (.aload_n 0, 1) := by decide +kernel
theorem dX4_init_38 : decode cX4_init 38 = .ok (.new 26, 3) := by decide +kernel
theorem dX4_init_41 : decode cX4_init 41 = .ok (.dup, 1) := by decide +kernel
theorem dX4_init_42 : decode cX4_init 42 = .ok (.invokespecial 28, 3) := by decide +kernel
theorem dX4_init_45 : decode cX4_init 45 = .ok (.putfield 29, 3) := by decide +kernel
theorem dX4_init_48 : decode cX4_init 48 = .ok (.return_, 1) := by decide +kernel
set_option maxRecDepth 20000 in
theorem ggX4_put_X3_copyFrom : GoodIn wsX4_put wsX3_copyFrom := goodIn_r _ [7, 8, 9, 10, 11, 12, 13, 14, 15, 16, 17, 18, 19, 20, 21, 22, 23, 24, 25, 26, 27, 117, 118, 119, 120, 121, 122, 123, 124, 125, 126, 127] (by decide +kernel) (by decide +kernel)
set_option maxRecDepth 20000 in
theorem gX4_put_X3_copyFrom : GoodIn wsX4_put (wsV RX4 33 RX3 yX3_copyFrom wsX3_copyFrom) := goodIn_app (goodIn_of _ (by decide +kernel)) ggX4_put_X3_copyFrom
set_option maxRecDepth 20000 in
theorem ggX4_put_X3_putIn : GoodIn wsX4_put wsX3_putIn := goodIn_r _ [31, 8, 32, 33, 34, 10, 35, 36, 37, 38, 39, 40, 15, 41, 42, 43, 44, 45, 26, 17, 18, 19, 20, 21, 22, 23, 46, 47, 48, 6, 49, 11, 9, 50, 51, 52, 53, 54, 55, 56, 57, 24, 25, 58, 59, 60, 61, 62, 63, 64, 65, 66, 27, 67, 68, 69, 70, 71, 72, 73, 74, 75, 76, 77, 78, 79, 80, 81, 82, 83, 84, 85, 86, 87, 88, 89, 90, 91, 117, 118, 119, 120, 121, 122, 123, 124, 125, 126, 127] (by decide +kernel) (by decide +kernel)
set_option maxRecDepth 20000 in
theorem gX4_put_X3_putIn : GoodIn wsX4_put (wsV RX4 37 RX3 yX3_putIn wsX3_putIn) := goodIn_app (goodIn_of _ (by decide +kernel)) ggX4_put_X3_putIn
set_option maxRecDepth 20000 in
theorem ggX4_put_X4_keepDraft : GoodIn wsX4_put wsX4_keepDraft := goodIn_r _ [95, 96, 2, 1, 97, 98, 99, 100, 101, 102, 103, 104, 105, 81, 106, 107, 108, 109, 110, 111, 112, 4, 5, 6, 7, 8, 9, 10, 11, 12, 13, 14, 15, 16, 17, 18, 19, 20, 21, 22, 23, 24, 25, 26, 27, 3, 113, 114, 115, 116, 128, 129, 130, 117, 118, 119, 120, 121, 122, 123, 124, 125, 126, 127] (by decide +kernel) (by decide +kernel)
set_option maxRecDepth 20000 in
theorem gX4_put_X4_keepDraft : GoodIn wsX4_put (wsV RX4 41 RX4 yX4_keepDraft wsX4_keepDraft) := goodIn_app (goodIn_of _ (by decide +kernel)) ggX4_put_X4_keepDraft
theorem dX4_put_0 : decode cX4_put 0 = .ok (.aload_n 0, 1) := by decide +kernel
theorem dX4_put_1 : decode cX4_put 1 = .ok (.getfield 16, 3) := by decide +kernel
theorem dX4_put_4 : decode cX4_put 4 = .ok (.aload_n 0, 1) := by decide +kernel
theorem dX4_put_5 : decode cX4_put 5 = .ok (.getfield 10, 3) := by decide +kernel
theorem dX4_put_8 : decode cX4_put 8 = .ok (.invokevirtual 33, 3) := by decide +kernel
theorem dX4_put_11 : decode cX4_put 11 = .ok (.aload_n 0, 1) := by decide +kernel
theorem dX4_put_12 : decode cX4_put 12 = .ok (.aload_n 0, 1) := by decide +kernel
theorem dX4_put_13 : decode cX4_put 13 = .ok (.getfield 16, 3) := by decide +kernel
theorem dX4_put_16 : decode cX4_put 16 = .ok (.iload_n 1, 1) := by decide +kernel
theorem dX4_put_17 : decode cX4_put 17 = .ok (.iload_n 2, 1) := by decide +kernel
theorem dX4_put_18 : decode cX4_put 18 = .ok (.iload_n 3, 1) := by decide +kernel
theorem dX4_put_19 : decode cX4_put 19 = .ok (.invokevirtual 37, 3) := by decide +kernel
theorem dX4_put_22 : decode cX4_put 22 = .ok (.invokevirtual 41, 3) := by decide +kernel
theorem dX4_put_25 : decode cX4_put 25 = .ok (.ireturn, 1) := by decide +kernel
set_option maxRecDepth 20000 in
theorem ggX4_cut_X3_copyFrom : GoodIn wsX4_cut wsX3_copyFrom := goodIn_r _ [7, 8, 9, 10, 11, 12, 13, 14, 15, 16, 17, 18, 19, 20, 21, 22, 23, 24, 25, 26, 27, 109, 110, 111, 112, 113, 114, 115, 116, 117, 118, 119] (by decide +kernel) (by decide +kernel)
set_option maxRecDepth 20000 in
theorem gX4_cut_X3_copyFrom : GoodIn wsX4_cut (wsV RX4 33 RX3 yX3_copyFrom wsX3_copyFrom) := goodIn_app (goodIn_of _ (by decide +kernel)) ggX4_cut_X3_copyFrom
set_option maxRecDepth 20000 in
theorem ggX4_cut_X3_takeOut : GoodIn wsX4_cut wsX3_takeOut := goodIn_r _ [31, 8, 32, 33, 10, 11, 34, 35, 36, 15, 37, 26, 38, 39, 40, 41, 17, 18, 19, 20, 21, 22, 23, 42, 43, 44, 45, 46, 24, 25, 47, 48, 49, 50, 51, 52, 53, 54, 27, 55, 56, 57, 6, 58, 9, 59, 60, 61, 62, 63, 64, 65, 66, 67, 68, 69, 70, 71, 72, 73, 74, 75, 76, 77, 78, 79, 80, 81, 82, 109, 110, 111, 112, 113, 114, 115, 116, 117, 118, 119] (by decide +kernel) (by decide +kernel)
set_option maxRecDepth 20000 in
theorem gX4_cut_X3_takeOut : GoodIn wsX4_cut (wsV RX4 45 RX3 yX3_takeOut wsX3_takeOut) := goodIn_app (goodIn_of _ (by decide +kernel)) ggX4_cut_X3_takeOut
set_option maxRecDepth 20000 in
theorem ggX4_cut_X4_keepDraft : GoodIn wsX4_cut wsX4_keepDraft := goodIn_r _ [87, 88, 2, 1, 89, 90, 91, 92, 93, 94, 95, 96, 97, 81, 98, 99, 100, 101, 102, 103, 104, 4, 5, 6, 7, 8, 9, 10, 11, 12, 13, 14, 15, 16, 17, 18, 19, 20, 21, 22, 23, 24, 25, 26, 27, 3, 105, 106, 107, 108, 120, 121, 122, 109, 110, 111, 112, 113, 114, 115, 116, 117, 118, 119] (by decide +kernel) (by decide +kernel)
set_option maxRecDepth 20000 in
theorem gX4_cut_X4_keepDraft : GoodIn wsX4_cut (wsV RX4 41 RX4 yX4_keepDraft wsX4_keepDraft) := goodIn_app (goodIn_of _ (by decide +kernel)) ggX4_cut_X4_keepDraft
theorem dX4_cut_0 : decode cX4_cut 0 = .ok (.aload_n 0, 1) := by decide +kernel
theorem dX4_cut_1 : decode cX4_cut 1 = .ok (.getfield 16, 3) := by decide +kernel
theorem dX4_cut_4 : decode cX4_cut 4 = .ok (.aload_n 0, 1) := by decide +kernel
theorem dX4_cut_5 : decode cX4_cut 5 = .ok (.getfield 10, 3) := by decide +kernel
theorem dX4_cut_8 : decode cX4_cut 8 = .ok (.invokevirtual 33, 3) := by decide +kernel
theorem dX4_cut_11 : decode cX4_cut 11 = .ok (.aload_n 0, 1) := by decide +kernel
theorem dX4_cut_12 : decode cX4_cut 12 = .ok (.aload_n 0, 1) := by decide +kernel
theorem dX4_cut_13 : decode cX4_cut 13 = .ok (.getfield 16, 3) := by decide +kernel
theorem dX4_cut_16 : decode cX4_cut 16 = .ok (.iload_n 1, 1) := by decide +kernel
theorem dX4_cut_17 : decode cX4_cut 17 = .ok (.invokevirtual 45, 3) := by decide +kernel
