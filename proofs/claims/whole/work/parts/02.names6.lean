theorem dX5_line_145 : decode cX5_line 145 = .ok (.ldc 36, 2) := by decide +kernel
theorem dX5_line_147 : decode cX5_line 147 = .ok (.ireturn, 1) := by decide +kernel
set_option maxRecDepth 20000 in
theorem ggX5_seen_X5_in : GoodIn wsX5_seen wsX5_in := goodIn_r _ [6] (by decide +kernel) (by decide +kernel)
set_option maxRecDepth 20000 in
theorem gX5_seen_X5_in : GoodIn wsX5_seen (va_wsS RX5 37 yX5_in wsX5_in) := goodIn_app (goodIn_of _ (by decide +kernel)) ggX5_seen_X5_in
set_option maxRecDepth 20000 in
theorem ggX5_seen_X5_windowOf : GoodIn wsX5_seen wsX5_windowOf := goodIn_r _ [10, 11, 12, 13, 5, 14, 15, 16, 17, 18, 19, 20, 21, 22, 23, 24, 25, 26, 27, 28, 29, 35, 36, 37, 38, 39, 40, 41, 42, 43, 44, 45, 46] (by decide +kernel) (by decide +kernel)
set_option maxRecDepth 20000 in
theorem gX5_seen_X5_windowOf : GoodIn wsX5_seen (wsV RX5 64 RX5 yX5_windowOf wsX5_windowOf) := goodIn_app (goodIn_of _ (by decide +kernel)) ggX5_seen_X5_windowOf
set_option maxRecDepth 20000 in
theorem ggX5_seen_X5_lineAt : GoodIn wsX5_seen wsX5_lineAt := goodIn_r _ [33, 34, 15, 16, 17, 5, 18, 19, 20, 21, 22, 23, 24, 25, 26, 27, 28, 29, 35, 36, 37, 38, 39, 40, 41, 42, 43, 44, 45, 46] (by decide +kernel) (by decide +kernel)
set_option maxRecDepth 20000 in
theorem gX5_seen_X5_lineAt : GoodIn wsX5_seen (wsV RX5 86 RX5 yX5_lineAt wsX5_lineAt) := goodIn_app (goodIn_of _ (by decide +kernel)) ggX5_seen_X5_lineAt
theorem dX5_seen_0 : decode cX5_seen 0 = .ok (.iload_n 1, 1) := by decide +kernel
theorem dX5_seen_1 : decode cX5_seen 1 = .ok (.iconst 0, 1) := by decide +kernel
theorem dX5_seen_2 : decode cX5_seen 2 = .ok (.aload_n 0, 1) := by decide +kernel
theorem dX5_seen_3 : decode cX5_seen 3 = .ok (.getfield 7, 3) := by decide +kernel
theorem dX5_seen_6 : decode cX5_seen 6 = .ok (.iconst 3, 1) := by decide +kernel
theorem dX5_seen_7 : decode cX5_seen 7 = .ok (.iaload, 1) := by decide +kernel
theorem dX5_seen_8 : decode cX5_seen 8 = .ok (.iconst 1, 1) := by decide +kernel
theorem dX5_seen_9 : decode cX5_seen 9 = .ok (.isub, 1) := by decide +kernel
theorem dX5_seen_10 : decode cX5_seen 10 = .ok (.invokestatic 37, 3) := by decide +kernel
theorem dX5_seen_13 : decode cX5_seen 13 = .ok (.ifCond .eq 24, 3) := by decide +kernel
theorem dX5_seen_16 : decode cX5_seen 16 = .ok (.aload_n 0, 1) := by decide +kernel
theorem dX5_seen_17 : decode cX5_seen 17 = .ok (.aload_n 0, 1) := by decide +kernel
theorem dX5_seen_18 : decode cX5_seen 18 = .ok (.getfield 7, 3) := by decide +kernel
theorem dX5_seen_21 : decode cX5_seen 21 = .ok (.aload_n 0, 1) := by decide +kernel
theorem dX5_seen_22 : decode cX5_seen 22 = .ok (.aload_n 0, 1) := by decide +kernel
theorem dX5_seen_23 : decode cX5_seen 23 = .ok (.getfield 7, 3) := by decide +kernel
theorem dX5_seen_26 : decode cX5_seen 26 = .ok (.invokevirtual 64, 3) := by decide +kernel
theorem dX5_seen_29 : decode cX5_seen 29 = .ok (.iload_n 1, 1) := by decide +kernel
theorem dX5_seen_30 : decode cX5_seen 30 = .ok (.iadd, 1) := by decide +kernel
theorem dX5_seen_31 : decode cX5_seen 31 = .ok (.invokevirtual 86, 3) := by decide +kernel
theorem dX5_seen_34 : decode cX5_seen 34 = .ok (.goto 5, 3) := by decide +kernel
theorem dX5_seen_37 : decode cX5_seen 37 = .ok (.ldc 36, 2) := by decide +kernel
theorem dX5_seen_39 : decode cX5_seen 39 = .ok (.ireturn, 1) := by decide +kernel
set_option maxRecDepth 20000 in
theorem ggX5_at_X5_lineAt : GoodIn wsX5_at wsX5_lineAt := goodIn_r _ [7, 8, 9, 10, 11, 6, 12, 13, 14, 15, 16, 17, 18, 19, 20, 21, 22, 23, 24, 25, 26, 27, 28, 29, 30, 31, 32, 33, 34, 35] (by decide +kernel) (by decide +kernel)
set_option maxRecDepth 20000 in
theorem gX5_at_X5_lineAt : GoodIn wsX5_at (wsV RX5 86 RX5 yX5_lineAt wsX5_lineAt) := goodIn_app (goodIn_of _ (by decide +kernel)) ggX5_at_X5_lineAt
theorem dX5_at_0 : decode cX5_at 0 = .ok (.iload_n 1, 1) := by decide +kernel
theorem dX5_at_1 : decode cX5_at 1 = .ok (.ifCond .ge 8, 3) := by decide +kernel
theorem dX5_at_4 : decode cX5_at 4 = .ok (.ldc 36, 2) := by decide +kernel
theorem dX5_at_6 : decode cX5_at 6 = .ok (.goto 12, 3) := by decide +kernel
theorem dX5_at_9 : decode cX5_at 9 = .ok (.aload_n 0, 1) := by decide +kernel
theorem dX5_at_10 : decode cX5_at 10 = .ok (.aload_n 0, 1) := by decide +kernel
theorem dX5_at_11 : decode cX5_at 11 = .ok (.getfield 7, 3) := by decide +kernel
theorem dX5_at_14 : decode cX5_at 14 = .ok (.iload_n 1, 1) := by decide +kernel
theorem dX5_at_15 : decode cX5_at 15 = .ok (.invokevirtual 86, 3) := by decide +kernel
theorem dX5_at_18 : decode cX5_at 18 = .ok (.ireturn, 1) := by decide +kernel
set_option maxRecDepth 20000 in
theorem ggX5_share_X5_total : GoodIn wsX5_share wsX5_total := goodIn_r _ [6, 7, 8, 9, 5, 10, 11, 12, 13, 14, 15, 16, 17, 18, 19, 20, 21, 22, 23, 24, 25, 30, 31, 32, 33, 34, 35, 36, 37, 38, 39, 40, 41] (by decide +kernel) (by decide +kernel)
set_option maxRecDepth 20000 in
theorem gX5_share_X5_total : GoodIn wsX5_share (wsV RX5 74 RX5 yX5_total wsX5_total) := goodIn_app (goodIn_of _ (by decide +kernel)) ggX5_share_X5_total
set_option maxRecDepth 20000 in
theorem ggX5_share_X5_windowOf : GoodIn wsX5_share wsX5_windowOf := goodIn_r _ [29, 7, 8, 9, 5, 10, 11, 12, 13, 14, 15, 16, 17, 18, 19, 20, 21, 22, 23, 24, 25, 30, 31, 32, 33, 34, 35, 36, 37, 38, 39, 40, 41] (by decide +kernel) (by decide +kernel)
set_option maxRecDepth 20000 in
theorem gX5_share_X5_windowOf : GoodIn wsX5_share (wsV RX5 64 RX5 yX5_windowOf wsX5_windowOf) := goodIn_app (goodIn_of _ (by decide +kernel)) ggX5_share_X5_windowOf
theorem dX5_share_0 : decode cX5_share 0 = .ok (.aload_n 0, 1) := by decide +kernel
theorem dX5_share_1 : decode cX5_share 1 = .ok (.aload_n 0, 1) := by decide +kernel
theorem dX5_share_2 : decode cX5_share 2 = .ok (.getfield 7, 3) := by decide +kernel
theorem dX5_share_5 : decode cX5_share 5 = .ok (.invokevirtual 74, 3) := by decide +kernel
theorem dX5_share_8 : decode cX5_share 8 = .ok (.aload_n 0, 1) := by decide +kernel
theorem dX5_share_9 : decode cX5_share 9 = .ok (.getfield 7, 3) := by decide +kernel
theorem dX5_share_12 : decode cX5_share 12 = .ok (.iconst 3, 1) := by decide +kernel
theorem dX5_share_13 : decode cX5_share 13 = .ok (.iaload, 1) := by decide +kernel
theorem dX5_share_14 : decode cX5_share 14 = .ok (.isub, 1) := by decide +kernel
theorem dX5_share_15 : decode cX5_share 15 = .ok (.istore_n 1, 1) := by decide +kernel
theorem dX5_share_16 : decode cX5_share 16 = .ok (.iload_n 1, 1) := by decide +kernel
theorem dX5_share_17 : decode cX5_share 17 = .ok (.ifCond .gt 7, 3) := by decide +kernel
theorem dX5_share_20 : decode cX5_share 20 = .ok (.iconst 0, 1) := by decide +kernel
theorem dX5_share_21 : decode cX5_share 21 = .ok (.goto 17, 3) := by decide +kernel
theorem dX5_share_24 : decode cX5_share 24 = .ok (.aload_n 0, 1) := by decide +kernel
theorem dX5_share_25 : decode cX5_share 25 = .ok (.aload_n 0, 1) := by decide +kernel
theorem dX5_share_26 : decode cX5_share 26 = .ok (.getfield 7, 3) := by decide +kernel
theorem dX5_share_29 : decode cX5_share 29 = .ok (.invokevirtual 64, 3) := by decide +kernel
theorem dX5_share_32 : decode cX5_share 32 = .ok (.sipush 1000, 3) := by decide +kernel
theorem dX5_share_35 : decode cX5_share 35 = .ok (.imul, 1) := by decide +kernel
theorem dX5_share_36 : decode cX5_share 36 = .ok (.iload_n 1, 1) := by decide +kernel
theorem dX5_share_37 : decode cX5_share 37 = .ok (.idiv, 1) := by decide +kernel
theorem dX5_share_38 : decode cX5_share 38 = .ok (.ireturn, 1) := by decide +kernel
set_option maxRecDepth 20000 in
theorem ggX5_trueSum_X5_isLine : GoodIn wsX5_trueSum wsX5_isLine := goodIn_r _ [7, 2, 8, 9, 6, 10, 17, 18, 19, 20, 21, 22, 23, 24, 25, 26, 27, 28] (by decide +kernel) (by decide +kernel)
set_option maxRecDepth 20000 in
theorem gX5_trueSum_X5_isLine : GoodIn wsX5_trueSum (wsV RX5 77 RX5 yX5_isLine wsX5_isLine) := goodIn_app (goodIn_of _ (by decide +kernel)) ggX5_trueSum_X5_isLine
set_option maxRecDepth 20000 in
theorem ggX5_trueSum_X5_trueOf : GoodIn wsX5_trueSum wsX5_trueOf := goodIn_r _ [13, 14, 15, 6, 16] (by decide +kernel) (by decide +kernel)
set_option maxRecDepth 20000 in
theorem gX5_trueSum_X5_trueOf : GoodIn wsX5_trueSum (va_wsS RX5 49 yX5_trueOf wsX5_trueOf) := goodIn_app (goodIn_of _ (by decide +kernel)) ggX5_trueSum_X5_trueOf
theorem dX5_trueSum_0 : decode cX5_trueSum 0 = .ok (.aload_n 0, 1) := by decide +kernel
theorem dX5_trueSum_1 : decode cX5_trueSum 1 = .ok (.iload_n 1, 1) := by decide +kernel
theorem dX5_trueSum_2 : decode cX5_trueSum 2 = .ok (.invokevirtual 77, 3) := by decide +kernel
theorem dX5_trueSum_5 : decode cX5_trueSum 5 = .ok (.ifCond .eq 16, 3) := by decide +kernel
theorem dX5_trueSum_8 : decode cX5_trueSum 8 = .ok (.aload_n 0, 1) := by decide +kernel
theorem dX5_trueSum_9 : decode cX5_trueSum 9 = .ok (.iload_n 2, 1) := by decide +kernel
theorem dX5_trueSum_10 : decode cX5_trueSum 10 = .ok (.invokevirtual 77, 3) := by decide +kernel
theorem dX5_trueSum_13 : decode cX5_trueSum 13 = .ok (.ifCond .eq 8, 3) := by decide +kernel
theorem dX5_trueSum_16 : decode cX5_trueSum 16 = .ok (.iload_n 2, 1) := by decide +kernel
theorem dX5_trueSum_17 : decode cX5_trueSum 17 = .ok (.iload_n 1, 1) := by decide +kernel
theorem dX5_trueSum_18 : decode cX5_trueSum 18 = .ok (.if_icmp .ge 6, 3) := by decide +kernel
theorem dX5_trueSum_21 : decode cX5_trueSum 21 = .ok (.ldc 36, 2) := by decide +kernel
theorem dX5_trueSum_23 : decode cX5_trueSum 23 = .ok (.ireturn, 1) := by decide +kernel
theorem dX5_trueSum_24 : decode cX5_trueSum 24 = .ok (.iconst 0, 1) := by decide +kernel
theorem dX5_trueSum_25 : decode cX5_trueSum 25 = .ok (.istore_n 3, 1) := by decide +kernel
theorem dX5_trueSum_26 : decode cX5_trueSum 26 = .ok (.iload_n 1, 1) := by decide +kernel
theorem dX5_trueSum_27 : decode cX5_trueSum 27 = .ok (.istore 4, 2) := by decide +kernel
theorem dX5_trueSum_29 : decode cX5_trueSum 29 = .ok (.iload 4, 2) := by decide +kernel
theorem dX5_trueSum_31 : decode cX5_trueSum 31 = .ok (.iload_n 2, 1) := by decide +kernel
theorem dX5_trueSum_32 : decode cX5_trueSum 32 = .ok (.if_icmp .gt 21, 3) := by decide +kernel
theorem dX5_trueSum_35 : decode cX5_trueSum 35 = .ok (.iload_n 3, 1) := by decide +kernel
theorem dX5_trueSum_36 : decode cX5_trueSum 36 = .ok (.aload_n 0, 1) := by decide +kernel
theorem dX5_trueSum_37 : decode cX5_trueSum 37 = .ok (.getfield 7, 3) := by decide +kernel
theorem dX5_trueSum_40 : decode cX5_trueSum 40 = .ok (.iload 4, 2) := by decide +kernel
theorem dX5_trueSum_42 : decode cX5_trueSum 42 = .ok (.invokestatic 49, 3) := by decide +kernel
theorem dX5_trueSum_45 : decode cX5_trueSum 45 = .ok (.iadd, 1) := by decide +kernel
theorem dX5_trueSum_46 : decode cX5_trueSum 46 = .ok (.istore_n 3, 1) := by decide +kernel
theorem dX5_trueSum_47 : decode cX5_trueSum 47 = .ok (.iinc 4 1, 3) := by decide +kernel
theorem dX5_trueSum_50 : decode cX5_trueSum 50 = .ok (.goto (-21), 3) := by decide +kernel
theorem dX5_trueSum_53 : decode cX5_trueSum 53 = .ok (.iload_n 3, 1) := by decide +kernel
theorem dX5_trueSum_54 : decode cX5_trueSum 54 = .ok (.ireturn, 1) := by decide +kernel
set_option maxRecDepth 20000 in
theorem ggX5_scrollsTo_X5_isLine : GoodIn wsX5_scrollsTo wsX5_isLine := goodIn_r _ [9, 2, 10, 11, 8, 12, 52, 53, 54, 55, 56, 57, 58, 59, 60, 61, 62, 63] (by decide +kernel) (by decide +kernel)
set_option maxRecDepth 20000 in
theorem gX5_scrollsTo_X5_isLine : GoodIn wsX5_scrollsTo (wsV RX5 77 RX5 yX5_isLine wsX5_isLine) := goodIn_app (goodIn_of _ (by decide +kernel)) ggX5_scrollsTo_X5_isLine
set_option maxRecDepth 20000 in
theorem ggX5_scrollsTo_X5_in : GoodIn wsX5_scrollsTo wsX5_in := goodIn_r _ [12] (by decide +kernel) (by decide +kernel)
set_option maxRecDepth 20000 in
theorem gX5_scrollsTo_X5_in : GoodIn wsX5_scrollsTo (va_wsS RX5 37 yX5_in wsX5_in) := goodIn_app (goodIn_of _ (by decide +kernel)) ggX5_scrollsTo_X5_in
set_option maxRecDepth 20000 in
theorem ggX5_scrollsTo_X5_copies : GoodIn wsX5_scrollsTo wsX5_copies := goodIn_r _ [15] (by decide +kernel) (by decide +kernel)
set_option maxRecDepth 20000 in
theorem gX5_scrollsTo_X5_copies : GoodIn wsX5_scrollsTo (va_wsS RX5 31 yX5_copies wsX5_copies) := goodIn_app (goodIn_of _ (by decide +kernel)) ggX5_scrollsTo_X5_copies
set_option maxRecDepth 20000 in
theorem ggX5_scrollsTo_X5_isSeen : GoodIn wsX5_scrollsTo wsX5_isSeen := goodIn_r _ [19, 20, 21, 22, 8, 23, 24, 25, 26, 27, 28, 29, 30, 31, 32, 33, 34, 35, 36, 37, 38, 39, 40, 41, 42, 52, 53, 54, 55, 56, 57, 58, 59, 60, 61, 62, 63] (by decide +kernel) (by decide +kernel)
set_option maxRecDepth 20000 in
theorem gX5_scrollsTo_X5_isSeen : GoodIn wsX5_scrollsTo (wsV RX5 150 RX5 yX5_isSeen wsX5_isSeen) := goodIn_app (goodIn_of _ (by decide +kernel)) ggX5_scrollsTo_X5_isSeen
set_option maxRecDepth 20000 in
theorem ggX5_scrollsTo_X5_scrolls : GoodIn wsX5_scrollsTo wsX5_scrolls := goodIn_r _ [45, 46, 47, 8, 48, 29, 30, 31, 32, 33, 34, 49, 50, 51] (by decide +kernel) (by decide +kernel)
set_option maxRecDepth 20000 in
theorem gX5_scrollsTo_X5_scrolls : GoodIn wsX5_scrollsTo (va_wsS RX5 82 yX5_scrolls wsX5_scrolls) := goodIn_app (goodIn_of _ (by decide +kernel)) ggX5_scrollsTo_X5_scrolls
theorem dX5_scrollsTo_0 : decode cX5_scrollsTo 0 = .ok (.aload_n 0, 1) := by decide +kernel
theorem dX5_scrollsTo_1 : decode cX5_scrollsTo 1 = .ok (.iload_n 1, 1) := by decide +kernel
theorem dX5_scrollsTo_2 : decode cX5_scrollsTo 2 = .ok (.invokevirtual 77, 3) := by decide +kernel
theorem dX5_scrollsTo_5 : decode cX5_scrollsTo 5 = .ok (.ifCond .eq 20, 3) := by decide +kernel
theorem dX5_scrollsTo_8 : decode cX5_scrollsTo 8 = .ok (.iload_n 2, 1) := by decide +kernel
theorem dX5_scrollsTo_9 : decode cX5_scrollsTo 9 = .ok (.sipush (-9999), 3) := by decide +kernel
theorem dX5_scrollsTo_12 : decode cX5_scrollsTo 12 = .ok (.sipush 9999, 3) := by decide +kernel
theorem dX5_scrollsTo_15 : decode cX5_scrollsTo 15 = .ok (.invokestatic 37, 3) := by decide +kernel
theorem dX5_scrollsTo_18 : decode cX5_scrollsTo 18 = .ok (.ifCond .eq 7, 3) := by decide +kernel
theorem dX5_scrollsTo_21 : decode cX5_scrollsTo 21 = .ok (.iload_n 2, 1) := by decide +kernel
theorem dX5_scrollsTo_22 : decode cX5_scrollsTo 22 = .ok (.ifCond .ne 6, 3) := by decide +kernel
theorem dX5_scrollsTo_25 : decode cX5_scrollsTo 25 = .ok (.ldc 36, 2) := by decide +kernel
theorem dX5_scrollsTo_27 : decode cX5_scrollsTo 27 = .ok (.ireturn, 1) := by decide +kernel
theorem dX5_scrollsTo_28 : decode cX5_scrollsTo 28 = .ok (.aload_n 0, 1) := by decide +kernel
theorem dX5_scrollsTo_29 : decode cX5_scrollsTo 29 = .ok (.getfield 7, 3) := by decide +kernel
theorem dX5_scrollsTo_32 : decode cX5_scrollsTo 32 = .ok (.iconst 0, 1) := by decide +kernel
theorem dX5_scrollsTo_33 : decode cX5_scrollsTo 33 = .ok (.aload_n 0, 1) := by decide +kernel
theorem dX5_scrollsTo_34 : decode cX5_scrollsTo 34 = .ok (.getfield 16, 3) := by decide +kernel
theorem dX5_scrollsTo_37 : decode cX5_scrollsTo 37 = .ok (.iconst 0, 1) := by decide +kernel
theorem dX5_scrollsTo_38 : decode cX5_scrollsTo 38 = .ok (.invokestatic 31, 3) := by decide +kernel
theorem dX5_scrollsTo_41 : decode cX5_scrollsTo 41 = .ok (.iconst 0, 1) := by decide +kernel
theorem dX5_scrollsTo_42 : decode cX5_scrollsTo 42 = .ok (.istore_n 3, 1) := by decide +kernel
theorem dX5_scrollsTo_43 : decode cX5_scrollsTo 43 = .ok (.iload_n 3, 1) := by decide +kernel
theorem dX5_scrollsTo_44 : decode cX5_scrollsTo 44 = .ok (.bipush 101, 2) := by decide +kernel
theorem dX5_scrollsTo_46 : decode cX5_scrollsTo 46 = .ok (.if_icmp .ge 31, 3) := by decide +kernel
theorem dX5_scrollsTo_49 : decode cX5_scrollsTo 49 = .ok (.aload_n 0, 1) := by decide +kernel
theorem dX5_scrollsTo_50 : decode cX5_scrollsTo 50 = .ok (.aload_n 0, 1) := by decide +kernel
theorem dX5_scrollsTo_51 : decode cX5_scrollsTo 51 = .ok (.getfield 16, 3) := by decide +kernel
theorem dX5_scrollsTo_54 : decode cX5_scrollsTo 54 = .ok (.iload_n 1, 1) := by decide +kernel
theorem dX5_scrollsTo_55 : decode cX5_scrollsTo 55 = .ok (.invokevirtual 150, 3) := by decide +kernel
theorem dX5_scrollsTo_58 : decode cX5_scrollsTo 58 = .ok (.ifCond .eq 5, 3) := by decide +kernel
theorem dX5_scrollsTo_61 : decode cX5_scrollsTo 61 = .ok (.iload_n 3, 1) := by decide +kernel
theorem dX5_scrollsTo_62 : decode cX5_scrollsTo 62 = .ok (.ireturn, 1) := by decide +kernel
theorem dX5_scrollsTo_63 : decode cX5_scrollsTo 63 = .ok (.aload_n 0, 1) := by decide +kernel
theorem dX5_scrollsTo_64 : decode cX5_scrollsTo 64 = .ok (.getfield 16, 3) := by decide +kernel
theorem dX5_scrollsTo_67 : decode cX5_scrollsTo 67 = .ok (.iload_n 2, 1) := by decide +kernel
theorem dX5_scrollsTo_68 : decode cX5_scrollsTo 68 = .ok (.invokestatic 82, 3) := by decide +kernel
theorem dX5_scrollsTo_71 : decode cX5_scrollsTo 71 = .ok (.iinc 3 1, 3) := by decide +kernel
theorem dX5_scrollsTo_74 : decode cX5_scrollsTo 74 = .ok (.goto (-31), 3) := by decide +kernel
theorem dX5_scrollsTo_77 : decode cX5_scrollsTo 77 = .ok (.ldc 63, 2) := by decide +kernel
theorem dX5_scrollsTo_79 : decode cX5_scrollsTo 79 = .ok (.ireturn, 1) := by decide +kernel
set_option maxRecDepth 20000 in
theorem ggX5_measuredBy_X5_in : GoodIn wsX5_measuredBy wsX5_in := goodIn_r _ [7] (by decide +kernel) (by decide +kernel)
set_option maxRecDepth 20000 in
theorem gX5_measuredBy_X5_in : GoodIn wsX5_measuredBy (va_wsS RX5 37 yX5_in wsX5_in) := goodIn_app (goodIn_of _ (by decide +kernel)) ggX5_measuredBy_X5_in
set_option maxRecDepth 20000 in
theorem ggX5_measuredBy_X5_copies : GoodIn wsX5_measuredBy wsX5_copies := goodIn_r _ [10] (by decide +kernel) (by decide +kernel)
set_option maxRecDepth 20000 in
theorem gX5_measuredBy_X5_copies : GoodIn wsX5_measuredBy (va_wsS RX5 31 yX5_copies wsX5_copies) := goodIn_app (goodIn_of _ (by decide +kernel)) ggX5_measuredBy_X5_copies
set_option maxRecDepth 20000 in
theorem ggX5_measuredBy_X5_jumps : GoodIn wsX5_measuredBy wsX5_jumps := goodIn_r _ [14, 15, 16, 17, 6, 18, 19, 20, 21, 22, 23, 24, 25, 26, 27, 28, 29, 30, 31, 32, 33, 34, 35, 36, 37, 38, 39, 40, 41, 42, 43, 44, 45, 46, 47, 48, 53, 54, 55, 56, 57, 58, 59, 60, 61, 62, 63, 64] (by decide +kernel) (by decide +kernel)
set_option maxRecDepth 20000 in
theorem gX5_measuredBy_X5_jumps : GoodIn wsX5_measuredBy (wsV RX5 89 RX5 yX5_jumps wsX5_jumps) := goodIn_app (goodIn_of _ (by decide +kernel)) ggX5_measuredBy_X5_jumps
set_option maxRecDepth 20000 in
theorem ggX5_measuredBy_X5_measured : GoodIn wsX5_measuredBy wsX5_measured := goodIn_r _ [52, 28, 29, 6, 30] (by decide +kernel) (by decide +kernel)
set_option maxRecDepth 20000 in
theorem gX5_measuredBy_X5_measured : GoodIn wsX5_measuredBy (wsV RX5 154 RX5 yX5_measured wsX5_measured) := goodIn_app (goodIn_of _ (by decide +kernel)) ggX5_measuredBy_X5_measured
theorem dX5_measuredBy_0 : decode cX5_measuredBy 0 = .ok (.iload_n 1, 1) := by decide +kernel
theorem dX5_measuredBy_1 : decode cX5_measuredBy 1 = .ok (.iconst 0, 1) := by decide +kernel
theorem dX5_measuredBy_2 : decode cX5_measuredBy 2 = .ok (.sipush 1000, 3) := by decide +kernel
theorem dX5_measuredBy_5 : decode cX5_measuredBy 5 = .ok (.invokestatic 37, 3) := by decide +kernel
theorem dX5_measuredBy_8 : decode cX5_measuredBy 8 = .ok (.ifCond .ne 6, 3) := by decide +kernel
theorem dX5_measuredBy_11 : decode cX5_measuredBy 11 = .ok (.ldc 36, 2) := by decide +kernel
theorem dX5_measuredBy_13 : decode cX5_measuredBy 13 = .ok (.ireturn, 1) := by decide +kernel
theorem dX5_measuredBy_14 : decode cX5_measuredBy 14 = .ok (.aload_n 0, 1) := by decide +kernel
theorem dX5_measuredBy_15 : decode cX5_measuredBy 15 = .ok (.getfield 7, 3) := by decide +kernel
theorem dX5_measuredBy_18 : decode cX5_measuredBy 18 = .ok (.iconst 0, 1) := by decide +kernel
theorem dX5_measuredBy_19 : decode cX5_measuredBy 19 = .ok (.iaload, 1) := by decide +kernel
theorem dX5_measuredBy_20 : decode cX5_measuredBy 20 = .ok (.ifCond .ne 5, 3) := by decide +kernel
theorem dX5_measuredBy_23 : decode cX5_measuredBy 23 = .ok (.iconst 0, 1) := by decide +kernel
theorem dX5_measuredBy_24 : decode cX5_measuredBy 24 = .ok (.ireturn, 1) := by decide +kernel
theorem dX5_measuredBy_25 : decode cX5_measuredBy 25 = .ok (.aload_n 0, 1) := by decide +kernel
theorem dX5_measuredBy_26 : decode cX5_measuredBy 26 = .ok (.getfield 7, 3) := by decide +kernel
theorem dX5_measuredBy_29 : decode cX5_measuredBy 29 = .ok (.iconst 0, 1) := by decide +kernel
theorem dX5_measuredBy_30 : decode cX5_measuredBy 30 = .ok (.aload_n 0, 1) := by decide +kernel
theorem dX5_measuredBy_31 : decode cX5_measuredBy 31 = .ok (.getfield 16, 3) := by decide +kernel
theorem dX5_measuredBy_34 : decode cX5_measuredBy 34 = .ok (.iconst 0, 1) := by decide +kernel
theorem dX5_measuredBy_35 : decode cX5_measuredBy 35 = .ok (.invokestatic 31, 3) := by decide +kernel
theorem dX5_measuredBy_38 : decode cX5_measuredBy 38 = .ok (.aload_n 0, 1) := by decide +kernel
theorem dX5_measuredBy_39 : decode cX5_measuredBy 39 = .ok (.aload_n 0, 1) := by decide +kernel
theorem dX5_measuredBy_40 : decode cX5_measuredBy 40 = .ok (.getfield 16, 3) := by decide +kernel
theorem dX5_measuredBy_43 : decode cX5_measuredBy 43 = .ok (.iload_n 1, 1) := by decide +kernel
theorem dX5_measuredBy_44 : decode cX5_measuredBy 44 = .ok (.invokevirtual 89, 3) := by decide +kernel
theorem dX5_measuredBy_47 : decode cX5_measuredBy 47 = .ok (.aload_n 0, 1) := by decide +kernel
theorem dX5_measuredBy_48 : decode cX5_measuredBy 48 = .ok (.aload_n 0, 1) := by decide +kernel
theorem dX5_measuredBy_49 : decode cX5_measuredBy 49 = .ok (.getfield 16, 3) := by decide +kernel
theorem dX5_measuredBy_52 : decode cX5_measuredBy 52 = .ok (.invokevirtual 154, 3) := by decide +kernel
theorem dX5_measuredBy_55 : decode cX5_measuredBy 55 = .ok (.aload_n 0, 1) := by decide +kernel
theorem dX5_measuredBy_56 : decode cX5_measuredBy 56 = .ok (.aload_n 0, 1) := by decide +kernel
theorem dX5_measuredBy_57 : decode cX5_measuredBy 57 = .ok (.getfield 7, 3) := by decide +kernel
theorem dX5_measuredBy_60 : decode cX5_measuredBy 60 = .ok (.invokevirtual 154, 3) := by decide +kernel
theorem dX5_measuredBy_63 : decode cX5_measuredBy 63 = .ok (.isub, 1) := by decide +kernel
theorem dX5_measuredBy_64 : decode cX5_measuredBy 64 = .ok (.ireturn, 1) := by decide +kernel
theorem dJ9_max_7cf53_0 : decode cJ9_max_7cf53 0 = .ok (.iload_n 0, 1) := by decide +kernel
theorem dJ9_max_7cf53_1 : decode cJ9_max_7cf53 1 = .ok (.iload_n 1, 1) := by decide +kernel
theorem dJ9_max_7cf53_2 : decode cJ9_max_7cf53 2 = .ok (.if_icmp .lt 7, 3) := by decide +kernel
theorem dJ9_max_7cf53_5 : decode cJ9_max_7cf53 5 = .ok (.iload_n 0, 1) := by decide +kernel
theorem dJ9_max_7cf53_6 : decode cJ9_max_7cf53 6 = .ok (.goto 4, 3) := by decide +kernel
theorem dJ9_max_7cf53_9 : decode cJ9_max_7cf53 9 = .ok (.iload_n 1, 1) := by decide +kernel
theorem dJ9_max_7cf53_10 : decode cJ9_max_7cf53 10 = .ok (.ireturn, 1) := by decide +kernel
theorem dJ9_min_7cf53_0 : decode cJ9_min_7cf53 0 = .ok (.iload_n 0, 1) := by decide +kernel
theorem dJ9_min_7cf53_1 : decode cJ9_min_7cf53 1 = .ok (.iload_n 1, 1) := by decide +kernel
theorem dJ9_min_7cf53_2 : decode cJ9_min_7cf53 2 = .ok (.if_icmp .gt 7, 3) := by decide +kernel
theorem dJ9_min_7cf53_5 : decode cJ9_min_7cf53 5 = .ok (.iload_n 0, 1) := by decide +kernel
theorem dJ9_min_7cf53_6 : decode cJ9_min_7cf53 6 = .ok (.goto 4, 3) := by decide +kernel
theorem dJ9_min_7cf53_9 : decode cJ9_min_7cf53 9 = .ok (.iload_n 1, 1) := by decide +kernel
theorem dJ9_min_7cf53_10 : decode cJ9_min_7cf53 10 = .ok (.ireturn, 1) := by decide +kernel
set_option maxRecDepth 20000 in
theorem ggJ0_length_8abf5_J0_coder_7d493 : GoodIn wsJ0_length_8abf5 wsJ0_coder_7d493 := goodIn_r _ [6, 7, 8] (by decide +kernel) (by decide +kernel)
set_option maxRecDepth 20000 in
theorem gJ0_length_8abf5_J0_coder_7d493 : GoodIn wsJ0_length_8abf5 (wsV RJ0 335 RJ0 yJ0_coder_7d493 wsJ0_coder_7d493) := goodIn_app (goodIn_of _ (by decide +kernel)) ggJ0_length_8abf5_J0_coder_7d493
theorem dJ0_length_8abf5_0 : decode cJ0_length_8abf5 0 = .ok (.aload_n 0, 1) := by decide +kernel
theorem dJ0_length_8abf5_1 : decode cJ0_length_8abf5 1 = .ok (.getfield 9, 3) := by decide +kernel
theorem dJ0_length_8abf5_4 : decode cJ0_length_8abf5 4 = .ok (.arraylength, 1) := by decide +kernel
theorem dJ0_length_8abf5_5 : decode cJ0_length_8abf5 5 = .ok (.aload_n 0, 1) := by decide +kernel
theorem dJ0_length_8abf5_6 : decode cJ0_length_8abf5 6 = .ok (.invokevirtual 335, 3) := by decide +kernel
theorem dJ0_length_8abf5_9 : decode cJ0_length_8abf5 9 = .ok (.ishr, 1) := by decide +kernel
theorem dJ0_length_8abf5_10 : decode cJ0_length_8abf5 10 = .ok (.ireturn, 1) := by decide +kernel
set_option maxRecDepth 20000 in
theorem ggJ0_charAt_5068e_J0_isLatin1_aae02 : GoodIn wsJ0_charAt_5068e wsJ0_isLatin1_aae02 := goodIn_r _ [6, 7, 8] (by decide +kernel) (by decide +kernel)
set_option maxRecDepth 20000 in
theorem gJ0_charAt_5068e_J0_isLatin1_aae02 : GoodIn wsJ0_charAt_5068e (wsV RJ0 492 RJ0 yJ0_isLatin1_aae02 wsJ0_isLatin1_aae02) := goodIn_app (goodIn_of _ (by decide +kernel)) ggJ0_charAt_5068e_J0_isLatin1_aae02
set_option maxRecDepth 20000 in
theorem ggJ0_charAt_5068e_J1_charAt_3b067 : GoodIn wsJ0_charAt_5068e wsJ1_charAt_3b067 := goodIn_r _ [12, 13, 14, 5, 15, 16, 17, 18, 19, 20] (by decide +kernel) (by decide +kernel)
set_option maxRecDepth 20000 in
theorem gJ0_charAt_5068e_J1_charAt_3b067 : GoodIn wsJ0_charAt_5068e (va_wsS RJ0 495 yJ1_charAt_3b067 wsJ1_charAt_3b067) := goodIn_app (goodIn_of _ (by decide +kernel)) ggJ0_charAt_5068e_J1_charAt_3b067
set_option maxRecDepth 20000 in
theorem ggJ0_charAt_5068e_J2_charAt_3b067 : GoodIn wsJ0_charAt_5068e wsJ2_charAt_3b067 := goodIn_r _ [24, 25, 26, 23, 27, 28, 29, 30, 31, 14, 5, 15, 16, 17, 18, 19, 20, 32, 33, 34, 35, 36, 37] (by decide +kernel) (by decide +kernel)
set_option maxRecDepth 20000 in
theorem gJ0_charAt_5068e_J2_charAt_3b067 : GoodIn wsJ0_charAt_5068e (va_wsS RJ0 498 yJ2_charAt_3b067 wsJ2_charAt_3b067) := goodIn_app (goodIn_of _ (by decide +kernel)) ggJ0_charAt_5068e_J2_charAt_3b067
theorem dJ0_charAt_5068e_0 : decode cJ0_charAt_5068e 0 = .ok (.aload_n 0, 1) := by decide +kernel
theorem dJ0_charAt_5068e_1 : decode cJ0_charAt_5068e 1 = .ok (.invokevirtual 492, 3) := by decide +kernel
theorem dJ0_charAt_5068e_4 : decode cJ0_charAt_5068e 4 = .ok (.ifCond .eq 12, 3) := by decide +kernel
theorem dJ0_charAt_5068e_7 : decode cJ0_charAt_5068e 7 = .ok (.aload_n 0, 1) := by decide +kernel
theorem dJ0_charAt_5068e_8 : decode cJ0_charAt_5068e 8 = .ok (.getfield 9, 3) := by decide +kernel
theorem dJ0_charAt_5068e_11 : decode cJ0_charAt_5068e 11 = .ok (.iload_n 1, 1) := by decide +kernel
theorem dJ0_charAt_5068e_12 : decode cJ0_charAt_5068e 12 = .ok (.invokestatic 495, 3) := by decide +kernel
theorem dJ0_charAt_5068e_15 : decode cJ0_charAt_5068e 15 = .ok (.ireturn, 1) := by decide +kernel
theorem dJ0_charAt_5068e_16 : decode cJ0_charAt_5068e 16 = .ok (.aload_n 0, 1) := by decide +kernel
theorem dJ0_charAt_5068e_17 : decode cJ0_charAt_5068e 17 = .ok (.getfield 9, 3) := by decide +kernel
theorem dJ0_charAt_5068e_20 : decode cJ0_charAt_5068e 20 = .ok (.iload_n 1, 1) := by decide +kernel
theorem dJ0_charAt_5068e_21 : decode cJ0_charAt_5068e 21 = .ok (.invokestatic 498, 3) := by decide +kernel
theorem dJ0_charAt_5068e_24 : decode cJ0_charAt_5068e 24 = .ok (.ireturn, 1) := by decide +kernel
theorem dJ0_coder_7d493_0 : decode cJ0_coder_7d493 0 = .ok (.getstatic 38, 3) := by decide +kernel
theorem dJ0_coder_7d493_3 : decode cJ0_coder_7d493 3 = .ok (.ifCond .eq 10, 3) := by decide +kernel
theorem dJ0_coder_7d493_6 : decode cJ0_coder_7d493 6 = .ok (.aload_n 0, 1) := by decide +kernel
theorem dJ0_coder_7d493_7 : decode cJ0_coder_7d493 7 = .ok (.getfield 15, 3) := by decide +kernel
theorem dJ0_coder_7d493_10 : decode cJ0_coder_7d493 10 = .ok (.goto 4, 3) := by decide +kernel
theorem dJ0_coder_7d493_13 : decode cJ0_coder_7d493 13 = .ok (.iconst 1, 1) := by decide +kernel
theorem dJ0_coder_7d493_14 : decode cJ0_coder_7d493 14 = .ok (.ireturn, 1) := by decide +kernel
theorem dJ0_isLatin1_aae02_0 : decode cJ0_isLatin1_aae02 0 = .ok (.getstatic 38, 3) := by decide +kernel
theorem dJ0_isLatin1_aae02_3 : decode cJ0_isLatin1_aae02 3 = .ok (.ifCond .eq 14, 3) := by decide +kernel
theorem dJ0_isLatin1_aae02_6 : decode cJ0_isLatin1_aae02 6 = .ok (.aload_n 0, 1) := by decide +kernel
theorem dJ0_isLatin1_aae02_7 : decode cJ0_isLatin1_aae02 7 = .ok (.getfield 15, 3) := by decide +kernel
theorem dJ0_isLatin1_aae02_10 : decode cJ0_isLatin1_aae02 10 = .ok (.ifCond .ne 7, 3) := by decide +kernel
theorem dJ0_isLatin1_aae02_13 : decode cJ0_isLatin1_aae02 13 = .ok (.iconst 1, 1) := by decide +kernel
theorem dJ0_isLatin1_aae02_14 : decode cJ0_isLatin1_aae02 14 = .ok (.goto 4, 3) := by decide +kernel
theorem dJ0_isLatin1_aae02_17 : decode cJ0_isLatin1_aae02 17 = .ok (.iconst 0, 1) := by decide +kernel
theorem dJ0_isLatin1_aae02_18 : decode cJ0_isLatin1_aae02 18 = .ok (.ireturn, 1) := by decide +kernel
set_option maxRecDepth 20000 in
theorem ggJ0_checkIndex_df160_J3_checkIndex_8e157 : GoodIn wsJ0_checkIndex_df160 wsJ3_checkIndex_8e157 := goodIn_r _ [5] (by decide +kernel) (by decide +kernel)
set_option maxRecDepth 20000 in
theorem gJ0_checkIndex_df160_J3_checkIndex_8e157 : GoodIn wsJ0_checkIndex_df160 (va_wsS RJ0 1059 yJ3_checkIndex_8e157 wsJ3_checkIndex_8e157) := goodIn_app (goodIn_of _ (by decide +kernel)) ggJ0_checkIndex_df160_J3_checkIndex_8e157
theorem dJ0_checkIndex_df160_0 : decode cJ0_checkIndex_df160 0 = .ok (.iload_n 0, 1) := by decide +kernel
theorem dJ0_checkIndex_df160_1 : decode cJ0_checkIndex_df160 1 = .ok (.iload_n 1, 1) := by decide +kernel
theorem dJ0_checkIndex_df160_2 : decode cJ0_checkIndex_df160 2 = .ok (.getstatic 1053, 3) := by decide +kernel
theorem dJ0_checkIndex_df160_5 : decode cJ0_checkIndex_df160 5 = .ok (.invokestatic 1059, 3) := by decide +kernel
theorem dJ0_checkIndex_df160_8 : decode cJ0_checkIndex_df160 8 = .ok (.pop, 1) := by decide +kernel
theorem dJ0_checkIndex_df160_9 : decode cJ0_checkIndex_df160 9 = .ok (.return_, 1) := by decide +kernel
set_option maxRecDepth 20000 in
theorem ggJ1_charAt_3b067_J0_checkIndex_df160 : GoodIn wsJ1_charAt_3b067 wsJ0_checkIndex_df160 := goodIn_r _ [4, 5, 6, 7, 8, 9] (by decide +kernel) (by decide +kernel)
set_option maxRecDepth 20000 in
theorem gJ1_charAt_3b067_J0_checkIndex_df160 : GoodIn wsJ1_charAt_3b067 (va_wsS RJ1 9 yJ0_checkIndex_df160 wsJ0_checkIndex_df160) := goodIn_app (goodIn_of _ (by decide +kernel)) ggJ1_charAt_3b067_J0_checkIndex_df160
theorem dJ1_charAt_3b067_0 : decode cJ1_charAt_3b067 0 = .ok (.iload_n 1, 1) := by decide +kernel
theorem dJ1_charAt_3b067_1 : decode cJ1_charAt_3b067 1 = .ok (.aload_n 0, 1) := by decide +kernel
theorem dJ1_charAt_3b067_2 : decode cJ1_charAt_3b067 2 = .ok (.arraylength, 1) := by decide +kernel
theorem dJ1_charAt_3b067_3 : decode cJ1_charAt_3b067 3 = .ok (.invokestatic 9, 3) := by decide +kernel
theorem dJ1_charAt_3b067_6 : decode cJ1_charAt_3b067 6 = .ok (.aload_n 0, 1) := by decide +kernel
theorem dJ1_charAt_3b067_7 : decode cJ1_charAt_3b067 7 = .ok (.iload_n 1, 1) := by decide +kernel
theorem dJ1_charAt_3b067_8 : decode cJ1_charAt_3b067 8 = .ok (.baload, 1) := by decide +kernel
theorem dJ1_charAt_3b067_9 : decode cJ1_charAt_3b067 9 = .ok (.sipush 255, 3) := by decide +kernel
theorem dJ1_charAt_3b067_12 : decode cJ1_charAt_3b067 12 = .ok (.iand, 1) := by decide +kernel
theorem dJ1_charAt_3b067_13 : decode cJ1_charAt_3b067 13 = .ok (.i2c, 1) := by decide +kernel
theorem dJ1_charAt_3b067_14 : decode cJ1_charAt_3b067 14 = .ok (.ireturn, 1) := by decide +kernel
set_option maxRecDepth 20000 in
theorem ggJ2_getChar_3b067_J2_length_9d52b : GoodIn wsJ2_getChar_3b067 wsJ2_length_9d52b := goodIn_r _ [7] (by decide +kernel) (by decide +kernel)
set_option maxRecDepth 20000 in
theorem gJ2_getChar_3b067_J2_length_9d52b : GoodIn wsJ2_getChar_3b067 (va_wsS RJ2 48 yJ2_length_9d52b wsJ2_length_9d52b) := goodIn_app (goodIn_of _ (by decide +kernel)) ggJ2_getChar_3b067_J2_length_9d52b
theorem dJ2_getChar_3b067_0 : decode cJ2_getChar_3b067 0 = .ok (.getstatic 44, 3) := by decide +kernel
theorem dJ2_getChar_3b067_3 : decode cJ2_getChar_3b067 3 = .ok (.ifCond .ne 25, 3) := by decide +kernel
theorem dJ2_getChar_3b067_6 : decode cJ2_getChar_3b067 6 = .ok (.iload_n 1, 1) := by decide +kernel
theorem dJ2_getChar_3b067_7 : decode cJ2_getChar_3b067 7 = .ok (.ifCond .lt 11, 3) := by decide +kernel
theorem dJ2_getChar_3b067_10 : decode cJ2_getChar_3b067 10 = .ok (.iload_n 1, 1) := by decide +kernel
theorem dJ2_getChar_3b067_11 : decode cJ2_getChar_3b067 11 = .ok (.aload_n 0, 1) := by decide +kernel
theorem dJ2_getChar_3b067_12 : decode cJ2_getChar_3b067 12 = .ok (.invokestatic 48, 3) := by decide +kernel
theorem dJ2_getChar_3b067_15 : decode cJ2_getChar_3b067 15 = .ok (.if_icmp .lt 13, 3) := by decide +kernel
theorem dJ2_getChar_3b067_18 : decode cJ2_getChar_3b067 18 = .ok (.new 52, 3) := by decide +kernel
theorem dJ2_getChar_3b067_21 : decode cJ2_getChar_3b067 21 = .ok (.dup, 1) := by decide +kernel
theorem dJ2_getChar_3b067_22 : decode cJ2_getChar_3b067 22 = .ok (.ldc 54, 2) := by decide +kernel
theorem dJ2_getChar_3b067_24 : decode cJ2_getChar_3b067 24 = .ok (.invokespecial 56, 3) := by decide +kernel
theorem dJ2_getChar_3b067_27 : decode cJ2_getChar_3b067 27 = .ok (.athrow, 1) := by decide +kernel
theorem dJ2_getChar_3b067_28 : decode cJ2_getChar_3b067 28 = .ok (.iload_n 1, 1) := by decide +kernel
theorem dJ2_getChar_3b067_29 : decode cJ2_getChar_3b067 29 = .ok (.iconst 1, 1) := by decide +kernel
theorem dJ2_getChar_3b067_30 : decode cJ2_getChar_3b067 30 = .ok (.ishl, 1) := by decide +kernel
theorem dJ2_getChar_3b067_31 : decode cJ2_getChar_3b067 31 = .ok (.istore_n 1, 1) := by decide +kernel
theorem dJ2_getChar_3b067_32 : decode cJ2_getChar_3b067 32 = .ok (.aload_n 0, 1) := by decide +kernel
theorem dJ2_getChar_3b067_33 : decode cJ2_getChar_3b067 33 = .ok (.iload_n 1, 1) := by decide +kernel
theorem dJ2_getChar_3b067_34 : decode cJ2_getChar_3b067 34 = .ok (.iinc 1 1, 3) := by decide +kernel
theorem dJ2_getChar_3b067_37 : decode cJ2_getChar_3b067 37 = .ok (.baload, 1) := by decide +kernel
theorem dJ2_getChar_3b067_38 : decode cJ2_getChar_3b067 38 = .ok (.sipush 255, 3) := by decide +kernel
theorem dJ2_getChar_3b067_41 : decode cJ2_getChar_3b067 41 = .ok (.iand, 1) := by decide +kernel
theorem dJ2_getChar_3b067_42 : decode cJ2_getChar_3b067 42 = .ok (.getstatic 59, 3) := by decide +kernel
theorem dJ2_getChar_3b067_45 : decode cJ2_getChar_3b067 45 = .ok (.ishl, 1) := by decide +kernel
theorem dJ2_getChar_3b067_46 : decode cJ2_getChar_3b067 46 = .ok (.aload_n 0, 1) := by decide +kernel
theorem dJ2_getChar_3b067_47 : decode cJ2_getChar_3b067 47 = .ok (.iload_n 1, 1) := by decide +kernel
theorem dJ2_getChar_3b067_48 : decode cJ2_getChar_3b067 48 = .ok (.baload, 1) := by decide +kernel
theorem dJ2_getChar_3b067_49 : decode cJ2_getChar_3b067 49 = .ok (.sipush 255, 3) := by decide +kernel
theorem dJ2_getChar_3b067_52 : decode cJ2_getChar_3b067 52 = .ok (.iand, 1) := by decide +kernel
theorem dJ2_getChar_3b067_53 : decode cJ2_getChar_3b067 53 = .ok (.getstatic 63, 3) := by decide +kernel
theorem dJ2_getChar_3b067_56 : decode cJ2_getChar_3b067 56 = .ok (.ishl, 1) := by decide +kernel
theorem dJ2_getChar_3b067_57 : decode cJ2_getChar_3b067 57 = .ok (.ior, 1) := by decide +kernel
theorem dJ2_getChar_3b067_58 : decode cJ2_getChar_3b067 58 = .ok (.i2c, 1) := by decide +kernel
theorem dJ2_getChar_3b067_59 : decode cJ2_getChar_3b067 59 = .ok (.ireturn, 1) := by decide +kernel
theorem dJ2_length_9d52b_0 : decode cJ2_length_9d52b 0 = .ok (.aload_n 0, 1) := by decide +kernel
theorem dJ2_length_9d52b_1 : decode cJ2_length_9d52b 1 = .ok (.arraylength, 1) := by decide +kernel
theorem dJ2_length_9d52b_2 : decode cJ2_length_9d52b 2 = .ok (.iconst 1, 1) := by decide +kernel
theorem dJ2_length_9d52b_3 : decode cJ2_length_9d52b 3 = .ok (.ishr, 1) := by decide +kernel
theorem dJ2_length_9d52b_4 : decode cJ2_length_9d52b 4 = .ok (.ireturn, 1) := by decide +kernel
set_option maxRecDepth 20000 in
theorem ggJ2_charAt_3b067_J2_checkIndex_2214a : GoodIn wsJ2_charAt_3b067 wsJ2_checkIndex_2214a := goodIn_r _ [4, 5, 6, 3, 7, 8, 9, 10, 11, 12, 13, 14, 15, 16] (by decide +kernel) (by decide +kernel)
set_option maxRecDepth 20000 in
theorem gJ2_charAt_3b067_J2_checkIndex_2214a : GoodIn wsJ2_charAt_3b067 (va_wsS RJ2 67 yJ2_checkIndex_2214a wsJ2_checkIndex_2214a) := goodIn_app (goodIn_of _ (by decide +kernel)) ggJ2_charAt_3b067_J2_checkIndex_2214a
set_option maxRecDepth 20000 in
theorem ggJ2_charAt_3b067_J2_getChar_3b067 : GoodIn wsJ2_charAt_3b067 wsJ2_getChar_3b067 := goodIn_r _ [19, 20, 21, 22, 5, 6, 3, 7] (by decide +kernel) (by decide +kernel)
set_option maxRecDepth 20000 in
theorem gJ2_charAt_3b067_J2_getChar_3b067 : GoodIn wsJ2_charAt_3b067 (va_wsS RJ2 71 yJ2_getChar_3b067 wsJ2_getChar_3b067) := goodIn_app (goodIn_of _ (by decide +kernel)) ggJ2_charAt_3b067_J2_getChar_3b067
theorem dJ2_charAt_3b067_0 : decode cJ2_charAt_3b067 0 = .ok (.iload_n 1, 1) := by decide +kernel
theorem dJ2_charAt_3b067_1 : decode cJ2_charAt_3b067 1 = .ok (.aload_n 0, 1) := by decide +kernel
theorem dJ2_charAt_3b067_2 : decode cJ2_charAt_3b067 2 = .ok (.invokestatic 67, 3) := by decide +kernel
theorem dJ2_charAt_3b067_5 : decode cJ2_charAt_3b067 5 = .ok (.aload_n 0, 1) := by decide +kernel
theorem dJ2_charAt_3b067_6 : decode cJ2_charAt_3b067 6 = .ok (.iload_n 1, 1) := by decide +kernel
theorem dJ2_charAt_3b067_7 : decode cJ2_charAt_3b067 7 = .ok (.invokestatic 71, 3) := by decide +kernel
theorem dJ2_charAt_3b067_10 : decode cJ2_charAt_3b067 10 = .ok (.ireturn, 1) := by decide +kernel
set_option maxRecDepth 20000 in
theorem ggJ2_checkIndex_2214a_J2_length_9d52b : GoodIn wsJ2_checkIndex_2214a wsJ2_length_9d52b := goodIn_r _ [4] (by decide +kernel) (by decide +kernel)
set_option maxRecDepth 20000 in
theorem gJ2_checkIndex_2214a_J2_length_9d52b : GoodIn wsJ2_checkIndex_2214a (va_wsS RJ2 48 yJ2_length_9d52b wsJ2_length_9d52b) := goodIn_app (goodIn_of _ (by decide +kernel)) ggJ2_checkIndex_2214a_J2_length_9d52b
set_option maxRecDepth 20000 in
theorem ggJ2_checkIndex_2214a_J0_checkIndex_df160 : GoodIn wsJ2_checkIndex_2214a wsJ0_checkIndex_df160 := goodIn_r _ [8, 9, 10, 11, 12, 13] (by decide +kernel) (by decide +kernel)
set_option maxRecDepth 20000 in
theorem gJ2_checkIndex_2214a_J0_checkIndex_df160 : GoodIn wsJ2_checkIndex_2214a (va_wsS RJ2 414 yJ0_checkIndex_df160 wsJ0_checkIndex_df160) := goodIn_app (goodIn_of _ (by decide +kernel)) ggJ2_checkIndex_2214a_J0_checkIndex_df160
theorem dJ2_checkIndex_2214a_0 : decode cJ2_checkIndex_2214a 0 = .ok (.iload_n 0, 1) := by decide +kernel
theorem dJ2_checkIndex_2214a_1 : decode cJ2_checkIndex_2214a 1 = .ok (.aload_n 1, 1) := by decide +kernel
theorem dJ2_checkIndex_2214a_2 : decode cJ2_checkIndex_2214a 2 = .ok (.invokestatic 48, 3) := by decide +kernel
theorem dJ2_checkIndex_2214a_5 : decode cJ2_checkIndex_2214a 5 = .ok (.invokestatic 414, 3) := by decide +kernel
theorem dJ2_checkIndex_2214a_8 : decode cJ2_checkIndex_2214a 8 = .ok (.return_, 1) := by decide +kernel
theorem dJ3_checkIndex_8e157_0 : decode cJ3_checkIndex_8e157 0 = .ok (.iload_n 0, 1) := by decide +kernel
theorem dJ3_checkIndex_8e157_1 : decode cJ3_checkIndex_8e157 1 = .ok (.ifCond .lt 8, 3) := by decide +kernel
theorem dJ3_checkIndex_8e157_4 : decode cJ3_checkIndex_8e157 4 = .ok (.iload_n 0, 1) := by decide +kernel
theorem dJ3_checkIndex_8e157_5 : decode cJ3_checkIndex_8e157 5 = .ok (.iload_n 1, 1) := by decide +kernel
theorem dJ3_checkIndex_8e157_6 : decode cJ3_checkIndex_8e157 6 = .ok (.if_icmp .lt 10, 3) := by decide +kernel
theorem dJ3_checkIndex_8e157_9 : decode cJ3_checkIndex_8e157 9 = .ok (.aload_n 2, 1) := by decide +kernel
theorem dJ3_checkIndex_8e157_10 : decode cJ3_checkIndex_8e157 10 = .ok (.iload_n 0, 1) := by decide +kernel
theorem dJ3_checkIndex_8e157_11 : decode cJ3_checkIndex_8e157 11 = .ok (.iload_n 1, 1) := by decide +kernel
theorem dJ3_checkIndex_8e157_12 : decode cJ3_checkIndex_8e157 12 = .ok (.invokestatic 95, 3) := by decide +kernel
theorem dJ3_checkIndex_8e157_15 : decode cJ3_checkIndex_8e157 15 = .ok (.athrow, 1) := by decide +kernel
theorem dJ3_checkIndex_8e157_16 : decode cJ3_checkIndex_8e157 16 = .ok (.iload_n 0, 1) := by decide +kernel
theorem dJ3_checkIndex_8e157_17 : decode cJ3_checkIndex_8e157 17 = .ok (.ireturn, 1) := by decide +kernel
set_option maxRecDepth 20000 in
theorem ggL_law_X4_init : GoodIn wsL_law wsX4_init := goodIn_r _ [8, 9, 10, 11, 12, 13, 14, 15, 16, 17, 18, 19, 20, 21, 22, 23, 24, 25, 26, 27, 28, 29, 30, 31, 32, 33, 34, 35, 36, 37, 38, 39, 40, 41, 42, 43, 44, 45, 46, 47, 48, 49, 50, 51, 52, 53, 54, 55, 56, 57, 58, 59, 680, 681, 682, 683, 664, 665, 666, 667, 684, 685, 686, 687, 688, 689, 690, 691, 692, 693, 694, 695, 696, 697, 698, 699] (by decide +kernel) (by decide +kernel)
set_option maxRecDepth 20000 in
theorem gL_law_X4_init : GoodIn wsL_law (wsX4_init) := ggL_law_X4_init
set_option maxRecDepth 20000 in
theorem ggL_law_X5_init : GoodIn wsL_law wsX5_init := goodIn_r _ [62, 63, 10, 11, 38, 64, 65, 66, 67, 68, 69, 70, 668, 669, 670, 671, 672, 673, 674, 675, 676, 677, 678, 679] (by decide +kernel) (by decide +kernel)
set_option maxRecDepth 20000 in
theorem gL_law_X5_init : GoodIn wsL_law (wsX5_init) := ggL_law_X5_init
set_option maxRecDepth 20000 in
theorem ggL_law_X4_put : GoodIn wsL_law wsX4_put := goodIn_r _ [74, 16, 15, 75, 76, 77, 14, 78, 32, 33, 79, 80, 81, 82, 83, 31, 84, 39, 85, 86, 87, 88, 40, 42, 43, 44, 89, 45, 90, 91, 92, 93, 94, 95, 96, 97, 2, 98, 99, 100, 101, 102, 103, 104, 105, 106, 107, 108, 109, 110, 111, 112, 113, 114, 115, 116, 117, 118, 119, 120, 121, 122, 123, 124, 125, 126, 127, 128, 129, 130, 131, 132, 133, 134, 135, 136, 137, 138, 139, 140, 141, 142, 143, 144, 145, 146, 147, 148, 149, 150, 151, 152, 153, 154, 155, 156, 20, 157, 158, 159, 19, 160, 161, 162, 163, 164, 165, 166, 167, 168, 169, 51, 170, 664, 665, 666, 667, 680, 681, 682, 683, 693, 694, 695, 696, 697, 698, 699, 684, 685, 686] (by decide +kernel) (by decide +kernel)
set_option maxRecDepth 20000 in
theorem gL_law_X4_put : GoodIn wsL_law (wsV RL 13 RX4 yX4_put wsX4_put) := goodIn_app (goodIn_of _ (by decide +kernel)) ggL_law_X4_put
set_option maxRecDepth 20000 in
theorem ggL_law_X5_put : GoodIn wsL_law wsX5_put := goodIn_r _ [174, 175, 176, 177, 5, 178, 64, 65, 179, 180, 181, 182, 183, 184, 185, 186, 187, 188, 189, 190, 191, 192, 193, 194, 195, 196, 197, 198, 199, 200, 201, 202, 203, 204, 205, 206, 207, 208, 209, 210, 211, 212, 213, 214, 69, 215, 216, 217, 218, 219, 220, 221, 222, 223, 67, 668, 669, 670, 671, 672, 673, 674, 675, 676, 677, 678, 679] (by decide +kernel) (by decide +kernel)
set_option maxRecDepth 20000 in
theorem gL_law_X5_put : GoodIn wsL_law (wsV RL 17 RX5 yX5_put wsX5_put) := goodIn_app (goodIn_of _ (by decide +kernel)) ggL_law_X5_put
set_option maxRecDepth 20000 in
theorem ggL_law_X4_cut : GoodIn wsL_law wsX4_cut := goodIn_r _ [227, 16, 15, 75, 76, 77, 14, 78, 32, 33, 79, 80, 81, 82, 83, 31, 84, 39, 85, 86, 87, 88, 40, 42, 43, 44, 89, 45, 228, 229, 230, 231, 95, 94, 232, 120, 121, 122, 233, 234, 235, 236, 119, 237, 238, 239, 240, 123, 100, 101, 102, 124, 125, 126, 127, 107, 108, 109, 110, 111, 112, 113, 114, 115, 116, 117, 118, 128, 129, 130, 131, 132, 133, 134, 135, 136, 137, 138, 139, 140, 141, 142, 143, 153, 154, 155, 2, 156, 20, 157, 158, 159, 19, 160, 161, 162, 163, 164, 165, 166, 167, 168, 169, 51, 170, 664, 665, 666, 667, 680, 681, 682, 683, 693, 694, 695, 696, 697, 698, 699, 684, 685, 686] (by decide +kernel) (by decide +kernel)
set_option maxRecDepth 20000 in
theorem gL_law_X4_cut : GoodIn wsL_law (wsV RL 18 RX4 yX4_cut wsX4_cut) := goodIn_app (goodIn_of _ (by decide +kernel)) ggL_law_X4_cut
set_option maxRecDepth 20000 in
theorem ggL_law_X5_cut : GoodIn wsL_law wsX5_cut := goodIn_r _ [244, 175, 176, 177, 5, 178, 64, 65, 179, 180, 181, 245, 246, 247, 248, 186, 249, 250, 251, 252, 188, 189, 190, 191, 192, 193, 194, 195, 196, 197, 198, 199, 200, 201, 202, 219, 220, 221, 222, 187, 223, 67, 668, 669, 670, 671, 672, 673, 674, 675, 676, 677, 678, 679] (by decide +kernel) (by decide +kernel)
set_option maxRecDepth 20000 in
theorem gL_law_X5_cut : GoodIn wsL_law (wsV RL 22 RX5 yX5_cut wsX5_cut) := goodIn_app (goodIn_of _ (by decide +kernel)) ggL_law_X5_cut
set_option maxRecDepth 20000 in
theorem ggL_law_X4_change : GoodIn wsL_law wsX4_change := goodIn_r _ [256, 16, 15, 75, 76, 77, 14, 78, 32, 33, 79, 80, 81, 82, 83, 31, 84, 39, 85, 86, 87, 88, 40, 42, 43, 44, 89, 45, 257, 258, 259, 260, 95, 261, 232, 120, 121, 122, 97, 2, 98, 262, 263, 264, 265, 119, 237, 238, 239, 240, 123, 100, 101, 102, 124, 125, 126, 127, 107, 108, 109, 110, 94, 111, 112, 113, 114, 115, 116, 117, 118, 128, 129, 130, 131, 132, 133, 134, 135, 136, 137, 138, 139, 140, 141, 142, 143, 153, 154, 155, 156, 20, 157, 158, 159, 19, 160, 161, 162, 163, 164, 165, 166, 167, 168, 169, 51, 170, 664, 665, 666, 667, 680, 681, 682, 683, 693, 694, 695, 696, 697, 698, 699, 684, 685, 686] (by decide +kernel) (by decide +kernel)
set_option maxRecDepth 20000 in
theorem gL_law_X4_change : GoodIn wsL_law (wsV RL 23 RX4 yX4_change wsX4_change) := goodIn_app (goodIn_of _ (by decide +kernel)) ggL_law_X4_change
set_option maxRecDepth 20000 in
theorem ggL_law_X5_change : GoodIn wsL_law wsX5_change := goodIn_r _ [269, 186, 64, 249, 250, 251, 5, 252, 188, 189, 190, 175, 176, 177, 178, 65, 179, 180, 181, 191, 192, 193, 194, 195, 196, 197, 198, 199, 200, 201, 202, 219, 220, 221, 222, 187, 223, 67, 668, 669, 670, 671, 672, 673, 674, 675, 676, 677, 678, 679] (by decide +kernel) (by decide +kernel)
set_option maxRecDepth 20000 in
theorem gL_law_X5_change : GoodIn wsL_law (wsV RL 27 RX5 yX5_change wsX5_change) := goodIn_app (goodIn_of _ (by decide +kernel)) ggL_law_X5_change
set_option maxRecDepth 20000 in
theorem ggL_law_X4_setHeight : GoodIn wsL_law wsX4_setHeight := goodIn_r _ [273, 16, 15, 75, 76, 77, 14, 78, 32, 33, 79, 80, 81, 82, 83, 31, 84, 39, 85, 86, 87, 88, 40, 42, 43, 44, 89, 45, 274, 275, 276, 277, 95, 97, 2, 98, 107, 108, 109, 110, 94, 111, 112, 113, 114, 115, 116, 117, 118, 119, 120, 121, 122, 123, 100, 101, 102, 124, 125, 126, 127, 128, 129, 130, 131, 132, 133, 134, 135, 136, 137, 138, 139, 140, 141, 142, 143, 153, 154, 155, 156, 20, 157, 158, 159, 19, 160, 161, 162, 163, 164, 165, 166, 167, 168, 169, 51, 170, 664, 665, 666, 667, 680, 681, 682, 683, 693, 694, 695, 696, 697, 698, 699, 684, 685, 686] (by decide +kernel) (by decide +kernel)
set_option maxRecDepth 20000 in
theorem gL_law_X4_setHeight : GoodIn wsL_law (wsV RL 28 RX4 yX4_setHeight wsX4_setHeight) := goodIn_app (goodIn_of _ (by decide +kernel)) ggL_law_X4_setHeight
set_option maxRecDepth 20000 in
theorem ggL_law_X5_setHeight : GoodIn wsL_law wsX5_setHeight := goodIn_r _ [281, 186, 64, 188, 189, 5, 190, 175, 176, 177, 178, 65, 179, 180, 181, 194, 195, 196, 191, 192, 193, 197, 198, 199, 200, 201, 202, 219, 220, 221, 222, 187, 223, 67, 668, 669, 670, 671, 672, 673, 674, 675, 676, 677, 678, 679] (by decide +kernel) (by decide +kernel)
set_option maxRecDepth 20000 in
theorem gL_law_X5_setHeight : GoodIn wsL_law (wsV RL 31 RX5 yX5_setHeight wsX5_setHeight) := goodIn_app (goodIn_of _ (by decide +kernel)) ggL_law_X5_setHeight
set_option maxRecDepth 20000 in
theorem ggL_law_X4_setWidth : GoodIn wsL_law wsX4_setWidth := goodIn_r _ [285, 16, 15, 75, 76, 77, 14, 78, 32, 33, 79, 80, 81, 82, 83, 31, 84, 39, 85, 86, 87, 88, 40, 42, 43, 44, 89, 45, 286, 287, 288, 289, 95, 290, 97, 2, 98, 291, 292, 293, 294, 237, 238, 239, 240, 119, 120, 121, 122, 123, 100, 101, 102, 124, 125, 126, 127, 107, 108, 109, 110, 94, 111, 112, 113, 114, 115, 116, 117, 118, 128, 129, 130, 131, 132, 133, 134, 135, 136, 137, 138, 139, 140, 141, 142, 143, 153, 154, 155, 156, 20, 157, 158, 159, 19, 160, 161, 162, 163, 164, 165, 166, 167, 168, 169, 51, 170, 664, 665, 666, 667, 680, 681, 682, 683, 693, 694, 695, 696, 697, 698, 699, 684, 685, 686] (by decide +kernel) (by decide +kernel)
set_option maxRecDepth 20000 in
theorem gL_law_X4_setWidth : GoodIn wsL_law (wsV RL 32 RX4 yX4_setWidth wsX4_setWidth) := goodIn_app (goodIn_of _ (by decide +kernel)) ggL_law_X4_setWidth
set_option maxRecDepth 20000 in
theorem ggL_law_X5_setWidth : GoodIn wsL_law wsX5_setWidth := goodIn_r _ [298, 186, 64, 188, 189, 5, 190, 175, 176, 177, 178, 65, 179, 180, 181, 191, 192, 193, 194, 195, 196, 197, 198, 199, 200, 201, 202, 219, 220, 221, 222, 187, 223, 67, 668, 669, 670, 671, 672, 673, 674, 675, 676, 677, 678, 679] (by decide +kernel) (by decide +kernel)
set_option maxRecDepth 20000 in
theorem gL_law_X5_setWidth : GoodIn wsL_law (wsV RL 35 RX5 yX5_setWidth wsX5_setWidth) := goodIn_app (goodIn_of _ (by decide +kernel)) ggL_law_X5_setWidth
set_option maxRecDepth 20000 in
theorem ggL_law_X4_scroll : GoodIn wsL_law wsX4_scroll := goodIn_r _ [302, 16, 15, 75, 76, 77, 14, 78, 32, 33, 79, 80, 81, 82, 83, 31, 84, 39, 85, 86, 87, 88, 40, 42, 43, 44, 89, 45, 303, 304, 305, 306, 95, 94, 307, 97, 2, 98, 136, 137, 138, 139, 140, 141, 142, 143, 115, 116, 117, 118, 119, 120, 121, 122, 123, 100, 101, 102, 124, 125, 126, 127, 128, 129, 130, 131, 132, 133, 134, 135, 107, 108, 109, 110, 111, 112, 113, 114, 153, 154, 155, 156, 20, 157, 158, 159, 19, 160, 161, 162, 163, 164, 165, 166, 167, 168, 169, 51, 170, 664, 665, 666, 667, 680, 681, 682, 683, 693, 694, 695, 696, 697, 698, 699, 684, 685, 686] (by decide +kernel) (by decide +kernel)
set_option maxRecDepth 20000 in
theorem gL_law_X4_scroll : GoodIn wsL_law (wsV RL 36 RX4 yX4_scroll wsX4_scroll) := goodIn_app (goodIn_of _ (by decide +kernel)) ggL_law_X4_scroll
set_option maxRecDepth 20000 in
theorem ggL_law_X5_scroll : GoodIn wsL_law wsX5_scroll := goodIn_r _ [311, 175, 176, 177, 5, 178, 64, 65, 179, 180, 181, 312, 313, 314, 315, 186, 316, 188, 189, 190, 317, 318, 319, 200, 201, 202, 191, 192, 193, 197, 198, 199, 194, 195, 196, 219, 220, 221, 222, 187, 223, 67, 668, 669, 670, 671, 672, 673, 674, 675, 676, 677, 678, 679] (by decide +kernel) (by decide +kernel)
set_option maxRecDepth 20000 in
theorem gL_law_X5_scroll : GoodIn wsL_law (wsV RL 39 RX5 yX5_scroll wsX5_scroll) := goodIn_app (goodIn_of _ (by decide +kernel)) ggL_law_X5_scroll
set_option maxRecDepth 20000 in
theorem ggL_law_X4_jump : GoodIn wsL_law wsX4_jump := goodIn_r _ [323, 16, 15, 75, 76, 77, 14, 78, 32, 33, 79, 80, 81, 82, 83, 31, 84, 39, 85, 86, 87, 88, 40, 42, 43, 44, 89, 45, 324, 325, 326, 327, 95, 94, 307, 140, 141, 142, 143, 97, 2, 98, 144, 145, 146, 147, 148, 149, 150, 151, 152, 129, 130, 131, 119, 120, 121, 122, 124, 125, 126, 127, 132, 133, 134, 135, 328, 329, 330, 331, 332, 333, 107, 108, 109, 110, 111, 112, 113, 114, 115, 116, 117, 118, 123, 100, 101, 102, 128, 136, 137, 138, 139, 153, 154, 155, 156, 20, 157, 158, 159, 19, 160, 161, 162, 163, 164, 165, 166, 167, 168, 169, 51, 170, 664, 665, 666, 667, 680, 681, 682, 683, 693, 694, 695, 696, 697, 698, 699, 684, 685, 686] (by decide +kernel) (by decide +kernel)
set_option maxRecDepth 20000 in
theorem gL_law_X4_jump : GoodIn wsL_law (wsV RL 40 RX4 yX4_jump wsX4_jump) := goodIn_app (goodIn_of _ (by decide +kernel)) ggL_law_X4_jump
set_option maxRecDepth 20000 in
theorem ggL_law_X5_jump : GoodIn wsL_law wsX5_jump := goodIn_r _ [337, 175, 176, 177, 5, 178, 64, 65, 179, 180, 181, 338, 339, 340, 341, 186, 316, 188, 189, 190, 342, 343, 344, 345, 203, 204, 205, 206, 207, 208, 209, 210, 211, 212, 213, 214, 69, 191, 192, 193, 197, 198, 199, 215, 216, 217, 218, 346, 347, 348, 349, 350, 194, 195, 196, 200, 201, 202, 219, 220, 221, 222, 187, 223, 67, 668, 669, 670, 671, 672, 673, 674, 675, 676, 677, 678, 679] (by decide +kernel) (by decide +kernel)
set_option maxRecDepth 20000 in
theorem gL_law_X5_jump : GoodIn wsL_law (wsV RL 43 RX5 yX5_jump wsX5_jump) := goodIn_app (goodIn_of _ (by decide +kernel)) ggL_law_X5_jump
set_option maxRecDepth 20000 in
theorem ggL_law_X4_goTo : GoodIn wsL_law wsX4_goTo := goodIn_r _ [354, 16, 15, 75, 76, 77, 14, 78, 32, 33, 79, 80, 81, 82, 83, 31, 84, 39, 85, 86, 87, 88, 40, 42, 43, 44, 89, 45, 355, 356, 357, 358, 95, 232, 120, 121, 122, 107, 108, 109, 110, 94, 111, 112, 113, 114, 115, 116, 117, 118, 119, 123, 100, 101, 102, 124, 125, 126, 127, 128, 129, 130, 131, 132, 133, 134, 135, 136, 137, 138, 139, 140, 141, 142, 143, 153, 154, 155, 2, 156, 20, 157, 158, 159, 19, 160, 161, 162, 163, 164, 165, 166, 167, 168, 169, 51, 170, 664, 665, 666, 667, 680, 681, 682, 683, 693, 694, 695, 696, 697, 698, 699, 684, 685, 686] (by decide +kernel) (by decide +kernel)
set_option maxRecDepth 20000 in
theorem gL_law_X4_goTo : GoodIn wsL_law (wsV RL 44 RX4 yX4_goTo wsX4_goTo) := goodIn_app (goodIn_of _ (by decide +kernel)) ggL_law_X4_goTo
set_option maxRecDepth 20000 in
theorem ggL_law_X5_goTo : GoodIn wsL_law wsX5_goTo := goodIn_r _ [362, 175, 176, 177, 5, 178, 64, 65, 179, 180, 181, 363, 364, 365, 366, 186, 249, 250, 251, 252, 188, 189, 190, 194, 195, 196, 191, 192, 193, 197, 198, 199, 200, 201, 202, 219, 220, 221, 222, 187, 223, 67, 668, 669, 670, 671, 672, 673, 674, 675, 676, 677, 678, 679] (by decide +kernel) (by decide +kernel)
set_option maxRecDepth 20000 in
theorem gL_law_X5_goTo : GoodIn wsL_law (wsV RL 47 RX5 yX5_goTo wsX5_goTo) := goodIn_app (goodIn_of _ (by decide +kernel)) ggL_law_X5_goTo
set_option maxRecDepth 20000 in
theorem ggL_law_X4_undo : GoodIn wsL_law wsX4_undo := goodIn_r _ [370, 20, 371, 372, 15, 373, 374, 375, 19, 376, 162, 161, 166, 167, 168, 169, 51, 170, 76, 77, 14, 78, 32, 33, 79, 80, 81, 82, 83, 31, 84, 39, 85, 86, 87, 88, 40, 42, 43, 44, 89, 45, 664, 665, 666, 667, 684, 685, 686, 680, 681, 682, 683, 693, 694, 695, 696, 697, 698, 699] (by decide +kernel) (by decide +kernel)
set_option maxRecDepth 20000 in
theorem gL_law_X4_undo : GoodIn wsL_law (wsV RL 48 RX4 yX4_undo wsX4_undo) := goodIn_app (goodIn_of _ (by decide +kernel)) ggL_law_X4_undo
set_option maxRecDepth 20000 in
theorem ggL_law_X5_undo : GoodIn wsL_law wsX5_undo := goodIn_r _ [380, 223, 316, 67, 64, 179, 180, 5, 181, 668, 669, 670, 671, 672, 673, 674, 675, 676, 677, 678, 679] (by decide +kernel) (by decide +kernel)
set_option maxRecDepth 20000 in
theorem gL_law_X5_undo : GoodIn wsL_law (wsV RL 52 RX5 yX5_undo wsX5_undo) := goodIn_app (goodIn_of _ (by decide +kernel)) ggL_law_X5_undo
set_option maxRecDepth 20000 in
theorem ggL_law_X4_append : GoodIn wsL_law wsX4_append := goodIn_r _ [384, 385, 24, 386, 97, 2, 98, 387, 388, 389, 23, 390, 391, 392, 58, 664, 665, 666, 667, 687, 688, 689, 690, 691, 692] (by decide +kernel) (by decide +kernel)
set_option maxRecDepth 20000 in
theorem gL_law_X4_append : GoodIn wsL_law (wsV RL 53 RX4 yX4_append wsX4_append) := goodIn_app (goodIn_of _ (by decide +kernel)) ggL_law_X4_append
set_option maxRecDepth 20000 in
theorem ggL_law_X5_append : GoodIn wsL_law wsX5_append := goodIn_r _ [396, 186, 397, 187, 68, 188, 189, 5, 190, 668, 669, 670, 671, 672, 673, 674, 675, 676, 677, 678, 679] (by decide +kernel) (by decide +kernel)
set_option maxRecDepth 20000 in
theorem gL_law_X5_append : GoodIn wsL_law (wsV RL 56 RX5 yX5_append wsX5_append) := goodIn_app (goodIn_of _ (by decide +kernel)) ggL_law_X5_append
set_option maxRecDepth 20000 in
theorem ggL_law_X4_clearText : GoodIn wsL_law wsX4_clearText := goodIn_r _ [401, 24, 402, 403, 404, 23, 405, 391, 664, 665, 666, 667, 687, 688, 689, 690, 691, 692] (by decide +kernel) (by decide +kernel)
set_option maxRecDepth 20000 in
theorem gL_law_X4_clearText : GoodIn wsL_law (wsV RL 57 RX4 yX4_clearText wsX4_clearText) := goodIn_app (goodIn_of _ (by decide +kernel)) ggL_law_X4_clearText
set_option maxRecDepth 20000 in
theorem ggL_law_X5_clearText : GoodIn wsL_law wsX5_clearText := goodIn_r _ [409, 397, 668, 669, 670, 671, 672, 673, 674, 675, 676, 677, 678, 679] (by decide +kernel) (by decide +kernel)
set_option maxRecDepth 20000 in
theorem gL_law_X5_clearText : GoodIn wsL_law (wsV RL 60 RX5 yX5_clearText wsX5_clearText) := goodIn_app (goodIn_of _ (by decide +kernel)) ggL_law_X5_clearText
set_option maxRecDepth 20000 in
theorem ggL_law_X4_run : GoodIn wsL_law wsX4_run := goodIn_r _ [413, 16, 15, 24, 414, 75, 76, 77, 14, 78, 32, 33, 79, 80, 81, 82, 83, 31, 84, 39, 85, 86, 87, 88, 40, 42, 43, 44, 89, 45, 415, 416, 417, 23, 418, 419, 420, 421, 422, 423, 424, 425, 391, 59, 426, 427, 428, 429, 430, 164, 142, 165, 431, 432, 433, 434, 58, 435, 436, 437, 438, 439, 440, 441, 442, 443, 444, 445, 446, 447, 448, 449, 450, 451, 452, 453, 454, 455, 456, 457, 458, 459, 460, 461, 462, 463, 464, 465, 466, 467, 468, 469, 470, 471, 472, 473, 474, 475, 476, 477, 478, 479, 480, 481, 482, 483, 484, 485, 486, 487, 488, 489, 490, 491, 492, 493, 494, 495, 496, 497, 498, 499, 500, 501, 502, 503, 504, 505, 506, 507, 2, 508, 385, 509, 510, 511, 512, 90, 91, 92, 93, 94, 95, 96, 97, 98, 99, 100, 101, 102, 103, 104, 105, 106, 107, 108, 109, 110, 111, 112, 113, 114, 115, 116, 117, 118, 119, 120, 121, 122, 123, 124, 125, 126, 127, 128, 129, 130, 131, 132, 133, 134, 135, 136, 137, 138, 139, 140, 141, 143, 144, 145, 146, 147, 148, 149, 150, 151, 152, 228, 229, 230, 231, 232, 233, 234, 235, 236, 237, 238, 239, 240, 303, 304, 305, 306, 307, 324, 325, 326, 327, 328, 329, 330, 331, 332, 333, 355, 356, 357, 358, 402, 403, 404, 405, 153, 154, 155, 156, 20, 157, 158, 159, 19, 160, 161, 162, 163, 166, 167, 168, 169, 51, 170, 664, 665, 666, 667, 687, 688, 689, 690, 691, 692, 680, 681, 682, 683, 693, 694, 695, 696, 697, 698, 699, 684, 685, 686] (by decide +kernel) (by decide +kernel)
set_option maxRecDepth 20000 in
theorem gL_law_X4_run : GoodIn wsL_law (wsV RL 61 RX4 yX4_run wsX4_run) := goodIn_app (goodIn_of _ (by decide +kernel)) ggL_law_X4_run
set_option maxRecDepth 20000 in
theorem ggL_law_X5_run : GoodIn wsL_law wsX5_run := goodIn_r _ [516, 517, 397, 65, 64, 175, 176, 177, 5, 178, 179, 180, 181, 518, 519, 520, 521, 522, 523, 524, 525, 526, 68, 527, 528, 529, 530, 531, 70, 187, 186, 532, 533, 534, 535, 188, 189, 190, 536, 537, 538, 539, 540, 541, 542, 543, 544, 545, 546, 182, 183, 184, 185, 191, 192, 193, 194, 195, 196, 197, 198, 199, 200, 201, 202, 203, 204, 205, 206, 207, 208, 209, 210, 211, 212, 213, 214, 69, 215, 216, 217, 218, 245, 246, 247, 248, 249, 250, 251, 252, 312, 313, 314, 315, 316, 317, 318, 319, 338, 339, 340, 341, 342, 343, 344, 345, 346, 347, 348, 349, 350, 363, 364, 365, 366, 219, 220, 221, 222, 223, 67, 668, 669, 670, 671, 672, 673, 674, 675, 676, 677, 678, 679] (by decide +kernel) (by decide +kernel)
set_option maxRecDepth 20000 in
theorem gL_law_X5_run : GoodIn wsL_law (wsV RL 64 RX5 yX5_run wsX5_run) := goodIn_app (goodIn_of _ (by decide +kernel)) ggL_law_X5_run
set_option maxRecDepth 20000 in
theorem ggL_law_X4_count : GoodIn wsL_law wsX4_count := goodIn_r _ [550, 15, 551, 552, 553, 554, 555, 556, 557, 20, 371, 24, 558, 385, 559, 560, 561, 31, 562, 44, 563, 145, 146, 147, 89, 148, 149, 150, 151, 152, 129, 130, 131, 42, 39, 40, 119, 120, 121, 122, 124, 125, 126, 127, 45, 132, 133, 134, 135, 43, 564, 565, 566, 14, 567, 32, 79, 80, 333, 568, 569, 570, 571, 572, 94, 33, 128, 664, 665, 666, 667, 680, 681, 682, 683, 693, 694, 695, 696, 697, 698, 699, 684, 685, 686, 687, 688, 689, 690, 691, 692] (by decide +kernel) (by decide +kernel)
set_option maxRecDepth 20000 in
theorem gL_law_X4_count : GoodIn wsL_law (wsV RL 65 RX4 yX4_count wsX4_count) := goodIn_app (goodIn_of _ (by decide +kernel)) ggL_law_X4_count
set_option maxRecDepth 20000 in
theorem ggL_law_X5_count : GoodIn wsL_law wsX5_count := goodIn_r _ [576, 64, 350, 223, 397, 69, 186, 211, 212, 213, 5, 214, 191, 192, 193, 197, 198, 199, 577, 578, 579, 580, 203, 204, 205, 206, 207, 208, 209, 210, 215, 216, 217, 218, 581, 582, 583, 584, 585, 586, 587, 588, 589, 590, 591, 592, 188, 189, 190, 668, 669, 670, 671, 672, 673, 674, 675, 676, 677, 678, 679] (by decide +kernel) (by decide +kernel)
set_option maxRecDepth 20000 in
theorem gL_law_X5_count : GoodIn wsL_law (wsV RL 68 RX5 yX5_count wsX5_count) := goodIn_app (goodIn_of _ (by decide +kernel)) ggL_law_X5_count
set_option maxRecDepth 20000 in
theorem ggL_law_X4_line : GoodIn wsL_law wsX4_line := goodIn_r _ [596, 15, 551, 385, 597, 598, 599, 600, 120, 121, 31, 122, 89, 601, 129, 130, 131, 42, 39, 40, 119, 124, 125, 126, 127, 45, 132, 133, 134, 135, 44, 43, 602, 149, 150, 151, 152, 603, 604, 605, 606, 564, 565, 566, 14, 567, 32, 79, 80, 333, 664, 665, 666, 667, 680, 681, 682, 683, 693, 694, 695, 696, 697, 698, 699] (by decide +kernel) (by decide +kernel)
set_option maxRecDepth 20000 in
theorem gL_law_X4_line : GoodIn wsL_law (wsV RL 69 RX4 yX4_line wsX4_line) := goodIn_app (goodIn_of _ (by decide +kernel)) ggL_law_X4_line
set_option maxRecDepth 20000 in
theorem ggL_law_X5_line : GoodIn wsL_law wsX5_line := goodIn_r _ [610, 186, 64, 249, 250, 251, 5, 252, 188, 189, 190, 211, 212, 213, 214, 69, 191, 192, 193, 197, 198, 199, 215, 216, 217, 218, 207, 208, 209, 210, 581, 582, 583, 584, 668, 669, 670, 671, 672, 673, 674, 675, 676, 677, 678, 679] (by decide +kernel) (by decide +kernel)
set_option maxRecDepth 20000 in
theorem gL_law_X5_line : GoodIn wsL_law (wsV RL 72 RX5 yX5_line wsX5_line) := goodIn_app (goodIn_of _ (by decide +kernel)) ggL_law_X5_line
set_option maxRecDepth 20000 in
theorem ggL_law_X4_seen : GoodIn wsL_law wsX4_seen := goodIn_r _ [614, 15, 556, 385, 551, 386, 97, 2, 98, 564, 565, 566, 14, 567, 32, 79, 80, 333, 149, 150, 31, 151, 89, 152, 129, 130, 131, 42, 39, 40, 119, 120, 121, 122, 124, 125, 126, 127, 45, 132, 133, 134, 135, 44, 43, 615, 329, 330, 331, 332, 664, 665, 666, 667, 680, 681, 682, 683, 693, 694, 695, 696, 697, 698, 699] (by decide +kernel) (by decide +kernel)
set_option maxRecDepth 20000 in
theorem gL_law_X4_seen : GoodIn wsL_law (wsV RL 73 RX4 yX4_seen wsX4_seen) := goodIn_app (goodIn_of _ (by decide +kernel)) ggL_law_X4_seen
set_option maxRecDepth 20000 in
theorem ggL_law_X5_seen : GoodIn wsL_law wsX5_seen := goodIn_r _ [619, 64, 186, 188, 189, 5, 190, 581, 582, 583, 584, 207, 208, 209, 210, 211, 212, 213, 214, 69, 191, 192, 193, 197, 198, 199, 215, 216, 217, 218, 346, 347, 348, 349, 350, 668, 669, 670, 671, 672, 673, 674, 675, 676, 677, 678, 679] (by decide +kernel) (by decide +kernel)
set_option maxRecDepth 20000 in
theorem gL_law_X5_seen : GoodIn wsL_law (wsV RL 76 RX5 yX5_seen wsX5_seen) := goodIn_app (goodIn_of _ (by decide +kernel)) ggL_law_X5_seen
set_option maxRecDepth 20000 in
theorem ggL_law_X4_at : GoodIn wsL_law wsX4_at := goodIn_r _ [623, 385, 15, 551, 615, 329, 330, 31, 331, 89, 332, 152, 129, 130, 131, 42, 39, 40, 119, 120, 121, 122, 124, 125, 126, 127, 45, 132, 133, 134, 135, 44, 43, 664, 665, 666, 667, 680, 681, 682, 683, 693, 694, 695, 696, 697, 698, 699] (by decide +kernel) (by decide +kernel)
set_option maxRecDepth 20000 in
theorem gL_law_X4_at : GoodIn wsL_law (wsV RL 77 RX4 yX4_at wsX4_at) := goodIn_app (goodIn_of _ (by decide +kernel)) ggL_law_X4_at
set_option maxRecDepth 20000 in
theorem ggL_law_X5_at : GoodIn wsL_law wsX5_at := goodIn_r _ [627, 186, 64, 346, 347, 348, 5, 349, 350, 211, 212, 213, 214, 69, 191, 192, 193, 197, 198, 199, 215, 216, 217, 218, 668, 669, 670, 671, 672, 673, 674, 675, 676, 677, 678, 679] (by decide +kernel) (by decide +kernel)
set_option maxRecDepth 20000 in
theorem gL_law_X5_at : GoodIn wsL_law (wsV RL 80 RX5 yX5_at wsX5_at) := goodIn_app (goodIn_of _ (by decide +kernel)) ggL_law_X5_at
set_option maxRecDepth 20000 in
theorem ggL_law_X4_share : GoodIn wsL_law wsX4_share := goodIn_r _ [631, 15, 551, 556, 563, 145, 146, 31, 147, 89, 148, 149, 150, 151, 152, 129, 130, 131, 42, 39, 40, 119, 120, 121, 122, 124, 125, 126, 127, 45, 132, 133, 134, 135, 44, 43, 564, 565, 566, 14, 567, 32, 79, 80, 333, 664, 665, 666, 667, 680, 681, 682, 683, 693, 694, 695, 696, 697, 698, 699] (by decide +kernel) (by decide +kernel)
set_option maxRecDepth 20000 in
theorem gL_law_X4_share : GoodIn wsL_law (wsV RL 81 RX4 yX4_share wsX4_share) := goodIn_app (goodIn_of _ (by decide +kernel)) ggL_law_X4_share
set_option maxRecDepth 20000 in
theorem ggL_law_X5_share : GoodIn wsL_law wsX5_share := goodIn_r _ [635, 64, 203, 204, 205, 5, 206, 207, 208, 209, 210, 211, 212, 213, 214, 69, 191, 192, 193, 197, 198, 199, 215, 216, 217, 218, 581, 582, 583, 584, 668, 669, 670, 671, 672, 673, 674, 675, 676, 677, 678, 679] (by decide +kernel) (by decide +kernel)
set_option maxRecDepth 20000 in
theorem gL_law_X5_share : GoodIn wsL_law (wsV RL 84 RX5 yX5_share wsX5_share) := goodIn_app (goodIn_of _ (by decide +kernel)) ggL_law_X5_share
set_option maxRecDepth 20000 in
theorem ggL_law_X4_trueSum : GoodIn wsL_law wsX4_trueSum := goodIn_r _ [639, 15, 551, 385, 600, 120, 121, 31, 122, 89, 603, 604, 605, 606, 39, 40, 119, 124, 125, 126, 127, 45, 664, 665, 666, 667, 680, 681, 682, 683, 693, 694, 695, 696, 697, 698, 699] (by decide +kernel) (by decide +kernel)
set_option maxRecDepth 20000 in
theorem gL_law_X4_trueSum : GoodIn wsL_law (wsV RL 85 RX4 yX4_trueSum wsX4_trueSum) := goodIn_app (goodIn_of _ (by decide +kernel)) ggL_law_X4_trueSum
set_option maxRecDepth 20000 in
theorem ggL_law_X5_trueSum : GoodIn wsL_law wsX5_trueSum := goodIn_r _ [643, 186, 64, 249, 250, 251, 5, 252, 188, 189, 190, 197, 198, 199, 191, 192, 193, 668, 669, 670, 671, 672, 673, 674, 675, 676, 677, 678, 679] (by decide +kernel) (by decide +kernel)
set_option maxRecDepth 20000 in
theorem gL_law_X5_trueSum : GoodIn wsL_law (wsV RL 88 RX5 yX5_trueSum wsX5_trueSum) := goodIn_app (goodIn_of _ (by decide +kernel)) ggL_law_X5_trueSum
set_option maxRecDepth 20000 in
theorem ggL_law_X4_scrollsTo : GoodIn wsL_law wsX4_scrollsTo := goodIn_r _ [647, 15, 551, 385, 16, 553, 600, 120, 121, 31, 122, 89, 386, 97, 2, 98, 75, 76, 77, 14, 78, 32, 33, 79, 80, 81, 82, 83, 84, 39, 85, 86, 87, 88, 40, 42, 43, 44, 45, 648, 649, 650, 651, 128, 129, 130, 131, 119, 124, 125, 126, 127, 132, 133, 134, 135, 303, 304, 305, 306, 95, 94, 307, 136, 137, 138, 139, 140, 141, 142, 143, 115, 116, 117, 118, 123, 100, 101, 102, 107, 108, 109, 110, 111, 112, 113, 114, 664, 665, 666, 667, 680, 681, 682, 683, 693, 694, 695, 696, 697, 698, 699] (by decide +kernel) (by decide +kernel)
set_option maxRecDepth 20000 in
theorem gL_law_X4_scrollsTo : GoodIn wsL_law (wsV RL 89 RX4 yX4_scrollsTo wsX4_scrollsTo) := goodIn_app (goodIn_of _ (by decide +kernel)) ggL_law_X4_scrollsTo
set_option maxRecDepth 20000 in
theorem ggL_law_X5_scrollsTo : GoodIn wsL_law wsX5_scrollsTo := goodIn_r _ [655, 186, 64, 66, 350, 249, 250, 251, 5, 252, 188, 189, 190, 179, 180, 181, 589, 590, 591, 592, 207, 208, 209, 210, 211, 212, 213, 214, 69, 191, 192, 193, 197, 198, 199, 215, 216, 217, 218, 581, 582, 583, 584, 317, 318, 319, 200, 201, 202, 194, 195, 196, 668, 669, 670, 671, 672, 673, 674, 675, 676, 677, 678, 679] (by decide +kernel) (by decide +kernel)
set_option maxRecDepth 20000 in
theorem gL_law_X5_scrollsTo : GoodIn wsL_law (wsV RL 92 RX5 yX5_scrollsTo wsX5_scrollsTo) := goodIn_app (goodIn_of _ (by decide +kernel)) ggL_law_X5_scrollsTo
set_option maxRecDepth 20000 in
theorem ggL_law_X4_measuredBy : GoodIn wsL_law wsX4_measuredBy := goodIn_r _ [659, 385, 16, 15, 551, 386, 97, 2, 98, 75, 76, 77, 14, 78, 32, 33, 79, 80, 81, 82, 83, 31, 84, 39, 85, 86, 87, 88, 40, 42, 43, 44, 89, 45, 324, 325, 326, 327, 95, 94, 307, 140, 141, 142, 143, 144, 145, 146, 147, 148, 149, 150, 151, 152, 129, 130, 131, 119, 120, 121, 122, 124, 125, 126, 127, 132, 133, 134, 135, 328, 329, 330, 331, 332, 333, 107, 108, 109, 110, 111, 112, 113, 114, 115, 116, 117, 118, 123, 100, 101, 102, 128, 136, 137, 138, 139, 559, 560, 561, 562, 664, 665, 666, 667, 680, 681, 682, 683, 693, 694, 695, 696, 697, 698, 699] (by decide +kernel) (by decide +kernel)
set_option maxRecDepth 20000 in
theorem gL_law_X4_measuredBy : GoodIn wsL_law (wsV RL 93 RX4 yX4_measuredBy wsX4_measuredBy) := goodIn_app (goodIn_of _ (by decide +kernel)) ggL_law_X4_measuredBy
set_option maxRecDepth 20000 in
theorem ggL_law_X5_measuredBy : GoodIn wsL_law wsX5_measuredBy := goodIn_r _ [663, 186, 64, 66, 188, 189, 5, 190, 179, 180, 181, 342, 343, 344, 345, 203, 204, 205, 206, 207, 208, 209, 210, 211, 212, 213, 214, 69, 191, 192, 193, 197, 198, 199, 215, 216, 217, 218, 346, 347, 348, 349, 350, 194, 195, 196, 200, 201, 202, 577, 578, 579, 580, 668, 669, 670, 671, 672, 673, 674, 675, 676, 677, 678, 679] (by decide +kernel) (by decide +kernel)
set_option maxRecDepth 20000 in
theorem gL_law_X5_measuredBy : GoodIn wsL_law (wsV RL 96 RX5 yX5_measuredBy wsX5_measuredBy) := goodIn_app (goodIn_of _ (by decide +kernel)) ggL_law_X5_measuredBy
theorem dL_law_0 : decode cL_law 0 = .ok (.new 7, 3) := by decide +kernel
theorem dL_law_3 : decode cL_law 3 = .ok (.dup, 1) := by decide +kernel
theorem dL_law_4 : decode cL_law 4 = .ok (.invokespecial 9, 3) := by decide +kernel
theorem dL_law_7 : decode cL_law 7 = .ok (.astore_n 1, 1) := by decide +kernel
theorem dL_law_8 : decode cL_law 8 = .ok (.new 10, 3) := by decide +kernel
theorem dL_law_11 : decode cL_law 11 = .ok (.dup, 1) := by decide +kernel
theorem dL_law_12 : decode cL_law 12 = .ok (.invokespecial 12, 3) := by decide +kernel
theorem dL_law_15 : decode cL_law 15 = .ok (.astore_n 2, 1) := by decide +kernel
theorem dL_law_16 : decode cL_law 16 = .ok (.iconst 0, 1) := by decide +kernel
theorem dL_law_17 : decode cL_law 17 = .ok (.istore_n 3, 1) := by decide +kernel
theorem dL_law_18 : decode cL_law 18 = .ok (.iload_n 3, 1) := by decide +kernel
theorem dL_law_19 : decode cL_law 19 = .ok (.aload_n 0, 1) := by decide +kernel
theorem dL_law_20 : decode cL_law 20 = .ok (.arraylength, 1) := by decide +kernel
theorem dL_law_21 : decode cL_law 21 = .ok (.iconst 4, 1) := by decide +kernel
theorem dL_law_22 : decode cL_law 22 = .ok (.isub, 1) := by decide +kernel
theorem dL_law_23 : decode cL_law 23 = .ok (.if_icmp .gt 591, 3) := by decide +kernel
theorem dL_law_26 : decode cL_law 26 = .ok (.aload_n 0, 1) := by decide +kernel
theorem dL_law_27 : decode cL_law 27 = .ok (.iload_n 3, 1) := by decide +kernel
theorem dL_law_28 : decode cL_law 28 = .ok (.iaload, 1) := by decide +kernel
theorem dL_law_29 : decode cL_law 29 = .ok (.bipush 31, 2) := by decide +kernel
theorem dL_law_31 : decode cL_law 31 = .ok (.iand, 1) := by decide +kernel
theorem dL_law_32 : decode cL_law 32 = .ok (.tableswitch 576 0 19 #[96, 139, 162, 195, 218, 241, 264, 287, 310, 323, 346, 359, 372, 395, 428, 451, 474, 487, 520, 553], 96) := by decide +kernel
theorem dL_law_128 : decode cL_law 128 = .ok (.aload_n 1, 1) := by decide +kernel
theorem dL_law_129 : decode cL_law 129 = .ok (.aload_n 0, 1) := by decide +kernel
theorem dL_law_130 : decode cL_law 130 = .ok (.iload_n 3, 1) := by decide +kernel
theorem dL_law_131 : decode cL_law 131 = .ok (.iconst 1, 1) := by decide +kernel
theorem dL_law_132 : decode cL_law 132 = .ok (.iadd, 1) := by decide +kernel
theorem dL_law_133 : decode cL_law 133 = .ok (.iaload, 1) := by decide +kernel
theorem dL_law_134 : decode cL_law 134 = .ok (.aload_n 0, 1) := by decide +kernel
theorem dL_law_135 : decode cL_law 135 = .ok (.iload_n 3, 1) := by decide +kernel
theorem dL_law_136 : decode cL_law 136 = .ok (.iconst 2, 1) := by decide +kernel
theorem dL_law_137 : decode cL_law 137 = .ok (.iadd, 1) := by decide +kernel
theorem dL_law_138 : decode cL_law 138 = .ok (.iaload, 1) := by decide +kernel
theorem dL_law_139 : decode cL_law 139 = .ok (.aload_n 0, 1) := by decide +kernel
theorem dL_law_140 : decode cL_law 140 = .ok (.iload_n 3, 1) := by decide +kernel
theorem dL_law_141 : decode cL_law 141 = .ok (.iconst 3, 1) := by decide +kernel
theorem dL_law_142 : decode cL_law 142 = .ok (.iadd, 1) := by decide +kernel
theorem dL_law_143 : decode cL_law 143 = .ok (.iaload, 1) := by decide +kernel
theorem dL_law_144 : decode cL_law 144 = .ok (.invokevirtual 13, 3) := by decide +kernel
theorem dL_law_147 : decode cL_law 147 = .ok (.aload_n 2, 1) := by decide +kernel
theorem dL_law_148 : decode cL_law 148 = .ok (.aload_n 0, 1) := by decide +kernel
theorem dL_law_149 : decode cL_law 149 = .ok (.iload_n 3, 1) := by decide +kernel
theorem dL_law_150 : decode cL_law 150 = .ok (.iconst 1, 1) := by decide +kernel
theorem dL_law_151 : decode cL_law 151 = .ok (.iadd, 1) := by decide +kernel
theorem dL_law_152 : decode cL_law 152 = .ok (.iaload, 1) := by decide +kernel
theorem dL_law_153 : decode cL_law 153 = .ok (.aload_n 0, 1) := by decide +kernel
theorem dL_law_154 : decode cL_law 154 = .ok (.iload_n 3, 1) := by decide +kernel
theorem dL_law_155 : decode cL_law 155 = .ok (.iconst 2, 1) := by decide +kernel
theorem dL_law_156 : decode cL_law 156 = .ok (.iadd, 1) := by decide +kernel
theorem dL_law_157 : decode cL_law 157 = .ok (.iaload, 1) := by decide +kernel
theorem dL_law_158 : decode cL_law 158 = .ok (.aload_n 0, 1) := by decide +kernel
theorem dL_law_159 : decode cL_law 159 = .ok (.iload_n 3, 1) := by decide +kernel
theorem dL_law_160 : decode cL_law 160 = .ok (.iconst 3, 1) := by decide +kernel
theorem dL_law_161 : decode cL_law 161 = .ok (.iadd, 1) := by decide +kernel
theorem dL_law_162 : decode cL_law 162 = .ok (.iaload, 1) := by decide +kernel
theorem dL_law_163 : decode cL_law 163 = .ok (.invokevirtual 17, 3) := by decide +kernel
theorem dL_law_166 : decode cL_law 166 = .ok (.if_icmp .eq 442, 3) := by decide +kernel
theorem dL_law_169 : decode cL_law 169 = .ok (.iconst 0, 1) := by decide +kernel
theorem dL_law_170 : decode cL_law 170 = .ok (.ireturn, 1) := by decide +kernel
theorem dL_law_171 : decode cL_law 171 = .ok (.aload_n 1, 1) := by decide +kernel
theorem dL_law_172 : decode cL_law 172 = .ok (.aload_n 0, 1) := by decide +kernel
theorem dL_law_173 : decode cL_law 173 = .ok (.iload_n 3, 1) := by decide +kernel
theorem dL_law_174 : decode cL_law 174 = .ok (.iconst 1, 1) := by decide +kernel
theorem dL_law_175 : decode cL_law 175 = .ok (.iadd, 1) := by decide +kernel
theorem dL_law_176 : decode cL_law 176 = .ok (.iaload, 1) := by decide +kernel
theorem dL_law_177 : decode cL_law 177 = .ok (.invokevirtual 18, 3) := by decide +kernel
theorem dL_law_180 : decode cL_law 180 = .ok (.aload_n 2, 1) := by decide +kernel
theorem dL_law_181 : decode cL_law 181 = .ok (.aload_n 0, 1) := by decide +kernel
theorem dL_law_182 : decode cL_law 182 = .ok (.iload_n 3, 1) := by decide +kernel
theorem dL_law_183 : decode cL_law 183 = .ok (.iconst 1, 1) := by decide +kernel
theorem dL_law_184 : decode cL_law 184 = .ok (.iadd, 1) := by decide +kernel
theorem dL_law_185 : decode cL_law 185 = .ok (.iaload, 1) := by decide +kernel
theorem dL_law_186 : decode cL_law 186 = .ok (.invokevirtual 22, 3) := by decide +kernel
theorem dL_law_189 : decode cL_law 189 = .ok (.if_icmp .eq 419, 3) := by decide +kernel
theorem dL_law_192 : decode cL_law 192 = .ok (.iconst 0, 1) := by decide +kernel
theorem dL_law_193 : decode cL_law 193 = .ok (.ireturn, 1) := by decide +kernel
theorem dL_law_194 : decode cL_law 194 = .ok (.aload_n 1, 1) := by decide +kernel
theorem dL_law_195 : decode cL_law 195 = .ok (.aload_n 0, 1) := by decide +kernel
theorem dL_law_196 : decode cL_law 196 = .ok (.iload_n 3, 1) := by decide +kernel
theorem dL_law_197 : decode cL_law 197 = .ok (.iconst 1, 1) := by decide +kernel
theorem dL_law_198 : decode cL_law 198 = .ok (.iadd, 1) := by decide +kernel
theorem dL_law_199 : decode cL_law 199 = .ok (.iaload, 1) := by decide +kernel
theorem dL_law_200 : decode cL_law 200 = .ok (.aload_n 0, 1) := by decide +kernel
theorem dL_law_201 : decode cL_law 201 = .ok (.iload_n 3, 1) := by decide +kernel
theorem dL_law_202 : decode cL_law 202 = .ok (.iconst 2, 1) := by decide +kernel
theorem dL_law_203 : decode cL_law 203 = .ok (.iadd, 1) := by decide +kernel
theorem dL_law_204 : decode cL_law 204 = .ok (.iaload, 1) := by decide +kernel
theorem dL_law_205 : decode cL_law 205 = .ok (.invokevirtual 23, 3) := by decide +kernel
theorem dL_law_208 : decode cL_law 208 = .ok (.aload_n 2, 1) := by decide +kernel
theorem dL_law_209 : decode cL_law 209 = .ok (.aload_n 0, 1) := by decide +kernel
theorem dL_law_210 : decode cL_law 210 = .ok (.iload_n 3, 1) := by decide +kernel
theorem dL_law_211 : decode cL_law 211 = .ok (.iconst 1, 1) := by decide +kernel
theorem dL_law_212 : decode cL_law 212 = .ok (.iadd, 1) := by decide +kernel
theorem dL_law_213 : decode cL_law 213 = .ok (.iaload, 1) := by decide +kernel
theorem dL_law_214 : decode cL_law 214 = .ok (.aload_n 0, 1) := by decide +kernel
theorem dL_law_215 : decode cL_law 215 = .ok (.iload_n 3, 1) := by decide +kernel
theorem dL_law_216 : decode cL_law 216 = .ok (.iconst 2, 1) := by decide +kernel
theorem dL_law_217 : decode cL_law 217 = .ok (.iadd, 1) := by decide +kernel
theorem dL_law_218 : decode cL_law 218 = .ok (.iaload, 1) := by decide +kernel
theorem dL_law_219 : decode cL_law 219 = .ok (.invokevirtual 27, 3) := by decide +kernel
theorem dL_law_222 : decode cL_law 222 = .ok (.if_icmp .eq 386, 3) := by decide +kernel
theorem dL_law_225 : decode cL_law 225 = .ok (.iconst 0, 1) := by decide +kernel
theorem dL_law_226 : decode cL_law 226 = .ok (.ireturn, 1) := by decide +kernel
theorem dL_law_227 : decode cL_law 227 = .ok (.aload_n 1, 1) := by decide +kernel
theorem dL_law_228 : decode cL_law 228 = .ok (.aload_n 0, 1) := by decide +kernel
theorem dL_law_229 : decode cL_law 229 = .ok (.iload_n 3, 1) := by decide +kernel
theorem dL_law_230 : decode cL_law 230 = .ok (.iconst 1, 1) := by decide +kernel
theorem dL_law_231 : decode cL_law 231 = .ok (.iadd, 1) := by decide +kernel
theorem dL_law_232 : decode cL_law 232 = .ok (.iaload, 1) := by decide +kernel
theorem dL_law_233 : decode cL_law 233 = .ok (.invokevirtual 28, 3) := by decide +kernel
theorem dL_law_236 : decode cL_law 236 = .ok (.aload_n 2, 1) := by decide +kernel
theorem dL_law_237 : decode cL_law 237 = .ok (.aload_n 0, 1) := by decide +kernel
theorem dL_law_238 : decode cL_law 238 = .ok (.iload_n 3, 1) := by decide +kernel
theorem dL_law_239 : decode cL_law 239 = .ok (.iconst 1, 1) := by decide +kernel
theorem dL_law_240 : decode cL_law 240 = .ok (.iadd, 1) := by decide +kernel
theorem dL_law_241 : decode cL_law 241 = .ok (.iaload, 1) := by decide +kernel
theorem dL_law_242 : decode cL_law 242 = .ok (.invokevirtual 31, 3) := by decide +kernel
theorem dL_law_245 : decode cL_law 245 = .ok (.if_icmp .eq 363, 3) := by decide +kernel
theorem dL_law_248 : decode cL_law 248 = .ok (.iconst 0, 1) := by decide +kernel
theorem dL_law_249 : decode cL_law 249 = .ok (.ireturn, 1) := by decide +kernel
theorem dL_law_250 : decode cL_law 250 = .ok (.aload_n 1, 1) := by decide +kernel
theorem dL_law_251 : decode cL_law 251 = .ok (.aload_n 0, 1) := by decide +kernel
theorem dL_law_252 : decode cL_law 252 = .ok (.iload_n 3, 1) := by decide +kernel
theorem dL_law_253 : decode cL_law 253 = .ok (.iconst 1, 1) := by decide +kernel
theorem dL_law_254 : decode cL_law 254 = .ok (.iadd, 1) := by decide +kernel
theorem dL_law_255 : decode cL_law 255 = .ok (.iaload, 1) := by decide +kernel
theorem dL_law_256 : decode cL_law 256 = .ok (.invokevirtual 32, 3) := by decide +kernel
theorem dL_law_259 : decode cL_law 259 = .ok (.aload_n 2, 1) := by decide +kernel
theorem dL_law_260 : decode cL_law 260 = .ok (.aload_n 0, 1) := by decide +kernel
theorem dL_law_261 : decode cL_law 261 = .ok (.iload_n 3, 1) := by decide +kernel
theorem dL_law_262 : decode cL_law 262 = .ok (.iconst 1, 1) := by decide +kernel
theorem dL_law_263 : decode cL_law 263 = .ok (.iadd, 1) := by decide +kernel
theorem dL_law_264 : decode cL_law 264 = .ok (.iaload, 1) := by decide +kernel
theorem dL_law_265 : decode cL_law 265 = .ok (.invokevirtual 35, 3) := by decide +kernel
theorem dL_law_268 : decode cL_law 268 = .ok (.if_icmp .eq 340, 3) := by decide +kernel
theorem dL_law_271 : decode cL_law 271 = .ok (.iconst 0, 1) := by decide +kernel
theorem dL_law_272 : decode cL_law 272 = .ok (.ireturn, 1) := by decide +kernel
theorem dL_law_273 : decode cL_law 273 = .ok (.aload_n 1, 1) := by decide +kernel
theorem dL_law_274 : decode cL_law 274 = .ok (.aload_n 0, 1) := by decide +kernel
theorem dL_law_275 : decode cL_law 275 = .ok (.iload_n 3, 1) := by decide +kernel
theorem dL_law_276 : decode cL_law 276 = .ok (.iconst 1, 1) := by decide +kernel
theorem dL_law_277 : decode cL_law 277 = .ok (.iadd, 1) := by decide +kernel
theorem dL_law_278 : decode cL_law 278 = .ok (.iaload, 1) := by decide +kernel
theorem dL_law_279 : decode cL_law 279 = .ok (.invokevirtual 36, 3) := by decide +kernel
theorem dL_law_282 : decode cL_law 282 = .ok (.aload_n 2, 1) := by decide +kernel
theorem dL_law_283 : decode cL_law 283 = .ok (.aload_n 0, 1) := by decide +kernel
theorem dL_law_284 : decode cL_law 284 = .ok (.iload_n 3, 1) := by decide +kernel
theorem dL_law_285 : decode cL_law 285 = .ok (.iconst 1, 1) := by decide +kernel
theorem dL_law_286 : decode cL_law 286 = .ok (.iadd, 1) := by decide +kernel
theorem dL_law_287 : decode cL_law 287 = .ok (.iaload, 1) := by decide +kernel
theorem dL_law_288 : decode cL_law 288 = .ok (.invokevirtual 39, 3) := by decide +kernel
theorem dL_law_291 : decode cL_law 291 = .ok (.if_icmp .eq 317, 3) := by decide +kernel
theorem dL_law_294 : decode cL_law 294 = .ok (.iconst 0, 1) := by decide +kernel
theorem dL_law_295 : decode cL_law 295 = .ok (.ireturn, 1) := by decide +kernel
theorem dL_law_296 : decode cL_law 296 = .ok (.aload_n 1, 1) := by decide +kernel
theorem dL_law_297 : decode cL_law 297 = .ok (.aload_n 0, 1) := by decide +kernel
theorem dL_law_298 : decode cL_law 298 = .ok (.iload_n 3, 1) := by decide +kernel
theorem dL_law_299 : decode cL_law 299 = .ok (.iconst 1, 1) := by decide +kernel
theorem dL_law_300 : decode cL_law 300 = .ok (.iadd, 1) := by decide +kernel
theorem dL_law_301 : decode cL_law 301 = .ok (.iaload, 1) := by decide +kernel
theorem dL_law_302 : decode cL_law 302 = .ok (.invokevirtual 40, 3) := by decide +kernel
theorem dL_law_305 : decode cL_law 305 = .ok (.aload_n 2, 1) := by decide +kernel
theorem dL_law_306 : decode cL_law 306 = .ok (.aload_n 0, 1) := by decide +kernel
theorem dL_law_307 : decode cL_law 307 = .ok (.iload_n 3, 1) := by decide +kernel
theorem dL_law_308 : decode cL_law 308 = .ok (.iconst 1, 1) := by decide +kernel
theorem dL_law_309 : decode cL_law 309 = .ok (.iadd, 1) := by decide +kernel
theorem dL_law_310 : decode cL_law 310 = .ok (.iaload, 1) := by decide +kernel
theorem dL_law_311 : decode cL_law 311 = .ok (.invokevirtual 43, 3) := by decide +kernel
theorem dL_law_314 : decode cL_law 314 = .ok (.if_icmp .eq 294, 3) := by decide +kernel
theorem dL_law_317 : decode cL_law 317 = .ok (.iconst 0, 1) := by decide +kernel
theorem dL_law_318 : decode cL_law 318 = .ok (.ireturn, 1) := by decide +kernel
theorem dL_law_319 : decode cL_law 319 = .ok (.aload_n 1, 1) := by decide +kernel
theorem dL_law_320 : decode cL_law 320 = .ok (.aload_n 0, 1) := by decide +kernel
theorem dL_law_321 : decode cL_law 321 = .ok (.iload_n 3, 1) := by decide +kernel
theorem dL_law_322 : decode cL_law 322 = .ok (.iconst 1, 1) := by decide +kernel
theorem dL_law_323 : decode cL_law 323 = .ok (.iadd, 1) := by decide +kernel
theorem dL_law_324 : decode cL_law 324 = .ok (.iaload, 1) := by decide +kernel
theorem dL_law_325 : decode cL_law 325 = .ok (.invokevirtual 44, 3) := by decide +kernel
theorem dL_law_328 : decode cL_law 328 = .ok (.aload_n 2, 1) := by decide +kernel
theorem dL_law_329 : decode cL_law 329 = .ok (.aload_n 0, 1) := by decide +kernel
theorem dL_law_330 : decode cL_law 330 = .ok (.iload_n 3, 1) := by decide +kernel
theorem dL_law_331 : decode cL_law 331 = .ok (.iconst 1, 1) := by decide +kernel
theorem dL_law_332 : decode cL_law 332 = .ok (.iadd, 1) := by decide +kernel
theorem dL_law_333 : decode cL_law 333 = .ok (.iaload, 1) := by decide +kernel
theorem dL_law_334 : decode cL_law 334 = .ok (.invokevirtual 47, 3) := by decide +kernel
theorem dL_law_337 : decode cL_law 337 = .ok (.if_icmp .eq 271, 3) := by decide +kernel
theorem dL_law_340 : decode cL_law 340 = .ok (.iconst 0, 1) := by decide +kernel
theorem dL_law_341 : decode cL_law 341 = .ok (.ireturn, 1) := by decide +kernel
theorem dL_law_342 : decode cL_law 342 = .ok (.aload_n 1, 1) := by decide +kernel
theorem dL_law_343 : decode cL_law 343 = .ok (.invokevirtual 48, 3) := by decide +kernel
theorem dL_law_346 : decode cL_law 346 = .ok (.aload_n 2, 1) := by decide +kernel
theorem dL_law_347 : decode cL_law 347 = .ok (.invokevirtual 52, 3) := by decide +kernel
theorem dL_law_350 : decode cL_law 350 = .ok (.if_icmp .eq 258, 3) := by decide +kernel
theorem dL_law_353 : decode cL_law 353 = .ok (.iconst 0, 1) := by decide +kernel
theorem dL_law_354 : decode cL_law 354 = .ok (.ireturn, 1) := by decide +kernel
theorem dL_law_355 : decode cL_law 355 = .ok (.aload_n 1, 1) := by decide +kernel
theorem dL_law_356 : decode cL_law 356 = .ok (.aload_n 0, 1) := by decide +kernel
theorem dL_law_357 : decode cL_law 357 = .ok (.iload_n 3, 1) := by decide +kernel
theorem dL_law_358 : decode cL_law 358 = .ok (.iconst 1, 1) := by decide +kernel
theorem dL_law_359 : decode cL_law 359 = .ok (.iadd, 1) := by decide +kernel
theorem dL_law_360 : decode cL_law 360 = .ok (.iaload, 1) := by decide +kernel
theorem dL_law_361 : decode cL_law 361 = .ok (.invokevirtual 53, 3) := by decide +kernel
theorem dL_law_364 : decode cL_law 364 = .ok (.aload_n 2, 1) := by decide +kernel
theorem dL_law_365 : decode cL_law 365 = .ok (.aload_n 0, 1) := by decide +kernel
theorem dL_law_366 : decode cL_law 366 = .ok (.iload_n 3, 1) := by decide +kernel
theorem dL_law_367 : decode cL_law 367 = .ok (.iconst 1, 1) := by decide +kernel
theorem dL_law_368 : decode cL_law 368 = .ok (.iadd, 1) := by decide +kernel
theorem dL_law_369 : decode cL_law 369 = .ok (.iaload, 1) := by decide +kernel
theorem dL_law_370 : decode cL_law 370 = .ok (.invokevirtual 56, 3) := by decide +kernel
theorem dL_law_373 : decode cL_law 373 = .ok (.if_icmp .eq 235, 3) := by decide +kernel
theorem dL_law_376 : decode cL_law 376 = .ok (.iconst 0, 1) := by decide +kernel
theorem dL_law_377 : decode cL_law 377 = .ok (.ireturn, 1) := by decide +kernel
theorem dL_law_378 : decode cL_law 378 = .ok (.aload_n 1, 1) := by decide +kernel
theorem dL_law_379 : decode cL_law 379 = .ok (.invokevirtual 57, 3) := by decide +kernel
theorem dL_law_382 : decode cL_law 382 = .ok (.aload_n 2, 1) := by decide +kernel
theorem dL_law_383 : decode cL_law 383 = .ok (.invokevirtual 60, 3) := by decide +kernel
theorem dL_law_386 : decode cL_law 386 = .ok (.if_icmp .eq 222, 3) := by decide +kernel
theorem dL_law_389 : decode cL_law 389 = .ok (.iconst 0, 1) := by decide +kernel
theorem dL_law_390 : decode cL_law 390 = .ok (.ireturn, 1) := by decide +kernel
theorem dL_law_391 : decode cL_law 391 = .ok (.aload_n 1, 1) := by decide +kernel
theorem dL_law_392 : decode cL_law 392 = .ok (.invokevirtual 61, 3) := by decide +kernel
theorem dL_law_395 : decode cL_law 395 = .ok (.aload_n 2, 1) := by decide +kernel
theorem dL_law_396 : decode cL_law 396 = .ok (.invokevirtual 64, 3) := by decide +kernel
theorem dL_law_399 : decode cL_law 399 = .ok (.if_icmp .eq 209, 3) := by decide +kernel
theorem dL_law_402 : decode cL_law 402 = .ok (.iconst 0, 1) := by decide +kernel
theorem dL_law_403 : decode cL_law 403 = .ok (.ireturn, 1) := by decide +kernel
theorem dL_law_404 : decode cL_law 404 = .ok (.aload_n 1, 1) := by decide +kernel
theorem dL_law_405 : decode cL_law 405 = .ok (.aload_n 0, 1) := by decide +kernel
theorem dL_law_406 : decode cL_law 406 = .ok (.iload_n 3, 1) := by decide +kernel
theorem dL_law_407 : decode cL_law 407 = .ok (.iconst 1, 1) := by decide +kernel
theorem dL_law_408 : decode cL_law 408 = .ok (.iadd, 1) := by decide +kernel
theorem dL_law_409 : decode cL_law 409 = .ok (.iaload, 1) := by decide +kernel
theorem dL_law_410 : decode cL_law 410 = .ok (.invokevirtual 65, 3) := by decide +kernel
theorem dL_law_413 : decode cL_law 413 = .ok (.aload_n 2, 1) := by decide +kernel
theorem dL_law_414 : decode cL_law 414 = .ok (.aload_n 0, 1) := by decide +kernel
theorem dL_law_415 : decode cL_law 415 = .ok (.iload_n 3, 1) := by decide +kernel
theorem dL_law_416 : decode cL_law 416 = .ok (.iconst 1, 1) := by decide +kernel
theorem dL_law_417 : decode cL_law 417 = .ok (.iadd, 1) := by decide +kernel
theorem dL_law_418 : decode cL_law 418 = .ok (.iaload, 1) := by decide +kernel
theorem dL_law_419 : decode cL_law 419 = .ok (.invokevirtual 68, 3) := by decide +kernel
theorem dL_law_422 : decode cL_law 422 = .ok (.if_icmp .eq 186, 3) := by decide +kernel
theorem dL_law_425 : decode cL_law 425 = .ok (.iconst 0, 1) := by decide +kernel
theorem dL_law_426 : decode cL_law 426 = .ok (.ireturn, 1) := by decide +kernel
theorem dL_law_427 : decode cL_law 427 = .ok (.aload_n 1, 1) := by decide +kernel
theorem dL_law_428 : decode cL_law 428 = .ok (.aload_n 0, 1) := by decide +kernel
theorem dL_law_429 : decode cL_law 429 = .ok (.iload_n 3, 1) := by decide +kernel
theorem dL_law_430 : decode cL_law 430 = .ok (.iconst 1, 1) := by decide +kernel
theorem dL_law_431 : decode cL_law 431 = .ok (.iadd, 1) := by decide +kernel
theorem dL_law_432 : decode cL_law 432 = .ok (.iaload, 1) := by decide +kernel
theorem dL_law_433 : decode cL_law 433 = .ok (.aload_n 0, 1) := by decide +kernel
theorem dL_law_434 : decode cL_law 434 = .ok (.iload_n 3, 1) := by decide +kernel
theorem dL_law_435 : decode cL_law 435 = .ok (.iconst 2, 1) := by decide +kernel
theorem dL_law_436 : decode cL_law 436 = .ok (.iadd, 1) := by decide +kernel
theorem dL_law_437 : decode cL_law 437 = .ok (.iaload, 1) := by decide +kernel
theorem dL_law_438 : decode cL_law 438 = .ok (.invokevirtual 69, 3) := by decide +kernel
theorem dL_law_441 : decode cL_law 441 = .ok (.aload_n 2, 1) := by decide +kernel
theorem dL_law_442 : decode cL_law 442 = .ok (.aload_n 0, 1) := by decide +kernel
theorem dL_law_443 : decode cL_law 443 = .ok (.iload_n 3, 1) := by decide +kernel
theorem dL_law_444 : decode cL_law 444 = .ok (.iconst 1, 1) := by decide +kernel
theorem dL_law_445 : decode cL_law 445 = .ok (.iadd, 1) := by decide +kernel
theorem dL_law_446 : decode cL_law 446 = .ok (.iaload, 1) := by decide +kernel
theorem dL_law_447 : decode cL_law 447 = .ok (.aload_n 0, 1) := by decide +kernel
theorem dL_law_448 : decode cL_law 448 = .ok (.iload_n 3, 1) := by decide +kernel
theorem dL_law_449 : decode cL_law 449 = .ok (.iconst 2, 1) := by decide +kernel
theorem dL_law_450 : decode cL_law 450 = .ok (.iadd, 1) := by decide +kernel
theorem dL_law_451 : decode cL_law 451 = .ok (.iaload, 1) := by decide +kernel
theorem dL_law_452 : decode cL_law 452 = .ok (.invokevirtual 72, 3) := by decide +kernel
theorem dL_law_455 : decode cL_law 455 = .ok (.if_icmp .eq 153, 3) := by decide +kernel
theorem dL_law_458 : decode cL_law 458 = .ok (.iconst 0, 1) := by decide +kernel
theorem dL_law_459 : decode cL_law 459 = .ok (.ireturn, 1) := by decide +kernel
theorem dL_law_460 : decode cL_law 460 = .ok (.aload_n 1, 1) := by decide +kernel
theorem dL_law_461 : decode cL_law 461 = .ok (.aload_n 0, 1) := by decide +kernel
theorem dL_law_462 : decode cL_law 462 = .ok (.iload_n 3, 1) := by decide +kernel
theorem dL_law_463 : decode cL_law 463 = .ok (.iconst 1, 1) := by decide +kernel
theorem dL_law_464 : decode cL_law 464 = .ok (.iadd, 1) := by decide +kernel
theorem dL_law_465 : decode cL_law 465 = .ok (.iaload, 1) := by decide +kernel
theorem dL_law_466 : decode cL_law 466 = .ok (.invokevirtual 73, 3) := by decide +kernel
theorem dL_law_469 : decode cL_law 469 = .ok (.aload_n 2, 1) := by decide +kernel
theorem dL_law_470 : decode cL_law 470 = .ok (.aload_n 0, 1) := by decide +kernel
theorem dL_law_471 : decode cL_law 471 = .ok (.iload_n 3, 1) := by decide +kernel
theorem dL_law_472 : decode cL_law 472 = .ok (.iconst 1, 1) := by decide +kernel
theorem dL_law_473 : decode cL_law 473 = .ok (.iadd, 1) := by decide +kernel
theorem dL_law_474 : decode cL_law 474 = .ok (.iaload, 1) := by decide +kernel
theorem dL_law_475 : decode cL_law 475 = .ok (.invokevirtual 76, 3) := by decide +kernel
theorem dL_law_478 : decode cL_law 478 = .ok (.if_icmp .eq 130, 3) := by decide +kernel
theorem dL_law_481 : decode cL_law 481 = .ok (.iconst 0, 1) := by decide +kernel
theorem dL_law_482 : decode cL_law 482 = .ok (.ireturn, 1) := by decide +kernel
theorem dL_law_483 : decode cL_law 483 = .ok (.aload_n 1, 1) := by decide +kernel
theorem dL_law_484 : decode cL_law 484 = .ok (.aload_n 0, 1) := by decide +kernel
theorem dL_law_485 : decode cL_law 485 = .ok (.iload_n 3, 1) := by decide +kernel
theorem dL_law_486 : decode cL_law 486 = .ok (.iconst 1, 1) := by decide +kernel
theorem dL_law_487 : decode cL_law 487 = .ok (.iadd, 1) := by decide +kernel
theorem dL_law_488 : decode cL_law 488 = .ok (.iaload, 1) := by decide +kernel
theorem dL_law_489 : decode cL_law 489 = .ok (.invokevirtual 77, 3) := by decide +kernel
theorem dL_law_492 : decode cL_law 492 = .ok (.aload_n 2, 1) := by decide +kernel
theorem dL_law_493 : decode cL_law 493 = .ok (.aload_n 0, 1) := by decide +kernel
theorem dL_law_494 : decode cL_law 494 = .ok (.iload_n 3, 1) := by decide +kernel
theorem dL_law_495 : decode cL_law 495 = .ok (.iconst 1, 1) := by decide +kernel
theorem dL_law_496 : decode cL_law 496 = .ok (.iadd, 1) := by decide +kernel
theorem dL_law_497 : decode cL_law 497 = .ok (.iaload, 1) := by decide +kernel
theorem dL_law_498 : decode cL_law 498 = .ok (.invokevirtual 80, 3) := by decide +kernel
theorem dL_law_501 : decode cL_law 501 = .ok (.if_icmp .eq 107, 3) := by decide +kernel
theorem dL_law_504 : decode cL_law 504 = .ok (.iconst 0, 1) := by decide +kernel
theorem dL_law_505 : decode cL_law 505 = .ok (.ireturn, 1) := by decide +kernel
theorem dL_law_506 : decode cL_law 506 = .ok (.aload_n 1, 1) := by decide +kernel
theorem dL_law_507 : decode cL_law 507 = .ok (.invokevirtual 81, 3) := by decide +kernel
theorem dL_law_510 : decode cL_law 510 = .ok (.aload_n 2, 1) := by decide +kernel
theorem dL_law_511 : decode cL_law 511 = .ok (.invokevirtual 84, 3) := by decide +kernel
theorem dL_law_514 : decode cL_law 514 = .ok (.if_icmp .eq 94, 3) := by decide +kernel
theorem dL_law_517 : decode cL_law 517 = .ok (.iconst 0, 1) := by decide +kernel
theorem dL_law_518 : decode cL_law 518 = .ok (.ireturn, 1) := by decide +kernel
theorem dL_law_519 : decode cL_law 519 = .ok (.aload_n 1, 1) := by decide +kernel
theorem dL_law_520 : decode cL_law 520 = .ok (.aload_n 0, 1) := by decide +kernel
theorem dL_law_521 : decode cL_law 521 = .ok (.iload_n 3, 1) := by decide +kernel
theorem dL_law_522 : decode cL_law 522 = .ok (.iconst 1, 1) := by decide +kernel
theorem dL_law_523 : decode cL_law 523 = .ok (.iadd, 1) := by decide +kernel
theorem dL_law_524 : decode cL_law 524 = .ok (.iaload, 1) := by decide +kernel
theorem dL_law_525 : decode cL_law 525 = .ok (.aload_n 0, 1) := by decide +kernel
theorem dL_law_526 : decode cL_law 526 = .ok (.iload_n 3, 1) := by decide +kernel
theorem dL_law_527 : decode cL_law 527 = .ok (.iconst 2, 1) := by decide +kernel
theorem dL_law_528 : decode cL_law 528 = .ok (.iadd, 1) := by decide +kernel
theorem dL_law_529 : decode cL_law 529 = .ok (.iaload, 1) := by decide +kernel
theorem dL_law_530 : decode cL_law 530 = .ok (.invokevirtual 85, 3) := by decide +kernel
theorem dL_law_533 : decode cL_law 533 = .ok (.aload_n 2, 1) := by decide +kernel
theorem dL_law_534 : decode cL_law 534 = .ok (.aload_n 0, 1) := by decide +kernel
theorem dL_law_535 : decode cL_law 535 = .ok (.iload_n 3, 1) := by decide +kernel
theorem dL_law_536 : decode cL_law 536 = .ok (.iconst 1, 1) := by decide +kernel
theorem dL_law_537 : decode cL_law 537 = .ok (.iadd, 1) := by decide +kernel
theorem dL_law_538 : decode cL_law 538 = .ok (.iaload, 1) := by decide +kernel
theorem dL_law_539 : decode cL_law 539 = .ok (.aload_n 0, 1) := by decide +kernel
theorem dL_law_540 : decode cL_law 540 = .ok (.iload_n 3, 1) := by decide +kernel
theorem dL_law_541 : decode cL_law 541 = .ok (.iconst 2, 1) := by decide +kernel
theorem dL_law_542 : decode cL_law 542 = .ok (.iadd, 1) := by decide +kernel
theorem dL_law_543 : decode cL_law 543 = .ok (.iaload, 1) := by decide +kernel
theorem dL_law_544 : decode cL_law 544 = .ok (.invokevirtual 88, 3) := by decide +kernel
theorem dL_law_547 : decode cL_law 547 = .ok (.if_icmp .eq 61, 3) := by decide +kernel
theorem dL_law_550 : decode cL_law 550 = .ok (.iconst 0, 1) := by decide +kernel
theorem dL_law_551 : decode cL_law 551 = .ok (.ireturn, 1) := by decide +kernel
theorem dL_law_552 : decode cL_law 552 = .ok (.aload_n 1, 1) := by decide +kernel
theorem dL_law_553 : decode cL_law 553 = .ok (.aload_n 0, 1) := by decide +kernel
theorem dL_law_554 : decode cL_law 554 = .ok (.iload_n 3, 1) := by decide +kernel
theorem dL_law_555 : decode cL_law 555 = .ok (.iconst 1, 1) := by decide +kernel
theorem dL_law_556 : decode cL_law 556 = .ok (.iadd, 1) := by decide +kernel
theorem dL_law_557 : decode cL_law 557 = .ok (.iaload, 1) := by decide +kernel
theorem dL_law_558 : decode cL_law 558 = .ok (.aload_n 0, 1) := by decide +kernel
theorem dL_law_559 : decode cL_law 559 = .ok (.iload_n 3, 1) := by decide +kernel
theorem dL_law_560 : decode cL_law 560 = .ok (.iconst 2, 1) := by decide +kernel
theorem dL_law_561 : decode cL_law 561 = .ok (.iadd, 1) := by decide +kernel
theorem dL_law_562 : decode cL_law 562 = .ok (.iaload, 1) := by decide +kernel
theorem dL_law_563 : decode cL_law 563 = .ok (.invokevirtual 89, 3) := by decide +kernel
theorem dL_law_566 : decode cL_law 566 = .ok (.aload_n 2, 1) := by decide +kernel
theorem dL_law_567 : decode cL_law 567 = .ok (.aload_n 0, 1) := by decide +kernel
theorem dL_law_568 : decode cL_law 568 = .ok (.iload_n 3, 1) := by decide +kernel
theorem dL_law_569 : decode cL_law 569 = .ok (.iconst 1, 1) := by decide +kernel
theorem dL_law_570 : decode cL_law 570 = .ok (.iadd, 1) := by decide +kernel
theorem dL_law_571 : decode cL_law 571 = .ok (.iaload, 1) := by decide +kernel
theorem dL_law_572 : decode cL_law 572 = .ok (.aload_n 0, 1) := by decide +kernel
theorem dL_law_573 : decode cL_law 573 = .ok (.iload_n 3, 1) := by decide +kernel
theorem dL_law_574 : decode cL_law 574 = .ok (.iconst 2, 1) := by decide +kernel
theorem dL_law_575 : decode cL_law 575 = .ok (.iadd, 1) := by decide +kernel
theorem dL_law_576 : decode cL_law 576 = .ok (.iaload, 1) := by decide +kernel
theorem dL_law_577 : decode cL_law 577 = .ok (.invokevirtual 92, 3) := by decide +kernel
theorem dL_law_580 : decode cL_law 580 = .ok (.if_icmp .eq 28, 3) := by decide +kernel
theorem dL_law_583 : decode cL_law 583 = .ok (.iconst 0, 1) := by decide +kernel
theorem dL_law_584 : decode cL_law 584 = .ok (.ireturn, 1) := by decide +kernel
theorem dL_law_585 : decode cL_law 585 = .ok (.aload_n 1, 1) := by decide +kernel
theorem dL_law_586 : decode cL_law 586 = .ok (.aload_n 0, 1) := by decide +kernel
theorem dL_law_587 : decode cL_law 587 = .ok (.iload_n 3, 1) := by decide +kernel
theorem dL_law_588 : decode cL_law 588 = .ok (.iconst 1, 1) := by decide +kernel
theorem dL_law_589 : decode cL_law 589 = .ok (.iadd, 1) := by decide +kernel
theorem dL_law_590 : decode cL_law 590 = .ok (.iaload, 1) := by decide +kernel
theorem dL_law_591 : decode cL_law 591 = .ok (.invokevirtual 93, 3) := by decide +kernel
theorem dL_law_594 : decode cL_law 594 = .ok (.aload_n 2, 1) := by decide +kernel
