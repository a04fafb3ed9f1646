set_option maxRecDepth 20000 in
theorem gX5_cut_X5_acted : GoodIn wsX5_cut (wsV RX5 99 RX5 yX5_acted wsX5_acted) := goodIn_app (goodIn_of _ (by decide +kernel)) ggX5_cut_X5_acted
theorem dX5_cut_0 : decode cX5_cut 0 = .ok (.aload_n 0, 1) := by decide +kernel
theorem dX5_cut_1 : decode cX5_cut 1 = .ok (.invokevirtual 92, 3) := by decide +kernel
theorem dX5_cut_4 : decode cX5_cut 4 = .ok (.aload_n 0, 1) := by decide +kernel
theorem dX5_cut_5 : decode cX5_cut 5 = .ok (.aload_n 0, 1) := by decide +kernel
theorem dX5_cut_6 : decode cX5_cut 6 = .ok (.iload_n 1, 1) := by decide +kernel
theorem dX5_cut_7 : decode cX5_cut 7 = .ok (.invokevirtual 103, 3) := by decide +kernel
theorem dX5_cut_10 : decode cX5_cut 10 = .ok (.invokevirtual 99, 3) := by decide +kernel
theorem dX5_cut_13 : decode cX5_cut 13 = .ok (.ireturn, 1) := by decide +kernel
set_option maxRecDepth 20000 in
theorem ggX5_change_X5_isLine : GoodIn wsX5_change wsX5_isLine := goodIn_r _ [7, 2, 8, 9, 6, 10, 38, 39, 40, 41, 42, 43, 44, 45, 46, 47, 48, 49] (by decide +kernel) (by decide +kernel)
set_option maxRecDepth 20000 in
theorem gX5_change_X5_isLine : GoodIn wsX5_change (wsV RX5 77 RX5 yX5_isLine wsX5_isLine) := goodIn_app (goodIn_of _ (by decide +kernel)) ggX5_change_X5_isLine
set_option maxRecDepth 20000 in
theorem ggX5_change_X5_in : GoodIn wsX5_change wsX5_in := goodIn_r _ [10] (by decide +kernel) (by decide +kernel)
set_option maxRecDepth 20000 in
theorem gX5_change_X5_in : GoodIn wsX5_change (va_wsS RX5 37 yX5_in wsX5_in) := goodIn_app (goodIn_of _ (by decide +kernel)) ggX5_change_X5_in
set_option maxRecDepth 20000 in
theorem ggX5_change_X5_keeps : GoodIn wsX5_change wsX5_keeps := goodIn_r _ [14, 2, 15, 16, 17, 6, 18, 38, 39, 40, 41, 42, 43, 44, 45, 46, 47, 48, 49] (by decide +kernel) (by decide +kernel)
set_option maxRecDepth 20000 in
theorem gX5_change_X5_keeps : GoodIn wsX5_change (wsV RX5 92 RX5 yX5_keeps wsX5_keeps) := goodIn_app (goodIn_of _ (by decide +kernel)) ggX5_change_X5_keeps
set_option maxRecDepth 20000 in
theorem ggX5_change_X5_l : GoodIn wsX5_change wsX5_l := goodIn_r _ [21] (by decide +kernel) (by decide +kernel)
set_option maxRecDepth 20000 in
theorem gX5_change_X5_l : GoodIn wsX5_change (va_wsS RX5 45 yX5_l wsX5_l) := goodIn_app (goodIn_of _ (by decide +kernel)) ggX5_change_X5_l
set_option maxRecDepth 20000 in
theorem ggX5_change_X5_settles : GoodIn wsX5_change wsX5_settles := goodIn_r _ [24, 19, 20, 6, 21, 25, 26, 27, 28, 29, 30] (by decide +kernel) (by decide +kernel)
set_option maxRecDepth 20000 in
theorem gX5_change_X5_settles : GoodIn wsX5_change (va_wsS RX5 71 yX5_settles wsX5_settles) := goodIn_app (goodIn_of _ (by decide +kernel)) ggX5_change_X5_settles
set_option maxRecDepth 20000 in
theorem ggX5_change_X5_acted : GoodIn wsX5_change wsX5_acted := goodIn_r _ [34, 35, 1, 36, 37, 15, 8, 9, 6, 10, 16, 17, 18, 38, 39, 40, 41, 42, 43, 44, 45, 46, 47, 48, 49] (by decide +kernel) (by decide +kernel)
set_option maxRecDepth 20000 in
theorem gX5_change_X5_acted : GoodIn wsX5_change (wsV RX5 99 RX5 yX5_acted wsX5_acted) := goodIn_app (goodIn_of _ (by decide +kernel)) ggX5_change_X5_acted
theorem dX5_change_0 : decode cX5_change 0 = .ok (.aload_n 0, 1) := by decide +kernel
theorem dX5_change_1 : decode cX5_change 1 = .ok (.iload_n 1, 1) := by decide +kernel
theorem dX5_change_2 : decode cX5_change 2 = .ok (.invokevirtual 77, 3) := by decide +kernel
theorem dX5_change_5 : decode cX5_change 5 = .ok (.ifCond .eq 14, 3) := by decide +kernel
theorem dX5_change_8 : decode cX5_change 8 = .ok (.iload_n 2, 1) := by decide +kernel
theorem dX5_change_9 : decode cX5_change 9 = .ok (.iconst 0, 1) := by decide +kernel
theorem dX5_change_10 : decode cX5_change 10 = .ok (.sipush 400, 3) := by decide +kernel
theorem dX5_change_13 : decode cX5_change 13 = .ok (.invokestatic 37, 3) := by decide +kernel
theorem dX5_change_16 : decode cX5_change 16 = .ok (.ifCond .ne 6, 3) := by decide +kernel
theorem dX5_change_19 : decode cX5_change 19 = .ok (.ldc 36, 2) := by decide +kernel
theorem dX5_change_21 : decode cX5_change 21 = .ok (.ireturn, 1) := by decide +kernel
theorem dX5_change_22 : decode cX5_change 22 = .ok (.aload_n 0, 1) := by decide +kernel
theorem dX5_change_23 : decode cX5_change 23 = .ok (.invokevirtual 92, 3) := by decide +kernel
theorem dX5_change_26 : decode cX5_change 26 = .ok (.aload_n 0, 1) := by decide +kernel
theorem dX5_change_27 : decode cX5_change 27 = .ok (.getfield 7, 3) := by decide +kernel
theorem dX5_change_30 : decode cX5_change 30 = .ok (.iload_n 1, 1) := by decide +kernel
theorem dX5_change_31 : decode cX5_change 31 = .ok (.iconst 1, 1) := by decide +kernel
theorem dX5_change_32 : decode cX5_change 32 = .ok (.invokestatic 45, 3) := by decide +kernel
theorem dX5_change_35 : decode cX5_change 35 = .ok (.iaload, 1) := by decide +kernel
theorem dX5_change_36 : decode cX5_change 36 = .ok (.istore_n 3, 1) := by decide +kernel
theorem dX5_change_37 : decode cX5_change 37 = .ok (.aload_n 0, 1) := by decide +kernel
theorem dX5_change_38 : decode cX5_change 38 = .ok (.getfield 7, 3) := by decide +kernel
theorem dX5_change_41 : decode cX5_change 41 = .ok (.iload_n 1, 1) := by decide +kernel
theorem dX5_change_42 : decode cX5_change 42 = .ok (.iconst 1, 1) := by decide +kernel
theorem dX5_change_43 : decode cX5_change 43 = .ok (.invokestatic 45, 3) := by decide +kernel
theorem dX5_change_46 : decode cX5_change 46 = .ok (.iload_n 2, 1) := by decide +kernel
theorem dX5_change_47 : decode cX5_change 47 = .ok (.iastore, 1) := by decide +kernel
theorem dX5_change_48 : decode cX5_change 48 = .ok (.aload_n 0, 1) := by decide +kernel
theorem dX5_change_49 : decode cX5_change 49 = .ok (.getfield 7, 3) := by decide +kernel
theorem dX5_change_52 : decode cX5_change 52 = .ok (.iload_n 1, 1) := by decide +kernel
theorem dX5_change_53 : decode cX5_change 53 = .ok (.iconst 2, 1) := by decide +kernel
theorem dX5_change_54 : decode cX5_change 54 = .ok (.invokestatic 45, 3) := by decide +kernel
theorem dX5_change_57 : decode cX5_change 57 = .ok (.iconst 0, 1) := by decide +kernel
theorem dX5_change_58 : decode cX5_change 58 = .ok (.iastore, 1) := by decide +kernel
theorem dX5_change_59 : decode cX5_change 59 = .ok (.aload_n 0, 1) := by decide +kernel
theorem dX5_change_60 : decode cX5_change 60 = .ok (.getfield 7, 3) := by decide +kernel
theorem dX5_change_63 : decode cX5_change 63 = .ok (.invokestatic 71, 3) := by decide +kernel
theorem dX5_change_66 : decode cX5_change 66 = .ok (.aload_n 0, 1) := by decide +kernel
theorem dX5_change_67 : decode cX5_change 67 = .ok (.iload_n 3, 1) := by decide +kernel
theorem dX5_change_68 : decode cX5_change 68 = .ok (.invokevirtual 99, 3) := by decide +kernel
theorem dX5_change_71 : decode cX5_change 71 = .ok (.ireturn, 1) := by decide +kernel
set_option maxRecDepth 20000 in
theorem ggX5_setHeight_X5_in : GoodIn wsX5_setHeight wsX5_in := goodIn_r _ [6] (by decide +kernel) (by decide +kernel)
set_option maxRecDepth 20000 in
theorem gX5_setHeight_X5_in : GoodIn wsX5_setHeight (va_wsS RX5 37 yX5_in wsX5_in) := goodIn_app (goodIn_of _ (by decide +kernel)) ggX5_setHeight_X5_in
set_option maxRecDepth 20000 in
theorem ggX5_setHeight_X5_keeps : GoodIn wsX5_setHeight wsX5_keeps := goodIn_r _ [10, 2, 11, 12, 13, 5, 14, 34, 35, 36, 37, 38, 39, 40, 41, 42, 43, 44, 45] (by decide +kernel) (by decide +kernel)
set_option maxRecDepth 20000 in
theorem gX5_setHeight_X5_keeps : GoodIn wsX5_setHeight (wsV RX5 92 RX5 yX5_keeps wsX5_keeps) := goodIn_app (goodIn_of _ (by decide +kernel)) ggX5_setHeight_X5_keeps
set_option maxRecDepth 20000 in
theorem ggX5_setHeight_X5_settles : GoodIn wsX5_setHeight wsX5_settles := goodIn_r _ [17, 18, 19, 5, 20, 21, 22, 23, 24, 25, 26] (by decide +kernel) (by decide +kernel)
set_option maxRecDepth 20000 in
theorem gX5_setHeight_X5_settles : GoodIn wsX5_setHeight (va_wsS RX5 71 yX5_settles wsX5_settles) := goodIn_app (goodIn_of _ (by decide +kernel)) ggX5_setHeight_X5_settles
set_option maxRecDepth 20000 in
theorem ggX5_setHeight_X5_acted : GoodIn wsX5_setHeight wsX5_acted := goodIn_r _ [30, 31, 1, 32, 33, 11, 3, 4, 5, 6, 12, 13, 14, 34, 35, 36, 37, 38, 39, 40, 41, 42, 43, 44, 45] (by decide +kernel) (by decide +kernel)
set_option maxRecDepth 20000 in
theorem gX5_setHeight_X5_acted : GoodIn wsX5_setHeight (wsV RX5 99 RX5 yX5_acted wsX5_acted) := goodIn_app (goodIn_of _ (by decide +kernel)) ggX5_setHeight_X5_acted
theorem dX5_setHeight_0 : decode cX5_setHeight 0 = .ok (.iload_n 1, 1) := by decide +kernel
theorem dX5_setHeight_1 : decode cX5_setHeight 1 = .ok (.bipush 20, 2) := by decide +kernel
theorem dX5_setHeight_3 : decode cX5_setHeight 3 = .ok (.sipush 600, 3) := by decide +kernel
theorem dX5_setHeight_6 : decode cX5_setHeight 6 = .ok (.invokestatic 37, 3) := by decide +kernel
theorem dX5_setHeight_9 : decode cX5_setHeight 9 = .ok (.ifCond .ne 6, 3) := by decide +kernel
theorem dX5_setHeight_12 : decode cX5_setHeight 12 = .ok (.ldc 36, 2) := by decide +kernel
theorem dX5_setHeight_14 : decode cX5_setHeight 14 = .ok (.ireturn, 1) := by decide +kernel
theorem dX5_setHeight_15 : decode cX5_setHeight 15 = .ok (.aload_n 0, 1) := by decide +kernel
theorem dX5_setHeight_16 : decode cX5_setHeight 16 = .ok (.invokevirtual 92, 3) := by decide +kernel
theorem dX5_setHeight_19 : decode cX5_setHeight 19 = .ok (.aload_n 0, 1) := by decide +kernel
theorem dX5_setHeight_20 : decode cX5_setHeight 20 = .ok (.getfield 7, 3) := by decide +kernel
theorem dX5_setHeight_23 : decode cX5_setHeight 23 = .ok (.iconst 3, 1) := by decide +kernel
theorem dX5_setHeight_24 : decode cX5_setHeight 24 = .ok (.iaload, 1) := by decide +kernel
theorem dX5_setHeight_25 : decode cX5_setHeight 25 = .ok (.istore_n 2, 1) := by decide +kernel
theorem dX5_setHeight_26 : decode cX5_setHeight 26 = .ok (.aload_n 0, 1) := by decide +kernel
theorem dX5_setHeight_27 : decode cX5_setHeight 27 = .ok (.getfield 7, 3) := by decide +kernel
theorem dX5_setHeight_30 : decode cX5_setHeight 30 = .ok (.iconst 3, 1) := by decide +kernel
theorem dX5_setHeight_31 : decode cX5_setHeight 31 = .ok (.iload_n 1, 1) := by decide +kernel
theorem dX5_setHeight_32 : decode cX5_setHeight 32 = .ok (.iastore, 1) := by decide +kernel
theorem dX5_setHeight_33 : decode cX5_setHeight 33 = .ok (.aload_n 0, 1) := by decide +kernel
theorem dX5_setHeight_34 : decode cX5_setHeight 34 = .ok (.getfield 7, 3) := by decide +kernel
theorem dX5_setHeight_37 : decode cX5_setHeight 37 = .ok (.invokestatic 71, 3) := by decide +kernel
theorem dX5_setHeight_40 : decode cX5_setHeight 40 = .ok (.aload_n 0, 1) := by decide +kernel
theorem dX5_setHeight_41 : decode cX5_setHeight 41 = .ok (.iload_n 2, 1) := by decide +kernel
theorem dX5_setHeight_42 : decode cX5_setHeight 42 = .ok (.invokevirtual 99, 3) := by decide +kernel
theorem dX5_setHeight_45 : decode cX5_setHeight 45 = .ok (.ireturn, 1) := by decide +kernel
set_option maxRecDepth 20000 in
theorem ggX5_setWidth_X5_in : GoodIn wsX5_setWidth wsX5_in := goodIn_r _ [6] (by decide +kernel) (by decide +kernel)
set_option maxRecDepth 20000 in
theorem gX5_setWidth_X5_in : GoodIn wsX5_setWidth (va_wsS RX5 37 yX5_in wsX5_in) := goodIn_app (goodIn_of _ (by decide +kernel)) ggX5_setWidth_X5_in
set_option maxRecDepth 20000 in
theorem ggX5_setWidth_X5_keeps : GoodIn wsX5_setWidth wsX5_keeps := goodIn_r _ [10, 2, 11, 12, 13, 5, 14, 34, 35, 36, 37, 38, 39, 40, 41, 42, 43, 44, 45] (by decide +kernel) (by decide +kernel)
set_option maxRecDepth 20000 in
theorem gX5_setWidth_X5_keeps : GoodIn wsX5_setWidth (wsV RX5 92 RX5 yX5_keeps wsX5_keeps) := goodIn_app (goodIn_of _ (by decide +kernel)) ggX5_setWidth_X5_keeps
set_option maxRecDepth 20000 in
theorem ggX5_setWidth_X5_l : GoodIn wsX5_setWidth wsX5_l := goodIn_r _ [17] (by decide +kernel) (by decide +kernel)
set_option maxRecDepth 20000 in
theorem gX5_setWidth_X5_l : GoodIn wsX5_setWidth (va_wsS RX5 45 yX5_l wsX5_l) := goodIn_app (goodIn_of _ (by decide +kernel)) ggX5_setWidth_X5_l
set_option maxRecDepth 20000 in
theorem ggX5_setWidth_X5_settles : GoodIn wsX5_setWidth wsX5_settles := goodIn_r _ [20, 15, 16, 5, 17, 21, 22, 23, 24, 25, 26] (by decide +kernel) (by decide +kernel)
set_option maxRecDepth 20000 in
theorem gX5_setWidth_X5_settles : GoodIn wsX5_setWidth (va_wsS RX5 71 yX5_settles wsX5_settles) := goodIn_app (goodIn_of _ (by decide +kernel)) ggX5_setWidth_X5_settles
set_option maxRecDepth 20000 in
theorem ggX5_setWidth_X5_acted : GoodIn wsX5_setWidth wsX5_acted := goodIn_r _ [30, 31, 1, 32, 33, 11, 3, 4, 5, 6, 12, 13, 14, 34, 35, 36, 37, 38, 39, 40, 41, 42, 43, 44, 45] (by decide +kernel) (by decide +kernel)
set_option maxRecDepth 20000 in
theorem gX5_setWidth_X5_acted : GoodIn wsX5_setWidth (wsV RX5 99 RX5 yX5_acted wsX5_acted) := goodIn_app (goodIn_of _ (by decide +kernel)) ggX5_setWidth_X5_acted
theorem dX5_setWidth_0 : decode cX5_setWidth 0 = .ok (.iload_n 1, 1) := by decide +kernel
theorem dX5_setWidth_1 : decode cX5_setWidth 1 = .ok (.iconst 5, 1) := by decide +kernel
theorem dX5_setWidth_2 : decode cX5_setWidth 2 = .ok (.bipush 80, 2) := by decide +kernel
theorem dX5_setWidth_4 : decode cX5_setWidth 4 = .ok (.invokestatic 37, 3) := by decide +kernel
theorem dX5_setWidth_7 : decode cX5_setWidth 7 = .ok (.ifCond .ne 6, 3) := by decide +kernel
theorem dX5_setWidth_10 : decode cX5_setWidth 10 = .ok (.ldc 36, 2) := by decide +kernel
theorem dX5_setWidth_12 : decode cX5_setWidth 12 = .ok (.ireturn, 1) := by decide +kernel
theorem dX5_setWidth_13 : decode cX5_setWidth 13 = .ok (.aload_n 0, 1) := by decide +kernel
theorem dX5_setWidth_14 : decode cX5_setWidth 14 = .ok (.invokevirtual 92, 3) := by decide +kernel
theorem dX5_setWidth_17 : decode cX5_setWidth 17 = .ok (.aload_n 0, 1) := by decide +kernel
theorem dX5_setWidth_18 : decode cX5_setWidth 18 = .ok (.getfield 7, 3) := by decide +kernel
theorem dX5_setWidth_21 : decode cX5_setWidth 21 = .ok (.iconst 4, 1) := by decide +kernel
theorem dX5_setWidth_22 : decode cX5_setWidth 22 = .ok (.iaload, 1) := by decide +kernel
theorem dX5_setWidth_23 : decode cX5_setWidth 23 = .ok (.istore_n 2, 1) := by decide +kernel
theorem dX5_setWidth_24 : decode cX5_setWidth 24 = .ok (.aload_n 0, 1) := by decide +kernel
theorem dX5_setWidth_25 : decode cX5_setWidth 25 = .ok (.getfield 7, 3) := by decide +kernel
theorem dX5_setWidth_28 : decode cX5_setWidth 28 = .ok (.iconst 4, 1) := by decide +kernel
theorem dX5_setWidth_29 : decode cX5_setWidth 29 = .ok (.iload_n 1, 1) := by decide +kernel
theorem dX5_setWidth_30 : decode cX5_setWidth 30 = .ok (.iastore, 1) := by decide +kernel
theorem dX5_setWidth_31 : decode cX5_setWidth 31 = .ok (.iconst 0, 1) := by decide +kernel
theorem dX5_setWidth_32 : decode cX5_setWidth 32 = .ok (.istore_n 3, 1) := by decide +kernel
theorem dX5_setWidth_33 : decode cX5_setWidth 33 = .ok (.iload_n 3, 1) := by decide +kernel
theorem dX5_setWidth_34 : decode cX5_setWidth 34 = .ok (.aload_n 0, 1) := by decide +kernel
theorem dX5_setWidth_35 : decode cX5_setWidth 35 = .ok (.getfield 7, 3) := by decide +kernel
theorem dX5_setWidth_38 : decode cX5_setWidth 38 = .ok (.iconst 0, 1) := by decide +kernel
theorem dX5_setWidth_39 : decode cX5_setWidth 39 = .ok (.iaload, 1) := by decide +kernel
theorem dX5_setWidth_40 : decode cX5_setWidth 40 = .ok (.if_icmp .ge 20, 3) := by decide +kernel
theorem dX5_setWidth_43 : decode cX5_setWidth 43 = .ok (.aload_n 0, 1) := by decide +kernel
theorem dX5_setWidth_44 : decode cX5_setWidth 44 = .ok (.getfield 7, 3) := by decide +kernel
theorem dX5_setWidth_47 : decode cX5_setWidth 47 = .ok (.iload_n 3, 1) := by decide +kernel
theorem dX5_setWidth_48 : decode cX5_setWidth 48 = .ok (.iconst 2, 1) := by decide +kernel
theorem dX5_setWidth_49 : decode cX5_setWidth 49 = .ok (.invokestatic 45, 3) := by decide +kernel
theorem dX5_setWidth_52 : decode cX5_setWidth 52 = .ok (.iconst 0, 1) := by decide +kernel
theorem dX5_setWidth_53 : decode cX5_setWidth 53 = .ok (.iastore, 1) := by decide +kernel
theorem dX5_setWidth_54 : decode cX5_setWidth 54 = .ok (.iinc 3 1, 3) := by decide +kernel
theorem dX5_setWidth_57 : decode cX5_setWidth 57 = .ok (.goto (-24), 3) := by decide +kernel
theorem dX5_setWidth_60 : decode cX5_setWidth 60 = .ok (.aload_n 0, 1) := by decide +kernel
theorem dX5_setWidth_61 : decode cX5_setWidth 61 = .ok (.getfield 7, 3) := by decide +kernel
theorem dX5_setWidth_64 : decode cX5_setWidth 64 = .ok (.invokestatic 71, 3) := by decide +kernel
theorem dX5_setWidth_67 : decode cX5_setWidth 67 = .ok (.aload_n 0, 1) := by decide +kernel
theorem dX5_setWidth_68 : decode cX5_setWidth 68 = .ok (.iload_n 2, 1) := by decide +kernel
theorem dX5_setWidth_69 : decode cX5_setWidth 69 = .ok (.invokevirtual 99, 3) := by decide +kernel
theorem dX5_setWidth_72 : decode cX5_setWidth 72 = .ok (.ireturn, 1) := by decide +kernel
set_option maxRecDepth 20000 in
theorem ggX5_scroll_X5_keeps : GoodIn wsX5_scroll wsX5_keeps := goodIn_r _ [5, 6, 7, 8, 9, 4, 10, 42, 43, 44, 45, 46, 47, 48, 49, 50, 51, 52, 53] (by decide +kernel) (by decide +kernel)
set_option maxRecDepth 20000 in
theorem gX5_scroll_X5_keeps : GoodIn wsX5_scroll (wsV RX5 92 RX5 yX5_keeps wsX5_keeps) := goodIn_app (goodIn_of _ (by decide +kernel)) ggX5_scroll_X5_keeps
set_option maxRecDepth 20000 in
theorem ggX5_scroll_X5_scrolled : GoodIn wsX5_scroll wsX5_scrolled := goodIn_r _ [14, 15, 6, 16, 17, 18, 4, 19, 20, 21, 22, 23, 24, 25, 26, 27, 28, 29, 30, 31, 32, 33, 34, 42, 43, 44, 45, 46, 47, 48, 49, 50, 51, 52, 53] (by decide +kernel) (by decide +kernel)
set_option maxRecDepth 20000 in
theorem gX5_scroll_X5_scrolled : GoodIn wsX5_scroll (wsV RX5 106 RX5 yX5_scrolled wsX5_scrolled) := goodIn_app (goodIn_of _ (by decide +kernel)) ggX5_scroll_X5_scrolled
set_option maxRecDepth 20000 in
theorem ggX5_scroll_X5_acted : GoodIn wsX5_scroll wsX5_acted := goodIn_r _ [38, 39, 15, 40, 41, 7, 17, 18, 4, 19, 8, 9, 10, 42, 43, 44, 45, 46, 47, 48, 49, 50, 51, 52, 53] (by decide +kernel) (by decide +kernel)
set_option maxRecDepth 20000 in
theorem gX5_scroll_X5_acted : GoodIn wsX5_scroll (wsV RX5 99 RX5 yX5_acted wsX5_acted) := goodIn_app (goodIn_of _ (by decide +kernel)) ggX5_scroll_X5_acted
theorem dX5_scroll_0 : decode cX5_scroll 0 = .ok (.aload_n 0, 1) := by decide +kernel
theorem dX5_scroll_1 : decode cX5_scroll 1 = .ok (.invokevirtual 92, 3) := by decide +kernel
theorem dX5_scroll_4 : decode cX5_scroll 4 = .ok (.aload_n 0, 1) := by decide +kernel
theorem dX5_scroll_5 : decode cX5_scroll 5 = .ok (.aload_n 0, 1) := by decide +kernel
theorem dX5_scroll_6 : decode cX5_scroll 6 = .ok (.iload_n 1, 1) := by decide +kernel
theorem dX5_scroll_7 : decode cX5_scroll 7 = .ok (.invokevirtual 106, 3) := by decide +kernel
theorem dX5_scroll_10 : decode cX5_scroll 10 = .ok (.invokevirtual 99, 3) := by decide +kernel
theorem dX5_scroll_13 : decode cX5_scroll 13 = .ok (.ireturn, 1) := by decide +kernel
set_option maxRecDepth 20000 in
theorem ggX5_jump_X5_keeps : GoodIn wsX5_jump wsX5_keeps := goodIn_r _ [5, 6, 7, 8, 9, 4, 10, 65, 66, 67, 68, 69, 70, 71, 72, 73, 74, 75, 76] (by decide +kernel) (by decide +kernel)
set_option maxRecDepth 20000 in
theorem gX5_jump_X5_keeps : GoodIn wsX5_jump (wsV RX5 92 RX5 yX5_keeps wsX5_keeps) := goodIn_app (goodIn_of _ (by decide +kernel)) ggX5_jump_X5_keeps
set_option maxRecDepth 20000 in
theorem ggX5_jump_X5_jumped : GoodIn wsX5_jump wsX5_jumped := goodIn_r _ [14, 15, 6, 16, 17, 18, 4, 19, 20, 21, 22, 23, 24, 25, 26, 27, 28, 29, 30, 31, 32, 33, 34, 35, 36, 37, 38, 39, 40, 41, 42, 43, 44, 45, 46, 47, 48, 49, 50, 51, 52, 53, 54, 55, 56, 57, 65, 66, 67, 68, 69, 70, 71, 72, 73, 74, 75, 76] (by decide +kernel) (by decide +kernel)
set_option maxRecDepth 20000 in
theorem gX5_jump_X5_jumped : GoodIn wsX5_jump (wsV RX5 109 RX5 yX5_jumped wsX5_jumped) := goodIn_app (goodIn_of _ (by decide +kernel)) ggX5_jump_X5_jumped
set_option maxRecDepth 20000 in
theorem ggX5_jump_X5_acted : GoodIn wsX5_jump wsX5_acted := goodIn_r _ [61, 62, 15, 63, 64, 7, 17, 18, 4, 19, 8, 9, 10, 65, 66, 67, 68, 69, 70, 71, 72, 73, 74, 75, 76] (by decide +kernel) (by decide +kernel)
set_option maxRecDepth 20000 in
theorem gX5_jump_X5_acted : GoodIn wsX5_jump (wsV RX5 99 RX5 yX5_acted wsX5_acted) := goodIn_app (goodIn_of _ (by decide +kernel)) ggX5_jump_X5_acted
theorem dX5_jump_0 : decode cX5_jump 0 = .ok (.aload_n 0, 1) := by decide +kernel
theorem dX5_jump_1 : decode cX5_jump 1 = .ok (.invokevirtual 92, 3) := by decide +kernel
theorem dX5_jump_4 : decode cX5_jump 4 = .ok (.aload_n 0, 1) := by decide +kernel
theorem dX5_jump_5 : decode cX5_jump 5 = .ok (.aload_n 0, 1) := by decide +kernel
theorem dX5_jump_6 : decode cX5_jump 6 = .ok (.iload_n 1, 1) := by decide +kernel
theorem dX5_jump_7 : decode cX5_jump 7 = .ok (.invokevirtual 109, 3) := by decide +kernel
theorem dX5_jump_10 : decode cX5_jump 10 = .ok (.invokevirtual 99, 3) := by decide +kernel
theorem dX5_jump_13 : decode cX5_jump 13 = .ok (.ireturn, 1) := by decide +kernel
set_option maxRecDepth 20000 in
theorem ggX5_goTo_X5_keeps : GoodIn wsX5_goTo wsX5_keeps := goodIn_r _ [5, 6, 7, 8, 9, 4, 10, 42, 43, 44, 45, 46, 47, 48, 49, 50, 51, 52, 53] (by decide +kernel) (by decide +kernel)
set_option maxRecDepth 20000 in
theorem gX5_goTo_X5_keeps : GoodIn wsX5_goTo (wsV RX5 92 RX5 yX5_keeps wsX5_keeps) := goodIn_app (goodIn_of _ (by decide +kernel)) ggX5_goTo_X5_keeps
set_option maxRecDepth 20000 in
theorem ggX5_goTo_X5_gone : GoodIn wsX5_goTo wsX5_gone := goodIn_r _ [14, 15, 6, 16, 17, 18, 4, 19, 20, 21, 22, 23, 24, 25, 26, 27, 28, 29, 30, 31, 32, 33, 34, 42, 43, 44, 45, 46, 47, 48, 49, 50, 51, 52, 53] (by decide +kernel) (by decide +kernel)
set_option maxRecDepth 20000 in
theorem gX5_goTo_X5_gone : GoodIn wsX5_goTo (wsV RX5 112 RX5 yX5_gone wsX5_gone) := goodIn_app (goodIn_of _ (by decide +kernel)) ggX5_goTo_X5_gone
set_option maxRecDepth 20000 in
theorem ggX5_goTo_X5_acted : GoodIn wsX5_goTo wsX5_acted := goodIn_r _ [38, 39, 15, 40, 41, 7, 20, 21, 4, 22, 8, 9, 10, 42, 43, 44, 45, 46, 47, 48, 49, 50, 51, 52, 53] (by decide +kernel) (by decide +kernel)
set_option maxRecDepth 20000 in
theorem gX5_goTo_X5_acted : GoodIn wsX5_goTo (wsV RX5 99 RX5 yX5_acted wsX5_acted) := goodIn_app (goodIn_of _ (by decide +kernel)) ggX5_goTo_X5_acted
theorem dX5_goTo_0 : decode cX5_goTo 0 = .ok (.aload_n 0, 1) := by decide +kernel
theorem dX5_goTo_1 : decode cX5_goTo 1 = .ok (.invokevirtual 92, 3) := by decide +kernel
theorem dX5_goTo_4 : decode cX5_goTo 4 = .ok (.aload_n 0, 1) := by decide +kernel
theorem dX5_goTo_5 : decode cX5_goTo 5 = .ok (.aload_n 0, 1) := by decide +kernel
theorem dX5_goTo_6 : decode cX5_goTo 6 = .ok (.iload_n 1, 1) := by decide +kernel
theorem dX5_goTo_7 : decode cX5_goTo 7 = .ok (.invokevirtual 112, 3) := by decide +kernel
theorem dX5_goTo_10 : decode cX5_goTo 10 = .ok (.invokevirtual 99, 3) := by decide +kernel
theorem dX5_goTo_13 : decode cX5_goTo 13 = .ok (.ireturn, 1) := by decide +kernel
set_option maxRecDepth 20000 in
theorem ggX5_undo_X5_copies : GoodIn wsX5_undo wsX5_copies := goodIn_r _ [8] (by decide +kernel) (by decide +kernel)
set_option maxRecDepth 20000 in
theorem gX5_undo_X5_copies : GoodIn wsX5_undo (va_wsS RX5 31 yX5_copies wsX5_copies) := goodIn_app (goodIn_of _ (by decide +kernel)) ggX5_undo_X5_copies
theorem dX5_undo_0 : decode cX5_undo 0 = .ok (.aload_n 0, 1) := by decide +kernel
theorem dX5_undo_1 : decode cX5_undo 1 = .ok (.getfield 41, 3) := by decide +kernel
theorem dX5_undo_4 : decode cX5_undo 4 = .ok (.ifCond .ne 6, 3) := by decide +kernel
theorem dX5_undo_7 : decode cX5_undo 7 = .ok (.ldc 81, 2) := by decide +kernel
theorem dX5_undo_9 : decode cX5_undo 9 = .ok (.ireturn, 1) := by decide +kernel
theorem dX5_undo_10 : decode cX5_undo 10 = .ok (.aload_n 0, 1) := by decide +kernel
theorem dX5_undo_11 : decode cX5_undo 11 = .ok (.dup, 1) := by decide +kernel
theorem dX5_undo_12 : decode cX5_undo 12 = .ok (.getfield 41, 3) := by decide +kernel
theorem dX5_undo_15 : decode cX5_undo 15 = .ok (.iconst 1, 1) := by decide +kernel
theorem dX5_undo_16 : decode cX5_undo 16 = .ok (.isub, 1) := by decide +kernel
theorem dX5_undo_17 : decode cX5_undo 17 = .ok (.putfield 41, 3) := by decide +kernel
theorem dX5_undo_20 : decode cX5_undo 20 = .ok (.aload_n 0, 1) := by decide +kernel
theorem dX5_undo_21 : decode cX5_undo 21 = .ok (.getfield 19, 3) := by decide +kernel
theorem dX5_undo_24 : decode cX5_undo 24 = .ok (.sipush 305, 3) := by decide +kernel
theorem dX5_undo_27 : decode cX5_undo 27 = .ok (.aload_n 0, 1) := by decide +kernel
theorem dX5_undo_28 : decode cX5_undo 28 = .ok (.getfield 41, 3) := by decide +kernel
theorem dX5_undo_31 : decode cX5_undo 31 = .ok (.imul, 1) := by decide +kernel
theorem dX5_undo_32 : decode cX5_undo 32 = .ok (.aload_n 0, 1) := by decide +kernel
theorem dX5_undo_33 : decode cX5_undo 33 = .ok (.getfield 7, 3) := by decide +kernel
theorem dX5_undo_36 : decode cX5_undo 36 = .ok (.iconst 0, 1) := by decide +kernel
theorem dX5_undo_37 : decode cX5_undo 37 = .ok (.invokestatic 31, 3) := by decide +kernel
theorem dX5_undo_40 : decode cX5_undo 40 = .ok (.aload_n 0, 1) := by decide +kernel
theorem dX5_undo_41 : decode cX5_undo 41 = .ok (.getfield 41, 3) := by decide +kernel
theorem dX5_undo_44 : decode cX5_undo 44 = .ok (.ireturn, 1) := by decide +kernel
set_option maxRecDepth 20000 in
theorem ggX5_append_X5_in : GoodIn wsX5_append wsX5_in := goodIn_r _ [8] (by decide +kernel) (by decide +kernel)
set_option maxRecDepth 20000 in
theorem gX5_append_X5_in : GoodIn wsX5_append (va_wsS RX5 37 yX5_in wsX5_in) := goodIn_app (goodIn_of _ (by decide +kernel)) ggX5_append_X5_in
theorem dX5_append_0 : decode cX5_append 0 = .ok (.iload_n 1, 1) := by decide +kernel
theorem dX5_append_1 : decode cX5_append 1 = .ok (.iconst 1, 1) := by decide +kernel
theorem dX5_append_2 : decode cX5_append 2 = .ok (.sipush 255, 3) := by decide +kernel
theorem dX5_append_5 : decode cX5_append 5 = .ok (.invokestatic 37, 3) := by decide +kernel
theorem dX5_append_8 : decode cX5_append 8 = .ok (.ifCond .ne 6, 3) := by decide +kernel
theorem dX5_append_11 : decode cX5_append 11 = .ok (.ldc 36, 2) := by decide +kernel
theorem dX5_append_13 : decode cX5_append 13 = .ok (.ireturn, 1) := by decide +kernel
theorem dX5_append_14 : decode cX5_append 14 = .ok (.aload_n 0, 1) := by decide +kernel
theorem dX5_append_15 : decode cX5_append 15 = .ok (.getfield 115, 3) := by decide +kernel
theorem dX5_append_18 : decode cX5_append 18 = .ok (.bipush 100, 2) := by decide +kernel
theorem dX5_append_20 : decode cX5_append 20 = .ok (.if_icmp .ne 6, 3) := by decide +kernel
theorem dX5_append_23 : decode cX5_append 23 = .ok (.ldc 35, 2) := by decide +kernel
theorem dX5_append_25 : decode cX5_append 25 = .ok (.ireturn, 1) := by decide +kernel
theorem dX5_append_26 : decode cX5_append 26 = .ok (.aload_n 0, 1) := by decide +kernel
theorem dX5_append_27 : decode cX5_append 27 = .ok (.getfield 22, 3) := by decide +kernel
theorem dX5_append_30 : decode cX5_append 30 = .ok (.aload_n 0, 1) := by decide +kernel
theorem dX5_append_31 : decode cX5_append 31 = .ok (.getfield 115, 3) := by decide +kernel
theorem dX5_append_34 : decode cX5_append 34 = .ok (.iload_n 1, 1) := by decide +kernel
theorem dX5_append_35 : decode cX5_append 35 = .ok (.iastore, 1) := by decide +kernel
theorem dX5_append_36 : decode cX5_append 36 = .ok (.aload_n 0, 1) := by decide +kernel
theorem dX5_append_37 : decode cX5_append 37 = .ok (.dup, 1) := by decide +kernel
theorem dX5_append_38 : decode cX5_append 38 = .ok (.getfield 115, 3) := by decide +kernel
theorem dX5_append_41 : decode cX5_append 41 = .ok (.iconst 1, 1) := by decide +kernel
theorem dX5_append_42 : decode cX5_append 42 = .ok (.iadd, 1) := by decide +kernel
theorem dX5_append_43 : decode cX5_append 43 = .ok (.putfield 115, 3) := by decide +kernel
theorem dX5_append_46 : decode cX5_append 46 = .ok (.aload_n 0, 1) := by decide +kernel
theorem dX5_append_47 : decode cX5_append 47 = .ok (.getfield 115, 3) := by decide +kernel
theorem dX5_append_50 : decode cX5_append 50 = .ok (.ireturn, 1) := by decide +kernel
theorem dX5_clearText_0 : decode cX5_clearText 0 = .ok (.aload_n 0, 1) := by decide +kernel
theorem dX5_clearText_1 : decode cX5_clearText 1 = .ok (.getfield 115, 3) := by decide +kernel
theorem dX5_clearText_4 : decode cX5_clearText 4 = .ok (.istore_n 1, 1) := by decide +kernel
theorem dX5_clearText_5 : decode cX5_clearText 5 = .ok (.aload_n 0, 1) := by decide +kernel
theorem dX5_clearText_6 : decode cX5_clearText 6 = .ok (.iconst 0, 1) := by decide +kernel
theorem dX5_clearText_7 : decode cX5_clearText 7 = .ok (.putfield 115, 3) := by decide +kernel
theorem dX5_clearText_10 : decode cX5_clearText 10 = .ok (.iload_n 1, 1) := by decide +kernel
theorem dX5_clearText_11 : decode cX5_clearText 11 = .ok (.ireturn, 1) := by decide +kernel
theorem dX5_next_0 : decode cX5_next 0 = .ok (.aload_n 0, 1) := by decide +kernel
theorem dX5_next_1 : decode cX5_next 1 = .ok (.getfield 118, 3) := by decide +kernel
theorem dX5_next_4 : decode cX5_next 4 = .ok (.aload_n 0, 1) := by decide +kernel
theorem dX5_next_5 : decode cX5_next 5 = .ok (.getfield 115, 3) := by decide +kernel
theorem dX5_next_8 : decode cX5_next 8 = .ok (.if_icmp .ge 15, 3) := by decide +kernel
theorem dX5_next_11 : decode cX5_next 11 = .ok (.aload_n 0, 1) := by decide +kernel
theorem dX5_next_12 : decode cX5_next 12 = .ok (.getfield 22, 3) := by decide +kernel
theorem dX5_next_15 : decode cX5_next 15 = .ok (.aload_n 0, 1) := by decide +kernel
theorem dX5_next_16 : decode cX5_next 16 = .ok (.getfield 118, 3) := by decide +kernel
theorem dX5_next_19 : decode cX5_next 19 = .ok (.iaload, 1) := by decide +kernel
theorem dX5_next_20 : decode cX5_next 20 = .ok (.goto 4, 3) := by decide +kernel
theorem dX5_next_23 : decode cX5_next 23 = .ok (.iconst (-1), 1) := by decide +kernel
theorem dX5_next_24 : decode cX5_next 24 = .ok (.ireturn, 1) := by decide +kernel
set_option maxRecDepth 20000 in
theorem ggX5_begins_X5_next : GoodIn wsX5_begins wsX5_next := goodIn_r _ [7, 1, 8, 9, 10, 11, 12, 13, 14, 15, 16, 17, 18, 19, 20, 21] (by decide +kernel) (by decide +kernel)
set_option maxRecDepth 20000 in
theorem gX5_begins_X5_next : GoodIn wsX5_begins (wsV RX5 121 RX5 yX5_next wsX5_next) := goodIn_app (goodIn_of _ (by decide +kernel)) ggX5_begins_X5_next
theorem dX5_begins_0 : decode cX5_begins 0 = .ok (.aload_n 0, 1) := by decide +kernel
theorem dX5_begins_1 : decode cX5_begins 1 = .ok (.invokevirtual 121, 3) := by decide +kernel
theorem dX5_begins_4 : decode cX5_begins 4 = .ok (.bipush 32, 2) := by decide +kernel
theorem dX5_begins_6 : decode cX5_begins 6 = .ok (.if_icmp .ne 16, 3) := by decide +kernel
theorem dX5_begins_9 : decode cX5_begins 9 = .ok (.aload_n 0, 1) := by decide +kernel
theorem dX5_begins_10 : decode cX5_begins 10 = .ok (.dup, 1) := by decide +kernel
theorem dX5_begins_11 : decode cX5_begins 11 = .ok (.getfield 118, 3) := by decide +kernel
theorem dX5_begins_14 : decode cX5_begins 14 = .ok (.iconst 1, 1) := by decide +kernel
theorem dX5_begins_15 : decode cX5_begins 15 = .ok (.iadd, 1) := by decide +kernel
theorem dX5_begins_16 : decode cX5_begins 16 = .ok (.putfield 118, 3) := by decide +kernel
theorem dX5_begins_19 : decode cX5_begins 19 = .ok (.goto (-19), 3) := by decide +kernel
theorem dX5_begins_22 : decode cX5_begins 22 = .ok (.aload_n 0, 1) := by decide +kernel
theorem dX5_begins_23 : decode cX5_begins 23 = .ok (.aload_n 0, 1) := by decide +kernel
theorem dX5_begins_24 : decode cX5_begins 24 = .ok (.getfield 118, 3) := by decide +kernel
theorem dX5_begins_27 : decode cX5_begins 27 = .ok (.putfield 125, 3) := by decide +kernel
theorem dX5_begins_30 : decode cX5_begins 30 = .ok (.return_, 1) := by decide +kernel
set_option maxRecDepth 20000 in
theorem ggX5_word_X5_begins : GoodIn wsX5_word wsX5_begins := goodIn_r _ [7, 1, 2, 8, 9, 10, 6, 11, 12, 13, 17, 18, 19, 20, 21, 22, 23, 24, 25, 26, 27, 28] (by decide +kernel) (by decide +kernel)
set_option maxRecDepth 20000 in
theorem gX5_word_X5_begins : GoodIn wsX5_word (wsV RX5 128 RX5 yX5_begins wsX5_begins) := goodIn_app (goodIn_of _ (by decide +kernel)) ggX5_word_X5_begins
set_option maxRecDepth 20000 in
theorem ggX5_word_X5_next : GoodIn wsX5_word wsX5_next := goodIn_r _ [11, 1, 12, 13, 17, 18, 19, 20, 21, 22, 23, 24, 25, 26, 27, 28] (by decide +kernel) (by decide +kernel)
set_option maxRecDepth 20000 in
theorem gX5_word_X5_next : GoodIn wsX5_word (wsV RX5 121 RX5 yX5_next wsX5_next) := goodIn_app (goodIn_of _ (by decide +kernel)) ggX5_word_X5_next
set_option maxRecDepth 20000 in
theorem ggX5_word_X5_in : GoodIn wsX5_word wsX5_in := goodIn_r _ [16] (by decide +kernel) (by decide +kernel)
set_option maxRecDepth 20000 in
theorem gX5_word_X5_in : GoodIn wsX5_word (va_wsS RX5 37 yX5_in wsX5_in) := goodIn_app (goodIn_of _ (by decide +kernel)) ggX5_word_X5_in
theorem dX5_word_0 : decode cX5_word 0 = .ok (.aload_n 0, 1) := by decide +kernel
theorem dX5_word_1 : decode cX5_word 1 = .ok (.invokevirtual 128, 3) := by decide +kernel
theorem dX5_word_4 : decode cX5_word 4 = .ok (.iconst 0, 1) := by decide +kernel
theorem dX5_word_5 : decode cX5_word 5 = .ok (.istore_n 1, 1) := by decide +kernel
theorem dX5_word_6 : decode cX5_word 6 = .ok (.aload_n 0, 1) := by decide +kernel
theorem dX5_word_7 : decode cX5_word 7 = .ok (.invokevirtual 121, 3) := by decide +kernel
theorem dX5_word_10 : decode cX5_word 10 = .ok (.bipush 97, 2) := by decide +kernel
theorem dX5_word_12 : decode cX5_word 12 = .ok (.bipush 122, 2) := by decide +kernel
theorem dX5_word_14 : decode cX5_word 14 = .ok (.invokestatic 37, 3) := by decide +kernel
theorem dX5_word_17 : decode cX5_word 17 = .ok (.ifCond .eq 46, 3) := by decide +kernel
theorem dX5_word_20 : decode cX5_word 20 = .ok (.aload_n 0, 1) := by decide +kernel
theorem dX5_word_21 : decode cX5_word 21 = .ok (.getfield 118, 3) := by decide +kernel
theorem dX5_word_24 : decode cX5_word 24 = .ok (.aload_n 0, 1) := by decide +kernel
theorem dX5_word_25 : decode cX5_word 25 = .ok (.getfield 125, 3) := by decide +kernel
theorem dX5_word_28 : decode cX5_word 28 = .ok (.isub, 1) := by decide +kernel
theorem dX5_word_29 : decode cX5_word 29 = .ok (.iconst 5, 1) := by decide +kernel
theorem dX5_word_30 : decode cX5_word 30 = .ok (.if_icmp .ge 18, 3) := by decide +kernel
theorem dX5_word_33 : decode cX5_word 33 = .ok (.bipush 32, 2) := by decide +kernel
theorem dX5_word_35 : decode cX5_word 35 = .ok (.iload_n 1, 1) := by decide +kernel
theorem dX5_word_36 : decode cX5_word 36 = .ok (.imul, 1) := by decide +kernel
theorem dX5_word_37 : decode cX5_word 37 = .ok (.aload_n 0, 1) := by decide +kernel
theorem dX5_word_38 : decode cX5_word 38 = .ok (.invokevirtual 121, 3) := by decide +kernel
theorem dX5_word_41 : decode cX5_word 41 = .ok (.iadd, 1) := by decide +kernel
theorem dX5_word_42 : decode cX5_word 42 = .ok (.bipush 96, 2) := by decide +kernel
theorem dX5_word_44 : decode cX5_word 44 = .ok (.isub, 1) := by decide +kernel
theorem dX5_word_45 : decode cX5_word 45 = .ok (.goto 4, 3) := by decide +kernel
theorem dX5_word_48 : decode cX5_word 48 = .ok (.iconst 0, 1) := by decide +kernel
theorem dX5_word_49 : decode cX5_word 49 = .ok (.istore_n 1, 1) := by decide +kernel
theorem dX5_word_50 : decode cX5_word 50 = .ok (.aload_n 0, 1) := by decide +kernel
theorem dX5_word_51 : decode cX5_word 51 = .ok (.dup, 1) := by decide +kernel
theorem dX5_word_52 : decode cX5_word 52 = .ok (.getfield 118, 3) := by decide +kernel
theorem dX5_word_55 : decode cX5_word 55 = .ok (.iconst 1, 1) := by decide +kernel
theorem dX5_word_56 : decode cX5_word 56 = .ok (.iadd, 1) := by decide +kernel
theorem dX5_word_57 : decode cX5_word 57 = .ok (.putfield 118, 3) := by decide +kernel
theorem dX5_word_60 : decode cX5_word 60 = .ok (.goto (-54), 3) := by decide +kernel
theorem dX5_word_63 : decode cX5_word 63 = .ok (.aload_n 0, 1) := by decide +kernel
theorem dX5_word_64 : decode cX5_word 64 = .ok (.getfield 118, 3) := by decide +kernel
theorem dX5_word_67 : decode cX5_word 67 = .ok (.aload_n 0, 1) := by decide +kernel
theorem dX5_word_68 : decode cX5_word 68 = .ok (.getfield 125, 3) := by decide +kernel
theorem dX5_word_71 : decode cX5_word 71 = .ok (.isub, 1) := by decide +kernel
theorem dX5_word_72 : decode cX5_word 72 = .ok (.bipush 6, 2) := by decide +kernel
theorem dX5_word_74 : decode cX5_word 74 = .ok (.if_icmp .ge 7, 3) := by decide +kernel
theorem dX5_word_77 : decode cX5_word 77 = .ok (.iload_n 1, 1) := by decide +kernel
theorem dX5_word_78 : decode cX5_word 78 = .ok (.goto 4, 3) := by decide +kernel
theorem dX5_word_81 : decode cX5_word 81 = .ok (.iconst 0, 1) := by decide +kernel
theorem dX5_word_82 : decode cX5_word 82 = .ok (.ireturn, 1) := by decide +kernel
set_option maxRecDepth 20000 in
theorem ggX5_number_X5_begins : GoodIn wsX5_number wsX5_begins := goodIn_r _ [9, 1, 2, 10, 11, 12, 8, 13, 14, 3, 18, 19, 20, 21, 22, 23, 24, 25, 26, 27, 28, 29] (by decide +kernel) (by decide +kernel)
set_option maxRecDepth 20000 in
theorem gX5_number_X5_begins : GoodIn wsX5_number (wsV RX5 128 RX5 yX5_begins wsX5_begins) := goodIn_app (goodIn_of _ (by decide +kernel)) ggX5_number_X5_begins
set_option maxRecDepth 20000 in
theorem ggX5_number_X5_next : GoodIn wsX5_number wsX5_next := goodIn_r _ [13, 1, 14, 3, 18, 19, 20, 21, 22, 23, 24, 25, 26, 27, 28, 29] (by decide +kernel) (by decide +kernel)
set_option maxRecDepth 20000 in
theorem gX5_number_X5_next : GoodIn wsX5_number (wsV RX5 121 RX5 yX5_next wsX5_next) := goodIn_app (goodIn_of _ (by decide +kernel)) ggX5_number_X5_next
set_option maxRecDepth 20000 in
theorem ggX5_number_X5_in : GoodIn wsX5_number wsX5_in := goodIn_r _ [17] (by decide +kernel) (by decide +kernel)
set_option maxRecDepth 20000 in
theorem gX5_number_X5_in : GoodIn wsX5_number (va_wsS RX5 37 yX5_in wsX5_in) := goodIn_app (goodIn_of _ (by decide +kernel)) ggX5_number_X5_in
theorem dX5_number_0 : decode cX5_number 0 = .ok (.aload_n 0, 1) := by decide +kernel
theorem dX5_number_1 : decode cX5_number 1 = .ok (.invokevirtual 128, 3) := by decide +kernel
theorem dX5_number_4 : decode cX5_number 4 = .ok (.iconst 0, 1) := by decide +kernel
theorem dX5_number_5 : decode cX5_number 5 = .ok (.istore_n 1, 1) := by decide +kernel
theorem dX5_number_6 : decode cX5_number 6 = .ok (.aload_n 0, 1) := by decide +kernel
theorem dX5_number_7 : decode cX5_number 7 = .ok (.invokevirtual 121, 3) := by decide +kernel
theorem dX5_number_10 : decode cX5_number 10 = .ok (.bipush 48, 2) := by decide +kernel
theorem dX5_number_12 : decode cX5_number 12 = .ok (.bipush 57, 2) := by decide +kernel
theorem dX5_number_14 : decode cX5_number 14 = .ok (.invokestatic 37, 3) := by decide +kernel
theorem dX5_number_17 : decode cX5_number 17 = .ok (.ifCond .eq 46, 3) := by decide +kernel
theorem dX5_number_20 : decode cX5_number 20 = .ok (.aload_n 0, 1) := by decide +kernel
theorem dX5_number_21 : decode cX5_number 21 = .ok (.getfield 118, 3) := by decide +kernel
theorem dX5_number_24 : decode cX5_number 24 = .ok (.aload_n 0, 1) := by decide +kernel
theorem dX5_number_25 : decode cX5_number 25 = .ok (.getfield 125, 3) := by decide +kernel
theorem dX5_number_28 : decode cX5_number 28 = .ok (.isub, 1) := by decide +kernel
theorem dX5_number_29 : decode cX5_number 29 = .ok (.iconst 4, 1) := by decide +kernel
theorem dX5_number_30 : decode cX5_number 30 = .ok (.if_icmp .ge 18, 3) := by decide +kernel
theorem dX5_number_33 : decode cX5_number 33 = .ok (.bipush 10, 2) := by decide +kernel
theorem dX5_number_35 : decode cX5_number 35 = .ok (.iload_n 1, 1) := by decide +kernel
theorem dX5_number_36 : decode cX5_number 36 = .ok (.imul, 1) := by decide +kernel
theorem dX5_number_37 : decode cX5_number 37 = .ok (.aload_n 0, 1) := by decide +kernel
theorem dX5_number_38 : decode cX5_number 38 = .ok (.invokevirtual 121, 3) := by decide +kernel
theorem dX5_number_41 : decode cX5_number 41 = .ok (.iadd, 1) := by decide +kernel
theorem dX5_number_42 : decode cX5_number 42 = .ok (.bipush 48, 2) := by decide +kernel
theorem dX5_number_44 : decode cX5_number 44 = .ok (.isub, 1) := by decide +kernel
theorem dX5_number_45 : decode cX5_number 45 = .ok (.goto 4, 3) := by decide +kernel
theorem dX5_number_48 : decode cX5_number 48 = .ok (.iload_n 1, 1) := by decide +kernel
theorem dX5_number_49 : decode cX5_number 49 = .ok (.istore_n 1, 1) := by decide +kernel
theorem dX5_number_50 : decode cX5_number 50 = .ok (.aload_n 0, 1) := by decide +kernel
theorem dX5_number_51 : decode cX5_number 51 = .ok (.dup, 1) := by decide +kernel
theorem dX5_number_52 : decode cX5_number 52 = .ok (.getfield 118, 3) := by decide +kernel
theorem dX5_number_55 : decode cX5_number 55 = .ok (.iconst 1, 1) := by decide +kernel
theorem dX5_number_56 : decode cX5_number 56 = .ok (.iadd, 1) := by decide +kernel
theorem dX5_number_57 : decode cX5_number 57 = .ok (.putfield 118, 3) := by decide +kernel
theorem dX5_number_60 : decode cX5_number 60 = .ok (.goto (-54), 3) := by decide +kernel
theorem dX5_number_63 : decode cX5_number 63 = .ok (.aload_n 0, 1) := by decide +kernel
theorem dX5_number_64 : decode cX5_number 64 = .ok (.getfield 118, 3) := by decide +kernel
theorem dX5_number_67 : decode cX5_number 67 = .ok (.aload_n 0, 1) := by decide +kernel
theorem dX5_number_68 : decode cX5_number 68 = .ok (.getfield 125, 3) := by decide +kernel
theorem dX5_number_71 : decode cX5_number 71 = .ok (.isub, 1) := by decide +kernel
theorem dX5_number_72 : decode cX5_number 72 = .ok (.istore_n 2, 1) := by decide +kernel
theorem dX5_number_73 : decode cX5_number 73 = .ok (.aload_n 0, 1) := by decide +kernel
theorem dX5_number_74 : decode cX5_number 74 = .ok (.iload_n 2, 1) := by decide +kernel
theorem dX5_number_75 : decode cX5_number 75 = .ok (.iconst 1, 1) := by decide +kernel
theorem dX5_number_76 : decode cX5_number 76 = .ok (.iconst 4, 1) := by decide +kernel
theorem dX5_number_77 : decode cX5_number 77 = .ok (.invokestatic 37, 3) := by decide +kernel
theorem dX5_number_80 : decode cX5_number 80 = .ok (.ifCond .eq 22, 3) := by decide +kernel
theorem dX5_number_83 : decode cX5_number 83 = .ok (.iload_n 2, 1) := by decide +kernel
theorem dX5_number_84 : decode cX5_number 84 = .ok (.iconst 1, 1) := by decide +kernel
theorem dX5_number_85 : decode cX5_number 85 = .ok (.if_icmp .le 21, 3) := by decide +kernel
theorem dX5_number_88 : decode cX5_number 88 = .ok (.aload_n 0, 1) := by decide +kernel
theorem dX5_number_89 : decode cX5_number 89 = .ok (.getfield 22, 3) := by decide +kernel
theorem dX5_number_92 : decode cX5_number 92 = .ok (.aload_n 0, 1) := by decide +kernel
theorem dX5_number_93 : decode cX5_number 93 = .ok (.getfield 125, 3) := by decide +kernel
theorem dX5_number_96 : decode cX5_number 96 = .ok (.iaload, 1) := by decide +kernel
theorem dX5_number_97 : decode cX5_number 97 = .ok (.bipush 48, 2) := by decide +kernel
theorem dX5_number_99 : decode cX5_number 99 = .ok (.if_icmp .ne 7, 3) := by decide +kernel
theorem dX5_number_102 : decode cX5_number 102 = .ok (.iconst 1, 1) := by decide +kernel
theorem dX5_number_103 : decode cX5_number 103 = .ok (.goto 4, 3) := by decide +kernel
theorem dX5_number_106 : decode cX5_number 106 = .ok (.iconst 0, 1) := by decide +kernel
theorem dX5_number_107 : decode cX5_number 107 = .ok (.putfield 131, 3) := by decide +kernel
theorem dX5_number_110 : decode cX5_number 110 = .ok (.iload_n 1, 1) := by decide +kernel
theorem dX5_number_111 : decode cX5_number 111 = .ok (.ireturn, 1) := by decide +kernel
theorem dX5_numbersOf_0 : decode cX5_numbersOf 0 = .ok (.iload_n 0, 1) := by decide +kernel
theorem dX5_numbersOf_1 : decode cX5_numbersOf 1 = .ok (.lookupswitch 71 #[(655, 69), (688, 65), (3764, 61), (17076, 59), (147182, 63), (20186693, 67)], 59) := by decide +kernel
theorem dX5_numbersOf_60 : decode cX5_numbersOf 60 = .ok (.iconst 3, 1) := by decide +kernel
theorem dX5_numbersOf_61 : decode cX5_numbersOf 61 = .ok (.ireturn, 1) := by decide +kernel
theorem dX5_numbersOf_62 : decode cX5_numbersOf 62 = .ok (.iconst 1, 1) := by decide +kernel
theorem dX5_numbersOf_63 : decode cX5_numbersOf 63 = .ok (.ireturn, 1) := by decide +kernel
theorem dX5_numbersOf_64 : decode cX5_numbersOf 64 = .ok (.iconst 1, 1) := by decide +kernel
theorem dX5_numbersOf_65 : decode cX5_numbersOf 65 = .ok (.ireturn, 1) := by decide +kernel
theorem dX5_numbersOf_66 : decode cX5_numbersOf 66 = .ok (.iconst 1, 1) := by decide +kernel
theorem dX5_numbersOf_67 : decode cX5_numbersOf 67 = .ok (.ireturn, 1) := by decide +kernel
theorem dX5_numbersOf_68 : decode cX5_numbersOf 68 = .ok (.iconst 1, 1) := by decide +kernel
theorem dX5_numbersOf_69 : decode cX5_numbersOf 69 = .ok (.ireturn, 1) := by decide +kernel
theorem dX5_numbersOf_70 : decode cX5_numbersOf 70 = .ok (.iconst 1, 1) := by decide +kernel
theorem dX5_numbersOf_71 : decode cX5_numbersOf 71 = .ok (.ireturn, 1) := by decide +kernel
theorem dX5_numbersOf_72 : decode cX5_numbersOf 72 = .ok (.iconst 0, 1) := by decide +kernel
theorem dX5_numbersOf_73 : decode cX5_numbersOf 73 = .ok (.ireturn, 1) := by decide +kernel
set_option maxRecDepth 20000 in
theorem ggX5_does_X5_puts : GoodIn wsX5_does wsX5_puts := goodIn_r _ [6, 7, 8, 9, 10, 11, 5, 12, 13, 14, 15, 16, 17, 18, 19, 20, 21, 22, 23, 24, 25, 26, 27, 28, 29, 30, 31, 32, 33, 34, 35, 36, 37, 38, 39, 40, 41, 75, 76, 77, 78, 79, 80, 81, 82, 83, 84, 85, 86] (by decide +kernel) (by decide +kernel)
set_option maxRecDepth 20000 in
theorem gX5_does_X5_puts : GoodIn wsX5_does (wsV RX5 95 RX5 yX5_puts wsX5_puts) := goodIn_app (goodIn_of _ (by decide +kernel)) ggX5_does_X5_puts
set_option maxRecDepth 20000 in
theorem ggX5_does_X5_cuts : GoodIn wsX5_does wsX5_cuts := goodIn_r _ [45, 8, 7, 46, 47, 48, 5, 49, 10, 11, 12, 13, 14, 15, 16, 17, 18, 19, 20, 21, 22, 23, 24, 75, 76, 77, 78, 79, 80, 81, 82, 83, 84, 85, 86] (by decide +kernel) (by decide +kernel)
set_option maxRecDepth 20000 in
theorem gX5_does_X5_cuts : GoodIn wsX5_does (wsV RX5 103 RX5 yX5_cuts wsX5_cuts) := goodIn_app (goodIn_of _ (by decide +kernel)) ggX5_does_X5_cuts
set_option maxRecDepth 20000 in
theorem ggX5_does_X5_scrolled : GoodIn wsX5_does wsX5_scrolled := goodIn_r _ [53, 8, 7, 54, 10, 11, 5, 12, 55, 56, 57, 22, 23, 24, 13, 14, 15, 19, 20, 21, 16, 17, 18, 75, 76, 77, 78, 79, 80, 81, 82, 83, 84, 85, 86] (by decide +kernel) (by decide +kernel)
set_option maxRecDepth 20000 in
theorem gX5_does_X5_scrolled : GoodIn wsX5_does (wsV RX5 106 RX5 yX5_scrolled wsX5_scrolled) := goodIn_app (goodIn_of _ (by decide +kernel)) ggX5_does_X5_scrolled
set_option maxRecDepth 20000 in
theorem ggX5_does_X5_jumped : GoodIn wsX5_does wsX5_jumped := goodIn_r _ [61, 8, 7, 54, 10, 11, 5, 12, 62, 63, 64, 65, 25, 26, 27, 28, 29, 30, 31, 32, 33, 34, 35, 36, 37, 13, 14, 15, 19, 20, 21, 38, 39, 40, 41, 66, 67, 68, 69, 70, 16, 17, 18, 22, 23, 24, 75, 76, 77, 78, 79, 80, 81, 82, 83, 84, 85, 86] (by decide +kernel) (by decide +kernel)
set_option maxRecDepth 20000 in
theorem gX5_does_X5_jumped : GoodIn wsX5_does (wsV RX5 109 RX5 yX5_jumped wsX5_jumped) := goodIn_app (goodIn_of _ (by decide +kernel)) ggX5_does_X5_jumped
set_option maxRecDepth 20000 in
theorem ggX5_does_X5_gone : GoodIn wsX5_does wsX5_gone := goodIn_r _ [74, 8, 7, 46, 47, 48, 5, 49, 10, 11, 12, 16, 17, 18, 13, 14, 15, 19, 20, 21, 22, 23, 24, 75, 76, 77, 78, 79, 80, 81, 82, 83, 84, 85, 86] (by decide +kernel) (by decide +kernel)
set_option maxRecDepth 20000 in
theorem gX5_does_X5_gone : GoodIn wsX5_does (wsV RX5 112 RX5 yX5_gone wsX5_gone) := goodIn_app (goodIn_of _ (by decide +kernel)) ggX5_does_X5_gone
theorem dX5_does_0 : decode cX5_does 0 = .ok (.iload_n 1, 1) := by decide +kernel
theorem dX5_does_1 : decode cX5_does 1 = .ok (.lookupswitch 119 #[(688, 96), (3764, 74), (17076, 51), (147182, 85), (20186693, 108)], 51) := by decide +kernel
theorem dX5_does_52 : decode cX5_does 52 = .ok (.aload_n 0, 1) := by decide +kernel
theorem dX5_does_53 : decode cX5_does 53 = .ok (.aload_n 0, 1) := by decide +kernel
theorem dX5_does_54 : decode cX5_does 54 = .ok (.getfield 28, 3) := by decide +kernel
theorem dX5_does_57 : decode cX5_does 57 = .ok (.iconst 0, 1) := by decide +kernel
theorem dX5_does_58 : decode cX5_does 58 = .ok (.iaload, 1) := by decide +kernel
theorem dX5_does_59 : decode cX5_does 59 = .ok (.aload_n 0, 1) := by decide +kernel
theorem dX5_does_60 : decode cX5_does 60 = .ok (.getfield 28, 3) := by decide +kernel
theorem dX5_does_63 : decode cX5_does 63 = .ok (.iconst 1, 1) := by decide +kernel
theorem dX5_does_64 : decode cX5_does 64 = .ok (.iaload, 1) := by decide +kernel
theorem dX5_does_65 : decode cX5_does 65 = .ok (.aload_n 0, 1) := by decide +kernel
theorem dX5_does_66 : decode cX5_does 66 = .ok (.getfield 28, 3) := by decide +kernel
theorem dX5_does_69 : decode cX5_does 69 = .ok (.iconst 2, 1) := by decide +kernel
theorem dX5_does_70 : decode cX5_does 70 = .ok (.iaload, 1) := by decide +kernel
theorem dX5_does_71 : decode cX5_does 71 = .ok (.invokevirtual 95, 3) := by decide +kernel
theorem dX5_does_74 : decode cX5_does 74 = .ok (.ireturn, 1) := by decide +kernel
theorem dX5_does_75 : decode cX5_does 75 = .ok (.aload_n 0, 1) := by decide +kernel
theorem dX5_does_76 : decode cX5_does 76 = .ok (.aload_n 0, 1) := by decide +kernel
theorem dX5_does_77 : decode cX5_does 77 = .ok (.getfield 28, 3) := by decide +kernel
theorem dX5_does_80 : decode cX5_does 80 = .ok (.iconst 0, 1) := by decide +kernel
theorem dX5_does_81 : decode cX5_does 81 = .ok (.iaload, 1) := by decide +kernel
theorem dX5_does_82 : decode cX5_does 82 = .ok (.invokevirtual 103, 3) := by decide +kernel
theorem dX5_does_85 : decode cX5_does 85 = .ok (.ireturn, 1) := by decide +kernel
theorem dX5_does_86 : decode cX5_does 86 = .ok (.aload_n 0, 1) := by decide +kernel
theorem dX5_does_87 : decode cX5_does 87 = .ok (.aload_n 0, 1) := by decide +kernel
theorem dX5_does_88 : decode cX5_does 88 = .ok (.getfield 28, 3) := by decide +kernel
theorem dX5_does_91 : decode cX5_does 91 = .ok (.iconst 0, 1) := by decide +kernel
theorem dX5_does_92 : decode cX5_does 92 = .ok (.iaload, 1) := by decide +kernel
theorem dX5_does_93 : decode cX5_does 93 = .ok (.invokevirtual 106, 3) := by decide +kernel
theorem dX5_does_96 : decode cX5_does 96 = .ok (.ireturn, 1) := by decide +kernel
theorem dX5_does_97 : decode cX5_does 97 = .ok (.aload_n 0, 1) := by decide +kernel
theorem dX5_does_98 : decode cX5_does 98 = .ok (.aload_n 0, 1) := by decide +kernel
theorem dX5_does_99 : decode cX5_does 99 = .ok (.getfield 28, 3) := by decide +kernel
theorem dX5_does_102 : decode cX5_does 102 = .ok (.iconst 0, 1) := by decide +kernel
theorem dX5_does_103 : decode cX5_does 103 = .ok (.iaload, 1) := by decide +kernel
theorem dX5_does_104 : decode cX5_does 104 = .ok (.ineg, 1) := by decide +kernel
theorem dX5_does_105 : decode cX5_does 105 = .ok (.invokevirtual 106, 3) := by decide +kernel
theorem dX5_does_108 : decode cX5_does 108 = .ok (.ireturn, 1) := by decide +kernel
theorem dX5_does_109 : decode cX5_does 109 = .ok (.aload_n 0, 1) := by decide +kernel
theorem dX5_does_110 : decode cX5_does 110 = .ok (.aload_n 0, 1) := by decide +kernel
theorem dX5_does_111 : decode cX5_does 111 = .ok (.getfield 28, 3) := by decide +kernel
theorem dX5_does_114 : decode cX5_does 114 = .ok (.iconst 0, 1) := by decide +kernel
theorem dX5_does_115 : decode cX5_does 115 = .ok (.iaload, 1) := by decide +kernel
theorem dX5_does_116 : decode cX5_does 116 = .ok (.invokevirtual 109, 3) := by decide +kernel
theorem dX5_does_119 : decode cX5_does 119 = .ok (.ireturn, 1) := by decide +kernel
theorem dX5_does_120 : decode cX5_does 120 = .ok (.aload_n 0, 1) := by decide +kernel
theorem dX5_does_121 : decode cX5_does 121 = .ok (.aload_n 0, 1) := by decide +kernel
theorem dX5_does_122 : decode cX5_does 122 = .ok (.getfield 28, 3) := by decide +kernel
theorem dX5_does_125 : decode cX5_does 125 = .ok (.iconst 0, 1) := by decide +kernel
theorem dX5_does_126 : decode cX5_does 126 = .ok (.iaload, 1) := by decide +kernel
theorem dX5_does_127 : decode cX5_does 127 = .ok (.invokevirtual 112, 3) := by decide +kernel
theorem dX5_does_130 : decode cX5_does 130 = .ok (.ireturn, 1) := by decide +kernel
set_option maxRecDepth 20000 in
theorem ggX5_fails_X5_word : GoodIn wsX5_fails wsX5_word := goodIn_r _ [11, 4, 1, 12, 13, 14, 10, 15, 16, 17, 18, 19, 20, 21, 22, 23, 24, 103, 104, 105, 106, 107, 108, 109, 110, 111, 112, 113, 114] (by decide +kernel) (by decide +kernel)
set_option maxRecDepth 20000 in
theorem gX5_fails_X5_word : GoodIn wsX5_fails (wsV RX5 135 RX5 yX5_word wsX5_word) := goodIn_app (goodIn_of _ (by decide +kernel)) ggX5_fails_X5_word
set_option maxRecDepth 20000 in
theorem ggX5_fails_X5_numbersOf : GoodIn wsX5_fails wsX5_numbersOf := goodIn_r _ [27] (by decide +kernel) (by decide +kernel)
set_option maxRecDepth 20000 in
theorem gX5_fails_X5_numbersOf : GoodIn wsX5_fails (va_wsS RX5 138 yX5_numbersOf wsX5_numbersOf) := goodIn_app (goodIn_of _ (by decide +kernel)) ggX5_fails_X5_numbersOf
set_option maxRecDepth 20000 in
theorem ggX5_fails_X5_number : GoodIn wsX5_fails wsX5_number := goodIn_r _ [31, 4, 1, 21, 2, 12, 13, 14, 10, 15, 16, 17, 18, 19, 20, 22, 23, 24, 103, 104, 105, 106, 107, 108, 109, 110, 111, 112, 113, 114] (by decide +kernel) (by decide +kernel)
set_option maxRecDepth 20000 in
theorem gX5_fails_X5_number : GoodIn wsX5_fails (wsV RX5 141 RX5 yX5_number wsX5_number) := goodIn_app (goodIn_of _ (by decide +kernel)) ggX5_fails_X5_number
set_option maxRecDepth 20000 in
theorem ggX5_fails_X5_begins : GoodIn wsX5_fails wsX5_begins := goodIn_r _ [15, 4, 1, 16, 17, 18, 10, 19, 20, 21, 103, 104, 105, 106, 107, 108, 109, 110, 111, 112, 113, 114] (by decide +kernel) (by decide +kernel)
set_option maxRecDepth 20000 in
theorem gX5_fails_X5_begins : GoodIn wsX5_fails (wsV RX5 128 RX5 yX5_begins wsX5_begins) := goodIn_app (goodIn_of _ (by decide +kernel)) ggX5_fails_X5_begins
set_option maxRecDepth 20000 in
theorem ggX5_fails_X5_next : GoodIn wsX5_fails wsX5_next := goodIn_r _ [19, 4, 20, 21, 103, 104, 105, 106, 107, 108, 109, 110, 111, 112, 113, 114] (by decide +kernel) (by decide +kernel)
set_option maxRecDepth 20000 in
theorem gX5_fails_X5_next : GoodIn wsX5_fails (wsV RX5 121 RX5 yX5_next wsX5_next) := goodIn_app (goodIn_of _ (by decide +kernel)) ggX5_fails_X5_next
set_option maxRecDepth 20000 in
theorem ggX5_fails_X5_does : GoodIn wsX5_fails wsX5_does := goodIn_r _ [35, 3, 36, 37, 38, 10, 39, 40, 6, 5, 22, 23, 24, 41, 42, 43, 44, 45, 46, 47, 48, 49, 50, 51, 52, 53, 54, 55, 56, 57, 58, 59, 60, 61, 62, 63, 64, 65, 66, 67, 68, 69, 70, 71, 72, 73, 74, 75, 76, 77, 78, 79, 80, 81, 82, 83, 84, 85, 86, 87, 88, 89, 90, 91, 92, 93, 94, 95, 96, 97, 98, 99, 100, 101, 102, 103, 104, 105, 106, 107, 108, 109, 110, 111, 112, 113, 114] (by decide +kernel) (by decide +kernel)
set_option maxRecDepth 20000 in
theorem gX5_fails_X5_does : GoodIn wsX5_fails (wsV RX5 144 RX5 yX5_does wsX5_does) := goodIn_app (goodIn_of _ (by decide +kernel)) ggX5_fails_X5_does
set_option maxRecDepth 20000 in
theorem ggX5_fails_X5_in : GoodIn wsX5_fails wsX5_in := goodIn_r _ [24] (by decide +kernel) (by decide +kernel)
set_option maxRecDepth 20000 in
theorem gX5_fails_X5_in : GoodIn wsX5_fails (va_wsS RX5 37 yX5_in wsX5_in) := goodIn_app (goodIn_of _ (by decide +kernel)) ggX5_fails_X5_in
theorem dX5_fails_0 : decode cX5_fails 0 = .ok (.aload_n 0, 1) := by decide +kernel
theorem dX5_fails_1 : decode cX5_fails 1 = .ok (.invokevirtual 135, 3) := by decide +kernel
theorem dX5_fails_4 : decode cX5_fails 4 = .ok (.istore_n 1, 1) := by decide +kernel
theorem dX5_fails_5 : decode cX5_fails 5 = .ok (.aload_n 0, 1) := by decide +kernel
theorem dX5_fails_6 : decode cX5_fails 6 = .ok (.getfield 125, 3) := by decide +kernel
theorem dX5_fails_9 : decode cX5_fails 9 = .ok (.istore_n 2, 1) := by decide +kernel
theorem dX5_fails_10 : decode cX5_fails 10 = .ok (.iload_n 1, 1) := by decide +kernel
theorem dX5_fails_11 : decode cX5_fails 11 = .ok (.invokestatic 138, 3) := by decide +kernel
theorem dX5_fails_14 : decode cX5_fails 14 = .ok (.istore_n 3, 1) := by decide +kernel
theorem dX5_fails_15 : decode cX5_fails 15 = .ok (.aload_n 0, 1) := by decide +kernel
theorem dX5_fails_16 : decode cX5_fails 16 = .ok (.iload_n 3, 1) := by decide +kernel
theorem dX5_fails_17 : decode cX5_fails 17 = .ok (.ifCond .ne 7, 3) := by decide +kernel
theorem dX5_fails_20 : decode cX5_fails 20 = .ok (.iconst 1, 1) := by decide +kernel
theorem dX5_fails_21 : decode cX5_fails 21 = .ok (.goto 4, 3) := by decide +kernel
theorem dX5_fails_24 : decode cX5_fails 24 = .ok (.iconst 0, 1) := by decide +kernel
theorem dX5_fails_25 : decode cX5_fails 25 = .ok (.putfield 131, 3) := by decide +kernel
theorem dX5_fails_28 : decode cX5_fails 28 = .ok (.iconst 0, 1) := by decide +kernel
theorem dX5_fails_29 : decode cX5_fails 29 = .ok (.istore 4, 2) := by decide +kernel
theorem dX5_fails_31 : decode cX5_fails 31 = .ok (.iload 4, 2) := by decide +kernel
theorem dX5_fails_33 : decode cX5_fails 33 = .ok (.iload_n 3, 1) := by decide +kernel
theorem dX5_fails_34 : decode cX5_fails 34 = .ok (.if_icmp .ge 27, 3) := by decide +kernel
theorem dX5_fails_37 : decode cX5_fails 37 = .ok (.aload_n 0, 1) := by decide +kernel
theorem dX5_fails_38 : decode cX5_fails 38 = .ok (.getfield 131, 3) := by decide +kernel
theorem dX5_fails_41 : decode cX5_fails 41 = .ok (.ifCond .ne 20, 3) := by decide +kernel
theorem dX5_fails_44 : decode cX5_fails 44 = .ok (.aload_n 0, 1) := by decide +kernel
theorem dX5_fails_45 : decode cX5_fails 45 = .ok (.getfield 28, 3) := by decide +kernel
theorem dX5_fails_48 : decode cX5_fails 48 = .ok (.iload 4, 2) := by decide +kernel
theorem dX5_fails_50 : decode cX5_fails 50 = .ok (.aload_n 0, 1) := by decide +kernel
theorem dX5_fails_51 : decode cX5_fails 51 = .ok (.invokevirtual 141, 3) := by decide +kernel
theorem dX5_fails_54 : decode cX5_fails 54 = .ok (.iastore, 1) := by decide +kernel
theorem dX5_fails_55 : decode cX5_fails 55 = .ok (.iinc 4 1, 3) := by decide +kernel
theorem dX5_fails_58 : decode cX5_fails 58 = .ok (.goto (-27), 3) := by decide +kernel
theorem dX5_fails_61 : decode cX5_fails 61 = .ok (.aload_n 0, 1) := by decide +kernel
theorem dX5_fails_62 : decode cX5_fails 62 = .ok (.getfield 131, 3) := by decide +kernel
theorem dX5_fails_65 : decode cX5_fails 65 = .ok (.ifCond .ne 35, 3) := by decide +kernel
theorem dX5_fails_68 : decode cX5_fails 68 = .ok (.aload_n 0, 1) := by decide +kernel
theorem dX5_fails_69 : decode cX5_fails 69 = .ok (.invokevirtual 128, 3) := by decide +kernel
theorem dX5_fails_72 : decode cX5_fails 72 = .ok (.aload_n 0, 1) := by decide +kernel
theorem dX5_fails_73 : decode cX5_fails 73 = .ok (.aload_n 0, 1) := by decide +kernel
theorem dX5_fails_74 : decode cX5_fails 74 = .ok (.invokevirtual 121, 3) := by decide +kernel
theorem dX5_fails_77 : decode cX5_fails 77 = .ok (.bipush 59, 2) := by decide +kernel
theorem dX5_fails_79 : decode cX5_fails 79 = .ok (.if_icmp .eq 7, 3) := by decide +kernel
theorem dX5_fails_82 : decode cX5_fails 82 = .ok (.iconst 1, 1) := by decide +kernel
theorem dX5_fails_83 : decode cX5_fails 83 = .ok (.goto 4, 3) := by decide +kernel
theorem dX5_fails_86 : decode cX5_fails 86 = .ok (.iconst 0, 1) := by decide +kernel
theorem dX5_fails_87 : decode cX5_fails 87 = .ok (.putfield 131, 3) := by decide +kernel
theorem dX5_fails_90 : decode cX5_fails 90 = .ok (.aload_n 0, 1) := by decide +kernel
theorem dX5_fails_91 : decode cX5_fails 91 = .ok (.dup, 1) := by decide +kernel
theorem dX5_fails_92 : decode cX5_fails 92 = .ok (.getfield 118, 3) := by decide +kernel
theorem dX5_fails_95 : decode cX5_fails 95 = .ok (.iconst 1, 1) := by decide +kernel
theorem dX5_fails_96 : decode cX5_fails 96 = .ok (.iadd, 1) := by decide +kernel
theorem dX5_fails_97 : decode cX5_fails 97 = .ok (.putfield 118, 3) := by decide +kernel
theorem dX5_fails_100 : decode cX5_fails 100 = .ok (.aload_n 0, 1) := by decide +kernel
theorem dX5_fails_101 : decode cX5_fails 101 = .ok (.getfield 131, 3) := by decide +kernel
theorem dX5_fails_104 : decode cX5_fails 104 = .ok (.ifCond .eq 8, 3) := by decide +kernel
theorem dX5_fails_107 : decode cX5_fails 107 = .ok (.aload_n 0, 1) := by decide +kernel
theorem dX5_fails_108 : decode cX5_fails 108 = .ok (.getfield 125, 3) := by decide +kernel
theorem dX5_fails_111 : decode cX5_fails 111 = .ok (.ireturn, 1) := by decide +kernel
theorem dX5_fails_112 : decode cX5_fails 112 = .ok (.aload_n 0, 1) := by decide +kernel
theorem dX5_fails_113 : decode cX5_fails 113 = .ok (.iload_n 1, 1) := by decide +kernel
theorem dX5_fails_114 : decode cX5_fails 114 = .ok (.invokevirtual 144, 3) := by decide +kernel
theorem dX5_fails_117 : decode cX5_fails 117 = .ok (.ldc 35, 2) := by decide +kernel
theorem dX5_fails_119 : decode cX5_fails 119 = .ok (.ldc 36, 2) := by decide +kernel
theorem dX5_fails_121 : decode cX5_fails 121 = .ok (.invokestatic 37, 3) := by decide +kernel
theorem dX5_fails_124 : decode cX5_fails 124 = .ok (.ifCond .eq 7, 3) := by decide +kernel
theorem dX5_fails_127 : decode cX5_fails 127 = .ok (.iload_n 2, 1) := by decide +kernel
theorem dX5_fails_128 : decode cX5_fails 128 = .ok (.goto 4, 3) := by decide +kernel
theorem dX5_fails_131 : decode cX5_fails 131 = .ok (.iconst (-1), 1) := by decide +kernel
theorem dX5_fails_132 : decode cX5_fails 132 = .ok (.ireturn, 1) := by decide +kernel
set_option maxRecDepth 20000 in
theorem ggX5_run_X5_keeps : GoodIn wsX5_run wsX5_keeps := goodIn_r _ [9, 4, 3, 10, 11, 8, 12, 121, 122, 123, 124, 125, 126, 127, 128, 129, 130, 131, 132] (by decide +kernel) (by decide +kernel)
set_option maxRecDepth 20000 in
theorem gX5_run_X5_keeps : GoodIn wsX5_run (wsV RX5 92 RX5 yX5_keeps wsX5_keeps) := goodIn_app (goodIn_of _ (by decide +kernel)) ggX5_run_X5_keeps
set_option maxRecDepth 20000 in
theorem ggX5_run_X5_begins : GoodIn wsX5_run wsX5_begins := goodIn_r _ [16, 1, 17, 18, 19, 20, 8, 21, 2, 22, 121, 122, 123, 124, 125, 126, 127, 128, 129, 130, 131, 132] (by decide +kernel) (by decide +kernel)
set_option maxRecDepth 20000 in
theorem gX5_run_X5_begins : GoodIn wsX5_run (wsV RX5 128 RX5 yX5_begins wsX5_begins) := goodIn_app (goodIn_of _ (by decide +kernel)) ggX5_run_X5_begins
set_option maxRecDepth 20000 in
theorem ggX5_run_X5_fails : GoodIn wsX5_run wsX5_fails := goodIn_r _ [26, 17, 27, 28, 1, 29, 30, 31, 32, 33, 8, 34, 13, 14, 15, 16, 18, 19, 20, 21, 2, 22, 35, 36, 37, 38, 39, 40, 41, 42, 43, 44, 45, 46, 47, 48, 49, 50, 51, 52, 4, 53, 54, 55, 56, 57, 58, 59, 60, 61, 62, 63, 64, 65, 66, 67, 68, 69, 70, 71, 72, 73, 74, 75, 76, 77, 78, 79, 80, 81, 82, 83, 84, 85, 86, 87, 88, 89, 90, 91, 92, 93, 94, 95, 96, 97, 98, 99, 100, 101, 102, 103, 104, 105, 106, 107, 108, 109, 110, 111, 112, 113, 114, 121, 122, 123, 124, 125, 126, 127, 128, 129, 130, 131, 132] (by decide +kernel) (by decide +kernel)
set_option maxRecDepth 20000 in
theorem gX5_run_X5_fails : GoodIn wsX5_run (wsV RX5 147 RX5 yX5_fails wsX5_fails) := goodIn_app (goodIn_of _ (by decide +kernel)) ggX5_run_X5_fails
set_option maxRecDepth 20000 in
theorem ggX5_run_X5_copies : GoodIn wsX5_run wsX5_copies := goodIn_r _ [12] (by decide +kernel) (by decide +kernel)
set_option maxRecDepth 20000 in
theorem gX5_run_X5_copies : GoodIn wsX5_run (va_wsS RX5 31 yX5_copies wsX5_copies) := goodIn_app (goodIn_of _ (by decide +kernel)) ggX5_run_X5_copies
set_option maxRecDepth 20000 in
theorem ggX5_run_X5_acted : GoodIn wsX5_run wsX5_acted := goodIn_r _ [118, 29, 30, 119, 120, 3, 35, 36, 8, 37, 10, 11, 12, 121, 122, 123, 124, 125, 126, 127, 128, 129, 130, 131, 132] (by decide +kernel) (by decide +kernel)
set_option maxRecDepth 20000 in
theorem gX5_run_X5_acted : GoodIn wsX5_run (wsV RX5 99 RX5 yX5_acted wsX5_acted) := goodIn_app (goodIn_of _ (by decide +kernel)) ggX5_run_X5_acted
theorem dX5_run_0 : decode cX5_run 0 = .ok (.aload_n 0, 1) := by decide +kernel
theorem dX5_run_1 : decode cX5_run 1 = .ok (.invokevirtual 92, 3) := by decide +kernel
theorem dX5_run_4 : decode cX5_run 4 = .ok (.aload_n 0, 1) := by decide +kernel
theorem dX5_run_5 : decode cX5_run 5 = .ok (.iconst 0, 1) := by decide +kernel
theorem dX5_run_6 : decode cX5_run 6 = .ok (.putfield 118, 3) := by decide +kernel
theorem dX5_run_9 : decode cX5_run 9 = .ok (.iconst 0, 1) := by decide +kernel
theorem dX5_run_10 : decode cX5_run 10 = .ok (.istore_n 1, 1) := by decide +kernel
theorem dX5_run_11 : decode cX5_run 11 = .ok (.aload_n 0, 1) := by decide +kernel
theorem dX5_run_12 : decode cX5_run 12 = .ok (.invokevirtual 128, 3) := by decide +kernel
theorem dX5_run_15 : decode cX5_run 15 = .ok (.aload_n 0, 1) := by decide +kernel
theorem dX5_run_16 : decode cX5_run 16 = .ok (.getfield 118, 3) := by decide +kernel
theorem dX5_run_19 : decode cX5_run 19 = .ok (.aload_n 0, 1) := by decide +kernel
theorem dX5_run_20 : decode cX5_run 20 = .ok (.getfield 115, 3) := by decide +kernel
theorem dX5_run_23 : decode cX5_run 23 = .ok (.if_icmp .ge 41, 3) := by decide +kernel
theorem dX5_run_26 : decode cX5_run 26 = .ok (.aload_n 0, 1) := by decide +kernel
theorem dX5_run_27 : decode cX5_run 27 = .ok (.invokevirtual 147, 3) := by decide +kernel
theorem dX5_run_30 : decode cX5_run 30 = .ok (.istore_n 2, 1) := by decide +kernel
theorem dX5_run_31 : decode cX5_run 31 = .ok (.iload_n 2, 1) := by decide +kernel
theorem dX5_run_32 : decode cX5_run 32 = .ok (.ifCond .lt 22, 3) := by decide +kernel
theorem dX5_run_35 : decode cX5_run 35 = .ok (.aload_n 0, 1) := by decide +kernel
theorem dX5_run_36 : decode cX5_run 36 = .ok (.getfield 13, 3) := by decide +kernel
theorem dX5_run_39 : decode cX5_run 39 = .ok (.iconst 0, 1) := by decide +kernel
theorem dX5_run_40 : decode cX5_run 40 = .ok (.aload_n 0, 1) := by decide +kernel
theorem dX5_run_41 : decode cX5_run 41 = .ok (.getfield 7, 3) := by decide +kernel
theorem dX5_run_44 : decode cX5_run 44 = .ok (.iconst 0, 1) := by decide +kernel
theorem dX5_run_45 : decode cX5_run 45 = .ok (.invokestatic 31, 3) := by decide +kernel
theorem dX5_run_48 : decode cX5_run 48 = .ok (.sipush (-1000), 3) := by decide +kernel
theorem dX5_run_51 : decode cX5_run 51 = .ok (.iload_n 2, 1) := by decide +kernel
theorem dX5_run_52 : decode cX5_run 52 = .ok (.isub, 1) := by decide +kernel
theorem dX5_run_53 : decode cX5_run 53 = .ok (.ireturn, 1) := by decide +kernel
theorem dX5_run_54 : decode cX5_run 54 = .ok (.iinc 1 1, 3) := by decide +kernel
theorem dX5_run_57 : decode cX5_run 57 = .ok (.aload_n 0, 1) := by decide +kernel
theorem dX5_run_58 : decode cX5_run 58 = .ok (.invokevirtual 128, 3) := by decide +kernel
theorem dX5_run_61 : decode cX5_run 61 = .ok (.goto (-46), 3) := by decide +kernel
theorem dX5_run_64 : decode cX5_run 64 = .ok (.aload_n 0, 1) := by decide +kernel
theorem dX5_run_65 : decode cX5_run 65 = .ok (.iconst 0, 1) := by decide +kernel
theorem dX5_run_66 : decode cX5_run 66 = .ok (.putfield 115, 3) := by decide +kernel
theorem dX5_run_69 : decode cX5_run 69 = .ok (.aload_n 0, 1) := by decide +kernel
theorem dX5_run_70 : decode cX5_run 70 = .ok (.iload_n 1, 1) := by decide +kernel
theorem dX5_run_71 : decode cX5_run 71 = .ok (.invokevirtual 99, 3) := by decide +kernel
theorem dX5_run_74 : decode cX5_run 74 = .ok (.ireturn, 1) := by decide +kernel
set_option maxRecDepth 20000 in
theorem ggX5_seenLines_X5_isSeen : GoodIn wsX5_seenLines wsX5_isSeen := goodIn_r _ [6, 7, 8, 9, 5, 10, 11, 12, 13, 14, 15, 16, 17, 18, 19, 20, 21, 22, 23, 24, 25, 26, 27, 28, 29, 30, 31, 32, 33, 34, 35, 36, 37, 38, 39, 40, 41] (by decide +kernel) (by decide +kernel)
set_option maxRecDepth 20000 in
theorem gX5_seenLines_X5_isSeen : GoodIn wsX5_seenLines (wsV RX5 150 RX5 yX5_isSeen wsX5_isSeen) := goodIn_app (goodIn_of _ (by decide +kernel)) ggX5_seenLines_X5_isSeen
theorem dX5_seenLines_0 : decode cX5_seenLines 0 = .ok (.iconst 0, 1) := by decide +kernel
theorem dX5_seenLines_1 : decode cX5_seenLines 1 = .ok (.istore_n 1, 1) := by decide +kernel
theorem dX5_seenLines_2 : decode cX5_seenLines 2 = .ok (.iconst 0, 1) := by decide +kernel
theorem dX5_seenLines_3 : decode cX5_seenLines 3 = .ok (.istore_n 2, 1) := by decide +kernel
theorem dX5_seenLines_4 : decode cX5_seenLines 4 = .ok (.iload_n 2, 1) := by decide +kernel
theorem dX5_seenLines_5 : decode cX5_seenLines 5 = .ok (.aload_n 0, 1) := by decide +kernel
theorem dX5_seenLines_6 : decode cX5_seenLines 6 = .ok (.getfield 7, 3) := by decide +kernel
theorem dX5_seenLines_9 : decode cX5_seenLines 9 = .ok (.iconst 0, 1) := by decide +kernel
theorem dX5_seenLines_10 : decode cX5_seenLines 10 = .ok (.iaload, 1) := by decide +kernel
theorem dX5_seenLines_11 : decode cX5_seenLines 11 = .ok (.if_icmp .ge 29, 3) := by decide +kernel
theorem dX5_seenLines_14 : decode cX5_seenLines 14 = .ok (.iload_n 1, 1) := by decide +kernel
theorem dX5_seenLines_15 : decode cX5_seenLines 15 = .ok (.aload_n 0, 1) := by decide +kernel
theorem dX5_seenLines_16 : decode cX5_seenLines 16 = .ok (.aload_n 0, 1) := by decide +kernel
theorem dX5_seenLines_17 : decode cX5_seenLines 17 = .ok (.getfield 7, 3) := by decide +kernel
theorem dX5_seenLines_20 : decode cX5_seenLines 20 = .ok (.iload_n 2, 1) := by decide +kernel
theorem dX5_seenLines_21 : decode cX5_seenLines 21 = .ok (.invokevirtual 150, 3) := by decide +kernel
theorem dX5_seenLines_24 : decode cX5_seenLines 24 = .ok (.ifCond .eq 7, 3) := by decide +kernel
theorem dX5_seenLines_27 : decode cX5_seenLines 27 = .ok (.iconst 1, 1) := by decide +kernel
theorem dX5_seenLines_28 : decode cX5_seenLines 28 = .ok (.goto 4, 3) := by decide +kernel
theorem dX5_seenLines_31 : decode cX5_seenLines 31 = .ok (.iconst 0, 1) := by decide +kernel
theorem dX5_seenLines_32 : decode cX5_seenLines 32 = .ok (.iadd, 1) := by decide +kernel
theorem dX5_seenLines_33 : decode cX5_seenLines 33 = .ok (.istore_n 1, 1) := by decide +kernel
theorem dX5_seenLines_34 : decode cX5_seenLines 34 = .ok (.iinc 2 1, 3) := by decide +kernel
theorem dX5_seenLines_37 : decode cX5_seenLines 37 = .ok (.goto (-33), 3) := by decide +kernel
theorem dX5_seenLines_40 : decode cX5_seenLines 40 = .ok (.iload_n 1, 1) := by decide +kernel
theorem dX5_seenLines_41 : decode cX5_seenLines 41 = .ok (.ireturn, 1) := by decide +kernel
set_option maxRecDepth 20000 in
theorem ggX5_count_X5_laysGuesses : GoodIn wsX5_count wsX5_laysGuesses := goodIn_r _ [11, 5, 12, 13, 10, 14, 15, 16, 17, 49, 50, 51, 52, 53, 54, 55, 56, 57, 58, 59, 60] (by decide +kernel) (by decide +kernel)
set_option maxRecDepth 20000 in
theorem gX5_count_X5_laysGuesses : GoodIn wsX5_count (wsV RX5 53 RX5 yX5_laysGuesses wsX5_laysGuesses) := goodIn_app (goodIn_of _ (by decide +kernel)) ggX5_count_X5_laysGuesses
set_option maxRecDepth 20000 in
theorem ggX5_count_X5_measured : GoodIn wsX5_count wsX5_measured := goodIn_r _ [21, 12, 13, 10, 14] (by decide +kernel) (by decide +kernel)
set_option maxRecDepth 20000 in
theorem gX5_count_X5_measured : GoodIn wsX5_count (wsV RX5 154 RX5 yX5_measured wsX5_measured) := goodIn_app (goodIn_of _ (by decide +kernel)) ggX5_count_X5_measured
set_option maxRecDepth 20000 in
theorem ggX5_count_X5_total : GoodIn wsX5_count wsX5_total := goodIn_r _ [25, 26, 27, 28, 10, 29, 7, 8, 9, 11, 5, 12, 13, 14, 15, 16, 17, 30, 31, 32, 33, 49, 50, 51, 52, 53, 54, 55, 56, 57, 58, 59, 60] (by decide +kernel) (by decide +kernel)
set_option maxRecDepth 20000 in
theorem gX5_count_X5_total : GoodIn wsX5_count (wsV RX5 74 RX5 yX5_total wsX5_total) := goodIn_app (goodIn_of _ (by decide +kernel)) ggX5_count_X5_total
set_option maxRecDepth 20000 in
theorem ggX5_count_X5_windowOf : GoodIn wsX5_count wsX5_windowOf := goodIn_r _ [37, 26, 27, 28, 10, 29, 7, 8, 9, 11, 5, 12, 13, 14, 15, 16, 17, 30, 31, 32, 33, 49, 50, 51, 52, 53, 54, 55, 56, 57, 58, 59, 60] (by decide +kernel) (by decide +kernel)
set_option maxRecDepth 20000 in
theorem gX5_count_X5_windowOf : GoodIn wsX5_count (wsV RX5 64 RX5 yX5_windowOf wsX5_windowOf) := goodIn_app (goodIn_of _ (by decide +kernel)) ggX5_count_X5_windowOf
set_option maxRecDepth 20000 in
theorem ggX5_count_X5_seenLines : GoodIn wsX5_count wsX5_seenLines := goodIn_r _ [41, 1, 42, 43, 44, 10, 45, 26, 27, 28, 29, 7, 8, 9, 11, 5, 12, 13, 14, 15, 16, 17, 30, 31, 32, 33, 34, 35, 36, 37, 49, 50, 51, 52, 53, 54, 55, 56, 57, 58, 59, 60] (by decide +kernel) (by decide +kernel)
set_option maxRecDepth 20000 in
theorem gX5_count_X5_seenLines : GoodIn wsX5_count (wsV RX5 157 RX5 yX5_seenLines wsX5_seenLines) := goodIn_app (goodIn_of _ (by decide +kernel)) ggX5_count_X5_seenLines
set_option maxRecDepth 20000 in
theorem ggX5_count_X5_in : GoodIn wsX5_count wsX5_in := goodIn_r _ [48] (by decide +kernel) (by decide +kernel)
set_option maxRecDepth 20000 in
theorem gX5_count_X5_in : GoodIn wsX5_count (va_wsS RX5 37 yX5_in wsX5_in) := goodIn_app (goodIn_of _ (by decide +kernel)) ggX5_count_X5_in
theorem dX5_count_0 : decode cX5_count 0 = .ok (.aload_n 0, 1) := by decide +kernel
theorem dX5_count_1 : decode cX5_count 1 = .ok (.getfield 7, 3) := by decide +kernel
theorem dX5_count_4 : decode cX5_count 4 = .ok (.iconst 0, 1) := by decide +kernel
theorem dX5_count_5 : decode cX5_count 5 = .ok (.iaload, 1) := by decide +kernel
theorem dX5_count_6 : decode cX5_count 6 = .ok (.ifCond .ne 7, 3) := by decide +kernel
theorem dX5_count_9 : decode cX5_count 9 = .ok (.iconst 1, 1) := by decide +kernel
theorem dX5_count_10 : decode cX5_count 10 = .ok (.goto 4, 3) := by decide +kernel
theorem dX5_count_13 : decode cX5_count 13 = .ok (.iconst 0, 1) := by decide +kernel
theorem dX5_count_14 : decode cX5_count 14 = .ok (.istore_n 2, 1) := by decide +kernel
theorem dX5_count_15 : decode cX5_count 15 = .ok (.aload_n 0, 1) := by decide +kernel
theorem dX5_count_16 : decode cX5_count 16 = .ok (.aload_n 0, 1) := by decide +kernel
theorem dX5_count_17 : decode cX5_count 17 = .ok (.getfield 7, 3) := by decide +kernel
theorem dX5_count_20 : decode cX5_count 20 = .ok (.invokevirtual 53, 3) := by decide +kernel
theorem dX5_count_23 : decode cX5_count 23 = .ok (.iload_n 1, 1) := by decide +kernel
theorem dX5_count_24 : decode cX5_count 24 = .ok (.tableswitch 167 0 13 #[72, 79, 88, 104, 120, 129, 138, 145, 167, 167, 167, 152, 157, 162], 72) := by decide +kernel
theorem dX5_count_96 : decode cX5_count 96 = .ok (.aload_n 0, 1) := by decide +kernel
theorem dX5_count_97 : decode cX5_count 97 = .ok (.getfield 7, 3) := by decide +kernel
theorem dX5_count_100 : decode cX5_count 100 = .ok (.iconst 0, 1) := by decide +kernel
theorem dX5_count_101 : decode cX5_count 101 = .ok (.iaload, 1) := by decide +kernel
theorem dX5_count_102 : decode cX5_count 102 = .ok (.ireturn, 1) := by decide +kernel
theorem dX5_count_103 : decode cX5_count 103 = .ok (.aload_n 0, 1) := by decide +kernel
theorem dX5_count_104 : decode cX5_count 104 = .ok (.aload_n 0, 1) := by decide +kernel
theorem dX5_count_105 : decode cX5_count 105 = .ok (.getfield 7, 3) := by decide +kernel
theorem dX5_count_108 : decode cX5_count 108 = .ok (.invokevirtual 154, 3) := by decide +kernel
theorem dX5_count_111 : decode cX5_count 111 = .ok (.ireturn, 1) := by decide +kernel
theorem dX5_count_112 : decode cX5_count 112 = .ok (.iload_n 2, 1) := by decide +kernel
theorem dX5_count_113 : decode cX5_count 113 = .ok (.ifCond .eq 8, 3) := by decide +kernel
theorem dX5_count_116 : decode cX5_count 116 = .ok (.ldc 63, 2) := by decide +kernel
theorem dX5_count_118 : decode cX5_count 118 = .ok (.goto 9, 3) := by decide +kernel
theorem dX5_count_121 : decode cX5_count 121 = .ok (.aload_n 0, 1) := by decide +kernel
theorem dX5_count_122 : decode cX5_count 122 = .ok (.getfield 7, 3) := by decide +kernel
theorem dX5_count_125 : decode cX5_count 125 = .ok (.iconst 1, 1) := by decide +kernel
theorem dX5_count_126 : decode cX5_count 126 = .ok (.iaload, 1) := by decide +kernel
theorem dX5_count_127 : decode cX5_count 127 = .ok (.ireturn, 1) := by decide +kernel
theorem dX5_count_128 : decode cX5_count 128 = .ok (.iload_n 2, 1) := by decide +kernel
theorem dX5_count_129 : decode cX5_count 129 = .ok (.ifCond .eq 8, 3) := by decide +kernel
theorem dX5_count_132 : decode cX5_count 132 = .ok (.ldc 63, 2) := by decide +kernel
theorem dX5_count_134 : decode cX5_count 134 = .ok (.goto 9, 3) := by decide +kernel
theorem dX5_count_137 : decode cX5_count 137 = .ok (.aload_n 0, 1) := by decide +kernel
theorem dX5_count_138 : decode cX5_count 138 = .ok (.getfield 7, 3) := by decide +kernel
theorem dX5_count_141 : decode cX5_count 141 = .ok (.iconst 2, 1) := by decide +kernel
theorem dX5_count_142 : decode cX5_count 142 = .ok (.iaload, 1) := by decide +kernel
theorem dX5_count_143 : decode cX5_count 143 = .ok (.ireturn, 1) := by decide +kernel
theorem dX5_count_144 : decode cX5_count 144 = .ok (.aload_n 0, 1) := by decide +kernel
theorem dX5_count_145 : decode cX5_count 145 = .ok (.aload_n 0, 1) := by decide +kernel
theorem dX5_count_146 : decode cX5_count 146 = .ok (.getfield 7, 3) := by decide +kernel
theorem dX5_count_149 : decode cX5_count 149 = .ok (.invokevirtual 74, 3) := by decide +kernel
theorem dX5_count_152 : decode cX5_count 152 = .ok (.ireturn, 1) := by decide +kernel
theorem dX5_count_153 : decode cX5_count 153 = .ok (.aload_n 0, 1) := by decide +kernel
theorem dX5_count_154 : decode cX5_count 154 = .ok (.aload_n 0, 1) := by decide +kernel
theorem dX5_count_155 : decode cX5_count 155 = .ok (.getfield 7, 3) := by decide +kernel
theorem dX5_count_158 : decode cX5_count 158 = .ok (.invokevirtual 64, 3) := by decide +kernel
theorem dX5_count_161 : decode cX5_count 161 = .ok (.ireturn, 1) := by decide +kernel
theorem dX5_count_162 : decode cX5_count 162 = .ok (.aload_n 0, 1) := by decide +kernel
theorem dX5_count_163 : decode cX5_count 163 = .ok (.getfield 7, 3) := by decide +kernel
theorem dX5_count_166 : decode cX5_count 166 = .ok (.iconst 3, 1) := by decide +kernel
theorem dX5_count_167 : decode cX5_count 167 = .ok (.iaload, 1) := by decide +kernel
theorem dX5_count_168 : decode cX5_count 168 = .ok (.ireturn, 1) := by decide +kernel
theorem dX5_count_169 : decode cX5_count 169 = .ok (.aload_n 0, 1) := by decide +kernel
theorem dX5_count_170 : decode cX5_count 170 = .ok (.getfield 7, 3) := by decide +kernel
theorem dX5_count_173 : decode cX5_count 173 = .ok (.iconst 4, 1) := by decide +kernel
theorem dX5_count_174 : decode cX5_count 174 = .ok (.iaload, 1) := by decide +kernel
theorem dX5_count_175 : decode cX5_count 175 = .ok (.ireturn, 1) := by decide +kernel
theorem dX5_count_176 : decode cX5_count 176 = .ok (.aload_n 0, 1) := by decide +kernel
theorem dX5_count_177 : decode cX5_count 177 = .ok (.invokevirtual 157, 3) := by decide +kernel
theorem dX5_count_180 : decode cX5_count 180 = .ok (.ireturn, 1) := by decide +kernel
theorem dX5_count_181 : decode cX5_count 181 = .ok (.aload_n 0, 1) := by decide +kernel
theorem dX5_count_182 : decode cX5_count 182 = .ok (.getfield 41, 3) := by decide +kernel
theorem dX5_count_185 : decode cX5_count 185 = .ok (.ireturn, 1) := by decide +kernel
theorem dX5_count_186 : decode cX5_count 186 = .ok (.aload_n 0, 1) := by decide +kernel
theorem dX5_count_187 : decode cX5_count 187 = .ok (.getfield 115, 3) := by decide +kernel
theorem dX5_count_190 : decode cX5_count 190 = .ok (.ireturn, 1) := by decide +kernel
theorem dX5_count_191 : decode cX5_count 191 = .ok (.iload_n 1, 1) := by decide +kernel
theorem dX5_count_192 : decode cX5_count 192 = .ok (.bipush 8, 2) := by decide +kernel
theorem dX5_count_194 : decode cX5_count 194 = .ok (.bipush 10, 2) := by decide +kernel
theorem dX5_count_196 : decode cX5_count 196 = .ok (.invokestatic 37, 3) := by decide +kernel
theorem dX5_count_199 : decode cX5_count 199 = .ok (.ifCond .eq 15, 3) := by decide +kernel
theorem dX5_count_202 : decode cX5_count 202 = .ok (.aload_n 0, 1) := by decide +kernel
theorem dX5_count_203 : decode cX5_count 203 = .ok (.getfield 25, 3) := by decide +kernel
theorem dX5_count_206 : decode cX5_count 206 = .ok (.iload_n 1, 1) := by decide +kernel
theorem dX5_count_207 : decode cX5_count 207 = .ok (.bipush 8, 2) := by decide +kernel
theorem dX5_count_209 : decode cX5_count 209 = .ok (.isub, 1) := by decide +kernel
theorem dX5_count_210 : decode cX5_count 210 = .ok (.iaload, 1) := by decide +kernel
theorem dX5_count_211 : decode cX5_count 211 = .ok (.goto 5, 3) := by decide +kernel
theorem dX5_count_214 : decode cX5_count 214 = .ok (.ldc 36, 2) := by decide +kernel
theorem dX5_count_216 : decode cX5_count 216 = .ok (.ireturn, 1) := by decide +kernel
set_option maxRecDepth 20000 in
theorem ggX5_line_X5_isLine : GoodIn wsX5_line wsX5_isLine := goodIn_r _ [7, 2, 8, 9, 6, 10, 34, 35, 36, 37, 38, 39, 40, 41, 42, 43, 44, 45] (by decide +kernel) (by decide +kernel)
set_option maxRecDepth 20000 in
theorem gX5_line_X5_isLine : GoodIn wsX5_line (wsV RX5 77 RX5 yX5_isLine wsX5_isLine) := goodIn_app (goodIn_of _ (by decide +kernel)) ggX5_line_X5_isLine
set_option maxRecDepth 20000 in
theorem ggX5_line_X5_laysGuesses : GoodIn wsX5_line wsX5_laysGuesses := goodIn_r _ [14, 15, 16, 17, 6, 18, 19, 20, 21, 34, 35, 36, 37, 38, 39, 40, 41, 42, 43, 44, 45] (by decide +kernel) (by decide +kernel)
set_option maxRecDepth 20000 in
theorem gX5_line_X5_laysGuesses : GoodIn wsX5_line (wsV RX5 53 RX5 yX5_laysGuesses wsX5_laysGuesses) := goodIn_app (goodIn_of _ (by decide +kernel)) ggX5_line_X5_laysGuesses
set_option maxRecDepth 20000 in
theorem ggX5_line_X5_l : GoodIn wsX5_line wsX5_l := goodIn_r _ [18] (by decide +kernel) (by decide +kernel)
set_option maxRecDepth 20000 in
theorem gX5_line_X5_l : GoodIn wsX5_line (va_wsS RX5 45 yX5_l wsX5_l) := goodIn_app (goodIn_of _ (by decide +kernel)) ggX5_line_X5_l
set_option maxRecDepth 20000 in
theorem ggX5_line_X5_heightOf : GoodIn wsX5_line wsX5_heightOf := goodIn_r _ [25, 15, 16, 17, 6, 18, 19, 20, 21, 34, 35, 36, 37, 38, 39, 40, 41, 42, 43, 44, 45] (by decide +kernel) (by decide +kernel)
set_option maxRecDepth 20000 in
theorem gX5_line_X5_heightOf : GoodIn wsX5_line (wsV RX5 57 RX5 yX5_heightOf wsX5_heightOf) := goodIn_app (goodIn_of _ (by decide +kernel)) ggX5_line_X5_heightOf
set_option maxRecDepth 20000 in
theorem ggX5_line_X5_topOf : GoodIn wsX5_line wsX5_topOf := goodIn_r _ [29, 11, 12, 13, 6, 14, 15, 16, 17, 18, 19, 20, 21, 22, 23, 24, 25, 34, 35, 36, 37, 38, 39, 40, 41, 42, 43, 44, 45] (by decide +kernel) (by decide +kernel)
set_option maxRecDepth 20000 in
theorem gX5_line_X5_topOf : GoodIn wsX5_line (wsV RX5 60 RX5 yX5_topOf wsX5_topOf) := goodIn_app (goodIn_of _ (by decide +kernel)) ggX5_line_X5_topOf
set_option maxRecDepth 20000 in
theorem ggX5_line_X5_trueOf : GoodIn wsX5_line wsX5_trueOf := goodIn_r _ [21, 16, 17, 6, 18] (by decide +kernel) (by decide +kernel)
set_option maxRecDepth 20000 in
theorem gX5_line_X5_trueOf : GoodIn wsX5_line (va_wsS RX5 49 yX5_trueOf wsX5_trueOf) := goodIn_app (goodIn_of _ (by decide +kernel)) ggX5_line_X5_trueOf
set_option maxRecDepth 20000 in
theorem ggX5_line_X5_windowOf : GoodIn wsX5_line wsX5_windowOf := goodIn_r _ [33, 26, 27, 28, 6, 29, 11, 12, 13, 14, 15, 16, 17, 18, 19, 20, 21, 22, 23, 24, 25, 34, 35, 36, 37, 38, 39, 40, 41, 42, 43, 44, 45] (by decide +kernel) (by decide +kernel)
set_option maxRecDepth 20000 in
theorem gX5_line_X5_windowOf : GoodIn wsX5_line (wsV RX5 64 RX5 yX5_windowOf wsX5_windowOf) := goodIn_app (goodIn_of _ (by decide +kernel)) ggX5_line_X5_windowOf
theorem dX5_line_0 : decode cX5_line 0 = .ok (.aload_n 0, 1) := by decide +kernel
theorem dX5_line_1 : decode cX5_line 1 = .ok (.iload_n 1, 1) := by decide +kernel
theorem dX5_line_2 : decode cX5_line 2 = .ok (.invokevirtual 77, 3) := by decide +kernel
theorem dX5_line_5 : decode cX5_line 5 = .ok (.ifCond .ne 6, 3) := by decide +kernel
theorem dX5_line_8 : decode cX5_line 8 = .ok (.ldc 36, 2) := by decide +kernel
theorem dX5_line_10 : decode cX5_line 10 = .ok (.ireturn, 1) := by decide +kernel
theorem dX5_line_11 : decode cX5_line 11 = .ok (.aload_n 0, 1) := by decide +kernel
theorem dX5_line_12 : decode cX5_line 12 = .ok (.aload_n 0, 1) := by decide +kernel
theorem dX5_line_13 : decode cX5_line 13 = .ok (.getfield 7, 3) := by decide +kernel
theorem dX5_line_16 : decode cX5_line 16 = .ok (.invokevirtual 53, 3) := by decide +kernel
theorem dX5_line_19 : decode cX5_line 19 = .ok (.iload_n 2, 1) := by decide +kernel
theorem dX5_line_20 : decode cX5_line 20 = .ok (.tableswitch 125 0 6 #[44, 55, 66, 76, 87, 97, 106], 44) := by decide +kernel
theorem dX5_line_64 : decode cX5_line 64 = .ok (.aload_n 0, 1) := by decide +kernel
theorem dX5_line_65 : decode cX5_line 65 = .ok (.getfield 7, 3) := by decide +kernel
theorem dX5_line_68 : decode cX5_line 68 = .ok (.iload_n 1, 1) := by decide +kernel
theorem dX5_line_69 : decode cX5_line 69 = .ok (.iconst 0, 1) := by decide +kernel
theorem dX5_line_70 : decode cX5_line 70 = .ok (.invokestatic 45, 3) := by decide +kernel
theorem dX5_line_73 : decode cX5_line 73 = .ok (.iaload, 1) := by decide +kernel
theorem dX5_line_74 : decode cX5_line 74 = .ok (.ireturn, 1) := by decide +kernel
theorem dX5_line_75 : decode cX5_line 75 = .ok (.aload_n 0, 1) := by decide +kernel
theorem dX5_line_76 : decode cX5_line 76 = .ok (.getfield 7, 3) := by decide +kernel
theorem dX5_line_79 : decode cX5_line 79 = .ok (.iload_n 1, 1) := by decide +kernel
theorem dX5_line_80 : decode cX5_line 80 = .ok (.iconst 1, 1) := by decide +kernel
theorem dX5_line_81 : decode cX5_line 81 = .ok (.invokestatic 45, 3) := by decide +kernel
theorem dX5_line_84 : decode cX5_line 84 = .ok (.iaload, 1) := by decide +kernel
theorem dX5_line_85 : decode cX5_line 85 = .ok (.ireturn, 1) := by decide +kernel
theorem dX5_line_86 : decode cX5_line 86 = .ok (.aload_n 0, 1) := by decide +kernel
theorem dX5_line_87 : decode cX5_line 87 = .ok (.aload_n 0, 1) := by decide +kernel
theorem dX5_line_88 : decode cX5_line 88 = .ok (.getfield 7, 3) := by decide +kernel
theorem dX5_line_91 : decode cX5_line 91 = .ok (.iload_n 1, 1) := by decide +kernel
theorem dX5_line_92 : decode cX5_line 92 = .ok (.invokevirtual 57, 3) := by decide +kernel
theorem dX5_line_95 : decode cX5_line 95 = .ok (.ireturn, 1) := by decide +kernel
theorem dX5_line_96 : decode cX5_line 96 = .ok (.aload_n 0, 1) := by decide +kernel
theorem dX5_line_97 : decode cX5_line 97 = .ok (.getfield 7, 3) := by decide +kernel
theorem dX5_line_100 : decode cX5_line 100 = .ok (.iload_n 1, 1) := by decide +kernel
theorem dX5_line_101 : decode cX5_line 101 = .ok (.iconst 2, 1) := by decide +kernel
theorem dX5_line_102 : decode cX5_line 102 = .ok (.invokestatic 45, 3) := by decide +kernel
theorem dX5_line_105 : decode cX5_line 105 = .ok (.iaload, 1) := by decide +kernel
theorem dX5_line_106 : decode cX5_line 106 = .ok (.ireturn, 1) := by decide +kernel
theorem dX5_line_107 : decode cX5_line 107 = .ok (.aload_n 0, 1) := by decide +kernel
theorem dX5_line_108 : decode cX5_line 108 = .ok (.aload_n 0, 1) := by decide +kernel
theorem dX5_line_109 : decode cX5_line 109 = .ok (.getfield 7, 3) := by decide +kernel
theorem dX5_line_112 : decode cX5_line 112 = .ok (.iload_n 1, 1) := by decide +kernel
theorem dX5_line_113 : decode cX5_line 113 = .ok (.invokevirtual 60, 3) := by decide +kernel
theorem dX5_line_116 : decode cX5_line 116 = .ok (.ireturn, 1) := by decide +kernel
theorem dX5_line_117 : decode cX5_line 117 = .ok (.aload_n 0, 1) := by decide +kernel
theorem dX5_line_118 : decode cX5_line 118 = .ok (.getfield 7, 3) := by decide +kernel
theorem dX5_line_121 : decode cX5_line 121 = .ok (.iload_n 1, 1) := by decide +kernel
theorem dX5_line_122 : decode cX5_line 122 = .ok (.invokestatic 49, 3) := by decide +kernel
theorem dX5_line_125 : decode cX5_line 125 = .ok (.ireturn, 1) := by decide +kernel
theorem dX5_line_126 : decode cX5_line 126 = .ok (.aload_n 0, 1) := by decide +kernel
theorem dX5_line_127 : decode cX5_line 127 = .ok (.aload_n 0, 1) := by decide +kernel
theorem dX5_line_128 : decode cX5_line 128 = .ok (.getfield 7, 3) := by decide +kernel
theorem dX5_line_131 : decode cX5_line 131 = .ok (.iload_n 1, 1) := by decide +kernel
theorem dX5_line_132 : decode cX5_line 132 = .ok (.invokevirtual 60, 3) := by decide +kernel
theorem dX5_line_135 : decode cX5_line 135 = .ok (.aload_n 0, 1) := by decide +kernel
theorem dX5_line_136 : decode cX5_line 136 = .ok (.aload_n 0, 1) := by decide +kernel
theorem dX5_line_137 : decode cX5_line 137 = .ok (.getfield 7, 3) := by decide +kernel
theorem dX5_line_140 : decode cX5_line 140 = .ok (.invokevirtual 64, 3) := by decide +kernel
theorem dX5_line_143 : decode cX5_line 143 = .ok (.isub, 1) := by decide +kernel
theorem dX5_line_144 : decode cX5_line 144 = .ok (.ireturn, 1) := by decide +kernel
