theorem dX3_changeLength_49 : decode cX3_changeLength 49 = .ok (.ireturn, 1) := by decide +kernel
set_option maxRecDepth 20000 in
theorem ggX3_changeHeight_X4_isOutside : GoodIn wsX3_changeHeight wsX4_isOutside := goodIn_r _ [5] (by decide +kernel) (by decide +kernel)
set_option maxRecDepth 20000 in
theorem gX3_changeHeight_X4_isOutside_n35 : GoodIn wsX3_changeHeight (wsX4_isOutside) := ggX3_changeHeight_X4_isOutside
set_option maxRecDepth 20000 in
theorem ggX3_changeHeight_X3_settle : GoodIn wsX3_changeHeight wsX3_settle := goodIn_r _ [10, 11, 12, 13, 2, 14, 15, 16, 17, 9, 18, 19, 20, 21, 22, 23, 24, 25, 26, 27, 28, 29, 30, 31, 32, 33, 34, 35, 36, 37, 38, 39, 40, 41, 42, 43, 44, 45, 46, 47, 48, 49, 50, 51, 52, 53, 54, 55, 56, 57, 58, 59, 60, 61, 62, 63, 64, 65, 66, 67, 68, 69] (by decide +kernel) (by decide +kernel)
set_option maxRecDepth 20000 in
theorem gX3_changeHeight_X3_settle : GoodIn wsX3_changeHeight (wsV RX3 49 RX3 yX3_settle wsX3_settle) := goodIn_app (goodIn_of _ (by decide +kernel)) ggX3_changeHeight_X3_settle
theorem dX3_changeHeight_0 : decode cX3_changeHeight 0 = .ok (.iload_n 1, 1) := by decide +kernel
theorem dX3_changeHeight_1 : decode cX3_changeHeight 1 = .ok (.bipush 20, 2) := by decide +kernel
theorem dX3_changeHeight_3 : decode cX3_changeHeight 3 = .ok (.sipush 600, 3) := by decide +kernel
theorem dX3_changeHeight_6 : decode cX3_changeHeight 6 = .ok (.invokestatic 35, 3) := by decide +kernel
theorem dX3_changeHeight_9 : decode cX3_changeHeight 9 = .ok (.ifCond .eq 6, 3) := by decide +kernel
theorem dX3_changeHeight_12 : decode cX3_changeHeight 12 = .ok (.ldc 43, 2) := by decide +kernel
theorem dX3_changeHeight_14 : decode cX3_changeHeight 14 = .ok (.ireturn, 1) := by decide +kernel
theorem dX3_changeHeight_15 : decode cX3_changeHeight 15 = .ok (.aload_n 0, 1) := by decide +kernel
theorem dX3_changeHeight_16 : decode cX3_changeHeight 16 = .ok (.getfield 18, 3) := by decide +kernel
theorem dX3_changeHeight_19 : decode cX3_changeHeight 19 = .ok (.istore_n 2, 1) := by decide +kernel
theorem dX3_changeHeight_20 : decode cX3_changeHeight 20 = .ok (.aload_n 0, 1) := by decide +kernel
theorem dX3_changeHeight_21 : decode cX3_changeHeight 21 = .ok (.iload_n 1, 1) := by decide +kernel
theorem dX3_changeHeight_22 : decode cX3_changeHeight 22 = .ok (.putfield 18, 3) := by decide +kernel
theorem dX3_changeHeight_25 : decode cX3_changeHeight 25 = .ok (.aload_n 0, 1) := by decide +kernel
theorem dX3_changeHeight_26 : decode cX3_changeHeight 26 = .ok (.invokevirtual 49, 3) := by decide +kernel
theorem dX3_changeHeight_29 : decode cX3_changeHeight 29 = .ok (.iload_n 2, 1) := by decide +kernel
theorem dX3_changeHeight_30 : decode cX3_changeHeight 30 = .ok (.ireturn, 1) := by decide +kernel
set_option maxRecDepth 20000 in
theorem ggX3_changeWidth_X4_isOutside : GoodIn wsX3_changeWidth wsX4_isOutside := goodIn_r _ [6] (by decide +kernel) (by decide +kernel)
set_option maxRecDepth 20000 in
theorem gX3_changeWidth_X4_isOutside_n35 : GoodIn wsX3_changeWidth (wsX4_isOutside) := ggX3_changeWidth_X4_isOutside
set_option maxRecDepth 20000 in
theorem ggX3_changeWidth_X1_forgetAllFor : GoodIn wsX3_changeWidth wsX1_forgetAllFor := goodIn_r _ [11, 12, 13, 14, 15, 16, 10, 17, 18, 19, 20, 21, 22, 23, 24, 25, 26, 27, 28, 29, 30, 31, 32, 33, 34, 72, 73, 74, 75, 76, 77, 78] (by decide +kernel) (by decide +kernel)
set_option maxRecDepth 20000 in
theorem gX3_changeWidth_X1_forgetAllFor : GoodIn wsX3_changeWidth (wsV RX3 74 RX1 yX1_forgetAllFor wsX1_forgetAllFor) := goodIn_app (goodIn_of _ (by decide +kernel)) ggX3_changeWidth_X1_forgetAllFor
set_option maxRecDepth 20000 in
theorem ggX3_changeWidth_X3_settle : GoodIn wsX3_changeWidth wsX3_settle := goodIn_r _ [39, 2, 40, 41, 42, 43, 44, 45, 46, 38, 47, 48, 49, 50, 10, 51, 18, 19, 20, 21, 22, 23, 24, 25, 26, 12, 27, 28, 29, 30, 31, 32, 33, 34, 13, 52, 53, 54, 55, 56, 57, 58, 59, 60, 61, 62, 63, 64, 65, 66, 67, 68, 69, 70, 71, 72, 73, 74, 75, 76, 77, 78] (by decide +kernel) (by decide +kernel)
set_option maxRecDepth 20000 in
theorem gX3_changeWidth_X3_settle : GoodIn wsX3_changeWidth (wsV RX3 49 RX3 yX3_settle wsX3_settle) := goodIn_app (goodIn_of _ (by decide +kernel)) ggX3_changeWidth_X3_settle
theorem dX3_changeWidth_0 : decode cX3_changeWidth 0 = .ok (.iload_n 1, 1) := by decide +kernel
theorem dX3_changeWidth_1 : decode cX3_changeWidth 1 = .ok (.iconst 5, 1) := by decide +kernel
theorem dX3_changeWidth_2 : decode cX3_changeWidth 2 = .ok (.bipush 80, 2) := by decide +kernel
theorem dX3_changeWidth_4 : decode cX3_changeWidth 4 = .ok (.invokestatic 35, 3) := by decide +kernel
theorem dX3_changeWidth_7 : decode cX3_changeWidth 7 = .ok (.ifCond .eq 6, 3) := by decide +kernel
theorem dX3_changeWidth_10 : decode cX3_changeWidth 10 = .ok (.ldc 43, 2) := by decide +kernel
theorem dX3_changeWidth_12 : decode cX3_changeWidth 12 = .ok (.ireturn, 1) := by decide +kernel
theorem dX3_changeWidth_13 : decode cX3_changeWidth 13 = .ok (.aload_n 0, 1) := by decide +kernel
theorem dX3_changeWidth_14 : decode cX3_changeWidth 14 = .ok (.getfield 12, 3) := by decide +kernel
theorem dX3_changeWidth_17 : decode cX3_changeWidth 17 = .ok (.getfield 71, 3) := by decide +kernel
theorem dX3_changeWidth_20 : decode cX3_changeWidth 20 = .ok (.istore_n 2, 1) := by decide +kernel
theorem dX3_changeWidth_21 : decode cX3_changeWidth 21 = .ok (.aload_n 0, 1) := by decide +kernel
theorem dX3_changeWidth_22 : decode cX3_changeWidth 22 = .ok (.getfield 12, 3) := by decide +kernel
theorem dX3_changeWidth_25 : decode cX3_changeWidth 25 = .ok (.iload_n 1, 1) := by decide +kernel
theorem dX3_changeWidth_26 : decode cX3_changeWidth 26 = .ok (.invokevirtual 74, 3) := by decide +kernel
theorem dX3_changeWidth_29 : decode cX3_changeWidth 29 = .ok (.aload_n 0, 1) := by decide +kernel
theorem dX3_changeWidth_30 : decode cX3_changeWidth 30 = .ok (.invokevirtual 49, 3) := by decide +kernel
theorem dX3_changeWidth_33 : decode cX3_changeWidth 33 = .ok (.iload_n 2, 1) := by decide +kernel
theorem dX3_changeWidth_34 : decode cX3_changeWidth 34 = .ok (.ireturn, 1) := by decide +kernel
set_option maxRecDepth 20000 in
theorem ggX3_moveBy_X4_isOutside : GoodIn wsX3_moveBy wsX4_isOutside := goodIn_r _ [9] (by decide +kernel) (by decide +kernel)
set_option maxRecDepth 20000 in
theorem gX3_moveBy_X4_isOutside_n35 : GoodIn wsX3_moveBy (wsX4_isOutside) := ggX3_moveBy_X4_isOutside
set_option maxRecDepth 20000 in
theorem ggX3_moveBy_X3_climb : GoodIn wsX3_moveBy wsX3_climb := goodIn_r _ [14, 6, 5, 2, 15, 16, 17, 18, 19, 20, 21, 22, 23, 24, 25, 26, 27, 28, 29, 30, 31, 32, 33, 34, 35, 36, 37, 38, 39, 40, 41, 42, 43, 44, 45, 46, 47, 48, 49, 50, 60, 61, 62, 63, 64, 65, 66, 67, 68, 69, 70] (by decide +kernel) (by decide +kernel)
set_option maxRecDepth 20000 in
theorem gX3_moveBy_X3_climb : GoodIn wsX3_moveBy (wsV RX3 78 RX3 yX3_climb wsX3_climb) := goodIn_app (goodIn_of _ (by decide +kernel)) ggX3_moveBy_X3_climb
set_option maxRecDepth 20000 in
theorem ggX3_moveBy_X3_settle : GoodIn wsX3_moveBy wsX3_settle := goodIn_r _ [54, 2, 3, 5, 55, 6, 56, 57, 58, 13, 59, 19, 20, 21, 22, 23, 24, 25, 26, 27, 28, 29, 30, 31, 32, 33, 34, 35, 36, 37, 38, 39, 40, 41, 42, 43, 44, 45, 46, 47, 48, 49, 50, 10, 11, 12, 14, 15, 16, 17, 18, 60, 61, 62, 63, 64, 65, 66, 67, 68, 69, 70] (by decide +kernel) (by decide +kernel)
set_option maxRecDepth 20000 in
theorem gX3_moveBy_X3_settle : GoodIn wsX3_moveBy (wsV RX3 49 RX3 yX3_settle wsX3_settle) := goodIn_app (goodIn_of _ (by decide +kernel)) ggX3_moveBy_X3_settle
theorem dX3_moveBy_0 : decode cX3_moveBy 0 = .ok (.iload_n 1, 1) := by decide +kernel
theorem dX3_moveBy_1 : decode cX3_moveBy 1 = .ok (.sipush (-9999), 3) := by decide +kernel
theorem dX3_moveBy_4 : decode cX3_moveBy 4 = .ok (.sipush 9999, 3) := by decide +kernel
theorem dX3_moveBy_7 : decode cX3_moveBy 7 = .ok (.invokestatic 35, 3) := by decide +kernel
theorem dX3_moveBy_10 : decode cX3_moveBy 10 = .ok (.ifCond .eq 6, 3) := by decide +kernel
theorem dX3_moveBy_13 : decode cX3_moveBy 13 = .ok (.ldc 43, 2) := by decide +kernel
theorem dX3_moveBy_15 : decode cX3_moveBy 15 = .ok (.ireturn, 1) := by decide +kernel
theorem dX3_moveBy_16 : decode cX3_moveBy 16 = .ok (.aload_n 0, 1) := by decide +kernel
theorem dX3_moveBy_17 : decode cX3_moveBy 17 = .ok (.getfield 12, 3) := by decide +kernel
theorem dX3_moveBy_20 : decode cX3_moveBy 20 = .ok (.getfield 32, 3) := by decide +kernel
theorem dX3_moveBy_23 : decode cX3_moveBy 23 = .ok (.ifCond .ne 6, 3) := by decide +kernel
theorem dX3_moveBy_26 : decode cX3_moveBy 26 = .ok (.ldc 77, 2) := by decide +kernel
theorem dX3_moveBy_28 : decode cX3_moveBy 28 = .ok (.ireturn, 1) := by decide +kernel
theorem dX3_moveBy_29 : decode cX3_moveBy 29 = .ok (.aload_n 0, 1) := by decide +kernel
theorem dX3_moveBy_30 : decode cX3_moveBy 30 = .ok (.dup, 1) := by decide +kernel
theorem dX3_moveBy_31 : decode cX3_moveBy 31 = .ok (.getfield 29, 3) := by decide +kernel
theorem dX3_moveBy_34 : decode cX3_moveBy 34 = .ok (.iload_n 1, 1) := by decide +kernel
theorem dX3_moveBy_35 : decode cX3_moveBy 35 = .ok (.iadd, 1) := by decide +kernel
theorem dX3_moveBy_36 : decode cX3_moveBy 36 = .ok (.putfield 29, 3) := by decide +kernel
theorem dX3_moveBy_39 : decode cX3_moveBy 39 = .ok (.aload_n 0, 1) := by decide +kernel
theorem dX3_moveBy_40 : decode cX3_moveBy 40 = .ok (.invokevirtual 78, 3) := by decide +kernel
theorem dX3_moveBy_43 : decode cX3_moveBy 43 = .ok (.aload_n 0, 1) := by decide +kernel
theorem dX3_moveBy_44 : decode cX3_moveBy 44 = .ok (.invokevirtual 49, 3) := by decide +kernel
theorem dX3_moveBy_47 : decode cX3_moveBy 47 = .ok (.aload_n 0, 1) := by decide +kernel
theorem dX3_moveBy_48 : decode cX3_moveBy 48 = .ok (.getfield 26, 3) := by decide +kernel
theorem dX3_moveBy_51 : decode cX3_moveBy 51 = .ok (.ireturn, 1) := by decide +kernel
set_option maxRecDepth 20000 in
theorem ggX3_moveToShare_X4_isOutside : GoodIn wsX3_moveToShare wsX4_isOutside := goodIn_r _ [14] (by decide +kernel) (by decide +kernel)
set_option maxRecDepth 20000 in
theorem gX3_moveToShare_X4_isOutside_n35 : GoodIn wsX3_moveToShare (wsX4_isOutside) := ggX3_moveToShare_X4_isOutside
set_option maxRecDepth 20000 in
theorem ggX3_moveToShare_X1_total : GoodIn wsX3_moveToShare wsX1_total := goodIn_r _ [19, 20, 21, 22, 23, 18, 24, 25, 26, 27, 28, 29, 30, 31, 32, 33, 34, 35, 36, 37, 38, 39, 40, 41, 42, 43, 44, 45, 46, 79, 80, 81, 82, 83, 84, 85] (by decide +kernel) (by decide +kernel)
set_option maxRecDepth 20000 in
theorem gX3_moveToShare_X1_total : GoodIn wsX3_moveToShare (wsV RX3 52 RX1 yX1_total wsX1_total) := goodIn_app (goodIn_of _ (by decide +kernel)) ggX3_moveToShare_X1_total
set_option maxRecDepth 20000 in
theorem ggX3_moveToShare_X1_lineAt : GoodIn wsX3_moveToShare wsX1_lineAt := goodIn_r _ [50, 20, 51, 25, 26, 27, 18, 28, 29, 30, 31, 32, 33, 34, 35, 36, 37, 38, 39, 40, 41, 42, 43, 44, 45, 46, 79, 80, 81, 82, 83, 84, 85] (by decide +kernel) (by decide +kernel)
set_option maxRecDepth 20000 in
theorem gX3_moveToShare_X1_lineAt : GoodIn wsX3_moveToShare (wsV RX3 87 RX1 yX1_lineAt wsX1_lineAt) := goodIn_app (goodIn_of _ (by decide +kernel)) ggX3_moveToShare_X1_lineAt
set_option maxRecDepth 20000 in
theorem ggX3_moveToShare_X1_topOf : GoodIn wsX3_moveToShare wsX1_topOf := goodIn_r _ [24, 20, 25, 26, 27, 18, 28, 29, 30, 31, 32, 33, 34, 35, 36, 37, 38, 39, 40, 41, 42, 43, 44, 45, 46, 79, 80, 81, 82, 83, 84, 85] (by decide +kernel) (by decide +kernel)
set_option maxRecDepth 20000 in
theorem gX3_moveToShare_X1_topOf : GoodIn wsX3_moveToShare (wsV RX3 91 RX1 yX1_topOf wsX1_topOf) := goodIn_app (goodIn_of _ (by decide +kernel)) ggX3_moveToShare_X1_topOf
set_option maxRecDepth 20000 in
theorem ggX3_moveToShare_X3_settle : GoodIn wsX3_moveToShare wsX3_settle := goodIn_r _ [57, 2, 3, 11, 5, 10, 58, 59, 60, 56, 61, 62, 63, 64, 18, 65, 29, 30, 46, 31, 45, 32, 33, 34, 35, 20, 66, 67, 68, 69, 36, 37, 38, 39, 40, 70, 26, 27, 28, 41, 42, 43, 44, 71, 72, 73, 74, 6, 7, 8, 9, 75, 76, 77, 78, 79, 80, 81, 82, 83, 84, 85] (by decide +kernel) (by decide +kernel)
set_option maxRecDepth 20000 in
theorem gX3_moveToShare_X3_settle : GoodIn wsX3_moveToShare (wsV RX3 49 RX3 yX3_settle wsX3_settle) := goodIn_app (goodIn_of _ (by decide +kernel)) ggX3_moveToShare_X3_settle
theorem dX3_moveToShare_0 : decode cX3_moveToShare 0 = .ok (.iload_n 1, 1) := by decide +kernel
theorem dX3_moveToShare_1 : decode cX3_moveToShare 1 = .ok (.iconst 0, 1) := by decide +kernel
theorem dX3_moveToShare_2 : decode cX3_moveToShare 2 = .ok (.sipush 1000, 3) := by decide +kernel
theorem dX3_moveToShare_5 : decode cX3_moveToShare 5 = .ok (.invokestatic 35, 3) := by decide +kernel
theorem dX3_moveToShare_8 : decode cX3_moveToShare 8 = .ok (.ifCond .eq 6, 3) := by decide +kernel
theorem dX3_moveToShare_11 : decode cX3_moveToShare 11 = .ok (.ldc 43, 2) := by decide +kernel
theorem dX3_moveToShare_13 : decode cX3_moveToShare 13 = .ok (.ireturn, 1) := by decide +kernel
theorem dX3_moveToShare_14 : decode cX3_moveToShare 14 = .ok (.aload_n 0, 1) := by decide +kernel
theorem dX3_moveToShare_15 : decode cX3_moveToShare 15 = .ok (.getfield 12, 3) := by decide +kernel
theorem dX3_moveToShare_18 : decode cX3_moveToShare 18 = .ok (.getfield 32, 3) := by decide +kernel
theorem dX3_moveToShare_21 : decode cX3_moveToShare 21 = .ok (.ifCond .ne 6, 3) := by decide +kernel
theorem dX3_moveToShare_24 : decode cX3_moveToShare 24 = .ok (.ldc 77, 2) := by decide +kernel
theorem dX3_moveToShare_26 : decode cX3_moveToShare 26 = .ok (.ireturn, 1) := by decide +kernel
theorem dX3_moveToShare_27 : decode cX3_moveToShare 27 = .ok (.iconst 0, 1) := by decide +kernel
theorem dX3_moveToShare_28 : decode cX3_moveToShare 28 = .ok (.aload_n 0, 1) := by decide +kernel
theorem dX3_moveToShare_29 : decode cX3_moveToShare 29 = .ok (.getfield 12, 3) := by decide +kernel
theorem dX3_moveToShare_32 : decode cX3_moveToShare 32 = .ok (.invokevirtual 52, 3) := by decide +kernel
theorem dX3_moveToShare_35 : decode cX3_moveToShare 35 = .ok (.aload_n 0, 1) := by decide +kernel
theorem dX3_moveToShare_36 : decode cX3_moveToShare 36 = .ok (.getfield 18, 3) := by decide +kernel
theorem dX3_moveToShare_39 : decode cX3_moveToShare 39 = .ok (.isub, 1) := by decide +kernel
theorem dX3_moveToShare_40 : decode cX3_moveToShare 40 = .ok (.invokestatic 81, 3) := by decide +kernel
theorem dX3_moveToShare_43 : decode cX3_moveToShare 43 = .ok (.iload_n 1, 1) := by decide +kernel
theorem dX3_moveToShare_44 : decode cX3_moveToShare 44 = .ok (.imul, 1) := by decide +kernel
theorem dX3_moveToShare_45 : decode cX3_moveToShare 45 = .ok (.sipush 1000, 3) := by decide +kernel
theorem dX3_moveToShare_48 : decode cX3_moveToShare 48 = .ok (.idiv, 1) := by decide +kernel
theorem dX3_moveToShare_49 : decode cX3_moveToShare 49 = .ok (.istore_n 2, 1) := by decide +kernel
theorem dX3_moveToShare_50 : decode cX3_moveToShare 50 = .ok (.aload_n 0, 1) := by decide +kernel
theorem dX3_moveToShare_51 : decode cX3_moveToShare 51 = .ok (.iconst 0, 1) := by decide +kernel
theorem dX3_moveToShare_52 : decode cX3_moveToShare 52 = .ok (.aload_n 0, 1) := by decide +kernel
theorem dX3_moveToShare_53 : decode cX3_moveToShare 53 = .ok (.getfield 12, 3) := by decide +kernel
theorem dX3_moveToShare_56 : decode cX3_moveToShare 56 = .ok (.iload_n 2, 1) := by decide +kernel
theorem dX3_moveToShare_57 : decode cX3_moveToShare 57 = .ok (.invokevirtual 87, 3) := by decide +kernel
theorem dX3_moveToShare_60 : decode cX3_moveToShare 60 = .ok (.invokestatic 81, 3) := by decide +kernel
theorem dX3_moveToShare_63 : decode cX3_moveToShare 63 = .ok (.putfield 26, 3) := by decide +kernel
theorem dX3_moveToShare_66 : decode cX3_moveToShare 66 = .ok (.aload_n 0, 1) := by decide +kernel
theorem dX3_moveToShare_67 : decode cX3_moveToShare 67 = .ok (.iload_n 2, 1) := by decide +kernel
theorem dX3_moveToShare_68 : decode cX3_moveToShare 68 = .ok (.aload_n 0, 1) := by decide +kernel
theorem dX3_moveToShare_69 : decode cX3_moveToShare 69 = .ok (.getfield 12, 3) := by decide +kernel
theorem dX3_moveToShare_72 : decode cX3_moveToShare 72 = .ok (.aload_n 0, 1) := by decide +kernel
theorem dX3_moveToShare_73 : decode cX3_moveToShare 73 = .ok (.getfield 26, 3) := by decide +kernel
theorem dX3_moveToShare_76 : decode cX3_moveToShare 76 = .ok (.invokevirtual 91, 3) := by decide +kernel
theorem dX3_moveToShare_79 : decode cX3_moveToShare 79 = .ok (.isub, 1) := by decide +kernel
theorem dX3_moveToShare_80 : decode cX3_moveToShare 80 = .ok (.putfield 29, 3) := by decide +kernel
theorem dX3_moveToShare_83 : decode cX3_moveToShare 83 = .ok (.aload_n 0, 1) := by decide +kernel
theorem dX3_moveToShare_84 : decode cX3_moveToShare 84 = .ok (.invokevirtual 49, 3) := by decide +kernel
theorem dX3_moveToShare_87 : decode cX3_moveToShare 87 = .ok (.aload_n 0, 1) := by decide +kernel
theorem dX3_moveToShare_88 : decode cX3_moveToShare 88 = .ok (.getfield 26, 3) := by decide +kernel
theorem dX3_moveToShare_91 : decode cX3_moveToShare 91 = .ok (.ireturn, 1) := by decide +kernel
set_option maxRecDepth 20000 in
theorem ggX3_moveToLine_X1_isLine : GoodIn wsX3_moveToLine wsX1_isLine := goodIn_r _ [9, 10, 61, 62, 63, 64, 65, 66, 67] (by decide +kernel) (by decide +kernel)
set_option maxRecDepth 20000 in
theorem gX3_moveToLine_X1_isLine : GoodIn wsX3_moveToLine (wsV RX3 56 RX1 yX1_isLine wsX1_isLine) := goodIn_app (goodIn_of _ (by decide +kernel)) ggX3_moveToLine_X1_isLine
set_option maxRecDepth 20000 in
theorem ggX3_moveToLine_X3_settle : GoodIn wsX3_moveToLine wsX3_settle := goodIn_r _ [15, 1, 16, 4, 17, 3, 18, 19, 20, 14, 21, 22, 23, 24, 8, 25, 26, 27, 28, 29, 30, 31, 6, 7, 9, 10, 32, 33, 34, 35, 36, 37, 38, 39, 40, 41, 42, 43, 44, 45, 46, 47, 48, 49, 50, 51, 52, 53, 54, 55, 56, 57, 58, 59, 60, 61, 62, 63, 64, 65, 66, 67] (by decide +kernel) (by decide +kernel)
set_option maxRecDepth 20000 in
theorem gX3_moveToLine_X3_settle : GoodIn wsX3_moveToLine (wsV RX3 49 RX3 yX3_settle wsX3_settle) := goodIn_app (goodIn_of _ (by decide +kernel)) ggX3_moveToLine_X3_settle
theorem dX3_moveToLine_0 : decode cX3_moveToLine 0 = .ok (.aload_n 0, 1) := by decide +kernel
theorem dX3_moveToLine_1 : decode cX3_moveToLine 1 = .ok (.getfield 12, 3) := by decide +kernel
theorem dX3_moveToLine_4 : decode cX3_moveToLine 4 = .ok (.iload_n 1, 1) := by decide +kernel
theorem dX3_moveToLine_5 : decode cX3_moveToLine 5 = .ok (.invokevirtual 56, 3) := by decide +kernel
theorem dX3_moveToLine_8 : decode cX3_moveToLine 8 = .ok (.ifCond .ne 6, 3) := by decide +kernel
theorem dX3_moveToLine_11 : decode cX3_moveToLine 11 = .ok (.ldc 43, 2) := by decide +kernel
theorem dX3_moveToLine_13 : decode cX3_moveToLine 13 = .ok (.ireturn, 1) := by decide +kernel
theorem dX3_moveToLine_14 : decode cX3_moveToLine 14 = .ok (.aload_n 0, 1) := by decide +kernel
theorem dX3_moveToLine_15 : decode cX3_moveToLine 15 = .ok (.iload_n 1, 1) := by decide +kernel
theorem dX3_moveToLine_16 : decode cX3_moveToLine 16 = .ok (.putfield 26, 3) := by decide +kernel
theorem dX3_moveToLine_19 : decode cX3_moveToLine 19 = .ok (.aload_n 0, 1) := by decide +kernel
theorem dX3_moveToLine_20 : decode cX3_moveToLine 20 = .ok (.iconst 0, 1) := by decide +kernel
theorem dX3_moveToLine_21 : decode cX3_moveToLine 21 = .ok (.putfield 29, 3) := by decide +kernel
theorem dX3_moveToLine_24 : decode cX3_moveToLine 24 = .ok (.aload_n 0, 1) := by decide +kernel
theorem dX3_moveToLine_25 : decode cX3_moveToLine 25 = .ok (.invokevirtual 49, 3) := by decide +kernel
theorem dX3_moveToLine_28 : decode cX3_moveToLine 28 = .ok (.aload_n 0, 1) := by decide +kernel
theorem dX3_moveToLine_29 : decode cX3_moveToLine 29 = .ok (.getfield 26, 3) := by decide +kernel
theorem dX3_moveToLine_32 : decode cX3_moveToLine 32 = .ok (.ireturn, 1) := by decide +kernel
set_option maxRecDepth 20000 in
theorem ggX3_settle_X3_descend : GoodIn wsX3_settle wsX3_descend := goodIn_r _ [10, 1, 5, 2, 3, 11, 12, 13, 14, 15, 16, 17, 18, 19, 20, 21, 22, 23, 24, 25, 26, 27, 28, 29, 30, 31, 32, 33, 34, 35, 36, 37, 38, 39, 40, 41, 42, 51, 52, 53, 54, 55, 56, 57, 58, 59, 60, 61] (by decide +kernel) (by decide +kernel)
set_option maxRecDepth 20000 in
theorem gX3_settle_X3_descend : GoodIn wsX3_settle (wsV RX3 94 RX3 yX3_descend wsX3_descend) := goodIn_app (goodIn_of _ (by decide +kernel)) ggX3_settle_X3_descend
set_option maxRecDepth 20000 in
theorem ggX3_settle_X1_heightOf : GoodIn wsX3_settle wsX1_heightOf := goodIn_r _ [38, 16, 17, 19, 21, 22, 23, 14, 24, 25, 30, 31, 32, 33, 34, 39, 40, 41, 42, 20, 18, 55, 56, 57, 58, 59, 60, 61] (by decide +kernel) (by decide +kernel)
set_option maxRecDepth 20000 in
theorem gX3_settle_X1_heightOf : GoodIn wsX3_settle (wsV RX3 97 RX1 yX1_heightOf wsX1_heightOf) := goodIn_app (goodIn_of _ (by decide +kernel)) ggX3_settle_X1_heightOf
set_option maxRecDepth 20000 in
theorem ggX3_settle_X1_measure : GoodIn wsX3_settle wsX1_measure := goodIn_r _ [15, 16, 17, 18, 19, 20, 21, 22, 23, 14, 24, 25, 26, 27, 28, 29, 30, 31, 32, 33, 34, 55, 56, 57, 58, 59, 60, 61] (by decide +kernel) (by decide +kernel)
set_option maxRecDepth 20000 in
theorem gX3_settle_X1_measure : GoodIn wsX3_settle (wsV RX3 100 RX1 yX1_measure wsX1_measure) := goodIn_app (goodIn_of _ (by decide +kernel)) ggX3_settle_X1_measure
set_option maxRecDepth 20000 in
theorem ggX3_settle_X3_climb : GoodIn wsX3_settle wsX3_climb := goodIn_r _ [46, 5, 3, 1, 47, 48, 49, 50, 11, 12, 13, 14, 15, 16, 17, 18, 19, 20, 21, 22, 23, 24, 25, 26, 27, 28, 29, 30, 31, 32, 33, 34, 35, 36, 37, 38, 39, 40, 41, 42, 51, 52, 53, 54, 55, 56, 57, 58, 59, 60, 61] (by decide +kernel) (by decide +kernel)
set_option maxRecDepth 20000 in
theorem gX3_settle_X3_climb : GoodIn wsX3_settle (wsV RX3 78 RX3 yX3_climb wsX3_climb) := goodIn_app (goodIn_of _ (by decide +kernel)) ggX3_settle_X3_climb
theorem dX3_settle_0 : decode cX3_settle 0 = .ok (.aload_n 0, 1) := by decide +kernel
theorem dX3_settle_1 : decode cX3_settle 1 = .ok (.getfield 12, 3) := by decide +kernel
theorem dX3_settle_4 : decode cX3_settle 4 = .ok (.getfield 32, 3) := by decide +kernel
theorem dX3_settle_7 : decode cX3_settle 7 = .ok (.ifCond .ne 4, 3) := by decide +kernel
theorem dX3_settle_10 : decode cX3_settle 10 = .ok (.return_, 1) := by decide +kernel
theorem dX3_settle_11 : decode cX3_settle 11 = .ok (.aload_n 0, 1) := by decide +kernel
theorem dX3_settle_12 : decode cX3_settle 12 = .ok (.invokevirtual 94, 3) := by decide +kernel
theorem dX3_settle_15 : decode cX3_settle 15 = .ok (.aload_n 0, 1) := by decide +kernel
theorem dX3_settle_16 : decode cX3_settle 16 = .ok (.getfield 29, 3) := by decide +kernel
theorem dX3_settle_19 : decode cX3_settle 19 = .ok (.aload_n 0, 1) := by decide +kernel
theorem dX3_settle_20 : decode cX3_settle 20 = .ok (.getfield 18, 3) := by decide +kernel
theorem dX3_settle_23 : decode cX3_settle 23 = .ok (.iadd, 1) := by decide +kernel
theorem dX3_settle_24 : decode cX3_settle 24 = .ok (.istore_n 1, 1) := by decide +kernel
theorem dX3_settle_25 : decode cX3_settle 25 = .ok (.aload_n 0, 1) := by decide +kernel
theorem dX3_settle_26 : decode cX3_settle 26 = .ok (.getfield 26, 3) := by decide +kernel
theorem dX3_settle_29 : decode cX3_settle 29 = .ok (.iconst 1, 1) := by decide +kernel
theorem dX3_settle_30 : decode cX3_settle 30 = .ok (.iadd, 1) := by decide +kernel
theorem dX3_settle_31 : decode cX3_settle 31 = .ok (.istore_n 2, 1) := by decide +kernel
theorem dX3_settle_32 : decode cX3_settle 32 = .ok (.aload_n 0, 1) := by decide +kernel
theorem dX3_settle_33 : decode cX3_settle 33 = .ok (.getfield 12, 3) := by decide +kernel
theorem dX3_settle_36 : decode cX3_settle 36 = .ok (.aload_n 0, 1) := by decide +kernel
theorem dX3_settle_37 : decode cX3_settle 37 = .ok (.getfield 26, 3) := by decide +kernel
theorem dX3_settle_40 : decode cX3_settle 40 = .ok (.invokevirtual 97, 3) := by decide +kernel
theorem dX3_settle_43 : decode cX3_settle 43 = .ok (.istore_n 3, 1) := by decide +kernel
theorem dX3_settle_44 : decode cX3_settle 44 = .ok (.iload_n 2, 1) := by decide +kernel
theorem dX3_settle_45 : decode cX3_settle 45 = .ok (.aload_n 0, 1) := by decide +kernel
theorem dX3_settle_46 : decode cX3_settle 46 = .ok (.getfield 12, 3) := by decide +kernel
theorem dX3_settle_49 : decode cX3_settle 49 = .ok (.getfield 32, 3) := by decide +kernel
theorem dX3_settle_52 : decode cX3_settle 52 = .ok (.if_icmp .ge 33, 3) := by decide +kernel
theorem dX3_settle_55 : decode cX3_settle 55 = .ok (.iload_n 3, 1) := by decide +kernel
theorem dX3_settle_56 : decode cX3_settle 56 = .ok (.iload_n 1, 1) := by decide +kernel
theorem dX3_settle_57 : decode cX3_settle 57 = .ok (.if_icmp .ge 28, 3) := by decide +kernel
theorem dX3_settle_60 : decode cX3_settle 60 = .ok (.aload_n 0, 1) := by decide +kernel
theorem dX3_settle_61 : decode cX3_settle 61 = .ok (.getfield 12, 3) := by decide +kernel
theorem dX3_settle_64 : decode cX3_settle 64 = .ok (.iload_n 2, 1) := by decide +kernel
theorem dX3_settle_65 : decode cX3_settle 65 = .ok (.invokevirtual 100, 3) := by decide +kernel
theorem dX3_settle_68 : decode cX3_settle 68 = .ok (.iload_n 3, 1) := by decide +kernel
theorem dX3_settle_69 : decode cX3_settle 69 = .ok (.aload_n 0, 1) := by decide +kernel
theorem dX3_settle_70 : decode cX3_settle 70 = .ok (.getfield 12, 3) := by decide +kernel
theorem dX3_settle_73 : decode cX3_settle 73 = .ok (.iload_n 2, 1) := by decide +kernel
theorem dX3_settle_74 : decode cX3_settle 74 = .ok (.invokevirtual 97, 3) := by decide +kernel
theorem dX3_settle_77 : decode cX3_settle 77 = .ok (.iadd, 1) := by decide +kernel
theorem dX3_settle_78 : decode cX3_settle 78 = .ok (.istore_n 3, 1) := by decide +kernel
theorem dX3_settle_79 : decode cX3_settle 79 = .ok (.iinc 2 1, 3) := by decide +kernel
theorem dX3_settle_82 : decode cX3_settle 82 = .ok (.goto (-38), 3) := by decide +kernel
theorem dX3_settle_85 : decode cX3_settle 85 = .ok (.iload_n 2, 1) := by decide +kernel
theorem dX3_settle_86 : decode cX3_settle 86 = .ok (.aload_n 0, 1) := by decide +kernel
theorem dX3_settle_87 : decode cX3_settle 87 = .ok (.getfield 12, 3) := by decide +kernel
theorem dX3_settle_90 : decode cX3_settle 90 = .ok (.getfield 32, 3) := by decide +kernel
theorem dX3_settle_93 : decode cX3_settle 93 = .ok (.if_icmp .lt 24, 3) := by decide +kernel
theorem dX3_settle_96 : decode cX3_settle 96 = .ok (.iload_n 3, 1) := by decide +kernel
theorem dX3_settle_97 : decode cX3_settle 97 = .ok (.iload_n 1, 1) := by decide +kernel
theorem dX3_settle_98 : decode cX3_settle 98 = .ok (.if_icmp .ge 19, 3) := by decide +kernel
theorem dX3_settle_101 : decode cX3_settle 101 = .ok (.aload_n 0, 1) := by decide +kernel
theorem dX3_settle_102 : decode cX3_settle 102 = .ok (.dup, 1) := by decide +kernel
theorem dX3_settle_103 : decode cX3_settle 103 = .ok (.getfield 29, 3) := by decide +kernel
theorem dX3_settle_106 : decode cX3_settle 106 = .ok (.iload_n 1, 1) := by decide +kernel
theorem dX3_settle_107 : decode cX3_settle 107 = .ok (.iload_n 3, 1) := by decide +kernel
theorem dX3_settle_108 : decode cX3_settle 108 = .ok (.isub, 1) := by decide +kernel
theorem dX3_settle_109 : decode cX3_settle 109 = .ok (.isub, 1) := by decide +kernel
theorem dX3_settle_110 : decode cX3_settle 110 = .ok (.putfield 29, 3) := by decide +kernel
theorem dX3_settle_113 : decode cX3_settle 113 = .ok (.aload_n 0, 1) := by decide +kernel
theorem dX3_settle_114 : decode cX3_settle 114 = .ok (.invokevirtual 78, 3) := by decide +kernel
theorem dX3_settle_117 : decode cX3_settle 117 = .ok (.return_, 1) := by decide +kernel
set_option maxRecDepth 20000 in
theorem ggX3_descend_X1_measure : GoodIn wsX3_descend wsX1_measure := goodIn_r _ [9, 10, 11, 12, 13, 14, 15, 16, 17, 8, 18, 19, 20, 21, 22, 23, 24, 25, 26, 27, 28, 41, 42, 43, 44, 45, 46, 47] (by decide +kernel) (by decide +kernel)
set_option maxRecDepth 20000 in
theorem gX3_descend_X1_measure : GoodIn wsX3_descend (wsV RX3 100 RX1 yX1_measure wsX1_measure) := goodIn_app (goodIn_of _ (by decide +kernel)) ggX3_descend_X1_measure
set_option maxRecDepth 20000 in
theorem ggX3_descend_X1_heightOf : GoodIn wsX3_descend wsX1_heightOf := goodIn_r _ [32, 10, 11, 13, 15, 16, 17, 8, 18, 19, 24, 25, 26, 27, 28, 33, 34, 35, 36, 14, 12, 41, 42, 43, 44, 45, 46, 47] (by decide +kernel) (by decide +kernel)
set_option maxRecDepth 20000 in
theorem gX3_descend_X1_heightOf : GoodIn wsX3_descend (wsV RX3 97 RX1 yX1_heightOf wsX1_heightOf) := goodIn_app (goodIn_of _ (by decide +kernel)) ggX3_descend_X1_heightOf
theorem dX3_descend_0 : decode cX3_descend 0 = .ok (.aload_n 0, 1) := by decide +kernel
theorem dX3_descend_1 : decode cX3_descend 1 = .ok (.getfield 12, 3) := by decide +kernel
theorem dX3_descend_4 : decode cX3_descend 4 = .ok (.aload_n 0, 1) := by decide +kernel
theorem dX3_descend_5 : decode cX3_descend 5 = .ok (.getfield 26, 3) := by decide +kernel
theorem dX3_descend_8 : decode cX3_descend 8 = .ok (.invokevirtual 100, 3) := by decide +kernel
theorem dX3_descend_11 : decode cX3_descend 11 = .ok (.aload_n 0, 1) := by decide +kernel
theorem dX3_descend_12 : decode cX3_descend 12 = .ok (.getfield 26, 3) := by decide +kernel
theorem dX3_descend_15 : decode cX3_descend 15 = .ok (.iconst 1, 1) := by decide +kernel
theorem dX3_descend_16 : decode cX3_descend 16 = .ok (.iadd, 1) := by decide +kernel
theorem dX3_descend_17 : decode cX3_descend 17 = .ok (.aload_n 0, 1) := by decide +kernel
theorem dX3_descend_18 : decode cX3_descend 18 = .ok (.getfield 12, 3) := by decide +kernel
theorem dX3_descend_21 : decode cX3_descend 21 = .ok (.getfield 32, 3) := by decide +kernel
theorem dX3_descend_24 : decode cX3_descend 24 = .ok (.if_icmp .ge 65, 3) := by decide +kernel
theorem dX3_descend_27 : decode cX3_descend 27 = .ok (.aload_n 0, 1) := by decide +kernel
theorem dX3_descend_28 : decode cX3_descend 28 = .ok (.getfield 29, 3) := by decide +kernel
theorem dX3_descend_31 : decode cX3_descend 31 = .ok (.aload_n 0, 1) := by decide +kernel
theorem dX3_descend_32 : decode cX3_descend 32 = .ok (.getfield 12, 3) := by decide +kernel
theorem dX3_descend_35 : decode cX3_descend 35 = .ok (.aload_n 0, 1) := by decide +kernel
theorem dX3_descend_36 : decode cX3_descend 36 = .ok (.getfield 26, 3) := by decide +kernel
theorem dX3_descend_39 : decode cX3_descend 39 = .ok (.invokevirtual 97, 3) := by decide +kernel
theorem dX3_descend_42 : decode cX3_descend 42 = .ok (.if_icmp .lt 47, 3) := by decide +kernel
theorem dX3_descend_45 : decode cX3_descend 45 = .ok (.aload_n 0, 1) := by decide +kernel
theorem dX3_descend_46 : decode cX3_descend 46 = .ok (.dup, 1) := by decide +kernel
theorem dX3_descend_47 : decode cX3_descend 47 = .ok (.getfield 29, 3) := by decide +kernel
theorem dX3_descend_50 : decode cX3_descend 50 = .ok (.aload_n 0, 1) := by decide +kernel
theorem dX3_descend_51 : decode cX3_descend 51 = .ok (.getfield 12, 3) := by decide +kernel
theorem dX3_descend_54 : decode cX3_descend 54 = .ok (.aload_n 0, 1) := by decide +kernel
theorem dX3_descend_55 : decode cX3_descend 55 = .ok (.getfield 26, 3) := by decide +kernel
theorem dX3_descend_58 : decode cX3_descend 58 = .ok (.invokevirtual 97, 3) := by decide +kernel
theorem dX3_descend_61 : decode cX3_descend 61 = .ok (.isub, 1) := by decide +kernel
theorem dX3_descend_62 : decode cX3_descend 62 = .ok (.putfield 29, 3) := by decide +kernel
theorem dX3_descend_65 : decode cX3_descend 65 = .ok (.aload_n 0, 1) := by decide +kernel
theorem dX3_descend_66 : decode cX3_descend 66 = .ok (.dup, 1) := by decide +kernel
theorem dX3_descend_67 : decode cX3_descend 67 = .ok (.getfield 26, 3) := by decide +kernel
theorem dX3_descend_70 : decode cX3_descend 70 = .ok (.iconst 1, 1) := by decide +kernel
theorem dX3_descend_71 : decode cX3_descend 71 = .ok (.iadd, 1) := by decide +kernel
theorem dX3_descend_72 : decode cX3_descend 72 = .ok (.putfield 26, 3) := by decide +kernel
theorem dX3_descend_75 : decode cX3_descend 75 = .ok (.aload_n 0, 1) := by decide +kernel
theorem dX3_descend_76 : decode cX3_descend 76 = .ok (.getfield 12, 3) := by decide +kernel
theorem dX3_descend_79 : decode cX3_descend 79 = .ok (.aload_n 0, 1) := by decide +kernel
theorem dX3_descend_80 : decode cX3_descend 80 = .ok (.getfield 26, 3) := by decide +kernel
theorem dX3_descend_83 : decode cX3_descend 83 = .ok (.invokevirtual 100, 3) := by decide +kernel
theorem dX3_descend_86 : decode cX3_descend 86 = .ok (.goto (-75), 3) := by decide +kernel
theorem dX3_descend_89 : decode cX3_descend 89 = .ok (.return_, 1) := by decide +kernel
set_option maxRecDepth 20000 in
theorem ggX3_climb_X1_measure : GoodIn wsX3_climb wsX1_measure := goodIn_r _ [12, 13, 14, 15, 16, 17, 18, 19, 20, 11, 21, 22, 23, 24, 25, 26, 27, 28, 29, 30, 31, 44, 45, 46, 47, 48, 49, 50] (by decide +kernel) (by decide +kernel)
set_option maxRecDepth 20000 in
theorem gX3_climb_X1_measure : GoodIn wsX3_climb (wsV RX3 100 RX1 yX1_measure wsX1_measure) := goodIn_app (goodIn_of _ (by decide +kernel)) ggX3_climb_X1_measure
set_option maxRecDepth 20000 in
theorem ggX3_climb_X1_heightOf : GoodIn wsX3_climb wsX1_heightOf := goodIn_r _ [35, 13, 14, 16, 18, 19, 20, 11, 21, 22, 27, 28, 29, 30, 31, 36, 37, 38, 39, 17, 15, 44, 45, 46, 47, 48, 49, 50] (by decide +kernel) (by decide +kernel)
set_option maxRecDepth 20000 in
theorem gX3_climb_X1_heightOf : GoodIn wsX3_climb (wsV RX3 97 RX1 yX1_heightOf wsX1_heightOf) := goodIn_app (goodIn_of _ (by decide +kernel)) ggX3_climb_X1_heightOf
theorem dX3_climb_0 : decode cX3_climb 0 = .ok (.aload_n 0, 1) := by decide +kernel
theorem dX3_climb_1 : decode cX3_climb 1 = .ok (.getfield 26, 3) := by decide +kernel
theorem dX3_climb_4 : decode cX3_climb 4 = .ok (.ifCond .le 54, 3) := by decide +kernel
theorem dX3_climb_7 : decode cX3_climb 7 = .ok (.aload_n 0, 1) := by decide +kernel
theorem dX3_climb_8 : decode cX3_climb 8 = .ok (.getfield 29, 3) := by decide +kernel
theorem dX3_climb_11 : decode cX3_climb 11 = .ok (.ifCond .ge 47, 3) := by decide +kernel
theorem dX3_climb_14 : decode cX3_climb 14 = .ok (.aload_n 0, 1) := by decide +kernel
theorem dX3_climb_15 : decode cX3_climb 15 = .ok (.dup, 1) := by decide +kernel
theorem dX3_climb_16 : decode cX3_climb 16 = .ok (.getfield 26, 3) := by decide +kernel
theorem dX3_climb_19 : decode cX3_climb 19 = .ok (.iconst 1, 1) := by decide +kernel
theorem dX3_climb_20 : decode cX3_climb 20 = .ok (.isub, 1) := by decide +kernel
theorem dX3_climb_21 : decode cX3_climb 21 = .ok (.putfield 26, 3) := by decide +kernel
theorem dX3_climb_24 : decode cX3_climb 24 = .ok (.aload_n 0, 1) := by decide +kernel
theorem dX3_climb_25 : decode cX3_climb 25 = .ok (.getfield 12, 3) := by decide +kernel
theorem dX3_climb_28 : decode cX3_climb 28 = .ok (.aload_n 0, 1) := by decide +kernel
theorem dX3_climb_29 : decode cX3_climb 29 = .ok (.getfield 26, 3) := by decide +kernel
theorem dX3_climb_32 : decode cX3_climb 32 = .ok (.invokevirtual 100, 3) := by decide +kernel
theorem dX3_climb_35 : decode cX3_climb 35 = .ok (.aload_n 0, 1) := by decide +kernel
theorem dX3_climb_36 : decode cX3_climb 36 = .ok (.dup, 1) := by decide +kernel
theorem dX3_climb_37 : decode cX3_climb 37 = .ok (.getfield 29, 3) := by decide +kernel
theorem dX3_climb_40 : decode cX3_climb 40 = .ok (.aload_n 0, 1) := by decide +kernel
theorem dX3_climb_41 : decode cX3_climb 41 = .ok (.getfield 12, 3) := by decide +kernel
theorem dX3_climb_44 : decode cX3_climb 44 = .ok (.aload_n 0, 1) := by decide +kernel
theorem dX3_climb_45 : decode cX3_climb 45 = .ok (.getfield 26, 3) := by decide +kernel
theorem dX3_climb_48 : decode cX3_climb 48 = .ok (.invokevirtual 97, 3) := by decide +kernel
theorem dX3_climb_51 : decode cX3_climb 51 = .ok (.iadd, 1) := by decide +kernel
theorem dX3_climb_52 : decode cX3_climb 52 = .ok (.putfield 29, 3) := by decide +kernel
theorem dX3_climb_55 : decode cX3_climb 55 = .ok (.goto (-55), 3) := by decide +kernel
theorem dX3_climb_58 : decode cX3_climb 58 = .ok (.aload_n 0, 1) := by decide +kernel
theorem dX3_climb_59 : decode cX3_climb 59 = .ok (.iconst 0, 1) := by decide +kernel
theorem dX3_climb_60 : decode cX3_climb 60 = .ok (.aload_n 0, 1) := by decide +kernel
theorem dX3_climb_61 : decode cX3_climb 61 = .ok (.getfield 29, 3) := by decide +kernel
theorem dX3_climb_64 : decode cX3_climb 64 = .ok (.invokestatic 81, 3) := by decide +kernel
theorem dX3_climb_67 : decode cX3_climb 67 = .ok (.putfield 29, 3) := by decide +kernel
theorem dX3_climb_70 : decode cX3_climb 70 = .ok (.return_, 1) := by decide +kernel
set_option maxRecDepth 20000 in
theorem ggX3_top_X1_topOf : GoodIn wsX3_top wsX1_topOf := goodIn_r _ [8, 9, 10, 11, 12, 7, 13, 14, 15, 16, 17, 18, 19, 20, 21, 22, 23, 24, 25, 26, 27, 28, 29, 30, 31, 36, 37, 38, 39, 40, 41, 42] (by decide +kernel) (by decide +kernel)
set_option maxRecDepth 20000 in
theorem gX3_top_X1_topOf : GoodIn wsX3_top (wsV RX3 91 RX1 yX1_topOf wsX1_topOf) := goodIn_app (goodIn_of _ (by decide +kernel)) ggX3_top_X1_topOf
theorem dX3_top_0 : decode cX3_top 0 = .ok (.aload_n 0, 1) := by decide +kernel
theorem dX3_top_1 : decode cX3_top 1 = .ok (.getfield 12, 3) := by decide +kernel
theorem dX3_top_4 : decode cX3_top 4 = .ok (.aload_n 0, 1) := by decide +kernel
theorem dX3_top_5 : decode cX3_top 5 = .ok (.getfield 26, 3) := by decide +kernel
theorem dX3_top_8 : decode cX3_top 8 = .ok (.invokevirtual 91, 3) := by decide +kernel
theorem dX3_top_11 : decode cX3_top 11 = .ok (.aload_n 0, 1) := by decide +kernel
theorem dX3_top_12 : decode cX3_top 12 = .ok (.getfield 29, 3) := by decide +kernel
theorem dX3_top_15 : decode cX3_top 15 = .ok (.iadd, 1) := by decide +kernel
theorem dX3_top_16 : decode cX3_top 16 = .ok (.ireturn, 1) := by decide +kernel
set_option maxRecDepth 20000 in
theorem ggX3_linesShown_X1_heightOf : GoodIn wsX3_linesShown wsX1_heightOf := goodIn_r _ [10, 11, 12, 13, 14, 15, 16, 9, 17, 18, 19, 20, 21, 22, 23, 24, 25, 26, 27, 28, 29, 34, 35, 36, 37, 38, 39, 40] (by decide +kernel) (by decide +kernel)
set_option maxRecDepth 20000 in
theorem gX3_linesShown_X1_heightOf : GoodIn wsX3_linesShown (wsV RX3 97 RX1 yX1_heightOf wsX1_heightOf) := goodIn_app (goodIn_of _ (by decide +kernel)) ggX3_linesShown_X1_heightOf
theorem dX3_linesShown_0 : decode cX3_linesShown 0 = .ok (.iconst 0, 1) := by decide +kernel
theorem dX3_linesShown_1 : decode cX3_linesShown 1 = .ok (.istore_n 1, 1) := by decide +kernel
theorem dX3_linesShown_2 : decode cX3_linesShown 2 = .ok (.aload_n 0, 1) := by decide +kernel
theorem dX3_linesShown_3 : decode cX3_linesShown 3 = .ok (.getfield 29, 3) := by decide +kernel
theorem dX3_linesShown_6 : decode cX3_linesShown 6 = .ok (.ineg, 1) := by decide +kernel
theorem dX3_linesShown_7 : decode cX3_linesShown 7 = .ok (.istore_n 2, 1) := by decide +kernel
theorem dX3_linesShown_8 : decode cX3_linesShown 8 = .ok (.aload_n 0, 1) := by decide +kernel
theorem dX3_linesShown_9 : decode cX3_linesShown 9 = .ok (.getfield 26, 3) := by decide +kernel
theorem dX3_linesShown_12 : decode cX3_linesShown 12 = .ok (.istore_n 3, 1) := by decide +kernel
theorem dX3_linesShown_13 : decode cX3_linesShown 13 = .ok (.iload_n 3, 1) := by decide +kernel
theorem dX3_linesShown_14 : decode cX3_linesShown 14 = .ok (.aload_n 0, 1) := by decide +kernel
theorem dX3_linesShown_15 : decode cX3_linesShown 15 = .ok (.getfield 12, 3) := by decide +kernel
theorem dX3_linesShown_18 : decode cX3_linesShown 18 = .ok (.getfield 32, 3) := by decide +kernel
theorem dX3_linesShown_21 : decode cX3_linesShown 21 = .ok (.if_icmp .ge 35, 3) := by decide +kernel
theorem dX3_linesShown_24 : decode cX3_linesShown 24 = .ok (.iload_n 2, 1) := by decide +kernel
theorem dX3_linesShown_25 : decode cX3_linesShown 25 = .ok (.aload_n 0, 1) := by decide +kernel
theorem dX3_linesShown_26 : decode cX3_linesShown 26 = .ok (.getfield 18, 3) := by decide +kernel
theorem dX3_linesShown_29 : decode cX3_linesShown 29 = .ok (.if_icmp .ge 27, 3) := by decide +kernel
theorem dX3_linesShown_32 : decode cX3_linesShown 32 = .ok (.iload_n 2, 1) := by decide +kernel
theorem dX3_linesShown_33 : decode cX3_linesShown 33 = .ok (.aload_n 0, 1) := by decide +kernel
theorem dX3_linesShown_34 : decode cX3_linesShown 34 = .ok (.getfield 12, 3) := by decide +kernel
theorem dX3_linesShown_37 : decode cX3_linesShown 37 = .ok (.iload_n 3, 1) := by decide +kernel
theorem dX3_linesShown_38 : decode cX3_linesShown 38 = .ok (.invokevirtual 97, 3) := by decide +kernel
theorem dX3_linesShown_41 : decode cX3_linesShown 41 = .ok (.iadd, 1) := by decide +kernel
theorem dX3_linesShown_42 : decode cX3_linesShown 42 = .ok (.istore_n 2, 1) := by decide +kernel
theorem dX3_linesShown_43 : decode cX3_linesShown 43 = .ok (.iload_n 2, 1) := by decide +kernel
theorem dX3_linesShown_44 : decode cX3_linesShown 44 = .ok (.ifCond .le 6, 3) := by decide +kernel
theorem dX3_linesShown_47 : decode cX3_linesShown 47 = .ok (.iinc 1 1, 3) := by decide +kernel
theorem dX3_linesShown_50 : decode cX3_linesShown 50 = .ok (.iinc 3 1, 3) := by decide +kernel
theorem dX3_linesShown_53 : decode cX3_linesShown 53 = .ok (.goto (-40), 3) := by decide +kernel
theorem dX3_linesShown_56 : decode cX3_linesShown 56 = .ok (.iload_n 1, 1) := by decide +kernel
theorem dX3_linesShown_57 : decode cX3_linesShown 57 = .ok (.ireturn, 1) := by decide +kernel
set_option maxRecDepth 20000 in
theorem ggX4_init_X3_init : GoodIn wsX4_init wsX3_init := goodIn_r _ [19, 20, 2, 3, 21, 22, 23, 24, 25, 26, 27, 28, 29, 30, 31, 32, 33, 34, 35, 36, 37, 69, 70, 71, 72, 73, 74, 75, 52, 53, 54, 55] (by decide +kernel) (by decide +kernel)
set_option maxRecDepth 20000 in
theorem gX4_init_X3_init : GoodIn wsX4_init (wsX3_init) := ggX4_init_X3_init
set_option maxRecDepth 20000 in
theorem ggX4_init_X0_init : GoodIn wsX4_init wsX0_init := goodIn_r _ [40, 41, 2, 3, 42, 43, 5, 6, 44, 18, 19, 20, 21, 22, 23, 24, 25, 26, 27, 28, 29, 30, 31, 32, 33, 34, 35, 36, 37, 60, 61, 62, 52, 53, 54, 55, 69, 70, 71, 72, 73, 74, 75] (by decide +kernel) (by decide +kernel)
set_option maxRecDepth 20000 in
theorem gX4_init_X0_init : GoodIn wsX4_init (wsX0_init) := ggX4_init_X0_init
set_option maxRecDepth 20000 in
theorem ggX4_init_X2_init : GoodIn wsX4_init wsX2_init := goodIn_r _ [47, 48, 2, 3, 49, 50, 30, 51, 63, 64, 65, 66, 67, 68] (by decide +kernel) (by decide +kernel)
set_option maxRecDepth 20000 in
theorem gX4_init_X2_init : GoodIn wsX4_init (wsX2_init) := ggX4_init_X2_init
theorem dX4_init_0 : decode cX4_init 0 = .ok (.aload_n 0, 1) := by decide +kernel
theorem dX4_init_1 : decode cX4_init 1 = .ok (.invokespecial 1, 3) := by decide +kernel
theorem dX4_init_4 : decode cX4_init 4 = .ok (.aload_n 0, 1) := by decide +kernel
theorem dX4_init_5 : decode cX4_init 5 = .ok (.new 7, 3) := by decide +kernel
theorem dX4_init_8 : decode cX4_init 8 = .ok (.dup, 1) := by decide +kernel
theorem dX4_init_9 : decode cX4_init 9 = .ok (.invokespecial 9, 3) := by decide +kernel
theorem dX4_init_12 : decode cX4_init 12 = .ok (.putfield 10, 3) := by decide +kernel
theorem dX4_init_15 : decode cX4_init 15 = .ok (.aload_n 0, 1) := by decide +kernel
theorem dX4_init_16 : decode cX4_init 16 = .ok (.new 7, 3) := by decide +kernel
theorem dX4_init_19 : decode cX4_init 19 = .ok (.dup, 1) := by decide +kernel
theorem dX4_init_20 : decode cX4_init 20 = .ok (.invokespecial 9, 3) := by decide +kernel
theorem dX4_init_23 : decode cX4_init 23 = .ok (.putfield 16, 3) := by decide +kernel
theorem dX4_init_26 : decode cX4_init 26 = .ok (.aload_n 0, 1) := by decide +kernel
theorem dX4_init_27 : decode cX4_init 27 = .ok (.new 19, 3) := by decide +kernel
theorem dX4_init_30 : decode cX4_init 30 = .ok (.dup, 1) := by decide +kernel
theorem dX4_init_31 : decode cX4_init 31 = .ok (.invokespecial 21, 3) := by decide +kernel
theorem dX4_init_34 : decode cX4_init 34 = .ok (.putfield 22, 3) := by decide +kernel
theorem dX4_init_37 : decode cX4_init 37 = .ok (.aload_n 0, 1) := by decide +kernel
theorem dX4_init_38 : decode cX4_init 38 = .ok (.new 26, 3) := by decide +kernel
theorem dX4_init_41 : decode cX4_init 41 = .ok (.dup, 1) := by decide +kernel
theorem dX4_init_42 : decode cX4_init 42 = .ok (.invokespecial 28, 3) := by decide +kernel
theorem dX4_init_45 : decode cX4_init 45 = .ok (.putfield 29, 3) := by decide +kernel
theorem dX4_init_48 : decode cX4_init 48 = .ok (.return_, 1) := by decide +kernel
set_option maxRecDepth 20000 in
theorem ggX4_put_X3_copyFrom : GoodIn wsX4_put wsX3_copyFrom := goodIn_r _ [7, 8, 9, 10, 11, 12, 13, 14, 15, 16, 17, 18, 19, 20, 21, 22, 23, 24, 25, 26, 27, 117, 118, 119, 120, 121, 122, 123, 124, 125, 126, 127] (by decide +kernel) (by decide +kernel)
set_option maxRecDepth 20000 in
theorem gX4_put_X3_copyFrom : GoodIn wsX4_put (wsV RX4 33 RX3 yX3_copyFrom wsX3_copyFrom) := goodIn_app (goodIn_of _ (by decide +kernel)) ggX4_put_X3_copyFrom
set_option maxRecDepth 20000 in
theorem ggX4_put_X3_putIn : GoodIn wsX4_put wsX3_putIn := goodIn_r _ [31, 8, 32, 33, 34, 10, 35, 36, 37, 38, 39, 40, 15, 41, 42, 43, 44, 45, 26, 17, 18, 19, 20, 21, 22, 23, 46, 47, 48, 6, 49, 11, 9, 50, 51, 52, 53, 54, 55, 56, 57, 24, 25, 58, 59, 60, 61, 62, 63, 64, 65, 66, 27, 67, 68, 69, 70, 71, 72, 73, 74, 75, 76, 77, 78, 79, 80, 81, 82, 83, 84, 85, 86, 87, 88, 89, 90, 91, 117, 118, 119, 120, 121, 122, 123, 124, 125, 126, 127] (by decide +kernel) (by decide +kernel)
set_option maxRecDepth 20000 in
theorem gX4_put_X3_putIn : GoodIn wsX4_put (wsV RX4 37 RX3 yX3_putIn wsX3_putIn) := goodIn_app (goodIn_of _ (by decide +kernel)) ggX4_put_X3_putIn
set_option maxRecDepth 20000 in
theorem ggX4_put_X4_keepDraft : GoodIn wsX4_put wsX4_keepDraft := goodIn_r _ [95, 96, 2, 1, 97, 98, 99, 100, 101, 102, 103, 104, 105, 81, 106, 107, 108, 109, 110, 111, 112, 4, 5, 6, 7, 8, 9, 10, 11, 12, 13, 14, 15, 16, 17, 18, 19, 20, 21, 22, 23, 24, 25, 26, 27, 3, 113, 114, 115, 116, 128, 129, 130, 117, 118, 119, 120, 121, 122, 123, 124, 125, 126, 127] (by decide +kernel) (by decide +kernel)
set_option maxRecDepth 20000 in
theorem gX4_put_X4_keepDraft : GoodIn wsX4_put (wsV RX4 41 RX4 yX4_keepDraft wsX4_keepDraft) := goodIn_app (goodIn_of _ (by decide +kernel)) ggX4_put_X4_keepDraft
theorem dX4_put_0 : decode cX4_put 0 = .ok (.aload_n 0, 1) := by decide +kernel
theorem dX4_put_1 : decode cX4_put 1 = .ok (.getfield 16, 3) := by decide +kernel
theorem dX4_put_4 : decode cX4_put 4 = .ok (.aload_n 0, 1) := by decide +kernel
theorem dX4_put_5 : decode cX4_put 5 = .ok (.getfield 10, 3) := by decide +kernel
theorem dX4_put_8 : decode cX4_put 8 = .ok (.invokevirtual 33, 3) := by decide +kernel
theorem dX4_put_11 : decode cX4_put 11 = .ok (.aload_n 0, 1) := by decide +kernel
theorem dX4_put_12 : decode cX4_put 12 = .ok (.aload_n 0, 1) := by decide +kernel
theorem dX4_put_13 : decode cX4_put 13 = .ok (.getfield 16, 3) := by decide +kernel
theorem dX4_put_16 : decode cX4_put 16 = .ok (.iload_n 1, 1) := by decide +kernel
theorem dX4_put_17 : decode cX4_put 17 = .ok (.iload_n 2, 1) := by decide +kernel
theorem dX4_put_18 : decode cX4_put 18 = .ok (.iload_n 3, 1) := by decide +kernel
theorem dX4_put_19 : decode cX4_put 19 = .ok (.invokevirtual 37, 3) := by decide +kernel
theorem dX4_put_22 : decode cX4_put 22 = .ok (.invokevirtual 41, 3) := by decide +kernel
theorem dX4_put_25 : decode cX4_put 25 = .ok (.ireturn, 1) := by decide +kernel
set_option maxRecDepth 20000 in
theorem ggX4_cut_X3_copyFrom : GoodIn wsX4_cut wsX3_copyFrom := goodIn_r _ [7, 8, 9, 10, 11, 12, 13, 14, 15, 16, 17, 18, 19, 20, 21, 22, 23, 24, 25, 26, 27, 109, 110, 111, 112, 113, 114, 115, 116, 117, 118, 119] (by decide +kernel) (by decide +kernel)
set_option maxRecDepth 20000 in
theorem gX4_cut_X3_copyFrom : GoodIn wsX4_cut (wsV RX4 33 RX3 yX3_copyFrom wsX3_copyFrom) := goodIn_app (goodIn_of _ (by decide +kernel)) ggX4_cut_X3_copyFrom
set_option maxRecDepth 20000 in
theorem ggX4_cut_X3_takeOut : GoodIn wsX4_cut wsX3_takeOut := goodIn_r _ [31, 8, 32, 33, 10, 11, 34, 35, 36, 15, 37, 26, 38, 39, 40, 41, 17, 18, 19, 20, 21, 22, 23, 42, 43, 44, 45, 46, 24, 25, 47, 48, 49, 50, 51, 52, 53, 54, 27, 55, 56, 57, 6, 58, 9, 59, 60, 61, 62, 63, 64, 65, 66, 67, 68, 69, 70, 71, 72, 73, 74, 75, 76, 77, 78, 79, 80, 81, 82, 109, 110, 111, 112, 113, 114, 115, 116, 117, 118, 119] (by decide +kernel) (by decide +kernel)
set_option maxRecDepth 20000 in
theorem gX4_cut_X3_takeOut : GoodIn wsX4_cut (wsV RX4 45 RX3 yX3_takeOut wsX3_takeOut) := goodIn_app (goodIn_of _ (by decide +kernel)) ggX4_cut_X3_takeOut
set_option maxRecDepth 20000 in
theorem ggX4_cut_X4_keepDraft : GoodIn wsX4_cut wsX4_keepDraft := goodIn_r _ [87, 88, 2, 1, 89, 90, 91, 92, 93, 94, 95, 96, 97, 81, 98, 99, 100, 101, 102, 103, 104, 4, 5, 6, 7, 8, 9, 10, 11, 12, 13, 14, 15, 16, 17, 18, 19, 20, 21, 22, 23, 24, 25, 26, 27, 3, 105, 106, 107, 108, 120, 121, 122, 109, 110, 111, 112, 113, 114, 115, 116, 117, 118, 119] (by decide +kernel) (by decide +kernel)
set_option maxRecDepth 20000 in
theorem gX4_cut_X4_keepDraft : GoodIn wsX4_cut (wsV RX4 41 RX4 yX4_keepDraft wsX4_keepDraft) := goodIn_app (goodIn_of _ (by decide +kernel)) ggX4_cut_X4_keepDraft
theorem dX4_cut_0 : decode cX4_cut 0 = .ok (.aload_n 0, 1) := by decide +kernel
theorem dX4_cut_1 : decode cX4_cut 1 = .ok (.getfield 16, 3) := by decide +kernel
theorem dX4_cut_4 : decode cX4_cut 4 = .ok (.aload_n 0, 1) := by decide +kernel
theorem dX4_cut_5 : decode cX4_cut 5 = .ok (.getfield 10, 3) := by decide +kernel
theorem dX4_cut_8 : decode cX4_cut 8 = .ok (.invokevirtual 33, 3) := by decide +kernel
theorem dX4_cut_11 : decode cX4_cut 11 = .ok (.aload_n 0, 1) := by decide +kernel
theorem dX4_cut_12 : decode cX4_cut 12 = .ok (.aload_n 0, 1) := by decide +kernel
theorem dX4_cut_13 : decode cX4_cut 13 = .ok (.getfield 16, 3) := by decide +kernel
theorem dX4_cut_16 : decode cX4_cut 16 = .ok (.iload_n 1, 1) := by decide +kernel
theorem dX4_cut_17 : decode cX4_cut 17 = .ok (.invokevirtual 45, 3) := by decide +kernel
theorem dX4_cut_20 : decode cX4_cut 20 = .ok (.invokevirtual 41, 3) := by decide +kernel
theorem dX4_cut_23 : decode cX4_cut 23 = .ok (.ireturn, 1) := by decide +kernel
set_option maxRecDepth 20000 in
theorem ggX4_change_X3_copyFrom : GoodIn wsX4_change wsX3_copyFrom := goodIn_r _ [7, 8, 9, 10, 11, 12, 13, 14, 15, 16, 17, 18, 19, 20, 21, 22, 23, 24, 25, 26, 27, 112, 113, 114, 115, 116, 117, 118, 119, 120, 121, 122] (by decide +kernel) (by decide +kernel)
set_option maxRecDepth 20000 in
theorem gX4_change_X3_copyFrom : GoodIn wsX4_change (wsV RX4 33 RX3 yX3_copyFrom wsX3_copyFrom) := goodIn_app (goodIn_of _ (by decide +kernel)) ggX4_change_X3_copyFrom
set_option maxRecDepth 20000 in
theorem ggX4_change_X3_changeLength : GoodIn wsX4_change wsX3_changeLength := goodIn_r _ [31, 8, 32, 33, 34, 35, 36, 15, 37, 26, 38, 39, 40, 41, 42, 43, 44, 22, 45, 46, 47, 48, 49, 23, 17, 24, 25, 50, 51, 52, 53, 54, 55, 56, 57, 27, 58, 59, 60, 6, 61, 62, 11, 9, 10, 63, 64, 65, 66, 67, 68, 69, 70, 71, 72, 73, 74, 75, 76, 77, 78, 79, 80, 81, 82, 83, 84, 85, 86, 112, 113, 114, 115, 116, 117, 118, 119, 120, 121, 122] (by decide +kernel) (by decide +kernel)
set_option maxRecDepth 20000 in
theorem gX4_change_X3_changeLength : GoodIn wsX4_change (wsV RX4 48 RX3 yX3_changeLength wsX3_changeLength) := goodIn_app (goodIn_of _ (by decide +kernel)) ggX4_change_X3_changeLength
set_option maxRecDepth 20000 in
theorem ggX4_change_X4_keepDraft : GoodIn wsX4_change wsX4_keepDraft := goodIn_r _ [90, 91, 2, 1, 92, 93, 94, 95, 96, 97, 98, 99, 100, 85, 101, 102, 103, 104, 105, 106, 107, 4, 5, 6, 7, 8, 9, 10, 11, 12, 13, 14, 15, 16, 17, 18, 19, 20, 21, 22, 23, 24, 25, 26, 27, 3, 108, 109, 110, 111, 123, 124, 125, 112, 113, 114, 115, 116, 117, 118, 119, 120, 121, 122] (by decide +kernel) (by decide +kernel)
set_option maxRecDepth 20000 in
theorem gX4_change_X4_keepDraft : GoodIn wsX4_change (wsV RX4 41 RX4 yX4_keepDraft wsX4_keepDraft) := goodIn_app (goodIn_of _ (by decide +kernel)) ggX4_change_X4_keepDraft
theorem dX4_change_0 : decode cX4_change 0 = .ok (.aload_n 0, 1) := by decide +kernel
theorem dX4_change_1 : decode cX4_change 1 = .ok (.getfield 16, 3) := by decide +kernel
theorem dX4_change_4 : decode cX4_change 4 = .ok (.aload_n 0, 1) := by decide +kernel
theorem dX4_change_5 : decode cX4_change 5 = .ok (.getfield 10, 3) := by decide +kernel
theorem dX4_change_8 : decode cX4_change 8 = .ok (.invokevirtual 33, 3) := by decide +kernel
theorem dX4_change_11 : decode cX4_change 11 = .ok (.aload_n 0, 1) := by decide +kernel
theorem dX4_change_12 : decode cX4_change 12 = .ok (.aload_n 0, 1) := by decide +kernel
theorem dX4_change_13 : decode cX4_change 13 = .ok (.getfield 16, 3) := by decide +kernel
theorem dX4_change_16 : decode cX4_change 16 = .ok (.iload_n 1, 1) := by decide +kernel
theorem dX4_change_17 : decode cX4_change 17 = .ok (.iload_n 2, 1) := by decide +kernel
theorem dX4_change_18 : decode cX4_change 18 = .ok (.invokevirtual 48, 3) := by decide +kernel
theorem dX4_change_21 : decode cX4_change 21 = .ok (.invokevirtual 41, 3) := by decide +kernel
theorem dX4_change_24 : decode cX4_change 24 = .ok (.ireturn, 1) := by decide +kernel
set_option maxRecDepth 20000 in
theorem ggX4_setHeight_X3_copyFrom : GoodIn wsX4_setHeight wsX3_copyFrom := goodIn_r _ [7, 8, 9, 10, 11, 12, 13, 14, 15, 16, 17, 18, 19, 20, 21, 22, 23, 24, 25, 26, 27, 102, 103, 104, 105, 106, 107, 108, 109, 110, 111, 112] (by decide +kernel) (by decide +kernel)
set_option maxRecDepth 20000 in
theorem gX4_setHeight_X3_copyFrom : GoodIn wsX4_setHeight (wsV RX4 33 RX3 yX3_copyFrom wsX3_copyFrom) := goodIn_app (goodIn_of _ (by decide +kernel)) ggX4_setHeight_X3_copyFrom
set_option maxRecDepth 20000 in
theorem ggX4_setHeight_X3_changeHeight : GoodIn wsX4_setHeight wsX3_changeHeight := goodIn_r _ [31, 32, 9, 33, 34, 35, 36, 37, 38, 6, 39, 8, 40, 11, 10, 41, 42, 43, 44, 45, 46, 47, 15, 48, 23, 17, 24, 22, 25, 49, 50, 51, 52, 26, 53, 54, 55, 56, 57, 58, 59, 60, 27, 61, 62, 63, 64, 65, 66, 67, 68, 69, 70, 71, 72, 73, 74, 75, 76, 102, 103, 104, 105, 106, 107, 108, 109, 110, 111, 112] (by decide +kernel) (by decide +kernel)
set_option maxRecDepth 20000 in
theorem gX4_setHeight_X3_changeHeight : GoodIn wsX4_setHeight (wsV RX4 52 RX3 yX3_changeHeight wsX3_changeHeight) := goodIn_app (goodIn_of _ (by decide +kernel)) ggX4_setHeight_X3_changeHeight
set_option maxRecDepth 20000 in
theorem ggX4_setHeight_X4_keepDraft : GoodIn wsX4_setHeight wsX4_keepDraft := goodIn_r _ [80, 81, 2, 1, 82, 83, 84, 85, 86, 87, 88, 89, 90, 75, 91, 92, 93, 94, 95, 96, 97, 4, 5, 6, 7, 8, 9, 10, 11, 12, 13, 14, 15, 16, 17, 18, 19, 20, 21, 22, 23, 24, 25, 26, 27, 3, 98, 99, 100, 101, 113, 114, 115, 102, 103, 104, 105, 106, 107, 108, 109, 110, 111, 112] (by decide +kernel) (by decide +kernel)
set_option maxRecDepth 20000 in
theorem gX4_setHeight_X4_keepDraft : GoodIn wsX4_setHeight (wsV RX4 41 RX4 yX4_keepDraft wsX4_keepDraft) := goodIn_app (goodIn_of _ (by decide +kernel)) ggX4_setHeight_X4_keepDraft
theorem dX4_setHeight_0 : decode cX4_setHeight 0 = .ok (.aload_n 0, 1) := by decide +kernel
theorem dX4_setHeight_1 : decode cX4_setHeight 1 = .ok (.getfield 16, 3) := by decide +kernel
theorem dX4_setHeight_4 : decode cX4_setHeight 4 = .ok (.aload_n 0, 1) := by decide +kernel
theorem dX4_setHeight_5 : decode cX4_setHeight 5 = .ok (.getfield 10, 3) := by decide +kernel
theorem dX4_setHeight_8 : decode cX4_setHeight 8 = .ok (.invokevirtual 33, 3) := by decide +kernel
theorem dX4_setHeight_11 : decode cX4_setHeight 11 = .ok (.aload_n 0, 1) := by decide +kernel
theorem dX4_setHeight_12 : decode cX4_setHeight 12 = .ok (.aload_n 0, 1) := by decide +kernel
theorem dX4_setHeight_13 : decode cX4_setHeight 13 = .ok (.getfield 16, 3) := by decide +kernel
theorem dX4_setHeight_16 : decode cX4_setHeight 16 = .ok (.iload_n 1, 1) := by decide +kernel
theorem dX4_setHeight_17 : decode cX4_setHeight 17 = .ok (.invokevirtual 52, 3) := by decide +kernel
theorem dX4_setHeight_20 : decode cX4_setHeight 20 = .ok (.invokevirtual 41, 3) := by decide +kernel
theorem dX4_setHeight_23 : decode cX4_setHeight 23 = .ok (.ireturn, 1) := by decide +kernel
set_option maxRecDepth 20000 in
theorem ggX4_setWidth_X3_copyFrom : GoodIn wsX4_setWidth wsX3_copyFrom := goodIn_r _ [7, 8, 9, 10, 11, 12, 13, 14, 15, 16, 17, 18, 19, 20, 21, 22, 23, 24, 25, 26, 27, 111, 112, 113, 114, 115, 116, 117, 118, 119, 120, 121] (by decide +kernel) (by decide +kernel)
set_option maxRecDepth 20000 in
theorem gX4_setWidth_X3_copyFrom : GoodIn wsX4_setWidth (wsV RX4 33 RX3 yX3_copyFrom wsX3_copyFrom) := goodIn_app (goodIn_of _ (by decide +kernel)) ggX4_setWidth_X3_copyFrom
set_option maxRecDepth 20000 in
theorem ggX4_setWidth_X3_changeWidth : GoodIn wsX4_setWidth wsX3_changeWidth := goodIn_r _ [31, 32, 8, 33, 34, 35, 36, 37, 38, 39, 15, 40, 26, 27, 41, 42, 43, 44, 23, 17, 24, 22, 25, 45, 46, 47, 48, 49, 50, 51, 52, 53, 54, 55, 56, 57, 58, 59, 6, 60, 61, 11, 9, 10, 62, 63, 64, 65, 66, 67, 68, 69, 70, 71, 72, 73, 74, 75, 76, 77, 78, 79, 80, 81, 82, 83, 84, 85, 111, 112, 113, 114, 115, 116, 117, 118, 119, 120, 121] (by decide +kernel) (by decide +kernel)
set_option maxRecDepth 20000 in
theorem gX4_setWidth_X3_changeWidth : GoodIn wsX4_setWidth (wsV RX4 55 RX3 yX3_changeWidth wsX3_changeWidth) := goodIn_app (goodIn_of _ (by decide +kernel)) ggX4_setWidth_X3_changeWidth
set_option maxRecDepth 20000 in
theorem ggX4_setWidth_X4_keepDraft : GoodIn wsX4_setWidth wsX4_keepDraft := goodIn_r _ [89, 90, 2, 1, 91, 92, 93, 94, 95, 96, 97, 98, 99, 84, 100, 101, 102, 103, 104, 105, 106, 4, 5, 6, 7, 8, 9, 10, 11, 12, 13, 14, 15, 16, 17, 18, 19, 20, 21, 22, 23, 24, 25, 26, 27, 3, 107, 108, 109, 110, 122, 123, 124, 111, 112, 113, 114, 115, 116, 117, 118, 119, 120, 121] (by decide +kernel) (by decide +kernel)
set_option maxRecDepth 20000 in
theorem gX4_setWidth_X4_keepDraft : GoodIn wsX4_setWidth (wsV RX4 41 RX4 yX4_keepDraft wsX4_keepDraft) := goodIn_app (goodIn_of _ (by decide +kernel)) ggX4_setWidth_X4_keepDraft
theorem dX4_setWidth_0 : decode cX4_setWidth 0 = .ok (.aload_n 0, 1) := by decide +kernel
theorem dX4_setWidth_1 : decode cX4_setWidth 1 = .ok (.getfield 16, 3) := by decide +kernel
theorem dX4_setWidth_4 : decode cX4_setWidth 4 = .ok (.aload_n 0, 1) := by decide +kernel
theorem dX4_setWidth_5 : decode cX4_setWidth 5 = .ok (.getfield 10, 3) := by decide +kernel
theorem dX4_setWidth_8 : decode cX4_setWidth 8 = .ok (.invokevirtual 33, 3) := by decide +kernel
theorem dX4_setWidth_11 : decode cX4_setWidth 11 = .ok (.aload_n 0, 1) := by decide +kernel
theorem dX4_setWidth_12 : decode cX4_setWidth 12 = .ok (.aload_n 0, 1) := by decide +kernel
theorem dX4_setWidth_13 : decode cX4_setWidth 13 = .ok (.getfield 16, 3) := by decide +kernel
theorem dX4_setWidth_16 : decode cX4_setWidth 16 = .ok (.iload_n 1, 1) := by decide +kernel
theorem dX4_setWidth_17 : decode cX4_setWidth 17 = .ok (.invokevirtual 55, 3) := by decide +kernel
theorem dX4_setWidth_20 : decode cX4_setWidth 20 = .ok (.invokevirtual 41, 3) := by decide +kernel
theorem dX4_setWidth_23 : decode cX4_setWidth 23 = .ok (.ireturn, 1) := by decide +kernel
set_option maxRecDepth 20000 in
theorem ggX4_scroll_X3_copyFrom : GoodIn wsX4_scroll wsX3_copyFrom := goodIn_r _ [7, 8, 9, 10, 11, 12, 13, 14, 15, 16, 17, 18, 19, 20, 21, 22, 23, 24, 25, 26, 27, 103, 104, 105, 106, 107, 108, 109, 110, 111, 112, 113] (by decide +kernel) (by decide +kernel)
set_option maxRecDepth 20000 in
theorem gX4_scroll_X3_copyFrom : GoodIn wsX4_scroll (wsV RX4 33 RX3 yX3_copyFrom wsX3_copyFrom) := goodIn_app (goodIn_of _ (by decide +kernel)) ggX4_scroll_X3_copyFrom
set_option maxRecDepth 20000 in
theorem ggX4_scroll_X3_moveBy : GoodIn wsX4_scroll wsX3_moveBy := goodIn_r _ [31, 32, 8, 33, 34, 11, 10, 35, 36, 37, 38, 39, 40, 6, 41, 42, 43, 44, 45, 46, 47, 48, 15, 49, 23, 17, 24, 22, 25, 50, 51, 52, 53, 26, 54, 55, 56, 57, 58, 59, 60, 61, 27, 62, 63, 64, 65, 66, 67, 68, 69, 70, 71, 72, 73, 9, 74, 75, 76, 77, 103, 104, 105, 106, 107, 108, 109, 110, 111, 112, 113] (by decide +kernel) (by decide +kernel)
set_option maxRecDepth 20000 in
theorem gX4_scroll_X3_moveBy : GoodIn wsX4_scroll (wsV RX4 58 RX3 yX3_moveBy wsX3_moveBy) := goodIn_app (goodIn_of _ (by decide +kernel)) ggX4_scroll_X3_moveBy
set_option maxRecDepth 20000 in
theorem ggX4_scroll_X4_keepDraft : GoodIn wsX4_scroll wsX4_keepDraft := goodIn_r _ [81, 82, 2, 1, 83, 84, 85, 86, 87, 88, 89, 90, 91, 44, 92, 93, 94, 95, 96, 97, 98, 4, 5, 6, 7, 8, 9, 10, 11, 12, 13, 14, 15, 16, 17, 18, 19, 20, 21, 22, 23, 24, 25, 26, 27, 3, 99, 100, 101, 102, 114, 115, 116, 103, 104, 105, 106, 107, 108, 109, 110, 111, 112, 113] (by decide +kernel) (by decide +kernel)
set_option maxRecDepth 20000 in
theorem gX4_scroll_X4_keepDraft : GoodIn wsX4_scroll (wsV RX4 41 RX4 yX4_keepDraft wsX4_keepDraft) := goodIn_app (goodIn_of _ (by decide +kernel)) ggX4_scroll_X4_keepDraft
theorem dX4_scroll_0 : decode cX4_scroll 0 = .ok (.aload_n 0, 1) := by decide +kernel
theorem dX4_scroll_1 : decode cX4_scroll 1 = .ok (.getfield 16, 3) := by decide +kernel
theorem dX4_scroll_4 : decode cX4_scroll 4 = .ok (.aload_n 0, 1) := by decide +kernel
theorem dX4_scroll_5 : decode cX4_scroll 5 = .ok (.getfield 10, 3) := by decide +kernel
theorem dX4_scroll_8 : decode cX4_scroll 8 = .ok (.invokevirtual 33, 3) := by decide +kernel
theorem dX4_scroll_11 : decode cX4_scroll 11 = .ok (.aload_n 0, 1) := by decide +kernel
theorem dX4_scroll_12 : decode cX4_scroll 12 = .ok (.aload_n 0, 1) := by decide +kernel
theorem dX4_scroll_13 : decode cX4_scroll 13 = .ok (.getfield 16, 3) := by decide +kernel
theorem dX4_scroll_16 : decode cX4_scroll 16 = .ok (.iload_n 1, 1) := by decide +kernel
theorem dX4_scroll_17 : decode cX4_scroll 17 = .ok (.invokevirtual 58, 3) := by decide +kernel
theorem dX4_scroll_20 : decode cX4_scroll 20 = .ok (.invokevirtual 41, 3) := by decide +kernel
theorem dX4_scroll_23 : decode cX4_scroll 23 = .ok (.ireturn, 1) := by decide +kernel
set_option maxRecDepth 20000 in
theorem ggX4_jump_X3_copyFrom : GoodIn wsX4_jump wsX3_copyFrom := goodIn_r _ [7, 8, 9, 10, 11, 12, 13, 14, 15, 16, 17, 18, 19, 20, 21, 22, 23, 24, 25, 26, 27, 118, 119, 120, 121, 122, 123, 124, 125, 126, 127, 128] (by decide +kernel) (by decide +kernel)
set_option maxRecDepth 20000 in
theorem gX4_jump_X3_copyFrom : GoodIn wsX4_jump (wsV RX4 33 RX3 yX3_copyFrom wsX3_copyFrom) := goodIn_app (goodIn_of _ (by decide +kernel)) ggX4_jump_X3_copyFrom
set_option maxRecDepth 20000 in
theorem ggX4_jump_X3_moveToShare : GoodIn wsX4_jump wsX3_moveToShare := goodIn_r _ [31, 32, 8, 33, 34, 9, 35, 36, 37, 38, 10, 11, 39, 40, 41, 42, 43, 44, 15, 45, 26, 46, 47, 48, 49, 50, 51, 52, 53, 23, 17, 22, 54, 55, 56, 57, 58, 59, 60, 61, 27, 62, 63, 64, 65, 25, 24, 66, 67, 68, 69, 70, 71, 72, 73, 74, 6, 75, 76, 77, 78, 79, 80, 81, 82, 83, 84, 85, 86, 87, 88, 89, 90, 91, 92, 118, 119, 120, 121, 122, 123, 124, 125, 126, 127, 128] (by decide +kernel) (by decide +kernel)
set_option maxRecDepth 20000 in
theorem gX4_jump_X3_moveToShare : GoodIn wsX4_jump (wsV RX4 61 RX3 yX3_moveToShare wsX3_moveToShare) := goodIn_app (goodIn_of _ (by decide +kernel)) ggX4_jump_X3_moveToShare
set_option maxRecDepth 20000 in
theorem ggX4_jump_X4_keepDraft : GoodIn wsX4_jump wsX4_keepDraft := goodIn_r _ [96, 97, 2, 1, 98, 99, 100, 101, 102, 103, 104, 105, 106, 37, 107, 108, 109, 110, 111, 112, 113, 4, 5, 6, 7, 8, 9, 10, 11, 12, 13, 14, 15, 16, 17, 18, 19, 20, 21, 22, 23, 24, 25, 26, 27, 3, 114, 115, 116, 117, 129, 130, 131, 118, 119, 120, 121, 122, 123, 124, 125, 126, 127, 128] (by decide +kernel) (by decide +kernel)
set_option maxRecDepth 20000 in
theorem gX4_jump_X4_keepDraft : GoodIn wsX4_jump (wsV RX4 41 RX4 yX4_keepDraft wsX4_keepDraft) := goodIn_app (goodIn_of _ (by decide +kernel)) ggX4_jump_X4_keepDraft
theorem dX4_jump_0 : decode cX4_jump 0 = .ok (.aload_n 0, 1) := by decide +kernel
theorem dX4_jump_1 : decode cX4_jump 1 = .ok (.getfield 16, 3) := by decide +kernel
theorem dX4_jump_4 : decode cX4_jump 4 = .ok (.aload_n 0, 1) := by decide +kernel
theorem dX4_jump_5 : decode cX4_jump 5 = .ok (.getfield 10, 3) := by decide +kernel
theorem dX4_jump_8 : decode cX4_jump 8 = .ok (.invokevirtual 33, 3) := by decide +kernel
theorem dX4_jump_11 : decode cX4_jump 11 = .ok (.aload_n 0, 1) := by decide +kernel
theorem dX4_jump_12 : decode cX4_jump 12 = .ok (.aload_n 0, 1) := by decide +kernel
theorem dX4_jump_13 : decode cX4_jump 13 = .ok (.getfield 16, 3) := by decide +kernel
theorem dX4_jump_16 : decode cX4_jump 16 = .ok (.iload_n 1, 1) := by decide +kernel
theorem dX4_jump_17 : decode cX4_jump 17 = .ok (.invokevirtual 61, 3) := by decide +kernel
theorem dX4_jump_20 : decode cX4_jump 20 = .ok (.invokevirtual 41, 3) := by decide +kernel
theorem dX4_jump_23 : decode cX4_jump 23 = .ok (.ireturn, 1) := by decide +kernel
set_option maxRecDepth 20000 in
theorem ggX4_goTo_X3_copyFrom : GoodIn wsX4_goTo wsX3_copyFrom := goodIn_r _ [7, 8, 9, 10, 11, 12, 13, 14, 15, 16, 17, 18, 19, 20, 21, 22, 23, 24, 25, 26, 27, 101, 102, 103, 104, 105, 106, 107, 108, 109, 110, 111] (by decide +kernel) (by decide +kernel)
set_option maxRecDepth 20000 in
theorem gX4_goTo_X3_copyFrom : GoodIn wsX4_goTo (wsV RX4 33 RX3 yX3_copyFrom wsX3_copyFrom) := goodIn_app (goodIn_of _ (by decide +kernel)) ggX4_goTo_X3_copyFrom
set_option maxRecDepth 20000 in
theorem ggX4_goTo_X3_moveToLine : GoodIn wsX4_goTo wsX3_moveToLine := goodIn_r _ [31, 8, 32, 10, 11, 33, 34, 35, 15, 36, 26, 37, 38, 39, 6, 40, 41, 9, 42, 43, 44, 45, 46, 47, 48, 49, 23, 17, 24, 22, 25, 50, 51, 52, 53, 54, 55, 56, 57, 58, 27, 59, 60, 61, 62, 63, 64, 65, 66, 67, 68, 69, 70, 71, 72, 73, 74, 101, 102, 103, 104, 105, 106, 107, 108, 109, 110, 111] (by decide +kernel) (by decide +kernel)
set_option maxRecDepth 20000 in
theorem gX4_goTo_X3_moveToLine : GoodIn wsX4_goTo (wsV RX4 64 RX3 yX3_moveToLine wsX3_moveToLine) := goodIn_app (goodIn_of _ (by decide +kernel)) ggX4_goTo_X3_moveToLine
set_option maxRecDepth 20000 in
theorem ggX4_goTo_X4_keepDraft : GoodIn wsX4_goTo wsX4_keepDraft := goodIn_r _ [79, 80, 2, 1, 81, 82, 83, 84, 85, 86, 87, 88, 89, 73, 90, 91, 92, 93, 94, 95, 96, 4, 5, 6, 7, 8, 9, 10, 11, 12, 13, 14, 15, 16, 17, 18, 19, 20, 21, 22, 23, 24, 25, 26, 27, 3, 97, 98, 99, 100, 112, 113, 114, 101, 102, 103, 104, 105, 106, 107, 108, 109, 110, 111] (by decide +kernel) (by decide +kernel)
set_option maxRecDepth 20000 in
theorem gX4_goTo_X4_keepDraft : GoodIn wsX4_goTo (wsV RX4 41 RX4 yX4_keepDraft wsX4_keepDraft) := goodIn_app (goodIn_of _ (by decide +kernel)) ggX4_goTo_X4_keepDraft
theorem dX4_goTo_0 : decode cX4_goTo 0 = .ok (.aload_n 0, 1) := by decide +kernel
theorem dX4_goTo_1 : decode cX4_goTo 1 = .ok (.getfield 16, 3) := by decide +kernel
theorem dX4_goTo_4 : decode cX4_goTo 4 = .ok (.aload_n 0, 1) := by decide +kernel
theorem dX4_goTo_5 : decode cX4_goTo 5 = .ok (.getfield 10, 3) := by decide +kernel
theorem dX4_goTo_8 : decode cX4_goTo 8 = .ok (.invokevirtual 33, 3) := by decide +kernel
theorem dX4_goTo_11 : decode cX4_goTo 11 = .ok (.aload_n 0, 1) := by decide +kernel
theorem dX4_goTo_12 : decode cX4_goTo 12 = .ok (.aload_n 0, 1) := by decide +kernel
theorem dX4_goTo_13 : decode cX4_goTo 13 = .ok (.getfield 16, 3) := by decide +kernel
theorem dX4_goTo_16 : decode cX4_goTo 16 = .ok (.iload_n 1, 1) := by decide +kernel
theorem dX4_goTo_17 : decode cX4_goTo 17 = .ok (.invokevirtual 64, 3) := by decide +kernel
theorem dX4_goTo_20 : decode cX4_goTo 20 = .ok (.invokevirtual 41, 3) := by decide +kernel
theorem dX4_goTo_23 : decode cX4_goTo 23 = .ok (.ireturn, 1) := by decide +kernel
set_option maxRecDepth 20000 in
theorem ggX4_undo_X0_restoreTo : GoodIn wsX4_undo wsX0_restoreTo := goodIn_r _ [9, 10, 11, 12, 13, 14, 8, 15, 16, 17, 18, 19, 20, 21, 22, 23, 24, 25, 26, 27, 28, 29, 30, 31, 32, 33, 34, 35, 36, 37, 38, 39, 40, 41, 46, 47, 48, 49, 50, 51, 52, 53, 54, 55, 56, 57, 58, 59] (by decide +kernel) (by decide +kernel)
set_option maxRecDepth 20000 in
theorem gX4_undo_X0_restoreTo : GoodIn wsX4_undo (wsV RX4 72 RX0 yX0_restoreTo wsX0_restoreTo) := goodIn_app (goodIn_of _ (by decide +kernel)) ggX4_undo_X0_restoreTo
theorem dX4_undo_0 : decode cX4_undo 0 = .ok (.aload_n 0, 1) := by decide +kernel
theorem dX4_undo_1 : decode cX4_undo 1 = .ok (.getfield 22, 3) := by decide +kernel
theorem dX4_undo_4 : decode cX4_undo 4 = .ok (.getfield 67, 3) := by decide +kernel
theorem dX4_undo_7 : decode cX4_undo 7 = .ok (.ifCond .ne 6, 3) := by decide +kernel
theorem dX4_undo_10 : decode cX4_undo 10 = .ok (.ldc 71, 2) := by decide +kernel
theorem dX4_undo_12 : decode cX4_undo 12 = .ok (.ireturn, 1) := by decide +kernel
theorem dX4_undo_13 : decode cX4_undo 13 = .ok (.aload_n 0, 1) := by decide +kernel
theorem dX4_undo_14 : decode cX4_undo 14 = .ok (.getfield 22, 3) := by decide +kernel
theorem dX4_undo_17 : decode cX4_undo 17 = .ok (.aload_n 0, 1) := by decide +kernel
theorem dX4_undo_18 : decode cX4_undo 18 = .ok (.getfield 10, 3) := by decide +kernel
theorem dX4_undo_21 : decode cX4_undo 21 = .ok (.invokevirtual 72, 3) := by decide +kernel
theorem dX4_undo_24 : decode cX4_undo 24 = .ok (.aload_n 0, 1) := by decide +kernel
theorem dX4_undo_25 : decode cX4_undo 25 = .ok (.getfield 22, 3) := by decide +kernel
theorem dX4_undo_28 : decode cX4_undo 28 = .ok (.getfield 67, 3) := by decide +kernel
theorem dX4_undo_31 : decode cX4_undo 31 = .ok (.ireturn, 1) := by decide +kernel
set_option maxRecDepth 20000 in
theorem ggX4_count_X1_measuredLines : GoodIn wsX4_count wsX1_measuredLines := goodIn_r _ [18, 19, 75, 76, 77, 78, 79, 80, 81] (by decide +kernel) (by decide +kernel)
set_option maxRecDepth 20000 in
theorem gX4_count_X1_measuredLines : GoodIn wsX4_count (wsV RX4 107 RX1 yX1_measuredLines wsX1_measuredLines) := goodIn_app (goodIn_of _ (by decide +kernel)) ggX4_count_X1_measuredLines
set_option maxRecDepth 20000 in
theorem ggX4_count_X1_total : GoodIn wsX4_count wsX1_total := goodIn_r _ [23, 24, 25, 26, 27, 17, 28, 29, 30, 31, 32, 33, 34, 35, 36, 37, 38, 39, 40, 41, 42, 43, 44, 45, 46, 47, 48, 19, 49, 75, 76, 77, 78, 79, 80, 81] (by decide +kernel) (by decide +kernel)
set_option maxRecDepth 20000 in
theorem gX4_count_X1_total : GoodIn wsX4_count (wsV RX4 117 RX1 yX1_total wsX1_total) := goodIn_app (goodIn_of _ (by decide +kernel)) ggX4_count_X1_total
set_option maxRecDepth 20000 in
theorem ggX4_count_X3_top : GoodIn wsX4_count wsX3_top := goodIn_r _ [54, 55, 56, 57, 58, 26, 27, 17, 28, 24, 29, 30, 31, 32, 33, 34, 35, 36, 37, 38, 39, 40, 41, 42, 43, 44, 45, 46, 47, 48, 19, 49, 71, 72, 73, 74, 75, 76, 77, 78, 79, 80, 81] (by decide +kernel) (by decide +kernel)
set_option maxRecDepth 20000 in
theorem gX4_count_X3_top : GoodIn wsX4_count (wsV RX4 120 RX3 yX3_top wsX3_top) := goodIn_app (goodIn_of _ (by decide +kernel)) ggX4_count_X3_top
set_option maxRecDepth 20000 in
theorem ggX4_count_X1_guess : GoodIn wsX4_count wsX1_guess := goodIn_r _ [48, 19, 49, 75, 76, 77, 78, 79, 80, 81] (by decide +kernel) (by decide +kernel)
set_option maxRecDepth 20000 in
theorem gX4_count_X1_guess : GoodIn wsX4_count (wsV RX4 129 RX1 yX1_guess wsX1_guess) := goodIn_app (goodIn_of _ (by decide +kernel)) ggX4_count_X1_guess
set_option maxRecDepth 20000 in
theorem ggX4_count_X3_linesShown : GoodIn wsX4_count wsX3_linesShown := goodIn_r _ [63, 57, 56, 55, 64, 65, 66, 30, 31, 17, 32, 33, 34, 35, 36, 37, 38, 39, 24, 40, 41, 42, 43, 44, 45, 46, 47, 48, 19, 49, 71, 72, 73, 74, 75, 76, 77, 78, 79, 80, 81] (by decide +kernel) (by decide +kernel)
set_option maxRecDepth 20000 in
theorem gX4_count_X3_linesShown : GoodIn wsX4_count (wsV RX4 132 RX3 yX3_linesShown wsX3_linesShown) := goodIn_app (goodIn_of _ (by decide +kernel)) ggX4_count_X3_linesShown
theorem dX4_count_0 : decode cX4_count 0 = .ok (.iload_n 1, 1) := by decide +kernel
theorem dX4_count_1 : decode cX4_count 1 = .ok (.tableswitch 243 0 13 #[71, 82, 93, 119, 145, 156, 164, 172, 183, 195, 207, 219, 227, 235], 71) := by decide +kernel
theorem dX4_count_72 : decode cX4_count 72 = .ok (.aload_n 0, 1) := by decide +kernel
theorem dX4_count_73 : decode cX4_count 73 = .ok (.getfield 10, 3) := by decide +kernel
theorem dX4_count_76 : decode cX4_count 76 = .ok (.getfield 100, 3) := by decide +kernel
theorem dX4_count_79 : decode cX4_count 79 = .ok (.getfield 104, 3) := by decide +kernel
theorem dX4_count_82 : decode cX4_count 82 = .ok (.ireturn, 1) := by decide +kernel
theorem dX4_count_83 : decode cX4_count 83 = .ok (.aload_n 0, 1) := by decide +kernel
theorem dX4_count_84 : decode cX4_count 84 = .ok (.getfield 10, 3) := by decide +kernel
theorem dX4_count_87 : decode cX4_count 87 = .ok (.getfield 100, 3) := by decide +kernel
theorem dX4_count_90 : decode cX4_count 90 = .ok (.invokevirtual 107, 3) := by decide +kernel
theorem dX4_count_93 : decode cX4_count 93 = .ok (.ireturn, 1) := by decide +kernel
theorem dX4_count_94 : decode cX4_count 94 = .ok (.aload_n 0, 1) := by decide +kernel
theorem dX4_count_95 : decode cX4_count 95 = .ok (.getfield 10, 3) := by decide +kernel
theorem dX4_count_98 : decode cX4_count 98 = .ok (.getfield 100, 3) := by decide +kernel
theorem dX4_count_101 : decode cX4_count 101 = .ok (.getfield 104, 3) := by decide +kernel
theorem dX4_count_104 : decode cX4_count 104 = .ok (.ifCond .ne 8, 3) := by decide +kernel
theorem dX4_count_107 : decode cX4_count 107 = .ok (.ldc 110, 2) := by decide +kernel
theorem dX4_count_109 : decode cX4_count 109 = .ok (.goto 10, 3) := by decide +kernel
theorem dX4_count_112 : decode cX4_count 112 = .ok (.aload_n 0, 1) := by decide +kernel
theorem dX4_count_113 : decode cX4_count 113 = .ok (.getfield 10, 3) := by decide +kernel
theorem dX4_count_116 : decode cX4_count 116 = .ok (.getfield 111, 3) := by decide +kernel
theorem dX4_count_119 : decode cX4_count 119 = .ok (.ireturn, 1) := by decide +kernel
theorem dX4_count_120 : decode cX4_count 120 = .ok (.aload_n 0, 1) := by decide +kernel
theorem dX4_count_121 : decode cX4_count 121 = .ok (.getfield 10, 3) := by decide +kernel
theorem dX4_count_124 : decode cX4_count 124 = .ok (.getfield 100, 3) := by decide +kernel
theorem dX4_count_127 : decode cX4_count 127 = .ok (.getfield 104, 3) := by decide +kernel
theorem dX4_count_130 : decode cX4_count 130 = .ok (.ifCond .ne 8, 3) := by decide +kernel
theorem dX4_count_133 : decode cX4_count 133 = .ok (.ldc 110, 2) := by decide +kernel
theorem dX4_count_135 : decode cX4_count 135 = .ok (.goto 10, 3) := by decide +kernel
theorem dX4_count_138 : decode cX4_count 138 = .ok (.aload_n 0, 1) := by decide +kernel
theorem dX4_count_139 : decode cX4_count 139 = .ok (.getfield 10, 3) := by decide +kernel
theorem dX4_count_142 : decode cX4_count 142 = .ok (.getfield 114, 3) := by decide +kernel
theorem dX4_count_145 : decode cX4_count 145 = .ok (.ireturn, 1) := by decide +kernel
theorem dX4_count_146 : decode cX4_count 146 = .ok (.aload_n 0, 1) := by decide +kernel
theorem dX4_count_147 : decode cX4_count 147 = .ok (.getfield 10, 3) := by decide +kernel
theorem dX4_count_150 : decode cX4_count 150 = .ok (.getfield 100, 3) := by decide +kernel
theorem dX4_count_153 : decode cX4_count 153 = .ok (.invokevirtual 117, 3) := by decide +kernel
theorem dX4_count_156 : decode cX4_count 156 = .ok (.ireturn, 1) := by decide +kernel
theorem dX4_count_157 : decode cX4_count 157 = .ok (.aload_n 0, 1) := by decide +kernel
theorem dX4_count_158 : decode cX4_count 158 = .ok (.getfield 10, 3) := by decide +kernel
theorem dX4_count_161 : decode cX4_count 161 = .ok (.invokevirtual 120, 3) := by decide +kernel
theorem dX4_count_164 : decode cX4_count 164 = .ok (.ireturn, 1) := by decide +kernel
theorem dX4_count_165 : decode cX4_count 165 = .ok (.aload_n 0, 1) := by decide +kernel
theorem dX4_count_166 : decode cX4_count 166 = .ok (.getfield 10, 3) := by decide +kernel
theorem dX4_count_169 : decode cX4_count 169 = .ok (.getfield 123, 3) := by decide +kernel
theorem dX4_count_172 : decode cX4_count 172 = .ok (.ireturn, 1) := by decide +kernel
theorem dX4_count_173 : decode cX4_count 173 = .ok (.aload_n 0, 1) := by decide +kernel
theorem dX4_count_174 : decode cX4_count 174 = .ok (.getfield 10, 3) := by decide +kernel
theorem dX4_count_177 : decode cX4_count 177 = .ok (.getfield 100, 3) := by decide +kernel
theorem dX4_count_180 : decode cX4_count 180 = .ok (.getfield 126, 3) := by decide +kernel
theorem dX4_count_183 : decode cX4_count 183 = .ok (.ireturn, 1) := by decide +kernel
theorem dX4_count_184 : decode cX4_count 184 = .ok (.aload_n 0, 1) := by decide +kernel
theorem dX4_count_185 : decode cX4_count 185 = .ok (.getfield 10, 3) := by decide +kernel
theorem dX4_count_188 : decode cX4_count 188 = .ok (.getfield 100, 3) := by decide +kernel
theorem dX4_count_191 : decode cX4_count 191 = .ok (.iconst 0, 1) := by decide +kernel
theorem dX4_count_192 : decode cX4_count 192 = .ok (.invokevirtual 129, 3) := by decide +kernel
theorem dX4_count_195 : decode cX4_count 195 = .ok (.ireturn, 1) := by decide +kernel
theorem dX4_count_196 : decode cX4_count 196 = .ok (.aload_n 0, 1) := by decide +kernel
theorem dX4_count_197 : decode cX4_count 197 = .ok (.getfield 10, 3) := by decide +kernel
theorem dX4_count_200 : decode cX4_count 200 = .ok (.getfield 100, 3) := by decide +kernel
theorem dX4_count_203 : decode cX4_count 203 = .ok (.iconst 1, 1) := by decide +kernel
theorem dX4_count_204 : decode cX4_count 204 = .ok (.invokevirtual 129, 3) := by decide +kernel
theorem dX4_count_207 : decode cX4_count 207 = .ok (.ireturn, 1) := by decide +kernel
theorem dX4_count_208 : decode cX4_count 208 = .ok (.aload_n 0, 1) := by decide +kernel
theorem dX4_count_209 : decode cX4_count 209 = .ok (.getfield 10, 3) := by decide +kernel
theorem dX4_count_212 : decode cX4_count 212 = .ok (.getfield 100, 3) := by decide +kernel
theorem dX4_count_215 : decode cX4_count 215 = .ok (.iconst 2, 1) := by decide +kernel
theorem dX4_count_216 : decode cX4_count 216 = .ok (.invokevirtual 129, 3) := by decide +kernel
theorem dX4_count_219 : decode cX4_count 219 = .ok (.ireturn, 1) := by decide +kernel
theorem dX4_count_220 : decode cX4_count 220 = .ok (.aload_n 0, 1) := by decide +kernel
theorem dX4_count_221 : decode cX4_count 221 = .ok (.getfield 10, 3) := by decide +kernel
theorem dX4_count_224 : decode cX4_count 224 = .ok (.invokevirtual 132, 3) := by decide +kernel
theorem dX4_count_227 : decode cX4_count 227 = .ok (.ireturn, 1) := by decide +kernel
theorem dX4_count_228 : decode cX4_count 228 = .ok (.aload_n 0, 1) := by decide +kernel
theorem dX4_count_229 : decode cX4_count 229 = .ok (.getfield 22, 3) := by decide +kernel
theorem dX4_count_232 : decode cX4_count 232 = .ok (.getfield 67, 3) := by decide +kernel
theorem dX4_count_235 : decode cX4_count 235 = .ok (.ireturn, 1) := by decide +kernel
theorem dX4_count_236 : decode cX4_count 236 = .ok (.aload_n 0, 1) := by decide +kernel
theorem dX4_count_237 : decode cX4_count 237 = .ok (.getfield 29, 3) := by decide +kernel
theorem dX4_count_240 : decode cX4_count 240 = .ok (.getfield 135, 3) := by decide +kernel
theorem dX4_count_243 : decode cX4_count 243 = .ok (.ireturn, 1) := by decide +kernel
theorem dX4_count_244 : decode cX4_count 244 = .ok (.ldc 79, 2) := by decide +kernel
theorem dX4_count_246 : decode cX4_count 246 = .ok (.ireturn, 1) := by decide +kernel
set_option maxRecDepth 20000 in
theorem ggX4_line_X1_isLine : GoodIn wsX4_line wsX1_isLine := goodIn_r _ [11, 12, 58, 59, 60, 61, 62, 63, 64] (by decide +kernel) (by decide +kernel)
set_option maxRecDepth 20000 in
theorem gX4_line_X1_isLine : GoodIn wsX4_line (wsV RX4 138 RX1 yX1_isLine wsX1_isLine) := goodIn_app (goodIn_of _ (by decide +kernel)) ggX4_line_X1_isLine
set_option maxRecDepth 20000 in
theorem ggX4_line_X1_heightOf : GoodIn wsX4_line wsX1_heightOf := goodIn_r _ [16, 17, 18, 19, 20, 8, 9, 10, 11, 12, 21, 22, 23, 24, 25, 26, 27, 28, 29, 30, 31, 58, 59, 60, 61, 62, 63, 64] (by decide +kernel) (by decide +kernel)
set_option maxRecDepth 20000 in
theorem gX4_line_X1_heightOf : GoodIn wsX4_line (wsV RX4 149 RX1 yX1_heightOf wsX1_heightOf) := goodIn_app (goodIn_of _ (by decide +kernel)) ggX4_line_X1_heightOf
set_option maxRecDepth 20000 in
theorem ggX4_line_X1_topOf : GoodIn wsX4_line wsX1_topOf := goodIn_r _ [35, 12, 36, 14, 15, 10, 16, 17, 18, 19, 20, 8, 9, 11, 21, 22, 23, 24, 25, 26, 27, 28, 29, 30, 31, 58, 59, 60, 61, 62, 63, 64] (by decide +kernel) (by decide +kernel)
set_option maxRecDepth 20000 in
theorem gX4_line_X1_topOf : GoodIn wsX4_line (wsV RX4 156 RX1 yX1_topOf wsX1_topOf) := goodIn_app (goodIn_of _ (by decide +kernel)) ggX4_line_X1_topOf
set_option maxRecDepth 20000 in
theorem ggX4_line_X1_trueHeightOf : GoodIn wsX4_line wsX1_trueHeightOf := goodIn_r _ [40, 18, 19, 20, 8, 9, 10, 11, 12, 21, 22, 23, 24, 25, 58, 59, 60, 61, 62, 63, 64] (by decide +kernel) (by decide +kernel)
set_option maxRecDepth 20000 in
theorem gX4_line_X1_trueHeightOf : GoodIn wsX4_line (wsV RX4 159 RX1 yX1_trueHeightOf wsX1_trueHeightOf) := goodIn_app (goodIn_of _ (by decide +kernel)) ggX4_line_X1_trueHeightOf
set_option maxRecDepth 20000 in
theorem ggX4_line_X3_top : GoodIn wsX4_line wsX3_top := goodIn_r _ [45, 46, 47, 48, 49, 33, 34, 10, 35, 12, 36, 14, 15, 16, 17, 18, 19, 20, 8, 9, 11, 21, 22, 23, 24, 25, 26, 27, 28, 29, 30, 31, 54, 55, 56, 57, 58, 59, 60, 61, 62, 63, 64] (by decide +kernel) (by decide +kernel)
set_option maxRecDepth 20000 in
theorem gX4_line_X3_top : GoodIn wsX4_line (wsV RX4 120 RX3 yX3_top wsX3_top) := goodIn_app (goodIn_of _ (by decide +kernel)) ggX4_line_X3_top
theorem dX4_line_0 : decode cX4_line 0 = .ok (.aload_n 0, 1) := by decide +kernel
theorem dX4_line_1 : decode cX4_line 1 = .ok (.getfield 10, 3) := by decide +kernel
theorem dX4_line_4 : decode cX4_line 4 = .ok (.getfield 100, 3) := by decide +kernel
theorem dX4_line_7 : decode cX4_line 7 = .ok (.iload_n 1, 1) := by decide +kernel
theorem dX4_line_8 : decode cX4_line 8 = .ok (.invokevirtual 138, 3) := by decide +kernel
theorem dX4_line_11 : decode cX4_line 11 = .ok (.ifCond .ne 6, 3) := by decide +kernel
theorem dX4_line_14 : decode cX4_line 14 = .ok (.ldc 79, 2) := by decide +kernel
theorem dX4_line_16 : decode cX4_line 16 = .ok (.ireturn, 1) := by decide +kernel
theorem dX4_line_17 : decode cX4_line 17 = .ok (.iload_n 2, 1) := by decide +kernel
theorem dX4_line_18 : decode cX4_line 18 = .ok (.tableswitch 145 0 6 #[42, 55, 68, 80, 101, 113, 125], 42) := by decide +kernel
theorem dX4_line_60 : decode cX4_line 60 = .ok (.aload_n 0, 1) := by decide +kernel
theorem dX4_line_61 : decode cX4_line 61 = .ok (.getfield 10, 3) := by decide +kernel
theorem dX4_line_64 : decode cX4_line 64 = .ok (.getfield 100, 3) := by decide +kernel
theorem dX4_line_67 : decode cX4_line 67 = .ok (.getfield 142, 3) := by decide +kernel
theorem dX4_line_70 : decode cX4_line 70 = .ok (.iload_n 1, 1) := by decide +kernel
theorem dX4_line_71 : decode cX4_line 71 = .ok (.iaload, 1) := by decide +kernel
theorem dX4_line_72 : decode cX4_line 72 = .ok (.ireturn, 1) := by decide +kernel
theorem dX4_line_73 : decode cX4_line 73 = .ok (.aload_n 0, 1) := by decide +kernel
theorem dX4_line_74 : decode cX4_line 74 = .ok (.getfield 10, 3) := by decide +kernel
theorem dX4_line_77 : decode cX4_line 77 = .ok (.getfield 100, 3) := by decide +kernel
theorem dX4_line_80 : decode cX4_line 80 = .ok (.getfield 146, 3) := by decide +kernel
theorem dX4_line_83 : decode cX4_line 83 = .ok (.iload_n 1, 1) := by decide +kernel
theorem dX4_line_84 : decode cX4_line 84 = .ok (.iaload, 1) := by decide +kernel
theorem dX4_line_85 : decode cX4_line 85 = .ok (.ireturn, 1) := by decide +kernel
theorem dX4_line_86 : decode cX4_line 86 = .ok (.aload_n 0, 1) := by decide +kernel
theorem dX4_line_87 : decode cX4_line 87 = .ok (.getfield 10, 3) := by decide +kernel
theorem dX4_line_90 : decode cX4_line 90 = .ok (.getfield 100, 3) := by decide +kernel
theorem dX4_line_93 : decode cX4_line 93 = .ok (.iload_n 1, 1) := by decide +kernel
theorem dX4_line_94 : decode cX4_line 94 = .ok (.invokevirtual 149, 3) := by decide +kernel
theorem dX4_line_97 : decode cX4_line 97 = .ok (.ireturn, 1) := by decide +kernel
theorem dX4_line_98 : decode cX4_line 98 = .ok (.aload_n 0, 1) := by decide +kernel
theorem dX4_line_99 : decode cX4_line 99 = .ok (.getfield 10, 3) := by decide +kernel
theorem dX4_line_102 : decode cX4_line 102 = .ok (.getfield 100, 3) := by decide +kernel
theorem dX4_line_105 : decode cX4_line 105 = .ok (.getfield 152, 3) := by decide +kernel
theorem dX4_line_108 : decode cX4_line 108 = .ok (.iload_n 1, 1) := by decide +kernel
theorem dX4_line_109 : decode cX4_line 109 = .ok (.baload, 1) := by decide +kernel
theorem dX4_line_110 : decode cX4_line 110 = .ok (.ifCond .eq 7, 3) := by decide +kernel
theorem dX4_line_113 : decode cX4_line 113 = .ok (.iconst 1, 1) := by decide +kernel
theorem dX4_line_114 : decode cX4_line 114 = .ok (.goto 4, 3) := by decide +kernel
theorem dX4_line_117 : decode cX4_line 117 = .ok (.iconst 0, 1) := by decide +kernel
theorem dX4_line_118 : decode cX4_line 118 = .ok (.ireturn, 1) := by decide +kernel
theorem dX4_line_119 : decode cX4_line 119 = .ok (.aload_n 0, 1) := by decide +kernel
theorem dX4_line_120 : decode cX4_line 120 = .ok (.getfield 10, 3) := by decide +kernel
theorem dX4_line_123 : decode cX4_line 123 = .ok (.getfield 100, 3) := by decide +kernel
theorem dX4_line_126 : decode cX4_line 126 = .ok (.iload_n 1, 1) := by decide +kernel
theorem dX4_line_127 : decode cX4_line 127 = .ok (.invokevirtual 156, 3) := by decide +kernel
theorem dX4_line_130 : decode cX4_line 130 = .ok (.ireturn, 1) := by decide +kernel
theorem dX4_line_131 : decode cX4_line 131 = .ok (.aload_n 0, 1) := by decide +kernel
theorem dX4_line_132 : decode cX4_line 132 = .ok (.getfield 10, 3) := by decide +kernel
theorem dX4_line_135 : decode cX4_line 135 = .ok (.getfield 100, 3) := by decide +kernel
theorem dX4_line_138 : decode cX4_line 138 = .ok (.iload_n 1, 1) := by decide +kernel
theorem dX4_line_139 : decode cX4_line 139 = .ok (.invokevirtual 159, 3) := by decide +kernel
theorem dX4_line_142 : decode cX4_line 142 = .ok (.ireturn, 1) := by decide +kernel
theorem dX4_line_143 : decode cX4_line 143 = .ok (.aload_n 0, 1) := by decide +kernel
theorem dX4_line_144 : decode cX4_line 144 = .ok (.getfield 10, 3) := by decide +kernel
theorem dX4_line_147 : decode cX4_line 147 = .ok (.getfield 100, 3) := by decide +kernel
theorem dX4_line_150 : decode cX4_line 150 = .ok (.iload_n 1, 1) := by decide +kernel
theorem dX4_line_151 : decode cX4_line 151 = .ok (.invokevirtual 156, 3) := by decide +kernel
theorem dX4_line_154 : decode cX4_line 154 = .ok (.aload_n 0, 1) := by decide +kernel
theorem dX4_line_155 : decode cX4_line 155 = .ok (.getfield 10, 3) := by decide +kernel
theorem dX4_line_158 : decode cX4_line 158 = .ok (.invokevirtual 120, 3) := by decide +kernel
theorem dX4_line_161 : decode cX4_line 161 = .ok (.isub, 1) := by decide +kernel
theorem dX4_line_162 : decode cX4_line 162 = .ok (.ireturn, 1) := by decide +kernel
theorem dX4_line_163 : decode cX4_line 163 = .ok (.ldc 79, 2) := by decide +kernel
theorem dX4_line_165 : decode cX4_line 165 = .ok (.ireturn, 1) := by decide +kernel
set_option maxRecDepth 20000 in
theorem ggX4_seen_X4_isOutside : GoodIn wsX4_seen wsX4_isOutside := goodIn_r _ [8] (by decide +kernel) (by decide +kernel)
set_option maxRecDepth 20000 in
theorem gX4_seen_X4_isOutside : GoodIn wsX4_seen (va_wsS RX4 75 yX4_isOutside wsX4_isOutside) := goodIn_app (goodIn_of _ (by decide +kernel)) ggX4_seen_X4_isOutside
set_option maxRecDepth 20000 in
theorem ggX4_seen_X3_top : GoodIn wsX4_seen wsX3_top := goodIn_r _ [13, 14, 15, 16, 17, 18, 19, 20, 21, 22, 23, 24, 25, 26, 27, 28, 29, 30, 31, 32, 33, 34, 35, 36, 37, 38, 39, 40, 41, 42, 43, 44, 54, 55, 56, 57, 58, 59, 60, 61, 62, 63, 64] (by decide +kernel) (by decide +kernel)
set_option maxRecDepth 20000 in
theorem gX4_seen_X3_top : GoodIn wsX4_seen (wsV RX4 120 RX3 yX3_top wsX3_top) := goodIn_app (goodIn_of _ (by decide +kernel)) ggX4_seen_X3_top
set_option maxRecDepth 20000 in
theorem ggX4_seen_X1_lineAt : GoodIn wsX4_seen wsX1_lineAt := goodIn_r _ [48, 22, 49, 23, 24, 25, 20, 26, 27, 28, 29, 30, 31, 32, 33, 34, 35, 36, 37, 38, 39, 40, 41, 42, 43, 44, 58, 59, 60, 61, 62, 63, 64] (by decide +kernel) (by decide +kernel)
set_option maxRecDepth 20000 in
theorem gX4_seen_X1_lineAt : GoodIn wsX4_seen (wsV RX4 162 RX1 yX1_lineAt wsX1_lineAt) := goodIn_app (goodIn_of _ (by decide +kernel)) ggX4_seen_X1_lineAt
theorem dX4_seen_0 : decode cX4_seen 0 = .ok (.iload_n 1, 1) := by decide +kernel
theorem dX4_seen_1 : decode cX4_seen 1 = .ok (.iconst 0, 1) := by decide +kernel
theorem dX4_seen_2 : decode cX4_seen 2 = .ok (.aload_n 0, 1) := by decide +kernel
theorem dX4_seen_3 : decode cX4_seen 3 = .ok (.getfield 10, 3) := by decide +kernel
theorem dX4_seen_6 : decode cX4_seen 6 = .ok (.getfield 123, 3) := by decide +kernel
theorem dX4_seen_9 : decode cX4_seen 9 = .ok (.iconst 1, 1) := by decide +kernel
theorem dX4_seen_10 : decode cX4_seen 10 = .ok (.isub, 1) := by decide +kernel
theorem dX4_seen_11 : decode cX4_seen 11 = .ok (.invokestatic 75, 3) := by decide +kernel
theorem dX4_seen_14 : decode cX4_seen 14 = .ok (.ifCond .eq 6, 3) := by decide +kernel
theorem dX4_seen_17 : decode cX4_seen 17 = .ok (.ldc 79, 2) := by decide +kernel
theorem dX4_seen_19 : decode cX4_seen 19 = .ok (.ireturn, 1) := by decide +kernel
theorem dX4_seen_20 : decode cX4_seen 20 = .ok (.aload_n 0, 1) := by decide +kernel
theorem dX4_seen_21 : decode cX4_seen 21 = .ok (.getfield 10, 3) := by decide +kernel
theorem dX4_seen_24 : decode cX4_seen 24 = .ok (.getfield 100, 3) := by decide +kernel
theorem dX4_seen_27 : decode cX4_seen 27 = .ok (.aload_n 0, 1) := by decide +kernel
theorem dX4_seen_28 : decode cX4_seen 28 = .ok (.getfield 10, 3) := by decide +kernel
theorem dX4_seen_31 : decode cX4_seen 31 = .ok (.invokevirtual 120, 3) := by decide +kernel
theorem dX4_seen_34 : decode cX4_seen 34 = .ok (.iload_n 1, 1) := by decide +kernel
theorem dX4_seen_35 : decode cX4_seen 35 = .ok (.iadd, 1) := by decide +kernel
theorem dX4_seen_36 : decode cX4_seen 36 = .ok (.invokevirtual 162, 3) := by decide +kernel
theorem dX4_seen_39 : decode cX4_seen 39 = .ok (.ireturn, 1) := by decide +kernel
set_option maxRecDepth 20000 in
theorem ggX4_at_X1_lineAt : GoodIn wsX4_at wsX1_lineAt := goodIn_r _ [8, 9, 10, 11, 12, 13, 7, 14, 15, 16, 17, 18, 19, 20, 21, 22, 23, 24, 25, 26, 27, 28, 29, 30, 31, 32, 41, 42, 43, 44, 45, 46, 47] (by decide +kernel) (by decide +kernel)
set_option maxRecDepth 20000 in
theorem gX4_at_X1_lineAt : GoodIn wsX4_at (wsV RX4 162 RX1 yX1_lineAt wsX1_lineAt) := goodIn_app (goodIn_of _ (by decide +kernel)) ggX4_at_X1_lineAt
theorem dX4_at_0 : decode cX4_at 0 = .ok (.iload_n 1, 1) := by decide +kernel
theorem dX4_at_1 : decode cX4_at 1 = .ok (.ifCond .ge 6, 3) := by decide +kernel
theorem dX4_at_4 : decode cX4_at 4 = .ok (.ldc 79, 2) := by decide +kernel
theorem dX4_at_6 : decode cX4_at 6 = .ok (.ireturn, 1) := by decide +kernel
theorem dX4_at_7 : decode cX4_at 7 = .ok (.aload_n 0, 1) := by decide +kernel
theorem dX4_at_8 : decode cX4_at 8 = .ok (.getfield 10, 3) := by decide +kernel
theorem dX4_at_11 : decode cX4_at 11 = .ok (.getfield 100, 3) := by decide +kernel
theorem dX4_at_14 : decode cX4_at 14 = .ok (.iload_n 1, 1) := by decide +kernel
theorem dX4_at_15 : decode cX4_at 15 = .ok (.invokevirtual 162, 3) := by decide +kernel
theorem dX4_at_18 : decode cX4_at 18 = .ok (.ireturn, 1) := by decide +kernel
set_option maxRecDepth 20000 in
theorem ggX4_share_X1_total : GoodIn wsX4_share wsX1_total := goodIn_r _ [8, 9, 10, 11, 12, 7, 13, 14, 15, 16, 17, 18, 19, 20, 21, 22, 23, 24, 25, 26, 27, 28, 29, 30, 31, 32, 33, 34, 35, 53, 54, 55, 56, 57, 58, 59] (by decide +kernel) (by decide +kernel)
set_option maxRecDepth 20000 in
theorem gX4_share_X1_total : GoodIn wsX4_share (wsV RX4 117 RX1 yX1_total wsX1_total) := goodIn_app (goodIn_of _ (by decide +kernel)) ggX4_share_X1_total
set_option maxRecDepth 20000 in
theorem ggX4_share_X3_top : GoodIn wsX4_share wsX3_top := goodIn_r _ [40, 41, 42, 43, 44, 11, 12, 7, 13, 9, 14, 15, 16, 17, 18, 19, 20, 21, 22, 23, 24, 25, 26, 27, 28, 29, 30, 31, 32, 33, 34, 35, 49, 50, 51, 52, 53, 54, 55, 56, 57, 58, 59] (by decide +kernel) (by decide +kernel)
set_option maxRecDepth 20000 in
theorem gX4_share_X3_top : GoodIn wsX4_share (wsV RX4 120 RX3 yX3_top wsX3_top) := goodIn_app (goodIn_of _ (by decide +kernel)) ggX4_share_X3_top
theorem dX4_share_0 : decode cX4_share 0 = .ok (.aload_n 0, 1) := by decide +kernel
theorem dX4_share_1 : decode cX4_share 1 = .ok (.getfield 10, 3) := by decide +kernel
theorem dX4_share_4 : decode cX4_share 4 = .ok (.getfield 100, 3) := by decide +kernel
theorem dX4_share_7 : decode cX4_share 7 = .ok (.invokevirtual 117, 3) := by decide +kernel
theorem dX4_share_10 : decode cX4_share 10 = .ok (.aload_n 0, 1) := by decide +kernel
theorem dX4_share_11 : decode cX4_share 11 = .ok (.getfield 10, 3) := by decide +kernel
theorem dX4_share_14 : decode cX4_share 14 = .ok (.getfield 123, 3) := by decide +kernel
theorem dX4_share_17 : decode cX4_share 17 = .ok (.isub, 1) := by decide +kernel
theorem dX4_share_18 : decode cX4_share 18 = .ok (.istore_n 1, 1) := by decide +kernel
theorem dX4_share_19 : decode cX4_share 19 = .ok (.iload_n 1, 1) := by decide +kernel
theorem dX4_share_20 : decode cX4_share 20 = .ok (.ifCond .le 19, 3) := by decide +kernel
theorem dX4_share_23 : decode cX4_share 23 = .ok (.aload_n 0, 1) := by decide +kernel
theorem dX4_share_24 : decode cX4_share 24 = .ok (.getfield 10, 3) := by decide +kernel
theorem dX4_share_27 : decode cX4_share 27 = .ok (.invokevirtual 120, 3) := by decide +kernel
theorem dX4_share_30 : decode cX4_share 30 = .ok (.sipush 1000, 3) := by decide +kernel
theorem dX4_share_33 : decode cX4_share 33 = .ok (.imul, 1) := by decide +kernel
theorem dX4_share_34 : decode cX4_share 34 = .ok (.iload_n 1, 1) := by decide +kernel
theorem dX4_share_35 : decode cX4_share 35 = .ok (.idiv, 1) := by decide +kernel
theorem dX4_share_36 : decode cX4_share 36 = .ok (.goto 4, 3) := by decide +kernel
theorem dX4_share_39 : decode cX4_share 39 = .ok (.iconst 0, 1) := by decide +kernel
theorem dX4_share_40 : decode cX4_share 40 = .ok (.ireturn, 1) := by decide +kernel
theorem dX4_isOutside_0 : decode cX4_isOutside 0 = .ok (.iload_n 0, 1) := by decide +kernel
theorem dX4_isOutside_1 : decode cX4_isOutside 1 = .ok (.iload_n 1, 1) := by decide +kernel
theorem dX4_isOutside_2 : decode cX4_isOutside 2 = .ok (.if_icmp .lt 8, 3) := by decide +kernel
theorem dX4_isOutside_5 : decode cX4_isOutside 5 = .ok (.iload_n 0, 1) := by decide +kernel
theorem dX4_isOutside_6 : decode cX4_isOutside 6 = .ok (.iload_n 2, 1) := by decide +kernel
theorem dX4_isOutside_7 : decode cX4_isOutside 7 = .ok (.if_icmp .le 7, 3) := by decide +kernel
theorem dX4_isOutside_10 : decode cX4_isOutside 10 = .ok (.iconst 1, 1) := by decide +kernel
theorem dX4_isOutside_11 : decode cX4_isOutside 11 = .ok (.goto 4, 3) := by decide +kernel
theorem dX4_isOutside_14 : decode cX4_isOutside 14 = .ok (.iconst 0, 1) := by decide +kernel
theorem dX4_isOutside_15 : decode cX4_isOutside 15 = .ok (.ireturn, 1) := by decide +kernel
set_option maxRecDepth 20000 in
theorem ggX4_keepDraft_X0_record : GoodIn wsX4_keepDraft wsX0_record := goodIn_r _ [8, 9, 10, 11, 12, 13, 14, 15, 16, 17, 7, 18, 19, 20, 21, 22, 23, 24, 25, 26, 27, 28, 29, 30, 31, 32, 33, 34, 35, 36, 37, 38, 39, 40, 41, 42, 43, 44, 50, 51, 52, 53, 54, 55, 56, 57, 58, 59, 60, 61, 62, 63] (by decide +kernel) (by decide +kernel)
set_option maxRecDepth 20000 in
theorem gX4_keepDraft_X0_record : GoodIn wsX4_keepDraft (wsV RX4 168 RX0 yX0_record wsX0_record) := goodIn_app (goodIn_of _ (by decide +kernel)) ggX4_keepDraft_X0_record
set_option maxRecDepth 20000 in
theorem ggX4_keepDraft_X3_copyFrom : GoodIn wsX4_keepDraft wsX3_copyFrom := goodIn_r _ [24, 25, 26, 27, 28, 29, 30, 31, 32, 33, 34, 35, 36, 37, 38, 39, 40, 41, 42, 43, 44, 53, 54, 55, 56, 57, 58, 59, 60, 61, 62, 63] (by decide +kernel) (by decide +kernel)
set_option maxRecDepth 20000 in
theorem gX4_keepDraft_X3_copyFrom : GoodIn wsX4_keepDraft (wsV RX4 33 RX3 yX3_copyFrom wsX3_copyFrom) := goodIn_app (goodIn_of _ (by decide +kernel)) ggX4_keepDraft_X3_copyFrom
theorem dX4_keepDraft_0 : decode cX4_keepDraft 0 = .ok (.iload_n 1, 1) := by decide +kernel
theorem dX4_keepDraft_1 : decode cX4_keepDraft 1 = .ok (.ifCond .lt 25, 3) := by decide +kernel
theorem dX4_keepDraft_4 : decode cX4_keepDraft 4 = .ok (.aload_n 0, 1) := by decide +kernel
theorem dX4_keepDraft_5 : decode cX4_keepDraft 5 = .ok (.getfield 22, 3) := by decide +kernel
theorem dX4_keepDraft_8 : decode cX4_keepDraft 8 = .ok (.aload_n 0, 1) := by decide +kernel
