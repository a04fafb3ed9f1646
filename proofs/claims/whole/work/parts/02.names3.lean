theorem dX4_cut_20 : decode cX4_cut 20 = .ok (.invokevirtual 41, 3) := by decide +kernel
theorem dX4_cut_23 : decode cX4_cut 23 = .ok (.ireturn, 1) := by decide +kernel
set_option maxRecDepth 20000 in
theorem ggX4_change_X3_copyFrom : GoodIn wsX4_change wsX3_copyFrom := goodIn_r _ [7, 8, 9, 10, 11, 12, 13, 14, 15, 16, 17, 18, 19, 20, 21, 22, 23, 24, 25, 26, 27, 112, 113, 114, 115, 116, 117, 118, 119, 120, 121, 122] (by decide +kernel) (by decide +kernel)
set_option maxRecDepth 20000 in
theorem gX4_change_X3_copyFrom : GoodIn wsX4_change (wsV RX4 33 RX3 yX3_copyFrom wsX3_copyFrom) := goodIn_app (goodIn_of _ (by decide +kernel)) ggX4_change_X3_copyFrom
set_option maxRecDepth 20000 in
theorem ggX4_change_X3_changeLength : GoodIn wsX4_change wsX3_changeLength := goodIn_r _ [31, 8, 32, 33, 34, 35, 36, 15, 37, 26, 38, 39, 40, 41, 42, 43, 44, 22, 45, 46, 47, 48, 49, 23, 17, 24, 25, 50, 51, 52, 53, 54, 55, 56, 57, 27, 58, 59, 60, 6, 61, 62, 11, 9, 10, 63, 64, 65, 66, 67, 68, 69, 70, 71, 72, 73, 74, 75, 76, 77, 78, 79, 80, 81, 82, 83, 84, 85, 86, 112, 113, 114, 115, 116, 117, 118, 119, 120, 121, 122] (by decide +kernel) (by decide +kernel)
set_option maxRecDepth 20000 in
theorem gX4_change_X3_changeLength : GoodIn wsX4_change (wsV RX4 48 RX3 yX3_changeLength wsX3_changeLength) := goodIn_app (goodIn_of _ (by decide +kernel)) ggX4_change_X3_changeLength
set_option maxRecDepth 20000 in
theorem ggX4_change_X4_keepDraft : GoodIn wsX4_change wsX4_keepDraft := goodIn_r _ [90, 91, 2, 1, 92, 93, 94, 95, 96, 97, 98, 99, 100, 85, 101, 102, 103, 104, 105, 106, 107, 4, 5, 6, 7, 8, 9, 10, 11, 12, 13, 14, 15, 16, 17, 18, 19, 20, 21, 22, 23, 24, 25, 26, 27, 3, 108, 109, 110, 111, 123, 124, 125, 112, 113, 114, 115, 116, 117, 118, 119, 120, 121, 122] (by decide +kernel) (by decide +kernel)
set_option maxRecDepth 20000 in
theorem gX4_change_X4_keepDraft : GoodIn wsX4_change (wsV RX4 41 RX4 yX4_keepDraft wsX4_keepDraft) := goodIn_app (goodIn_of _ (by decide +kernel)) ggX4_change_X4_keepDraft
theorem dX4_change_0 : decode cX4_change 0 = .ok (.aload_n 0, 1) := by decide +kernel
theorem dX4_change_1 : decode cX4_change 1 = .ok (.getfield 16, 3) := by decide +kernel
theorem dX4_change_4 : decode cX4_change 4 = .ok (.aload_n 0, 1) := by decide +kernel
theorem dX4_change_5 : decode cX4_change 5 = .ok (.getfield 10, 3) := by decide +kernel
theorem dX4_change_8 : decode cX4_change 8 = .ok (.invokevirtual 33, 3) := by decide +kernel
theorem dX4_change_11 : decode cX4_change 11 = .ok (.aload_n 0, 1) := by decide +kernel
theorem dX4_change_12 : decode cX4_change 12 = .ok (.aload_n 0, 1) := by decide +kernel
theorem dX4_change_13 : decode cX4_change 13 = .ok (.getfield 16, 3) := by decide +kernel
theorem dX4_change_16 : decode cX4_change 16 = .ok (.iload_n 1, 1) := by decide +kernel
theorem dX4_change_17 : decode cX4_change 17 = .ok (.iload_n 2, 1) := by decide +kernel
theorem dX4_change_18 : decode cX4_change 18 = .ok (.invokevirtual 48, 3) := by decide +kernel
theorem dX4_change_21 : decode cX4_change 21 = .ok (.invokevirtual 41, 3) := by decide +kernel
theorem dX4_change_24 : decode cX4_change 24 = .ok (.ireturn, 1) := by decide +kernel
set_option maxRecDepth 20000 in
theorem ggX4_setHeight_X3_copyFrom : GoodIn wsX4_setHeight wsX3_copyFrom := goodIn_r _ [7, 8, 9, 10, 11, 12, 13, 14, 15, 16, 17, 18, 19, 20, 21, 22, 23, 24, 25, 26, 27, 102, 103, 104, 105, 106, 107, 108, 109, 110, 111, 112] (by decide +kernel) (by decide +kernel)
set_option maxRecDepth 20000 in
theorem gX4_setHeight_X3_copyFrom : GoodIn wsX4_setHeight (wsV RX4 33 RX3 yX3_copyFrom wsX3_copyFrom) := goodIn_app (goodIn_of _ (by decide +kernel)) ggX4_setHeight_X3_copyFrom
set_option maxRecDepth 20000 in
theorem ggX4_setHeight_X3_changeHeight : GoodIn wsX4_setHeight wsX3_changeHeight := goodIn_r _ [31, 32, 9, 33, 34, 35, 36, 37, 38, 6, 39, 8, 40, 11, 10, 41, 42, 43, 44, 45, 46, 47, 15, 48, 23, 17, 24, 22, 25, 49, 50, 51, 52, 26, 53, 54, 55, 56, 57, 58, 59, 60, 27, 61, 62, 63, 64, 65, 66, 67, 68, 69, 70, 71, 72, 73, 74, 75, 76, 102, 103, 104, 105, 106, 107, 108, 109, 110, 111, 112] (by decide +kernel) (by decide +kernel)
set_option maxRecDepth 20000 in
theorem gX4_setHeight_X3_changeHeight : GoodIn wsX4_setHeight (wsV RX4 52 RX3 yX3_changeHeight wsX3_changeHeight) := goodIn_app (goodIn_of _ (by decide +kernel)) ggX4_setHeight_X3_changeHeight
set_option maxRecDepth 20000 in
theorem ggX4_setHeight_X4_keepDraft : GoodIn wsX4_setHeight wsX4_keepDraft := goodIn_r _ [80, 81, 2, 1, 82, 83, 84, 85, 86, 87, 88, 89, 90, 75, 91, 92, 93, 94, 95, 96, 97, 4, 5, 6, 7, 8, 9, 10, 11, 12, 13, 14, 15, 16, 17, 18, 19, 20, 21, 22, 23, 24, 25, 26, 27, 3, 98, 99, 100, 101, 113, 114, 115, 102, 103, 104, 105, 106, 107, 108, 109, 110, 111, 112] (by decide +kernel) (by decide +kernel)
set_option maxRecDepth 20000 in
theorem gX4_setHeight_X4_keepDraft : GoodIn wsX4_setHeight (wsV RX4 41 RX4 yX4_keepDraft wsX4_keepDraft) := goodIn_app (goodIn_of _ (by decide +kernel)) ggX4_setHeight_X4_keepDraft
theorem dX4_setHeight_0 : decode cX4_setHeight 0 = .ok (.aload_n 0, 1) := by decide +kernel
theorem dX4_setHeight_1 : decode cX4_setHeight 1 = .ok (.getfield 16, 3) := by decide +kernel
theorem dX4_setHeight_4 : decode cX4_setHeight 4 = .ok (.aload_n 0, 1) := by decide +kernel
theorem dX4_setHeight_5 : decode cX4_setHeight 5 = .ok (.getfield 10, 3) := by decide +kernel
theorem dX4_setHeight_8 : decode cX4_setHeight 8 = .ok (.invokevirtual 33, 3) := by decide +kernel
theorem dX4_setHeight_11 : decode cX4_setHeight 11 = .ok (.aload_n 0, 1) := by decide +kernel
theorem dX4_setHeight_12 : decode cX4_setHeight 12 = .ok (.aload_n 0, 1) := by decide +kernel
theorem dX4_setHeight_13 : decode cX4_setHeight 13 = .ok (.getfield 16, 3) := by decide +kernel
theorem dX4_setHeight_16 : decode cX4_setHeight 16 = .ok (.iload_n 1, 1) := by decide +kernel
theorem dX4_setHeight_17 : decode cX4_setHeight 17 = .ok (.invokevirtual 52, 3) := by decide +kernel
theorem dX4_setHeight_20 : decode cX4_setHeight 20 = .ok (.invokevirtual 41, 3) := by decide +kernel
theorem dX4_setHeight_23 : decode cX4_setHeight 23 = .ok (.ireturn, 1) := by decide +kernel
set_option maxRecDepth 20000 in
theorem ggX4_setWidth_X3_copyFrom : GoodIn wsX4_setWidth wsX3_copyFrom := goodIn_r _ [7, 8, 9, 10, 11, 12, 13, 14, 15, 16, 17, 18, 19, 20, 21, 22, 23, 24, 25, 26, 27, 111, 112, 113, 114, 115, 116, 117, 118, 119, 120, 121] (by decide +kernel) (by decide +kernel)
set_option maxRecDepth 20000 in
theorem gX4_setWidth_X3_copyFrom : GoodIn wsX4_setWidth (wsV RX4 33 RX3 yX3_copyFrom wsX3_copyFrom) := goodIn_app (goodIn_of _ (by decide +kernel)) ggX4_setWidth_X3_copyFrom
set_option maxRecDepth 20000 in
theorem ggX4_setWidth_X3_changeWidth : GoodIn wsX4_setWidth wsX3_changeWidth := goodIn_r _ [31, 32, 8, 33, 34, 35, 36, 37, 38, 39, 15, 40, 26, 27, 41, 42, 43, 44, 23, 17, 24, 22, 25, 45, 46, 47, 48, 49, 50, 51, 52, 53, 54, 55, 56, 57, 58, 59, 6, 60, 61, 11, 9, 10, 62, 63, 64, 65, 66, 67, 68, 69, 70, 71, 72, 73, 74, 75, 76, 77, 78, 79, 80, 81, 82, 83, 84, 85, 111, 112, 113, 114, 115, 116, 117, 118, 119, 120, 121] (by decide +kernel) (by decide +kernel)
set_option maxRecDepth 20000 in
theorem gX4_setWidth_X3_changeWidth : GoodIn wsX4_setWidth (wsV RX4 55 RX3 yX3_changeWidth wsX3_changeWidth) := goodIn_app (goodIn_of _ (by decide +kernel)) ggX4_setWidth_X3_changeWidth
set_option maxRecDepth 20000 in
theorem ggX4_setWidth_X4_keepDraft : GoodIn wsX4_setWidth wsX4_keepDraft := goodIn_r _ [89, 90, 2, 1, 91, 92, 93, 94, 95, 96, 97, 98, 99, 84, 100, 101, 102, 103, 104, 105, 106, 4, 5, 6, 7, 8, 9, 10, 11, 12, 13, 14, 15, 16, 17, 18, 19, 20, 21, 22, 23, 24, 25, 26, 27, 3, 107, 108, 109, 110, 122, 123, 124, 111, 112, 113, 114, 115, 116, 117, 118, 119, 120, 121] (by decide +kernel) (by decide +kernel)
set_option maxRecDepth 20000 in
theorem gX4_setWidth_X4_keepDraft : GoodIn wsX4_setWidth (wsV RX4 41 RX4 yX4_keepDraft wsX4_keepDraft) := goodIn_app (goodIn_of _ (by decide +kernel)) ggX4_setWidth_X4_keepDraft
theorem dX4_setWidth_0 : decode cX4_setWidth 0 = .ok (.aload_n 0, 1) := by decide +kernel
theorem dX4_setWidth_1 : decode cX4_setWidth 1 = .ok (.getfield 16, 3) := by decide +kernel
theorem dX4_setWidth_4 : decode cX4_setWidth 4 = .ok (.aload_n 0, 1) := by decide +kernel
theorem dX4_setWidth_5 : decode cX4_setWidth 5 = .ok (.getfield 10, 3) := by decide +kernel
theorem dX4_setWidth_8 : decode cX4_setWidth 8 = .ok (.invokevirtual 33, 3) := by decide +kernel
theorem dX4_setWidth_11 : decode cX4_setWidth 11 = .ok (.aload_n 0, 1) := by decide +kernel
theorem dX4_setWidth_12 : decode cX4_setWidth 12 = .ok (.aload_n 0, 1) := by decide +kernel
theorem dX4_setWidth_13 : decode cX4_setWidth 13 = .ok (.getfield 16, 3) := by decide +kernel
theorem dX4_setWidth_16 : decode cX4_setWidth 16 = .ok (.iload_n 1, 1) := by decide +kernel
theorem dX4_setWidth_17 : decode cX4_setWidth 17 = .ok (.invokevirtual 55, 3) := by decide +kernel
theorem dX4_setWidth_20 : decode cX4_setWidth 20 = .ok (.invokevirtual 41, 3) := by decide +kernel
theorem dX4_setWidth_23 : decode cX4_setWidth 23 = .ok (.ireturn, 1) := by decide +kernel
set_option maxRecDepth 20000 in
theorem ggX4_scroll_X3_copyFrom : GoodIn wsX4_scroll wsX3_copyFrom := goodIn_r _ [7, 8, 9, 10, 11, 12, 13, 14, 15, 16, 17, 18, 19, 20, 21, 22, 23, 24, 25, 26, 27, 103, 104, 105, 106, 107, 108, 109, 110, 111, 112, 113] (by decide +kernel) (by decide +kernel)
set_option maxRecDepth 20000 in
theorem gX4_scroll_X3_copyFrom : GoodIn wsX4_scroll (wsV RX4 33 RX3 yX3_copyFrom wsX3_copyFrom) := goodIn_app (goodIn_of _ (by decide +kernel)) ggX4_scroll_X3_copyFrom
set_option maxRecDepth 20000 in
theorem ggX4_scroll_X3_moveBy : GoodIn wsX4_scroll wsX3_moveBy := goodIn_r _ [31, 32, 8, 33, 34, 11, 10, 35, 36, 37, 38, 39, 40, 6, 41, 42, 43, 44, 45, 46, 47, 48, 15, 49, 23, 17, 24, 22, 25, 50, 51, 52, 53, 26, 54, 55, 56, 57, 58, 59, 60, 61, 27, 62, 63, 64, 65, 66, 67, 68, 69, 70, 71, 72, 73, 9, 74, 75, 76, 77, 103, 104, 105, 106, 107, 108, 109, 110, 111, 112, 113] (by decide +kernel) (by decide +kernel)
set_option maxRecDepth 20000 in
theorem gX4_scroll_X3_moveBy : GoodIn wsX4_scroll (wsV RX4 58 RX3 yX3_moveBy wsX3_moveBy) := goodIn_app (goodIn_of _ (by decide +kernel)) ggX4_scroll_X3_moveBy
set_option maxRecDepth 20000 in
theorem ggX4_scroll_X4_keepDraft : GoodIn wsX4_scroll wsX4_keepDraft := goodIn_r _ [81, 82, 2, 1, 83, 84, 85, 86, 87, 88, 89, 90, 91, 44, 92, 93, 94, 95, 96, 97, 98, 4, 5, 6, 7, 8, 9, 10, 11, 12, 13, 14, 15, 16, 17, 18, 19, 20, 21, 22, 23, 24, 25, 26, 27, 3, 99, 100, 101, 102, 114, 115, 116, 103, 104, 105, 106, 107, 108, 109, 110, 111, 112, 113] (by decide +kernel) (by decide +kernel)
set_option maxRecDepth 20000 in
theorem gX4_scroll_X4_keepDraft : GoodIn wsX4_scroll (wsV RX4 41 RX4 yX4_keepDraft wsX4_keepDraft) := goodIn_app (goodIn_of _ (by decide +kernel)) ggX4_scroll_X4_keepDraft
theorem dX4_scroll_0 : decode cX4_scroll 0 = .ok (.aload_n 0, 1) := by decide +kernel
theorem dX4_scroll_1 : decode cX4_scroll 1 = .ok (.getfield 16, 3) := by decide +kernel
theorem dX4_scroll_4 : decode cX4_scroll 4 = .ok (.aload_n 0, 1) := by decide +kernel
theorem dX4_scroll_5 : decode cX4_scroll 5 = .ok (.getfield 10, 3) := by decide +kernel
theorem dX4_scroll_8 : decode cX4_scroll 8 = .ok (.invokevirtual 33, 3) := by decide +kernel
theorem dX4_scroll_11 : decode cX4_scroll 11 = .ok (.aload_n 0, 1) := by decide +kernel
theorem dX4_scroll_12 : decode cX4_scroll 12 = .ok (.aload_n 0, 1) := by decide +kernel
theorem dX4_scroll_13 : decode cX4_scroll 13 = .ok (.getfield 16, 3) := by decide +kernel
theorem dX4_scroll_16 : decode cX4_scroll 16 = .ok (.iload_n 1, 1) := by decide +kernel
theorem dX4_scroll_17 : decode cX4_scroll 17 = .ok (.invokevirtual 58, 3) := by decide +kernel
theorem dX4_scroll_20 : decode cX4_scroll 20 = .ok (.invokevirtual 41, 3) := by decide +kernel
theorem dX4_scroll_23 : decode cX4_scroll 23 = .ok (.ireturn, 1) := by decide +kernel
set_option maxRecDepth 20000 in
theorem ggX4_jump_X3_copyFrom : GoodIn wsX4_jump wsX3_copyFrom := goodIn_r _ [7, 8, 9, 10, 11, 12, 13, 14, 15, 16, 17, 18, 19, 20, 21, 22, 23, 24, 25, 26, 27, 118, 119, 120, 121, 122, 123, 124, 125, 126, 127, 128] (by decide +kernel) (by decide +kernel)
set_option maxRecDepth 20000 in
theorem gX4_jump_X3_copyFrom : GoodIn wsX4_jump (wsV RX4 33 RX3 yX3_copyFrom wsX3_copyFrom) := goodIn_app (goodIn_of _ (by decide +kernel)) ggX4_jump_X3_copyFrom
set_option maxRecDepth 20000 in
theorem ggX4_jump_X3_moveToShare : GoodIn wsX4_jump wsX3_moveToShare := goodIn_r _ [31, 32, 8, 33, 34, 9, 35, 36, 37, 38, 10, 11, 39, 40, 41, 42, 43, 44, 15, 45, 26, 46, 47, 48, 49, 50, 51, 52, 53, 23, 17, 22, 54, 55, 56, 57, 58, 59, 60, 61, 27, 62, 63, 64, 65, 25, 24, 66, 67, 68, 69, 70, 71, 72, 73, 74, 6, 75, 76, 77, 78, 79, 80, 81, 82, 83, 84, 85, 86, 87, 88, 89, 90, 91, 92, 118, 119, 120, 121, 122, 123, 124, 125, 126, 127, 128] (by decide +kernel) (by decide +kernel)
set_option maxRecDepth 20000 in
theorem gX4_jump_X3_moveToShare : GoodIn wsX4_jump (wsV RX4 61 RX3 yX3_moveToShare wsX3_moveToShare) := goodIn_app (goodIn_of _ (by decide +kernel)) ggX4_jump_X3_moveToShare
set_option maxRecDepth 20000 in
theorem ggX4_jump_X4_keepDraft : GoodIn wsX4_jump wsX4_keepDraft := goodIn_r _ [96, 97, 2, 1, 98, 99, 100, 101, 102, 103, 104, 105, 106, 37, 107, 108, 109, 110, 111, 112, 113, 4, 5, 6, 7, 8, 9, 10, 11, 12, 13, 14, 15, 16, 17, 18, 19, 20, 21, 22, 23, 24, 25, 26, 27, 3, 114, 115, 116, 117, 129, 130, 131, 118, 119, 120, 121, 122, 123, 124, 125, 126, 127, 128] (by decide +kernel) (by decide +kernel)
set_option maxRecDepth 20000 in
theorem gX4_jump_X4_keepDraft : GoodIn wsX4_jump (wsV RX4 41 RX4 yX4_keepDraft wsX4_keepDraft) := goodIn_app (goodIn_of _ (by decide +kernel)) ggX4_jump_X4_keepDraft
theorem dX4_jump_0 : decode cX4_jump 0 = .ok (.aload_n 0, 1) := by decide +kernel
theorem dX4_jump_1 : decode cX4_jump 1 = .ok (.getfield 16, 3) := by decide +kernel
theorem dX4_jump_4 : decode cX4_jump 4 = .ok (.aload_n 0, 1) := by decide +kernel
theorem dX4_jump_5 : decode cX4_jump 5 = .ok (.getfield 10, 3) := by decide +kernel
theorem dX4_jump_8 : decode cX4_jump 8 = .ok (.invokevirtual 33, 3) := by decide +kernel
theorem dX4_jump_11 : decode cX4_jump 11 = .ok (.aload_n 0, 1) := by decide +kernel
theorem dX4_jump_12 : decode cX4_jump 12 = .ok (.aload_n 0, 1) := by decide +kernel
theorem dX4_jump_13 : decode cX4_jump 13 = .ok (.getfield 16, 3) := by decide +kernel
theorem dX4_jump_16 : decode cX4_jump 16 = .ok (.iload_n 1, 1) := by decide +kernel
theorem dX4_jump_17 : decode cX4_jump 17 = .ok (.invokevirtual 61, 3) := by decide +kernel
theorem dX4_jump_20 : decode cX4_jump 20 = .ok (.invokevirtual 41, 3) := by decide +kernel
theorem dX4_jump_23 : decode cX4_jump 23 = .ok (.ireturn, 1) := by decide +kernel
set_option maxRecDepth 20000 in
theorem ggX4_goTo_X3_copyFrom : GoodIn wsX4_goTo wsX3_copyFrom := goodIn_r _ [7, 8, 9, 10, 11, 12, 13, 14, 15, 16, 17, 18, 19, 20, 21, 22, 23, 24, 25, 26, 27, 101, 102, 103, 104, 105, 106, 107, 108, 109, 110, 111] (by decide +kernel) (by decide +kernel)
set_option maxRecDepth 20000 in
theorem gX4_goTo_X3_copyFrom : GoodIn wsX4_goTo (wsV RX4 33 RX3 yX3_copyFrom wsX3_copyFrom) := goodIn_app (goodIn_of _ (by decide +kernel)) ggX4_goTo_X3_copyFrom
set_option maxRecDepth 20000 in
theorem ggX4_goTo_X3_moveToLine : GoodIn wsX4_goTo wsX3_moveToLine := goodIn_r _ [31, 8, 32, 10, 11, 33, 34, 35, 15, 36, 26, 37, 38, 39, 6, 40, 41, 9, 42, 43, 44, 45, 46, 47, 48, 49, 23, 17, 24, 22, 25, 50, 51, 52, 53, 54, 55, 56, 57, 58, 27, 59, 60, 61, 62, 63, 64, 65, 66, 67, 68, 69, 70, 71, 72, 73, 74, 101, 102, 103, 104, 105, 106, 107, 108, 109, 110, 111] (by decide +kernel) (by decide +kernel)
set_option maxRecDepth 20000 in
theorem gX4_goTo_X3_moveToLine : GoodIn wsX4_goTo (wsV RX4 64 RX3 yX3_moveToLine wsX3_moveToLine) := goodIn_app (goodIn_of _ (by decide +kernel)) ggX4_goTo_X3_moveToLine
set_option maxRecDepth 20000 in
theorem ggX4_goTo_X4_keepDraft : GoodIn wsX4_goTo wsX4_keepDraft := goodIn_r _ [79, 80, 2, 1, 81, 82, 83, 84, 85, 86, 87, 88, 89, 73, 90, 91, 92, 93, 94, 95, 96, 4, 5, 6, 7, 8, 9, 10, 11, 12, 13, 14, 15, 16, 17, 18, 19, 20, 21, 22, 23, 24, 25, 26, 27, 3, 97, 98, 99, 100, 112, 113, 114, 101, 102, 103, 104, 105, 106, 107, 108, 109, 110, 111] (by decide +kernel) (by decide +kernel)
set_option maxRecDepth 20000 in
theorem gX4_goTo_X4_keepDraft : GoodIn wsX4_goTo (wsV RX4 41 RX4 yX4_keepDraft wsX4_keepDraft) := goodIn_app (goodIn_of _ (by decide +kernel)) ggX4_goTo_X4_keepDraft
theorem dX4_goTo_0 : decode cX4_goTo 0 = .ok (.aload_n 0, 1) := by decide +kernel
theorem dX4_goTo_1 : decode cX4_goTo 1 = .ok (.getfield 16, 3) := by decide +kernel
theorem dX4_goTo_4 : decode cX4_goTo 4 = .ok (.aload_n 0, 1) := by decide +kernel
theorem dX4_goTo_5 : decode cX4_goTo 5 = .ok (.getfield 10, 3) := by decide +kernel
theorem dX4_goTo_8 : decode cX4_goTo 8 = .ok (.invokevirtual 33, 3) := by decide +kernel
theorem dX4_goTo_11 : decode cX4_goTo 11 = .ok (.aload_n 0, 1) := by decide +kernel
theorem dX4_goTo_12 : decode cX4_goTo 12 = .ok (.aload_n 0, 1) := by decide +kernel
theorem dX4_goTo_13 : decode cX4_goTo 13 = .ok (.getfield 16, 3) := by decide +kernel
theorem dX4_goTo_16 : decode cX4_goTo 16 = .ok (.iload_n 1, 1) := by decide +kernel
theorem dX4_goTo_17 : decode cX4_goTo 17 = .ok (.invokevirtual 64, 3) := by decide +kernel
theorem dX4_goTo_20 : decode cX4_goTo 20 = .ok (.invokevirtual 41, 3) := by decide +kernel
theorem dX4_goTo_23 : decode cX4_goTo 23 = .ok (.ireturn, 1) := by decide +kernel
set_option maxRecDepth 20000 in
theorem ggX4_undo_X0_restoreTo : GoodIn wsX4_undo wsX0_restoreTo := goodIn_r _ [9, 10, 11, 12, 13, 14, 8, 15, 16, 17, 18, 19, 20, 21, 22, 23, 24, 25, 26, 27, 28, 29, 30, 31, 32, 33, 34, 35, 36, 37, 38, 39, 40, 41, 46, 47, 48, 49, 50, 51, 52, 53, 54, 55, 56, 57, 58, 59] (by decide +kernel) (by decide +kernel)
set_option maxRecDepth 20000 in
theorem gX4_undo_X0_restoreTo : GoodIn wsX4_undo (wsV RX4 72 RX0 yX0_restoreTo wsX0_restoreTo) := goodIn_app (goodIn_of _ (by decide +kernel)) ggX4_undo_X0_restoreTo
theorem dX4_undo_0 : decode cX4_undo 0 = .ok (.aload_n 0, 1) := by decide +kernel
theorem dX4_undo_1 : decode cX4_undo 1 = .ok (.getfield 22, 3) := by decide +kernel
theorem dX4_undo_4 : decode cX4_undo 4 = .ok (.getfield 67, 3) := by decide +kernel
theorem dX4_undo_7 : decode cX4_undo 7 = .ok (.ifCond .ne 6, 3) := by decide +kernel
theorem dX4_undo_10 : decode cX4_undo 10 = .ok (.ldc 71, 2) := by decide +kernel
theorem dX4_undo_12 : decode cX4_undo 12 = .ok (.ireturn, 1) := by decide +kernel
theorem dX4_undo_13 : decode cX4_undo 13 = .ok (.aload_n 0, 1) := by decide +kernel
theorem dX4_undo_14 : decode cX4_undo 14 = .ok (.getfield 22, 3) := by decide +kernel
theorem dX4_undo_17 : decode cX4_undo 17 = .ok (.aload_n 0, 1) := by decide +kernel
theorem dX4_undo_18 : decode cX4_undo 18 = .ok (.getfield 10, 3) := by decide +kernel
theorem dX4_undo_21 : decode cX4_undo 21 = .ok (.invokevirtual 72, 3) := by decide +kernel
theorem dX4_undo_24 : decode cX4_undo 24 = .ok (.aload_n 0, 1) := by decide +kernel
theorem dX4_undo_25 : decode cX4_undo 25 = .ok (.getfield 22, 3) := by decide +kernel
theorem dX4_undo_28 : decode cX4_undo 28 = .ok (.getfield 67, 3) := by decide +kernel
theorem dX4_undo_31 : decode cX4_undo 31 = .ok (.ireturn, 1) := by decide +kernel
set_option maxRecDepth 20000 in
theorem ggX4_append_X4_isOutside : GoodIn wsX4_append wsX4_isOutside := goodIn_r _ [6] (by decide +kernel) (by decide +kernel)
set_option maxRecDepth 20000 in
theorem gX4_append_X4_isOutside : GoodIn wsX4_append (va_wsS RX4 75 yX4_isOutside wsX4_isOutside) := goodIn_app (goodIn_of _ (by decide +kernel)) ggX4_append_X4_isOutside
set_option maxRecDepth 20000 in
theorem ggX4_append_X2_add : GoodIn wsX4_append wsX2_add := goodIn_r _ [11, 12, 13, 14, 19, 20, 21, 22, 23, 24] (by decide +kernel) (by decide +kernel)
set_option maxRecDepth 20000 in
theorem gX4_append_X2_add : GoodIn wsX4_append (wsV RX4 80 RX2 yX2_add wsX2_add) := goodIn_app (goodIn_of _ (by decide +kernel)) ggX4_append_X2_add
theorem dX4_append_0 : decode cX4_append 0 = .ok (.iload_n 1, 1) := by decide +kernel
theorem dX4_append_1 : decode cX4_append 1 = .ok (.iconst 1, 1) := by decide +kernel
theorem dX4_append_2 : decode cX4_append 2 = .ok (.sipush 255, 3) := by decide +kernel
theorem dX4_append_5 : decode cX4_append 5 = .ok (.invokestatic 75, 3) := by decide +kernel
theorem dX4_append_8 : decode cX4_append 8 = .ok (.ifCond .eq 6, 3) := by decide +kernel
theorem dX4_append_11 : decode cX4_append 11 = .ok (.ldc 79, 2) := by decide +kernel
theorem dX4_append_13 : decode cX4_append 13 = .ok (.ireturn, 1) := by decide +kernel
theorem dX4_append_14 : decode cX4_append 14 = .ok (.aload_n 0, 1) := by decide +kernel
theorem dX4_append_15 : decode cX4_append 15 = .ok (.getfield 29, 3) := by decide +kernel
theorem dX4_append_18 : decode cX4_append 18 = .ok (.iload_n 1, 1) := by decide +kernel
theorem dX4_append_19 : decode cX4_append 19 = .ok (.i2c, 1) := by decide +kernel
theorem dX4_append_20 : decode cX4_append 20 = .ok (.invokevirtual 80, 3) := by decide +kernel
theorem dX4_append_23 : decode cX4_append 23 = .ok (.ireturn, 1) := by decide +kernel
set_option maxRecDepth 20000 in
theorem ggX4_clearText_X2_clear : GoodIn wsX4_clearText wsX2_clear := goodIn_r _ [6, 7, 12, 13, 14, 15, 16, 17] (by decide +kernel) (by decide +kernel)
set_option maxRecDepth 20000 in
theorem gX4_clearText_X2_clear : GoodIn wsX4_clearText (wsV RX4 84 RX2 yX2_clear wsX2_clear) := goodIn_app (goodIn_of _ (by decide +kernel)) ggX4_clearText_X2_clear
theorem dX4_clearText_0 : decode cX4_clearText 0 = .ok (.aload_n 0, 1) := by decide +kernel
theorem dX4_clearText_1 : decode cX4_clearText 1 = .ok (.getfield 29, 3) := by decide +kernel
theorem dX4_clearText_4 : decode cX4_clearText 4 = .ok (.invokevirtual 84, 3) := by decide +kernel
theorem dX4_clearText_7 : decode cX4_clearText 7 = .ok (.ireturn, 1) := by decide +kernel
set_option maxRecDepth 20000 in
theorem ggX4_run_X3_copyFrom : GoodIn wsX4_run wsX3_copyFrom := goodIn_r _ [9, 10, 11, 12, 13, 14, 15, 16, 17, 18, 19, 20, 21, 22, 23, 24, 25, 26, 27, 28, 29, 264, 265, 266, 267, 268, 269, 270, 271, 272, 273, 274] (by decide +kernel) (by decide +kernel)
set_option maxRecDepth 20000 in
theorem gX4_run_X3_copyFrom : GoodIn wsX4_run (wsV RX4 33 RX3 yX3_copyFrom wsX3_copyFrom) := goodIn_app (goodIn_of _ (by decide +kernel)) ggX4_run_X3_copyFrom
set_option maxRecDepth 20000 in
theorem ggX4_run_X2_rewind : GoodIn wsX4_run wsX2_rewind := goodIn_r _ [34, 35, 36, 37, 258, 259, 260, 261, 262, 263] (by decide +kernel) (by decide +kernel)
set_option maxRecDepth 20000 in
theorem gX4_run_X2_rewind : GoodIn wsX4_run (wsV RX4 88 RX2 yX2_rewind wsX2_rewind) := goodIn_app (goodIn_of _ (by decide +kernel)) ggX4_run_X2_rewind
set_option maxRecDepth 20000 in
theorem ggX4_run_X2_readCommand : GoodIn wsX4_run wsX2_readCommand := goodIn_r _ [41, 35, 42, 37, 43, 44, 45, 46, 33, 47, 36, 48, 49, 50, 51, 52, 53, 54, 55, 56, 57, 58, 59, 60, 61, 62, 63, 64, 65, 66, 67, 68, 69, 70, 71, 72, 73, 74, 75, 76, 77, 78, 79, 80, 81, 82, 83, 84, 85, 86, 87, 88, 89, 90, 91, 92, 93, 94, 95, 96, 97, 98, 99, 100, 101, 102, 103, 104, 105, 106, 107, 108, 109, 110, 111, 112, 113, 114, 115, 116, 117, 118, 119, 120, 121, 122, 123, 124, 125, 126, 258, 259, 260, 261, 262, 263] (by decide +kernel) (by decide +kernel)
set_option maxRecDepth 20000 in
theorem gX4_run_X2_readCommand : GoodIn wsX4_run (wsV RX4 91 RX2 yX2_readCommand wsX2_readCommand) := goodIn_app (goodIn_of _ (by decide +kernel)) ggX4_run_X2_readCommand
set_option maxRecDepth 20000 in
theorem ggX4_run_X4_performOnDraft : GoodIn wsX4_run wsX4_performOnDraft := goodIn_r _ [131, 3, 1, 132, 133, 134, 135, 33, 136, 43, 137, 138, 139, 8, 140, 10, 141, 142, 143, 12, 144, 130, 145, 146, 147, 148, 17, 149, 150, 151, 152, 153, 28, 19, 20, 21, 22, 23, 24, 25, 154, 155, 156, 157, 13, 11, 158, 159, 160, 161, 162, 163, 164, 165, 26, 27, 166, 167, 168, 169, 170, 171, 172, 173, 174, 29, 175, 176, 177, 178, 179, 180, 181, 182, 183, 184, 185, 186, 187, 188, 50, 189, 190, 191, 192, 193, 194, 195, 196, 197, 198, 199, 200, 201, 202, 203, 204, 205, 206, 207, 208, 209, 210, 211, 212, 213, 214, 215, 216, 217, 218, 219, 220, 221, 222, 223, 224, 225, 226, 227, 228, 229, 230, 254, 255, 256, 257, 258, 259, 260, 261, 262, 263, 264, 265, 266, 267, 268, 269, 270, 271, 272, 273, 274] (by decide +kernel) (by decide +kernel)
set_option maxRecDepth 20000 in
theorem gX4_run_X4_performOnDraft : GoodIn wsX4_run (wsV RX4 94 RX4 yX4_performOnDraft wsX4_performOnDraft) := goodIn_app (goodIn_of _ (by decide +kernel)) ggX4_run_X4_performOnDraft
set_option maxRecDepth 20000 in
theorem ggX4_run_X2_clear : GoodIn wsX4_run wsX2_clear := goodIn_r _ [234, 42, 258, 259, 260, 261, 262, 263] (by decide +kernel) (by decide +kernel)
set_option maxRecDepth 20000 in
theorem gX4_run_X2_clear : GoodIn wsX4_run (wsV RX4 84 RX2 yX2_clear wsX2_clear) := goodIn_app (goodIn_of _ (by decide +kernel)) ggX4_run_X2_clear
set_option maxRecDepth 20000 in
theorem ggX4_run_X4_keepDraft : GoodIn wsX4_run wsX4_keepDraft := goodIn_r _ [238, 239, 2, 1, 240, 241, 242, 243, 244, 245, 246, 247, 49, 50, 51, 248, 249, 250, 251, 252, 253, 6, 7, 8, 9, 10, 11, 12, 13, 14, 15, 16, 17, 18, 19, 20, 21, 22, 23, 24, 25, 26, 27, 28, 29, 5, 254, 255, 256, 257, 275, 276, 277, 264, 265, 266, 267, 268, 269, 270, 271, 272, 273, 274] (by decide +kernel) (by decide +kernel)
set_option maxRecDepth 20000 in
theorem gX4_run_X4_keepDraft : GoodIn wsX4_run (wsV RX4 41 RX4 yX4_keepDraft wsX4_keepDraft) := goodIn_app (goodIn_of _ (by decide +kernel)) ggX4_run_X4_keepDraft
theorem dX4_run_0 : decode cX4_run 0 = .ok (.aload_n 0, 1) := by decide +kernel
theorem dX4_run_1 : decode cX4_run 1 = .ok (.getfield 16, 3) := by decide +kernel
theorem dX4_run_4 : decode cX4_run 4 = .ok (.aload_n 0, 1) := by decide +kernel
theorem dX4_run_5 : decode cX4_run 5 = .ok (.getfield 10, 3) := by decide +kernel
theorem dX4_run_8 : decode cX4_run 8 = .ok (.invokevirtual 33, 3) := by decide +kernel
theorem dX4_run_11 : decode cX4_run 11 = .ok (.aload_n 0, 1) := by decide +kernel
theorem dX4_run_12 : decode cX4_run 12 = .ok (.getfield 29, 3) := by decide +kernel
theorem dX4_run_15 : decode cX4_run 15 = .ok (.invokevirtual 88, 3) := by decide +kernel
theorem dX4_run_18 : decode cX4_run 18 = .ok (.iconst 0, 1) := by decide +kernel
theorem dX4_run_19 : decode cX4_run 19 = .ok (.istore_n 1, 1) := by decide +kernel
theorem dX4_run_20 : decode cX4_run 20 = .ok (.aload_n 0, 1) := by decide +kernel
theorem dX4_run_21 : decode cX4_run 21 = .ok (.getfield 29, 3) := by decide +kernel
theorem dX4_run_24 : decode cX4_run 24 = .ok (.invokevirtual 91, 3) := by decide +kernel
theorem dX4_run_27 : decode cX4_run 27 = .ok (.istore_n 2, 1) := by decide +kernel
theorem dX4_run_28 : decode cX4_run 28 = .ok (.iload_n 2, 1) := by decide +kernel
theorem dX4_run_29 : decode cX4_run 29 = .ok (.ifCond .lt 43, 3) := by decide +kernel
theorem dX4_run_32 : decode cX4_run 32 = .ok (.iload_n 1, 1) := by decide +kernel
theorem dX4_run_33 : decode cX4_run 33 = .ok (.bipush 100, 2) := by decide +kernel
theorem dX4_run_35 : decode cX4_run 35 = .ok (.if_icmp .ge 37, 3) := by decide +kernel
theorem dX4_run_38 : decode cX4_run 38 = .ok (.aload_n 0, 1) := by decide +kernel
theorem dX4_run_39 : decode cX4_run 39 = .ok (.iload_n 2, 1) := by decide +kernel
theorem dX4_run_40 : decode cX4_run 40 = .ok (.invokevirtual 94, 3) := by decide +kernel
theorem dX4_run_43 : decode cX4_run 43 = .ok (.ifCond .ge 15, 3) := by decide +kernel
theorem dX4_run_46 : decode cX4_run 46 = .ok (.sipush (-1000), 3) := by decide +kernel
theorem dX4_run_49 : decode cX4_run 49 = .ok (.aload_n 0, 1) := by decide +kernel
theorem dX4_run_50 : decode cX4_run 50 = .ok (.getfield 29, 3) := by decide +kernel
theorem dX4_run_53 : decode cX4_run 53 = .ok (.getfield 97, 3) := by decide +kernel
theorem dX4_run_56 : decode cX4_run 56 = .ok (.isub, 1) := by decide +kernel
theorem dX4_run_57 : decode cX4_run 57 = .ok (.ireturn, 1) := by decide +kernel
theorem dX4_run_58 : decode cX4_run 58 = .ok (.iinc 1 1, 3) := by decide +kernel
theorem dX4_run_61 : decode cX4_run 61 = .ok (.aload_n 0, 1) := by decide +kernel
theorem dX4_run_62 : decode cX4_run 62 = .ok (.getfield 29, 3) := by decide +kernel
theorem dX4_run_65 : decode cX4_run 65 = .ok (.invokevirtual 91, 3) := by decide +kernel
theorem dX4_run_68 : decode cX4_run 68 = .ok (.istore_n 2, 1) := by decide +kernel
theorem dX4_run_69 : decode cX4_run 69 = .ok (.goto (-41), 3) := by decide +kernel
theorem dX4_run_72 : decode cX4_run 72 = .ok (.iload_n 2, 1) := by decide +kernel
theorem dX4_run_73 : decode cX4_run 73 = .ok (.bipush (-2), 2) := by decide +kernel
theorem dX4_run_75 : decode cX4_run 75 = .ok (.if_icmp .ne 15, 3) := by decide +kernel
theorem dX4_run_78 : decode cX4_run 78 = .ok (.sipush (-1000), 3) := by decide +kernel
theorem dX4_run_81 : decode cX4_run 81 = .ok (.aload_n 0, 1) := by decide +kernel
theorem dX4_run_82 : decode cX4_run 82 = .ok (.getfield 29, 3) := by decide +kernel
theorem dX4_run_85 : decode cX4_run 85 = .ok (.getfield 97, 3) := by decide +kernel
theorem dX4_run_88 : decode cX4_run 88 = .ok (.isub, 1) := by decide +kernel
theorem dX4_run_89 : decode cX4_run 89 = .ok (.ireturn, 1) := by decide +kernel
theorem dX4_run_90 : decode cX4_run 90 = .ok (.aload_n 0, 1) := by decide +kernel
theorem dX4_run_91 : decode cX4_run 91 = .ok (.getfield 29, 3) := by decide +kernel
theorem dX4_run_94 : decode cX4_run 94 = .ok (.invokevirtual 84, 3) := by decide +kernel
theorem dX4_run_97 : decode cX4_run 97 = .ok (.pop, 1) := by decide +kernel
theorem dX4_run_98 : decode cX4_run 98 = .ok (.aload_n 0, 1) := by decide +kernel
theorem dX4_run_99 : decode cX4_run 99 = .ok (.iload_n 1, 1) := by decide +kernel
theorem dX4_run_100 : decode cX4_run 100 = .ok (.invokevirtual 41, 3) := by decide +kernel
theorem dX4_run_103 : decode cX4_run 103 = .ok (.ireturn, 1) := by decide +kernel
set_option maxRecDepth 20000 in
theorem ggX4_count_X1_measuredLines : GoodIn wsX4_count wsX1_measuredLines := goodIn_r _ [18, 19, 75, 76, 77, 78, 79, 80, 81] (by decide +kernel) (by decide +kernel)
set_option maxRecDepth 20000 in
theorem gX4_count_X1_measuredLines : GoodIn wsX4_count (wsV RX4 107 RX1 yX1_measuredLines wsX1_measuredLines) := goodIn_app (goodIn_of _ (by decide +kernel)) ggX4_count_X1_measuredLines
set_option maxRecDepth 20000 in
theorem ggX4_count_X1_total : GoodIn wsX4_count wsX1_total := goodIn_r _ [23, 24, 25, 26, 27, 17, 28, 29, 30, 31, 32, 33, 34, 35, 36, 37, 38, 39, 40, 41, 42, 43, 44, 45, 46, 47, 48, 19, 49, 75, 76, 77, 78, 79, 80, 81] (by decide +kernel) (by decide +kernel)
set_option maxRecDepth 20000 in
theorem gX4_count_X1_total : GoodIn wsX4_count (wsV RX4 117 RX1 yX1_total wsX1_total) := goodIn_app (goodIn_of _ (by decide +kernel)) ggX4_count_X1_total
set_option maxRecDepth 20000 in
theorem ggX4_count_X3_top : GoodIn wsX4_count wsX3_top := goodIn_r _ [54, 55, 56, 57, 58, 26, 27, 17, 28, 24, 29, 30, 31, 32, 33, 34, 35, 36, 37, 38, 39, 40, 41, 42, 43, 44, 45, 46, 47, 48, 19, 49, 71, 72, 73, 74, 75, 76, 77, 78, 79, 80, 81] (by decide +kernel) (by decide +kernel)
set_option maxRecDepth 20000 in
theorem gX4_count_X3_top : GoodIn wsX4_count (wsV RX4 120 RX3 yX3_top wsX3_top) := goodIn_app (goodIn_of _ (by decide +kernel)) ggX4_count_X3_top
set_option maxRecDepth 20000 in
theorem ggX4_count_X1_guess : GoodIn wsX4_count wsX1_guess := goodIn_r _ [48, 19, 49, 75, 76, 77, 78, 79, 80, 81] (by decide +kernel) (by decide +kernel)
set_option maxRecDepth 20000 in
theorem gX4_count_X1_guess : GoodIn wsX4_count (wsV RX4 129 RX1 yX1_guess wsX1_guess) := goodIn_app (goodIn_of _ (by decide +kernel)) ggX4_count_X1_guess
set_option maxRecDepth 20000 in
theorem ggX4_count_X3_linesShown : GoodIn wsX4_count wsX3_linesShown := goodIn_r _ [63, 57, 56, 55, 64, 65, 66, 30, 31, 17, 32, 33, 34, 35, 36, 37, 38, 39, 24, 40, 41, 42, 43, 44, 45, 46, 47, 48, 19, 49, 71, 72, 73, 74, 75, 76, 77, 78, 79, 80, 81] (by decide +kernel) (by decide +kernel)
set_option maxRecDepth 20000 in
theorem gX4_count_X3_linesShown : GoodIn wsX4_count (wsV RX4 132 RX3 yX3_linesShown wsX3_linesShown) := goodIn_app (goodIn_of _ (by decide +kernel)) ggX4_count_X3_linesShown
theorem dX4_count_0 : decode cX4_count 0 = .ok (.iload_n 1, 1) := by decide +kernel
theorem dX4_count_1 : decode cX4_count 1 = .ok (.tableswitch 243 0 13 #[71, 82, 93, 119, 145, 156, 164, 172, 183, 195, 207, 219, 227, 235], 71) := by decide +kernel
theorem dX4_count_72 : decode cX4_count 72 = .ok (.aload_n 0, 1) := by decide +kernel
theorem dX4_count_73 : decode cX4_count 73 = .ok (.getfield 10, 3) := by decide +kernel
theorem dX4_count_76 : decode cX4_count 76 = .ok (.getfield 100, 3) := by decide +kernel
theorem dX4_count_79 : decode cX4_count 79 = .ok (.getfield 104, 3) := by decide +kernel
theorem dX4_count_82 : decode cX4_count 82 = .ok (.ireturn, 1) := by decide +kernel
theorem dX4_count_83 : decode cX4_count 83 = .ok (.aload_n 0, 1) := by decide +kernel
theorem dX4_count_84 : decode cX4_count 84 = .ok (.getfield 10, 3) := by decide +kernel
theorem dX4_count_87 : decode cX4_count 87 = .ok (.getfield 100, 3) := by decide +kernel
theorem dX4_count_90 : decode cX4_count 90 = .ok (.invokevirtual 107, 3) := by decide +kernel
theorem dX4_count_93 : decode cX4_count 93 = .ok (.ireturn, 1) := by decide +kernel
theorem dX4_count_94 : decode cX4_count 94 = .ok (.aload_n 0, 1) := by decide +kernel
theorem dX4_count_95 : decode cX4_count 95 = .ok (.getfield 10, 3) := by decide +kernel
theorem dX4_count_98 : decode cX4_count 98 = .ok (.getfield 100, 3) := by decide +kernel
theorem dX4_count_101 : decode cX4_count 101 = .ok (.getfield 104, 3) := by decide +kernel
theorem dX4_count_104 : decode cX4_count 104 = .ok (.ifCond .ne 8, 3) := by decide +kernel
theorem dX4_count_107 : decode cX4_count 107 = .ok (.ldc 110, 2) := by decide +kernel
theorem dX4_count_109 : decode cX4_count 109 = .ok (.goto 10, 3) := by decide +kernel
theorem dX4_count_112 : decode cX4_count 112 = .ok (.aload_n 0, 1) := by decide +kernel
theorem dX4_count_113 : decode cX4_count 113 = .ok (.getfield 10, 3) := by decide +kernel
theorem dX4_count_116 : decode cX4_count 116 = .ok (.getfield 111, 3) := by decide +kernel
theorem dX4_count_119 : decode cX4_count 119 = .ok (.ireturn, 1) := by decide +kernel
theorem dX4_count_120 : decode cX4_count 120 = .ok (.aload_n 0, 1) := by decide +kernel
theorem dX4_count_121 : decode cX4_count 121 = .ok (.getfield 10, 3) := by decide +kernel
theorem dX4_count_124 : decode cX4_count 124 = .ok (.getfield 100, 3) := by decide +kernel
theorem dX4_count_127 : decode cX4_count 127 = .ok (.getfield 104, 3) := by decide +kernel
theorem dX4_count_130 : decode cX4_count 130 = .ok (.ifCond .ne 8, 3) := by decide +kernel
theorem dX4_count_133 : decode cX4_count 133 = .ok (.ldc 110, 2) := by decide +kernel
theorem dX4_count_135 : decode cX4_count 135 = .ok (.goto 10, 3) := by decide +kernel
theorem dX4_count_138 : decode cX4_count 138 = .ok (.aload_n 0, 1) := by decide +kernel
theorem dX4_count_139 : decode cX4_count 139 = .ok (.getfield 10, 3) := by decide +kernel
theorem dX4_count_142 : decode cX4_count 142 = .ok (.getfield 114, 3) := by decide +kernel
theorem dX4_count_145 : decode cX4_count 145 = .ok (.ireturn, 1) := by decide +kernel
theorem dX4_count_146 : decode cX4_count 146 = .ok (.aload_n 0, 1) := by decide +kernel
theorem dX4_count_147 : decode cX4_count 147 = .ok (.getfield 10, 3) := by decide +kernel
theorem dX4_count_150 : decode cX4_count 150 = .ok (.getfield 100, 3) := by decide +kernel
theorem dX4_count_153 : decode cX4_count 153 = .ok (.invokevirtual 117, 3) := by decide +kernel
theorem dX4_count_156 : decode cX4_count 156 = .ok (.ireturn, 1) := by decide +kernel
theorem dX4_count_157 : decode cX4_count 157 = .ok (.aload_n 0, 1) := by decide +kernel
theorem dX4_count_158 : decode cX4_count 158 = .ok (.getfield 10, 3) := by decide +kernel
theorem dX4_count_161 : decode cX4_count 161 = .ok (.invokevirtual 120, 3) := by decide +kernel
theorem dX4_count_164 : decode cX4_count 164 = .ok (.ireturn, 1) := by decide +kernel
theorem dX4_count_165 : decode cX4_count 165 = .ok (.aload_n 0, 1) := by decide +kernel
theorem dX4_count_166 : decode cX4_count 166 = .ok (.getfield 10, 3) := by decide +kernel
theorem dX4_count_169 : decode cX4_count 169 = .ok (.getfield 123, 3) := by decide +kernel
theorem dX4_count_172 : decode cX4_count 172 = .ok (.ireturn, 1) := by decide +kernel
theorem dX4_count_173 : decode cX4_count 173 = .ok (.aload_n 0, 1) := by decide +kernel
theorem dX4_count_174 : decode cX4_count 174 = .ok (.getfield 10, 3) := by decide +kernel
theorem dX4_count_177 : decode cX4_count 177 = .ok (.getfield 100, 3) := by decide +kernel
theorem dX4_count_180 : decode cX4_count 180 = .ok (.getfield 126, 3) := by decide +kernel
theorem dX4_count_183 : decode cX4_count 183 = .ok (.ireturn, 1) := by decide +kernel
theorem dX4_count_184 : decode cX4_count 184 = .ok (.aload_n 0, 1) := by decide +kernel
theorem dX4_count_185 : decode cX4_count 185 = .ok (.getfield 10, 3) := by decide +kernel
theorem dX4_count_188 : decode cX4_count 188 = .ok (.getfield 100, 3) := by decide +kernel
theorem dX4_count_191 : decode cX4_count 191 = .ok (.iconst 0, 1) := by decide +kernel
theorem dX4_count_192 : decode cX4_count 192 = .ok (.invokevirtual 129, 3) := by decide +kernel
theorem dX4_count_195 : decode cX4_count 195 = .ok (.ireturn, 1) := by decide +kernel
theorem dX4_count_196 : decode cX4_count 196 = .ok (.aload_n 0, 1) := by decide +kernel
theorem dX4_count_197 : decode cX4_count 197 = .ok (.getfield 10, 3) := by decide +kernel
theorem dX4_count_200 : decode cX4_count 200 = .ok (.getfield 100, 3) := by decide +kernel
theorem dX4_count_203 : decode cX4_count 203 = .ok (.iconst 1, 1) := by decide +kernel
theorem dX4_count_204 : decode cX4_count 204 = .ok (.invokevirtual 129, 3) := by decide +kernel
theorem dX4_count_207 : decode cX4_count 207 = .ok (.ireturn, 1) := by decide +kernel
theorem dX4_count_208 : decode cX4_count 208 = .ok (.aload_n 0, 1) := by decide +kernel
theorem dX4_count_209 : decode cX4_count 209 = .ok (.getfield 10, 3) := by decide +kernel
theorem dX4_count_212 : decode cX4_count 212 = .ok (.getfield 100, 3) := by decide +kernel
theorem dX4_count_215 : decode cX4_count 215 = .ok (.iconst 2, 1) := by decide +kernel
theorem dX4_count_216 : decode cX4_count 216 = .ok (.invokevirtual 129, 3) := by decide +kernel
theorem dX4_count_219 : decode cX4_count 219 = .ok (.ireturn, 1) := by decide +kernel
theorem dX4_count_220 : decode cX4_count 220 = .ok (.aload_n 0, 1) := by decide +kernel
theorem dX4_count_221 : decode cX4_count 221 = .ok (.getfield 10, 3) := by decide +kernel
theorem dX4_count_224 : decode cX4_count 224 = .ok (.invokevirtual 132, 3) := by decide +kernel
theorem dX4_count_227 : decode cX4_count 227 = .ok (.ireturn, 1) := by decide +kernel
theorem dX4_count_228 : decode cX4_count 228 = .ok (.aload_n 0, 1) := by decide +kernel
theorem dX4_count_229 : decode cX4_count 229 = .ok (.getfield 22, 3) := by decide +kernel
theorem dX4_count_232 : decode cX4_count 232 = .ok (.getfield 67, 3) := by decide +kernel
theorem dX4_count_235 : decode cX4_count 235 = .ok (.ireturn, 1) := by decide +kernel
theorem dX4_count_236 : decode cX4_count 236 = .ok (.aload_n 0, 1) := by decide +kernel
theorem dX4_count_237 : decode cX4_count 237 = .ok (.getfield 29, 3) := by decide +kernel
theorem dX4_count_240 : decode cX4_count 240 = .ok (.getfield 135, 3) := by decide +kernel
theorem dX4_count_243 : decode cX4_count 243 = .ok (.ireturn, 1) := by decide +kernel
theorem dX4_count_244 : decode cX4_count 244 = .ok (.ldc 79, 2) := by decide +kernel
theorem dX4_count_246 : decode cX4_count 246 = .ok (.ireturn, 1) := by decide +kernel
set_option maxRecDepth 20000 in
theorem ggX4_line_X1_isLine : GoodIn wsX4_line wsX1_isLine := goodIn_r _ [11, 12, 58, 59, 60, 61, 62, 63, 64] (by decide +kernel) (by decide +kernel)
set_option maxRecDepth 20000 in
theorem gX4_line_X1_isLine : GoodIn wsX4_line (wsV RX4 138 RX1 yX1_isLine wsX1_isLine) := goodIn_app (goodIn_of _ (by decide +kernel)) ggX4_line_X1_isLine
set_option maxRecDepth 20000 in
theorem ggX4_line_X1_heightOf : GoodIn wsX4_line wsX1_heightOf := goodIn_r _ [16, 17, 18, 19, 20, 8, 9, 10, 11, 12, 21, 22, 23, 24, 25, 26, 27, 28, 29, 30, 31, 58, 59, 60, 61, 62, 63, 64] (by decide +kernel) (by decide +kernel)
set_option maxRecDepth 20000 in
theorem gX4_line_X1_heightOf : GoodIn wsX4_line (wsV RX4 149 RX1 yX1_heightOf wsX1_heightOf) := goodIn_app (goodIn_of _ (by decide +kernel)) ggX4_line_X1_heightOf
set_option maxRecDepth 20000 in
theorem ggX4_line_X1_topOf : GoodIn wsX4_line wsX1_topOf := goodIn_r _ [35, 12, 36, 14, 15, 10, 16, 17, 18, 19, 20, 8, 9, 11, 21, 22, 23, 24, 25, 26, 27, 28, 29, 30, 31, 58, 59, 60, 61, 62, 63, 64] (by decide +kernel) (by decide +kernel)
set_option maxRecDepth 20000 in
theorem gX4_line_X1_topOf : GoodIn wsX4_line (wsV RX4 156 RX1 yX1_topOf wsX1_topOf) := goodIn_app (goodIn_of _ (by decide +kernel)) ggX4_line_X1_topOf
set_option maxRecDepth 20000 in
theorem ggX4_line_X1_trueHeightOf : GoodIn wsX4_line wsX1_trueHeightOf := goodIn_r _ [40, 18, 19, 20, 8, 9, 10, 11, 12, 21, 22, 23, 24, 25, 58, 59, 60, 61, 62, 63, 64] (by decide +kernel) (by decide +kernel)
set_option maxRecDepth 20000 in
theorem gX4_line_X1_trueHeightOf : GoodIn wsX4_line (wsV RX4 159 RX1 yX1_trueHeightOf wsX1_trueHeightOf) := goodIn_app (goodIn_of _ (by decide +kernel)) ggX4_line_X1_trueHeightOf
set_option maxRecDepth 20000 in
theorem ggX4_line_X3_top : GoodIn wsX4_line wsX3_top := goodIn_r _ [45, 46, 47, 48, 49, 33, 34, 10, 35, 12, 36, 14, 15, 16, 17, 18, 19, 20, 8, 9, 11, 21, 22, 23, 24, 25, 26, 27, 28, 29, 30, 31, 54, 55, 56, 57, 58, 59, 60, 61, 62, 63, 64] (by decide +kernel) (by decide +kernel)
set_option maxRecDepth 20000 in
theorem gX4_line_X3_top : GoodIn wsX4_line (wsV RX4 120 RX3 yX3_top wsX3_top) := goodIn_app (goodIn_of _ (by decide +kernel)) ggX4_line_X3_top
theorem dX4_line_0 : decode cX4_line 0 = .ok (.aload_n 0, 1) := by decide +kernel
theorem dX4_line_1 : decode cX4_line 1 = .ok (.getfield 10, 3) := by decide +kernel
theorem dX4_line_4 : decode cX4_line 4 = .ok (.getfield 100, 3) := by decide +kernel
theorem dX4_line_7 : decode cX4_line 7 = .ok (.iload_n 1, 1) := by decide +kernel
theorem dX4_line_8 : decode cX4_line 8 = .ok (.invokevirtual 138, 3) := by decide +kernel
theorem dX4_line_11 : decode cX4_line 11 = .ok (.ifCond .ne 6, 3) := by decide +kernel
theorem dX4_line_14 : decode cX4_line 14 = .ok (.ldc 79, 2) := by decide +kernel
theorem dX4_line_16 : decode cX4_line 16 = .ok (.ireturn, 1) := by decide +kernel
theorem dX4_line_17 : decode cX4_line 17 = .ok (.iload_n 2, 1) := by decide +kernel
theorem dX4_line_18 : decode cX4_line 18 = .ok (.tableswitch 145 0 6 #[42, 55, 68, 80, 101, 113, 125], 42) := by decide +kernel
theorem dX4_line_60 : decode cX4_line 60 = .ok (.aload_n 0, 1) := by decide +kernel
theorem dX4_line_61 : decode cX4_line 61 = .ok (.getfield 10, 3) := by decide +kernel
theorem dX4_line_64 : decode cX4_line 64 = .ok (.getfield 100, 3) := by decide +kernel
theorem dX4_line_67 : decode cX4_line 67 = .ok (.getfield 142, 3) := by decide +kernel
theorem dX4_line_70 : decode cX4_line 70 = .ok (.iload_n 1, 1) := by decide +kernel
theorem dX4_line_71 : decode cX4_line 71 = .ok (.iaload, 1) := by decide +kernel
theorem dX4_line_72 : decode cX4_line 72 = .ok (.ireturn, 1) := by decide +kernel
theorem dX4_line_73 : decode cX4_line 73 = .ok (.aload_n 0, 1) := by decide +kernel
theorem dX4_line_74 : decode cX4_line 74 = .ok (.getfield 10, 3) := by decide +kernel
theorem dX4_line_77 : decode cX4_line 77 = .ok (.getfield 100, 3) := by decide +kernel
theorem dX4_line_80 : decode cX4_line 80 = .ok (.getfield 146, 3) := by decide +kernel
theorem dX4_line_83 : decode cX4_line 83 = .ok (.iload_n 1, 1) := by decide +kernel
theorem dX4_line_84 : decode cX4_line 84 = .ok (.iaload, 1) := by decide +kernel
theorem dX4_line_85 : decode cX4_line 85 = .ok (.ireturn, 1) := by decide +kernel
theorem dX4_line_86 : decode cX4_line 86 = .ok (.aload_n 0, 1) := by decide +kernel
theorem dX4_line_87 : decode cX4_line 87 = .ok (.getfield 10, 3) := by decide +kernel
theorem dX4_line_90 : decode cX4_line 90 = .ok (.getfield 100, 3) := by decide +kernel
theorem dX4_line_93 : decode cX4_line 93 = .ok (.iload_n 1, 1) := by decide +kernel
theorem dX4_line_94 : decode cX4_line 94 = .ok (.invokevirtual 149, 3) := by decide +kernel
theorem dX4_line_97 : decode cX4_line 97 = .ok (.ireturn, 1) := by decide +kernel
theorem dX4_line_98 : decode cX4_line 98 = .ok (.aload_n 0, 1) := by decide +kernel
theorem dX4_line_99 : decode cX4_line 99 = .ok (.getfield 10, 3) := by decide +kernel
theorem dX4_line_102 : decode cX4_line 102 = .ok (.getfield 100, 3) := by decide +kernel
theorem dX4_line_105 : decode cX4_line 105 = .ok (.getfield 152, 3) := by decide +kernel
theorem dX4_line_108 : decode cX4_line 108 = .ok (.iload_n 1, 1) := by decide +kernel
theorem dX4_line_109 : decode cX4_line 109 = .ok (.baload, 1) := by decide +kernel
theorem dX4_line_110 : decode cX4_line 110 = .ok (.ifCond .eq 7, 3) := by decide +kernel
theorem dX4_line_113 : decode cX4_line 113 = .ok (.iconst 1, 1) := by decide +kernel
theorem dX4_line_114 : decode cX4_line 114 = .ok (.goto 4, 3) := by decide +kernel
theorem dX4_line_117 : decode cX4_line 117 = .ok (.iconst 0, 1) := by decide +kernel
theorem dX4_line_118 : decode cX4_line 118 = .ok (.ireturn, 1) := by decide +kernel
theorem dX4_line_119 : decode cX4_line 119 = .ok (.aload_n 0, 1) := by decide +kernel
theorem dX4_line_120 : decode cX4_line 120 = .ok (.getfield 10, 3) := by decide +kernel
theorem dX4_line_123 : decode cX4_line 123 = .ok (.getfield 100, 3) := by decide +kernel
theorem dX4_line_126 : decode cX4_line 126 = .ok (.iload_n 1, 1) := by decide +kernel
theorem dX4_line_127 : decode cX4_line 127 = .ok (.invokevirtual 156, 3) := by decide +kernel
theorem dX4_line_130 : decode cX4_line 130 = .ok (.ireturn, 1) := by decide +kernel
theorem dX4_line_131 : decode cX4_line 131 = .ok (.aload_n 0, 1) := by decide +kernel
theorem dX4_line_132 : decode cX4_line 132 = .ok (.getfield 10, 3) := by decide +kernel
theorem dX4_line_135 : decode cX4_line 135 = .ok (.getfield 100, 3) := by decide +kernel
theorem dX4_line_138 : decode cX4_line 138 = .ok (.iload_n 1, 1) := by decide +kernel
theorem dX4_line_139 : decode cX4_line 139 = .ok (.invokevirtual 159, 3) := by decide +kernel
theorem dX4_line_142 : decode cX4_line 142 = .ok (.ireturn, 1) := by decide +kernel
theorem dX4_line_143 : decode cX4_line 143 = .ok (.aload_n 0, 1) := by decide +kernel
theorem dX4_line_144 : decode cX4_line 144 = .ok (.getfield 10, 3) := by decide +kernel
theorem dX4_line_147 : decode cX4_line 147 = .ok (.getfield 100, 3) := by decide +kernel
theorem dX4_line_150 : decode cX4_line 150 = .ok (.iload_n 1, 1) := by decide +kernel
theorem dX4_line_151 : decode cX4_line 151 = .ok (.invokevirtual 156, 3) := by decide +kernel
theorem dX4_line_154 : decode cX4_line 154 = .ok (.aload_n 0, 1) := by decide +kernel
theorem dX4_line_155 : decode cX4_line 155 = .ok (.getfield 10, 3) := by decide +kernel
theorem dX4_line_158 : decode cX4_line 158 = .ok (.invokevirtual 120, 3) := by decide +kernel
theorem dX4_line_161 : decode cX4_line 161 = .ok (.isub, 1) := by decide +kernel
theorem dX4_line_162 : decode cX4_line 162 = .ok (.ireturn, 1) := by decide +kernel
theorem dX4_line_163 : decode cX4_line 163 = .ok (.ldc 79, 2) := by decide +kernel
theorem dX4_line_165 : decode cX4_line 165 = .ok (.ireturn, 1) := by decide +kernel
set_option maxRecDepth 20000 in
theorem ggX4_seen_X4_isOutside : GoodIn wsX4_seen wsX4_isOutside := goodIn_r _ [8] (by decide +kernel) (by decide +kernel)
set_option maxRecDepth 20000 in
theorem gX4_seen_X4_isOutside : GoodIn wsX4_seen (va_wsS RX4 75 yX4_isOutside wsX4_isOutside) := goodIn_app (goodIn_of _ (by decide +kernel)) ggX4_seen_X4_isOutside
set_option maxRecDepth 20000 in
theorem ggX4_seen_X3_top : GoodIn wsX4_seen wsX3_top := goodIn_r _ [13, 14, 15, 16, 17, 18, 19, 20, 21, 22, 23, 24, 25, 26, 27, 28, 29, 30, 31, 32, 33, 34, 35, 36, 37, 38, 39, 40, 41, 42, 43, 44, 54, 55, 56, 57, 58, 59, 60, 61, 62, 63, 64] (by decide +kernel) (by decide +kernel)
set_option maxRecDepth 20000 in
theorem gX4_seen_X3_top : GoodIn wsX4_seen (wsV RX4 120 RX3 yX3_top wsX3_top) := goodIn_app (goodIn_of _ (by decide +kernel)) ggX4_seen_X3_top
set_option maxRecDepth 20000 in
theorem ggX4_seen_X1_lineAt : GoodIn wsX4_seen wsX1_lineAt := goodIn_r _ [48, 22, 49, 23, 24, 25, 20, 26, 27, 28, 29, 30, 31, 32, 33, 34, 35, 36, 37, 38, 39, 40, 41, 42, 43, 44, 58, 59, 60, 61, 62, 63, 64] (by decide +kernel) (by decide +kernel)
set_option maxRecDepth 20000 in
theorem gX4_seen_X1_lineAt : GoodIn wsX4_seen (wsV RX4 162 RX1 yX1_lineAt wsX1_lineAt) := goodIn_app (goodIn_of _ (by decide +kernel)) ggX4_seen_X1_lineAt
theorem dX4_seen_0 : decode cX4_seen 0 = .ok (.iload_n 1, 1) := by decide +kernel
theorem dX4_seen_1 : decode cX4_seen 1 = .ok (.iconst 0, 1) := by decide +kernel
theorem dX4_seen_2 : decode cX4_seen 2 = .ok (.aload_n 0, 1) := by decide +kernel
theorem dX4_seen_3 : decode cX4_seen 3 = .ok (.getfield 10, 3) := by decide +kernel
theorem dX4_seen_6 : decode cX4_seen 6 = .ok (.getfield 123, 3) := by decide +kernel
theorem dX4_seen_9 : decode cX4_seen 9 = .ok (.iconst 1, 1) := by decide +kernel
theorem dX4_seen_10 : decode cX4_seen 10 = .ok (.isub, 1) := by decide +kernel
theorem dX4_seen_11 : decode cX4_seen 11 = .ok (.invokestatic 75, 3) := by decide +kernel
theorem dX4_seen_14 : decode cX4_seen 14 = .ok (.ifCond .eq 6, 3) := by decide +kernel
theorem dX4_seen_17 : decode cX4_seen 17 = .ok (.ldc 79, 2) := by decide +kernel
theorem dX4_seen_19 : decode cX4_seen 19 = .ok (.ireturn, 1) := by decide +kernel
theorem dX4_seen_20 : decode cX4_seen 20 = .ok (.aload_n 0, 1) := by decide +kernel
theorem dX4_seen_21 : decode cX4_seen 21 = .ok (.getfield 10, 3) := by decide +kernel
theorem dX4_seen_24 : decode cX4_seen 24 = .ok (.getfield 100, 3) := by decide +kernel
theorem dX4_seen_27 : decode cX4_seen 27 = .ok (.aload_n 0, 1) := by decide +kernel
theorem dX4_seen_28 : decode cX4_seen 28 = .ok (.getfield 10, 3) := by decide +kernel
theorem dX4_seen_31 : decode cX4_seen 31 = .ok (.invokevirtual 120, 3) := by decide +kernel
theorem dX4_seen_34 : decode cX4_seen 34 = .ok (.iload_n 1, 1) := by decide +kernel
theorem dX4_seen_35 : decode cX4_seen 35 = .ok (.iadd, 1) := by decide +kernel
theorem dX4_seen_36 : decode cX4_seen 36 = .ok (.invokevirtual 162, 3) := by decide +kernel
theorem dX4_seen_39 : decode cX4_seen 39 = .ok (.ireturn, 1) := by decide +kernel
set_option maxRecDepth 20000 in
theorem ggX4_at_X1_lineAt : GoodIn wsX4_at wsX1_lineAt := goodIn_r _ [8, 9, 10, 11, 12, 13, 7, 14, 15, 16, 17, 18, 19, 20, 21, 22, 23, 24, 25, 26, 27, 28, 29, 30, 31, 32, 41, 42, 43, 44, 45, 46, 47] (by decide +kernel) (by decide +kernel)
set_option maxRecDepth 20000 in
theorem gX4_at_X1_lineAt : GoodIn wsX4_at (wsV RX4 162 RX1 yX1_lineAt wsX1_lineAt) := goodIn_app (goodIn_of _ (by decide +kernel)) ggX4_at_X1_lineAt
theorem dX4_at_0 : decode cX4_at 0 = .ok (.iload_n 1, 1) := by decide +kernel
theorem dX4_at_1 : decode cX4_at 1 = .ok (.ifCond .ge 6, 3) := by decide +kernel
theorem dX4_at_4 : decode cX4_at 4 = .ok (.ldc 79, 2) := by decide +kernel
theorem dX4_at_6 : decode cX4_at 6 = .ok (.ireturn, 1) := by decide +kernel
theorem dX4_at_7 : decode cX4_at 7 = .ok (.aload_n 0, 1) := by decide +kernel
theorem dX4_at_8 : decode cX4_at 8 = .ok (.getfield 10, 3) := by decide +kernel
theorem dX4_at_11 : decode cX4_at 11 = .ok (.getfield 100, 3) := by decide +kernel
theorem dX4_at_14 : decode cX4_at 14 = .ok (.iload_n 1, 1) := by decide +kernel
theorem dX4_at_15 : decode cX4_at 15 = .ok (.invokevirtual 162, 3) := by decide +kernel
theorem dX4_at_18 : decode cX4_at 18 = .ok (.ireturn, 1) := by decide +kernel
set_option maxRecDepth 20000 in
theorem ggX4_share_X1_total : GoodIn wsX4_share wsX1_total := goodIn_r _ [8, 9, 10, 11, 12, 7, 13, 14, 15, 16, 17, 18, 19, 20, 21, 22, 23, 24, 25, 26, 27, 28, 29, 30, 31, 32, 33, 34, 35, 53, 54, 55, 56, 57, 58, 59] (by decide +kernel) (by decide +kernel)
set_option maxRecDepth 20000 in
theorem gX4_share_X1_total : GoodIn wsX4_share (wsV RX4 117 RX1 yX1_total wsX1_total) := goodIn_app (goodIn_of _ (by decide +kernel)) ggX4_share_X1_total
set_option maxRecDepth 20000 in
theorem ggX4_share_X3_top : GoodIn wsX4_share wsX3_top := goodIn_r _ [40, 41, 42, 43, 44, 11, 12, 7, 13, 9, 14, 15, 16, 17, 18, 19, 20, 21, 22, 23, 24, 25, 26, 27, 28, 29, 30, 31, 32, 33, 34, 35, 49, 50, 51, 52, 53, 54, 55, 56, 57, 58, 59] (by decide +kernel) (by decide +kernel)
set_option maxRecDepth 20000 in
theorem gX4_share_X3_top : GoodIn wsX4_share (wsV RX4 120 RX3 yX3_top wsX3_top) := goodIn_app (goodIn_of _ (by decide +kernel)) ggX4_share_X3_top
theorem dX4_share_0 : decode cX4_share 0 = .ok (.aload_n 0, 1) := by decide +kernel
theorem dX4_share_1 : decode cX4_share 1 = .ok (.getfield 10, 3) := by decide +kernel
theorem dX4_share_4 : decode cX4_share 4 = .ok (.getfield 100, 3) := by decide +kernel
theorem dX4_share_7 : decode cX4_share 7 = .ok (.invokevirtual 117, 3) := by decide +kernel
theorem dX4_share_10 : decode cX4_share 10 = .ok (.aload_n 0, 1) := by decide +kernel
theorem dX4_share_11 : decode cX4_share 11 = .ok (.getfield 10, 3) := by decide +kernel
theorem dX4_share_14 : decode cX4_share 14 = .ok (.getfield 123, 3) := by decide +kernel
theorem dX4_share_17 : decode cX4_share 17 = .ok (.isub, 1) := by decide +kernel
theorem dX4_share_18 : decode cX4_share 18 = .ok (.istore_n 1, 1) := by decide +kernel
theorem dX4_share_19 : decode cX4_share 19 = .ok (.iload_n 1, 1) := by decide +kernel
theorem dX4_share_20 : decode cX4_share 20 = .ok (.ifCond .le 19, 3) := by decide +kernel
theorem dX4_share_23 : decode cX4_share 23 = .ok (.aload_n 0, 1) := by decide +kernel
theorem dX4_share_24 : decode cX4_share 24 = .ok (.getfield 10, 3) := by decide +kernel
theorem dX4_share_27 : decode cX4_share 27 = .ok (.invokevirtual 120, 3) := by decide +kernel
theorem dX4_share_30 : decode cX4_share 30 = .ok (.sipush 1000, 3) := by decide +kernel
theorem dX4_share_33 : decode cX4_share 33 = .ok (.imul, 1) := by decide +kernel
theorem dX4_share_34 : decode cX4_share 34 = .ok (.iload_n 1, 1) := by decide +kernel
theorem dX4_share_35 : decode cX4_share 35 = .ok (.idiv, 1) := by decide +kernel
theorem dX4_share_36 : decode cX4_share 36 = .ok (.goto 4, 3) := by decide +kernel
theorem dX4_share_39 : decode cX4_share 39 = .ok (.iconst 0, 1) := by decide +kernel
theorem dX4_share_40 : decode cX4_share 40 = .ok (.ireturn, 1) := by decide +kernel
set_option maxRecDepth 20000 in
theorem ggX4_trueSum_X1_isLine : GoodIn wsX4_trueSum wsX1_isLine := goodIn_r _ [8, 9, 30, 31, 32, 33, 34, 35, 36] (by decide +kernel) (by decide +kernel)
set_option maxRecDepth 20000 in
theorem gX4_trueSum_X1_isLine : GoodIn wsX4_trueSum (wsV RX4 138 RX1 yX1_isLine wsX1_isLine) := goodIn_app (goodIn_of _ (by decide +kernel)) ggX4_trueSum_X1_isLine
set_option maxRecDepth 20000 in
theorem ggX4_trueSum_X1_trueHeightOf : GoodIn wsX4_trueSum wsX1_trueHeightOf := goodIn_r _ [13, 14, 15, 16, 5, 6, 7, 8, 9, 17, 18, 19, 20, 21, 30, 31, 32, 33, 34, 35, 36] (by decide +kernel) (by decide +kernel)
set_option maxRecDepth 20000 in
theorem gX4_trueSum_X1_trueHeightOf : GoodIn wsX4_trueSum (wsV RX4 159 RX1 yX1_trueHeightOf wsX1_trueHeightOf) := goodIn_app (goodIn_of _ (by decide +kernel)) ggX4_trueSum_X1_trueHeightOf
theorem dX4_trueSum_0 : decode cX4_trueSum 0 = .ok (.aload_n 0, 1) := by decide +kernel
theorem dX4_trueSum_1 : decode cX4_trueSum 1 = .ok (.getfield 10, 3) := by decide +kernel
theorem dX4_trueSum_4 : decode cX4_trueSum 4 = .ok (.getfield 100, 3) := by decide +kernel
theorem dX4_trueSum_7 : decode cX4_trueSum 7 = .ok (.iload_n 1, 1) := by decide +kernel
theorem dX4_trueSum_8 : decode cX4_trueSum 8 = .ok (.invokevirtual 138, 3) := by decide +kernel
theorem dX4_trueSum_11 : decode cX4_trueSum 11 = .ok (.ifCond .eq 22, 3) := by decide +kernel
theorem dX4_trueSum_14 : decode cX4_trueSum 14 = .ok (.aload_n 0, 1) := by decide +kernel
theorem dX4_trueSum_15 : decode cX4_trueSum 15 = .ok (.getfield 10, 3) := by decide +kernel
theorem dX4_trueSum_18 : decode cX4_trueSum 18 = .ok (.getfield 100, 3) := by decide +kernel
theorem dX4_trueSum_21 : decode cX4_trueSum 21 = .ok (.iload_n 2, 1) := by decide +kernel
theorem dX4_trueSum_22 : decode cX4_trueSum 22 = .ok (.invokevirtual 138, 3) := by decide +kernel
theorem dX4_trueSum_25 : decode cX4_trueSum 25 = .ok (.ifCond .eq 8, 3) := by decide +kernel
theorem dX4_trueSum_28 : decode cX4_trueSum 28 = .ok (.iload_n 2, 1) := by decide +kernel
theorem dX4_trueSum_29 : decode cX4_trueSum 29 = .ok (.iload_n 1, 1) := by decide +kernel
theorem dX4_trueSum_30 : decode cX4_trueSum 30 = .ok (.if_icmp .ge 6, 3) := by decide +kernel
theorem dX4_trueSum_33 : decode cX4_trueSum 33 = .ok (.ldc 79, 2) := by decide +kernel
theorem dX4_trueSum_35 : decode cX4_trueSum 35 = .ok (.ireturn, 1) := by decide +kernel
theorem dX4_trueSum_36 : decode cX4_trueSum 36 = .ok (.iconst 0, 1) := by decide +kernel
theorem dX4_trueSum_37 : decode cX4_trueSum 37 = .ok (.istore_n 3, 1) := by decide +kernel
theorem dX4_trueSum_38 : decode cX4_trueSum 38 = .ok (.iload_n 1, 1) := by decide +kernel
theorem dX4_trueSum_39 : decode cX4_trueSum 39 = .ok (.istore 4, 2) := by decide +kernel
theorem dX4_trueSum_41 : decode cX4_trueSum 41 = .ok (.iload 4, 2) := by decide +kernel
theorem dX4_trueSum_43 : decode cX4_trueSum 43 = .ok (.iload_n 2, 1) := by decide +kernel
theorem dX4_trueSum_44 : decode cX4_trueSum 44 = .ok (.if_icmp .gt 24, 3) := by decide +kernel
theorem dX4_trueSum_47 : decode cX4_trueSum 47 = .ok (.iload_n 3, 1) := by decide +kernel
theorem dX4_trueSum_48 : decode cX4_trueSum 48 = .ok (.aload_n 0, 1) := by decide +kernel
theorem dX4_trueSum_49 : decode cX4_trueSum 49 = .ok (.getfield 10, 3) := by decide +kernel
theorem dX4_trueSum_52 : decode cX4_trueSum 52 = .ok (.getfield 100, 3) := by decide +kernel
theorem dX4_trueSum_55 : decode cX4_trueSum 55 = .ok (.iload 4, 2) := by decide +kernel
theorem dX4_trueSum_57 : decode cX4_trueSum 57 = .ok (.invokevirtual 159, 3) := by decide +kernel
theorem dX4_trueSum_60 : decode cX4_trueSum 60 = .ok (.iadd, 1) := by decide +kernel
theorem dX4_trueSum_61 : decode cX4_trueSum 61 = .ok (.istore_n 3, 1) := by decide +kernel
theorem dX4_trueSum_62 : decode cX4_trueSum 62 = .ok (.iinc 4 1, 3) := by decide +kernel
theorem dX4_trueSum_65 : decode cX4_trueSum 65 = .ok (.goto (-24), 3) := by decide +kernel
theorem dX4_trueSum_68 : decode cX4_trueSum 68 = .ok (.iload_n 3, 1) := by decide +kernel
theorem dX4_trueSum_69 : decode cX4_trueSum 69 = .ok (.ireturn, 1) := by decide +kernel
set_option maxRecDepth 20000 in
theorem ggX4_scrollsTo_X1_isLine : GoodIn wsX4_scrollsTo wsX1_isLine := goodIn_r _ [10, 11, 95, 96, 97, 98, 99, 100, 101] (by decide +kernel) (by decide +kernel)
set_option maxRecDepth 20000 in
theorem gX4_scrollsTo_X1_isLine : GoodIn wsX4_scrollsTo (wsV RX4 138 RX1 yX1_isLine wsX1_isLine) := goodIn_app (goodIn_of _ (by decide +kernel)) ggX4_scrollsTo_X1_isLine
set_option maxRecDepth 20000 in
theorem ggX4_scrollsTo_X4_isOutside : GoodIn wsX4_scrollsTo wsX4_isOutside := goodIn_r _ [15] (by decide +kernel) (by decide +kernel)
set_option maxRecDepth 20000 in
theorem gX4_scrollsTo_X4_isOutside : GoodIn wsX4_scrollsTo (va_wsS RX4 75 yX4_isOutside wsX4_isOutside) := goodIn_app (goodIn_of _ (by decide +kernel)) ggX4_scrollsTo_X4_isOutside
set_option maxRecDepth 20000 in
theorem ggX4_scrollsTo_X3_copyFrom : GoodIn wsX4_scrollsTo wsX3_copyFrom := goodIn_r _ [20, 21, 22, 23, 24, 25, 26, 27, 9, 28, 29, 30, 31, 32, 33, 34, 35, 36, 37, 11, 38, 91, 92, 93, 94, 95, 96, 97, 98, 99, 100, 101] (by decide +kernel) (by decide +kernel)
set_option maxRecDepth 20000 in
theorem gX4_scrollsTo_X3_copyFrom : GoodIn wsX4_scrollsTo (wsV RX4 33 RX3 yX3_copyFrom wsX3_copyFrom) := goodIn_app (goodIn_of _ (by decide +kernel)) ggX4_scrollsTo_X3_copyFrom
set_option maxRecDepth 20000 in
theorem ggX4_scrollsTo_X3_shows : GoodIn wsX4_scrollsTo wsX3_shows := goodIn_r _ [42, 23, 24, 22, 21, 43, 44, 45, 9, 46, 35, 29, 34, 47, 7, 8, 10, 11, 48, 49, 50, 51, 38, 52, 53, 54, 55, 37, 36, 91, 92, 93, 94, 95, 96, 97, 98, 99, 100, 101] (by decide +kernel) (by decide +kernel)
set_option maxRecDepth 20000 in
theorem gX4_scrollsTo_X3_shows : GoodIn wsX4_scrollsTo (wsV RX4 165 RX3 yX3_shows wsX3_shows) := goodIn_app (goodIn_of _ (by decide +kernel)) ggX4_scrollsTo_X3_shows
set_option maxRecDepth 20000 in
theorem ggX4_scrollsTo_X3_moveBy : GoodIn wsX4_scrollsTo wsX3_moveBy := goodIn_r _ [59, 60, 21, 61, 62, 24, 23, 13, 14, 15, 63, 64, 65, 19, 66, 67, 68, 69, 70, 71, 72, 73, 9, 74, 35, 29, 36, 34, 37, 47, 7, 8, 10, 11, 75, 76, 77, 78, 48, 49, 50, 51, 38, 43, 44, 45, 46, 52, 53, 54, 55, 79, 80, 81, 82, 22, 83, 84, 85, 86, 91, 92, 93, 94, 95, 96, 97, 98, 99, 100, 101] (by decide +kernel) (by decide +kernel)
set_option maxRecDepth 20000 in
theorem gX4_scrollsTo_X3_moveBy : GoodIn wsX4_scrollsTo (wsV RX4 58 RX3 yX3_moveBy wsX3_moveBy) := goodIn_app (goodIn_of _ (by decide +kernel)) ggX4_scrollsTo_X3_moveBy
theorem dX4_scrollsTo_0 : decode cX4_scrollsTo 0 = .ok (.aload_n 0, 1) := by decide +kernel
theorem dX4_scrollsTo_1 : decode cX4_scrollsTo 1 = .ok (.getfield 10, 3) := by decide +kernel
theorem dX4_scrollsTo_4 : decode cX4_scrollsTo 4 = .ok (.getfield 100, 3) := by decide +kernel
theorem dX4_scrollsTo_7 : decode cX4_scrollsTo 7 = .ok (.iload_n 1, 1) := by decide +kernel
theorem dX4_scrollsTo_8 : decode cX4_scrollsTo 8 = .ok (.invokevirtual 138, 3) := by decide +kernel
theorem dX4_scrollsTo_11 : decode cX4_scrollsTo 11 = .ok (.ifCond .eq 20, 3) := by decide +kernel
theorem dX4_scrollsTo_14 : decode cX4_scrollsTo 14 = .ok (.iload_n 2, 1) := by decide +kernel
theorem dX4_scrollsTo_15 : decode cX4_scrollsTo 15 = .ok (.ifCond .eq 16, 3) := by decide +kernel
theorem dX4_scrollsTo_18 : decode cX4_scrollsTo 18 = .ok (.iload_n 2, 1) := by decide +kernel
theorem dX4_scrollsTo_19 : decode cX4_scrollsTo 19 = .ok (.sipush (-9999), 3) := by decide +kernel
theorem dX4_scrollsTo_22 : decode cX4_scrollsTo 22 = .ok (.sipush 9999, 3) := by decide +kernel
theorem dX4_scrollsTo_25 : decode cX4_scrollsTo 25 = .ok (.invokestatic 75, 3) := by decide +kernel
theorem dX4_scrollsTo_28 : decode cX4_scrollsTo 28 = .ok (.ifCond .eq 6, 3) := by decide +kernel
theorem dX4_scrollsTo_31 : decode cX4_scrollsTo 31 = .ok (.ldc 79, 2) := by decide +kernel
theorem dX4_scrollsTo_33 : decode cX4_scrollsTo 33 = .ok (.ireturn, 1) := by decide +kernel
theorem dX4_scrollsTo_34 : decode cX4_scrollsTo 34 = .ok (.aload_n 0, 1) := by decide +kernel
theorem dX4_scrollsTo_35 : decode cX4_scrollsTo 35 = .ok (.getfield 16, 3) := by decide +kernel
theorem dX4_scrollsTo_38 : decode cX4_scrollsTo 38 = .ok (.aload_n 0, 1) := by decide +kernel
theorem dX4_scrollsTo_39 : decode cX4_scrollsTo 39 = .ok (.getfield 10, 3) := by decide +kernel
theorem dX4_scrollsTo_42 : decode cX4_scrollsTo 42 = .ok (.invokevirtual 33, 3) := by decide +kernel
theorem dX4_scrollsTo_45 : decode cX4_scrollsTo 45 = .ok (.iconst 0, 1) := by decide +kernel
theorem dX4_scrollsTo_46 : decode cX4_scrollsTo 46 = .ok (.istore_n 3, 1) := by decide +kernel
theorem dX4_scrollsTo_47 : decode cX4_scrollsTo 47 = .ok (.iload_n 3, 1) := by decide +kernel
theorem dX4_scrollsTo_48 : decode cX4_scrollsTo 48 = .ok (.bipush 100, 2) := by decide +kernel
theorem dX4_scrollsTo_50 : decode cX4_scrollsTo 50 = .ok (.if_icmp .gt 31, 3) := by decide +kernel
theorem dX4_scrollsTo_53 : decode cX4_scrollsTo 53 = .ok (.aload_n 0, 1) := by decide +kernel
theorem dX4_scrollsTo_54 : decode cX4_scrollsTo 54 = .ok (.getfield 16, 3) := by decide +kernel
theorem dX4_scrollsTo_57 : decode cX4_scrollsTo 57 = .ok (.iload_n 1, 1) := by decide +kernel
theorem dX4_scrollsTo_58 : decode cX4_scrollsTo 58 = .ok (.invokevirtual 165, 3) := by decide +kernel
theorem dX4_scrollsTo_61 : decode cX4_scrollsTo 61 = .ok (.ifCond .eq 5, 3) := by decide +kernel
theorem dX4_scrollsTo_64 : decode cX4_scrollsTo 64 = .ok (.iload_n 3, 1) := by decide +kernel
theorem dX4_scrollsTo_65 : decode cX4_scrollsTo 65 = .ok (.ireturn, 1) := by decide +kernel
theorem dX4_scrollsTo_66 : decode cX4_scrollsTo 66 = .ok (.aload_n 0, 1) := by decide +kernel
theorem dX4_scrollsTo_67 : decode cX4_scrollsTo 67 = .ok (.getfield 16, 3) := by decide +kernel
theorem dX4_scrollsTo_70 : decode cX4_scrollsTo 70 = .ok (.iload_n 2, 1) := by decide +kernel
theorem dX4_scrollsTo_71 : decode cX4_scrollsTo 71 = .ok (.invokevirtual 58, 3) := by decide +kernel
theorem dX4_scrollsTo_74 : decode cX4_scrollsTo 74 = .ok (.pop, 1) := by decide +kernel
theorem dX4_scrollsTo_75 : decode cX4_scrollsTo 75 = .ok (.iinc 3 1, 3) := by decide +kernel
theorem dX4_scrollsTo_78 : decode cX4_scrollsTo 78 = .ok (.goto (-31), 3) := by decide +kernel
theorem dX4_scrollsTo_81 : decode cX4_scrollsTo 81 = .ok (.ldc 110, 2) := by decide +kernel
theorem dX4_scrollsTo_83 : decode cX4_scrollsTo 83 = .ok (.ireturn, 1) := by decide +kernel
set_option maxRecDepth 20000 in
theorem ggX4_measuredBy_X4_isOutside : GoodIn wsX4_measuredBy wsX4_isOutside := goodIn_r _ [8] (by decide +kernel) (by decide +kernel)
set_option maxRecDepth 20000 in
theorem gX4_measuredBy_X4_isOutside : GoodIn wsX4_measuredBy (va_wsS RX4 75 yX4_isOutside wsX4_isOutside) := goodIn_app (goodIn_of _ (by decide +kernel)) ggX4_measuredBy_X4_isOutside
set_option maxRecDepth 20000 in
theorem ggX4_measuredBy_X3_copyFrom : GoodIn wsX4_measuredBy wsX3_copyFrom := goodIn_r _ [13, 14, 15, 16, 17, 18, 19, 20, 21, 22, 23, 24, 25, 26, 27, 28, 29, 30, 31, 32, 33, 104, 105, 106, 107, 108, 109, 110, 111, 112, 113, 114] (by decide +kernel) (by decide +kernel)
set_option maxRecDepth 20000 in
theorem gX4_measuredBy_X3_copyFrom : GoodIn wsX4_measuredBy (wsV RX4 33 RX3 yX3_copyFrom wsX3_copyFrom) := goodIn_app (goodIn_of _ (by decide +kernel)) ggX4_measuredBy_X3_copyFrom
set_option maxRecDepth 20000 in
theorem ggX4_measuredBy_X3_moveToShare : GoodIn wsX4_measuredBy wsX3_moveToShare := goodIn_r _ [37, 38, 14, 39, 40, 15, 41, 42, 43, 44, 16, 17, 6, 7, 8, 45, 46, 47, 21, 48, 32, 49, 50, 51, 52, 53, 54, 55, 56, 29, 23, 28, 57, 58, 59, 60, 61, 62, 63, 64, 33, 65, 66, 67, 68, 31, 30, 69, 70, 71, 72, 73, 74, 75, 76, 77, 12, 78, 79, 80, 81, 82, 83, 84, 85, 86, 87, 88, 89, 90, 91, 92, 93, 94, 95, 104, 105, 106, 107, 108, 109, 110, 111, 112, 113, 114] (by decide +kernel) (by decide +kernel)
set_option maxRecDepth 20000 in
theorem gX4_measuredBy_X3_moveToShare : GoodIn wsX4_measuredBy (wsV RX4 61 RX3 yX3_moveToShare wsX3_moveToShare) := goodIn_app (goodIn_of _ (by decide +kernel)) ggX4_measuredBy_X3_moveToShare
set_option maxRecDepth 20000 in
theorem ggX4_measuredBy_X1_measuredLines : GoodIn wsX4_measuredBy wsX1_measuredLines := goodIn_r _ [99, 31, 108, 109, 110, 111, 112, 113, 114] (by decide +kernel) (by decide +kernel)
set_option maxRecDepth 20000 in
theorem gX4_measuredBy_X1_measuredLines : GoodIn wsX4_measuredBy (wsV RX4 107 RX1 yX1_measuredLines wsX1_measuredLines) := goodIn_app (goodIn_of _ (by decide +kernel)) ggX4_measuredBy_X1_measuredLines
theorem dX4_measuredBy_0 : decode cX4_measuredBy 0 = .ok (.iload_n 1, 1) := by decide +kernel
theorem dX4_measuredBy_1 : decode cX4_measuredBy 1 = .ok (.iconst 0, 1) := by decide +kernel
theorem dX4_measuredBy_2 : decode cX4_measuredBy 2 = .ok (.sipush 1000, 3) := by decide +kernel
theorem dX4_measuredBy_5 : decode cX4_measuredBy 5 = .ok (.invokestatic 75, 3) := by decide +kernel
theorem dX4_measuredBy_8 : decode cX4_measuredBy 8 = .ok (.ifCond .eq 6, 3) := by decide +kernel
theorem dX4_measuredBy_11 : decode cX4_measuredBy 11 = .ok (.ldc 79, 2) := by decide +kernel
theorem dX4_measuredBy_13 : decode cX4_measuredBy 13 = .ok (.ireturn, 1) := by decide +kernel
theorem dX4_measuredBy_14 : decode cX4_measuredBy 14 = .ok (.aload_n 0, 1) := by decide +kernel
theorem dX4_measuredBy_15 : decode cX4_measuredBy 15 = .ok (.getfield 16, 3) := by decide +kernel
theorem dX4_measuredBy_18 : decode cX4_measuredBy 18 = .ok (.aload_n 0, 1) := by decide +kernel
theorem dX4_measuredBy_19 : decode cX4_measuredBy 19 = .ok (.getfield 10, 3) := by decide +kernel
theorem dX4_measuredBy_22 : decode cX4_measuredBy 22 = .ok (.invokevirtual 33, 3) := by decide +kernel
theorem dX4_measuredBy_25 : decode cX4_measuredBy 25 = .ok (.aload_n 0, 1) := by decide +kernel
theorem dX4_measuredBy_26 : decode cX4_measuredBy 26 = .ok (.getfield 16, 3) := by decide +kernel
theorem dX4_measuredBy_29 : decode cX4_measuredBy 29 = .ok (.iload_n 1, 1) := by decide +kernel
theorem dX4_measuredBy_30 : decode cX4_measuredBy 30 = .ok (.invokevirtual 61, 3) := by decide +kernel
theorem dX4_measuredBy_33 : decode cX4_measuredBy 33 = .ok (.pop, 1) := by decide +kernel
theorem dX4_measuredBy_34 : decode cX4_measuredBy 34 = .ok (.aload_n 0, 1) := by decide +kernel
theorem dX4_measuredBy_35 : decode cX4_measuredBy 35 = .ok (.getfield 16, 3) := by decide +kernel
theorem dX4_measuredBy_38 : decode cX4_measuredBy 38 = .ok (.getfield 100, 3) := by decide +kernel
theorem dX4_measuredBy_41 : decode cX4_measuredBy 41 = .ok (.invokevirtual 107, 3) := by decide +kernel
theorem dX4_measuredBy_44 : decode cX4_measuredBy 44 = .ok (.aload_n 0, 1) := by decide +kernel
theorem dX4_measuredBy_45 : decode cX4_measuredBy 45 = .ok (.getfield 10, 3) := by decide +kernel
theorem dX4_measuredBy_48 : decode cX4_measuredBy 48 = .ok (.getfield 100, 3) := by decide +kernel
theorem dX4_measuredBy_51 : decode cX4_measuredBy 51 = .ok (.invokevirtual 107, 3) := by decide +kernel
theorem dX4_measuredBy_54 : decode cX4_measuredBy 54 = .ok (.isub, 1) := by decide +kernel
theorem dX4_measuredBy_55 : decode cX4_measuredBy 55 = .ok (.ireturn, 1) := by decide +kernel
theorem dX4_isOutside_0 : decode cX4_isOutside 0 = .ok (.iload_n 0, 1) := by decide +kernel
theorem dX4_isOutside_1 : decode cX4_isOutside 1 = .ok (.iload_n 1, 1) := by decide +kernel
theorem dX4_isOutside_2 : decode cX4_isOutside 2 = .ok (.if_icmp .lt 8, 3) := by decide +kernel
theorem dX4_isOutside_5 : decode cX4_isOutside 5 = .ok (.iload_n 0, 1) := by decide +kernel
theorem dX4_isOutside_6 : decode cX4_isOutside 6 = .ok (.iload_n 2, 1) := by decide +kernel
theorem dX4_isOutside_7 : decode cX4_isOutside 7 = .ok (.if_icmp .le 7, 3) := by decide +kernel
theorem dX4_isOutside_10 : decode cX4_isOutside 10 = .ok (.iconst 1, 1) := by decide +kernel
theorem dX4_isOutside_11 : decode cX4_isOutside 11 = .ok (.goto 4, 3) := by decide +kernel
theorem dX4_isOutside_14 : decode cX4_isOutside 14 = .ok (.iconst 0, 1) := by decide +kernel
theorem dX4_isOutside_15 : decode cX4_isOutside 15 = .ok (.ireturn, 1) := by decide +kernel
set_option maxRecDepth 20000 in
theorem ggX4_keepDraft_X0_record : GoodIn wsX4_keepDraft wsX0_record := goodIn_r _ [8, 9, 10, 11, 12, 13, 14, 15, 16, 17, 7, 18, 19, 20, 21, 22, 23, 24, 25, 26, 27, 28, 29, 30, 31, 32, 33, 34, 35, 36, 37, 38, 39, 40, 41, 42, 43, 44, 50, 51, 52, 53, 54, 55, 56, 57, 58, 59, 60, 61, 62, 63] (by decide +kernel) (by decide +kernel)
set_option maxRecDepth 20000 in
theorem gX4_keepDraft_X0_record : GoodIn wsX4_keepDraft (wsV RX4 168 RX0 yX0_record wsX0_record) := goodIn_app (goodIn_of _ (by decide +kernel)) ggX4_keepDraft_X0_record
set_option maxRecDepth 20000 in
theorem ggX4_keepDraft_X3_copyFrom : GoodIn wsX4_keepDraft wsX3_copyFrom := goodIn_r _ [24, 25, 26, 27, 28, 29, 30, 31, 32, 33, 34, 35, 36, 37, 38, 39, 40, 41, 42, 43, 44, 53, 54, 55, 56, 57, 58, 59, 60, 61, 62, 63] (by decide +kernel) (by decide +kernel)
set_option maxRecDepth 20000 in
theorem gX4_keepDraft_X3_copyFrom : GoodIn wsX4_keepDraft (wsV RX4 33 RX3 yX3_copyFrom wsX3_copyFrom) := goodIn_app (goodIn_of _ (by decide +kernel)) ggX4_keepDraft_X3_copyFrom
theorem dX4_keepDraft_0 : decode cX4_keepDraft 0 = .ok (.iload_n 1, 1) := by decide +kernel
theorem dX4_keepDraft_1 : decode cX4_keepDraft 1 = .ok (.ifCond .lt 25, 3) := by decide +kernel
theorem dX4_keepDraft_4 : decode cX4_keepDraft 4 = .ok (.aload_n 0, 1) := by decide +kernel
theorem dX4_keepDraft_5 : decode cX4_keepDraft 5 = .ok (.getfield 22, 3) := by decide +kernel
theorem dX4_keepDraft_8 : decode cX4_keepDraft 8 = .ok (.aload_n 0, 1) := by decide +kernel
theorem dX4_keepDraft_9 : decode cX4_keepDraft 9 = .ok (.getfield 10, 3) := by decide +kernel
theorem dX4_keepDraft_12 : decode cX4_keepDraft 12 = .ok (.invokevirtual 168, 3) := by decide +kernel
theorem dX4_keepDraft_15 : decode cX4_keepDraft 15 = .ok (.aload_n 0, 1) := by decide +kernel
theorem dX4_keepDraft_16 : decode cX4_keepDraft 16 = .ok (.getfield 10, 3) := by decide +kernel
theorem dX4_keepDraft_19 : decode cX4_keepDraft 19 = .ok (.aload_n 0, 1) := by decide +kernel
theorem dX4_keepDraft_20 : decode cX4_keepDraft 20 = .ok (.getfield 16, 3) := by decide +kernel
theorem dX4_keepDraft_23 : decode cX4_keepDraft 23 = .ok (.invokevirtual 33, 3) := by decide +kernel
theorem dX4_keepDraft_26 : decode cX4_keepDraft 26 = .ok (.iload_n 1, 1) := by decide +kernel
theorem dX4_keepDraft_27 : decode cX4_keepDraft 27 = .ok (.ireturn, 1) := by decide +kernel
set_option maxRecDepth 20000 in
theorem ggX4_performOnDraft_X2_number : GoodIn wsX4_performOnDraft wsX2_number := goodIn_r _ [8, 9, 127, 128, 129, 130, 131, 132] (by decide +kernel) (by decide +kernel)
set_option maxRecDepth 20000 in
theorem gX4_performOnDraft_X2_number : GoodIn wsX4_performOnDraft (wsV RX4 171 RX2 yX2_number wsX2_number) := goodIn_app (goodIn_of _ (by decide +kernel)) ggX4_performOnDraft_X2_number
set_option maxRecDepth 20000 in
theorem ggX4_performOnDraft_X3_putIn : GoodIn wsX4_performOnDraft wsX3_putIn := goodIn_r _ [14, 15, 16, 17, 18, 19, 20, 21, 22, 23, 24, 25, 26, 27, 28, 29, 30, 31, 32, 33, 34, 35, 36, 37, 38, 39, 40, 41, 42, 13, 43, 44, 45, 46, 47, 48, 49, 50, 51, 52, 53, 54, 55, 56, 57, 58, 59, 60, 61, 62, 63, 64, 65, 66, 67, 68, 69, 70, 71, 72, 73, 74, 75, 76, 77, 78, 79, 80, 81, 82, 83, 84, 85, 86, 87, 88, 89, 90, 133, 134, 135, 136, 137, 138, 139, 140, 141, 142, 143] (by decide +kernel) (by decide +kernel)
set_option maxRecDepth 20000 in
theorem gX4_performOnDraft_X3_putIn : GoodIn wsX4_performOnDraft (wsV RX4 37 RX3 yX3_putIn wsX3_putIn) := goodIn_app (goodIn_of _ (by decide +kernel)) ggX4_performOnDraft_X3_putIn
set_option maxRecDepth 20000 in
theorem ggX4_performOnDraft_X3_takeOut : GoodIn wsX4_performOnDraft wsX3_takeOut := goodIn_r _ [94, 15, 17, 16, 19, 44, 95, 57, 58, 26, 59, 32, 96, 97, 98, 99, 33, 34, 35, 36, 37, 38, 39, 56, 100, 101, 102, 103, 54, 55, 60, 24, 25, 27, 61, 62, 63, 64, 65, 40, 41, 42, 13, 43, 45, 46, 47, 48, 49, 50, 51, 52, 53, 66, 67, 68, 69, 70, 71, 72, 73, 74, 75, 76, 77, 78, 79, 80, 81, 133, 134, 135, 136, 137, 138, 139, 140, 141, 142, 143] (by decide +kernel) (by decide +kernel)
set_option maxRecDepth 20000 in
theorem gX4_performOnDraft_X3_takeOut : GoodIn wsX4_performOnDraft (wsV RX4 45 RX3 yX3_takeOut wsX3_takeOut) := goodIn_app (goodIn_of _ (by decide +kernel)) ggX4_performOnDraft_X3_takeOut
set_option maxRecDepth 20000 in
theorem ggX4_performOnDraft_X3_moveBy : GoodIn wsX4_performOnDraft wsX3_moveBy := goodIn_r _ [107, 17, 15, 16, 108, 44, 19, 20, 21, 22, 74, 75, 76, 13, 77, 78, 79, 80, 81, 50, 51, 52, 26, 53, 39, 33, 54, 38, 55, 56, 57, 58, 59, 32, 60, 24, 25, 27, 61, 62, 63, 64, 65, 66, 67, 68, 69, 70, 71, 72, 73, 40, 41, 42, 43, 45, 46, 47, 48, 49, 133, 134, 135, 136, 137, 138, 139, 140, 141, 142, 143] (by decide +kernel) (by decide +kernel)
set_option maxRecDepth 20000 in
theorem gX4_performOnDraft_X3_moveBy : GoodIn wsX4_performOnDraft (wsV RX4 58 RX3 yX3_moveBy wsX3_moveBy) := goodIn_app (goodIn_of _ (by decide +kernel)) ggX4_performOnDraft_X3_moveBy
set_option maxRecDepth 20000 in
theorem ggX4_performOnDraft_X3_moveToShare : GoodIn wsX4_performOnDraft wsX3_moveToShare := goodIn_r _ [112, 17, 15, 16, 108, 45, 78, 79, 80, 81, 19, 44, 20, 21, 22, 82, 83, 84, 26, 85, 32, 86, 87, 88, 89, 90, 67, 68, 69, 39, 33, 38, 56, 57, 58, 59, 61, 62, 63, 64, 65, 70, 71, 72, 73, 55, 54, 113, 114, 115, 116, 117, 118, 40, 41, 42, 13, 43, 46, 47, 48, 49, 50, 51, 52, 53, 60, 24, 25, 27, 66, 74, 75, 76, 77, 133, 134, 135, 136, 137, 138, 139, 140, 141, 142, 143] (by decide +kernel) (by decide +kernel)
set_option maxRecDepth 20000 in
theorem gX4_performOnDraft_X3_moveToShare : GoodIn wsX4_performOnDraft (wsV RX4 61 RX3 yX3_moveToShare wsX3_moveToShare) := goodIn_app (goodIn_of _ (by decide +kernel)) ggX4_performOnDraft_X3_moveToShare
set_option maxRecDepth 20000 in
theorem ggX4_performOnDraft_X3_moveToLine : GoodIn wsX4_performOnDraft wsX3_moveToLine := goodIn_r _ [122, 15, 17, 19, 44, 95, 57, 58, 26, 59, 32, 40, 41, 42, 13, 43, 16, 45, 46, 47, 48, 49, 50, 51, 52, 53, 39, 33, 54, 38, 55, 56, 60, 24, 25, 27, 61, 62, 63, 64, 65, 66, 67, 68, 69, 70, 71, 72, 73, 74, 75, 76, 77, 78, 79, 80, 81, 133, 134, 135, 136, 137, 138, 139, 140, 141, 142, 143] (by decide +kernel) (by decide +kernel)
set_option maxRecDepth 20000 in
theorem gX4_performOnDraft_X3_moveToLine : GoodIn wsX4_performOnDraft (wsV RX4 64 RX3 yX3_moveToLine wsX3_moveToLine) := goodIn_app (goodIn_of _ (by decide +kernel)) ggX4_performOnDraft_X3_moveToLine
theorem dX4_performOnDraft_0 : decode cX4_performOnDraft 0 = .ok (.aload_n 0, 1) := by decide +kernel
theorem dX4_performOnDraft_1 : decode cX4_performOnDraft 1 = .ok (.getfield 29, 3) := by decide +kernel
theorem dX4_performOnDraft_4 : decode cX4_performOnDraft 4 = .ok (.iconst 0, 1) := by decide +kernel
theorem dX4_performOnDraft_5 : decode cX4_performOnDraft 5 = .ok (.invokevirtual 171, 3) := by decide +kernel
theorem dX4_performOnDraft_8 : decode cX4_performOnDraft 8 = .ok (.istore_n 2, 1) := by decide +kernel
theorem dX4_performOnDraft_9 : decode cX4_performOnDraft 9 = .ok (.iload_n 1, 1) := by decide +kernel
theorem dX4_performOnDraft_10 : decode cX4_performOnDraft 10 = .ok (.tableswitch 109 0 5 #[38, 63, 72, 81, 91, 100], 38) := by decide +kernel
theorem dX4_performOnDraft_48 : decode cX4_performOnDraft 48 = .ok (.aload_n 0, 1) := by decide +kernel
theorem dX4_performOnDraft_49 : decode cX4_performOnDraft 49 = .ok (.getfield 16, 3) := by decide +kernel
theorem dX4_performOnDraft_52 : decode cX4_performOnDraft 52 = .ok (.iload_n 2, 1) := by decide +kernel
theorem dX4_performOnDraft_53 : decode cX4_performOnDraft 53 = .ok (.aload_n 0, 1) := by decide +kernel
theorem dX4_performOnDraft_54 : decode cX4_performOnDraft 54 = .ok (.getfield 29, 3) := by decide +kernel
theorem dX4_performOnDraft_57 : decode cX4_performOnDraft 57 = .ok (.iconst 1, 1) := by decide +kernel
theorem dX4_performOnDraft_58 : decode cX4_performOnDraft 58 = .ok (.invokevirtual 171, 3) := by decide +kernel
theorem dX4_performOnDraft_61 : decode cX4_performOnDraft 61 = .ok (.aload_n 0, 1) := by decide +kernel
theorem dX4_performOnDraft_62 : decode cX4_performOnDraft 62 = .ok (.getfield 29, 3) := by decide +kernel
theorem dX4_performOnDraft_65 : decode cX4_performOnDraft 65 = .ok (.iconst 2, 1) := by decide +kernel
theorem dX4_performOnDraft_66 : decode cX4_performOnDraft 66 = .ok (.invokevirtual 171, 3) := by decide +kernel
theorem dX4_performOnDraft_69 : decode cX4_performOnDraft 69 = .ok (.invokevirtual 37, 3) := by decide +kernel
theorem dX4_performOnDraft_72 : decode cX4_performOnDraft 72 = .ok (.ireturn, 1) := by decide +kernel
theorem dX4_performOnDraft_73 : decode cX4_performOnDraft 73 = .ok (.aload_n 0, 1) := by decide +kernel
theorem dX4_performOnDraft_74 : decode cX4_performOnDraft 74 = .ok (.getfield 16, 3) := by decide +kernel
theorem dX4_performOnDraft_77 : decode cX4_performOnDraft 77 = .ok (.iload_n 2, 1) := by decide +kernel
theorem dX4_performOnDraft_78 : decode cX4_performOnDraft 78 = .ok (.invokevirtual 45, 3) := by decide +kernel
theorem dX4_performOnDraft_81 : decode cX4_performOnDraft 81 = .ok (.ireturn, 1) := by decide +kernel
theorem dX4_performOnDraft_82 : decode cX4_performOnDraft 82 = .ok (.aload_n 0, 1) := by decide +kernel
theorem dX4_performOnDraft_83 : decode cX4_performOnDraft 83 = .ok (.getfield 16, 3) := by decide +kernel
theorem dX4_performOnDraft_86 : decode cX4_performOnDraft 86 = .ok (.iload_n 2, 1) := by decide +kernel
theorem dX4_performOnDraft_87 : decode cX4_performOnDraft 87 = .ok (.invokevirtual 58, 3) := by decide +kernel
theorem dX4_performOnDraft_90 : decode cX4_performOnDraft 90 = .ok (.ireturn, 1) := by decide +kernel
theorem dX4_performOnDraft_91 : decode cX4_performOnDraft 91 = .ok (.aload_n 0, 1) := by decide +kernel
theorem dX4_performOnDraft_92 : decode cX4_performOnDraft 92 = .ok (.getfield 16, 3) := by decide +kernel
theorem dX4_performOnDraft_95 : decode cX4_performOnDraft 95 = .ok (.iload_n 2, 1) := by decide +kernel
theorem dX4_performOnDraft_96 : decode cX4_performOnDraft 96 = .ok (.ineg, 1) := by decide +kernel
theorem dX4_performOnDraft_97 : decode cX4_performOnDraft 97 = .ok (.invokevirtual 58, 3) := by decide +kernel
theorem dX4_performOnDraft_100 : decode cX4_performOnDraft 100 = .ok (.ireturn, 1) := by decide +kernel
theorem dX4_performOnDraft_101 : decode cX4_performOnDraft 101 = .ok (.aload_n 0, 1) := by decide +kernel
theorem dX4_performOnDraft_102 : decode cX4_performOnDraft 102 = .ok (.getfield 16, 3) := by decide +kernel
theorem dX4_performOnDraft_105 : decode cX4_performOnDraft 105 = .ok (.iload_n 2, 1) := by decide +kernel
theorem dX4_performOnDraft_106 : decode cX4_performOnDraft 106 = .ok (.invokevirtual 61, 3) := by decide +kernel
theorem dX4_performOnDraft_109 : decode cX4_performOnDraft 109 = .ok (.ireturn, 1) := by decide +kernel
theorem dX4_performOnDraft_110 : decode cX4_performOnDraft 110 = .ok (.aload_n 0, 1) := by decide +kernel
theorem dX4_performOnDraft_111 : decode cX4_performOnDraft 111 = .ok (.getfield 16, 3) := by decide +kernel
theorem dX4_performOnDraft_114 : decode cX4_performOnDraft 114 = .ok (.iload_n 2, 1) := by decide +kernel
theorem dX4_performOnDraft_115 : decode cX4_performOnDraft 115 = .ok (.invokevirtual 64, 3) := by decide +kernel
theorem dX4_performOnDraft_118 : decode cX4_performOnDraft 118 = .ok (.ireturn, 1) := by decide +kernel
theorem dX4_performOnDraft_119 : decode cX4_performOnDraft 119 = .ok (.ldc 79, 2) := by decide +kernel
theorem dX4_performOnDraft_121 : decode cX4_performOnDraft 121 = .ok (.ireturn, 1) := by decide +kernel
theorem dX5_init_0 : decode cX5_init 0 = .ok (.aload_n 0, 1) := by decide +kernel
theorem dX5_init_1 : decode cX5_init 1 = .ok (.invokespecial 1, 3) := by decide +kernel
theorem dX5_init_4 : decode cX5_init 4 = .ok (.aload_n 0, 1) := by decide +kernel
theorem dX5_init_5 : decode cX5_init 5 = .ok (.sipush 305, 3) := by decide +kernel
theorem dX5_init_8 : decode cX5_init 8 = .ok (.newarray .int, 2) := by decide +kernel
theorem dX5_init_10 : decode cX5_init 10 = .ok (.putfield 7, 3) := by decide +kernel
theorem dX5_init_13 : decode cX5_init 13 = .ok (.aload_n 0, 1) := by decide +kernel
theorem dX5_init_14 : decode cX5_init 14 = .ok (.sipush 305, 3) := by decide +kernel
theorem dX5_init_17 : decode cX5_init 17 = .ok (.newarray .int, 2) := by decide +kernel
theorem dX5_init_19 : decode cX5_init 19 = .ok (.putfield 13, 3) := by decide +kernel
theorem dX5_init_22 : decode cX5_init 22 = .ok (.aload_n 0, 1) := by decide +kernel
theorem dX5_init_23 : decode cX5_init 23 = .ok (.sipush 305, 3) := by decide +kernel
theorem dX5_init_26 : decode cX5_init 26 = .ok (.newarray .int, 2) := by decide +kernel
theorem dX5_init_28 : decode cX5_init 28 = .ok (.putfield 16, 3) := by decide +kernel
theorem dX5_init_31 : decode cX5_init 31 = .ok (.aload_n 0, 1) := by decide +kernel
theorem dX5_init_32 : decode cX5_init 32 = .ok (.sipush 1525, 3) := by decide +kernel
theorem dX5_init_35 : decode cX5_init 35 = .ok (.newarray .int, 2) := by decide +kernel
theorem dX5_init_37 : decode cX5_init 37 = .ok (.putfield 19, 3) := by decide +kernel
theorem dX5_init_40 : decode cX5_init 40 = .ok (.aload_n 0, 1) := by decide +kernel
theorem dX5_init_41 : decode cX5_init 41 = .ok (.bipush 100, 2) := by decide +kernel
theorem dX5_init_43 : decode cX5_init 43 = .ok (.newarray .int, 2) := by decide +kernel
theorem dX5_init_45 : decode cX5_init 45 = .ok (.putfield 22, 3) := by decide +kernel
theorem dX5_init_48 : decode cX5_init 48 = .ok (.aload_n 0, 1) := by decide +kernel
theorem dX5_init_49 : decode cX5_init 49 = .ok (.iconst 3, 1) := by decide +kernel
theorem dX5_init_50 : decode cX5_init 50 = .ok (.newarray .int, 2) := by decide +kernel
theorem dX5_init_52 : decode cX5_init 52 = .ok (.putfield 25, 3) := by decide +kernel
theorem dX5_init_55 : decode cX5_init 55 = .ok (.aload_n 0, 1) := by decide +kernel
theorem dX5_init_56 : decode cX5_init 56 = .ok (.iconst 3, 1) := by decide +kernel
theorem dX5_init_57 : decode cX5_init 57 = .ok (.newarray .int, 2) := by decide +kernel
theorem dX5_init_59 : decode cX5_init 59 = .ok (.putfield 28, 3) := by decide +kernel
theorem dX5_init_62 : decode cX5_init 62 = .ok (.aload_n 0, 1) := by decide +kernel
theorem dX5_init_63 : decode cX5_init 63 = .ok (.getfield 7, 3) := by decide +kernel
theorem dX5_init_66 : decode cX5_init 66 = .ok (.iconst 3, 1) := by decide +kernel
theorem dX5_init_67 : decode cX5_init 67 = .ok (.bipush 100, 2) := by decide +kernel
theorem dX5_init_69 : decode cX5_init 69 = .ok (.iastore, 1) := by decide +kernel
theorem dX5_init_70 : decode cX5_init 70 = .ok (.aload_n 0, 1) := by decide +kernel
theorem dX5_init_71 : decode cX5_init 71 = .ok (.getfield 7, 3) := by decide +kernel
theorem dX5_init_74 : decode cX5_init 74 = .ok (.iconst 4, 1) := by decide +kernel
theorem dX5_init_75 : decode cX5_init 75 = .ok (.bipush 40, 2) := by decide +kernel
theorem dX5_init_77 : decode cX5_init 77 = .ok (.iastore, 1) := by decide +kernel
theorem dX5_init_78 : decode cX5_init 78 = .ok (.return_, 1) := by decide +kernel
theorem dX5_in_0 : decode cX5_in 0 = .ok (.iload_n 0, 1) := by decide +kernel
theorem dX5_in_1 : decode cX5_in 1 = .ok (.iload_n 1, 1) := by decide +kernel
theorem dX5_in_2 : decode cX5_in 2 = .ok (.if_icmp .lt 12, 3) := by decide +kernel
theorem dX5_in_5 : decode cX5_in 5 = .ok (.iload_n 0, 1) := by decide +kernel
theorem dX5_in_6 : decode cX5_in 6 = .ok (.iload_n 2, 1) := by decide +kernel
theorem dX5_in_7 : decode cX5_in 7 = .ok (.if_icmp .gt 7, 3) := by decide +kernel
theorem dX5_in_10 : decode cX5_in 10 = .ok (.iconst 1, 1) := by decide +kernel
theorem dX5_in_11 : decode cX5_in 11 = .ok (.goto 4, 3) := by decide +kernel
theorem dX5_in_14 : decode cX5_in 14 = .ok (.iconst 0, 1) := by decide +kernel
theorem dX5_in_15 : decode cX5_in 15 = .ok (.ireturn, 1) := by decide +kernel
theorem dX5_l_0 : decode cX5_l 0 = .ok (.iconst 5, 1) := by decide +kernel
theorem dX5_l_1 : decode cX5_l 1 = .ok (.iconst 3, 1) := by decide +kernel
theorem dX5_l_2 : decode cX5_l 2 = .ok (.iload_n 0, 1) := by decide +kernel
theorem dX5_l_3 : decode cX5_l 3 = .ok (.imul, 1) := by decide +kernel
theorem dX5_l_4 : decode cX5_l 4 = .ok (.iadd, 1) := by decide +kernel
theorem dX5_l_5 : decode cX5_l 5 = .ok (.iload_n 1, 1) := by decide +kernel
theorem dX5_l_6 : decode cX5_l 6 = .ok (.iadd, 1) := by decide +kernel
theorem dX5_l_7 : decode cX5_l 7 = .ok (.ireturn, 1) := by decide +kernel
theorem dX5_copies_0 : decode cX5_copies 0 = .ok (.iconst 0, 1) := by decide +kernel
theorem dX5_copies_1 : decode cX5_copies 1 = .ok (.istore 4, 2) := by decide +kernel
theorem dX5_copies_3 : decode cX5_copies 3 = .ok (.iload 4, 2) := by decide +kernel
theorem dX5_copies_5 : decode cX5_copies 5 = .ok (.sipush 305, 3) := by decide +kernel
theorem dX5_copies_8 : decode cX5_copies 8 = .ok (.if_icmp .ge 21, 3) := by decide +kernel
theorem dX5_copies_11 : decode cX5_copies 11 = .ok (.aload_n 2, 1) := by decide +kernel
theorem dX5_copies_12 : decode cX5_copies 12 = .ok (.iload_n 3, 1) := by decide +kernel
theorem dX5_copies_13 : decode cX5_copies 13 = .ok (.iload 4, 2) := by decide +kernel
theorem dX5_copies_15 : decode cX5_copies 15 = .ok (.iadd, 1) := by decide +kernel
theorem dX5_copies_16 : decode cX5_copies 16 = .ok (.aload_n 0, 1) := by decide +kernel
theorem dX5_copies_17 : decode cX5_copies 17 = .ok (.iload_n 1, 1) := by decide +kernel
theorem dX5_copies_18 : decode cX5_copies 18 = .ok (.iload 4, 2) := by decide +kernel
theorem dX5_copies_20 : decode cX5_copies 20 = .ok (.iadd, 1) := by decide +kernel
theorem dX5_copies_21 : decode cX5_copies 21 = .ok (.iaload, 1) := by decide +kernel
theorem dX5_copies_22 : decode cX5_copies 22 = .ok (.iastore, 1) := by decide +kernel
theorem dX5_copies_23 : decode cX5_copies 23 = .ok (.iinc 4 1, 3) := by decide +kernel
theorem dX5_copies_26 : decode cX5_copies 26 = .ok (.goto (-23), 3) := by decide +kernel
theorem dX5_copies_29 : decode cX5_copies 29 = .ok (.return_, 1) := by decide +kernel
set_option maxRecDepth 20000 in
theorem ggX5_keeps_X5_copies : GoodIn wsX5_keeps wsX5_copies := goodIn_r _ [6] (by decide +kernel) (by decide +kernel)
set_option maxRecDepth 20000 in
theorem gX5_keeps_X5_copies : GoodIn wsX5_keeps (va_wsS RX5 31 yX5_copies wsX5_copies) := goodIn_app (goodIn_of _ (by decide +kernel)) ggX5_keeps_X5_copies
theorem dX5_keeps_0 : decode cX5_keeps 0 = .ok (.aload_n 0, 1) := by decide +kernel
theorem dX5_keeps_1 : decode cX5_keeps 1 = .ok (.getfield 7, 3) := by decide +kernel
theorem dX5_keeps_4 : decode cX5_keeps 4 = .ok (.iconst 0, 1) := by decide +kernel
theorem dX5_keeps_5 : decode cX5_keeps 5 = .ok (.aload_n 0, 1) := by decide +kernel
theorem dX5_keeps_6 : decode cX5_keeps 6 = .ok (.getfield 13, 3) := by decide +kernel
theorem dX5_keeps_9 : decode cX5_keeps 9 = .ok (.iconst 0, 1) := by decide +kernel
theorem dX5_keeps_10 : decode cX5_keeps 10 = .ok (.invokestatic 31, 3) := by decide +kernel
theorem dX5_keeps_13 : decode cX5_keeps 13 = .ok (.return_, 1) := by decide +kernel
set_option maxRecDepth 20000 in
theorem ggX5_acted_X5_in : GoodIn wsX5_acted wsX5_in := goodIn_r _ [9] (by decide +kernel) (by decide +kernel)
set_option maxRecDepth 20000 in
theorem gX5_acted_X5_in : GoodIn wsX5_acted (va_wsS RX5 37 yX5_in wsX5_in) := goodIn_app (goodIn_of _ (by decide +kernel)) ggX5_acted_X5_in
set_option maxRecDepth 20000 in
theorem ggX5_acted_X5_copies : GoodIn wsX5_acted wsX5_copies := goodIn_r _ [12] (by decide +kernel) (by decide +kernel)
set_option maxRecDepth 20000 in
theorem gX5_acted_X5_copies : GoodIn wsX5_acted (va_wsS RX5 31 yX5_copies wsX5_copies) := goodIn_app (goodIn_of _ (by decide +kernel)) ggX5_acted_X5_copies
theorem dX5_acted_0 : decode cX5_acted 0 = .ok (.iload_n 1, 1) := by decide +kernel
theorem dX5_acted_1 : decode cX5_acted 1 = .ok (.ldc 35, 2) := by decide +kernel
theorem dX5_acted_3 : decode cX5_acted 3 = .ok (.ldc 36, 2) := by decide +kernel
theorem dX5_acted_5 : decode cX5_acted 5 = .ok (.invokestatic 37, 3) := by decide +kernel
theorem dX5_acted_8 : decode cX5_acted 8 = .ok (.ifCond .eq 5, 3) := by decide +kernel
theorem dX5_acted_11 : decode cX5_acted 11 = .ok (.iload_n 1, 1) := by decide +kernel
theorem dX5_acted_12 : decode cX5_acted 12 = .ok (.ireturn, 1) := by decide +kernel
theorem dX5_acted_13 : decode cX5_acted 13 = .ok (.aload_n 0, 1) := by decide +kernel
theorem dX5_acted_14 : decode cX5_acted 14 = .ok (.getfield 41, 3) := by decide +kernel
theorem dX5_acted_17 : decode cX5_acted 17 = .ok (.iconst 5, 1) := by decide +kernel
theorem dX5_acted_18 : decode cX5_acted 18 = .ok (.if_icmp .ne 44, 3) := by decide +kernel
theorem dX5_acted_21 : decode cX5_acted 21 = .ok (.iconst 0, 1) := by decide +kernel
theorem dX5_acted_22 : decode cX5_acted 22 = .ok (.istore_n 2, 1) := by decide +kernel
theorem dX5_acted_23 : decode cX5_acted 23 = .ok (.iload_n 2, 1) := by decide +kernel
theorem dX5_acted_24 : decode cX5_acted 24 = .ok (.sipush 1220, 3) := by decide +kernel
theorem dX5_acted_27 : decode cX5_acted 27 = .ok (.if_icmp .ge 25, 3) := by decide +kernel
theorem dX5_acted_30 : decode cX5_acted 30 = .ok (.aload_n 0, 1) := by decide +kernel
theorem dX5_acted_31 : decode cX5_acted 31 = .ok (.getfield 19, 3) := by decide +kernel
theorem dX5_acted_34 : decode cX5_acted 34 = .ok (.iload_n 2, 1) := by decide +kernel
theorem dX5_acted_35 : decode cX5_acted 35 = .ok (.aload_n 0, 1) := by decide +kernel
theorem dX5_acted_36 : decode cX5_acted 36 = .ok (.getfield 19, 3) := by decide +kernel
theorem dX5_acted_39 : decode cX5_acted 39 = .ok (.iload_n 2, 1) := by decide +kernel
theorem dX5_acted_40 : decode cX5_acted 40 = .ok (.sipush 305, 3) := by decide +kernel
theorem dX5_acted_43 : decode cX5_acted 43 = .ok (.iadd, 1) := by decide +kernel
theorem dX5_acted_44 : decode cX5_acted 44 = .ok (.iaload, 1) := by decide +kernel
theorem dX5_acted_45 : decode cX5_acted 45 = .ok (.iastore, 1) := by decide +kernel
theorem dX5_acted_46 : decode cX5_acted 46 = .ok (.iinc 2 1, 3) := by decide +kernel
theorem dX5_acted_49 : decode cX5_acted 49 = .ok (.goto (-26), 3) := by decide +kernel
theorem dX5_acted_52 : decode cX5_acted 52 = .ok (.aload_n 0, 1) := by decide +kernel
theorem dX5_acted_53 : decode cX5_acted 53 = .ok (.dup, 1) := by decide +kernel
theorem dX5_acted_54 : decode cX5_acted 54 = .ok (.getfield 41, 3) := by decide +kernel
theorem dX5_acted_57 : decode cX5_acted 57 = .ok (.iconst 1, 1) := by decide +kernel
theorem dX5_acted_58 : decode cX5_acted 58 = .ok (.isub, 1) := by decide +kernel
theorem dX5_acted_59 : decode cX5_acted 59 = .ok (.putfield 41, 3) := by decide +kernel
theorem dX5_acted_62 : decode cX5_acted 62 = .ok (.aload_n 0, 1) := by decide +kernel
theorem dX5_acted_63 : decode cX5_acted 63 = .ok (.getfield 13, 3) := by decide +kernel
theorem dX5_acted_66 : decode cX5_acted 66 = .ok (.iconst 0, 1) := by decide +kernel
theorem dX5_acted_67 : decode cX5_acted 67 = .ok (.aload_n 0, 1) := by decide +kernel
theorem dX5_acted_68 : decode cX5_acted 68 = .ok (.getfield 19, 3) := by decide +kernel
theorem dX5_acted_71 : decode cX5_acted 71 = .ok (.sipush 305, 3) := by decide +kernel
theorem dX5_acted_74 : decode cX5_acted 74 = .ok (.aload_n 0, 1) := by decide +kernel
theorem dX5_acted_75 : decode cX5_acted 75 = .ok (.getfield 41, 3) := by decide +kernel
theorem dX5_acted_78 : decode cX5_acted 78 = .ok (.imul, 1) := by decide +kernel
theorem dX5_acted_79 : decode cX5_acted 79 = .ok (.invokestatic 31, 3) := by decide +kernel
theorem dX5_acted_82 : decode cX5_acted 82 = .ok (.aload_n 0, 1) := by decide +kernel
theorem dX5_acted_83 : decode cX5_acted 83 = .ok (.dup, 1) := by decide +kernel
theorem dX5_acted_84 : decode cX5_acted 84 = .ok (.getfield 41, 3) := by decide +kernel
theorem dX5_acted_87 : decode cX5_acted 87 = .ok (.iconst 1, 1) := by decide +kernel
theorem dX5_acted_88 : decode cX5_acted 88 = .ok (.iadd, 1) := by decide +kernel
theorem dX5_acted_89 : decode cX5_acted 89 = .ok (.putfield 41, 3) := by decide +kernel
theorem dX5_acted_92 : decode cX5_acted 92 = .ok (.iload_n 1, 1) := by decide +kernel
theorem dX5_acted_93 : decode cX5_acted 93 = .ok (.ireturn, 1) := by decide +kernel
set_option maxRecDepth 20000 in
theorem ggX5_isLine_X5_in : GoodIn wsX5_isLine wsX5_in := goodIn_r _ [5] (by decide +kernel) (by decide +kernel)
set_option maxRecDepth 20000 in
theorem gX5_isLine_X5_in : GoodIn wsX5_isLine (va_wsS RX5 37 yX5_in wsX5_in) := goodIn_app (goodIn_of _ (by decide +kernel)) ggX5_isLine_X5_in
theorem dX5_isLine_0 : decode cX5_isLine 0 = .ok (.iload_n 1, 1) := by decide +kernel
theorem dX5_isLine_1 : decode cX5_isLine 1 = .ok (.iconst 0, 1) := by decide +kernel
theorem dX5_isLine_2 : decode cX5_isLine 2 = .ok (.aload_n 0, 1) := by decide +kernel
theorem dX5_isLine_3 : decode cX5_isLine 3 = .ok (.getfield 7, 3) := by decide +kernel
theorem dX5_isLine_6 : decode cX5_isLine 6 = .ok (.iconst 0, 1) := by decide +kernel
theorem dX5_isLine_7 : decode cX5_isLine 7 = .ok (.iaload, 1) := by decide +kernel
theorem dX5_isLine_8 : decode cX5_isLine 8 = .ok (.iconst 1, 1) := by decide +kernel
theorem dX5_isLine_9 : decode cX5_isLine 9 = .ok (.isub, 1) := by decide +kernel
theorem dX5_isLine_10 : decode cX5_isLine 10 = .ok (.invokestatic 37, 3) := by decide +kernel
