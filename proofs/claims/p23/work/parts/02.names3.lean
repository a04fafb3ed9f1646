theorem lw_mem {big : List Cond} (ws : List Cond) (ps : List Nat) (h : ws.map some = ps.map (fun i => big[i]?)) : ∀ w ∈ ws, w ∈ big := by
  intro w hw
  have h1 : some w ∈ ws.map some := List.mem_map.mpr ⟨w, hw, rfl⟩
  rw [h] at h1
  obtain ⟨i, -, hi⟩ := List.mem_map.mp h1
  exact List.mem_of_getElem? hi
theorem dX4_keepDraft_9 : decode cX4_keepDraft 9 = .ok (.getfield 10, 3) := by decide +kernel
theorem dX4_keepDraft_12 : decode cX4_keepDraft 12 = .ok (.invokevirtual 168, 3) := by decide +kernel
theorem dX4_keepDraft_15 : decode cX4_keepDraft 15 = .ok (.aload_n 0, 1) := by decide +kernel
theorem dX4_keepDraft_16 : decode cX4_keepDraft 16 = .ok (.getfield 10, 3) := by decide +kernel
theorem dX4_keepDraft_19 : decode cX4_keepDraft 19 = .ok (.aload_n 0, 1) := by decide +kernel
theorem dX4_keepDraft_20 : decode cX4_keepDraft 20 = .ok (.getfield 16, 3) := by decide +kernel
theorem dX4_keepDraft_23 : decode cX4_keepDraft 23 = .ok (.invokevirtual 33, 3) := by decide +kernel
theorem dX4_keepDraft_26 : decode cX4_keepDraft 26 = .ok (.iload_n 1, 1) := by decide +kernel
theorem dX4_keepDraft_27 : decode cX4_keepDraft 27 = .ok (.ireturn, 1) := by decide +kernel
theorem dJ9_max_7cf53_0 : decode cJ9_max_7cf53 0 = .ok (.iload_n 0, 1) := by decide +kernel
theorem dJ9_max_7cf53_1 : decode cJ9_max_7cf53 1 = .ok (.iload_n 1, 1) := by decide +kernel
theorem dJ9_max_7cf53_2 : decode cJ9_max_7cf53 2 = .ok (.if_icmp .lt 7, 3) := by decide +kernel
theorem dJ9_max_7cf53_5 : decode cJ9_max_7cf53 5 = .ok (.iload_n 0, 1) := by decide +kernel
theorem dJ9_max_7cf53_6 : decode cJ9_max_7cf53 6 = .ok (.goto 4, 3) := by decide +kernel
theorem dJ9_max_7cf53_9 : decode cJ9_max_7cf53 9 = .ok (.iload_n 1, 1) := by decide +kernel
theorem dJ9_max_7cf53_10 : decode cJ9_max_7cf53 10 = .ok (.ireturn, 1) := by decide +kernel
theorem dJ9_min_7cf53_0 : decode cJ9_min_7cf53 0 = .ok (.iload_n 0, 1) := by decide +kernel
theorem dJ9_min_7cf53_1 : decode cJ9_min_7cf53 1 = .ok (.iload_n 1, 1) := by decide +kernel
theorem dJ9_min_7cf53_2 : decode cJ9_min_7cf53 2 = .ok (.if_icmp .gt 7, 3) := by decide +kernel
theorem dJ9_min_7cf53_5 : decode cJ9_min_7cf53 5 = .ok (.iload_n 0, 1) := by decide +kernel
theorem dJ9_min_7cf53_6 : decode cJ9_min_7cf53 6 = .ok (.goto 4, 3) := by decide +kernel
theorem dJ9_min_7cf53_9 : decode cJ9_min_7cf53 9 = .ok (.iload_n 1, 1) := by decide +kernel
theorem dJ9_min_7cf53_10 : decode cJ9_min_7cf53 10 = .ok (.ireturn, 1) := by decide +kernel
theorem dL_cell_0 : decode cL_cell 0 = .ok (.iload_n 1, 1) := by decide +kernel
theorem dL_cell_1 : decode cL_cell 1 = .ok (.aload_n 0, 1) := by decide +kernel
theorem dL_cell_2 : decode cL_cell 2 = .ok (.arraylength, 1) := by decide +kernel
theorem dL_cell_3 : decode cL_cell 3 = .ok (.if_icmp .ge 9, 3) := by decide +kernel
theorem dL_cell_6 : decode cL_cell 6 = .ok (.aload_n 0, 1) := by decide +kernel
theorem dL_cell_7 : decode cL_cell 7 = .ok (.iload_n 1, 1) := by decide +kernel
theorem dL_cell_8 : decode cL_cell 8 = .ok (.iaload, 1) := by decide +kernel
theorem dL_cell_9 : decode cL_cell 9 = .ok (.goto 11, 3) := by decide +kernel
theorem dL_cell_12 : decode cL_cell 12 = .ok (.sipush 16807, 3) := by decide +kernel
theorem dL_cell_15 : decode cL_cell 15 = .ok (.iload_n 1, 1) := by decide +kernel
theorem dL_cell_16 : decode cL_cell 16 = .ok (.bipush 13, 2) := by decide +kernel
theorem dL_cell_18 : decode cL_cell 18 = .ok (.iadd, 1) := by decide +kernel
theorem dL_cell_19 : decode cL_cell 19 = .ok (.imul, 1) := by decide +kernel
theorem dL_cell_20 : decode cL_cell 20 = .ok (.ldc 7, 2) := by decide +kernel
theorem dL_cell_22 : decode cL_cell 22 = .ok (.iand, 1) := by decide +kernel
theorem dL_cell_23 : decode cL_cell 23 = .ok (.ireturn, 1) := by decide +kernel
theorem dL_size_0 : decode cL_size 0 = .ok (.iload_n 0, 1) := by decide +kernel
theorem dL_size_1 : decode cL_size 1 = .ok (.iconst 4, 1) := by decide +kernel
theorem dL_size_2 : decode cL_size 2 = .ok (.irem, 1) := by decide +kernel
theorem dL_size_3 : decode cL_size 3 = .ok (.ifCond .ne 13, 3) := by decide +kernel
theorem dL_size_6 : decode cL_size 6 = .ok (.iload_n 0, 1) := by decide +kernel
theorem dL_size_7 : decode cL_size 7 = .ok (.iconst 4, 1) := by decide +kernel
theorem dL_size_8 : decode cL_size 8 = .ok (.idiv, 1) := by decide +kernel
theorem dL_size_9 : decode cL_size 9 = .ok (.sipush 401, 3) := by decide +kernel
theorem dL_size_12 : decode cL_size 12 = .ok (.irem, 1) := by decide +kernel
theorem dL_size_13 : decode cL_size 13 = .ok (.goto 9, 3) := by decide +kernel
theorem dL_size_16 : decode cL_size 16 = .ok (.iload_n 0, 1) := by decide +kernel
theorem dL_size_17 : decode cL_size 17 = .ok (.iconst 4, 1) := by decide +kernel
theorem dL_size_18 : decode cL_size 18 = .ok (.idiv, 1) := by decide +kernel
theorem dL_size_19 : decode cL_size 19 = .ok (.bipush 90, 2) := by decide +kernel
theorem dL_size_21 : decode cL_size 21 = .ok (.irem, 1) := by decide +kernel
theorem dL_size_22 : decode cL_size 22 = .ok (.ireturn, 1) := by decide +kernel
set_option maxRecDepth 20000 in
theorem ggL_fills_L_cell : GoodIn wsL_fills wsL_cell := goodIn_r _ [4, 5] (by decide +kernel) (by decide +kernel)
set_option maxRecDepth 20000 in
theorem gL_fills_L_cell : GoodIn wsL_fills (va_wsS RL 8 yL_cell wsL_cell) := goodIn_app (goodIn_of _ (by decide +kernel)) ggL_fills_L_cell
set_option maxRecDepth 20000 in
theorem ggL_fills_L_size : GoodIn wsL_fills wsL_size := goodIn_r _ [8] (by decide +kernel) (by decide +kernel)
set_option maxRecDepth 20000 in
theorem gL_fills_L_size : GoodIn wsL_fills (va_wsS RL 14 yL_size wsL_size) := goodIn_app (goodIn_of _ (by decide +kernel)) ggL_fills_L_size
set_option maxRecDepth 20000 in
theorem ggL_fills_X4_put : GoodIn wsL_fills wsX4_put := goodIn_sub (lw_mem _ [13, 14, 15, 16, 17, 18, 19, 20, 21, 22, 23, 24, 25, 26, 27, 28, 29, 30, 31, 32, 33, 34, 35, 36, 37, 38, 39, 40, 41, 42, 43, 44, 45, 46, 47, 48, 12, 49, 50, 51, 52, 53, 54, 55, 56, 57, 58, 59, 60, 61, 62, 63, 64, 65, 66, 67, 68, 69, 70, 71, 72, 73, 74, 75, 76, 77, 78, 79, 80, 81, 82, 83, 84, 85, 86, 87, 88, 89, 90, 91, 92, 93, 94, 95, 96, 97, 98, 99, 100, 101, 102, 103, 104, 105, 106, 107, 108, 109, 110, 111, 112, 113, 114, 115, 116, 117, 118, 119, 120, 121, 122, 123, 124, 125, 126, 127, 128, 129, 130, 131, 132, 133, 134, 135, 136, 137, 138, 139, 140, 141, 142] rfl) (by decide +kernel)
set_option maxRecDepth 20000 in
theorem gL_fills_X4_put : GoodIn wsL_fills (wsV RL 18 RX4 yX4_put wsX4_put) := goodIn_app (goodIn_of _ (by decide +kernel)) ggL_fills_X4_put
theorem dL_fills_0 : decode cL_fills 0 = .ok (.iconst 1, 1) := by decide +kernel
theorem dL_fills_1 : decode cL_fills 1 = .ok (.istore_n 3, 1) := by decide +kernel
theorem dL_fills_2 : decode cL_fills 2 = .ok (.iconst 0, 1) := by decide +kernel
theorem dL_fills_3 : decode cL_fills 3 = .ok (.istore 4, 2) := by decide +kernel
theorem dL_fills_5 : decode cL_fills 5 = .ok (.iload 4, 2) := by decide +kernel
theorem dL_fills_7 : decode cL_fills 7 = .ok (.iload_n 2, 1) := by decide +kernel
theorem dL_fills_8 : decode cL_fills 8 = .ok (.if_icmp .ge 57, 3) := by decide +kernel
theorem dL_fills_11 : decode cL_fills 11 = .ok (.iload_n 3, 1) := by decide +kernel
theorem dL_fills_12 : decode cL_fills 12 = .ok (.ifCond .eq 53, 3) := by decide +kernel
theorem dL_fills_15 : decode cL_fills 15 = .ok (.aload_n 1, 1) := by decide +kernel
theorem dL_fills_16 : decode cL_fills 16 = .ok (.iload 4, 2) := by decide +kernel
theorem dL_fills_18 : decode cL_fills 18 = .ok (.invokestatic 8, 3) := by decide +kernel
theorem dL_fills_21 : decode cL_fills 21 = .ok (.istore 5, 2) := by decide +kernel
theorem dL_fills_23 : decode cL_fills 23 = .ok (.aload_n 0, 1) := by decide +kernel
theorem dL_fills_24 : decode cL_fills 24 = .ok (.iload 5, 2) := by decide +kernel
theorem dL_fills_26 : decode cL_fills 26 = .ok (.iload 4, 2) := by decide +kernel
theorem dL_fills_28 : decode cL_fills 28 = .ok (.iconst 1, 1) := by decide +kernel
theorem dL_fills_29 : decode cL_fills 29 = .ok (.iadd, 1) := by decide +kernel
theorem dL_fills_30 : decode cL_fills 30 = .ok (.irem, 1) := by decide +kernel
theorem dL_fills_31 : decode cL_fills 31 = .ok (.iload 5, 2) := by decide +kernel
theorem dL_fills_33 : decode cL_fills 33 = .ok (.bipush 64, 2) := by decide +kernel
theorem dL_fills_35 : decode cL_fills 35 = .ok (.idiv, 1) := by decide +kernel
theorem dL_fills_36 : decode cL_fills 36 = .ok (.iconst 3, 1) := by decide +kernel
theorem dL_fills_37 : decode cL_fills 37 = .ok (.irem, 1) := by decide +kernel
theorem dL_fills_38 : decode cL_fills 38 = .ok (.iload 5, 2) := by decide +kernel
theorem dL_fills_40 : decode cL_fills 40 = .ok (.sipush 256, 3) := by decide +kernel
theorem dL_fills_43 : decode cL_fills 43 = .ok (.idiv, 1) := by decide +kernel
theorem dL_fills_44 : decode cL_fills 44 = .ok (.invokestatic 14, 3) := by decide +kernel
theorem dL_fills_47 : decode cL_fills 47 = .ok (.invokevirtual 18, 3) := by decide +kernel
theorem dL_fills_50 : decode cL_fills 50 = .ok (.ifCond .lt 7, 3) := by decide +kernel
theorem dL_fills_53 : decode cL_fills 53 = .ok (.iconst 1, 1) := by decide +kernel
theorem dL_fills_54 : decode cL_fills 54 = .ok (.goto 4, 3) := by decide +kernel
theorem dL_fills_57 : decode cL_fills 57 = .ok (.iconst 0, 1) := by decide +kernel
theorem dL_fills_58 : decode cL_fills 58 = .ok (.istore_n 3, 1) := by decide +kernel
theorem dL_fills_59 : decode cL_fills 59 = .ok (.iinc 4 1, 3) := by decide +kernel
theorem dL_fills_62 : decode cL_fills 62 = .ok (.goto (-57), 3) := by decide +kernel
theorem dL_fills_65 : decode cL_fills 65 = .ok (.iload_n 3, 1) := by decide +kernel
theorem dL_fills_66 : decode cL_fills 66 = .ok (.ireturn, 1) := by decide +kernel
set_option maxRecDepth 20000 in
theorem ggL_linesHold_X4_count : GoodIn wsL_linesHold wsX4_count := goodIn_sub (lw_mem _ [6, 7, 8, 9, 10, 11, 12, 13, 14, 15, 16, 17, 18, 19, 20, 21, 22, 23, 24, 25, 26, 27, 28, 29, 30, 31, 32, 33, 34, 35, 36, 37, 38, 39, 40, 41, 42, 43, 44, 45, 46, 47, 48, 49, 50, 51, 52, 53, 54, 55, 56, 57, 58, 59, 60, 61, 62, 63, 64, 65, 66, 67, 68, 69, 70, 71, 72, 96, 97, 98, 99, 100, 101, 102, 103, 104, 105, 106, 107, 108, 109, 110, 111, 112, 113, 114, 115, 116, 117, 118, 119] rfl) (by decide +kernel)
set_option maxRecDepth 20000 in
theorem gL_linesHold_X4_count : GoodIn wsL_linesHold (wsV RL 24 RX4 yX4_count wsX4_count) := goodIn_app (goodIn_of _ (by decide +kernel)) ggL_linesHold_X4_count
set_option maxRecDepth 20000 in
theorem ggL_linesHold_X4_line : GoodIn wsL_linesHold wsX4_line := goodIn_sub (lw_mem _ [76, 7, 8, 19, 77, 78, 79, 80, 43, 44, 23, 45, 30, 81, 36, 37, 38, 39, 40, 41, 42, 46, 47, 48, 49, 50, 51, 52, 53, 54, 25, 55, 82, 32, 33, 34, 35, 83, 84, 85, 86, 56, 57, 58, 59, 60, 61, 62, 63, 64, 96, 97, 98, 99, 100, 101, 102, 103, 104, 105, 106, 107, 108, 109, 110] rfl) (by decide +kernel)
set_option maxRecDepth 20000 in
theorem gL_linesHold_X4_line : GoodIn wsL_linesHold (wsV RL 27 RX4 yX4_line wsX4_line) := goodIn_app (goodIn_of _ (by decide +kernel)) ggL_linesHold_X4_line
set_option maxRecDepth 20000 in
theorem ggL_linesHold_X4_at : GoodIn wsL_linesHold wsX4_at := goodIn_sub (lw_mem _ [90, 19, 7, 8, 91, 92, 93, 23, 94, 30, 95, 35, 36, 37, 38, 39, 40, 41, 42, 43, 44, 45, 46, 47, 48, 49, 50, 51, 52, 53, 54, 25, 55, 96, 97, 98, 99, 100, 101, 102, 103, 104, 105, 106, 107, 108, 109, 110] rfl) (by decide +kernel)
set_option maxRecDepth 20000 in
theorem gL_linesHold_X4_at : GoodIn wsL_linesHold (wsV RL 31 RX4 yX4_at wsX4_at) := goodIn_app (goodIn_of _ (by decide +kernel)) ggL_linesHold_X4_at
theorem dL_linesHold_0 : decode cL_linesHold 0 = .ok (.aload_n 0, 1) := by decide +kernel
theorem dL_linesHold_1 : decode cL_linesHold 1 = .ok (.iconst 0, 1) := by decide +kernel
theorem dL_linesHold_2 : decode cL_linesHold 2 = .ok (.invokevirtual 24, 3) := by decide +kernel
theorem dL_linesHold_5 : decode cL_linesHold 5 = .ok (.istore_n 1, 1) := by decide +kernel
theorem dL_linesHold_6 : decode cL_linesHold 6 = .ok (.iconst 0, 1) := by decide +kernel
theorem dL_linesHold_7 : decode cL_linesHold 7 = .ok (.istore_n 2, 1) := by decide +kernel
theorem dL_linesHold_8 : decode cL_linesHold 8 = .ok (.iconst 0, 1) := by decide +kernel
theorem dL_linesHold_9 : decode cL_linesHold 9 = .ok (.istore_n 3, 1) := by decide +kernel
theorem dL_linesHold_10 : decode cL_linesHold 10 = .ok (.iconst 0, 1) := by decide +kernel
theorem dL_linesHold_11 : decode cL_linesHold 11 = .ok (.istore 4, 2) := by decide +kernel
theorem dL_linesHold_13 : decode cL_linesHold 13 = .ok (.aload_n 0, 1) := by decide +kernel
theorem dL_linesHold_14 : decode cL_linesHold 14 = .ok (.iconst 5, 1) := by decide +kernel
theorem dL_linesHold_15 : decode cL_linesHold 15 = .ok (.invokevirtual 24, 3) := by decide +kernel
theorem dL_linesHold_18 : decode cL_linesHold 18 = .ok (.istore 5, 2) := by decide +kernel
theorem dL_linesHold_20 : decode cL_linesHold 20 = .ok (.aload_n 0, 1) := by decide +kernel
theorem dL_linesHold_21 : decode cL_linesHold 21 = .ok (.bipush 6, 2) := by decide +kernel
theorem dL_linesHold_23 : decode cL_linesHold 23 = .ok (.invokevirtual 24, 3) := by decide +kernel
theorem dL_linesHold_26 : decode cL_linesHold 26 = .ok (.istore 6, 2) := by decide +kernel
theorem dL_linesHold_28 : decode cL_linesHold 28 = .ok (.iconst 1, 1) := by decide +kernel
theorem dL_linesHold_29 : decode cL_linesHold 29 = .ok (.istore 7, 2) := by decide +kernel
theorem dL_linesHold_31 : decode cL_linesHold 31 = .ok (.iconst 0, 1) := by decide +kernel
theorem dL_linesHold_32 : decode cL_linesHold 32 = .ok (.istore 8, 2) := by decide +kernel
theorem dL_linesHold_34 : decode cL_linesHold 34 = .ok (.iload 8, 2) := by decide +kernel
theorem dL_linesHold_36 : decode cL_linesHold 36 = .ok (.iload_n 1, 1) := by decide +kernel
theorem dL_linesHold_37 : decode cL_linesHold 37 = .ok (.if_icmp .ge 291, 3) := by decide +kernel
theorem dL_linesHold_40 : decode cL_linesHold 40 = .ok (.iload 7, 2) := by decide +kernel
theorem dL_linesHold_42 : decode cL_linesHold 42 = .ok (.ifCond .eq 286, 3) := by decide +kernel
theorem dL_linesHold_45 : decode cL_linesHold 45 = .ok (.aload_n 0, 1) := by decide +kernel
theorem dL_linesHold_46 : decode cL_linesHold 46 = .ok (.iload 8, 2) := by decide +kernel
theorem dL_linesHold_48 : decode cL_linesHold 48 = .ok (.iconst 0, 1) := by decide +kernel
theorem dL_linesHold_49 : decode cL_linesHold 49 = .ok (.invokevirtual 27, 3) := by decide +kernel
theorem dL_linesHold_52 : decode cL_linesHold 52 = .ok (.istore 9, 2) := by decide +kernel
theorem dL_linesHold_54 : decode cL_linesHold 54 = .ok (.aload_n 0, 1) := by decide +kernel
theorem dL_linesHold_55 : decode cL_linesHold 55 = .ok (.iload 8, 2) := by decide +kernel
theorem dL_linesHold_57 : decode cL_linesHold 57 = .ok (.iconst 1, 1) := by decide +kernel
theorem dL_linesHold_58 : decode cL_linesHold 58 = .ok (.invokevirtual 27, 3) := by decide +kernel
theorem dL_linesHold_61 : decode cL_linesHold 61 = .ok (.istore 10, 2) := by decide +kernel
theorem dL_linesHold_63 : decode cL_linesHold 63 = .ok (.iload 10, 2) := by decide +kernel
theorem dL_linesHold_65 : decode cL_linesHold 65 = .ok (.ifCond .ne 7, 3) := by decide +kernel
theorem dL_linesHold_68 : decode cL_linesHold 68 = .ok (.iconst 1, 1) := by decide +kernel
theorem dL_linesHold_69 : decode cL_linesHold 69 = .ok (.goto 21, 3) := by decide +kernel
theorem dL_linesHold_72 : decode cL_linesHold 72 = .ok (.iload 10, 2) := by decide +kernel
theorem dL_linesHold_74 : decode cL_linesHold 74 = .ok (.aload_n 0, 1) := by decide +kernel
theorem dL_linesHold_75 : decode cL_linesHold 75 = .ok (.bipush 7, 2) := by decide +kernel
theorem dL_linesHold_77 : decode cL_linesHold 77 = .ok (.invokevirtual 24, 3) := by decide +kernel
theorem dL_linesHold_80 : decode cL_linesHold 80 = .ok (.iadd, 1) := by decide +kernel
theorem dL_linesHold_81 : decode cL_linesHold 81 = .ok (.iconst 1, 1) := by decide +kernel
theorem dL_linesHold_82 : decode cL_linesHold 82 = .ok (.isub, 1) := by decide +kernel
theorem dL_linesHold_83 : decode cL_linesHold 83 = .ok (.aload_n 0, 1) := by decide +kernel
theorem dL_linesHold_84 : decode cL_linesHold 84 = .ok (.bipush 7, 2) := by decide +kernel
theorem dL_linesHold_86 : decode cL_linesHold 86 = .ok (.invokevirtual 24, 3) := by decide +kernel
theorem dL_linesHold_89 : decode cL_linesHold 89 = .ok (.idiv, 1) := by decide +kernel
theorem dL_linesHold_90 : decode cL_linesHold 90 = .ok (.istore 11, 2) := by decide +kernel
theorem dL_linesHold_92 : decode cL_linesHold 92 = .ok (.aload_n 0, 1) := by decide +kernel
theorem dL_linesHold_93 : decode cL_linesHold 93 = .ok (.iload 8, 2) := by decide +kernel
theorem dL_linesHold_95 : decode cL_linesHold 95 = .ok (.iconst 2, 1) := by decide +kernel
theorem dL_linesHold_96 : decode cL_linesHold 96 = .ok (.invokevirtual 27, 3) := by decide +kernel
theorem dL_linesHold_99 : decode cL_linesHold 99 = .ok (.istore 12, 2) := by decide +kernel
theorem dL_linesHold_101 : decode cL_linesHold 101 = .ok (.aload_n 0, 1) := by decide +kernel
theorem dL_linesHold_102 : decode cL_linesHold 102 = .ok (.iload 8, 2) := by decide +kernel
theorem dL_linesHold_104 : decode cL_linesHold 104 = .ok (.iconst 3, 1) := by decide +kernel
theorem dL_linesHold_105 : decode cL_linesHold 105 = .ok (.invokevirtual 27, 3) := by decide +kernel
theorem dL_linesHold_108 : decode cL_linesHold 108 = .ok (.iconst 1, 1) := by decide +kernel
theorem dL_linesHold_109 : decode cL_linesHold 109 = .ok (.if_icmp .ne 7, 3) := by decide +kernel
theorem dL_linesHold_112 : decode cL_linesHold 112 = .ok (.iconst 1, 1) := by decide +kernel
theorem dL_linesHold_113 : decode cL_linesHold 113 = .ok (.goto 4, 3) := by decide +kernel
theorem dL_linesHold_116 : decode cL_linesHold 116 = .ok (.iconst 0, 1) := by decide +kernel
theorem dL_linesHold_117 : decode cL_linesHold 117 = .ok (.istore 13, 2) := by decide +kernel
theorem dL_linesHold_119 : decode cL_linesHold 119 = .ok (.aload_n 0, 1) := by decide +kernel
theorem dL_linesHold_120 : decode cL_linesHold 120 = .ok (.iload 8, 2) := by decide +kernel
theorem dL_linesHold_122 : decode cL_linesHold 122 = .ok (.bipush 6, 2) := by decide +kernel
theorem dL_linesHold_124 : decode cL_linesHold 124 = .ok (.invokevirtual 27, 3) := by decide +kernel
theorem dL_linesHold_127 : decode cL_linesHold 127 = .ok (.istore 14, 2) := by decide +kernel
theorem dL_linesHold_129 : decode cL_linesHold 129 = .ok (.iload 14, 2) := by decide +kernel
theorem dL_linesHold_131 : decode cL_linesHold 131 = .ok (.iload 6, 2) := by decide +kernel
theorem dL_linesHold_133 : decode cL_linesHold 133 = .ok (.if_icmp .ge 15, 3) := by decide +kernel
theorem dL_linesHold_136 : decode cL_linesHold 136 = .ok (.iload 14, 2) := by decide +kernel
theorem dL_linesHold_138 : decode cL_linesHold 138 = .ok (.iload 12, 2) := by decide +kernel
theorem dL_linesHold_140 : decode cL_linesHold 140 = .ok (.iadd, 1) := by decide +kernel
theorem dL_linesHold_141 : decode cL_linesHold 141 = .ok (.ifCond .le 7, 3) := by decide +kernel
theorem dL_linesHold_144 : decode cL_linesHold 144 = .ok (.iconst 1, 1) := by decide +kernel
theorem dL_linesHold_145 : decode cL_linesHold 145 = .ok (.goto 4, 3) := by decide +kernel
theorem dL_linesHold_148 : decode cL_linesHold 148 = .ok (.iconst 0, 1) := by decide +kernel
theorem dL_linesHold_149 : decode cL_linesHold 149 = .ok (.istore 15, 2) := by decide +kernel
theorem dL_linesHold_151 : decode cL_linesHold 151 = .ok (.aload_n 0, 1) := by decide +kernel
theorem dL_linesHold_152 : decode cL_linesHold 152 = .ok (.iload 8, 2) := by decide +kernel
theorem dL_linesHold_154 : decode cL_linesHold 154 = .ok (.iconst 5, 1) := by decide +kernel
theorem dL_linesHold_155 : decode cL_linesHold 155 = .ok (.invokevirtual 27, 3) := by decide +kernel
theorem dL_linesHold_158 : decode cL_linesHold 158 = .ok (.iload 9, 2) := by decide +kernel
theorem dL_linesHold_160 : decode cL_linesHold 160 = .ok (.ifCond .ne 13, 3) := by decide +kernel
theorem dL_linesHold_163 : decode cL_linesHold 163 = .ok (.bipush 12, 2) := by decide +kernel
theorem dL_linesHold_165 : decode cL_linesHold 165 = .ok (.iload 11, 2) := by decide +kernel
theorem dL_linesHold_167 : decode cL_linesHold 167 = .ok (.imul, 1) := by decide +kernel
theorem dL_linesHold_168 : decode cL_linesHold 168 = .ok (.iconst 4, 1) := by decide +kernel
theorem dL_linesHold_169 : decode cL_linesHold 169 = .ok (.iadd, 1) := by decide +kernel
theorem dL_linesHold_170 : decode cL_linesHold 170 = .ok (.goto 25, 3) := by decide +kernel
theorem dL_linesHold_173 : decode cL_linesHold 173 = .ok (.iload 9, 2) := by decide +kernel
theorem dL_linesHold_175 : decode cL_linesHold 175 = .ok (.iconst 1, 1) := by decide +kernel
theorem dL_linesHold_176 : decode cL_linesHold 176 = .ok (.if_icmp .ne 14, 3) := by decide +kernel
theorem dL_linesHold_179 : decode cL_linesHold 179 = .ok (.bipush 18, 2) := by decide +kernel
theorem dL_linesHold_181 : decode cL_linesHold 181 = .ok (.iload 11, 2) := by decide +kernel
theorem dL_linesHold_183 : decode cL_linesHold 183 = .ok (.imul, 1) := by decide +kernel
theorem dL_linesHold_184 : decode cL_linesHold 184 = .ok (.bipush 10, 2) := by decide +kernel
theorem dL_linesHold_186 : decode cL_linesHold 186 = .ok (.iadd, 1) := by decide +kernel
theorem dL_linesHold_187 : decode cL_linesHold 187 = .ok (.goto 8, 3) := by decide +kernel
theorem dL_linesHold_190 : decode cL_linesHold 190 = .ok (.iload 10, 2) := by decide +kernel
theorem dL_linesHold_192 : decode cL_linesHold 192 = .ok (.bipush 6, 2) := by decide +kernel
theorem dL_linesHold_194 : decode cL_linesHold 194 = .ok (.iadd, 1) := by decide +kernel
theorem dL_linesHold_195 : decode cL_linesHold 195 = .ok (.if_icmp .ne 91, 3) := by decide +kernel
theorem dL_linesHold_198 : decode cL_linesHold 198 = .ok (.iload 12, 2) := by decide +kernel
theorem dL_linesHold_200 : decode cL_linesHold 200 = .ok (.iload 13, 2) := by decide +kernel
theorem dL_linesHold_202 : decode cL_linesHold 202 = .ok (.ifCond .eq 13, 3) := by decide +kernel
theorem dL_linesHold_205 : decode cL_linesHold 205 = .ok (.aload_n 0, 1) := by decide +kernel
theorem dL_linesHold_206 : decode cL_linesHold 206 = .ok (.iload 8, 2) := by decide +kernel
theorem dL_linesHold_208 : decode cL_linesHold 208 = .ok (.iconst 5, 1) := by decide +kernel
theorem dL_linesHold_209 : decode cL_linesHold 209 = .ok (.invokevirtual 27, 3) := by decide +kernel
theorem dL_linesHold_212 : decode cL_linesHold 212 = .ok (.goto 12, 3) := by decide +kernel
theorem dL_linesHold_215 : decode cL_linesHold 215 = .ok (.aload_n 0, 1) := by decide +kernel
theorem dL_linesHold_216 : decode cL_linesHold 216 = .ok (.bipush 8, 2) := by decide +kernel
theorem dL_linesHold_218 : decode cL_linesHold 218 = .ok (.iload 9, 2) := by decide +kernel
theorem dL_linesHold_220 : decode cL_linesHold 220 = .ok (.iadd, 1) := by decide +kernel
theorem dL_linesHold_221 : decode cL_linesHold 221 = .ok (.invokevirtual 24, 3) := by decide +kernel
theorem dL_linesHold_224 : decode cL_linesHold 224 = .ok (.if_icmp .ne 62, 3) := by decide +kernel
theorem dL_linesHold_227 : decode cL_linesHold 227 = .ok (.aload_n 0, 1) := by decide +kernel
theorem dL_linesHold_228 : decode cL_linesHold 228 = .ok (.iload 8, 2) := by decide +kernel
theorem dL_linesHold_230 : decode cL_linesHold 230 = .ok (.iconst 4, 1) := by decide +kernel
theorem dL_linesHold_231 : decode cL_linesHold 231 = .ok (.invokevirtual 27, 3) := by decide +kernel
theorem dL_linesHold_234 : decode cL_linesHold 234 = .ok (.iload_n 2, 1) := by decide +kernel
theorem dL_linesHold_235 : decode cL_linesHold 235 = .ok (.if_icmp .ne 51, 3) := by decide +kernel
theorem dL_linesHold_238 : decode cL_linesHold 238 = .ok (.iload 14, 2) := by decide +kernel
theorem dL_linesHold_240 : decode cL_linesHold 240 = .ok (.iload_n 2, 1) := by decide +kernel
theorem dL_linesHold_241 : decode cL_linesHold 241 = .ok (.iload 5, 2) := by decide +kernel
theorem dL_linesHold_243 : decode cL_linesHold 243 = .ok (.isub, 1) := by decide +kernel
theorem dL_linesHold_244 : decode cL_linesHold 244 = .ok (.if_icmp .ne 42, 3) := by decide +kernel
theorem dL_linesHold_247 : decode cL_linesHold 247 = .ok (.iload 13, 2) := by decide +kernel
theorem dL_linesHold_249 : decode cL_linesHold 249 = .ok (.ifCond .ne 8, 3) := by decide +kernel
theorem dL_linesHold_252 : decode cL_linesHold 252 = .ok (.iload 15, 2) := by decide +kernel
theorem dL_linesHold_254 : decode cL_linesHold 254 = .ok (.ifCond .ne 32, 3) := by decide +kernel
theorem dL_linesHold_257 : decode cL_linesHold 257 = .ok (.aload_n 0, 1) := by decide +kernel
theorem dL_linesHold_258 : decode cL_linesHold 258 = .ok (.iload_n 2, 1) := by decide +kernel
theorem dL_linesHold_259 : decode cL_linesHold 259 = .ok (.invokevirtual 31, 3) := by decide +kernel
theorem dL_linesHold_262 : decode cL_linesHold 262 = .ok (.iload 8, 2) := by decide +kernel
theorem dL_linesHold_264 : decode cL_linesHold 264 = .ok (.if_icmp .ne 22, 3) := by decide +kernel
theorem dL_linesHold_267 : decode cL_linesHold 267 = .ok (.aload_n 0, 1) := by decide +kernel
theorem dL_linesHold_268 : decode cL_linesHold 268 = .ok (.iload_n 2, 1) := by decide +kernel
theorem dL_linesHold_269 : decode cL_linesHold 269 = .ok (.iload 12, 2) := by decide +kernel
theorem dL_linesHold_271 : decode cL_linesHold 271 = .ok (.iadd, 1) := by decide +kernel
theorem dL_linesHold_272 : decode cL_linesHold 272 = .ok (.iconst 1, 1) := by decide +kernel
theorem dL_linesHold_273 : decode cL_linesHold 273 = .ok (.isub, 1) := by decide +kernel
theorem dL_linesHold_274 : decode cL_linesHold 274 = .ok (.invokevirtual 31, 3) := by decide +kernel
theorem dL_linesHold_277 : decode cL_linesHold 277 = .ok (.iload 8, 2) := by decide +kernel
theorem dL_linesHold_279 : decode cL_linesHold 279 = .ok (.if_icmp .ne 7, 3) := by decide +kernel
theorem dL_linesHold_282 : decode cL_linesHold 282 = .ok (.iconst 1, 1) := by decide +kernel
theorem dL_linesHold_283 : decode cL_linesHold 283 = .ok (.goto 4, 3) := by decide +kernel
theorem dL_linesHold_286 : decode cL_linesHold 286 = .ok (.iconst 0, 1) := by decide +kernel
theorem dL_linesHold_287 : decode cL_linesHold 287 = .ok (.istore 7, 2) := by decide +kernel
theorem dL_linesHold_289 : decode cL_linesHold 289 = .ok (.iload_n 3, 1) := by decide +kernel
theorem dL_linesHold_290 : decode cL_linesHold 290 = .ok (.iload 13, 2) := by decide +kernel
theorem dL_linesHold_292 : decode cL_linesHold 292 = .ok (.ifCond .eq 7, 3) := by decide +kernel
theorem dL_linesHold_295 : decode cL_linesHold 295 = .ok (.iconst 1, 1) := by decide +kernel
theorem dL_linesHold_296 : decode cL_linesHold 296 = .ok (.goto 4, 3) := by decide +kernel
theorem dL_linesHold_299 : decode cL_linesHold 299 = .ok (.iconst 0, 1) := by decide +kernel
theorem dL_linesHold_300 : decode cL_linesHold 300 = .ok (.iadd, 1) := by decide +kernel
theorem dL_linesHold_301 : decode cL_linesHold 301 = .ok (.istore_n 3, 1) := by decide +kernel
theorem dL_linesHold_302 : decode cL_linesHold 302 = .ok (.iload 4, 2) := by decide +kernel
theorem dL_linesHold_304 : decode cL_linesHold 304 = .ok (.iload 15, 2) := by decide +kernel
theorem dL_linesHold_306 : decode cL_linesHold 306 = .ok (.ifCond .eq 7, 3) := by decide +kernel
theorem dL_linesHold_309 : decode cL_linesHold 309 = .ok (.iconst 1, 1) := by decide +kernel
theorem dL_linesHold_310 : decode cL_linesHold 310 = .ok (.goto 4, 3) := by decide +kernel
theorem dL_linesHold_313 : decode cL_linesHold 313 = .ok (.iconst 0, 1) := by decide +kernel
theorem dL_linesHold_314 : decode cL_linesHold 314 = .ok (.iadd, 1) := by decide +kernel
theorem dL_linesHold_315 : decode cL_linesHold 315 = .ok (.istore 4, 2) := by decide +kernel
theorem dL_linesHold_317 : decode cL_linesHold 317 = .ok (.iload_n 2, 1) := by decide +kernel
theorem dL_linesHold_318 : decode cL_linesHold 318 = .ok (.iload 12, 2) := by decide +kernel
theorem dL_linesHold_320 : decode cL_linesHold 320 = .ok (.iadd, 1) := by decide +kernel
theorem dL_linesHold_321 : decode cL_linesHold 321 = .ok (.istore_n 2, 1) := by decide +kernel
theorem dL_linesHold_322 : decode cL_linesHold 322 = .ok (.iinc 8 1, 3) := by decide +kernel
theorem dL_linesHold_325 : decode cL_linesHold 325 = .ok (.goto (-291), 3) := by decide +kernel
theorem dL_linesHold_328 : decode cL_linesHold 328 = .ok (.iload 7, 2) := by decide +kernel
theorem dL_linesHold_330 : decode cL_linesHold 330 = .ok (.ifCond .eq 46, 3) := by decide +kernel
theorem dL_linesHold_333 : decode cL_linesHold 333 = .ok (.aload_n 0, 1) := by decide +kernel
theorem dL_linesHold_334 : decode cL_linesHold 334 = .ok (.iconst 4, 1) := by decide +kernel
theorem dL_linesHold_335 : decode cL_linesHold 335 = .ok (.invokevirtual 24, 3) := by decide +kernel
theorem dL_linesHold_338 : decode cL_linesHold 338 = .ok (.iload_n 2, 1) := by decide +kernel
theorem dL_linesHold_339 : decode cL_linesHold 339 = .ok (.if_icmp .ne 37, 3) := by decide +kernel
theorem dL_linesHold_342 : decode cL_linesHold 342 = .ok (.aload_n 0, 1) := by decide +kernel
theorem dL_linesHold_343 : decode cL_linesHold 343 = .ok (.iconst 1, 1) := by decide +kernel
theorem dL_linesHold_344 : decode cL_linesHold 344 = .ok (.invokevirtual 24, 3) := by decide +kernel
theorem dL_linesHold_347 : decode cL_linesHold 347 = .ok (.iload_n 3, 1) := by decide +kernel
theorem dL_linesHold_348 : decode cL_linesHold 348 = .ok (.if_icmp .ne 28, 3) := by decide +kernel
theorem dL_linesHold_351 : decode cL_linesHold 351 = .ok (.aload_n 0, 1) := by decide +kernel
theorem dL_linesHold_352 : decode cL_linesHold 352 = .ok (.bipush 11, 2) := by decide +kernel
theorem dL_linesHold_354 : decode cL_linesHold 354 = .ok (.invokevirtual 24, 3) := by decide +kernel
theorem dL_linesHold_357 : decode cL_linesHold 357 = .ok (.iload 4, 2) := by decide +kernel
theorem dL_linesHold_359 : decode cL_linesHold 359 = .ok (.if_icmp .ne 17, 3) := by decide +kernel
theorem dL_linesHold_362 : decode cL_linesHold 362 = .ok (.aload_n 0, 1) := by decide +kernel
theorem dL_linesHold_363 : decode cL_linesHold 363 = .ok (.iload_n 2, 1) := by decide +kernel
theorem dL_linesHold_364 : decode cL_linesHold 364 = .ok (.invokevirtual 31, 3) := by decide +kernel
theorem dL_linesHold_367 : decode cL_linesHold 367 = .ok (.ldc 34, 2) := by decide +kernel
theorem dL_linesHold_369 : decode cL_linesHold 369 = .ok (.if_icmp .ne 7, 3) := by decide +kernel
theorem dL_linesHold_372 : decode cL_linesHold 372 = .ok (.iconst 1, 1) := by decide +kernel
theorem dL_linesHold_373 : decode cL_linesHold 373 = .ok (.goto 4, 3) := by decide +kernel
theorem dL_linesHold_376 : decode cL_linesHold 376 = .ok (.iconst 0, 1) := by decide +kernel
theorem dL_linesHold_377 : decode cL_linesHold 377 = .ok (.ireturn, 1) := by decide +kernel
set_option maxRecDepth 20000 in
theorem ggL_guessesHold_X4_count : GoodIn wsL_guessesHold wsX4_count := goodIn_sub (lw_mem _ [5, 6, 7, 8, 9, 10, 11, 12, 13, 14, 15, 16, 17, 18, 19, 20, 21, 22, 23, 24, 25, 26, 27, 28, 29, 30, 31, 32, 33, 34, 35, 36, 37, 38, 39, 40, 41, 42, 43, 44, 45, 46, 47, 48, 49, 50, 51, 52, 53, 54, 55, 56, 57, 58, 59, 60, 61, 62, 63, 64, 65, 66, 67, 68, 69, 70, 71, 86, 87, 88, 89, 90, 91, 92, 93, 94, 95, 96, 97, 98, 99, 100, 101, 102, 103, 104, 105, 106, 107, 108, 109] rfl) (by decide +kernel)
set_option maxRecDepth 20000 in
theorem gL_guessesHold_X4_count : GoodIn wsL_guessesHold (wsV RL 24 RX4 yX4_count wsX4_count) := goodIn_app (goodIn_of _ (by decide +kernel)) ggL_guessesHold_X4_count
set_option maxRecDepth 20000 in
theorem ggL_guessesHold_X4_line : GoodIn wsL_guessesHold wsX4_line := goodIn_sub (lw_mem _ [75, 6, 7, 18, 76, 77, 78, 79, 42, 43, 22, 44, 29, 80, 35, 36, 37, 38, 39, 40, 41, 45, 46, 47, 48, 49, 50, 51, 52, 53, 24, 54, 81, 31, 32, 33, 34, 82, 83, 84, 85, 55, 56, 57, 58, 59, 60, 61, 62, 63, 86, 87, 88, 89, 90, 91, 92, 93, 94, 95, 96, 97, 98, 99, 100] rfl) (by decide +kernel)
set_option maxRecDepth 20000 in
theorem gL_guessesHold_X4_line : GoodIn wsL_guessesHold (wsV RL 27 RX4 yX4_line wsX4_line) := goodIn_app (goodIn_of _ (by decide +kernel)) ggL_guessesHold_X4_line
theorem dL_guessesHold_0 : decode cL_guessesHold 0 = .ok (.iconst 1, 1) := by decide +kernel
theorem dL_guessesHold_1 : decode cL_guessesHold 1 = .ok (.istore_n 1, 1) := by decide +kernel
theorem dL_guessesHold_2 : decode cL_guessesHold 2 = .ok (.iconst 0, 1) := by decide +kernel
theorem dL_guessesHold_3 : decode cL_guessesHold 3 = .ok (.istore_n 2, 1) := by decide +kernel
theorem dL_guessesHold_4 : decode cL_guessesHold 4 = .ok (.iload_n 2, 1) := by decide +kernel
theorem dL_guessesHold_5 : decode cL_guessesHold 5 = .ok (.iconst 3, 1) := by decide +kernel
theorem dL_guessesHold_6 : decode cL_guessesHold 6 = .ok (.if_icmp .ge 131, 3) := by decide +kernel
theorem dL_guessesHold_9 : decode cL_guessesHold 9 = .ok (.iload_n 1, 1) := by decide +kernel
theorem dL_guessesHold_10 : decode cL_guessesHold 10 = .ok (.ifCond .eq 127, 3) := by decide +kernel
theorem dL_guessesHold_13 : decode cL_guessesHold 13 = .ok (.iconst 0, 1) := by decide +kernel
theorem dL_guessesHold_14 : decode cL_guessesHold 14 = .ok (.istore_n 3, 1) := by decide +kernel
theorem dL_guessesHold_15 : decode cL_guessesHold 15 = .ok (.iconst 0, 1) := by decide +kernel
theorem dL_guessesHold_16 : decode cL_guessesHold 16 = .ok (.istore 4, 2) := by decide +kernel
theorem dL_guessesHold_18 : decode cL_guessesHold 18 = .ok (.iconst 0, 1) := by decide +kernel
theorem dL_guessesHold_19 : decode cL_guessesHold 19 = .ok (.istore 5, 2) := by decide +kernel
theorem dL_guessesHold_21 : decode cL_guessesHold 21 = .ok (.iload 5, 2) := by decide +kernel
theorem dL_guessesHold_23 : decode cL_guessesHold 23 = .ok (.aload_n 0, 1) := by decide +kernel
theorem dL_guessesHold_24 : decode cL_guessesHold 24 = .ok (.iconst 0, 1) := by decide +kernel
theorem dL_guessesHold_25 : decode cL_guessesHold 25 = .ok (.invokevirtual 24, 3) := by decide +kernel
theorem dL_guessesHold_28 : decode cL_guessesHold 28 = .ok (.if_icmp .ge 72, 3) := by decide +kernel
theorem dL_guessesHold_31 : decode cL_guessesHold 31 = .ok (.aload_n 0, 1) := by decide +kernel
theorem dL_guessesHold_32 : decode cL_guessesHold 32 = .ok (.iload 5, 2) := by decide +kernel
theorem dL_guessesHold_34 : decode cL_guessesHold 34 = .ok (.iconst 0, 1) := by decide +kernel
theorem dL_guessesHold_35 : decode cL_guessesHold 35 = .ok (.invokevirtual 27, 3) := by decide +kernel
theorem dL_guessesHold_38 : decode cL_guessesHold 38 = .ok (.iload_n 2, 1) := by decide +kernel
theorem dL_guessesHold_39 : decode cL_guessesHold 39 = .ok (.if_icmp .ne 18, 3) := by decide +kernel
theorem dL_guessesHold_42 : decode cL_guessesHold 42 = .ok (.aload_n 0, 1) := by decide +kernel
theorem dL_guessesHold_43 : decode cL_guessesHold 43 = .ok (.iload 5, 2) := by decide +kernel
theorem dL_guessesHold_45 : decode cL_guessesHold 45 = .ok (.iconst 3, 1) := by decide +kernel
theorem dL_guessesHold_46 : decode cL_guessesHold 46 = .ok (.invokevirtual 27, 3) := by decide +kernel
theorem dL_guessesHold_49 : decode cL_guessesHold 49 = .ok (.iconst 1, 1) := by decide +kernel
theorem dL_guessesHold_50 : decode cL_guessesHold 50 = .ok (.if_icmp .ne 7, 3) := by decide +kernel
theorem dL_guessesHold_53 : decode cL_guessesHold 53 = .ok (.iconst 1, 1) := by decide +kernel
theorem dL_guessesHold_54 : decode cL_guessesHold 54 = .ok (.goto 4, 3) := by decide +kernel
theorem dL_guessesHold_57 : decode cL_guessesHold 57 = .ok (.iconst 0, 1) := by decide +kernel
theorem dL_guessesHold_58 : decode cL_guessesHold 58 = .ok (.istore 6, 2) := by decide +kernel
theorem dL_guessesHold_60 : decode cL_guessesHold 60 = .ok (.iload_n 3, 1) := by decide +kernel
theorem dL_guessesHold_61 : decode cL_guessesHold 61 = .ok (.iload 6, 2) := by decide +kernel
theorem dL_guessesHold_63 : decode cL_guessesHold 63 = .ok (.ifCond .eq 13, 3) := by decide +kernel
theorem dL_guessesHold_66 : decode cL_guessesHold 66 = .ok (.aload_n 0, 1) := by decide +kernel
theorem dL_guessesHold_67 : decode cL_guessesHold 67 = .ok (.iload 5, 2) := by decide +kernel
theorem dL_guessesHold_69 : decode cL_guessesHold 69 = .ok (.iconst 5, 1) := by decide +kernel
theorem dL_guessesHold_70 : decode cL_guessesHold 70 = .ok (.invokevirtual 27, 3) := by decide +kernel
theorem dL_guessesHold_73 : decode cL_guessesHold 73 = .ok (.goto 4, 3) := by decide +kernel
theorem dL_guessesHold_76 : decode cL_guessesHold 76 = .ok (.iconst 0, 1) := by decide +kernel
theorem dL_guessesHold_77 : decode cL_guessesHold 77 = .ok (.iadd, 1) := by decide +kernel
theorem dL_guessesHold_78 : decode cL_guessesHold 78 = .ok (.istore_n 3, 1) := by decide +kernel
theorem dL_guessesHold_79 : decode cL_guessesHold 79 = .ok (.iload 4, 2) := by decide +kernel
theorem dL_guessesHold_81 : decode cL_guessesHold 81 = .ok (.iload 6, 2) := by decide +kernel
theorem dL_guessesHold_83 : decode cL_guessesHold 83 = .ok (.ifCond .eq 7, 3) := by decide +kernel
theorem dL_guessesHold_86 : decode cL_guessesHold 86 = .ok (.iconst 1, 1) := by decide +kernel
theorem dL_guessesHold_87 : decode cL_guessesHold 87 = .ok (.goto 4, 3) := by decide +kernel
theorem dL_guessesHold_90 : decode cL_guessesHold 90 = .ok (.iconst 0, 1) := by decide +kernel
theorem dL_guessesHold_91 : decode cL_guessesHold 91 = .ok (.iadd, 1) := by decide +kernel
theorem dL_guessesHold_92 : decode cL_guessesHold 92 = .ok (.istore 4, 2) := by decide +kernel
theorem dL_guessesHold_94 : decode cL_guessesHold 94 = .ok (.iinc 5 1, 3) := by decide +kernel
theorem dL_guessesHold_97 : decode cL_guessesHold 97 = .ok (.goto (-76), 3) := by decide +kernel
theorem dL_guessesHold_100 : decode cL_guessesHold 100 = .ok (.aload_n 0, 1) := by decide +kernel
theorem dL_guessesHold_101 : decode cL_guessesHold 101 = .ok (.bipush 8, 2) := by decide +kernel
theorem dL_guessesHold_103 : decode cL_guessesHold 103 = .ok (.iload_n 2, 1) := by decide +kernel
theorem dL_guessesHold_104 : decode cL_guessesHold 104 = .ok (.iadd, 1) := by decide +kernel
theorem dL_guessesHold_105 : decode cL_guessesHold 105 = .ok (.invokevirtual 24, 3) := by decide +kernel
theorem dL_guessesHold_108 : decode cL_guessesHold 108 = .ok (.iload 4, 2) := by decide +kernel
theorem dL_guessesHold_110 : decode cL_guessesHold 110 = .ok (.ifCond .ne 8, 3) := by decide +kernel
theorem dL_guessesHold_113 : decode cL_guessesHold 113 = .ok (.bipush 20, 2) := by decide +kernel
theorem dL_guessesHold_115 : decode cL_guessesHold 115 = .ok (.goto 7, 3) := by decide +kernel
theorem dL_guessesHold_118 : decode cL_guessesHold 118 = .ok (.iload_n 3, 1) := by decide +kernel
theorem dL_guessesHold_119 : decode cL_guessesHold 119 = .ok (.iload 4, 2) := by decide +kernel
theorem dL_guessesHold_121 : decode cL_guessesHold 121 = .ok (.idiv, 1) := by decide +kernel
theorem dL_guessesHold_122 : decode cL_guessesHold 122 = .ok (.if_icmp .ne 7, 3) := by decide +kernel
theorem dL_guessesHold_125 : decode cL_guessesHold 125 = .ok (.iconst 1, 1) := by decide +kernel
theorem dL_guessesHold_126 : decode cL_guessesHold 126 = .ok (.goto 4, 3) := by decide +kernel
theorem dL_guessesHold_129 : decode cL_guessesHold 129 = .ok (.iconst 0, 1) := by decide +kernel
theorem dL_guessesHold_130 : decode cL_guessesHold 130 = .ok (.istore_n 1, 1) := by decide +kernel
theorem dL_guessesHold_131 : decode cL_guessesHold 131 = .ok (.iinc 2 1, 3) := by decide +kernel
theorem dL_guessesHold_134 : decode cL_guessesHold 134 = .ok (.goto (-130), 3) := by decide +kernel
theorem dL_guessesHold_137 : decode cL_guessesHold 137 = .ok (.iload_n 1, 1) := by decide +kernel
theorem dL_guessesHold_138 : decode cL_guessesHold 138 = .ok (.ireturn, 1) := by decide +kernel
set_option maxRecDepth 20000 in
theorem ggL_holds_X4_count : GoodIn wsL_holds wsX4_count := goodIn_sub (lw_mem _ [7, 8, 9, 10, 11, 12, 13, 14, 15, 16, 17, 18, 19, 20, 21, 22, 23, 24, 25, 26, 27, 28, 29, 30, 31, 32, 33, 34, 35, 36, 37, 38, 39, 40, 41, 42, 43, 44, 45, 46, 47, 48, 49, 50, 51, 52, 53, 54, 55, 56, 57, 58, 59, 60, 61, 62, 63, 64, 65, 66, 67, 68, 69, 70, 71, 72, 73, 192, 193, 194, 195, 196, 197, 198, 199, 200, 201, 202, 203, 204, 205, 206, 207, 208, 209, 210, 211, 212, 213, 214, 215] rfl) (by decide +kernel)
set_option maxRecDepth 20000 in
theorem gL_holds_X4_count : GoodIn wsL_holds (wsV RL 24 RX4 yX4_count wsX4_count) := goodIn_app (goodIn_of _ (by decide +kernel)) ggL_holds_X4_count
set_option maxRecDepth 20000 in
theorem ggL_holds_X4_share : GoodIn wsL_holds wsX4_share := goodIn_sub (lw_mem _ [77, 8, 9, 14, 27, 28, 29, 24, 30, 31, 32, 33, 34, 35, 36, 37, 38, 39, 40, 41, 42, 43, 44, 45, 46, 47, 48, 49, 50, 51, 52, 53, 54, 55, 26, 56, 57, 58, 59, 60, 61, 62, 63, 64, 65, 192, 193, 194, 195, 196, 197, 198, 199, 200, 201, 202, 203, 204, 205, 206] rfl) (by decide +kernel)
set_option maxRecDepth 20000 in
theorem gL_holds_X4_share : GoodIn wsL_holds (wsV RL 35 RX4 yX4_share wsX4_share) := goodIn_app (goodIn_of _ (by decide +kernel)) ggL_holds_X4_share
set_option maxRecDepth 20000 in
theorem ggL_holds_X4_seen : GoodIn wsL_holds wsX4_seen := goodIn_sub (lw_mem _ [81, 8, 14, 20, 9, 82, 83, 6, 84, 57, 58, 59, 60, 61, 62, 63, 64, 65, 33, 34, 24, 35, 31, 36, 37, 38, 39, 40, 41, 42, 43, 44, 45, 46, 47, 48, 49, 50, 51, 52, 53, 54, 55, 26, 56, 85, 86, 87, 88, 89, 192, 193, 194, 195, 196, 197, 198, 199, 200, 201, 202, 203, 204, 205, 206] rfl) (by decide +kernel)
set_option maxRecDepth 20000 in
theorem gL_holds_X4_seen : GoodIn wsL_holds (wsV RL 39 RX4 yX4_seen wsX4_seen) := goodIn_app (goodIn_of _ (by decide +kernel)) ggL_holds_X4_seen
set_option maxRecDepth 20000 in
theorem ggL_holds_X4_scroll : GoodIn wsL_holds wsX4_scroll := goodIn_sub (lw_mem _ [93, 94, 8, 95, 96, 97, 60, 98, 62, 72, 63, 64, 99, 100, 101, 24, 102, 41, 103, 104, 105, 106, 42, 40, 56, 26, 31, 51, 107, 108, 109, 110, 111, 71, 112, 83, 6, 84, 113, 114, 115, 116, 117, 118, 119, 120, 121, 122, 123, 124, 43, 44, 45, 46, 125, 126, 127, 128, 47, 48, 49, 50, 73, 37, 38, 39, 52, 53, 54, 55, 129, 130, 131, 132, 133, 134, 135, 136, 137, 138, 139, 140, 16, 141, 142, 143, 144, 145, 146, 147, 148, 149, 150, 151, 152, 153, 154, 155, 156, 192, 193, 194, 195, 196, 197, 198, 199, 200, 201, 202, 203, 204, 205, 206, 207, 208, 209] rfl) (by decide +kernel)
set_option maxRecDepth 20000 in
theorem gL_holds_X4_scroll : GoodIn wsL_holds (wsV RL 42 RX4 yX4_scroll wsX4_scroll) := goodIn_app (goodIn_of _ (by decide +kernel)) ggL_holds_X4_scroll
set_option maxRecDepth 20000 in
theorem ggL_holds_X4_jump : GoodIn wsL_holds wsX4_jump := goodIn_sub (lw_mem _ [160, 94, 8, 95, 96, 97, 60, 98, 62, 72, 63, 64, 99, 100, 101, 24, 102, 41, 103, 104, 105, 106, 42, 40, 56, 26, 31, 51, 161, 162, 163, 164, 111, 71, 112, 117, 118, 119, 120, 83, 6, 84, 165, 28, 29, 30, 32, 33, 34, 35, 36, 37, 38, 39, 43, 44, 45, 46, 47, 48, 49, 50, 52, 53, 54, 55, 166, 86, 87, 88, 89, 65, 129, 130, 131, 132, 133, 134, 135, 136, 121, 122, 123, 124, 125, 126, 127, 128, 73, 113, 114, 115, 116, 137, 138, 139, 140, 16, 141, 142, 143, 144, 145, 146, 147, 148, 149, 150, 151, 152, 153, 154, 155, 156, 192, 193, 194, 195, 196, 197, 198, 199, 200, 201, 202, 203, 204, 205, 206, 207, 208, 209] rfl) (by decide +kernel)
set_option maxRecDepth 20000 in
theorem gL_holds_X4_jump : GoodIn wsL_holds (wsV RL 46 RX4 yX4_jump wsX4_jump) := goodIn_app (goodIn_of _ (by decide +kernel)) ggL_holds_X4_jump
set_option maxRecDepth 20000 in
theorem ggL_holds_L_linesHold : GoodIn wsL_holds wsL_linesHold := goodIn_sub (lw_mem _ [170, 1, 3, 4, 5, 6, 7, 8, 9, 10, 11, 12, 13, 14, 15, 16, 17, 18, 19, 20, 21, 22, 23, 24, 25, 26, 27, 28, 29, 30, 31, 32, 33, 34, 35, 36, 37, 38, 39, 40, 41, 42, 43, 44, 45, 46, 47, 48, 49, 50, 51, 52, 53, 54, 55, 56, 57, 58, 59, 60, 61, 62, 63, 64, 65, 66, 67, 68, 69, 70, 71, 72, 73, 171, 172, 173, 174, 175, 176, 177, 178, 179, 180, 181, 182, 183, 184, 185, 186, 187, 188, 85, 86, 87, 88, 89, 192, 193, 194, 195, 196, 197, 198, 199, 200, 201, 202, 203, 204, 205, 206, 207, 208, 209, 210, 211, 212, 213, 214, 215] rfl) (by decide +kernel)
set_option maxRecDepth 20000 in
theorem gL_holds_L_linesHold : GoodIn wsL_holds (va_wsS RL 49 yL_linesHold wsL_linesHold) := goodIn_app (goodIn_of _ (by decide +kernel)) ggL_holds_L_linesHold
set_option maxRecDepth 20000 in
theorem ggL_holds_L_guessesHold : GoodIn wsL_holds wsL_guessesHold := goodIn_sub (lw_mem _ [191, 3, 4, 5, 6, 7, 8, 9, 10, 11, 12, 13, 14, 15, 16, 17, 18, 19, 20, 21, 22, 23, 24, 25, 26, 27, 28, 29, 30, 31, 32, 33, 34, 35, 36, 37, 38, 39, 40, 41, 42, 43, 44, 45, 46, 47, 48, 49, 50, 51, 52, 53, 54, 55, 56, 57, 58, 59, 60, 61, 62, 63, 64, 65, 66, 67, 68, 69, 70, 71, 72, 73, 171, 172, 173, 174, 175, 176, 177, 178, 179, 180, 181, 182, 183, 184, 192, 193, 194, 195, 196, 197, 198, 199, 200, 201, 202, 203, 204, 205, 206, 207, 208, 209, 210, 211, 212, 213, 214, 215] rfl) (by decide +kernel)
set_option maxRecDepth 20000 in
theorem gL_holds_L_guessesHold : GoodIn wsL_holds (va_wsS RL 53 yL_guessesHold wsL_guessesHold) := goodIn_app (goodIn_of _ (by decide +kernel)) ggL_holds_L_guessesHold
set_option maxRecDepth 20000 in
theorem ggL_holds_X4_line : GoodIn wsL_holds wsX4_line := goodIn_sub (lw_mem _ [174, 8, 9, 20, 175, 176, 177, 178, 44, 45, 24, 46, 31, 179, 37, 38, 39, 40, 41, 42, 43, 47, 48, 49, 50, 51, 52, 53, 54, 55, 26, 56, 180, 33, 34, 35, 36, 181, 182, 183, 184, 57, 58, 59, 60, 61, 62, 63, 64, 65, 192, 193, 194, 195, 196, 197, 198, 199, 200, 201, 202, 203, 204, 205, 206] rfl) (by decide +kernel)
set_option maxRecDepth 20000 in
theorem gL_holds_X4_line : GoodIn wsL_holds (wsV RL 27 RX4 yX4_line wsX4_line) := goodIn_app (goodIn_of _ (by decide +kernel)) ggL_holds_X4_line
set_option maxRecDepth 20000 in
theorem ggL_holds_X4_at : GoodIn wsL_holds wsX4_at := goodIn_sub (lw_mem _ [188, 20, 8, 9, 85, 86, 87, 24, 88, 31, 89, 36, 37, 38, 39, 40, 41, 42, 43, 44, 45, 46, 47, 48, 49, 50, 51, 52, 53, 54, 55, 26, 56, 192, 193, 194, 195, 196, 197, 198, 199, 200, 201, 202, 203, 204, 205, 206] rfl) (by decide +kernel)
set_option maxRecDepth 20000 in
theorem gL_holds_X4_at : GoodIn wsL_holds (wsV RL 31 RX4 yX4_at wsX4_at) := goodIn_app (goodIn_of _ (by decide +kernel)) ggL_holds_X4_at
theorem dL_holds_0 : decode cL_holds 0 = .ok (.aload_n 0, 1) := by decide +kernel
theorem dL_holds_1 : decode cL_holds 1 = .ok (.iconst 0, 1) := by decide +kernel
theorem dL_holds_2 : decode cL_holds 2 = .ok (.invokevirtual 24, 3) := by decide +kernel
theorem dL_holds_5 : decode cL_holds 5 = .ok (.ifCond .ne 82, 3) := by decide +kernel
theorem dL_holds_8 : decode cL_holds 8 = .ok (.aload_n 0, 1) := by decide +kernel
theorem dL_holds_9 : decode cL_holds 9 = .ok (.iconst 2, 1) := by decide +kernel
theorem dL_holds_10 : decode cL_holds 10 = .ok (.invokevirtual 24, 3) := by decide +kernel
theorem dL_holds_13 : decode cL_holds 13 = .ok (.ldc 34, 2) := by decide +kernel
theorem dL_holds_15 : decode cL_holds 15 = .ok (.if_icmp .ne 70, 3) := by decide +kernel
theorem dL_holds_18 : decode cL_holds 18 = .ok (.aload_n 0, 1) := by decide +kernel
theorem dL_holds_19 : decode cL_holds 19 = .ok (.iconst 3, 1) := by decide +kernel
theorem dL_holds_20 : decode cL_holds 20 = .ok (.invokevirtual 24, 3) := by decide +kernel
theorem dL_holds_23 : decode cL_holds 23 = .ok (.ldc 34, 2) := by decide +kernel
theorem dL_holds_25 : decode cL_holds 25 = .ok (.if_icmp .ne 60, 3) := by decide +kernel
theorem dL_holds_28 : decode cL_holds 28 = .ok (.aload_n 0, 1) := by decide +kernel
theorem dL_holds_29 : decode cL_holds 29 = .ok (.iconst 5, 1) := by decide +kernel
theorem dL_holds_30 : decode cL_holds 30 = .ok (.invokevirtual 24, 3) := by decide +kernel
theorem dL_holds_33 : decode cL_holds 33 = .ok (.ifCond .ne 52, 3) := by decide +kernel
theorem dL_holds_36 : decode cL_holds 36 = .ok (.aload_n 0, 1) := by decide +kernel
theorem dL_holds_37 : decode cL_holds 37 = .ok (.iconst 4, 1) := by decide +kernel
theorem dL_holds_38 : decode cL_holds 38 = .ok (.invokevirtual 24, 3) := by decide +kernel
theorem dL_holds_41 : decode cL_holds 41 = .ok (.ifCond .ne 44, 3) := by decide +kernel
theorem dL_holds_44 : decode cL_holds 44 = .ok (.aload_n 0, 1) := by decide +kernel
theorem dL_holds_45 : decode cL_holds 45 = .ok (.invokevirtual 35, 3) := by decide +kernel
theorem dL_holds_48 : decode cL_holds 48 = .ok (.ifCond .ne 37, 3) := by decide +kernel
theorem dL_holds_51 : decode cL_holds 51 = .ok (.aload_n 0, 1) := by decide +kernel
theorem dL_holds_52 : decode cL_holds 52 = .ok (.iconst 0, 1) := by decide +kernel
theorem dL_holds_53 : decode cL_holds 53 = .ok (.invokevirtual 39, 3) := by decide +kernel
theorem dL_holds_56 : decode cL_holds 56 = .ok (.ldc 34, 2) := by decide +kernel
theorem dL_holds_58 : decode cL_holds 58 = .ok (.if_icmp .ne 27, 3) := by decide +kernel
theorem dL_holds_61 : decode cL_holds 61 = .ok (.aload_n 0, 1) := by decide +kernel
theorem dL_holds_62 : decode cL_holds 62 = .ok (.iconst 1, 1) := by decide +kernel
theorem dL_holds_63 : decode cL_holds 63 = .ok (.invokevirtual 42, 3) := by decide +kernel
theorem dL_holds_66 : decode cL_holds 66 = .ok (.ldc 45, 2) := by decide +kernel
theorem dL_holds_68 : decode cL_holds 68 = .ok (.if_icmp .ne 17, 3) := by decide +kernel
theorem dL_holds_71 : decode cL_holds 71 = .ok (.aload_n 0, 1) := by decide +kernel
theorem dL_holds_72 : decode cL_holds 72 = .ok (.iconst 0, 1) := by decide +kernel
theorem dL_holds_73 : decode cL_holds 73 = .ok (.invokevirtual 46, 3) := by decide +kernel
theorem dL_holds_76 : decode cL_holds 76 = .ok (.ldc 45, 2) := by decide +kernel
theorem dL_holds_78 : decode cL_holds 78 = .ok (.if_icmp .ne 7, 3) := by decide +kernel
theorem dL_holds_81 : decode cL_holds 81 = .ok (.iconst 1, 1) := by decide +kernel
theorem dL_holds_82 : decode cL_holds 82 = .ok (.goto 4, 3) := by decide +kernel
theorem dL_holds_85 : decode cL_holds 85 = .ok (.iconst 0, 1) := by decide +kernel
theorem dL_holds_86 : decode cL_holds 86 = .ok (.ireturn, 1) := by decide +kernel
theorem dL_holds_87 : decode cL_holds 87 = .ok (.aload_n 0, 1) := by decide +kernel
theorem dL_holds_88 : decode cL_holds 88 = .ok (.iconst 2, 1) := by decide +kernel
theorem dL_holds_89 : decode cL_holds 89 = .ok (.invokevirtual 24, 3) := by decide +kernel
theorem dL_holds_92 : decode cL_holds 92 = .ok (.istore_n 1, 1) := by decide +kernel
theorem dL_holds_93 : decode cL_holds 93 = .ok (.aload_n 0, 1) := by decide +kernel
theorem dL_holds_94 : decode cL_holds 94 = .ok (.iconst 5, 1) := by decide +kernel
theorem dL_holds_95 : decode cL_holds 95 = .ok (.invokevirtual 24, 3) := by decide +kernel
theorem dL_holds_98 : decode cL_holds 98 = .ok (.istore_n 2, 1) := by decide +kernel
theorem dL_holds_99 : decode cL_holds 99 = .ok (.aload_n 0, 1) := by decide +kernel
theorem dL_holds_100 : decode cL_holds 100 = .ok (.iconst 4, 1) := by decide +kernel
theorem dL_holds_101 : decode cL_holds 101 = .ok (.invokevirtual 24, 3) := by decide +kernel
theorem dL_holds_104 : decode cL_holds 104 = .ok (.aload_n 0, 1) := by decide +kernel
theorem dL_holds_105 : decode cL_holds 105 = .ok (.bipush 6, 2) := by decide +kernel
theorem dL_holds_107 : decode cL_holds 107 = .ok (.invokevirtual 24, 3) := by decide +kernel
theorem dL_holds_110 : decode cL_holds 110 = .ok (.isub, 1) := by decide +kernel
theorem dL_holds_111 : decode cL_holds 111 = .ok (.istore_n 3, 1) := by decide +kernel
theorem dL_holds_112 : decode cL_holds 112 = .ok (.aload_n 0, 1) := by decide +kernel
theorem dL_holds_113 : decode cL_holds 113 = .ok (.invokestatic 49, 3) := by decide +kernel
theorem dL_holds_116 : decode cL_holds 116 = .ok (.ifCond .eq 75, 3) := by decide +kernel
theorem dL_holds_119 : decode cL_holds 119 = .ok (.aload_n 0, 1) := by decide +kernel
theorem dL_holds_120 : decode cL_holds 120 = .ok (.invokestatic 53, 3) := by decide +kernel
theorem dL_holds_123 : decode cL_holds 123 = .ok (.ifCond .eq 68, 3) := by decide +kernel
theorem dL_holds_126 : decode cL_holds 126 = .ok (.iload_n 1, 1) := by decide +kernel
theorem dL_holds_127 : decode cL_holds 127 = .ok (.ifCond .lt 64, 3) := by decide +kernel
theorem dL_holds_130 : decode cL_holds 130 = .ok (.iload_n 1, 1) := by decide +kernel
theorem dL_holds_131 : decode cL_holds 131 = .ok (.aload_n 0, 1) := by decide +kernel
theorem dL_holds_132 : decode cL_holds 132 = .ok (.iconst 0, 1) := by decide +kernel
theorem dL_holds_133 : decode cL_holds 133 = .ok (.invokevirtual 24, 3) := by decide +kernel
theorem dL_holds_136 : decode cL_holds 136 = .ok (.if_icmp .ge 55, 3) := by decide +kernel
theorem dL_holds_139 : decode cL_holds 139 = .ok (.aload_n 0, 1) := by decide +kernel
theorem dL_holds_140 : decode cL_holds 140 = .ok (.iload_n 1, 1) := by decide +kernel
theorem dL_holds_141 : decode cL_holds 141 = .ok (.iconst 3, 1) := by decide +kernel
theorem dL_holds_142 : decode cL_holds 142 = .ok (.invokevirtual 27, 3) := by decide +kernel
theorem dL_holds_145 : decode cL_holds 145 = .ok (.iconst 1, 1) := by decide +kernel
theorem dL_holds_146 : decode cL_holds 146 = .ok (.if_icmp .ne 45, 3) := by decide +kernel
theorem dL_holds_149 : decode cL_holds 149 = .ok (.aload_n 0, 1) := by decide +kernel
theorem dL_holds_150 : decode cL_holds 150 = .ok (.iconst 3, 1) := by decide +kernel
theorem dL_holds_151 : decode cL_holds 151 = .ok (.invokevirtual 24, 3) := by decide +kernel
theorem dL_holds_154 : decode cL_holds 154 = .ok (.ifCond .lt 37, 3) := by decide +kernel
theorem dL_holds_157 : decode cL_holds 157 = .ok (.aload_n 0, 1) := by decide +kernel
theorem dL_holds_158 : decode cL_holds 158 = .ok (.iconst 3, 1) := by decide +kernel
theorem dL_holds_159 : decode cL_holds 159 = .ok (.invokevirtual 24, 3) := by decide +kernel
theorem dL_holds_162 : decode cL_holds 162 = .ok (.aload_n 0, 1) := by decide +kernel
theorem dL_holds_163 : decode cL_holds 163 = .ok (.iload_n 1, 1) := by decide +kernel
theorem dL_holds_164 : decode cL_holds 164 = .ok (.iconst 2, 1) := by decide +kernel
theorem dL_holds_165 : decode cL_holds 165 = .ok (.invokevirtual 27, 3) := by decide +kernel
theorem dL_holds_168 : decode cL_holds 168 = .ok (.if_icmp .ge 23, 3) := by decide +kernel
theorem dL_holds_171 : decode cL_holds 171 = .ok (.iload_n 2, 1) := by decide +kernel
theorem dL_holds_172 : decode cL_holds 172 = .ok (.aload_n 0, 1) := by decide +kernel
theorem dL_holds_173 : decode cL_holds 173 = .ok (.iload_n 1, 1) := by decide +kernel
theorem dL_holds_174 : decode cL_holds 174 = .ok (.iconst 4, 1) := by decide +kernel
theorem dL_holds_175 : decode cL_holds 175 = .ok (.invokevirtual 27, 3) := by decide +kernel
theorem dL_holds_178 : decode cL_holds 178 = .ok (.aload_n 0, 1) := by decide +kernel
theorem dL_holds_179 : decode cL_holds 179 = .ok (.iconst 3, 1) := by decide +kernel
theorem dL_holds_180 : decode cL_holds 180 = .ok (.invokevirtual 24, 3) := by decide +kernel
theorem dL_holds_183 : decode cL_holds 183 = .ok (.iadd, 1) := by decide +kernel
theorem dL_holds_184 : decode cL_holds 184 = .ok (.if_icmp .ne 7, 3) := by decide +kernel
theorem dL_holds_187 : decode cL_holds 187 = .ok (.iconst 1, 1) := by decide +kernel
theorem dL_holds_188 : decode cL_holds 188 = .ok (.goto 4, 3) := by decide +kernel
theorem dL_holds_191 : decode cL_holds 191 = .ok (.iconst 0, 1) := by decide +kernel
theorem dL_holds_192 : decode cL_holds 192 = .ok (.istore 4, 2) := by decide +kernel
theorem dL_holds_194 : decode cL_holds 194 = .ok (.iload 4, 2) := by decide +kernel
theorem dL_holds_196 : decode cL_holds 196 = .ok (.ifCond .eq 54, 3) := by decide +kernel
theorem dL_holds_199 : decode cL_holds 199 = .ok (.iload_n 2, 1) := by decide +kernel
theorem dL_holds_200 : decode cL_holds 200 = .ok (.ifCond .eq 8, 3) := by decide +kernel
theorem dL_holds_203 : decode cL_holds 203 = .ok (.iload_n 2, 1) := by decide +kernel
theorem dL_holds_204 : decode cL_holds 204 = .ok (.iload_n 3, 1) := by decide +kernel
theorem dL_holds_205 : decode cL_holds 205 = .ok (.if_icmp .gt 45, 3) := by decide +kernel
theorem dL_holds_208 : decode cL_holds 208 = .ok (.aload_n 0, 1) := by decide +kernel
theorem dL_holds_209 : decode cL_holds 209 = .ok (.iconst 0, 1) := by decide +kernel
theorem dL_holds_210 : decode cL_holds 210 = .ok (.invokevirtual 39, 3) := by decide +kernel
theorem dL_holds_213 : decode cL_holds 213 = .ok (.iload_n 1, 1) := by decide +kernel
theorem dL_holds_214 : decode cL_holds 214 = .ok (.if_icmp .ne 36, 3) := by decide +kernel
theorem dL_holds_217 : decode cL_holds 217 = .ok (.aload_n 0, 1) := by decide +kernel
theorem dL_holds_218 : decode cL_holds 218 = .ok (.aload_n 0, 1) := by decide +kernel
theorem dL_holds_219 : decode cL_holds 219 = .ok (.bipush 6, 2) := by decide +kernel
theorem dL_holds_221 : decode cL_holds 221 = .ok (.invokevirtual 24, 3) := by decide +kernel
theorem dL_holds_224 : decode cL_holds 224 = .ok (.iconst 1, 1) := by decide +kernel
theorem dL_holds_225 : decode cL_holds 225 = .ok (.isub, 1) := by decide +kernel
theorem dL_holds_226 : decode cL_holds 226 = .ok (.invokevirtual 39, 3) := by decide +kernel
theorem dL_holds_229 : decode cL_holds 229 = .ok (.aload_n 0, 1) := by decide +kernel
theorem dL_holds_230 : decode cL_holds 230 = .ok (.iload_n 2, 1) := by decide +kernel
theorem dL_holds_231 : decode cL_holds 231 = .ok (.aload_n 0, 1) := by decide +kernel
theorem dL_holds_232 : decode cL_holds 232 = .ok (.bipush 6, 2) := by decide +kernel
theorem dL_holds_234 : decode cL_holds 234 = .ok (.invokevirtual 24, 3) := by decide +kernel
theorem dL_holds_237 : decode cL_holds 237 = .ok (.iadd, 1) := by decide +kernel
theorem dL_holds_238 : decode cL_holds 238 = .ok (.iconst 1, 1) := by decide +kernel
theorem dL_holds_239 : decode cL_holds 239 = .ok (.isub, 1) := by decide +kernel
theorem dL_holds_240 : decode cL_holds 240 = .ok (.invokevirtual 31, 3) := by decide +kernel
theorem dL_holds_243 : decode cL_holds 243 = .ok (.if_icmp .ne 7, 3) := by decide +kernel
theorem dL_holds_246 : decode cL_holds 246 = .ok (.iconst 1, 1) := by decide +kernel
theorem dL_holds_247 : decode cL_holds 247 = .ok (.goto 4, 3) := by decide +kernel
theorem dL_holds_250 : decode cL_holds 250 = .ok (.iconst 0, 1) := by decide +kernel
theorem dL_holds_251 : decode cL_holds 251 = .ok (.istore 4, 2) := by decide +kernel
theorem dL_holds_253 : decode cL_holds 253 = .ok (.iload 4, 2) := by decide +kernel
theorem dL_holds_255 : decode cL_holds 255 = .ok (.ifCond .eq 39, 3) := by decide +kernel
theorem dL_holds_258 : decode cL_holds 258 = .ok (.aload_n 0, 1) := by decide +kernel
theorem dL_holds_259 : decode cL_holds 259 = .ok (.invokevirtual 35, 3) := by decide +kernel
theorem dL_holds_262 : decode cL_holds 262 = .ok (.iload_n 3, 1) := by decide +kernel
theorem dL_holds_263 : decode cL_holds 263 = .ok (.ifCond .gt 7, 3) := by decide +kernel
theorem dL_holds_266 : decode cL_holds 266 = .ok (.iconst 0, 1) := by decide +kernel
theorem dL_holds_267 : decode cL_holds 267 = .ok (.goto 10, 3) := by decide +kernel
theorem dL_holds_270 : decode cL_holds 270 = .ok (.iload_n 2, 1) := by decide +kernel
theorem dL_holds_271 : decode cL_holds 271 = .ok (.sipush 1000, 3) := by decide +kernel
theorem dL_holds_274 : decode cL_holds 274 = .ok (.imul, 1) := by decide +kernel
theorem dL_holds_275 : decode cL_holds 275 = .ok (.iload_n 3, 1) := by decide +kernel
theorem dL_holds_276 : decode cL_holds 276 = .ok (.idiv, 1) := by decide +kernel
theorem dL_holds_277 : decode cL_holds 277 = .ok (.if_icmp .ne 17, 3) := by decide +kernel
theorem dL_holds_280 : decode cL_holds 280 = .ok (.aload_n 0, 1) := by decide +kernel
theorem dL_holds_281 : decode cL_holds 281 = .ok (.invokevirtual 35, 3) := by decide +kernel
theorem dL_holds_284 : decode cL_holds 284 = .ok (.sipush 1000, 3) := by decide +kernel
theorem dL_holds_287 : decode cL_holds 287 = .ok (.if_icmp .gt 7, 3) := by decide +kernel
theorem dL_holds_290 : decode cL_holds 290 = .ok (.iconst 1, 1) := by decide +kernel
theorem dL_holds_291 : decode cL_holds 291 = .ok (.goto 4, 3) := by decide +kernel
theorem dL_holds_294 : decode cL_holds 294 = .ok (.iconst 0, 1) := by decide +kernel
theorem dL_holds_295 : decode cL_holds 295 = .ok (.ireturn, 1) := by decide +kernel
set_option maxRecDepth 20000 in
theorem ggL_cuts_X4_count : GoodIn wsL_cuts wsX4_count := goodIn_sub (lw_mem _ [6, 7, 8, 9, 10, 11, 12, 13, 14, 15, 16, 17, 18, 19, 20, 21, 22, 23, 24, 25, 26, 27, 28, 29, 30, 31, 32, 33, 34, 35, 36, 37, 38, 39, 40, 41, 42, 43, 44, 45, 46, 47, 48, 49, 50, 51, 52, 53, 54, 55, 56, 57, 58, 59, 60, 61, 62, 63, 64, 65, 66, 67, 68, 69, 70, 71, 72, 162, 163, 164, 165, 166, 167, 168, 169, 170, 171, 172, 173, 174, 175, 176, 177, 178, 179, 180, 181, 182, 183, 184, 185] rfl) (by decide +kernel)
set_option maxRecDepth 20000 in
theorem gL_cuts_X4_count : GoodIn wsL_cuts (wsV RL 24 RX4 yX4_count wsX4_count) := goodIn_app (goodIn_of _ (by decide +kernel)) ggL_cuts_X4_count
set_option maxRecDepth 20000 in
theorem ggL_cuts_X4_cut : GoodIn wsL_cuts wsX4_cut := goodIn_sub (lw_mem _ [76, 77, 7, 78, 79, 80, 59, 81, 61, 71, 62, 63, 82, 83, 84, 23, 85, 40, 86, 87, 88, 89, 41, 39, 55, 25, 30, 50, 90, 91, 92, 93, 94, 70, 95, 43, 44, 45, 96, 97, 98, 99, 42, 100, 101, 102, 103, 104, 105, 106, 107, 46, 47, 48, 49, 108, 109, 110, 111, 112, 113, 114, 115, 116, 117, 118, 119, 72, 36, 37, 38, 51, 52, 53, 54, 120, 121, 122, 123, 124, 125, 126, 127, 128, 129, 130, 5, 131, 15, 132, 133, 134, 135, 136, 137, 138, 139, 140, 141, 142, 143, 144, 145, 146, 147, 162, 163, 164, 165, 166, 167, 168, 169, 170, 171, 172, 173, 174, 175, 176, 177, 178, 179] rfl) (by decide +kernel)
set_option maxRecDepth 20000 in
theorem gL_cuts_X4_cut : GoodIn wsL_cuts (wsV RL 56 RX4 yX4_cut wsX4_cut) := goodIn_app (goodIn_of _ (by decide +kernel)) ggL_cuts_X4_cut
set_option maxRecDepth 20000 in
theorem ggL_cuts_X4_line : GoodIn wsL_cuts wsX4_line := goodIn_sub (lw_mem _ [151, 7, 8, 19, 152, 153, 154, 155, 43, 44, 23, 45, 30, 156, 36, 37, 38, 39, 40, 41, 42, 46, 47, 48, 49, 50, 51, 52, 53, 54, 25, 55, 157, 32, 33, 34, 35, 158, 159, 160, 161, 56, 57, 58, 59, 60, 61, 62, 63, 64, 162, 163, 164, 165, 166, 167, 168, 169, 170, 171, 172, 173, 174, 175, 176] rfl) (by decide +kernel)
set_option maxRecDepth 20000 in
theorem gL_cuts_X4_line : GoodIn wsL_cuts (wsV RL 27 RX4 yX4_line wsX4_line) := goodIn_app (goodIn_of _ (by decide +kernel)) ggL_cuts_X4_line
theorem dL_cuts_0 : decode cL_cuts 0 = .ok (.aload_n 0, 1) := by decide +kernel
theorem dL_cuts_1 : decode cL_cuts 1 = .ok (.iconst 0, 1) := by decide +kernel
theorem dL_cuts_2 : decode cL_cuts 2 = .ok (.invokevirtual 24, 3) := by decide +kernel
theorem dL_cuts_5 : decode cL_cuts 5 = .ok (.istore_n 2, 1) := by decide +kernel
theorem dL_cuts_6 : decode cL_cuts 6 = .ok (.iload_n 1, 1) := by decide +kernel
theorem dL_cuts_7 : decode cL_cuts 7 = .ok (.iload_n 2, 1) := by decide +kernel
theorem dL_cuts_8 : decode cL_cuts 8 = .ok (.if_icmp .lt 28, 3) := by decide +kernel
theorem dL_cuts_11 : decode cL_cuts 11 = .ok (.aload_n 0, 1) := by decide +kernel
theorem dL_cuts_12 : decode cL_cuts 12 = .ok (.iload_n 1, 1) := by decide +kernel
theorem dL_cuts_13 : decode cL_cuts 13 = .ok (.invokevirtual 56, 3) := by decide +kernel
theorem dL_cuts_16 : decode cL_cuts 16 = .ok (.ldc 59, 2) := by decide +kernel
theorem dL_cuts_18 : decode cL_cuts 18 = .ok (.if_icmp .ne 16, 3) := by decide +kernel
theorem dL_cuts_21 : decode cL_cuts 21 = .ok (.aload_n 0, 1) := by decide +kernel
theorem dL_cuts_22 : decode cL_cuts 22 = .ok (.iconst 0, 1) := by decide +kernel
theorem dL_cuts_23 : decode cL_cuts 23 = .ok (.invokevirtual 24, 3) := by decide +kernel
theorem dL_cuts_26 : decode cL_cuts 26 = .ok (.iload_n 2, 1) := by decide +kernel
theorem dL_cuts_27 : decode cL_cuts 27 = .ok (.if_icmp .ne 7, 3) := by decide +kernel
theorem dL_cuts_30 : decode cL_cuts 30 = .ok (.iconst 1, 1) := by decide +kernel
theorem dL_cuts_31 : decode cL_cuts 31 = .ok (.goto 4, 3) := by decide +kernel
theorem dL_cuts_34 : decode cL_cuts 34 = .ok (.iconst 0, 1) := by decide +kernel
theorem dL_cuts_35 : decode cL_cuts 35 = .ok (.ireturn, 1) := by decide +kernel
theorem dL_cuts_36 : decode cL_cuts 36 = .ok (.iload_n 1, 1) := by decide +kernel
theorem dL_cuts_37 : decode cL_cuts 37 = .ok (.iconst 1, 1) := by decide +kernel
theorem dL_cuts_38 : decode cL_cuts 38 = .ok (.iadd, 1) := by decide +kernel
theorem dL_cuts_39 : decode cL_cuts 39 = .ok (.iload_n 2, 1) := by decide +kernel
theorem dL_cuts_40 : decode cL_cuts 40 = .ok (.if_icmp .ge 14, 3) := by decide +kernel
theorem dL_cuts_43 : decode cL_cuts 43 = .ok (.aload_n 0, 1) := by decide +kernel
theorem dL_cuts_44 : decode cL_cuts 44 = .ok (.iload_n 1, 1) := by decide +kernel
theorem dL_cuts_45 : decode cL_cuts 45 = .ok (.iconst 1, 1) := by decide +kernel
theorem dL_cuts_46 : decode cL_cuts 46 = .ok (.iadd, 1) := by decide +kernel
theorem dL_cuts_47 : decode cL_cuts 47 = .ok (.iconst 1, 1) := by decide +kernel
theorem dL_cuts_48 : decode cL_cuts 48 = .ok (.invokevirtual 27, 3) := by decide +kernel
theorem dL_cuts_51 : decode cL_cuts 51 = .ok (.goto 4, 3) := by decide +kernel
theorem dL_cuts_54 : decode cL_cuts 54 = .ok (.iconst (-1), 1) := by decide +kernel
theorem dL_cuts_55 : decode cL_cuts 55 = .ok (.istore_n 3, 1) := by decide +kernel
theorem dL_cuts_56 : decode cL_cuts 56 = .ok (.aload_n 0, 1) := by decide +kernel
theorem dL_cuts_57 : decode cL_cuts 57 = .ok (.iload_n 1, 1) := by decide +kernel
theorem dL_cuts_58 : decode cL_cuts 58 = .ok (.invokevirtual 56, 3) := by decide +kernel
theorem dL_cuts_61 : decode cL_cuts 61 = .ok (.iload_n 2, 1) := by decide +kernel
theorem dL_cuts_62 : decode cL_cuts 62 = .ok (.iconst 1, 1) := by decide +kernel
theorem dL_cuts_63 : decode cL_cuts 63 = .ok (.isub, 1) := by decide +kernel
theorem dL_cuts_64 : decode cL_cuts 64 = .ok (.if_icmp .ne 32, 3) := by decide +kernel
theorem dL_cuts_67 : decode cL_cuts 67 = .ok (.aload_n 0, 1) := by decide +kernel
theorem dL_cuts_68 : decode cL_cuts 68 = .ok (.iconst 0, 1) := by decide +kernel
theorem dL_cuts_69 : decode cL_cuts 69 = .ok (.invokevirtual 24, 3) := by decide +kernel
theorem dL_cuts_72 : decode cL_cuts 72 = .ok (.iload_n 2, 1) := by decide +kernel
theorem dL_cuts_73 : decode cL_cuts 73 = .ok (.iconst 1, 1) := by decide +kernel
theorem dL_cuts_74 : decode cL_cuts 74 = .ok (.isub, 1) := by decide +kernel
theorem dL_cuts_75 : decode cL_cuts 75 = .ok (.if_icmp .ne 21, 3) := by decide +kernel
theorem dL_cuts_78 : decode cL_cuts 78 = .ok (.iload_n 3, 1) := by decide +kernel
theorem dL_cuts_79 : decode cL_cuts 79 = .ok (.ifCond .lt 13, 3) := by decide +kernel
theorem dL_cuts_82 : decode cL_cuts 82 = .ok (.aload_n 0, 1) := by decide +kernel
theorem dL_cuts_83 : decode cL_cuts 83 = .ok (.iload_n 1, 1) := by decide +kernel
theorem dL_cuts_84 : decode cL_cuts 84 = .ok (.iconst 1, 1) := by decide +kernel
theorem dL_cuts_85 : decode cL_cuts 85 = .ok (.invokevirtual 27, 3) := by decide +kernel
theorem dL_cuts_88 : decode cL_cuts 88 = .ok (.iload_n 3, 1) := by decide +kernel
theorem dL_cuts_89 : decode cL_cuts 89 = .ok (.if_icmp .ne 7, 3) := by decide +kernel
theorem dL_cuts_92 : decode cL_cuts 92 = .ok (.iconst 1, 1) := by decide +kernel
theorem dL_cuts_93 : decode cL_cuts 93 = .ok (.goto 4, 3) := by decide +kernel
theorem dL_cuts_96 : decode cL_cuts 96 = .ok (.iconst 0, 1) := by decide +kernel
theorem dL_cuts_97 : decode cL_cuts 97 = .ok (.ireturn, 1) := by decide +kernel
set_option maxRecDepth 20000 in
theorem ggL_undoes_X4_count : GoodIn wsL_undoes wsX4_count := goodIn_sub (lw_mem _ [5, 6, 7, 8, 9, 10, 11, 12, 13, 14, 15, 16, 17, 18, 19, 20, 21, 22, 23, 24, 25, 26, 27, 28, 29, 30, 31, 32, 33, 34, 35, 36, 37, 38, 39, 40, 41, 42, 43, 44, 45, 46, 47, 48, 49, 50, 51, 52, 53, 54, 55, 56, 57, 58, 59, 60, 61, 62, 63, 64, 65, 66, 67, 68, 69, 70, 71, 156, 157, 158, 159, 160, 161, 162, 163, 164, 165, 166, 167, 168, 169, 170, 171, 172, 173, 174, 175, 176, 177, 178, 179] rfl) (by decide +kernel)
set_option maxRecDepth 20000 in
theorem gL_undoes_X4_count : GoodIn wsL_undoes (wsV RL 24 RX4 yX4_count wsX4_count) := goodIn_app (goodIn_of _ (by decide +kernel)) ggL_undoes_X4_count
set_option maxRecDepth 20000 in
theorem ggL_undoes_X4_put : GoodIn wsL_undoes wsX4_put := goodIn_sub (lw_mem _ [75, 76, 6, 77, 78, 79, 58, 80, 60, 70, 61, 62, 81, 82, 83, 22, 84, 39, 85, 86, 87, 88, 40, 38, 54, 24, 29, 49, 89, 90, 91, 92, 69, 93, 94, 95, 4, 96, 97, 98, 99, 100, 101, 102, 103, 104, 105, 106, 107, 108, 109, 110, 111, 112, 113, 114, 115, 116, 41, 42, 43, 44, 117, 45, 46, 47, 48, 71, 35, 36, 37, 50, 51, 52, 53, 118, 119, 120, 121, 122, 123, 124, 125, 126, 26, 27, 28, 30, 31, 32, 33, 34, 127, 128, 129, 130, 14, 131, 132, 133, 134, 135, 136, 137, 138, 139, 140, 141, 142, 143, 144, 145, 146, 156, 157, 158, 159, 160, 161, 162, 163, 164, 165, 166, 167, 168, 169, 170, 171, 172, 173] rfl) (by decide +kernel)
set_option maxRecDepth 20000 in
theorem gL_undoes_X4_put : GoodIn wsL_undoes (wsV RL 18 RX4 yX4_put wsX4_put) := goodIn_app (goodIn_of _ (by decide +kernel)) ggL_undoes_X4_put
set_option maxRecDepth 20000 in
theorem ggL_undoes_X4_undo : GoodIn wsL_undoes wsX4_undo := goodIn_sub (lw_mem _ [150, 14, 15, 151, 6, 152, 153, 154, 134, 155, 137, 136, 141, 142, 143, 144, 145, 146, 78, 79, 58, 80, 60, 70, 61, 62, 81, 82, 83, 22, 84, 39, 85, 86, 87, 88, 40, 38, 54, 24, 29, 49, 156, 157, 158, 159, 171, 172, 173, 160, 161, 162, 163, 164, 165, 166, 167, 168, 169, 170] rfl) (by decide +kernel)
set_option maxRecDepth 20000 in
theorem gL_undoes_X4_undo : GoodIn wsL_undoes (wsV RL 60 RX4 yX4_undo wsX4_undo) := goodIn_app (goodIn_of _ (by decide +kernel)) ggL_undoes_X4_undo
theorem dL_undoes_0 : decode cL_undoes 0 = .ok (.aload_n 0, 1) := by decide +kernel
theorem dL_undoes_1 : decode cL_undoes 1 = .ok (.iconst 0, 1) := by decide +kernel
theorem dL_undoes_2 : decode cL_undoes 2 = .ok (.invokevirtual 24, 3) := by decide +kernel
theorem dL_undoes_5 : decode cL_undoes 5 = .ok (.istore_n 2, 1) := by decide +kernel
theorem dL_undoes_6 : decode cL_undoes 6 = .ok (.aload_n 0, 1) := by decide +kernel
theorem dL_undoes_7 : decode cL_undoes 7 = .ok (.iconst 4, 1) := by decide +kernel
theorem dL_undoes_8 : decode cL_undoes 8 = .ok (.invokevirtual 24, 3) := by decide +kernel
theorem dL_undoes_11 : decode cL_undoes 11 = .ok (.istore_n 3, 1) := by decide +kernel
theorem dL_undoes_12 : decode cL_undoes 12 = .ok (.aload_n 0, 1) := by decide +kernel
theorem dL_undoes_13 : decode cL_undoes 13 = .ok (.iconst 5, 1) := by decide +kernel
theorem dL_undoes_14 : decode cL_undoes 14 = .ok (.invokevirtual 24, 3) := by decide +kernel
theorem dL_undoes_17 : decode cL_undoes 17 = .ok (.istore 4, 2) := by decide +kernel
theorem dL_undoes_19 : decode cL_undoes 19 = .ok (.aload_n 0, 1) := by decide +kernel
theorem dL_undoes_20 : decode cL_undoes 20 = .ok (.iload_n 1, 1) := by decide +kernel
theorem dL_undoes_21 : decode cL_undoes 21 = .ok (.iload_n 2, 1) := by decide +kernel
theorem dL_undoes_22 : decode cL_undoes 22 = .ok (.iconst 1, 1) := by decide +kernel
theorem dL_undoes_23 : decode cL_undoes 23 = .ok (.iadd, 1) := by decide +kernel
theorem dL_undoes_24 : decode cL_undoes 24 = .ok (.irem, 1) := by decide +kernel
theorem dL_undoes_25 : decode cL_undoes 25 = .ok (.iload_n 1, 1) := by decide +kernel
theorem dL_undoes_26 : decode cL_undoes 26 = .ok (.bipush 32, 2) := by decide +kernel
theorem dL_undoes_28 : decode cL_undoes 28 = .ok (.idiv, 1) := by decide +kernel
theorem dL_undoes_29 : decode cL_undoes 29 = .ok (.iconst 3, 1) := by decide +kernel
theorem dL_undoes_30 : decode cL_undoes 30 = .ok (.irem, 1) := by decide +kernel
theorem dL_undoes_31 : decode cL_undoes 31 = .ok (.iload_n 1, 1) := by decide +kernel
theorem dL_undoes_32 : decode cL_undoes 32 = .ok (.sipush 128, 3) := by decide +kernel
theorem dL_undoes_35 : decode cL_undoes 35 = .ok (.idiv, 1) := by decide +kernel
theorem dL_undoes_36 : decode cL_undoes 36 = .ok (.sipush 401, 3) := by decide +kernel
theorem dL_undoes_39 : decode cL_undoes 39 = .ok (.irem, 1) := by decide +kernel
theorem dL_undoes_40 : decode cL_undoes 40 = .ok (.invokevirtual 18, 3) := by decide +kernel
theorem dL_undoes_43 : decode cL_undoes 43 = .ok (.ifCond .lt 25, 3) := by decide +kernel
theorem dL_undoes_46 : decode cL_undoes 46 = .ok (.aload_n 0, 1) := by decide +kernel
theorem dL_undoes_47 : decode cL_undoes 47 = .ok (.iconst 0, 1) := by decide +kernel
theorem dL_undoes_48 : decode cL_undoes 48 = .ok (.invokevirtual 24, 3) := by decide +kernel
theorem dL_undoes_51 : decode cL_undoes 51 = .ok (.iload_n 2, 1) := by decide +kernel
theorem dL_undoes_52 : decode cL_undoes 52 = .ok (.iconst 1, 1) := by decide +kernel
theorem dL_undoes_53 : decode cL_undoes 53 = .ok (.iadd, 1) := by decide +kernel
theorem dL_undoes_54 : decode cL_undoes 54 = .ok (.if_icmp .ne 14, 3) := by decide +kernel
theorem dL_undoes_57 : decode cL_undoes 57 = .ok (.aload_n 0, 1) := by decide +kernel
theorem dL_undoes_58 : decode cL_undoes 58 = .ok (.invokevirtual 60, 3) := by decide +kernel
theorem dL_undoes_61 : decode cL_undoes 61 = .ok (.ifCond .lt 7, 3) := by decide +kernel
theorem dL_undoes_64 : decode cL_undoes 64 = .ok (.iconst 1, 1) := by decide +kernel
theorem dL_undoes_65 : decode cL_undoes 65 = .ok (.goto 4, 3) := by decide +kernel
theorem dL_undoes_68 : decode cL_undoes 68 = .ok (.iconst 0, 1) := by decide +kernel
theorem dL_undoes_69 : decode cL_undoes 69 = .ok (.istore 5, 2) := by decide +kernel
theorem dL_undoes_71 : decode cL_undoes 71 = .ok (.iload 5, 2) := by decide +kernel
theorem dL_undoes_73 : decode cL_undoes 73 = .ok (.ifCond .eq 35, 3) := by decide +kernel
theorem dL_undoes_76 : decode cL_undoes 76 = .ok (.aload_n 0, 1) := by decide +kernel
theorem dL_undoes_77 : decode cL_undoes 77 = .ok (.iconst 0, 1) := by decide +kernel
theorem dL_undoes_78 : decode cL_undoes 78 = .ok (.invokevirtual 24, 3) := by decide +kernel
theorem dL_undoes_81 : decode cL_undoes 81 = .ok (.iload_n 2, 1) := by decide +kernel
theorem dL_undoes_82 : decode cL_undoes 82 = .ok (.if_icmp .ne 26, 3) := by decide +kernel
theorem dL_undoes_85 : decode cL_undoes 85 = .ok (.aload_n 0, 1) := by decide +kernel
theorem dL_undoes_86 : decode cL_undoes 86 = .ok (.iconst 4, 1) := by decide +kernel
theorem dL_undoes_87 : decode cL_undoes 87 = .ok (.invokevirtual 24, 3) := by decide +kernel
theorem dL_undoes_90 : decode cL_undoes 90 = .ok (.iload_n 3, 1) := by decide +kernel
theorem dL_undoes_91 : decode cL_undoes 91 = .ok (.if_icmp .ne 17, 3) := by decide +kernel
theorem dL_undoes_94 : decode cL_undoes 94 = .ok (.aload_n 0, 1) := by decide +kernel
theorem dL_undoes_95 : decode cL_undoes 95 = .ok (.iconst 5, 1) := by decide +kernel
theorem dL_undoes_96 : decode cL_undoes 96 = .ok (.invokevirtual 24, 3) := by decide +kernel
theorem dL_undoes_99 : decode cL_undoes 99 = .ok (.iload 4, 2) := by decide +kernel
theorem dL_undoes_101 : decode cL_undoes 101 = .ok (.if_icmp .ne 7, 3) := by decide +kernel
theorem dL_undoes_104 : decode cL_undoes 104 = .ok (.iconst 1, 1) := by decide +kernel
theorem dL_undoes_105 : decode cL_undoes 105 = .ok (.goto 4, 3) := by decide +kernel
theorem dL_undoes_108 : decode cL_undoes 108 = .ok (.iconst 0, 1) := by decide +kernel
theorem dL_undoes_109 : decode cL_undoes 109 = .ok (.ireturn, 1) := by decide +kernel
set_option maxRecDepth 20000 in
theorem ggL_law_X4_init : GoodIn wsL_law wsX4_init := goodIn_sub (lw_mem _ [7, 8, 9, 10, 11, 12, 13, 14, 15, 16, 17, 18, 19, 20, 21, 22, 23, 24, 25, 26, 27, 28, 29, 30, 31, 32, 33, 34, 35, 36, 37, 38, 39, 40, 41, 42, 43, 44, 45, 46, 47, 48, 49, 50, 51, 52, 53, 54, 55, 56, 57, 58, 337, 338, 339, 340, 333, 334, 335, 336, 341, 342, 343, 344, 345, 346, 347, 348, 349, 350, 351, 352, 353, 354, 355, 356] rfl) (by decide +kernel)
set_option maxRecDepth 20000 in
theorem gL_law_X4_init : GoodIn wsL_law (wsX4_init) := ggL_law_X4_init
set_option maxRecDepth 20000 in
theorem ggL_law_L_holds : GoodIn wsL_law wsL_holds := goodIn_sub (lw_mem _ [62, 63, 3, 64, 65, 66, 2, 67, 14, 68, 69, 70, 71, 72, 73, 74, 19, 75, 23, 76, 77, 78, 79, 80, 30, 81, 43, 82, 83, 84, 85, 86, 87, 88, 89, 90, 91, 92, 93, 94, 41, 38, 39, 95, 96, 97, 98, 99, 100, 101, 102, 44, 103, 104, 105, 106, 42, 107, 108, 109, 13, 110, 31, 111, 112, 113, 114, 115, 116, 117, 118, 119, 32, 120, 121, 122, 123, 124, 125, 126, 127, 128, 129, 130, 131, 132, 133, 134, 135, 136, 137, 138, 139, 140, 15, 141, 142, 143, 144, 145, 146, 147, 148, 149, 150, 151, 152, 153, 154, 155, 156, 157, 158, 159, 160, 161, 162, 163, 164, 165, 166, 167, 168, 169, 170, 171, 172, 173, 174, 175, 176, 177, 178, 179, 180, 181, 182, 183, 184, 185, 186, 187, 188, 189, 18, 190, 191, 192, 193, 194, 195, 196, 197, 198, 199, 50, 200, 201, 202, 203, 204, 205, 206, 207, 208, 209, 210, 211, 212, 61, 213, 214, 215, 216, 217, 218, 219, 220, 221, 222, 223, 224, 225, 226, 227, 228, 229, 230, 231, 232, 233, 234, 333, 334, 335, 336, 337, 338, 339, 340, 350, 351, 352, 353, 354, 355, 356, 341, 342, 343, 344, 345, 346, 347, 348, 349] rfl) (by decide +kernel)
set_option maxRecDepth 20000 in
theorem gL_law_L_holds : GoodIn wsL_law (va_wsS RL 64 yL_holds wsL_holds) := goodIn_app (goodIn_of _ (by decide +kernel)) ggL_law_L_holds
set_option maxRecDepth 20000 in
theorem ggL_law_X4_undo : GoodIn wsL_law wsX4_undo := goodIn_sub (lw_mem _ [238, 19, 75, 239, 14, 240, 241, 242, 18, 243, 192, 191, 196, 197, 198, 199, 50, 200, 142, 143, 13, 144, 31, 32, 111, 112, 145, 146, 147, 30, 148, 38, 149, 150, 151, 152, 39, 41, 42, 43, 86, 44, 333, 334, 335, 336, 341, 342, 343, 337, 338, 339, 340, 350, 351, 352, 353, 354, 355, 356] rfl) (by decide +kernel)
set_option maxRecDepth 20000 in
theorem gL_law_X4_undo : GoodIn wsL_law (wsV RL 60 RX4 yX4_undo wsX4_undo) := goodIn_app (goodIn_of _ (by decide +kernel)) ggL_law_X4_undo
set_option maxRecDepth 20000 in
theorem ggL_law_L_fills : GoodIn wsL_law wsL_fills := goodIn_sub (lw_mem _ [246, 247, 248, 61, 249, 250, 251, 252, 253, 254, 255, 256, 2, 257, 15, 14, 141, 142, 143, 13, 144, 31, 32, 111, 112, 145, 146, 147, 30, 148, 38, 149, 150, 151, 152, 39, 41, 42, 43, 86, 44, 258, 259, 260, 261, 119, 157, 262, 130, 131, 263, 172, 173, 174, 264, 265, 266, 267, 175, 176, 177, 178, 179, 180, 181, 182, 167, 168, 169, 170, 95, 96, 97, 98, 171, 99, 100, 101, 102, 120, 92, 93, 94, 103, 104, 105, 106, 159, 160, 161, 162, 163, 164, 165, 166, 209, 83, 84, 85, 87, 88, 89, 90, 91, 183, 184, 185, 186, 19, 187, 188, 189, 18, 190, 191, 192, 193, 194, 195, 196, 197, 198, 199, 50, 200, 333, 334, 335, 336, 337, 338, 339, 340, 350, 351, 352, 353, 354, 355, 356, 341, 342, 343] rfl) (by decide +kernel)
set_option maxRecDepth 20000 in
theorem gL_law_L_fills : GoodIn wsL_law (va_wsS RL 67 yL_fills wsL_fills) := goodIn_app (goodIn_of _ (by decide +kernel)) ggL_law_L_fills
set_option maxRecDepth 20000 in
theorem ggL_law_L_cell : GoodIn wsL_law wsL_cell := goodIn_r _ [249, 250] (by decide +kernel) (by decide +kernel)
set_option maxRecDepth 20000 in
theorem gL_law_L_cell : GoodIn wsL_law (va_wsS RL 8 yL_cell wsL_cell) := goodIn_app (goodIn_of _ (by decide +kernel)) ggL_law_L_cell
set_option maxRecDepth 20000 in
theorem ggL_law_X4_count : GoodIn wsL_law wsX4_count := goodIn_sub (lw_mem _ [67, 14, 68, 69, 70, 71, 72, 73, 74, 19, 75, 23, 76, 77, 78, 79, 80, 30, 81, 43, 82, 83, 84, 85, 86, 87, 88, 89, 90, 91, 92, 93, 94, 41, 38, 39, 95, 96, 97, 98, 99, 100, 101, 102, 44, 103, 104, 105, 106, 42, 107, 108, 109, 13, 110, 31, 111, 112, 113, 114, 115, 116, 117, 118, 119, 32, 120, 333, 334, 335, 336, 337, 338, 339, 340, 350, 351, 352, 353, 354, 355, 356, 341, 342, 343, 344, 345, 346, 347, 348, 349] rfl) (by decide +kernel)
set_option maxRecDepth 20000 in
theorem gL_law_X4_count : GoodIn wsL_law (wsV RL 24 RX4 yX4_count wsX4_count) := goodIn_app (goodIn_of _ (by decide +kernel)) ggL_law_X4_count
set_option maxRecDepth 20000 in
theorem ggL_law_L_cuts : GoodIn wsL_law wsL_cuts := goodIn_sub (lw_mem _ [270, 4, 64, 65, 66, 2, 67, 14, 68, 69, 70, 71, 72, 73, 74, 19, 75, 23, 76, 77, 78, 79, 80, 30, 81, 43, 82, 83, 84, 85, 86, 87, 88, 89, 90, 91, 92, 93, 94, 41, 38, 39, 95, 96, 97, 98, 99, 100, 101, 102, 44, 103, 104, 105, 106, 42, 107, 108, 109, 13, 110, 31, 111, 112, 113, 114, 115, 116, 117, 118, 119, 32, 120, 271, 272, 273, 274, 15, 141, 142, 143, 144, 145, 146, 147, 148, 149, 150, 151, 152, 275, 276, 277, 278, 157, 279, 280, 281, 282, 283, 284, 285, 286, 287, 171, 172, 173, 174, 175, 176, 177, 178, 179, 180, 181, 182, 167, 168, 169, 170, 159, 160, 161, 162, 163, 164, 165, 166, 183, 184, 185, 186, 187, 188, 189, 18, 190, 191, 192, 193, 194, 195, 196, 197, 198, 199, 50, 200, 214, 215, 216, 217, 218, 219, 220, 221, 222, 223, 224, 225, 226, 227, 333, 334, 335, 336, 337, 338, 339, 340, 350, 351, 352, 353, 354, 355, 356, 341, 342, 343, 344, 345, 346, 347, 348, 349] rfl) (by decide +kernel)
set_option maxRecDepth 20000 in
theorem gL_law_L_cuts : GoodIn wsL_law (va_wsS RL 71 yL_cuts wsL_cuts) := goodIn_app (goodIn_of _ (by decide +kernel)) ggL_law_L_cuts
set_option maxRecDepth 20000 in
theorem ggL_law_X4_line : GoodIn wsL_law wsX4_line := goodIn_sub (lw_mem _ [217, 14, 68, 77, 218, 219, 220, 221, 96, 97, 30, 98, 86, 222, 92, 93, 94, 41, 38, 39, 95, 99, 100, 101, 102, 44, 103, 104, 105, 106, 43, 42, 223, 88, 89, 90, 91, 224, 225, 226, 227, 107, 108, 109, 13, 110, 31, 111, 112, 113, 333, 334, 335, 336, 337, 338, 339, 340, 350, 351, 352, 353, 354, 355, 356] rfl) (by decide +kernel)
set_option maxRecDepth 20000 in
theorem gL_law_X4_line : GoodIn wsL_law (wsV RL 27 RX4 yX4_line wsX4_line) := goodIn_app (goodIn_of _ (by decide +kernel)) ggL_law_X4_line
set_option maxRecDepth 20000 in
theorem ggL_law_X4_change : GoodIn wsL_law wsX4_change := goodIn_sub (lw_mem _ [291, 15, 14, 141, 142, 143, 13, 144, 31, 32, 111, 112, 145, 146, 147, 30, 148, 38, 149, 150, 151, 152, 39, 41, 42, 43, 86, 44, 292, 293, 294, 295, 157, 296, 279, 96, 97, 98, 130, 2, 131, 297, 298, 299, 300, 95, 284, 285, 286, 287, 171, 172, 173, 174, 99, 100, 101, 102, 175, 176, 177, 178, 119, 179, 180, 181, 182, 167, 168, 169, 170, 120, 92, 93, 94, 103, 104, 105, 106, 159, 160, 161, 162, 163, 164, 165, 166, 183, 184, 185, 186, 19, 187, 188, 189, 18, 190, 191, 192, 193, 194, 195, 196, 197, 198, 199, 50, 200, 333, 334, 335, 336, 337, 338, 339, 340, 350, 351, 352, 353, 354, 355, 356, 341, 342, 343] rfl) (by decide +kernel)
set_option maxRecDepth 20000 in
theorem gL_law_X4_change : GoodIn wsL_law (wsV RL 75 RX4 yX4_change wsX4_change) := goodIn_app (goodIn_of _ (by decide +kernel)) ggL_law_X4_change
set_option maxRecDepth 20000 in
theorem ggL_law_X4_setHeight : GoodIn wsL_law wsX4_setHeight := goodIn_sub (lw_mem _ [304, 15, 14, 141, 142, 143, 13, 144, 31, 32, 111, 112, 145, 146, 147, 30, 148, 38, 149, 150, 151, 152, 39, 41, 42, 43, 86, 44, 305, 306, 307, 308, 157, 130, 2, 131, 175, 176, 177, 178, 119, 179, 180, 181, 182, 167, 168, 169, 170, 95, 96, 97, 98, 171, 172, 173, 174, 99, 100, 101, 102, 120, 92, 93, 94, 103, 104, 105, 106, 159, 160, 161, 162, 163, 164, 165, 166, 183, 184, 185, 186, 19, 187, 188, 189, 18, 190, 191, 192, 193, 194, 195, 196, 197, 198, 199, 50, 200, 333, 334, 335, 336, 337, 338, 339, 340, 350, 351, 352, 353, 354, 355, 356, 341, 342, 343] rfl) (by decide +kernel)
set_option maxRecDepth 20000 in
theorem gL_law_X4_setHeight : GoodIn wsL_law (wsV RL 78 RX4 yX4_setHeight wsX4_setHeight) := goodIn_app (goodIn_of _ (by decide +kernel)) ggL_law_X4_setHeight
set_option maxRecDepth 20000 in
theorem ggL_law_X4_setWidth : GoodIn wsL_law wsX4_setWidth := goodIn_sub (lw_mem _ [312, 15, 14, 141, 142, 143, 13, 144, 31, 32, 111, 112, 145, 146, 147, 30, 148, 38, 149, 150, 151, 152, 39, 41, 42, 43, 86, 44, 313, 314, 315, 316, 157, 317, 130, 2, 131, 318, 319, 320, 321, 284, 285, 286, 287, 95, 96, 97, 98, 171, 172, 173, 174, 99, 100, 101, 102, 175, 176, 177, 178, 119, 179, 180, 181, 182, 167, 168, 169, 170, 120, 92, 93, 94, 103, 104, 105, 106, 159, 160, 161, 162, 163, 164, 165, 166, 183, 184, 185, 186, 19, 187, 188, 189, 18, 190, 191, 192, 193, 194, 195, 196, 197, 198, 199, 50, 200, 333, 334, 335, 336, 337, 338, 339, 340, 350, 351, 352, 353, 354, 355, 356, 341, 342, 343] rfl) (by decide +kernel)
set_option maxRecDepth 20000 in
theorem gL_law_X4_setWidth : GoodIn wsL_law (wsV RL 81 RX4 yX4_setWidth wsX4_setWidth) := goodIn_app (goodIn_of _ (by decide +kernel)) ggL_law_X4_setWidth
set_option maxRecDepth 20000 in
theorem ggL_law_X4_scroll : GoodIn wsL_law wsX4_scroll := goodIn_sub (lw_mem _ [140, 15, 14, 141, 142, 143, 13, 144, 31, 32, 111, 112, 145, 146, 147, 30, 148, 38, 149, 150, 151, 152, 39, 41, 42, 43, 86, 44, 153, 154, 155, 156, 157, 119, 158, 130, 2, 131, 159, 160, 161, 162, 163, 164, 165, 166, 167, 168, 169, 170, 95, 96, 97, 98, 171, 172, 173, 174, 99, 100, 101, 102, 120, 92, 93, 94, 103, 104, 105, 106, 175, 176, 177, 178, 179, 180, 181, 182, 183, 184, 185, 186, 19, 187, 188, 189, 18, 190, 191, 192, 193, 194, 195, 196, 197, 198, 199, 50, 200, 333, 334, 335, 336, 337, 338, 339, 340, 350, 351, 352, 353, 354, 355, 356, 341, 342, 343] rfl) (by decide +kernel)
set_option maxRecDepth 20000 in
theorem gL_law_X4_scroll : GoodIn wsL_law (wsV RL 42 RX4 yX4_scroll wsX4_scroll) := goodIn_app (goodIn_of _ (by decide +kernel)) ggL_law_X4_scroll
set_option maxRecDepth 20000 in
theorem ggL_law_X4_jump : GoodIn wsL_law wsX4_jump := goodIn_sub (lw_mem _ [204, 15, 14, 141, 142, 143, 13, 144, 31, 32, 111, 112, 145, 146, 147, 30, 148, 38, 149, 150, 151, 152, 39, 41, 42, 43, 86, 44, 205, 206, 207, 208, 157, 119, 158, 163, 164, 165, 166, 130, 2, 131, 209, 83, 84, 85, 87, 88, 89, 90, 91, 92, 93, 94, 95, 96, 97, 98, 99, 100, 101, 102, 103, 104, 105, 106, 210, 133, 134, 135, 136, 113, 175, 176, 177, 178, 179, 180, 181, 182, 167, 168, 169, 170, 171, 172, 173, 174, 120, 159, 160, 161, 162, 183, 184, 185, 186, 19, 187, 188, 189, 18, 190, 191, 192, 193, 194, 195, 196, 197, 198, 199, 50, 200, 333, 334, 335, 336, 337, 338, 339, 340, 350, 351, 352, 353, 354, 355, 356, 341, 342, 343] rfl) (by decide +kernel)
set_option maxRecDepth 20000 in
theorem gL_law_X4_jump : GoodIn wsL_law (wsV RL 46 RX4 yX4_jump wsX4_jump) := goodIn_app (goodIn_of _ (by decide +kernel)) ggL_law_X4_jump
set_option maxRecDepth 20000 in
theorem ggL_law_X4_goTo : GoodIn wsL_law wsX4_goTo := goodIn_sub (lw_mem _ [325, 15, 14, 141, 142, 143, 13, 144, 31, 32, 111, 112, 145, 146, 147, 30, 148, 38, 149, 150, 151, 152, 39, 41, 42, 43, 86, 44, 326, 327, 328, 329, 157, 279, 96, 97, 98, 175, 176, 177, 178, 119, 179, 180, 181, 182, 167, 168, 169, 170, 95, 171, 172, 173, 174, 99, 100, 101, 102, 120, 92, 93, 94, 103, 104, 105, 106, 159, 160, 161, 162, 163, 164, 165, 166, 183, 184, 185, 2, 186, 19, 187, 188, 189, 18, 190, 191, 192, 193, 194, 195, 196, 197, 198, 199, 50, 200, 333, 334, 335, 336, 337, 338, 339, 340, 350, 351, 352, 353, 354, 355, 356, 341, 342, 343] rfl) (by decide +kernel)
set_option maxRecDepth 20000 in
theorem gL_law_X4_goTo : GoodIn wsL_law (wsV RL 84 RX4 yX4_goTo wsX4_goTo) := goodIn_app (goodIn_of _ (by decide +kernel)) ggL_law_X4_goTo
set_option maxRecDepth 20000 in
theorem ggL_law_L_undoes : GoodIn wsL_law wsL_undoes := goodIn_sub (lw_mem _ [332, 64, 65, 66, 2, 67, 14, 68, 69, 70, 71, 72, 73, 74, 19, 75, 23, 76, 77, 78, 79, 80, 30, 81, 43, 82, 83, 84, 85, 86, 87, 88, 89, 90, 91, 92, 93, 94, 41, 38, 39, 95, 96, 97, 98, 99, 100, 101, 102, 44, 103, 104, 105, 106, 42, 107, 108, 109, 13, 110, 31, 111, 112, 113, 114, 115, 116, 117, 118, 119, 32, 120, 254, 255, 256, 257, 15, 141, 142, 143, 144, 145, 146, 147, 148, 149, 150, 151, 152, 258, 259, 260, 261, 157, 262, 130, 131, 263, 172, 173, 174, 264, 265, 266, 267, 175, 176, 177, 178, 179, 180, 181, 182, 167, 168, 169, 170, 171, 159, 160, 161, 162, 163, 164, 165, 166, 209, 183, 184, 185, 186, 187, 188, 189, 18, 190, 191, 192, 193, 194, 195, 196, 197, 198, 199, 50, 200, 235, 236, 237, 238, 239, 240, 241, 242, 243, 333, 334, 335, 336, 337, 338, 339, 340, 350, 351, 352, 353, 354, 355, 356, 341, 342, 343, 344, 345, 346, 347, 348, 349] rfl) (by decide +kernel)
set_option maxRecDepth 20000 in
theorem gL_law_L_undoes : GoodIn wsL_law (va_wsS RL 87 yL_undoes wsL_undoes) := goodIn_app (goodIn_of _ (by decide +kernel)) ggL_law_L_undoes
set_option maxRecDepth 20000 in
theorem ggL_law_L_size : GoodIn wsL_law wsL_size := goodIn_r _ [253] (by decide +kernel) (by decide +kernel)
set_option maxRecDepth 20000 in
theorem gL_law_L_size : GoodIn wsL_law (va_wsS RL 14 yL_size wsL_size) := goodIn_app (goodIn_of _ (by decide +kernel)) ggL_law_L_size
set_option maxRecDepth 20000 in
theorem ggL_law_X4_put : GoodIn wsL_law wsX4_put := goodIn_sub (lw_mem _ [257, 15, 14, 141, 142, 143, 13, 144, 31, 32, 111, 112, 145, 146, 147, 30, 148, 38, 149, 150, 151, 152, 39, 41, 42, 43, 86, 44, 258, 259, 260, 261, 119, 157, 262, 130, 2, 131, 263, 172, 173, 174, 264, 265, 266, 267, 175, 176, 177, 178, 179, 180, 181, 182, 167, 168, 169, 170, 95, 96, 97, 98, 171, 99, 100, 101, 102, 120, 92, 93, 94, 103, 104, 105, 106, 159, 160, 161, 162, 163, 164, 165, 166, 209, 83, 84, 85, 87, 88, 89, 90, 91, 183, 184, 185, 186, 19, 187, 188, 189, 18, 190, 191, 192, 193, 194, 195, 196, 197, 198, 199, 50, 200, 333, 334, 335, 336, 337, 338, 339, 340, 350, 351, 352, 353, 354, 355, 356, 341, 342, 343] rfl) (by decide +kernel)
set_option maxRecDepth 20000 in
theorem gL_law_X4_put : GoodIn wsL_law (wsV RL 18 RX4 yX4_put wsX4_put) := goodIn_app (goodIn_of _ (by decide +kernel)) ggL_law_X4_put
set_option maxRecDepth 20000 in
theorem ggL_law_X4_cut : GoodIn wsL_law wsX4_cut := goodIn_sub (lw_mem _ [274, 15, 14, 141, 142, 143, 13, 144, 31, 32, 111, 112, 145, 146, 147, 30, 148, 38, 149, 150, 151, 152, 39, 41, 42, 43, 86, 44, 275, 276, 277, 278, 157, 119, 279, 96, 97, 98, 280, 281, 282, 283, 95, 284, 285, 286, 287, 171, 172, 173, 174, 99, 100, 101, 102, 175, 176, 177, 178, 179, 180, 181, 182, 167, 168, 169, 170, 120, 92, 93, 94, 103, 104, 105, 106, 159, 160, 161, 162, 163, 164, 165, 166, 183, 184, 185, 2, 186, 19, 187, 188, 189, 18, 190, 191, 192, 193, 194, 195, 196, 197, 198, 199, 50, 200, 333, 334, 335, 336, 337, 338, 339, 340, 350, 351, 352, 353, 354, 355, 356, 341, 342, 343] rfl) (by decide +kernel)
set_option maxRecDepth 20000 in
theorem gL_law_X4_cut : GoodIn wsL_law (wsV RL 56 RX4 yX4_cut wsX4_cut) := goodIn_app (goodIn_of _ (by decide +kernel)) ggL_law_X4_cut
set_option maxRecDepth 20000 in
theorem ggL_law_X4_seen : GoodIn wsL_law wsX4_seen := goodIn_sub (lw_mem _ [128, 14, 73, 77, 68, 129, 130, 2, 131, 107, 108, 109, 13, 110, 31, 111, 112, 113, 88, 89, 30, 90, 86, 91, 92, 93, 94, 41, 38, 39, 95, 96, 97, 98, 99, 100, 101, 102, 44, 103, 104, 105, 106, 43, 42, 132, 133, 134, 135, 136, 333, 334, 335, 336, 337, 338, 339, 340, 350, 351, 352, 353, 354, 355, 356] rfl) (by decide +kernel)
set_option maxRecDepth 20000 in
theorem gL_law_X4_seen : GoodIn wsL_law (wsV RL 39 RX4 yX4_seen wsX4_seen) := goodIn_app (goodIn_of _ (by decide +kernel)) ggL_law_X4_seen
theorem dL_law_0 : decode cL_law 0 = .ok (.new 19, 3) := by decide +kernel
theorem dL_law_3 : decode cL_law 3 = .ok (.dup, 1) := by decide +kernel
theorem dL_law_4 : decode cL_law 4 = .ok (.invokespecial 63, 3) := by decide +kernel
theorem dL_law_7 : decode cL_law 7 = .ok (.astore_n 1, 1) := by decide +kernel
theorem dL_law_8 : decode cL_law 8 = .ok (.aload_n 1, 1) := by decide +kernel
theorem dL_law_9 : decode cL_law 9 = .ok (.invokestatic 64, 3) := by decide +kernel
theorem dL_law_12 : decode cL_law 12 = .ok (.ifCond .eq 33, 3) := by decide +kernel
theorem dL_law_15 : decode cL_law 15 = .ok (.aload_n 1, 1) := by decide +kernel
theorem dL_law_16 : decode cL_law 16 = .ok (.invokevirtual 60, 3) := by decide +kernel
theorem dL_law_19 : decode cL_law 19 = .ok (.ldc 45, 2) := by decide +kernel
theorem dL_law_21 : decode cL_law 21 = .ok (.if_icmp .ne 24, 3) := by decide +kernel
theorem dL_law_24 : decode cL_law 24 = .ok (.aload_n 1, 1) := by decide +kernel
theorem dL_law_25 : decode cL_law 25 = .ok (.aload_n 0, 1) := by decide +kernel
theorem dL_law_26 : decode cL_law 26 = .ok (.bipush 6, 2) := by decide +kernel
theorem dL_law_28 : decode cL_law 28 = .ok (.invokestatic 67, 3) := by decide +kernel
theorem dL_law_31 : decode cL_law 31 = .ok (.ifCond .eq 14, 3) := by decide +kernel
theorem dL_law_34 : decode cL_law 34 = .ok (.aload_n 1, 1) := by decide +kernel
theorem dL_law_35 : decode cL_law 35 = .ok (.invokestatic 64, 3) := by decide +kernel
theorem dL_law_38 : decode cL_law 38 = .ok (.ifCond .eq 7, 3) := by decide +kernel
theorem dL_law_41 : decode cL_law 41 = .ok (.iconst 1, 1) := by decide +kernel
theorem dL_law_42 : decode cL_law 42 = .ok (.goto 4, 3) := by decide +kernel
theorem dL_law_45 : decode cL_law 45 = .ok (.iconst 0, 1) := by decide +kernel
theorem dL_law_46 : decode cL_law 46 = .ok (.istore_n 2, 1) := by decide +kernel
theorem dL_law_47 : decode cL_law 47 = .ok (.iconst 0, 1) := by decide +kernel
theorem dL_law_48 : decode cL_law 48 = .ok (.istore_n 3, 1) := by decide +kernel
theorem dL_law_49 : decode cL_law 49 = .ok (.iload_n 3, 1) := by decide +kernel
theorem dL_law_50 : decode cL_law 50 = .ok (.bipush 20, 2) := by decide +kernel
theorem dL_law_52 : decode cL_law 52 = .ok (.if_icmp .ge 468, 3) := by decide +kernel
theorem dL_law_55 : decode cL_law 55 = .ok (.iload_n 2, 1) := by decide +kernel
theorem dL_law_56 : decode cL_law 56 = .ok (.ifCond .eq 464, 3) := by decide +kernel
theorem dL_law_59 : decode cL_law 59 = .ok (.aload_n 0, 1) := by decide +kernel
theorem dL_law_60 : decode cL_law 60 = .ok (.bipush 6, 2) := by decide +kernel
theorem dL_law_62 : decode cL_law 62 = .ok (.iload_n 3, 1) := by decide +kernel
theorem dL_law_63 : decode cL_law 63 = .ok (.iadd, 1) := by decide +kernel
theorem dL_law_64 : decode cL_law 64 = .ok (.invokestatic 8, 3) := by decide +kernel
theorem dL_law_67 : decode cL_law 67 = .ok (.istore 4, 2) := by decide +kernel
theorem dL_law_69 : decode cL_law 69 = .ok (.iload 4, 2) := by decide +kernel
theorem dL_law_71 : decode cL_law 71 = .ok (.bipush 16, 2) := by decide +kernel
theorem dL_law_73 : decode cL_law 73 = .ok (.idiv, 1) := by decide +kernel
theorem dL_law_74 : decode cL_law 74 = .ok (.istore 5, 2) := by decide +kernel
theorem dL_law_76 : decode cL_law 76 = .ok (.aload_n 1, 1) := by decide +kernel
theorem dL_law_77 : decode cL_law 77 = .ok (.iconst 0, 1) := by decide +kernel
theorem dL_law_78 : decode cL_law 78 = .ok (.invokevirtual 24, 3) := by decide +kernel
theorem dL_law_81 : decode cL_law 81 = .ok (.istore 6, 2) := by decide +kernel
theorem dL_law_83 : decode cL_law 83 = .ok (.iload 4, 2) := by decide +kernel
theorem dL_law_85 : decode cL_law 85 = .ok (.bipush 16, 2) := by decide +kernel
theorem dL_law_87 : decode cL_law 87 = .ok (.irem, 1) := by decide +kernel
theorem dL_law_88 : decode cL_law 88 = .ok (.tableswitch 350 0 10 #[60, 75, 139, 192, 241, 241, 241, 277, 277, 309, 340], 60) := by decide +kernel
theorem dL_law_148 : decode cL_law 148 = .ok (.aload_n 1, 1) := by decide +kernel
theorem dL_law_149 : decode cL_law 149 = .ok (.iload 5, 2) := by decide +kernel
theorem dL_law_151 : decode cL_law 151 = .ok (.iload 6, 2) := by decide +kernel
theorem dL_law_153 : decode cL_law 153 = .ok (.iconst 1, 1) := by decide +kernel
theorem dL_law_154 : decode cL_law 154 = .ok (.iadd, 1) := by decide +kernel
theorem dL_law_155 : decode cL_law 155 = .ok (.irem, 1) := by decide +kernel
theorem dL_law_156 : decode cL_law 156 = .ok (.invokestatic 71, 3) := by decide +kernel
theorem dL_law_159 : decode cL_law 159 = .ok (.istore_n 2, 1) := by decide +kernel
theorem dL_law_160 : decode cL_law 160 = .ok (.goto 331, 3) := by decide +kernel
theorem dL_law_163 : decode cL_law 163 = .ok (.iload 6, 2) := by decide +kernel
theorem dL_law_165 : decode cL_law 165 = .ok (.ifCond .ne 7, 3) := by decide +kernel
theorem dL_law_168 : decode cL_law 168 = .ok (.iconst 0, 1) := by decide +kernel
theorem dL_law_169 : decode cL_law 169 = .ok (.goto 8, 3) := by decide +kernel
theorem dL_law_172 : decode cL_law 172 = .ok (.iload 5, 2) := by decide +kernel
theorem dL_law_174 : decode cL_law 174 = .ok (.iload 6, 2) := by decide +kernel
theorem dL_law_176 : decode cL_law 176 = .ok (.irem, 1) := by decide +kernel
theorem dL_law_177 : decode cL_law 177 = .ok (.istore 7, 2) := by decide +kernel
theorem dL_law_179 : decode cL_law 179 = .ok (.iload 6, 2) := by decide +kernel
theorem dL_law_181 : decode cL_law 181 = .ok (.ifCond .ne 8, 3) := by decide +kernel
theorem dL_law_184 : decode cL_law 184 = .ok (.ldc 59, 2) := by decide +kernel
theorem dL_law_186 : decode cL_law 186 = .ok (.goto 10, 3) := by decide +kernel
theorem dL_law_189 : decode cL_law 189 = .ok (.aload_n 1, 1) := by decide +kernel
theorem dL_law_190 : decode cL_law 190 = .ok (.iload 7, 2) := by decide +kernel
theorem dL_law_192 : decode cL_law 192 = .ok (.iconst 1, 1) := by decide +kernel
theorem dL_law_193 : decode cL_law 193 = .ok (.invokevirtual 27, 3) := by decide +kernel
theorem dL_law_196 : decode cL_law 196 = .ok (.istore 8, 2) := by decide +kernel
theorem dL_law_198 : decode cL_law 198 = .ok (.aload_n 1, 1) := by decide +kernel
theorem dL_law_199 : decode cL_law 199 = .ok (.iload 7, 2) := by decide +kernel
theorem dL_law_201 : decode cL_law 201 = .ok (.iload 5, 2) := by decide +kernel
theorem dL_law_203 : decode cL_law 203 = .ok (.bipush 32, 2) := by decide +kernel
theorem dL_law_205 : decode cL_law 205 = .ok (.idiv, 1) := by decide +kernel
theorem dL_law_206 : decode cL_law 206 = .ok (.sipush 401, 3) := by decide +kernel
theorem dL_law_209 : decode cL_law 209 = .ok (.irem, 1) := by decide +kernel
theorem dL_law_210 : decode cL_law 210 = .ok (.invokevirtual 75, 3) := by decide +kernel
theorem dL_law_213 : decode cL_law 213 = .ok (.iload 8, 2) := by decide +kernel
theorem dL_law_215 : decode cL_law 215 = .ok (.if_icmp .ne 7, 3) := by decide +kernel
theorem dL_law_218 : decode cL_law 218 = .ok (.iconst 1, 1) := by decide +kernel
theorem dL_law_219 : decode cL_law 219 = .ok (.goto 4, 3) := by decide +kernel
theorem dL_law_222 : decode cL_law 222 = .ok (.iconst 0, 1) := by decide +kernel
theorem dL_law_223 : decode cL_law 223 = .ok (.istore_n 2, 1) := by decide +kernel
theorem dL_law_224 : decode cL_law 224 = .ok (.goto 267, 3) := by decide +kernel
theorem dL_law_227 : decode cL_law 227 = .ok (.aload_n 1, 1) := by decide +kernel
theorem dL_law_228 : decode cL_law 228 = .ok (.bipush 6, 2) := by decide +kernel
theorem dL_law_230 : decode cL_law 230 = .ok (.invokevirtual 24, 3) := by decide +kernel
theorem dL_law_233 : decode cL_law 233 = .ok (.istore 9, 2) := by decide +kernel
theorem dL_law_235 : decode cL_law 235 = .ok (.aload_n 1, 1) := by decide +kernel
theorem dL_law_236 : decode cL_law 236 = .ok (.bipush 20, 2) := by decide +kernel
theorem dL_law_238 : decode cL_law 238 = .ok (.iload 5, 2) := by decide +kernel
theorem dL_law_240 : decode cL_law 240 = .ok (.sipush 400, 3) := by decide +kernel
theorem dL_law_243 : decode cL_law 243 = .ok (.irem, 1) := by decide +kernel
theorem dL_law_244 : decode cL_law 244 = .ok (.iadd, 1) := by decide +kernel
theorem dL_law_245 : decode cL_law 245 = .ok (.invokevirtual 78, 3) := by decide +kernel
theorem dL_law_248 : decode cL_law 248 = .ok (.iload 9, 2) := by decide +kernel
theorem dL_law_250 : decode cL_law 250 = .ok (.if_icmp .ne 25, 3) := by decide +kernel
theorem dL_law_253 : decode cL_law 253 = .ok (.aload_n 1, 1) := by decide +kernel
theorem dL_law_254 : decode cL_law 254 = .ok (.bipush 6, 2) := by decide +kernel
theorem dL_law_256 : decode cL_law 256 = .ok (.invokevirtual 24, 3) := by decide +kernel
theorem dL_law_259 : decode cL_law 259 = .ok (.bipush 20, 2) := by decide +kernel
theorem dL_law_261 : decode cL_law 261 = .ok (.iload 5, 2) := by decide +kernel
theorem dL_law_263 : decode cL_law 263 = .ok (.sipush 400, 3) := by decide +kernel
theorem dL_law_266 : decode cL_law 266 = .ok (.irem, 1) := by decide +kernel
theorem dL_law_267 : decode cL_law 267 = .ok (.iadd, 1) := by decide +kernel
theorem dL_law_268 : decode cL_law 268 = .ok (.if_icmp .ne 7, 3) := by decide +kernel
theorem dL_law_271 : decode cL_law 271 = .ok (.iconst 1, 1) := by decide +kernel
theorem dL_law_272 : decode cL_law 272 = .ok (.goto 4, 3) := by decide +kernel
theorem dL_law_275 : decode cL_law 275 = .ok (.iconst 0, 1) := by decide +kernel
theorem dL_law_276 : decode cL_law 276 = .ok (.istore_n 2, 1) := by decide +kernel
theorem dL_law_277 : decode cL_law 277 = .ok (.goto 214, 3) := by decide +kernel
theorem dL_law_280 : decode cL_law 280 = .ok (.aload_n 1, 1) := by decide +kernel
theorem dL_law_281 : decode cL_law 281 = .ok (.bipush 7, 2) := by decide +kernel
theorem dL_law_283 : decode cL_law 283 = .ok (.invokevirtual 24, 3) := by decide +kernel
theorem dL_law_286 : decode cL_law 286 = .ok (.istore 10, 2) := by decide +kernel
theorem dL_law_288 : decode cL_law 288 = .ok (.aload_n 1, 1) := by decide +kernel
