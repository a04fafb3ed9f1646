set_option maxRecDepth 20000 in
theorem ggX0_init_X3_init : GoodIn wsX0_init wsX3_init := goodIn_r _ [10, 11, 2, 3, 12, 13, 14, 15, 16, 17, 18, 19, 20, 21, 22, 23, 24, 25, 26, 27, 28, 36, 37, 38, 39, 40, 41, 42, 32, 33, 34, 35] (by decide +kernel) (by decide +kernel)
set_option maxRecDepth 20000 in
theorem gX0_init_X3_init : GoodIn wsX0_init (wsX3_init) := ggX0_init_X3_init
theorem dX0_init_0 : decode cX0_init 0 = .ok (.aload_n 0, 1) := by decide +kernel
theorem dX0_init_1 : decode cX0_init 1 = .ok (.invokespecial 3, 3) := by decide +kernel
theorem dX0_init_4 : decode cX0_init 4 = .ok (.aload_n 0, 1) := by decide +kernel
theorem dX0_init_5 : decode cX0_init 5 = .ok (.iconst 5, 1) := by decide +kernel
theorem dX0_init_6 : decode cX0_init 6 = .ok (.anewarray 9, 3) := by decide +kernel
theorem dX0_init_9 : decode cX0_init 9 = .ok (.putfield 11, 3) := by decide +kernel
theorem dX0_init_12 : decode cX0_init 12 = .ok (.iconst 0, 1) := by decide +kernel
theorem dX0_init_13 : decode cX0_init 13 = .ok (.istore_n 1, 1) := by decide +kernel
theorem dX0_init_14 : decode cX0_init 14 = .ok (.iload_n 1, 1) := by decide +kernel
theorem dX0_init_15 : decode cX0_init 15 = .ok (.iconst 5, 1) := by decide +kernel
theorem dX0_init_16 : decode cX0_init 16 = .ok (.if_icmp .ge 22, 3) := by decide +kernel
theorem dX0_init_19 : decode cX0_init 19 = .ok (.aload_n 0, 1) := by decide +kernel
theorem dX0_init_20 : decode cX0_init 20 = .ok (.getfield 11, 3) := by decide +kernel
theorem dX0_init_23 : decode cX0_init 23 = .ok (.iload_n 1, 1) := by decide +kernel
theorem dX0_init_24 : decode cX0_init 24 = .ok (.new 9, 3) := by decide +kernel
theorem dX0_init_27 : decode cX0_init 27 = .ok (.dup, 1) := by decide +kernel
theorem dX0_init_28 : decode cX0_init 28 = .ok (.invokespecial 17, 3) := by decide +kernel
theorem dX0_init_31 : decode cX0_init 31 = .ok (.aastore, 1) := by decide +kernel
theorem dX0_init_32 : decode cX0_init 32 = .ok (.iinc 1 1, 3) := by decide +kernel
theorem dX0_init_35 : decode cX0_init 35 = .ok (.goto (-21), 3) := by decide +kernel
theorem dX0_init_38 : decode cX0_init 38 = .ok (.return_, 1) := by decide +kernel
set_option maxRecDepth 20000 in
theorem ggX0_record_X0_stateAt : GoodIn wsX0_record wsX0_stateAt := goodIn_r _ [11, 12, 38, 39, 40] (by decide +kernel) (by decide +kernel)
set_option maxRecDepth 20000 in
theorem gX0_record_X0_stateAt : GoodIn wsX0_record (wsV RX0 22 RX0 yX0_stateAt wsX0_stateAt) := goodIn_app (goodIn_of _ (by decide +kernel)) ggX0_record_X0_stateAt
set_option maxRecDepth 20000 in
theorem ggX0_record_X3_copyFrom : GoodIn wsX0_record wsX3_copyFrom := goodIn_r _ [17, 18, 19, 20, 21, 22, 23, 24, 25, 26, 27, 28, 29, 30, 31, 32, 33, 34, 35, 36, 37, 41, 42, 43, 44, 45, 46, 47, 48, 49, 50, 51] (by decide +kernel) (by decide +kernel)
set_option maxRecDepth 20000 in
theorem gX0_record_X3_copyFrom : GoodIn wsX0_record (wsV RX0 26 RX3 yX3_copyFrom wsX3_copyFrom) := goodIn_app (goodIn_of _ (by decide +kernel)) ggX0_record_X3_copyFrom
theorem dX0_record_0 : decode cX0_record 0 = .ok (.aload_n 0, 1) := by decide +kernel
theorem dX0_record_1 : decode cX0_record 1 = .ok (.aload_n 0, 1) := by decide +kernel
theorem dX0_record_2 : decode cX0_record 2 = .ok (.getfield 18, 3) := by decide +kernel
theorem dX0_record_5 : decode cX0_record 5 = .ok (.invokevirtual 22, 3) := by decide +kernel
theorem dX0_record_8 : decode cX0_record 8 = .ok (.astore_n 2, 1) := by decide +kernel
theorem dX0_record_9 : decode cX0_record 9 = .ok (.aload_n 2, 1) := by decide +kernel
theorem dX0_record_10 : decode cX0_record 10 = .ok (.ifnonnull 4, 3) := by decide +kernel
theorem dX0_record_13 : decode cX0_record 13 = .ok (.return_, 1) := by decide +kernel
theorem dX0_record_14 : decode cX0_record 14 = .ok (.aload_n 2, 1) := by decide +kernel
theorem dX0_record_15 : decode cX0_record 15 = .ok (.aload_n 1, 1) := by decide +kernel
theorem dX0_record_16 : decode cX0_record 16 = .ok (.invokevirtual 26, 3) := by decide +kernel
theorem dX0_record_19 : decode cX0_record 19 = .ok (.aload_n 0, 1) := by decide +kernel
theorem dX0_record_20 : decode cX0_record 20 = .ok (.aload_n 0, 1) := by decide +kernel
theorem dX0_record_21 : decode cX0_record 21 = .ok (.getfield 18, 3) := by decide +kernel
theorem dX0_record_24 : decode cX0_record 24 = .ok (.iconst 1, 1) := by decide +kernel
theorem dX0_record_25 : decode cX0_record 25 = .ok (.iadd, 1) := by decide +kernel
theorem dX0_record_26 : decode cX0_record 26 = .ok (.iconst 5, 1) := by decide +kernel
theorem dX0_record_27 : decode cX0_record 27 = .ok (.irem, 1) := by decide +kernel
theorem dX0_record_28 : decode cX0_record 28 = .ok (.putfield 18, 3) := by decide +kernel
theorem dX0_record_31 : decode cX0_record 31 = .ok (.aload_n 0, 1) := by decide +kernel
theorem dX0_record_32 : decode cX0_record 32 = .ok (.aload_n 0, 1) := by decide +kernel
theorem dX0_record_33 : decode cX0_record 33 = .ok (.getfield 30, 3) := by decide +kernel
theorem dX0_record_36 : decode cX0_record 36 = .ok (.iconst 1, 1) := by decide +kernel
theorem dX0_record_37 : decode cX0_record 37 = .ok (.iadd, 1) := by decide +kernel
theorem dX0_record_38 : decode cX0_record 38 = .ok (.iconst 5, 1) := by decide +kernel
theorem dX0_record_39 : decode cX0_record 39 = .ok (.invokestatic 33, 3) := by decide +kernel
theorem dX0_record_42 : decode cX0_record 42 = .ok (.putfield 30, 3) := by decide +kernel
theorem dX0_record_45 : decode cX0_record 45 = .ok (.return_, 1) := by decide +kernel
set_option maxRecDepth 20000 in
theorem ggX0_restoreTo_X0_stateAt : GoodIn wsX0_restoreTo wsX0_stateAt := goodIn_r _ [7, 8, 34, 35, 36] (by decide +kernel) (by decide +kernel)
set_option maxRecDepth 20000 in
theorem gX0_restoreTo_X0_stateAt : GoodIn wsX0_restoreTo (wsV RX0 22 RX0 yX0_stateAt wsX0_stateAt) := goodIn_app (goodIn_of _ (by decide +kernel)) ggX0_restoreTo_X0_stateAt
set_option maxRecDepth 20000 in
theorem ggX0_restoreTo_X3_copyFrom : GoodIn wsX0_restoreTo wsX3_copyFrom := goodIn_r _ [13, 14, 15, 16, 17, 18, 19, 20, 21, 22, 23, 24, 25, 26, 27, 28, 29, 30, 31, 32, 33, 37, 38, 39, 40, 41, 42, 43, 44, 45, 46, 47] (by decide +kernel) (by decide +kernel)
set_option maxRecDepth 20000 in
theorem gX0_restoreTo_X3_copyFrom : GoodIn wsX0_restoreTo (wsV RX0 26 RX3 yX3_copyFrom wsX3_copyFrom) := goodIn_app (goodIn_of _ (by decide +kernel)) ggX0_restoreTo_X3_copyFrom
theorem dX0_restoreTo_0 : decode cX0_restoreTo 0 = .ok (.aload_n 0, 1) := by decide +kernel
theorem dX0_restoreTo_1 : decode cX0_restoreTo 1 = .ok (.getfield 30, 3) := by decide +kernel
theorem dX0_restoreTo_4 : decode cX0_restoreTo 4 = .ok (.ifCond .eq 7, 3) := by decide +kernel
theorem dX0_restoreTo_7 : decode cX0_restoreTo 7 = .ok (.aload_n 1, 1) := by decide +kernel
theorem dX0_restoreTo_8 : decode cX0_restoreTo 8 = .ok (.ifnonnull 4, 3) := by decide +kernel
theorem dX0_restoreTo_11 : decode cX0_restoreTo 11 = .ok (.return_, 1) := by decide +kernel
theorem dX0_restoreTo_12 : decode cX0_restoreTo 12 = .ok (.aload_n 0, 1) := by decide +kernel
theorem dX0_restoreTo_13 : decode cX0_restoreTo 13 = .ok (.aload_n 0, 1) := by decide +kernel
theorem dX0_restoreTo_14 : decode cX0_restoreTo 14 = .ok (.getfield 18, 3) := by decide +kernel
theorem dX0_restoreTo_17 : decode cX0_restoreTo 17 = .ok (.iconst 5, 1) := by decide +kernel
theorem dX0_restoreTo_18 : decode cX0_restoreTo 18 = .ok (.iadd, 1) := by decide +kernel
theorem dX0_restoreTo_19 : decode cX0_restoreTo 19 = .ok (.iconst 1, 1) := by decide +kernel
theorem dX0_restoreTo_20 : decode cX0_restoreTo 20 = .ok (.isub, 1) := by decide +kernel
theorem dX0_restoreTo_21 : decode cX0_restoreTo 21 = .ok (.iconst 5, 1) := by decide +kernel
theorem dX0_restoreTo_22 : decode cX0_restoreTo 22 = .ok (.irem, 1) := by decide +kernel
theorem dX0_restoreTo_23 : decode cX0_restoreTo 23 = .ok (.putfield 18, 3) := by decide +kernel
theorem dX0_restoreTo_26 : decode cX0_restoreTo 26 = .ok (.aload_n 0, 1) := by decide +kernel
theorem dX0_restoreTo_27 : decode cX0_restoreTo 27 = .ok (.dup, 1) := by decide +kernel
theorem dX0_restoreTo_28 : decode cX0_restoreTo 28 = .ok (.getfield 30, 3) := by decide +kernel
theorem dX0_restoreTo_31 : decode cX0_restoreTo 31 = .ok (.iconst 1, 1) := by decide +kernel
theorem dX0_restoreTo_32 : decode cX0_restoreTo 32 = .ok (.isub, 1) := by decide +kernel
theorem dX0_restoreTo_33 : decode cX0_restoreTo 33 = .ok (.putfield 30, 3) := by decide +kernel
theorem dX0_restoreTo_36 : decode cX0_restoreTo 36 = .ok (.aload_n 1, 1) := by decide +kernel
theorem dX0_restoreTo_37 : decode cX0_restoreTo 37 = .ok (.aload_n 0, 1) := by decide +kernel
theorem dX0_restoreTo_38 : decode cX0_restoreTo 38 = .ok (.aload_n 0, 1) := by decide +kernel
theorem dX0_restoreTo_39 : decode cX0_restoreTo 39 = .ok (.getfield 18, 3) := by decide +kernel
theorem dX0_restoreTo_42 : decode cX0_restoreTo 42 = .ok (.invokevirtual 22, 3) := by decide +kernel
theorem dX0_restoreTo_45 : decode cX0_restoreTo 45 = .ok (.invokevirtual 26, 3) := by decide +kernel
theorem dX0_restoreTo_48 : decode cX0_restoreTo 48 = .ok (.return_, 1) := by decide +kernel
theorem dX0_stateAt_0 : decode cX0_stateAt 0 = .ok (.iload_n 1, 1) := by decide +kernel
theorem dX0_stateAt_1 : decode cX0_stateAt 1 = .ok (.ifCond .lt 17, 3) := by decide +kernel
theorem dX0_stateAt_4 : decode cX0_stateAt 4 = .ok (.iload_n 1, 1) := by decide +kernel
theorem dX0_stateAt_5 : decode cX0_stateAt 5 = .ok (.iconst 5, 1) := by decide +kernel
theorem dX0_stateAt_6 : decode cX0_stateAt 6 = .ok (.if_icmp .ge 12, 3) := by decide +kernel
theorem dX0_stateAt_9 : decode cX0_stateAt 9 = .ok (.aload_n 0, 1) := by decide +kernel
theorem dX0_stateAt_10 : decode cX0_stateAt 10 = .ok (.getfield 11, 3) := by decide +kernel
theorem dX0_stateAt_13 : decode cX0_stateAt 13 = .ok (.iload_n 1, 1) := by decide +kernel
theorem dX0_stateAt_14 : decode cX0_stateAt 14 = .ok (.aaload, 1) := by decide +kernel
theorem dX0_stateAt_15 : decode cX0_stateAt 15 = .ok (.goto 4, 3) := by decide +kernel
theorem dX0_stateAt_18 : decode cX0_stateAt 18 = .ok (.aconst_null, 1) := by decide +kernel
theorem dX0_stateAt_19 : decode cX0_stateAt 19 = .ok (.areturn, 1) := by decide +kernel
theorem dX1_init_0 : decode cX1_init 0 = .ok (.aload_n 0, 1) := by decide +kernel
theorem dX1_init_1 : decode cX1_init 1 = .ok (.invokespecial 3, 3) := by decide +kernel
theorem dX1_init_4 : decode cX1_init 4 = .ok (.aload_n 0, 1) := by decide +kernel
theorem dX1_init_5 : decode cX1_init 5 = .ok (.bipush 100, 2) := by decide +kernel
theorem dX1_init_7 : decode cX1_init 7 = .ok (.newarray .int, 2) := by decide +kernel
theorem dX1_init_9 : decode cX1_init 9 = .ok (.putfield 9, 3) := by decide +kernel
theorem dX1_init_12 : decode cX1_init 12 = .ok (.aload_n 0, 1) := by decide +kernel
theorem dX1_init_13 : decode cX1_init 13 = .ok (.bipush 100, 2) := by decide +kernel
theorem dX1_init_15 : decode cX1_init 15 = .ok (.newarray .int, 2) := by decide +kernel
theorem dX1_init_17 : decode cX1_init 17 = .ok (.putfield 15, 3) := by decide +kernel
theorem dX1_init_20 : decode cX1_init 20 = .ok (.aload_n 0, 1) := by decide +kernel
theorem dX1_init_21 : decode cX1_init 21 = .ok (.bipush 100, 2) := by decide +kernel
theorem dX1_init_23 : decode cX1_init 23 = .ok (.newarray .boolean, 2) := by decide +kernel
theorem dX1_init_25 : decode cX1_init 25 = .ok (.putfield 18, 3) := by decide +kernel
theorem dX1_init_28 : decode cX1_init 28 = .ok (.aload_n 0, 1) := by decide +kernel
theorem dX1_init_29 : decode cX1_init 29 = .ok (.iconst 3, 1) := by decide +kernel
theorem dX1_init_30 : decode cX1_init 30 = .ok (.newarray .int, 2) := by decide +kernel
theorem dX1_init_32 : decode cX1_init 32 = .ok (.putfield 22, 3) := by decide +kernel
theorem dX1_init_35 : decode cX1_init 35 = .ok (.aload_n 0, 1) := by decide +kernel
theorem dX1_init_36 : decode cX1_init 36 = .ok (.iconst 3, 1) := by decide +kernel
theorem dX1_init_37 : decode cX1_init 37 = .ok (.newarray .int, 2) := by decide +kernel
theorem dX1_init_39 : decode cX1_init 39 = .ok (.putfield 25, 3) := by decide +kernel
theorem dX1_init_42 : decode cX1_init 42 = .ok (.aload_n 0, 1) := by decide +kernel
theorem dX1_init_43 : decode cX1_init 43 = .ok (.bipush 40, 2) := by decide +kernel
theorem dX1_init_45 : decode cX1_init 45 = .ok (.putfield 28, 3) := by decide +kernel
theorem dX1_init_48 : decode cX1_init 48 = .ok (.return_, 1) := by decide +kernel
theorem dX1_copyFrom_0 : decode cX1_copyFrom 0 = .ok (.aload_n 1, 1) := by decide +kernel
theorem dX1_copyFrom_1 : decode cX1_copyFrom 1 = .ok (.ifnonnull 4, 3) := by decide +kernel
theorem dX1_copyFrom_4 : decode cX1_copyFrom 4 = .ok (.return_, 1) := by decide +kernel
theorem dX1_copyFrom_5 : decode cX1_copyFrom 5 = .ok (.aload_n 1, 1) := by decide +kernel
theorem dX1_copyFrom_6 : decode cX1_copyFrom 6 = .ok (.getfield 9, 3) := by decide +kernel
theorem dX1_copyFrom_9 : decode cX1_copyFrom 9 = .ok (.iconst 0, 1) := by decide +kernel
theorem dX1_copyFrom_10 : decode cX1_copyFrom 10 = .ok (.aload_n 0, 1) := by decide +kernel
theorem dX1_copyFrom_11 : decode cX1_copyFrom 11 = .ok (.getfield 9, 3) := by decide +kernel
theorem dX1_copyFrom_14 : decode cX1_copyFrom 14 = .ok (.iconst 0, 1) := by decide +kernel
theorem dX1_copyFrom_15 : decode cX1_copyFrom 15 = .ok (.bipush 100, 2) := by decide +kernel
theorem dX1_copyFrom_17 : decode cX1_copyFrom 17 = .ok (.invokestatic 32, 3) := by decide +kernel
theorem dX1_copyFrom_20 : decode cX1_copyFrom 20 = .ok (.aload_n 1, 1) := by decide +kernel
theorem dX1_copyFrom_21 : decode cX1_copyFrom 21 = .ok (.getfield 15, 3) := by decide +kernel
theorem dX1_copyFrom_24 : decode cX1_copyFrom 24 = .ok (.iconst 0, 1) := by decide +kernel
theorem dX1_copyFrom_25 : decode cX1_copyFrom 25 = .ok (.aload_n 0, 1) := by decide +kernel
theorem dX1_copyFrom_26 : decode cX1_copyFrom 26 = .ok (.getfield 15, 3) := by decide +kernel
theorem dX1_copyFrom_29 : decode cX1_copyFrom 29 = .ok (.iconst 0, 1) := by decide +kernel
theorem dX1_copyFrom_30 : decode cX1_copyFrom 30 = .ok (.bipush 100, 2) := by decide +kernel
theorem dX1_copyFrom_32 : decode cX1_copyFrom 32 = .ok (.invokestatic 32, 3) := by decide +kernel
theorem dX1_copyFrom_35 : decode cX1_copyFrom 35 = .ok (.aload_n 1, 1) := by decide +kernel
theorem dX1_copyFrom_36 : decode cX1_copyFrom 36 = .ok (.getfield 18, 3) := by decide +kernel
theorem dX1_copyFrom_39 : decode cX1_copyFrom 39 = .ok (.iconst 0, 1) := by decide +kernel
theorem dX1_copyFrom_40 : decode cX1_copyFrom 40 = .ok (.aload_n 0, 1) := by decide +kernel
theorem dX1_copyFrom_41 : decode cX1_copyFrom 41 = .ok (.getfield 18, 3) := by decide +kernel
theorem dX1_copyFrom_44 : decode cX1_copyFrom 44 = .ok (.iconst 0, 1) := by decide +kernel
theorem dX1_copyFrom_45 : decode cX1_copyFrom 45 = .ok (.bipush 100, 2) := by decide +kernel
theorem dX1_copyFrom_47 : decode cX1_copyFrom 47 = .ok (.invokestatic 32, 3) := by decide +kernel
theorem dX1_copyFrom_50 : decode cX1_copyFrom 50 = .ok (.aload_n 1, 1) := by decide +kernel
theorem dX1_copyFrom_51 : decode cX1_copyFrom 51 = .ok (.getfield 22, 3) := by decide +kernel
theorem dX1_copyFrom_54 : decode cX1_copyFrom 54 = .ok (.iconst 0, 1) := by decide +kernel
theorem dX1_copyFrom_55 : decode cX1_copyFrom 55 = .ok (.aload_n 0, 1) := by decide +kernel
theorem dX1_copyFrom_56 : decode cX1_copyFrom 56 = .ok (.getfield 22, 3) := by decide +kernel
theorem dX1_copyFrom_59 : decode cX1_copyFrom 59 = .ok (.iconst 0, 1) := by decide +kernel
theorem dX1_copyFrom_60 : decode cX1_copyFrom 60 = .ok (.iconst 3, 1) := by decide +kernel
theorem dX1_copyFrom_61 : decode cX1_copyFrom 61 = .ok (.invokestatic 32, 3) := by decide +kernel
theorem dX1_copyFrom_64 : decode cX1_copyFrom 64 = .ok (.aload_n 1, 1) := by decide +kernel
theorem dX1_copyFrom_65 : decode cX1_copyFrom 65 = .ok (.getfield 25, 3) := by decide +kernel
theorem dX1_copyFrom_68 : decode cX1_copyFrom 68 = .ok (.iconst 0, 1) := by decide +kernel
theorem dX1_copyFrom_69 : decode cX1_copyFrom 69 = .ok (.aload_n 0, 1) := by decide +kernel
theorem dX1_copyFrom_70 : decode cX1_copyFrom 70 = .ok (.getfield 25, 3) := by decide +kernel
theorem dX1_copyFrom_73 : decode cX1_copyFrom 73 = .ok (.iconst 0, 1) := by decide +kernel
theorem dX1_copyFrom_74 : decode cX1_copyFrom 74 = .ok (.iconst 3, 1) := by decide +kernel
theorem dX1_copyFrom_75 : decode cX1_copyFrom 75 = .ok (.invokestatic 32, 3) := by decide +kernel
theorem dX1_copyFrom_78 : decode cX1_copyFrom 78 = .ok (.aload_n 0, 1) := by decide +kernel
theorem dX1_copyFrom_79 : decode cX1_copyFrom 79 = .ok (.aload_n 1, 1) := by decide +kernel
theorem dX1_copyFrom_80 : decode cX1_copyFrom 80 = .ok (.getfield 38, 3) := by decide +kernel
theorem dX1_copyFrom_83 : decode cX1_copyFrom 83 = .ok (.putfield 38, 3) := by decide +kernel
theorem dX1_copyFrom_86 : decode cX1_copyFrom 86 = .ok (.aload_n 0, 1) := by decide +kernel
theorem dX1_copyFrom_87 : decode cX1_copyFrom 87 = .ok (.aload_n 1, 1) := by decide +kernel
theorem dX1_copyFrom_88 : decode cX1_copyFrom 88 = .ok (.getfield 28, 3) := by decide +kernel
theorem dX1_copyFrom_91 : decode cX1_copyFrom 91 = .ok (.putfield 28, 3) := by decide +kernel
theorem dX1_copyFrom_94 : decode cX1_copyFrom 94 = .ok (.return_, 1) := by decide +kernel
theorem dX1_isLine_0 : decode cX1_isLine 0 = .ok (.iload_n 1, 1) := by decide +kernel
theorem dX1_isLine_1 : decode cX1_isLine 1 = .ok (.ifCond .lt 21, 3) := by decide +kernel
theorem dX1_isLine_4 : decode cX1_isLine 4 = .ok (.iload_n 1, 1) := by decide +kernel
theorem dX1_isLine_5 : decode cX1_isLine 5 = .ok (.aload_n 0, 1) := by decide +kernel
theorem dX1_isLine_6 : decode cX1_isLine 6 = .ok (.getfield 38, 3) := by decide +kernel
theorem dX1_isLine_9 : decode cX1_isLine 9 = .ok (.if_icmp .ge 13, 3) := by decide +kernel
theorem dX1_isLine_12 : decode cX1_isLine 12 = .ok (.iload_n 1, 1) := by decide +kernel
theorem dX1_isLine_13 : decode cX1_isLine 13 = .ok (.bipush 100, 2) := by decide +kernel
theorem dX1_isLine_15 : decode cX1_isLine 15 = .ok (.if_icmp .ge 7, 3) := by decide +kernel
theorem dX1_isLine_18 : decode cX1_isLine 18 = .ok (.iconst 1, 1) := by decide +kernel
theorem dX1_isLine_19 : decode cX1_isLine 19 = .ok (.goto 4, 3) := by decide +kernel
theorem dX1_isLine_22 : decode cX1_isLine 22 = .ok (.iconst 0, 1) := by decide +kernel
theorem dX1_isLine_23 : decode cX1_isLine 23 = .ok (.ireturn, 1) := by decide +kernel
theorem dX1_isKind_0 : decode cX1_isKind 0 = .ok (.iload_n 1, 1) := by decide +kernel
theorem dX1_isKind_1 : decode cX1_isKind 1 = .ok (.ifCond .lt 12, 3) := by decide +kernel
theorem dX1_isKind_4 : decode cX1_isKind 4 = .ok (.iload_n 1, 1) := by decide +kernel
theorem dX1_isKind_5 : decode cX1_isKind 5 = .ok (.iconst 3, 1) := by decide +kernel
theorem dX1_isKind_6 : decode cX1_isKind 6 = .ok (.if_icmp .ge 7, 3) := by decide +kernel
theorem dX1_isKind_9 : decode cX1_isKind 9 = .ok (.iconst 1, 1) := by decide +kernel
theorem dX1_isKind_10 : decode cX1_isKind 10 = .ok (.goto 4, 3) := by decide +kernel
theorem dX1_isKind_13 : decode cX1_isKind 13 = .ok (.iconst 0, 1) := by decide +kernel
theorem dX1_isKind_14 : decode cX1_isKind 14 = .ok (.ireturn, 1) := by decide +kernel
theorem dX1_insert_0 : decode cX1_insert 0 = .ok (.iload_n 1, 1) := by decide +kernel
theorem dX1_insert_1 : decode cX1_insert 1 = .ok (.ifCond .lt 20, 3) := by decide +kernel
theorem dX1_insert_4 : decode cX1_insert 4 = .ok (.iload_n 1, 1) := by decide +kernel
theorem dX1_insert_5 : decode cX1_insert 5 = .ok (.aload_n 0, 1) := by decide +kernel
theorem dX1_insert_6 : decode cX1_insert 6 = .ok (.getfield 38, 3) := by decide +kernel
theorem dX1_insert_9 : decode cX1_insert 9 = .ok (.if_icmp .gt 12, 3) := by decide +kernel
theorem dX1_insert_12 : decode cX1_insert 12 = .ok (.aload_n 0, 1) := by decide +kernel
theorem dX1_insert_13 : decode cX1_insert 13 = .ok (.getfield 38, 3) := by decide +kernel
theorem dX1_insert_16 : decode cX1_insert 16 = .ok (.bipush 100, 2) := by decide +kernel
theorem dX1_insert_18 : decode cX1_insert 18 = .ok (.if_icmp .lt 4, 3) := by decide +kernel
theorem dX1_insert_21 : decode cX1_insert 21 = .ok (.return_, 1) := by decide +kernel
theorem dX1_insert_22 : decode cX1_insert 22 = .ok (.aload_n 0, 1) := by decide +kernel
theorem dX1_insert_23 : decode cX1_insert 23 = .ok (.getfield 9, 3) := by decide +kernel
theorem dX1_insert_26 : decode cX1_insert 26 = .ok (.iload_n 1, 1) := by decide +kernel
theorem dX1_insert_27 : decode cX1_insert 27 = .ok (.aload_n 0, 1) := by decide +kernel
theorem dX1_insert_28 : decode cX1_insert 28 = .ok (.getfield 9, 3) := by decide +kernel
theorem dX1_insert_31 : decode cX1_insert 31 = .ok (.iload_n 1, 1) := by decide +kernel
theorem dX1_insert_32 : decode cX1_insert 32 = .ok (.iconst 1, 1) := by decide +kernel
theorem dX1_insert_33 : decode cX1_insert 33 = .ok (.iadd, 1) := by decide +kernel
theorem dX1_insert_34 : decode cX1_insert 34 = .ok (.aload_n 0, 1) := by decide +kernel
theorem dX1_insert_35 : decode cX1_insert 35 = .ok (.getfield 38, 3) := by decide +kernel
theorem dX1_insert_38 : decode cX1_insert 38 = .ok (.iload_n 1, 1) := by decide +kernel
theorem dX1_insert_39 : decode cX1_insert 39 = .ok (.isub, 1) := by decide +kernel
theorem dX1_insert_40 : decode cX1_insert 40 = .ok (.invokestatic 32, 3) := by decide +kernel
theorem dX1_insert_43 : decode cX1_insert 43 = .ok (.aload_n 0, 1) := by decide +kernel
theorem dX1_insert_44 : decode cX1_insert 44 = .ok (.getfield 15, 3) := by decide +kernel
theorem dX1_insert_47 : decode cX1_insert 47 = .ok (.iload_n 1, 1) := by decide +kernel
theorem dX1_insert_48 : decode cX1_insert 48 = .ok (.aload_n 0, 1) := by decide +kernel
theorem dX1_insert_49 : decode cX1_insert 49 = .ok (.getfield 15, 3) := by decide +kernel
theorem dX1_insert_52 : decode cX1_insert 52 = .ok (.iload_n 1, 1) := by decide +kernel
theorem dX1_insert_53 : decode cX1_insert 53 = .ok (.iconst 1, 1) := by decide +kernel
theorem dX1_insert_54 : decode cX1_insert 54 = .ok (.iadd, 1) := by decide +kernel
theorem dX1_insert_55 : decode cX1_insert 55 = .ok (.aload_n 0, 1) := by decide +kernel
theorem dX1_insert_56 : decode cX1_insert 56 = .ok (.getfield 38, 3) := by decide +kernel
theorem dX1_insert_59 : decode cX1_insert 59 = .ok (.iload_n 1, 1) := by decide +kernel
theorem dX1_insert_60 : decode cX1_insert 60 = .ok (.isub, 1) := by decide +kernel
theorem dX1_insert_61 : decode cX1_insert 61 = .ok (.invokestatic 32, 3) := by decide +kernel
theorem dX1_insert_64 : decode cX1_insert 64 = .ok (.aload_n 0, 1) := by decide +kernel
theorem dX1_insert_65 : decode cX1_insert 65 = .ok (.getfield 18, 3) := by decide +kernel
theorem dX1_insert_68 : decode cX1_insert 68 = .ok (.iload_n 1, 1) := by decide +kernel
theorem dX1_insert_69 : decode cX1_insert 69 = .ok (.aload_n 0, 1) := by decide +kernel
theorem dX1_insert_70 : decode cX1_insert 70 = .ok (.getfield 18, 3) := by decide +kernel
theorem dX1_insert_73 : decode cX1_insert 73 = .ok (.iload_n 1, 1) := by decide +kernel
theorem dX1_insert_74 : decode cX1_insert 74 = .ok (.iconst 1, 1) := by decide +kernel
theorem dX1_insert_75 : decode cX1_insert 75 = .ok (.iadd, 1) := by decide +kernel
theorem dX1_insert_76 : decode cX1_insert 76 = .ok (.aload_n 0, 1) := by decide +kernel
theorem dX1_insert_77 : decode cX1_insert 77 = .ok (.getfield 38, 3) := by decide +kernel
theorem dX1_insert_80 : decode cX1_insert 80 = .ok (.iload_n 1, 1) := by decide +kernel
theorem dX1_insert_81 : decode cX1_insert 81 = .ok (.isub, 1) := by decide +kernel
theorem dX1_insert_82 : decode cX1_insert 82 = .ok (.invokestatic 32, 3) := by decide +kernel
theorem dX1_insert_85 : decode cX1_insert 85 = .ok (.aload_n 0, 1) := by decide +kernel
theorem dX1_insert_86 : decode cX1_insert 86 = .ok (.dup, 1) := by decide +kernel
theorem dX1_insert_87 : decode cX1_insert 87 = .ok (.getfield 38, 3) := by decide +kernel
theorem dX1_insert_90 : decode cX1_insert 90 = .ok (.iconst 1, 1) := by decide +kernel
theorem dX1_insert_91 : decode cX1_insert 91 = .ok (.iadd, 1) := by decide +kernel
theorem dX1_insert_92 : decode cX1_insert 92 = .ok (.putfield 38, 3) := by decide +kernel
theorem dX1_insert_95 : decode cX1_insert 95 = .ok (.aload_n 0, 1) := by decide +kernel
theorem dX1_insert_96 : decode cX1_insert 96 = .ok (.getfield 9, 3) := by decide +kernel
theorem dX1_insert_99 : decode cX1_insert 99 = .ok (.iload_n 1, 1) := by decide +kernel
theorem dX1_insert_100 : decode cX1_insert 100 = .ok (.iload_n 2, 1) := by decide +kernel
theorem dX1_insert_101 : decode cX1_insert 101 = .ok (.iastore, 1) := by decide +kernel
theorem dX1_insert_102 : decode cX1_insert 102 = .ok (.aload_n 0, 1) := by decide +kernel
theorem dX1_insert_103 : decode cX1_insert 103 = .ok (.getfield 15, 3) := by decide +kernel
theorem dX1_insert_106 : decode cX1_insert 106 = .ok (.iload_n 1, 1) := by decide +kernel
theorem dX1_insert_107 : decode cX1_insert 107 = .ok (.iload_n 3, 1) := by decide +kernel
theorem dX1_insert_108 : decode cX1_insert 108 = .ok (.iastore, 1) := by decide +kernel
theorem dX1_insert_109 : decode cX1_insert 109 = .ok (.aload_n 0, 1) := by decide +kernel
theorem dX1_insert_110 : decode cX1_insert 110 = .ok (.getfield 18, 3) := by decide +kernel
theorem dX1_insert_113 : decode cX1_insert 113 = .ok (.iload_n 1, 1) := by decide +kernel
theorem dX1_insert_114 : decode cX1_insert 114 = .ok (.iconst 0, 1) := by decide +kernel
theorem dX1_insert_115 : decode cX1_insert 115 = .ok (.bastore, 1) := by decide +kernel
theorem dX1_insert_116 : decode cX1_insert 116 = .ok (.return_, 1) := by decide +kernel
set_option maxRecDepth 20000 in
theorem ggX1_remove_X1_isLine : GoodIn wsX1_remove wsX1_isLine := goodIn_r _ [13, 1, 29, 30, 31, 32, 33, 34, 35] (by decide +kernel) (by decide +kernel)
set_option maxRecDepth 20000 in
theorem gX1_remove_X1_isLine : GoodIn wsX1_remove (wsV RX1 41 RX1 yX1_isLine wsX1_isLine) := goodIn_app (goodIn_of _ (by decide +kernel)) ggX1_remove_X1_isLine
set_option maxRecDepth 20000 in
theorem ggX1_remove_X1_forget : GoodIn wsX1_remove wsX1_forget := goodIn_r _ [17, 8, 2, 18, 7, 19, 9, 10, 11, 12, 13, 1, 20, 21, 22, 23, 24, 25, 26, 27, 28, 29, 30, 31, 32, 33, 34, 35] (by decide +kernel) (by decide +kernel)
set_option maxRecDepth 20000 in
theorem gX1_remove_X1_forget : GoodIn wsX1_remove (wsV RX1 45 RX1 yX1_forget wsX1_forget) := goodIn_app (goodIn_of _ (by decide +kernel)) ggX1_remove_X1_forget
theorem dX1_remove_0 : decode cX1_remove 0 = .ok (.aload_n 0, 1) := by decide +kernel
theorem dX1_remove_1 : decode cX1_remove 1 = .ok (.iload_n 1, 1) := by decide +kernel
theorem dX1_remove_2 : decode cX1_remove 2 = .ok (.invokevirtual 41, 3) := by decide +kernel
theorem dX1_remove_5 : decode cX1_remove 5 = .ok (.ifCond .ne 4, 3) := by decide +kernel
theorem dX1_remove_8 : decode cX1_remove 8 = .ok (.return_, 1) := by decide +kernel
theorem dX1_remove_9 : decode cX1_remove 9 = .ok (.aload_n 0, 1) := by decide +kernel
theorem dX1_remove_10 : decode cX1_remove 10 = .ok (.iload_n 1, 1) := by decide +kernel
theorem dX1_remove_11 : decode cX1_remove 11 = .ok (.invokevirtual 45, 3) := by decide +kernel
theorem dX1_remove_14 : decode cX1_remove 14 = .ok (.aload_n 0, 1) := by decide +kernel
theorem dX1_remove_15 : decode cX1_remove 15 = .ok (.dup, 1) := by decide +kernel
theorem dX1_remove_16 : decode cX1_remove 16 = .ok (.getfield 38, 3) := by decide +kernel
theorem dX1_remove_19 : decode cX1_remove 19 = .ok (.iconst 1, 1) := by decide +kernel
theorem dX1_remove_20 : decode cX1_remove 20 = .ok (.isub, 1) := by decide +kernel
theorem dX1_remove_21 : decode cX1_remove 21 = .ok (.putfield 38, 3) := by decide +kernel
theorem dX1_remove_24 : decode cX1_remove 24 = .ok (.aload_n 0, 1) := by decide +kernel
theorem dX1_remove_25 : decode cX1_remove 25 = .ok (.getfield 9, 3) := by decide +kernel
theorem dX1_remove_28 : decode cX1_remove 28 = .ok (.iload_n 1, 1) := by decide +kernel
theorem dX1_remove_29 : decode cX1_remove 29 = .ok (.iconst 1, 1) := by decide +kernel
theorem dX1_remove_30 : decode cX1_remove 30 = .ok (.iadd, 1) := by decide +kernel
theorem dX1_remove_31 : decode cX1_remove 31 = .ok (.aload_n 0, 1) := by decide +kernel
theorem dX1_remove_32 : decode cX1_remove 32 = .ok (.getfield 9, 3) := by decide +kernel
theorem dX1_remove_35 : decode cX1_remove 35 = .ok (.iload_n 1, 1) := by decide +kernel
theorem dX1_remove_36 : decode cX1_remove 36 = .ok (.aload_n 0, 1) := by decide +kernel
theorem dX1_remove_37 : decode cX1_remove 37 = .ok (.getfield 38, 3) := by decide +kernel
theorem dX1_remove_40 : decode cX1_remove 40 = .ok (.iload_n 1, 1) := by decide +kernel
theorem dX1_remove_41 : decode cX1_remove 41 = .ok (.isub, 1) := by decide +kernel
theorem dX1_remove_42 : decode cX1_remove 42 = .ok (.invokestatic 32, 3) := by decide +kernel
theorem dX1_remove_45 : decode cX1_remove 45 = .ok (.aload_n 0, 1) := by decide +kernel
theorem dX1_remove_46 : decode cX1_remove 46 = .ok (.getfield 15, 3) := by decide +kernel
theorem dX1_remove_49 : decode cX1_remove 49 = .ok (.iload_n 1, 1) := by decide +kernel
theorem dX1_remove_50 : decode cX1_remove 50 = .ok (.iconst 1, 1) := by decide +kernel
theorem dX1_remove_51 : decode cX1_remove 51 = .ok (.iadd, 1) := by decide +kernel
theorem dX1_remove_52 : decode cX1_remove 52 = .ok (.aload_n 0, 1) := by decide +kernel
theorem dX1_remove_53 : decode cX1_remove 53 = .ok (.getfield 15, 3) := by decide +kernel
theorem dX1_remove_56 : decode cX1_remove 56 = .ok (.iload_n 1, 1) := by decide +kernel
theorem dX1_remove_57 : decode cX1_remove 57 = .ok (.aload_n 0, 1) := by decide +kernel
theorem dX1_remove_58 : decode cX1_remove 58 = .ok (.getfield 38, 3) := by decide +kernel
theorem dX1_remove_61 : decode cX1_remove 61 = .ok (.iload_n 1, 1) := by decide +kernel
theorem dX1_remove_62 : decode cX1_remove 62 = .ok (.isub, 1) := by decide +kernel
theorem dX1_remove_63 : decode cX1_remove 63 = .ok (.invokestatic 32, 3) := by decide +kernel
theorem dX1_remove_66 : decode cX1_remove 66 = .ok (.aload_n 0, 1) := by decide +kernel
theorem dX1_remove_67 : decode cX1_remove 67 = .ok (.getfield 18, 3) := by decide +kernel
theorem dX1_remove_70 : decode cX1_remove 70 = .ok (.iload_n 1, 1) := by decide +kernel
theorem dX1_remove_71 : decode cX1_remove 71 = .ok (.iconst 1, 1) := by decide +kernel
theorem dX1_remove_72 : decode cX1_remove 72 = .ok (.iadd, 1) := by decide +kernel
theorem dX1_remove_73 : decode cX1_remove 73 = .ok (.aload_n 0, 1) := by decide +kernel
theorem dX1_remove_74 : decode cX1_remove 74 = .ok (.getfield 18, 3) := by decide +kernel
theorem dX1_remove_77 : decode cX1_remove 77 = .ok (.iload_n 1, 1) := by decide +kernel
theorem dX1_remove_78 : decode cX1_remove 78 = .ok (.aload_n 0, 1) := by decide +kernel
theorem dX1_remove_79 : decode cX1_remove 79 = .ok (.getfield 38, 3) := by decide +kernel
theorem dX1_remove_82 : decode cX1_remove 82 = .ok (.iload_n 1, 1) := by decide +kernel
theorem dX1_remove_83 : decode cX1_remove 83 = .ok (.isub, 1) := by decide +kernel
theorem dX1_remove_84 : decode cX1_remove 84 = .ok (.invokestatic 32, 3) := by decide +kernel
theorem dX1_remove_87 : decode cX1_remove 87 = .ok (.return_, 1) := by decide +kernel
set_option maxRecDepth 20000 in
theorem ggX1_setLength_X1_isLine : GoodIn wsX1_setLength wsX1_isLine := goodIn_r _ [6, 7, 25, 26, 27, 28, 29, 30, 31] (by decide +kernel) (by decide +kernel)
set_option maxRecDepth 20000 in
theorem gX1_setLength_X1_isLine : GoodIn wsX1_setLength (wsV RX1 41 RX1 yX1_isLine wsX1_isLine) := goodIn_app (goodIn_of _ (by decide +kernel)) ggX1_setLength_X1_isLine
set_option maxRecDepth 20000 in
theorem ggX1_setLength_X1_forget : GoodIn wsX1_setLength wsX1_forget := goodIn_r _ [11, 12, 13, 14, 1, 15, 2, 3, 4, 5, 6, 7, 16, 17, 18, 19, 20, 21, 22, 23, 24, 25, 26, 27, 28, 29, 30, 31] (by decide +kernel) (by decide +kernel)
set_option maxRecDepth 20000 in
theorem gX1_setLength_X1_forget : GoodIn wsX1_setLength (wsV RX1 45 RX1 yX1_forget wsX1_forget) := goodIn_app (goodIn_of _ (by decide +kernel)) ggX1_setLength_X1_forget
theorem dX1_setLength_0 : decode cX1_setLength 0 = .ok (.aload_n 0, 1) := by decide +kernel
theorem dX1_setLength_1 : decode cX1_setLength 1 = .ok (.iload_n 1, 1) := by decide +kernel
theorem dX1_setLength_2 : decode cX1_setLength 2 = .ok (.invokevirtual 41, 3) := by decide +kernel
theorem dX1_setLength_5 : decode cX1_setLength 5 = .ok (.ifCond .ne 4, 3) := by decide +kernel
theorem dX1_setLength_8 : decode cX1_setLength 8 = .ok (.return_, 1) := by decide +kernel
theorem dX1_setLength_9 : decode cX1_setLength 9 = .ok (.aload_n 0, 1) := by decide +kernel
theorem dX1_setLength_10 : decode cX1_setLength 10 = .ok (.iload_n 1, 1) := by decide +kernel
theorem dX1_setLength_11 : decode cX1_setLength 11 = .ok (.invokevirtual 45, 3) := by decide +kernel
theorem dX1_setLength_14 : decode cX1_setLength 14 = .ok (.aload_n 0, 1) := by decide +kernel
theorem dX1_setLength_15 : decode cX1_setLength 15 = .ok (.getfield 15, 3) := by decide +kernel
theorem dX1_setLength_18 : decode cX1_setLength 18 = .ok (.iload_n 1, 1) := by decide +kernel
theorem dX1_setLength_19 : decode cX1_setLength 19 = .ok (.iload_n 2, 1) := by decide +kernel
theorem dX1_setLength_20 : decode cX1_setLength 20 = .ok (.iastore, 1) := by decide +kernel
theorem dX1_setLength_21 : decode cX1_setLength 21 = .ok (.return_, 1) := by decide +kernel
set_option maxRecDepth 20000 in
theorem ggX1_forgetAllFor_X1_forget : GoodIn wsX1_forgetAllFor wsX1_forget := goodIn_r _ [7, 8, 9, 10, 11, 12, 13, 14, 15, 6, 16, 1, 17, 18, 19, 20, 21, 22, 23, 24, 2, 25, 26, 27, 28, 29, 30, 31] (by decide +kernel) (by decide +kernel)
set_option maxRecDepth 20000 in
theorem gX1_forgetAllFor_X1_forget : GoodIn wsX1_forgetAllFor (wsV RX1 45 RX1 yX1_forget wsX1_forget) := goodIn_app (goodIn_of _ (by decide +kernel)) ggX1_forgetAllFor_X1_forget
theorem dX1_forgetAllFor_0 : decode cX1_forgetAllFor 0 = .ok (.iconst 0, 1) := by decide +kernel
theorem dX1_forgetAllFor_1 : decode cX1_forgetAllFor 1 = .ok (.istore_n 2, 1) := by decide +kernel
theorem dX1_forgetAllFor_2 : decode cX1_forgetAllFor 2 = .ok (.iload_n 2, 1) := by decide +kernel
theorem dX1_forgetAllFor_3 : decode cX1_forgetAllFor 3 = .ok (.aload_n 0, 1) := by decide +kernel
theorem dX1_forgetAllFor_4 : decode cX1_forgetAllFor 4 = .ok (.getfield 38, 3) := by decide +kernel
theorem dX1_forgetAllFor_7 : decode cX1_forgetAllFor 7 = .ok (.if_icmp .ge 14, 3) := by decide +kernel
theorem dX1_forgetAllFor_10 : decode cX1_forgetAllFor 10 = .ok (.aload_n 0, 1) := by decide +kernel
theorem dX1_forgetAllFor_11 : decode cX1_forgetAllFor 11 = .ok (.iload_n 2, 1) := by decide +kernel
theorem dX1_forgetAllFor_12 : decode cX1_forgetAllFor 12 = .ok (.invokevirtual 45, 3) := by decide +kernel
theorem dX1_forgetAllFor_15 : decode cX1_forgetAllFor 15 = .ok (.iinc 2 1, 3) := by decide +kernel
theorem dX1_forgetAllFor_18 : decode cX1_forgetAllFor 18 = .ok (.goto (-16), 3) := by decide +kernel
theorem dX1_forgetAllFor_21 : decode cX1_forgetAllFor 21 = .ok (.aload_n 0, 1) := by decide +kernel
theorem dX1_forgetAllFor_22 : decode cX1_forgetAllFor 22 = .ok (.iload_n 1, 1) := by decide +kernel
theorem dX1_forgetAllFor_23 : decode cX1_forgetAllFor 23 = .ok (.putfield 28, 3) := by decide +kernel
theorem dX1_forgetAllFor_26 : decode cX1_forgetAllFor 26 = .ok (.return_, 1) := by decide +kernel
set_option maxRecDepth 20000 in
theorem ggX1_measure_X1_isLine : GoodIn wsX1_measure wsX1_isLine := goodIn_r _ [10, 11, 21, 22, 23, 24, 25, 26, 27] (by decide +kernel) (by decide +kernel)
set_option maxRecDepth 20000 in
theorem gX1_measure_X1_isLine : GoodIn wsX1_measure (wsV RX1 41 RX1 yX1_isLine wsX1_isLine) := goodIn_app (goodIn_of _ (by decide +kernel)) ggX1_measure_X1_isLine
set_option maxRecDepth 20000 in
theorem ggX1_measure_X1_isKind : GoodIn wsX1_measure wsX1_isKind := goodIn_r _ [15] (by decide +kernel) (by decide +kernel)
set_option maxRecDepth 20000 in
theorem gX1_measure_X1_isKind : GoodIn wsX1_measure (wsV RX1 49 RX1 yX1_isKind wsX1_isKind) := goodIn_app (goodIn_of _ (by decide +kernel)) ggX1_measure_X1_isKind
set_option maxRecDepth 20000 in
theorem ggX1_measure_X1_trueHeight : GoodIn wsX1_measure wsX1_trueHeight := goodIn_r _ [19, 20, 21, 22, 23, 24, 25, 26, 27] (by decide +kernel) (by decide +kernel)
set_option maxRecDepth 20000 in
theorem gX1_measure_X1_trueHeight : GoodIn wsX1_measure (wsV RX1 52 RX1 yX1_trueHeight wsX1_trueHeight) := goodIn_app (goodIn_of _ (by decide +kernel)) ggX1_measure_X1_trueHeight
theorem dX1_measure_0 : decode cX1_measure 0 = .ok (.aload_n 0, 1) := by decide +kernel
theorem dX1_measure_1 : decode cX1_measure 1 = .ok (.iload_n 1, 1) := by decide +kernel
theorem dX1_measure_2 : decode cX1_measure 2 = .ok (.invokevirtual 41, 3) := by decide +kernel
theorem dX1_measure_5 : decode cX1_measure 5 = .ok (.ifCond .eq 25, 3) := by decide +kernel
theorem dX1_measure_8 : decode cX1_measure 8 = .ok (.aload_n 0, 1) := by decide +kernel
theorem dX1_measure_9 : decode cX1_measure 9 = .ok (.getfield 18, 3) := by decide +kernel
theorem dX1_measure_12 : decode cX1_measure 12 = .ok (.iload_n 1, 1) := by decide +kernel
theorem dX1_measure_13 : decode cX1_measure 13 = .ok (.baload, 1) := by decide +kernel
theorem dX1_measure_14 : decode cX1_measure 14 = .ok (.ifCond .ne 16, 3) := by decide +kernel
theorem dX1_measure_17 : decode cX1_measure 17 = .ok (.aload_n 0, 1) := by decide +kernel
theorem dX1_measure_18 : decode cX1_measure 18 = .ok (.aload_n 0, 1) := by decide +kernel
theorem dX1_measure_19 : decode cX1_measure 19 = .ok (.getfield 9, 3) := by decide +kernel
theorem dX1_measure_22 : decode cX1_measure 22 = .ok (.iload_n 1, 1) := by decide +kernel
theorem dX1_measure_23 : decode cX1_measure 23 = .ok (.iaload, 1) := by decide +kernel
theorem dX1_measure_24 : decode cX1_measure 24 = .ok (.invokevirtual 49, 3) := by decide +kernel
theorem dX1_measure_27 : decode cX1_measure 27 = .ok (.ifCond .ne 4, 3) := by decide +kernel
theorem dX1_measure_30 : decode cX1_measure 30 = .ok (.return_, 1) := by decide +kernel
theorem dX1_measure_31 : decode cX1_measure 31 = .ok (.aload_n 0, 1) := by decide +kernel
theorem dX1_measure_32 : decode cX1_measure 32 = .ok (.getfield 18, 3) := by decide +kernel
theorem dX1_measure_35 : decode cX1_measure 35 = .ok (.iload_n 1, 1) := by decide +kernel
theorem dX1_measure_36 : decode cX1_measure 36 = .ok (.iconst 1, 1) := by decide +kernel
theorem dX1_measure_37 : decode cX1_measure 37 = .ok (.bastore, 1) := by decide +kernel
theorem dX1_measure_38 : decode cX1_measure 38 = .ok (.aload_n 0, 1) := by decide +kernel
theorem dX1_measure_39 : decode cX1_measure 39 = .ok (.getfield 22, 3) := by decide +kernel
theorem dX1_measure_42 : decode cX1_measure 42 = .ok (.aload_n 0, 1) := by decide +kernel
theorem dX1_measure_43 : decode cX1_measure 43 = .ok (.getfield 9, 3) := by decide +kernel
theorem dX1_measure_46 : decode cX1_measure 46 = .ok (.iload_n 1, 1) := by decide +kernel
theorem dX1_measure_47 : decode cX1_measure 47 = .ok (.iaload, 1) := by decide +kernel
theorem dX1_measure_48 : decode cX1_measure 48 = .ok (.dup2, 1) := by decide +kernel
theorem dX1_measure_49 : decode cX1_measure 49 = .ok (.iaload, 1) := by decide +kernel
theorem dX1_measure_50 : decode cX1_measure 50 = .ok (.aload_n 0, 1) := by decide +kernel
theorem dX1_measure_51 : decode cX1_measure 51 = .ok (.aload_n 0, 1) := by decide +kernel
theorem dX1_measure_52 : decode cX1_measure 52 = .ok (.getfield 9, 3) := by decide +kernel
theorem dX1_measure_55 : decode cX1_measure 55 = .ok (.iload_n 1, 1) := by decide +kernel
theorem dX1_measure_56 : decode cX1_measure 56 = .ok (.iaload, 1) := by decide +kernel
theorem dX1_measure_57 : decode cX1_measure 57 = .ok (.aload_n 0, 1) := by decide +kernel
theorem dX1_measure_58 : decode cX1_measure 58 = .ok (.getfield 15, 3) := by decide +kernel
theorem dX1_measure_61 : decode cX1_measure 61 = .ok (.iload_n 1, 1) := by decide +kernel
theorem dX1_measure_62 : decode cX1_measure 62 = .ok (.iaload, 1) := by decide +kernel
theorem dX1_measure_63 : decode cX1_measure 63 = .ok (.invokevirtual 52, 3) := by decide +kernel
theorem dX1_measure_66 : decode cX1_measure 66 = .ok (.iadd, 1) := by decide +kernel
theorem dX1_measure_67 : decode cX1_measure 67 = .ok (.iastore, 1) := by decide +kernel
theorem dX1_measure_68 : decode cX1_measure 68 = .ok (.aload_n 0, 1) := by decide +kernel
theorem dX1_measure_69 : decode cX1_measure 69 = .ok (.getfield 25, 3) := by decide +kernel
theorem dX1_measure_72 : decode cX1_measure 72 = .ok (.aload_n 0, 1) := by decide +kernel
theorem dX1_measure_73 : decode cX1_measure 73 = .ok (.getfield 9, 3) := by decide +kernel
theorem dX1_measure_76 : decode cX1_measure 76 = .ok (.iload_n 1, 1) := by decide +kernel
theorem dX1_measure_77 : decode cX1_measure 77 = .ok (.iaload, 1) := by decide +kernel
theorem dX1_measure_78 : decode cX1_measure 78 = .ok (.dup2, 1) := by decide +kernel
theorem dX1_measure_79 : decode cX1_measure 79 = .ok (.iaload, 1) := by decide +kernel
theorem dX1_measure_80 : decode cX1_measure 80 = .ok (.iconst 1, 1) := by decide +kernel
theorem dX1_measure_81 : decode cX1_measure 81 = .ok (.iadd, 1) := by decide +kernel
theorem dX1_measure_82 : decode cX1_measure 82 = .ok (.iastore, 1) := by decide +kernel
theorem dX1_measure_83 : decode cX1_measure 83 = .ok (.return_, 1) := by decide +kernel
set_option maxRecDepth 20000 in
theorem ggX1_forget_X1_isLine : GoodIn wsX1_forget wsX1_isLine := goodIn_r _ [10, 11, 21, 22, 23, 24, 25, 26, 27] (by decide +kernel) (by decide +kernel)
set_option maxRecDepth 20000 in
theorem gX1_forget_X1_isLine : GoodIn wsX1_forget (wsV RX1 41 RX1 yX1_isLine wsX1_isLine) := goodIn_app (goodIn_of _ (by decide +kernel)) ggX1_forget_X1_isLine
set_option maxRecDepth 20000 in
theorem ggX1_forget_X1_isKind : GoodIn wsX1_forget wsX1_isKind := goodIn_r _ [15] (by decide +kernel) (by decide +kernel)
set_option maxRecDepth 20000 in
theorem gX1_forget_X1_isKind : GoodIn wsX1_forget (wsV RX1 49 RX1 yX1_isKind wsX1_isKind) := goodIn_app (goodIn_of _ (by decide +kernel)) ggX1_forget_X1_isKind
set_option maxRecDepth 20000 in
theorem ggX1_forget_X1_trueHeight : GoodIn wsX1_forget wsX1_trueHeight := goodIn_r _ [19, 20, 21, 22, 23, 24, 25, 26, 27] (by decide +kernel) (by decide +kernel)
set_option maxRecDepth 20000 in
theorem gX1_forget_X1_trueHeight : GoodIn wsX1_forget (wsV RX1 52 RX1 yX1_trueHeight wsX1_trueHeight) := goodIn_app (goodIn_of _ (by decide +kernel)) ggX1_forget_X1_trueHeight
theorem dX1_forget_0 : decode cX1_forget 0 = .ok (.aload_n 0, 1) := by decide +kernel
theorem dX1_forget_1 : decode cX1_forget 1 = .ok (.iload_n 1, 1) := by decide +kernel
theorem dX1_forget_2 : decode cX1_forget 2 = .ok (.invokevirtual 41, 3) := by decide +kernel
theorem dX1_forget_5 : decode cX1_forget 5 = .ok (.ifCond .eq 25, 3) := by decide +kernel
theorem dX1_forget_8 : decode cX1_forget 8 = .ok (.aload_n 0, 1) := by decide +kernel
theorem dX1_forget_9 : decode cX1_forget 9 = .ok (.getfield 18, 3) := by decide +kernel
theorem dX1_forget_12 : decode cX1_forget 12 = .ok (.iload_n 1, 1) := by decide +kernel
theorem dX1_forget_13 : decode cX1_forget 13 = .ok (.baload, 1) := by decide +kernel
theorem dX1_forget_14 : decode cX1_forget 14 = .ok (.ifCond .eq 16, 3) := by decide +kernel
theorem dX1_forget_17 : decode cX1_forget 17 = .ok (.aload_n 0, 1) := by decide +kernel
theorem dX1_forget_18 : decode cX1_forget 18 = .ok (.aload_n 0, 1) := by decide +kernel
theorem dX1_forget_19 : decode cX1_forget 19 = .ok (.getfield 9, 3) := by decide +kernel
theorem dX1_forget_22 : decode cX1_forget 22 = .ok (.iload_n 1, 1) := by decide +kernel
theorem dX1_forget_23 : decode cX1_forget 23 = .ok (.iaload, 1) := by decide +kernel
theorem dX1_forget_24 : decode cX1_forget 24 = .ok (.invokevirtual 49, 3) := by decide +kernel
theorem dX1_forget_27 : decode cX1_forget 27 = .ok (.ifCond .ne 4, 3) := by decide +kernel
theorem dX1_forget_30 : decode cX1_forget 30 = .ok (.return_, 1) := by decide +kernel
theorem dX1_forget_31 : decode cX1_forget 31 = .ok (.aload_n 0, 1) := by decide +kernel
theorem dX1_forget_32 : decode cX1_forget 32 = .ok (.getfield 18, 3) := by decide +kernel
theorem dX1_forget_35 : decode cX1_forget 35 = .ok (.iload_n 1, 1) := by decide +kernel
theorem dX1_forget_36 : decode cX1_forget 36 = .ok (.iconst 0, 1) := by decide +kernel
theorem dX1_forget_37 : decode cX1_forget 37 = .ok (.bastore, 1) := by decide +kernel
theorem dX1_forget_38 : decode cX1_forget 38 = .ok (.aload_n 0, 1) := by decide +kernel
theorem dX1_forget_39 : decode cX1_forget 39 = .ok (.getfield 22, 3) := by decide +kernel
theorem dX1_forget_42 : decode cX1_forget 42 = .ok (.aload_n 0, 1) := by decide +kernel
theorem dX1_forget_43 : decode cX1_forget 43 = .ok (.getfield 9, 3) := by decide +kernel
theorem dX1_forget_46 : decode cX1_forget 46 = .ok (.iload_n 1, 1) := by decide +kernel
theorem dX1_forget_47 : decode cX1_forget 47 = .ok (.iaload, 1) := by decide +kernel
theorem dX1_forget_48 : decode cX1_forget 48 = .ok (.dup2, 1) := by decide +kernel
theorem dX1_forget_49 : decode cX1_forget 49 = .ok (.iaload, 1) := by decide +kernel
theorem dX1_forget_50 : decode cX1_forget 50 = .ok (.aload_n 0, 1) := by decide +kernel
theorem dX1_forget_51 : decode cX1_forget 51 = .ok (.aload_n 0, 1) := by decide +kernel
theorem dX1_forget_52 : decode cX1_forget 52 = .ok (.getfield 9, 3) := by decide +kernel
theorem dX1_forget_55 : decode cX1_forget 55 = .ok (.iload_n 1, 1) := by decide +kernel
theorem dX1_forget_56 : decode cX1_forget 56 = .ok (.iaload, 1) := by decide +kernel
theorem dX1_forget_57 : decode cX1_forget 57 = .ok (.aload_n 0, 1) := by decide +kernel
theorem dX1_forget_58 : decode cX1_forget 58 = .ok (.getfield 15, 3) := by decide +kernel
theorem dX1_forget_61 : decode cX1_forget 61 = .ok (.iload_n 1, 1) := by decide +kernel
theorem dX1_forget_62 : decode cX1_forget 62 = .ok (.iaload, 1) := by decide +kernel
theorem dX1_forget_63 : decode cX1_forget 63 = .ok (.invokevirtual 52, 3) := by decide +kernel
theorem dX1_forget_66 : decode cX1_forget 66 = .ok (.isub, 1) := by decide +kernel
theorem dX1_forget_67 : decode cX1_forget 67 = .ok (.iastore, 1) := by decide +kernel
theorem dX1_forget_68 : decode cX1_forget 68 = .ok (.aload_n 0, 1) := by decide +kernel
theorem dX1_forget_69 : decode cX1_forget 69 = .ok (.getfield 25, 3) := by decide +kernel
theorem dX1_forget_72 : decode cX1_forget 72 = .ok (.aload_n 0, 1) := by decide +kernel
theorem dX1_forget_73 : decode cX1_forget 73 = .ok (.getfield 9, 3) := by decide +kernel
theorem dX1_forget_76 : decode cX1_forget 76 = .ok (.iload_n 1, 1) := by decide +kernel
theorem dX1_forget_77 : decode cX1_forget 77 = .ok (.iaload, 1) := by decide +kernel
theorem dX1_forget_78 : decode cX1_forget 78 = .ok (.dup2, 1) := by decide +kernel
theorem dX1_forget_79 : decode cX1_forget 79 = .ok (.iaload, 1) := by decide +kernel
theorem dX1_forget_80 : decode cX1_forget 80 = .ok (.iconst 1, 1) := by decide +kernel
theorem dX1_forget_81 : decode cX1_forget 81 = .ok (.isub, 1) := by decide +kernel
theorem dX1_forget_82 : decode cX1_forget 82 = .ok (.iastore, 1) := by decide +kernel
theorem dX1_forget_83 : decode cX1_forget 83 = .ok (.return_, 1) := by decide +kernel
theorem dX1_measuredLines_0 : decode cX1_measuredLines 0 = .ok (.iconst 0, 1) := by decide +kernel
theorem dX1_measuredLines_1 : decode cX1_measuredLines 1 = .ok (.istore_n 1, 1) := by decide +kernel
theorem dX1_measuredLines_2 : decode cX1_measuredLines 2 = .ok (.iconst 0, 1) := by decide +kernel
theorem dX1_measuredLines_3 : decode cX1_measuredLines 3 = .ok (.istore_n 2, 1) := by decide +kernel
theorem dX1_measuredLines_4 : decode cX1_measuredLines 4 = .ok (.iload_n 2, 1) := by decide +kernel
theorem dX1_measuredLines_5 : decode cX1_measuredLines 5 = .ok (.iconst 3, 1) := by decide +kernel
theorem dX1_measuredLines_6 : decode cX1_measuredLines 6 = .ok (.if_icmp .ge 18, 3) := by decide +kernel
theorem dX1_measuredLines_9 : decode cX1_measuredLines 9 = .ok (.iload_n 1, 1) := by decide +kernel
theorem dX1_measuredLines_10 : decode cX1_measuredLines 10 = .ok (.aload_n 0, 1) := by decide +kernel
theorem dX1_measuredLines_11 : decode cX1_measuredLines 11 = .ok (.getfield 25, 3) := by decide +kernel
theorem dX1_measuredLines_14 : decode cX1_measuredLines 14 = .ok (.iload_n 2, 1) := by decide +kernel
theorem dX1_measuredLines_15 : decode cX1_measuredLines 15 = .ok (.iaload, 1) := by decide +kernel
theorem dX1_measuredLines_16 : decode cX1_measuredLines 16 = .ok (.iadd, 1) := by decide +kernel
theorem dX1_measuredLines_17 : decode cX1_measuredLines 17 = .ok (.istore_n 1, 1) := by decide +kernel
theorem dX1_measuredLines_18 : decode cX1_measuredLines 18 = .ok (.iinc 2 1, 3) := by decide +kernel
theorem dX1_measuredLines_21 : decode cX1_measuredLines 21 = .ok (.goto (-17), 3) := by decide +kernel
theorem dX1_measuredLines_24 : decode cX1_measuredLines 24 = .ok (.iload_n 1, 1) := by decide +kernel
theorem dX1_measuredLines_25 : decode cX1_measuredLines 25 = .ok (.ireturn, 1) := by decide +kernel
set_option maxRecDepth 20000 in
theorem ggX1_trueHeightOf_X1_isLine : GoodIn wsX1_trueHeightOf wsX1_isLine := goodIn_r _ [7, 8, 14, 15, 16, 17, 18, 19, 20] (by decide +kernel) (by decide +kernel)
set_option maxRecDepth 20000 in
theorem gX1_trueHeightOf_X1_isLine : GoodIn wsX1_trueHeightOf (wsV RX1 41 RX1 yX1_isLine wsX1_isLine) := goodIn_app (goodIn_of _ (by decide +kernel)) ggX1_trueHeightOf_X1_isLine
set_option maxRecDepth 20000 in
theorem ggX1_trueHeightOf_X1_trueHeight : GoodIn wsX1_trueHeightOf wsX1_trueHeight := goodIn_r _ [12, 13, 14, 15, 16, 17, 18, 19, 20] (by decide +kernel) (by decide +kernel)
set_option maxRecDepth 20000 in
theorem gX1_trueHeightOf_X1_trueHeight : GoodIn wsX1_trueHeightOf (wsV RX1 52 RX1 yX1_trueHeight wsX1_trueHeight) := goodIn_app (goodIn_of _ (by decide +kernel)) ggX1_trueHeightOf_X1_trueHeight
theorem dX1_trueHeightOf_0 : decode cX1_trueHeightOf 0 = .ok (.aload_n 0, 1) := by decide +kernel
theorem dX1_trueHeightOf_1 : decode cX1_trueHeightOf 1 = .ok (.iload_n 1, 1) := by decide +kernel
theorem dX1_trueHeightOf_2 : decode cX1_trueHeightOf 2 = .ok (.invokevirtual 41, 3) := by decide +kernel
theorem dX1_trueHeightOf_5 : decode cX1_trueHeightOf 5 = .ok (.ifCond .eq 22, 3) := by decide +kernel
theorem dX1_trueHeightOf_8 : decode cX1_trueHeightOf 8 = .ok (.aload_n 0, 1) := by decide +kernel
theorem dX1_trueHeightOf_9 : decode cX1_trueHeightOf 9 = .ok (.aload_n 0, 1) := by decide +kernel
theorem dX1_trueHeightOf_10 : decode cX1_trueHeightOf 10 = .ok (.getfield 9, 3) := by decide +kernel
theorem dX1_trueHeightOf_13 : decode cX1_trueHeightOf 13 = .ok (.iload_n 1, 1) := by decide +kernel
theorem dX1_trueHeightOf_14 : decode cX1_trueHeightOf 14 = .ok (.iaload, 1) := by decide +kernel
theorem dX1_trueHeightOf_15 : decode cX1_trueHeightOf 15 = .ok (.aload_n 0, 1) := by decide +kernel
theorem dX1_trueHeightOf_16 : decode cX1_trueHeightOf 16 = .ok (.getfield 15, 3) := by decide +kernel
theorem dX1_trueHeightOf_19 : decode cX1_trueHeightOf 19 = .ok (.iload_n 1, 1) := by decide +kernel
theorem dX1_trueHeightOf_20 : decode cX1_trueHeightOf 20 = .ok (.iaload, 1) := by decide +kernel
theorem dX1_trueHeightOf_21 : decode cX1_trueHeightOf 21 = .ok (.invokevirtual 52, 3) := by decide +kernel
theorem dX1_trueHeightOf_24 : decode cX1_trueHeightOf 24 = .ok (.goto 4, 3) := by decide +kernel
theorem dX1_trueHeightOf_27 : decode cX1_trueHeightOf 27 = .ok (.iconst 0, 1) := by decide +kernel
theorem dX1_trueHeightOf_28 : decode cX1_trueHeightOf 28 = .ok (.ireturn, 1) := by decide +kernel
theorem dX1_trueHeight_0 : decode cX1_trueHeight 0 = .ok (.iload_n 2, 1) := by decide +kernel
theorem dX1_trueHeight_1 : decode cX1_trueHeight 1 = .ok (.ifCond .le 26, 3) := by decide +kernel
theorem dX1_trueHeight_4 : decode cX1_trueHeight 4 = .ok (.aload_n 0, 1) := by decide +kernel
theorem dX1_trueHeight_5 : decode cX1_trueHeight 5 = .ok (.getfield 28, 3) := by decide +kernel
theorem dX1_trueHeight_8 : decode cX1_trueHeight 8 = .ok (.ifCond .le 19, 3) := by decide +kernel
theorem dX1_trueHeight_11 : decode cX1_trueHeight 11 = .ok (.iload_n 2, 1) := by decide +kernel
theorem dX1_trueHeight_12 : decode cX1_trueHeight 12 = .ok (.aload_n 0, 1) := by decide +kernel
theorem dX1_trueHeight_13 : decode cX1_trueHeight 13 = .ok (.getfield 28, 3) := by decide +kernel
theorem dX1_trueHeight_16 : decode cX1_trueHeight 16 = .ok (.iadd, 1) := by decide +kernel
theorem dX1_trueHeight_17 : decode cX1_trueHeight 17 = .ok (.iconst 1, 1) := by decide +kernel
theorem dX1_trueHeight_18 : decode cX1_trueHeight 18 = .ok (.isub, 1) := by decide +kernel
theorem dX1_trueHeight_19 : decode cX1_trueHeight 19 = .ok (.aload_n 0, 1) := by decide +kernel
theorem dX1_trueHeight_20 : decode cX1_trueHeight 20 = .ok (.getfield 28, 3) := by decide +kernel
theorem dX1_trueHeight_23 : decode cX1_trueHeight 23 = .ok (.idiv, 1) := by decide +kernel
theorem dX1_trueHeight_24 : decode cX1_trueHeight 24 = .ok (.goto 4, 3) := by decide +kernel
theorem dX1_trueHeight_27 : decode cX1_trueHeight 27 = .ok (.iconst 1, 1) := by decide +kernel
theorem dX1_trueHeight_28 : decode cX1_trueHeight 28 = .ok (.istore_n 3, 1) := by decide +kernel
theorem dX1_trueHeight_29 : decode cX1_trueHeight 29 = .ok (.iload_n 1, 1) := by decide +kernel
theorem dX1_trueHeight_30 : decode cX1_trueHeight 30 = .ok (.lookupswitch 41 #[(0, 26), (1, 33)], 26) := by decide +kernel
theorem dX1_trueHeight_56 : decode cX1_trueHeight 56 = .ok (.bipush 12, 2) := by decide +kernel
theorem dX1_trueHeight_58 : decode cX1_trueHeight 58 = .ok (.iload_n 3, 1) := by decide +kernel
theorem dX1_trueHeight_59 : decode cX1_trueHeight 59 = .ok (.imul, 1) := by decide +kernel
theorem dX1_trueHeight_60 : decode cX1_trueHeight 60 = .ok (.iconst 4, 1) := by decide +kernel
theorem dX1_trueHeight_61 : decode cX1_trueHeight 61 = .ok (.iadd, 1) := by decide +kernel
theorem dX1_trueHeight_62 : decode cX1_trueHeight 62 = .ok (.ireturn, 1) := by decide +kernel
theorem dX1_trueHeight_63 : decode cX1_trueHeight 63 = .ok (.bipush 18, 2) := by decide +kernel
theorem dX1_trueHeight_65 : decode cX1_trueHeight 65 = .ok (.iload_n 3, 1) := by decide +kernel
theorem dX1_trueHeight_66 : decode cX1_trueHeight 66 = .ok (.imul, 1) := by decide +kernel
theorem dX1_trueHeight_67 : decode cX1_trueHeight 67 = .ok (.bipush 10, 2) := by decide +kernel
theorem dX1_trueHeight_69 : decode cX1_trueHeight 69 = .ok (.iadd, 1) := by decide +kernel
theorem dX1_trueHeight_70 : decode cX1_trueHeight 70 = .ok (.ireturn, 1) := by decide +kernel
theorem dX1_trueHeight_71 : decode cX1_trueHeight 71 = .ok (.iload_n 2, 1) := by decide +kernel
theorem dX1_trueHeight_72 : decode cX1_trueHeight 72 = .ok (.bipush 6, 2) := by decide +kernel
theorem dX1_trueHeight_74 : decode cX1_trueHeight 74 = .ok (.iadd, 1) := by decide +kernel
theorem dX1_trueHeight_75 : decode cX1_trueHeight 75 = .ok (.ireturn, 1) := by decide +kernel
theorem dX1_guess_0 : decode cX1_guess 0 = .ok (.iload_n 1, 1) := by decide +kernel
theorem dX1_guess_1 : decode cX1_guess 1 = .ok (.ifCond .lt 17, 3) := by decide +kernel
theorem dX1_guess_4 : decode cX1_guess 4 = .ok (.iload_n 1, 1) := by decide +kernel
theorem dX1_guess_5 : decode cX1_guess 5 = .ok (.iconst 3, 1) := by decide +kernel
theorem dX1_guess_6 : decode cX1_guess 6 = .ok (.if_icmp .ge 12, 3) := by decide +kernel
theorem dX1_guess_9 : decode cX1_guess 9 = .ok (.aload_n 0, 1) := by decide +kernel
theorem dX1_guess_10 : decode cX1_guess 10 = .ok (.getfield 25, 3) := by decide +kernel
theorem dX1_guess_13 : decode cX1_guess 13 = .ok (.iload_n 1, 1) := by decide +kernel
theorem dX1_guess_14 : decode cX1_guess 14 = .ok (.iaload, 1) := by decide +kernel
theorem dX1_guess_15 : decode cX1_guess 15 = .ok (.ifCond .gt 6, 3) := by decide +kernel
theorem dX1_guess_18 : decode cX1_guess 18 = .ok (.bipush 20, 2) := by decide +kernel
theorem dX1_guess_20 : decode cX1_guess 20 = .ok (.ireturn, 1) := by decide +kernel
theorem dX1_guess_21 : decode cX1_guess 21 = .ok (.aload_n 0, 1) := by decide +kernel
theorem dX1_guess_22 : decode cX1_guess 22 = .ok (.getfield 22, 3) := by decide +kernel
theorem dX1_guess_25 : decode cX1_guess 25 = .ok (.iload_n 1, 1) := by decide +kernel
theorem dX1_guess_26 : decode cX1_guess 26 = .ok (.iaload, 1) := by decide +kernel
theorem dX1_guess_27 : decode cX1_guess 27 = .ok (.aload_n 0, 1) := by decide +kernel
theorem dX1_guess_28 : decode cX1_guess 28 = .ok (.getfield 25, 3) := by decide +kernel
theorem dX1_guess_31 : decode cX1_guess 31 = .ok (.iload_n 1, 1) := by decide +kernel
theorem dX1_guess_32 : decode cX1_guess 32 = .ok (.iaload, 1) := by decide +kernel
theorem dX1_guess_33 : decode cX1_guess 33 = .ok (.idiv, 1) := by decide +kernel
theorem dX1_guess_34 : decode cX1_guess 34 = .ok (.ireturn, 1) := by decide +kernel
set_option maxRecDepth 20000 in
theorem ggX1_heightOf_X1_isLine : GoodIn wsX1_heightOf wsX1_isLine := goodIn_r _ [8, 9, 21, 22, 23, 24, 25, 26, 27] (by decide +kernel) (by decide +kernel)
set_option maxRecDepth 20000 in
theorem gX1_heightOf_X1_isLine : GoodIn wsX1_heightOf (wsV RX1 41 RX1 yX1_isLine wsX1_isLine) := goodIn_app (goodIn_of _ (by decide +kernel)) ggX1_heightOf_X1_isLine
set_option maxRecDepth 20000 in
theorem ggX1_heightOf_X1_trueHeight : GoodIn wsX1_heightOf wsX1_trueHeight := goodIn_r _ [13, 14, 21, 22, 23, 24, 25, 26, 27] (by decide +kernel) (by decide +kernel)
set_option maxRecDepth 20000 in
theorem gX1_heightOf_X1_trueHeight : GoodIn wsX1_heightOf (wsV RX1 52 RX1 yX1_trueHeight wsX1_trueHeight) := goodIn_app (goodIn_of _ (by decide +kernel)) ggX1_heightOf_X1_trueHeight
set_option maxRecDepth 20000 in
theorem ggX1_heightOf_X1_guess : GoodIn wsX1_heightOf wsX1_guess := goodIn_r _ [18, 19, 20, 21, 22, 23, 24, 25, 26, 27] (by decide +kernel) (by decide +kernel)
set_option maxRecDepth 20000 in
theorem gX1_heightOf_X1_guess : GoodIn wsX1_heightOf (wsV RX1 56 RX1 yX1_guess wsX1_guess) := goodIn_app (goodIn_of _ (by decide +kernel)) ggX1_heightOf_X1_guess
theorem dX1_heightOf_0 : decode cX1_heightOf 0 = .ok (.aload_n 0, 1) := by decide +kernel
theorem dX1_heightOf_1 : decode cX1_heightOf 1 = .ok (.iload_n 1, 1) := by decide +kernel
theorem dX1_heightOf_2 : decode cX1_heightOf 2 = .ok (.invokevirtual 41, 3) := by decide +kernel
theorem dX1_heightOf_5 : decode cX1_heightOf 5 = .ok (.ifCond .ne 5, 3) := by decide +kernel
theorem dX1_heightOf_8 : decode cX1_heightOf 8 = .ok (.iconst 0, 1) := by decide +kernel
theorem dX1_heightOf_9 : decode cX1_heightOf 9 = .ok (.ireturn, 1) := by decide +kernel
theorem dX1_heightOf_10 : decode cX1_heightOf 10 = .ok (.aload_n 0, 1) := by decide +kernel
theorem dX1_heightOf_11 : decode cX1_heightOf 11 = .ok (.getfield 18, 3) := by decide +kernel
theorem dX1_heightOf_14 : decode cX1_heightOf 14 = .ok (.iload_n 1, 1) := by decide +kernel
theorem dX1_heightOf_15 : decode cX1_heightOf 15 = .ok (.baload, 1) := by decide +kernel
theorem dX1_heightOf_16 : decode cX1_heightOf 16 = .ok (.ifCond .eq 22, 3) := by decide +kernel
theorem dX1_heightOf_19 : decode cX1_heightOf 19 = .ok (.aload_n 0, 1) := by decide +kernel
theorem dX1_heightOf_20 : decode cX1_heightOf 20 = .ok (.aload_n 0, 1) := by decide +kernel
theorem dX1_heightOf_21 : decode cX1_heightOf 21 = .ok (.getfield 9, 3) := by decide +kernel
theorem dX1_heightOf_24 : decode cX1_heightOf 24 = .ok (.iload_n 1, 1) := by decide +kernel
theorem dX1_heightOf_25 : decode cX1_heightOf 25 = .ok (.iaload, 1) := by decide +kernel
theorem dX1_heightOf_26 : decode cX1_heightOf 26 = .ok (.aload_n 0, 1) := by decide +kernel
theorem dX1_heightOf_27 : decode cX1_heightOf 27 = .ok (.getfield 15, 3) := by decide +kernel
theorem dX1_heightOf_30 : decode cX1_heightOf 30 = .ok (.iload_n 1, 1) := by decide +kernel
theorem dX1_heightOf_31 : decode cX1_heightOf 31 = .ok (.iaload, 1) := by decide +kernel
theorem dX1_heightOf_32 : decode cX1_heightOf 32 = .ok (.invokevirtual 52, 3) := by decide +kernel
theorem dX1_heightOf_35 : decode cX1_heightOf 35 = .ok (.goto 13, 3) := by decide +kernel
theorem dX1_heightOf_38 : decode cX1_heightOf 38 = .ok (.aload_n 0, 1) := by decide +kernel
theorem dX1_heightOf_39 : decode cX1_heightOf 39 = .ok (.aload_n 0, 1) := by decide +kernel
theorem dX1_heightOf_40 : decode cX1_heightOf 40 = .ok (.getfield 9, 3) := by decide +kernel
theorem dX1_heightOf_43 : decode cX1_heightOf 43 = .ok (.iload_n 1, 1) := by decide +kernel
theorem dX1_heightOf_44 : decode cX1_heightOf 44 = .ok (.iaload, 1) := by decide +kernel
theorem dX1_heightOf_45 : decode cX1_heightOf 45 = .ok (.invokevirtual 56, 3) := by decide +kernel
theorem dX1_heightOf_48 : decode cX1_heightOf 48 = .ok (.ireturn, 1) := by decide +kernel
set_option maxRecDepth 20000 in
theorem ggX1_topOf_X1_heightOf : GoodIn wsX1_topOf wsX1_heightOf := goodIn_r _ [6, 7, 8, 9, 10, 11, 12, 5, 13, 1, 14, 15, 16, 17, 18, 19, 20, 21, 22, 23, 24, 25, 26, 27, 28, 29, 30, 31] (by decide +kernel) (by decide +kernel)
set_option maxRecDepth 20000 in
theorem gX1_topOf_X1_heightOf : GoodIn wsX1_topOf (wsV RX1 60 RX1 yX1_heightOf wsX1_heightOf) := goodIn_app (goodIn_of _ (by decide +kernel)) ggX1_topOf_X1_heightOf
theorem dX1_topOf_0 : decode cX1_topOf 0 = .ok (.iconst 0, 1) := by decide +kernel
theorem dX1_topOf_1 : decode cX1_topOf 1 = .ok (.istore_n 2, 1) := by decide +kernel
theorem dX1_topOf_2 : decode cX1_topOf 2 = .ok (.iconst 0, 1) := by decide +kernel
theorem dX1_topOf_3 : decode cX1_topOf 3 = .ok (.istore_n 3, 1) := by decide +kernel
theorem dX1_topOf_4 : decode cX1_topOf 4 = .ok (.iload_n 3, 1) := by decide +kernel
theorem dX1_topOf_5 : decode cX1_topOf 5 = .ok (.iload_n 1, 1) := by decide +kernel
theorem dX1_topOf_6 : decode cX1_topOf 6 = .ok (.if_icmp .ge 25, 3) := by decide +kernel
theorem dX1_topOf_9 : decode cX1_topOf 9 = .ok (.iload_n 3, 1) := by decide +kernel
theorem dX1_topOf_10 : decode cX1_topOf 10 = .ok (.aload_n 0, 1) := by decide +kernel
theorem dX1_topOf_11 : decode cX1_topOf 11 = .ok (.getfield 38, 3) := by decide +kernel
theorem dX1_topOf_14 : decode cX1_topOf 14 = .ok (.if_icmp .ge 17, 3) := by decide +kernel
theorem dX1_topOf_17 : decode cX1_topOf 17 = .ok (.iload_n 2, 1) := by decide +kernel
theorem dX1_topOf_18 : decode cX1_topOf 18 = .ok (.aload_n 0, 1) := by decide +kernel
theorem dX1_topOf_19 : decode cX1_topOf 19 = .ok (.iload_n 3, 1) := by decide +kernel
theorem dX1_topOf_20 : decode cX1_topOf 20 = .ok (.invokevirtual 60, 3) := by decide +kernel
theorem dX1_topOf_23 : decode cX1_topOf 23 = .ok (.iadd, 1) := by decide +kernel
theorem dX1_topOf_24 : decode cX1_topOf 24 = .ok (.istore_n 2, 1) := by decide +kernel
theorem dX1_topOf_25 : decode cX1_topOf 25 = .ok (.iinc 3 1, 3) := by decide +kernel
theorem dX1_topOf_28 : decode cX1_topOf 28 = .ok (.goto (-24), 3) := by decide +kernel
theorem dX1_topOf_31 : decode cX1_topOf 31 = .ok (.iload_n 2, 1) := by decide +kernel
theorem dX1_topOf_32 : decode cX1_topOf 32 = .ok (.ireturn, 1) := by decide +kernel
set_option maxRecDepth 20000 in
theorem ggX1_total_X1_topOf : GoodIn wsX1_total wsX1_topOf := goodIn_r _ [6, 1, 7, 8, 9, 5, 10, 11, 12, 13, 14, 15, 16, 17, 18, 19, 20, 21, 22, 23, 24, 25, 26, 27, 28, 29, 30, 31, 32, 33, 34, 35] (by decide +kernel) (by decide +kernel)
set_option maxRecDepth 20000 in
theorem gX1_total_X1_topOf : GoodIn wsX1_total (wsV RX1 63 RX1 yX1_topOf wsX1_topOf) := goodIn_app (goodIn_of _ (by decide +kernel)) ggX1_total_X1_topOf
theorem dX1_total_0 : decode cX1_total 0 = .ok (.aload_n 0, 1) := by decide +kernel
theorem dX1_total_1 : decode cX1_total 1 = .ok (.aload_n 0, 1) := by decide +kernel
theorem dX1_total_2 : decode cX1_total 2 = .ok (.getfield 38, 3) := by decide +kernel
theorem dX1_total_5 : decode cX1_total 5 = .ok (.invokevirtual 63, 3) := by decide +kernel
theorem dX1_total_8 : decode cX1_total 8 = .ok (.ireturn, 1) := by decide +kernel
set_option maxRecDepth 20000 in
theorem ggX1_lineAt_X1_heightOf : GoodIn wsX1_lineAt wsX1_heightOf := goodIn_r _ [7, 8, 9, 10, 11, 12, 13, 6, 14, 1, 15, 16, 17, 18, 19, 20, 21, 22, 23, 24, 25, 26, 27, 28, 29, 30, 31, 32] (by decide +kernel) (by decide +kernel)
set_option maxRecDepth 20000 in
theorem gX1_lineAt_X1_heightOf : GoodIn wsX1_lineAt (wsV RX1 60 RX1 yX1_heightOf wsX1_heightOf) := goodIn_app (goodIn_of _ (by decide +kernel)) ggX1_lineAt_X1_heightOf
theorem dX1_lineAt_0 : decode cX1_lineAt 0 = .ok (.iconst 0, 1) := by decide +kernel
theorem dX1_lineAt_1 : decode cX1_lineAt 1 = .ok (.istore_n 2, 1) := by decide +kernel
theorem dX1_lineAt_2 : decode cX1_lineAt 2 = .ok (.iconst 0, 1) := by decide +kernel
theorem dX1_lineAt_3 : decode cX1_lineAt 3 = .ok (.istore_n 3, 1) := by decide +kernel
theorem dX1_lineAt_4 : decode cX1_lineAt 4 = .ok (.iload_n 3, 1) := by decide +kernel
theorem dX1_lineAt_5 : decode cX1_lineAt 5 = .ok (.aload_n 0, 1) := by decide +kernel
theorem dX1_lineAt_6 : decode cX1_lineAt 6 = .ok (.getfield 38, 3) := by decide +kernel
theorem dX1_lineAt_9 : decode cX1_lineAt 9 = .ok (.if_icmp .ge 24, 3) := by decide +kernel
theorem dX1_lineAt_12 : decode cX1_lineAt 12 = .ok (.iload_n 2, 1) := by decide +kernel
theorem dX1_lineAt_13 : decode cX1_lineAt 13 = .ok (.aload_n 0, 1) := by decide +kernel
theorem dX1_lineAt_14 : decode cX1_lineAt 14 = .ok (.iload_n 3, 1) := by decide +kernel
theorem dX1_lineAt_15 : decode cX1_lineAt 15 = .ok (.invokevirtual 60, 3) := by decide +kernel
theorem dX1_lineAt_18 : decode cX1_lineAt 18 = .ok (.iadd, 1) := by decide +kernel
theorem dX1_lineAt_19 : decode cX1_lineAt 19 = .ok (.istore_n 2, 1) := by decide +kernel
theorem dX1_lineAt_20 : decode cX1_lineAt 20 = .ok (.iload_n 1, 1) := by decide +kernel
theorem dX1_lineAt_21 : decode cX1_lineAt 21 = .ok (.iload_n 2, 1) := by decide +kernel
theorem dX1_lineAt_22 : decode cX1_lineAt 22 = .ok (.if_icmp .ge 5, 3) := by decide +kernel
theorem dX1_lineAt_25 : decode cX1_lineAt 25 = .ok (.iload_n 3, 1) := by decide +kernel
theorem dX1_lineAt_26 : decode cX1_lineAt 26 = .ok (.ireturn, 1) := by decide +kernel
theorem dX1_lineAt_27 : decode cX1_lineAt 27 = .ok (.iinc 3 1, 3) := by decide +kernel
theorem dX1_lineAt_30 : decode cX1_lineAt 30 = .ok (.goto (-26), 3) := by decide +kernel
theorem dX1_lineAt_33 : decode cX1_lineAt 33 = .ok (.ldc 66, 2) := by decide +kernel
theorem dX1_lineAt_35 : decode cX1_lineAt 35 = .ok (.ireturn, 1) := by decide +kernel
theorem dX2_init_0 : decode cX2_init 0 = .ok (.aload_n 0, 1) := by decide +kernel
theorem dX2_init_1 : decode cX2_init 1 = .ok (.invokespecial 3, 3) := by decide +kernel
theorem dX2_init_4 : decode cX2_init 4 = .ok (.aload_n 0, 1) := by decide +kernel
theorem dX2_init_5 : decode cX2_init 5 = .ok (.bipush 100, 2) := by decide +kernel
theorem dX2_init_7 : decode cX2_init 7 = .ok (.newarray .char, 2) := by decide +kernel
theorem dX2_init_9 : decode cX2_init 9 = .ok (.putfield 9, 3) := by decide +kernel
theorem dX2_init_12 : decode cX2_init 12 = .ok (.aload_n 0, 1) := by decide +kernel
theorem dX2_init_13 : decode cX2_init 13 = .ok (.iconst 3, 1) := by decide +kernel
theorem dX2_init_14 : decode cX2_init 14 = .ok (.newarray .int, 2) := by decide +kernel
theorem dX2_init_16 : decode cX2_init 16 = .ok (.putfield 15, 3) := by decide +kernel
theorem dX2_init_19 : decode cX2_init 19 = .ok (.return_, 1) := by decide +kernel
set_option maxRecDepth 20000 in
theorem ggX3_init_X1_init : GoodIn wsX3_init wsX1_init := goodIn_r _ [11, 12, 2, 3, 13, 14, 15, 16, 17, 18, 19, 20, 21, 22, 23, 24, 25, 26, 27] (by decide +kernel) (by decide +kernel)
set_option maxRecDepth 20000 in
theorem gX3_init_X1_init : GoodIn wsX3_init (wsX1_init) := ggX3_init_X1_init
theorem dX3_init_0 : decode cX3_init 0 = .ok (.aload_n 0, 1) := by decide +kernel
theorem dX3_init_1 : decode cX3_init 1 = .ok (.invokespecial 3, 3) := by decide +kernel
theorem dX3_init_4 : decode cX3_init 4 = .ok (.aload_n 0, 1) := by decide +kernel
theorem dX3_init_5 : decode cX3_init 5 = .ok (.new 9, 3) := by decide +kernel
theorem dX3_init_8 : decode cX3_init 8 = .ok (.dup, 1) := by decide +kernel
theorem dX3_init_9 : decode cX3_init 9 = .ok (.invokespecial 11, 3) := by decide +kernel
theorem dX3_init_12 : decode cX3_init 12 = .ok (.putfield 12, 3) := by decide +kernel
theorem dX3_init_15 : decode cX3_init 15 = .ok (.aload_n 0, 1) := by decide +kernel
theorem dX3_init_16 : decode cX3_init 16 = .ok (.bipush 100, 2) := by decide +kernel
theorem dX3_init_18 : decode cX3_init 18 = .ok (.putfield 18, 3) := by decide +kernel
theorem dX3_init_21 : decode cX3_init 21 = .ok (.return_, 1) := by decide +kernel
set_option maxRecDepth 20000 in
theorem ggX3_copyFrom_X1_copyFrom : GoodIn wsX3_copyFrom wsX1_copyFrom := goodIn_r _ [9, 10, 11, 12, 13, 14, 15, 16, 17, 18, 19, 20, 25, 26, 27, 28, 29, 30, 31] (by decide +kernel) (by decide +kernel)
set_option maxRecDepth 20000 in
theorem gX3_copyFrom_X1_copyFrom : GoodIn wsX3_copyFrom (wsV RX3 22 RX1 yX1_copyFrom wsX1_copyFrom) := goodIn_app (goodIn_of _ (by decide +kernel)) ggX3_copyFrom_X1_copyFrom
theorem dX3_copyFrom_0 : decode cX3_copyFrom 0 = .ok (.aload_n 1, 1) := by decide +kernel
theorem dX3_copyFrom_1 : decode cX3_copyFrom 1 = .ok (.ifnonnull 4, 3) := by decide +kernel
theorem dX3_copyFrom_4 : decode cX3_copyFrom 4 = .ok (.return_, 1) := by decide +kernel
theorem dX3_copyFrom_5 : decode cX3_copyFrom 5 = .ok (.aload_n 0, 1) := by decide +kernel
theorem dX3_copyFrom_6 : decode cX3_copyFrom 6 = .ok (.getfield 12, 3) := by decide +kernel
theorem dX3_copyFrom_9 : decode cX3_copyFrom 9 = .ok (.aload_n 1, 1) := by decide +kernel
theorem dX3_copyFrom_10 : decode cX3_copyFrom 10 = .ok (.getfield 12, 3) := by decide +kernel
theorem dX3_copyFrom_13 : decode cX3_copyFrom 13 = .ok (.invokevirtual 22, 3) := by decide +kernel
theorem dX3_copyFrom_16 : decode cX3_copyFrom 16 = .ok (.aload_n 0, 1) := by decide +kernel
theorem dX3_copyFrom_17 : decode cX3_copyFrom 17 = .ok (.aload_n 1, 1) := by decide +kernel
theorem dX3_copyFrom_18 : decode cX3_copyFrom 18 = .ok (.getfield 18, 3) := by decide +kernel
theorem dX3_copyFrom_21 : decode cX3_copyFrom 21 = .ok (.putfield 18, 3) := by decide +kernel
theorem dX3_copyFrom_24 : decode cX3_copyFrom 24 = .ok (.aload_n 0, 1) := by decide +kernel
theorem dX3_copyFrom_25 : decode cX3_copyFrom 25 = .ok (.aload_n 1, 1) := by decide +kernel
theorem dX3_copyFrom_26 : decode cX3_copyFrom 26 = .ok (.getfield 26, 3) := by decide +kernel
theorem dX3_copyFrom_29 : decode cX3_copyFrom 29 = .ok (.putfield 26, 3) := by decide +kernel
theorem dX3_copyFrom_32 : decode cX3_copyFrom 32 = .ok (.aload_n 0, 1) := by decide +kernel
theorem dX3_copyFrom_33 : decode cX3_copyFrom 33 = .ok (.aload_n 1, 1) := by decide +kernel
theorem dX3_copyFrom_34 : decode cX3_copyFrom 34 = .ok (.getfield 29, 3) := by decide +kernel
theorem dX3_copyFrom_37 : decode cX3_copyFrom 37 = .ok (.putfield 29, 3) := by decide +kernel
theorem dX3_copyFrom_40 : decode cX3_copyFrom 40 = .ok (.return_, 1) := by decide +kernel
set_option maxRecDepth 20000 in
theorem ggX3_putIn_X4_isOutside : GoodIn wsX3_putIn wsX4_isOutside := goodIn_r _ [8] (by decide +kernel) (by decide +kernel)
set_option maxRecDepth 20000 in
theorem gX3_putIn_X4_isOutside_n35 : GoodIn wsX3_putIn (wsX4_isOutside) := ggX3_putIn_X4_isOutside
set_option maxRecDepth 20000 in
theorem ggX3_putIn_X1_isKind : GoodIn wsX3_putIn wsX1_isKind := goodIn_r _ [13] (by decide +kernel) (by decide +kernel)
set_option maxRecDepth 20000 in
theorem gX3_putIn_X1_isKind : GoodIn wsX3_putIn (wsV RX3 39 RX1 yX1_isKind wsX1_isKind) := goodIn_app (goodIn_of _ (by decide +kernel)) ggX3_putIn_X1_isKind
set_option maxRecDepth 20000 in
theorem ggX3_putIn_X1_insert : GoodIn wsX3_putIn wsX1_insert := goodIn_r _ [17, 18, 19, 20, 21, 22, 23, 24, 25, 82, 83, 84, 85, 86, 87, 88] (by decide +kernel) (by decide +kernel)
set_option maxRecDepth 20000 in
theorem gX3_putIn_X1_insert : GoodIn wsX3_putIn (wsV RX3 45 RX1 yX1_insert wsX1_insert) := goodIn_app (goodIn_of _ (by decide +kernel)) ggX3_putIn_X1_insert
set_option maxRecDepth 20000 in
theorem ggX3_putIn_X3_settle : GoodIn wsX3_putIn wsX3_settle := goodIn_r _ [30, 1, 2, 31, 32, 5, 33, 34, 35, 29, 36, 37, 38, 39, 12, 40, 25, 19, 41, 24, 42, 43, 44, 45, 46, 18, 47, 10, 11, 13, 48, 49, 50, 51, 52, 53, 54, 55, 56, 57, 58, 59, 60, 61, 62, 63, 64, 65, 66, 67, 68, 78, 79, 80, 81, 82, 83, 84, 85, 86, 87, 88] (by decide +kernel) (by decide +kernel)
set_option maxRecDepth 20000 in
theorem gX3_putIn_X3_settle : GoodIn wsX3_putIn (wsV RX3 49 RX3 yX3_settle wsX3_settle) := goodIn_app (goodIn_of _ (by decide +kernel)) ggX3_putIn_X3_settle
set_option maxRecDepth 20000 in
theorem ggX3_putIn_X1_total : GoodIn wsX3_putIn wsX1_total := goodIn_r _ [72, 18, 73, 74, 75, 12, 76, 77, 54, 55, 56, 25, 19, 24, 43, 44, 45, 46, 48, 49, 50, 51, 52, 57, 58, 59, 60, 42, 41, 82, 83, 84, 85, 86, 87, 88] (by decide +kernel) (by decide +kernel)
set_option maxRecDepth 20000 in
theorem gX3_putIn_X1_total : GoodIn wsX3_putIn (wsV RX3 52 RX1 yX1_total wsX1_total) := goodIn_app (goodIn_of _ (by decide +kernel)) ggX3_putIn_X1_total
theorem dX3_putIn_0 : decode cX3_putIn 0 = .ok (.iload_n 1, 1) := by decide +kernel
theorem dX3_putIn_1 : decode cX3_putIn 1 = .ok (.iconst 0, 1) := by decide +kernel
theorem dX3_putIn_2 : decode cX3_putIn 2 = .ok (.aload_n 0, 1) := by decide +kernel
theorem dX3_putIn_3 : decode cX3_putIn 3 = .ok (.getfield 12, 3) := by decide +kernel
theorem dX3_putIn_6 : decode cX3_putIn 6 = .ok (.getfield 32, 3) := by decide +kernel
theorem dX3_putIn_9 : decode cX3_putIn 9 = .ok (.invokestatic 35, 3) := by decide +kernel
theorem dX3_putIn_12 : decode cX3_putIn 12 = .ok (.ifCond .ne 25, 3) := by decide +kernel
theorem dX3_putIn_15 : decode cX3_putIn 15 = .ok (.aload_n 0, 1) := by decide +kernel
theorem dX3_putIn_16 : decode cX3_putIn 16 = .ok (.getfield 12, 3) := by decide +kernel
theorem dX3_putIn_19 : decode cX3_putIn 19 = .ok (.iload_n 2, 1) := by decide +kernel
theorem dX3_putIn_20 : decode cX3_putIn 20 = .ok (.invokevirtual 39, 3) := by decide +kernel
theorem dX3_putIn_23 : decode cX3_putIn 23 = .ok (.ifCond .eq 14, 3) := by decide +kernel
theorem dX3_putIn_26 : decode cX3_putIn 26 = .ok (.iload_n 3, 1) := by decide +kernel
theorem dX3_putIn_27 : decode cX3_putIn 27 = .ok (.iconst 0, 1) := by decide +kernel
theorem dX3_putIn_28 : decode cX3_putIn 28 = .ok (.sipush 400, 3) := by decide +kernel
theorem dX3_putIn_31 : decode cX3_putIn 31 = .ok (.invokestatic 35, 3) := by decide +kernel
theorem dX3_putIn_34 : decode cX3_putIn 34 = .ok (.ifCond .eq 6, 3) := by decide +kernel
theorem dX3_putIn_37 : decode cX3_putIn 37 = .ok (.ldc 43, 2) := by decide +kernel
theorem dX3_putIn_39 : decode cX3_putIn 39 = .ok (.ireturn, 1) := by decide +kernel
theorem dX3_putIn_40 : decode cX3_putIn 40 = .ok (.aload_n 0, 1) := by decide +kernel
theorem dX3_putIn_41 : decode cX3_putIn 41 = .ok (.getfield 12, 3) := by decide +kernel
theorem dX3_putIn_44 : decode cX3_putIn 44 = .ok (.getfield 32, 3) := by decide +kernel
theorem dX3_putIn_47 : decode cX3_putIn 47 = .ok (.bipush 100, 2) := by decide +kernel
theorem dX3_putIn_49 : decode cX3_putIn 49 = .ok (.if_icmp .lt 6, 3) := by decide +kernel
theorem dX3_putIn_52 : decode cX3_putIn 52 = .ok (.ldc 44, 2) := by decide +kernel
theorem dX3_putIn_54 : decode cX3_putIn 54 = .ok (.ireturn, 1) := by decide +kernel
theorem dX3_putIn_55 : decode cX3_putIn 55 = .ok (.aload_n 0, 1) := by decide +kernel
theorem dX3_putIn_56 : decode cX3_putIn 56 = .ok (.getfield 12, 3) := by decide +kernel
theorem dX3_putIn_59 : decode cX3_putIn 59 = .ok (.getfield 32, 3) := by decide +kernel
theorem dX3_putIn_62 : decode cX3_putIn 62 = .ok (.ifCond .le 21, 3) := by decide +kernel
theorem dX3_putIn_65 : decode cX3_putIn 65 = .ok (.iload_n 1, 1) := by decide +kernel
theorem dX3_putIn_66 : decode cX3_putIn 66 = .ok (.aload_n 0, 1) := by decide +kernel
theorem dX3_putIn_67 : decode cX3_putIn 67 = .ok (.getfield 26, 3) := by decide +kernel
theorem dX3_putIn_70 : decode cX3_putIn 70 = .ok (.if_icmp .gt 13, 3) := by decide +kernel
theorem dX3_putIn_73 : decode cX3_putIn 73 = .ok (.aload_n 0, 1) := by decide +kernel
theorem dX3_putIn_74 : decode cX3_putIn 74 = .ok (.dup, 1) := by decide +kernel
theorem dX3_putIn_75 : decode cX3_putIn 75 = .ok (.getfield 26, 3) := by decide +kernel
theorem dX3_putIn_78 : decode cX3_putIn 78 = .ok (.iconst 1, 1) := by decide +kernel
theorem dX3_putIn_79 : decode cX3_putIn 79 = .ok (.iadd, 1) := by decide +kernel
theorem dX3_putIn_80 : decode cX3_putIn 80 = .ok (.putfield 26, 3) := by decide +kernel
theorem dX3_putIn_83 : decode cX3_putIn 83 = .ok (.aload_n 0, 1) := by decide +kernel
theorem dX3_putIn_84 : decode cX3_putIn 84 = .ok (.getfield 12, 3) := by decide +kernel
theorem dX3_putIn_87 : decode cX3_putIn 87 = .ok (.iload_n 1, 1) := by decide +kernel
theorem dX3_putIn_88 : decode cX3_putIn 88 = .ok (.iload_n 2, 1) := by decide +kernel
theorem dX3_putIn_89 : decode cX3_putIn 89 = .ok (.iload_n 3, 1) := by decide +kernel
theorem dX3_putIn_90 : decode cX3_putIn 90 = .ok (.invokevirtual 45, 3) := by decide +kernel
theorem dX3_putIn_93 : decode cX3_putIn 93 = .ok (.aload_n 0, 1) := by decide +kernel
theorem dX3_putIn_94 : decode cX3_putIn 94 = .ok (.invokevirtual 49, 3) := by decide +kernel
theorem dX3_putIn_97 : decode cX3_putIn 97 = .ok (.aload_n 0, 1) := by decide +kernel
theorem dX3_putIn_98 : decode cX3_putIn 98 = .ok (.getfield 12, 3) := by decide +kernel
theorem dX3_putIn_101 : decode cX3_putIn 101 = .ok (.invokevirtual 52, 3) := by decide +kernel
theorem dX3_putIn_104 : decode cX3_putIn 104 = .ok (.ireturn, 1) := by decide +kernel
set_option maxRecDepth 20000 in
theorem ggX3_takeOut_X1_isLine : GoodIn wsX3_takeOut wsX1_isLine := goodIn_r _ [10, 11, 73, 74, 75, 76, 77, 78, 79] (by decide +kernel) (by decide +kernel)
set_option maxRecDepth 20000 in
theorem gX3_takeOut_X1_isLine : GoodIn wsX3_takeOut (wsV RX3 56 RX1 yX1_isLine wsX1_isLine) := goodIn_app (goodIn_of _ (by decide +kernel)) ggX3_takeOut_X1_isLine
set_option maxRecDepth 20000 in
theorem ggX3_takeOut_X1_remove : GoodIn wsX3_takeOut wsX1_remove := goodIn_r _ [15, 11, 16, 17, 18, 19, 20, 21, 22, 23, 7, 8, 9, 10, 24, 25, 26, 27, 28, 29, 30, 31, 32, 33, 34, 35, 36, 37, 38, 73, 74, 75, 76, 77, 78, 79] (by decide +kernel) (by decide +kernel)
set_option maxRecDepth 20000 in
theorem gX3_takeOut_X1_remove : GoodIn wsX3_takeOut (wsV RX3 59 RX1 yX1_remove wsX1_remove) := goodIn_app (goodIn_of _ (by decide +kernel)) ggX3_takeOut_X1_remove
set_option maxRecDepth 20000 in
theorem ggX3_takeOut_X3_settle : GoodIn wsX3_takeOut wsX3_settle := goodIn_r _ [43, 1, 3, 5, 44, 4, 45, 46, 47, 42, 48, 49, 50, 51, 9, 52, 22, 16, 28, 21, 29, 23, 7, 8, 10, 11, 30, 31, 32, 33, 34, 35, 36, 37, 38, 53, 54, 55, 56, 57, 58, 59, 60, 61, 62, 63, 64, 65, 66, 67, 68, 69, 70, 71, 72, 73, 74, 75, 76, 77, 78, 79] (by decide +kernel) (by decide +kernel)
set_option maxRecDepth 20000 in
theorem gX3_takeOut_X3_settle : GoodIn wsX3_takeOut (wsV RX3 49 RX3 yX3_settle wsX3_settle) := goodIn_app (goodIn_of _ (by decide +kernel)) ggX3_takeOut_X3_settle
theorem dX3_takeOut_0 : decode cX3_takeOut 0 = .ok (.aload_n 0, 1) := by decide +kernel
theorem dX3_takeOut_1 : decode cX3_takeOut 1 = .ok (.getfield 12, 3) := by decide +kernel
theorem dX3_takeOut_4 : decode cX3_takeOut 4 = .ok (.iload_n 1, 1) := by decide +kernel
theorem dX3_takeOut_5 : decode cX3_takeOut 5 = .ok (.invokevirtual 56, 3) := by decide +kernel
theorem dX3_takeOut_8 : decode cX3_takeOut 8 = .ok (.ifCond .ne 6, 3) := by decide +kernel
theorem dX3_takeOut_11 : decode cX3_takeOut 11 = .ok (.ldc 43, 2) := by decide +kernel
theorem dX3_takeOut_13 : decode cX3_takeOut 13 = .ok (.ireturn, 1) := by decide +kernel
theorem dX3_takeOut_14 : decode cX3_takeOut 14 = .ok (.iload_n 1, 1) := by decide +kernel
theorem dX3_takeOut_15 : decode cX3_takeOut 15 = .ok (.aload_n 0, 1) := by decide +kernel
theorem dX3_takeOut_16 : decode cX3_takeOut 16 = .ok (.getfield 12, 3) := by decide +kernel
theorem dX3_takeOut_19 : decode cX3_takeOut 19 = .ok (.getfield 32, 3) := by decide +kernel
theorem dX3_takeOut_22 : decode cX3_takeOut 22 = .ok (.iconst 1, 1) := by decide +kernel
theorem dX3_takeOut_23 : decode cX3_takeOut 23 = .ok (.isub, 1) := by decide +kernel
theorem dX3_takeOut_24 : decode cX3_takeOut 24 = .ok (.if_icmp .ne 7, 3) := by decide +kernel
theorem dX3_takeOut_27 : decode cX3_takeOut 27 = .ok (.iconst 1, 1) := by decide +kernel
theorem dX3_takeOut_28 : decode cX3_takeOut 28 = .ok (.goto 4, 3) := by decide +kernel
theorem dX3_takeOut_31 : decode cX3_takeOut 31 = .ok (.iconst 0, 1) := by decide +kernel
theorem dX3_takeOut_32 : decode cX3_takeOut 32 = .ok (.istore_n 2, 1) := by decide +kernel
theorem dX3_takeOut_33 : decode cX3_takeOut 33 = .ok (.aload_n 0, 1) := by decide +kernel
theorem dX3_takeOut_34 : decode cX3_takeOut 34 = .ok (.getfield 12, 3) := by decide +kernel
theorem dX3_takeOut_37 : decode cX3_takeOut 37 = .ok (.iload_n 1, 1) := by decide +kernel
theorem dX3_takeOut_38 : decode cX3_takeOut 38 = .ok (.invokevirtual 59, 3) := by decide +kernel
theorem dX3_takeOut_41 : decode cX3_takeOut 41 = .ok (.iload_n 1, 1) := by decide +kernel
theorem dX3_takeOut_42 : decode cX3_takeOut 42 = .ok (.aload_n 0, 1) := by decide +kernel
theorem dX3_takeOut_43 : decode cX3_takeOut 43 = .ok (.getfield 26, 3) := by decide +kernel
theorem dX3_takeOut_46 : decode cX3_takeOut 46 = .ok (.if_icmp .ne 8, 3) := by decide +kernel
theorem dX3_takeOut_49 : decode cX3_takeOut 49 = .ok (.aload_n 0, 1) := by decide +kernel
theorem dX3_takeOut_50 : decode cX3_takeOut 50 = .ok (.iconst 0, 1) := by decide +kernel
theorem dX3_takeOut_51 : decode cX3_takeOut 51 = .ok (.putfield 29, 3) := by decide +kernel
theorem dX3_takeOut_54 : decode cX3_takeOut 54 = .ok (.iload_n 1, 1) := by decide +kernel
theorem dX3_takeOut_55 : decode cX3_takeOut 55 = .ok (.aload_n 0, 1) := by decide +kernel
theorem dX3_takeOut_56 : decode cX3_takeOut 56 = .ok (.getfield 26, 3) := by decide +kernel
theorem dX3_takeOut_59 : decode cX3_takeOut 59 = .ok (.if_icmp .lt 22, 3) := by decide +kernel
theorem dX3_takeOut_62 : decode cX3_takeOut 62 = .ok (.iload_n 1, 1) := by decide +kernel
theorem dX3_takeOut_63 : decode cX3_takeOut 63 = .ok (.aload_n 0, 1) := by decide +kernel
theorem dX3_takeOut_64 : decode cX3_takeOut 64 = .ok (.getfield 26, 3) := by decide +kernel
theorem dX3_takeOut_67 : decode cX3_takeOut 67 = .ok (.if_icmp .ne 24, 3) := by decide +kernel
theorem dX3_takeOut_70 : decode cX3_takeOut 70 = .ok (.iload_n 2, 1) := by decide +kernel
theorem dX3_takeOut_71 : decode cX3_takeOut 71 = .ok (.ifCond .eq 20, 3) := by decide +kernel
theorem dX3_takeOut_74 : decode cX3_takeOut 74 = .ok (.aload_n 0, 1) := by decide +kernel
theorem dX3_takeOut_75 : decode cX3_takeOut 75 = .ok (.getfield 26, 3) := by decide +kernel
theorem dX3_takeOut_78 : decode cX3_takeOut 78 = .ok (.ifCond .le 13, 3) := by decide +kernel
theorem dX3_takeOut_81 : decode cX3_takeOut 81 = .ok (.aload_n 0, 1) := by decide +kernel
theorem dX3_takeOut_82 : decode cX3_takeOut 82 = .ok (.dup, 1) := by decide +kernel
theorem dX3_takeOut_83 : decode cX3_takeOut 83 = .ok (.getfield 26, 3) := by decide +kernel
theorem dX3_takeOut_86 : decode cX3_takeOut 86 = .ok (.iconst 1, 1) := by decide +kernel
theorem dX3_takeOut_87 : decode cX3_takeOut 87 = .ok (.isub, 1) := by decide +kernel
theorem dX3_takeOut_88 : decode cX3_takeOut 88 = .ok (.putfield 26, 3) := by decide +kernel
theorem dX3_takeOut_91 : decode cX3_takeOut 91 = .ok (.aload_n 0, 1) := by decide +kernel
theorem dX3_takeOut_92 : decode cX3_takeOut 92 = .ok (.invokevirtual 49, 3) := by decide +kernel
theorem dX3_takeOut_95 : decode cX3_takeOut 95 = .ok (.aload_n 0, 1) := by decide +kernel
theorem dX3_takeOut_96 : decode cX3_takeOut 96 = .ok (.getfield 12, 3) := by decide +kernel
theorem dX3_takeOut_99 : decode cX3_takeOut 99 = .ok (.getfield 32, 3) := by decide +kernel
theorem dX3_takeOut_102 : decode cX3_takeOut 102 = .ok (.ireturn, 1) := by decide +kernel
set_option maxRecDepth 20000 in
theorem ggX3_changeLength_X1_isLine : GoodIn wsX3_changeLength wsX1_isLine := goodIn_r _ [8, 9, 73, 74, 75, 76, 77, 78, 79] (by decide +kernel) (by decide +kernel)
set_option maxRecDepth 20000 in
theorem gX3_changeLength_X1_isLine : GoodIn wsX3_changeLength (wsV RX3 56 RX1 yX1_isLine wsX1_isLine) := goodIn_app (goodIn_of _ (by decide +kernel)) ggX3_changeLength_X1_isLine
set_option maxRecDepth 20000 in
theorem ggX3_changeLength_X4_isOutside : GoodIn wsX3_changeLength wsX4_isOutside := goodIn_r _ [12] (by decide +kernel) (by decide +kernel)
set_option maxRecDepth 20000 in
theorem gX3_changeLength_X4_isOutside_n35 : GoodIn wsX3_changeLength (wsX4_isOutside) := ggX3_changeLength_X4_isOutside
set_option maxRecDepth 20000 in
theorem ggX3_changeLength_X1_setLength : GoodIn wsX3_changeLength wsX1_setLength := goodIn_r _ [16, 17, 18, 5, 6, 7, 8, 9, 19, 20, 21, 22, 23, 24, 25, 26, 27, 28, 29, 30, 31, 32, 33, 34, 35, 73, 74, 75, 76, 77, 78, 79] (by decide +kernel) (by decide +kernel)
set_option maxRecDepth 20000 in
theorem gX3_changeLength_X1_setLength : GoodIn wsX3_changeLength (wsV RX3 67 RX1 yX1_setLength wsX1_setLength) := goodIn_app (goodIn_of _ (by decide +kernel)) ggX3_changeLength_X1_setLength
set_option maxRecDepth 20000 in
theorem ggX3_changeLength_X3_settle : GoodIn wsX3_changeLength wsX3_settle := goodIn_r _ [40, 1, 41, 42, 43, 44, 45, 46, 47, 39, 48, 49, 50, 51, 7, 52, 23, 24, 25, 17, 26, 18, 5, 6, 8, 9, 27, 28, 29, 30, 31, 32, 33, 34, 35, 53, 54, 55, 56, 57, 58, 59, 60, 61, 62, 63, 64, 65, 66, 67, 68, 69, 70, 71, 72, 73, 74, 75, 76, 77, 78, 79] (by decide +kernel) (by decide +kernel)
set_option maxRecDepth 20000 in
theorem gX3_changeLength_X3_settle : GoodIn wsX3_changeLength (wsV RX3 49 RX3 yX3_settle wsX3_settle) := goodIn_app (goodIn_of _ (by decide +kernel)) ggX3_changeLength_X3_settle
theorem dX3_changeLength_0 : decode cX3_changeLength 0 = .ok (.aload_n 0, 1) := by decide +kernel
theorem dX3_changeLength_1 : decode cX3_changeLength 1 = .ok (.getfield 12, 3) := by decide +kernel
theorem dX3_changeLength_4 : decode cX3_changeLength 4 = .ok (.iload_n 1, 1) := by decide +kernel
theorem dX3_changeLength_5 : decode cX3_changeLength 5 = .ok (.invokevirtual 56, 3) := by decide +kernel
theorem dX3_changeLength_8 : decode cX3_changeLength 8 = .ok (.ifCond .eq 14, 3) := by decide +kernel
theorem dX3_changeLength_11 : decode cX3_changeLength 11 = .ok (.iload_n 2, 1) := by decide +kernel
theorem dX3_changeLength_12 : decode cX3_changeLength 12 = .ok (.iconst 0, 1) := by decide +kernel
theorem dX3_changeLength_13 : decode cX3_changeLength 13 = .ok (.sipush 400, 3) := by decide +kernel
theorem dX3_changeLength_16 : decode cX3_changeLength 16 = .ok (.invokestatic 35, 3) := by decide +kernel
theorem dX3_changeLength_19 : decode cX3_changeLength 19 = .ok (.ifCond .eq 6, 3) := by decide +kernel
theorem dX3_changeLength_22 : decode cX3_changeLength 22 = .ok (.ldc 43, 2) := by decide +kernel
theorem dX3_changeLength_24 : decode cX3_changeLength 24 = .ok (.ireturn, 1) := by decide +kernel
theorem dX3_changeLength_25 : decode cX3_changeLength 25 = .ok (.aload_n 0, 1) := by decide +kernel
theorem dX3_changeLength_26 : decode cX3_changeLength 26 = .ok (.getfield 12, 3) := by decide +kernel
theorem dX3_changeLength_29 : decode cX3_changeLength 29 = .ok (.getfield 63, 3) := by decide +kernel
theorem dX3_changeLength_32 : decode cX3_changeLength 32 = .ok (.iload_n 1, 1) := by decide +kernel
theorem dX3_changeLength_33 : decode cX3_changeLength 33 = .ok (.iaload, 1) := by decide +kernel
theorem dX3_changeLength_34 : decode cX3_changeLength 34 = .ok (.istore_n 3, 1) := by decide +kernel
theorem dX3_changeLength_35 : decode cX3_changeLength 35 = .ok (.aload_n 0, 1) := by decide +kernel
theorem dX3_changeLength_36 : decode cX3_changeLength 36 = .ok (.getfield 12, 3) := by decide +kernel
theorem dX3_changeLength_39 : decode cX3_changeLength 39 = .ok (.iload_n 1, 1) := by decide +kernel
theorem dX3_changeLength_40 : decode cX3_changeLength 40 = .ok (.iload_n 2, 1) := by decide +kernel
theorem dX3_changeLength_41 : decode cX3_changeLength 41 = .ok (.invokevirtual 67, 3) := by decide +kernel
theorem dX3_changeLength_44 : decode cX3_changeLength 44 = .ok (.aload_n 0, 1) := by decide +kernel
theorem dX3_changeLength_45 : decode cX3_changeLength 45 = .ok (.invokevirtual 49, 3) := by decide +kernel
theorem dX3_changeLength_48 : decode cX3_changeLength 48 = .ok (.iload_n 3, 1) := by decide +kernel
