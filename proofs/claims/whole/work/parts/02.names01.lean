set_option maxRecDepth 20000 in
theorem ggX0_init_X0_clear : GoodIn wsX0_init wsX0_clear := goodIn_r _ [13, 8, 14, 15, 16, 17, 18, 19, 20] (by decide +kernel) (by decide +kernel)
set_option maxRecDepth 20000 in
theorem gX0_init_X0_clear : GoodIn wsX0_init (wsV RX0 23 RX0 yX0_clear wsX0_clear) := goodIn_app (goodIn_of _ (by decide +kernel)) ggX0_init_X0_clear
theorem dX0_init_0 : decode cX0_init 0 = .ok (.aload_n 0, 1) := by decide +kernel
theorem dX0_init_1 : decode cX0_init 1 = .ok (.invokespecial 3, 3) := by decide +kernel
theorem dX0_init_4 : decode cX0_init 4 = .ok (.aload_n 0, 1) := by decide +kernel
theorem dX0_init_5 : decode cX0_init 5 = .ok (.aload_n 1, 1) := by decide +kernel
theorem dX0_init_6 : decode cX0_init 6 = .ok (.putfield 9, 3) := by decide +kernel
theorem dX0_init_9 : decode cX0_init 9 = .ok (.aload_n 0, 1) := by decide +kernel
theorem dX0_init_10 : decode cX0_init 10 = .ok (.bipush 40, 2) := by decide +kernel
theorem dX0_init_12 : decode cX0_init 12 = .ok (.newarray .int, 2) := by decide +kernel
theorem dX0_init_14 : decode cX0_init 14 = .ok (.putfield 15, 3) := by decide +kernel
theorem dX0_init_17 : decode cX0_init 17 = .ok (.aload_n 0, 1) := by decide +kernel
theorem dX0_init_18 : decode cX0_init 18 = .ok (.iconst 5, 1) := by decide +kernel
theorem dX0_init_19 : decode cX0_init 19 = .ok (.newarray .long, 2) := by decide +kernel
theorem dX0_init_21 : decode cX0_init 21 = .ok (.putfield 19, 3) := by decide +kernel
theorem dX0_init_24 : decode cX0_init 24 = .ok (.aload_n 0, 1) := by decide +kernel
theorem dX0_init_25 : decode cX0_init 25 = .ok (.invokevirtual 23, 3) := by decide +kernel
theorem dX0_init_28 : decode cX0_init 28 = .ok (.return_, 1) := by decide +kernel
set_option maxRecDepth 20000 in
theorem ggX0_lookAtSheets_X0_lookAtSheetAs : GoodIn wsX0_lookAtSheets wsX0_lookAtSheetAs := goodIn_r _ [9, 10, 1, 11, 12, 13, 14, 15, 16, 17, 18, 19, 20, 21, 22, 23, 24, 25, 26, 27, 28, 29, 30, 31, 32, 33, 34, 35, 36, 37, 38, 39, 40, 41, 42, 43, 44, 45, 46, 47] (by decide +kernel) (by decide +kernel)
set_option maxRecDepth 20000 in
theorem gX0_lookAtSheets_X0_lookAtSheetAs : GoodIn wsX0_lookAtSheets (wsV RX0 38 RX0 yX0_lookAtSheetAs wsX0_lookAtSheetAs) := goodIn_app (goodIn_of _ (by decide +kernel)) ggX0_lookAtSheets_X0_lookAtSheetAs
theorem dX0_lookAtSheets_0 : decode cX0_lookAtSheets 0 = .ok (.iconst 0, 1) := by decide +kernel
theorem dX0_lookAtSheets_1 : decode cX0_lookAtSheets 1 = .ok (.istore_n 1, 1) := by decide +kernel
theorem dX0_lookAtSheets_2 : decode cX0_lookAtSheets 2 = .ok (.iload_n 1, 1) := by decide +kernel
theorem dX0_lookAtSheets_3 : decode cX0_lookAtSheets 3 = .ok (.aload_n 0, 1) := by decide +kernel
theorem dX0_lookAtSheets_4 : decode cX0_lookAtSheets 4 = .ok (.getfield 9, 3) := by decide +kernel
theorem dX0_lookAtSheets_7 : decode cX0_lookAtSheets 7 = .ok (.getfield 26, 3) := by decide +kernel
theorem dX0_lookAtSheets_10 : decode cX0_lookAtSheets 10 = .ok (.if_icmp .ge 32, 3) := by decide +kernel
theorem dX0_lookAtSheets_13 : decode cX0_lookAtSheets 13 = .ok (.aload_n 0, 1) := by decide +kernel
theorem dX0_lookAtSheets_14 : decode cX0_lookAtSheets 14 = .ok (.iload_n 1, 1) := by decide +kernel
theorem dX0_lookAtSheets_15 : decode cX0_lookAtSheets 15 = .ok (.aload_n 0, 1) := by decide +kernel
theorem dX0_lookAtSheets_16 : decode cX0_lookAtSheets 16 = .ok (.getfield 9, 3) := by decide +kernel
theorem dX0_lookAtSheets_19 : decode cX0_lookAtSheets 19 = .ok (.getfield 32, 3) := by decide +kernel
theorem dX0_lookAtSheets_22 : decode cX0_lookAtSheets 22 = .ok (.iload_n 1, 1) := by decide +kernel
theorem dX0_lookAtSheets_23 : decode cX0_lookAtSheets 23 = .ok (.iaload, 1) := by decide +kernel
theorem dX0_lookAtSheets_24 : decode cX0_lookAtSheets 24 = .ok (.aload_n 0, 1) := by decide +kernel
theorem dX0_lookAtSheets_25 : decode cX0_lookAtSheets 25 = .ok (.getfield 9, 3) := by decide +kernel
theorem dX0_lookAtSheets_28 : decode cX0_lookAtSheets 28 = .ok (.getfield 35, 3) := by decide +kernel
theorem dX0_lookAtSheets_31 : decode cX0_lookAtSheets 31 = .ok (.iload_n 1, 1) := by decide +kernel
theorem dX0_lookAtSheets_32 : decode cX0_lookAtSheets 32 = .ok (.iaload, 1) := by decide +kernel
theorem dX0_lookAtSheets_33 : decode cX0_lookAtSheets 33 = .ok (.invokevirtual 38, 3) := by decide +kernel
theorem dX0_lookAtSheets_36 : decode cX0_lookAtSheets 36 = .ok (.iinc 1 1, 3) := by decide +kernel
theorem dX0_lookAtSheets_39 : decode cX0_lookAtSheets 39 = .ok (.goto (-37), 3) := by decide +kernel
theorem dX0_lookAtSheets_42 : decode cX0_lookAtSheets 42 = .ok (.return_, 1) := by decide +kernel
set_option maxRecDepth 20000 in
theorem ggX0_lookAtSheetAs_X6_within : GoodIn wsX0_lookAtSheetAs wsX6_within := goodIn_r _ [5] (by decide +kernel) (by decide +kernel)
set_option maxRecDepth 20000 in
theorem gX0_lookAtSheetAs_X6_within_n42 : GoodIn wsX0_lookAtSheetAs (wsX6_within) := ggX0_lookAtSheetAs_X6_within
set_option maxRecDepth 20000 in
theorem ggX0_lookAtSheetAs_X3_letsAs : GoodIn wsX0_lookAtSheetAs wsX3_letsAs := goodIn_r _ [10, 11, 12, 13, 14, 9, 15, 16, 3, 4, 5, 17, 18, 19, 20, 21, 22, 23, 24, 30, 31, 32, 33, 34, 35, 36, 37, 38, 39] (by decide +kernel) (by decide +kernel)
set_option maxRecDepth 20000 in
theorem gX0_lookAtSheetAs_X3_letsAs : GoodIn wsX0_lookAtSheetAs (wsV RX0 46 RX3 yX3_letsAs wsX3_letsAs) := goodIn_app (goodIn_of _ (by decide +kernel)) ggX0_lookAtSheetAs_X3_letsAs
theorem dX0_lookAtSheetAs_0 : decode cX0_lookAtSheetAs 0 = .ok (.iload_n 1, 1) := by decide +kernel
theorem dX0_lookAtSheetAs_1 : decode cX0_lookAtSheetAs 1 = .ok (.bipush 8, 2) := by decide +kernel
theorem dX0_lookAtSheetAs_3 : decode cX0_lookAtSheetAs 3 = .ok (.invokestatic 42, 3) := by decide +kernel
theorem dX0_lookAtSheetAs_6 : decode cX0_lookAtSheetAs 6 = .ok (.ifCond .ne 4, 3) := by decide +kernel
theorem dX0_lookAtSheetAs_9 : decode cX0_lookAtSheetAs 9 = .ok (.return_, 1) := by decide +kernel
theorem dX0_lookAtSheetAs_10 : decode cX0_lookAtSheetAs 10 = .ok (.iconst 0, 1) := by decide +kernel
theorem dX0_lookAtSheetAs_11 : decode cX0_lookAtSheetAs 11 = .ok (.istore 4, 2) := by decide +kernel
theorem dX0_lookAtSheetAs_13 : decode cX0_lookAtSheetAs 13 = .ok (.iload 4, 2) := by decide +kernel
theorem dX0_lookAtSheetAs_15 : decode cX0_lookAtSheetAs 15 = .ok (.iconst 5, 1) := by decide +kernel
theorem dX0_lookAtSheetAs_16 : decode cX0_lookAtSheetAs 16 = .ok (.if_icmp .ge 32, 3) := by decide +kernel
theorem dX0_lookAtSheetAs_19 : decode cX0_lookAtSheetAs 19 = .ok (.aload_n 0, 1) := by decide +kernel
theorem dX0_lookAtSheetAs_20 : decode cX0_lookAtSheetAs 20 = .ok (.getfield 15, 3) := by decide +kernel
theorem dX0_lookAtSheetAs_23 : decode cX0_lookAtSheetAs 23 = .ok (.iload_n 1, 1) := by decide +kernel
theorem dX0_lookAtSheetAs_24 : decode cX0_lookAtSheetAs 24 = .ok (.iconst 5, 1) := by decide +kernel
theorem dX0_lookAtSheetAs_25 : decode cX0_lookAtSheetAs 25 = .ok (.imul, 1) := by decide +kernel
theorem dX0_lookAtSheetAs_26 : decode cX0_lookAtSheetAs 26 = .ok (.iload 4, 2) := by decide +kernel
theorem dX0_lookAtSheetAs_28 : decode cX0_lookAtSheetAs 28 = .ok (.iadd, 1) := by decide +kernel
theorem dX0_lookAtSheetAs_29 : decode cX0_lookAtSheetAs 29 = .ok (.aload_n 0, 1) := by decide +kernel
theorem dX0_lookAtSheetAs_30 : decode cX0_lookAtSheetAs 30 = .ok (.getfield 9, 3) := by decide +kernel
theorem dX0_lookAtSheetAs_33 : decode cX0_lookAtSheetAs 33 = .ok (.iload_n 1, 1) := by decide +kernel
theorem dX0_lookAtSheetAs_34 : decode cX0_lookAtSheetAs 34 = .ok (.iload_n 2, 1) := by decide +kernel
theorem dX0_lookAtSheetAs_35 : decode cX0_lookAtSheetAs 35 = .ok (.iload_n 3, 1) := by decide +kernel
theorem dX0_lookAtSheetAs_36 : decode cX0_lookAtSheetAs 36 = .ok (.iload 4, 2) := by decide +kernel
theorem dX0_lookAtSheetAs_38 : decode cX0_lookAtSheetAs 38 = .ok (.invokevirtual 46, 3) := by decide +kernel
theorem dX0_lookAtSheetAs_41 : decode cX0_lookAtSheetAs 41 = .ok (.iastore, 1) := by decide +kernel
theorem dX0_lookAtSheetAs_42 : decode cX0_lookAtSheetAs 42 = .ok (.iinc 4 1, 3) := by decide +kernel
theorem dX0_lookAtSheetAs_45 : decode cX0_lookAtSheetAs 45 = .ok (.goto (-32), 3) := by decide +kernel
theorem dX0_lookAtSheetAs_48 : decode cX0_lookAtSheetAs 48 = .ok (.return_, 1) := by decide +kernel
theorem dX0_clear_0 : decode cX0_clear 0 = .ok (.iconst 0, 1) := by decide +kernel
theorem dX0_clear_1 : decode cX0_clear 1 = .ok (.istore_n 1, 1) := by decide +kernel
theorem dX0_clear_2 : decode cX0_clear 2 = .ok (.iload_n 1, 1) := by decide +kernel
theorem dX0_clear_3 : decode cX0_clear 3 = .ok (.iconst 5, 1) := by decide +kernel
theorem dX0_clear_4 : decode cX0_clear 4 = .ok (.if_icmp .ge 16, 3) := by decide +kernel
theorem dX0_clear_7 : decode cX0_clear 7 = .ok (.aload_n 0, 1) := by decide +kernel
theorem dX0_clear_8 : decode cX0_clear 8 = .ok (.getfield 19, 3) := by decide +kernel
theorem dX0_clear_11 : decode cX0_clear 11 = .ok (.iload_n 1, 1) := by decide +kernel
theorem dX0_clear_12 : decode cX0_clear 12 = .ok (.lconst 1, 1) := by decide +kernel
theorem dX0_clear_13 : decode cX0_clear 13 = .ok (.lastore, 1) := by decide +kernel
theorem dX0_clear_14 : decode cX0_clear 14 = .ok (.iinc 1 1, 3) := by decide +kernel
theorem dX0_clear_17 : decode cX0_clear 17 = .ok (.goto (-15), 3) := by decide +kernel
theorem dX0_clear_20 : decode cX0_clear 20 = .ok (.aload_n 0, 1) := by decide +kernel
theorem dX0_clear_21 : decode cX0_clear 21 = .ok (.lconst 1, 1) := by decide +kernel
theorem dX0_clear_22 : decode cX0_clear 22 = .ok (.putfield 50, 3) := by decide +kernel
theorem dX0_clear_25 : decode cX0_clear 25 = .ok (.aload_n 0, 1) := by decide +kernel
theorem dX0_clear_26 : decode cX0_clear 26 = .ok (.iconst 0, 1) := by decide +kernel
theorem dX0_clear_27 : decode cX0_clear 27 = .ok (.putfield 54, 3) := by decide +kernel
theorem dX0_clear_30 : decode cX0_clear 30 = .ok (.return_, 1) := by decide +kernel
set_option maxRecDepth 20000 in
theorem ggX0_add_X6_within : GoodIn wsX0_add wsX6_within := goodIn_r _ [8] (by decide +kernel) (by decide +kernel)
set_option maxRecDepth 20000 in
theorem gX0_add_X6_within_n42 : GoodIn wsX0_add (wsX6_within) := ggX0_add_X6_within
theorem dX0_add_0 : decode cX0_add 0 = .ok (.iload_n 1, 1) := by decide +kernel
theorem dX0_add_1 : decode cX0_add 1 = .ok (.bipush 8, 2) := by decide +kernel
theorem dX0_add_3 : decode cX0_add 3 = .ok (.invokestatic 42, 3) := by decide +kernel
theorem dX0_add_6 : decode cX0_add 6 = .ok (.ifCond .eq 12, 3) := by decide +kernel
theorem dX0_add_9 : decode cX0_add 9 = .ok (.aload_n 0, 1) := by decide +kernel
theorem dX0_add_10 : decode cX0_add 10 = .ok (.getfield 54, 3) := by decide +kernel
theorem dX0_add_13 : decode cX0_add 13 = .ok (.bipush 8, 2) := by decide +kernel
theorem dX0_add_15 : decode cX0_add 15 = .ok (.if_icmp .lt 4, 3) := by decide +kernel
theorem dX0_add_18 : decode cX0_add 18 = .ok (.return_, 1) := by decide +kernel
theorem dX0_add_19 : decode cX0_add 19 = .ok (.iconst 0, 1) := by decide +kernel
theorem dX0_add_20 : decode cX0_add 20 = .ok (.istore_n 2, 1) := by decide +kernel
theorem dX0_add_21 : decode cX0_add 21 = .ok (.iload_n 2, 1) := by decide +kernel
theorem dX0_add_22 : decode cX0_add 22 = .ok (.iconst 5, 1) := by decide +kernel
theorem dX0_add_23 : decode cX0_add 23 = .ok (.if_icmp .ge 29, 3) := by decide +kernel
theorem dX0_add_26 : decode cX0_add 26 = .ok (.aload_n 0, 1) := by decide +kernel
theorem dX0_add_27 : decode cX0_add 27 = .ok (.getfield 19, 3) := by decide +kernel
theorem dX0_add_30 : decode cX0_add 30 = .ok (.iload_n 2, 1) := by decide +kernel
theorem dX0_add_31 : decode cX0_add 31 = .ok (.dup2, 1) := by decide +kernel
theorem dX0_add_32 : decode cX0_add 32 = .ok (.laload, 1) := by decide +kernel
theorem dX0_add_33 : decode cX0_add 33 = .ok (.aload_n 0, 1) := by decide +kernel
theorem dX0_add_34 : decode cX0_add 34 = .ok (.getfield 15, 3) := by decide +kernel
theorem dX0_add_37 : decode cX0_add 37 = .ok (.iload_n 1, 1) := by decide +kernel
theorem dX0_add_38 : decode cX0_add 38 = .ok (.iconst 5, 1) := by decide +kernel
theorem dX0_add_39 : decode cX0_add 39 = .ok (.imul, 1) := by decide +kernel
theorem dX0_add_40 : decode cX0_add 40 = .ok (.iload_n 2, 1) := by decide +kernel
theorem dX0_add_41 : decode cX0_add 41 = .ok (.iadd, 1) := by decide +kernel
theorem dX0_add_42 : decode cX0_add 42 = .ok (.iaload, 1) := by decide +kernel
theorem dX0_add_43 : decode cX0_add 43 = .ok (.i2l, 1) := by decide +kernel
theorem dX0_add_44 : decode cX0_add 44 = .ok (.lmul, 1) := by decide +kernel
theorem dX0_add_45 : decode cX0_add 45 = .ok (.lastore, 1) := by decide +kernel
theorem dX0_add_46 : decode cX0_add 46 = .ok (.iinc 2 1, 3) := by decide +kernel
theorem dX0_add_49 : decode cX0_add 49 = .ok (.goto (-28), 3) := by decide +kernel
theorem dX0_add_52 : decode cX0_add 52 = .ok (.aload_n 0, 1) := by decide +kernel
theorem dX0_add_53 : decode cX0_add 53 = .ok (.dup, 1) := by decide +kernel
theorem dX0_add_54 : decode cX0_add 54 = .ok (.getfield 50, 3) := by decide +kernel
theorem dX0_add_57 : decode cX0_add 57 = .ok (.ldc2_w 57, 3) := by decide +kernel
theorem dX0_add_60 : decode cX0_add 60 = .ok (.lmul, 1) := by decide +kernel
theorem dX0_add_61 : decode cX0_add 61 = .ok (.putfield 50, 3) := by decide +kernel
theorem dX0_add_64 : decode cX0_add 64 = .ok (.aload_n 0, 1) := by decide +kernel
theorem dX0_add_65 : decode cX0_add 65 = .ok (.dup, 1) := by decide +kernel
theorem dX0_add_66 : decode cX0_add 66 = .ok (.getfield 54, 3) := by decide +kernel
theorem dX0_add_69 : decode cX0_add 69 = .ok (.iconst 1, 1) := by decide +kernel
theorem dX0_add_70 : decode cX0_add 70 = .ok (.iadd, 1) := by decide +kernel
theorem dX0_add_71 : decode cX0_add 71 = .ok (.putfield 54, 3) := by decide +kernel
theorem dX0_add_74 : decode cX0_add 74 = .ok (.return_, 1) := by decide +kernel
set_option maxRecDepth 20000 in
theorem ggX0_pileStack_X0_pileStackWithout : GoodIn wsX0_pileStack wsX0_pileStackWithout := goodIn_r _ [5, 6, 7, 8, 9, 10, 4, 11, 12, 13, 14, 15, 16, 17, 18, 19, 20, 21, 22, 23, 24, 25, 26, 27, 28, 29, 30, 31, 32, 33, 34, 35, 36, 37, 38, 39, 40, 41, 42, 43, 44, 45, 46, 47, 48, 49, 50] (by decide +kernel) (by decide +kernel)
set_option maxRecDepth 20000 in
theorem gX0_pileStack_X0_pileStackWithout : GoodIn wsX0_pileStack (wsV RX0 59 RX0 yX0_pileStackWithout wsX0_pileStackWithout) := goodIn_app (goodIn_of _ (by decide +kernel)) ggX0_pileStack_X0_pileStackWithout
theorem dX0_pileStack_0 : decode cX0_pileStack 0 = .ok (.aload_n 0, 1) := by decide +kernel
theorem dX0_pileStack_1 : decode cX0_pileStack 1 = .ok (.iload_n 1, 1) := by decide +kernel
theorem dX0_pileStack_2 : decode cX0_pileStack 2 = .ok (.iconst (-1), 1) := by decide +kernel
theorem dX0_pileStack_3 : decode cX0_pileStack 3 = .ok (.invokevirtual 59, 3) := by decide +kernel
theorem dX0_pileStack_6 : decode cX0_pileStack 6 = .ok (.return_, 1) := by decide +kernel
set_option maxRecDepth 20000 in
theorem ggX0_pileStackWithout_X0_clear : GoodIn wsX0_pileStackWithout wsX0_clear := goodIn_r _ [7, 8, 9, 10, 32, 33, 34, 35, 36] (by decide +kernel) (by decide +kernel)
set_option maxRecDepth 20000 in
theorem gX0_pileStackWithout_X0_clear : GoodIn wsX0_pileStackWithout (wsV RX0 23 RX0 yX0_clear wsX0_clear) := goodIn_app (goodIn_of _ (by decide +kernel)) ggX0_pileStackWithout_X0_clear
set_option maxRecDepth 20000 in
theorem ggX0_pileStackWithout_X3_hasStack : GoodIn wsX0_pileStackWithout wsX3_hasStack := goodIn_r _ [15, 16, 17, 18, 19, 37, 38, 39, 40, 41, 42, 43, 44, 45, 46] (by decide +kernel) (by decide +kernel)
set_option maxRecDepth 20000 in
theorem gX0_pileStackWithout_X3_hasStack : GoodIn wsX0_pileStackWithout (wsV RX0 63 RX3 yX3_hasStack wsX3_hasStack) := goodIn_app (goodIn_of _ (by decide +kernel)) ggX0_pileStackWithout_X3_hasStack
set_option maxRecDepth 20000 in
theorem ggX0_pileStackWithout_X3_sheetAt : GoodIn wsX0_pileStackWithout wsX3_sheetAt := goodIn_r _ [23, 24, 25, 12, 13, 14, 15, 16, 17, 18, 19, 37, 38, 39, 40, 41, 42, 43, 44, 45, 46] (by decide +kernel) (by decide +kernel)
set_option maxRecDepth 20000 in
theorem gX0_pileStackWithout_X3_sheetAt : GoodIn wsX0_pileStackWithout (wsV RX0 70 RX3 yX3_sheetAt wsX3_sheetAt) := goodIn_app (goodIn_of _ (by decide +kernel)) ggX0_pileStackWithout_X3_sheetAt
set_option maxRecDepth 20000 in
theorem ggX0_pileStackWithout_X0_add : GoodIn wsX0_pileStackWithout wsX0_add := goodIn_r _ [29, 10, 8, 30, 9, 31, 17, 18, 19, 32, 33, 34, 35, 36] (by decide +kernel) (by decide +kernel)
set_option maxRecDepth 20000 in
theorem gX0_pileStackWithout_X0_add : GoodIn wsX0_pileStackWithout (wsV RX0 74 RX0 yX0_add wsX0_add) := goodIn_app (goodIn_of _ (by decide +kernel)) ggX0_pileStackWithout_X0_add
theorem dX0_pileStackWithout_0 : decode cX0_pileStackWithout 0 = .ok (.aload_n 0, 1) := by decide +kernel
theorem dX0_pileStackWithout_1 : decode cX0_pileStackWithout 1 = .ok (.invokevirtual 23, 3) := by decide +kernel
theorem dX0_pileStackWithout_4 : decode cX0_pileStackWithout 4 = .ok (.aload_n 0, 1) := by decide +kernel
theorem dX0_pileStackWithout_5 : decode cX0_pileStackWithout 5 = .ok (.getfield 9, 3) := by decide +kernel
theorem dX0_pileStackWithout_8 : decode cX0_pileStackWithout 8 = .ok (.iload_n 1, 1) := by decide +kernel
theorem dX0_pileStackWithout_9 : decode cX0_pileStackWithout 9 = .ok (.invokevirtual 63, 3) := by decide +kernel
theorem dX0_pileStackWithout_12 : decode cX0_pileStackWithout 12 = .ok (.ifCond .ne 4, 3) := by decide +kernel
theorem dX0_pileStackWithout_15 : decode cX0_pileStackWithout 15 = .ok (.return_, 1) := by decide +kernel
theorem dX0_pileStackWithout_16 : decode cX0_pileStackWithout 16 = .ok (.iconst 0, 1) := by decide +kernel
theorem dX0_pileStackWithout_17 : decode cX0_pileStackWithout 17 = .ok (.istore_n 3, 1) := by decide +kernel
theorem dX0_pileStackWithout_18 : decode cX0_pileStackWithout 18 = .ok (.iload_n 3, 1) := by decide +kernel
theorem dX0_pileStackWithout_19 : decode cX0_pileStackWithout 19 = .ok (.aload_n 0, 1) := by decide +kernel
theorem dX0_pileStackWithout_20 : decode cX0_pileStackWithout 20 = .ok (.getfield 9, 3) := by decide +kernel
theorem dX0_pileStackWithout_23 : decode cX0_pileStackWithout 23 = .ok (.getfield 67, 3) := by decide +kernel
theorem dX0_pileStackWithout_26 : decode cX0_pileStackWithout 26 = .ok (.iload_n 1, 1) := by decide +kernel
theorem dX0_pileStackWithout_27 : decode cX0_pileStackWithout 27 = .ok (.iaload, 1) := by decide +kernel
theorem dX0_pileStackWithout_28 : decode cX0_pileStackWithout 28 = .ok (.if_icmp .ge 27, 3) := by decide +kernel
theorem dX0_pileStackWithout_31 : decode cX0_pileStackWithout 31 = .ok (.iload_n 3, 1) := by decide +kernel
theorem dX0_pileStackWithout_32 : decode cX0_pileStackWithout 32 = .ok (.iload_n 2, 1) := by decide +kernel
theorem dX0_pileStackWithout_33 : decode cX0_pileStackWithout 33 = .ok (.if_icmp .eq 16, 3) := by decide +kernel
theorem dX0_pileStackWithout_36 : decode cX0_pileStackWithout 36 = .ok (.aload_n 0, 1) := by decide +kernel
theorem dX0_pileStackWithout_37 : decode cX0_pileStackWithout 37 = .ok (.aload_n 0, 1) := by decide +kernel
theorem dX0_pileStackWithout_38 : decode cX0_pileStackWithout 38 = .ok (.getfield 9, 3) := by decide +kernel
theorem dX0_pileStackWithout_41 : decode cX0_pileStackWithout 41 = .ok (.iload_n 1, 1) := by decide +kernel
theorem dX0_pileStackWithout_42 : decode cX0_pileStackWithout 42 = .ok (.iload_n 3, 1) := by decide +kernel
theorem dX0_pileStackWithout_43 : decode cX0_pileStackWithout 43 = .ok (.invokevirtual 70, 3) := by decide +kernel
theorem dX0_pileStackWithout_46 : decode cX0_pileStackWithout 46 = .ok (.invokevirtual 74, 3) := by decide +kernel
theorem dX0_pileStackWithout_49 : decode cX0_pileStackWithout 49 = .ok (.iinc 3 1, 3) := by decide +kernel
theorem dX0_pileStackWithout_52 : decode cX0_pileStackWithout 52 = .ok (.goto (-34), 3) := by decide +kernel
theorem dX0_pileStackWithout_55 : decode cX0_pileStackWithout 55 = .ok (.return_, 1) := by decide +kernel
set_option maxRecDepth 20000 in
theorem ggX0_pileDrawn_X0_clear : GoodIn wsX0_pileDrawn wsX0_clear := goodIn_r _ [10, 11, 12, 13, 23, 24, 25, 26, 27] (by decide +kernel) (by decide +kernel)
set_option maxRecDepth 20000 in
theorem gX0_pileDrawn_X0_clear : GoodIn wsX0_pileDrawn (wsV RX0 23 RX0 yX0_clear wsX0_clear) := goodIn_app (goodIn_of _ (by decide +kernel)) ggX0_pileDrawn_X0_clear
set_option maxRecDepth 20000 in
theorem ggX0_pileDrawn_X0_add : GoodIn wsX0_pileDrawn wsX0_add := goodIn_r _ [17, 13, 11, 18, 12, 19, 20, 21, 22, 23, 24, 25, 26, 27] (by decide +kernel) (by decide +kernel)
set_option maxRecDepth 20000 in
theorem gX0_pileDrawn_X0_add : GoodIn wsX0_pileDrawn (wsV RX0 74 RX0 yX0_add wsX0_add) := goodIn_app (goodIn_of _ (by decide +kernel)) ggX0_pileDrawn_X0_add
theorem dX0_pileDrawn_0 : decode cX0_pileDrawn 0 = .ok (.aload_n 0, 1) := by decide +kernel
theorem dX0_pileDrawn_1 : decode cX0_pileDrawn 1 = .ok (.invokevirtual 23, 3) := by decide +kernel
theorem dX0_pileDrawn_4 : decode cX0_pileDrawn 4 = .ok (.iload_n 2, 1) := by decide +kernel
theorem dX0_pileDrawn_5 : decode cX0_pileDrawn 5 = .ok (.istore_n 3, 1) := by decide +kernel
theorem dX0_pileDrawn_6 : decode cX0_pileDrawn 6 = .ok (.iconst 0, 1) := by decide +kernel
theorem dX0_pileDrawn_7 : decode cX0_pileDrawn 7 = .ok (.istore 4, 2) := by decide +kernel
theorem dX0_pileDrawn_9 : decode cX0_pileDrawn 9 = .ok (.iload 4, 2) := by decide +kernel
theorem dX0_pileDrawn_11 : decode cX0_pileDrawn 11 = .ok (.iload_n 1, 1) := by decide +kernel
theorem dX0_pileDrawn_12 : decode cX0_pileDrawn 12 = .ok (.if_icmp .ge 51, 3) := by decide +kernel
theorem dX0_pileDrawn_15 : decode cX0_pileDrawn 15 = .ok (.iload_n 3, 1) := by decide +kernel
theorem dX0_pileDrawn_16 : decode cX0_pileDrawn 16 = .ok (.ldc 78, 2) := by decide +kernel
theorem dX0_pileDrawn_18 : decode cX0_pileDrawn 18 = .ok (.imul, 1) := by decide +kernel
theorem dX0_pileDrawn_19 : decode cX0_pileDrawn 19 = .ok (.sipush 12345, 3) := by decide +kernel
theorem dX0_pileDrawn_22 : decode cX0_pileDrawn 22 = .ok (.iadd, 1) := by decide +kernel
theorem dX0_pileDrawn_23 : decode cX0_pileDrawn 23 = .ok (.istore_n 3, 1) := by decide +kernel
theorem dX0_pileDrawn_24 : decode cX0_pileDrawn 24 = .ok (.iload_n 3, 1) := by decide +kernel
theorem dX0_pileDrawn_25 : decode cX0_pileDrawn 25 = .ok (.ldc 79, 2) := by decide +kernel
theorem dX0_pileDrawn_27 : decode cX0_pileDrawn 27 = .ok (.iand, 1) := by decide +kernel
theorem dX0_pileDrawn_28 : decode cX0_pileDrawn 28 = .ok (.ldc 80, 2) := by decide +kernel
theorem dX0_pileDrawn_30 : decode cX0_pileDrawn 30 = .ok (.idiv, 1) := by decide +kernel
theorem dX0_pileDrawn_31 : decode cX0_pileDrawn 31 = .ok (.istore 5, 2) := by decide +kernel
theorem dX0_pileDrawn_33 : decode cX0_pileDrawn 33 = .ok (.aload_n 0, 1) := by decide +kernel
theorem dX0_pileDrawn_34 : decode cX0_pileDrawn 34 = .ok (.getfield 9, 3) := by decide +kernel
theorem dX0_pileDrawn_37 : decode cX0_pileDrawn 37 = .ok (.getfield 26, 3) := by decide +kernel
theorem dX0_pileDrawn_40 : decode cX0_pileDrawn 40 = .ok (.ifCond .le 17, 3) := by decide +kernel
theorem dX0_pileDrawn_43 : decode cX0_pileDrawn 43 = .ok (.aload_n 0, 1) := by decide +kernel
theorem dX0_pileDrawn_44 : decode cX0_pileDrawn 44 = .ok (.iload 5, 2) := by decide +kernel
theorem dX0_pileDrawn_46 : decode cX0_pileDrawn 46 = .ok (.aload_n 0, 1) := by decide +kernel
theorem dX0_pileDrawn_47 : decode cX0_pileDrawn 47 = .ok (.getfield 9, 3) := by decide +kernel
theorem dX0_pileDrawn_50 : decode cX0_pileDrawn 50 = .ok (.getfield 26, 3) := by decide +kernel
theorem dX0_pileDrawn_53 : decode cX0_pileDrawn 53 = .ok (.irem, 1) := by decide +kernel
theorem dX0_pileDrawn_54 : decode cX0_pileDrawn 54 = .ok (.invokevirtual 74, 3) := by decide +kernel
theorem dX0_pileDrawn_57 : decode cX0_pileDrawn 57 = .ok (.iinc 4 1, 3) := by decide +kernel
theorem dX0_pileDrawn_60 : decode cX0_pileDrawn 60 = .ok (.goto (-51), 3) := by decide +kernel
theorem dX0_pileDrawn_63 : decode cX0_pileDrawn 63 = .ok (.return_, 1) := by decide +kernel
set_option maxRecDepth 20000 in
theorem ggX0_seen_X6_within : GoodIn wsX0_seen wsX6_within := goodIn_r _ [7] (by decide +kernel) (by decide +kernel)
set_option maxRecDepth 20000 in
theorem gX0_seen_X6_within_n42 : GoodIn wsX0_seen (wsX6_within) := ggX0_seen_X6_within
set_option maxRecDepth 20000 in
theorem ggX0_seen_X0_powerByAge : GoodIn wsX0_seen wsX0_powerByAge := goodIn_r _ [11] (by decide +kernel) (by decide +kernel)
set_option maxRecDepth 20000 in
theorem gX0_seen_X0_powerByAge : GoodIn wsX0_seen (va_wsS RX0 87 yX0_powerByAge wsX0_powerByAge) := goodIn_app (goodIn_of _ (by decide +kernel)) ggX0_seen_X0_powerByAge
theorem dX0_seen_0 : decode cX0_seen 0 = .ok (.iload_n 1, 1) := by decide +kernel
theorem dX0_seen_1 : decode cX0_seen 1 = .ok (.iconst 3, 1) := by decide +kernel
theorem dX0_seen_2 : decode cX0_seen 2 = .ok (.invokestatic 42, 3) := by decide +kernel
theorem dX0_seen_5 : decode cX0_seen 5 = .ok (.ifCond .eq 11, 3) := by decide +kernel
theorem dX0_seen_8 : decode cX0_seen 8 = .ok (.iload_n 3, 1) := by decide +kernel
theorem dX0_seen_9 : decode cX0_seen 9 = .ok (.iconst 3, 1) := by decide +kernel
theorem dX0_seen_10 : decode cX0_seen 10 = .ok (.invokestatic 42, 3) := by decide +kernel
theorem dX0_seen_13 : decode cX0_seen 13 = .ok (.ifCond .ne 5, 3) := by decide +kernel
theorem dX0_seen_16 : decode cX0_seen 16 = .ok (.lconst 0, 1) := by decide +kernel
theorem dX0_seen_17 : decode cX0_seen 17 = .ok (.lreturn, 1) := by decide +kernel
theorem dX0_seen_18 : decode cX0_seen 18 = .ok (.lconst 0, 1) := by decide +kernel
theorem dX0_seen_19 : decode cX0_seen 19 = .ok (.lstore 4, 2) := by decide +kernel
theorem dX0_seen_21 : decode cX0_seen 21 = .ok (.iconst 0, 1) := by decide +kernel
theorem dX0_seen_22 : decode cX0_seen 22 = .ok (.istore 6, 2) := by decide +kernel
theorem dX0_seen_24 : decode cX0_seen 24 = .ok (.iload 6, 2) := by decide +kernel
theorem dX0_seen_26 : decode cX0_seen 26 = .ok (.iconst 5, 1) := by decide +kernel
theorem dX0_seen_27 : decode cX0_seen 27 = .ok (.if_icmp .ge 63, 3) := by decide +kernel
theorem dX0_seen_30 : decode cX0_seen 30 = .ok (.aload_n 0, 1) := by decide +kernel
theorem dX0_seen_31 : decode cX0_seen 31 = .ok (.getfield 9, 3) := by decide +kernel
theorem dX0_seen_34 : decode cX0_seen 34 = .ok (.getfield 81, 3) := by decide +kernel
theorem dX0_seen_37 : decode cX0_seen 37 = .ok (.iload_n 1, 1) := by decide +kernel
theorem dX0_seen_38 : decode cX0_seen 38 = .ok (.iconst 5, 1) := by decide +kernel
theorem dX0_seen_39 : decode cX0_seen 39 = .ok (.imul, 1) := by decide +kernel
theorem dX0_seen_40 : decode cX0_seen 40 = .ok (.iload 6, 2) := by decide +kernel
theorem dX0_seen_42 : decode cX0_seen 42 = .ok (.iadd, 1) := by decide +kernel
theorem dX0_seen_43 : decode cX0_seen 43 = .ok (.iaload, 1) := by decide +kernel
theorem dX0_seen_44 : decode cX0_seen 44 = .ok (.aload_n 0, 1) := by decide +kernel
theorem dX0_seen_45 : decode cX0_seen 45 = .ok (.getfield 9, 3) := by decide +kernel
theorem dX0_seen_48 : decode cX0_seen 48 = .ok (.getfield 84, 3) := by decide +kernel
theorem dX0_seen_51 : decode cX0_seen 51 = .ok (.iload_n 3, 1) := by decide +kernel
theorem dX0_seen_52 : decode cX0_seen 52 = .ok (.iconst 5, 1) := by decide +kernel
theorem dX0_seen_53 : decode cX0_seen 53 = .ok (.imul, 1) := by decide +kernel
theorem dX0_seen_54 : decode cX0_seen 54 = .ok (.iload 6, 2) := by decide +kernel
theorem dX0_seen_56 : decode cX0_seen 56 = .ok (.iadd, 1) := by decide +kernel
theorem dX0_seen_57 : decode cX0_seen 57 = .ok (.iaload, 1) := by decide +kernel
theorem dX0_seen_58 : decode cX0_seen 58 = .ok (.imul, 1) := by decide +kernel
theorem dX0_seen_59 : decode cX0_seen 59 = .ok (.istore 7, 2) := by decide +kernel
theorem dX0_seen_61 : decode cX0_seen 61 = .ok (.lload 4, 2) := by decide +kernel
theorem dX0_seen_63 : decode cX0_seen 63 = .ok (.aload_n 0, 1) := by decide +kernel
theorem dX0_seen_64 : decode cX0_seen 64 = .ok (.getfield 19, 3) := by decide +kernel
theorem dX0_seen_67 : decode cX0_seen 67 = .ok (.iload 6, 2) := by decide +kernel
theorem dX0_seen_69 : decode cX0_seen 69 = .ok (.laload, 1) := by decide +kernel
theorem dX0_seen_70 : decode cX0_seen 70 = .ok (.iload 7, 2) := by decide +kernel
theorem dX0_seen_72 : decode cX0_seen 72 = .ok (.iload_n 2, 1) := by decide +kernel
theorem dX0_seen_73 : decode cX0_seen 73 = .ok (.iload 6, 2) := by decide +kernel
theorem dX0_seen_75 : decode cX0_seen 75 = .ok (.invokestatic 87, 3) := by decide +kernel
theorem dX0_seen_78 : decode cX0_seen 78 = .ok (.imul, 1) := by decide +kernel
theorem dX0_seen_79 : decode cX0_seen 79 = .ok (.i2l, 1) := by decide +kernel
theorem dX0_seen_80 : decode cX0_seen 80 = .ok (.lmul, 1) := by decide +kernel
theorem dX0_seen_81 : decode cX0_seen 81 = .ok (.ladd, 1) := by decide +kernel
theorem dX0_seen_82 : decode cX0_seen 82 = .ok (.lstore 4, 2) := by decide +kernel
theorem dX0_seen_84 : decode cX0_seen 84 = .ok (.iinc 6 1, 3) := by decide +kernel
theorem dX0_seen_87 : decode cX0_seen 87 = .ok (.goto (-63), 3) := by decide +kernel
theorem dX0_seen_90 : decode cX0_seen 90 = .ok (.lload 4, 2) := by decide +kernel
theorem dX0_seen_92 : decode cX0_seen 92 = .ok (.lreturn, 1) := by decide +kernel
theorem dX0_powerByAge_0 : decode cX0_powerByAge 0 = .ok (.iload_n 0, 1) := by decide +kernel
theorem dX0_powerByAge_1 : decode cX0_powerByAge 1 = .ok (.ifCond .ne 5, 3) := by decide +kernel
theorem dX0_powerByAge_4 : decode cX0_powerByAge 4 = .ok (.iconst 1, 1) := by decide +kernel
theorem dX0_powerByAge_5 : decode cX0_powerByAge 5 = .ok (.ireturn, 1) := by decide +kernel
theorem dX0_powerByAge_6 : decode cX0_powerByAge 6 = .ok (.iload_n 1, 1) := by decide +kernel
theorem dX0_powerByAge_7 : decode cX0_powerByAge 7 = .ok (.iconst 2, 1) := by decide +kernel
theorem dX0_powerByAge_8 : decode cX0_powerByAge 8 = .ok (.if_icmp .ge 10, 3) := by decide +kernel
theorem dX0_powerByAge_11 : decode cX0_powerByAge 11 = .ok (.bipush 10, 2) := by decide +kernel
theorem dX0_powerByAge_13 : decode cX0_powerByAge 13 = .ok (.iload_n 0, 1) := by decide +kernel
theorem dX0_powerByAge_14 : decode cX0_powerByAge 14 = .ok (.isub, 1) := by decide +kernel
theorem dX0_powerByAge_15 : decode cX0_powerByAge 15 = .ok (.goto 5, 3) := by decide +kernel
theorem dX0_powerByAge_18 : decode cX0_powerByAge 18 = .ok (.bipush 10, 2) := by decide +kernel
theorem dX0_powerByAge_20 : decode cX0_powerByAge 20 = .ok (.ireturn, 1) := by decide +kernel
theorem dX0_wholeByAge_0 : decode cX0_wholeByAge 0 = .ok (.iload_n 1, 1) := by decide +kernel
theorem dX0_wholeByAge_1 : decode cX0_wholeByAge 1 = .ok (.ifCond .ne 10, 3) := by decide +kernel
theorem dX0_wholeByAge_4 : decode cX0_wholeByAge 4 = .ok (.aload_n 0, 1) := by decide +kernel
theorem dX0_wholeByAge_5 : decode cX0_wholeByAge 5 = .ok (.getfield 50, 3) := by decide +kernel
theorem dX0_wholeByAge_8 : decode cX0_wholeByAge 8 = .ok (.goto 11, 3) := by decide +kernel
theorem dX0_wholeByAge_11 : decode cX0_wholeByAge 11 = .ok (.aload_n 0, 1) := by decide +kernel
theorem dX0_wholeByAge_12 : decode cX0_wholeByAge 12 = .ok (.getfield 50, 3) := by decide +kernel
theorem dX0_wholeByAge_15 : decode cX0_wholeByAge 15 = .ok (.ldc2_w 90, 3) := by decide +kernel
theorem dX0_wholeByAge_18 : decode cX0_wholeByAge 18 = .ok (.lmul, 1) := by decide +kernel
theorem dX0_wholeByAge_19 : decode cX0_wholeByAge 19 = .ok (.lreturn, 1) := by decide +kernel
set_option maxRecDepth 20000 in
theorem ggX0_shadeOf_X0_seen : GoodIn wsX0_shadeOf wsX0_seen := goodIn_r _ [5, 6, 7, 8, 9, 10, 11, 12, 13, 14, 4, 15, 24, 25, 26, 27, 28, 29, 30, 31, 32, 33, 34, 35, 36, 37, 38] (by decide +kernel) (by decide +kernel)
set_option maxRecDepth 20000 in
theorem gX0_shadeOf_X0_seen : GoodIn wsX0_shadeOf (wsV RX0 92 RX0 yX0_seen wsX0_seen) := goodIn_app (goodIn_of _ (by decide +kernel)) ggX0_shadeOf_X0_seen
set_option maxRecDepth 20000 in
theorem ggX0_shadeOf_X0_wholeByAge : GoodIn wsX0_shadeOf wsX0_wholeByAge := goodIn_r _ [19, 20, 21, 24, 25, 26, 27, 28] (by decide +kernel) (by decide +kernel)
set_option maxRecDepth 20000 in
theorem gX0_shadeOf_X0_wholeByAge : GoodIn wsX0_shadeOf (wsV RX0 96 RX0 yX0_wholeByAge wsX0_wholeByAge) := goodIn_app (goodIn_of _ (by decide +kernel)) ggX0_shadeOf_X0_wholeByAge
set_option maxRecDepth 20000 in
theorem ggX0_shadeOf_X6_cut : GoodIn wsX0_shadeOf wsX6_cut := goodIn_r _ [23] (by decide +kernel) (by decide +kernel)
set_option maxRecDepth 20000 in
theorem gX0_shadeOf_X6_cut_n100 : GoodIn wsX0_shadeOf (wsX6_cut) := ggX0_shadeOf_X6_cut
theorem dX0_shadeOf_0 : decode cX0_shadeOf 0 = .ok (.aload_n 0, 1) := by decide +kernel
theorem dX0_shadeOf_1 : decode cX0_shadeOf 1 = .ok (.iload_n 1, 1) := by decide +kernel
theorem dX0_shadeOf_2 : decode cX0_shadeOf 2 = .ok (.iload_n 2, 1) := by decide +kernel
theorem dX0_shadeOf_3 : decode cX0_shadeOf 3 = .ok (.iload_n 3, 1) := by decide +kernel
theorem dX0_shadeOf_4 : decode cX0_shadeOf 4 = .ok (.invokevirtual 92, 3) := by decide +kernel
theorem dX0_shadeOf_7 : decode cX0_shadeOf 7 = .ok (.aload_n 0, 1) := by decide +kernel
theorem dX0_shadeOf_8 : decode cX0_shadeOf 8 = .ok (.iload_n 2, 1) := by decide +kernel
theorem dX0_shadeOf_9 : decode cX0_shadeOf 9 = .ok (.invokevirtual 96, 3) := by decide +kernel
theorem dX0_shadeOf_12 : decode cX0_shadeOf 12 = .ok (.invokestatic 100, 3) := by decide +kernel
theorem dX0_shadeOf_15 : decode cX0_shadeOf 15 = .ok (.l2i, 1) := by decide +kernel
theorem dX0_shadeOf_16 : decode cX0_shadeOf 16 = .ok (.ireturn, 1) := by decide +kernel
set_option maxRecDepth 20000 in
theorem ggX0_shadesInto_X0_shadeOf : GoodIn wsX0_shadesInto wsX0_shadeOf := goodIn_r _ [5, 6, 7, 8, 4, 9, 10, 11, 12, 13, 14, 15, 16, 17, 18, 19, 20, 21, 22, 23, 24, 25, 26, 27, 28, 29, 30, 31, 32, 33, 34, 35, 36, 37, 38, 39, 40, 41, 42] (by decide +kernel) (by decide +kernel)
set_option maxRecDepth 20000 in
theorem gX0_shadesInto_X0_shadeOf : GoodIn wsX0_shadesInto (wsV RX0 104 RX0 yX0_shadeOf wsX0_shadeOf) := goodIn_app (goodIn_of _ (by decide +kernel)) ggX0_shadesInto_X0_shadeOf
theorem dX0_shadesInto_0 : decode cX0_shadesInto 0 = .ok (.iconst 0, 1) := by decide +kernel
theorem dX0_shadesInto_1 : decode cX0_shadesInto 1 = .ok (.istore 4, 2) := by decide +kernel
theorem dX0_shadesInto_3 : decode cX0_shadesInto 3 = .ok (.iload 4, 2) := by decide +kernel
theorem dX0_shadesInto_5 : decode cX0_shadesInto 5 = .ok (.iconst 3, 1) := by decide +kernel
theorem dX0_shadesInto_6 : decode cX0_shadesInto 6 = .ok (.if_icmp .ge 28, 3) := by decide +kernel
theorem dX0_shadesInto_9 : decode cX0_shadesInto 9 = .ok (.iload 4, 2) := by decide +kernel
theorem dX0_shadesInto_11 : decode cX0_shadesInto 11 = .ok (.aload_n 1, 1) := by decide +kernel
theorem dX0_shadesInto_12 : decode cX0_shadesInto 12 = .ok (.arraylength, 1) := by decide +kernel
theorem dX0_shadesInto_13 : decode cX0_shadesInto 13 = .ok (.if_icmp .ge 21, 3) := by decide +kernel
theorem dX0_shadesInto_16 : decode cX0_shadesInto 16 = .ok (.aload_n 1, 1) := by decide +kernel
theorem dX0_shadesInto_17 : decode cX0_shadesInto 17 = .ok (.iload 4, 2) := by decide +kernel
theorem dX0_shadesInto_19 : decode cX0_shadesInto 19 = .ok (.aload_n 0, 1) := by decide +kernel
theorem dX0_shadesInto_20 : decode cX0_shadesInto 20 = .ok (.iload_n 2, 1) := by decide +kernel
theorem dX0_shadesInto_21 : decode cX0_shadesInto 21 = .ok (.iload_n 3, 1) := by decide +kernel
theorem dX0_shadesInto_22 : decode cX0_shadesInto 22 = .ok (.iload 4, 2) := by decide +kernel
theorem dX0_shadesInto_24 : decode cX0_shadesInto 24 = .ok (.invokevirtual 104, 3) := by decide +kernel
theorem dX0_shadesInto_27 : decode cX0_shadesInto 27 = .ok (.iastore, 1) := by decide +kernel
theorem dX0_shadesInto_28 : decode cX0_shadesInto 28 = .ok (.iinc 4 1, 3) := by decide +kernel
theorem dX0_shadesInto_31 : decode cX0_shadesInto 31 = .ok (.goto (-28), 3) := by decide +kernel
theorem dX0_shadesInto_34 : decode cX0_shadesInto 34 = .ok (.return_, 1) := by decide +kernel
set_option maxRecDepth 20000 in
theorem ggX0_isDark_X0_shadeOf : GoodIn wsX0_isDark wsX0_shadeOf := goodIn_r _ [5, 6, 7, 8, 4, 9, 10, 11, 12, 13, 14, 15, 16, 17, 18, 19, 20, 21, 22, 23, 24, 25, 26, 27, 28, 29, 30, 31, 32, 33, 34, 35, 36, 37, 38, 39, 40, 41, 42] (by decide +kernel) (by decide +kernel)
set_option maxRecDepth 20000 in
theorem gX0_isDark_X0_shadeOf : GoodIn wsX0_isDark (wsV RX0 104 RX0 yX0_shadeOf wsX0_shadeOf) := goodIn_app (goodIn_of _ (by decide +kernel)) ggX0_isDark_X0_shadeOf
theorem dX0_isDark_0 : decode cX0_isDark 0 = .ok (.iconst 0, 1) := by decide +kernel
theorem dX0_isDark_1 : decode cX0_isDark 1 = .ok (.istore_n 2, 1) := by decide +kernel
theorem dX0_isDark_2 : decode cX0_isDark 2 = .ok (.iload_n 2, 1) := by decide +kernel
theorem dX0_isDark_3 : decode cX0_isDark 3 = .ok (.iconst 3, 1) := by decide +kernel
theorem dX0_isDark_4 : decode cX0_isDark 4 = .ok (.if_icmp .ge 21, 3) := by decide +kernel
theorem dX0_isDark_7 : decode cX0_isDark 7 = .ok (.aload_n 0, 1) := by decide +kernel
theorem dX0_isDark_8 : decode cX0_isDark 8 = .ok (.iload_n 1, 1) := by decide +kernel
theorem dX0_isDark_9 : decode cX0_isDark 9 = .ok (.iconst 0, 1) := by decide +kernel
theorem dX0_isDark_10 : decode cX0_isDark 10 = .ok (.iload_n 2, 1) := by decide +kernel
theorem dX0_isDark_11 : decode cX0_isDark 11 = .ok (.invokevirtual 104, 3) := by decide +kernel
theorem dX0_isDark_14 : decode cX0_isDark 14 = .ok (.ifCond .eq 5, 3) := by decide +kernel
theorem dX0_isDark_17 : decode cX0_isDark 17 = .ok (.iconst 0, 1) := by decide +kernel
theorem dX0_isDark_18 : decode cX0_isDark 18 = .ok (.ireturn, 1) := by decide +kernel
theorem dX0_isDark_19 : decode cX0_isDark 19 = .ok (.iinc 2 1, 3) := by decide +kernel
theorem dX0_isDark_22 : decode cX0_isDark 22 = .ok (.goto (-20), 3) := by decide +kernel
theorem dX0_isDark_25 : decode cX0_isDark 25 = .ok (.iconst 1, 1) := by decide +kernel
theorem dX0_isDark_26 : decode cX0_isDark 26 = .ok (.ireturn, 1) := by decide +kernel
set_option maxRecDepth 20000 in
theorem ggX0_seenInto_X0_seen : GoodIn wsX0_seenInto wsX0_seen := goodIn_r _ [7, 8, 9, 10, 11, 12, 13, 14, 15, 16, 6, 17, 18, 19, 20, 21, 22, 23, 24, 25, 26, 27, 28, 29, 30, 31, 32] (by decide +kernel) (by decide +kernel)
set_option maxRecDepth 20000 in
theorem gX0_seenInto_X0_seen : GoodIn wsX0_seenInto (wsV RX0 92 RX0 yX0_seen wsX0_seen) := goodIn_app (goodIn_of _ (by decide +kernel)) ggX0_seenInto_X0_seen
theorem dX0_seenInto_0 : decode cX0_seenInto 0 = .ok (.lconst 1, 1) := by decide +kernel
theorem dX0_seenInto_1 : decode cX0_seenInto 1 = .ok (.lstore_n 3, 1) := by decide +kernel
theorem dX0_seenInto_2 : decode cX0_seenInto 2 = .ok (.aload_n 0, 1) := by decide +kernel
theorem dX0_seenInto_3 : decode cX0_seenInto 3 = .ok (.getfield 54, 3) := by decide +kernel
theorem dX0_seenInto_6 : decode cX0_seenInto 6 = .ok (.istore 5, 2) := by decide +kernel
theorem dX0_seenInto_8 : decode cX0_seenInto 8 = .ok (.iload 5, 2) := by decide +kernel
theorem dX0_seenInto_10 : decode cX0_seenInto 10 = .ok (.bipush 6, 2) := by decide +kernel
theorem dX0_seenInto_12 : decode cX0_seenInto 12 = .ok (.if_icmp .ge 15, 3) := by decide +kernel
theorem dX0_seenInto_15 : decode cX0_seenInto 15 = .ok (.lload_n 3, 1) := by decide +kernel
theorem dX0_seenInto_16 : decode cX0_seenInto 16 = .ok (.ldc2_w 57, 3) := by decide +kernel
theorem dX0_seenInto_19 : decode cX0_seenInto 19 = .ok (.lmul, 1) := by decide +kernel
theorem dX0_seenInto_20 : decode cX0_seenInto 20 = .ok (.lstore_n 3, 1) := by decide +kernel
theorem dX0_seenInto_21 : decode cX0_seenInto 21 = .ok (.iinc 5 1, 3) := by decide +kernel
theorem dX0_seenInto_24 : decode cX0_seenInto 24 = .ok (.goto (-16), 3) := by decide +kernel
theorem dX0_seenInto_27 : decode cX0_seenInto 27 = .ok (.iconst 0, 1) := by decide +kernel
theorem dX0_seenInto_28 : decode cX0_seenInto 28 = .ok (.istore 5, 2) := by decide +kernel
theorem dX0_seenInto_30 : decode cX0_seenInto 30 = .ok (.iload 5, 2) := by decide +kernel
theorem dX0_seenInto_32 : decode cX0_seenInto 32 = .ok (.iconst 3, 1) := by decide +kernel
theorem dX0_seenInto_33 : decode cX0_seenInto 33 = .ok (.if_icmp .ge 30, 3) := by decide +kernel
theorem dX0_seenInto_36 : decode cX0_seenInto 36 = .ok (.iload 5, 2) := by decide +kernel
theorem dX0_seenInto_38 : decode cX0_seenInto 38 = .ok (.aload_n 1, 1) := by decide +kernel
theorem dX0_seenInto_39 : decode cX0_seenInto 39 = .ok (.arraylength, 1) := by decide +kernel
theorem dX0_seenInto_40 : decode cX0_seenInto 40 = .ok (.if_icmp .ge 23, 3) := by decide +kernel
theorem dX0_seenInto_43 : decode cX0_seenInto 43 = .ok (.aload_n 1, 1) := by decide +kernel
theorem dX0_seenInto_44 : decode cX0_seenInto 44 = .ok (.iload 5, 2) := by decide +kernel
theorem dX0_seenInto_46 : decode cX0_seenInto 46 = .ok (.aload_n 0, 1) := by decide +kernel
theorem dX0_seenInto_47 : decode cX0_seenInto 47 = .ok (.iload_n 2, 1) := by decide +kernel
theorem dX0_seenInto_48 : decode cX0_seenInto 48 = .ok (.iconst 0, 1) := by decide +kernel
theorem dX0_seenInto_49 : decode cX0_seenInto 49 = .ok (.iload 5, 2) := by decide +kernel
theorem dX0_seenInto_51 : decode cX0_seenInto 51 = .ok (.invokevirtual 92, 3) := by decide +kernel
theorem dX0_seenInto_54 : decode cX0_seenInto 54 = .ok (.lload_n 3, 1) := by decide +kernel
theorem dX0_seenInto_55 : decode cX0_seenInto 55 = .ok (.lmul, 1) := by decide +kernel
theorem dX0_seenInto_56 : decode cX0_seenInto 56 = .ok (.lastore, 1) := by decide +kernel
theorem dX0_seenInto_57 : decode cX0_seenInto 57 = .ok (.iinc 5 1, 3) := by decide +kernel
theorem dX0_seenInto_60 : decode cX0_seenInto 60 = .ok (.goto (-30), 3) := by decide +kernel
theorem dX0_seenInto_63 : decode cX0_seenInto 63 = .ok (.return_, 1) := by decide +kernel
theorem dX1_init_0 : decode cX1_init 0 = .ok (.aload_n 0, 1) := by decide +kernel
theorem dX1_init_1 : decode cX1_init 1 = .ok (.invokespecial 3, 3) := by decide +kernel
theorem dX1_init_4 : decode cX1_init 4 = .ok (.aload_n 0, 1) := by decide +kernel
theorem dX1_init_5 : decode cX1_init 5 = .ok (.bipush 72, 2) := by decide +kernel
theorem dX1_init_7 : decode cX1_init 7 = .ok (.newarray .int, 2) := by decide +kernel
theorem dX1_init_9 : decode cX1_init 9 = .ok (.putfield 9, 3) := by decide +kernel
theorem dX1_init_12 : decode cX1_init 12 = .ok (.aload_n 0, 1) := by decide +kernel
theorem dX1_init_13 : decode cX1_init 13 = .ok (.iconst 4, 1) := by decide +kernel
theorem dX1_init_14 : decode cX1_init 14 = .ok (.newarray .int, 2) := by decide +kernel
theorem dX1_init_16 : decode cX1_init 16 = .ok (.dup, 1) := by decide +kernel
theorem dX1_init_17 : decode cX1_init 17 = .ok (.iconst 0, 1) := by decide +kernel
theorem dX1_init_18 : decode cX1_init 18 = .ok (.iconst (-1), 1) := by decide +kernel
theorem dX1_init_19 : decode cX1_init 19 = .ok (.iastore, 1) := by decide +kernel
theorem dX1_init_20 : decode cX1_init 20 = .ok (.dup, 1) := by decide +kernel
theorem dX1_init_21 : decode cX1_init 21 = .ok (.iconst 1, 1) := by decide +kernel
theorem dX1_init_22 : decode cX1_init 22 = .ok (.iconst (-1), 1) := by decide +kernel
theorem dX1_init_23 : decode cX1_init 23 = .ok (.iastore, 1) := by decide +kernel
theorem dX1_init_24 : decode cX1_init 24 = .ok (.dup, 1) := by decide +kernel
theorem dX1_init_25 : decode cX1_init 25 = .ok (.iconst 2, 1) := by decide +kernel
theorem dX1_init_26 : decode cX1_init 26 = .ok (.iconst (-1), 1) := by decide +kernel
theorem dX1_init_27 : decode cX1_init 27 = .ok (.iastore, 1) := by decide +kernel
theorem dX1_init_28 : decode cX1_init 28 = .ok (.dup, 1) := by decide +kernel
theorem dX1_init_29 : decode cX1_init 29 = .ok (.iconst 3, 1) := by decide +kernel
theorem dX1_init_30 : decode cX1_init 30 = .ok (.iconst (-1), 1) := by decide +kernel
theorem dX1_init_31 : decode cX1_init 31 = .ok (.iastore, 1) := by decide +kernel
theorem dX1_init_32 : decode cX1_init 32 = .ok (.putfield 15, 3) := by decide +kernel
theorem dX1_init_35 : decode cX1_init 35 = .ok (.return_, 1) := by decide +kernel
set_option maxRecDepth 20000 in
theorem ggX1_isHeld_X6_within : GoodIn wsX1_isHeld wsX6_within := goodIn_r _ [4] (by decide +kernel) (by decide +kernel)
set_option maxRecDepth 20000 in
theorem gX1_isHeld_X6_within_n18 : GoodIn wsX1_isHeld (wsX6_within) := ggX1_isHeld_X6_within
theorem dX1_isHeld_0 : decode cX1_isHeld 0 = .ok (.iload_n 1, 1) := by decide +kernel
theorem dX1_isHeld_1 : decode cX1_isHeld 1 = .ok (.iconst 4, 1) := by decide +kernel
theorem dX1_isHeld_2 : decode cX1_isHeld 2 = .ok (.invokestatic 18, 3) := by decide +kernel
theorem dX1_isHeld_5 : decode cX1_isHeld 5 = .ok (.ifCond .eq 16, 3) := by decide +kernel
theorem dX1_isHeld_8 : decode cX1_isHeld 8 = .ok (.aload_n 0, 1) := by decide +kernel
theorem dX1_isHeld_9 : decode cX1_isHeld 9 = .ok (.getfield 15, 3) := by decide +kernel
theorem dX1_isHeld_12 : decode cX1_isHeld 12 = .ok (.iload_n 1, 1) := by decide +kernel
theorem dX1_isHeld_13 : decode cX1_isHeld 13 = .ok (.iaload, 1) := by decide +kernel
theorem dX1_isHeld_14 : decode cX1_isHeld 14 = .ok (.ifCond .lt 7, 3) := by decide +kernel
theorem dX1_isHeld_17 : decode cX1_isHeld 17 = .ok (.iconst 1, 1) := by decide +kernel
theorem dX1_isHeld_18 : decode cX1_isHeld 18 = .ok (.goto 4, 3) := by decide +kernel
theorem dX1_isHeld_21 : decode cX1_isHeld 21 = .ok (.iconst 0, 1) := by decide +kernel
theorem dX1_isHeld_22 : decode cX1_isHeld 22 = .ok (.ireturn, 1) := by decide +kernel
set_option maxRecDepth 20000 in
theorem ggX1_hasPlace_X1_isHeld : GoodIn wsX1_hasPlace wsX1_isHeld := goodIn_r _ [6, 1, 7, 8, 9, 10, 11] (by decide +kernel) (by decide +kernel)
set_option maxRecDepth 20000 in
theorem gX1_hasPlace_X1_isHeld : GoodIn wsX1_hasPlace (wsV RX1 22 RX1 yX1_isHeld wsX1_isHeld) := goodIn_app (goodIn_of _ (by decide +kernel)) ggX1_hasPlace_X1_isHeld
set_option maxRecDepth 20000 in
theorem ggX1_hasPlace_X6_within : GoodIn wsX1_hasPlace wsX6_within := goodIn_r _ [9] (by decide +kernel) (by decide +kernel)
set_option maxRecDepth 20000 in
theorem gX1_hasPlace_X6_within_n18 : GoodIn wsX1_hasPlace (wsX6_within) := ggX1_hasPlace_X6_within
theorem dX1_hasPlace_0 : decode cX1_hasPlace 0 = .ok (.aload_n 0, 1) := by decide +kernel
theorem dX1_hasPlace_1 : decode cX1_hasPlace 1 = .ok (.iload_n 1, 1) := by decide +kernel
theorem dX1_hasPlace_2 : decode cX1_hasPlace 2 = .ok (.invokevirtual 22, 3) := by decide +kernel
theorem dX1_hasPlace_5 : decode cX1_hasPlace 5 = .ok (.ifCond .eq 26, 3) := by decide +kernel
theorem dX1_hasPlace_8 : decode cX1_hasPlace 8 = .ok (.iload_n 2, 1) := by decide +kernel
theorem dX1_hasPlace_9 : decode cX1_hasPlace 9 = .ok (.aload_n 0, 1) := by decide +kernel
theorem dX1_hasPlace_10 : decode cX1_hasPlace 10 = .ok (.getfield 15, 3) := by decide +kernel
theorem dX1_hasPlace_13 : decode cX1_hasPlace 13 = .ok (.iload_n 1, 1) := by decide +kernel
theorem dX1_hasPlace_14 : decode cX1_hasPlace 14 = .ok (.iaload, 1) := by decide +kernel
theorem dX1_hasPlace_15 : decode cX1_hasPlace 15 = .ok (.invokestatic 18, 3) := by decide +kernel
theorem dX1_hasPlace_18 : decode cX1_hasPlace 18 = .ok (.ifCond .eq 13, 3) := by decide +kernel
theorem dX1_hasPlace_21 : decode cX1_hasPlace 21 = .ok (.iload_n 2, 1) := by decide +kernel
theorem dX1_hasPlace_22 : decode cX1_hasPlace 22 = .ok (.bipush 18, 2) := by decide +kernel
theorem dX1_hasPlace_24 : decode cX1_hasPlace 24 = .ok (.if_icmp .ge 7, 3) := by decide +kernel
theorem dX1_hasPlace_27 : decode cX1_hasPlace 27 = .ok (.iconst 1, 1) := by decide +kernel
theorem dX1_hasPlace_28 : decode cX1_hasPlace 28 = .ok (.goto 4, 3) := by decide +kernel
theorem dX1_hasPlace_31 : decode cX1_hasPlace 31 = .ok (.iconst 0, 1) := by decide +kernel
theorem dX1_hasPlace_32 : decode cX1_hasPlace 32 = .ok (.ireturn, 1) := by decide +kernel
set_option maxRecDepth 20000 in
theorem ggX1_valueAt_X1_hasPlace : GoodIn wsX1_valueAt wsX1_hasPlace := goodIn_r _ [6, 7, 8, 9, 10, 5, 11, 12, 13, 14, 15, 16] (by decide +kernel) (by decide +kernel)
set_option maxRecDepth 20000 in
theorem gX1_valueAt_X1_hasPlace : GoodIn wsX1_valueAt (wsV RX1 26 RX1 yX1_hasPlace wsX1_hasPlace) := goodIn_app (goodIn_of _ (by decide +kernel)) ggX1_valueAt_X1_hasPlace
theorem dX1_valueAt_0 : decode cX1_valueAt 0 = .ok (.aload_n 0, 1) := by decide +kernel
theorem dX1_valueAt_1 : decode cX1_valueAt 1 = .ok (.iload_n 1, 1) := by decide +kernel
theorem dX1_valueAt_2 : decode cX1_valueAt 2 = .ok (.iload_n 2, 1) := by decide +kernel
theorem dX1_valueAt_3 : decode cX1_valueAt 3 = .ok (.invokevirtual 26, 3) := by decide +kernel
theorem dX1_valueAt_6 : decode cX1_valueAt 6 = .ok (.ifCond .eq 17, 3) := by decide +kernel
theorem dX1_valueAt_9 : decode cX1_valueAt 9 = .ok (.aload_n 0, 1) := by decide +kernel
theorem dX1_valueAt_10 : decode cX1_valueAt 10 = .ok (.getfield 9, 3) := by decide +kernel
theorem dX1_valueAt_13 : decode cX1_valueAt 13 = .ok (.iload_n 1, 1) := by decide +kernel
theorem dX1_valueAt_14 : decode cX1_valueAt 14 = .ok (.bipush 18, 2) := by decide +kernel
theorem dX1_valueAt_16 : decode cX1_valueAt 16 = .ok (.imul, 1) := by decide +kernel
theorem dX1_valueAt_17 : decode cX1_valueAt 17 = .ok (.iload_n 2, 1) := by decide +kernel
theorem dX1_valueAt_18 : decode cX1_valueAt 18 = .ok (.iadd, 1) := by decide +kernel
theorem dX1_valueAt_19 : decode cX1_valueAt 19 = .ok (.iaload, 1) := by decide +kernel
theorem dX1_valueAt_20 : decode cX1_valueAt 20 = .ok (.goto 4, 3) := by decide +kernel
theorem dX1_valueAt_23 : decode cX1_valueAt 23 = .ok (.iconst 0, 1) := by decide +kernel
theorem dX1_valueAt_24 : decode cX1_valueAt 24 = .ok (.ireturn, 1) := by decide +kernel
set_option maxRecDepth 20000 in
theorem ggX1_clearTo_X6_within : GoodIn wsX1_clearTo wsX6_within := goodIn_r _ [5] (by decide +kernel) (by decide +kernel)
set_option maxRecDepth 20000 in
theorem gX1_clearTo_X6_within_n18 : GoodIn wsX1_clearTo (wsX6_within) := ggX1_clearTo_X6_within
theorem dX1_clearTo_0 : decode cX1_clearTo 0 = .ok (.iload_n 1, 1) := by decide +kernel
theorem dX1_clearTo_1 : decode cX1_clearTo 1 = .ok (.iconst 4, 1) := by decide +kernel
theorem dX1_clearTo_2 : decode cX1_clearTo 2 = .ok (.invokestatic 18, 3) := by decide +kernel
theorem dX1_clearTo_5 : decode cX1_clearTo 5 = .ok (.ifCond .eq 13, 3) := by decide +kernel
theorem dX1_clearTo_8 : decode cX1_clearTo 8 = .ok (.iload_n 2, 1) := by decide +kernel
theorem dX1_clearTo_9 : decode cX1_clearTo 9 = .ok (.ifCond .lt 9, 3) := by decide +kernel
theorem dX1_clearTo_12 : decode cX1_clearTo 12 = .ok (.iload_n 2, 1) := by decide +kernel
theorem dX1_clearTo_13 : decode cX1_clearTo 13 = .ok (.bipush 18, 2) := by decide +kernel
theorem dX1_clearTo_15 : decode cX1_clearTo 15 = .ok (.if_icmp .le 4, 3) := by decide +kernel
theorem dX1_clearTo_18 : decode cX1_clearTo 18 = .ok (.return_, 1) := by decide +kernel
theorem dX1_clearTo_19 : decode cX1_clearTo 19 = .ok (.iconst 0, 1) := by decide +kernel
theorem dX1_clearTo_20 : decode cX1_clearTo 20 = .ok (.istore_n 3, 1) := by decide +kernel
theorem dX1_clearTo_21 : decode cX1_clearTo 21 = .ok (.iload_n 3, 1) := by decide +kernel
theorem dX1_clearTo_22 : decode cX1_clearTo 22 = .ok (.iload_n 2, 1) := by decide +kernel
theorem dX1_clearTo_23 : decode cX1_clearTo 23 = .ok (.if_icmp .ge 21, 3) := by decide +kernel
theorem dX1_clearTo_26 : decode cX1_clearTo 26 = .ok (.aload_n 0, 1) := by decide +kernel
theorem dX1_clearTo_27 : decode cX1_clearTo 27 = .ok (.getfield 9, 3) := by decide +kernel
theorem dX1_clearTo_30 : decode cX1_clearTo 30 = .ok (.iload_n 1, 1) := by decide +kernel
theorem dX1_clearTo_31 : decode cX1_clearTo 31 = .ok (.bipush 18, 2) := by decide +kernel
theorem dX1_clearTo_33 : decode cX1_clearTo 33 = .ok (.imul, 1) := by decide +kernel
theorem dX1_clearTo_34 : decode cX1_clearTo 34 = .ok (.iload_n 3, 1) := by decide +kernel
theorem dX1_clearTo_35 : decode cX1_clearTo 35 = .ok (.iadd, 1) := by decide +kernel
theorem dX1_clearTo_36 : decode cX1_clearTo 36 = .ok (.iconst 0, 1) := by decide +kernel
theorem dX1_clearTo_37 : decode cX1_clearTo 37 = .ok (.iastore, 1) := by decide +kernel
theorem dX1_clearTo_38 : decode cX1_clearTo 38 = .ok (.iinc 3 1, 3) := by decide +kernel
theorem dX1_clearTo_41 : decode cX1_clearTo 41 = .ok (.goto (-20), 3) := by decide +kernel
theorem dX1_clearTo_44 : decode cX1_clearTo 44 = .ok (.aload_n 0, 1) := by decide +kernel
theorem dX1_clearTo_45 : decode cX1_clearTo 45 = .ok (.getfield 15, 3) := by decide +kernel
theorem dX1_clearTo_48 : decode cX1_clearTo 48 = .ok (.iload_n 1, 1) := by decide +kernel
theorem dX1_clearTo_49 : decode cX1_clearTo 49 = .ok (.iload_n 2, 1) := by decide +kernel
theorem dX1_clearTo_50 : decode cX1_clearTo 50 = .ok (.iastore, 1) := by decide +kernel
theorem dX1_clearTo_51 : decode cX1_clearTo 51 = .ok (.return_, 1) := by decide +kernel
theorem dX2_init_0 : decode cX2_init 0 = .ok (.aload_n 0, 1) := by decide +kernel
theorem dX2_init_1 : decode cX2_init 1 = .ok (.invokespecial 1, 3) := by decide +kernel
theorem dX2_init_4 : decode cX2_init 4 = .ok (.aload_n 0, 1) := by decide +kernel
theorem dX2_init_5 : decode cX2_init 5 = .ok (.bipush 47, 2) := by decide +kernel
theorem dX2_init_7 : decode cX2_init 7 = .ok (.newarray .int, 2) := by decide +kernel
theorem dX2_init_9 : decode cX2_init 9 = .ok (.putfield 9, 3) := by decide +kernel
theorem dX2_init_12 : decode cX2_init 12 = .ok (.aload_n 0, 1) := by decide +kernel
theorem dX2_init_13 : decode cX2_init 13 = .ok (.iconst 0, 1) := by decide +kernel
theorem dX2_init_14 : decode cX2_init 14 = .ok (.putfield 13, 3) := by decide +kernel
theorem dX2_init_17 : decode cX2_init 17 = .ok (.return_, 1) := by decide +kernel
set_option maxRecDepth 20000 in
theorem ggX2_spellStack_X3_hasStack : GoodIn wsX2_spellStack wsX3_hasStack := goodIn_r _ [7, 8, 9, 10, 11, 88, 89, 90, 91, 92, 93, 94, 95, 96, 97] (by decide +kernel) (by decide +kernel)
set_option maxRecDepth 20000 in
theorem gX2_spellStack_X3_hasStack : GoodIn wsX2_spellStack (wsV RX2 17 RX3 yX3_hasStack wsX3_hasStack) := goodIn_app (goodIn_of _ (by decide +kernel)) ggX2_spellStack_X3_hasStack
set_option maxRecDepth 20000 in
theorem ggX2_spellStack_X2_write : GoodIn wsX2_spellStack wsX2_write := goodIn_r _ [16, 1, 17, 86, 87] (by decide +kernel) (by decide +kernel)
set_option maxRecDepth 20000 in
theorem gX2_spellStack_X2_write : GoodIn wsX2_spellStack (wsV RX2 26 RX2 yX2_write wsX2_write) := goodIn_app (goodIn_of _ (by decide +kernel)) ggX2_spellStack_X2_write
set_option maxRecDepth 20000 in
theorem ggX2_spellStack_X3_sheetAt : GoodIn wsX2_spellStack wsX3_sheetAt := goodIn_r _ [21, 22, 23, 4, 5, 6, 7, 8, 9, 10, 11, 88, 89, 90, 91, 92, 93, 94, 95, 96, 97] (by decide +kernel) (by decide +kernel)
set_option maxRecDepth 20000 in
theorem gX2_spellStack_X3_sheetAt : GoodIn wsX2_spellStack (wsV RX2 30 RX3 yX3_sheetAt wsX3_sheetAt) := goodIn_app (goodIn_of _ (by decide +kernel)) ggX2_spellStack_X3_sheetAt
set_option maxRecDepth 20000 in
theorem ggX2_spellStack_X2_spellSheet : GoodIn wsX2_spellStack wsX2_spellSheet := goodIn_r _ [27, 28, 29, 30, 31, 32, 6, 33, 34, 9, 10, 11, 35, 36, 37, 38, 39, 40, 41, 42, 43, 44, 45, 46, 47, 48, 49, 50, 51, 52, 53, 54, 55, 56, 57, 58, 59, 60, 61, 62, 63, 64, 65, 66, 67, 68, 69, 70, 71, 72, 73, 74, 75, 76, 77, 78, 79, 80, 81, 82, 83, 84, 85, 12, 13, 14, 15, 16, 1, 17, 88, 89, 90, 91, 92, 93, 94, 95, 96, 97, 86, 87] (by decide +kernel) (by decide +kernel)
set_option maxRecDepth 20000 in
theorem gX2_spellStack_X2_spellSheet : GoodIn wsX2_spellStack (wsV RX2 34 RX2 yX2_spellSheet wsX2_spellSheet) := goodIn_app (goodIn_of _ (by decide +kernel)) ggX2_spellStack_X2_spellSheet
theorem dX2_spellStack_0 : decode cX2_spellStack 0 = .ok (.aload_n 0, 1) := by decide +kernel
theorem dX2_spellStack_1 : decode cX2_spellStack 1 = .ok (.iconst 0, 1) := by decide +kernel
theorem dX2_spellStack_2 : decode cX2_spellStack 2 = .ok (.putfield 13, 3) := by decide +kernel
theorem dX2_spellStack_5 : decode cX2_spellStack 5 = .ok (.aload_n 1, 1) := by decide +kernel
theorem dX2_spellStack_6 : decode cX2_spellStack 6 = .ok (.iload_n 2, 1) := by decide +kernel
theorem dX2_spellStack_7 : decode cX2_spellStack 7 = .ok (.invokevirtual 17, 3) := by decide +kernel
theorem dX2_spellStack_10 : decode cX2_spellStack 10 = .ok (.ifCond .ne 4, 3) := by decide +kernel
theorem dX2_spellStack_13 : decode cX2_spellStack 13 = .ok (.return_, 1) := by decide +kernel
theorem dX2_spellStack_14 : decode cX2_spellStack 14 = .ok (.aload_n 1, 1) := by decide +kernel
theorem dX2_spellStack_15 : decode cX2_spellStack 15 = .ok (.getfield 23, 3) := by decide +kernel
theorem dX2_spellStack_18 : decode cX2_spellStack 18 = .ok (.iload_n 2, 1) := by decide +kernel
theorem dX2_spellStack_19 : decode cX2_spellStack 19 = .ok (.iaload, 1) := by decide +kernel
theorem dX2_spellStack_20 : decode cX2_spellStack 20 = .ok (.ifCond .ne 9, 3) := by decide +kernel
theorem dX2_spellStack_23 : decode cX2_spellStack 23 = .ok (.aload_n 0, 1) := by decide +kernel
theorem dX2_spellStack_24 : decode cX2_spellStack 24 = .ok (.bipush 45, 2) := by decide +kernel
theorem dX2_spellStack_26 : decode cX2_spellStack 26 = .ok (.invokevirtual 26, 3) := by decide +kernel
theorem dX2_spellStack_29 : decode cX2_spellStack 29 = .ok (.iconst 0, 1) := by decide +kernel
theorem dX2_spellStack_30 : decode cX2_spellStack 30 = .ok (.istore_n 3, 1) := by decide +kernel
theorem dX2_spellStack_31 : decode cX2_spellStack 31 = .ok (.iload_n 3, 1) := by decide +kernel
theorem dX2_spellStack_32 : decode cX2_spellStack 32 = .ok (.aload_n 1, 1) := by decide +kernel
theorem dX2_spellStack_33 : decode cX2_spellStack 33 = .ok (.getfield 23, 3) := by decide +kernel
theorem dX2_spellStack_36 : decode cX2_spellStack 36 = .ok (.iload_n 2, 1) := by decide +kernel
theorem dX2_spellStack_37 : decode cX2_spellStack 37 = .ok (.iaload, 1) := by decide +kernel
theorem dX2_spellStack_38 : decode cX2_spellStack 38 = .ok (.if_icmp .ge 30, 3) := by decide +kernel
theorem dX2_spellStack_41 : decode cX2_spellStack 41 = .ok (.iload_n 3, 1) := by decide +kernel
theorem dX2_spellStack_42 : decode cX2_spellStack 42 = .ok (.ifCond .le 9, 3) := by decide +kernel
theorem dX2_spellStack_45 : decode cX2_spellStack 45 = .ok (.aload_n 0, 1) := by decide +kernel
theorem dX2_spellStack_46 : decode cX2_spellStack 46 = .ok (.bipush 47, 2) := by decide +kernel
theorem dX2_spellStack_48 : decode cX2_spellStack 48 = .ok (.invokevirtual 26, 3) := by decide +kernel
theorem dX2_spellStack_51 : decode cX2_spellStack 51 = .ok (.aload_n 0, 1) := by decide +kernel
theorem dX2_spellStack_52 : decode cX2_spellStack 52 = .ok (.aload_n 1, 1) := by decide +kernel
theorem dX2_spellStack_53 : decode cX2_spellStack 53 = .ok (.aload_n 1, 1) := by decide +kernel
theorem dX2_spellStack_54 : decode cX2_spellStack 54 = .ok (.iload_n 2, 1) := by decide +kernel
theorem dX2_spellStack_55 : decode cX2_spellStack 55 = .ok (.iload_n 3, 1) := by decide +kernel
theorem dX2_spellStack_56 : decode cX2_spellStack 56 = .ok (.invokevirtual 30, 3) := by decide +kernel
theorem dX2_spellStack_59 : decode cX2_spellStack 59 = .ok (.invokevirtual 34, 3) := by decide +kernel
theorem dX2_spellStack_62 : decode cX2_spellStack 62 = .ok (.iinc 3 1, 3) := by decide +kernel
theorem dX2_spellStack_65 : decode cX2_spellStack 65 = .ok (.goto (-34), 3) := by decide +kernel
theorem dX2_spellStack_68 : decode cX2_spellStack 68 = .ok (.return_, 1) := by decide +kernel
set_option maxRecDepth 20000 in
theorem ggX2_spellSheet_X3_hasSheet : GoodIn wsX2_spellSheet wsX3_hasSheet := goodIn_r _ [7, 8, 9, 10, 11, 70, 71, 72, 73, 74, 75, 76, 77, 78, 79] (by decide +kernel) (by decide +kernel)
set_option maxRecDepth 20000 in
theorem gX2_spellSheet_X3_hasSheet : GoodIn wsX2_spellSheet (wsV RX2 38 RX3 yX3_hasSheet wsX3_hasSheet) := goodIn_app (goodIn_of _ (by decide +kernel)) ggX2_spellSheet_X3_hasSheet
set_option maxRecDepth 20000 in
theorem ggX2_spellSheet_X6_wordOf : GoodIn wsX2_spellSheet wsX6_wordOf := goodIn_r _ [13] (by decide +kernel) (by decide +kernel)
set_option maxRecDepth 20000 in
theorem gX2_spellSheet_X6_wordOf_n44 : GoodIn wsX2_spellSheet (wsX6_wordOf) := ggX2_spellSheet_X6_wordOf
set_option maxRecDepth 20000 in
theorem ggX2_spellSheet_J0_length_8abf5 : GoodIn wsX2_spellSheet wsJ0_length_8abf5 := goodIn_r _ [18, 19, 20, 21, 22, 17, 23, 24, 25] (by decide +kernel) (by decide +kernel)
set_option maxRecDepth 20000 in
theorem gX2_spellSheet_J0_length_8abf5 : GoodIn wsX2_spellSheet (wsV RX2 50 RJ0 yJ0_length_8abf5 wsJ0_length_8abf5) := goodIn_app (goodIn_of _ (by decide +kernel)) ggX2_spellSheet_J0_length_8abf5
set_option maxRecDepth 20000 in
theorem ggX2_spellSheet_J0_charAt_5068e : GoodIn wsX2_spellSheet wsJ0_charAt_5068e := goodIn_r _ [29, 19, 30, 31, 32, 17, 33, 24, 25, 34, 35, 36, 37, 38, 39, 40, 41, 42, 43, 44, 45, 46, 47, 48, 49, 50, 51, 52, 53, 54, 55, 56, 57, 58, 59, 60, 61, 62] (by decide +kernel) (by decide +kernel)
set_option maxRecDepth 20000 in
theorem gX2_spellSheet_J0_charAt_5068e : GoodIn wsX2_spellSheet (wsV RX2 56 RJ0 yJ0_charAt_5068e wsJ0_charAt_5068e) := goodIn_app (goodIn_of _ (by decide +kernel)) ggX2_spellSheet_J0_charAt_5068e
set_option maxRecDepth 20000 in
theorem ggX2_spellSheet_X2_write : GoodIn wsX2_spellSheet wsX2_write := goodIn_r _ [67, 68, 69, 80, 81] (by decide +kernel) (by decide +kernel)
set_option maxRecDepth 20000 in
theorem gX2_spellSheet_X2_write : GoodIn wsX2_spellSheet (wsV RX2 26 RX2 yX2_write wsX2_write) := goodIn_app (goodIn_of _ (by decide +kernel)) ggX2_spellSheet_X2_write
theorem dX2_spellSheet_0 : decode cX2_spellSheet 0 = .ok (.aload_n 1, 1) := by decide +kernel
theorem dX2_spellSheet_1 : decode cX2_spellSheet 1 = .ok (.iload_n 2, 1) := by decide +kernel
theorem dX2_spellSheet_2 : decode cX2_spellSheet 2 = .ok (.invokevirtual 38, 3) := by decide +kernel
theorem dX2_spellSheet_5 : decode cX2_spellSheet 5 = .ok (.ifCond .ne 4, 3) := by decide +kernel
theorem dX2_spellSheet_8 : decode cX2_spellSheet 8 = .ok (.return_, 1) := by decide +kernel
theorem dX2_spellSheet_9 : decode cX2_spellSheet 9 = .ok (.aload_n 1, 1) := by decide +kernel
theorem dX2_spellSheet_10 : decode cX2_spellSheet 10 = .ok (.getfield 41, 3) := by decide +kernel
theorem dX2_spellSheet_13 : decode cX2_spellSheet 13 = .ok (.iload_n 2, 1) := by decide +kernel
theorem dX2_spellSheet_14 : decode cX2_spellSheet 14 = .ok (.iaload, 1) := by decide +kernel
theorem dX2_spellSheet_15 : decode cX2_spellSheet 15 = .ok (.invokestatic 44, 3) := by decide +kernel
theorem dX2_spellSheet_18 : decode cX2_spellSheet 18 = .ok (.astore_n 3, 1) := by decide +kernel
theorem dX2_spellSheet_19 : decode cX2_spellSheet 19 = .ok (.iconst 0, 1) := by decide +kernel
theorem dX2_spellSheet_20 : decode cX2_spellSheet 20 = .ok (.istore 4, 2) := by decide +kernel
theorem dX2_spellSheet_22 : decode cX2_spellSheet 22 = .ok (.iload 4, 2) := by decide +kernel
theorem dX2_spellSheet_24 : decode cX2_spellSheet 24 = .ok (.aload_n 3, 1) := by decide +kernel
theorem dX2_spellSheet_25 : decode cX2_spellSheet 25 = .ok (.invokevirtual 50, 3) := by decide +kernel
theorem dX2_spellSheet_28 : decode cX2_spellSheet 28 = .ok (.if_icmp .ge 19, 3) := by decide +kernel
theorem dX2_spellSheet_31 : decode cX2_spellSheet 31 = .ok (.aload_n 0, 1) := by decide +kernel
theorem dX2_spellSheet_32 : decode cX2_spellSheet 32 = .ok (.aload_n 3, 1) := by decide +kernel
theorem dX2_spellSheet_33 : decode cX2_spellSheet 33 = .ok (.iload 4, 2) := by decide +kernel
theorem dX2_spellSheet_35 : decode cX2_spellSheet 35 = .ok (.invokevirtual 56, 3) := by decide +kernel
theorem dX2_spellSheet_38 : decode cX2_spellSheet 38 = .ok (.invokevirtual 26, 3) := by decide +kernel
theorem dX2_spellSheet_41 : decode cX2_spellSheet 41 = .ok (.iinc 4 1, 3) := by decide +kernel
theorem dX2_spellSheet_44 : decode cX2_spellSheet 44 = .ok (.goto (-22), 3) := by decide +kernel
theorem dX2_spellSheet_47 : decode cX2_spellSheet 47 = .ok (.aload_n 0, 1) := by decide +kernel
theorem dX2_spellSheet_48 : decode cX2_spellSheet 48 = .ok (.bipush 48, 2) := by decide +kernel
theorem dX2_spellSheet_50 : decode cX2_spellSheet 50 = .ok (.aload_n 1, 1) := by decide +kernel
theorem dX2_spellSheet_51 : decode cX2_spellSheet 51 = .ok (.getfield 60, 3) := by decide +kernel
theorem dX2_spellSheet_54 : decode cX2_spellSheet 54 = .ok (.iload_n 2, 1) := by decide +kernel
theorem dX2_spellSheet_55 : decode cX2_spellSheet 55 = .ok (.iaload, 1) := by decide +kernel
theorem dX2_spellSheet_56 : decode cX2_spellSheet 56 = .ok (.iadd, 1) := by decide +kernel
theorem dX2_spellSheet_57 : decode cX2_spellSheet 57 = .ok (.invokevirtual 26, 3) := by decide +kernel
theorem dX2_spellSheet_60 : decode cX2_spellSheet 60 = .ok (.return_, 1) := by decide +kernel
theorem dX2_write_0 : decode cX2_write 0 = .ok (.aload_n 0, 1) := by decide +kernel
theorem dX2_write_1 : decode cX2_write 1 = .ok (.getfield 13, 3) := by decide +kernel
theorem dX2_write_4 : decode cX2_write 4 = .ok (.bipush 47, 2) := by decide +kernel
theorem dX2_write_6 : decode cX2_write 6 = .ok (.if_icmp .lt 4, 3) := by decide +kernel
theorem dX2_write_9 : decode cX2_write 9 = .ok (.return_, 1) := by decide +kernel
theorem dX2_write_10 : decode cX2_write 10 = .ok (.aload_n 0, 1) := by decide +kernel
theorem dX2_write_11 : decode cX2_write 11 = .ok (.getfield 9, 3) := by decide +kernel
theorem dX2_write_14 : decode cX2_write 14 = .ok (.aload_n 0, 1) := by decide +kernel
theorem dX2_write_15 : decode cX2_write 15 = .ok (.getfield 13, 3) := by decide +kernel
theorem dX2_write_18 : decode cX2_write 18 = .ok (.iload_n 1, 1) := by decide +kernel
theorem dX2_write_19 : decode cX2_write 19 = .ok (.iastore, 1) := by decide +kernel
theorem dX2_write_20 : decode cX2_write 20 = .ok (.aload_n 0, 1) := by decide +kernel
theorem dX2_write_21 : decode cX2_write 21 = .ok (.dup, 1) := by decide +kernel
theorem dX2_write_22 : decode cX2_write 22 = .ok (.getfield 13, 3) := by decide +kernel
theorem dX2_write_25 : decode cX2_write 25 = .ok (.iconst 1, 1) := by decide +kernel
theorem dX2_write_26 : decode cX2_write 26 = .ok (.iadd, 1) := by decide +kernel
theorem dX2_write_27 : decode cX2_write 27 = .ok (.putfield 13, 3) := by decide +kernel
theorem dX2_write_30 : decode cX2_write 30 = .ok (.return_, 1) := by decide +kernel
theorem dX3_init_0 : decode cX3_init 0 = .ok (.aload_n 0, 1) := by decide +kernel
theorem dX3_init_1 : decode cX3_init 1 = .ok (.invokespecial 3, 3) := by decide +kernel
theorem dX3_init_4 : decode cX3_init 4 = .ok (.aload_n 0, 1) := by decide +kernel
theorem dX3_init_5 : decode cX3_init 5 = .ok (.iconst 0, 1) := by decide +kernel
theorem dX3_init_6 : decode cX3_init 6 = .ok (.putfield 9, 3) := by decide +kernel
theorem dX3_init_9 : decode cX3_init 9 = .ok (.aload_n 0, 1) := by decide +kernel
theorem dX3_init_10 : decode cX3_init 10 = .ok (.bipush 8, 2) := by decide +kernel
theorem dX3_init_12 : decode cX3_init 12 = .ok (.newarray .int, 2) := by decide +kernel
theorem dX3_init_14 : decode cX3_init 14 = .ok (.putfield 15, 3) := by decide +kernel
theorem dX3_init_17 : decode cX3_init 17 = .ok (.aload_n 0, 1) := by decide +kernel
theorem dX3_init_18 : decode cX3_init 18 = .ok (.bipush 8, 2) := by decide +kernel
theorem dX3_init_20 : decode cX3_init 20 = .ok (.newarray .int, 2) := by decide +kernel
theorem dX3_init_22 : decode cX3_init 22 = .ok (.putfield 19, 3) := by decide +kernel
theorem dX3_init_25 : decode cX3_init 25 = .ok (.aload_n 0, 1) := by decide +kernel
theorem dX3_init_26 : decode cX3_init 26 = .ok (.bipush 40, 2) := by decide +kernel
theorem dX3_init_28 : decode cX3_init 28 = .ok (.newarray .int, 2) := by decide +kernel
theorem dX3_init_30 : decode cX3_init 30 = .ok (.putfield 22, 3) := by decide +kernel
theorem dX3_init_33 : decode cX3_init 33 = .ok (.aload_n 0, 1) := by decide +kernel
theorem dX3_init_34 : decode cX3_init 34 = .ok (.iconst 0, 1) := by decide +kernel
theorem dX3_init_35 : decode cX3_init 35 = .ok (.putfield 25, 3) := by decide +kernel
theorem dX3_init_38 : decode cX3_init 38 = .ok (.aload_n 0, 1) := by decide +kernel
theorem dX3_init_39 : decode cX3_init 39 = .ok (.bipush 6, 2) := by decide +kernel
theorem dX3_init_41 : decode cX3_init 41 = .ok (.newarray .int, 2) := by decide +kernel
theorem dX3_init_43 : decode cX3_init 43 = .ok (.putfield 28, 3) := by decide +kernel
theorem dX3_init_46 : decode cX3_init 46 = .ok (.aload_n 0, 1) := by decide +kernel
theorem dX3_init_47 : decode cX3_init 47 = .ok (.bipush 36, 2) := by decide +kernel
theorem dX3_init_49 : decode cX3_init 49 = .ok (.newarray .int, 2) := by decide +kernel
theorem dX3_init_51 : decode cX3_init 51 = .ok (.putfield 31, 3) := by decide +kernel
theorem dX3_init_54 : decode cX3_init 54 = .ok (.aload_n 0, 1) := by decide +kernel
theorem dX3_init_55 : decode cX3_init 55 = .ok (.bipush 15, 2) := by decide +kernel
theorem dX3_init_57 : decode cX3_init 57 = .ok (.newarray .int, 2) := by decide +kernel
theorem dX3_init_59 : decode cX3_init 59 = .ok (.dup, 1) := by decide +kernel
theorem dX3_init_60 : decode cX3_init 60 = .ok (.iconst 0, 1) := by decide +kernel
theorem dX3_init_61 : decode cX3_init 61 = .ok (.bipush 9, 2) := by decide +kernel
theorem dX3_init_63 : decode cX3_init 63 = .ok (.iastore, 1) := by decide +kernel
theorem dX3_init_64 : decode cX3_init 64 = .ok (.dup, 1) := by decide +kernel
theorem dX3_init_65 : decode cX3_init 65 = .ok (.iconst 1, 1) := by decide +kernel
theorem dX3_init_66 : decode cX3_init 66 = .ok (.bipush 9, 2) := by decide +kernel
theorem dX3_init_68 : decode cX3_init 68 = .ok (.iastore, 1) := by decide +kernel
theorem dX3_init_69 : decode cX3_init 69 = .ok (.dup, 1) := by decide +kernel
theorem dX3_init_70 : decode cX3_init 70 = .ok (.iconst 2, 1) := by decide +kernel
theorem dX3_init_71 : decode cX3_init 71 = .ok (.bipush 9, 2) := by decide +kernel
theorem dX3_init_73 : decode cX3_init 73 = .ok (.iastore, 1) := by decide +kernel
theorem dX3_init_74 : decode cX3_init 74 = .ok (.dup, 1) := by decide +kernel
theorem dX3_init_75 : decode cX3_init 75 = .ok (.iconst 3, 1) := by decide +kernel
theorem dX3_init_76 : decode cX3_init 76 = .ok (.bipush 9, 2) := by decide +kernel
theorem dX3_init_78 : decode cX3_init 78 = .ok (.iastore, 1) := by decide +kernel
theorem dX3_init_79 : decode cX3_init 79 = .ok (.dup, 1) := by decide +kernel
theorem dX3_init_80 : decode cX3_init 80 = .ok (.iconst 4, 1) := by decide +kernel
theorem dX3_init_81 : decode cX3_init 81 = .ok (.bipush 9, 2) := by decide +kernel
theorem dX3_init_83 : decode cX3_init 83 = .ok (.iastore, 1) := by decide +kernel
theorem dX3_init_84 : decode cX3_init 84 = .ok (.dup, 1) := by decide +kernel
theorem dX3_init_85 : decode cX3_init 85 = .ok (.iconst 5, 1) := by decide +kernel
theorem dX3_init_86 : decode cX3_init 86 = .ok (.bipush 9, 2) := by decide +kernel
theorem dX3_init_88 : decode cX3_init 88 = .ok (.iastore, 1) := by decide +kernel
theorem dX3_init_89 : decode cX3_init 89 = .ok (.dup, 1) := by decide +kernel
theorem dX3_init_90 : decode cX3_init 90 = .ok (.bipush 6, 2) := by decide +kernel
theorem dX3_init_92 : decode cX3_init 92 = .ok (.bipush 9, 2) := by decide +kernel
theorem dX3_init_94 : decode cX3_init 94 = .ok (.iastore, 1) := by decide +kernel
theorem dX3_init_95 : decode cX3_init 95 = .ok (.dup, 1) := by decide +kernel
theorem dX3_init_96 : decode cX3_init 96 = .ok (.bipush 7, 2) := by decide +kernel
theorem dX3_init_98 : decode cX3_init 98 = .ok (.bipush 9, 2) := by decide +kernel
theorem dX3_init_100 : decode cX3_init 100 = .ok (.iastore, 1) := by decide +kernel
theorem dX3_init_101 : decode cX3_init 101 = .ok (.dup, 1) := by decide +kernel
theorem dX3_init_102 : decode cX3_init 102 = .ok (.bipush 8, 2) := by decide +kernel
theorem dX3_init_104 : decode cX3_init 104 = .ok (.bipush 9, 2) := by decide +kernel
theorem dX3_init_106 : decode cX3_init 106 = .ok (.iastore, 1) := by decide +kernel
theorem dX3_init_107 : decode cX3_init 107 = .ok (.dup, 1) := by decide +kernel
theorem dX3_init_108 : decode cX3_init 108 = .ok (.bipush 9, 2) := by decide +kernel
theorem dX3_init_110 : decode cX3_init 110 = .ok (.bipush 9, 2) := by decide +kernel
theorem dX3_init_112 : decode cX3_init 112 = .ok (.iastore, 1) := by decide +kernel
theorem dX3_init_113 : decode cX3_init 113 = .ok (.dup, 1) := by decide +kernel
theorem dX3_init_114 : decode cX3_init 114 = .ok (.bipush 10, 2) := by decide +kernel
theorem dX3_init_116 : decode cX3_init 116 = .ok (.bipush 9, 2) := by decide +kernel
theorem dX3_init_118 : decode cX3_init 118 = .ok (.iastore, 1) := by decide +kernel
theorem dX3_init_119 : decode cX3_init 119 = .ok (.dup, 1) := by decide +kernel
theorem dX3_init_120 : decode cX3_init 120 = .ok (.bipush 11, 2) := by decide +kernel
theorem dX3_init_122 : decode cX3_init 122 = .ok (.bipush 9, 2) := by decide +kernel
theorem dX3_init_124 : decode cX3_init 124 = .ok (.iastore, 1) := by decide +kernel
theorem dX3_init_125 : decode cX3_init 125 = .ok (.dup, 1) := by decide +kernel
theorem dX3_init_126 : decode cX3_init 126 = .ok (.bipush 12, 2) := by decide +kernel
theorem dX3_init_128 : decode cX3_init 128 = .ok (.bipush 9, 2) := by decide +kernel
theorem dX3_init_130 : decode cX3_init 130 = .ok (.iastore, 1) := by decide +kernel
theorem dX3_init_131 : decode cX3_init 131 = .ok (.dup, 1) := by decide +kernel
theorem dX3_init_132 : decode cX3_init 132 = .ok (.bipush 13, 2) := by decide +kernel
theorem dX3_init_134 : decode cX3_init 134 = .ok (.bipush 9, 2) := by decide +kernel
theorem dX3_init_136 : decode cX3_init 136 = .ok (.iastore, 1) := by decide +kernel
theorem dX3_init_137 : decode cX3_init 137 = .ok (.dup, 1) := by decide +kernel
theorem dX3_init_138 : decode cX3_init 138 = .ok (.bipush 14, 2) := by decide +kernel
theorem dX3_init_140 : decode cX3_init 140 = .ok (.bipush 9, 2) := by decide +kernel
theorem dX3_init_142 : decode cX3_init 142 = .ok (.iastore, 1) := by decide +kernel
theorem dX3_init_143 : decode cX3_init 143 = .ok (.putfield 34, 3) := by decide +kernel
theorem dX3_init_146 : decode cX3_init 146 = .ok (.aload_n 0, 1) := by decide +kernel
theorem dX3_init_147 : decode cX3_init 147 = .ok (.bipush 15, 2) := by decide +kernel
theorem dX3_init_149 : decode cX3_init 149 = .ok (.newarray .int, 2) := by decide +kernel
theorem dX3_init_151 : decode cX3_init 151 = .ok (.dup, 1) := by decide +kernel
theorem dX3_init_152 : decode cX3_init 152 = .ok (.iconst 0, 1) := by decide +kernel
theorem dX3_init_153 : decode cX3_init 153 = .ok (.iconst 0, 1) := by decide +kernel
theorem dX3_init_154 : decode cX3_init 154 = .ok (.iastore, 1) := by decide +kernel
theorem dX3_init_155 : decode cX3_init 155 = .ok (.dup, 1) := by decide +kernel
theorem dX3_init_156 : decode cX3_init 156 = .ok (.iconst 1, 1) := by decide +kernel
theorem dX3_init_157 : decode cX3_init 157 = .ok (.iconst 0, 1) := by decide +kernel
theorem dX3_init_158 : decode cX3_init 158 = .ok (.iastore, 1) := by decide +kernel
theorem dX3_init_159 : decode cX3_init 159 = .ok (.dup, 1) := by decide +kernel
theorem dX3_init_160 : decode cX3_init 160 = .ok (.iconst 2, 1) := by decide +kernel
theorem dX3_init_161 : decode cX3_init 161 = .ok (.iconst 1, 1) := by decide +kernel
theorem dX3_init_162 : decode cX3_init 162 = .ok (.iastore, 1) := by decide +kernel
theorem dX3_init_163 : decode cX3_init 163 = .ok (.dup, 1) := by decide +kernel
theorem dX3_init_164 : decode cX3_init 164 = .ok (.iconst 3, 1) := by decide +kernel
theorem dX3_init_165 : decode cX3_init 165 = .ok (.iconst 2, 1) := by decide +kernel
theorem dX3_init_166 : decode cX3_init 166 = .ok (.iastore, 1) := by decide +kernel
theorem dX3_init_167 : decode cX3_init 167 = .ok (.dup, 1) := by decide +kernel
theorem dX3_init_168 : decode cX3_init 168 = .ok (.iconst 4, 1) := by decide +kernel
theorem dX3_init_169 : decode cX3_init 169 = .ok (.iconst 3, 1) := by decide +kernel
theorem dX3_init_170 : decode cX3_init 170 = .ok (.iastore, 1) := by decide +kernel
theorem dX3_init_171 : decode cX3_init 171 = .ok (.dup, 1) := by decide +kernel
theorem dX3_init_172 : decode cX3_init 172 = .ok (.iconst 5, 1) := by decide +kernel
theorem dX3_init_173 : decode cX3_init 173 = .ok (.iconst 0, 1) := by decide +kernel
theorem dX3_init_174 : decode cX3_init 174 = .ok (.iastore, 1) := by decide +kernel
theorem dX3_init_175 : decode cX3_init 175 = .ok (.dup, 1) := by decide +kernel
theorem dX3_init_176 : decode cX3_init 176 = .ok (.bipush 6, 2) := by decide +kernel
theorem dX3_init_178 : decode cX3_init 178 = .ok (.iconst 1, 1) := by decide +kernel
theorem dX3_init_179 : decode cX3_init 179 = .ok (.iastore, 1) := by decide +kernel
theorem dX3_init_180 : decode cX3_init 180 = .ok (.dup, 1) := by decide +kernel
theorem dX3_init_181 : decode cX3_init 181 = .ok (.bipush 7, 2) := by decide +kernel
theorem dX3_init_183 : decode cX3_init 183 = .ok (.iconst 3, 1) := by decide +kernel
theorem dX3_init_184 : decode cX3_init 184 = .ok (.iastore, 1) := by decide +kernel
theorem dX3_init_185 : decode cX3_init 185 = .ok (.dup, 1) := by decide +kernel
theorem dX3_init_186 : decode cX3_init 186 = .ok (.bipush 8, 2) := by decide +kernel
theorem dX3_init_188 : decode cX3_init 188 = .ok (.iconst 1, 1) := by decide +kernel
theorem dX3_init_189 : decode cX3_init 189 = .ok (.iastore, 1) := by decide +kernel
theorem dX3_init_190 : decode cX3_init 190 = .ok (.dup, 1) := by decide +kernel
theorem dX3_init_191 : decode cX3_init 191 = .ok (.bipush 9, 2) := by decide +kernel
theorem dX3_init_193 : decode cX3_init 193 = .ok (.iconst 0, 1) := by decide +kernel
theorem dX3_init_194 : decode cX3_init 194 = .ok (.iastore, 1) := by decide +kernel
theorem dX3_init_195 : decode cX3_init 195 = .ok (.dup, 1) := by decide +kernel
theorem dX3_init_196 : decode cX3_init 196 = .ok (.bipush 10, 2) := by decide +kernel
theorem dX3_init_198 : decode cX3_init 198 = .ok (.iconst 4, 1) := by decide +kernel
theorem dX3_init_199 : decode cX3_init 199 = .ok (.iastore, 1) := by decide +kernel
theorem dX3_init_200 : decode cX3_init 200 = .ok (.dup, 1) := by decide +kernel
theorem dX3_init_201 : decode cX3_init 201 = .ok (.bipush 11, 2) := by decide +kernel
theorem dX3_init_203 : decode cX3_init 203 = .ok (.iconst 2, 1) := by decide +kernel
theorem dX3_init_204 : decode cX3_init 204 = .ok (.iastore, 1) := by decide +kernel
theorem dX3_init_205 : decode cX3_init 205 = .ok (.dup, 1) := by decide +kernel
theorem dX3_init_206 : decode cX3_init 206 = .ok (.bipush 12, 2) := by decide +kernel
theorem dX3_init_208 : decode cX3_init 208 = .ok (.iconst 0, 1) := by decide +kernel
theorem dX3_init_209 : decode cX3_init 209 = .ok (.iastore, 1) := by decide +kernel
theorem dX3_init_210 : decode cX3_init 210 = .ok (.dup, 1) := by decide +kernel
theorem dX3_init_211 : decode cX3_init 211 = .ok (.bipush 13, 2) := by decide +kernel
theorem dX3_init_213 : decode cX3_init 213 = .ok (.iconst 0, 1) := by decide +kernel
theorem dX3_init_214 : decode cX3_init 214 = .ok (.iastore, 1) := by decide +kernel
theorem dX3_init_215 : decode cX3_init 215 = .ok (.dup, 1) := by decide +kernel
theorem dX3_init_216 : decode cX3_init 216 = .ok (.bipush 14, 2) := by decide +kernel
theorem dX3_init_218 : decode cX3_init 218 = .ok (.iconst 0, 1) := by decide +kernel
theorem dX3_init_219 : decode cX3_init 219 = .ok (.iastore, 1) := by decide +kernel
theorem dX3_init_220 : decode cX3_init 220 = .ok (.putfield 37, 3) := by decide +kernel
theorem dX3_init_223 : decode cX3_init 223 = .ok (.aload_n 0, 1) := by decide +kernel
theorem dX3_init_224 : decode cX3_init 224 = .ok (.iconst 3, 1) := by decide +kernel
theorem dX3_init_225 : decode cX3_init 225 = .ok (.newarray .int, 2) := by decide +kernel
theorem dX3_init_227 : decode cX3_init 227 = .ok (.putfield 40, 3) := by decide +kernel
theorem dX3_init_230 : decode cX3_init 230 = .ok (.return_, 1) := by decide +kernel
set_option maxRecDepth 20000 in
theorem ggX3_becomeLike_X3_copyRow : GoodIn wsX3_becomeLike wsX3_copyRow := goodIn_r _ [14] (by decide +kernel) (by decide +kernel)
set_option maxRecDepth 20000 in
theorem gX3_becomeLike_X3_copyRow : GoodIn wsX3_becomeLike (va_wsS RX3 43 yX3_copyRow wsX3_copyRow) := goodIn_app (goodIn_of _ (by decide +kernel)) ggX3_becomeLike_X3_copyRow
theorem dX3_becomeLike_0 : decode cX3_becomeLike 0 = .ok (.aload_n 0, 1) := by decide +kernel
theorem dX3_becomeLike_1 : decode cX3_becomeLike 1 = .ok (.aload_n 1, 1) := by decide +kernel
theorem dX3_becomeLike_2 : decode cX3_becomeLike 2 = .ok (.getfield 9, 3) := by decide +kernel
theorem dX3_becomeLike_5 : decode cX3_becomeLike 5 = .ok (.putfield 9, 3) := by decide +kernel
theorem dX3_becomeLike_8 : decode cX3_becomeLike 8 = .ok (.aload_n 1, 1) := by decide +kernel
theorem dX3_becomeLike_9 : decode cX3_becomeLike 9 = .ok (.getfield 15, 3) := by decide +kernel
theorem dX3_becomeLike_12 : decode cX3_becomeLike 12 = .ok (.aload_n 0, 1) := by decide +kernel
theorem dX3_becomeLike_13 : decode cX3_becomeLike 13 = .ok (.getfield 15, 3) := by decide +kernel
theorem dX3_becomeLike_16 : decode cX3_becomeLike 16 = .ok (.invokestatic 43, 3) := by decide +kernel
theorem dX3_becomeLike_19 : decode cX3_becomeLike 19 = .ok (.aload_n 1, 1) := by decide +kernel
theorem dX3_becomeLike_20 : decode cX3_becomeLike 20 = .ok (.getfield 19, 3) := by decide +kernel
theorem dX3_becomeLike_23 : decode cX3_becomeLike 23 = .ok (.aload_n 0, 1) := by decide +kernel
theorem dX3_becomeLike_24 : decode cX3_becomeLike 24 = .ok (.getfield 19, 3) := by decide +kernel
theorem dX3_becomeLike_27 : decode cX3_becomeLike 27 = .ok (.invokestatic 43, 3) := by decide +kernel
theorem dX3_becomeLike_30 : decode cX3_becomeLike 30 = .ok (.aload_n 1, 1) := by decide +kernel
theorem dX3_becomeLike_31 : decode cX3_becomeLike 31 = .ok (.getfield 22, 3) := by decide +kernel
theorem dX3_becomeLike_34 : decode cX3_becomeLike 34 = .ok (.aload_n 0, 1) := by decide +kernel
theorem dX3_becomeLike_35 : decode cX3_becomeLike 35 = .ok (.getfield 22, 3) := by decide +kernel
theorem dX3_becomeLike_38 : decode cX3_becomeLike 38 = .ok (.invokestatic 43, 3) := by decide +kernel
theorem dX3_becomeLike_41 : decode cX3_becomeLike 41 = .ok (.aload_n 0, 1) := by decide +kernel
theorem dX3_becomeLike_42 : decode cX3_becomeLike 42 = .ok (.aload_n 1, 1) := by decide +kernel
theorem dX3_becomeLike_43 : decode cX3_becomeLike 43 = .ok (.getfield 25, 3) := by decide +kernel
theorem dX3_becomeLike_46 : decode cX3_becomeLike 46 = .ok (.putfield 25, 3) := by decide +kernel
theorem dX3_becomeLike_49 : decode cX3_becomeLike 49 = .ok (.aload_n 1, 1) := by decide +kernel
theorem dX3_becomeLike_50 : decode cX3_becomeLike 50 = .ok (.getfield 28, 3) := by decide +kernel
theorem dX3_becomeLike_53 : decode cX3_becomeLike 53 = .ok (.aload_n 0, 1) := by decide +kernel
theorem dX3_becomeLike_54 : decode cX3_becomeLike 54 = .ok (.getfield 28, 3) := by decide +kernel
theorem dX3_becomeLike_57 : decode cX3_becomeLike 57 = .ok (.invokestatic 43, 3) := by decide +kernel
theorem dX3_becomeLike_60 : decode cX3_becomeLike 60 = .ok (.aload_n 1, 1) := by decide +kernel
theorem dX3_becomeLike_61 : decode cX3_becomeLike 61 = .ok (.getfield 31, 3) := by decide +kernel
theorem dX3_becomeLike_64 : decode cX3_becomeLike 64 = .ok (.aload_n 0, 1) := by decide +kernel
theorem dX3_becomeLike_65 : decode cX3_becomeLike 65 = .ok (.getfield 31, 3) := by decide +kernel
theorem dX3_becomeLike_68 : decode cX3_becomeLike 68 = .ok (.invokestatic 43, 3) := by decide +kernel
theorem dX3_becomeLike_71 : decode cX3_becomeLike 71 = .ok (.aload_n 1, 1) := by decide +kernel
theorem dX3_becomeLike_72 : decode cX3_becomeLike 72 = .ok (.getfield 34, 3) := by decide +kernel
theorem dX3_becomeLike_75 : decode cX3_becomeLike 75 = .ok (.aload_n 0, 1) := by decide +kernel
theorem dX3_becomeLike_76 : decode cX3_becomeLike 76 = .ok (.getfield 34, 3) := by decide +kernel
theorem dX3_becomeLike_79 : decode cX3_becomeLike 79 = .ok (.invokestatic 43, 3) := by decide +kernel
theorem dX3_becomeLike_82 : decode cX3_becomeLike 82 = .ok (.aload_n 1, 1) := by decide +kernel
theorem dX3_becomeLike_83 : decode cX3_becomeLike 83 = .ok (.getfield 37, 3) := by decide +kernel
theorem dX3_becomeLike_86 : decode cX3_becomeLike 86 = .ok (.aload_n 0, 1) := by decide +kernel
theorem dX3_becomeLike_87 : decode cX3_becomeLike 87 = .ok (.getfield 37, 3) := by decide +kernel
theorem dX3_becomeLike_90 : decode cX3_becomeLike 90 = .ok (.invokestatic 43, 3) := by decide +kernel
theorem dX3_becomeLike_93 : decode cX3_becomeLike 93 = .ok (.aload_n 1, 1) := by decide +kernel
theorem dX3_becomeLike_94 : decode cX3_becomeLike 94 = .ok (.getfield 40, 3) := by decide +kernel
theorem dX3_becomeLike_97 : decode cX3_becomeLike 97 = .ok (.aload_n 0, 1) := by decide +kernel
theorem dX3_becomeLike_98 : decode cX3_becomeLike 98 = .ok (.getfield 40, 3) := by decide +kernel
theorem dX3_becomeLike_101 : decode cX3_becomeLike 101 = .ok (.invokestatic 43, 3) := by decide +kernel
theorem dX3_becomeLike_104 : decode cX3_becomeLike 104 = .ok (.return_, 1) := by decide +kernel
theorem dX3_copyRow_0 : decode cX3_copyRow 0 = .ok (.iconst 0, 1) := by decide +kernel
theorem dX3_copyRow_1 : decode cX3_copyRow 1 = .ok (.istore_n 2, 1) := by decide +kernel
theorem dX3_copyRow_2 : decode cX3_copyRow 2 = .ok (.iload_n 2, 1) := by decide +kernel
theorem dX3_copyRow_3 : decode cX3_copyRow 3 = .ok (.aload_n 0, 1) := by decide +kernel
theorem dX3_copyRow_4 : decode cX3_copyRow 4 = .ok (.arraylength, 1) := by decide +kernel
theorem dX3_copyRow_5 : decode cX3_copyRow 5 = .ok (.if_icmp .ge 21, 3) := by decide +kernel
theorem dX3_copyRow_8 : decode cX3_copyRow 8 = .ok (.iload_n 2, 1) := by decide +kernel
theorem dX3_copyRow_9 : decode cX3_copyRow 9 = .ok (.aload_n 1, 1) := by decide +kernel
theorem dX3_copyRow_10 : decode cX3_copyRow 10 = .ok (.arraylength, 1) := by decide +kernel
theorem dX3_copyRow_11 : decode cX3_copyRow 11 = .ok (.if_icmp .ge 15, 3) := by decide +kernel
theorem dX3_copyRow_14 : decode cX3_copyRow 14 = .ok (.aload_n 1, 1) := by decide +kernel
theorem dX3_copyRow_15 : decode cX3_copyRow 15 = .ok (.iload_n 2, 1) := by decide +kernel
theorem dX3_copyRow_16 : decode cX3_copyRow 16 = .ok (.aload_n 0, 1) := by decide +kernel
theorem dX3_copyRow_17 : decode cX3_copyRow 17 = .ok (.iload_n 2, 1) := by decide +kernel
theorem dX3_copyRow_18 : decode cX3_copyRow 18 = .ok (.iaload, 1) := by decide +kernel
theorem dX3_copyRow_19 : decode cX3_copyRow 19 = .ok (.iastore, 1) := by decide +kernel
theorem dX3_copyRow_20 : decode cX3_copyRow 20 = .ok (.iinc 2 1, 3) := by decide +kernel
theorem dX3_copyRow_23 : decode cX3_copyRow 23 = .ok (.goto (-21), 3) := by decide +kernel
theorem dX3_copyRow_26 : decode cX3_copyRow 26 = .ok (.return_, 1) := by decide +kernel
set_option maxRecDepth 20000 in
theorem ggX3_hasSheet_X6_within : GoodIn wsX3_hasSheet wsX6_within := goodIn_r _ [4] (by decide +kernel) (by decide +kernel)
set_option maxRecDepth 20000 in
theorem gX3_hasSheet_X6_within_n47 : GoodIn wsX3_hasSheet (wsX6_within) := ggX3_hasSheet_X6_within
theorem dX3_hasSheet_0 : decode cX3_hasSheet 0 = .ok (.iload_n 1, 1) := by decide +kernel
theorem dX3_hasSheet_1 : decode cX3_hasSheet 1 = .ok (.aload_n 0, 1) := by decide +kernel
theorem dX3_hasSheet_2 : decode cX3_hasSheet 2 = .ok (.getfield 9, 3) := by decide +kernel
theorem dX3_hasSheet_5 : decode cX3_hasSheet 5 = .ok (.invokestatic 47, 3) := by decide +kernel
theorem dX3_hasSheet_8 : decode cX3_hasSheet 8 = .ok (.ireturn, 1) := by decide +kernel
set_option maxRecDepth 20000 in
theorem ggX3_hasStack_X6_within : GoodIn wsX3_hasStack wsX6_within := goodIn_r _ [4] (by decide +kernel) (by decide +kernel)
set_option maxRecDepth 20000 in
theorem gX3_hasStack_X6_within_n47 : GoodIn wsX3_hasStack (wsX6_within) := ggX3_hasStack_X6_within
theorem dX3_hasStack_0 : decode cX3_hasStack 0 = .ok (.iload_n 1, 1) := by decide +kernel
theorem dX3_hasStack_1 : decode cX3_hasStack 1 = .ok (.aload_n 0, 1) := by decide +kernel
theorem dX3_hasStack_2 : decode cX3_hasStack 2 = .ok (.getfield 25, 3) := by decide +kernel
theorem dX3_hasStack_5 : decode cX3_hasStack 5 = .ok (.invokestatic 47, 3) := by decide +kernel
theorem dX3_hasStack_8 : decode cX3_hasStack 8 = .ok (.ireturn, 1) := by decide +kernel
theorem dX3_addSheet_0 : decode cX3_addSheet 0 = .ok (.aload_n 0, 1) := by decide +kernel
theorem dX3_addSheet_1 : decode cX3_addSheet 1 = .ok (.getfield 9, 3) := by decide +kernel
theorem dX3_addSheet_4 : decode cX3_addSheet 4 = .ok (.bipush 8, 2) := by decide +kernel
theorem dX3_addSheet_6 : decode cX3_addSheet 6 = .ok (.if_icmp .ge 17, 3) := by decide +kernel
theorem dX3_addSheet_9 : decode cX3_addSheet 9 = .ok (.iload 4, 2) := by decide +kernel
theorem dX3_addSheet_11 : decode cX3_addSheet 11 = .ok (.ifCond .lt 12, 3) := by decide +kernel
theorem dX3_addSheet_14 : decode cX3_addSheet 14 = .ok (.iload 4, 2) := by decide +kernel
theorem dX3_addSheet_16 : decode cX3_addSheet 16 = .ok (.iconst 5, 1) := by decide +kernel
theorem dX3_addSheet_17 : decode cX3_addSheet 17 = .ok (.iadd, 1) := by decide +kernel
theorem dX3_addSheet_18 : decode cX3_addSheet 18 = .ok (.aload_n 3, 1) := by decide +kernel
theorem dX3_addSheet_19 : decode cX3_addSheet 19 = .ok (.arraylength, 1) := by decide +kernel
theorem dX3_addSheet_20 : decode cX3_addSheet 20 = .ok (.if_icmp .le 4, 3) := by decide +kernel
theorem dX3_addSheet_23 : decode cX3_addSheet 23 = .ok (.return_, 1) := by decide +kernel
theorem dX3_addSheet_24 : decode cX3_addSheet 24 = .ok (.aload_n 0, 1) := by decide +kernel
theorem dX3_addSheet_25 : decode cX3_addSheet 25 = .ok (.getfield 15, 3) := by decide +kernel
theorem dX3_addSheet_28 : decode cX3_addSheet 28 = .ok (.aload_n 0, 1) := by decide +kernel
theorem dX3_addSheet_29 : decode cX3_addSheet 29 = .ok (.getfield 9, 3) := by decide +kernel
theorem dX3_addSheet_32 : decode cX3_addSheet 32 = .ok (.iload_n 1, 1) := by decide +kernel
theorem dX3_addSheet_33 : decode cX3_addSheet 33 = .ok (.iastore, 1) := by decide +kernel
theorem dX3_addSheet_34 : decode cX3_addSheet 34 = .ok (.aload_n 0, 1) := by decide +kernel
theorem dX3_addSheet_35 : decode cX3_addSheet 35 = .ok (.getfield 19, 3) := by decide +kernel
theorem dX3_addSheet_38 : decode cX3_addSheet 38 = .ok (.aload_n 0, 1) := by decide +kernel
theorem dX3_addSheet_39 : decode cX3_addSheet 39 = .ok (.getfield 9, 3) := by decide +kernel
theorem dX3_addSheet_42 : decode cX3_addSheet 42 = .ok (.iload_n 2, 1) := by decide +kernel
theorem dX3_addSheet_43 : decode cX3_addSheet 43 = .ok (.iastore, 1) := by decide +kernel
theorem dX3_addSheet_44 : decode cX3_addSheet 44 = .ok (.iconst 0, 1) := by decide +kernel
theorem dX3_addSheet_45 : decode cX3_addSheet 45 = .ok (.istore 5, 2) := by decide +kernel
theorem dX3_addSheet_47 : decode cX3_addSheet 47 = .ok (.iload 5, 2) := by decide +kernel
theorem dX3_addSheet_49 : decode cX3_addSheet 49 = .ok (.iconst 5, 1) := by decide +kernel
theorem dX3_addSheet_50 : decode cX3_addSheet 50 = .ok (.if_icmp .ge 30, 3) := by decide +kernel
theorem dX3_addSheet_53 : decode cX3_addSheet 53 = .ok (.aload_n 0, 1) := by decide +kernel
theorem dX3_addSheet_54 : decode cX3_addSheet 54 = .ok (.getfield 22, 3) := by decide +kernel
theorem dX3_addSheet_57 : decode cX3_addSheet 57 = .ok (.aload_n 0, 1) := by decide +kernel
theorem dX3_addSheet_58 : decode cX3_addSheet 58 = .ok (.getfield 9, 3) := by decide +kernel
theorem dX3_addSheet_61 : decode cX3_addSheet 61 = .ok (.iconst 5, 1) := by decide +kernel
theorem dX3_addSheet_62 : decode cX3_addSheet 62 = .ok (.imul, 1) := by decide +kernel
theorem dX3_addSheet_63 : decode cX3_addSheet 63 = .ok (.iload 5, 2) := by decide +kernel
theorem dX3_addSheet_65 : decode cX3_addSheet 65 = .ok (.iadd, 1) := by decide +kernel
theorem dX3_addSheet_66 : decode cX3_addSheet 66 = .ok (.aload_n 3, 1) := by decide +kernel
theorem dX3_addSheet_67 : decode cX3_addSheet 67 = .ok (.iload 4, 2) := by decide +kernel
theorem dX3_addSheet_69 : decode cX3_addSheet 69 = .ok (.iload 5, 2) := by decide +kernel
theorem dX3_addSheet_71 : decode cX3_addSheet 71 = .ok (.iadd, 1) := by decide +kernel
theorem dX3_addSheet_72 : decode cX3_addSheet 72 = .ok (.iaload, 1) := by decide +kernel
theorem dX3_addSheet_73 : decode cX3_addSheet 73 = .ok (.iastore, 1) := by decide +kernel
theorem dX3_addSheet_74 : decode cX3_addSheet 74 = .ok (.iinc 5 1, 3) := by decide +kernel
theorem dX3_addSheet_77 : decode cX3_addSheet 77 = .ok (.goto (-30), 3) := by decide +kernel
theorem dX3_addSheet_80 : decode cX3_addSheet 80 = .ok (.aload_n 0, 1) := by decide +kernel
theorem dX3_addSheet_81 : decode cX3_addSheet 81 = .ok (.dup, 1) := by decide +kernel
theorem dX3_addSheet_82 : decode cX3_addSheet 82 = .ok (.getfield 9, 3) := by decide +kernel
theorem dX3_addSheet_85 : decode cX3_addSheet 85 = .ok (.iconst 1, 1) := by decide +kernel
theorem dX3_addSheet_86 : decode cX3_addSheet 86 = .ok (.iadd, 1) := by decide +kernel
theorem dX3_addSheet_87 : decode cX3_addSheet 87 = .ok (.putfield 9, 3) := by decide +kernel
theorem dX3_addSheet_90 : decode cX3_addSheet 90 = .ok (.return_, 1) := by decide +kernel
set_option maxRecDepth 20000 in
theorem ggX3_addStack_X3_layOn : GoodIn wsX3_addStack wsX3_layOn := goodIn_r _ [7, 2, 8, 9, 10, 11, 6, 12, 1, 13, 14, 15, 16, 17, 18, 19, 20, 21, 22, 23, 24, 25] (by decide +kernel) (by decide +kernel)
set_option maxRecDepth 20000 in
theorem gX3_addStack_X3_layOn : GoodIn wsX3_addStack (wsV RX3 51 RX3 yX3_layOn wsX3_layOn) := goodIn_app (goodIn_of _ (by decide +kernel)) ggX3_addStack_X3_layOn
theorem dX3_addStack_0 : decode cX3_addStack 0 = .ok (.aload_n 0, 1) := by decide +kernel
theorem dX3_addStack_1 : decode cX3_addStack 1 = .ok (.getfield 25, 3) := by decide +kernel
theorem dX3_addStack_4 : decode cX3_addStack 4 = .ok (.istore_n 3, 1) := by decide +kernel
theorem dX3_addStack_5 : decode cX3_addStack 5 = .ok (.iload_n 3, 1) := by decide +kernel
theorem dX3_addStack_6 : decode cX3_addStack 6 = .ok (.bipush 6, 2) := by decide +kernel
theorem dX3_addStack_8 : decode cX3_addStack 8 = .ok (.if_icmp .lt 6, 3) := by decide +kernel
theorem dX3_addStack_11 : decode cX3_addStack 11 = .ok (.bipush (-4), 2) := by decide +kernel
theorem dX3_addStack_13 : decode cX3_addStack 13 = .ok (.ireturn, 1) := by decide +kernel
theorem dX3_addStack_14 : decode cX3_addStack 14 = .ok (.aload_n 0, 1) := by decide +kernel
theorem dX3_addStack_15 : decode cX3_addStack 15 = .ok (.getfield 28, 3) := by decide +kernel
theorem dX3_addStack_18 : decode cX3_addStack 18 = .ok (.iload_n 3, 1) := by decide +kernel
theorem dX3_addStack_19 : decode cX3_addStack 19 = .ok (.iconst 0, 1) := by decide +kernel
theorem dX3_addStack_20 : decode cX3_addStack 20 = .ok (.iastore, 1) := by decide +kernel
theorem dX3_addStack_21 : decode cX3_addStack 21 = .ok (.aload_n 0, 1) := by decide +kernel
theorem dX3_addStack_22 : decode cX3_addStack 22 = .ok (.dup, 1) := by decide +kernel
theorem dX3_addStack_23 : decode cX3_addStack 23 = .ok (.getfield 25, 3) := by decide +kernel
theorem dX3_addStack_26 : decode cX3_addStack 26 = .ok (.iconst 1, 1) := by decide +kernel
theorem dX3_addStack_27 : decode cX3_addStack 27 = .ok (.iadd, 1) := by decide +kernel
theorem dX3_addStack_28 : decode cX3_addStack 28 = .ok (.putfield 25, 3) := by decide +kernel
theorem dX3_addStack_31 : decode cX3_addStack 31 = .ok (.iconst 0, 1) := by decide +kernel
theorem dX3_addStack_32 : decode cX3_addStack 32 = .ok (.istore 4, 2) := by decide +kernel
theorem dX3_addStack_34 : decode cX3_addStack 34 = .ok (.iload 4, 2) := by decide +kernel
theorem dX3_addStack_36 : decode cX3_addStack 36 = .ok (.iload_n 2, 1) := by decide +kernel
theorem dX3_addStack_37 : decode cX3_addStack 37 = .ok (.if_icmp .ge 26, 3) := by decide +kernel
theorem dX3_addStack_40 : decode cX3_addStack 40 = .ok (.iload 4, 2) := by decide +kernel
theorem dX3_addStack_42 : decode cX3_addStack 42 = .ok (.aload_n 1, 1) := by decide +kernel
theorem dX3_addStack_43 : decode cX3_addStack 43 = .ok (.arraylength, 1) := by decide +kernel
theorem dX3_addStack_44 : decode cX3_addStack 44 = .ok (.if_icmp .ge 19, 3) := by decide +kernel
theorem dX3_addStack_47 : decode cX3_addStack 47 = .ok (.aload_n 0, 1) := by decide +kernel
theorem dX3_addStack_48 : decode cX3_addStack 48 = .ok (.iload_n 3, 1) := by decide +kernel
theorem dX3_addStack_49 : decode cX3_addStack 49 = .ok (.aload_n 1, 1) := by decide +kernel
theorem dX3_addStack_50 : decode cX3_addStack 50 = .ok (.iload 4, 2) := by decide +kernel
theorem dX3_addStack_52 : decode cX3_addStack 52 = .ok (.iaload, 1) := by decide +kernel
theorem dX3_addStack_53 : decode cX3_addStack 53 = .ok (.invokevirtual 51, 3) := by decide +kernel
theorem dX3_addStack_56 : decode cX3_addStack 56 = .ok (.pop, 1) := by decide +kernel
theorem dX3_addStack_57 : decode cX3_addStack 57 = .ok (.iinc 4 1, 3) := by decide +kernel
theorem dX3_addStack_60 : decode cX3_addStack 60 = .ok (.goto (-26), 3) := by decide +kernel
theorem dX3_addStack_63 : decode cX3_addStack 63 = .ok (.iload_n 3, 1) := by decide +kernel
theorem dX3_addStack_64 : decode cX3_addStack 64 = .ok (.ireturn, 1) := by decide +kernel
set_option maxRecDepth 20000 in
theorem ggX3_layOn_X3_hasStack : GoodIn wsX3_layOn wsX3_hasStack := goodIn_r _ [7, 8, 9, 10, 11, 12, 13, 14, 15, 16, 17, 18, 19, 20, 21] (by decide +kernel) (by decide +kernel)
set_option maxRecDepth 20000 in
theorem gX3_layOn_X3_hasStack : GoodIn wsX3_layOn (wsV RX3 54 RX3 yX3_hasStack wsX3_hasStack) := goodIn_app (goodIn_of _ (by decide +kernel)) ggX3_layOn_X3_hasStack
theorem dX3_layOn_0 : decode cX3_layOn 0 = .ok (.aload_n 0, 1) := by decide +kernel
theorem dX3_layOn_1 : decode cX3_layOn 1 = .ok (.iload_n 1, 1) := by decide +kernel
theorem dX3_layOn_2 : decode cX3_layOn 2 = .ok (.invokevirtual 54, 3) := by decide +kernel
theorem dX3_layOn_5 : decode cX3_layOn 5 = .ok (.ifCond .eq 14, 3) := by decide +kernel
theorem dX3_layOn_8 : decode cX3_layOn 8 = .ok (.aload_n 0, 1) := by decide +kernel
theorem dX3_layOn_9 : decode cX3_layOn 9 = .ok (.getfield 28, 3) := by decide +kernel
theorem dX3_layOn_12 : decode cX3_layOn 12 = .ok (.iload_n 1, 1) := by decide +kernel
theorem dX3_layOn_13 : decode cX3_layOn 13 = .ok (.iaload, 1) := by decide +kernel
theorem dX3_layOn_14 : decode cX3_layOn 14 = .ok (.bipush 6, 2) := by decide +kernel
theorem dX3_layOn_16 : decode cX3_layOn 16 = .ok (.if_icmp .lt 5, 3) := by decide +kernel
theorem dX3_layOn_19 : decode cX3_layOn 19 = .ok (.iconst 0, 1) := by decide +kernel
theorem dX3_layOn_20 : decode cX3_layOn 20 = .ok (.ireturn, 1) := by decide +kernel
theorem dX3_layOn_21 : decode cX3_layOn 21 = .ok (.aload_n 0, 1) := by decide +kernel
theorem dX3_layOn_22 : decode cX3_layOn 22 = .ok (.getfield 31, 3) := by decide +kernel
theorem dX3_layOn_25 : decode cX3_layOn 25 = .ok (.iload_n 1, 1) := by decide +kernel
theorem dX3_layOn_26 : decode cX3_layOn 26 = .ok (.bipush 6, 2) := by decide +kernel
theorem dX3_layOn_28 : decode cX3_layOn 28 = .ok (.imul, 1) := by decide +kernel
theorem dX3_layOn_29 : decode cX3_layOn 29 = .ok (.aload_n 0, 1) := by decide +kernel
theorem dX3_layOn_30 : decode cX3_layOn 30 = .ok (.getfield 28, 3) := by decide +kernel
theorem dX3_layOn_33 : decode cX3_layOn 33 = .ok (.iload_n 1, 1) := by decide +kernel
theorem dX3_layOn_34 : decode cX3_layOn 34 = .ok (.iaload, 1) := by decide +kernel
theorem dX3_layOn_35 : decode cX3_layOn 35 = .ok (.iadd, 1) := by decide +kernel
theorem dX3_layOn_36 : decode cX3_layOn 36 = .ok (.iload_n 2, 1) := by decide +kernel
theorem dX3_layOn_37 : decode cX3_layOn 37 = .ok (.iastore, 1) := by decide +kernel
theorem dX3_layOn_38 : decode cX3_layOn 38 = .ok (.aload_n 0, 1) := by decide +kernel
theorem dX3_layOn_39 : decode cX3_layOn 39 = .ok (.getfield 28, 3) := by decide +kernel
theorem dX3_layOn_42 : decode cX3_layOn 42 = .ok (.iload_n 1, 1) := by decide +kernel
theorem dX3_layOn_43 : decode cX3_layOn 43 = .ok (.dup2, 1) := by decide +kernel
theorem dX3_layOn_44 : decode cX3_layOn 44 = .ok (.iaload, 1) := by decide +kernel
theorem dX3_layOn_45 : decode cX3_layOn 45 = .ok (.iconst 1, 1) := by decide +kernel
theorem dX3_layOn_46 : decode cX3_layOn 46 = .ok (.iadd, 1) := by decide +kernel
theorem dX3_layOn_47 : decode cX3_layOn 47 = .ok (.iastore, 1) := by decide +kernel
theorem dX3_layOn_48 : decode cX3_layOn 48 = .ok (.iconst 1, 1) := by decide +kernel
theorem dX3_layOn_49 : decode cX3_layOn 49 = .ok (.ireturn, 1) := by decide +kernel
set_option maxRecDepth 20000 in
theorem ggX3_sheetAt_X3_hasStack : GoodIn wsX3_sheetAt wsX3_hasStack := goodIn_r _ [6, 7, 8, 9, 10, 11, 12, 13, 14, 15, 16, 17, 18, 19, 20] (by decide +kernel) (by decide +kernel)
set_option maxRecDepth 20000 in
theorem gX3_sheetAt_X3_hasStack : GoodIn wsX3_sheetAt (wsV RX3 54 RX3 yX3_hasStack wsX3_hasStack) := goodIn_app (goodIn_of _ (by decide +kernel)) ggX3_sheetAt_X3_hasStack
set_option maxRecDepth 20000 in
theorem ggX3_sheetAt_X6_within : GoodIn wsX3_sheetAt wsX6_within := goodIn_r _ [10] (by decide +kernel) (by decide +kernel)
set_option maxRecDepth 20000 in
theorem gX3_sheetAt_X6_within_n47 : GoodIn wsX3_sheetAt (wsX6_within) := ggX3_sheetAt_X6_within
theorem dX3_sheetAt_0 : decode cX3_sheetAt 0 = .ok (.aload_n 0, 1) := by decide +kernel
theorem dX3_sheetAt_1 : decode cX3_sheetAt 1 = .ok (.iload_n 1, 1) := by decide +kernel
