theorem dX6_sheets_48 : decode cX6_sheets 48 = .ok (.iconst 0, 1) := by decide +kernel
theorem dX6_sheets_49 : decode cX6_sheets 49 = .ok (.istore_n 2, 1) := by decide +kernel
theorem dX6_sheets_50 : decode cX6_sheets 50 = .ok (.iload_n 2, 1) := by decide +kernel
theorem dX6_sheets_51 : decode cX6_sheets 51 = .ok (.aload_n 0, 1) := by decide +kernel
theorem dX6_sheets_52 : decode cX6_sheets 52 = .ok (.getfield 46, 3) := by decide +kernel
theorem dX6_sheets_55 : decode cX6_sheets 55 = .ok (.getfield 93, 3) := by decide +kernel
theorem dX6_sheets_58 : decode cX6_sheets 58 = .ok (.if_icmp .ge 44, 3) := by decide +kernel
theorem dX6_sheets_61 : decode cX6_sheets 61 = .ok (.aload_n 0, 1) := by decide +kernel
theorem dX6_sheets_62 : decode cX6_sheets 62 = .ok (.getfield 12, 3) := by decide +kernel
theorem dX6_sheets_65 : decode cX6_sheets 65 = .ok (.aload_n 0, 1) := by decide +kernel
theorem dX6_sheets_66 : decode cX6_sheets 66 = .ok (.getfield 46, 3) := by decide +kernel
theorem dX6_sheets_69 : decode cX6_sheets 69 = .ok (.getfield 96, 3) := by decide +kernel
theorem dX6_sheets_72 : decode cX6_sheets 72 = .ok (.iload_n 2, 1) := by decide +kernel
theorem dX6_sheets_73 : decode cX6_sheets 73 = .ok (.iaload, 1) := by decide +kernel
theorem dX6_sheets_74 : decode cX6_sheets 74 = .ok (.aload_n 0, 1) := by decide +kernel
theorem dX6_sheets_75 : decode cX6_sheets 75 = .ok (.getfield 46, 3) := by decide +kernel
theorem dX6_sheets_78 : decode cX6_sheets 78 = .ok (.getfield 99, 3) := by decide +kernel
theorem dX6_sheets_81 : decode cX6_sheets 81 = .ok (.iload_n 2, 1) := by decide +kernel
theorem dX6_sheets_82 : decode cX6_sheets 82 = .ok (.iaload, 1) := by decide +kernel
theorem dX6_sheets_83 : decode cX6_sheets 83 = .ok (.aload_n 0, 1) := by decide +kernel
theorem dX6_sheets_84 : decode cX6_sheets 84 = .ok (.getfield 46, 3) := by decide +kernel
theorem dX6_sheets_87 : decode cX6_sheets 87 = .ok (.getfield 102, 3) := by decide +kernel
theorem dX6_sheets_90 : decode cX6_sheets 90 = .ok (.iload_n 2, 1) := by decide +kernel
theorem dX6_sheets_91 : decode cX6_sheets 91 = .ok (.iconst 5, 1) := by decide +kernel
theorem dX6_sheets_92 : decode cX6_sheets 92 = .ok (.imul, 1) := by decide +kernel
theorem dX6_sheets_93 : decode cX6_sheets 93 = .ok (.invokevirtual 105, 3) := by decide +kernel
theorem dX6_sheets_96 : decode cX6_sheets 96 = .ok (.iinc 2 1, 3) := by decide +kernel
theorem dX6_sheets_99 : decode cX6_sheets 99 = .ok (.goto (-49), 3) := by decide +kernel
theorem dX6_sheets_102 : decode cX6_sheets 102 = .ok (.aload_n 0, 1) := by decide +kernel
theorem dX6_sheets_103 : decode cX6_sheets 103 = .ok (.getfield 12, 3) := by decide +kernel
theorem dX6_sheets_106 : decode cX6_sheets 106 = .ok (.getfield 90, 3) := by decide +kernel
theorem dX6_sheets_109 : decode cX6_sheets 109 = .ok (.ireturn, 1) := by decide +kernel
set_option maxRecDepth 20000 in
theorem ggX6_number_X3_hasSheet : GoodIn wsX6_number wsX3_hasSheet := goodIn_r _ [7, 8, 9, 10, 11, 28, 29, 30, 31, 32, 33, 34, 35, 36, 37] (by decide +kernel) (by decide +kernel)
set_option maxRecDepth 20000 in
theorem gX6_number_X3_hasSheet : GoodIn wsX6_number (wsV RX6 109 RX3 yX3_hasSheet wsX3_hasSheet) := goodIn_app (goodIn_of _ (by decide +kernel)) ggX6_number_X3_hasSheet
set_option maxRecDepth 20000 in
theorem ggX6_number_X6_within : GoodIn wsX6_number wsX6_within := goodIn_r _ [11] (by decide +kernel) (by decide +kernel)
set_option maxRecDepth 20000 in
theorem gX6_number_X6_within : GoodIn wsX6_number (va_wsS RX6 112 yX6_within wsX6_within) := goodIn_app (goodIn_of _ (by decide +kernel)) ggX6_number_X6_within
set_option maxRecDepth 20000 in
theorem ggX6_number_X6_exchange : GoodIn wsX6_number wsX6_exchange := goodIn_r _ [15, 12, 9, 10, 11] (by decide +kernel) (by decide +kernel)
set_option maxRecDepth 20000 in
theorem gX6_number_X6_exchange : GoodIn wsX6_number (va_wsS RX6 117 yX6_exchange wsX6_exchange) := goodIn_app (goodIn_of _ (by decide +kernel)) ggX6_number_X6_exchange
theorem dX6_number_0 : decode cX6_number 0 = .ok (.aload_n 0, 1) := by decide +kernel
theorem dX6_number_1 : decode cX6_number 1 = .ok (.getfield 12, 3) := by decide +kernel
theorem dX6_number_4 : decode cX6_number 4 = .ok (.iload_n 1, 1) := by decide +kernel
theorem dX6_number_5 : decode cX6_number 5 = .ok (.invokevirtual 109, 3) := by decide +kernel
theorem dX6_number_8 : decode cX6_number 8 = .ok (.ifCond .eq 11, 3) := by decide +kernel
theorem dX6_number_11 : decode cX6_number 11 = .ok (.iload_n 2, 1) := by decide +kernel
theorem dX6_number_12 : decode cX6_number 12 = .ok (.iconst 5, 1) := by decide +kernel
theorem dX6_number_13 : decode cX6_number 13 = .ok (.invokestatic 112, 3) := by decide +kernel
theorem dX6_number_16 : decode cX6_number 16 = .ok (.ifCond .ne 5, 3) := by decide +kernel
theorem dX6_number_19 : decode cX6_number 19 = .ok (.iconst (-1), 1) := by decide +kernel
theorem dX6_number_20 : decode cX6_number 20 = .ok (.ireturn, 1) := by decide +kernel
theorem dX6_number_21 : decode cX6_number 21 = .ok (.iload_n 3, 1) := by decide +kernel
theorem dX6_number_22 : decode cX6_number 22 = .ok (.bipush 11, 2) := by decide +kernel
theorem dX6_number_24 : decode cX6_number 24 = .ok (.invokestatic 112, 3) := by decide +kernel
theorem dX6_number_27 : decode cX6_number 27 = .ok (.ifCond .ne 6, 3) := by decide +kernel
theorem dX6_number_30 : decode cX6_number 30 = .ok (.bipush (-2), 2) := by decide +kernel
theorem dX6_number_32 : decode cX6_number 32 = .ok (.ireturn, 1) := by decide +kernel
theorem dX6_number_33 : decode cX6_number 33 = .ok (.aload_n 0, 1) := by decide +kernel
theorem dX6_number_34 : decode cX6_number 34 = .ok (.getfield 12, 3) := by decide +kernel
theorem dX6_number_37 : decode cX6_number 37 = .ok (.getfield 116, 3) := by decide +kernel
theorem dX6_number_40 : decode cX6_number 40 = .ok (.iload_n 1, 1) := by decide +kernel
theorem dX6_number_41 : decode cX6_number 41 = .ok (.iconst 5, 1) := by decide +kernel
theorem dX6_number_42 : decode cX6_number 42 = .ok (.imul, 1) := by decide +kernel
theorem dX6_number_43 : decode cX6_number 43 = .ok (.iload_n 2, 1) := by decide +kernel
theorem dX6_number_44 : decode cX6_number 44 = .ok (.iadd, 1) := by decide +kernel
theorem dX6_number_45 : decode cX6_number 45 = .ok (.iload_n 3, 1) := by decide +kernel
theorem dX6_number_46 : decode cX6_number 46 = .ok (.invokestatic 117, 3) := by decide +kernel
theorem dX6_number_49 : decode cX6_number 49 = .ok (.ireturn, 1) := by decide +kernel
set_option maxRecDepth 20000 in
theorem ggX6_becomes_X3_hasSheet : GoodIn wsX6_becomes wsX3_hasSheet := goodIn_r _ [8, 9, 10, 11, 12, 29, 30, 31, 32, 33, 34, 35, 36, 37, 38] (by decide +kernel) (by decide +kernel)
set_option maxRecDepth 20000 in
theorem gX6_becomes_X3_hasSheet : GoodIn wsX6_becomes (wsV RX6 109 RX3 yX3_hasSheet wsX3_hasSheet) := goodIn_app (goodIn_of _ (by decide +kernel)) ggX6_becomes_X3_hasSheet
set_option maxRecDepth 20000 in
theorem ggX6_becomes_X6_within : GoodIn wsX6_becomes wsX6_within := goodIn_r _ [12] (by decide +kernel) (by decide +kernel)
set_option maxRecDepth 20000 in
theorem gX6_becomes_X6_within : GoodIn wsX6_becomes (va_wsS RX6 112 yX6_within wsX6_within) := goodIn_app (goodIn_of _ (by decide +kernel)) ggX6_becomes_X6_within
set_option maxRecDepth 20000 in
theorem ggX6_becomes_X6_exchange : GoodIn wsX6_becomes wsX6_exchange := goodIn_r _ [16, 13, 10, 11, 12] (by decide +kernel) (by decide +kernel)
set_option maxRecDepth 20000 in
theorem gX6_becomes_X6_exchange : GoodIn wsX6_becomes (va_wsS RX6 117 yX6_exchange wsX6_exchange) := goodIn_app (goodIn_of _ (by decide +kernel)) ggX6_becomes_X6_exchange
theorem dX6_becomes_0 : decode cX6_becomes 0 = .ok (.aload_n 0, 1) := by decide +kernel
theorem dX6_becomes_1 : decode cX6_becomes 1 = .ok (.getfield 12, 3) := by decide +kernel
theorem dX6_becomes_4 : decode cX6_becomes 4 = .ok (.iload_n 1, 1) := by decide +kernel
theorem dX6_becomes_5 : decode cX6_becomes 5 = .ok (.invokevirtual 109, 3) := by decide +kernel
theorem dX6_becomes_8 : decode cX6_becomes 8 = .ok (.ifCond .eq 12, 3) := by decide +kernel
theorem dX6_becomes_11 : decode cX6_becomes 11 = .ok (.iload_n 2, 1) := by decide +kernel
theorem dX6_becomes_12 : decode cX6_becomes 12 = .ok (.bipush 6, 2) := by decide +kernel
theorem dX6_becomes_14 : decode cX6_becomes 14 = .ok (.invokestatic 112, 3) := by decide +kernel
theorem dX6_becomes_17 : decode cX6_becomes 17 = .ok (.ifCond .ne 5, 3) := by decide +kernel
theorem dX6_becomes_20 : decode cX6_becomes 20 = .ok (.iconst (-1), 1) := by decide +kernel
theorem dX6_becomes_21 : decode cX6_becomes 21 = .ok (.ireturn, 1) := by decide +kernel
theorem dX6_becomes_22 : decode cX6_becomes 22 = .ok (.iload_n 3, 1) := by decide +kernel
theorem dX6_becomes_23 : decode cX6_becomes 23 = .ok (.bipush 10, 2) := by decide +kernel
theorem dX6_becomes_25 : decode cX6_becomes 25 = .ok (.invokestatic 112, 3) := by decide +kernel
theorem dX6_becomes_28 : decode cX6_becomes 28 = .ok (.ifCond .ne 6, 3) := by decide +kernel
theorem dX6_becomes_31 : decode cX6_becomes 31 = .ok (.bipush (-2), 2) := by decide +kernel
theorem dX6_becomes_33 : decode cX6_becomes 33 = .ok (.ireturn, 1) := by decide +kernel
theorem dX6_becomes_34 : decode cX6_becomes 34 = .ok (.bipush 10, 2) := by decide +kernel
theorem dX6_becomes_36 : decode cX6_becomes 36 = .ok (.aload_n 0, 1) := by decide +kernel
theorem dX6_becomes_37 : decode cX6_becomes 37 = .ok (.getfield 12, 3) := by decide +kernel
theorem dX6_becomes_40 : decode cX6_becomes 40 = .ok (.getfield 121, 3) := by decide +kernel
theorem dX6_becomes_43 : decode cX6_becomes 43 = .ok (.iload_n 1, 1) := by decide +kernel
theorem dX6_becomes_44 : decode cX6_becomes 44 = .ok (.iload_n 2, 1) := by decide +kernel
theorem dX6_becomes_45 : decode cX6_becomes 45 = .ok (.invokestatic 117, 3) := by decide +kernel
theorem dX6_becomes_48 : decode cX6_becomes 48 = .ok (.imul, 1) := by decide +kernel
theorem dX6_becomes_49 : decode cX6_becomes 49 = .ok (.aload_n 0, 1) := by decide +kernel
theorem dX6_becomes_50 : decode cX6_becomes 50 = .ok (.getfield 12, 3) := by decide +kernel
theorem dX6_becomes_53 : decode cX6_becomes 53 = .ok (.getfield 122, 3) := by decide +kernel
theorem dX6_becomes_56 : decode cX6_becomes 56 = .ok (.iload_n 1, 1) := by decide +kernel
theorem dX6_becomes_57 : decode cX6_becomes 57 = .ok (.iload_n 3, 1) := by decide +kernel
theorem dX6_becomes_58 : decode cX6_becomes 58 = .ok (.invokestatic 117, 3) := by decide +kernel
theorem dX6_becomes_61 : decode cX6_becomes 61 = .ok (.iadd, 1) := by decide +kernel
theorem dX6_becomes_62 : decode cX6_becomes 62 = .ok (.ireturn, 1) := by decide +kernel
set_option maxRecDepth 20000 in
theorem ggX6_sheet_X3_hasSheet : GoodIn wsX6_sheet wsX3_hasSheet := goodIn_r _ [9, 10, 11, 12, 13, 41, 42, 43, 44, 45, 46, 47, 48, 49, 50] (by decide +kernel) (by decide +kernel)
set_option maxRecDepth 20000 in
theorem gX6_sheet_X3_hasSheet : GoodIn wsX6_sheet (wsV RX6 109 RX3 yX3_hasSheet wsX3_hasSheet) := goodIn_app (goodIn_of _ (by decide +kernel)) ggX6_sheet_X3_hasSheet
set_option maxRecDepth 20000 in
theorem ggX6_sheet_X6_within : GoodIn wsX6_sheet wsX6_within := goodIn_r _ [13] (by decide +kernel) (by decide +kernel)
set_option maxRecDepth 20000 in
theorem gX6_sheet_X6_within : GoodIn wsX6_sheet (va_wsS RX6 112 yX6_within wsX6_within) := goodIn_app (goodIn_of _ (by decide +kernel)) ggX6_sheet_X6_within
set_option maxRecDepth 20000 in
theorem ggX6_sheet_X3_letsAs : GoodIn wsX6_sheet wsX3_letsAs := goodIn_r _ [18, 19, 20, 6, 7, 8, 9, 10, 11, 12, 13, 21, 22, 23, 24, 25, 26, 27, 28, 41, 42, 43, 44, 45, 46, 47, 48, 49, 50] (by decide +kernel) (by decide +kernel)
set_option maxRecDepth 20000 in
theorem gX6_sheet_X3_letsAs : GoodIn wsX6_sheet (wsV RX6 123 RX3 yX3_letsAs wsX3_letsAs) := goodIn_app (goodIn_of _ (by decide +kernel)) ggX6_sheet_X3_letsAs
theorem dX6_sheet_0 : decode cX6_sheet 0 = .ok (.aload_n 0, 1) := by decide +kernel
theorem dX6_sheet_1 : decode cX6_sheet 1 = .ok (.getfield 12, 3) := by decide +kernel
theorem dX6_sheet_4 : decode cX6_sheet 4 = .ok (.iload_n 1, 1) := by decide +kernel
theorem dX6_sheet_5 : decode cX6_sheet 5 = .ok (.invokevirtual 109, 3) := by decide +kernel
theorem dX6_sheet_8 : decode cX6_sheet 8 = .ok (.ifCond .ne 5, 3) := by decide +kernel
theorem dX6_sheet_11 : decode cX6_sheet 11 = .ok (.iconst (-1), 1) := by decide +kernel
theorem dX6_sheet_12 : decode cX6_sheet 12 = .ok (.ireturn, 1) := by decide +kernel
theorem dX6_sheet_13 : decode cX6_sheet 13 = .ok (.iload_n 2, 1) := by decide +kernel
theorem dX6_sheet_14 : decode cX6_sheet 14 = .ok (.ifCond .ne 13, 3) := by decide +kernel
theorem dX6_sheet_17 : decode cX6_sheet 17 = .ok (.aload_n 0, 1) := by decide +kernel
theorem dX6_sheet_18 : decode cX6_sheet 18 = .ok (.getfield 12, 3) := by decide +kernel
theorem dX6_sheet_21 : decode cX6_sheet 21 = .ok (.getfield 121, 3) := by decide +kernel
theorem dX6_sheet_24 : decode cX6_sheet 24 = .ok (.iload_n 1, 1) := by decide +kernel
theorem dX6_sheet_25 : decode cX6_sheet 25 = .ok (.iaload, 1) := by decide +kernel
theorem dX6_sheet_26 : decode cX6_sheet 26 = .ok (.ireturn, 1) := by decide +kernel
theorem dX6_sheet_27 : decode cX6_sheet 27 = .ok (.iload_n 2, 1) := by decide +kernel
theorem dX6_sheet_28 : decode cX6_sheet 28 = .ok (.iconst 1, 1) := by decide +kernel
theorem dX6_sheet_29 : decode cX6_sheet 29 = .ok (.if_icmp .ne 13, 3) := by decide +kernel
theorem dX6_sheet_32 : decode cX6_sheet 32 = .ok (.aload_n 0, 1) := by decide +kernel
theorem dX6_sheet_33 : decode cX6_sheet 33 = .ok (.getfield 12, 3) := by decide +kernel
theorem dX6_sheet_36 : decode cX6_sheet 36 = .ok (.getfield 122, 3) := by decide +kernel
theorem dX6_sheet_39 : decode cX6_sheet 39 = .ok (.iload_n 1, 1) := by decide +kernel
theorem dX6_sheet_40 : decode cX6_sheet 40 = .ok (.iaload, 1) := by decide +kernel
theorem dX6_sheet_41 : decode cX6_sheet 41 = .ok (.ireturn, 1) := by decide +kernel
theorem dX6_sheet_42 : decode cX6_sheet 42 = .ok (.iload_n 2, 1) := by decide +kernel
theorem dX6_sheet_43 : decode cX6_sheet 43 = .ok (.bipush 10, 2) := by decide +kernel
theorem dX6_sheet_45 : decode cX6_sheet 45 = .ok (.isub, 1) := by decide +kernel
theorem dX6_sheet_46 : decode cX6_sheet 46 = .ok (.iconst 5, 1) := by decide +kernel
theorem dX6_sheet_47 : decode cX6_sheet 47 = .ok (.invokestatic 112, 3) := by decide +kernel
theorem dX6_sheet_50 : decode cX6_sheet 50 = .ok (.ifCond .eq 20, 3) := by decide +kernel
theorem dX6_sheet_53 : decode cX6_sheet 53 = .ok (.aload_n 0, 1) := by decide +kernel
theorem dX6_sheet_54 : decode cX6_sheet 54 = .ok (.getfield 12, 3) := by decide +kernel
theorem dX6_sheet_57 : decode cX6_sheet 57 = .ok (.getfield 116, 3) := by decide +kernel
theorem dX6_sheet_60 : decode cX6_sheet 60 = .ok (.iload_n 1, 1) := by decide +kernel
theorem dX6_sheet_61 : decode cX6_sheet 61 = .ok (.iconst 5, 1) := by decide +kernel
theorem dX6_sheet_62 : decode cX6_sheet 62 = .ok (.imul, 1) := by decide +kernel
theorem dX6_sheet_63 : decode cX6_sheet 63 = .ok (.iload_n 2, 1) := by decide +kernel
theorem dX6_sheet_64 : decode cX6_sheet 64 = .ok (.bipush 10, 2) := by decide +kernel
theorem dX6_sheet_66 : decode cX6_sheet 66 = .ok (.isub, 1) := by decide +kernel
theorem dX6_sheet_67 : decode cX6_sheet 67 = .ok (.iadd, 1) := by decide +kernel
theorem dX6_sheet_68 : decode cX6_sheet 68 = .ok (.iaload, 1) := by decide +kernel
theorem dX6_sheet_69 : decode cX6_sheet 69 = .ok (.ireturn, 1) := by decide +kernel
theorem dX6_sheet_70 : decode cX6_sheet 70 = .ok (.iload_n 2, 1) := by decide +kernel
theorem dX6_sheet_71 : decode cX6_sheet 71 = .ok (.bipush 20, 2) := by decide +kernel
theorem dX6_sheet_73 : decode cX6_sheet 73 = .ok (.isub, 1) := by decide +kernel
theorem dX6_sheet_74 : decode cX6_sheet 74 = .ok (.iconst 5, 1) := by decide +kernel
theorem dX6_sheet_75 : decode cX6_sheet 75 = .ok (.invokestatic 112, 3) := by decide +kernel
theorem dX6_sheet_78 : decode cX6_sheet 78 = .ok (.ifCond .eq 34, 3) := by decide +kernel
theorem dX6_sheet_81 : decode cX6_sheet 81 = .ok (.aload_n 0, 1) := by decide +kernel
theorem dX6_sheet_82 : decode cX6_sheet 82 = .ok (.getfield 12, 3) := by decide +kernel
theorem dX6_sheet_85 : decode cX6_sheet 85 = .ok (.iload_n 1, 1) := by decide +kernel
theorem dX6_sheet_86 : decode cX6_sheet 86 = .ok (.aload_n 0, 1) := by decide +kernel
theorem dX6_sheet_87 : decode cX6_sheet 87 = .ok (.getfield 12, 3) := by decide +kernel
theorem dX6_sheet_90 : decode cX6_sheet 90 = .ok (.getfield 121, 3) := by decide +kernel
theorem dX6_sheet_93 : decode cX6_sheet 93 = .ok (.iload_n 1, 1) := by decide +kernel
theorem dX6_sheet_94 : decode cX6_sheet 94 = .ok (.iaload, 1) := by decide +kernel
theorem dX6_sheet_95 : decode cX6_sheet 95 = .ok (.aload_n 0, 1) := by decide +kernel
theorem dX6_sheet_96 : decode cX6_sheet 96 = .ok (.getfield 12, 3) := by decide +kernel
theorem dX6_sheet_99 : decode cX6_sheet 99 = .ok (.getfield 122, 3) := by decide +kernel
theorem dX6_sheet_102 : decode cX6_sheet 102 = .ok (.iload_n 1, 1) := by decide +kernel
theorem dX6_sheet_103 : decode cX6_sheet 103 = .ok (.iaload, 1) := by decide +kernel
theorem dX6_sheet_104 : decode cX6_sheet 104 = .ok (.iload_n 2, 1) := by decide +kernel
theorem dX6_sheet_105 : decode cX6_sheet 105 = .ok (.bipush 20, 2) := by decide +kernel
theorem dX6_sheet_107 : decode cX6_sheet 107 = .ok (.isub, 1) := by decide +kernel
theorem dX6_sheet_108 : decode cX6_sheet 108 = .ok (.invokevirtual 123, 3) := by decide +kernel
theorem dX6_sheet_111 : decode cX6_sheet 111 = .ok (.ireturn, 1) := by decide +kernel
theorem dX6_sheet_112 : decode cX6_sheet 112 = .ok (.iconst (-1), 1) := by decide +kernel
theorem dX6_sheet_113 : decode cX6_sheet 113 = .ok (.ireturn, 1) := by decide +kernel
set_option maxRecDepth 20000 in
theorem ggX6_stack_X4_readStack : GoodIn wsX6_stack wsX4_readStack := goodIn_r _ [11, 12, 13, 14, 15, 16, 17, 10, 18, 19, 20, 21, 22, 61, 62, 63, 64, 65, 66, 67, 68, 69] (by decide +kernel) (by decide +kernel)
set_option maxRecDepth 20000 in
theorem gX6_stack_X4_readStack : GoodIn wsX6_stack (wsV RX6 127 RX4 yX4_readStack wsX4_readStack) := goodIn_app (goodIn_of _ (by decide +kernel)) ggX6_stack_X4_readStack
set_option maxRecDepth 20000 in
theorem ggX6_stack_X3_addStack : GoodIn wsX6_stack wsX3_addStack := goodIn_r _ [27, 28, 29, 30, 31, 32, 26, 33, 34, 35, 36, 37, 38, 20, 21, 22, 51, 52, 53, 54, 55, 56, 57, 58, 59, 60] (by decide +kernel) (by decide +kernel)
set_option maxRecDepth 20000 in
theorem gX6_stack_X3_addStack : GoodIn wsX6_stack (wsV RX6 137 RX3 yX3_addStack wsX3_addStack) := goodIn_app (goodIn_of _ (by decide +kernel)) ggX6_stack_X3_addStack
theorem dX6_stack_0 : decode cX6_stack 0 = .ok (.aload_n 0, 1) := by decide +kernel
theorem dX6_stack_1 : decode cX6_stack 1 = .ok (.getfield 46, 3) := by decide +kernel
theorem dX6_stack_4 : decode cX6_stack 4 = .ok (.aload_n 0, 1) := by decide +kernel
theorem dX6_stack_5 : decode cX6_stack 5 = .ok (.getfield 12, 3) := by decide +kernel
theorem dX6_stack_8 : decode cX6_stack 8 = .ok (.getfield 90, 3) := by decide +kernel
theorem dX6_stack_11 : decode cX6_stack 11 = .ok (.invokevirtual 127, 3) := by decide +kernel
theorem dX6_stack_14 : decode cX6_stack 14 = .ok (.istore_n 1, 1) := by decide +kernel
theorem dX6_stack_15 : decode cX6_stack 15 = .ok (.aload_n 0, 1) := by decide +kernel
theorem dX6_stack_16 : decode cX6_stack 16 = .ok (.getfield 46, 3) := by decide +kernel
theorem dX6_stack_19 : decode cX6_stack 19 = .ok (.iconst 0, 1) := by decide +kernel
theorem dX6_stack_20 : decode cX6_stack 20 = .ok (.putfield 82, 3) := by decide +kernel
theorem dX6_stack_23 : decode cX6_stack 23 = .ok (.iload_n 1, 1) := by decide +kernel
theorem dX6_stack_24 : decode cX6_stack 24 = .ok (.ifCond .lt 10, 3) := by decide +kernel
theorem dX6_stack_27 : decode cX6_stack 27 = .ok (.bipush (-100), 2) := by decide +kernel
theorem dX6_stack_29 : decode cX6_stack 29 = .ok (.iload_n 1, 1) := by decide +kernel
theorem dX6_stack_30 : decode cX6_stack 30 = .ok (.isub, 1) := by decide +kernel
theorem dX6_stack_31 : decode cX6_stack 31 = .ok (.goto 24, 3) := by decide +kernel
theorem dX6_stack_34 : decode cX6_stack 34 = .ok (.aload_n 0, 1) := by decide +kernel
theorem dX6_stack_35 : decode cX6_stack 35 = .ok (.getfield 12, 3) := by decide +kernel
theorem dX6_stack_38 : decode cX6_stack 38 = .ok (.aload_n 0, 1) := by decide +kernel
theorem dX6_stack_39 : decode cX6_stack 39 = .ok (.getfield 46, 3) := by decide +kernel
theorem dX6_stack_42 : decode cX6_stack 42 = .ok (.getfield 131, 3) := by decide +kernel
theorem dX6_stack_45 : decode cX6_stack 45 = .ok (.aload_n 0, 1) := by decide +kernel
theorem dX6_stack_46 : decode cX6_stack 46 = .ok (.getfield 46, 3) := by decide +kernel
theorem dX6_stack_49 : decode cX6_stack 49 = .ok (.getfield 134, 3) := by decide +kernel
theorem dX6_stack_52 : decode cX6_stack 52 = .ok (.invokevirtual 137, 3) := by decide +kernel
theorem dX6_stack_55 : decode cX6_stack 55 = .ok (.ireturn, 1) := by decide +kernel
set_option maxRecDepth 20000 in
theorem ggX6_lay_X3_hasStack : GoodIn wsX6_lay wsX3_hasStack := goodIn_r _ [7, 8, 9, 10, 11, 36, 37, 38, 39, 40, 41, 42, 43, 44, 45] (by decide +kernel) (by decide +kernel)
set_option maxRecDepth 20000 in
theorem gX6_lay_X3_hasStack : GoodIn wsX6_lay (wsV RX6 141 RX3 yX3_hasStack wsX3_hasStack) := goodIn_app (goodIn_of _ (by decide +kernel)) ggX6_lay_X3_hasStack
set_option maxRecDepth 20000 in
theorem ggX6_lay_X3_hasSheet : GoodIn wsX6_lay wsX3_hasSheet := goodIn_r _ [15, 16, 9, 10, 11, 36, 37, 38, 39, 40, 41, 42, 43, 44, 45] (by decide +kernel) (by decide +kernel)
set_option maxRecDepth 20000 in
theorem gX6_lay_X3_hasSheet : GoodIn wsX6_lay (wsV RX6 109 RX3 yX3_hasSheet wsX3_hasSheet) := goodIn_app (goodIn_of _ (by decide +kernel)) ggX6_lay_X3_hasSheet
set_option maxRecDepth 20000 in
theorem ggX6_lay_X3_layOn : GoodIn wsX6_lay wsX3_layOn := goodIn_r _ [20, 21, 22, 23, 4, 5, 6, 7, 8, 9, 10, 11, 36, 37, 38, 39, 40, 41, 42, 43, 44, 45] (by decide +kernel) (by decide +kernel)
set_option maxRecDepth 20000 in
theorem gX6_lay_X3_layOn : GoodIn wsX6_lay (wsV RX6 144 RX3 yX3_layOn wsX3_layOn) := goodIn_app (goodIn_of _ (by decide +kernel)) ggX6_lay_X3_layOn
theorem dX6_lay_0 : decode cX6_lay 0 = .ok (.aload_n 0, 1) := by decide +kernel
theorem dX6_lay_1 : decode cX6_lay 1 = .ok (.getfield 12, 3) := by decide +kernel
theorem dX6_lay_4 : decode cX6_lay 4 = .ok (.iload_n 1, 1) := by decide +kernel
theorem dX6_lay_5 : decode cX6_lay 5 = .ok (.invokevirtual 141, 3) := by decide +kernel
theorem dX6_lay_8 : decode cX6_lay 8 = .ok (.ifCond .eq 14, 3) := by decide +kernel
theorem dX6_lay_11 : decode cX6_lay 11 = .ok (.aload_n 0, 1) := by decide +kernel
theorem dX6_lay_12 : decode cX6_lay 12 = .ok (.getfield 12, 3) := by decide +kernel
theorem dX6_lay_15 : decode cX6_lay 15 = .ok (.iload_n 2, 1) := by decide +kernel
theorem dX6_lay_16 : decode cX6_lay 16 = .ok (.invokevirtual 109, 3) := by decide +kernel
theorem dX6_lay_19 : decode cX6_lay 19 = .ok (.ifCond .ne 5, 3) := by decide +kernel
theorem dX6_lay_22 : decode cX6_lay 22 = .ok (.iconst (-1), 1) := by decide +kernel
theorem dX6_lay_23 : decode cX6_lay 23 = .ok (.ireturn, 1) := by decide +kernel
theorem dX6_lay_24 : decode cX6_lay 24 = .ok (.aload_n 0, 1) := by decide +kernel
theorem dX6_lay_25 : decode cX6_lay 25 = .ok (.getfield 12, 3) := by decide +kernel
theorem dX6_lay_28 : decode cX6_lay 28 = .ok (.iload_n 1, 1) := by decide +kernel
theorem dX6_lay_29 : decode cX6_lay 29 = .ok (.iload_n 2, 1) := by decide +kernel
theorem dX6_lay_30 : decode cX6_lay 30 = .ok (.invokevirtual 144, 3) := by decide +kernel
theorem dX6_lay_33 : decode cX6_lay 33 = .ok (.ifCond .eq 15, 3) := by decide +kernel
theorem dX6_lay_36 : decode cX6_lay 36 = .ok (.aload_n 0, 1) := by decide +kernel
theorem dX6_lay_37 : decode cX6_lay 37 = .ok (.getfield 12, 3) := by decide +kernel
theorem dX6_lay_40 : decode cX6_lay 40 = .ok (.getfield 147, 3) := by decide +kernel
theorem dX6_lay_43 : decode cX6_lay 43 = .ok (.iload_n 1, 1) := by decide +kernel
theorem dX6_lay_44 : decode cX6_lay 44 = .ok (.iaload, 1) := by decide +kernel
theorem dX6_lay_45 : decode cX6_lay 45 = .ok (.goto 5, 3) := by decide +kernel
theorem dX6_lay_48 : decode cX6_lay 48 = .ok (.bipush (-4), 2) := by decide +kernel
theorem dX6_lay_50 : decode cX6_lay 50 = .ok (.ireturn, 1) := by decide +kernel
set_option maxRecDepth 20000 in
theorem ggX6_take_X3_hasStack : GoodIn wsX6_take wsX3_hasStack := goodIn_r _ [7, 8, 9, 10, 11, 30, 31, 32, 33, 34, 35, 36, 37, 38, 39] (by decide +kernel) (by decide +kernel)
set_option maxRecDepth 20000 in
theorem gX6_take_X3_hasStack : GoodIn wsX6_take (wsV RX6 141 RX3 yX3_hasStack wsX3_hasStack) := goodIn_app (goodIn_of _ (by decide +kernel)) ggX6_take_X3_hasStack
set_option maxRecDepth 20000 in
theorem ggX6_take_X3_sheetAt : GoodIn wsX6_take wsX3_sheetAt := goodIn_r _ [15, 16, 17, 4, 5, 6, 7, 8, 9, 10, 11, 30, 31, 32, 33, 34, 35, 36, 37, 38, 39] (by decide +kernel) (by decide +kernel)
set_option maxRecDepth 20000 in
theorem gX6_take_X3_sheetAt : GoodIn wsX6_take (wsV RX6 150 RX3 yX3_sheetAt wsX3_sheetAt) := goodIn_app (goodIn_of _ (by decide +kernel)) ggX6_take_X3_sheetAt
theorem dX6_take_0 : decode cX6_take 0 = .ok (.aload_n 0, 1) := by decide +kernel
theorem dX6_take_1 : decode cX6_take 1 = .ok (.getfield 12, 3) := by decide +kernel
theorem dX6_take_4 : decode cX6_take 4 = .ok (.iload_n 1, 1) := by decide +kernel
theorem dX6_take_5 : decode cX6_take 5 = .ok (.invokevirtual 141, 3) := by decide +kernel
theorem dX6_take_8 : decode cX6_take 8 = .ok (.ifCond .ne 5, 3) := by decide +kernel
theorem dX6_take_11 : decode cX6_take 11 = .ok (.iconst (-1), 1) := by decide +kernel
theorem dX6_take_12 : decode cX6_take 12 = .ok (.ireturn, 1) := by decide +kernel
theorem dX6_take_13 : decode cX6_take 13 = .ok (.aload_n 0, 1) := by decide +kernel
theorem dX6_take_14 : decode cX6_take 14 = .ok (.getfield 12, 3) := by decide +kernel
theorem dX6_take_17 : decode cX6_take 17 = .ok (.getfield 147, 3) := by decide +kernel
theorem dX6_take_20 : decode cX6_take 20 = .ok (.iload_n 1, 1) := by decide +kernel
theorem dX6_take_21 : decode cX6_take 21 = .ok (.iaload, 1) := by decide +kernel
theorem dX6_take_22 : decode cX6_take 22 = .ok (.ifCond .gt 6, 3) := by decide +kernel
theorem dX6_take_25 : decode cX6_take 25 = .ok (.bipush (-3), 2) := by decide +kernel
theorem dX6_take_27 : decode cX6_take 27 = .ok (.ireturn, 1) := by decide +kernel
theorem dX6_take_28 : decode cX6_take 28 = .ok (.aload_n 0, 1) := by decide +kernel
theorem dX6_take_29 : decode cX6_take 29 = .ok (.getfield 12, 3) := by decide +kernel
theorem dX6_take_32 : decode cX6_take 32 = .ok (.getfield 147, 3) := by decide +kernel
theorem dX6_take_35 : decode cX6_take 35 = .ok (.iload_n 1, 1) := by decide +kernel
theorem dX6_take_36 : decode cX6_take 36 = .ok (.dup2, 1) := by decide +kernel
theorem dX6_take_37 : decode cX6_take 37 = .ok (.iaload, 1) := by decide +kernel
theorem dX6_take_38 : decode cX6_take 38 = .ok (.iconst 1, 1) := by decide +kernel
theorem dX6_take_39 : decode cX6_take 39 = .ok (.isub, 1) := by decide +kernel
theorem dX6_take_40 : decode cX6_take 40 = .ok (.iastore, 1) := by decide +kernel
theorem dX6_take_41 : decode cX6_take 41 = .ok (.aload_n 0, 1) := by decide +kernel
theorem dX6_take_42 : decode cX6_take 42 = .ok (.getfield 12, 3) := by decide +kernel
theorem dX6_take_45 : decode cX6_take 45 = .ok (.iload_n 1, 1) := by decide +kernel
theorem dX6_take_46 : decode cX6_take 46 = .ok (.aload_n 0, 1) := by decide +kernel
theorem dX6_take_47 : decode cX6_take 47 = .ok (.getfield 12, 3) := by decide +kernel
theorem dX6_take_50 : decode cX6_take 50 = .ok (.getfield 147, 3) := by decide +kernel
theorem dX6_take_53 : decode cX6_take 53 = .ok (.iload_n 1, 1) := by decide +kernel
theorem dX6_take_54 : decode cX6_take 54 = .ok (.iaload, 1) := by decide +kernel
theorem dX6_take_55 : decode cX6_take 55 = .ok (.invokevirtual 150, 3) := by decide +kernel
theorem dX6_take_58 : decode cX6_take 58 = .ok (.ireturn, 1) := by decide +kernel
set_option maxRecDepth 20000 in
theorem ggX6_at_X3_hasStack : GoodIn wsX6_at wsX3_hasStack := goodIn_r _ [7, 8, 9, 10, 11, 31, 32, 33, 34, 35, 36, 37, 38, 39, 40] (by decide +kernel) (by decide +kernel)
set_option maxRecDepth 20000 in
theorem gX6_at_X3_hasStack : GoodIn wsX6_at (wsV RX6 141 RX3 yX3_hasStack wsX3_hasStack) := goodIn_app (goodIn_of _ (by decide +kernel)) ggX6_at_X3_hasStack
set_option maxRecDepth 20000 in
theorem ggX6_at_X6_within : GoodIn wsX6_at wsX6_within := goodIn_r _ [11] (by decide +kernel) (by decide +kernel)
set_option maxRecDepth 20000 in
theorem gX6_at_X6_within : GoodIn wsX6_at (va_wsS RX6 112 yX6_within wsX6_within) := goodIn_app (goodIn_of _ (by decide +kernel)) ggX6_at_X6_within
set_option maxRecDepth 20000 in
theorem ggX6_at_X3_sheetAt : GoodIn wsX6_at wsX3_sheetAt := goodIn_r _ [16, 17, 18, 4, 5, 6, 7, 8, 9, 10, 11, 31, 32, 33, 34, 35, 36, 37, 38, 39, 40] (by decide +kernel) (by decide +kernel)
set_option maxRecDepth 20000 in
theorem gX6_at_X3_sheetAt : GoodIn wsX6_at (wsV RX6 150 RX3 yX3_sheetAt wsX3_sheetAt) := goodIn_app (goodIn_of _ (by decide +kernel)) ggX6_at_X3_sheetAt
theorem dX6_at_0 : decode cX6_at 0 = .ok (.aload_n 0, 1) := by decide +kernel
theorem dX6_at_1 : decode cX6_at 1 = .ok (.getfield 12, 3) := by decide +kernel
theorem dX6_at_4 : decode cX6_at 4 = .ok (.iload_n 1, 1) := by decide +kernel
theorem dX6_at_5 : decode cX6_at 5 = .ok (.invokevirtual 141, 3) := by decide +kernel
theorem dX6_at_8 : decode cX6_at 8 = .ok (.ifCond .ne 5, 3) := by decide +kernel
theorem dX6_at_11 : decode cX6_at 11 = .ok (.iconst (-1), 1) := by decide +kernel
theorem dX6_at_12 : decode cX6_at 12 = .ok (.ireturn, 1) := by decide +kernel
theorem dX6_at_13 : decode cX6_at 13 = .ok (.iload_n 2, 1) := by decide +kernel
theorem dX6_at_14 : decode cX6_at 14 = .ok (.iconst (-1), 1) := by decide +kernel
theorem dX6_at_15 : decode cX6_at 15 = .ok (.if_icmp .ne 13, 3) := by decide +kernel
theorem dX6_at_18 : decode cX6_at 18 = .ok (.aload_n 0, 1) := by decide +kernel
theorem dX6_at_19 : decode cX6_at 19 = .ok (.getfield 12, 3) := by decide +kernel
theorem dX6_at_22 : decode cX6_at 22 = .ok (.getfield 147, 3) := by decide +kernel
theorem dX6_at_25 : decode cX6_at 25 = .ok (.iload_n 1, 1) := by decide +kernel
theorem dX6_at_26 : decode cX6_at 26 = .ok (.iaload, 1) := by decide +kernel
theorem dX6_at_27 : decode cX6_at 27 = .ok (.ireturn, 1) := by decide +kernel
theorem dX6_at_28 : decode cX6_at 28 = .ok (.iload_n 2, 1) := by decide +kernel
theorem dX6_at_29 : decode cX6_at 29 = .ok (.aload_n 0, 1) := by decide +kernel
theorem dX6_at_30 : decode cX6_at 30 = .ok (.getfield 12, 3) := by decide +kernel
theorem dX6_at_33 : decode cX6_at 33 = .ok (.getfield 147, 3) := by decide +kernel
theorem dX6_at_36 : decode cX6_at 36 = .ok (.iload_n 1, 1) := by decide +kernel
theorem dX6_at_37 : decode cX6_at 37 = .ok (.iaload, 1) := by decide +kernel
theorem dX6_at_38 : decode cX6_at 38 = .ok (.invokestatic 112, 3) := by decide +kernel
theorem dX6_at_41 : decode cX6_at 41 = .ok (.ifCond .eq 15, 3) := by decide +kernel
theorem dX6_at_44 : decode cX6_at 44 = .ok (.aload_n 0, 1) := by decide +kernel
theorem dX6_at_45 : decode cX6_at 45 = .ok (.getfield 12, 3) := by decide +kernel
theorem dX6_at_48 : decode cX6_at 48 = .ok (.iload_n 1, 1) := by decide +kernel
theorem dX6_at_49 : decode cX6_at 49 = .ok (.iload_n 2, 1) := by decide +kernel
theorem dX6_at_50 : decode cX6_at 50 = .ok (.invokevirtual 150, 3) := by decide +kernel
theorem dX6_at_53 : decode cX6_at 53 = .ok (.goto 4, 3) := by decide +kernel
theorem dX6_at_56 : decode cX6_at 56 = .ok (.iconst (-1), 1) := by decide +kernel
theorem dX6_at_57 : decode cX6_at 57 = .ok (.ireturn, 1) := by decide +kernel
set_option maxRecDepth 20000 in
theorem ggX6_power_X6_within : GoodIn wsX6_power wsX6_within := goodIn_r _ [6] (by decide +kernel) (by decide +kernel)
set_option maxRecDepth 20000 in
theorem gX6_power_X6_within : GoodIn wsX6_power (va_wsS RX6 112 yX6_within wsX6_within) := goodIn_app (goodIn_of _ (by decide +kernel)) ggX6_power_X6_within
set_option maxRecDepth 20000 in
theorem ggX6_power_X6_exchange : GoodIn wsX6_power wsX6_exchange := goodIn_r _ [9, 3, 4, 5, 6] (by decide +kernel) (by decide +kernel)
set_option maxRecDepth 20000 in
theorem gX6_power_X6_exchange : GoodIn wsX6_power (va_wsS RX6 117 yX6_exchange wsX6_exchange) := goodIn_app (goodIn_of _ (by decide +kernel)) ggX6_power_X6_exchange
theorem dX6_power_0 : decode cX6_power 0 = .ok (.iload_n 1, 1) := by decide +kernel
theorem dX6_power_1 : decode cX6_power 1 = .ok (.iconst 3, 1) := by decide +kernel
theorem dX6_power_2 : decode cX6_power 2 = .ok (.invokestatic 112, 3) := by decide +kernel
theorem dX6_power_5 : decode cX6_power 5 = .ok (.ifCond .eq 11, 3) := by decide +kernel
theorem dX6_power_8 : decode cX6_power 8 = .ok (.iload_n 2, 1) := by decide +kernel
theorem dX6_power_9 : decode cX6_power 9 = .ok (.iconst 5, 1) := by decide +kernel
theorem dX6_power_10 : decode cX6_power 10 = .ok (.invokestatic 112, 3) := by decide +kernel
theorem dX6_power_13 : decode cX6_power 13 = .ok (.ifCond .ne 5, 3) := by decide +kernel
theorem dX6_power_16 : decode cX6_power 16 = .ok (.iconst (-1), 1) := by decide +kernel
theorem dX6_power_17 : decode cX6_power 17 = .ok (.ireturn, 1) := by decide +kernel
theorem dX6_power_18 : decode cX6_power 18 = .ok (.iload_n 3, 1) := by decide +kernel
theorem dX6_power_19 : decode cX6_power 19 = .ok (.bipush 10, 2) := by decide +kernel
theorem dX6_power_21 : decode cX6_power 21 = .ok (.invokestatic 112, 3) := by decide +kernel
theorem dX6_power_24 : decode cX6_power 24 = .ok (.ifCond .ne 6, 3) := by decide +kernel
theorem dX6_power_27 : decode cX6_power 27 = .ok (.bipush (-2), 2) := by decide +kernel
theorem dX6_power_29 : decode cX6_power 29 = .ok (.ireturn, 1) := by decide +kernel
theorem dX6_power_30 : decode cX6_power 30 = .ok (.aload_n 0, 1) := by decide +kernel
theorem dX6_power_31 : decode cX6_power 31 = .ok (.getfield 12, 3) := by decide +kernel
theorem dX6_power_34 : decode cX6_power 34 = .ok (.getfield 154, 3) := by decide +kernel
theorem dX6_power_37 : decode cX6_power 37 = .ok (.iload_n 1, 1) := by decide +kernel
theorem dX6_power_38 : decode cX6_power 38 = .ok (.iconst 5, 1) := by decide +kernel
theorem dX6_power_39 : decode cX6_power 39 = .ok (.imul, 1) := by decide +kernel
theorem dX6_power_40 : decode cX6_power 40 = .ok (.iload_n 2, 1) := by decide +kernel
theorem dX6_power_41 : decode cX6_power 41 = .ok (.iadd, 1) := by decide +kernel
theorem dX6_power_42 : decode cX6_power 42 = .ok (.iload_n 3, 1) := by decide +kernel
theorem dX6_power_43 : decode cX6_power 43 = .ok (.invokestatic 117, 3) := by decide +kernel
theorem dX6_power_46 : decode cX6_power 46 = .ok (.ireturn, 1) := by decide +kernel
set_option maxRecDepth 20000 in
theorem ggX6_weight_X6_within : GoodIn wsX6_weight wsX6_within := goodIn_r _ [6] (by decide +kernel) (by decide +kernel)
set_option maxRecDepth 20000 in
theorem gX6_weight_X6_within : GoodIn wsX6_weight (va_wsS RX6 112 yX6_within wsX6_within) := goodIn_app (goodIn_of _ (by decide +kernel)) ggX6_weight_X6_within
set_option maxRecDepth 20000 in
theorem ggX6_weight_X6_exchange : GoodIn wsX6_weight wsX6_exchange := goodIn_r _ [9, 3, 4, 5, 6] (by decide +kernel) (by decide +kernel)
set_option maxRecDepth 20000 in
theorem gX6_weight_X6_exchange : GoodIn wsX6_weight (va_wsS RX6 117 yX6_exchange wsX6_exchange) := goodIn_app (goodIn_of _ (by decide +kernel)) ggX6_weight_X6_exchange
theorem dX6_weight_0 : decode cX6_weight 0 = .ok (.iload_n 1, 1) := by decide +kernel
theorem dX6_weight_1 : decode cX6_weight 1 = .ok (.iconst 3, 1) := by decide +kernel
theorem dX6_weight_2 : decode cX6_weight 2 = .ok (.invokestatic 112, 3) := by decide +kernel
theorem dX6_weight_5 : decode cX6_weight 5 = .ok (.ifCond .eq 11, 3) := by decide +kernel
theorem dX6_weight_8 : decode cX6_weight 8 = .ok (.iload_n 2, 1) := by decide +kernel
theorem dX6_weight_9 : decode cX6_weight 9 = .ok (.iconst 5, 1) := by decide +kernel
theorem dX6_weight_10 : decode cX6_weight 10 = .ok (.invokestatic 112, 3) := by decide +kernel
theorem dX6_weight_13 : decode cX6_weight 13 = .ok (.ifCond .ne 5, 3) := by decide +kernel
theorem dX6_weight_16 : decode cX6_weight 16 = .ok (.iconst (-1), 1) := by decide +kernel
theorem dX6_weight_17 : decode cX6_weight 17 = .ok (.ireturn, 1) := by decide +kernel
theorem dX6_weight_18 : decode cX6_weight 18 = .ok (.iload_n 3, 1) := by decide +kernel
theorem dX6_weight_19 : decode cX6_weight 19 = .ok (.bipush 10, 2) := by decide +kernel
theorem dX6_weight_21 : decode cX6_weight 21 = .ok (.invokestatic 112, 3) := by decide +kernel
theorem dX6_weight_24 : decode cX6_weight 24 = .ok (.ifCond .ne 6, 3) := by decide +kernel
theorem dX6_weight_27 : decode cX6_weight 27 = .ok (.bipush (-2), 2) := by decide +kernel
theorem dX6_weight_29 : decode cX6_weight 29 = .ok (.ireturn, 1) := by decide +kernel
theorem dX6_weight_30 : decode cX6_weight 30 = .ok (.aload_n 0, 1) := by decide +kernel
theorem dX6_weight_31 : decode cX6_weight 31 = .ok (.getfield 12, 3) := by decide +kernel
theorem dX6_weight_34 : decode cX6_weight 34 = .ok (.getfield 157, 3) := by decide +kernel
theorem dX6_weight_37 : decode cX6_weight 37 = .ok (.iload_n 1, 1) := by decide +kernel
theorem dX6_weight_38 : decode cX6_weight 38 = .ok (.iconst 5, 1) := by decide +kernel
theorem dX6_weight_39 : decode cX6_weight 39 = .ok (.imul, 1) := by decide +kernel
theorem dX6_weight_40 : decode cX6_weight 40 = .ok (.iload_n 2, 1) := by decide +kernel
theorem dX6_weight_41 : decode cX6_weight 41 = .ok (.iadd, 1) := by decide +kernel
theorem dX6_weight_42 : decode cX6_weight 42 = .ok (.iload_n 3, 1) := by decide +kernel
theorem dX6_weight_43 : decode cX6_weight 43 = .ok (.invokestatic 117, 3) := by decide +kernel
theorem dX6_weight_46 : decode cX6_weight 46 = .ok (.ireturn, 1) := by decide +kernel
set_option maxRecDepth 20000 in
theorem ggX6_through_X3_hasStack : GoodIn wsX6_through wsX3_hasStack := goodIn_r _ [10, 11, 12, 13, 14, 102, 103, 104, 105, 106, 107, 108, 109, 110, 111] (by decide +kernel) (by decide +kernel)
set_option maxRecDepth 20000 in
theorem gX6_through_X3_hasStack : GoodIn wsX6_through (wsV RX6 141 RX3 yX3_hasStack wsX3_hasStack) := goodIn_app (goodIn_of _ (by decide +kernel)) ggX6_through_X3_hasStack
set_option maxRecDepth 20000 in
theorem ggX6_through_X6_within : GoodIn wsX6_through wsX6_within := goodIn_r _ [14] (by decide +kernel) (by decide +kernel)
set_option maxRecDepth 20000 in
theorem gX6_through_X6_within : GoodIn wsX6_through (va_wsS RX6 112 yX6_within wsX6_within) := goodIn_app (goodIn_of _ (by decide +kernel)) ggX6_through_X6_within
set_option maxRecDepth 20000 in
theorem ggX6_through_X0_lookAtSheets : GoodIn wsX6_through wsX0_lookAtSheets := goodIn_r _ [20, 21, 22, 23, 24, 25, 26, 27, 19, 28, 29, 12, 13, 14, 30, 31, 32, 9, 33, 34, 35, 36, 37, 38, 39, 40, 41, 42, 43, 44, 45, 46, 47, 97, 98, 99, 100, 101, 102, 103, 104, 105, 106, 107, 108, 109, 110, 111] (by decide +kernel) (by decide +kernel)
set_option maxRecDepth 20000 in
theorem gX6_through_X0_lookAtSheets : GoodIn wsX6_through (wsV RX6 162 RX0 yX0_lookAtSheets wsX0_lookAtSheets) := goodIn_app (goodIn_of _ (by decide +kernel)) ggX6_through_X0_lookAtSheets
set_option maxRecDepth 20000 in
theorem ggX6_through_X0_pileStack : GoodIn wsX6_through wsX0_pileStack := goodIn_r _ [51, 52, 53, 54, 19, 55, 21, 56, 57, 58, 59, 60, 61, 62, 63, 64, 7, 8, 9, 10, 11, 12, 13, 14, 65, 66, 67, 68, 69, 70, 71, 72, 73, 74, 29, 75, 97, 98, 99, 100, 101, 102, 103, 104, 105, 106, 107, 108, 109, 110, 111] (by decide +kernel) (by decide +kernel)
set_option maxRecDepth 20000 in
theorem gX6_through_X0_pileStack : GoodIn wsX6_through (wsV RX6 165 RX0 yX0_pileStack wsX0_pileStack) := goodIn_app (goodIn_of _ (by decide +kernel)) ggX6_through_X0_pileStack
set_option maxRecDepth 20000 in
theorem ggX6_through_X6_partOf : GoodIn wsX6_through wsX6_partOf := goodIn_r _ [78, 79, 80, 13, 81, 82, 83, 84] (by decide +kernel) (by decide +kernel)
set_option maxRecDepth 20000 in
theorem gX6_through_X6_partOf : GoodIn wsX6_through (va_wsS RX6 176 yX6_partOf wsX6_partOf) := goodIn_app (goodIn_of _ (by decide +kernel)) ggX6_through_X6_partOf
theorem dX6_through_0 : decode cX6_through 0 = .ok (.aload_n 0, 1) := by decide +kernel
theorem dX6_through_1 : decode cX6_through 1 = .ok (.getfield 12, 3) := by decide +kernel
theorem dX6_through_4 : decode cX6_through 4 = .ok (.iload_n 1, 1) := by decide +kernel
theorem dX6_through_5 : decode cX6_through 5 = .ok (.invokevirtual 141, 3) := by decide +kernel
theorem dX6_through_8 : decode cX6_through 8 = .ok (.ifCond .eq 19, 3) := by decide +kernel
theorem dX6_through_11 : decode cX6_through 11 = .ok (.iload_n 2, 1) := by decide +kernel
theorem dX6_through_12 : decode cX6_through 12 = .ok (.iconst 5, 1) := by decide +kernel
theorem dX6_through_13 : decode cX6_through 13 = .ok (.invokestatic 112, 3) := by decide +kernel
theorem dX6_through_16 : decode cX6_through 16 = .ok (.ifCond .eq 11, 3) := by decide +kernel
theorem dX6_through_19 : decode cX6_through 19 = .ok (.iload_n 3, 1) := by decide +kernel
theorem dX6_through_20 : decode cX6_through 20 = .ok (.iconst 2, 1) := by decide +kernel
theorem dX6_through_21 : decode cX6_through 21 = .ok (.invokestatic 112, 3) := by decide +kernel
theorem dX6_through_24 : decode cX6_through 24 = .ok (.ifCond .ne 7, 3) := by decide +kernel
theorem dX6_through_27 : decode cX6_through 27 = .ok (.ldc2_w 160, 3) := by decide +kernel
theorem dX6_through_30 : decode cX6_through 30 = .ok (.lreturn, 1) := by decide +kernel
theorem dX6_through_31 : decode cX6_through 31 = .ok (.aload_n 0, 1) := by decide +kernel
theorem dX6_through_32 : decode cX6_through 32 = .ok (.getfield 30, 3) := by decide +kernel
theorem dX6_through_35 : decode cX6_through 35 = .ok (.invokevirtual 162, 3) := by decide +kernel
theorem dX6_through_38 : decode cX6_through 38 = .ok (.aload_n 0, 1) := by decide +kernel
theorem dX6_through_39 : decode cX6_through 39 = .ok (.getfield 30, 3) := by decide +kernel
theorem dX6_through_42 : decode cX6_through 42 = .ok (.iload_n 1, 1) := by decide +kernel
theorem dX6_through_43 : decode cX6_through 43 = .ok (.invokevirtual 165, 3) := by decide +kernel
theorem dX6_through_46 : decode cX6_through 46 = .ok (.aload_n 0, 1) := by decide +kernel
theorem dX6_through_47 : decode cX6_through 47 = .ok (.getfield 30, 3) := by decide +kernel
theorem dX6_through_50 : decode cX6_through 50 = .ok (.getfield 169, 3) := by decide +kernel
theorem dX6_through_53 : decode cX6_through 53 = .ok (.iload_n 2, 1) := by decide +kernel
theorem dX6_through_54 : decode cX6_through 54 = .ok (.laload, 1) := by decide +kernel
theorem dX6_through_55 : decode cX6_through 55 = .ok (.aload_n 0, 1) := by decide +kernel
theorem dX6_through_56 : decode cX6_through 56 = .ok (.getfield 30, 3) := by decide +kernel
theorem dX6_through_59 : decode cX6_through 59 = .ok (.getfield 172, 3) := by decide +kernel
theorem dX6_through_62 : decode cX6_through 62 = .ok (.iload_n 3, 1) := by decide +kernel
theorem dX6_through_63 : decode cX6_through 63 = .ok (.invokestatic 176, 3) := by decide +kernel
theorem dX6_through_66 : decode cX6_through 66 = .ok (.lreturn, 1) := by decide +kernel
set_option maxRecDepth 20000 in
theorem ggX6_sees_X6_canSee : GoodIn wsX6_sees wsX6_canSee := goodIn_r _ [7, 8, 9, 10, 11, 12, 13, 14, 15, 6, 16, 17, 101, 102, 103, 104, 105, 106, 107, 108, 109, 110, 111, 112, 113, 114, 115, 116, 117, 118, 119, 120, 121, 122] (by decide +kernel) (by decide +kernel)
set_option maxRecDepth 20000 in
theorem gX6_sees_X6_canSee : GoodIn wsX6_sees (wsV RX6 180 RX6 yX6_canSee wsX6_canSee) := goodIn_app (goodIn_of _ (by decide +kernel)) ggX6_sees_X6_canSee
set_option maxRecDepth 20000 in
theorem ggX6_sees_X6_within : GoodIn wsX6_sees wsX6_within := goodIn_r _ [16] (by decide +kernel) (by decide +kernel)
set_option maxRecDepth 20000 in
theorem gX6_sees_X6_within : GoodIn wsX6_sees (va_wsS RX6 112 yX6_within wsX6_within) := goodIn_app (goodIn_of _ (by decide +kernel)) ggX6_sees_X6_within
set_option maxRecDepth 20000 in
theorem ggX6_sees_X0_lookAtSheets : GoodIn wsX6_sees wsX0_lookAtSheets := goodIn_r _ [22, 23, 24, 25, 26, 27, 28, 29, 21, 30, 31, 15, 6, 16, 32, 33, 34, 12, 35, 36, 37, 38, 39, 40, 41, 42, 43, 44, 45, 46, 47, 48, 49, 123, 124, 125, 126, 127, 113, 114, 115, 116, 117, 118, 119, 120, 121, 122] (by decide +kernel) (by decide +kernel)
set_option maxRecDepth 20000 in
theorem gX6_sees_X0_lookAtSheets : GoodIn wsX6_sees (wsV RX6 162 RX0 yX0_lookAtSheets wsX0_lookAtSheets) := goodIn_app (goodIn_of _ (by decide +kernel)) ggX6_sees_X0_lookAtSheets
set_option maxRecDepth 20000 in
theorem ggX6_sees_X0_pileStack : GoodIn wsX6_sees wsX0_pileStack := goodIn_r _ [53, 54, 55, 56, 21, 57, 23, 58, 59, 60, 61, 62, 63, 64, 65, 66, 10, 11, 12, 13, 14, 15, 6, 16, 67, 68, 69, 70, 71, 72, 73, 74, 75, 76, 31, 77, 123, 124, 125, 126, 127, 113, 114, 115, 116, 117, 118, 119, 120, 121, 122] (by decide +kernel) (by decide +kernel)
set_option maxRecDepth 20000 in
theorem gX6_sees_X0_pileStack : GoodIn wsX6_sees (wsV RX6 165 RX0 yX0_pileStack wsX0_pileStack) := goodIn_app (goodIn_of _ (by decide +kernel)) ggX6_sees_X0_pileStack
set_option maxRecDepth 20000 in
theorem ggX6_sees_X0_seen : GoodIn wsX6_sees wsX0_seen := goodIn_r _ [81, 23, 82, 83, 63, 15, 6, 16, 84, 85, 21, 86, 123, 124, 125, 126, 127, 113, 114, 115, 116, 117, 118, 119, 120, 121, 122] (by decide +kernel) (by decide +kernel)
set_option maxRecDepth 20000 in
theorem gX6_sees_X0_seen : GoodIn wsX6_sees (wsV RX6 184 RX0 yX0_seen wsX0_seen) := goodIn_app (goodIn_of _ (by decide +kernel)) ggX6_sees_X0_seen
set_option maxRecDepth 20000 in
theorem ggX6_sees_X0_wholeByAge : GoodIn wsX6_sees wsX0_wholeByAge := goodIn_r _ [90, 64, 91, 123, 124, 125, 126, 127] (by decide +kernel) (by decide +kernel)
set_option maxRecDepth 20000 in
theorem gX6_sees_X0_wholeByAge : GoodIn wsX6_sees (wsV RX6 188 RX0 yX0_wholeByAge wsX0_wholeByAge) := goodIn_app (goodIn_of _ (by decide +kernel)) ggX6_sees_X0_wholeByAge
set_option maxRecDepth 20000 in
theorem ggX6_sees_X6_partOf : GoodIn wsX6_sees wsX6_partOf := goodIn_r _ [94, 95, 96, 6, 97, 98, 99, 100] (by decide +kernel) (by decide +kernel)
set_option maxRecDepth 20000 in
theorem gX6_sees_X6_partOf : GoodIn wsX6_sees (va_wsS RX6 176 yX6_partOf wsX6_partOf) := goodIn_app (goodIn_of _ (by decide +kernel)) ggX6_sees_X6_partOf
theorem dX6_sees_0 : decode cX6_sees 0 = .ok (.aload_n 0, 1) := by decide +kernel
theorem dX6_sees_1 : decode cX6_sees 1 = .ok (.iload_n 1, 1) := by decide +kernel
theorem dX6_sees_2 : decode cX6_sees 2 = .ok (.iload_n 2, 1) := by decide +kernel
theorem dX6_sees_3 : decode cX6_sees 3 = .ok (.iload_n 3, 1) := by decide +kernel
theorem dX6_sees_4 : decode cX6_sees 4 = .ok (.invokevirtual 180, 3) := by decide +kernel
theorem dX6_sees_7 : decode cX6_sees 7 = .ok (.ifCond .eq 21, 3) := by decide +kernel
theorem dX6_sees_10 : decode cX6_sees 10 = .ok (.iload 4, 2) := by decide +kernel
theorem dX6_sees_12 : decode cX6_sees 12 = .ok (.iconst 3, 1) := by decide +kernel
theorem dX6_sees_13 : decode cX6_sees 13 = .ok (.invokestatic 112, 3) := by decide +kernel
theorem dX6_sees_16 : decode cX6_sees 16 = .ok (.ifCond .eq 12, 3) := by decide +kernel
theorem dX6_sees_19 : decode cX6_sees 19 = .ok (.iload 5, 2) := by decide +kernel
theorem dX6_sees_21 : decode cX6_sees 21 = .ok (.iconst 2, 1) := by decide +kernel
theorem dX6_sees_22 : decode cX6_sees 22 = .ok (.invokestatic 112, 3) := by decide +kernel
theorem dX6_sees_25 : decode cX6_sees 25 = .ok (.ifCond .ne 7, 3) := by decide +kernel
theorem dX6_sees_28 : decode cX6_sees 28 = .ok (.ldc2_w 160, 3) := by decide +kernel
theorem dX6_sees_31 : decode cX6_sees 31 = .ok (.lreturn, 1) := by decide +kernel
theorem dX6_sees_32 : decode cX6_sees 32 = .ok (.aload_n 0, 1) := by decide +kernel
theorem dX6_sees_33 : decode cX6_sees 33 = .ok (.getfield 30, 3) := by decide +kernel
theorem dX6_sees_36 : decode cX6_sees 36 = .ok (.invokevirtual 162, 3) := by decide +kernel
theorem dX6_sees_39 : decode cX6_sees 39 = .ok (.aload_n 0, 1) := by decide +kernel
theorem dX6_sees_40 : decode cX6_sees 40 = .ok (.getfield 30, 3) := by decide +kernel
theorem dX6_sees_43 : decode cX6_sees 43 = .ok (.iload_n 1, 1) := by decide +kernel
theorem dX6_sees_44 : decode cX6_sees 44 = .ok (.invokevirtual 165, 3) := by decide +kernel
theorem dX6_sees_47 : decode cX6_sees 47 = .ok (.aload_n 0, 1) := by decide +kernel
theorem dX6_sees_48 : decode cX6_sees 48 = .ok (.getfield 30, 3) := by decide +kernel
theorem dX6_sees_51 : decode cX6_sees 51 = .ok (.iload_n 2, 1) := by decide +kernel
theorem dX6_sees_52 : decode cX6_sees 52 = .ok (.iload_n 3, 1) := by decide +kernel
theorem dX6_sees_53 : decode cX6_sees 53 = .ok (.iload 4, 2) := by decide +kernel
theorem dX6_sees_55 : decode cX6_sees 55 = .ok (.invokevirtual 184, 3) := by decide +kernel
theorem dX6_sees_58 : decode cX6_sees 58 = .ok (.aload_n 0, 1) := by decide +kernel
theorem dX6_sees_59 : decode cX6_sees 59 = .ok (.getfield 30, 3) := by decide +kernel
theorem dX6_sees_62 : decode cX6_sees 62 = .ok (.iload_n 3, 1) := by decide +kernel
theorem dX6_sees_63 : decode cX6_sees 63 = .ok (.invokevirtual 188, 3) := by decide +kernel
theorem dX6_sees_66 : decode cX6_sees 66 = .ok (.iload 5, 2) := by decide +kernel
theorem dX6_sees_68 : decode cX6_sees 68 = .ok (.invokestatic 176, 3) := by decide +kernel
theorem dX6_sees_71 : decode cX6_sees 71 = .ok (.lreturn, 1) := by decide +kernel
set_option maxRecDepth 20000 in
theorem ggX6_shade_X6_canSee : GoodIn wsX6_shade wsX6_canSee := goodIn_r _ [6, 7, 8, 9, 10, 11, 12, 13, 14, 5, 15, 16, 97, 98, 99, 100, 101, 102, 103, 104, 105, 106, 107, 108, 109, 110, 111, 112, 113, 114, 115, 116, 117, 118] (by decide +kernel) (by decide +kernel)
set_option maxRecDepth 20000 in
theorem gX6_shade_X6_canSee : GoodIn wsX6_shade (wsV RX6 180 RX6 yX6_canSee wsX6_canSee) := goodIn_app (goodIn_of _ (by decide +kernel)) ggX6_shade_X6_canSee
set_option maxRecDepth 20000 in
theorem ggX6_shade_X6_within : GoodIn wsX6_shade wsX6_within := goodIn_r _ [15] (by decide +kernel) (by decide +kernel)
set_option maxRecDepth 20000 in
theorem gX6_shade_X6_within : GoodIn wsX6_shade (va_wsS RX6 112 yX6_within wsX6_within) := goodIn_app (goodIn_of _ (by decide +kernel)) ggX6_shade_X6_within
set_option maxRecDepth 20000 in
theorem ggX6_shade_X0_lookAtSheets : GoodIn wsX6_shade wsX0_lookAtSheets := goodIn_r _ [21, 22, 23, 24, 25, 26, 27, 28, 20, 29, 30, 14, 5, 15, 31, 32, 33, 11, 34, 35, 36, 37, 38, 39, 40, 41, 42, 43, 44, 45, 46, 47, 48, 119, 120, 121, 122, 123, 109, 110, 111, 112, 113, 114, 115, 116, 117, 118] (by decide +kernel) (by decide +kernel)
set_option maxRecDepth 20000 in
theorem gX6_shade_X0_lookAtSheets : GoodIn wsX6_shade (wsV RX6 162 RX0 yX0_lookAtSheets wsX0_lookAtSheets) := goodIn_app (goodIn_of _ (by decide +kernel)) ggX6_shade_X0_lookAtSheets
set_option maxRecDepth 20000 in
theorem ggX6_shade_X0_pileStack : GoodIn wsX6_shade wsX0_pileStack := goodIn_r _ [52, 53, 54, 55, 20, 56, 22, 57, 58, 59, 60, 61, 62, 63, 64, 65, 9, 10, 11, 12, 13, 14, 5, 15, 66, 67, 68, 69, 70, 71, 72, 73, 74, 75, 30, 76, 119, 120, 121, 122, 123, 109, 110, 111, 112, 113, 114, 115, 116, 117, 118] (by decide +kernel) (by decide +kernel)
set_option maxRecDepth 20000 in
theorem gX6_shade_X0_pileStack : GoodIn wsX6_shade (wsV RX6 165 RX0 yX0_pileStack wsX0_pileStack) := goodIn_app (goodIn_of _ (by decide +kernel)) ggX6_shade_X0_pileStack
set_option maxRecDepth 20000 in
theorem ggX6_shade_X0_shadeOf : GoodIn wsX6_shade wsX0_shadeOf := goodIn_r _ [80, 81, 82, 83, 20, 84, 22, 85, 86, 62, 14, 5, 15, 87, 88, 89, 90, 91, 92, 93, 63, 94, 95, 96, 119, 120, 121, 122, 123, 109, 110, 111, 112, 113, 114, 115, 116, 117, 118] (by decide +kernel) (by decide +kernel)
set_option maxRecDepth 20000 in
theorem gX6_shade_X0_shadeOf : GoodIn wsX6_shade (wsV RX6 192 RX0 yX0_shadeOf wsX0_shadeOf) := goodIn_app (goodIn_of _ (by decide +kernel)) ggX6_shade_X0_shadeOf
theorem dX6_shade_0 : decode cX6_shade 0 = .ok (.aload_n 0, 1) := by decide +kernel
theorem dX6_shade_1 : decode cX6_shade 1 = .ok (.iload_n 1, 1) := by decide +kernel
theorem dX6_shade_2 : decode cX6_shade 2 = .ok (.iload_n 2, 1) := by decide +kernel
theorem dX6_shade_3 : decode cX6_shade 3 = .ok (.iload_n 3, 1) := by decide +kernel
theorem dX6_shade_4 : decode cX6_shade 4 = .ok (.invokevirtual 180, 3) := by decide +kernel
theorem dX6_shade_7 : decode cX6_shade 7 = .ok (.ifCond .eq 12, 3) := by decide +kernel
theorem dX6_shade_10 : decode cX6_shade 10 = .ok (.iload 4, 2) := by decide +kernel
theorem dX6_shade_12 : decode cX6_shade 12 = .ok (.iconst 3, 1) := by decide +kernel
theorem dX6_shade_13 : decode cX6_shade 13 = .ok (.invokestatic 112, 3) := by decide +kernel
theorem dX6_shade_16 : decode cX6_shade 16 = .ok (.ifCond .ne 5, 3) := by decide +kernel
theorem dX6_shade_19 : decode cX6_shade 19 = .ok (.iconst (-1), 1) := by decide +kernel
theorem dX6_shade_20 : decode cX6_shade 20 = .ok (.ireturn, 1) := by decide +kernel
theorem dX6_shade_21 : decode cX6_shade 21 = .ok (.aload_n 0, 1) := by decide +kernel
theorem dX6_shade_22 : decode cX6_shade 22 = .ok (.getfield 30, 3) := by decide +kernel
theorem dX6_shade_25 : decode cX6_shade 25 = .ok (.invokevirtual 162, 3) := by decide +kernel
theorem dX6_shade_28 : decode cX6_shade 28 = .ok (.aload_n 0, 1) := by decide +kernel
theorem dX6_shade_29 : decode cX6_shade 29 = .ok (.getfield 30, 3) := by decide +kernel
theorem dX6_shade_32 : decode cX6_shade 32 = .ok (.iload_n 1, 1) := by decide +kernel
theorem dX6_shade_33 : decode cX6_shade 33 = .ok (.invokevirtual 165, 3) := by decide +kernel
theorem dX6_shade_36 : decode cX6_shade 36 = .ok (.aload_n 0, 1) := by decide +kernel
theorem dX6_shade_37 : decode cX6_shade 37 = .ok (.getfield 30, 3) := by decide +kernel
theorem dX6_shade_40 : decode cX6_shade 40 = .ok (.iload_n 2, 1) := by decide +kernel
theorem dX6_shade_41 : decode cX6_shade 41 = .ok (.iload_n 3, 1) := by decide +kernel
theorem dX6_shade_42 : decode cX6_shade 42 = .ok (.iload 4, 2) := by decide +kernel
theorem dX6_shade_44 : decode cX6_shade 44 = .ok (.invokevirtual 192, 3) := by decide +kernel
theorem dX6_shade_47 : decode cX6_shade 47 = .ok (.ireturn, 1) := by decide +kernel
set_option maxRecDepth 20000 in
theorem ggX6_alike_X3_hasStack : GoodIn wsX6_alike wsX3_hasStack := goodIn_r _ [7, 8, 9, 10, 11, 104, 105, 106, 107, 108, 109, 110, 111, 112, 113] (by decide +kernel) (by decide +kernel)
set_option maxRecDepth 20000 in
theorem gX6_alike_X3_hasStack : GoodIn wsX6_alike (wsV RX6 141 RX3 yX3_hasStack wsX3_hasStack) := goodIn_app (goodIn_of _ (by decide +kernel)) ggX6_alike_X3_hasStack
set_option maxRecDepth 20000 in
theorem ggX6_alike_X6_within : GoodIn wsX6_alike wsX6_within := goodIn_r _ [11] (by decide +kernel) (by decide +kernel)
set_option maxRecDepth 20000 in
theorem gX6_alike_X6_within : GoodIn wsX6_alike (va_wsS RX6 112 yX6_within wsX6_within) := goodIn_app (goodIn_of _ (by decide +kernel)) ggX6_alike_X6_within
set_option maxRecDepth 20000 in
theorem ggX6_alike_X0_lookAtSheets : GoodIn wsX6_alike wsX0_lookAtSheets := goodIn_r _ [17, 18, 19, 20, 21, 22, 23, 24, 16, 25, 26, 9, 10, 11, 27, 28, 29, 6, 30, 31, 32, 33, 34, 35, 36, 37, 38, 39, 40, 41, 42, 43, 44, 114, 115, 116, 117, 118, 104, 105, 106, 107, 108, 109, 110, 111, 112, 113] (by decide +kernel) (by decide +kernel)
set_option maxRecDepth 20000 in
theorem gX6_alike_X0_lookAtSheets : GoodIn wsX6_alike (wsV RX6 162 RX0 yX0_lookAtSheets wsX0_lookAtSheets) := goodIn_app (goodIn_of _ (by decide +kernel)) ggX6_alike_X0_lookAtSheets
set_option maxRecDepth 20000 in
theorem ggX6_alike_X6_looksAlike : GoodIn wsX6_alike wsX6_looksAlike := goodIn_r _ [48, 2, 49, 50, 51, 52, 53, 16, 54, 55, 56, 57, 58, 18, 59, 60, 61, 62, 63, 64, 65, 66, 67, 4, 5, 6, 7, 8, 9, 10, 11, 68, 69, 70, 71, 72, 73, 74, 75, 76, 77, 26, 78, 79, 80, 81, 82, 83, 84, 85, 86, 87, 88, 89, 90, 91, 92, 93, 94, 95, 96, 97, 98, 99, 100, 101, 102, 103, 114, 115, 116, 117, 118, 104, 105, 106, 107, 108, 109, 110, 111, 112, 113] (by decide +kernel) (by decide +kernel)
set_option maxRecDepth 20000 in
theorem gX6_alike_X6_looksAlike : GoodIn wsX6_alike (wsV RX6 196 RX6 yX6_looksAlike wsX6_looksAlike) := goodIn_app (goodIn_of _ (by decide +kernel)) ggX6_alike_X6_looksAlike
theorem dX6_alike_0 : decode cX6_alike 0 = .ok (.aload_n 0, 1) := by decide +kernel
theorem dX6_alike_1 : decode cX6_alike 1 = .ok (.getfield 12, 3) := by decide +kernel
theorem dX6_alike_4 : decode cX6_alike 4 = .ok (.iload_n 1, 1) := by decide +kernel
theorem dX6_alike_5 : decode cX6_alike 5 = .ok (.invokevirtual 141, 3) := by decide +kernel
theorem dX6_alike_8 : decode cX6_alike 8 = .ok (.ifCond .eq 22, 3) := by decide +kernel
theorem dX6_alike_11 : decode cX6_alike 11 = .ok (.aload_n 0, 1) := by decide +kernel
theorem dX6_alike_12 : decode cX6_alike 12 = .ok (.getfield 12, 3) := by decide +kernel
theorem dX6_alike_15 : decode cX6_alike 15 = .ok (.iload_n 2, 1) := by decide +kernel
theorem dX6_alike_16 : decode cX6_alike 16 = .ok (.invokevirtual 141, 3) := by decide +kernel
theorem dX6_alike_19 : decode cX6_alike 19 = .ok (.ifCond .eq 11, 3) := by decide +kernel
theorem dX6_alike_22 : decode cX6_alike 22 = .ok (.iload_n 3, 1) := by decide +kernel
theorem dX6_alike_23 : decode cX6_alike 23 = .ok (.iconst 3, 1) := by decide +kernel
theorem dX6_alike_24 : decode cX6_alike 24 = .ok (.invokestatic 112, 3) := by decide +kernel
theorem dX6_alike_27 : decode cX6_alike 27 = .ok (.ifCond .ne 5, 3) := by decide +kernel
theorem dX6_alike_30 : decode cX6_alike 30 = .ok (.iconst (-1), 1) := by decide +kernel
theorem dX6_alike_31 : decode cX6_alike 31 = .ok (.ireturn, 1) := by decide +kernel
theorem dX6_alike_32 : decode cX6_alike 32 = .ok (.aload_n 0, 1) := by decide +kernel
theorem dX6_alike_33 : decode cX6_alike 33 = .ok (.getfield 30, 3) := by decide +kernel
theorem dX6_alike_36 : decode cX6_alike 36 = .ok (.invokevirtual 162, 3) := by decide +kernel
theorem dX6_alike_39 : decode cX6_alike 39 = .ok (.aload_n 0, 1) := by decide +kernel
theorem dX6_alike_40 : decode cX6_alike 40 = .ok (.iload_n 1, 1) := by decide +kernel
theorem dX6_alike_41 : decode cX6_alike 41 = .ok (.iload_n 2, 1) := by decide +kernel
theorem dX6_alike_42 : decode cX6_alike 42 = .ok (.iload_n 3, 1) := by decide +kernel
theorem dX6_alike_43 : decode cX6_alike 43 = .ok (.invokevirtual 196, 3) := by decide +kernel
theorem dX6_alike_46 : decode cX6_alike 46 = .ok (.ifCond .eq 7, 3) := by decide +kernel
theorem dX6_alike_49 : decode cX6_alike 49 = .ok (.iconst 1, 1) := by decide +kernel
theorem dX6_alike_50 : decode cX6_alike 50 = .ok (.goto 4, 3) := by decide +kernel
theorem dX6_alike_53 : decode cX6_alike 53 = .ok (.iconst 0, 1) := by decide +kernel
theorem dX6_alike_54 : decode cX6_alike 54 = .ok (.ireturn, 1) := by decide +kernel
set_option maxRecDepth 20000 in
theorem ggX6_falsePairs_X6_within : GoodIn wsX6_falsePairs wsX6_within := goodIn_r _ [7] (by decide +kernel) (by decide +kernel)
set_option maxRecDepth 20000 in
theorem gX6_falsePairs_X6_within : GoodIn wsX6_falsePairs (va_wsS RX6 112 yX6_within wsX6_within) := goodIn_app (goodIn_of _ (by decide +kernel)) ggX6_falsePairs_X6_within
set_option maxRecDepth 20000 in
theorem ggX6_falsePairs_X0_lookAtSheets : GoodIn wsX6_falsePairs wsX0_lookAtSheets := goodIn_r _ [12, 13, 14, 15, 16, 17, 18, 19, 11, 20, 21, 5, 6, 7, 22, 23, 24, 25, 26, 27, 28, 29, 30, 31, 32, 33, 34, 35, 36, 37, 38, 39, 40, 118, 119, 120, 121, 122, 108, 109, 110, 111, 112, 113, 114, 115, 116, 117] (by decide +kernel) (by decide +kernel)
set_option maxRecDepth 20000 in
theorem gX6_falsePairs_X0_lookAtSheets : GoodIn wsX6_falsePairs (wsV RX6 162 RX0 yX0_lookAtSheets wsX0_lookAtSheets) := goodIn_app (goodIn_of _ (by decide +kernel)) ggX6_falsePairs_X0_lookAtSheets
set_option maxRecDepth 20000 in
theorem ggX6_falsePairs_X6_isFalsePair : GoodIn wsX6_falsePairs wsX6_isFalsePair := goodIn_r _ [44, 45, 46, 47, 6, 48, 1, 49, 50, 51, 52, 53, 11, 54, 55, 56, 57, 58, 13, 59, 60, 61, 62, 63, 64, 65, 66, 67, 68, 69, 25, 70, 71, 5, 7, 72, 73, 74, 75, 76, 77, 78, 79, 80, 81, 21, 82, 83, 84, 85, 86, 87, 88, 89, 90, 91, 92, 93, 94, 95, 96, 97, 98, 99, 100, 101, 102, 103, 104, 105, 106, 107, 118, 119, 120, 121, 122, 108, 109, 110, 111, 112, 113, 114, 115, 116, 117] (by decide +kernel) (by decide +kernel)
set_option maxRecDepth 20000 in
theorem gX6_falsePairs_X6_isFalsePair : GoodIn wsX6_falsePairs (wsV RX6 202 RX6 yX6_isFalsePair wsX6_isFalsePair) := goodIn_app (goodIn_of _ (by decide +kernel)) ggX6_falsePairs_X6_isFalsePair
theorem dX6_falsePairs_0 : decode cX6_falsePairs 0 = .ok (.iload_n 1, 1) := by decide +kernel
theorem dX6_falsePairs_1 : decode cX6_falsePairs 1 = .ok (.iconst 3, 1) := by decide +kernel
theorem dX6_falsePairs_2 : decode cX6_falsePairs 2 = .ok (.invokestatic 112, 3) := by decide +kernel
theorem dX6_falsePairs_5 : decode cX6_falsePairs 5 = .ok (.ifCond .eq 11, 3) := by decide +kernel
theorem dX6_falsePairs_8 : decode cX6_falsePairs 8 = .ok (.iload_n 2, 1) := by decide +kernel
theorem dX6_falsePairs_9 : decode cX6_falsePairs 9 = .ok (.iconst 2, 1) := by decide +kernel
theorem dX6_falsePairs_10 : decode cX6_falsePairs 10 = .ok (.invokestatic 112, 3) := by decide +kernel
theorem dX6_falsePairs_13 : decode cX6_falsePairs 13 = .ok (.ifCond .ne 5, 3) := by decide +kernel
theorem dX6_falsePairs_16 : decode cX6_falsePairs 16 = .ok (.iconst (-1), 1) := by decide +kernel
theorem dX6_falsePairs_17 : decode cX6_falsePairs 17 = .ok (.ireturn, 1) := by decide +kernel
theorem dX6_falsePairs_18 : decode cX6_falsePairs 18 = .ok (.aload_n 0, 1) := by decide +kernel
theorem dX6_falsePairs_19 : decode cX6_falsePairs 19 = .ok (.getfield 30, 3) := by decide +kernel
theorem dX6_falsePairs_22 : decode cX6_falsePairs 22 = .ok (.invokevirtual 162, 3) := by decide +kernel
theorem dX6_falsePairs_25 : decode cX6_falsePairs 25 = .ok (.iconst 0, 1) := by decide +kernel
theorem dX6_falsePairs_26 : decode cX6_falsePairs 26 = .ok (.istore_n 3, 1) := by decide +kernel
theorem dX6_falsePairs_27 : decode cX6_falsePairs 27 = .ok (.iconst 0, 1) := by decide +kernel
theorem dX6_falsePairs_28 : decode cX6_falsePairs 28 = .ok (.istore 4, 2) := by decide +kernel
theorem dX6_falsePairs_30 : decode cX6_falsePairs 30 = .ok (.iload 4, 2) := by decide +kernel
theorem dX6_falsePairs_32 : decode cX6_falsePairs 32 = .ok (.aload_n 0, 1) := by decide +kernel
theorem dX6_falsePairs_33 : decode cX6_falsePairs 33 = .ok (.getfield 12, 3) := by decide +kernel
theorem dX6_falsePairs_36 : decode cX6_falsePairs 36 = .ok (.getfield 199, 3) := by decide +kernel
theorem dX6_falsePairs_39 : decode cX6_falsePairs 39 = .ok (.if_icmp .ge 62, 3) := by decide +kernel
theorem dX6_falsePairs_42 : decode cX6_falsePairs 42 = .ok (.iload 4, 2) := by decide +kernel
theorem dX6_falsePairs_44 : decode cX6_falsePairs 44 = .ok (.iconst 1, 1) := by decide +kernel
theorem dX6_falsePairs_45 : decode cX6_falsePairs 45 = .ok (.iadd, 1) := by decide +kernel
theorem dX6_falsePairs_46 : decode cX6_falsePairs 46 = .ok (.istore 5, 2) := by decide +kernel
theorem dX6_falsePairs_48 : decode cX6_falsePairs 48 = .ok (.iload 5, 2) := by decide +kernel
theorem dX6_falsePairs_50 : decode cX6_falsePairs 50 = .ok (.aload_n 0, 1) := by decide +kernel
theorem dX6_falsePairs_51 : decode cX6_falsePairs 51 = .ok (.getfield 12, 3) := by decide +kernel
theorem dX6_falsePairs_54 : decode cX6_falsePairs 54 = .ok (.getfield 199, 3) := by decide +kernel
theorem dX6_falsePairs_57 : decode cX6_falsePairs 57 = .ok (.if_icmp .ge 38, 3) := by decide +kernel
theorem dX6_falsePairs_60 : decode cX6_falsePairs 60 = .ok (.aload_n 0, 1) := by decide +kernel
theorem dX6_falsePairs_61 : decode cX6_falsePairs 61 = .ok (.iload 4, 2) := by decide +kernel
theorem dX6_falsePairs_63 : decode cX6_falsePairs 63 = .ok (.iload 5, 2) := by decide +kernel
theorem dX6_falsePairs_65 : decode cX6_falsePairs 65 = .ok (.iload_n 1, 1) := by decide +kernel
theorem dX6_falsePairs_66 : decode cX6_falsePairs 66 = .ok (.invokevirtual 202, 3) := by decide +kernel
theorem dX6_falsePairs_69 : decode cX6_falsePairs 69 = .ok (.ifCond .eq 20, 3) := by decide +kernel
theorem dX6_falsePairs_72 : decode cX6_falsePairs 72 = .ok (.iload_n 2, 1) := by decide +kernel
theorem dX6_falsePairs_73 : decode cX6_falsePairs 73 = .ok (.iconst 1, 1) := by decide +kernel
theorem dX6_falsePairs_74 : decode cX6_falsePairs 74 = .ok (.if_icmp .ne 12, 3) := by decide +kernel
theorem dX6_falsePairs_77 : decode cX6_falsePairs 77 = .ok (.bipush 10, 2) := by decide +kernel
theorem dX6_falsePairs_79 : decode cX6_falsePairs 79 = .ok (.iload 4, 2) := by decide +kernel
theorem dX6_falsePairs_81 : decode cX6_falsePairs 81 = .ok (.imul, 1) := by decide +kernel
theorem dX6_falsePairs_82 : decode cX6_falsePairs 82 = .ok (.iload 5, 2) := by decide +kernel
theorem dX6_falsePairs_84 : decode cX6_falsePairs 84 = .ok (.iadd, 1) := by decide +kernel
theorem dX6_falsePairs_85 : decode cX6_falsePairs 85 = .ok (.ireturn, 1) := by decide +kernel
theorem dX6_falsePairs_86 : decode cX6_falsePairs 86 = .ok (.iinc 3 1, 3) := by decide +kernel
theorem dX6_falsePairs_89 : decode cX6_falsePairs 89 = .ok (.iinc 5 1, 3) := by decide +kernel
theorem dX6_falsePairs_92 : decode cX6_falsePairs 92 = .ok (.goto (-44), 3) := by decide +kernel
theorem dX6_falsePairs_95 : decode cX6_falsePairs 95 = .ok (.iinc 4 1, 3) := by decide +kernel
theorem dX6_falsePairs_98 : decode cX6_falsePairs 98 = .ok (.goto (-68), 3) := by decide +kernel
theorem dX6_falsePairs_101 : decode cX6_falsePairs 101 = .ok (.iload_n 2, 1) := by decide +kernel
theorem dX6_falsePairs_102 : decode cX6_falsePairs 102 = .ok (.iconst 1, 1) := by decide +kernel
theorem dX6_falsePairs_103 : decode cX6_falsePairs 103 = .ok (.if_icmp .ne 8, 3) := by decide +kernel
theorem dX6_falsePairs_106 : decode cX6_falsePairs 106 = .ok (.bipush (-5), 2) := by decide +kernel
theorem dX6_falsePairs_108 : decode cX6_falsePairs 108 = .ok (.goto 4, 3) := by decide +kernel
theorem dX6_falsePairs_111 : decode cX6_falsePairs 111 = .ok (.iload_n 3, 1) := by decide +kernel
theorem dX6_falsePairs_112 : decode cX6_falsePairs 112 = .ok (.ireturn, 1) := by decide +kernel
set_option maxRecDepth 20000 in
theorem ggX6_ranked_X6_within : GoodIn wsX6_ranked wsX6_within := goodIn_r _ [7] (by decide +kernel) (by decide +kernel)
set_option maxRecDepth 20000 in
theorem gX6_ranked_X6_within : GoodIn wsX6_ranked (va_wsS RX6 112 yX6_within wsX6_within) := goodIn_app (goodIn_of _ (by decide +kernel)) ggX6_ranked_X6_within
set_option maxRecDepth 20000 in
theorem ggX6_ranked_X0_lookAtSheets : GoodIn wsX6_ranked wsX0_lookAtSheets := goodIn_r _ [12, 13, 14, 15, 16, 17, 18, 19, 11, 20, 21, 5, 6, 7, 22, 23, 24, 25, 26, 27, 28, 29, 30, 31, 32, 33, 34, 35, 36, 37, 38, 39, 40, 117, 118, 119, 120, 121, 107, 108, 109, 110, 111, 112, 113, 114, 115, 116] (by decide +kernel) (by decide +kernel)
set_option maxRecDepth 20000 in
theorem gX6_ranked_X0_lookAtSheets : GoodIn wsX6_ranked (wsV RX6 162 RX0 yX0_lookAtSheets wsX0_lookAtSheets) := goodIn_app (goodIn_of _ (by decide +kernel)) ggX6_ranked_X0_lookAtSheets
set_option maxRecDepth 20000 in
theorem ggX6_ranked_X6_brighterThan : GoodIn wsX6_ranked wsX6_brighterThan := goodIn_r _ [44, 1, 2, 45, 46, 47, 6, 48, 3, 49, 50, 51, 52, 11, 53, 54, 55, 56, 57, 13, 58, 59, 60, 61, 62, 63, 64, 65, 66, 67, 68, 25, 69, 70, 5, 7, 71, 72, 73, 74, 75, 76, 77, 78, 79, 80, 21, 81, 82, 83, 84, 85, 86, 87, 88, 89, 90, 91, 92, 93, 94, 95, 96, 97, 98, 99, 100, 101, 102, 103, 104, 105, 106, 107, 108, 109, 110, 111, 112, 113, 114, 115, 116, 117, 118, 119, 120, 121] (by decide +kernel) (by decide +kernel)
set_option maxRecDepth 20000 in
theorem gX6_ranked_X6_brighterThan : GoodIn wsX6_ranked (wsV RX6 205 RX6 yX6_brighterThan wsX6_brighterThan) := goodIn_app (goodIn_of _ (by decide +kernel)) ggX6_ranked_X6_brighterThan
theorem dX6_ranked_0 : decode cX6_ranked 0 = .ok (.iload_n 1, 1) := by decide +kernel
theorem dX6_ranked_1 : decode cX6_ranked 1 = .ok (.iconst 3, 1) := by decide +kernel
theorem dX6_ranked_2 : decode cX6_ranked 2 = .ok (.invokestatic 112, 3) := by decide +kernel
theorem dX6_ranked_5 : decode cX6_ranked 5 = .ok (.ifCond .eq 17, 3) := by decide +kernel
theorem dX6_ranked_8 : decode cX6_ranked 8 = .ok (.iload_n 2, 1) := by decide +kernel
theorem dX6_ranked_9 : decode cX6_ranked 9 = .ok (.aload_n 0, 1) := by decide +kernel
theorem dX6_ranked_10 : decode cX6_ranked 10 = .ok (.getfield 12, 3) := by decide +kernel
theorem dX6_ranked_13 : decode cX6_ranked 13 = .ok (.getfield 199, 3) := by decide +kernel
theorem dX6_ranked_16 : decode cX6_ranked 16 = .ok (.invokestatic 112, 3) := by decide +kernel
theorem dX6_ranked_19 : decode cX6_ranked 19 = .ok (.ifCond .ne 5, 3) := by decide +kernel
theorem dX6_ranked_22 : decode cX6_ranked 22 = .ok (.iconst (-1), 1) := by decide +kernel
theorem dX6_ranked_23 : decode cX6_ranked 23 = .ok (.ireturn, 1) := by decide +kernel
theorem dX6_ranked_24 : decode cX6_ranked 24 = .ok (.aload_n 0, 1) := by decide +kernel
theorem dX6_ranked_25 : decode cX6_ranked 25 = .ok (.getfield 30, 3) := by decide +kernel
theorem dX6_ranked_28 : decode cX6_ranked 28 = .ok (.invokevirtual 162, 3) := by decide +kernel
theorem dX6_ranked_31 : decode cX6_ranked 31 = .ok (.iconst 0, 1) := by decide +kernel
theorem dX6_ranked_32 : decode cX6_ranked 32 = .ok (.istore_n 3, 1) := by decide +kernel
theorem dX6_ranked_33 : decode cX6_ranked 33 = .ok (.iload_n 3, 1) := by decide +kernel
theorem dX6_ranked_34 : decode cX6_ranked 34 = .ok (.aload_n 0, 1) := by decide +kernel
theorem dX6_ranked_35 : decode cX6_ranked 35 = .ok (.getfield 12, 3) := by decide +kernel
theorem dX6_ranked_38 : decode cX6_ranked 38 = .ok (.getfield 199, 3) := by decide +kernel
theorem dX6_ranked_41 : decode cX6_ranked 41 = .ok (.if_icmp .ge 21, 3) := by decide +kernel
theorem dX6_ranked_44 : decode cX6_ranked 44 = .ok (.aload_n 0, 1) := by decide +kernel
theorem dX6_ranked_45 : decode cX6_ranked 45 = .ok (.iload_n 3, 1) := by decide +kernel
theorem dX6_ranked_46 : decode cX6_ranked 46 = .ok (.iload_n 1, 1) := by decide +kernel
theorem dX6_ranked_47 : decode cX6_ranked 47 = .ok (.invokevirtual 205, 3) := by decide +kernel
theorem dX6_ranked_50 : decode cX6_ranked 50 = .ok (.iload_n 2, 1) := by decide +kernel
theorem dX6_ranked_51 : decode cX6_ranked 51 = .ok (.if_icmp .ne 5, 3) := by decide +kernel
theorem dX6_ranked_54 : decode cX6_ranked 54 = .ok (.iload_n 3, 1) := by decide +kernel
theorem dX6_ranked_55 : decode cX6_ranked 55 = .ok (.ireturn, 1) := by decide +kernel
theorem dX6_ranked_56 : decode cX6_ranked 56 = .ok (.iinc 3 1, 3) := by decide +kernel
theorem dX6_ranked_59 : decode cX6_ranked 59 = .ok (.goto (-26), 3) := by decide +kernel
theorem dX6_ranked_62 : decode cX6_ranked 62 = .ok (.iconst (-1), 1) := by decide +kernel
theorem dX6_ranked_63 : decode cX6_ranked 63 = .ok (.ireturn, 1) := by decide +kernel
set_option maxRecDepth 20000 in
theorem ggX6_wish_X6_within : GoodIn wsX6_wish wsX6_within := goodIn_r _ [6] (by decide +kernel) (by decide +kernel)
set_option maxRecDepth 20000 in
theorem gX6_wish_X6_within : GoodIn wsX6_wish (va_wsS RX6 112 yX6_within wsX6_within) := goodIn_app (goodIn_of _ (by decide +kernel)) ggX6_wish_X6_within
theorem dX6_wish_0 : decode cX6_wish 0 = .ok (.sipush 10000, 3) := by decide +kernel
theorem dX6_wish_3 : decode cX6_wish 3 = .ok (.istore 4, 2) := by decide +kernel
theorem dX6_wish_5 : decode cX6_wish 5 = .ok (.iload_n 1, 1) := by decide +kernel
theorem dX6_wish_6 : decode cX6_wish 6 = .ok (.iload 4, 2) := by decide +kernel
theorem dX6_wish_8 : decode cX6_wish 8 = .ok (.invokestatic 112, 3) := by decide +kernel
theorem dX6_wish_11 : decode cX6_wish 11 = .ok (.ifCond .eq 21, 3) := by decide +kernel
theorem dX6_wish_14 : decode cX6_wish 14 = .ok (.iload_n 2, 1) := by decide +kernel
theorem dX6_wish_15 : decode cX6_wish 15 = .ok (.iload 4, 2) := by decide +kernel
theorem dX6_wish_17 : decode cX6_wish 17 = .ok (.invokestatic 112, 3) := by decide +kernel
theorem dX6_wish_20 : decode cX6_wish 20 = .ok (.ifCond .eq 12, 3) := by decide +kernel
theorem dX6_wish_23 : decode cX6_wish 23 = .ok (.iload_n 3, 1) := by decide +kernel
theorem dX6_wish_24 : decode cX6_wish 24 = .ok (.iload 4, 2) := by decide +kernel
theorem dX6_wish_26 : decode cX6_wish 26 = .ok (.invokestatic 112, 3) := by decide +kernel
theorem dX6_wish_29 : decode cX6_wish 29 = .ok (.ifCond .ne 6, 3) := by decide +kernel
theorem dX6_wish_32 : decode cX6_wish 32 = .ok (.bipush (-2), 2) := by decide +kernel
theorem dX6_wish_34 : decode cX6_wish 34 = .ok (.ireturn, 1) := by decide +kernel
theorem dX6_wish_35 : decode cX6_wish 35 = .ok (.aload_n 0, 1) := by decide +kernel
theorem dX6_wish_36 : decode cX6_wish 36 = .ok (.getfield 12, 3) := by decide +kernel
theorem dX6_wish_39 : decode cX6_wish 39 = .ok (.getfield 208, 3) := by decide +kernel
theorem dX6_wish_42 : decode cX6_wish 42 = .ok (.iconst 0, 1) := by decide +kernel
theorem dX6_wish_43 : decode cX6_wish 43 = .ok (.iload_n 1, 1) := by decide +kernel
theorem dX6_wish_44 : decode cX6_wish 44 = .ok (.iastore, 1) := by decide +kernel
theorem dX6_wish_45 : decode cX6_wish 45 = .ok (.aload_n 0, 1) := by decide +kernel
theorem dX6_wish_46 : decode cX6_wish 46 = .ok (.getfield 12, 3) := by decide +kernel
theorem dX6_wish_49 : decode cX6_wish 49 = .ok (.getfield 208, 3) := by decide +kernel
theorem dX6_wish_52 : decode cX6_wish 52 = .ok (.iconst 1, 1) := by decide +kernel
theorem dX6_wish_53 : decode cX6_wish 53 = .ok (.iload_n 2, 1) := by decide +kernel
theorem dX6_wish_54 : decode cX6_wish 54 = .ok (.iastore, 1) := by decide +kernel
theorem dX6_wish_55 : decode cX6_wish 55 = .ok (.aload_n 0, 1) := by decide +kernel
theorem dX6_wish_56 : decode cX6_wish 56 = .ok (.getfield 12, 3) := by decide +kernel
theorem dX6_wish_59 : decode cX6_wish 59 = .ok (.getfield 208, 3) := by decide +kernel
theorem dX6_wish_62 : decode cX6_wish 62 = .ok (.iconst 2, 1) := by decide +kernel
theorem dX6_wish_63 : decode cX6_wish 63 = .ok (.iload_n 3, 1) := by decide +kernel
theorem dX6_wish_64 : decode cX6_wish 64 = .ok (.iastore, 1) := by decide +kernel
theorem dX6_wish_65 : decode cX6_wish 65 = .ok (.iconst 1, 1) := by decide +kernel
theorem dX6_wish_66 : decode cX6_wish 66 = .ok (.ireturn, 1) := by decide +kernel
set_option maxRecDepth 20000 in
theorem ggX6_fewest_X6_within : GoodIn wsX6_fewest wsX6_within := goodIn_r _ [7] (by decide +kernel) (by decide +kernel)
set_option maxRecDepth 20000 in
theorem gX6_fewest_X6_within : GoodIn wsX6_fewest (va_wsS RX6 112 yX6_within wsX6_within) := goodIn_app (goodIn_of _ (by decide +kernel)) ggX6_fewest_X6_within
set_option maxRecDepth 20000 in
theorem ggX6_fewest_X5_seekFewest : GoodIn wsX6_fewest wsX5_seekFewest := goodIn_r _ [12, 13, 14, 15, 16, 17, 18, 19, 20, 21, 22, 23, 24, 25, 26, 27, 28, 5, 6, 7, 29, 30, 31, 32, 33, 34, 35, 36, 37, 38, 39, 40, 41, 42, 43, 44, 45, 46, 47, 48, 49, 50, 11, 51, 52, 53, 54, 55, 56, 57, 58, 59, 60, 61, 62, 63, 64, 65, 66, 67, 68, 69, 70, 71, 72, 73, 74, 75, 76, 77, 78, 79, 80, 81, 82, 83, 84, 85, 86, 87, 88, 89, 90, 91, 92, 93, 94, 95, 96, 97, 98, 99, 100, 101, 102, 103, 104, 105, 106, 107, 108, 109, 126, 127, 128, 129, 130, 131, 132, 133, 134, 135, 136, 137, 138, 139, 140, 141, 142, 143, 144, 145, 146, 147, 148] (by decide +kernel) (by decide +kernel)
set_option maxRecDepth 20000 in
theorem gX6_fewest_X5_seekFewest : GoodIn wsX6_fewest (wsV RX6 211 RX5 yX5_seekFewest wsX5_seekFewest) := goodIn_app (goodIn_of _ (by decide +kernel)) ggX6_fewest_X5_seekFewest
set_option maxRecDepth 20000 in
theorem ggX6_fewest_X5_bestSheet : GoodIn wsX6_fewest wsX5_bestSheet := goodIn_r _ [113, 101, 100, 5, 6, 7, 126, 127, 128, 129, 130, 131, 132, 133] (by decide +kernel) (by decide +kernel)
set_option maxRecDepth 20000 in
theorem gX6_fewest_X5_bestSheet : GoodIn wsX6_fewest (wsV RX6 220 RX5 yX5_bestSheet wsX5_bestSheet) := goodIn_app (goodIn_of _ (by decide +kernel)) ggX6_fewest_X5_bestSheet
theorem dX6_fewest_0 : decode cX6_fewest 0 = .ok (.iload_n 2, 1) := by decide +kernel
theorem dX6_fewest_1 : decode cX6_fewest 1 = .ok (.bipush 10, 2) := by decide +kernel
theorem dX6_fewest_3 : decode cX6_fewest 3 = .ok (.isub, 1) := by decide +kernel
theorem dX6_fewest_4 : decode cX6_fewest 4 = .ok (.iconst 4, 1) := by decide +kernel
theorem dX6_fewest_5 : decode cX6_fewest 5 = .ok (.invokestatic 112, 3) := by decide +kernel
theorem dX6_fewest_8 : decode cX6_fewest 8 = .ok (.istore_n 3, 1) := by decide +kernel
theorem dX6_fewest_9 : decode cX6_fewest 9 = .ok (.iload_n 1, 1) := by decide +kernel
theorem dX6_fewest_10 : decode cX6_fewest 10 = .ok (.iconst 3, 1) := by decide +kernel
theorem dX6_fewest_11 : decode cX6_fewest 11 = .ok (.invokestatic 112, 3) := by decide +kernel
theorem dX6_fewest_14 : decode cX6_fewest 14 = .ok (.ifCond .eq 15, 3) := by decide +kernel
theorem dX6_fewest_17 : decode cX6_fewest 17 = .ok (.iload_n 2, 1) := by decide +kernel
theorem dX6_fewest_18 : decode cX6_fewest 18 = .ok (.iconst 2, 1) := by decide +kernel
theorem dX6_fewest_19 : decode cX6_fewest 19 = .ok (.invokestatic 112, 3) := by decide +kernel
theorem dX6_fewest_22 : decode cX6_fewest 22 = .ok (.ifCond .ne 9, 3) := by decide +kernel
theorem dX6_fewest_25 : decode cX6_fewest 25 = .ok (.iload_n 3, 1) := by decide +kernel
theorem dX6_fewest_26 : decode cX6_fewest 26 = .ok (.ifCond .ne 5, 3) := by decide +kernel
theorem dX6_fewest_29 : decode cX6_fewest 29 = .ok (.iconst (-1), 1) := by decide +kernel
theorem dX6_fewest_30 : decode cX6_fewest 30 = .ok (.ireturn, 1) := by decide +kernel
theorem dX6_fewest_31 : decode cX6_fewest 31 = .ok (.aload_n 0, 1) := by decide +kernel
theorem dX6_fewest_32 : decode cX6_fewest 32 = .ok (.getfield 39, 3) := by decide +kernel
theorem dX6_fewest_35 : decode cX6_fewest 35 = .ok (.iload_n 1, 1) := by decide +kernel
theorem dX6_fewest_36 : decode cX6_fewest 36 = .ok (.invokevirtual 211, 3) := by decide +kernel
theorem dX6_fewest_39 : decode cX6_fewest 39 = .ok (.aload_n 0, 1) := by decide +kernel
theorem dX6_fewest_40 : decode cX6_fewest 40 = .ok (.getfield 39, 3) := by decide +kernel
theorem dX6_fewest_43 : decode cX6_fewest 43 = .ok (.getfield 214, 3) := by decide +kernel
theorem dX6_fewest_46 : decode cX6_fewest 46 = .ok (.ifCond .ne 6, 3) := by decide +kernel
theorem dX6_fewest_49 : decode cX6_fewest 49 = .ok (.bipush (-5), 2) := by decide +kernel
theorem dX6_fewest_51 : decode cX6_fewest 51 = .ok (.ireturn, 1) := by decide +kernel
theorem dX6_fewest_52 : decode cX6_fewest 52 = .ok (.iload_n 2, 1) := by decide +kernel
theorem dX6_fewest_53 : decode cX6_fewest 53 = .ok (.ifCond .ne 11, 3) := by decide +kernel
theorem dX6_fewest_56 : decode cX6_fewest 56 = .ok (.aload_n 0, 1) := by decide +kernel
theorem dX6_fewest_57 : decode cX6_fewest 57 = .ok (.getfield 39, 3) := by decide +kernel
theorem dX6_fewest_60 : decode cX6_fewest 60 = .ok (.getfield 217, 3) := by decide +kernel
theorem dX6_fewest_63 : decode cX6_fewest 63 = .ok (.ireturn, 1) := by decide +kernel
theorem dX6_fewest_64 : decode cX6_fewest 64 = .ok (.iload_n 2, 1) := by decide +kernel
theorem dX6_fewest_65 : decode cX6_fewest 65 = .ok (.iconst 1, 1) := by decide +kernel
theorem dX6_fewest_66 : decode cX6_fewest 66 = .ok (.if_icmp .ne 11, 3) := by decide +kernel
theorem dX6_fewest_69 : decode cX6_fewest 69 = .ok (.aload_n 0, 1) := by decide +kernel
theorem dX6_fewest_70 : decode cX6_fewest 70 = .ok (.getfield 39, 3) := by decide +kernel
theorem dX6_fewest_73 : decode cX6_fewest 73 = .ok (.getfield 214, 3) := by decide +kernel
theorem dX6_fewest_76 : decode cX6_fewest 76 = .ok (.ireturn, 1) := by decide +kernel
theorem dX6_fewest_77 : decode cX6_fewest 77 = .ok (.aload_n 0, 1) := by decide +kernel
theorem dX6_fewest_78 : decode cX6_fewest 78 = .ok (.getfield 39, 3) := by decide +kernel
theorem dX6_fewest_81 : decode cX6_fewest 81 = .ok (.iload_n 2, 1) := by decide +kernel
theorem dX6_fewest_82 : decode cX6_fewest 82 = .ok (.bipush 10, 2) := by decide +kernel
theorem dX6_fewest_84 : decode cX6_fewest 84 = .ok (.isub, 1) := by decide +kernel
theorem dX6_fewest_85 : decode cX6_fewest 85 = .ok (.invokevirtual 220, 3) := by decide +kernel
theorem dX6_fewest_88 : decode cX6_fewest 88 = .ok (.ireturn, 1) := by decide +kernel
set_option maxRecDepth 20000 in
theorem ggX6_nearest_X6_within : GoodIn wsX6_nearest wsX6_within := goodIn_r _ [7] (by decide +kernel) (by decide +kernel)
set_option maxRecDepth 20000 in
theorem gX6_nearest_X6_within : GoodIn wsX6_nearest (va_wsS RX6 112 yX6_within wsX6_within) := goodIn_app (goodIn_of _ (by decide +kernel)) ggX6_nearest_X6_within
set_option maxRecDepth 20000 in
theorem ggX6_nearest_X5_seekNearest : GoodIn wsX6_nearest wsX5_seekNearest := goodIn_r _ [12, 13, 14, 15, 16, 17, 18, 19, 20, 21, 22, 23, 24, 25, 26, 27, 28, 29, 5, 6, 7, 30, 31, 32, 33, 34, 35, 36, 37, 38, 39, 40, 41, 42, 43, 44, 45, 46, 47, 48, 49, 50, 51, 11, 52, 53, 54, 55, 56, 57, 58, 59, 60, 61, 62, 63, 64, 65, 66, 67, 68, 69, 70, 71, 72, 73, 74, 75, 76, 77, 78, 79, 80, 81, 82, 83, 84, 85, 86, 87, 88, 89, 90, 91, 92, 93, 94, 95, 96, 97, 98, 99, 100, 101, 102, 103, 104, 105, 106, 107, 108, 109, 110, 111, 112, 113, 114, 115, 116, 117, 118, 119, 136, 137, 138, 139, 140, 141, 142, 143, 144, 145, 146, 147, 148, 149, 150, 151, 152, 153, 154, 155, 156, 157, 158] (by decide +kernel) (by decide +kernel)
set_option maxRecDepth 20000 in
theorem gX6_nearest_X5_seekNearest : GoodIn wsX6_nearest (wsV RX6 223 RX5 yX5_seekNearest wsX5_seekNearest) := goodIn_app (goodIn_of _ (by decide +kernel)) ggX6_nearest_X5_seekNearest
set_option maxRecDepth 20000 in
theorem ggX6_nearest_X5_bestSheet : GoodIn wsX6_nearest wsX5_bestSheet := goodIn_r _ [123, 112, 111, 5, 6, 7, 136, 137, 138, 139, 140, 141, 142, 143] (by decide +kernel) (by decide +kernel)
set_option maxRecDepth 20000 in
theorem gX6_nearest_X5_bestSheet : GoodIn wsX6_nearest (wsV RX6 220 RX5 yX5_bestSheet wsX5_bestSheet) := goodIn_app (goodIn_of _ (by decide +kernel)) ggX6_nearest_X5_bestSheet
theorem dX6_nearest_0 : decode cX6_nearest 0 = .ok (.iload_n 2, 1) := by decide +kernel
theorem dX6_nearest_1 : decode cX6_nearest 1 = .ok (.bipush 10, 2) := by decide +kernel
theorem dX6_nearest_3 : decode cX6_nearest 3 = .ok (.isub, 1) := by decide +kernel
theorem dX6_nearest_4 : decode cX6_nearest 4 = .ok (.iconst 3, 1) := by decide +kernel
theorem dX6_nearest_5 : decode cX6_nearest 5 = .ok (.invokestatic 112, 3) := by decide +kernel
theorem dX6_nearest_8 : decode cX6_nearest 8 = .ok (.istore_n 3, 1) := by decide +kernel
theorem dX6_nearest_9 : decode cX6_nearest 9 = .ok (.iload_n 1, 1) := by decide +kernel
theorem dX6_nearest_10 : decode cX6_nearest 10 = .ok (.iconst 3, 1) := by decide +kernel
theorem dX6_nearest_11 : decode cX6_nearest 11 = .ok (.invokestatic 112, 3) := by decide +kernel
theorem dX6_nearest_14 : decode cX6_nearest 14 = .ok (.ifCond .eq 15, 3) := by decide +kernel
theorem dX6_nearest_17 : decode cX6_nearest 17 = .ok (.iload_n 2, 1) := by decide +kernel
theorem dX6_nearest_18 : decode cX6_nearest 18 = .ok (.iconst 2, 1) := by decide +kernel
theorem dX6_nearest_19 : decode cX6_nearest 19 = .ok (.invokestatic 112, 3) := by decide +kernel
theorem dX6_nearest_22 : decode cX6_nearest 22 = .ok (.ifCond .ne 9, 3) := by decide +kernel
theorem dX6_nearest_25 : decode cX6_nearest 25 = .ok (.iload_n 3, 1) := by decide +kernel
theorem dX6_nearest_26 : decode cX6_nearest 26 = .ok (.ifCond .ne 5, 3) := by decide +kernel
theorem dX6_nearest_29 : decode cX6_nearest 29 = .ok (.iconst (-1), 1) := by decide +kernel
theorem dX6_nearest_30 : decode cX6_nearest 30 = .ok (.ireturn, 1) := by decide +kernel
theorem dX6_nearest_31 : decode cX6_nearest 31 = .ok (.aload_n 0, 1) := by decide +kernel
theorem dX6_nearest_32 : decode cX6_nearest 32 = .ok (.getfield 39, 3) := by decide +kernel
theorem dX6_nearest_35 : decode cX6_nearest 35 = .ok (.iload_n 1, 1) := by decide +kernel
theorem dX6_nearest_36 : decode cX6_nearest 36 = .ok (.invokevirtual 223, 3) := by decide +kernel
theorem dX6_nearest_39 : decode cX6_nearest 39 = .ok (.iload_n 2, 1) := by decide +kernel
theorem dX6_nearest_40 : decode cX6_nearest 40 = .ok (.ifCond .ne 11, 3) := by decide +kernel
theorem dX6_nearest_43 : decode cX6_nearest 43 = .ok (.aload_n 0, 1) := by decide +kernel
theorem dX6_nearest_44 : decode cX6_nearest 44 = .ok (.getfield 39, 3) := by decide +kernel
theorem dX6_nearest_47 : decode cX6_nearest 47 = .ok (.getfield 217, 3) := by decide +kernel
theorem dX6_nearest_50 : decode cX6_nearest 50 = .ok (.ireturn, 1) := by decide +kernel
theorem dX6_nearest_51 : decode cX6_nearest 51 = .ok (.iload_n 2, 1) := by decide +kernel
theorem dX6_nearest_52 : decode cX6_nearest 52 = .ok (.iconst 1, 1) := by decide +kernel
theorem dX6_nearest_53 : decode cX6_nearest 53 = .ok (.if_icmp .ne 11, 3) := by decide +kernel
theorem dX6_nearest_56 : decode cX6_nearest 56 = .ok (.aload_n 0, 1) := by decide +kernel
theorem dX6_nearest_57 : decode cX6_nearest 57 = .ok (.getfield 39, 3) := by decide +kernel
theorem dX6_nearest_60 : decode cX6_nearest 60 = .ok (.getfield 226, 3) := by decide +kernel
theorem dX6_nearest_63 : decode cX6_nearest 63 = .ok (.ireturn, 1) := by decide +kernel
theorem dX6_nearest_64 : decode cX6_nearest 64 = .ok (.aload_n 0, 1) := by decide +kernel
theorem dX6_nearest_65 : decode cX6_nearest 65 = .ok (.getfield 39, 3) := by decide +kernel
theorem dX6_nearest_68 : decode cX6_nearest 68 = .ok (.iload_n 2, 1) := by decide +kernel
theorem dX6_nearest_69 : decode cX6_nearest 69 = .ok (.bipush 10, 2) := by decide +kernel
theorem dX6_nearest_71 : decode cX6_nearest 71 = .ok (.isub, 1) := by decide +kernel
theorem dX6_nearest_72 : decode cX6_nearest 72 = .ok (.invokevirtual 220, 3) := by decide +kernel
theorem dX6_nearest_75 : decode cX6_nearest 75 = .ok (.ireturn, 1) := by decide +kernel
set_option maxRecDepth 20000 in
theorem ggX6_without_X3_hasStack : GoodIn wsX6_without wsX3_hasStack := goodIn_r _ [10, 11, 12, 13, 14, 119, 120, 121, 122, 123, 124, 125, 126, 127, 128] (by decide +kernel) (by decide +kernel)
set_option maxRecDepth 20000 in
theorem gX6_without_X3_hasStack : GoodIn wsX6_without (wsV RX6 141 RX3 yX3_hasStack wsX3_hasStack) := goodIn_app (goodIn_of _ (by decide +kernel)) ggX6_without_X3_hasStack
set_option maxRecDepth 20000 in
theorem ggX6_without_X6_within : GoodIn wsX6_without wsX6_within := goodIn_r _ [14] (by decide +kernel) (by decide +kernel)
set_option maxRecDepth 20000 in
theorem gX6_without_X6_within : GoodIn wsX6_without (va_wsS RX6 112 yX6_within wsX6_within) := goodIn_app (goodIn_of _ (by decide +kernel)) ggX6_without_X6_within
set_option maxRecDepth 20000 in
theorem ggX6_without_X0_lookAtSheets : GoodIn wsX6_without wsX0_lookAtSheets := goodIn_r _ [20, 21, 22, 23, 24, 25, 26, 27, 19, 28, 29, 12, 13, 14, 30, 31, 32, 9, 33, 34, 35, 36, 37, 38, 39, 40, 41, 42, 43, 44, 45, 46, 47, 129, 130, 131, 132, 133, 119, 120, 121, 122, 123, 124, 125, 126, 127, 128] (by decide +kernel) (by decide +kernel)
set_option maxRecDepth 20000 in
theorem gX6_without_X0_lookAtSheets : GoodIn wsX6_without (wsV RX6 162 RX0 yX0_lookAtSheets wsX0_lookAtSheets) := goodIn_app (goodIn_of _ (by decide +kernel)) ggX6_without_X0_lookAtSheets
set_option maxRecDepth 20000 in
theorem ggX6_without_X0_pileStack : GoodIn wsX6_without wsX0_pileStack := goodIn_r _ [51, 52, 53, 54, 19, 55, 21, 56, 57, 58, 59, 60, 61, 62, 63, 64, 7, 8, 9, 10, 11, 12, 13, 14, 65, 66, 67, 68, 69, 70, 71, 72, 73, 74, 29, 75, 129, 130, 131, 132, 133, 119, 120, 121, 122, 123, 124, 125, 126, 127, 128] (by decide +kernel) (by decide +kernel)
set_option maxRecDepth 20000 in
theorem gX6_without_X0_pileStack : GoodIn wsX6_without (wsV RX6 165 RX0 yX0_pileStack wsX0_pileStack) := goodIn_app (goodIn_of _ (by decide +kernel)) ggX6_without_X0_pileStack
set_option maxRecDepth 20000 in
theorem ggX6_without_X0_shadesInto : GoodIn wsX6_without wsX0_shadesInto := goodIn_r _ [79, 80, 81, 82, 19, 83, 84, 85, 86, 87, 21, 88, 89, 61, 12, 13, 14, 90, 91, 92, 93, 94, 95, 96, 62, 97, 98, 99, 129, 130, 131, 132, 133, 119, 120, 121, 122, 123, 124, 125, 126, 127, 128] (by decide +kernel) (by decide +kernel)
set_option maxRecDepth 20000 in
theorem gX6_without_X0_shadesInto : GoodIn wsX6_without (wsV RX6 229 RX0 yX0_shadesInto wsX0_shadesInto) := goodIn_app (goodIn_of _ (by decide +kernel)) ggX6_without_X0_shadesInto
set_option maxRecDepth 20000 in
theorem ggX6_without_X0_pileStackWithout : GoodIn wsX6_without wsX0_pileStackWithout := goodIn_r _ [55, 21, 56, 57, 58, 59, 19, 60, 61, 62, 63, 64, 7, 8, 9, 10, 11, 12, 13, 14, 65, 66, 67, 68, 69, 70, 71, 72, 73, 74, 29, 75, 129, 130, 131, 132, 133, 119, 120, 121, 122, 123, 124, 125, 126, 127, 128] (by decide +kernel) (by decide +kernel)
set_option maxRecDepth 20000 in
theorem gX6_without_X0_pileStackWithout : GoodIn wsX6_without (wsV RX6 233 RX0 yX0_pileStackWithout wsX0_pileStackWithout) := goodIn_app (goodIn_of _ (by decide +kernel)) ggX6_without_X0_pileStackWithout
set_option maxRecDepth 20000 in
theorem ggX6_without_X6_differing : GoodIn wsX6_without wsX6_differing := goodIn_r _ [103, 104, 105, 46, 106] (by decide +kernel) (by decide +kernel)
set_option maxRecDepth 20000 in
theorem gX6_without_X6_differing : GoodIn wsX6_without (va_wsS RX6 237 yX6_differing wsX6_differing) := goodIn_app (goodIn_of _ (by decide +kernel)) ggX6_without_X6_differing
theorem dX6_without_0 : decode cX6_without 0 = .ok (.aload_n 0, 1) := by decide +kernel
theorem dX6_without_1 : decode cX6_without 1 = .ok (.getfield 12, 3) := by decide +kernel
theorem dX6_without_4 : decode cX6_without 4 = .ok (.iload_n 1, 1) := by decide +kernel
theorem dX6_without_5 : decode cX6_without 5 = .ok (.invokevirtual 141, 3) := by decide +kernel
theorem dX6_without_8 : decode cX6_without 8 = .ok (.ifCond .eq 19, 3) := by decide +kernel
theorem dX6_without_11 : decode cX6_without 11 = .ok (.iload_n 2, 1) := by decide +kernel
theorem dX6_without_12 : decode cX6_without 12 = .ok (.iconst 3, 1) := by decide +kernel
theorem dX6_without_13 : decode cX6_without 13 = .ok (.invokestatic 112, 3) := by decide +kernel
theorem dX6_without_16 : decode cX6_without 16 = .ok (.ifCond .eq 11, 3) := by decide +kernel
theorem dX6_without_19 : decode cX6_without 19 = .ok (.iload_n 3, 1) := by decide +kernel
theorem dX6_without_20 : decode cX6_without 20 = .ok (.iconst 2, 1) := by decide +kernel
theorem dX6_without_21 : decode cX6_without 21 = .ok (.invokestatic 112, 3) := by decide +kernel
theorem dX6_without_24 : decode cX6_without 24 = .ok (.ifCond .ne 5, 3) := by decide +kernel
theorem dX6_without_27 : decode cX6_without 27 = .ok (.iconst (-1), 1) := by decide +kernel
theorem dX6_without_28 : decode cX6_without 28 = .ok (.ireturn, 1) := by decide +kernel
theorem dX6_without_29 : decode cX6_without 29 = .ok (.aload_n 0, 1) := by decide +kernel
theorem dX6_without_30 : decode cX6_without 30 = .ok (.getfield 12, 3) := by decide +kernel
theorem dX6_without_33 : decode cX6_without 33 = .ok (.getfield 147, 3) := by decide +kernel
theorem dX6_without_36 : decode cX6_without 36 = .ok (.iload_n 1, 1) := by decide +kernel
theorem dX6_without_37 : decode cX6_without 37 = .ok (.iaload, 1) := by decide +kernel
theorem dX6_without_38 : decode cX6_without 38 = .ok (.ifCond .ne 6, 3) := by decide +kernel
theorem dX6_without_41 : decode cX6_without 41 = .ok (.bipush (-3), 2) := by decide +kernel
theorem dX6_without_43 : decode cX6_without 43 = .ok (.ireturn, 1) := by decide +kernel
theorem dX6_without_44 : decode cX6_without 44 = .ok (.aload_n 0, 1) := by decide +kernel
theorem dX6_without_45 : decode cX6_without 45 = .ok (.getfield 30, 3) := by decide +kernel
theorem dX6_without_48 : decode cX6_without 48 = .ok (.invokevirtual 162, 3) := by decide +kernel
theorem dX6_without_51 : decode cX6_without 51 = .ok (.aload_n 0, 1) := by decide +kernel
theorem dX6_without_52 : decode cX6_without 52 = .ok (.getfield 30, 3) := by decide +kernel
theorem dX6_without_55 : decode cX6_without 55 = .ok (.iload_n 1, 1) := by decide +kernel
theorem dX6_without_56 : decode cX6_without 56 = .ok (.invokevirtual 165, 3) := by decide +kernel
theorem dX6_without_59 : decode cX6_without 59 = .ok (.aload_n 0, 1) := by decide +kernel
theorem dX6_without_60 : decode cX6_without 60 = .ok (.getfield 30, 3) := by decide +kernel
theorem dX6_without_63 : decode cX6_without 63 = .ok (.aload_n 0, 1) := by decide +kernel
theorem dX6_without_64 : decode cX6_without 64 = .ok (.getfield 64, 3) := by decide +kernel
theorem dX6_without_67 : decode cX6_without 67 = .ok (.iload_n 2, 1) := by decide +kernel
theorem dX6_without_68 : decode cX6_without 68 = .ok (.iconst 0, 1) := by decide +kernel
theorem dX6_without_69 : decode cX6_without 69 = .ok (.invokevirtual 229, 3) := by decide +kernel
theorem dX6_without_72 : decode cX6_without 72 = .ok (.iconst (-1), 1) := by decide +kernel
theorem dX6_without_73 : decode cX6_without 73 = .ok (.istore 4, 2) := by decide +kernel
theorem dX6_without_75 : decode cX6_without 75 = .ok (.iconst 0, 1) := by decide +kernel
theorem dX6_without_76 : decode cX6_without 76 = .ok (.istore 5, 2) := by decide +kernel
theorem dX6_without_78 : decode cX6_without 78 = .ok (.iconst 0, 1) := by decide +kernel
theorem dX6_without_79 : decode cX6_without 79 = .ok (.istore 6, 2) := by decide +kernel
theorem dX6_without_81 : decode cX6_without 81 = .ok (.iload 6, 2) := by decide +kernel
theorem dX6_without_83 : decode cX6_without 83 = .ok (.aload_n 0, 1) := by decide +kernel
theorem dX6_without_84 : decode cX6_without 84 = .ok (.getfield 12, 3) := by decide +kernel
theorem dX6_without_87 : decode cX6_without 87 = .ok (.getfield 147, 3) := by decide +kernel
theorem dX6_without_90 : decode cX6_without 90 = .ok (.iload_n 1, 1) := by decide +kernel
theorem dX6_without_91 : decode cX6_without 91 = .ok (.iaload, 1) := by decide +kernel
theorem dX6_without_92 : decode cX6_without 92 = .ok (.if_icmp .ge 60, 3) := by decide +kernel
theorem dX6_without_95 : decode cX6_without 95 = .ok (.aload_n 0, 1) := by decide +kernel
theorem dX6_without_96 : decode cX6_without 96 = .ok (.getfield 30, 3) := by decide +kernel
theorem dX6_without_99 : decode cX6_without 99 = .ok (.iload_n 1, 1) := by decide +kernel
theorem dX6_without_100 : decode cX6_without 100 = .ok (.iload 6, 2) := by decide +kernel
theorem dX6_without_102 : decode cX6_without 102 = .ok (.invokevirtual 233, 3) := by decide +kernel
theorem dX6_without_105 : decode cX6_without 105 = .ok (.aload_n 0, 1) := by decide +kernel
theorem dX6_without_106 : decode cX6_without 106 = .ok (.getfield 30, 3) := by decide +kernel
theorem dX6_without_109 : decode cX6_without 109 = .ok (.aload_n 0, 1) := by decide +kernel
theorem dX6_without_110 : decode cX6_without 110 = .ok (.getfield 68, 3) := by decide +kernel
theorem dX6_without_113 : decode cX6_without 113 = .ok (.iload_n 2, 1) := by decide +kernel
theorem dX6_without_114 : decode cX6_without 114 = .ok (.iconst 0, 1) := by decide +kernel
theorem dX6_without_115 : decode cX6_without 115 = .ok (.invokevirtual 229, 3) := by decide +kernel
theorem dX6_without_118 : decode cX6_without 118 = .ok (.aload_n 0, 1) := by decide +kernel
theorem dX6_without_119 : decode cX6_without 119 = .ok (.getfield 64, 3) := by decide +kernel
theorem dX6_without_122 : decode cX6_without 122 = .ok (.aload_n 0, 1) := by decide +kernel
theorem dX6_without_123 : decode cX6_without 123 = .ok (.getfield 68, 3) := by decide +kernel
theorem dX6_without_126 : decode cX6_without 126 = .ok (.invokestatic 237, 3) := by decide +kernel
theorem dX6_without_129 : decode cX6_without 129 = .ok (.istore 7, 2) := by decide +kernel
theorem dX6_without_131 : decode cX6_without 131 = .ok (.iload 7, 2) := by decide +kernel
theorem dX6_without_133 : decode cX6_without 133 = .ok (.iload 4, 2) := by decide +kernel
theorem dX6_without_135 : decode cX6_without 135 = .ok (.if_icmp .le 11, 3) := by decide +kernel
theorem dX6_without_138 : decode cX6_without 138 = .ok (.iload 7, 2) := by decide +kernel
theorem dX6_without_140 : decode cX6_without 140 = .ok (.istore 4, 2) := by decide +kernel
theorem dX6_without_142 : decode cX6_without 142 = .ok (.iload 6, 2) := by decide +kernel
theorem dX6_without_144 : decode cX6_without 144 = .ok (.istore 5, 2) := by decide +kernel
theorem dX6_without_146 : decode cX6_without 146 = .ok (.iinc 6 1, 3) := by decide +kernel
theorem dX6_without_149 : decode cX6_without 149 = .ok (.goto (-68), 3) := by decide +kernel
theorem dX6_without_152 : decode cX6_without 152 = .ok (.iload_n 3, 1) := by decide +kernel
theorem dX6_without_153 : decode cX6_without 153 = .ok (.ifCond .ne 8, 3) := by decide +kernel
theorem dX6_without_156 : decode cX6_without 156 = .ok (.iload 5, 2) := by decide +kernel
theorem dX6_without_158 : decode cX6_without 158 = .ok (.goto 5, 3) := by decide +kernel
theorem dX6_without_161 : decode cX6_without 161 = .ok (.iload 4, 2) := by decide +kernel
theorem dX6_without_163 : decode cX6_without 163 = .ok (.ireturn, 1) := by decide +kernel
set_option maxRecDepth 20000 in
theorem ggX6_dark_X3_hasStack : GoodIn wsX6_dark wsX3_hasStack := goodIn_r _ [8, 9, 10, 11, 12, 112, 113, 114, 115, 116, 117, 118, 119, 120, 121] (by decide +kernel) (by decide +kernel)
set_option maxRecDepth 20000 in
theorem gX6_dark_X3_hasStack : GoodIn wsX6_dark (wsV RX6 141 RX3 yX3_hasStack wsX3_hasStack) := goodIn_app (goodIn_of _ (by decide +kernel)) ggX6_dark_X3_hasStack
set_option maxRecDepth 20000 in
theorem ggX6_dark_X6_within : GoodIn wsX6_dark wsX6_within := goodIn_r _ [12] (by decide +kernel) (by decide +kernel)
set_option maxRecDepth 20000 in
theorem gX6_dark_X6_within : GoodIn wsX6_dark (va_wsS RX6 112 yX6_within wsX6_within) := goodIn_app (goodIn_of _ (by decide +kernel)) ggX6_dark_X6_within
set_option maxRecDepth 20000 in
theorem ggX6_dark_X3_hasSheet : GoodIn wsX6_dark wsX3_hasSheet := goodIn_r _ [17, 18, 10, 11, 12, 112, 113, 114, 115, 116, 117, 118, 119, 120, 121] (by decide +kernel) (by decide +kernel)
set_option maxRecDepth 20000 in
theorem gX6_dark_X3_hasSheet : GoodIn wsX6_dark (wsV RX6 109 RX3 yX3_hasSheet wsX3_hasSheet) := goodIn_app (goodIn_of _ (by decide +kernel)) ggX6_dark_X3_hasSheet
set_option maxRecDepth 20000 in
theorem ggX6_dark_X0_lookAtSheets : GoodIn wsX6_dark wsX0_lookAtSheets := goodIn_r _ [23, 24, 25, 26, 27, 28, 29, 30, 22, 31, 32, 10, 11, 12, 33, 34, 35, 7, 36, 37, 38, 15, 16, 17, 18, 39, 40, 41, 42, 43, 44, 45, 46, 122, 123, 124, 125, 126, 112, 113, 114, 115, 116, 117, 118, 119, 120, 121] (by decide +kernel) (by decide +kernel)
set_option maxRecDepth 20000 in
theorem gX6_dark_X0_lookAtSheets : GoodIn wsX6_dark (wsV RX6 162 RX0 yX0_lookAtSheets wsX0_lookAtSheets) := goodIn_app (goodIn_of _ (by decide +kernel)) ggX6_dark_X0_lookAtSheets
set_option maxRecDepth 20000 in
theorem ggX6_dark_X0_pileStack : GoodIn wsX6_dark wsX0_pileStack := goodIn_r _ [50, 51, 52, 53, 22, 54, 24, 55, 56, 57, 58, 59, 60, 61, 62, 63, 5, 6, 7, 8, 9, 10, 11, 12, 64, 65, 66, 67, 68, 69, 70, 71, 72, 73, 32, 74, 122, 123, 124, 125, 126, 112, 113, 114, 115, 116, 117, 118, 119, 120, 121] (by decide +kernel) (by decide +kernel)
set_option maxRecDepth 20000 in
theorem gX6_dark_X0_pileStack : GoodIn wsX6_dark (wsV RX6 165 RX0 yX0_pileStack wsX0_pileStack) := goodIn_app (goodIn_of _ (by decide +kernel)) ggX6_dark_X0_pileStack
set_option maxRecDepth 20000 in
theorem ggX6_dark_X0_isDark : GoodIn wsX6_dark wsX0_isDark := goodIn_r _ [78, 79, 80, 81, 22, 82, 83, 84, 85, 86, 24, 87, 88, 60, 10, 11, 12, 89, 90, 91, 92, 93, 94, 95, 61, 96, 97, 98, 122, 123, 124, 125, 126, 112, 113, 114, 115, 116, 117, 118, 119, 120, 121] (by decide +kernel) (by decide +kernel)
set_option maxRecDepth 20000 in
theorem gX6_dark_X0_isDark : GoodIn wsX6_dark (wsV RX6 241 RX0 yX0_isDark wsX0_isDark) := goodIn_app (goodIn_of _ (by decide +kernel)) ggX6_dark_X0_isDark
set_option maxRecDepth 20000 in
theorem ggX6_dark_X0_add : GoodIn wsX6_dark wsX0_add := goodIn_r _ [73, 62, 60, 32, 61, 74, 10, 11, 12, 122, 123, 124, 125, 126] (by decide +kernel) (by decide +kernel)
set_option maxRecDepth 20000 in
theorem gX6_dark_X0_add : GoodIn wsX6_dark (wsV RX6 244 RX0 yX0_add wsX0_add) := goodIn_app (goodIn_of _ (by decide +kernel)) ggX6_dark_X0_add
theorem dX6_dark_0 : decode cX6_dark 0 = .ok (.aload_n 0, 1) := by decide +kernel
theorem dX6_dark_1 : decode cX6_dark 1 = .ok (.getfield 12, 3) := by decide +kernel
theorem dX6_dark_4 : decode cX6_dark 4 = .ok (.iload_n 1, 1) := by decide +kernel
theorem dX6_dark_5 : decode cX6_dark 5 = .ok (.invokevirtual 141, 3) := by decide +kernel
theorem dX6_dark_8 : decode cX6_dark 8 = .ok (.ifCond .eq 22, 3) := by decide +kernel
theorem dX6_dark_11 : decode cX6_dark 11 = .ok (.iload_n 2, 1) := by decide +kernel
theorem dX6_dark_12 : decode cX6_dark 12 = .ok (.iconst 3, 1) := by decide +kernel
theorem dX6_dark_13 : decode cX6_dark 13 = .ok (.invokestatic 112, 3) := by decide +kernel
theorem dX6_dark_16 : decode cX6_dark 16 = .ok (.ifCond .eq 14, 3) := by decide +kernel
theorem dX6_dark_19 : decode cX6_dark 19 = .ok (.aload_n 0, 1) := by decide +kernel
theorem dX6_dark_20 : decode cX6_dark 20 = .ok (.getfield 12, 3) := by decide +kernel
theorem dX6_dark_23 : decode cX6_dark 23 = .ok (.iload_n 3, 1) := by decide +kernel
theorem dX6_dark_24 : decode cX6_dark 24 = .ok (.invokevirtual 109, 3) := by decide +kernel
theorem dX6_dark_27 : decode cX6_dark 27 = .ok (.ifCond .ne 5, 3) := by decide +kernel
theorem dX6_dark_30 : decode cX6_dark 30 = .ok (.iconst (-1), 1) := by decide +kernel
theorem dX6_dark_31 : decode cX6_dark 31 = .ok (.ireturn, 1) := by decide +kernel
theorem dX6_dark_32 : decode cX6_dark 32 = .ok (.aload_n 0, 1) := by decide +kernel
theorem dX6_dark_33 : decode cX6_dark 33 = .ok (.getfield 30, 3) := by decide +kernel
theorem dX6_dark_36 : decode cX6_dark 36 = .ok (.invokevirtual 162, 3) := by decide +kernel
theorem dX6_dark_39 : decode cX6_dark 39 = .ok (.aload_n 0, 1) := by decide +kernel
theorem dX6_dark_40 : decode cX6_dark 40 = .ok (.getfield 30, 3) := by decide +kernel
theorem dX6_dark_43 : decode cX6_dark 43 = .ok (.iload_n 1, 1) := by decide +kernel
theorem dX6_dark_44 : decode cX6_dark 44 = .ok (.invokevirtual 165, 3) := by decide +kernel
theorem dX6_dark_47 : decode cX6_dark 47 = .ok (.bipush 8, 2) := by decide +kernel
theorem dX6_dark_49 : decode cX6_dark 49 = .ok (.aload_n 0, 1) := by decide +kernel
theorem dX6_dark_50 : decode cX6_dark 50 = .ok (.getfield 12, 3) := by decide +kernel
theorem dX6_dark_53 : decode cX6_dark 53 = .ok (.getfield 147, 3) := by decide +kernel
theorem dX6_dark_56 : decode cX6_dark 56 = .ok (.iload_n 1, 1) := by decide +kernel
theorem dX6_dark_57 : decode cX6_dark 57 = .ok (.iaload, 1) := by decide +kernel
theorem dX6_dark_58 : decode cX6_dark 58 = .ok (.isub, 1) := by decide +kernel
theorem dX6_dark_59 : decode cX6_dark 59 = .ok (.istore 4, 2) := by decide +kernel
theorem dX6_dark_61 : decode cX6_dark 61 = .ok (.iconst 0, 1) := by decide +kernel
theorem dX6_dark_62 : decode cX6_dark 62 = .ok (.istore 5, 2) := by decide +kernel
theorem dX6_dark_64 : decode cX6_dark 64 = .ok (.iload 5, 2) := by decide +kernel
theorem dX6_dark_66 : decode cX6_dark 66 = .ok (.iload 4, 2) := by decide +kernel
theorem dX6_dark_68 : decode cX6_dark 68 = .ok (.if_icmp .gt 31, 3) := by decide +kernel
theorem dX6_dark_71 : decode cX6_dark 71 = .ok (.aload_n 0, 1) := by decide +kernel
theorem dX6_dark_72 : decode cX6_dark 72 = .ok (.getfield 30, 3) := by decide +kernel
theorem dX6_dark_75 : decode cX6_dark 75 = .ok (.iload_n 2, 1) := by decide +kernel
theorem dX6_dark_76 : decode cX6_dark 76 = .ok (.invokevirtual 241, 3) := by decide +kernel
theorem dX6_dark_79 : decode cX6_dark 79 = .ok (.ifCond .eq 6, 3) := by decide +kernel
theorem dX6_dark_82 : decode cX6_dark 82 = .ok (.iload 5, 2) := by decide +kernel
theorem dX6_dark_84 : decode cX6_dark 84 = .ok (.ireturn, 1) := by decide +kernel
theorem dX6_dark_85 : decode cX6_dark 85 = .ok (.aload_n 0, 1) := by decide +kernel
theorem dX6_dark_86 : decode cX6_dark 86 = .ok (.getfield 30, 3) := by decide +kernel
theorem dX6_dark_89 : decode cX6_dark 89 = .ok (.iload_n 3, 1) := by decide +kernel
theorem dX6_dark_90 : decode cX6_dark 90 = .ok (.invokevirtual 244, 3) := by decide +kernel
theorem dX6_dark_93 : decode cX6_dark 93 = .ok (.iinc 5 1, 3) := by decide +kernel
theorem dX6_dark_96 : decode cX6_dark 96 = .ok (.goto (-32), 3) := by decide +kernel
theorem dX6_dark_99 : decode cX6_dark 99 = .ok (.bipush (-5), 2) := by decide +kernel
theorem dX6_dark_101 : decode cX6_dark 101 = .ok (.ireturn, 1) := by decide +kernel
set_option maxRecDepth 20000 in
theorem ggX6_fades_X3_hasStack : GoodIn wsX6_fades wsX3_hasStack := goodIn_r _ [9, 10, 11, 12, 13, 117, 118, 119, 120, 121, 122, 123, 124, 125, 126] (by decide +kernel) (by decide +kernel)
set_option maxRecDepth 20000 in
theorem gX6_fades_X3_hasStack : GoodIn wsX6_fades (wsV RX6 141 RX3 yX3_hasStack wsX3_hasStack) := goodIn_app (goodIn_of _ (by decide +kernel)) ggX6_fades_X3_hasStack
set_option maxRecDepth 20000 in
theorem ggX6_fades_X6_within : GoodIn wsX6_fades wsX6_within := goodIn_r _ [13] (by decide +kernel) (by decide +kernel)
set_option maxRecDepth 20000 in
theorem gX6_fades_X6_within : GoodIn wsX6_fades (va_wsS RX6 112 yX6_within wsX6_within) := goodIn_app (goodIn_of _ (by decide +kernel)) ggX6_fades_X6_within
set_option maxRecDepth 20000 in
theorem ggX6_fades_X0_lookAtSheets : GoodIn wsX6_fades wsX0_lookAtSheets := goodIn_r _ [19, 20, 21, 22, 23, 24, 25, 26, 18, 27, 28, 11, 12, 13, 29, 30, 31, 8, 32, 33, 34, 35, 36, 37, 38, 39, 40, 41, 42, 43, 44, 45, 46, 127, 128, 129, 130, 131, 117, 118, 119, 120, 121, 122, 123, 124, 125, 126] (by decide +kernel) (by decide +kernel)
set_option maxRecDepth 20000 in
theorem gX6_fades_X0_lookAtSheets : GoodIn wsX6_fades (wsV RX6 162 RX0 yX0_lookAtSheets wsX0_lookAtSheets) := goodIn_app (goodIn_of _ (by decide +kernel)) ggX6_fades_X0_lookAtSheets
set_option maxRecDepth 20000 in
theorem ggX6_fades_X0_pileStack : GoodIn wsX6_fades wsX0_pileStack := goodIn_r _ [50, 51, 52, 53, 18, 54, 20, 55, 56, 57, 58, 59, 60, 61, 62, 63, 6, 7, 8, 9, 10, 11, 12, 13, 64, 65, 66, 67, 68, 69, 70, 71, 72, 73, 28, 74, 127, 128, 129, 130, 131, 117, 118, 119, 120, 121, 122, 123, 124, 125, 126] (by decide +kernel) (by decide +kernel)
set_option maxRecDepth 20000 in
theorem gX6_fades_X0_pileStack : GoodIn wsX6_fades (wsV RX6 165 RX0 yX0_pileStack wsX0_pileStack) := goodIn_app (goodIn_of _ (by decide +kernel)) ggX6_fades_X0_pileStack
set_option maxRecDepth 20000 in
theorem ggX6_fades_X0_shadesInto : GoodIn wsX6_fades wsX0_shadesInto := goodIn_r _ [78, 79, 80, 81, 18, 82, 83, 84, 85, 86, 20, 87, 88, 60, 11, 12, 13, 89, 90, 91, 92, 93, 94, 95, 61, 96, 97, 98, 127, 128, 129, 130, 131, 117, 118, 119, 120, 121, 122, 123, 124, 125, 126] (by decide +kernel) (by decide +kernel)
set_option maxRecDepth 20000 in
theorem gX6_fades_X0_shadesInto : GoodIn wsX6_fades (wsV RX6 229 RX0 yX0_shadesInto wsX0_shadesInto) := goodIn_app (goodIn_of _ (by decide +kernel)) ggX6_fades_X0_shadesInto
set_option maxRecDepth 20000 in
theorem ggX6_fades_X6_differing : GoodIn wsX6_fades wsX6_differing := goodIn_r _ [101, 102, 103, 45, 104] (by decide +kernel) (by decide +kernel)
set_option maxRecDepth 20000 in
theorem gX6_fades_X6_differing : GoodIn wsX6_fades (va_wsS RX6 237 yX6_differing wsX6_differing) := goodIn_app (goodIn_of _ (by decide +kernel)) ggX6_fades_X6_differing
